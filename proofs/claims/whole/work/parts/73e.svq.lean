/-! solve: the reference's loop; both -/
section SQ
variable {o a nl nd : Nat} {th : Int32} {fi no ch0 : Nat → Nat} {bl : Nat → Nat → Nat} {A : Nat → Nat → Int32} {B : Nat → Nat → Int64} {hm : (Nat → Nat) → Int64}
set_option maxHeartbeats 2000000 in
theorem m_solveL {K : Option Nat → Int64 → mx_Mem → Option (Int64 × mx_Mem)} (V : sg_V nl nd fi no ch0 bl A B) (hB : sg_B nl B) (hD : sg_D nd no A B) (hH : ∀ ch, sg_C nd no ch → ∀ dp lf ar, sp_S nl nd fi no ch bl (sv_A A ch) B dp lf ar → sv_hm no ch (A 11) (B 10) (B 16) ar nd 1 0 = hm ch) :
    ∀ (d n : Nat) (v1 p1 : Int64) (v3 p3 : Int32) (b ch : Nat → Nat) (sm : Bool) (A1 : Nat → Nat → Int32) (B1 : Nat → Nat → Int64) (mem : mx_Mem), 4096 ≤ sv_wt nd ch + d → d < n → sg_C nd no ch → mo_R a th (nI nl) (nI nd) A1 B1 mem → so_eq nd A B A1 B1 → (∀ l, 1 ≤ l → l ≤ nd → A1 13 l = nI (ch l)) → (sm = false → p1 = 9223372036854775807) → (sm = true → v1 = p1 ∧ v3 = p3 ∧ ∀ l, 1 ≤ l → l ≤ nd → A1 19 l = nI (b l)) →
    ∃ A2 B2 mem', fl_Mo_solve_38 K n (some a) v1 v3 (sp_b sm) 1 mem = K (some a) (sv_se hm (sv_ac no A nd) no nd d p1 p3 b ch).1 mem' ∧ mo_R a th (nI nl) (nI nd) A2 B2 mem' ∧ mo_F a mem mem' ∧ so_eq nd A B A2 B2 ∧ ∀ l, 1 ≤ l → l ≤ nd → A2 19 l = nI ((sv_se hm (sv_ac no A nd) no nd d p1 p3 b ch).2 l) := by
  have hd := V.2.1
  intro d
  induction d with
  | zero =>
    intro n v1 p1 v3 p3 b ch sm A1 B1 mem hd1 hdn hC
    have := sv_wt_6 hd (sg_C4 V hC)
    omega
  | succ d ih =>
    intro n v1 p1 v3 p3 b ch sm A1 B1 mem hd1 hdn hC h so h13 hs0 hs1
    obtain ⟨n, rfl⟩ : ∃ n', n = n' + 1 := ⟨n - 1, by omega⟩
    have hC4 := sg_C4 V hC
    -- behind a step
    have tail : ∀ (v1' : Int64) (v3' : Int32) (b' : Nat → Nat) (A2 : Nat → Nat → Int32) (B2 : Nat → Nat → Int64) (mem2 : mx_Mem), mo_R a th (nI nl) (nI nd) A2 B2 mem2 → so_eq nd A B A2 B2 → (∀ l, 1 ≤ l → l ≤ nd → A2 13 l = nI (ch l)) → (∀ l, 1 ≤ l → l ≤ nd → A2 19 l = nI (b' l)) →
        ∀ r : Int64 × (Nat → Nat), r = (if (sv_nx no nd ch).1 = true then sv_se hm (sv_ac no A nd) no nd d v1' v3' b' (sv_nx no nd ch).2 else (v1', b')) →
        ∃ A3 B3 mem', (Option.bind (mx_c mem2 (some a) 4) fun a22 => Option.bind (f_Mo_next a22 mem2) fun q19 => fl_Mo_solve_38 K n (some a) v1' v3' 1 q19.1 q19.2) = K (some a) r.1 mem' ∧ mo_R a th (nI nl) (nI nd) A3 B3 mem' ∧ mo_F a mem2 mem' ∧ so_eq nd A B A3 B3 ∧ ∀ l, 1 ≤ l → l ≤ nd → A3 19 l = nI (r.2 l) := by
      intro v1' v3' b' A2 B2 mem2 R2 so2 g13 g19 r hr
      obtain ⟨A3, mem3, e3, R3, F3, q3, q3', q13⟩ := m_nextL (no := no) hd nd 5000 ch A2 mem2 (by omega) (Nat.le_refl _) R2 (fun i i1 i2 => by
        obtain ⟨e8, f1, f2, e12, n4, e13, c4, cn⟩ := V.2.2.1 i i1 i2
        exact ⟨g13 i i1 i2, hC4 i i1 i2, by rw [so2.1 12 (by decide) (by decide) (by decide)]; exact e12, n4⟩)
      have so3 : so_eq nd A B A3 B2 := ⟨fun k k1 k2 k3 => by rw [q3 k k1]; exact so2.1 k k1 k2 k3, so2.2.1, fun l hl => by rw [q3' l hl]; exact so2.2.2 l hl⟩
      have g19' : ∀ l, 1 ≤ l → l ≤ nd → A3 19 l = nI (b' l) := fun l l1 l2 => by rw [q3 19 (by decide)]; exact g19 l l1 l2
      rw [mo_c R2, bx_some]
      unfold f_Mo_next
      rw [mo_i9 R2, bx_some, e3, bx_some]
      cases hb : (sv_nx no nd ch).1 with
      | true =>
        rw [hb, if_pos rfl] at hr
        subst hr
        have hw := sv_nx_wt nd ch hC4 hb
        obtain ⟨A4, B4, m4, e4, R4, F4, so4, q4⟩ := ih n v1' v1' v3' v3' b' (sv_nx no nd ch).2 true A3 B2 mem3 (by omega) (by omega) (sv_nx_C nd ch (Nat.le_refl _) hC) R3 so3 q13 (fun q => by cases q) (fun _ => ⟨rfl, rfl, g19'⟩)
        exact ⟨A4, B4, m4, e4, R4, F3.tr F4, so4, q4⟩
      | false =>
        rw [hb, if_neg (by intro z; cases z)] at hr
        subst hr
        obtain ⟨n, rfl⟩ : ∃ n', n = n' + 1 := ⟨n - 1, by omega⟩
        refine ⟨A3, B2, mem3, ?_, R3, F3, so3, g19'⟩
        rw [fl_Mo_solve_38]
        dsimp only
        rw [if_pos (by rfl)]
    have V1 := so_V V so hC h13
    have hB1 := so_B hB so
    obtain ⟨m1, dp1, lf, ar, e1, R1, F1, S1⟩ := m_reckon V1 (sg_pos hB1) h
    have S1' := so_S so S1
    have hh := hH ch hC dp1 lf ar S1'
    have hlt := sv_hlt V hB hD hC S1'
    rw [hh] at hlt
    have so1 : so_eq nd A B (va_up A1 18 lf) (va_up (va_up B1 7 dp1) 17 ar) := ⟨fun k k1 k2 k3 => by rw [va_up_ne _ _ k2]; exact so.1 k k1 k2 k3, fun k k1 k2 => by rw [va_up_ne _ _ k2, va_up_ne _ _ k1]; exact so.2.1 k k1 k2, fun l hl => by rw [va_up_ne _ _ (show 13 ≠ 18 by decide)]; exact so.2.2 l hl⟩
    have h13' : ∀ l, 1 ≤ l → l ≤ nd → va_up A1 18 lf 13 l = nI (ch l) := fun l l1 l2 => by rw [va_up_ne _ _ (show 13 ≠ 18 by decide)]; exact h13 l l1 l2
    have V2 := so_V V so1 hC h13'
    have eh := m_harmL V2 (so_D hD so1) (fun l l1 l2 => by rw [va_up_self]; exact sp_S_bd V1 hB1 S1 l1 l2) R1 nd 5000 1 0 (by omega) (by omega) (by omega)
    rw [so1.1 11 (by decide) (by decide) (by decide), so1.2.1 10 (by decide) (by decide), so1.2.1 16 (by decide) (by decide), va_up_self, hh, show nI 1 = (1 : Int32) from rfl] at eh
    have ea := m_actsNow V2 R1
    rw [sp_cnt_c (p' := sp_pa no ch A) nd 1 0 (fun i _ _ => by unfold sp_pa; rw [so1.1 14 (by decide) (by decide) (by decide)])] at ea
    rw [show sp_cnt (sp_pa no ch A) nd 1 0 = sv_ac no A nd ch from rfl] at ea
    rw [fl_Mo_solve_38, if_neg (by decide), mo_c h, bx_some, e1, bx_some, mo_c R1, bx_some]
    unfold f_Mo_harm
    rw [eh, bx_some]
    dsimp only
    rw [mo_c R1, bx_some, ea, bx_some]
    dsimp only
    obtain ⟨A4, m4, e4, R4, F4, q4, q4'⟩ := m_bestL (K := fun (v0 : Option Nat) (v1 : Int64) (v3 : Int32) (v4 : Int32) (m18 : mx_Mem) => Option.bind (mx_c m18 v0 4) fun a22 =>
          Option.bind (f_Mo_next a22  m18) fun q19 =>
          fl_Mo_solve_38 K n v0 v1 v3 v4 q19.1 q19.2) (v1 := hm ch) (v3 := sv_ac no A nd ch) (v4 := 1) hd nd 5000 1 _ m1 (by omega) (by omega) (by omega) R1
    rw [show nI 1 = (1 : Int32) from rfl] at e4
    have so4 : so_eq nd A B A4 (va_up (va_up B1 7 dp1) 17 ar) := ⟨fun k k1 k2 k3 => by rw [q4 k k3]; exact so1.1 k k1 k2 k3, so1.2.1, fun l hl => by rw [q4 13 (by decide)]; exact so1.2.2 l hl⟩
    have g13 : ∀ l, 1 ≤ l → l ≤ nd → A4 13 l = nI (ch l) := fun l l1 l2 => by rw [q4 13 (by decide)]; exact h13' l l1 l2
    have g19 : ∀ l, 1 ≤ l → l ≤ nd → A4 19 l = nI (ch l) := fun l l1 l2 => by rw [(q4' l).2 l1 l2]; exact h13' l l1 l2
    generalize hr : sv_se hm (sv_ac no A nd) no nd (d + 1) p1 p3 b ch = r
    rw [sv_se] at hr
    cases sm with
    | false =>
      rw [if_pos (by rfl), e4]
      rw [if_pos (sv_btM (by rw [hs0 rfl]; exact hlt))] at hr
      obtain ⟨A5, B5, m5, e5, R5, F5, so5, q5⟩ := tail (hm ch) (sv_ac no A nd ch) ch A4 _ m4 R4 so4 g13 g19 r hr.symm
      exact ⟨A5, B5, m5, e5, R5, (F1.tr F4).tr F5, so5, q5⟩
    | true =>
      obtain ⟨rfl, rfl, k19⟩ := hs1 rfl
      rw [if_neg (by decide), sv_btS]
      by_cases bt : sv_bt (hm ch) v1 (sv_ac no A nd ch) v3 = true
      · rw [if_pos bt] at hr ⊢
        rw [e4]
        obtain ⟨A5, B5, m5, e5, R5, F5, so5, q5⟩ := tail (hm ch) (sv_ac no A nd ch) ch A4 _ m4 R4 so4 g13 g19 r hr.symm
        exact ⟨A5, B5, m5, e5, R5, (F1.tr F4).tr F5, so5, q5⟩
      · rw [if_neg bt] at hr ⊢
        obtain ⟨A5, B5, m5, e5, R5, F5, so5, q5⟩ := tail v1 v3 b _ _ m1 R1 so1 h13' (fun l l1 l2 => by rw [va_up_ne _ _ (show 19 ≠ 18 by decide)]; exact k19 l l1 l2) r hr.symm
        exact ⟨A5, B5, m5, e5, R5, F1.tr F5, so5, q5⟩
end SQ
