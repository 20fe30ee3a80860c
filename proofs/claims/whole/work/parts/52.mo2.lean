/-! THE REFERENCE: departures -/
/-- one load's say in when the line x departs: acc is what it departs at so far -/
def sp_st (fi no ch : Nat → Nat) (A : Nat → Nat → Int32) (B : Nat → Nat → Int64) (dp : Nat → Int64) (x : Nat) (at0 acc : Int64) (l : Nat) : Int64 :=
  if 0 < no l ∧ A 14 (4 * l + ch l) = 1 ∧ A 15 (4 * l + ch l) = nI x ∧ ¬ at0 + B 6 x < sp_thr B dp (fi l) + 10 ∧ ¬ sp_thr B dp (fi l) + 10 ≤ acc then sp_thr B dp (fi l) + 10 else acc
def sp_go (fi no ch : Nat → Nat) (A : Nat → Nat → Int32) (B : Nat → Nat → Int64) (dp : Nat → Int64) (x : Nat) (at0 : Int64) : Nat → Nat → Int64 → Int64
  | 0, _, acc => acc
  | k + 1, l, acc => sp_go fi no ch A B dp x at0 k (l + 1) (sp_st fi no ch A B dp x at0 acc l)
/-- when the line x departs, by what the others depart at -/
def sp_H (nd : Nat) (fi no ch : Nat → Nat) (A : Nat → Nat → Int32) (B : Nat → Nat → Int64) (dp : Nat → Int64) (x : Nat) : Int64 := sp_go fi no ch A B dp x (B 3 x + B 5 x) nd 1 (B 3 x + B 5 x)
theorem u7_r {B : Nat → Nat → Int64} {f : Nat → Int64} : (va_up B 7 f) 7 = f := va_up_self _ _ _
theorem u7_n {B : Nat → Nat → Int64} {f : Nat → Int64} {k : Nat} (h : k ≠ 7) : (va_up B 7 f) k = B k := va_up_ne _ _ h
theorem uL_s {f : Nat → Int64} {x : Nat} {v : Int64} : vp_updL f x v x = v := by simp [vp_updL]
theorem uL_n {f : Nat → Int64} {x y : Nat} {v : Int64} (h : y ≠ x) : vp_updL f x v y = f y := by simp [vp_updL, h]
theorem uL_u {f : Nat → Int64} {x : Nat} {v w : Int64} : vp_updL (vp_updL f x v) x w = vp_updL f x w := by
  funext y
  by_cases h : y = x
  · subst h; rw [uL_s, uL_s]
  · rw [uL_n h, uL_n h, uL_n h]
theorem uL_id {f : Nat → Int64} {x : Nat} : vp_updL f x (f x) = f := by
  funext y
  by_cases h : y = x
  · subst h; rw [uL_s]
  · rw [uL_n h]
theorem nI_le0 {n : Nat} (h : n < 2 ^ 31) : nI n ≤ 0 ↔ n = 0 := by
  rw [show (0 : Int32) = nI 0 from rfl, nI_leI h (by decide)]
  omega
section M2
variable {a : Nat} {th : Int32} {nl nd : Nat} {fi no ch : Nat → Nat} {bl : Nat → Nat → Nat} {A : Nat → Nat → Int32} {B : Nat → Nat → Int64} {mem : mx_Mem}
theorem m_depW {x : Nat} {nl' nd' : Int32} (hx : x < 13) {acc : Int64} (h : mo_R a th nl' nd' A (va_up B 7 (vp_updL (B 7) x acc)) mem) (v : Int64) : ∃ mem', mx_asl mem (some (a + 7)) 4 (nI x) v = some mem' ∧ mo_R a th nl' nd' A (va_up B 7 (vp_updL (B 7) x v)) mem' ∧ mo_F a mem mem' := by
  obtain ⟨m1, e1, R1, F1⟩ := mo_w7 h v hx
  refine ⟨m1, e1, ?_, F1⟩
  rw [u7_r, uL_u, bx_uu] at R1
  exact R1
theorem m_depS (V : sg_V nl nd fi no ch bl A B) {x : Nat} (hx : 1 ≤ x) (hx2 : x ≤ nl) (at0 : Int64) (n l : Nat) (acc : Int64) (mem : mx_Mem) (h1 : 1 ≤ l) (h2 : l ≤ nd) (h : mo_R a th (nI nl) (nI nd) A (va_up B 7 (vp_updL (B 7) x acc)) mem) :
    fl_Mo_depart_24 (n + 1) (some a) (nI x) at0 (nI l) mem = Option.bind (mx_asl mem (some (a + 7)) 4 (nI x) (sp_st fi no ch A B (B 7) x at0 acc l)) (fun m => fl_Mo_depart_24 n (some a) (nI x) at0 (nI l + 1) m) := by
  obtain ⟨hn, hd, hV, hO⟩ := V
  obtain ⟨e8, f1, f2, e12, n4, e13, c4, cn⟩ := hV l h1 h2
  have rd : mx_agl mem (some (a + 7)) 4 (nI x) = some acc := by rw [mo_r7 h (by omega), u7_r, uL_s]
  have hlt : ¬ nI nd < nI l := by rw [nI_ltI (by omega) (by omega)]; omega
  rw [fl_Mo_depart_24, mo_i9 h, bx_some, if_neg hlt, mo_g13 h, bx_some, mo_r13 h (by omega), bx_some, e13, mo_g12 h, bx_some, mo_r12 h (by omega), bx_some, e12]
  by_cases c1 : no l = 0
  · rw [if_pos ((nI_le0 (by omega)).mpr c1), mo_g7 h, bx_some, bx_some, rd, bx_some]
    have hs : sp_st fi no ch A B (B 7) x at0 acc l = acc := by unfold sp_st; rw [if_neg]; omega
    rw [hs]
  · have c1' : ch l < no l := by omega
    obtain ⟨e15, b1, -⟩ := hO l (ch l) h1 h2 c1'
    rw [if_neg (fun q => c1 ((nI_le0 (by omega)).mp q)), mo_g14 h, bx_some, nI_oc, mo_r14 h (by omega), bx_some]
    by_cases c2 : A 14 (4 * l + ch l) = 1
    · rw [if_pos c2, mo_g15 h, bx_some, mo_r15 h (by omega), bx_some]
      by_cases c3 : A 15 (4 * l + ch l) = nI x
      · have hne : fi l ≠ x := by
          intro q
          obtain ⟨e15', b1', hk⟩ := hO l (ch l) h1 h2 c1'
          rcases hk with ⟨k1, k2⟩ | ⟨k1, k2, k3⟩
          · rw [c2] at k1; exact absurd k1 (by decide)
          · have hbx : bl l (ch l) = x := by
              rw [c3] at e15'
              exact ((nI_eq (by omega) (by omega)).mp e15').symm
            rw [hbx, q] at k3
            exact absurd k3 Int64.lt_irrefl
        have hthr : sp_thr (va_up B 7 (vp_updL (B 7) x acc)) ((va_up B 7 (vp_updL (B 7) x acc)) 7) (fi l) = sp_thr B (B 7) (fi l) := by
          unfold sp_thr
          rw [u7_r, uL_n hne, u7_n (by decide), u7_n (by decide)]
        rw [if_pos c3, mo_g8 h, bx_some, mo_r8 h (by omega), bx_some, e8, mo_c h, bx_some, m_there h (by omega), bx_some, hthr]
        dsimp only
        rw [mo_g7 h, bx_some, mo_g6 h, bx_some, mo_r6 h (by omega), bx_some, u7_n (by decide), bx_some, rd, bx_some]
        by_cases c4' : at0 + B 6 x < sp_thr B (B 7) (fi l) + 10
        · rw [if_pos c4']
          have hs : sp_st fi no ch A B (B 7) x at0 acc l = acc := by unfold sp_st; rw [if_neg]; exact fun q => q.2.2.2.1 c4'
          rw [hs]
        · rw [if_neg c4', bx_some, rd, bx_some]
          by_cases c5 : sp_thr B (B 7) (fi l) + 10 ≤ acc
          · rw [if_pos c5]
            have hs : sp_st fi no ch A B (B 7) x at0 acc l = acc := by unfold sp_st; rw [if_neg]; exact fun q => q.2.2.2.2 c5
            rw [hs]
          · rw [if_neg c5]
            have hs : sp_st fi no ch A B (B 7) x at0 acc l = sp_thr B (B 7) (fi l) + 10 := by unfold sp_st; rw [if_pos]; exact ⟨by omega, c2, c3, c4', c5⟩
            rw [hs]
      · rw [if_neg c3, mo_g7 h, bx_some, bx_some, rd, bx_some]
        have hs : sp_st fi no ch A B (B 7) x at0 acc l = acc := by unfold sp_st; rw [if_neg]; exact fun q => c3 q.2.2.1
        rw [hs]
    · rw [if_neg c2, mo_g7 h, bx_some, bx_some, rd, bx_some]
      have hs : sp_st fi no ch A B (B 7) x at0 acc l = acc := by unfold sp_st; rw [if_neg]; exact fun q => c2 q.2.1
      rw [hs]
theorem m_depL (V : sg_V nl nd fi no ch bl A B) {x : Nat} (hx : 1 ≤ x) (hx2 : x ≤ nl) (at0 : Int64) : ∀ (k n l : Nat) (acc : Int64) (mem : mx_Mem), k < n → l + k = nd + 1 → 1 ≤ l → mo_R a th (nI nl) (nI nd) A (va_up B 7 (vp_updL (B 7) x acc)) mem →
    ∃ mem', fl_Mo_depart_24 n (some a) (nI x) at0 (nI l) mem = some mem' ∧ mo_R a th (nI nl) (nI nd) A (va_up B 7 (vp_updL (B 7) x (sp_go fi no ch A B (B 7) x at0 k l acc))) mem' ∧ mo_F a mem mem' := by
  have hn := V.1
  have hd := V.2.1
  intro k
  induction k with
  | zero =>
    intro n l acc mem hk hl h1 h
    obtain ⟨n, rfl⟩ : ∃ n', n = n' + 1 := ⟨n - 1, by omega⟩
    refine ⟨mem, ?_, h, mo_F.rf⟩
    rw [fl_Mo_depart_24, mo_i9 h, bx_some, if_pos (by rw [nI_ltI (by omega) (by omega)]; omega)]
  | succ k ih =>
    intro n l acc mem hk hl h1 h
    obtain ⟨n, rfl⟩ : ∃ n', n = n' + 1 := ⟨n - 1, by omega⟩
    rw [m_depS V hx hx2 at0 n l acc mem h1 (by omega) h]
    obtain ⟨m1, e1, R1, F1⟩ := m_depW (by omega) h (sp_st fi no ch A B (B 7) x at0 acc l)
    rw [e1, bx_some, nI_1]
    obtain ⟨m2, e2, R2, F2⟩ := ih n (l + 1) _ m1 (by omega) (by omega) (by omega) R1
    exact ⟨m2, e2, R2, F1.tr F2⟩
theorem m_depart (V : sg_V nl nd fi no ch bl A B) {x : Nat} (hx : 1 ≤ x) (hx2 : x ≤ nl) (h : mo_R a th (nI nl) (nI nd) A B mem) :
    ∃ mem', f_Mo_depart a (nI x) mem = some mem' ∧ mo_R a th (nI nl) (nI nd) A (va_up B 7 (vp_updL (B 7) x (sp_H nd fi no ch A B (B 7) x))) mem' ∧ mo_F a mem mem' := by
  have hn := V.1
  have hd := V.2.1
  unfold f_Mo_depart
  rw [mo_g3 h, bx_some, mo_r3 h (by omega), bx_some, mo_g5 h, bx_some, mo_r5 h (by omega), bx_some, mo_g7 h, bx_some]
  obtain ⟨m1, e1, R1, F1⟩ := mo_w7 h (B 3 x + B 5 x) (j := x) (by omega)
  rw [e1, bx_some]
  obtain ⟨m2, e2, R2, F2⟩ := m_depL V hx hx2 (B 3 x + B 5 x) nd 5000 1 _ m1 (by omega) (by omega) (by omega) R1
  exact ⟨m2, e2, R2, F1.tr F2⟩
end M2
