/-! tell: the reference's loops; both -/
section TL2
variable {o a nl nd : Nat} {th : Int32} {fi no ch ch' : Nat → Nat} {bl : Nat → Nat → Nat} {A A' : Nat → Nat → Int32} {B B' : Nat → Nat → Int64} {L : cl_L} {od : Nat → Nat} {dp : Nat → Int64} {PI : Nat → Nat → Int32} {PL : Nat → Nat → Int64} {mem mem' : mx_Mem}
theorem m_any {K : Option Nat → Int32 → Int32 → Int32 → mx_Mem → Option (Int32 × mx_Mem)} (hn : nl ≤ 12) (hd : nd ≤ 6) (h : mo_R a th (nI nl) (nI nd) A B mem) {l x : Nat} (l2 : l ≤ nd) (x2 : x ≤ nl) (e12 : A 12 l = nI (no l)) (n4 : no l ≤ 4) (e15 : ∀ q, q < no l → A 15 (4 * l + q) = nI (bl l q) ∧ bl l q ≤ nl) : ∀ (k n q : Nat) (b : Bool), k < n → q + k = no l → fl_Mo_tell_106 K n (some a) (nI x) (nI l) (sp_b b) (nI q) mem = K (some a) (nI x) (nI l) (sp_b (b || sp_an (bl l) x k q)) mem := by
  intro k
  induction k with
  | zero =>
    intro n q b hk hq
    obtain ⟨n, rfl⟩ : ∃ n', n = n' + 1 := ⟨n - 1, by omega⟩
    rw [fl_Mo_tell_106, mo_g12 h, bx_some, mo_r12 h (by omega), bx_some, e12, if_pos (by rw [nI_leI (by omega) (by omega)]; omega)]
    unfold sp_an
    rw [Bool.or_false]
  | succ k ih =>
    intro n q b hk hq
    obtain ⟨n, rfl⟩ : ∃ n', n = n' + 1 := ⟨n - 1, by omega⟩
    obtain ⟨g1, g2⟩ := e15 q (by omega)
    rw [fl_Mo_tell_106, mo_g12 h, bx_some, mo_r12 h (by omega), bx_some, e12, if_neg (by rw [nI_leI (by omega) (by omega)]; omega), nI_1, nI_oc]
    cases b with
    | true =>
      rw [if_neg (by decide)]
      exact ih n (q + 1) true (by omega) (by omega)
    | false =>
      rw [if_pos (by rfl), mo_g15 h, bx_some, mo_r15 h (by omega), bx_some, g1]
      by_cases c : bl l q = x
      · rw [if_pos (by rw [c]), sp_an_t c]
        exact ih n (q + 1) true (by omega) (by omega)
      · rw [if_neg (by rw [nI_eq (by omega) (by omega)]; exact c), sp_an_f c]
        exact ih n (q + 1) false (by omega) (by omega)
theorem m_tellC {K : Option Nat → mx_Mem → Option (Int32 × mx_Mem)} (hn : nl ≤ 12) (hd : nd ≤ 6) {x : Nat} (x2 : x ≤ nl) : ∀ (k n l : Nat) (A : Nat → Nat → Int32) (mem : mx_Mem), k < n → l + k = nd + 1 → 1 ≤ l → mo_R a th (nI nl) (nI nd) A B mem → (∀ l, 1 ≤ l → l ≤ nd → A 8 l = nI (fi l) ∧ fi l ≤ nl ∧ A 12 l = nI (no l) ∧ no l ≤ 4) → (∀ l q, 1 ≤ l → l ≤ nd → q < no l → A 15 (4 * l + q) = nI (bl l q) ∧ bl l q ≤ nl) →
    ∃ A' mem', fl_Mo_tell_76 K n (some a) (nI x) (nI l) mem = K (some a) mem' ∧ mo_R a th (nI nl) (nI nd) A' B mem' ∧ mo_F a mem mem' ∧ (∀ i, i ≠ 13 → A' i = A i) ∧ ∀ i, A' 13 i = if l ≤ i ∧ i ≤ nd ∧ sp_cc fi no bl x i = true then 0 else A 13 i := by
  intro k
  induction k with
  | zero =>
    intro n l A mem hk hl h1 h hV hO
    obtain ⟨n, rfl⟩ : ∃ n', n = n' + 1 := ⟨n - 1, by omega⟩
    refine ⟨A, mem, ?_, h, mo_F.rf, fun _ _ => rfl, fun i => by rw [if_neg (by omega)]⟩
    rw [fl_Mo_tell_76, mo_i9 h, bx_some, if_pos (by rw [nI_ltI (by omega) (by omega)]; omega)]
  | succ k ih =>
    intro n l A mem hk hl h1 h hV hO
    obtain ⟨n, rfl⟩ : ∃ n', n = n' + 1 := ⟨n - 1, by omega⟩
    obtain ⟨e8, f2, e12, n4⟩ := hV l h1 (by omega)
    obtain ⟨m1, e1, R1, F1⟩ := mo_w13 h (if sp_cc fi no bl x l = true then 0 else A 13 l) (j := l) (by omega)
    obtain ⟨A', m2, e2, R2, F2, q2, q3⟩ := ih n (l + 1) _ m1 (by omega) (by omega) (by omega) R1 (fun i i1 i2 => by rw [va_up_ne _ _ (show 8 ≠ 13 by decide), va_up_ne _ _ (show 12 ≠ 13 by decide)]; exact hV i i1 i2) (fun i q i1 i2 i3 => by rw [va_up_ne _ _ (show 15 ≠ 13 by decide)]; exact hO i q i1 i2 i3)
    refine ⟨A', m2, ?_, R2, F1.tr F2, fun i hi => by rw [q2 i hi, va_up_ne _ _ hi], fun i => ?_⟩
    · have go : ∀ b : Bool, b = decide (fi l = x) → fl_Mo_tell_106 (fun (v0 : Option Nat) (v1 : Int32) (v4 : Int32) (v5 : Int32) (m9 : mx_Mem) => Option.bind (mx_gr m9 v0 4 15) fun x10 =>
          if v5 = 0 then (Option.bind (mx_gr m9 v0 4 15) fun x13 =>
            Option.bind (mx_agi m9 x13 3 v4) fun x15 =>
            Option.bind (mx_asi m9 x10 3 v4 x15) fun m18 =>
            fl_Mo_tell_76 K n v0 v1 (v4 + 1) m18)
          else (Option.bind (mx_asi m9 x10 3 v4 0) fun m14 =>
            fl_Mo_tell_76 K n v0 v1 (v4 + 1) m14)) 5000 (some a) (nI x) (nI l) (sp_b b) (nI 0) mem = K (some a) m2 := by
        intro b hb
        rw [m_any hn hd h (by omega) x2 e12 n4 (fun q hq => hO l q h1 (by omega) hq) (no l) 5000 0 b (by omega) (by omega), hb, show (decide (fi l = x) || sp_an (bl l) x (no l) 0) = sp_cc fi no bl x l from rfl, mo_g13 h, bx_some]
        cases hc : sp_cc fi no bl x l with
        | true =>
          rw [hc, if_pos rfl] at e1
          rw [if_neg (by decide), e1, bx_some, nI_1, e2]
        | false =>
          rw [hc, if_neg (by intro z; cases z)] at e1
          rw [if_pos (by rfl), bx_some, mo_r13 h (by omega), bx_some, e1, bx_some, nI_1, e2]
      rw [fl_Mo_tell_76, mo_i9 h, bx_some, if_neg (by rw [nI_ltI (by omega) (by omega)]; omega), mo_g8 h, bx_some, mo_r8 h (by omega), bx_some, e8]
      by_cases c : fi l = x
      · rw [if_pos (by rw [c])]
        exact go true (decide_eq_true c).symm
      · rw [if_neg (by rw [nI_eq (by omega) (by omega)]; exact c)]
        exact go false (decide_eq_false c).symm
    · rw [q3 i, va_up_self]
      by_cases e : i = l
      · subst e
        rw [if_neg (by omega), uI_s]
        by_cases c : sp_cc fi no bl x i = true
        · rw [if_pos c, if_pos ⟨Nat.le_refl _, by omega, c⟩]
        · rw [if_neg c, if_neg (fun z => c z.2.2)]
      · rw [uI_n e]
        by_cases c : l + 1 ≤ i ∧ i ≤ nd ∧ sp_cc fi no bl x i = true
        · rw [if_pos c, if_pos ⟨by omega, c.2⟩]
        · rw [if_neg c, if_neg (fun z => c ⟨by omega, z.2⟩)]
/-- other choices -/
theorem sg_ch (V : sg_V nl nd fi no ch bl A B) (hA : ∀ k, k ≠ 13 → A' k = A k) (h13 : ∀ l, 1 ≤ l → l ≤ nd → A' 13 l = nI (ch' l)) (hc : ∀ l, 1 ≤ l → l ≤ nd → ch' l < no l ∨ (no l = 0 ∧ ch' l = 0)) : sg_V nl nd fi no ch' bl A' B := by
  obtain ⟨hn, hd, hV, hO⟩ := V
  refine ⟨hn, hd, fun l l1 l2 => ?_, fun l q l1 l2 l3 => ?_⟩
  · obtain ⟨e8, f1, f2, e12, n4, e13, c4, cn⟩ := hV l l1 l2
    rw [hA 8 (by decide), hA 12 (by decide), h13 l l1 l2]
    have := hc l l1 l2
    exact ⟨e8, f1, f2, e12, n4, rfl, by omega, this⟩
  · rw [hA 15 (by decide), hA 14 (by decide)]
    exact hO l q l1 l2 l3
end TL2
set_option maxHeartbeats 2000000 in
theorem q_tell {o a : Nat} {mem : mx_Mem} (h : iv o a mem) (v : Int32) (w : Int64) : iv_ok o a (f_LR_tell o v w) (f_Mo_tell a v w) mem := by
  obtain ⟨th, nl, nd, fi, no, ch, bl, A, B, L, od, dp, PI, PL, h⟩ := h
  have iv0 : mx_c mem (some a) 4 = some a := mo_c h.1
  obtain ⟨m1, e1, h1, -⟩ := iv_th h
  have iv1 : iv o a m1 := ⟨_, _, _, _, _, _, _, _, _, _, _, _, _, _, h1⟩
  obtain ⟨m, c, V, hB, hD, hZ, O, hp, S, W, wf⟩ := id h
  have hn := V.1
  have hd := V.2.1
  by_cases hv : v < 1 ∨ nI nl < v
  · refine ⟨-11, mem, m1, ?_, ?_, iv0, iv1⟩
    · unfold f_LR_tell
      rw [cl_c c, bx_some, c_fLn c hv, bx_some]; rfl
    · unfold f_Mo_tell
      rw [e1, bx_some, mo_c h1.1, bx_some, m_isLine h1.1, bx_some, m_isN hv]; rfl
  · obtain ⟨x, x1, x2, rfl⟩ := ix_of (by omega) (fun q => hv (Or.inl q)) (fun q => hv (Or.inr q))
    by_cases hw : w < 0 ∨ 2000 < w
    · refine ⟨-12, mem, m1, ?_, ?_, iv0, iv1⟩
      · unfold f_LR_tell
        rw [cl_c c, bx_some, c_fLs c hn x1 x2, bx_some]
        dsimp only
        rw [if_neg (by intro q; cases q), c_within, bx_some, w_0 hw]; rfl
      · unfold f_Mo_tell
        rw [e1, bx_some, mo_c h1.1, bx_some, m_isLine h1.1, bx_some, m_isS hv]
        dsimp only
        rw [if_neg (by decide), m_in, bx_some, w_0 hw]; rfl
    · obtain ⟨b0, b1⟩ := w_bd hw
      rw [show (2000 : Int64).toInt = 2000 from rfl] at b1
      -- the numbers behind it
      obtain ⟨ch', hch⟩ : ∃ ch' : Nat → Nat, ∀ l, ch' l = if sp_cc fi no bl x l = true then 0 else ch l := ⟨_, fun _ => rfl⟩
      obtain ⟨g, hg⟩ : ∃ g : Nat → Int32, ∀ i, g i = if 1 ≤ i ∧ i ≤ nd ∧ sp_cc fi no bl x i = true then 0 else A 13 i := ⟨_, fun _ => rfl⟩
      have V0 : sg_V nl nd fi no ch' bl (va_up A 13 g) B := by
        refine sg_ch V (fun k hk => va_up_ne _ _ hk) (fun l l1 l2 => ?_) (fun l l1 l2 => ?_)
        · obtain ⟨e8, f1, f2, e12, n4, e13, c4, cn⟩ := V.2.2.1 l l1 l2
          rw [va_up_self, hg, hch]
          by_cases cc : sp_cc fi no bl x l = true
          · rw [if_pos ⟨l1, l2, cc⟩, if_pos cc]; rfl
          · rw [if_neg (fun z => cc z.2.2), if_neg cc, e13]
        · obtain ⟨e8, f1, f2, e12, n4, e13, c4, cn⟩ := V.2.2.1 l l1 l2
          rw [hch]
          by_cases cc : sp_cc fi no bl x l = true
          · rw [if_pos cc]; omega
          · rw [if_neg cc]; exact cn
      have hD0 : sg_D nd no (va_up A 13 g) B := by unfold sg_D; rw [va_up_ne _ _ (show 11 ≠ 13 by decide)]; exact hD
      have hZ0 : sg_Z nl nd (va_up A 13 g) B := by
        refine ⟨hZ.1, fun l l1 l2 => ?_⟩
        rw [va_up_ne _ _ (show 12 ≠ 13 by decide), va_up_self, hg, if_neg (by omega)]
        exact hZ.2 l l1 l2
      obtain ⟨V', hB', hD', hZ', O'⟩ := sg_set V0 hB hD0 hZ0 O (k := 5) (x := x) (v := w) (Or.inl rfl) x2 b0 (fun _ => b1) (fun q => by cases q)
      -- the class
      obtain ⟨PI1, PL1, c1, f1, R1, F1, z1, q1⟩ := c_tellL (w := w) V x1 x2 nd 5000 0 PI PL mem (by omega) (by omega) c
      rw [show (nI 0 : Int32) = 0 from rfl] at f1
      obtain ⟨c2, f2, R2, F2, z2⟩ := c_set R1 (k := 5) (Or.inl rfl) x1 x2 w
      have R2' := R2.same (A' := va_up A 13 g) (va_up_ne _ _ (by decide)) (va_up_ne _ _ (by decide)) (va_up_ne _ _ (by decide)) (va_up_ne _ _ (by decide)) (va_up_ne _ _ (by decide)) rfl rfl rfl rfl rfl rfl
      have hp' : ∀ l, 1 ≤ l → l ≤ nd → PI1 6 l = cl_pk no ch' l := by
        intro l l1 l2
        rw [((q1 l).2 (by omega) l2).2, hp l l1 l2]
        unfold cl_pk
        rw [hch]
        by_cases cc : sp_cc fi no bl x l = true
        · rw [if_pos cc, if_pos cc]; rfl
        · rw [if_neg cc, if_neg cc]
      obtain ⟨c3, dp', PI', PL', f3, R3, F3, z3, ⟨p6, p7, p10⟩, S3⟩ := c_settle R2' V' hB' O' hp'
      have F := (F1.tr F2).tr F3
      have M3 := m.kept F
      have hcl := c_moved hd R3 nd 5000 0 0 (by omega) (by omega)
      rw [show (nI 0 : Int32) = 0 from rfl] at hcl
      -- the reference
      obtain ⟨d1, g1, D1, G1⟩ := mo_p0 M3 0
      obtain ⟨d2, dp2, lf2, ar2, g2, D2, G2, S2⟩ := m_reckon V (sg_pos hB) D1
      obtain ⟨-, s2⟩ := sp_S_one V hB S2 S
      obtain ⟨B3, d3, g3, D3, G3, y3, y3'⟩ := m_before (K := fun (v0 : Option Nat) (v1 : Int32) (v2 : Int64) (m18 : mx_Mem) => Option.bind (mx_gr m18 v0 4 6) fun x19 =>
          Option.bind (mx_asl m18 x19 4 v1 v2) fun m22 =>
          fl_Mo_tell_76 (fun (v0 : Option Nat) (m23 : mx_Mem) => Option.bind (mx_c m23 v0 4) fun a27 =>
            Option.bind (f_Mo_reckon a27  m23) fun q24 =>
            fl_Mo_tell_191  5000 v0 0 1 q24) 5000 v0 v1 1 m22) (v := nI x) (w := w) hd nd 5000 1 _ d2 (by omega) (by omega) (by omega) D2
      obtain ⟨d4, g4, D4, G4⟩ := mo_w5 D3 w (j := x) (by omega)
      obtain ⟨A5, d5, g5, D5, G5, y5, y5'⟩ := m_tellC (K := fun (v0 : Option Nat) (m23 : mx_Mem) => Option.bind (mx_c m23 v0 4) fun a27 =>
            Option.bind (f_Mo_reckon a27  m23) fun q24 =>
            fl_Mo_tell_191  5000 v0 0 1 q24) (fi := fi) (no := no) (bl := bl) hn hd x2 nd 5000 1 _ d4 (by omega) (by omega) (by omega) D4 (fun l l1 l2 => by
              obtain ⟨e8, f1, f2, e12, n4, -⟩ := V.2.2.1 l l1 l2
              rw [va_up_ne _ _ (show 8 ≠ 18 by decide), va_up_ne _ _ (show 12 ≠ 18 by decide)]
              exact ⟨e8, f2, e12, n4⟩) (fun l q l1 l2 l3 => by
              obtain ⟨e15, b1, -⟩ := V.2.2.2 l q l1 l2 l3
              rw [va_up_ne _ _ (show 15 ≠ 18 by decide)]
              exact ⟨e15, b1⟩)
      have st : st_eq (va_up A 13 g) (va_up B 5 (vp_updL (B 5) x w)) A5 (va_up B3 5 (vp_updL (B3 5) x w)) := by
        refine ⟨fun k k1 k2 => ?_, fun k k1 k2 k3 => ?_⟩
        · by_cases e : k = 13
          · subst e
            rw [va_up_self]
            funext i
            rw [y5' i, hg, va_up_ne _ _ (show 13 ≠ 18 by decide)]
          · rw [y5 k e, va_up_ne _ _ k1, va_up_ne _ _ e]
        · by_cases e : k = 5
          · subst e
            rw [va_up_self, va_up_self, y3 5 (by decide), va_up_ne _ _ (show 5 ≠ 17 by decide), va_up_ne _ _ (show 5 ≠ 7 by decide)]
          · rw [va_up_ne _ _ e, va_up_ne _ _ e, y3 k k3, va_up_ne _ _ k2, va_up_ne _ _ k1]
      have G := (((G1.tr G2).tr G3).tr G4).tr G5
      obtain ⟨V5, hB5, hD5, hZ5, O5, S5⟩ := sg_all V' hB' hD' hZ' O' S3 st
      have I5 : iv_I o a 0 nl nd fi no ch' bl A5 (va_up B3 5 (vp_updL (B3 5) x w)) L od dp' PI' PL' d5 := by
        refine ⟨D5, ?_, V5, hB5, hD5, hZ5, O5, fun l l1 l2 => by rw [p6]; exact hp' l l1 l2, S5, ?_, ?_⟩
        · exact (R3.kept M3 G).same (st.1 1 (by decide) (by decide)) (st.1 2 (by decide) (by decide)) (st.1 9 (by decide) (by decide)) (st.1 11 (by decide) (by decide)) (st.1 14 (by decide) (by decide)) (st.2 3 (by decide) (by decide) (by decide)) (st.2 4 (by decide) (by decide) (by decide)) (st.2 5 (by decide) (by decide) (by decide)) (st.2 6 (by decide) (by decide) (by decide)) (st.2 10 (by decide) (by decide) (by decide)) (st.2 16 (by decide) (by decide) (by decide))
        · rw [G.1, z3, z2, z1]; exact W
        · exact mo_wf G (by rw [z3, z2, z1]; exact W.2.1) (F.2.2 wf)
      obtain ⟨d6, dp6, lf, ar, g6, I6, -, -, q6⟩ := iv_rk I5
      have hmo := m_moved hd I6.1 nd 5000 1 0 (by omega) (by omega) (by omega)
      rw [show nI 1 = (1 : Int32) from rfl] at g3 g5 hmo
      refine ⟨sp_cnt (sp_pm (PL' 9) (PL' 10)) nd 1 0, c3, d6, ?_, ?_, mo_c M3, ⟨_, _, _, _, _, _, _, _, _, _, _, _, _, _, I6⟩⟩
      · unfold f_LR_tell
        rw [cl_c c, bx_some, c_fLs c hn x1 x2, bx_some]
        dsimp only
        rw [if_neg (by intro q; cases q), c_within, bx_some, w_1 hw]
        dsimp only
        obtain ⟨n', hn'⟩ : ∃ n', 5000 - nd = n' + 1 := ⟨5000 - nd - 1, by omega⟩
        rw [if_neg (by decide), f1, hn', fl_LR_tell_32, cl_i4 R1, bx_some, if_pos (by rw [nI_leI (by omega) (by omega)]; omega), f2, bx_some, cl_c R2, bx_some, f3, bx_some, cl_c R3, bx_some]
        unfold f_LR_countMoved
        rw [hcl, bx_some]
      · unfold f_Mo_tell
        rw [g1, bx_some, mo_c D1, bx_some, m_isLine D1, bx_some, m_isS hv]
        dsimp only
        rw [if_neg (by decide), m_in, bx_some, w_1 hw]
        dsimp only
        rw [if_neg (by decide), mo_c D1, bx_some, g2, bx_some, g3, mo_g5 D3, bx_some, g4, bx_some, g5, mo_c D5, bx_some, g6, bx_some, hmo, va_up_self, va_up_ne _ _ (show 20 ≠ 17 by decide), va_up_ne _ _ (show 20 ≠ 7 by decide), va_up_ne _ _ (show 20 ≠ 5 by decide)]
        rw [sp_cnt_c (p' := sp_pm (PL' 9) (PL' 10)) nd 1 0 (fun i i1 i2 => by
          unfold sp_pm
          rw [(q6 i i1 (by omega)).2, (y3' i).2 i1 (by omega), va_up_self, (s2 i i1 (by omega)).2, p10, ((q1 i).2 (by omega) (by omega)).1])]
