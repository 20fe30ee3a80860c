/-! waits, late -/
section Q3
variable {o a nl nd : Nat} {th : Int32} {fi no ch : Nat → Nat} {bl : Nat → Nat → Nat} {A A' : Nat → Nat → Int32} {B B' : Nat → Nat → Int64} {L : cl_L} {od : Nat → Nat} {dp : Nat → Int64} {PI : Nat → Nat → Int32} {PL : Nat → Nat → Int64} {mem mem' : mx_Mem}
/-- another delay (k = 5) or most (k = 6) of the line x -/
theorem sg_set (V : sg_V nl nd fi no ch bl A B) (hB : sg_B nl B) (hD : sg_D nd no A B) (hZ : sg_Z nl nd A B) (O : sg_O nd fi B od) {k x : Nat} {v : Int64} (hk : k = 5 ∨ k = 6) (x2 : x ≤ nl) (h0 : 0 ≤ v.toInt) (h1 : k = 5 → v.toInt ≤ 2000) (h2 : k = 6 → v.toInt ≤ 600) : sg_V nl nd fi no ch bl A (va_up B k (vp_updL (B k) x v)) ∧ sg_B nl (va_up B k (vp_updL (B k) x v)) ∧ sg_D nd no A (va_up B k (vp_updL (B k) x v)) ∧ sg_Z nl nd A (va_up B k (vp_updL (B k) x v)) ∧ sg_O nd fi (va_up B k (vp_updL (B k) x v)) od := by
  have e3 : (va_up B k (vp_updL (B k) x v)) 3 = B 3 := va_up_ne _ _ (by omega)
  have e4 : (va_up B k (vp_updL (B k) x v)) 4 = B 4 := va_up_ne _ _ (by omega)
  have e10 : (va_up B k (vp_updL (B k) x v)) 10 = B 10 := va_up_ne _ _ (by omega)
  have e16 : (va_up B k (vp_updL (B k) x v)) 16 = B 16 := va_up_ne _ _ (by omega)
  refine ⟨sg_V_B V rfl rfl rfl rfl rfl e3, ?_, ?_, ⟨?_, hZ.2⟩, ?_⟩
  · intro y y1 y2
    obtain ⟨a1, a2, a3, a4, a5, a6, a7⟩ := hB y y1 y2
    rw [e3, e4]
    rcases hk with rfl | rfl
    · rw [va_up_self, va_up_ne B _ (show 6 ≠ 5 by decide)]
      by_cases e : y = x
      · subst e; rw [uL_s]; exact ⟨a1, a2, a3, h0, h1 rfl, a6, a7⟩
      · rw [uL_n e]; exact ⟨a1, a2, a3, a4, a5, a6, a7⟩
    · rw [va_up_self, va_up_ne B _ (show 5 ≠ 6 by decide)]
      by_cases e : y = x
      · subst e; rw [uL_s]; exact ⟨a1, a2, a3, a4, a5, h0, h2 rfl⟩
      · rw [uL_n e]; exact ⟨a1, a2, a3, a4, a5, a6, a7⟩
  · unfold sg_D; rw [e10, e16]; exact hD
  · intro y y1 y2
    obtain ⟨z1, z2⟩ := hZ.1 y y1 y2
    rcases hk with rfl | rfl
    · rw [va_up_self, va_up_ne B _ (show 6 ≠ 5 by decide), uL_n (by omega)]; exact ⟨z1, z2⟩
    · rw [va_up_self, va_up_ne B _ (show 5 ≠ 6 by decide), uL_n (by omega)]; exact ⟨z1, z2⟩
  · unfold sg_O; rw [e3]; exact O
theorem c_set (h : cl_R o nl nd fi no bl A B L od dp PI PL mem) {k x : Nat} (hk : k = 5 ∨ k = 6) (x1 : 1 ≤ x) (x2 : x ≤ nl) (v : Int64) : ∃ mem', mx_p mem (some (L.1 x)) 1 k (.long v) = some mem' ∧ cl_R o nl nd fi no bl A (va_up B k (vp_updL (B k) x v)) L od dp PI PL mem' ∧ cl_F mem mem' ∧ mem'.1 = mem.1 := by
  refine cl_upI h x1 x2 (by omega) ?_ (fun j hj => ?_) (va_up_ne _ _ (by omega)) (va_up_ne _ _ (by omega))
  · rcases hk with rfl | rfl <;> simp [cl_lf, va_up, vp_updL]
  · rcases hk with rfl | rfl <;> simp [cl_lf, va_up, vp_updL, hj]
end Q3
theorem w_0 {v hi : Int64} (h : v < 0 ∨ hi < v) : (if v < 0 then (0 : Int32) else if hi < v then 0 else 1) = 0 := by
  by_cases c : v < 0
  · rw [if_pos c]
  · rw [if_neg c, if_pos (h.resolve_left c)]
theorem w_1 {v hi : Int64} (h : ¬ (v < 0 ∨ hi < v)) : (if v < 0 then (0 : Int32) else if hi < v then 0 else 1) = 1 := by
  rw [if_neg (fun q => h (Or.inl q)), if_neg (fun q => h (Or.inr q))]
theorem w_bd {v hi : Int64} (h : ¬ (v < 0 ∨ hi < v)) : 0 ≤ v.toInt ∧ v.toInt ≤ hi.toInt := by
  have h1 : ¬ v < 0 := fun q => h (Or.inl q)
  have h2 : ¬ hi < v := fun q => h (Or.inr q)
  rw [l_ltI] at h1 h2
  rw [show (0 : Int64).toInt = 0 from rfl] at h1
  omega
set_option maxHeartbeats 1000000 in
theorem q_waits {o a : Nat} {mem : mx_Mem} (h : iv o a mem) (v : Int32) (w : Int64) : iv_ok o a (f_LR_waits o v w) (f_Mo_waits a v w) mem := by
  obtain ⟨th, nl, nd, fi, no, ch, bl, A, B, L, od, dp, PI, PL, h⟩ := h
  have iv0 : mx_c mem (some a) 4 = some a := mo_c h.1
  obtain ⟨m1, e1, h1, -⟩ := iv_th h
  have iv1 : iv o a m1 := ⟨_, _, _, _, _, _, _, _, _, _, _, _, _, _, h1⟩
  obtain ⟨m, c, V, hB, hD, hZ, O, hp, S, W, wf⟩ := id h
  have hn := V.1
  by_cases hv : v < 1 ∨ nI nl < v
  · refine ⟨-11, mem, m1, ?_, ?_, iv0, iv1⟩
    · unfold f_LR_waits
      rw [cl_c c, bx_some, c_fLn c hv, bx_some]; rfl
    · unfold f_Mo_waits
      rw [e1, bx_some, mo_c h1.1, bx_some, m_isLine h1.1, bx_some, m_isN hv]; rfl
  · obtain ⟨x, x1, x2, rfl⟩ := ix_of (by omega) (fun q => hv (Or.inl q)) (fun q => hv (Or.inr q))
    by_cases hw : w < 0 ∨ 600 < w
    · refine ⟨-12, mem, m1, ?_, ?_, iv0, iv1⟩
      · unfold f_LR_waits
        rw [cl_c c, bx_some, c_fLs c hn x1 x2, bx_some]
        dsimp only
        rw [if_neg (by intro q; cases q), c_within, bx_some, w_0 hw]; rfl
      · unfold f_Mo_waits
        rw [e1, bx_some, mo_c h1.1, bx_some, m_isLine h1.1, bx_some, m_isS hv]
        dsimp only
        rw [if_neg (by decide), m_in, bx_some, w_0 hw]; rfl
    · obtain ⟨b0, b1⟩ := w_bd hw
      rw [show (600 : Int64).toInt = 600 from rfl] at b1
      obtain ⟨V', hB', hD', hZ', O'⟩ := sg_set V hB hD hZ O (k := 6) (x := x) (v := w) (Or.inr rfl) x2 b0 (fun q => by cases q) (fun _ => b1)
      obtain ⟨c1, f1, R1, F1, z1⟩ := c_set c (k := 6) (Or.inr rfl) x1 x2 w
      obtain ⟨c2, dp', PI', PL', f2, R2, F2, z2, ⟨p6, p7, p10⟩, S2⟩ := c_settle R1 V' hB' O' hp
      have M2 := m.kept (F1.tr F2)
      obtain ⟨d1, g1, D1, G1⟩ := mo_p0 M2 0
      obtain ⟨d2, g2, D2, G2⟩ := mo_w6 D1 w (j := x) (by omega)
      refine ⟨(B 6 x).toInt32, c2, d2, ?_, ?_, mo_c M2, ?_⟩
      · unfold f_LR_waits
        rw [cl_c c, bx_some, c_fLs c hn x1 x2, bx_some]
        dsimp only
        have r6 : mx_gl mem (some (L.1 x)) 1 6 = some (B 6 x) := by simp [mx_gl, cl_Oi c x1 x2, cl_lf]
        rw [if_neg (by intro q; cases q), c_within, bx_some, w_1 hw]
        dsimp only
        rw [if_neg (by decide), r6, bx_some, f1, bx_some, cl_c R1, bx_some, f2, bx_some]
      · unfold f_Mo_waits
        rw [g1, bx_some, mo_c D1, bx_some, m_isLine D1, bx_some, m_isS hv]
        dsimp only
        rw [if_neg (by decide), m_in, bx_some, w_1 hw]
        dsimp only
        rw [if_neg (by decide), mo_g6 D1, bx_some, mo_r6 D1 (by omega), bx_some, bx_some, g2, bx_some]
      · refine ⟨0, nl, nd, fi, no, ch, bl, A, _, L, od, dp', PI', PL', D2, (R2.kept M2 (G1.tr G2)), V', hB', hD', hZ', O', fun l l1 l2 => by rw [p6]; exact hp l l1 l2, S2, ?_, ?_⟩
        · rw [(G1.tr G2).1, z2, z1]; exact W
        · exact mo_wf (G1.tr G2) (by rw [z2, z1]; exact W.2.1) ((F1.tr F2).2.2 wf)
set_option maxHeartbeats 1000000 in
theorem q_late {o a : Nat} {mem : mx_Mem} (h : iv o a mem) (v : Int32) (w : Int64) : iv_ok o a (f_LR_late o v w) (f_Mo_late a v w) mem := by
  obtain ⟨th, nl, nd, fi, no, ch, bl, A, B, L, od, dp, PI, PL, h⟩ := h
  have iv0 : mx_c mem (some a) 4 = some a := mo_c h.1
  obtain ⟨m1, e1, h1, -⟩ := iv_th h
  have iv1 : iv o a m1 := ⟨_, _, _, _, _, _, _, _, _, _, _, _, _, _, h1⟩
  obtain ⟨m, c, V, hB, hD, hZ, O, hp, S, W, wf⟩ := id h
  have hn := V.1
  have hd := V.2.1
  by_cases hv : v < 1 ∨ nI nl < v
  · refine ⟨-11, mem, m1, ?_, ?_, iv0, iv1⟩
    · unfold f_LR_late
      rw [cl_c c, bx_some, c_fLn c hv, bx_some]; rfl
    · unfold f_Mo_late
      rw [e1, bx_some, mo_c h1.1, bx_some, m_isLine h1.1, bx_some, m_isN hv]; rfl
  · obtain ⟨x, x1, x2, rfl⟩ := ix_of (by omega) (fun q => hv (Or.inl q)) (fun q => hv (Or.inr q))
    by_cases hw : w < 0 ∨ 2000 < w
    · refine ⟨-12, mem, m1, ?_, ?_, iv0, iv1⟩
      · unfold f_LR_late
        rw [cl_c c, bx_some, c_fLs c hn x1 x2, bx_some]
        dsimp only
        rw [if_neg (by intro q; cases q), c_within, bx_some, w_0 hw]; rfl
      · unfold f_Mo_late
        rw [e1, bx_some, mo_c h1.1, bx_some, m_isLine h1.1, bx_some, m_isS hv]
        dsimp only
        rw [if_neg (by decide), m_in, bx_some, w_0 hw]; rfl
    · obtain ⟨b0, b1⟩ := w_bd hw
      rw [show (2000 : Int64).toInt = 2000 from rfl] at b1
      obtain ⟨V', hB', hD', hZ', O'⟩ := sg_set V hB hD hZ O (k := 5) (x := x) (v := w) (Or.inl rfl) x2 b0 (fun _ => b1) (fun q => by cases q)
      obtain ⟨c1, f1, R1, F1, z1⟩ := c_set c (k := 5) (Or.inl rfl) x1 x2 w
      obtain ⟨c2, dp', PI', PL', f2, R2, F2, z2, ⟨p6, p7, p10⟩, S2⟩ := c_settle R1 V' hB' O' hp
      have M2 := m.kept (F1.tr F2)
      obtain ⟨d1, g1, D1, G1⟩ := mo_p0 M2 0
      obtain ⟨d2, g2, D2, G2⟩ := mo_w5 D1 w (j := x) (by omega)
      have I2 : iv_I o a 0 nl nd fi no ch bl A (va_up B 5 (vp_updL (B 5) x w)) L od dp' PI' PL' d2 := by
        refine ⟨D2, (R2.kept M2 (G1.tr G2)), V', hB', hD', hZ', O', fun l l1 l2 => by rw [p6]; exact hp l l1 l2, S2, ?_, ?_⟩
        · rw [(G1.tr G2).1, z2, z1]; exact W
        · exact mo_wf (G1.tr G2) (by rw [z2, z1]; exact W.2.1) ((F1.tr F2).2.2 wf)
      obtain ⟨d3, dp3, lf, ar, g3, I3, -, -, q3⟩ := iv_rk I2
      have hcl := c_fail hd hD' (fun l l1 l2 => sp_S_bd V' hB' S2 l1 l2) R2 nd 5000 0 0 (by omega) (by omega)
      have hmo := m_fail hd I3.1 nd 5000 1 0 (by omega) (by omega) (by omega)
      refine ⟨sp_cnt (sp_pl ((va_up B 5 (vp_updL (B 5) x w)) 10) (PL' 9) (PI' 11)) nd 1 0, c2, d3, ?_, ?_, mo_c M2, ⟨_, _, _, _, _, _, _, _, _, _, _, _, _, _, I3⟩⟩
      · unfold f_LR_late
        rw [cl_c c, bx_some, c_fLs c hn x1 x2, bx_some]
        dsimp only
        rw [if_neg (by intro q; cases q), c_within, bx_some, w_1 hw]
        dsimp only
        rw [if_neg (by decide), f1, bx_some, cl_c R1, bx_some, f2, bx_some, cl_c R2, bx_some]
        unfold f_LR_countFailing
        rw [show (nI 0 : Int32) = 0 from rfl] at hcl
        rw [hcl, bx_some]
      · unfold f_Mo_late
        rw [g1, bx_some, mo_c D1, bx_some, m_isLine D1, bx_some, m_isS hv]
        dsimp only
        rw [if_neg (by decide), m_in, bx_some, w_1 hw]
        dsimp only
        rw [if_neg (by decide), mo_g5 D1, bx_some, g2, bx_some, mo_c D2, bx_some, g3, bx_some, show (1 : Int32) = nI 1 from rfl, hmo, va_up_self, va_up_self, va_up_ne _ _ (show 10 ≠ 17 by decide), va_up_ne _ _ (show 10 ≠ 7 by decide)]
        rw [sp_cnt_c (p' := sp_pl ((va_up B 5 (vp_updL (B 5) x w)) 10) (PL' 9) (PI' 11)) nd 1 0 (fun i i1 i2 => by
          obtain ⟨r1, r2⟩ := q3 i i1 (by omega)
          unfold sp_pl
          rw [r1, r2])]
