/-! option: all of it -/
section OP4
variable {o a nl nd : Nat} {th : Int32} {fi no ch : Nat → Nat} {bl : Nat → Nat → Nat} {A A' : Nat → Nat → Int32} {B B' : Nat → Nat → Int64} {L : cl_L} {od : Nat → Nat} {dp : Nat → Int64} {PI : Nat → Nat → Int32} {PL : Nat → Nat → Int64} {mem mem' : mx_Mem}
theorem c_canGo (h : cl_R o nl nd fi no bl A B L od dp PI PL mem) (V : sg_V nl nd fi no ch bl A B) {l y : Nat} (h1 : 1 ≤ l) (h2 : l ≤ nd) (y1 : 1 ≤ y) (y2 : y ≤ nl) : f_Lo_canGoOnBy (L.2.1 l) (some (L.1 y)) mem = some (if A 1 y = A 2 (fi l) ∧ A 2 y = A 9 l ∧ B 3 (fi l) < B 3 y then 1 else 0, mem) := by
  obtain ⟨hn, hd, hV, hO⟩ := V
  obtain ⟨e8, f1, f2, -⟩ := hV l h1 h2
  have r0 : mx_gr mem (some (L.2.1 l)) 3 0 = some (some (L.1 (fi l))) := by simp [mx_gr, cl_Ol h h1 h2, cl_df]
  have r1 : mx_gi mem (some (L.2.1 l)) 3 1 = some (A 9 l) := by simp [mx_gi, cl_Ol h h1 h2, cl_df]
  have r2 : mx_gi mem (some (L.1 (fi l))) 1 2 = some (A 2 (fi l)) := by simp [mx_gi, cl_Oi h f1 f2, cl_lf]
  have r3 : mx_gl mem (some (L.1 (fi l))) 1 3 = some (B 3 (fi l)) := by simp [mx_gl, cl_Oi h f1 f2, cl_lf]
  have s1 : mx_gi mem (some (L.1 y)) 1 1 = some (A 1 y) := by simp [mx_gi, cl_Oi h y1 y2, cl_lf]
  have s2 : mx_gi mem (some (L.1 y)) 1 2 = some (A 2 y) := by simp [mx_gi, cl_Oi h y1 y2, cl_lf]
  have s3 : mx_gl mem (some (L.1 y)) 1 3 = some (B 3 y) := by simp [mx_gl, cl_Oi h y1 y2, cl_lf]
  unfold f_Lo_canGoOnBy
  rw [s1, bx_some, r0, bx_some, r2, bx_some]
  by_cases c1 : A 1 y = A 2 (fi l)
  · rw [if_pos c1, s2, bx_some, r1, bx_some]
    by_cases c2 : A 2 y = A 9 l
    · rw [if_pos c2, s3, bx_some, bx_some, r3, bx_some]
      by_cases c3 : B 3 (fi l) < B 3 y
      · rw [if_neg (by rw [l_leI]; rw [l_ltI] at c3; omega), if_pos ⟨c1, c2, c3⟩]
      · rw [if_pos (by rw [l_leI]; rw [l_ltI] at c3; omega), if_neg (fun q => c3 q.2.2)]
    · rw [if_neg c2, if_neg (fun q => c2 q.2.1)]
  · rw [if_neg c1, if_neg (fun q => c1 q.1)]
theorem kd_of {v : Int32} (h : ¬ (v.toInt64 < 0 ∨ 2 < v.toInt64)) : v = 0 ∨ v = 1 ∨ v = 2 := by
  have q1 : ¬ v.toInt64 < 0 := fun q => h (Or.inl q)
  have q2 : ¬ 2 < v.toInt64 := fun q => h (Or.inr q)
  rw [l_ltI, Int32.toInt_toInt64, show (0 : Int64).toInt = 0 from rfl] at q1
  rw [l_ltI, Int32.toInt_toInt64, show (2 : Int64).toInt = 2 from rfl] at q2
  have : v.toInt = 0 ∨ v.toInt = 1 ∨ v.toInt = 2 := by omega
  rcases this with e | e | e
  · exact Or.inl (Int32.toInt_inj.mp (by rw [e]; rfl))
  · exact Or.inr (Or.inl (Int32.toInt_inj.mp (by rw [e]; rfl)))
  · exact Or.inr (Or.inr (Int32.toInt_inj.mp (by rw [e]; rfl)))
set_option maxHeartbeats 2000000 in
theorem q_opt41 (h : iv_I o a th nl nd fi no ch bl A B L od dp PI PL mem) {l y : Nat} (l1 : 1 ≤ l) (l2 : l ≤ nd) {v2 v3 : Int32} {v4 : Int64} (hy : y ≤ nl) (hk : (v2 = 2 ∧ y = 0) ∨ (¬ v2 = 2 ∧ 1 ≤ y ∧ v3 = nI y)) :
    ∃ r m1, fj_LR_option_41 (some o) v2 v4 (some (L.2.1 l)) (if y = 0 then none else some (L.1 y)) mem = some (r, m1) ∧ mx_c m1 (some a) 4 = some a ∧ ∃ mem0, mx_p m1 (some a) 4 0 (.int 0) = some mem0 ∧ mo_R a 0 (nI nl) (nI nd) A B mem0 ∧ ∃ m2, fj_Mo_option_29 (some a) (nI l) v2 v3 v4 mem0 = some (r, m2) ∧ iv o a m2 := by
  obtain ⟨m, c, V, hB, hD, hZ, O, hp, S, W, wf⟩ := id h
  have hn := V.1
  have hd := V.2.1
  obtain ⟨e8, f1, f2, e12, n4, e13, c4, cn⟩ := V.2.2.1 l l1 l2
  have iv0 : mx_c mem (some a) 4 = some a := mo_c h.1
  obtain ⟨m1, e1, h1, -⟩ := iv_th h
  have iv1 : iv o a m1 := ⟨_, _, _, _, _, _, _, _, _, _, _, _, _, _, h1⟩
  by_cases w2 : v2.toInt64 < 0 ∨ 2 < v2.toInt64
  · refine ⟨-12, mem, ?_, iv0, m1, e1, h1.1, m1, ?_, iv1⟩
    · unfold fj_LR_option_41; rw [c_within, bx_some, w_0 w2]; rfl
    · unfold fj_Mo_option_29; rw [m_in, bx_some, w_0 w2]; rfl
  · by_cases w4 : v4 < 0 ∨ 10000 < v4
    · refine ⟨-12, mem, ?_, iv0, m1, e1, h1.1, m1, ?_, iv1⟩
      · unfold fj_LR_option_41; rw [c_within, bx_some, w_1 w2]; dsimp only; rw [if_neg (by decide), c_within, bx_some, w_0 w4]; rfl
      · unfold fj_Mo_option_29; rw [m_in, bx_some, w_1 w2]; dsimp only; rw [if_neg (by decide), m_in, bx_some, w_0 w4]; rfl
    · by_cases w5 : A 2 (fi l) = A 9 l
      · refine ⟨-13, mem, ?_, iv0, m1, e1, h1.1, m1, ?_, iv1⟩
        · unfold fj_LR_option_41; rw [c_within, bx_some, w_1 w2]; dsimp only; rw [if_neg (by decide), c_within, bx_some, w_1 w4]; dsimp only; rw [if_neg (by decide), c_cl c l1 l2, bx_some, c_direct c V l1 l2, bx_some, if_pos w5]; rfl
        · unfold fj_Mo_option_29; rw [m_in, bx_some, w_1 w2]; dsimp only; rw [if_neg (by decide), m_in, bx_some, w_1 w4]; dsimp only; rw [if_neg (by decide), mo_g8 h1.1, bx_some, mo_r8 h1.1 (by omega), bx_some, mo_c h1.1, bx_some, m_isDirect h1.1 V l1 l2, bx_some, if_pos w5]; rfl
      · by_cases w6 : ¬ v2 = 2 ∧ ¬ (A 1 y = A 2 (fi l) ∧ A 2 y = A 9 l ∧ B 3 (fi l) < B 3 y)
        · obtain ⟨w6a, w6⟩ := w6
          obtain ⟨y1, e3⟩ : 1 ≤ y ∧ v3 = nI y := by
            rcases hk with ⟨q, -⟩ | ⟨-, q⟩
            · exact absurd q w6a
            · exact q
          refine ⟨-13, mem, ?_, iv0, m1, e1, h1.1, m1, ?_, iv1⟩
          · unfold fj_LR_option_41; rw [c_within, bx_some, w_1 w2]; dsimp only; rw [if_neg (by decide), c_within, bx_some, w_1 w4]; dsimp only; rw [if_neg (by decide), c_cl c l1 l2, bx_some, c_direct c V l1 l2, bx_some, if_neg w5]; dsimp only
            rw [if_pos rfl, if_neg (show ¬ y = 0 by omega), if_neg (by intro q; cases q), c_cl c l1 l2, bx_some, c_canGo c V l1 l2 y1 hy, bx_some, if_neg w6]; rfl
          · unfold fj_Mo_option_29; rw [m_in, bx_some, w_1 w2]; dsimp only; rw [if_neg (by decide), m_in, bx_some, w_1 w4]; dsimp only; rw [if_neg (by decide), mo_g8 h1.1, bx_some, mo_r8 h1.1 (by omega), bx_some, mo_c h1.1, bx_some, m_isDirect h1.1 V l1 l2, bx_some, if_neg w5]; dsimp only
            rw [if_pos rfl, if_neg w6a, mo_g1 h1.1, bx_some, e3, mo_r1 h1.1 (by omega), bx_some, mo_g2 h1.1, bx_some, e8, mo_r2 h1.1 (by omega), bx_some]
            by_cases c1 : A 1 y = A 2 (fi l)
            · rw [if_pos c1, bx_some, mo_r2 h1.1 (by omega), bx_some, mo_g9 h1.1, bx_some, mo_r9 h1.1 (by omega), bx_some]
              by_cases c2 : A 2 y = A 9 l
              · rw [if_pos c2, mo_g3 h1.1, bx_some, mo_r3 h1.1 (by omega), bx_some, bx_some, mo_r3 h1.1 (by omega), bx_some, if_neg (fun q => w6 ⟨c1, c2, q⟩)]
              · rw [if_neg c2]
            · rw [if_neg c1]
        · have hgo : v2 = 2 ∨ (A 1 y = A 2 (fi l) ∧ A 2 y = A 9 l ∧ B 3 (fi l) < B 3 y) := by
            by_cases q : v2 = 2
            · exact Or.inl q
            · exact Or.inr (Classical.byContradiction fun z => w6 ⟨q, z⟩)
          have hk' : (v2 = 2 ∧ y = 0) ∨ ((v2 = 0 ∨ v2 = 1) ∧ 1 ≤ y ∧ B 3 (fi l) < B 3 y) := by
            rcases hk with q | ⟨q, y1, -⟩
            · exact Or.inl q
            · right
              refine ⟨?_, y1, (hgo.resolve_left q).2.2⟩
              rcases kd_of w2 with z | z | z
              · exact Or.inl z
              · exact Or.inr z
              · exact absurd z q
          have hv3 : ¬ v2 = 2 → v3 = nI y := by
            intro q
            rcases hk with ⟨z, -⟩ | ⟨-, -, z⟩
            · exact absurd z q
            · exact z
          obtain ⟨r, M1, E1, R1, hE⟩ := q_opt128 h l1 l2 hy hk' hv3 w4
          have hc : fj_LR_option_41 (some o) v2 v4 (some (L.2.1 l)) (if y = 0 then none else some (L.1 y)) mem = some (r, M1) := by
            unfold fj_LR_option_41; rw [c_within, bx_some, w_1 w2]; dsimp only; rw [if_neg (by decide), c_within, bx_some, w_1 w4]; dsimp only; rw [if_neg (by decide), c_cl c l1 l2, bx_some, c_direct c V l1 l2, bx_some, if_neg w5]; dsimp only
            rw [if_pos rfl]
            rcases hk with ⟨z, y0⟩ | ⟨z, y1, -⟩
            · rw [if_pos y0] at E1 ⊢
              rw [if_pos rfl]
              exact E1
            · have y0 : ¬ y = 0 := by omega
              rw [if_neg y0] at E1 ⊢
              rw [if_neg (by intro q; cases q), c_cl c l1 l2, bx_some, c_canGo c V l1 l2 y1 hy, bx_some, if_pos (hgo.resolve_left z)]
              dsimp only
              rw [if_neg (by decide)]
              exact E1
          obtain ⟨mem0, g0, D0, G0⟩ := mo_p0 R1 0
          obtain ⟨m2, E2, I2⟩ := hE mem0 D0 G0
          refine ⟨r, M1, hc, mo_c R1, mem0, g0, D0, m2, ?_, I2⟩
          unfold fj_Mo_option_29; rw [m_in, bx_some, w_1 w2]; dsimp only; rw [if_neg (by decide), m_in, bx_some, w_1 w4]; dsimp only; rw [if_neg (by decide), mo_g8 D0, bx_some, mo_r8 D0 (by omega), bx_some, mo_c D0, bx_some, m_isDirect D0 V l1 l2, bx_some, if_neg w5]; dsimp only
          rw [if_pos rfl]
          by_cases z : v2 = 2
          · rw [if_pos z]; exact E2
          · obtain ⟨c1, c2, c3⟩ := hgo.resolve_left z
            rw [if_neg z, mo_g1 D0, bx_some, hv3 z, mo_r1 D0 (by omega), bx_some, mo_g2 D0, bx_some, e8, mo_r2 D0 (by omega), bx_some, if_pos c1, bx_some, mo_r2 D0 (by omega), bx_some, mo_g9 D0, bx_some, mo_r9 D0 (by omega), bx_some, if_pos c2, mo_g3 D0, bx_some, mo_r3 D0 (by omega), bx_some, bx_some, mo_r3 D0 (by omega), bx_some, if_pos c3, ← hv3 z]
            exact E2
end OP4
set_option maxHeartbeats 2000000 in
theorem q_option {o a : Nat} {mem : mx_Mem} (h : iv o a mem) (v1 v2 v3 : Int32) (v4 : Int64) : iv_ok o a (f_LR_option o v1 v2 v3 v4) (f_Mo_option a v1 v2 v3 v4) mem := by
  obtain ⟨th, nl, nd, fi, no, ch, bl, A, B, L, od, dp, PI, PL, h⟩ := h
  have iv0 : mx_c mem (some a) 4 = some a := mo_c h.1
  obtain ⟨m1, e1, h1, -⟩ := iv_th h
  have iv1 : iv o a m1 := ⟨_, _, _, _, _, _, _, _, _, _, _, _, _, _, h1⟩
  obtain ⟨m, c, V, hB, hD, hZ, O, hp, S, W, wf⟩ := id h
  have hn := V.1
  have hd := V.2.1
  by_cases hv : v1 < 1 ∨ nI nd < v1
  · refine ⟨-11, mem, m1, ?_, ?_, iv0, iv1⟩
    · unfold f_LR_option; rw [cl_c c, bx_some, c_fDn c hv, bx_some]; dsimp only
      by_cases z : v2 = 2
      · rw [if_pos z, if_pos rfl]
      · rw [if_neg z, cl_c c, bx_some]
        by_cases hw : v3 < 1 ∨ nI nl < v3
        · rw [c_fLn c hw, bx_some]; dsimp only; rw [if_pos rfl]
        · obtain ⟨y, y1, y2, rfl⟩ := ix_of (by omega) (fun q => hw (Or.inl q)) (fun q => hw (Or.inr q))
          rw [c_fLs c hn y1 y2, bx_some]; dsimp only; rw [if_pos rfl]
    · unfold f_Mo_option; rw [e1, bx_some, mo_c h1.1, bx_some, m_isLoad h1.1, bx_some, m_isN hv]; rfl
  · obtain ⟨l, l1, l2, rfl⟩ := ix_of (by omega) (fun q => hv (Or.inl q)) (fun q => hv (Or.inr q))
    by_cases z : v2 = 2
    · obtain ⟨r, M1, E1, k1, mem0, g0, D0, m2, E2, I2⟩ := q_opt41 h (v3 := v3) (v4 := v4) l1 l2 (Nat.zero_le nl) (Or.inl ⟨z, rfl⟩)
      refine ⟨r, M1, m2, ?_, ?_, k1, I2⟩
      · unfold f_LR_option; rw [cl_c c, bx_some, c_fDs c hd l1 l2, bx_some]; dsimp only
        rw [if_pos z, if_neg (by intro q; cases q), if_pos z]
        rw [if_pos rfl] at E1
        exact E1
      · unfold f_Mo_option; rw [g0, bx_some, mo_c D0, bx_some, m_isLoad D0, bx_some, m_isS hv]; dsimp only
        rw [if_neg (by decide), if_pos z]
        exact E2
    · by_cases hw : v3 < 1 ∨ nI nl < v3
      · refine ⟨-11, mem, m1, ?_, ?_, iv0, iv1⟩
        · unfold f_LR_option; rw [cl_c c, bx_some, c_fDs c hd l1 l2, bx_some]; dsimp only
          rw [if_neg z, cl_c c, bx_some, c_fLn c hw, bx_some]; dsimp only
          rw [if_neg (by intro q; cases q), if_neg z, if_pos rfl]
        · unfold f_Mo_option; rw [e1, bx_some, mo_c h1.1, bx_some, m_isLoad h1.1, bx_some, m_isS hv]; dsimp only
          rw [if_neg (by decide), if_neg z, mo_c h1.1, bx_some, m_isLine h1.1, bx_some, m_isN hw]; rfl
      · obtain ⟨y, y1, y2, rfl⟩ := ix_of (by omega) (fun q => hw (Or.inl q)) (fun q => hw (Or.inr q))
        obtain ⟨r, M1, E1, k1, mem0, g0, D0, m2, E2, I2⟩ := q_opt41 h (v3 := nI y) (v4 := v4) l1 l2 y2 (Or.inr ⟨z, y1, rfl⟩)
        refine ⟨r, M1, m2, ?_, ?_, k1, I2⟩
        · unfold f_LR_option; rw [cl_c c, bx_some, c_fDs c hd l1 l2, bx_some]; dsimp only
          rw [if_neg z, cl_c c, bx_some, c_fLs c hn y1 y2, bx_some]; dsimp only
          rw [if_neg (by intro q; cases q), if_neg z, if_neg (by intro q; cases q)]
          rw [if_neg (show ¬ y = 0 by omega)] at E1
          exact E1
        · unfold f_Mo_option; rw [g0, bx_some, mo_c D0, bx_some, m_isLoad D0, bx_some, m_isS hv]; dsimp only
          rw [if_neg (by decide), if_neg z, mo_c D0, bx_some, m_isLine D0, bx_some, m_isS hw]; dsimp only
          rw [if_neg (by decide)]
          exact E2
