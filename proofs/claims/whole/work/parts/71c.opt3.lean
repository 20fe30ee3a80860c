/-! option: class and reference answer alike -/
theorem uI_id {f : Nat → Int32} {x : Nat} : upd f x (f x) = f := by
  funext y
  by_cases h : y = x
  · subst h; rw [uI_s]
  · rw [uI_n h]
set_option maxHeartbeats 2000000 in
/-- the last steps, of both -/
theorem q_opt128 {o a nl nd : Nat} {th' : Int32} {fi no ch : Nat → Nat} {bl : Nat → Nat → Nat} {A : Nat → Nat → Int32} {B : Nat → Nat → Int64} {L : cl_L} {od : Nat → Nat} {dp : Nat → Int64} {PI : Nat → Nat → Int32} {PL : Nat → Nat → Int64} {mem : mx_Mem} (h : iv_I o a th' nl nd fi no ch bl A B L od dp PI PL mem) {l y : Nat} (l1 : 1 ≤ l) (l2 : l ≤ nd) {v2 v3 : Int32} {v4 : Int64} (hy : y ≤ nl) (hk : (v2 = 2 ∧ y = 0) ∨ ((v2 = 0 ∨ v2 = 1) ∧ 1 ≤ y ∧ B 3 (fi l) < B 3 y)) (hv3 : ¬ v2 = 2 → v3 = nI y) (w4 : ¬ (v4 < 0 ∨ 10000 < v4)) :
    ∃ r m1, fj_LR_option_94 (some o) v2 v4 (some (L.2.1 l)) (if y = 0 then none else some (L.1 y)) mem = some (r, m1) ∧ mo_R a th' (nI nl) (nI nd) A B m1 ∧ ∀ mem0, mo_R a 0 (nI nl) (nI nd) A B mem0 → mo_F a m1 mem0 → ∃ m2, fj_Mo_option_128 (some a) (nI l) v2 v3 v4 mem0 = some (r, m2) ∧ iv o a m2 := by
  obtain ⟨m, c, V, hB, hD, hZ, O, hp, S, W, wf⟩ := id h
  have hn := V.1
  have hd := V.2.1
  obtain ⟨e8, f1, f2, e12, n4, e13, c4, cn⟩ := V.2.2.1 l l1 l2
  by_cases w5 : no l = 4
  · refine ⟨-14, mem, ?_, m, fun mem0 D0 G0 => ⟨mem0, ?_, ⟨0, nl, nd, fi, no, ch, bl, A, B, L, od, dp, PI, PL, iv_mo h st_rf D0 G0⟩⟩⟩
    · unfold fj_LR_option_94
      rw [c_cl c l1 l2, bx_some, c_room c l1 l2 n4, bx_some]
      dsimp only
      rw [if_pos w5, if_pos rfl]
    · unfold fj_Mo_option_128
      rw [mo_g12 D0, bx_some, mo_r12 D0 (by omega), bx_some, e12, w5, if_pos (by rfl)]
  · obtain ⟨b1, b2⟩ := w_bd w4
    rw [show (10000 : Int64).toInt = 10000 from rfl] at b2
    have hA : ∀ k, k ≠ 12 → k ≠ 14 → k ≠ 15 → (va_up (va_up (va_up A 14 (upd (A 14) (4 * l + no l) v2)) 15 (upd ((va_up A 14 (upd (A 14) (4 * l + no l) v2)) 15) (4 * l + no l) (nI y))) 12 (upd ((va_up (va_up A 14 (upd (A 14) (4 * l + no l) v2)) 15 (upd ((va_up A 14 (upd (A 14) (4 * l + no l) v2)) 15) (4 * l + no l) (nI y))) 12) l (nI (no l + 1)))) k = A k := fun k k1 k2 k3 => by rw [va_up_ne _ _ k1, va_up_ne _ _ k3, va_up_ne _ _ k2]
    have hA12 : (va_up (va_up (va_up A 14 (upd (A 14) (4 * l + no l) v2)) 15 (upd ((va_up A 14 (upd (A 14) (4 * l + no l) v2)) 15) (4 * l + no l) (nI y))) 12 (upd ((va_up (va_up A 14 (upd (A 14) (4 * l + no l) v2)) 15 (upd ((va_up A 14 (upd (A 14) (4 * l + no l) v2)) 15) (4 * l + no l) (nI y))) 12) l (nI (no l + 1)))) 12 = upd (A 12) l (nI (no l + 1)) := by rw [va_up_self, va_up_ne _ _ (by decide), va_up_ne _ _ (by decide)]
    have hA14 : (va_up (va_up (va_up A 14 (upd (A 14) (4 * l + no l) v2)) 15 (upd ((va_up A 14 (upd (A 14) (4 * l + no l) v2)) 15) (4 * l + no l) (nI y))) 12 (upd ((va_up (va_up A 14 (upd (A 14) (4 * l + no l) v2)) 15 (upd ((va_up A 14 (upd (A 14) (4 * l + no l) v2)) 15) (4 * l + no l) (nI y))) 12) l (nI (no l + 1)))) 14 = upd (A 14) (4 * l + no l) v2 := by rw [va_up_ne _ _ (by decide), va_up_ne _ _ (by decide), va_up_self]
    have hA15 : (va_up (va_up (va_up A 14 (upd (A 14) (4 * l + no l) v2)) 15 (upd ((va_up A 14 (upd (A 14) (4 * l + no l) v2)) 15) (4 * l + no l) (nI y))) 12 (upd ((va_up (va_up A 14 (upd (A 14) (4 * l + no l) v2)) 15 (upd ((va_up A 14 (upd (A 14) (4 * l + no l) v2)) 15) (4 * l + no l) (nI y))) 12) l (nI (no l + 1)))) 15 = upd (A 15) (4 * l + no l) (nI y) := by rw [va_up_ne _ _ (by decide), va_up_self, va_up_ne _ _ (by decide)]
    have hb : ∀ k, k ≠ 16 → (va_up B 16 (vp_updL (B 16) (4 * l + no l) v4)) k = B k := fun k k1 => va_up_ne _ _ k1
    have hb16 : (va_up B 16 (vp_updL (B 16) (4 * l + no l) v4)) 16 = vp_updL (B 16) (4 * l + no l) v4 := va_up_self _ _ _
    generalize hAA : (va_up (va_up (va_up A 14 (upd (A 14) (4 * l + no l) v2)) 15 (upd ((va_up A 14 (upd (A 14) (4 * l + no l) v2)) 15) (4 * l + no l) (nI y))) 12 (upd ((va_up (va_up A 14 (upd (A 14) (4 * l + no l) v2)) 15 (upd ((va_up A 14 (upd (A 14) (4 * l + no l) v2)) 15) (4 * l + no l) (nI y))) 12) l (nI (no l + 1)))) = A2 at hA hA12 hA14 hA15
    generalize hBB : (va_up B 16 (vp_updL (B 16) (4 * l + no l) v4)) = B2 at hb hb16
    obtain ⟨V', hB', hD', hZ', O'⟩ := sg_opt V hB hD hZ O l1 l2 (by omega) hy hk b1 b2 hA12 hA14 hA15 hA hb16 hb
    obtain ⟨M, f, kz, kn, ka, kf, kl, kk, kc, kev⟩ := c_mkopt c V wf hp l1 l2 (by omega) v2 v4 (if y = 0 then none else some (L.1 y))
    obtain ⟨R, F⟩ := cl_opt (y := y) c V wf l1 l2 (by omega) hA14 hA hb16 hb kz kn ka kf kl kk
    have hp' : ∀ i, 1 ≤ i → i ≤ nd → (va_up PI 6 (upd (PI 6) l (nI (ch l)))) 6 i = cl_pk (va_up no l (no l + 1)) ch i := by
      intro i i1 i2
      rw [va_up_self]
      unfold cl_pk
      by_cases e : i = l
      · subst e; rw [uI_s, va_up_self, if_neg (by omega)]
      · rw [uI_n e, va_up_ne _ _ e]; exact hp i i1 i2
    obtain ⟨c2, dp', PI', PL', f2', R2, F2, z2, ⟨p6, p7, p10⟩, S2⟩ := c_settle R V' hB' O' hp'
    have M2 := m.kept (F.tr F2)
    refine ⟨nI (no l), c2, by rw [kev, f2', bx_some], M2, fun mem0 D0 G0 => ?_⟩
    obtain ⟨d1, g1, D1, G1⟩ := mo_w14 D0 v2 (j := 4 * l + no l) (by omega)
    obtain ⟨d2, g2, D2, G2⟩ := mo_w15 D1 (nI y) (j := 4 * l + no l) (by omega)
    obtain ⟨d3, g3, D3, G3⟩ := mo_w16 D2 v4 (j := 4 * l + no l) (by omega)
    obtain ⟨d4, g4, D4, G4⟩ := mo_w12 D3 (nI (no l + 1)) (j := l) (by omega)
    have r12 : mx_agi d3 (some (a + 12)) 3 (nI l) = some (nI (no l)) := by rw [mo_r12 D3 (by omega), va_up_ne _ _ (by decide), va_up_ne _ _ (by decide), e12]
    have r12' : mx_agi d4 (some (a + 12)) 3 (nI l) = some (nI (no l + 1)) := by rw [mo_r12 D4 (by omega), va_up_self, uI_s]
    rw [hAA, hBB] at D4
    have G := ((((G0.tr G1).tr G2).tr G3).tr G4)
    refine ⟨d4, ?_, ⟨0, nl, nd, fi, _, ch, _, A2, B2, _, od, dp', PI', PL', D4, cl_R.kept R2 M2 G, V', hB', hD', hZ', O', fun i i1 i2 => by rw [p6]; exact hp' i i1 i2, S2, ?_, ?_⟩⟩
    · unfold fj_Mo_option_128
      rw [mo_g12 D0, bx_some, mo_r12 D0 (by omega), bx_some, e12, if_neg (by rw [show (4 : Int32) = nI 4 from rfl, nI_eq (by omega) (by decide)]; exact w5), bx_some, mo_r12 D0 (by omega), bx_some, e12, mo_g14 D0, bx_some, nI_oc, g1, bx_some, mo_g15 D1, bx_some]
      by_cases c2 : v2 = 2
      · have hy0 : y = 0 := by
          rcases hk with ⟨-, q⟩ | ⟨q | q, -⟩
          · exact q
          · rw [c2] at q; exact absurd q (by decide)
          · rw [c2] at q; exact absurd q (by decide)
        have g2' := g2
        rw [hy0, show (nI 0 : Int32) = 0 from rfl] at g2'
        rw [if_pos c2, g2', bx_some, mo_g16 D2, bx_some, g3, bx_some, mo_g12 D3, bx_some, r12, bx_some, nI_1, g4, bx_some, mo_g12 D4, bx_some, r12', bx_some, show nI (no l + 1) - 1 = nI (no l) from nI_pred _]
      · rw [if_neg c2, hv3 c2, g2, bx_some, mo_g16 D2, bx_some, g3, bx_some, mo_g12 D3, bx_some, r12, bx_some, nI_1, g4, bx_some, mo_g12 D4, bx_some, r12', bx_some, show nI (no l + 1) - 1 = nI (no l) from nI_pred _]
    · rw [G.1, z2, kz]
      obtain ⟨W1, W2, W3, W4⟩ := W.more (Nat.le_succ mem.1)
      refine ⟨W1, W2, W3, fun i i1 i2 => ?_⟩
      obtain ⟨s1, s2, s3⟩ := W4 i i1 i2
      refine ⟨s1, s2, fun q hq => ?_⟩
      dsimp only
      by_cases e : i = l ∧ q = no l
      · obtain ⟨rfl, rfl⟩ := e
        rw [op_bl_s]; omega
      · rw [op_bl_n e]
        apply s3
        by_cases ei : i = l
        · subst ei
          rw [va_up_self] at hq
          have : q ≠ no i := fun z => e ⟨rfl, z⟩
          omega
        · rw [va_up_ne _ _ ei] at hq
          exact hq
    · exact mo_wf G (by rw [z2, kz]; have := W.2.1; omega) ((F.tr F2).2.2 wf)
