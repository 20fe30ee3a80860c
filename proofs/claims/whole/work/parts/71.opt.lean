/-! option -/
def op_bl (bl : Nat → Nat → Nat) (l k y : Nat) : Nat → Nat → Nat := fun l' q => if l' = l ∧ q = k then y else bl l' q
theorem op_bl_s {bl : Nat → Nat → Nat} {l k y : Nat} : op_bl bl l k y l k = y := by unfold op_bl; rw [if_pos ⟨rfl, rfl⟩]
theorem op_bl_n {bl : Nat → Nat → Nat} {l k y l' q : Nat} (h : ¬ (l' = l ∧ q = k)) : op_bl bl l k y l' q = bl l' q := by unfold op_bl; rw [if_neg h]
section OP
variable {o a nl nd : Nat} {th : Int32} {fi no ch : Nat → Nat} {bl : Nat → Nat → Nat} {A A' : Nat → Nat → Int32} {B B' : Nat → Nat → Int64} {L : cl_L} {od : Nat → Nat} {dp : Nat → Int64} {PI : Nat → Nat → Int32} {PL : Nat → Nat → Int64} {mem mem' : mx_Mem}
/-- the numbers with an option more -/
theorem sg_opt (V : sg_V nl nd fi no ch bl A B) (hB : sg_B nl B) (hD : sg_D nd no A B) (hZ : sg_Z nl nd A B) (O : sg_O nd fi B od) {l y : Nat} {v2 : Int32} {v4 : Int64} (l1 : 1 ≤ l) (l2 : l ≤ nd) (hno : no l < 4) (hy : y ≤ nl) (hk : (v2 = 2 ∧ y = 0) ∨ ((v2 = 0 ∨ v2 = 1) ∧ 1 ≤ y ∧ B 3 (fi l) < B 3 y)) (g1 : 0 ≤ v4.toInt) (g2 : v4.toInt ≤ 10000) (h12 : A' 12 = upd (A 12) l (nI (no l + 1))) (h14 : A' 14 = upd (A 14) (4 * l + no l) v2) (h15 : A' 15 = upd (A 15) (4 * l + no l) (nI y)) (hA : ∀ k, k ≠ 12 → k ≠ 14 → k ≠ 15 → A' k = A k) (h16 : B' 16 = vp_updL (B 16) (4 * l + no l) v4) (hb : ∀ k, k ≠ 16 → B' k = B k) :
    sg_V nl nd fi (va_up no l (no l + 1)) ch (op_bl bl l (no l) y) A' B' ∧ sg_B nl B' ∧ sg_D nd (va_up no l (no l + 1)) A' B' ∧ sg_Z nl nd A' B' ∧ sg_O nd fi B' od := by
  obtain ⟨hn, hd, hV, hO⟩ := id V
  refine ⟨⟨hn, hd, ?_, ?_⟩, ?_, ?_, ⟨?_, ?_⟩, ?_⟩
  · intro i i1 i2
    rw [hA 8 (by decide) (by decide) (by decide), h12, hA 13 (by decide) (by decide) (by decide)]
    obtain ⟨e8, f1, f2, e12, n4, e13, c4, cn⟩ := hV i i1 i2
    by_cases e : i = l
    · subst e
      rw [uI_s, va_up_self]
      exact ⟨e8, f1, f2, rfl, by omega, e13, c4, Or.inl (by omega)⟩
    · rw [uI_n e, va_up_ne _ _ e]
      exact ⟨e8, f1, f2, e12, n4, e13, c4, cn⟩
  · intro i q i1 i2 i3
    obtain ⟨e8, f1, f2, e12, n4, e13, c4, cn⟩ := hV i i1 i2
    rw [h14, h15, hb 3 (by decide)]
    by_cases e : i = l ∧ q = no l
    · obtain ⟨rfl, rfl⟩ := e
      rw [uI_s, uI_s, op_bl_s]
      exact ⟨rfl, hy, hk⟩
    · have i3' : q < no i := by
        by_cases ei : i = l
        · subst ei
          rw [va_up_self] at i3
          have : q ≠ no i := fun z => e ⟨rfl, z⟩
          omega
        · rw [va_up_ne _ _ ei] at i3
          exact i3
      have ne : 4 * i + q ≠ 4 * l + no l := by
        intro z
        have : i = l := by omega
        exact e ⟨this, by omega⟩
      rw [uI_n ne, uI_n ne, op_bl_n e]
      exact hO i q i1 i2 i3'
  · unfold sg_B
    rw [hb 3 (by decide), hb 4 (by decide), hb 5 (by decide), hb 6 (by decide)]
    exact hB
  · intro i i1 i2
    rw [hb 10 (by decide), hA 11 (by decide) (by decide) (by decide), h16]
    obtain ⟨s1, s2, s3, s4, s5⟩ := hD i i1 i2
    obtain ⟨e8, f1, f2, e12, n4, e13, c4, cn⟩ := hV i i1 i2
    refine ⟨s1, s2, s3, s4, fun q hq => ?_⟩
    by_cases e : i = l ∧ q = no l
    · obtain ⟨rfl, rfl⟩ := e
      rw [uL_s]
      exact ⟨g1, g2⟩
    · have i3' : q < no i := by
        by_cases ei : i = l
        · subst ei
          rw [va_up_self] at hq
          have : q ≠ no i := fun z => e ⟨rfl, z⟩
          omega
        · rw [va_up_ne _ _ ei] at hq
          exact hq
      have ne : 4 * i + q ≠ 4 * l + no l := by
        intro z
        have : i = l := by omega
        exact e ⟨this, by omega⟩
      rw [uL_n ne]
      exact s5 q i3'
  · rw [hb 5 (by decide), hb 6 (by decide)]
    exact hZ.1
  · intro i i1 i2
    rw [h12, hA 13 (by decide) (by decide) (by decide), uI_n (by omega)]
    exact hZ.2 i i1 i2
  · unfold sg_O
    rw [hb 3 (by decide)]
    exact O
set_option maxHeartbeats 1000000 in
theorem cl_opt (c : cl_R o nl nd fi no bl A B L od dp PI PL mem) (V : sg_V nl nd fi no ch bl A B) (wf : mx_wf mem) {l y : Nat} {v2 : Int32} {v4 : Int64} (l1 : 1 ≤ l) (l2 : l ≤ nd) (hno : no l < 4) (h14 : A' 14 = upd (A 14) (4 * l + no l) v2) (hA : ∀ k, k ≠ 12 → k ≠ 14 → k ≠ 15 → A' k = A k) (h16 : B' 16 = vp_updL (B 16) (4 * l + no l) v4) (hb : ∀ k, k ≠ 16 → B' k = B k)
    {M : mx_Mem} {f : Nat → Option Nat} {pv : Int32} (hz : M.1 = mem.1 + 1) (hn : M.2 mem.1 = some (.inr (2, [.int v2, va_rf (if y = 0 then none else some (L.1 y)), .long v4]))) (hoa : M.2 (L.2.2.1 l) = some (cl_qs f 2 4)) (hf : ∀ q, q < no l + 1 → f q = some (op_bl L.2.2.2 l (no l) mem.1 l q)) (hlo : M.2 (L.2.1 l) = some (.inr (3, [.ref (L.1 (fi l)), .int (A 9 l), .long (B 10 l), .int (A 11 l), .ref (L.2.2.1 l), .int (nI (no l + 1)), .int pv, .int (PI 7 l), .long (PL 8 l), .long (PL 9 l), .long (PL 10 l), .int (PI 11 l)]))) (hk : ∀ b, b ≠ mem.1 → b ≠ L.2.2.1 l → b ≠ L.2.1 l → M.2 b = mem.2 b) :
    cl_R o nl nd fi (va_up no l (no l + 1)) (op_bl bl l (no l) y) A' B' (L.1, L.2.1, L.2.2.1, op_bl L.2.2.2 l (no l) mem.1) od dp (va_up PI 6 (upd (PI 6) l pv)) PL M ∧ cl_F mem M := by
  obtain ⟨g1, ⟨e2, g2, g2'⟩, ⟨e3, g3, g3'⟩, ⟨e4, g4, g4'⟩, g5, g6, g7, g8, g9, g10, g11⟩ := id c
  obtain ⟨hn12, hd, hV, hO⟩ := id V
  obtain ⟨fo, go1, go2⟩ := g7 l l1 l2
  have gl := g6 l l1 l2
  have fresh : ∀ {b : Nat} {e : mx_E}, mem.2 b = some e → b ≠ mem.1 := fun h q => by rw [q, wf mem.1 (Nat.le_refl _)] at h; cases h
  have keep : ∀ {b : Nat} {e : mx_E}, mem.2 b = some e → b ≠ L.2.2.1 l → b ≠ L.2.1 l → M.2 b = some e := fun h q1 q2 => by rw [hk _ (fresh h) q1 q2]; exact h
  have keepT : ∀ {b : Nat} {e : mx_E}, mem.2 b = some e → cl_tag e ≠ 102 → cl_tag e ≠ 3 → M.2 b = some e := fun h q1 q2 => keep h (cl_ne h go1 q1) (cl_ne h gl q2)
  refine ⟨⟨keepT g1 (by simp [cl_tag, cl_ob]) (by simp [cl_tag, cl_ob]), ⟨e2, keepT g2 (by simp [cl_tag, cl_qs]) (by simp [cl_tag, cl_qs]), g2'⟩, ⟨e3, keepT g3 (by simp [cl_tag, cl_qs]) (by simp [cl_tag, cl_qs]), g3'⟩, ⟨e4, keepT g4 (by simp [cl_tag, cl_qs]) (by simp [cl_tag, cl_qs]), g4'⟩, ?_, ?_, ?_, ?_, g9, g10, g11⟩, ?_, ?_, ?_⟩
  · intro i i1 i2
    have el : cl_lf A' B' dp i = cl_lf A B dp i := by unfold cl_lf; rw [hA 1 (by decide) (by decide) (by decide), hA 2 (by decide) (by decide) (by decide), hb 3 (by decide), hb 4 (by decide), hb 5 (by decide), hb 6 (by decide)]
    rw [el]
    exact keepT (g5 i i1 i2) (by simp [cl_tag]) (by simp [cl_tag])
  · intro i i1 i2
    dsimp only
    by_cases e : i = l
    · subst e
      rw [hlo]
      unfold cl_df
      dsimp only
      rw [hA 9 (by decide) (by decide) (by decide), hA 11 (by decide) (by decide) (by decide), hb 10 (by decide), va_up_self, va_up_self, uI_s, va_up_ne PI _ (show 7 ≠ 6 by decide), va_up_ne PI _ (show 11 ≠ 6 by decide)]
    · have el : cl_df fi (va_up no l (no l + 1)) A' B' (L.1, L.2.1, L.2.2.1, op_bl L.2.2.2 l (no l) mem.1) (va_up PI 6 (upd (PI 6) l pv)) PL i = cl_df fi no A B L PI PL i := by
        unfold cl_df
        dsimp only
        rw [hA 9 (by decide) (by decide) (by decide), hA 11 (by decide) (by decide) (by decide), hb 10 (by decide), va_up_ne _ _ e, va_up_self, uI_n e, va_up_ne PI _ (show 7 ≠ 6 by decide), va_up_ne PI _ (show 11 ≠ 6 by decide)]
      rw [el]
      exact keep (g6 i i1 i2) (cl_ne (g6 i i1 i2) go1 (by simp [cl_tag, cl_qs])) (fun q => e (g9 i l i1 i2 l1 l2 q))
  · intro i i1 i2
    dsimp only
    by_cases e : i = l
    · subst e
      rw [va_up_self]
      exact ⟨f, hoa, hf⟩
    · rw [va_up_ne _ _ e]
      obtain ⟨f', q1, q2⟩ := g7 i i1 i2
      refine ⟨f', keep q1 (fun q => e (g10 i l i1 i2 l1 l2 q)) (cl_ne q1 gl (by simp [cl_tag, cl_qs])), fun q hq => ?_⟩
      rw [op_bl_n (fun z => e z.1)]
      exact q2 q hq
  · intro i q i1 i2 i3
    dsimp only
    obtain ⟨e8, f1, f2, e12, n4, e13, c4, cn⟩ := hV i i1 i2
    by_cases e : i = l ∧ q = no l
    · obtain ⟨rfl, rfl⟩ := e
      rw [op_bl_s, hn]
      unfold cl_of cl_on
      dsimp only
      rw [op_bl_s, h14, h16, uI_s, uL_s]
    · have i3' : q < no i := by
        by_cases ei : i = l
        · subst ei
          rw [va_up_self] at i3
          have : q ≠ no i := fun z => e ⟨rfl, z⟩
          omega
        · rw [va_up_ne _ _ ei] at i3
          exact i3
      have ne : 4 * i + q ≠ 4 * l + no l := by
        intro z
        have : i = l := by omega
        exact e ⟨this, by omega⟩
      have el : cl_of (op_bl bl l (no l) y) A' B' (L.1, L.2.1, L.2.2.1, op_bl L.2.2.2 l (no l) mem.1) i q = cl_of bl A B L i q := by
        unfold cl_of cl_on
        dsimp only
        rw [op_bl_n e, h14, h16, uI_n ne, uL_n ne]
      rw [op_bl_n e, el]
      exact keepT (g8 i q i1 i2 i3') (by simp [cl_tag]) (by simp [cl_tag])
  · rw [hz]; omega
  · intro b e h hkk
    exact keep h (fun q => absurd rfl (cl_nk (q ▸ go1 : mem.2 b = _) h rfl hkk)) (fun q => absurd rfl (cl_nk (q ▸ gl : mem.2 b = _) h rfl hkk))
  · intro _ b hb1
    rw [hz] at hb1
    have n1 : b ≠ L.2.2.1 l := fun q => by rw [← q, wf b (by omega)] at go1; cases go1
    have n2 : b ≠ L.2.1 l := fun q => by rw [← q, wf b (by omega)] at gl; cases gl
    rw [hk b (by omega) n1 n2]
    exact wf b (by omega)
theorem c_room (c : cl_R o nl nd fi no bl A B L od dp PI PL mem) {l : Nat} (l1 : 1 ≤ l) (l2 : l ≤ nd) (n4 : no l ≤ 4) : f_Lo_hasRoom (L.2.1 l) mem = some (if no l = 4 then 0 else 1, mem) := by
  obtain ⟨f, q1, -⟩ := c.2.2.2.2.2.2.1 l l1 l2
  have r5 : mx_gi mem (some (L.2.1 l)) 3 5 = some (nI (no l)) := by simp [mx_gi, cl_Ol c l1 l2, cl_df]
  have r4 : mx_gr mem (some (L.2.1 l)) 3 4 = some (some (L.2.2.1 l)) := by simp [mx_gr, cl_Ol c l1 l2, cl_df]
  unfold f_Lo_hasRoom
  rw [r5, bx_some, r4, bx_some, cl_ln q1, bx_some]
  by_cases e : no l = 4
  · rw [if_pos e, if_pos (by rw [nI_leI (by decide) (by omega)]; omega)]
  · rw [if_neg e, if_neg (by rw [nI_leI (by decide) (by omega)]; omega)]
end OP
