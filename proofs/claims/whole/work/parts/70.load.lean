/-! load: the class's order of loads, its cells with a load more -/
def od_in (od : Nat → Nat) (p n : Nat) : Nat → Nat := fun j => if j < p then od j else if j = p then n else od (j - 1)
section LD
variable {o a nl nd : Nat} {th : Int32} {fi no ch : Nat → Nat} {bl : Nat → Nat → Nat} {A A' : Nat → Nat → Int32} {B B' : Nat → Nat → Int64} {L : cl_L} {od : Nat → Nat} {dp : Nat → Int64} {PI : Nat → Nat → Int32} {PL : Nat → Nat → Int64} {mem mem' : mx_Mem}
/-- fileByLeaving: only the array at o + 3 changes -/
theorem c_file {g : Nat → Option mx_E} {z n x : Nat} {f0 : Nat → Option Nat} {fn : List Value} (hd : nd < 6) (hod : ∀ j, j < nd → 1 ≤ od j ∧ od j ≤ nd) (hfi : ∀ l, 1 ≤ l → l ≤ nd → 1 ≤ fi l ∧ fi l ≤ nl) (x1 : 1 ≤ x) (x2 : x ≤ nl)
    (g0 : g o = some (cl_ob o nl nd)) (g3 : g (o + 3) = some (cl_qs f0 1 6)) (gl : ∀ l, 1 ≤ l → l ≤ nd → ∃ fs : List Value, g (L.2.1 l) = some (.inr (3, fs)) ∧ fs[0]? = some (.ref (L.1 (fi l)))) (gi : ∀ i, 1 ≤ i → i ≤ nl → g (L.1 i) = some (.inr (1, cl_lf A B dp i))) (gn : g n = some (.inr (3, fn))) (hfn : fn[0]? = some (.ref (L.1 x))) :
    ∀ (p k : Nat) (f : Nat → Option Nat), p < k → p ≤ nd → (∀ j, j < p → f j = some (L.2.1 (od j))) → (∀ j, p ≤ j → j < nd → f (j + 1) = some (L.2.1 (od j)) ∧ B 3 x < B 3 (fi (od j))) →
    ∃ p' f', p' ≤ nd ∧ fl_LR_fileByLeaving_5 k (some o) (some n) (nI p) (z, va_up g (o + 3) (some (cl_qs f 1 6))) = some (z, va_up g (o + 3) (some (cl_qs f' 1 6))) ∧ (∀ j, j < p' → f' j = some (L.2.1 (od j))) ∧ f' p' = some n ∧ (∀ j, p' ≤ j → j < nd → f' (j + 1) = some (L.2.1 (od j)) ∧ B 3 x < B 3 (fi (od j))) ∧ (p' = 0 ∨ B 3 (fi (od (p' - 1))) ≤ B 3 x) := by
  have up : ∀ {b : Nat} {e : mx_E} (f : Nat → Option Nat), g b = some e → cl_tag e ≠ 101 → (va_up g (o + 3) (some (cl_qs f 1 6))) b = some e := by
    intro b e f hb ht
    rw [va_up_ne _ _ (fun q => by rw [q, g3] at hb; cases hb; exact ht rfl)]
    exact hb
  have end1 : ∀ (f : Nat → Option Nat) (p : Nat), p ≤ nd → mx_as (z, va_up g (o + 3) (some (cl_qs f 1 6))) (some (o + 3)) 1 (nI p) (some n) = some (z, va_up g (o + 3) (some (cl_qs (va_up f p (some n)) 1 6))) := by
    intro f p hp
    rw [cl_wr (mem := (z, va_up g (o + 3) (some (cl_qs f 1 6)))) (va_up_self _ _ _) (by omega) (by decide)]
    dsimp only
    rw [bx_uu]
  have cn : ∀ (f : Nat → Option Nat), mx_cn (z, va_up g (o + 3) (some (cl_qs f 1 6))) (some n) 3 = some () := by
    intro f
    have := up f gn (by simp [cl_tag])
    simp [mx_cn, mx_O, this]
  have gr3 : ∀ (f : Nat → Option Nat), mx_gr (z, va_up g (o + 3) (some (cl_qs f 1 6))) (some o) 0 3 = some (some (o + 3)) := by
    intro f
    have := up f g0 (by simp [cl_tag, cl_ob])
    simp [mx_gr, mx_O_of (mem := (z, va_up g (o + 3) (some (cl_qs f 1 6)))) this]
  intro p
  induction p with
  | zero =>
    intro k f hk hp hI1 hI2
    obtain ⟨k, rfl⟩ : ∃ k', k = k' + 1 := ⟨k - 1, by omega⟩
    refine ⟨0, va_up f 0 (some n), by omega, ?_, fun j hj => by omega, va_up_self _ _ _, fun j j1 j2 => ?_, Or.inl rfl⟩
    · rw [fl_LR_fileByLeaving_5, if_pos (by decide), gr3, bx_some, cn, bx_some, end1 f 0 (by omega), bx_some]
    · rw [va_up_ne _ _ (by omega)]
      exact hI2 j j1 j2
  | succ p ih =>
    intro k f hk hp hI1 hI2
    obtain ⟨k, rfl⟩ : ∃ k', k = k' + 1 := ⟨k - 1, by omega⟩
    obtain ⟨o1, o2⟩ := hod p (by omega)
    obtain ⟨q1, q2⟩ := hfi _ o1 o2
    obtain ⟨fs, s1, s2⟩ := gl _ o1 o2
    have e1 : nI (p + 1) - 1 = nI p := nI_pred p
    have rd : mx_ag (z, va_up g (o + 3) (some (cl_qs f 1 6))) (some (o + 3)) 1 (nI p) = some (some (L.2.1 (od p))) := cl_rd (mem := (z, va_up g (o + 3) (some (cl_qs f 1 6)))) (va_up_self _ _ _) (by omega) (by decide) (hI1 p (by omega))
    have t1 := up f s1 (by simp [cl_tag])
    have r1 : mx_gr (z, va_up g (o + 3) (some (cl_qs f 1 6))) (some (L.2.1 (od p))) 3 0 = some (some (L.1 (fi (od p)))) := by simp [mx_gr, mx_O_of (mem := (z, va_up g (o + 3) (some (cl_qs f 1 6)))) t1, s2]
    have t2 := up f (gi _ q1 q2) (by simp [cl_tag])
    have r2 : mx_gl (z, va_up g (o + 3) (some (cl_qs f 1 6))) (some (L.1 (fi (od p)))) 1 3 = some (B 3 (fi (od p))) := by simp [mx_gl, mx_O_of (mem := (z, va_up g (o + 3) (some (cl_qs f 1 6)))) t2, cl_lf]
    have t3 := up f gn (by simp [cl_tag])
    have r3 : mx_gr (z, va_up g (o + 3) (some (cl_qs f 1 6))) (some n) 3 0 = some (some (L.1 x)) := by simp [mx_gr, mx_O_of (mem := (z, va_up g (o + 3) (some (cl_qs f 1 6)))) t3, hfn]
    have t4 := up f (gi _ x1 x2) (by simp [cl_tag])
    have r4 : mx_gl (z, va_up g (o + 3) (some (cl_qs f 1 6))) (some (L.1 x)) 1 3 = some (B 3 x) := by simp [mx_gl, mx_O_of (mem := (z, va_up g (o + 3) (some (cl_qs f 1 6)))) t4, cl_lf]
    have cnl : mx_cn (z, va_up g (o + 3) (some (cl_qs f 1 6))) (some (L.2.1 (od p))) 3 = some () := by simp [mx_cn, mx_O_of (mem := (z, va_up g (o + 3) (some (cl_qs f 1 6)))) t1]
    have nle : ¬ nI (p + 1) ≤ 0 := fun q => by have := (nI_le0 (n := p + 1) (by omega)).mp q; omega
    by_cases cc : B 3 (fi (od p)) ≤ B 3 x
    · refine ⟨p + 1, va_up f (p + 1) (some n), hp, ?_, fun j hj => ?_, va_up_self _ _ _, fun j j1 j2 => ?_, Or.inr ?_⟩
      · rw [fl_LR_fileByLeaving_5, if_neg nle, gr3, bx_some, e1, rd, bx_some, r1, bx_some, r2, bx_some, r3, bx_some, r4, bx_some, if_pos cc, bx_some, cn, bx_some, end1 f (p + 1) hp, bx_some]
      · rw [va_up_ne _ _ (by omega)]; exact hI1 j hj
      · rw [va_up_ne _ _ (by omega)]; exact hI2 j j1 j2
      · exact cc
    · have w1 : mx_as (z, va_up g (o + 3) (some (cl_qs f 1 6))) (some (o + 3)) 1 (nI (p + 1)) (some (L.2.1 (od p))) = some (z, va_up g (o + 3) (some (cl_qs (va_up f (p + 1) (some (L.2.1 (od p)))) 1 6))) := by
        rw [cl_wr (mem := (z, va_up g (o + 3) (some (cl_qs f 1 6)))) (va_up_self _ _ _) (by omega) (by decide)]
        dsimp only
        rw [bx_uu]
      obtain ⟨p', f', a1, a2, a3⟩ := ih k (va_up f (p + 1) (some (L.2.1 (od p)))) (by omega) (by omega) (fun j hj => by rw [va_up_ne _ _ (by omega)]; exact hI1 j (by omega)) (fun j j1 j2 => by
        by_cases ej : j = p
        · subst ej
          rw [va_up_self]
          exact ⟨rfl, by rw [l_ltI]; rw [l_leI] at cc; omega⟩
        · rw [va_up_ne _ _ (by omega)]
          exact hI2 j (by omega) j2)
      refine ⟨p', f', a1, ?_, a3⟩
      rw [fl_LR_fileByLeaving_5, if_neg nle, gr3, bx_some, e1, rd, bx_some, r1, bx_some, r2, bx_some, r3, bx_some, r4, bx_some, if_neg cc, bx_some, bx_some, rd, bx_some, cnl, bx_some, w1, bx_some, show nI (p + 1) + (-1) = nI p from pk_m1 p]
      exact a2
/-- the order of loads with one more -/
theorem sg_in (O : sg_O nd fi B od) {p x : Nat} (hp : p ≤ nd) (h1 : ∀ j, p ≤ j → j < nd → B 3 x < B 3 (fi (od j))) (h2 : p = 0 ∨ B 3 (fi (od (p - 1))) ≤ B 3 x) : sg_O (nd + 1) (va_up fi (nd + 1) x) B (od_in od p (nd + 1)) := by
  have val : ∀ j, j < nd + 1 → (va_up fi (nd + 1) x) (od_in od p (nd + 1) j) = if j < p then fi (od j) else if j = p then x else fi (od (j - 1)) := by
    intro j hj
    unfold od_in
    by_cases c1 : j < p
    · rw [if_pos c1, if_pos c1]
      have := O.1 j (by omega)
      exact va_up_ne _ _ (by omega)
    · rw [if_neg c1, if_neg c1]
      by_cases c2 : j = p
      · rw [if_pos c2, if_pos c2]; exact va_up_self _ _ _
      · rw [if_neg c2, if_neg c2]
        have := O.1 (j - 1) (by omega)
        exact va_up_ne _ _ (by omega)
  have low : ∀ j, j < p → B 3 (fi (od j)) ≤ B 3 x := by
    intro j hj
    have q2 := h2.resolve_left (by omega)
    have q1 := O.2.1 j (p - 1) (by omega) (by omega)
    rw [l_leI] at *
    omega
  refine ⟨fun j hj => ?_, fun j j' hj hj' => ?_, fun l l1 l2 => ?_⟩
  · unfold od_in
    split
    · have := O.1 j (by omega); omega
    · split
      · omega
      · have := O.1 (j - 1) (by omega); omega
  · rw [val j (by omega), val j' hj']
    by_cases c1 : j < p
    · rw [if_pos c1]
      by_cases c2 : j' < p
      · rw [if_pos c2]; exact O.2.1 j j' hj (by omega)
      · rw [if_neg c2]
        by_cases c3 : j' = p
        · rw [if_pos c3]; exact low j c1
        · rw [if_neg c3]
          have q1 := low j c1
          have q2 := h1 (j' - 1) (by omega) (by omega)
          rw [l_leI] at *
          rw [l_ltI] at q2
          omega
    · rw [if_neg c1, if_neg (show ¬ j' < p by omega)]
      by_cases c3 : j = p
      · rw [if_pos c3]
        by_cases c4 : j' = p
        · rw [if_pos c4]; exact Int64.le_refl _
        · rw [if_neg c4]
          have q2 := h1 (j' - 1) (by omega) (by omega)
          rw [l_ltI] at q2
          rw [l_leI]
          omega
      · rw [if_neg c3, if_neg (show ¬ j' = p by omega)]
        exact O.2.1 (j - 1) (j' - 1) (by omega) (by omega)
  · by_cases e : l = nd + 1
    · subst e
      refine ⟨p, by omega, ?_⟩
      unfold od_in
      rw [if_neg (by omega), if_pos rfl]
    · obtain ⟨j, j1, j2⟩ := O.2.2 l l1 (by omega)
      by_cases c1 : j < p
      · exact ⟨j, by omega, by unfold od_in; rw [if_pos c1]; exact j2⟩
      · exact ⟨j + 1, by omega, by unfold od_in; rw [if_neg (by omega), if_neg (by omega)]; exact j2⟩
/-- the numbers with a load more -/
theorem sg_load (V : sg_V nl nd fi no ch bl A B) (hB : sg_B nl B) (hD : sg_D nd no A B) (hZ : sg_Z nl nd A B) {x : Nat} {v3 : Int64} {v5 : Int32} (hd : nd < 6) (x1 : 1 ≤ x) (x2 : x ≤ nl) (g1 : 0 ≤ v3.toInt) (g2 : v3.toInt ≤ 20000) (g3 : 1 ≤ v5.toInt) (g4 : v5.toInt ≤ 100) (h8 : A' 8 = upd (A 8) (nd + 1) (nI x)) (h11 : A' 11 = upd (A 11) (nd + 1) v5) (hA : ∀ k, k ≠ 8 → k ≠ 9 → k ≠ 11 → A' k = A k) (h10 : B' 10 = vp_updL (B 10) (nd + 1) v3) (hb : ∀ k, k ≠ 10 → B' k = B k) : sg_V nl (nd + 1) (va_up fi (nd + 1) x) (va_up no (nd + 1) 0) (va_up ch (nd + 1) 0) bl A' B' ∧ sg_B nl B' ∧ sg_D (nd + 1) (va_up no (nd + 1) 0) A' B' ∧ sg_Z nl (nd + 1) A' B' := by
  obtain ⟨hn, -, hV, hO⟩ := id V
  refine ⟨⟨hn, by omega, ?_, ?_⟩, ?_, ?_, ⟨?_, ?_⟩⟩
  · intro l l1 l2
    rw [h8, hA 12 (by decide) (by decide) (by decide), hA 13 (by decide) (by decide) (by decide)]
    by_cases e : l = nd + 1
    · subst e
      obtain ⟨z1, z2⟩ := hZ.2 (nd + 1) (by omega) (by omega)
      rw [uI_s, va_up_self, va_up_self, va_up_self, z1, z2]
      exact ⟨rfl, x1, x2, rfl, by omega, rfl, by omega, Or.inr ⟨rfl, rfl⟩⟩
    · rw [uI_n e, va_up_ne _ _ e, va_up_ne _ _ e, va_up_ne _ _ e]
      exact hV l l1 (by omega)
  · intro l q l1 l2 l3
    rw [hA 14 (by decide) (by decide) (by decide), hA 15 (by decide) (by decide) (by decide), hb 3 (by decide)]
    by_cases e : l = nd + 1
    · subst e
      rw [va_up_self] at l3
      omega
    · rw [va_up_ne _ _ e] at l3
      rw [va_up_ne _ _ e]
      exact hO l q l1 (by omega) l3
  · unfold sg_B
    rw [hb 3 (by decide), hb 4 (by decide), hb 5 (by decide), hb 6 (by decide)]
    exact hB
  · intro l l1 l2
    rw [h10, h11, hb 16 (by decide)]
    by_cases e : l = nd + 1
    · subst e
      rw [uL_s, uI_s, va_up_self]
      exact ⟨g1, g2, g3, g4, fun q hq => by omega⟩
    · rw [uL_n e, uI_n e, va_up_ne _ _ e]
      exact hD l l1 (by omega)
  · rw [hb 5 (by decide), hb 6 (by decide)]
    exact hZ.1
  · intro l l1 l2
    rw [hA 12 (by decide) (by decide) (by decide), hA 13 (by decide) (by decide) (by decide)]
    exact hZ.2 l (by omega) l2
end LD
