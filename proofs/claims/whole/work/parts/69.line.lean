/-! line -/
theorem c_Linit {mem : mx_Mem} {n : Nat} (h : mem.2 n = some (.inr (1, [.int 0, .int 0, .int 0, .long 0, .long 0, .long 0, .long 0, .long 0]))) (v1 v2 v3 : Int32) (v4 v6 : Int64) : f_Li_init n v1 v2 v3 v4 v6 mem = some (mem.1, va_up mem.2 n (some (.inr (1, [.int v1, .int v2, .int v3, .long v4, .long v6, .long 0, .long 0, .long v4])))) := by
  unfold f_Li_init
  simp [mx_p, mx_O, h, va_up_self, bx_uu]
theorem cl_wr {mem : mx_Mem} {f : Nat → Option Nat} {b kd n j : Nat} (h : mem.2 b = some (cl_qs f kd n)) (hj : j < n) (hn : n < 2 ^ 31) (v : Option Nat) : mx_as mem (some b) kd (nI j) v = some (mem.1, va_up mem.2 b (some (cl_qs (va_up f j v) kd n))) := by
  have hR : mx_R mem (some b) kd = some (b, (n, .inr (.inr (.inr (.inr f))))) := mx_R_of h
  have hc : (nI j).toNatClampNeg = j := nI_clamp (by omega)
  simp [mx_as, hR, hc, hj, cl_qs, nI_pos' (show j < 2 ^ 31 by omega)]
theorem cl_ln {mem : mx_Mem} {f : Nat → Option Nat} {b kd n : Nat} (h : mem.2 b = some (cl_qs f kd n)) : mx_al mem (some b) kd = some (nI n) := by
  have hR : mx_R mem (some b) kd = some (b, (n, .inr (.inr (.inr (.inr f))))) := mx_R_of h
  simp [mx_al, hR, nI]
section LN
variable {o a nl nd : Nat} {th : Int32} {fi no ch : Nat → Nat} {bl : Nat → Nat → Nat} {A A' : Nat → Nat → Int32} {B B' : Nat → Nat → Int64} {L : cl_L} {od : Nat → Nat} {dp : Nat → Int64} {PI : Nat → Nat → Int32} {PL : Nat → Nat → Int64} {mem mem' : mx_Mem}
/-- the numbers with a line more -/
theorem sg_line (V : sg_V nl nd fi no ch bl A B) (hB : sg_B nl B) (hD : sg_D nd no A B) (hZ : sg_Z nl nd A B) (O : sg_O nd fi B od) {v3 v5 : Int64} (hn : nl < 12) (g1 : 0 ≤ v3.toInt) (g2 : v3.toInt < v5.toInt) (g3 : v5.toInt ≤ 10000) (hA : ∀ k, k ≠ 1 → k ≠ 2 → A' k = A k) (hb3 : B' 3 = vp_updL (B 3) (nl + 1) v3) (hb4 : B' 4 = vp_updL (B 4) (nl + 1) v5) (hb : ∀ k, k ≠ 3 → k ≠ 4 → B' k = B k) : sg_V (nl + 1) nd fi no ch bl A' B' ∧ sg_B (nl + 1) B' ∧ sg_D nd no A' B' ∧ sg_Z (nl + 1) nd A' B' ∧ sg_O nd fi B' od := by
  obtain ⟨-, hd, hV, hO⟩ := id V
  refine ⟨⟨by omega, hd, ?_, ?_⟩, ?_, ?_, ⟨?_, ?_⟩, O.1, ?_, O.2.2⟩
  · intro l l1 l2
    rw [hA 8 (by decide) (by decide), hA 12 (by decide) (by decide), hA 13 (by decide) (by decide)]
    obtain ⟨e8, f1, f2, r⟩ := hV l l1 l2
    exact ⟨e8, f1, by omega, r⟩
  · intro l q l1 l2 l3
    obtain ⟨e8, f1, f2, r⟩ := hV l l1 l2
    obtain ⟨s1, s2, s3⟩ := hO l q l1 l2 l3
    rw [hA 14 (by decide) (by decide), hA 15 (by decide) (by decide), hb3, uL_n (by omega), uL_n (by omega)]
    exact ⟨s1, by omega, s3⟩
  · intro x x1 x2
    rw [hb3, hb4, hb 5 (by decide) (by decide), hb 6 (by decide) (by decide)]
    by_cases e : x = nl + 1
    · subst e
      obtain ⟨z1, z2⟩ := hZ.1 (nl + 1) (by omega) (by omega)
      rw [uL_s, uL_s, z1, z2, show (0 : Int64).toInt = 0 from rfl]
      omega
    · rw [uL_n e, uL_n e]
      exact hB x x1 (by omega)
  · unfold sg_D
    rw [hb 10 (by decide) (by decide), hb 16 (by decide) (by decide), hA 11 (by decide) (by decide)]
    exact hD
  · intro x x1 x2
    rw [hb 5 (by decide) (by decide), hb 6 (by decide) (by decide)]
    exact hZ.1 x (by omega) x2
  · rw [hA 12 (by decide) (by decide), hA 13 (by decide) (by decide)]
    exact hZ.2
  · intro j j' h1 h2
    obtain ⟨o1, o2⟩ := O.1 j (by omega)
    obtain ⟨o3, o4⟩ := O.1 j' h2
    obtain ⟨-, f1, f2, -⟩ := hV _ o1 o2
    obtain ⟨-, f3, f4, -⟩ := hV _ o3 o4
    rw [hb3, uL_n (by omega), uL_n (by omega)]
    exact O.2.1 j j' h1 h2
set_option maxHeartbeats 1000000 in
/-- the class's cells with a line more -/
theorem cl_line (c : cl_R o nl nd fi no bl A B L od dp PI PL mem) (V : sg_V nl nd fi no ch bl A B) (wf : mx_wf mem) (hZ : sg_Z nl nd A B) {v1 v2 : Int32} {v3 v5 : Int64} (hn : nl < 12) (hA1 : A' 1 = upd (A 1) (nl + 1) v1) (hA2 : A' 2 = upd (A 2) (nl + 1) v2) (hA : ∀ k, k ≠ 1 → k ≠ 2 → A' k = A k) (hb3 : B' 3 = vp_updL (B 3) (nl + 1) v3) (hb4 : B' 4 = vp_updL (B 4) (nl + 1) v5) (hb : ∀ k, k ≠ 3 → k ≠ 4 → B' k = B k) :
    ∃ f mem', mem.2 (o + 1) = some (cl_qs f 0 12) ∧ mem' = (mem.1 + 1, va_up (va_up (va_up mem.2 mem.1 (some (.inr (1, [.int (nI (nl + 1)), .int v1, .int v2, .long v3, .long v5, .long 0, .long 0, .long v3])))) (o + 1) (some (cl_qs (va_up f nl (some mem.1)) 0 12))) o (some (cl_ob o (nl + 1) nd))) ∧ cl_R o (nl + 1) nd fi no bl A' B' (va_up L.1 (nl + 1) mem.1, L.2) od (vp_updL dp (nl + 1) v3) PI PL mem' ∧ cl_F mem mem' := by
  obtain ⟨hn12, hd, hV, hO⟩ := id V
  obtain ⟨g1, ⟨f2, g2, g2'⟩, ⟨f3, g3, g3'⟩, ⟨f4, g4, g4'⟩, g5, g6, g7, g8, g9, g10, g11⟩ := id c
  have fresh : ∀ {b : Nat} {e : mx_E}, mem.2 b = some e → b ≠ mem.1 := fun h q => by rw [q, wf mem.1 (Nat.le_refl _)] at h; cases h
  have keep : ∀ {b : Nat} {e : mx_E}, mem.2 b = some e → b ≠ o → b ≠ o + 1 → va_up (va_up (va_up mem.2 mem.1 (some (.inr (1, [.int (nI (nl + 1)), .int v1, .int v2, .long v3, .long v5, .long 0, .long 0, .long v3])))) (o + 1) (some (cl_qs (va_up f2 nl (some mem.1)) 0 12))) o (some (cl_ob o (nl + 1) nd)) b = some e := fun h h1 h2 => by rw [va_up_ne _ _ h1, va_up_ne _ _ h2, va_up_ne _ _ (fresh h)]; exact h
  refine ⟨f2, _, g2, rfl, ⟨?_, ⟨va_up f2 nl (some mem.1), ?_, ?_⟩, ⟨f3, keep g3 (by omega) (by omega), g3'⟩, ⟨f4, keep g4 (by omega) (by omega), g4'⟩, ?_, ?_, ?_, ?_, g9, g10, ?_⟩, ?_, ?_, ?_⟩
  · exact va_up_self _ _ _
  · dsimp only
    rw [va_up_ne _ _ (by omega), va_up_self]
  · intro j hj
    dsimp only
    by_cases e : j = nl
    · subst e; rw [va_up_self, va_up_self]
    · rw [va_up_ne _ _ e, va_up_ne _ _ (show j + 1 ≠ nl + 1 by omega)]
      exact g2' j (by omega)
  · intro i i1 i2
    dsimp only
    by_cases e : i = nl + 1
    · subst e
      have q1 : mem.1 ≠ o := fun q => fresh g1 q.symm
      have q2 : mem.1 ≠ o + 1 := fun q => fresh g2 q.symm
      obtain ⟨z1, z2⟩ := hZ.1 (nl + 1) (by omega) (by omega)
      rw [va_up_self, va_up_ne _ _ q1, va_up_ne _ _ q2, va_up_self]
      unfold cl_lf
      rw [hA1, hA2, hb3, hb4, hb 5 (by decide) (by decide), hb 6 (by decide) (by decide), uI_s, uI_s, uL_s, uL_s, uL_s, z1, z2]
    · have hi := g5 i i1 (by omega)
      have el : cl_lf A' B' (vp_updL dp (nl + 1) v3) i = cl_lf A B dp i := by
        unfold cl_lf
        rw [hA1, hA2, hb3, hb4, hb 5 (by decide) (by decide), hb 6 (by decide) (by decide), uI_n e, uI_n e, uL_n e, uL_n e, uL_n e]
      rw [va_up_ne _ _ e, el]
      exact keep hi (cl_ne hi g1 (by simp [cl_tag, cl_ob])) (cl_ne hi g2 (by simp [cl_tag, cl_qs]))
  · intro l l1 l2
    dsimp only
    have hi := g6 l l1 l2
    obtain ⟨-, f1, f2', -⟩ := hV l l1 l2
    have el : cl_df fi no A' B' (va_up L.1 (nl + 1) mem.1, L.2) PI PL l = cl_df fi no A B L PI PL l := by
      unfold cl_df
      dsimp only
      rw [hA 9 (by decide) (by decide), hA 11 (by decide) (by decide), hb 10 (by decide) (by decide), va_up_ne _ _ (show fi l ≠ nl + 1 by omega)]
    rw [el]
    exact keep hi (cl_ne hi g1 (by simp [cl_tag, cl_ob])) (cl_ne hi g2 (by simp [cl_tag, cl_qs]))
  · intro l l1 l2
    obtain ⟨f, q1, q2⟩ := g7 l l1 l2
    exact ⟨f, keep q1 (cl_ne q1 g1 (by simp [cl_tag, cl_ob, cl_qs])) (cl_ne q1 g2 (by simp [cl_tag, cl_qs])), q2⟩
  · intro l q l1 l2 l3
    dsimp only
    have hi := g8 l q l1 l2 l3
    obtain ⟨-, b1, -⟩ := hO l q l1 l2 l3
    have el : cl_of bl A' B' (va_up L.1 (nl + 1) mem.1, L.2) l q = cl_of bl A B L l q := by
      unfold cl_of cl_on
      dsimp only
      rw [hA 14 (by decide) (by decide), hb 16 (by decide) (by decide), va_up_ne _ _ (show bl l q ≠ nl + 1 by omega)]
    rw [el]
    exact keep hi (cl_ne hi g1 (by simp [cl_tag, cl_ob])) (cl_ne hi g2 (by simp [cl_tag, cl_qs]))
  · intro i i' i1 i2 i3 i4
    dsimp only
    by_cases e : i = nl + 1
    · by_cases e' : i' = nl + 1
      · intro _; omega
      · subst e
        rw [va_up_self, va_up_ne _ _ e']
        exact fun q => absurd q.symm (fresh (g5 i' i3 (by omega)))
    · by_cases e' : i' = nl + 1
      · subst e'
        rw [va_up_self, va_up_ne _ _ e]
        exact fun q => absurd q (fresh (g5 i i1 (by omega)))
      · rw [va_up_ne _ _ e, va_up_ne _ _ e']
        exact g11 i i' i1 (by omega) i3 (by omega)
  · exact Nat.le_succ _
  · intro b e h hk
    exact keep h (fun q => absurd rfl (cl_nk (q ▸ g1 : mem.2 b = _) h rfl hk)) (fun q => absurd rfl (cl_nk (q ▸ g2 : mem.2 b = _) h rfl hk))
  · intro _ b hb1
    dsimp only at hb1 ⊢
    have n1 : b ≠ o := fun q => by rw [q] at hb1; have := wf o; rw [this (by omega)] at g1; cases g1
    have n2 : b ≠ o + 1 := fun q => by rw [q] at hb1; have := wf (o + 1); rw [this (by omega)] at g2; cases g2
    rw [va_up_ne _ _ n1, va_up_ne _ _ n2, va_up_ne _ _ (by omega)]
    exact wf b (by omega)
end LN
