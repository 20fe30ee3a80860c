/-! THE CLASS'S CELLS: the object at o, its arrays at o + 1 .. o + 3; lines, loads, options' arrays, options at L's addresses -/
abbrev cl_L : Type := (Nat → Nat) × (Nat → Nat) × (Nat → Nat) × (Nat → Nat → Nat)
def cl_qs (f : Nat → Option Nat) (kd n : Nat) : mx_E := .inl (kd, n, .inr (.inr (.inr (.inr f))))
def cl_ob (o nl nd : Nat) : mx_E := .inr (0, [.ref (o + 1), .int (nI nl), .ref (o + 2), .ref (o + 3), .int (nI nd)])
def cl_lf (A : Nat → Nat → Int32) (B : Nat → Nat → Int64) (dp : Nat → Int64) (i : Nat) : List Value := [.int (nI i), .int (A 1 i), .int (A 2 i), .long (B 3 i), .long (B 4 i), .long (B 5 i), .long (B 6 i), .long (dp i)]
def cl_df (fi no : Nat → Nat) (A : Nat → Nat → Int32) (B : Nat → Nat → Int64) (L : cl_L) (PI : Nat → Nat → Int32) (PL : Nat → Nat → Int64) (l : Nat) : List Value := [.ref (L.1 (fi l)), .int (A 9 l), .long (B 10 l), .int (A 11 l), .ref (L.2.2.1 l), .int (nI (no l)), .int (PI 6 l), .int (PI 7 l), .long (PL 8 l), .long (PL 9 l), .long (PL 10 l), .int (PI 11 l)]
def cl_on (bl : Nat → Nat → Nat) (L : cl_L) (l q : Nat) : Option Nat := if bl l q = 0 then none else some (L.1 (bl l q))
def cl_of (bl : Nat → Nat → Nat) (A : Nat → Nat → Int32) (B : Nat → Nat → Int64) (L : cl_L) (l q : Nat) : List Value := [.int (A 14 (4 * l + q)), va_rf (cl_on bl L l q), .long (B 16 (4 * l + q))]
def cl_R (o nl nd : Nat) (fi no : Nat → Nat) (bl : Nat → Nat → Nat) (A : Nat → Nat → Int32) (B : Nat → Nat → Int64) (L : cl_L) (od : Nat → Nat) (dp : Nat → Int64) (PI : Nat → Nat → Int32) (PL : Nat → Nat → Int64) (mem : mx_Mem) : Prop :=
  mem.2 o = some (cl_ob o nl nd) ∧
  (∃ f, mem.2 (o + 1) = some (cl_qs f 0 12) ∧ ∀ j, j < nl → f j = some (L.1 (j + 1))) ∧
  (∃ f, mem.2 (o + 2) = some (cl_qs f 1 6) ∧ ∀ j, j < nd → f j = some (L.2.1 (j + 1))) ∧
  (∃ f, mem.2 (o + 3) = some (cl_qs f 1 6) ∧ ∀ j, j < nd → f j = some (L.2.1 (od j))) ∧
  (∀ i, 1 ≤ i → i ≤ nl → mem.2 (L.1 i) = some (.inr (1, cl_lf A B dp i))) ∧
  (∀ l, 1 ≤ l → l ≤ nd → mem.2 (L.2.1 l) = some (.inr (3, cl_df fi no A B L PI PL l))) ∧
  (∀ l, 1 ≤ l → l ≤ nd → ∃ f, mem.2 (L.2.2.1 l) = some (cl_qs f 2 4) ∧ ∀ q, q < no l → f q = some (L.2.2.2 l q)) ∧
  (∀ l q, 1 ≤ l → l ≤ nd → q < no l → mem.2 (L.2.2.2 l q) = some (.inr (2, cl_of bl A B L l q))) ∧
  (∀ l l', 1 ≤ l → l ≤ nd → 1 ≤ l' → l' ≤ nd → L.2.1 l = L.2.1 l' → l = l') ∧
  (∀ l l', 1 ≤ l → l ≤ nd → 1 ≤ l' → l' ≤ nd → L.2.2.1 l = L.2.2.1 l' → l = l') ∧
  (∀ i i', 1 ≤ i → i ≤ nl → 1 ≤ i' → i' ≤ nl → L.1 i = L.1 i' → i = i')
/-- a cell of the reference's -/
def mo_K : mx_E → Bool
  | .inl x => decide (3 ≤ x.1)
  | .inr o => o.1 == 4
def cl_tag : mx_E → Nat
  | .inl x => x.1 + 100
  | .inr o => o.1
/-- nothing lies at the next address or above -/
def mx_wf (mem : mx_Mem) : Prop := ∀ b, mem.1 ≤ b → mem.2 b = none
def cl_F (mem mem' : mx_Mem) : Prop := mem.1 ≤ mem'.1 ∧ (∀ b e, mem.2 b = some e → mo_K e = true → mem'.2 b = some e) ∧ (mx_wf mem → mx_wf mem')
theorem cl_F.rf {mem : mx_Mem} : cl_F mem mem := ⟨Nat.le_refl _, fun _ _ h _ => h, fun h => h⟩
theorem cl_F.tr {m1 m2 m3 : mx_Mem} (h : cl_F m1 m2) (g : cl_F m2 m3) : cl_F m1 m3 := ⟨Nat.le_trans h.1 g.1, fun b e hb hk => g.2.1 b e (h.2.1 b e hb hk) hk, fun w => g.2.2 (h.2.2 w)⟩
theorem cl_ne {mem : mx_Mem} {b b' : Nat} {e e' : mx_E} (h : mem.2 b = some e) (h' : mem.2 b' = some e') (ht : cl_tag e ≠ cl_tag e') : b ≠ b' := by
  intro q
  rw [q, h'] at h
  cases h
  exact ht rfl
theorem cl_up1 {mem : mx_Mem} {b b' : Nat} {e e' x : mx_E} (h : mem.2 b = some e) (h' : mem.2 b' = some e') (ht : cl_tag e ≠ cl_tag e') : va_up mem.2 b' (some x) b = some e := by
  rw [va_up_ne _ _ (cl_ne h h' ht)]
  exact h
theorem cl_F.up {mem : mx_Mem} {b : Nat} {e x : mx_E} (h : mem.2 b = some e) (hk : mo_K e = false) : cl_F mem (mem.1, va_up mem.2 b (some x)) := by
  refine ⟨Nat.le_refl _, fun b' e' h' hk' => ?_, fun w b' hb' => ?_⟩
  · dsimp only
    rw [va_up_ne _ _ (fun q => by rw [q, h] at h'; cases h'; rw [hk] at hk'; cases hk')]
    exact h'
  · dsimp only at hb' ⊢
    by_cases e' : b' = b
    · subst e'
      rw [w b' hb'] at h
      cases h
    · rw [va_up_ne _ _ e']
      exact w b' hb'
section CL
variable {o nl nd : Nat} {fi no : Nat → Nat} {bl : Nat → Nat → Nat} {A : Nat → Nat → Int32} {B : Nat → Nat → Int64} {L : cl_L} {od : Nat → Nat} {dp : Nat → Int64} {PI : Nat → Nat → Int32} {PL : Nat → Nat → Int64} {mem : mx_Mem}
theorem cl_c (h : cl_R o nl nd fi no bl A B L od dp PI PL mem) : mx_c mem (some o) 0 = some o := by simp [mx_c, mx_O_of h.1]
theorem cl_i1 (h : cl_R o nl nd fi no bl A B L od dp PI PL mem) : mx_gi mem (some o) 0 1 = some (nI nl) := by simp [mx_gi, mx_O_of h.1]
theorem cl_i4 (h : cl_R o nl nd fi no bl A B L od dp PI PL mem) : mx_gi mem (some o) 0 4 = some (nI nd) := by simp [mx_gi, mx_O_of h.1]
theorem cl_g0 (h : cl_R o nl nd fi no bl A B L od dp PI PL mem) : mx_gr mem (some o) 0 0 = some (some (o + 1)) := by simp [mx_gr, mx_O_of h.1]
theorem cl_g2 (h : cl_R o nl nd fi no bl A B L od dp PI PL mem) : mx_gr mem (some o) 0 2 = some (some (o + 2)) := by simp [mx_gr, mx_O_of h.1]
theorem cl_g3 (h : cl_R o nl nd fi no bl A B L od dp PI PL mem) : mx_gr mem (some o) 0 3 = some (some (o + 3)) := by simp [mx_gr, mx_O_of h.1]
theorem cl_rd {f : Nat → Option Nat} {b kd n j : Nat} {v : Option Nat} (h : mem.2 b = some (cl_qs f kd n)) (hj : j < n) (hn : n < 2 ^ 31) (hv : f j = v) : mx_ag mem (some b) kd (nI j) = some v := by
  have hR : mx_R mem (some b) kd = some (b, (n, .inr (.inr (.inr (.inr f))))) := mx_R_of h
  have hc : (nI j).toNatClampNeg = j := nI_clamp (by omega)
  simp [mx_ag, hR, hc, hj, hv, nI_pos' (show j < 2 ^ 31 by omega)]
theorem cl_aL (h : cl_R o nl nd fi no bl A B L od dp PI PL mem) (hn : nl ≤ 12) {j : Nat} (hj : j < nl) : mx_ag mem (some (o + 1)) 0 (nI j) = some (some (L.1 (j + 1))) := by
  obtain ⟨f, h1, h2⟩ := h.2.1
  exact cl_rd h1 (by omega) (by decide) (h2 j hj)
theorem cl_aD (h : cl_R o nl nd fi no bl A B L od dp PI PL mem) (hn : nd ≤ 6) {j : Nat} (hj : j < nd) : mx_ag mem (some (o + 2)) 1 (nI j) = some (some (L.2.1 (j + 1))) := by
  obtain ⟨f, h1, h2⟩ := h.2.2.1
  exact cl_rd h1 (by omega) (by decide) (h2 j hj)
theorem cl_aO (h : cl_R o nl nd fi no bl A B L od dp PI PL mem) (hn : nd ≤ 6) {j : Nat} (hj : j < nd) : mx_ag mem (some (o + 3)) 1 (nI j) = some (some (L.2.1 (od j))) := by
  obtain ⟨f, h1, h2⟩ := h.2.2.2.1
  exact cl_rd h1 (by omega) (by decide) (h2 j hj)
theorem cl_Oi (h : cl_R o nl nd fi no bl A B L od dp PI PL mem) {i : Nat} (h1 : 1 ≤ i) (h2 : i ≤ nl) : mx_O mem (some (L.1 i)) 1 = some (L.1 i, cl_lf A B dp i) := mx_O_of (h.2.2.2.2.1 i h1 h2)
theorem cl_Ol (h : cl_R o nl nd fi no bl A B L od dp PI PL mem) {l : Nat} (h1 : 1 ≤ l) (h2 : l ≤ nd) : mx_O mem (some (L.2.1 l)) 3 = some (L.2.1 l, cl_df fi no A B L PI PL l) := mx_O_of (h.2.2.2.2.2.1 l h1 h2)
theorem cl_Oq (h : cl_R o nl nd fi no bl A B L od dp PI PL mem) {l q : Nat} (h1 : 1 ≤ l) (h2 : l ≤ nd) (h3 : q < no l) : mx_O mem (some (L.2.2.2 l q)) 2 = some (L.2.2.2 l q, cl_of bl A B L l q) := mx_O_of (h.2.2.2.2.2.2.2.1 l q h1 h2 h3)
theorem cl_aQ (h : cl_R o nl nd fi no bl A B L od dp PI PL mem) {l q : Nat} (h1 : 1 ≤ l) (h2 : l ≤ nd) (hn : no l ≤ 4) (h3 : q < no l) : mx_ag mem (some (L.2.2.1 l)) 2 (nI q) = some (some (L.2.2.2 l q)) := by
  obtain ⟨f, g1, g2⟩ := h.2.2.2.2.2.2.1 l h1 h2
  exact cl_rd g1 (by omega) (by decide) (g2 q h3)
/-- a line's cell is written: another departure, another delay, another most -/
theorem cl_upI (h : cl_R o nl nd fi no bl A B L od dp PI PL mem) {i : Nat} (h1 : 1 ≤ i) (h2 : i ≤ nl) {k : Nat} {v : Value} (hk : k < 8) {B' : Nat → Nat → Int64} {dp' : Nat → Int64} (hfs : (cl_lf A B dp i).set k v = cl_lf A B' dp' i) (hot : ∀ j, j ≠ i → cl_lf A B' dp' j = cl_lf A B dp j) (h10 : B' 10 = B 10) (h16 : B' 16 = B 16) :
    ∃ mem', mx_p mem (some (L.1 i)) 1 k v = some mem' ∧ cl_R o nl nd fi no bl A B' L od dp' PI PL mem' ∧ cl_F mem mem' ∧ mem'.1 = mem.1 := by
  obtain ⟨g1, ⟨f2, g2, g2'⟩, ⟨f3, g3, g3'⟩, ⟨f4, g4, g4'⟩, g5, g6, g7, g8, g9, g10, g11⟩ := id h
  have hc := g5 i h1 h2
  refine ⟨(mem.1, va_up mem.2 (L.1 i) (some (.inr (1, cl_lf A B' dp' i)))), ?_, ⟨?_, ⟨f2, ?_, g2'⟩, ⟨f3, ?_, g3'⟩, ⟨f4, ?_, g4'⟩, ?_, ?_, ?_, ?_, g9, g10, g11⟩, cl_F.up hc rfl, rfl⟩
  · rw [← hfs]
    simp [mx_p, cl_Oi h h1 h2]
    simp [cl_lf, hk]
  · exact cl_up1 g1 hc (by simp [cl_tag, cl_ob])
  · exact cl_up1 g2 hc (by simp [cl_tag, cl_qs])
  · exact cl_up1 g3 hc (by simp [cl_tag, cl_qs])
  · exact cl_up1 g4 hc (by simp [cl_tag, cl_qs])
  · intro j j1 j2
    dsimp only
    by_cases e : j = i
    · subst e
      rw [va_up_self]
    · rw [va_up_ne _ _ (fun q => e (g11 j i j1 j2 h1 h2 q)), g5 j j1 j2, hot j e]
  · intro l l1 l2
    have : cl_df fi no A B' L PI PL l = cl_df fi no A B L PI PL l := by unfold cl_df; rw [h10]
    rw [this]
    exact cl_up1 (g6 l l1 l2) hc (by simp [cl_tag])
  · intro l l1 l2
    obtain ⟨f, q1, q2⟩ := g7 l l1 l2
    exact ⟨f, cl_up1 q1 hc (by simp [cl_tag, cl_qs]), q2⟩
  · intro l q l1 l2 l3
    have : cl_of bl A B' L l q = cl_of bl A B L l q := by unfold cl_of; rw [h16]
    rw [this]
    exact cl_up1 (g8 l q l1 l2 l3) hc (by simp [cl_tag])
/-- a load's cell is written -/
theorem cl_upD (h : cl_R o nl nd fi no bl A B L od dp PI PL mem) {l : Nat} (h1 : 1 ≤ l) (h2 : l ≤ nd) {k : Nat} {v : Value} (hk : k < 12) {PI' : Nat → Nat → Int32} {PL' : Nat → Nat → Int64} (hfs : (cl_df fi no A B L PI PL l).set k v = cl_df fi no A B L PI' PL' l) (hot : ∀ j, j ≠ l → cl_df fi no A B L PI' PL' j = cl_df fi no A B L PI PL j) :
    ∃ mem', mx_p mem (some (L.2.1 l)) 3 k v = some mem' ∧ cl_R o nl nd fi no bl A B L od dp PI' PL' mem' ∧ cl_F mem mem' ∧ mem'.1 = mem.1 := by
  obtain ⟨g1, ⟨f2, g2, g2'⟩, ⟨f3, g3, g3'⟩, ⟨f4, g4, g4'⟩, g5, g6, g7, g8, g9, g10, g11⟩ := id h
  have hc := g6 l h1 h2
  refine ⟨(mem.1, va_up mem.2 (L.2.1 l) (some (.inr (3, cl_df fi no A B L PI' PL' l)))), ?_, ⟨?_, ⟨f2, ?_, g2'⟩, ⟨f3, ?_, g3'⟩, ⟨f4, ?_, g4'⟩, ?_, ?_, ?_, ?_, g9, g10, g11⟩, cl_F.up hc rfl, rfl⟩
  · rw [← hfs]
    simp [mx_p, cl_Ol h h1 h2]
    simp [cl_df, hk]
  · exact cl_up1 g1 hc (by simp [cl_tag, cl_ob])
  · exact cl_up1 g2 hc (by simp [cl_tag, cl_qs])
  · exact cl_up1 g3 hc (by simp [cl_tag, cl_qs])
  · exact cl_up1 g4 hc (by simp [cl_tag, cl_qs])
  · intro j j1 j2
    exact cl_up1 (g5 j j1 j2) hc (by simp [cl_tag])
  · intro j j1 j2
    dsimp only
    by_cases e : j = l
    · subst e
      rw [va_up_self]
    · rw [va_up_ne _ _ (fun q => e (g9 j l j1 j2 h1 h2 q)), g6 j j1 j2, hot j e]
  · intro j j1 j2
    obtain ⟨f, q1, q2⟩ := g7 j j1 j2
    exact ⟨f, cl_up1 q1 hc (by simp [cl_tag, cl_qs]), q2⟩
  · intro j q j1 j2 j3
    exact cl_up1 (g8 j q j1 j2 j3) hc (by simp [cl_tag])
end CL
