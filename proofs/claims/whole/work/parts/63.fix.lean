/-! DEPARTURES: class and reference solve one equation, and it has one solution -/
theorem l_addI {a b : Int64} (h1 : -9223372036854775808 ≤ a.toInt + b.toInt) (h2 : a.toInt + b.toInt < 9223372036854775808) : (a + b).toInt = a.toInt + b.toInt := by
  rw [Int64.toInt_add]
  exact Int.bmod_eq_of_le_mul_two (by omega) (by omega)
theorem l_subI {a b : Int64} (h1 : -9223372036854775808 ≤ a.toInt - b.toInt) (h2 : a.toInt - b.toInt < 9223372036854775808) : (a - b).toInt = a.toInt - b.toInt := by
  rw [Int64.toInt_sub]
  exact Int.bmod_eq_of_le_mul_two (by omega) (by omega)
theorem l_ltI {a b : Int64} : a < b ↔ a.toInt < b.toInt := Int64.lt_iff_toInt_lt
theorem l_leI {a b : Int64} : a ≤ b ↔ a.toInt ≤ b.toInt := Int64.le_iff_toInt_le
theorem l_10 : (10 : Int64).toInt = 10 := rfl
/-- the numbers of lines are as said -/
def sg_B (nl : Nat) (B : Nat → Nat → Int64) : Prop := ∀ x, 1 ≤ x → x ≤ nl → 0 ≤ (B 3 x).toInt ∧ (B 3 x).toInt < (B 4 x).toInt ∧ (B 4 x).toInt ≤ 10000 ∧ 0 ≤ (B 5 x).toInt ∧ (B 5 x).toInt ≤ 2000 ∧ 0 ≤ (B 6 x).toInt ∧ (B 6 x).toInt ≤ 600
/-- a load waits for the line x, and counts -/
def sp_el (fi no ch : Nat → Nat) (A : Nat → Nat → Int32) (B : Nat → Nat → Int64) (dp : Nat → Int64) (x l : Nat) : Prop := 0 < no l ∧ A 14 (4 * l + ch l) = 1 ∧ A 15 (4 * l + ch l) = nI x ∧ ¬ B 3 x + B 5 x + B 6 x < sp_thr B dp (fi l) + 10
theorem sp_go_M {fi no ch : Nat → Nat} {A : Nat → Nat → Int32} {B : Nat → Nat → Int64} {dp : Nat → Int64} {x : Nat} : ∀ (k l : Nat) (acc : Int64),
    ((sp_go fi no ch A B dp x (B 3 x + B 5 x) k l acc = acc ∨ ∃ i, l ≤ i ∧ i < l + k ∧ sp_el fi no ch A B dp x i ∧ sp_go fi no ch A B dp x (B 3 x + B 5 x) k l acc = sp_thr B dp (fi i) + 10) ∧ acc ≤ sp_go fi no ch A B dp x (B 3 x + B 5 x) k l acc ∧ ∀ i, l ≤ i → i < l + k → sp_el fi no ch A B dp x i → sp_thr B dp (fi i) + 10 ≤ sp_go fi no ch A B dp x (B 3 x + B 5 x) k l acc) := by
  intro k
  induction k with
  | zero => intro l acc; exact ⟨Or.inl rfl, Int64.le_refl _, fun i i1 i2 => by omega⟩
  | succ k ih =>
    intro l acc
    unfold sp_go
    obtain ⟨g1, g2, g3⟩ := ih (l + 1) (sp_st fi no ch A B dp x (B 3 x + B 5 x) acc l)
    generalize hr : sp_go fi no ch A B dp x (B 3 x + B 5 x) k (l + 1) (sp_st fi no ch A B dp x (B 3 x + B 5 x) acc l) = r at g1 g2 g3 ⊢
    have hst : (sp_st fi no ch A B dp x (B 3 x + B 5 x) acc l = acc ∨ (sp_el fi no ch A B dp x l ∧ sp_st fi no ch A B dp x (B 3 x + B 5 x) acc l = sp_thr B dp (fi l) + 10)) ∧ acc ≤ sp_st fi no ch A B dp x (B 3 x + B 5 x) acc l ∧ (sp_el fi no ch A B dp x l → sp_thr B dp (fi l) + 10 ≤ sp_st fi no ch A B dp x (B 3 x + B 5 x) acc l) := by
      unfold sp_st
      split
      · rename_i c
        exact ⟨Or.inr ⟨⟨c.1, c.2.1, c.2.2.1, c.2.2.2.1⟩, rfl⟩, by have := c.2.2.2.2; rw [l_leI] at this ⊢; omega, fun _ => Int64.le_refl _⟩
      · rename_i c
        refine ⟨Or.inl rfl, Int64.le_refl _, fun e => ?_⟩
        rcases Classical.em (sp_thr B dp (fi l) + 10 ≤ acc) with q | q
        · exact q
        · exact absurd ⟨e.1, e.2.1, e.2.2.1, e.2.2.2, q⟩ c
    obtain ⟨s1, s2, s3⟩ := hst
    generalize sp_st fi no ch A B dp x (B 3 x + B 5 x) acc l = st at g1 g2 s1 s2 s3
    refine ⟨?_, by rw [l_leI] at *; omega, fun i i1 i2 i3 => ?_⟩
    · rcases g1 with g1 | ⟨i, i1, i2, i3, i4⟩
      · rcases s1 with s1 | ⟨s1, s4⟩
        · exact Or.inl (g1.trans s1)
        · exact Or.inr ⟨l, Nat.le_refl _, by omega, s1, g1.trans s4⟩
      · exact Or.inr ⟨i, by omega, by omega, i3, i4⟩
    · by_cases e : i = l
      · subst e
        have := s3 i3
        rw [l_leI] at *
        omega
      · exact g3 i (by omega) (by omega) i3
/-- what it is to be the line x's departure -/
def sp_M (nd : Nat) (fi no ch : Nat → Nat) (A : Nat → Nat → Int32) (B : Nat → Nat → Int64) (dp : Nat → Int64) (x : Nat) (v : Int64) : Prop :=
  (v = B 3 x + B 5 x ∨ ∃ i, 1 ≤ i ∧ i ≤ nd ∧ sp_el fi no ch A B dp x i ∧ v = sp_thr B dp (fi i) + 10) ∧ B 3 x + B 5 x ≤ v ∧ ∀ i, 1 ≤ i → i ≤ nd → sp_el fi no ch A B dp x i → sp_thr B dp (fi i) + 10 ≤ v
theorem sp_H_M {nd : Nat} {fi no ch : Nat → Nat} {A : Nat → Nat → Int32} {B : Nat → Nat → Int64} {dp : Nat → Int64} {x : Nat} : sp_M nd fi no ch A B dp x (sp_H nd fi no ch A B dp x) := by
  obtain ⟨g1, g2, g3⟩ := sp_go_M (fi := fi) (no := no) (ch := ch) (A := A) (B := B) (dp := dp) (x := x) nd 1 (B 3 x + B 5 x)
  refine ⟨?_, g2, fun i i1 i2 i3 => g3 i i1 (by omega) i3⟩
  rcases g1 with g1 | ⟨i, i1, i2, i3, i4⟩
  · exact Or.inl g1
  · exact Or.inr ⟨i, i1, by omega, i3, i4⟩
theorem l_anti {a b : Int64} (h : a ≤ b) (g : b ≤ a) : a = b := by
  rw [l_leI] at h g
  exact Int64.toInt_inj.mp (by omega)
theorem sp_M_one {nd : Nat} {fi no ch : Nat → Nat} {A : Nat → Nat → Int32} {B : Nat → Nat → Int64} {dp : Nat → Int64} {x : Nat} {v w : Int64} (h : sp_M nd fi no ch A B dp x v) (g : sp_M nd fi no ch A B dp x w) : v = w := by
  obtain ⟨h1, h2, h3⟩ := h
  obtain ⟨g1, g2, g3⟩ := g
  refine l_anti ?_ ?_
  · rcases h1 with h1 | ⟨i, i1, i2, i3, i4⟩
    · rw [h1]; exact g2
    · rw [i4]; exact g3 i i1 i2 i3
  · rcases g1 with g1 | ⟨i, i1, i2, i3, i4⟩
    · rw [g1]; exact h2
    · rw [i4]; exact h3 i i1 i2 i3
/-- one solution -/
theorem sp_one {nl nd : Nat} {fi no ch : Nat → Nat} {bl : Nat → Nat → Nat} {A : Nat → Nat → Int32} {B : Nat → Nat → Int64} (V : sg_V nl nd fi no ch bl A B) (hB : sg_B nl B) {d1 d2 : Nat → Int64} (h1 : ∀ x, 1 ≤ x → x ≤ nl → d1 x = sp_H nd fi no ch A B d1 x) (h2 : ∀ x, 1 ≤ x → x ≤ nl → d2 x = sp_H nd fi no ch A B d2 x) : ∀ x, 1 ≤ x → x ≤ nl → d1 x = d2 x := by
  have hn := V.1
  have key : ∀ (n : Nat) (x : Nat), 1 ≤ x → x ≤ nl → (B 3 x).toInt < n → d1 x = d2 x := by
    intro n
    induction n with
    | zero => intro x x1 x2 x3; have := (hB x x1 x2).1; omega
    | succ n ih =>
      intro x x1 x2 x3
      rw [h1 x x1 x2, h2 x x1 x2]
      refine sp_H_dp (fun i i1 i2 c1 c2 c3 => ?_)
      obtain ⟨-, f1, f2, -⟩ := V.2.2.1 i i1 i2
      have hw := sg_wt V (by omega) i1 i2 c1 c2 c3
      rw [l_ltI] at hw
      exact ih (fi i) f1 f2 (by omega)
  intro x x1 x2
  exact key ((B 3 x).toInt.toNat + 1) x x1 x2 (by have := (hB x x1 x2).1; omega)
/-- bounds of a departure -/
theorem sp_bd {nl : Nat} {B : Nat → Nat → Int64} (hB : sg_B nl B) {x : Nat} (x1 : 1 ≤ x) (x2 : x ≤ nl) : (B 3 x + B 5 x).toInt = (B 3 x).toInt + (B 5 x).toInt ∧ (B 3 x + B 5 x + B 6 x).toInt = (B 3 x).toInt + (B 5 x).toInt + (B 6 x).toInt := by
  obtain ⟨a1, a2, a3, a4, a5, a6, a7⟩ := hB x x1 x2
  have e1 : (B 3 x + B 5 x).toInt = (B 3 x).toInt + (B 5 x).toInt := l_addI (by omega) (by omega)
  exact ⟨e1, by rw [l_addI (by omega) (by omega), e1]⟩
theorem sp_thr_I {nl : Nat} {B : Nat → Nat → Int64} (hB : sg_B nl B) {dp : Nat → Int64} {x : Nat} (x1 : 1 ≤ x) (x2 : x ≤ nl) (h1 : 0 ≤ (dp x).toInt) (h2 : (dp x).toInt ≤ 20000) : (sp_thr B dp x).toInt = (B 4 x).toInt + (dp x).toInt - (B 3 x).toInt ∧ (sp_thr B dp x + 10).toInt = (B 4 x).toInt + (dp x).toInt - (B 3 x).toInt + 10 := by
  obtain ⟨a1, a2, a3, a4, a5, a6, a7⟩ := hB x x1 x2
  have e1 : (B 4 x + dp x).toInt = (B 4 x).toInt + (dp x).toInt := l_addI (by omega) (by omega)
  have e2 : (sp_thr B dp x).toInt = (B 4 x).toInt + (dp x).toInt - (B 3 x).toInt := by unfold sp_thr; rw [l_subI (by omega) (by omega), e1]
  exact ⟨e2, by rw [l_addI (by rw [l_10]; omega) (by rw [l_10]; omega), e2, l_10]⟩
theorem sp_M_bd {nl nd : Nat} {fi no ch : Nat → Nat} {A : Nat → Nat → Int32} {B : Nat → Nat → Int64} (hB : sg_B nl B) {dp : Nat → Int64} {x : Nat} {v : Int64} (x1 : 1 ≤ x) (x2 : x ≤ nl) (h : sp_M nd fi no ch A B dp x v) : (B 3 x).toInt + (B 5 x).toInt ≤ v.toInt ∧ v.toInt ≤ (B 3 x).toInt + (B 5 x).toInt + (B 6 x).toInt := by
  obtain ⟨e1, e2⟩ := sp_bd hB x1 x2
  obtain ⟨a1, a2, a3, a4, a5, a6, a7⟩ := hB x x1 x2
  obtain ⟨h1, h2, -⟩ := h
  rw [l_leI, e1] at h2
  refine ⟨h2, ?_⟩
  rcases h1 with h1 | ⟨i, -, -, i3, i4⟩
  · rw [h1, e1]; omega
  · have := i3.2.2.2
    rw [l_ltI, e2, ← i4] at this
    omega
