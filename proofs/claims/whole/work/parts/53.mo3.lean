/-! THE REFERENCE: lines in the order in which they leave -/
/-- how many of 1 .. n are so -/
def sp_ct (P : Nat → Bool) : Nat → Nat
  | 0 => 0
  | n + 1 => sp_ct P n + (if P (n + 1) then 1 else 0)
theorem sp_ct_le (P : Nat → Bool) : ∀ n, sp_ct P n ≤ n
  | 0 => Nat.le_refl _
  | n + 1 => by
    have := sp_ct_le P n
    unfold sp_ct
    split <;> omega
theorem sp_ct_full {P : Nat → Bool} : ∀ n, sp_ct P n = n → ∀ x, 1 ≤ x → x ≤ n → P x = true
  | 0, _, x, h1, h2 => by omega
  | n + 1, h, x, h1, h2 => by
    have hl := sp_ct_le P n
    unfold sp_ct at h
    split at h
    · rename_i hp
      by_cases hx : x = n + 1
      · rw [hx]; exact hp
      · exact sp_ct_full n (by omega) x h1 (by omega)
    · omega
theorem sp_ct_ex {P : Nat → Bool} : ∀ n, sp_ct P n < n → ∃ x, 1 ≤ x ∧ x ≤ n ∧ P x = false
  | 0, h => by omega
  | n + 1, h => by
    by_cases hp : P (n + 1) = true
    · have h2 : sp_ct P n < n := by
        unfold sp_ct at h
        rw [if_pos hp] at h
        omega
      obtain ⟨x, g1, g2, g3⟩ := sp_ct_ex n h2
      exact ⟨x, g1, by omega, g3⟩
    · exact ⟨n + 1, by omega, Nat.le_refl _, by simpa using hp⟩
theorem sp_ct_same {P P' : Nat → Bool} : ∀ n, (∀ x, 1 ≤ x → x ≤ n → P' x = P x) → sp_ct P' n = sp_ct P n
  | 0, _ => rfl
  | n + 1, h => by
    unfold sp_ct
    rw [sp_ct_same n (fun x h1 h2 => h x h1 (by omega)), h (n + 1) (by omega) (Nat.le_refl _)]
theorem sp_ct_add {P P' : Nat → Bool} {y : Nat} (hy : 1 ≤ y) (hP : P y = false) (hY : P' y = true) : ∀ n, y ≤ n → (∀ x, 1 ≤ x → x ≤ n → x ≠ y → P' x = P x) → sp_ct P' n = sp_ct P n + 1
  | 0, h, _ => by omega
  | n + 1, h, hx => by
    unfold sp_ct
    by_cases e : y = n + 1
    · subst e
      rw [sp_ct_same n (fun x h1 h2 => hx x h1 (by omega) (by omega)), hY, hP]
      simp
    · rw [sp_ct_add hy hP hY n (by omega) (fun x h1 h2 h3 => hx x h1 (by omega) h3), hx (n + 1) (by omega) (Nat.le_refl _) (fun q => e q.symm)]
      split <;> omega
theorem l_tri (x y : Int64) : x < y ∨ x = y ∨ y < x := by
  rcases Int.lt_trichotomy x.toInt y.toInt with h | h | h
  · exact Or.inl (Int64.lt_iff_toInt_lt.mpr h)
  · exact Or.inr (Or.inl (Int64.toInt_inj.mp h))
  · exact Or.inr (Or.inr (Int64.lt_iff_toInt_lt.mpr h))
theorem l_as {x y : Int64} (h : x < y) (g : y < x) : False := by
  have h1 := Int64.lt_iff_toInt_lt.mp h
  have h2 := Int64.lt_iff_toInt_lt.mp g
  omega
theorem l_tr {x y z : Int64} (h : x < y) (g : y < z) : x < z := by
  have h1 := Int64.lt_iff_toInt_lt.mp h
  have h2 := Int64.lt_iff_toInt_lt.mp g
  exact Int64.lt_iff_toInt_lt.mpr (by omega)
/-- the line x comes behind (time, number) in the order in which lines leave -/
def sp_bh (lv : Nat → Int64) (time : Int64) (num x : Nat) : Prop := time < lv x ∨ (lv x = time ∧ num < x)
/-- what the search has found among 1 .. m: 0, or the first line behind -/
def sp_nx (lv : Nat → Int64) (time : Int64) (num m nx : Nat) : Prop :=
  (nx = 0 ∧ ∀ x, 1 ≤ x → x ≤ m → ¬ sp_bh lv time num x) ∨ (1 ≤ nx ∧ nx ≤ m ∧ sp_bh lv time num nx ∧ ∀ x, 1 ≤ x → x ≤ m → sp_bh lv time num x → lv nx < lv x ∨ (lv nx = lv x ∧ nx ≤ x))
theorem sp_nx_keep {lv : Nat → Int64} {time : Int64} {num m nx : Nat} (h : sp_nx lv time num m nx) (hk : ¬ sp_bh lv time num (m + 1) ∨ (1 ≤ nx ∧ lv nx ≤ lv (m + 1))) : sp_nx lv time num (m + 1) nx := by
  rcases h with ⟨h0, h⟩ | ⟨h1, h2, h3, h4⟩
  · left
    refine ⟨h0, fun x g1 g2 => ?_⟩
    by_cases e : x = m + 1
    · subst e
      rcases hk with hk | ⟨hk, -⟩
      · exact hk
      · omega
    · exact h x g1 (by omega)
  · right
    refine ⟨h1, by omega, h3, fun x g1 g2 g3 => ?_⟩
    by_cases e : x = m + 1
    · subst e
      rcases hk with hk | ⟨-, hk⟩
      · exact absurd g3 hk
      · rcases l_tri (lv nx) (lv (m + 1)) with q | q | q
        · exact Or.inl q
        · exact Or.inr ⟨q, by omega⟩
        · exact absurd q (mx_l_not.mpr hk)
    · exact h4 x g1 (by omega) g3
theorem sp_nx_take {lv : Nat → Int64} {time : Int64} {num m nx : Nat} (h : sp_nx lv time num m nx) (hb : sp_bh lv time num (m + 1)) (hk : nx = 0 ∨ lv (m + 1) < lv nx) : sp_nx lv time num (m + 1) (m + 1) := by
  right
  refine ⟨by omega, Nat.le_refl _, hb, fun x g1 g2 g3 => ?_⟩
  by_cases e : x = m + 1
  · subst e
    exact Or.inr ⟨rfl, Nat.le_refl _⟩
  · rcases h with ⟨h0, h⟩ | ⟨h1, h2, h3, h4⟩
    · exact absurd g3 (h x g1 (by omega))
    · left
      rcases hk with hk | hk
      · omega
      · rcases h4 x g1 (by omega) g3 with q | ⟨q, -⟩
        · exact l_tr hk q
        · rw [← q]; exact hk
section M3
variable {a : Nat} {th : Int32} {nl nd : Nat} {fi no ch : Nat → Nat} {bl : Nat → Nat → Nat} {A : Nat → Nat → Int32} {B : Nat → Nat → Int64} {mem : mx_Mem}
theorem m_rkS {K : Option Nat → Int32 → Int32 → mx_Mem → Option mx_Mem} (hn : nl ≤ 12) (h : mo_R a th (nI nl) (nI nd) A B mem) (time : Int64) (num : Nat) (hnum : num ≤ 12) (v4 : Int32) (n m nx : Nat) (h1 : m + 1 ≤ nl) (hnx : sp_nx (B 3) time num m nx) :
    ∃ nx', sp_nx (B 3) time num (m + 1) nx' ∧ fl_Mo_reckon_24 K (n + 1) (some a) time (nI num) v4 (nI nx) (nI (m + 1)) mem = fl_Mo_reckon_24 K n (some a) time (nI num) v4 (nI nx') (nI (m + 1) + 1) mem := by
  have hnx1 : nx ≤ m := by rcases hnx with ⟨h0, -⟩ | ⟨-, h2, -⟩ <;> omega
  have hlt : ¬ nI nl < nI (m + 1) := by rw [nI_ltI (by omega) (by omega)]; omega
  have r3 : mx_agl mem (some (a + 3)) 4 (nI (m + 1)) = some (B 3 (m + 1)) := mo_r3 h (by omega)
  have rn : mx_agl mem (some (a + 3)) 4 (nI nx) = some (B 3 nx) := mo_r3 h (by omega)
  have z0 : nI nx = 0 ↔ nx = 0 := by
    rw [show (0 : Int32) = nI 0 from rfl]
    exact nI_eq (by omega) (by decide)
  rw [fl_Mo_reckon_24, mo_i1 h, bx_some, if_neg hlt, mo_g3 h, bx_some, r3, bx_some]
  have tail : sp_bh (B 3) time num (m + 1) → ∃ nx', sp_nx (B 3) time num (m + 1) nx' ∧ (if nI nx = 0 then fl_Mo_reckon_24 K n (some a) time (nI num) v4 (nI (m + 1)) (nI (m + 1) + 1) mem else if B 3 nx ≤ B 3 (m + 1) then fl_Mo_reckon_24 K n (some a) time (nI num) v4 (nI nx) (nI (m + 1) + 1) mem else fl_Mo_reckon_24 K n (some a) time (nI num) v4 (nI (m + 1)) (nI (m + 1) + 1) mem) = fl_Mo_reckon_24 K n (some a) time (nI num) v4 (nI nx') (nI (m + 1) + 1) mem := by
    intro hb
    by_cases c2 : nx = 0
    · exact ⟨m + 1, sp_nx_take hnx hb (Or.inl c2), by rw [if_pos (z0.mpr c2)]⟩
    · rw [if_neg (fun q => c2 (z0.mp q))]
      by_cases c3 : B 3 nx ≤ B 3 (m + 1)
      · exact ⟨nx, sp_nx_keep hnx (Or.inr ⟨by omega, c3⟩), by rw [if_pos c3]⟩
      · exact ⟨m + 1, sp_nx_take hnx hb (Or.inr (by rcases l_tri (B 3 (m + 1)) (B 3 nx) with q | q | q; exact q; exact absurd (by rw [q]; exact Int64.le_refl _) c3; exact absurd (mx_l_not.mp (fun z => l_as z q)) c3)), by rw [if_neg c3]⟩
  by_cases c1 : time < B 3 (m + 1)
  · rw [if_pos c1]
    simp only [bx_some, r3, rn]
    exact tail (Or.inl c1)
  · rw [if_neg c1, bx_some, r3, bx_some]
    by_cases c2 : B 3 (m + 1) = time
    · rw [if_pos c2]
      by_cases c3 : nI (m + 1) ≤ nI num
      · rw [if_pos c3]
        rw [nI_leI (by omega) (by omega)] at c3
        refine ⟨nx, sp_nx_keep hnx (Or.inl ?_), rfl⟩
        intro q
        rcases q with q | ⟨-, q⟩
        · exact c1 q
        · omega
      · rw [if_neg c3]
        rw [nI_leI (by omega) (by omega)] at c3
        simp only [bx_some, r3, rn]
        exact tail (Or.inr ⟨c2, by omega⟩)
    · rw [if_neg c2]
      refine ⟨nx, sp_nx_keep hnx (Or.inl ?_), rfl⟩
      intro q
      rcases q with q | ⟨q, -⟩
      · exact c1 q
      · exact c2 q
theorem m_rkI {K : Option Nat → Int32 → Int32 → mx_Mem → Option mx_Mem} (hn : nl ≤ 12) (h : mo_R a th (nI nl) (nI nd) A B mem) (time : Int64) (num : Nat) (hnum : num ≤ 12) (v4 : Int32) : ∀ (j n m nx : Nat), j < n → m + j = nl → sp_nx (B 3) time num m nx →
    ∃ nx', sp_nx (B 3) time num nl nx' ∧ fl_Mo_reckon_24 K n (some a) time (nI num) v4 (nI nx) (nI (m + 1)) mem = K (some a) v4 (nI nx') mem := by
  intro j
  induction j with
  | zero =>
    intro n m nx hj hm hnx
    obtain ⟨n, rfl⟩ : ∃ n', n = n' + 1 := ⟨n - 1, by omega⟩
    have e : m = nl := by omega
    subst e
    refine ⟨nx, hnx, ?_⟩
    rw [fl_Mo_reckon_24, mo_i1 h, bx_some, if_pos (by rw [nI_ltI (by omega) (by omega)]; omega)]
  | succ j ih =>
    intro n m nx hj hm hnx
    obtain ⟨n, rfl⟩ : ∃ n', n = n' + 1 := ⟨n - 1, by omega⟩
    obtain ⟨nx1, g1, g2⟩ := m_rkS (K := K) hn h time num hnum v4 n m nx (by omega) hnx
    rw [g2, nI_1]
    exact ih n (m + 1) nx1 (by omega) (by omega) g1
end M3
