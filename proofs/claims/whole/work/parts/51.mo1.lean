/-! THE REFERENCE'S METHODS, without memory: small ones -/
theorem bx_some {α β : Type} (x : α) (f : α → Option β) : Option.bind (some x) f = f x := rfl
theorem nI_lit4 : (4 : Int32) = nI 4 := rfl
theorem nI_lit1 : (1 : Int32) = nI 1 := rfl
theorem nI_oc (l c : Nat) : (4 : Int32) * nI l + nI c = nI (4 * l + c) := by rw [nI_lit4, pk_mul, nI_add]
/-- what holds of the numbers in the reference's arrays: fi: first lines, no: how many options, ch: the chosen ones, bl: their lines (0: hired) -/
def sg_V (nl nd : Nat) (fi no ch : Nat → Nat) (bl : Nat → Nat → Nat) (A : Nat → Nat → Int32) (B : Nat → Nat → Int64) : Prop :=
  nl ≤ 12 ∧ nd ≤ 6 ∧ (∀ l, 1 ≤ l → l ≤ nd → A 8 l = nI (fi l) ∧ 1 ≤ fi l ∧ fi l ≤ nl ∧ A 12 l = nI (no l) ∧ no l ≤ 4 ∧ A 13 l = nI (ch l) ∧ ch l < 4 ∧ (ch l < no l ∨ (no l = 0 ∧ ch l = 0))) ∧
  (∀ l o, 1 ≤ l → l ≤ nd → o < no l → A 15 (4 * l + o) = nI (bl l o) ∧ bl l o ≤ nl ∧ ((A 14 (4 * l + o) = 2 ∧ bl l o = 0) ∨ ((A 14 (4 * l + o) = 0 ∨ A 14 (4 * l + o) = 1) ∧ 1 ≤ bl l o ∧ B 3 (fi l) < B 3 (bl l o))))
/-- when a line arrives, by what it departs at -/
def sp_thr (B : Nat → Nat → Int64) (dp : Nat → Int64) (x : Nat) : Int64 := B 4 x + dp x - B 3 x
section M1
variable {a : Nat} {th : Int32} {nl nd : Nat} {fi no ch : Nat → Nat} {bl : Nat → Nat → Nat} {A : Nat → Nat → Int32} {B : Nat → Nat → Int64} {mem : mx_Mem}
theorem m_in (v lo hi : Int64) : f_Mo_in v lo hi mem = some (if v < lo then 0 else if hi < v then 0 else 1, mem) := by
  unfold f_Mo_in
  split
  · rfl
  · split <;> rfl
theorem m_isLine (h : mo_R a th (nI nl) (nI nd) A B mem) (v : Int32) : f_Mo_isLine a v mem = some (if v < 1 then 0 else if nI nl < v then 0 else 1, mem) := by
  unfold f_Mo_isLine
  rw [mo_i1 h]
  split
  · rfl
  · rw [bx_some]
    split <;> rfl
theorem m_isLoad (h : mo_R a th (nI nl) (nI nd) A B mem) (v : Int32) : f_Mo_isLoad a v mem = some (if v < 1 then 0 else if nI nd < v then 0 else 1, mem) := by
  unfold f_Mo_isLoad
  rw [mo_i9 h]
  split
  · rfl
  · rw [bx_some]
    split <;> rfl
theorem m_there {nl' nd' : Int32} (h : mo_R a th nl' nd' A B mem) {x : Nat} (hx : x < 13) : f_Mo_there a (nI x) mem = some (sp_thr B (B 7) x, mem) := by
  unfold f_Mo_there
  rw [mo_g4 h, bx_some, mo_r4 h hx, bx_some, mo_g7 h, bx_some, mo_r7 h hx, bx_some, mo_g3 h, bx_some, mo_r3 h hx, bx_some]
  rfl
theorem m_isDirect (h : mo_R a th (nI nl) (nI nd) A B mem) (V : sg_V nl nd fi no ch bl A B) {l : Nat} (h1 : 1 ≤ l) (h2 : l ≤ nd) : f_Mo_isDirect a (nI l) mem = some (if A 2 (fi l) = A 9 l then 1 else 0, mem) := by
  obtain ⟨hn, hd, hV, -⟩ := V
  obtain ⟨e1, e2, e3, -⟩ := hV l h1 h2
  unfold f_Mo_isDirect
  rw [mo_g2 h, bx_some, mo_g8 h, bx_some, mo_r8 h (by omega), bx_some, e1, mo_r2 h (by omega), bx_some, mo_g9 h, bx_some, mo_r9 h (by omega), bx_some]
  split <;> rfl
end M1
