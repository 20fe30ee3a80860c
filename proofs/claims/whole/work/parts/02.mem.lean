/-! THE MEMORY: a world that is a function from addresses to cells, beside the heap's size; all of it lies at b0 or above -/
/-- a cell: an array of the kind k (a place in the list of the array types), or an object of a class of the list -/
abbrev mx_E : Type := (Nat × vp_A) ⊕ (Nat × List Value)
abbrev mx_Mem : Type := Nat × (Nat → Option mx_E)
/-- where the memory begins, the classes' numbers and slots, the array classes' numbers -/
abbrev mx_G : Type := Nat × va_G × (Nat → ClassId)
def mx_T (dA : Nat → ClassId) (e : mx_E) : va_E := match e with
  | .inl x => .inl (dA x.1, x.2)
  | .inr o => .inr o
def mx_M (cl : List vw_C) (G : mx_G) (mem : mx_Mem) (H : Heap) : Prop :=
  H.size = mem.1 ∧ ∀ (a : Nat) (e : mx_E), mem.2 a = some e → G.1 ≤ a ∧ va_at G.2.1 cl (a, mx_T G.2.2 e) H
def mx_A (G : mx_G) : Nat → Prop := fun q => G.1 ≤ q
/-- an object of the class ci -/
def mx_O (mem : mx_Mem) (r : Option Nat) (ci : Nat) : Option (Nat × List Value) := match r with
  | none => none
  | some a => match mem.2 a with
    | some (.inr o) => if o.1 = ci then some (a, o.2) else none
    | _ => none
/-- an array of the kind kd -/
def mx_R (mem : mx_Mem) (r : Option Nat) (kd : Nat) : Option (Nat × vp_A) := match r with
  | none => none
  | some a => match mem.2 a with
    | some (.inl x) => if x.1 = kd then some (a, x.2) else none
    | _ => none
theorem mx_O_spec {mem : mx_Mem} {r : Option Nat} {ci a : Nat} {fs : List Value} (h : mx_O mem r ci = some (a, fs)) : r = some a ∧ mem.2 a = some (.inr (ci, fs)) := by
  unfold mx_O at h
  split at h
  · cases h
  · split at h
    · rename_i b o ho
      split at h
      · rename_i hc
        cases h
        exact ⟨rfl, by rw [ho, ← hc]⟩
      · cases h
    · cases h
theorem mx_R_spec {mem : mx_Mem} {r : Option Nat} {kd a : Nat} {x : vp_A} (h : mx_R mem r kd = some (a, x)) : r = some a ∧ mem.2 a = some (.inl (kd, x)) := by
  unfold mx_R at h
  split at h
  · cases h
  · split at h
    · rename_i b o ho
      split at h
      · rename_i hc
        cases h
        exact ⟨rfl, by rw [ho, ← hc]⟩
      · cases h
    · cases h
theorem mx_O_of {mem : mx_Mem} {ci a : Nat} {fs : List Value} (h : mem.2 a = some (.inr (ci, fs))) : mx_O mem (some a) ci = some (a, fs) := by
  simp [mx_O, h]
theorem mx_R_of {mem : mx_Mem} {kd a : Nat} {x : vp_A} (h : mem.2 a = some (.inl (kd, x))) : mx_R mem (some a) kd = some (a, x) := by
  simp [mx_R, h]
/-- reads of fields -/
def mx_gi (mem : mx_Mem) (r : Option Nat) (ci k : Nat) : Option Int32 := match mx_O mem r ci with
  | some q => (match q.2[k]? with
    | some (.int v) => some v
    | _ => none)
  | none => none
def mx_gl (mem : mx_Mem) (r : Option Nat) (ci k : Nat) : Option Int64 := match mx_O mem r ci with
  | some q => (match q.2[k]? with
    | some (.long v) => some v
    | _ => none)
  | none => none
def mx_gr (mem : mx_Mem) (r : Option Nat) (ci k : Nat) : Option (Option Nat) := match mx_O mem r ci with
  | some q => (match q.2[k]? with
    | some (.ref v) => some (some v)
    | some .null => some none
    | _ => none)
  | none => none
theorem mx_gi_spec {mem : mx_Mem} {r : Option Nat} {ci k : Nat} {v : Int32} (h : mx_gi mem r ci k = some v) : ∃ (a : Nat) (fs : List Value), mx_O mem r ci = some (a, fs) ∧ fs[k]? = some (.int v) := by
  unfold mx_gi at h
  split at h
  · rename_i q hq
    split at h
    · rename_i w hw
      cases h
      exact ⟨q.1, q.2, hq, hw⟩
    · cases h
  · cases h
theorem mx_gl_spec {mem : mx_Mem} {r : Option Nat} {ci k : Nat} {v : Int64} (h : mx_gl mem r ci k = some v) : ∃ (a : Nat) (fs : List Value), mx_O mem r ci = some (a, fs) ∧ fs[k]? = some (.long v) := by
  unfold mx_gl at h
  split at h
  · rename_i q hq
    split at h
    · rename_i w hw
      cases h
      exact ⟨q.1, q.2, hq, hw⟩
    · cases h
  · cases h
theorem mx_gr_spec {mem : mx_Mem} {r : Option Nat} {ci k : Nat} {v : Option Nat} (h : mx_gr mem r ci k = some v) : ∃ (a : Nat) (fs : List Value), mx_O mem r ci = some (a, fs) ∧ fs[k]? = some (va_rf v) := by
  unfold mx_gr at h
  split at h
  · rename_i q hq
    split at h
    · rename_i w hw
      cases h
      exact ⟨q.1, q.2, hq, hw⟩
    · rename_i hw
      cases h
      exact ⟨q.1, q.2, hq, hw⟩
    · cases h
  · cases h
/-- a field is written -/
def mx_p (mem : mx_Mem) (r : Option Nat) (ci k : Nat) (v : Value) : Option mx_Mem := match mx_O mem r ci with
  | some q => if k < q.2.length then some (mem.1, va_up mem.2 q.1 (some (.inr (ci, q.2.set k v)))) else none
  | none => none
theorem mx_p_spec {mem mem' : mx_Mem} {r : Option Nat} {ci k : Nat} {v : Value} (h : mx_p mem r ci k v = some mem') : ∃ (a : Nat) (fs : List Value), mx_O mem r ci = some (a, fs) ∧ k < fs.length ∧ mem' = (mem.1, va_up mem.2 a (some (.inr (ci, fs.set k v)))) := by
  unfold mx_p at h
  split at h
  · rename_i q hq
    split at h
    · rename_i hk
      cases h
      exact ⟨q.1, q.2, hq, hk, rfl⟩
    · cases h
  · cases h
/-- an object, an array more -/
def mx_n (mem : mx_Mem) (e : mx_E) : mx_Mem := (mem.1 + 1, va_up mem.2 mem.1 (some e))
/-- arrays: length, and those of references: read, write -/
def mx_al (mem : mx_Mem) (r : Option Nat) (kd : Nat) : Option Int32 := match mx_R mem r kd with
  | some q => some (Int32.ofNat q.2.1)
  | none => none
def mx_ag (mem : mx_Mem) (r : Option Nat) (kd : Nat) (i : Int32) : Option (Option Nat) := match mx_R mem r kd with
  | some (_, (n, .inr (.inr (.inr (.inr f))))) => if 0 ≤ i ∧ i.toNatClampNeg < n then some (f i.toNatClampNeg) else none
  | _ => none
def mx_as (mem : mx_Mem) (r : Option Nat) (kd : Nat) (i : Int32) (v : Option Nat) : Option mx_Mem := match mx_R mem r kd with
  | some (a, (n, .inr (.inr (.inr (.inr f))))) => if 0 ≤ i ∧ i.toNatClampNeg < n then some (mem.1, va_up mem.2 a (some (.inl (kd, n, .inr (.inr (.inr (.inr (va_up f i.toNatClampNeg v)))))))) else none
  | _ => none
/-- an object of the class ci is meant: its address -/
def mx_c (mem : mx_Mem) (r : Option Nat) (ci : Nat) : Option Nat := match mx_O mem r ci with
  | some q => some q.1
  | none => none
theorem mx_c_spec {mem : mx_Mem} {r : Option Nat} {ci a : Nat} (h : mx_c mem r ci = some a) : ∃ fs : List Value, mx_O mem r ci = some (a, fs) := by
  unfold mx_c at h
  split at h
  · rename_i q hq
    cases h
    exact ⟨q.2, hq⟩
  · cases h
theorem mx_al_spec {mem : mx_Mem} {r : Option Nat} {kd : Nat} {v : Int32} (h : mx_al mem r kd = some v) : ∃ (a : Nat) (x : vp_A), mx_R mem r kd = some (a, x) ∧ Int32.ofNat x.1 = v := by
  unfold mx_al at h
  split at h
  · rename_i q hq
    cases h
    exact ⟨q.1, q.2, hq, rfl⟩
  · cases h
theorem mx_in {i : Int32} {n : Nat} (h : 0 ≤ i ∧ i.toNatClampNeg < n) : vp_in i n := by
  intro q
  rcases q with q | q
  · have h1 := Int32.lt_iff_toInt_lt.mp q
    have h2 := Int32.le_iff_toInt_le.mp h.1
    omega
  · omega
theorem mx_ag_spec {mem : mx_Mem} {r : Option Nat} {kd : Nat} {i : Int32} {v : Option Nat} (h : mx_ag mem r kd i = some v) : ∃ (a n : Nat) (f : Nat → Option Nat), mx_R mem r kd = some (a, (n, .inr (.inr (.inr (.inr f))))) ∧ vp_in i n ∧ v = f i.toNatClampNeg := by
  unfold mx_ag at h
  split at h
  · rename_i a n f hq
    split at h
    · rename_i hi
      cases h
      exact ⟨a, n, f, hq, mx_in hi, rfl⟩
    · cases h
  · cases h
theorem mx_as_spec {mem mem' : mx_Mem} {r : Option Nat} {kd : Nat} {i : Int32} {v : Option Nat} (h : mx_as mem r kd i v = some mem') : ∃ (a n : Nat) (f : Nat → Option Nat), mx_R mem r kd = some (a, (n, .inr (.inr (.inr (.inr f))))) ∧ vp_in i n ∧ mem' = (mem.1, va_up mem.2 a (some (.inl (kd, n, .inr (.inr (.inr (.inr (va_up f i.toNatClampNeg v)))))))) := by
  unfold mx_as at h
  split at h
  · rename_i a n f hq
    split at h
    · rename_i hi
      cases h
      exact ⟨a, n, f, hq, mx_in hi, rfl⟩
    · cases h
  · cases h
/-- a step of a computation that may fail -/
theorem mx_b {α β : Type} {o : Option α} {f : α → Option β} {r : β} (h : o.bind f = some r) : ∃ v, o = some v ∧ f v = some r := by
  cases o with
  | none => cases h
  | some v => exact ⟨v, rfl, h⟩
/-- the memory behind a write, behind a making -/
theorem mx_M.put {cl : List vw_C} {G : mx_G} {mem : mx_Mem} {H H1 : Heap} {a : Nat} {e : mx_E} (h : mx_M cl G mem H) {e0 : mx_E} (h0 : mem.2 a = some e0) (z : H1.size = H.size) (oq : ∀ q : Nat, q ≠ a → H1[q]? = H[q]?) (he : va_at G.2.1 cl (a, mx_T G.2.2 e) H1) : mx_M cl G (mem.1, va_up mem.2 a (some e)) H1 := by
  refine ⟨z.trans h.1, fun b x hx => ?_⟩
  by_cases hb : b = a
  · subst hb
    dsimp only at hx
    rw [va_up_self] at hx
    cases hx
    exact ⟨(h.2 b e0 h0).1, he⟩
  · dsimp only at hx
    rw [va_up_ne _ _ hb] at hx
    exact ⟨(h.2 b x hx).1, (h.2 b x hx).2.kept (oq b hb)⟩
theorem mx_M.lt {cl : List vw_C} {G : mx_G} {mem : mx_Mem} {H : Heap} (h : mx_M cl G mem H) {a : Nat} {e : mx_E} (ha : mem.2 a = some e) : a < mem.1 := by
  have h1 := (h.2 a e ha).2.lt
  rw [h.1] at h1
  exact h1
theorem mx_M.push {cl : List vw_C} {G : mx_G} {mem : mx_Mem} {H H1 : Heap} {e : mx_E} (h : mx_M cl G mem H) (hb : G.1 ≤ H.size) (z : H1.size = H.size + 1) (oq : ∀ q : Nat, q < H.size → H1[q]? = H[q]?) (he : va_at G.2.1 cl (H.size, mx_T G.2.2 e) H1) : mx_M cl G (mx_n mem e) H1 := by
  refine ⟨by rw [z, h.1]; rfl, fun b x hx => ?_⟩
  by_cases hb1 : b = mem.1
  · subst hb1
    rw [show (mx_n mem e).2 mem.1 = some e from va_up_self _ _ _] at hx
    cases hx
    rw [← h.1]
    exact ⟨hb, he⟩
  · rw [show (mx_n mem e).2 b = mem.2 b from va_up_ne _ _ hb1] at hx
    refine ⟨(h.2 b x hx).1, (h.2 b x hx).2.kept (oq b ?_)⟩
    exact (h.2 b x hx).2.lt
theorem mx_M.one {cl : List vw_C} {G : mx_G} {mem : mx_Mem} {H : Heap} (h : mx_M cl G mem H) {a : Nat} {e : mx_E} (ha : mem.2 a = some e) : va_P G.2.1 cl [(a, mx_T G.2.2 e)] H := by
  intro k q hk
  have hz : k < 1 := (List.getElem?_eq_some_iff.mp hk).1
  rw [show k = 0 by omega] at hk
  cases hk
  exact (h.2 a e ha).2
