/-! the law's script -/
def mx_sx (L : Nat) (xs : Nat → Int32) (i : Int32) : Option Int32 := if 0 ≤ i ∧ i.toNatClampNeg < L then some (xs i.toNatClampNeg) else none
theorem mx_sx_spec {L : Nat} {xs : Nat → Int32} {i x : Int32} (h : mx_sx L xs i = some x) : vp_in i L ∧ xs i.toNatClampNeg = x := by
  unfold mx_sx at h
  split at h
  · rename_i hi
    cases h
    exact ⟨mx_in hi, rfl⟩
  · cases h
theorem mx_swo {x : Int32} {hi : Nat} (h : ∀ j : Nat, j ≤ hi → ¬ x = Int32.ofNat j) (hh : hi < 2 ^ 31) : x.toInt < 0 ∨ (hi : Int) < x.toInt := by
  by_cases h1 : x < 0
  · left
    have := Int32.lt_iff_toInt_lt.mp h1
    simpa using this
  · right
    obtain ⟨j, hj, rfl⟩ := nI_of h1
    rw [nI_toInt hj]
    by_cases h2 : j ≤ hi
    · exact absurd rfl (h j h2)
    · omega
section MXL
variable {p : Program} {l : Launch} {e : Env} {R : Room} {s : State} {m : MethodId} {args : Array Value} {below : List Frame} {meth : Method} {c : Code} {H : Heap} {locs : List Loc} {cells slots : Nat} {Q : State → Prop}
variable {cc : ByteArray} {pc : Nat} {ls : Array Slot} {rest : List Value} {A : Nat → Prop} {H0 : Heap}
theorem mx_sld (hexec : p.tables.exec = Jvm.exec) (hb : c.code = cc) {b L : Nat} {xs : Nat → Int32} (hX : va_X b L xs s H0) (hbl : b < H0.size) (hbA : ¬ A b) (hS : va_S A H0 H locs) {i x : Int32} (he : mx_sx L xs i = some x) (hdg : decode cc pc = .ok (.iaload, 1))
    (kk : W p l e R s m args below meth c H locs cells slots Q (F0 m (pc + 1) ls (.int x :: rest))) : W p l e R s m args below meth c H locs cells slots Q (F0 m pc ls (.int i :: va_rf (some b) :: rest)) := by
  obtain ⟨h1, rfl⟩ := mx_sx_spec he
  exact va_sld hexec hb hX hbl hbA hS h1 hdg kk
end MXL
