/-! THE START: both made; THE LAW -/
/-- an object at a with its j arrays behind it, made in a memory that ended at a -/
def mk_I (a j : Nat) (g : Nat → mx_E) (mem0 mem : mx_Mem) (c : Nat) (fs : List Value) : Prop := mem.1 = a + (j + 1) ∧ mem.2 a = some (.inr (c, fs)) ∧ (∀ k, 1 ≤ k → k ≤ j → mem.2 (a + k) = some (g k)) ∧ (∀ b, b < a → mem.2 b = mem0.2 b) ∧ ∀ b, a + j < b → mem.2 b = none
theorem mk_0 {g : Nat → mx_E} {mem : mx_Mem} {c : Nat} {fs : List Value} (w : mx_wf mem) : mk_I mem.1 0 g mem (mx_n mem (.inr (c, fs))) c fs := by
  refine ⟨rfl, va_up_self _ _ _, fun k k1 k2 => by omega, fun b hb => va_up_ne _ _ (by omega), fun b hb => ?_⟩
  show va_up mem.2 mem.1 _ b = none
  rw [va_up_ne _ _ (by omega)]
  exact w b (by omega)
theorem mk_st {a j c i : Nat} {g : Nat → mx_E} {mem0 mem : mx_Mem} {fs fs' : List Value} {e : mx_E} (h : mk_I a j g mem0 mem c fs) (he : g (j + 1) = e) (hi : i < fs.length) (hf : fs.set i (.ref (a + (j + 1))) = fs') : ∃ M, mx_p (mx_n mem e) (some a) c i (va_rf (some mem.1)) = some M ∧ mk_I a (j + 1) g mem0 M c fs' := by
  obtain ⟨h1, h2, h3, h4, h5⟩ := h
  have hO : mx_O (mx_n mem e) (some a) c = some (a, fs) := mx_O_of (by show va_up mem.2 mem.1 _ a = _; rw [va_up_ne _ _ (by omega)]; exact h2)
  refine ⟨(mem.1 + 1, va_up (va_up mem.2 mem.1 (some e)) a (some (.inr (c, fs')))), ?_, ?_, va_up_self _ _ _, fun k k1 k2 => ?_, fun b hb => ?_, fun b hb => ?_⟩
  · unfold mx_p
    rw [hO]
    dsimp only
    rw [if_pos hi, ← hf, ← h1]
    rfl
  · dsimp only; omega
  · dsimp only
    rw [va_up_ne _ _ (by omega)]
    by_cases ek : k = j + 1
    · subst ek
      rw [← h1, va_up_self, he]
    · rw [va_up_ne _ _ (by omega)]
      exact h3 k k1 (by omega)
  · dsimp only
    rw [va_up_ne _ _ (by omega), va_up_ne _ _ (by omega)]
    exact h4 b hb
  · dsimp only
    rw [va_up_ne _ _ (by omega), va_up_ne _ _ (by omega)]
    exact h5 b (by omega)
theorem mk_p {a j c i : Nat} {g : Nat → mx_E} {mem0 mem : mx_Mem} {fs fs' : List Value} {v : Value} (h : mk_I a j g mem0 mem c fs) (hi : i < fs.length) (hf : fs.set i v = fs') : ∃ M, mx_p mem (some a) c i v = some M ∧ mk_I a j g mem0 M c fs' := by
  obtain ⟨h1, h2, h3, h4, h5⟩ := h
  have hO : mx_O mem (some a) c = some (a, fs) := mx_O_of h2
  refine ⟨(mem.1, va_up mem.2 a (some (.inr (c, fs')))), ?_, h1, va_up_self _ _ _, fun k k1 k2 => ?_, fun b hb => ?_, fun b hb => ?_⟩
  · unfold mx_p
    rw [hO]
    dsimp only
    rw [if_pos hi, ← hf]
  · dsimp only
    rw [va_up_ne _ _ (by omega)]
    exact h3 k k1 k2
  · dsimp only
    rw [va_up_ne _ _ (by omega)]
    exact h4 b hb
  · dsimp only
    rw [va_up_ne _ _ (by omega)]
    exact h5 b hb
def mk_c (k : Nat) : mx_E := if k = 1 then cl_qs (fun _ => none) 0 12 else cl_qs (fun _ => none) 1 6
def mk_m (k : Nat) : mx_E := .inl (mo_kd k, mo_len k, if mo_lg k then .inr (.inl (fun _ => 0)) else .inl (fun _ => 0))
theorem mk_LR {mem : mx_Mem} (w : mx_wf mem) : ∃ M, f_LR_init mem.1 (mx_n mem (.inr (0, [.null, .int 0, .null, .null, .int 0]))) = some M ∧ mk_I mem.1 3 mk_c mem M 0 [.ref (mem.1 + 1), .int 0, .ref (mem.1 + 2), .ref (mem.1 + 3), .int 0] := by
  have h0 := mk_0 (g := mk_c) (c := 0) (fs := [.null, .int 0, .null, .null, .int 0]) w
  obtain ⟨m1, e1, h1⟩ := mk_st (i := 0) (e := .inl (0, 12, .inr (.inr (.inr (.inr (fun _ => none)))))) (fs' := [.ref (mem.1 + 1), .int 0, .null, .null, .int 0]) h0 rfl (Nat.le_of_ble_eq_true rfl) rfl
  obtain ⟨m2, e2, h2⟩ := mk_st (i := 2) (e := .inl (1, 6, .inr (.inr (.inr (.inr (fun _ => none)))))) (fs' := [.ref (mem.1 + 1), .int 0, .ref (mem.1 + 2), .null, .int 0]) h1 rfl (Nat.le_of_ble_eq_true rfl) rfl
  obtain ⟨m3, e3, h3⟩ := mk_st (i := 3) (e := .inl (1, 6, .inr (.inr (.inr (.inr (fun _ => none)))))) (fs' := [.ref (mem.1 + 1), .int 0, .ref (mem.1 + 2), .ref (mem.1 + 3), .int 0]) h2 rfl (Nat.le_of_ble_eq_true rfl) rfl
  obtain ⟨m4, e4, h4⟩ := mk_p (i := 1) (v := .int 0) (fs' := [.ref (mem.1 + 1), .int 0, .ref (mem.1 + 2), .ref (mem.1 + 3), .int 0]) h3 (Nat.le_of_ble_eq_true rfl) rfl
  obtain ⟨m5, e5, h5⟩ := mk_p (i := 4) (v := .int 0) (fs' := [.ref (mem.1 + 1), .int 0, .ref (mem.1 + 2), .ref (mem.1 + 3), .int 0]) h4 (Nat.le_of_ble_eq_true rfl) rfl
  refine ⟨m5, ?_, h5⟩
  unfold f_LR_init
  rw [bx_some, e1, bx_some, bx_some, e2, bx_some, bx_some, e3, bx_some, e4, bx_some, e5, bx_some]

theorem mk_Mo {mem : mx_Mem} (w : mx_wf mem) : ∃ M, f_Mo_init mem.1 (mx_n mem (.inr (4, [.int 0, .int 0, .null, .null, .null, .null, .null, .null, .null, .int 0, .null, .null, .null, .null, .null, .null, .null, .null, .null, .null, .null, .null, .null]))) = some M ∧ mk_I mem.1 20 mk_m mem M 4 (mo_fs mem.1 0 0 0) := by
  have h0 := mk_0 (g := mk_m) (c := 4) (fs := [.int 0, .int 0, .null, .null, .null, .null, .null, .null, .null, .int 0, .null, .null, .null, .null, .null, .null, .null, .null, .null, .null, .null, .null, .null]) w
  obtain ⟨m1, e1, h1⟩ := mk_st (i := 2) (e := .inl (3, 13, .inl (fun _ => 0))) (fs' := [.int 0, .int 0, .ref (mem.1 + 1), .null, .null, .null, .null, .null, .null, .int 0, .null, .null, .null, .null, .null, .null, .null, .null, .null, .null, .null, .null, .null]) h0 rfl (Nat.le_of_ble_eq_true rfl) rfl
  obtain ⟨m2, e2, h2⟩ := mk_st (i := 3) (e := .inl (3, 13, .inl (fun _ => 0))) (fs' := [.int 0, .int 0, .ref (mem.1 + 1), .ref (mem.1 + 2), .null, .null, .null, .null, .null, .int 0, .null, .null, .null, .null, .null, .null, .null, .null, .null, .null, .null, .null, .null]) h1 rfl (Nat.le_of_ble_eq_true rfl) rfl
  obtain ⟨m3, e3, h3⟩ := mk_st (i := 4) (e := .inl (4, 13, .inr (.inl (fun _ => 0)))) (fs' := [.int 0, .int 0, .ref (mem.1 + 1), .ref (mem.1 + 2), .ref (mem.1 + 3), .null, .null, .null, .null, .int 0, .null, .null, .null, .null, .null, .null, .null, .null, .null, .null, .null, .null, .null]) h2 rfl (Nat.le_of_ble_eq_true rfl) rfl
  obtain ⟨m4, e4, h4⟩ := mk_st (i := 5) (e := .inl (4, 13, .inr (.inl (fun _ => 0)))) (fs' := [.int 0, .int 0, .ref (mem.1 + 1), .ref (mem.1 + 2), .ref (mem.1 + 3), .ref (mem.1 + 4), .null, .null, .null, .int 0, .null, .null, .null, .null, .null, .null, .null, .null, .null, .null, .null, .null, .null]) h3 rfl (Nat.le_of_ble_eq_true rfl) rfl
  obtain ⟨m5, e5, h5⟩ := mk_st (i := 6) (e := .inl (4, 13, .inr (.inl (fun _ => 0)))) (fs' := [.int 0, .int 0, .ref (mem.1 + 1), .ref (mem.1 + 2), .ref (mem.1 + 3), .ref (mem.1 + 4), .ref (mem.1 + 5), .null, .null, .int 0, .null, .null, .null, .null, .null, .null, .null, .null, .null, .null, .null, .null, .null]) h4 rfl (Nat.le_of_ble_eq_true rfl) rfl
  obtain ⟨m6, e6, h6⟩ := mk_st (i := 7) (e := .inl (4, 13, .inr (.inl (fun _ => 0)))) (fs' := [.int 0, .int 0, .ref (mem.1 + 1), .ref (mem.1 + 2), .ref (mem.1 + 3), .ref (mem.1 + 4), .ref (mem.1 + 5), .ref (mem.1 + 6), .null, .int 0, .null, .null, .null, .null, .null, .null, .null, .null, .null, .null, .null, .null, .null]) h5 rfl (Nat.le_of_ble_eq_true rfl) rfl
  obtain ⟨m7, e7, h7⟩ := mk_st (i := 8) (e := .inl (4, 13, .inr (.inl (fun _ => 0)))) (fs' := [.int 0, .int 0, .ref (mem.1 + 1), .ref (mem.1 + 2), .ref (mem.1 + 3), .ref (mem.1 + 4), .ref (mem.1 + 5), .ref (mem.1 + 6), .ref (mem.1 + 7), .int 0, .null, .null, .null, .null, .null, .null, .null, .null, .null, .null, .null, .null, .null]) h6 rfl (Nat.le_of_ble_eq_true rfl) rfl
  obtain ⟨m8, e8, h8⟩ := mk_st (i := 10) (e := .inl (3, 7, .inl (fun _ => 0))) (fs' := [.int 0, .int 0, .ref (mem.1 + 1), .ref (mem.1 + 2), .ref (mem.1 + 3), .ref (mem.1 + 4), .ref (mem.1 + 5), .ref (mem.1 + 6), .ref (mem.1 + 7), .int 0, .ref (mem.1 + 8), .null, .null, .null, .null, .null, .null, .null, .null, .null, .null, .null, .null]) h7 rfl (Nat.le_of_ble_eq_true rfl) rfl
  obtain ⟨m9, e9, h9⟩ := mk_st (i := 11) (e := .inl (3, 7, .inl (fun _ => 0))) (fs' := [.int 0, .int 0, .ref (mem.1 + 1), .ref (mem.1 + 2), .ref (mem.1 + 3), .ref (mem.1 + 4), .ref (mem.1 + 5), .ref (mem.1 + 6), .ref (mem.1 + 7), .int 0, .ref (mem.1 + 8), .ref (mem.1 + 9), .null, .null, .null, .null, .null, .null, .null, .null, .null, .null, .null]) h8 rfl (Nat.le_of_ble_eq_true rfl) rfl
  obtain ⟨m10, e10, h10⟩ := mk_st (i := 12) (e := .inl (4, 7, .inr (.inl (fun _ => 0)))) (fs' := [.int 0, .int 0, .ref (mem.1 + 1), .ref (mem.1 + 2), .ref (mem.1 + 3), .ref (mem.1 + 4), .ref (mem.1 + 5), .ref (mem.1 + 6), .ref (mem.1 + 7), .int 0, .ref (mem.1 + 8), .ref (mem.1 + 9), .ref (mem.1 + 10), .null, .null, .null, .null, .null, .null, .null, .null, .null, .null]) h9 rfl (Nat.le_of_ble_eq_true rfl) rfl
  obtain ⟨m11, e11, h11⟩ := mk_st (i := 13) (e := .inl (3, 7, .inl (fun _ => 0))) (fs' := [.int 0, .int 0, .ref (mem.1 + 1), .ref (mem.1 + 2), .ref (mem.1 + 3), .ref (mem.1 + 4), .ref (mem.1 + 5), .ref (mem.1 + 6), .ref (mem.1 + 7), .int 0, .ref (mem.1 + 8), .ref (mem.1 + 9), .ref (mem.1 + 10), .ref (mem.1 + 11), .null, .null, .null, .null, .null, .null, .null, .null, .null]) h10 rfl (Nat.le_of_ble_eq_true rfl) rfl
  obtain ⟨m12, e12, h12⟩ := mk_st (i := 14) (e := .inl (3, 7, .inl (fun _ => 0))) (fs' := [.int 0, .int 0, .ref (mem.1 + 1), .ref (mem.1 + 2), .ref (mem.1 + 3), .ref (mem.1 + 4), .ref (mem.1 + 5), .ref (mem.1 + 6), .ref (mem.1 + 7), .int 0, .ref (mem.1 + 8), .ref (mem.1 + 9), .ref (mem.1 + 10), .ref (mem.1 + 11), .ref (mem.1 + 12), .null, .null, .null, .null, .null, .null, .null, .null]) h11 rfl (Nat.le_of_ble_eq_true rfl) rfl
  obtain ⟨m13, e13, h13⟩ := mk_st (i := 15) (e := .inl (3, 7, .inl (fun _ => 0))) (fs' := [.int 0, .int 0, .ref (mem.1 + 1), .ref (mem.1 + 2), .ref (mem.1 + 3), .ref (mem.1 + 4), .ref (mem.1 + 5), .ref (mem.1 + 6), .ref (mem.1 + 7), .int 0, .ref (mem.1 + 8), .ref (mem.1 + 9), .ref (mem.1 + 10), .ref (mem.1 + 11), .ref (mem.1 + 12), .ref (mem.1 + 13), .null, .null, .null, .null, .null, .null, .null]) h12 rfl (Nat.le_of_ble_eq_true rfl) rfl
  obtain ⟨m14, e14, h14⟩ := mk_st (i := 16) (e := .inl (3, 28, .inl (fun _ => 0))) (fs' := [.int 0, .int 0, .ref (mem.1 + 1), .ref (mem.1 + 2), .ref (mem.1 + 3), .ref (mem.1 + 4), .ref (mem.1 + 5), .ref (mem.1 + 6), .ref (mem.1 + 7), .int 0, .ref (mem.1 + 8), .ref (mem.1 + 9), .ref (mem.1 + 10), .ref (mem.1 + 11), .ref (mem.1 + 12), .ref (mem.1 + 13), .ref (mem.1 + 14), .null, .null, .null, .null, .null, .null]) h13 rfl (Nat.le_of_ble_eq_true rfl) rfl
  obtain ⟨m15, e15, h15⟩ := mk_st (i := 17) (e := .inl (3, 28, .inl (fun _ => 0))) (fs' := [.int 0, .int 0, .ref (mem.1 + 1), .ref (mem.1 + 2), .ref (mem.1 + 3), .ref (mem.1 + 4), .ref (mem.1 + 5), .ref (mem.1 + 6), .ref (mem.1 + 7), .int 0, .ref (mem.1 + 8), .ref (mem.1 + 9), .ref (mem.1 + 10), .ref (mem.1 + 11), .ref (mem.1 + 12), .ref (mem.1 + 13), .ref (mem.1 + 14), .ref (mem.1 + 15), .null, .null, .null, .null, .null]) h14 rfl (Nat.le_of_ble_eq_true rfl) rfl
  obtain ⟨m16, e16, h16⟩ := mk_st (i := 18) (e := .inl (4, 28, .inr (.inl (fun _ => 0)))) (fs' := [.int 0, .int 0, .ref (mem.1 + 1), .ref (mem.1 + 2), .ref (mem.1 + 3), .ref (mem.1 + 4), .ref (mem.1 + 5), .ref (mem.1 + 6), .ref (mem.1 + 7), .int 0, .ref (mem.1 + 8), .ref (mem.1 + 9), .ref (mem.1 + 10), .ref (mem.1 + 11), .ref (mem.1 + 12), .ref (mem.1 + 13), .ref (mem.1 + 14), .ref (mem.1 + 15), .ref (mem.1 + 16), .null, .null, .null, .null]) h15 rfl (Nat.le_of_ble_eq_true rfl) rfl
  obtain ⟨m17, e17, h17⟩ := mk_st (i := 19) (e := .inl (4, 7, .inr (.inl (fun _ => 0)))) (fs' := [.int 0, .int 0, .ref (mem.1 + 1), .ref (mem.1 + 2), .ref (mem.1 + 3), .ref (mem.1 + 4), .ref (mem.1 + 5), .ref (mem.1 + 6), .ref (mem.1 + 7), .int 0, .ref (mem.1 + 8), .ref (mem.1 + 9), .ref (mem.1 + 10), .ref (mem.1 + 11), .ref (mem.1 + 12), .ref (mem.1 + 13), .ref (mem.1 + 14), .ref (mem.1 + 15), .ref (mem.1 + 16), .ref (mem.1 + 17), .null, .null, .null]) h16 rfl (Nat.le_of_ble_eq_true rfl) rfl
  obtain ⟨m18, e18, h18⟩ := mk_st (i := 20) (e := .inl (5, 7, .inl (fun _ => 0))) (fs' := [.int 0, .int 0, .ref (mem.1 + 1), .ref (mem.1 + 2), .ref (mem.1 + 3), .ref (mem.1 + 4), .ref (mem.1 + 5), .ref (mem.1 + 6), .ref (mem.1 + 7), .int 0, .ref (mem.1 + 8), .ref (mem.1 + 9), .ref (mem.1 + 10), .ref (mem.1 + 11), .ref (mem.1 + 12), .ref (mem.1 + 13), .ref (mem.1 + 14), .ref (mem.1 + 15), .ref (mem.1 + 16), .ref (mem.1 + 17), .ref (mem.1 + 18), .null, .null]) h17 rfl (Nat.le_of_ble_eq_true rfl) rfl
  obtain ⟨m19, e19, h19⟩ := mk_st (i := 21) (e := .inl (3, 7, .inl (fun _ => 0))) (fs' := [.int 0, .int 0, .ref (mem.1 + 1), .ref (mem.1 + 2), .ref (mem.1 + 3), .ref (mem.1 + 4), .ref (mem.1 + 5), .ref (mem.1 + 6), .ref (mem.1 + 7), .int 0, .ref (mem.1 + 8), .ref (mem.1 + 9), .ref (mem.1 + 10), .ref (mem.1 + 11), .ref (mem.1 + 12), .ref (mem.1 + 13), .ref (mem.1 + 14), .ref (mem.1 + 15), .ref (mem.1 + 16), .ref (mem.1 + 17), .ref (mem.1 + 18), .ref (mem.1 + 19), .null]) h18 rfl (Nat.le_of_ble_eq_true rfl) rfl
  obtain ⟨m20, e20, h20⟩ := mk_st (i := 22) (e := .inl (4, 7, .inr (.inl (fun _ => 0)))) (fs' := [.int 0, .int 0, .ref (mem.1 + 1), .ref (mem.1 + 2), .ref (mem.1 + 3), .ref (mem.1 + 4), .ref (mem.1 + 5), .ref (mem.1 + 6), .ref (mem.1 + 7), .int 0, .ref (mem.1 + 8), .ref (mem.1 + 9), .ref (mem.1 + 10), .ref (mem.1 + 11), .ref (mem.1 + 12), .ref (mem.1 + 13), .ref (mem.1 + 14), .ref (mem.1 + 15), .ref (mem.1 + 16), .ref (mem.1 + 17), .ref (mem.1 + 18), .ref (mem.1 + 19), .ref (mem.1 + 20)]) h19 rfl (Nat.le_of_ble_eq_true rfl) rfl
  refine ⟨m20, ?_, h20⟩
  unfold f_Mo_init
  rw [bx_some, e1, bx_some, bx_some, e2, bx_some, bx_some, e3, bx_some, bx_some, e4, bx_some, bx_some, e5, bx_some, bx_some, e6, bx_some, bx_some, e7, bx_some, bx_some, e8, bx_some, bx_some, e9, bx_some, bx_some, e10, bx_some, bx_some, e11, bx_some, bx_some, e12, bx_some, bx_some, e13, bx_some, bx_some, e14, bx_some, bx_some, e15, bx_some, bx_some, e16, bx_some, bx_some, e17, bx_some, bx_some, e18, bx_some, bx_some, e19, bx_some, bx_some, e20, bx_some]
theorem iv_0 {sz : Nat} {mem1 mem : mx_Mem} {mem0 : mx_Mem} (h1 : mk_I sz 3 mk_c mem0 mem1 0 [.ref (sz + 1), .int 0, .ref (sz + 2), .ref (sz + 3), .int 0]) (h2 : mk_I mem1.1 20 mk_m mem1 mem 4 (mo_fs mem1.1 0 0 0)) : iv sz mem1.1 mem := by
  obtain ⟨p1, p2, p3, p4, p5⟩ := h1
  obtain ⟨r1, r2, r3, r4, r5⟩ := h2
  refine ⟨0, 0, 0, fun _ => 0, fun _ => 0, fun _ => 0, fun _ _ => 0, fun _ _ => 0, fun _ _ => 0, (fun _ => 0, fun _ => 0, fun _ => 0, fun _ _ => 0), fun _ => 0, fun _ => 0, fun _ _ => 0, fun _ _ => 0, ⟨r2, fun k k1 k2 => r3 k k1 k2⟩, ⟨?_, ⟨fun _ => none, ?_, fun j hj => by omega⟩, ⟨fun _ => none, ?_, fun j hj => by omega⟩, ⟨fun _ => none, ?_, fun j hj => by omega⟩, fun i i1 i2 => by omega, fun i i1 i2 => by omega, fun i i1 i2 => by omega, fun i q i1 i2 => by omega, fun i i' i1 i2 => by omega, fun i i' i1 i2 => by omega, fun i i' i1 i2 => by omega⟩, ⟨by omega, by omega, fun l l1 l2 => by omega, fun l q l1 l2 => by omega⟩, fun x x1 x2 => by omega, fun l l1 l2 => by omega, ⟨fun x x1 x2 => ⟨rfl, rfl⟩, fun l l1 l2 => ⟨rfl, rfl⟩⟩, ⟨fun j hj => by omega, fun j j' hj hj' => by omega, fun l l1 l2 => by omega⟩, fun l l1 l2 => by omega, ⟨fun x x1 x2 => by omega, fun i i1 i2 => by omega⟩, ⟨by omega, by omega, fun i i1 i2 => by omega, fun l l1 l2 => by omega⟩, fun b hb => r5 b (by omega)⟩
  · rw [r4 sz (by omega)]; exact p2
  · rw [r4 (sz + 1) (by omega)]; exact p3 1 (by decide) (by decide)
  · rw [r4 (sz + 2) (by omega)]; exact p3 2 (by decide) (by decide)
  · rw [r4 (sz + 3) (by omega)]; exact p3 3 (by decide) (by decide)
theorem sx_at {L : Nat} {xs : Nat → Int32} {j : Nat} (hL : L ≤ 3584) (h : j < L) : mx_sx L xs (nI j) = some (xs j) := by
  have hc : (nI j).toNatClampNeg = j := nI_clamp (by omega)
  unfold mx_sx
  rw [hc, if_pos ⟨nI_pos' (by omega), h⟩]
theorem sx_end {L i : Nat} (hL : L ≤ 3584) (hi : i ≤ 3584) : Int32.ofNat L - 7 < nI i ↔ L < i + 7 := by
  have e1 : (Int32.ofNat L).toInt = L := nI_toInt (by omega)
  have e2 : (nI i).toInt = i := nI_toInt (by omega)
  have e3 : (Int32.ofNat L - 7).toInt = (L : Int) - 7 := by
    rw [Int32.toInt_sub, e1, show (7 : Int32).toInt = 7 from rfl]
    exact Int.bmod_eq_of_le_mul_two (by omega) (by omega)
  rw [Int32.lt_iff_toInt_lt, e3, e2]
  omega

set_option maxHeartbeats 2000000 in
theorem law_go {L : Nat} {xs : Nat → Int32} {o a : Nat} (hL : L ≤ 3584) : ∀ (n i : Nat) (mem : mx_Mem), 1 ≤ n → i ≤ 3584 → L < i + 7 * n → iv o a mem → ∃ q, fl_La_law_18 L xs n (some o) (some a) (nI i) mem = some q := by
  intro n
  induction n with
  | zero => intro i mem h1; omega
  | succ n ih =>
    intro i mem _ hi hn h
    rw [fl_La_law_18]
    by_cases ex : L < i + 7
    · rw [if_pos ((sx_end hL hi).mpr ex)]
      exact ⟨mem, rfl⟩
    · have co : mx_c mem (some o) 0 = some o := by
        obtain ⟨_, _, _, _, _, _, _, _, _, _, _, _, _, _, hh⟩ := h
        exact cl_c hh.2.1
      have next : ∀ m2, iv o a m2 → ∃ q, fl_La_law_18 L xs n (some o) (some a) (nI i + 7) m2 = some q := by
        intro m2 h2
        rw [show (7 : Int32) = nI 7 from rfl, nI_add]
        exact ih (i + 7) m2 (by omega) (by omega) (by omega) h2
      have r1 : mx_sx L xs (nI i + 1) = some (xs (i + 1)) := by rw [show (1 : Int32) = nI 1 from rfl, nI_add]; exact sx_at hL (by omega)
      have r2 : mx_sx L xs (nI i + 2) = some (xs (i + 2)) := by rw [show (2 : Int32) = nI 2 from rfl, nI_add]; exact sx_at hL (by omega)
      have r3 : mx_sx L xs (nI i + 3) = some (xs (i + 3)) := by rw [show (3 : Int32) = nI 3 from rfl, nI_add]; exact sx_at hL (by omega)
      have r4 : mx_sx L xs (nI i + 4) = some (xs (i + 4)) := by rw [show (4 : Int32) = nI 4 from rfl, nI_add]; exact sx_at hL (by omega)
      have r5 : mx_sx L xs (nI i + 5) = some (xs (i + 5)) := by rw [show (5 : Int32) = nI 5 from rfl, nI_add]; exact sx_at hL (by omega)
      have r6 : mx_sx L xs (nI i + 6) = some (xs (i + 6)) := by rw [show (6 : Int32) = nI 6 from rfl, nI_add]; exact sx_at hL (by omega)
      rw [if_neg (fun q => ex ((sx_end hL hi).mp q)), sx_at hL (show i < L by omega), bx_some, bx_some]
      by_cases c0 : xs i &&& 15 = 0
      · obtain ⟨r, m1, m2, ef, eg, cc, I2⟩ := q_line h (xs (i + 1)) (xs (i + 2)) (((xs (i + 3)).toInt64 <<< ((32 : Int32).toInt64 &&& 63)) ||| ((xs (i + 4)).toInt64 &&& 4294967295)) (((xs (i + 5)).toInt64 <<< ((32 : Int32).toInt64 &&& 63)) ||| ((xs (i + 6)).toInt64 &&& 4294967295))
        rw [if_pos c0, r1, bx_some, r2, bx_some, r3, bx_some, r4, bx_some, r5, bx_some, r6, bx_some, co, bx_some, ef, bx_some]
        dsimp only
        rw [bx_some, bx_some, bx_some, bx_some, bx_some, bx_some, cc, bx_some, eg, bx_some]
        dsimp only
        rw [if_pos rfl]
        exact next m2 I2
      rw [if_neg c0]
      by_cases c1 : xs i &&& 15 = 1
      · obtain ⟨r, m1, m2, ef, eg, cc, I2⟩ := q_load h (xs (i + 1)) (xs (i + 2)) (((xs (i + 3)).toInt64 <<< ((32 : Int32).toInt64 &&& 63)) ||| ((xs (i + 4)).toInt64 &&& 4294967295)) (xs (i + 5))
        rw [if_pos c1, r1, bx_some, r2, bx_some, r3, bx_some, r4, bx_some, r5, bx_some, co, bx_some, ef, bx_some]
        dsimp only
        rw [bx_some, bx_some, bx_some, bx_some, bx_some, cc, bx_some, eg, bx_some]
        dsimp only
        rw [if_pos rfl]
        exact next m2 I2
      rw [if_neg c1]
      by_cases c2 : xs i &&& 15 = 2
      · obtain ⟨r, m1, m2, ef, eg, cc, I2⟩ := q_option h (xs (i + 1)) (xs (i + 2)) (xs (i + 3)) (((xs (i + 4)).toInt64 <<< ((32 : Int32).toInt64 &&& 63)) ||| ((xs (i + 5)).toInt64 &&& 4294967295))
        rw [if_pos c2, r1, bx_some, r2, bx_some, r3, bx_some, r4, bx_some, r5, bx_some, co, bx_some, ef, bx_some]
        dsimp only
        rw [bx_some, bx_some, bx_some, bx_some, bx_some, cc, bx_some, eg, bx_some]
        dsimp only
        rw [if_pos rfl]
        exact next m2 I2
      rw [if_neg c2]
      by_cases c3 : xs i &&& 15 = 3
      · obtain ⟨r, m1, m2, ef, eg, cc, I2⟩ := q_waits h (xs (i + 1)) (((xs (i + 2)).toInt64 <<< ((32 : Int32).toInt64 &&& 63)) ||| ((xs (i + 3)).toInt64 &&& 4294967295))
        rw [if_pos c3, r1, bx_some, r2, bx_some, r3, bx_some, co, bx_some, ef, bx_some]
        dsimp only
        rw [bx_some, bx_some, bx_some, cc, bx_some, eg, bx_some]
        dsimp only
        rw [if_pos rfl]
        exact next m2 I2
      rw [if_neg c3]
      by_cases c4 : xs i &&& 15 = 4
      · obtain ⟨r, m1, m2, ef, eg, cc, I2⟩ := q_late h (xs (i + 1)) (((xs (i + 2)).toInt64 <<< ((32 : Int32).toInt64 &&& 63)) ||| ((xs (i + 3)).toInt64 &&& 4294967295))
        rw [if_pos c4, r1, bx_some, r2, bx_some, r3, bx_some, co, bx_some, ef, bx_some]
        dsimp only
        rw [bx_some, bx_some, bx_some, cc, bx_some, eg, bx_some]
        dsimp only
        rw [if_pos rfl]
        exact next m2 I2
      rw [if_neg c4]
      by_cases c5 : xs i &&& 15 = 5
      · obtain ⟨r, m1, m2, ef, eg, cc, I2⟩ := q_tell h (xs (i + 1)) (((xs (i + 2)).toInt64 <<< ((32 : Int32).toInt64 &&& 63)) ||| ((xs (i + 3)).toInt64 &&& 4294967295))
        rw [if_pos c5, r1, bx_some, r2, bx_some, r3, bx_some, co, bx_some, ef, bx_some]
        dsimp only
        rw [bx_some, bx_some, bx_some, cc, bx_some, eg, bx_some]
        dsimp only
        rw [if_pos rfl]
        exact next m2 I2
      rw [if_neg c5]
      by_cases c6 : xs i &&& 15 = 6
      · obtain ⟨r, m1, m2, ef, eg, cc, I2⟩ := q_solve h 
        rw [if_pos c6, co, bx_some, ef, bx_some]
        dsimp only
        rw [cc, bx_some, eg, bx_some]
        dsimp only
        rw [if_pos rfl]
        exact next m2 I2
      rw [if_neg c6]
      by_cases c7 : xs i &&& 15 = 7
      · obtain ⟨r, m1, m2, ef, eg, cc, I2⟩ := q_chosen h (xs (i + 1))
        rw [if_pos c7, r1, bx_some, co, bx_some, ef, bx_some]
        dsimp only
        rw [bx_some, cc, bx_some, eg, bx_some]
        dsimp only
        rw [if_pos rfl]
        exact next m2 I2
      rw [if_neg c7]
      by_cases c8 : xs i &&& 15 = 8
      · obtain ⟨r, m1, m2, ef, eg, cc, I2⟩ := q_arrival h (xs (i + 1))
        rw [if_pos c8, r1, bx_some, co, bx_some, ef, bx_some]
        dsimp only
        rw [bx_some, cc, bx_some, eg, bx_some]
        dsimp only
        rw [if_pos rfl]
        exact next m2 I2
      rw [if_neg c8]
      by_cases c9 : xs i &&& 15 = 9
      · obtain ⟨r, m1, m2, ef, eg, cc, I2⟩ := q_departs h (xs (i + 1))
        rw [if_pos c9, r1, bx_some, co, bx_some, ef, bx_some]
        dsimp only
        rw [bx_some, cc, bx_some, eg, bx_some]
        dsimp only
        rw [if_pos rfl]
        exact next m2 I2
      rw [if_neg c9]
      by_cases c10 : xs i &&& 15 = 10
      · obtain ⟨r, m1, m2, ef, eg, cc, I2⟩ := q_none h (xs (i + 1))
        rw [if_pos c10, r1, bx_some, co, bx_some, ef, bx_some]
        dsimp only
        rw [bx_some, cc, bx_some, eg, bx_some]
        dsimp only
        rw [if_pos rfl]
        exact next m2 I2
      rw [if_neg c10]
      by_cases c11 : xs i &&& 15 = 11
      · obtain ⟨r, m1, m2, ef, eg, cc, I2⟩ := q_acts h 
        rw [if_pos c11, co, bx_some, ef, bx_some]
        dsimp only
        rw [cc, bx_some, eg, bx_some]
        dsimp only
        rw [if_pos rfl]
        exact next m2 I2
      rw [if_neg c11]
      exact next mem h
theorem pure_law (L : Nat) (xs : Nat → Int32) (sz : Nat) (hL : L ≤ 3584) : ∃ q, f_La_law L xs (sz, fun _ => none) = some q := by
  obtain ⟨M1, e1, h1⟩ := mk_LR (mem := (sz, fun _ => none)) (fun _ _ => rfl)
  have w1 : mx_wf M1 := by
    intro b hb
    rw [h1.1] at hb
    exact h1.2.2.2.2 b (by dsimp only at hb ⊢; omega)
  obtain ⟨M2, e2, h2⟩ := mk_Mo (mem := M1) w1
  have h0 := iv_0 h1 h2
  unfold f_La_law
  rw [bx_some, e1, bx_some, bx_some, e2, bx_some]
  exact law_go hL 513 0 M2 (by decide) (by decide) (by omega) h0
