/-! THE REFERENCE'S CELLS: the object at a, its arrays at a + 1 .. a + 20 in the order of their making -/
def mo_lg (k : Nat) : Bool := k == 3 || k == 4 || k == 5 || k == 6 || k == 7 || k == 10 || k == 16 || k == 17 || k == 20
def mo_kd (k : Nat) : Nat := if mo_lg k then 4 else if k = 18 then 5 else 3
def mo_len (k : Nat) : Nat := if k ≤ 7 then 13 else if k ≤ 13 then 7 else if k ≤ 16 then 28 else 7
def mo_fs (a : Nat) (th nl nd : Int32) : List Value := [.int th, .int nl, .ref (a + 1), .ref (a + 2), .ref (a + 3), .ref (a + 4), .ref (a + 5), .ref (a + 6), .ref (a + 7), .int nd, .ref (a + 8), .ref (a + 9), .ref (a + 10), .ref (a + 11), .ref (a + 12), .ref (a + 13), .ref (a + 14), .ref (a + 15), .ref (a + 16), .ref (a + 17), .ref (a + 18), .ref (a + 19), .ref (a + 20)]
/-- A k: the ints of the array at a + k, B k: its longs -/
def mo_R (a : Nat) (th nl nd : Int32) (A : Nat → Nat → Int32) (B : Nat → Nat → Int64) (mem : mx_Mem) : Prop :=
  mem.2 a = some (.inr (4, mo_fs a th nl nd)) ∧ ∀ k, 1 ≤ k → k ≤ 20 → mem.2 (a + k) = some (.inl (mo_kd k, mo_len k, if mo_lg k then .inr (.inl (B k)) else .inl (A k)))
/-- nothing outside the reference's cells has changed -/
def mo_F (a : Nat) (mem mem' : mx_Mem) : Prop := mem'.1 = mem.1 ∧ ∀ b, (b < a ∨ a + 20 < b) → mem'.2 b = mem.2 b
theorem mo_F.rf {a : Nat} {mem : mx_Mem} : mo_F a mem mem := ⟨rfl, fun _ _ => rfl⟩
theorem mo_F.tr {a : Nat} {m1 m2 m3 : mx_Mem} (h : mo_F a m1 m2) (g : mo_F a m2 m3) : mo_F a m1 m3 := ⟨g.1.trans h.1, fun b hb => (g.2 b hb).trans (h.2 b hb)⟩
section MO
variable {a : Nat} {th nl nd : Int32} {A : Nat → Nat → Int32} {B : Nat → Nat → Int64} {mem : mx_Mem}
theorem mo_O (h : mo_R a th nl nd A B mem) : mx_O mem (some a) 4 = some (a, mo_fs a th nl nd) := mx_O_of h.1
theorem mo_c (h : mo_R a th nl nd A B mem) : mx_c mem (some a) 4 = some a := by simp [mx_c, mo_O h]
theorem mo_i0 (h : mo_R a th nl nd A B mem) : mx_gi mem (some a) 4 0 = some th := by simp [mx_gi, mo_O h, mo_fs]
theorem mo_i1 (h : mo_R a th nl nd A B mem) : mx_gi mem (some a) 4 1 = some nl := by simp [mx_gi, mo_O h, mo_fs]
theorem mo_i9 (h : mo_R a th nl nd A B mem) : mx_gi mem (some a) 4 9 = some nd := by simp [mx_gi, mo_O h, mo_fs]
theorem mo_g1 (h : mo_R a th nl nd A B mem) : mx_gr mem (some a) 4 2 = some (some (a + 1)) := by simp [mx_gr, mo_O h, mo_fs]
theorem mo_g2 (h : mo_R a th nl nd A B mem) : mx_gr mem (some a) 4 3 = some (some (a + 2)) := by simp [mx_gr, mo_O h, mo_fs]
theorem mo_g3 (h : mo_R a th nl nd A B mem) : mx_gr mem (some a) 4 4 = some (some (a + 3)) := by simp [mx_gr, mo_O h, mo_fs]
theorem mo_g4 (h : mo_R a th nl nd A B mem) : mx_gr mem (some a) 4 5 = some (some (a + 4)) := by simp [mx_gr, mo_O h, mo_fs]
theorem mo_g5 (h : mo_R a th nl nd A B mem) : mx_gr mem (some a) 4 6 = some (some (a + 5)) := by simp [mx_gr, mo_O h, mo_fs]
theorem mo_g6 (h : mo_R a th nl nd A B mem) : mx_gr mem (some a) 4 7 = some (some (a + 6)) := by simp [mx_gr, mo_O h, mo_fs]
theorem mo_g7 (h : mo_R a th nl nd A B mem) : mx_gr mem (some a) 4 8 = some (some (a + 7)) := by simp [mx_gr, mo_O h, mo_fs]
theorem mo_g8 (h : mo_R a th nl nd A B mem) : mx_gr mem (some a) 4 10 = some (some (a + 8)) := by simp [mx_gr, mo_O h, mo_fs]
theorem mo_g9 (h : mo_R a th nl nd A B mem) : mx_gr mem (some a) 4 11 = some (some (a + 9)) := by simp [mx_gr, mo_O h, mo_fs]
theorem mo_g10 (h : mo_R a th nl nd A B mem) : mx_gr mem (some a) 4 12 = some (some (a + 10)) := by simp [mx_gr, mo_O h, mo_fs]
theorem mo_g11 (h : mo_R a th nl nd A B mem) : mx_gr mem (some a) 4 13 = some (some (a + 11)) := by simp [mx_gr, mo_O h, mo_fs]
theorem mo_g12 (h : mo_R a th nl nd A B mem) : mx_gr mem (some a) 4 14 = some (some (a + 12)) := by simp [mx_gr, mo_O h, mo_fs]
theorem mo_g13 (h : mo_R a th nl nd A B mem) : mx_gr mem (some a) 4 15 = some (some (a + 13)) := by simp [mx_gr, mo_O h, mo_fs]
theorem mo_g14 (h : mo_R a th nl nd A B mem) : mx_gr mem (some a) 4 16 = some (some (a + 14)) := by simp [mx_gr, mo_O h, mo_fs]
theorem mo_g15 (h : mo_R a th nl nd A B mem) : mx_gr mem (some a) 4 17 = some (some (a + 15)) := by simp [mx_gr, mo_O h, mo_fs]
theorem mo_g16 (h : mo_R a th nl nd A B mem) : mx_gr mem (some a) 4 18 = some (some (a + 16)) := by simp [mx_gr, mo_O h, mo_fs]
theorem mo_g17 (h : mo_R a th nl nd A B mem) : mx_gr mem (some a) 4 19 = some (some (a + 17)) := by simp [mx_gr, mo_O h, mo_fs]
theorem mo_g18 (h : mo_R a th nl nd A B mem) : mx_gr mem (some a) 4 20 = some (some (a + 18)) := by simp [mx_gr, mo_O h, mo_fs]
theorem mo_g19 (h : mo_R a th nl nd A B mem) : mx_gr mem (some a) 4 21 = some (some (a + 19)) := by simp [mx_gr, mo_O h, mo_fs]
theorem mo_g20 (h : mo_R a th nl nd A B mem) : mx_gr mem (some a) 4 22 = some (some (a + 20)) := by simp [mx_gr, mo_O h, mo_fs]
theorem mo_ri (h : mo_R a th nl nd A B mem) (k : Nat) {j : Nat} (h1 : 1 ≤ k) (h2 : k ≤ 20) (hk : mo_lg k = false) (hj : j < mo_len k) : mx_agi mem (some (a + k)) (mo_kd k) (nI j) = some (A k j) := by
  have hl : mo_len k ≤ 28 := by unfold mo_len; split <;> (try split) <;> (try split) <;> omega
  have hR : mx_R mem (some (a + k)) (mo_kd k) = some (a + k, (mo_len k, .inl (A k))) := by
    have := h.2 k h1 h2
    rw [hk] at this
    exact mx_R_of this
  have hc : (nI j).toNatClampNeg = j := nI_clamp (by omega)
  simp [mx_agi, hR, hc, hj, nI_pos' (show j < 2 ^ 31 by omega)]
theorem mo_rl (h : mo_R a th nl nd A B mem) (k : Nat) {j : Nat} (h1 : 1 ≤ k) (h2 : k ≤ 20) (hk : mo_lg k = true) (hj : j < mo_len k) : mx_agl mem (some (a + k)) (mo_kd k) (nI j) = some (B k j) := by
  have hl : mo_len k ≤ 28 := by unfold mo_len; split <;> (try split) <;> (try split) <;> omega
  have hR : mx_R mem (some (a + k)) (mo_kd k) = some (a + k, (mo_len k, .inr (.inl (B k)))) := by
    have := h.2 k h1 h2
    rw [hk] at this
    exact mx_R_of this
  have hc : (nI j).toNatClampNeg = j := nI_clamp (by omega)
  simp [mx_agl, hR, hc, hj, nI_pos' (show j < 2 ^ 31 by omega)]
theorem mo_wi (h : mo_R a th nl nd A B mem) (k : Nat) {j : Nat} (x : Int32) (h1 : 1 ≤ k) (h2 : k ≤ 20) (hk : mo_lg k = false) (hj : j < mo_len k) : ∃ mem', mx_asi mem (some (a + k)) (mo_kd k) (nI j) x = some mem' ∧ mo_R a th nl nd (va_up A k (upd (A k) j x)) B mem' ∧ mo_F a mem mem' := by
  have hl : mo_len k ≤ 28 := by unfold mo_len; split <;> (try split) <;> (try split) <;> omega
  have hR : mx_R mem (some (a + k)) (mo_kd k) = some (a + k, (mo_len k, .inl (A k))) := by
    have := h.2 k h1 h2
    rw [hk] at this
    exact mx_R_of this
  have hc : (nI j).toNatClampNeg = j := nI_clamp (by omega)
  refine ⟨(mem.1, va_up mem.2 (a + k) (some (.inl (mo_kd k, mo_len k, .inl (upd (A k) j x))))), ?_, ⟨?_, fun k' g1 g2 => ?_⟩, rfl, fun b hb => ?_⟩
  · simp [mx_asi, hR, hc, hj, nI_pos' (show j < 2 ^ 31 by omega)]
  · dsimp only
    rw [va_up_ne _ _ (by omega)]
    exact h.1
  · dsimp only
    by_cases hkk : k' = k
    · subst hkk
      rw [va_up_self, hk, va_up_self]
      rfl
    · rw [va_up_ne _ _ (by omega), va_up_ne A _ hkk]
      exact h.2 k' g1 g2
  · dsimp only
    rw [va_up_ne _ _ (by omega)]
theorem mo_wl (h : mo_R a th nl nd A B mem) (k : Nat) {j : Nat} (x : Int64) (h1 : 1 ≤ k) (h2 : k ≤ 20) (hk : mo_lg k = true) (hj : j < mo_len k) : ∃ mem', mx_asl mem (some (a + k)) (mo_kd k) (nI j) x = some mem' ∧ mo_R a th nl nd A (va_up B k (vp_updL (B k) j x)) mem' ∧ mo_F a mem mem' := by
  have hl : mo_len k ≤ 28 := by unfold mo_len; split <;> (try split) <;> (try split) <;> omega
  have hR : mx_R mem (some (a + k)) (mo_kd k) = some (a + k, (mo_len k, .inr (.inl (B k)))) := by
    have := h.2 k h1 h2
    rw [hk] at this
    exact mx_R_of this
  have hc : (nI j).toNatClampNeg = j := nI_clamp (by omega)
  refine ⟨(mem.1, va_up mem.2 (a + k) (some (.inl (mo_kd k, mo_len k, .inr (.inl (vp_updL (B k) j x)))))), ?_, ⟨?_, fun k' g1 g2 => ?_⟩, rfl, fun b hb => ?_⟩
  · simp [mx_asl, hR, hc, hj, nI_pos' (show j < 2 ^ 31 by omega)]
  · dsimp only
    rw [va_up_ne _ _ (by omega)]
    exact h.1
  · dsimp only
    by_cases hkk : k' = k
    · subst hkk
      rw [va_up_self, hk, va_up_self]
      rfl
    · rw [va_up_ne _ _ (by omega), va_up_ne B _ hkk]
      exact h.2 k' g1 g2
  · dsimp only
    rw [va_up_ne _ _ (by omega)]
theorem mo_p0 (h : mo_R a th nl nd A B mem) (x : Int32) : ∃ mem', mx_p mem (some a) 4 0 (.int x) = some mem' ∧ mo_R a x nl nd A B mem' ∧ mo_F a mem mem' := by
  refine ⟨(mem.1, va_up mem.2 a (some (.inr (4, mo_fs a x nl nd)))), ?_, ⟨?_, fun k g1 g2 => ?_⟩, rfl, fun b hb => ?_⟩
  · simp [mx_p, mo_O h, mo_fs]
  · exact va_up_self _ _ _
  · dsimp only
    rw [va_up_ne _ _ (by omega)]
    exact h.2 k g1 g2
  · dsimp only
    rw [va_up_ne _ _ (by omega)]
theorem mo_p1 (h : mo_R a th nl nd A B mem) (x : Int32) : ∃ mem', mx_p mem (some a) 4 1 (.int x) = some mem' ∧ mo_R a th x nd A B mem' ∧ mo_F a mem mem' := by
  refine ⟨(mem.1, va_up mem.2 a (some (.inr (4, mo_fs a th x nd)))), ?_, ⟨?_, fun k g1 g2 => ?_⟩, rfl, fun b hb => ?_⟩
  · simp [mx_p, mo_O h, mo_fs]
  · exact va_up_self _ _ _
  · dsimp only
    rw [va_up_ne _ _ (by omega)]
    exact h.2 k g1 g2
  · dsimp only
    rw [va_up_ne _ _ (by omega)]
theorem mo_p9 (h : mo_R a th nl nd A B mem) (x : Int32) : ∃ mem', mx_p mem (some a) 4 9 (.int x) = some mem' ∧ mo_R a th nl x A B mem' ∧ mo_F a mem mem' := by
  refine ⟨(mem.1, va_up mem.2 a (some (.inr (4, mo_fs a th nl x)))), ?_, ⟨?_, fun k g1 g2 => ?_⟩, rfl, fun b hb => ?_⟩
  · simp [mx_p, mo_O h, mo_fs]
  · exact va_up_self _ _ _
  · dsimp only
    rw [va_up_ne _ _ (by omega)]
    exact h.2 k g1 g2
  · dsimp only
    rw [va_up_ne _ _ (by omega)]
theorem mo_r1 (h : mo_R a th nl nd A B mem) {j : Nat} (hj : j < 13) : mx_agi mem (some (a + 1)) 3 (nI j) = some (A 1 j) := mo_ri h 1 (by decide) (by decide) rfl hj
theorem mo_w1 (h : mo_R a th nl nd A B mem) {j : Nat} (x : Int32) (hj : j < 13) : ∃ mem', mx_asi mem (some (a + 1)) 3 (nI j) x = some mem' ∧ mo_R a th nl nd (va_up A 1 (upd (A 1) j x)) B mem' ∧ mo_F a mem mem' := mo_wi h 1 x (by decide) (by decide) rfl hj
theorem mo_r2 (h : mo_R a th nl nd A B mem) {j : Nat} (hj : j < 13) : mx_agi mem (some (a + 2)) 3 (nI j) = some (A 2 j) := mo_ri h 2 (by decide) (by decide) rfl hj
theorem mo_w2 (h : mo_R a th nl nd A B mem) {j : Nat} (x : Int32) (hj : j < 13) : ∃ mem', mx_asi mem (some (a + 2)) 3 (nI j) x = some mem' ∧ mo_R a th nl nd (va_up A 2 (upd (A 2) j x)) B mem' ∧ mo_F a mem mem' := mo_wi h 2 x (by decide) (by decide) rfl hj
theorem mo_r3 (h : mo_R a th nl nd A B mem) {j : Nat} (hj : j < 13) : mx_agl mem (some (a + 3)) 4 (nI j) = some (B 3 j) := mo_rl h 3 (by decide) (by decide) rfl hj
theorem mo_w3 (h : mo_R a th nl nd A B mem) {j : Nat} (x : Int64) (hj : j < 13) : ∃ mem', mx_asl mem (some (a + 3)) 4 (nI j) x = some mem' ∧ mo_R a th nl nd A (va_up B 3 (vp_updL (B 3) j x)) mem' ∧ mo_F a mem mem' := mo_wl h 3 x (by decide) (by decide) rfl hj
theorem mo_r4 (h : mo_R a th nl nd A B mem) {j : Nat} (hj : j < 13) : mx_agl mem (some (a + 4)) 4 (nI j) = some (B 4 j) := mo_rl h 4 (by decide) (by decide) rfl hj
theorem mo_w4 (h : mo_R a th nl nd A B mem) {j : Nat} (x : Int64) (hj : j < 13) : ∃ mem', mx_asl mem (some (a + 4)) 4 (nI j) x = some mem' ∧ mo_R a th nl nd A (va_up B 4 (vp_updL (B 4) j x)) mem' ∧ mo_F a mem mem' := mo_wl h 4 x (by decide) (by decide) rfl hj
theorem mo_r5 (h : mo_R a th nl nd A B mem) {j : Nat} (hj : j < 13) : mx_agl mem (some (a + 5)) 4 (nI j) = some (B 5 j) := mo_rl h 5 (by decide) (by decide) rfl hj
theorem mo_w5 (h : mo_R a th nl nd A B mem) {j : Nat} (x : Int64) (hj : j < 13) : ∃ mem', mx_asl mem (some (a + 5)) 4 (nI j) x = some mem' ∧ mo_R a th nl nd A (va_up B 5 (vp_updL (B 5) j x)) mem' ∧ mo_F a mem mem' := mo_wl h 5 x (by decide) (by decide) rfl hj
theorem mo_r6 (h : mo_R a th nl nd A B mem) {j : Nat} (hj : j < 13) : mx_agl mem (some (a + 6)) 4 (nI j) = some (B 6 j) := mo_rl h 6 (by decide) (by decide) rfl hj
theorem mo_w6 (h : mo_R a th nl nd A B mem) {j : Nat} (x : Int64) (hj : j < 13) : ∃ mem', mx_asl mem (some (a + 6)) 4 (nI j) x = some mem' ∧ mo_R a th nl nd A (va_up B 6 (vp_updL (B 6) j x)) mem' ∧ mo_F a mem mem' := mo_wl h 6 x (by decide) (by decide) rfl hj
theorem mo_r7 (h : mo_R a th nl nd A B mem) {j : Nat} (hj : j < 13) : mx_agl mem (some (a + 7)) 4 (nI j) = some (B 7 j) := mo_rl h 7 (by decide) (by decide) rfl hj
theorem mo_w7 (h : mo_R a th nl nd A B mem) {j : Nat} (x : Int64) (hj : j < 13) : ∃ mem', mx_asl mem (some (a + 7)) 4 (nI j) x = some mem' ∧ mo_R a th nl nd A (va_up B 7 (vp_updL (B 7) j x)) mem' ∧ mo_F a mem mem' := mo_wl h 7 x (by decide) (by decide) rfl hj
theorem mo_r8 (h : mo_R a th nl nd A B mem) {j : Nat} (hj : j < 7) : mx_agi mem (some (a + 8)) 3 (nI j) = some (A 8 j) := mo_ri h 8 (by decide) (by decide) rfl hj
theorem mo_w8 (h : mo_R a th nl nd A B mem) {j : Nat} (x : Int32) (hj : j < 7) : ∃ mem', mx_asi mem (some (a + 8)) 3 (nI j) x = some mem' ∧ mo_R a th nl nd (va_up A 8 (upd (A 8) j x)) B mem' ∧ mo_F a mem mem' := mo_wi h 8 x (by decide) (by decide) rfl hj
theorem mo_r9 (h : mo_R a th nl nd A B mem) {j : Nat} (hj : j < 7) : mx_agi mem (some (a + 9)) 3 (nI j) = some (A 9 j) := mo_ri h 9 (by decide) (by decide) rfl hj
theorem mo_w9 (h : mo_R a th nl nd A B mem) {j : Nat} (x : Int32) (hj : j < 7) : ∃ mem', mx_asi mem (some (a + 9)) 3 (nI j) x = some mem' ∧ mo_R a th nl nd (va_up A 9 (upd (A 9) j x)) B mem' ∧ mo_F a mem mem' := mo_wi h 9 x (by decide) (by decide) rfl hj
theorem mo_r10 (h : mo_R a th nl nd A B mem) {j : Nat} (hj : j < 7) : mx_agl mem (some (a + 10)) 4 (nI j) = some (B 10 j) := mo_rl h 10 (by decide) (by decide) rfl hj
theorem mo_w10 (h : mo_R a th nl nd A B mem) {j : Nat} (x : Int64) (hj : j < 7) : ∃ mem', mx_asl mem (some (a + 10)) 4 (nI j) x = some mem' ∧ mo_R a th nl nd A (va_up B 10 (vp_updL (B 10) j x)) mem' ∧ mo_F a mem mem' := mo_wl h 10 x (by decide) (by decide) rfl hj
theorem mo_r11 (h : mo_R a th nl nd A B mem) {j : Nat} (hj : j < 7) : mx_agi mem (some (a + 11)) 3 (nI j) = some (A 11 j) := mo_ri h 11 (by decide) (by decide) rfl hj
theorem mo_w11 (h : mo_R a th nl nd A B mem) {j : Nat} (x : Int32) (hj : j < 7) : ∃ mem', mx_asi mem (some (a + 11)) 3 (nI j) x = some mem' ∧ mo_R a th nl nd (va_up A 11 (upd (A 11) j x)) B mem' ∧ mo_F a mem mem' := mo_wi h 11 x (by decide) (by decide) rfl hj
theorem mo_r12 (h : mo_R a th nl nd A B mem) {j : Nat} (hj : j < 7) : mx_agi mem (some (a + 12)) 3 (nI j) = some (A 12 j) := mo_ri h 12 (by decide) (by decide) rfl hj
theorem mo_w12 (h : mo_R a th nl nd A B mem) {j : Nat} (x : Int32) (hj : j < 7) : ∃ mem', mx_asi mem (some (a + 12)) 3 (nI j) x = some mem' ∧ mo_R a th nl nd (va_up A 12 (upd (A 12) j x)) B mem' ∧ mo_F a mem mem' := mo_wi h 12 x (by decide) (by decide) rfl hj
theorem mo_r13 (h : mo_R a th nl nd A B mem) {j : Nat} (hj : j < 7) : mx_agi mem (some (a + 13)) 3 (nI j) = some (A 13 j) := mo_ri h 13 (by decide) (by decide) rfl hj
theorem mo_w13 (h : mo_R a th nl nd A B mem) {j : Nat} (x : Int32) (hj : j < 7) : ∃ mem', mx_asi mem (some (a + 13)) 3 (nI j) x = some mem' ∧ mo_R a th nl nd (va_up A 13 (upd (A 13) j x)) B mem' ∧ mo_F a mem mem' := mo_wi h 13 x (by decide) (by decide) rfl hj
theorem mo_r14 (h : mo_R a th nl nd A B mem) {j : Nat} (hj : j < 28) : mx_agi mem (some (a + 14)) 3 (nI j) = some (A 14 j) := mo_ri h 14 (by decide) (by decide) rfl hj
theorem mo_w14 (h : mo_R a th nl nd A B mem) {j : Nat} (x : Int32) (hj : j < 28) : ∃ mem', mx_asi mem (some (a + 14)) 3 (nI j) x = some mem' ∧ mo_R a th nl nd (va_up A 14 (upd (A 14) j x)) B mem' ∧ mo_F a mem mem' := mo_wi h 14 x (by decide) (by decide) rfl hj
theorem mo_r15 (h : mo_R a th nl nd A B mem) {j : Nat} (hj : j < 28) : mx_agi mem (some (a + 15)) 3 (nI j) = some (A 15 j) := mo_ri h 15 (by decide) (by decide) rfl hj
theorem mo_w15 (h : mo_R a th nl nd A B mem) {j : Nat} (x : Int32) (hj : j < 28) : ∃ mem', mx_asi mem (some (a + 15)) 3 (nI j) x = some mem' ∧ mo_R a th nl nd (va_up A 15 (upd (A 15) j x)) B mem' ∧ mo_F a mem mem' := mo_wi h 15 x (by decide) (by decide) rfl hj
theorem mo_r16 (h : mo_R a th nl nd A B mem) {j : Nat} (hj : j < 28) : mx_agl mem (some (a + 16)) 4 (nI j) = some (B 16 j) := mo_rl h 16 (by decide) (by decide) rfl hj
theorem mo_w16 (h : mo_R a th nl nd A B mem) {j : Nat} (x : Int64) (hj : j < 28) : ∃ mem', mx_asl mem (some (a + 16)) 4 (nI j) x = some mem' ∧ mo_R a th nl nd A (va_up B 16 (vp_updL (B 16) j x)) mem' ∧ mo_F a mem mem' := mo_wl h 16 x (by decide) (by decide) rfl hj
theorem mo_r17 (h : mo_R a th nl nd A B mem) {j : Nat} (hj : j < 7) : mx_agl mem (some (a + 17)) 4 (nI j) = some (B 17 j) := mo_rl h 17 (by decide) (by decide) rfl hj
theorem mo_w17 (h : mo_R a th nl nd A B mem) {j : Nat} (x : Int64) (hj : j < 7) : ∃ mem', mx_asl mem (some (a + 17)) 4 (nI j) x = some mem' ∧ mo_R a th nl nd A (va_up B 17 (vp_updL (B 17) j x)) mem' ∧ mo_F a mem mem' := mo_wl h 17 x (by decide) (by decide) rfl hj
theorem mo_r18 (h : mo_R a th nl nd A B mem) {j : Nat} (hj : j < 7) : mx_agi mem (some (a + 18)) 5 (nI j) = some (A 18 j) := mo_ri h 18 (by decide) (by decide) rfl hj
theorem mo_w18 (h : mo_R a th nl nd A B mem) {j : Nat} (x : Int32) (hj : j < 7) : ∃ mem', mx_asi mem (some (a + 18)) 5 (nI j) x = some mem' ∧ mo_R a th nl nd (va_up A 18 (upd (A 18) j x)) B mem' ∧ mo_F a mem mem' := mo_wi h 18 x (by decide) (by decide) rfl hj
theorem mo_r19 (h : mo_R a th nl nd A B mem) {j : Nat} (hj : j < 7) : mx_agi mem (some (a + 19)) 3 (nI j) = some (A 19 j) := mo_ri h 19 (by decide) (by decide) rfl hj
theorem mo_w19 (h : mo_R a th nl nd A B mem) {j : Nat} (x : Int32) (hj : j < 7) : ∃ mem', mx_asi mem (some (a + 19)) 3 (nI j) x = some mem' ∧ mo_R a th nl nd (va_up A 19 (upd (A 19) j x)) B mem' ∧ mo_F a mem mem' := mo_wi h 19 x (by decide) (by decide) rfl hj
theorem mo_r20 (h : mo_R a th nl nd A B mem) {j : Nat} (hj : j < 7) : mx_agl mem (some (a + 20)) 4 (nI j) = some (B 20 j) := mo_rl h 20 (by decide) (by decide) rfl hj
theorem mo_w20 (h : mo_R a th nl nd A B mem) {j : Nat} (x : Int64) (hj : j < 7) : ∃ mem', mx_asl mem (some (a + 20)) 4 (nI j) x = some mem' ∧ mo_R a th nl nd A (va_up B 20 (vp_updL (B 20) j x)) mem' ∧ mo_F a mem mem' := mo_wl h 20 x (by decide) (by decide) rfl hj
end MO
