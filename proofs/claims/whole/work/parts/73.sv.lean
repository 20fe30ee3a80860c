/-! solve: the choices in their order, and the best of them -/
def sg_C (nd : Nat) (no ch : Nat → Nat) : Prop := ∀ l, 1 ≤ l → l ≤ nd → ch l < no l ∨ (no l = 0 ∧ ch l = 0)
def sv_nx (no : Nat → Nat) : Nat → (Nat → Nat) → Bool × (Nat → Nat)
  | 0, ch => (false, ch)
  | l + 1, ch => if ch (l + 1) + 1 < no (l + 1) then (true, va_up ch (l + 1) (ch (l + 1) + 1)) else sv_nx no l (va_up ch (l + 1) 0)
def sv_wt : Nat → (Nat → Nat) → Nat
  | 0, _ => 0
  | l + 1, ch => 4 * sv_wt l ch + ch (l + 1)
theorem sv_nx_hi {no : Nat → Nat} : ∀ (l : Nat) (ch : Nat → Nat) (i : Nat), l < i → (sv_nx no l ch).2 i = ch i := by
  intro l
  induction l with
  | zero => intro ch i _; rfl
  | succ l ih =>
    intro ch i hi
    unfold sv_nx
    split
    · exact va_up_ne _ _ (by omega)
    · rw [ih _ i (by omega), va_up_ne _ _ (by omega)]
theorem sv_wt_c : ∀ (l : Nat) {ch ch' : Nat → Nat}, (∀ i, 1 ≤ i → i ≤ l → ch i = ch' i) → sv_wt l ch = sv_wt l ch' := by
  intro l
  induction l with
  | zero => intro ch ch' _; rfl
  | succ l ih =>
    intro ch ch' h
    unfold sv_wt
    rw [ih (fun i i1 i2 => h i i1 (by omega)), h (l + 1) (by omega) (Nat.le_refl _)]
theorem sv_nx_wt {no : Nat → Nat} : ∀ (l : Nat) (ch : Nat → Nat), (∀ i, 1 ≤ i → i ≤ l → ch i < 4) → (sv_nx no l ch).1 = true → sv_wt l ch < sv_wt l (sv_nx no l ch).2 := by
  intro l
  induction l with
  | zero => intro ch _ h; cases h
  | succ l ih =>
    intro ch h4 h
    unfold sv_nx at h ⊢
    by_cases c : ch (l + 1) + 1 < no (l + 1)
    · rw [if_pos c]
      dsimp only
      unfold sv_wt
      rw [va_up_self, sv_wt_c l (ch' := ch) (fun i i1 i2 => va_up_ne _ _ (by omega))]
      omega
    · rw [if_neg c] at h ⊢
      have h1 := ih (va_up ch (l + 1) 0) (fun i i1 i2 => by rw [va_up_ne _ _ (by omega)]; exact h4 i i1 (by omega)) h
      rw [sv_wt_c l (ch' := ch) (fun i i1 i2 => va_up_ne _ _ (by omega))] at h1
      have h2 := sv_nx_hi (no := no) l (va_up ch (l + 1) 0) (l + 1) (by omega)
      have h3 := h4 (l + 1) (by omega) (Nat.le_refl _)
      unfold sv_wt
      omega
theorem sv_wt_lt : ∀ (l : Nat) (ch : Nat → Nat), (∀ i, 1 ≤ i → i ≤ l → ch i < 4) → sv_wt l ch < 4 ^ l := by
  intro l
  induction l with
  | zero => intro ch _; exact Nat.one_pos
  | succ l ih =>
    intro ch h4
    have h1 := ih ch (fun i i1 i2 => h4 i i1 (by omega))
    have h3 := h4 (l + 1) (by omega) (Nat.le_refl _)
    unfold sv_wt
    rw [Nat.pow_succ]
    omega
theorem sv_nx_C {nd : Nat} {no : Nat → Nat} : ∀ (l : Nat) (ch : Nat → Nat), l ≤ nd → sg_C nd no ch → sg_C nd no (sv_nx no l ch).2 := by
  intro l
  induction l with
  | zero => intro ch _ h; exact h
  | succ l ih =>
    intro ch hl h
    unfold sv_nx
    by_cases c : ch (l + 1) + 1 < no (l + 1)
    · rw [if_pos c]
      intro i i1 i2
      dsimp only
      by_cases e : i = l + 1
      · subst e; rw [va_up_self]; exact Or.inl c
      · rw [va_up_ne _ _ e]; exact h i i1 i2
    · rw [if_neg c]
      refine ih _ (by omega) (fun i i1 i2 => ?_)
      by_cases e : i = l + 1
      · subst e; rw [va_up_self]; omega
      · rw [va_up_ne _ _ e]; exact h i i1 i2
theorem sg_C4 {nl nd : Nat} {fi no ch0 ch : Nat → Nat} {bl : Nat → Nat → Nat} {A : Nat → Nat → Int32} {B : Nat → Nat → Int64} (V : sg_V nl nd fi no ch0 bl A B) (h : sg_C nd no ch) : ∀ i, 1 ≤ i → i ≤ nd → ch i < 4 := by
  intro i i1 i2
  obtain ⟨-, -, -, -, n4, -⟩ := V.2.2.1 i i1 i2
  have := h i i1 i2
  omega
theorem sv_wt_6 {nd : Nat} {ch : Nat → Nat} (hd : nd ≤ 6) (h : ∀ i, 1 ≤ i → i ≤ nd → ch i < 4) : sv_wt nd ch < 4096 := by
  have h1 := sv_wt_lt nd ch h
  have h2 : 4 ^ nd ≤ 4 ^ 6 := Nat.pow_le_pow_right (by decide) hd
  have h3 : (4 : Nat) ^ 6 = 4096 := by decide
  omega
/-- the harm, from a load on -/
def sv_hm (no ch : Nat → Nat) (w : Nat → Int32) (du co ar : Nat → Int64) : Nat → Nat → Int64 → Int64
  | 0, _, acc => acc
  | k + 1, l, acc => sv_hm no ch w du co ar k (l + 1) (acc + ((w l).toInt64 * sp_mb (ar l) (du l) + (if no l = 0 then 0 else co (4 * l + ch l))))
theorem sv_hm_c {no ch : Nat → Nat} {w : Nat → Int32} {du co ar ar' : Nat → Int64} : ∀ (k l : Nat) (acc : Int64), (∀ i, l ≤ i → i < l + k → ar i = ar' i) → sv_hm no ch w du co ar k l acc = sv_hm no ch w du co ar' k l acc := by
  intro k
  induction k with
  | zero => intro l acc _; rfl
  | succ k ih =>
    intro l acc h
    unfold sv_hm
    rw [h l (Nat.le_refl _) (by omega)]
    exact ih (l + 1) _ (fun i i1 i2 => h i (by omega) (by omega))
theorem l_mulI {a b : Int64} (h1 : -9223372036854775808 ≤ a.toInt * b.toInt) (h2 : a.toInt * b.toInt < 9223372036854775808) : (a * b).toInt = a.toInt * b.toInt := by
  rw [Int64.toInt_mul]
  exact Int.bmod_eq_of_le_mul_two (by omega) (by omega)
theorem sp_mb_I {x d : Int64} (hx : 0 ≤ x.toInt ∧ x.toInt ≤ 30000) (hd : 0 ≤ d.toInt ∧ d.toInt ≤ 20000) : 0 ≤ (sp_mb x d).toInt ∧ (sp_mb x d).toInt ≤ 30000 := by
  have e : (x - d).toInt = x.toInt - d.toInt := l_subI (by omega) (by omega)
  have z : (0 : Int64).toInt = 0 := rfl
  unfold sp_mb
  split
  · rw [z]; omega
  · rename_i c
    rw [l_ltI, z] at c
    rw [e] at c ⊢
    omega
theorem sv_hm_bd {nd : Nat} {no ch : Nat → Nat} {A : Nat → Nat → Int32} {B : Nat → Nat → Int64} {ar : Nat → Int64} (hD : sg_D nd no A B) (hC : sg_C nd no ch) (ha : ∀ l, 1 ≤ l → l ≤ nd → 0 ≤ (ar l).toInt ∧ (ar l).toInt ≤ 30000) : ∀ (k l : Nat) (acc : Int64), 1 ≤ l → l + k = nd + 1 → 0 ≤ acc.toInt → acc.toInt ≤ 4000000 * l → nd ≤ 6 → 0 ≤ (sv_hm no ch (A 11) (B 10) (B 16) ar k l acc).toInt ∧ (sv_hm no ch (A 11) (B 10) (B 16) ar k l acc).toInt ≤ 4000000 * (l + k) := by
  intro k
  induction k with
  | zero => intro l acc l1 hl h0 h1 hd; exact ⟨h0, by unfold sv_hm; omega⟩
  | succ k ih =>
    intro l acc l1 hl h0 h1 hd
    unfold sv_hm
    obtain ⟨d1, d2, d3, d4, d5⟩ := hD l l1 (by omega)
    obtain ⟨m1, m2⟩ := sp_mb_I (ha l l1 (by omega)) ⟨d1, d2⟩
    have w1 : (A 11 l).toInt64.toInt = (A 11 l).toInt := Int32.toInt_toInt64 _
    have p1 : 0 ≤ (A 11 l).toInt * (sp_mb (ar l) (B 10 l)).toInt := Int.mul_nonneg (by omega) m1
    have p2 : (A 11 l).toInt * (sp_mb (ar l) (B 10 l)).toInt ≤ 100 * 30000 := Int.mul_le_mul d4 m2 m1 (by omega)
    have p : ((A 11 l).toInt64 * sp_mb (ar l) (B 10 l)).toInt = (A 11 l).toInt * (sp_mb (ar l) (B 10 l)).toInt := by rw [l_mulI (by rw [w1]; omega) (by rw [w1]; omega), w1]
    have c1 : 0 ≤ (if no l = 0 then (0 : Int64) else B 16 (4 * l + ch l)).toInt ∧ (if no l = 0 then (0 : Int64) else B 16 (4 * l + ch l)).toInt ≤ 10000 := by
      split
      · rw [show (0 : Int64).toInt = 0 from rfl]; omega
      · rename_i c
        have := hC l l1 (by omega)
        exact d5 (ch l) (by omega)
    generalize (if no l = 0 then (0 : Int64) else B 16 (4 * l + ch l)) = cc at c1
    have s1 : ((A 11 l).toInt64 * sp_mb (ar l) (B 10 l) + cc).toInt = (A 11 l).toInt * (sp_mb (ar l) (B 10 l)).toInt + cc.toInt := by rw [l_addI (by rw [p]; omega) (by rw [p]; omega), p]
    have s2 : (acc + ((A 11 l).toInt64 * sp_mb (ar l) (B 10 l) + cc)).toInt = acc.toInt + ((A 11 l).toInt * (sp_mb (ar l) (B 10 l)).toInt + cc.toInt) := by rw [l_addI (by rw [s1]; omega) (by rw [s1]; omega), s1]
    have := ih (l + 1) (acc + ((A 11 l).toInt64 * sp_mb (ar l) (B 10 l) + cc)) (by omega) (by omega) (by rw [s2]; omega) (by rw [s2]; omega) hd
    rw [show ((l : Int) + ((k + 1 : Nat) : Int)) = (((l + 1 : Nat) : Int) + (k : Int)) by omega]
    exact this
/-- is it better -/
def sv_bt (h v1 : Int64) (a v3 : Int32) : Bool := decide (h < v1 ∨ (h = v1 ∧ ¬ v3 ≤ a))
def sv_se (hm : (Nat → Nat) → Int64) (ac : (Nat → Nat) → Int32) (no : Nat → Nat) (nd : Nat) : Nat → Int64 → Int32 → (Nat → Nat) → (Nat → Nat) → Int64 × (Nat → Nat)
  | 0, v1, _, b, _ => (v1, b)
  | d + 1, v1, v3, b, ch => if sv_bt (hm ch) v1 (ac ch) v3 = true then (if (sv_nx no nd ch).1 = true then sv_se hm ac no nd d (hm ch) (ac ch) ch (sv_nx no nd ch).2 else (hm ch, ch)) else (if (sv_nx no nd ch).1 = true then sv_se hm ac no nd d v1 v3 b (sv_nx no nd ch).2 else (v1, b))
