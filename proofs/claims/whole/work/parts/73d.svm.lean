/-! solve: the reference's steps -/
def so_eq (nd : Nat) (A : Nat → Nat → Int32) (B : Nat → Nat → Int64) (A' : Nat → Nat → Int32) (B' : Nat → Nat → Int64) : Prop := (∀ k, k ≠ 13 → k ≠ 18 → k ≠ 19 → A' k = A k) ∧ (∀ k, k ≠ 7 → k ≠ 17 → B' k = B k) ∧ ∀ l, nd < l → A' 13 l = A 13 l
section SM
variable {o a nl nd : Nat} {th : Int32} {fi no ch ch0 : Nat → Nat} {bl : Nat → Nat → Nat} {A A' : Nat → Nat → Int32} {B B' : Nat → Nat → Int64} {mem mem' : mx_Mem}
theorem so_V (V : sg_V nl nd fi no ch0 bl A B) (so : so_eq nd A B A' B') (hC : sg_C nd no ch) (h13 : ∀ l, 1 ≤ l → l ≤ nd → A' 13 l = nI (ch l)) : sg_V nl nd fi no ch bl A' B' := by
  obtain ⟨hn, hd, hV, hO⟩ := V
  refine ⟨hn, hd, fun l l1 l2 => ?_, fun l q l1 l2 l3 => ?_⟩
  · obtain ⟨e8, f1, f2, e12, n4, e13, c4, cn⟩ := hV l l1 l2
    rw [so.1 8 (by decide) (by decide) (by decide), so.1 12 (by decide) (by decide) (by decide), h13 l l1 l2]
    have := hC l l1 l2
    exact ⟨e8, f1, f2, e12, n4, rfl, by omega, this⟩
  · rw [so.1 15 (by decide) (by decide) (by decide), so.1 14 (by decide) (by decide) (by decide), so.2.1 3 (by decide) (by decide)]
    exact hO l q l1 l2 l3
theorem so_B (hB : sg_B nl B) (so : so_eq nd A B A' B') : sg_B nl B' := by
  unfold sg_B
  rw [so.2.1 3 (by decide) (by decide), so.2.1 4 (by decide) (by decide), so.2.1 5 (by decide) (by decide), so.2.1 6 (by decide) (by decide)]
  exact hB
theorem so_D (hD : sg_D nd no A B) (so : so_eq nd A B A' B') : sg_D nd no A' B' := by
  unfold sg_D
  rw [so.2.1 10 (by decide) (by decide), so.2.1 16 (by decide) (by decide), so.1 11 (by decide) (by decide) (by decide)]
  exact hD
theorem so_S (so : so_eq nd A B A' B') {dp : Nat → Int64} {lf : Nat → Int32} {ar : Nat → Int64} (S : sp_S nl nd fi no ch bl A' B' dp lf ar) : sp_S nl nd fi no ch bl (sv_A A ch) B dp lf ar := by
  have a2 : sv_A A ch 2 = A' 2 := by rw [sv_A_n (by decide), so.1 2 (by decide) (by decide) (by decide)]
  have a9 : sv_A A ch 9 = A' 9 := by rw [sv_A_n (by decide), so.1 9 (by decide) (by decide) (by decide)]
  have a14 : sv_A A ch 14 = A' 14 := by rw [sv_A_n (by decide), so.1 14 (by decide) (by decide) (by decide)]
  have a15 : sv_A A ch 15 = A' 15 := by rw [sv_A_n (by decide), so.1 15 (by decide) (by decide) (by decide)]
  have b3 := (so.2.1 3 (by decide) (by decide)).symm
  have b4 := (so.2.1 4 (by decide) (by decide)).symm
  have b5 := (so.2.1 5 (by decide) (by decide)).symm
  have b6 := (so.2.1 6 (by decide) (by decide)).symm
  refine ⟨fun x x1 x2 => ?_, fun i i1 i2 => ?_⟩
  · rw [sp_H_B a14 a15 b3 b4 b5 b6]; exact S.1 x x1 x2
  · rw [sp_lf_B a2 a9 a14 b3 b4, sp_ar_B a2 a9 a14 b3 b4]; exact S.2 i i1 i2
theorem m_harmL (V : sg_V nl nd fi no ch bl A B) (hD : sg_D nd no A B) (ha : ∀ l, 1 ≤ l → l ≤ nd → 0 ≤ (B 17 l).toInt ∧ (B 17 l).toInt ≤ 30000) (h : mo_R a th (nI nl) (nI nd) A B mem) : ∀ (k n l : Nat) (c : Int64), k < n → l + k = nd + 1 → 1 ≤ l → fl_Mo_harm_4 n (some a) c (nI l) mem = some (sv_hm no ch (A 11) (B 10) (B 16) (B 17) k l c, mem) := by
  obtain ⟨hn, hd, hV, hO⟩ := V
  intro k
  induction k with
  | zero =>
    intro n l c hk hl h1
    obtain ⟨n, rfl⟩ : ∃ n', n = n' + 1 := ⟨n - 1, by omega⟩
    rw [fl_Mo_harm_4, mo_i9 h, bx_some, if_pos (by rw [nI_ltI (by omega) (by omega)]; omega)]; rfl
  | succ k ih =>
    intro n l c hk hl h1
    obtain ⟨n, rfl⟩ : ∃ n', n = n' + 1 := ⟨n - 1, by omega⟩
    obtain ⟨e8, f1, f2, e12, n4, e13, c4, cn⟩ := hV l h1 (by omega)
    obtain ⟨d1, d2, -⟩ := hD l h1 (by omega)
    have hmb := sp_mb_0 (ha l h1 (by omega)) ⟨d1, d2⟩
    rw [fl_Mo_harm_4, mo_i9 h, bx_some, if_neg (by rw [nI_ltI (by omega) (by omega)]; omega), mo_g17 h, bx_some, mo_r17 h (by omega), bx_some, mo_g10 h, bx_some, mo_r10 h (by omega), bx_some, mo_g12 h, bx_some, mo_r12 h (by omega), bx_some, e12, nI_1]
    conv => rhs; unfold sv_hm
    rw [← ih n (l + 1) _ (by omega) (by omega) (by omega), ← Int64.add_assoc]
    by_cases c1 : B 17 l ≤ B 10 l
    · rw [if_pos c1, hmb.1 c1, Int64.mul_zero]
      by_cases c0 : no l = 0
      · rw [if_pos ((nI_le0 (by omega)).mpr c0), if_pos c0]
      · rw [if_neg (fun q => c0 ((nI_le0 (by omega)).mp q)), if_neg c0, mo_g16 h, bx_some, mo_g13 h, bx_some, mo_r13 h (by omega), bx_some, e13, nI_oc, mo_r16 h (by omega), bx_some]
    · rw [if_neg c1, (hmb.2 c1).1, mo_g11 h, bx_some, mo_r11 h (by omega), bx_some, bx_some, mo_r17 h (by omega), bx_some, bx_some, mo_r10 h (by omega), bx_some, bx_some, mo_r12 h (by omega), bx_some, e12]
      by_cases c0 : no l = 0
      · rw [if_pos ((nI_le0 (by omega)).mpr c0), if_pos c0]
      · rw [if_neg (fun q => c0 ((nI_le0 (by omega)).mp q)), if_neg c0, mo_g16 h, bx_some, mo_g13 h, bx_some, mo_r13 h (by omega), bx_some, e13, nI_oc, mo_r16 h (by omega), bx_some]
theorem m_bestL {K : Option Nat → Int64 → Int32 → Int32 → mx_Mem → Option (Int64 × mx_Mem)} {v1 : Int64} {v3 v4 : Int32} (hd : nd ≤ 6) : ∀ (k n l : Nat) (A : Nat → Nat → Int32) (mem : mx_Mem), k < n → l + k = nd + 1 → 1 ≤ l → mo_R a th (nI nl) (nI nd) A B mem →
    ∃ A' mem', fl_Mo_solve_96 K n (some a) v1 v3 v4 (nI l) mem = K (some a) v1 v3 v4 mem' ∧ mo_R a th (nI nl) (nI nd) A' B mem' ∧ mo_F a mem mem' ∧ (∀ i, i ≠ 19 → A' i = A i) ∧ ∀ i, (i < l → A' 19 i = A 19 i) ∧ (l ≤ i → i ≤ nd → A' 19 i = A 13 i) := by
  intro k
  induction k with
  | zero =>
    intro n l A mem hk hl h1 h
    obtain ⟨n, rfl⟩ : ∃ n', n = n' + 1 := ⟨n - 1, by omega⟩
    refine ⟨A, mem, ?_, h, mo_F.rf, fun _ _ => rfl, fun i => ⟨fun _ => rfl, fun g1 g2 => by omega⟩⟩
    rw [fl_Mo_solve_96, mo_i9 h, bx_some, if_pos (by rw [nI_ltI (by omega) (by omega)]; omega)]
  | succ k ih =>
    intro n l A mem hk hl h1 h
    obtain ⟨n, rfl⟩ : ∃ n', n = n' + 1 := ⟨n - 1, by omega⟩
    obtain ⟨m1, e1, R1, F1⟩ := mo_w19 h (A 13 l) (j := l) (by omega)
    obtain ⟨A', m2, e2, R2, F2, q2, q3⟩ := ih n (l + 1) _ m1 (by omega) (by omega) (by omega) R1
    refine ⟨A', m2, ?_, R2, F1.tr F2, fun i hi => ?_, fun i => ⟨fun hi => ?_, fun g1 g2 => ?_⟩⟩
    · rw [fl_Mo_solve_96, mo_i9 h, bx_some, if_neg (by rw [nI_ltI (by omega) (by omega)]; omega), mo_g19 h, bx_some, mo_g13 h, bx_some, mo_r13 h (by omega), bx_some, e1, bx_some, nI_1, e2]
    · rw [q2 i hi, va_up_ne _ _ hi]
    · rw [(q3 i).1 (by omega), va_up_self, uI_n (by omega)]
    · by_cases e : i = l
      · subst e
        rw [(q3 i).1 (by omega), va_up_self, uI_s]
      · rw [(q3 i).2 (by omega) g2, va_up_ne _ _ (by decide)]
theorem m_takeL {v1 : Int64} (hd : nd ≤ 6) : ∀ (k n l : Nat) (A : Nat → Nat → Int32) (mem : mx_Mem), k < n → l + k = nd + 1 → 1 ≤ l → mo_R a th (nI nl) (nI nd) A B mem →
    ∃ A' mem', fl_Mo_solve_137 n (some a) v1 (nI l) mem = some (v1, mem') ∧ mo_R a th (nI nl) (nI nd) A' B mem' ∧ mo_F a mem mem' ∧ (∀ i, i ≠ 13 → A' i = A i) ∧ ∀ i, (i < l ∨ nd < i → A' 13 i = A 13 i) ∧ (l ≤ i → i ≤ nd → A' 13 i = A 19 i) := by
  intro k
  induction k with
  | zero =>
    intro n l A mem hk hl h1 h
    obtain ⟨n, rfl⟩ : ∃ n', n = n' + 1 := ⟨n - 1, by omega⟩
    refine ⟨A, mem, ?_, h, mo_F.rf, fun _ _ => rfl, fun i => ⟨fun _ => rfl, fun g1 g2 => by omega⟩⟩
    rw [fl_Mo_solve_137, mo_i9 h, bx_some, if_pos (by rw [nI_ltI (by omega) (by omega)]; omega)]
  | succ k ih =>
    intro n l A mem hk hl h1 h
    obtain ⟨n, rfl⟩ : ∃ n', n = n' + 1 := ⟨n - 1, by omega⟩
    obtain ⟨m1, e1, R1, F1⟩ := mo_w13 h (A 19 l) (j := l) (by omega)
    obtain ⟨A', m2, e2, R2, F2, q2, q3⟩ := ih n (l + 1) _ m1 (by omega) (by omega) (by omega) R1
    refine ⟨A', m2, ?_, R2, F1.tr F2, fun i hi => ?_, fun i => ⟨fun hi => ?_, fun g1 g2 => ?_⟩⟩
    · rw [fl_Mo_solve_137, mo_i9 h, bx_some, if_neg (by rw [nI_ltI (by omega) (by omega)]; omega), mo_g13 h, bx_some, mo_g19 h, bx_some, mo_r19 h (by omega), bx_some, e1, bx_some, nI_1, e2]
    · rw [q2 i hi, va_up_ne _ _ hi]
    · rw [(q3 i).1 (by omega), va_up_self, uI_n (by omega)]
    · by_cases e : i = l
      · subst e
        rw [(q3 i).1 (by omega), va_up_self, uI_s]
      · rw [(q3 i).2 (by omega) g2, va_up_ne _ _ (by decide)]
theorem m_firstL {K : Option Nat → mx_Mem → Option (Int64 × mx_Mem)} (hd : nd ≤ 6) : ∀ (k n l : Nat) (A : Nat → Nat → Int32) (mem : mx_Mem), k < n → l + k = nd + 1 → 1 ≤ l → mo_R a th (nI nl) (nI nd) A B mem →
    ∃ A' mem', fl_Mo_solve_7 K n (some a) (nI l) mem = K (some a) mem' ∧ mo_R a th (nI nl) (nI nd) A' B mem' ∧ mo_F a mem mem' ∧ (∀ i, i ≠ 13 → A' i = A i) ∧ ∀ i, (i < l ∨ nd < i → A' 13 i = A 13 i) ∧ (l ≤ i → i ≤ nd → A' 13 i = 0) := by
  intro k
  induction k with
  | zero =>
    intro n l A mem hk hl h1 h
    obtain ⟨n, rfl⟩ : ∃ n', n = n' + 1 := ⟨n - 1, by omega⟩
    refine ⟨A, mem, ?_, h, mo_F.rf, fun _ _ => rfl, fun i => ⟨fun _ => rfl, fun g1 g2 => by omega⟩⟩
    rw [fl_Mo_solve_7, mo_i9 h, bx_some, if_pos (by rw [nI_ltI (by omega) (by omega)]; omega)]
  | succ k ih =>
    intro n l A mem hk hl h1 h
    obtain ⟨n, rfl⟩ : ∃ n', n = n' + 1 := ⟨n - 1, by omega⟩
    obtain ⟨m1, e1, R1, F1⟩ := mo_w13 h 0 (j := l) (by omega)
    obtain ⟨A', m2, e2, R2, F2, q2, q3⟩ := ih n (l + 1) _ m1 (by omega) (by omega) (by omega) R1
    refine ⟨A', m2, ?_, R2, F1.tr F2, fun i hi => ?_, fun i => ⟨fun hi => ?_, fun g1 g2 => ?_⟩⟩
    · rw [fl_Mo_solve_7, mo_i9 h, bx_some, if_neg (by rw [nI_ltI (by omega) (by omega)]; omega), mo_g13 h, bx_some, e1, bx_some, nI_1, e2]
    · rw [q2 i hi, va_up_ne _ _ hi]
    · rw [(q3 i).1 (by omega), va_up_self, uI_n (by omega)]
    · by_cases e : i = l
      · subst e
        rw [(q3 i).1 (by omega), va_up_self, uI_s]
      · rw [(q3 i).2 (by omega) g2]
theorem m_nextL (hd : nd ≤ 6) : ∀ (l n : Nat) (ch : Nat → Nat) (A : Nat → Nat → Int32) (mem : mx_Mem), l < n → l ≤ nd → mo_R a th (nI nl) (nI nd) A B mem → (∀ i, 1 ≤ i → i ≤ nd → A 13 i = nI (ch i) ∧ ch i < 4 ∧ A 12 i = nI (no i) ∧ no i ≤ 4) →
    ∃ A' mem', fl_Mo_next_5 (fun (v0 : Option Nat) (v1 : Int32) (m3 : mx_Mem) => fj_Mo_next_39 v0 v1 m3) n (some a) (nI l) mem = some (sp_b (sv_nx no l ch).1, mem') ∧ mo_R a th (nI nl) (nI nd) A' B mem' ∧ mo_F a mem mem' ∧ (∀ i, i ≠ 13 → A' i = A i) ∧ (∀ i, nd < i → A' 13 i = A 13 i) ∧ ∀ i, 1 ≤ i → i ≤ nd → A' 13 i = nI ((sv_nx no l ch).2 i) := by
  intro l
  induction l with
  | zero =>
    intro n ch A mem hn hl h hp
    obtain ⟨n, rfl⟩ : ∃ n', n = n' + 1 := ⟨n - 1, by omega⟩
    refine ⟨A, mem, ?_, h, mo_F.rf, fun _ _ => rfl, fun _ _ => rfl, fun i i1 i2 => (hp i i1 i2).1⟩
    rw [fl_Mo_next_5, if_pos (by decide)]
    unfold fj_Mo_next_39
    rw [if_pos (by decide), if_pos (by decide)]
    rfl
  | succ l ih =>
    intro n ch A mem hn hl h hp
    obtain ⟨n, rfl⟩ : ∃ n', n = n' + 1 := ⟨n - 1, by omega⟩
    obtain ⟨e13, c4, e12, n4⟩ := hp (l + 1) (by omega) hl
    have np : ¬ nI (l + 1) ≤ 0 := fun q => by have := (nI_le0 (by omega)).mp q; omega
    have ht : nI (ch (l + 1)) + 1 < nI (no (l + 1)) ↔ ch (l + 1) + 1 < no (l + 1) := by rw [nI_1, nI_ltI (by omega) (by omega)]
    rw [fl_Mo_next_5, if_neg np, mo_g13 h, bx_some, mo_r13 h (by omega), bx_some, mo_g12 h, bx_some, mo_r12 h (by omega), bx_some, e13, e12, bx_some, sv_m1, show nI (l + 1) - 1 = nI l from nI_pred _]
    unfold sv_nx
    by_cases c : ch (l + 1) + 1 < no (l + 1)
    · obtain ⟨m1, e1, R1, F1⟩ := mo_w13 h (nI (ch (l + 1)) + 1) (j := l + 1) (by omega)
      rw [if_pos (ht.mpr c), if_pos c]
      unfold fj_Mo_next_39
      rw [if_neg np, mo_g13 h, bx_some, mo_r13 h (by omega), bx_some, e13, e1, bx_some, if_neg np]
      refine ⟨_, m1, rfl, R1, F1, fun i hi => va_up_ne _ _ hi, fun i hi => by rw [va_up_self, uI_n (by omega)], fun i i1 i2 => ?_⟩
      rw [va_up_self]
      dsimp only
      by_cases e : i = l + 1
      · subst e; rw [uI_s, va_up_self, nI_1]
      · rw [uI_n e, va_up_ne _ _ e]; exact (hp i i1 i2).1
    · obtain ⟨m1, e1, R1, F1⟩ := mo_w13 h 0 (j := l + 1) (by omega)
      rw [if_neg (fun q => c (ht.mp q)), if_neg c, e1, bx_some]
      obtain ⟨A', m2, e2, R2, F2, q2, q3, q4⟩ := ih n (va_up ch (l + 1) 0) _ m1 (by omega) (by omega) R1 (fun i i1 i2 => by
        rw [va_up_self, va_up_ne _ _ (show 12 ≠ 13 by decide)]
        obtain ⟨g1, g2, g3, g4⟩ := hp i i1 i2
        by_cases e : i = l + 1
        · subst e; rw [uI_s, va_up_self]; exact ⟨rfl, by omega, g3, g4⟩
        · rw [uI_n e, va_up_ne _ _ e]; exact ⟨g1, g2, g3, g4⟩)
      exact ⟨A', m2, e2, R2, F1.tr F2, fun i hi => by rw [q2 i hi, va_up_ne _ _ hi], fun i hi => by rw [q3 i hi, va_up_self, uI_n (by omega)], q4⟩
end SM
