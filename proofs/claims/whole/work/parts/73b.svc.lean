/-! solve: the class's steps -/
def sv_A (A : Nat → Nat → Int32) (ch : Nat → Nat) : Nat → Nat → Int32 := va_up A 13 (fun l => nI (ch l))
theorem sv_A_n {A : Nat → Nat → Int32} {ch : Nat → Nat} {k : Nat} (h : k ≠ 13) : sv_A A ch k = A k := va_up_ne _ _ h
theorem sv_A_s {A : Nat → Nat → Int32} {ch : Nat → Nat} {l : Nat} : sv_A A ch 13 l = nI (ch l) := by unfold sv_A; rw [va_up_self]
theorem sv_m1 (x : Int32) : x + (-1) = x - 1 := (Int32.sub_eq_add_neg x 1).symm
section SC
variable {o a nl nd : Nat} {th : Int32} {fi no ch ch0 : Nat → Nat} {bl : Nat → Nat → Nat} {A A' : Nat → Nat → Int32} {B B' : Nat → Nat → Int64} {L : cl_L} {od : Nat → Nat} {dp : Nat → Int64} {PI : Nat → Nat → Int32} {PL : Nat → Nat → Int64} {mem mem' : mx_Mem}
theorem sv_V (V : sg_V nl nd fi no ch0 bl A B) (hC : sg_C nd no ch) : sg_V nl nd fi no ch bl (sv_A A ch) B := sg_ch V (fun _ hk => sv_A_n hk) (fun _ _ _ => sv_A_s) hC
theorem sv_hex (V : sg_V nl nd fi no ch0 bl A B) (hB : sg_B nl B) : ∃ hm : (Nat → Nat) → Int64, ∀ ch, sg_C nd no ch → ∀ dp lf ar, sp_S nl nd fi no ch bl (sv_A A ch) B dp lf ar → sv_hm no ch (A 11) (B 10) (B 16) ar nd 1 0 = hm ch := by
  have : ∀ ch : Nat → Nat, ∃ v : Int64, sg_C nd no ch → ∀ dp lf ar, sp_S nl nd fi no ch bl (sv_A A ch) B dp lf ar → sv_hm no ch (A 11) (B 10) (B 16) ar nd 1 0 = v := by
    intro ch
    by_cases h : sg_C nd no ch ∧ ∃ dp lf ar, sp_S nl nd fi no ch bl (sv_A A ch) B dp lf ar
    · obtain ⟨hC, dp, lf, ar, S⟩ := h
      refine ⟨sv_hm no ch (A 11) (B 10) (B 16) ar nd 1 0, fun _ dp' lf' ar' S' => ?_⟩
      exact sv_hm_c nd 1 0 (fun i i1 i2 => ((sp_S_one (sv_V V hC) hB S' S).2 i i1 (by omega)).2)
    · exact ⟨0, fun hC dp lf ar S => absurd ⟨hC, dp, lf, ar, S⟩ h⟩
  exact ⟨fun ch => Classical.choose (this ch), fun ch => Classical.choose_spec (this ch)⟩
theorem sv_hlt (V : sg_V nl nd fi no ch0 bl A B) (hB : sg_B nl B) (hD : sg_D nd no A B) (hC : sg_C nd no ch) {lf : Nat → Int32} {ar : Nat → Int64} (S : sp_S nl nd fi no ch bl (sv_A A ch) B dp lf ar) : sv_hm no ch (A 11) (B 10) (B 16) ar nd 1 0 < 9223372036854775807 := by
  have hd := V.2.1
  have z : (0 : Int64).toInt = 0 := rfl
  have := sv_hm_bd (ar := ar) hD hC (fun l l1 l2 => sp_S_bd (sv_V V hC) hB S l1 l2) nd 1 0 (by omega) (by omega) (by rw [z]; omega) (by rw [z]; omega) hd
  rw [l_ltI, show (9223372036854775807 : Int64).toInt = 9223372036854775807 from rfl]
  omega
theorem c_harmL (V : sg_V nl nd fi no ch bl A' B) (h : cl_R o nl nd fi no bl A B L od dp PI PL mem) (hp : ∀ l, 1 ≤ l → l ≤ nd → PI 6 l = cl_pk no ch l) : ∀ (k n j : Nat) (c : Int64), k < n → j + k = nd → fl_LR_sumHarm_4 n (some o) c (nI j) mem = some (sv_hm no ch (A 11) (B 10) (B 16) (PL 9) k (j + 1) c, mem) := by
  have hd := V.2.1
  intro k
  induction k with
  | zero =>
    intro n j c hk hl
    obtain ⟨n, rfl⟩ : ∃ n', n = n' + 1 := ⟨n - 1, by omega⟩
    rw [fl_LR_sumHarm_4, cl_i4 h, bx_some, if_pos (by rw [nI_leI (by omega) (by omega)]; omega)]; rfl
  | succ k ih =>
    intro n j c hk hl
    obtain ⟨n, rfl⟩ : ∃ n', n = n' + 1 := ⟨n - 1, by omega⟩
    have l1 : 1 ≤ j + 1 := by omega
    have l2 : j + 1 ≤ nd := by omega
    obtain ⟨e8, f1, f2, e12, n4, e13, c4, cn⟩ := V.2.2.1 (j + 1) l1 l2
    have hpick : f_Lo_pickedOption (L.2.1 (j + 1)) mem = some (if no (j + 1) = 0 then none else some (L.2.2.2 (j + 1) (ch (j + 1))), mem) := by
      have r6 : mx_gi mem (some (L.2.1 (j + 1))) 3 6 = some (cl_pk no ch (j + 1)) := by simp [mx_gi, cl_Ol h l1 l2, cl_df, hp (j + 1) l1 l2]
      have r5 : mx_gi mem (some (L.2.1 (j + 1))) 3 5 = some (nI (no (j + 1))) := by simp [mx_gi, cl_Ol h l1 l2, cl_df]
      have r4 : mx_gr mem (some (L.2.1 (j + 1))) 3 4 = some (some (L.2.2.1 (j + 1))) := by simp [mx_gr, cl_Ol h l1 l2, cl_df]
      unfold f_Lo_pickedOption
      rw [r6, bx_some]
      by_cases c : no (j + 1) = 0
      · unfold cl_pk
        rw [if_pos c, if_pos c, if_pos (by decide)]
      · have hk : cl_pk no ch (j + 1) = nI (ch (j + 1)) := by unfold cl_pk; rw [if_neg c]
        rw [hk, if_neg c, if_neg (nI_pos (by omega)), bx_some, r5, bx_some, if_neg (by rw [nI_leI (by omega) (by omega)]; omega), r4, bx_some, bx_some, cl_aQ h l1 l2 n4 (by omega), bx_some]
    have hharm : f_Lo_harm (L.2.1 (j + 1)) mem = some ((A 11 (j + 1)).toInt64 * sp_mb (PL 9 (j + 1)) (B 10 (j + 1)) + (if no (j + 1) = 0 then 0 else B 16 (4 * (j + 1) + ch (j + 1))), mem) := by
      have r3 : mx_gi mem (some (L.2.1 (j + 1))) 3 3 = some (A 11 (j + 1)) := by simp [mx_gi, cl_Ol h l1 l2, cl_df]
      unfold f_Lo_harm
      rw [c_cl h l1 l2, bx_some, hpick, bx_some]
      dsimp only
      rw [r3, bx_some, c_cl h l1 l2, bx_some, c_mb h l1 l2, bx_some]
      dsimp only
      by_cases c0 : no (j + 1) = 0
      · rw [if_pos c0, if_pos rfl, if_pos c0]
      · have q2 : mx_gl mem (some (L.2.2.2 (j + 1) (ch (j + 1)))) 2 2 = some (B 16 (4 * (j + 1) + ch (j + 1))) := by simp [mx_gl, cl_Oq h l1 l2 (show ch (j + 1) < no (j + 1) by omega), cl_of]
        rw [if_neg c0, if_neg (by intro q; cases q), q2, bx_some, if_neg c0]
    rw [fl_LR_sumHarm_4, cl_i4 h, bx_some, if_neg (by rw [nI_leI (by omega) (by omega)]; omega), cl_g2 h, bx_some, cl_aD h hd (by omega), bx_some, c_cl h l1 l2, bx_some, hharm, bx_some, nI_1]
    conv => rhs; unfold sv_hm
    exact ih n (j + 1) _ (by omega) (by omega)
theorem c_keepL (hd : nd ≤ 6) : ∀ (k n j : Nat) (PI : Nat → Nat → Int32) (mem : mx_Mem), k < n → j + k = nd → cl_R o nl nd fi no bl A B L od dp PI PL mem →
    ∃ PI' mem', fl_LR_keepChoice_2 n (some o) (nI j) mem = some mem' ∧ cl_R o nl nd fi no bl A B L od dp PI' PL mem' ∧ cl_F mem mem' ∧ mem'.1 = mem.1 ∧ PI' 6 = PI 6 ∧ ∀ l, (l ≤ j → PI' 7 l = PI 7 l) ∧ (j < l → l ≤ nd → PI' 7 l = PI 6 l) := by
  intro k
  induction k with
  | zero =>
    intro n j PI mem hk hj h
    obtain ⟨n, rfl⟩ : ∃ n', n = n' + 1 := ⟨n - 1, by omega⟩
    refine ⟨PI, mem, ?_, h, cl_F.rf, rfl, rfl, fun l => ⟨fun _ => rfl, fun q1 q2 => by omega⟩⟩
    rw [fl_LR_keepChoice_2, cl_i4 h, bx_some, if_pos (by rw [nI_leI (by omega) (by omega)]; omega)]
  | succ k ih =>
    intro n j PI mem hk hj h
    obtain ⟨n, rfl⟩ : ∃ n', n = n' + 1 := ⟨n - 1, by omega⟩
    have l1 : 1 ≤ j + 1 := by omega
    have l2 : j + 1 ≤ nd := by omega
    have r6 : mx_gi mem (some (L.2.1 (j + 1))) 3 6 = some (PI 6 (j + 1)) := by simp [mx_gi, cl_Ol h l1 l2, cl_df]
    obtain ⟨m1, e1, R1, F1, z1⟩ := c_upP h l1 l2 7 (by omega) (PI 6 (j + 1))
    obtain ⟨PI', m2, e2, R2, F2, z2, q6, q2⟩ := ih n (j + 1) _ m1 (by omega) (by omega) R1
    refine ⟨PI', m2, ?_, R2, F1.tr F2, z2.trans z1, by rw [q6, va_up_ne _ _ (by decide)], fun l => ⟨fun hl => ?_, fun g1 g2 => ?_⟩⟩
    · rw [fl_LR_keepChoice_2, cl_i4 h, bx_some, if_neg (by rw [nI_leI (by omega) (by omega)]; omega), cl_g2 h, bx_some, cl_aD h hd (by omega), bx_some, c_cl h l1 l2, bx_some]
      unfold f_Lo_keepPicked
      rw [r6, bx_some, e1, bx_some, bx_some, nI_1, e2]
    · rw [(q2 l).1 (by omega), va_up_self, uI_n (by omega)]
    · by_cases e : l = j + 1
      · subst e
        rw [(q2 (j + 1)).1 (by omega), va_up_self, uI_s]
      · rw [(q2 l).2 (by omega) g2, va_up_ne _ _ (by decide)]
theorem c_takeL (hd : nd ≤ 6) : ∀ (k n j : Nat) (PI : Nat → Nat → Int32) (mem : mx_Mem), k < n → j + k = nd → cl_R o nl nd fi no bl A B L od dp PI PL mem →
    ∃ PI' mem', fl_LR_takeKeptChoice_2 n (some o) (nI j) mem = some mem' ∧ cl_R o nl nd fi no bl A B L od dp PI' PL mem' ∧ cl_F mem mem' ∧ mem'.1 = mem.1 ∧ ∀ l, (l ≤ j → PI' 6 l = PI 6 l) ∧ (j < l → l ≤ nd → PI' 6 l = PI 7 l) := by
  intro k
  induction k with
  | zero =>
    intro n j PI mem hk hj h
    obtain ⟨n, rfl⟩ : ∃ n', n = n' + 1 := ⟨n - 1, by omega⟩
    refine ⟨PI, mem, ?_, h, cl_F.rf, rfl, fun l => ⟨fun _ => rfl, fun q1 q2 => by omega⟩⟩
    rw [fl_LR_takeKeptChoice_2, cl_i4 h, bx_some, if_pos (by rw [nI_leI (by omega) (by omega)]; omega)]
  | succ k ih =>
    intro n j PI mem hk hj h
    obtain ⟨n, rfl⟩ : ∃ n', n = n' + 1 := ⟨n - 1, by omega⟩
    have l1 : 1 ≤ j + 1 := by omega
    have l2 : j + 1 ≤ nd := by omega
    have r7 : mx_gi mem (some (L.2.1 (j + 1))) 3 7 = some (PI 7 (j + 1)) := by simp [mx_gi, cl_Ol h l1 l2, cl_df]
    obtain ⟨m1, e1, R1, F1, z1⟩ := c_upP h l1 l2 6 (by omega) (PI 7 (j + 1))
    obtain ⟨PI', m2, e2, R2, F2, z2, q2⟩ := ih n (j + 1) _ m1 (by omega) (by omega) R1
    refine ⟨PI', m2, ?_, R2, F1.tr F2, z2.trans z1, fun l => ⟨fun hl => ?_, fun g1 g2 => ?_⟩⟩
    · rw [fl_LR_takeKeptChoice_2, cl_i4 h, bx_some, if_neg (by rw [nI_leI (by omega) (by omega)]; omega), cl_g2 h, bx_some, cl_aD h hd (by omega), bx_some, c_cl h l1 l2, bx_some]
      unfold f_Lo_takeKept
      rw [r7, bx_some, e1, bx_some, bx_some, nI_1, e2]
    · rw [(q2 l).1 (by omega), va_up_self, uI_n (by omega)]
    · by_cases e : l = j + 1
      · subst e
        rw [(q2 (j + 1)).1 (by omega), va_up_self, uI_s]
      · rw [(q2 l).2 (by omega) g2, va_up_ne _ _ (by decide)]
theorem c_firstL {K : Option Nat → mx_Mem → Option (Int64 × mx_Mem)} (hd : nd ≤ 6) (n4 : ∀ l, 1 ≤ l → l ≤ nd → no l ≤ 4) : ∀ (k n j : Nat) (PI : Nat → Nat → Int32) (mem : mx_Mem), k < n → j + k = nd → cl_R o nl nd fi no bl A B L od dp PI PL mem →
    ∃ PI' mem', fl_LR_solve_2 K n (some o) (nI j) mem = K (some o) mem' ∧ cl_R o nl nd fi no bl A B L od dp PI' PL mem' ∧ cl_F mem mem' ∧ mem'.1 = mem.1 ∧ ∀ l, (l ≤ j → PI' 6 l = PI 6 l) ∧ (j < l → l ≤ nd → PI' 6 l = cl_pk no (fun _ => 0) l) := by
  intro k
  induction k with
  | zero =>
    intro n j PI mem hk hj h
    obtain ⟨n, rfl⟩ : ∃ n', n = n' + 1 := ⟨n - 1, by omega⟩
    refine ⟨PI, mem, ?_, h, cl_F.rf, rfl, fun l => ⟨fun _ => rfl, fun q1 q2 => by omega⟩⟩
    rw [fl_LR_solve_2, cl_i4 h, bx_some, if_pos (by rw [nI_leI (by omega) (by omega)]; omega)]
  | succ k ih =>
    intro n j PI mem hk hj h
    obtain ⟨n, rfl⟩ : ∃ n', n = n' + 1 := ⟨n - 1, by omega⟩
    have l1 : 1 ≤ j + 1 := by omega
    have l2 : j + 1 ≤ nd := by omega
    obtain ⟨m1, e1, R1, F1, z1⟩ := c_pf h l1 l2 (n4 _ l1 l2)
    obtain ⟨PI', m2, e2, R2, F2, z2, q2⟩ := ih n (j + 1) _ m1 (by omega) (by omega) R1
    refine ⟨PI', m2, ?_, R2, F1.tr F2, z2.trans z1, fun l => ⟨fun hl => ?_, fun g1 g2 => ?_⟩⟩
    · rw [fl_LR_solve_2, cl_i4 h, bx_some, if_neg (by rw [nI_leI (by omega) (by omega)]; omega), cl_g2 h, bx_some, cl_aD h hd (by omega), bx_some, c_cl h l1 l2, bx_some, e1, bx_some, nI_1, e2]
    · rw [(q2 l).1 (by omega), va_up_self, uI_n (by omega)]
    · by_cases e : l = j + 1
      · subst e
        rw [(q2 (j + 1)).1 (by omega), va_up_self, uI_s]
        rfl
      · exact (q2 l).2 (by omega) g2
theorem c_nextL (hd : nd ≤ 6) (n4 : ∀ l, 1 ≤ l → l ≤ nd → no l ≤ 4) : ∀ (l n : Nat) (ch : Nat → Nat) (PI : Nat → Nat → Int32) (mem : mx_Mem), l < n → l ≤ nd → cl_R o nl nd fi no bl A B L od dp PI PL mem → sg_C nd no ch → (∀ i, 1 ≤ i → i ≤ nd → PI 6 i = cl_pk no ch i) →
    ∃ PI' mem', fl_LR_pickNextChoice_7 n (some o) (nI l - 1) mem = some (sp_b (sv_nx no l ch).1, mem') ∧ cl_R o nl nd fi no bl A B L od dp PI' PL mem' ∧ cl_F mem mem' ∧ mem'.1 = mem.1 ∧ PI' 7 = PI 7 ∧ ∀ i, 1 ≤ i → i ≤ nd → PI' 6 i = cl_pk no (sv_nx no l ch).2 i := by
  intro l
  induction l with
  | zero =>
    intro n ch PI mem hn hl h hC hp
    obtain ⟨n, rfl⟩ : ∃ n', n = n' + 1 := ⟨n - 1, by omega⟩
    refine ⟨PI, mem, ?_, h, cl_F.rf, rfl, rfl, hp⟩
    rw [fl_LR_pickNextChoice_7, if_pos (by decide)]
    rfl
  | succ l ih =>
    intro n ch PI mem hn hl h hC hp
    obtain ⟨n, rfl⟩ : ∃ n', n = n' + 1 := ⟨n - 1, by omega⟩
    have l1 : 1 ≤ l + 1 := by omega
    have l2 : l + 1 ≤ nd := by omega
    have n4' := n4 _ l1 l2
    have hCl := hC _ l1 l2
    have r6 : mx_gi mem (some (L.2.1 (l + 1))) 3 6 = some (cl_pk no ch (l + 1)) := by simp [mx_gi, cl_Ol h l1 l2, cl_df, hp (l + 1) l1 l2]
    have r5 : mx_gi mem (some (L.2.1 (l + 1))) 3 5 = some (nI (no (l + 1))) := by simp [mx_gi, cl_Ol h l1 l2, cl_df]
    have ht : cl_pk no ch (l + 1) + 1 < nI (no (l + 1)) ↔ ch (l + 1) + 1 < no (l + 1) := by
      unfold cl_pk
      by_cases c0 : no (l + 1) = 0
      · rw [if_pos c0, c0]
        exact ⟨fun q => absurd q (by decide), fun q => by omega⟩
      · rw [if_neg c0, nI_1, nI_ltI (by omega) (by omega)]
    rw [fl_LR_pickNextChoice_7, show nI (l + 1) - 1 = nI l from nI_pred _, if_neg (nI_pos (by omega)), cl_g2 h, bx_some, cl_aD h hd (by omega), bx_some, c_cl h l1 l2, bx_some, sv_m1]
    unfold f_Lo_pickNext
    rw [r6, bx_some, r5, bx_some]
    unfold sv_nx
    by_cases c : ch (l + 1) + 1 < no (l + 1)
    · have hpk : cl_pk no ch (l + 1) = nI (ch (l + 1)) := by unfold cl_pk; rw [if_neg (by omega)]
      obtain ⟨m1, e1, R1, F1, z1⟩ := c_upP h l1 l2 6 (by omega) (cl_pk no ch (l + 1) + 1)
      rw [if_pos (ht.mpr c), bx_some, e1, bx_some, bx_some, if_pos c]
      refine ⟨_, m1, rfl, R1, F1, z1, va_up_ne _ _ (by decide), fun i i1 i2 => ?_⟩
      rw [va_up_self]
      by_cases e : i = l + 1
      · subst e
        rw [uI_s, hpk, nI_1]
        unfold cl_pk
        dsimp only
        rw [if_neg (by omega), va_up_self]
      · rw [uI_n e, hp i i1 i2]
        unfold cl_pk
        dsimp only
        rw [va_up_ne _ _ e]
    · obtain ⟨m1, e1, R1, F1, z1⟩ := c_pf h l1 l2 n4'
      rw [if_neg (fun q => c (ht.mp q)), bx_some]
      dsimp only
      rw [if_pos rfl, cl_g2 h, bx_some, cl_aD h hd (by omega), bx_some, c_cl h l1 l2, bx_some, e1, bx_some, if_neg c]
      obtain ⟨PI', m2, e2, R2, F2, z2, q7, q2⟩ := ih n (va_up ch (l + 1) 0) _ m1 (by omega) (by omega) R1 (fun i i1 i2 => by
        by_cases e : i = l + 1
        · subst e; rw [va_up_self]; omega
        · rw [va_up_ne _ _ e]; exact hC i i1 i2) (fun i i1 i2 => by
        rw [va_up_self]
        unfold cl_pk
        by_cases e : i = l + 1
        · subst e; rw [uI_s, va_up_self]; rfl
        · rw [uI_n e, va_up_ne _ _ e, hp i i1 i2]; rfl)
      exact ⟨PI', m2, e2, R2, F1.tr F2, z2.trans z1, by rw [q7, va_up_ne _ _ (by decide)], q2⟩
end SC
