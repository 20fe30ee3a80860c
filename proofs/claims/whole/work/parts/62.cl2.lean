/-! THE CLASS: arrivals, and the three loops of settle -/
section C2
variable {o nl nd : Nat} {fi no ch : Nat → Nat} {bl : Nat → Nat → Nat} {A : Nat → Nat → Int32} {B : Nat → Nat → Int64} {L : cl_L} {od : Nat → Nat} {dp : Nat → Int64} {PI : Nat → Nat → Int32} {PL : Nat → Nat → Int64} {mem : mx_Mem}
theorem c_ar91 (h : cl_R o nl nd fi no bl A B L od dp PI PL mem) {l : Nat} (h1 : 1 ≤ l) (h2 : l ≤ nd) : ∃ mem', fj_Lo_arrive_91 (some (L.2.1 l)) mem = some mem' ∧ cl_R o nl nd fi no bl A B L od dp (va_up PI 11 (upd (PI 11) l 1)) (va_up PL 9 (vp_updL (PL 9) l (PL 8 l + 1440))) mem' ∧ cl_F mem mem' ∧ mem'.1 = mem.1 := by
  have q8 : mx_gl mem (some (L.2.1 l)) 3 8 = some (PL 8 l) := by simp [mx_gl, cl_Ol h h1 h2, cl_df]
  unfold fj_Lo_arrive_91
  rw [q8, bx_some]
  obtain ⟨m1, e1, R1, F1, z1⟩ := c_upL h h1 h2 9 (by omega) (PL 8 l + 1440)
  rw [e1, bx_some]
  obtain ⟨m2, e2, R2, F2, z2⟩ := c_upP R1 h1 h2 11 (by omega) 1
  rw [e2, bx_some]
  exact ⟨m2, rfl, R2, F1.tr F2, z2.trans z1⟩
theorem c_arrive (h : cl_R o nl nd fi no bl A B L od dp PI PL mem) (V : sg_V nl nd fi no ch bl A B) {l : Nat} (h1 : 1 ≤ l) (h2 : l ≤ nd) (hp : PI 6 l = cl_pk no ch l) (hcm : PL 8 l = sp_thr B dp (fi l)) : ∃ mem', f_Lo_arrive (L.2.1 l) mem = some mem' ∧ cl_R o nl nd fi no bl A B L od dp (va_up PI 11 (upd (PI 11) l (sp_lf fi no ch bl A B dp l))) (va_up PL 9 (vp_updL (PL 9) l (sp_ar fi no ch bl A B dp l))) mem' ∧ cl_F mem mem' ∧ mem'.1 = mem.1 := by
  obtain ⟨hn, hd, hV, hO⟩ := id V
  obtain ⟨e8, f1, f2, e12, n4, e13, c4, cn⟩ := hV l h1 h2
  unfold f_Lo_arrive
  rw [c_cl h h1 h2, bx_some, c_picked h V h1 h2 hp, bx_some]
  dsimp only
  obtain ⟨m1, e1, R1, F1, z1⟩ := c_upP h h1 h2 11 (by omega) 0
  have q8 : mx_gl m1 (some (L.2.1 l)) 3 8 = some (sp_thr B dp (fi l)) := by simp [mx_gl, cl_Ol R1 h1 h2, cl_df, hcm]
  rw [e1, bx_some, c_cl R1 h1 h2, bx_some, c_direct R1 V h1 h2, bx_some]
  dsimp only
  have fin91 : ¬ A 2 (fi l) = A 9 l → ¬ (0 < no l ∧ A 14 (4 * l + ch l) = 2) → ¬ (0 < no l ∧ ¬ dp (bl l (ch l)) < sp_thr B dp (fi l) + 10) → ∃ mem', fj_Lo_arrive_91 (some (L.2.1 l)) m1 = some mem' ∧ cl_R o nl nd fi no bl A B L od dp (va_up PI 11 (upd (PI 11) l (sp_lf fi no ch bl A B dp l))) (va_up PL 9 (vp_updL (PL 9) l (sp_ar fi no ch bl A B dp l))) mem' ∧ cl_F mem mem' ∧ mem'.1 = mem.1 := by
    intro c1 c2 c3
    obtain ⟨m2, e2, R2, F2, z2⟩ := c_ar91 R1 h1 h2
    refine ⟨m2, e2, ?_, F1.tr F2, z2.trans z1⟩
    rw [va_up_self, bx_uu, uI_u, hcm] at R2
    unfold sp_lf sp_ar
    rw [if_neg c1, if_neg c1, if_neg c2, if_neg c2, if_neg c3, if_neg c3]
    exact R2
  by_cases c1 : A 2 (fi l) = A 9 l
  · rw [if_pos c1, if_neg (by decide), q8, bx_some]
    obtain ⟨m2, e2, R2, F2, z2⟩ := c_upL R1 h1 h2 9 (by omega) (sp_thr B dp (fi l))
    rw [e2, bx_some]
    refine ⟨m2, rfl, ?_, F1.tr F2, z2.trans z1⟩
    unfold sp_lf sp_ar
    rw [if_pos c1, if_pos c1]
    exact R2
  · rw [if_neg c1, if_pos rfl]
    by_cases c2 : no l = 0
    · rw [if_pos c2, if_pos rfl]
      unfold fj_Lo_arrive_55
      rw [if_pos rfl]
      exact fin91 c1 (by omega) (by omega)
    · obtain ⟨e15, b1, hk⟩ := hO l (ch l) h1 h2 (by omega)
      have q0 : mx_gi m1 (some (L.2.2.2 l (ch l))) 2 0 = some (A 14 (4 * l + ch l)) := by simp [mx_gi, cl_Oq R1 h1 h2 (show ch l < no l by omega), cl_of]
      rw [if_neg c2, if_neg (by intro q; cases q), q0, bx_some]
      by_cases c3 : A 14 (4 * l + ch l) = 2
      · rw [if_pos c3, q8, bx_some]
        obtain ⟨m2, e2, R2, F2, z2⟩ := c_upL R1 h1 h2 9 (by omega) (sp_thr B dp (fi l) + 60)
        rw [e2, bx_some]
        refine ⟨m2, rfl, ?_, F1.tr F2, z2.trans z1⟩
        unfold sp_lf sp_ar
        rw [if_neg c1, if_neg c1, if_pos ⟨by omega, c3⟩, if_pos ⟨by omega, c3⟩]
        exact R2
      · rw [if_neg c3]
        rcases hk with ⟨k1, -⟩ | ⟨-, k2, k3⟩
        · exact absurd k1 c3
        · have hon : cl_on bl L l (ch l) = some (L.1 (bl l (ch l))) := by unfold cl_on; rw [if_neg (by omega)]
          have q1 : mx_gr m1 (some (L.2.2.2 l (ch l))) 2 1 = some (some (L.1 (bl l (ch l)))) := by simp [mx_gr, cl_Oq R1 h1 h2 (show ch l < no l by omega), cl_of, hon, va_rf]
          have q7 : mx_gl m1 (some (L.1 (bl l (ch l)))) 1 7 = some (dp (bl l (ch l))) := by simp [mx_gl, cl_Oi R1 k2 b1, cl_lf]
          unfold fj_Lo_arrive_55
          rw [if_neg (by intro q; cases q), q1, bx_some, if_neg (by intro q; cases q), bx_some, c_cl R1 h1 h2, bx_some]
          unfold f_Lo_catches
          rw [q7, bx_some, q8, bx_some]
          by_cases c5 : dp (bl l (ch l)) < sp_thr B dp (fi l) + 10
          · rw [if_pos c5, bx_some]
            dsimp only
            rw [if_pos rfl]
            exact fin91 c1 (fun q => c3 q.2) (fun q => q.2 c5)
          · rw [if_neg c5, bx_some]
            dsimp only
            rw [if_neg (by decide), q1, bx_some, c_ci R1 k2 b1, bx_some, c_arr R1 k2 b1, bx_some]
            dsimp only
            obtain ⟨m2, e2, R2, F2, z2⟩ := c_upL R1 h1 h2 9 (by omega) (sp_thr B dp (bl l (ch l)))
            rw [e2, bx_some]
            refine ⟨m2, rfl, ?_, F1.tr F2, z2.trans z1⟩
            have n3 : ¬ (0 < no l ∧ A 14 (4 * l + ch l) = 2) := fun q => c3 q.2
            have n5 : 0 < no l ∧ ¬ dp (bl l (ch l)) < sp_thr B dp (fi l) + 10 := ⟨by omega, c5⟩
            unfold sp_lf sp_ar
            rw [if_neg c1, if_neg c1, if_neg n3, if_neg n3, if_pos n5, if_pos n5]
            exact R2
/-- settle's first loop -/
theorem c_setA {K : Option Nat → mx_Mem → Option mx_Mem} (hn : nl ≤ 12) : ∀ (k n j : Nat) (dp : Nat → Int64) (mem : mx_Mem), k < n → j + k = nl → cl_R o nl nd fi no bl A B L od dp PI PL mem → (∀ i, 1 ≤ i → i ≤ j → dp i = B 3 i + B 5 i) →
    ∃ mem' dp', fl_LR_settle_2 K n (some o) (nI j) mem = K (some o) mem' ∧ cl_R o nl nd fi no bl A B L od dp' PI PL mem' ∧ cl_F mem mem' ∧ mem'.1 = mem.1 ∧ ∀ i, 1 ≤ i → i ≤ nl → dp' i = B 3 i + B 5 i := by
  intro k
  induction k with
  | zero =>
    intro n j dp mem hk hj h hI
    obtain ⟨n, rfl⟩ : ∃ n', n = n' + 1 := ⟨n - 1, by omega⟩
    refine ⟨mem, dp, ?_, h, cl_F.rf, rfl, fun i i1 i2 => hI i i1 (by omega)⟩
    rw [fl_LR_settle_2, cl_i1 h, bx_some, if_pos (by rw [nI_leI (by omega) (by omega)]; omega)]
  | succ k ih =>
    intro n j dp mem hk hj h hI
    obtain ⟨n, rfl⟩ : ∃ n', n = n' + 1 := ⟨n - 1, by omega⟩
    rw [fl_LR_settle_2, cl_i1 h, bx_some, if_neg (by rw [nI_leI (by omega) (by omega)]; omega), cl_g0 h, bx_some, cl_aL h hn (by omega), bx_some, c_ci h (by omega) (by omega), bx_some]
    obtain ⟨m1, e1, R1, F1, z1⟩ := c_forget h (i := j + 1) (by omega) (by omega)
    rw [e1, bx_some, nI_1]
    obtain ⟨m2, dp', e2, R2, F2, z2, hI2⟩ := ih n (j + 1) _ m1 (by omega) (by omega) R1 (fun i i1 i2 => by
      by_cases e : i = j + 1
      · subst e; exact uL_s
      · rw [uL_n e]; exact hI i i1 (by omega))
    exact ⟨m2, dp', e2, R2, F1.tr F2, z2.trans z1, hI2⟩
/-- what lines depart at behind the first k loads of the order -/
def cl_fd (fi no ch : Nat → Nat) (bl : Nat → Nat → Nat) (A : Nat → Nat → Int32) (B : Nat → Nat → Int64) (od : Nat → Nat) (dp : Nat → Int64) : Nat → Nat → Int64
  | 0 => dp
  | k + 1 => cl_hd fi no ch bl A B (cl_fd fi no ch bl A B od dp k) (od k)
/-- settle's second loop -/
theorem c_setB {K : Option Nat → mx_Mem → Option mx_Mem} (V : sg_V nl nd fi no ch bl A B) (hod : ∀ j, j < nd → 1 ≤ od j ∧ od j ≤ nd) (hp : ∀ l, 1 ≤ l → l ≤ nd → PI 6 l = cl_pk no ch l) (dp0 : Nat → Int64) : ∀ (k n j : Nat) (PL : Nat → Nat → Int64) (mem : mx_Mem), k < n → j + k = nd → cl_R o nl nd fi no bl A B L od (cl_fd fi no ch bl A B od dp0 j) PI PL mem → (∀ i, i < j → ∃ i', i' ≥ i ∧ i' < j ∧ od i' = od i ∧ PL 8 (od i) = sp_thr B (cl_fd fi no ch bl A B od dp0 i') (fi (od i))) →
    ∃ mem' PL', fl_LR_settle_27 K n (some o) (nI j) mem = K (some o) mem' ∧ cl_R o nl nd fi no bl A B L od (cl_fd fi no ch bl A B od dp0 nd) PI PL' mem' ∧ cl_F mem mem' ∧ mem'.1 = mem.1 ∧ (PL' 9 = PL 9 ∧ PL' 10 = PL 10) ∧ (∀ i, i < nd → ∃ i', i' ≥ i ∧ i' < nd ∧ od i' = od i ∧ PL' 8 (od i) = sp_thr B (cl_fd fi no ch bl A B od dp0 i') (fi (od i))) := by
  have hd := V.2.1
  intro k
  induction k with
  | zero =>
    intro n j PL mem hk hj h hI
    obtain ⟨n, rfl⟩ : ∃ n', n = n' + 1 := ⟨n - 1, by omega⟩
    have e : j = nd := by omega
    subst e
    refine ⟨mem, PL, ?_, h, cl_F.rf, rfl, ⟨rfl, rfl⟩, hI⟩
    rw [fl_LR_settle_27, cl_i4 h, bx_some, if_pos (by rw [nI_leI (by omega) (by omega)]; omega)]
  | succ k ih =>
    intro n j PL mem hk hj h hI
    obtain ⟨n, rfl⟩ : ∃ n', n = n' + 1 := ⟨n - 1, by omega⟩
    obtain ⟨o1, o2⟩ := hod j (by omega)
    rw [fl_LR_settle_27, cl_i4 h, bx_some, if_neg (by rw [nI_leI (by omega) (by omega)]; omega), cl_g3 h, bx_some, cl_aO h hd (by omega), bx_some, c_cl h o1 o2, bx_some]
    obtain ⟨m1, e1, R1, F1, z1⟩ := c_come h V o1 o2 (hp _ o1 o2)
    rw [e1, bx_some, nI_1]
    obtain ⟨m2, PL', e2, R2, F2, z2, h9, hI2⟩ := ih n (j + 1) _ m1 (by omega) (by omega) R1 (fun i hi => by
      by_cases e : od i = od j
      · refine ⟨j, by omega, by omega, e.symm, ?_⟩
        rw [va_up_self, e, uL_s]
      · have hij : i < j := by
          rcases Nat.lt_or_ge i j with q | q
          · exact q
          · have : i = j := by omega
            rw [this] at e
            exact absurd rfl e
        obtain ⟨i', a1, a2, a3, a4⟩ := hI i hij
        refine ⟨i', a1, by omega, a3, ?_⟩
        rw [va_up_self, uL_n e, a4])
    rw [va_up_ne _ _ (by decide), va_up_ne _ _ (by decide)] at h9
    exact ⟨m2, PL', e2, R2, F1.tr F2, z2.trans z1, h9, hI2⟩
/-- settle's third loop -/
theorem c_setC (V : sg_V nl nd fi no ch bl A B) : ∀ (k n j : Nat) (PI : Nat → Nat → Int32) (PL : Nat → Nat → Int64) (mem : mx_Mem), k < n → j + k = nd → cl_R o nl nd fi no bl A B L od dp PI PL mem → (∀ l, 1 ≤ l → l ≤ nd → PI 6 l = cl_pk no ch l) → (∀ l, 1 ≤ l → l ≤ nd → PL 8 l = sp_thr B dp (fi l)) → (∀ l, 1 ≤ l → l ≤ j → PI 11 l = sp_lf fi no ch bl A B dp l ∧ PL 9 l = sp_ar fi no ch bl A B dp l) →
    ∃ mem' PI' PL', fl_LR_settle_52 n (some o) (nI j) mem = some mem' ∧ cl_R o nl nd fi no bl A B L od dp PI' PL' mem' ∧ cl_F mem mem' ∧ mem'.1 = mem.1 ∧ (PI' 6 = PI 6 ∧ PI' 7 = PI 7 ∧ PL' 10 = PL 10) ∧ (∀ l, 1 ≤ l → l ≤ nd → PI' 11 l = sp_lf fi no ch bl A B dp l ∧ PL' 9 l = sp_ar fi no ch bl A B dp l) := by
  have hd := V.2.1
  intro k
  induction k with
  | zero =>
    intro n j PI PL mem hk hj h hp hcm hI
    obtain ⟨n, rfl⟩ : ∃ n', n = n' + 1 := ⟨n - 1, by omega⟩
    refine ⟨mem, PI, PL, ?_, h, cl_F.rf, rfl, ⟨rfl, rfl, rfl⟩, fun l l1 l2 => hI l l1 (by omega)⟩
    rw [fl_LR_settle_52, cl_i4 h, bx_some, if_pos (by rw [nI_leI (by omega) (by omega)]; omega)]
  | succ k ih =>
    intro n j PI PL mem hk hj h hp hcm hI
    obtain ⟨n, rfl⟩ : ∃ n', n = n' + 1 := ⟨n - 1, by omega⟩
    rw [fl_LR_settle_52, cl_i4 h, bx_some, if_neg (by rw [nI_leI (by omega) (by omega)]; omega), cl_g2 h, bx_some, cl_aD h hd (by omega), bx_some, c_cl h (by omega) (by omega), bx_some]
    obtain ⟨m1, e1, R1, F1, z1⟩ := c_arrive h V (l := j + 1) (by omega) (by omega) (hp _ (by omega) (by omega)) (hcm _ (by omega) (by omega))
    rw [e1, bx_some, nI_1]
    obtain ⟨m2, PI', PL', e2, R2, F2, z2, ⟨h6, h7, h10⟩, hI2⟩ := ih n (j + 1) _ _ m1 (by omega) (by omega) R1 (fun l l1 l2 => by rw [va_up_ne _ _ (by decide)]; exact hp l l1 l2) (fun l l1 l2 => by rw [va_up_ne _ _ (by decide)]; exact hcm l l1 l2) (fun l l1 l2 => by
      rw [va_up_self, va_up_self]
      by_cases e : l = j + 1
      · subst e; exact ⟨uI_s, uL_s⟩
      · rw [uI_n e, uL_n e]; exact hI l l1 (by omega))
    rw [va_up_ne _ _ (by decide)] at h6 h7 h10
    exact ⟨m2, PI', PL', e2, R2, F1.tr F2, z2.trans z1, ⟨h6, h7, h10⟩, hI2⟩
end C2
