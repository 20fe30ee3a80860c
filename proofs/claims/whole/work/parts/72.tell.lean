/-! tell: which loads are concerned -/
def sp_an (b : Nat → Nat) (x : Nat) : Nat → Nat → Bool
  | 0, _ => false
  | k + 1, q => decide (b q = x) || sp_an b x k (q + 1)
def sp_cc (fi no : Nat → Nat) (bl : Nat → Nat → Nat) (x l : Nat) : Bool := decide (fi l = x) || sp_an (bl l) x (no l) 0
def sp_b (b : Bool) : Int32 := if b then 1 else 0
theorem sp_an_t {b : Nat → Nat} {x k q : Nat} (h : b q = x) : sp_an b x (k + 1) q = true := by unfold sp_an; rw [decide_eq_true h]; rfl
theorem sp_an_f {b : Nat → Nat} {x k q : Nat} (h : ¬ b q = x) : sp_an b x (k + 1) q = sp_an b x k (q + 1) := by show (decide (b q = x) || sp_an b x k (q + 1)) = _; rw [decide_eq_false h]; rfl
theorem nI_z {n : Nat} (h : n < 2 ^ 31) : nI n = 0 ↔ n = 0 := by rw [show (0 : Int32) = nI 0 from rfl, nI_eq h (by decide)]
section TL
variable {o a nl nd : Nat} {th : Int32} {fi no ch : Nat → Nat} {bl : Nat → Nat → Nat} {A A' : Nat → Nat → Int32} {B B' : Nat → Nat → Int64} {L : cl_L} {od : Nat → Nat} {dp : Nat → Int64} {PI : Nat → Nat → Int32} {PL : Nat → Nat → Int64} {mem mem' : mx_Mem}
theorem c_num (h : cl_R o nl nd fi no bl A B L od dp PI PL mem) {i : Nat} (h1 : 1 ≤ i) (h2 : i ≤ nl) : mx_gi mem (some (L.1 i)) 1 0 = some (nI i) := by simp [mx_gi, cl_Oi h h1 h2, cl_lf]
theorem c_conL (V : sg_V nl nd fi no ch bl A B) (h : cl_R o nl nd fi no bl A B L od dp PI PL mem) {l x : Nat} (l1 : 1 ≤ l) (l2 : l ≤ nd) (x1 : 1 ≤ x) (x2 : x ≤ nl) : ∀ (k n q : Nat), k < n → q + k = no l → fl_Lo_concerns_18 n (some (L.2.1 l)) (some (L.1 x)) (nI q) mem = some (sp_b (sp_an (bl l) x k q), mem) := by
  obtain ⟨hn, hd, hV, hO⟩ := V
  obtain ⟨e8, f1, f2, e12, n4, e13, c4, cn⟩ := hV l l1 l2
  have r5 : mx_gi mem (some (L.2.1 l)) 3 5 = some (nI (no l)) := by simp [mx_gi, cl_Ol h l1 l2, cl_df]
  have r4 : mx_gr mem (some (L.2.1 l)) 3 4 = some (some (L.2.2.1 l)) := by simp [mx_gr, cl_Ol h l1 l2, cl_df]
  intro k
  induction k with
  | zero =>
    intro n q hk hq
    obtain ⟨n, rfl⟩ : ∃ n', n = n' + 1 := ⟨n - 1, by omega⟩
    rw [fl_Lo_concerns_18, r5, bx_some, if_pos (by rw [nI_leI (by omega) (by omega)]; omega)]; rfl
  | succ k ih =>
    intro n q hk hq
    obtain ⟨n, rfl⟩ : ∃ n', n = n' + 1 := ⟨n - 1, by omega⟩
    obtain ⟨e15, b1, -⟩ := hO l q l1 l2 (by omega)
    have q1 : mx_gr mem (some (L.2.2.2 l q)) 2 1 = some (cl_on bl L l q) := by
      unfold cl_on
      by_cases c : bl l q = 0
      · simp [mx_gr, cl_Oq h l1 l2 (show q < no l by omega), cl_of, cl_on, va_rf, c]
      · simp [mx_gr, cl_Oq h l1 l2 (show q < no l by omega), cl_of, cl_on, va_rf, c]
    rw [fl_Lo_concerns_18, r5, bx_some, if_neg (by rw [nI_leI (by omega) (by omega)]; omega), r4, bx_some, cl_aQ h l1 l2 n4 (by omega), bx_some, q1, bx_some, nI_1]
    unfold cl_on
    by_cases c : bl l q = 0
    · rw [if_pos c, if_pos rfl, sp_an_f (by omega)]
      exact ih n (q + 1) (by omega) (by omega)
    · rw [if_neg c, if_neg (by intro z; cases z), c_num h (by omega) b1, bx_some, c_num h x1 x2, bx_some]
      by_cases c2 : bl l q = x
      · rw [if_pos (by rw [c2]), sp_an_t c2]; rfl
      · rw [if_neg (by rw [nI_eq (by omega) (by omega)]; exact c2), sp_an_f c2]
        exact ih n (q + 1) (by omega) (by omega)
theorem c_conc (V : sg_V nl nd fi no ch bl A B) (h : cl_R o nl nd fi no bl A B L od dp PI PL mem) {l x : Nat} (l1 : 1 ≤ l) (l2 : l ≤ nd) (x1 : 1 ≤ x) (x2 : x ≤ nl) : f_Lo_concerns (L.2.1 l) (some (L.1 x)) mem = some (sp_b (sp_cc fi no bl x l), mem) := by
  have hn := V.1
  obtain ⟨e8, f1, f2, e12, n4, e13, c4, cn⟩ := V.2.2.1 l l1 l2
  have r0 : mx_gr mem (some (L.2.1 l)) 3 0 = some (some (L.1 (fi l))) := by simp [mx_gr, cl_Ol h l1 l2, cl_df]
  unfold f_Lo_concerns sp_cc
  rw [r0, bx_some, c_num h f1 f2, bx_some, c_num h x1 x2, bx_some]
  by_cases c : fi l = x
  · rw [if_pos (by rw [c]), decide_eq_true c]; rfl
  · rw [if_neg (by rw [nI_eq (by omega) (by omega)]; exact c), decide_eq_false c]
    exact c_conL V h l1 l2 x1 x2 (no l) 5000 0 (by omega) (by omega)
theorem c_pf (h : cl_R o nl nd fi no bl A B L od dp PI PL mem) {l : Nat} (l1 : 1 ≤ l) (l2 : l ≤ nd) (n4 : no l ≤ 4) : ∃ mem', f_Lo_pickFirst (L.2.1 l) mem = some mem' ∧ cl_R o nl nd fi no bl A B L od dp (va_up PI 6 (upd (PI 6) l (if no l = 0 then -1 else 0))) PL mem' ∧ cl_F mem mem' ∧ mem'.1 = mem.1 := by
  have r5 : mx_gi mem (some (L.2.1 l)) 3 5 = some (nI (no l)) := by simp [mx_gi, cl_Ol h l1 l2, cl_df]
  obtain ⟨m1, e1, R1, F1, z1⟩ := c_upP h l1 l2 6 (Or.inl rfl) (if no l = 0 then -1 else 0)
  refine ⟨m1, ?_, R1, F1, z1⟩
  unfold f_Lo_pickFirst
  rw [r5, bx_some]
  by_cases c : no l = 0
  · rw [if_pos c] at e1
    rw [if_pos ((nI_le0 (by omega)).mpr c), e1, bx_some]
  · rw [if_neg c] at e1
    rw [if_neg (fun q => c ((nI_le0 (by omega)).mp q)), e1, bx_some]
theorem c_rem (h : cl_R o nl nd fi no bl A B L od dp PI PL mem) {l : Nat} (l1 : 1 ≤ l) (l2 : l ≤ nd) : ∃ mem', f_Lo_rememberArrival (L.2.1 l) mem = some mem' ∧ cl_R o nl nd fi no bl A B L od dp PI (va_up PL 10 (vp_updL (PL 10) l (PL 9 l))) mem' ∧ cl_F mem mem' ∧ mem'.1 = mem.1 := by
  have r9 : mx_gl mem (some (L.2.1 l)) 3 9 = some (PL 9 l) := by simp [mx_gl, cl_Ol h l1 l2, cl_df]
  obtain ⟨m1, e1, R1, F1, z1⟩ := c_upL h l1 l2 10 (by omega) (PL 9 l)
  refine ⟨m1, ?_, R1, F1, z1⟩
  unfold f_Lo_rememberArrival
  rw [r9, bx_some, e1, bx_some]
theorem c_tellL (V : sg_V nl nd fi no ch bl A B) {x : Nat} {w : Int64} (x1 : 1 ≤ x) (x2 : x ≤ nl) : ∀ (k n j : Nat) (PI : Nat → Nat → Int32) (PL : Nat → Nat → Int64) (mem : mx_Mem), k < n → j + k = nd → cl_R o nl nd fi no bl A B L od dp PI PL mem →
    ∃ PI' PL' mem', fl_LR_tell_32 n (some o) w (some (L.1 x)) (nI j) mem = fl_LR_tell_32 (n - k) (some o) w (some (L.1 x)) (nI nd) mem' ∧ cl_R o nl nd fi no bl A B L od dp PI' PL' mem' ∧ cl_F mem mem' ∧ mem'.1 = mem.1 ∧ ∀ l, (l ≤ j → PI' 6 l = PI 6 l ∧ PL' 10 l = PL 10 l) ∧ (j < l → l ≤ nd → PL' 10 l = PL 9 l ∧ PI' 6 l = if sp_cc fi no bl x l then (if no l = 0 then -1 else 0) else PI 6 l) := by
  have hd := V.2.1
  intro k
  induction k with
  | zero =>
    intro n j PI PL mem hk hj h
    obtain rfl : j = nd := by omega
    exact ⟨PI, PL, mem, rfl, h, cl_F.rf, rfl, fun l => ⟨fun _ => ⟨rfl, rfl⟩, fun q1 q2 => by omega⟩⟩
  | succ k ih =>
    intro n j PI PL mem hk hj h
    obtain ⟨n, rfl⟩ : ∃ n', n = n' + 1 := ⟨n - 1, by omega⟩
    have l1 : 1 ≤ j + 1 := by omega
    have l2 : j + 1 ≤ nd := by omega
    obtain ⟨e8, f1, f2, e12, n4, e13, c4, cn⟩ := V.2.2.1 (j + 1) l1 l2
    obtain ⟨m1, e1, R1, F1, z1⟩ := c_rem h l1 l2
    rw [fl_LR_tell_32, cl_i4 h, bx_some, if_neg (by rw [nI_leI (by omega) (by omega)]; omega), cl_g2 h, bx_some, cl_aD h hd (by omega), bx_some, c_cl h l1 l2, bx_some, e1, bx_some, cl_g2 R1, bx_some, cl_aD R1 hd (by omega), bx_some, c_cl R1 l1 l2, bx_some, c_conc V R1 l1 l2 x1 x2, bx_some, nI_1]
    dsimp only
    rw [show n + 1 - (k + 1) = n - k by omega]
    cases hc : sp_cc fi no bl x (j + 1) with
    | false =>
      rw [if_pos (by rfl)]
      obtain ⟨PI', PL', m2, e2, R2, F2, z2, q2⟩ := ih n (j + 1) PI _ m1 (by omega) (by omega) R1
      refine ⟨PI', PL', m2, e2, R2, F1.tr F2, z2.trans z1, fun l => ⟨fun hl => ?_, fun g1 g2 => ?_⟩⟩
      · obtain ⟨s1, s2⟩ := (q2 l).1 (by omega)
        rw [s1, s2, va_up_self, uL_n (by omega)]
        exact ⟨rfl, rfl⟩
      · by_cases e : l = j + 1
        · subst e
          obtain ⟨s1, s2⟩ := (q2 (j + 1)).1 (by omega)
          rw [s1, s2, va_up_self, uL_s, hc]
          exact ⟨rfl, rfl⟩
        · obtain ⟨s1, s2⟩ := (q2 l).2 (by omega) g2
          rw [s1, s2, va_up_ne _ _ (by decide)]
          exact ⟨rfl, rfl⟩
    | true =>
      rw [if_neg (by decide)]
      obtain ⟨m2, e2, R2, F2, z2⟩ := c_pf R1 l1 l2 n4
      rw [cl_g2 R1, bx_some, cl_aD R1 hd (by omega), bx_some, c_cl R1 l1 l2, bx_some, e2, bx_some]
      obtain ⟨PI', PL', m3, e3, R3, F3, z3, q3⟩ := ih n (j + 1) _ _ m2 (by omega) (by omega) R2
      refine ⟨PI', PL', m3, e3, R3, (F1.tr F2).tr F3, z3.trans (z2.trans z1), fun l => ⟨fun hl => ?_, fun g1 g2 => ?_⟩⟩
      · obtain ⟨s1, s2⟩ := (q3 l).1 (by omega)
        rw [s1, s2, va_up_self, uI_n (by omega), va_up_self, uL_n (by omega)]
        exact ⟨rfl, rfl⟩
      · by_cases e : l = j + 1
        · subst e
          obtain ⟨s1, s2⟩ := (q3 (j + 1)).1 (by omega)
          rw [s1, s2, va_up_self, uL_s, va_up_self, uI_s, hc]
          exact ⟨rfl, rfl⟩
        · obtain ⟨s1, s2⟩ := (q3 l).2 (by omega) g2
          rw [s1, s2, va_up_ne _ _ (by decide), va_up_self, uI_n e]
          exact ⟨rfl, rfl⟩
/-- arrivals that are another now -/
def sp_pm (ar be : Nat → Int64) (l : Nat) : Bool := !decide (ar l = be l)
theorem sp_pm_f {ar be : Nat → Int64} {l : Nat} (h : ar l = be l) : sp_pm ar be l = false := by unfold sp_pm; rw [decide_eq_true h]; rfl
theorem sp_pm_t {ar be : Nat → Int64} {l : Nat} (h : ¬ ar l = be l) : sp_pm ar be l = true := by unfold sp_pm; rw [decide_eq_false h]; rfl
theorem c_moved (hd : nd ≤ 6) (h : cl_R o nl nd fi no bl A B L od dp PI PL mem) : ∀ (k n j : Nat) (c : Int32), k < n → j + k = nd → fl_LR_countMoved_4 n (some o) c (nI j) mem = some (sp_cnt (sp_pm (PL 9) (PL 10)) k (j + 1) c, mem) := by
  intro k
  induction k with
  | zero =>
    intro n j c hk hl
    obtain ⟨n, rfl⟩ : ∃ n', n = n' + 1 := ⟨n - 1, by omega⟩
    rw [fl_LR_countMoved_4, cl_i4 h, bx_some, if_pos (by rw [nI_leI (by omega) (by omega)]; omega)]; rfl
  | succ k ih =>
    intro n j c hk hl
    obtain ⟨n, rfl⟩ : ∃ n', n = n' + 1 := ⟨n - 1, by omega⟩
    have l1 : 1 ≤ j + 1 := by omega
    have l2 : j + 1 ≤ nd := by omega
    have r9 : mx_gl mem (some (L.2.1 (j + 1))) 3 9 = some (PL 9 (j + 1)) := by simp [mx_gl, cl_Ol h l1 l2, cl_df]
    have r10 : mx_gl mem (some (L.2.1 (j + 1))) 3 10 = some (PL 10 (j + 1)) := by simp [mx_gl, cl_Ol h l1 l2, cl_df]
    rw [fl_LR_countMoved_4, cl_i4 h, bx_some, if_neg (by rw [nI_leI (by omega) (by omega)]; omega), cl_g2 h, bx_some, cl_aD h hd (by omega), bx_some, c_cl h l1 l2, bx_some, nI_1]
    unfold f_Lo_hasMoved
    rw [r9, bx_some, r10, bx_some]
    conv => rhs; unfold sp_cnt
    by_cases c1 : PL 9 (j + 1) = PL 10 (j + 1)
    · rw [if_pos c1, sp_pm_f c1]
      exact ih n (j + 1) c (by omega) (by omega)
    · rw [if_neg c1, sp_pm_t c1]
      exact ih n (j + 1) (c + 1) (by omega) (by omega)
theorem m_moved (hd : nd ≤ 6) (h : mo_R a th (nI nl) (nI nd) A B mem) : ∀ (k n l : Nat) (c : Int32), k < n → l + k = nd + 1 → 1 ≤ l → fl_Mo_tell_191 n (some a) c (nI l) mem = some (sp_cnt (sp_pm (B 17) (B 20)) k l c, mem) := by
  intro k
  induction k with
  | zero =>
    intro n l c hk hl h1
    obtain ⟨n, rfl⟩ : ∃ n', n = n' + 1 := ⟨n - 1, by omega⟩
    rw [fl_Mo_tell_191, mo_i9 h, bx_some, if_pos (by rw [nI_ltI (by omega) (by omega)]; omega)]; rfl
  | succ k ih =>
    intro n l c hk hl h1
    obtain ⟨n, rfl⟩ : ∃ n', n = n' + 1 := ⟨n - 1, by omega⟩
    rw [fl_Mo_tell_191, mo_i9 h, bx_some, if_neg (by rw [nI_ltI (by omega) (by omega)]; omega), mo_g17 h, bx_some, mo_r17 h (by omega), bx_some, mo_g20 h, bx_some, mo_r20 h (by omega), bx_some, nI_1, i_add0]
    unfold sp_cnt
    by_cases c1 : B 17 l = B 20 l
    · rw [if_pos c1, sp_pm_f c1]
      exact ih n (l + 1) c (by omega) (by omega) (by omega)
    · rw [if_neg c1, sp_pm_t c1]
      exact ih n (l + 1) (c + 1) (by omega) (by omega) (by omega)
theorem m_before {K : Option Nat → Int32 → Int64 → mx_Mem → Option (Int32 × mx_Mem)} {v : Int32} {w : Int64} (hd : nd ≤ 6) : ∀ (k n l : Nat) (B : Nat → Nat → Int64) (mem : mx_Mem), k < n → l + k = nd + 1 → 1 ≤ l → mo_R a th (nI nl) (nI nd) A B mem →
    ∃ B' mem', fl_Mo_tell_37 K n (some a) v w (nI l) mem = K (some a) v w mem' ∧ mo_R a th (nI nl) (nI nd) A B' mem' ∧ mo_F a mem mem' ∧ (∀ i, i ≠ 20 → B' i = B i) ∧ ∀ i, (i < l → B' 20 i = B 20 i) ∧ (l ≤ i → i ≤ nd → B' 20 i = B 17 i) := by
  intro k
  induction k with
  | zero =>
    intro n l B mem hk hl h1 h
    obtain ⟨n, rfl⟩ : ∃ n', n = n' + 1 := ⟨n - 1, by omega⟩
    refine ⟨B, mem, ?_, h, mo_F.rf, fun _ _ => rfl, fun i => ⟨fun _ => rfl, fun g1 g2 => by omega⟩⟩
    rw [fl_Mo_tell_37, mo_i9 h, bx_some, if_pos (by rw [nI_ltI (by omega) (by omega)]; omega)]
  | succ k ih =>
    intro n l B mem hk hl h1 h
    obtain ⟨n, rfl⟩ : ∃ n', n = n' + 1 := ⟨n - 1, by omega⟩
    obtain ⟨m1, e1, R1, F1⟩ := mo_w20 h (B 17 l) (j := l) (by omega)
    obtain ⟨B', m2, e2, R2, F2, q2, q3⟩ := ih n (l + 1) _ m1 (by omega) (by omega) (by omega) R1
    refine ⟨B', m2, ?_, R2, F1.tr F2, fun i hi => ?_, fun i => ⟨fun hi => ?_, fun g1 g2 => ?_⟩⟩
    · rw [fl_Mo_tell_37, mo_i9 h, bx_some, if_neg (by rw [nI_ltI (by omega) (by omega)]; omega), mo_g20 h, bx_some, mo_g17 h, bx_some, mo_r17 h (by omega), bx_some, e1, bx_some, nI_1, e2]
    · rw [q2 i hi, va_up_ne _ _ hi]
    · rw [(q3 i).1 (by omega), va_up_self, uL_n (by omega)]
    · by_cases e : i = l
      · subst e
        rw [(q3 i).1 (by omega), va_up_self, uL_s]
      · rw [(q3 i).2 (by omega) g2, va_up_ne _ _ (by decide)]
end TL
