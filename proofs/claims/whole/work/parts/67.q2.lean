/-! none, acts, waits, late -/
def sp_pa (no ch : Nat → Nat) (A : Nat → Nat → Int32) (l : Nat) : Bool := !decide (no l = 0 ∨ A 14 (4 * l + ch l) = 0)
def sp_pl (du ar : Nat → Int64) (lf : Nat → Int32) (l : Nat) : Bool := !decide (lf l = 0 ∧ ar l ≤ du l)
theorem sp_pa_f {no ch : Nat → Nat} {A : Nat → Nat → Int32} {l : Nat} (h : no l = 0 ∨ A 14 (4 * l + ch l) = 0) : sp_pa no ch A l = false := by unfold sp_pa; rw [decide_eq_true h]; rfl
theorem sp_pa_t {no ch : Nat → Nat} {A : Nat → Nat → Int32} {l : Nat} (h : ¬ (no l = 0 ∨ A 14 (4 * l + ch l) = 0)) : sp_pa no ch A l = true := by unfold sp_pa; rw [decide_eq_false h]; rfl
theorem sp_pl_f {du ar : Nat → Int64} {lf : Nat → Int32} {l : Nat} (h : lf l = 0 ∧ ar l ≤ du l) : sp_pl du ar lf l = false := by unfold sp_pl; rw [decide_eq_true h]; rfl
theorem sp_pl_t {du ar : Nat → Int64} {lf : Nat → Int32} {l : Nat} (h : ¬ (lf l = 0 ∧ ar l ≤ du l)) : sp_pl du ar lf l = true := by unfold sp_pl; rw [decide_eq_false h]; rfl
theorem i_add0 (x : Int32) : x + 0 = x := Int32.add_zero x
section Q2
variable {o a nl nd : Nat} {th : Int32} {fi no ch : Nat → Nat} {bl : Nat → Nat → Nat} {A A' : Nat → Nat → Int32} {B B' : Nat → Nat → Int64} {L : cl_L} {od : Nat → Nat} {dp : Nat → Int64} {PI : Nat → Nat → Int32} {PL : Nat → Nat → Int64} {mem mem' : mx_Mem}
theorem m_none (hd : nd ≤ 6) (h : mo_R a th (nI nl) (nI nd) A B mem) (v : Int32) : ∀ (k n l : Nat) (c : Int32), k < n → l + k = nd + 1 → 1 ≤ l → fl_Mo_none_13 n (some a) v c (nI l) mem = some (sp_no (A 18) v k l c, mem) := by
  intro k
  induction k with
  | zero =>
    intro n l c hk hl h1
    obtain ⟨n, rfl⟩ : ∃ n', n = n' + 1 := ⟨n - 1, by omega⟩
    rw [fl_Mo_none_13, mo_i9 h, bx_some, if_pos (by rw [nI_ltI (by omega) (by omega)]; omega)]; rfl
  | succ k ih =>
    intro n l c hk hl h1
    obtain ⟨n, rfl⟩ : ∃ n', n = n' + 1 := ⟨n - 1, by omega⟩
    rw [fl_Mo_none_13, mo_i9 h, bx_some, if_neg (by rw [nI_ltI (by omega) (by omega)]; omega), mo_g18 h, bx_some, mo_r18 h (by omega), bx_some, nI_1, ih n (l + 1) c (by omega) (by omega) (by omega), ih n (l + 1) (c + 1) (by omega) (by omega) (by omega)]
    conv => rhs; unfold sp_no
    split
    · rfl
    · split <;> rfl
theorem c_none (hd : nd ≤ 6) (h : cl_R o nl nd fi no bl A B L od dp PI PL mem) (v : Int32) : ∀ (k n j : Nat) (c : Int32), k < n → j + k = nd → fl_LR_none_4 n (some o) v c (nI j) mem = some (sp_no (PI 11) v k (j + 1) c, mem) := by
  intro k
  induction k with
  | zero =>
    intro n j c hk hl
    obtain ⟨n, rfl⟩ : ∃ n', n = n' + 1 := ⟨n - 1, by omega⟩
    rw [fl_LR_none_4, cl_i4 h, bx_some, if_pos (by rw [nI_leI (by omega) (by omega)]; omega)]; rfl
  | succ k ih =>
    intro n j c hk hl
    obtain ⟨n, rfl⟩ : ∃ n', n = n' + 1 := ⟨n - 1, by omega⟩
    have r : mx_gi mem (some (L.2.1 (j + 1))) 3 11 = some (PI 11 (j + 1)) := by simp [mx_gi, cl_Ol h (show 1 ≤ j + 1 by omega) (show j + 1 ≤ nd by omega), cl_df]
    rw [fl_LR_none_4, cl_i4 h, bx_some, if_neg (by rw [nI_leI (by omega) (by omega)]; omega), cl_g2 h, bx_some, cl_aD h hd (by omega), bx_some, r, bx_some, nI_1, ih n (j + 1) c (by omega) (by omega), ih n (j + 1) (c + 1) (by omega) (by omega)]
    conv => rhs; unfold sp_no
    split
    · rfl
    · split <;> rfl
theorem m_acts (V : sg_V nl nd fi no ch bl A B) (h : mo_R a th (nI nl) (nI nd) A B mem) : ∀ (k n l : Nat) (c : Int32), k < n → l + k = nd + 1 → 1 ≤ l → fl_Mo_actsNow_4 n (some a) c (nI l) mem = some (sp_cnt (sp_pa no ch A) k l c, mem) := by
  obtain ⟨hn, hd, hV, hO⟩ := V
  intro k
  induction k with
  | zero =>
    intro n l c hk hl h1
    obtain ⟨n, rfl⟩ : ∃ n', n = n' + 1 := ⟨n - 1, by omega⟩
    rw [fl_Mo_actsNow_4, mo_i9 h, bx_some, if_pos (by rw [nI_ltI (by omega) (by omega)]; omega)]; rfl
  | succ k ih =>
    intro n l c hk hl h1
    obtain ⟨n, rfl⟩ : ∃ n', n = n' + 1 := ⟨n - 1, by omega⟩
    obtain ⟨e8, f1, f2, e12, n4, e13, c4, cn⟩ := hV l h1 (by omega)
    rw [fl_Mo_actsNow_4, mo_i9 h, bx_some, if_neg (by rw [nI_ltI (by omega) (by omega)]; omega), mo_g12 h, bx_some, mo_r12 h (by omega), bx_some, e12, nI_1, i_add0]
    unfold sp_cnt
    by_cases c0 : no l = 0
    · rw [if_pos ((nI_le0 (by omega)).mpr c0), sp_pa_f (Or.inl c0)]
      exact ih n (l + 1) c (by omega) (by omega) (by omega)
    · rw [if_neg (fun q => c0 ((nI_le0 (by omega)).mp q)), mo_g14 h, bx_some, mo_g13 h, bx_some, mo_r13 h (by omega), bx_some, e13, nI_oc, mo_r14 h (by omega), bx_some]
      obtain ⟨-, -, hk⟩ := hO l (ch l) h1 (by omega) (by omega)
      by_cases c1 : A 14 (4 * l + ch l) = 0
      · rw [c1, if_pos (by decide), sp_pa_f (Or.inr c1)]
        exact ih n (l + 1) c (by omega) (by omega) (by omega)
      · have hpos : ¬ A 14 (4 * l + ch l) ≤ 0 := by
          rcases hk with ⟨k1, -⟩ | ⟨k1 | k1, -⟩
          · rw [k1]; decide
          · exact absurd k1 c1
          · rw [k1]; decide
        rw [if_neg hpos, sp_pa_t (fun q => q.elim c0 c1)]
        exact ih n (l + 1) (c + 1) (by omega) (by omega) (by omega)
theorem m_actsNow (V : sg_V nl nd fi no ch bl A B) (h : mo_R a th (nI nl) (nI nd) A B mem) : f_Mo_actsNow a mem = some (sp_cnt (sp_pa no ch A) nd 1 0, mem) := by
  have hd := V.2.1
  exact m_acts V h nd 5000 1 0 (by omega) (by omega) (by omega)
theorem c_acts (V : sg_V nl nd fi no ch bl A B) (h : cl_R o nl nd fi no bl A B L od dp PI PL mem) (hp : ∀ l, 1 ≤ l → l ≤ nd → PI 6 l = cl_pk no ch l) : ∀ (k n j : Nat) (c : Int32), k < n → j + k = nd → fl_LR_countActs_4 n (some o) c (nI j) mem = some (sp_cnt (sp_pa no ch A) k (j + 1) c, mem) := by
  have hd := V.2.1
  intro k
  induction k with
  | zero =>
    intro n j c hk hl
    obtain ⟨n, rfl⟩ : ∃ n', n = n' + 1 := ⟨n - 1, by omega⟩
    rw [fl_LR_countActs_4, cl_i4 h, bx_some, if_pos (by rw [nI_leI (by omega) (by omega)]; omega)]; rfl
  | succ k ih =>
    intro n j c hk hl
    obtain ⟨n, rfl⟩ : ∃ n', n = n' + 1 := ⟨n - 1, by omega⟩
    have l1 : 1 ≤ j + 1 := by omega
    have l2 : j + 1 ≤ nd := by omega
    obtain ⟨e8, f1, f2, e12, n4, e13, c4, cn⟩ := V.2.2.1 (j + 1) l1 l2
    have hact : f_Lo_isAct (L.2.1 (j + 1)) mem = some (if sp_pa no ch A (j + 1) then 1 else 0, mem) := by
      unfold f_Lo_isAct
      rw [c_cl h l1 l2, bx_some, c_picked h V l1 l2 (hp _ l1 l2), bx_some]
      dsimp only
      by_cases c0 : no (j + 1) = 0
      · rw [if_pos c0, if_pos rfl, sp_pa_f (Or.inl c0)]; rfl
      · have q0 : mx_gi mem (some (L.2.2.2 (j + 1) (ch (j + 1)))) 2 0 = some (A 14 (4 * (j + 1) + ch (j + 1))) := by simp [mx_gi, cl_Oq h l1 l2 (show ch (j + 1) < no (j + 1) by omega), cl_of]
        rw [if_neg c0, if_neg (by intro q; cases q), q0, bx_some]
        by_cases c1 : A 14 (4 * (j + 1) + ch (j + 1)) = 0
        · rw [if_pos c1, sp_pa_f (Or.inr c1)]; rfl
        · rw [if_neg c1, sp_pa_t (fun q => q.elim c0 c1)]; rfl
    rw [fl_LR_countActs_4, cl_i4 h, bx_some, if_neg (by rw [nI_leI (by omega) (by omega)]; omega), cl_g2 h, bx_some, cl_aD h hd (by omega), bx_some, c_cl h l1 l2, bx_some, hact, bx_some, nI_1]
    conv => rhs; unfold sp_cnt
    cases hq : sp_pa no ch A (j + 1) with
    | false => exact ih n (j + 1) c (by omega) (by omega)
    | true => exact ih n (j + 1) (c + 1) (by omega) (by omega)
theorem c_countActs (V : sg_V nl nd fi no ch bl A B) (h : cl_R o nl nd fi no bl A B L od dp PI PL mem) (hp : ∀ l, 1 ≤ l → l ≤ nd → PI 6 l = cl_pk no ch l) : f_LR_countActs o mem = some (sp_cnt (sp_pa no ch A) nd 1 0, mem) := by
  have hd := V.2.1
  exact c_acts V h hp nd 5000 0 0 (by omega) (by omega)
/-- arrivals are small -/
theorem sp_S_bd (V : sg_V nl nd fi no ch bl A B) (hB : sg_B nl B) {lf : Nat → Int32} {ar : Nat → Int64} (S : sp_S nl nd fi no ch bl A B dp lf ar) {l : Nat} (l1 : 1 ≤ l) (l2 : l ≤ nd) : 0 ≤ (ar l).toInt ∧ (ar l).toInt ≤ 30000 := by
  have bd : ∀ x, 1 ≤ x → x ≤ nl → 0 ≤ (sp_thr B dp x).toInt ∧ (sp_thr B dp x).toInt ≤ 23000 := by
    intro x x1 x2
    obtain ⟨a1, a2, a3, a4, a5, a6, a7⟩ := hB x x1 x2
    have hM : sp_M nd fi no ch A B dp x (dp x) := by have := sp_H_M (nd := nd) (fi := fi) (no := no) (ch := ch) (A := A) (B := B) (dp := dp) (x := x); rw [← S.1 x x1 x2] at this; exact this
    obtain ⟨g1, g2⟩ := sp_M_bd hB x1 x2 hM
    obtain ⟨t1, -⟩ := sp_thr_I hB (dp := dp) x1 x2 (by omega) (by omega)
    omega
  obtain ⟨-, f1, f2, e12, n4, e13, c4, cn⟩ := V.2.2.1 l l1 l2
  obtain ⟨p1, p2⟩ := bd (fi l) f1 f2
  have p60 : (sp_thr B dp (fi l) + 60).toInt = (sp_thr B dp (fi l)).toInt + 60 := l_addI (by rw [show (60 : Int64).toInt = 60 from rfl]; omega) (by rw [show (60 : Int64).toInt = 60 from rfl]; omega)
  have p1440 : (sp_thr B dp (fi l) + 1440).toInt = (sp_thr B dp (fi l)).toInt + 1440 := l_addI (by rw [show (1440 : Int64).toInt = 1440 from rfl]; omega) (by rw [show (1440 : Int64).toInt = 1440 from rfl]; omega)
  rw [(S.2 l l1 l2).2]
  unfold sp_ar
  split
  · omega
  · split
    · omega
    · rename_i n2
      split
      · rename_i c3
        obtain ⟨-, b1, hk⟩ := V.2.2.2 l (ch l) l1 l2 (by omega)
        rcases hk with ⟨k1, -⟩ | ⟨-, k2, -⟩
        · exact absurd ⟨c3.1, k1⟩ n2
        · have := bd _ k2 b1
          omega
      · omega
theorem m_fail (hd : nd ≤ 6) (h : mo_R a th (nI nl) (nI nd) A B mem) : ∀ (k n l : Nat) (c : Int32), k < n → l + k = nd + 1 → 1 ≤ l → fl_Mo_late_47 n (some a) c (nI l) mem = some (sp_cnt (sp_pl (B 10) (B 17) (A 18)) k l c, mem) := by
  intro k
  induction k with
  | zero =>
    intro n l c hk hl h1
    obtain ⟨n, rfl⟩ : ∃ n', n = n' + 1 := ⟨n - 1, by omega⟩
    rw [fl_Mo_late_47, mo_i9 h, bx_some, if_pos (by rw [nI_ltI (by omega) (by omega)]; omega)]; rfl
  | succ k ih =>
    intro n l c hk hl h1
    obtain ⟨n, rfl⟩ : ∃ n', n = n' + 1 := ⟨n - 1, by omega⟩
    rw [fl_Mo_late_47, mo_i9 h, bx_some, if_neg (by rw [nI_ltI (by omega) (by omega)]; omega), mo_g18 h, bx_some, mo_r18 h (by omega), bx_some, nI_1, i_add0, mo_g17 h, bx_some, mo_r17 h (by omega), bx_some, mo_g10 h, bx_some, mo_r10 h (by omega), bx_some]
    unfold sp_cnt
    by_cases c1 : A 18 l = 0
    · rw [if_pos c1]
      by_cases c2 : B 17 l ≤ B 10 l
      · rw [if_pos c2, sp_pl_f ⟨c1, c2⟩]
        exact ih n (l + 1) c (by omega) (by omega) (by omega)
      · rw [if_neg c2, sp_pl_t (fun q => c2 q.2)]
        exact ih n (l + 1) (c + 1) (by omega) (by omega) (by omega)
    · rw [if_neg c1, sp_pl_t (fun q => c1 q.1)]
      exact ih n (l + 1) (c + 1) (by omega) (by omega) (by omega)
/-- minutes behind -/
def sp_mb (x d : Int64) : Int64 := if x - d < 0 then 0 else x - d
theorem sp_mb_0 {x d : Int64} (hx : 0 ≤ x.toInt ∧ x.toInt ≤ 30000) (hd : 0 ≤ d.toInt ∧ d.toInt ≤ 20000) : (x ≤ d → sp_mb x d = 0) ∧ (¬ x ≤ d → sp_mb x d = x - d ∧ ¬ sp_mb x d ≤ 0) := by
  have e : (x - d).toInt = x.toInt - d.toInt := l_subI (by omega) (by omega)
  have z : (0 : Int64).toInt = 0 := rfl
  unfold sp_mb
  refine ⟨fun q => ?_, fun q => ?_⟩
  · rw [l_leI] at q
    by_cases c : x - d < 0
    · rw [if_pos c]
    · rw [if_neg c]
      rw [l_ltI, e, z] at c
      exact Int64.toInt_inj.mp (by rw [e, z]; omega)
  · rw [l_leI] at q
    have c : ¬ x - d < 0 := by rw [l_ltI, e, z]; omega
    rw [if_neg c]
    exact ⟨rfl, by rw [l_leI, e, z]; omega⟩
theorem c_mb (h : cl_R o nl nd fi no bl A B L od dp PI PL mem) {l : Nat} (l1 : 1 ≤ l) (l2 : l ≤ nd) : f_Lo_minutesBehind (L.2.1 l) mem = some (sp_mb (PL 9 l) (B 10 l), mem) := by
  unfold f_Lo_minutesBehind sp_mb
  simp [mx_gl, cl_Ol h l1 l2, cl_df]
theorem c_fail (hd : nd ≤ 6) (hD : sg_D nd no A B) (hb : ∀ l, 1 ≤ l → l ≤ nd → 0 ≤ (PL 9 l).toInt ∧ (PL 9 l).toInt ≤ 30000) (h : cl_R o nl nd fi no bl A B L od dp PI PL mem) : ∀ (k n j : Nat) (c : Int32), k < n → j + k = nd → fl_LR_countFailing_4 n (some o) c (nI j) mem = some (sp_cnt (sp_pl (B 10) (PL 9) (PI 11)) k (j + 1) c, mem) := by
  intro k
  induction k with
  | zero =>
    intro n j c hk hl
    obtain ⟨n, rfl⟩ : ∃ n', n = n' + 1 := ⟨n - 1, by omega⟩
    rw [fl_LR_countFailing_4, cl_i4 h, bx_some, if_pos (by rw [nI_leI (by omega) (by omega)]; omega)]; rfl
  | succ k ih =>
    intro n j c hk hl
    obtain ⟨n, rfl⟩ : ∃ n', n = n' + 1 := ⟨n - 1, by omega⟩
    have l1 : 1 ≤ j + 1 := by omega
    have l2 : j + 1 ≤ nd := by omega
    obtain ⟨d1, d2, -⟩ := hD (j + 1) l1 l2
    have hmb := sp_mb_0 (hb (j + 1) l1 l2) ⟨d1, d2⟩
    have r : mx_gi mem (some (L.2.1 (j + 1))) 3 11 = some (PI 11 (j + 1)) := by simp [mx_gi, cl_Ol h l1 l2, cl_df]
    rw [fl_LR_countFailing_4, cl_i4 h, bx_some, if_neg (by rw [nI_leI (by omega) (by omega)]; omega), cl_g2 h, bx_some, cl_aD h hd (by omega), bx_some, r, bx_some, nI_1]
    conv => rhs; unfold sp_cnt
    by_cases c1 : PI 11 (j + 1) = 0
    · rw [if_pos c1, bx_some, cl_aD h hd (by omega), bx_some, c_cl h l1 l2, bx_some, c_mb h l1 l2, bx_some]
      dsimp only
      by_cases c2 : PL 9 (j + 1) ≤ B 10 (j + 1)
      · rw [hmb.1 c2, if_pos (Int64.le_refl _), sp_pl_f ⟨c1, c2⟩]
        exact ih n (j + 1) c (by omega) (by omega)
      · rw [if_neg (hmb.2 c2).2, sp_pl_t (fun q => c2 q.2)]
        exact ih n (j + 1) (c + 1) (by omega) (by omega)
    · rw [if_neg c1, sp_pl_t (fun q => c1 q.1)]
      exact ih n (j + 1) (c + 1) (by omega) (by omega)
end Q2
theorem q_none {o a : Nat} {mem : mx_Mem} (h : iv o a mem) (v : Int32) : iv_ok o a (f_LR_none o v) (f_Mo_none a v) mem := by
  obtain ⟨th, nl, nd, fi, no, ch, bl, A, B, L, od, dp, PI, PL, h⟩ := h
  have iv0 : mx_c mem (some a) 4 = some a := mo_c h.1
  obtain ⟨m1, e1, h1, -⟩ := iv_th h
  obtain ⟨-, c, V, -⟩ := id h
  have hd := V.2.1
  obtain ⟨m2, dp', lf, ar, e2, h2, -, -, q2⟩ := iv_rk h1
  refine ⟨sp_no (PI 11) v nd 1 0, mem, m2, ?_, ?_, iv0, ⟨_, _, _, _, _, _, _, _, _, _, _, _, _, _, h2⟩⟩
  · exact c_none hd c v nd 5000 0 0 (by omega) (by omega)
  · unfold f_Mo_none
    rw [e1, bx_some, mo_c h1.1, bx_some, e2, bx_some]
    have := m_none hd h2.1 v nd 5000 1 0 (by omega) (by omega) (by omega)
    rw [show (1 : Int32) = nI 1 from rfl, this, va_up_self, sp_no_c (g := PI 11) nd 1 0 (fun i i1 i2 => (q2 i i1 (by omega)).1)]
theorem q_acts {o a : Nat} {mem : mx_Mem} (h : iv o a mem) : iv_ok o a (f_LR_acts o) (f_Mo_acts a) mem := by
  obtain ⟨th, nl, nd, fi, no, ch, bl, A, B, L, od, dp, PI, PL, h⟩ := h
  have iv0 : mx_c mem (some a) 4 = some a := mo_c h.1
  obtain ⟨m1, e1, h1, -⟩ := iv_th h
  obtain ⟨-, c, V, -, -, -, -, hp, -⟩ := id h
  refine ⟨sp_cnt (sp_pa no ch A) nd 1 0, mem, m1, ?_, ?_, iv0, ⟨_, _, _, _, _, _, _, _, _, _, _, _, _, _, h1⟩⟩
  · unfold f_LR_acts
    rw [cl_c c, bx_some, c_countActs V c hp, bx_some]
  · unfold f_Mo_acts
    rw [e1, bx_some, mo_c h1.1, bx_some, m_actsNow V h1.1, bx_some]
