/-! QUERIES: class and reference answer alike -/
def st_eq (A : Nat → Nat → Int32) (B : Nat → Nat → Int64) (A' : Nat → Nat → Int32) (B' : Nat → Nat → Int64) : Prop := (∀ k, k ≠ 18 → k ≠ 19 → A' k = A k) ∧ (∀ k, k ≠ 7 → k ≠ 17 → k ≠ 20 → B' k = B k)
theorem st_rf {A : Nat → Nat → Int32} {B : Nat → Nat → Int64} : st_eq A B A B := ⟨fun _ _ _ => rfl, fun _ _ _ _ => rfl⟩
theorem st_rk {A : Nat → Nat → Int32} {B : Nat → Nat → Int64} {lf : Nat → Int32} {dp ar : Nat → Int64} : st_eq A B (va_up A 18 lf) (va_up (va_up B 7 dp) 17 ar) := ⟨fun k h _ => va_up_ne _ _ h, fun k h1 h2 _ => by rw [va_up_ne _ _ h2, va_up_ne _ _ h1]⟩
def sp_cnt (p : Nat → Bool) : Nat → Nat → Int32 → Int32
  | 0, _, acc => acc
  | k + 1, l, acc => sp_cnt p k (l + 1) (if p l then acc + 1 else acc)
theorem sp_cnt_c {p p' : Nat → Bool} : ∀ (k l : Nat) (acc : Int32), (∀ i, l ≤ i → i < l + k → p i = p' i) → sp_cnt p k l acc = sp_cnt p' k l acc := by
  intro k
  induction k with
  | zero => intro l acc _; rfl
  | succ k ih =>
    intro l acc h
    unfold sp_cnt
    rw [h l (Nat.le_refl _) (by omega)]
    exact ih (l + 1) _ (fun i i1 i2 => h i (by omega) (by omega))
def sp_no (lf : Nat → Int32) (v : Int32) : Nat → Nat → Int32 → Int32
  | 0, _, _ => (-1)
  | k + 1, l, c => if lf l = 0 then sp_no lf v k (l + 1) c else if c = v then nI l else sp_no lf v k (l + 1) (c + 1)
theorem sp_no_c {f g : Nat → Int32} {v : Int32} : ∀ (k l : Nat) (c : Int32), (∀ i, l ≤ i → i < l + k → f i = g i) → sp_no f v k l c = sp_no g v k l c := by
  intro k
  induction k with
  | zero => intro l c _; rfl
  | succ k ih =>
    intro l c h
    unfold sp_no
    rw [h l (Nat.le_refl _) (by omega), ih (l + 1) c (fun i i1 i2 => h i (by omega) (by omega)), ih (l + 1) (c + 1) (fun i i1 i2 => h i (by omega) (by omega))]
section Q1
variable {o a nl nd : Nat} {th : Int32} {fi no ch : Nat → Nat} {bl : Nat → Nat → Nat} {A A' : Nat → Nat → Int32} {B B' : Nat → Nat → Int64} {L : cl_L} {od : Nat → Nat} {dp : Nat → Int64} {PI : Nat → Nat → Int32} {PL : Nat → Nat → Int64} {mem mem' : mx_Mem}
theorem sg_all (V : sg_V nl nd fi no ch bl A B) (hB : sg_B nl B) (hD : sg_D nd no A B) (hZ : sg_Z nl nd A B) (O : sg_O nd fi B od) {lf : Nat → Int32} {ar : Nat → Int64} (S : sp_S nl nd fi no ch bl A B dp lf ar) (st : st_eq A B A' B') : sg_V nl nd fi no ch bl A' B' ∧ sg_B nl B' ∧ sg_D nd no A' B' ∧ sg_Z nl nd A' B' ∧ sg_O nd fi B' od ∧ sp_S nl nd fi no ch bl A' B' dp lf ar := by
  have a2 := st.1 2 (by decide) (by decide)
  have a8 := st.1 8 (by decide) (by decide)
  have a9 := st.1 9 (by decide) (by decide)
  have a11 := st.1 11 (by decide) (by decide)
  have a12 := st.1 12 (by decide) (by decide)
  have a13 := st.1 13 (by decide) (by decide)
  have a14 := st.1 14 (by decide) (by decide)
  have a15 := st.1 15 (by decide) (by decide)
  have b3 := st.2 3 (by decide) (by decide) (by decide)
  have b4 := st.2 4 (by decide) (by decide) (by decide)
  have b5 := st.2 5 (by decide) (by decide) (by decide)
  have b6 := st.2 6 (by decide) (by decide) (by decide)
  have b10 := st.2 10 (by decide) (by decide) (by decide)
  have b16 := st.2 16 (by decide) (by decide) (by decide)
  refine ⟨sg_V_B V a8 a12 a13 a14 a15 b3, ?_, ?_, ?_, ?_, ?_, ?_⟩
  · unfold sg_B; rw [b3, b4, b5, b6]; exact hB
  · unfold sg_D; rw [b10, a11, b16]; exact hD
  · unfold sg_Z; rw [b5, b6, a12, a13]; exact hZ
  · unfold sg_O; rw [b3]; exact O
  · intro x x1 x2; rw [sp_H_B a14 a15 b3 b4 b5 b6]; exact S.1 x x1 x2
  · intro i i1 i2; rw [sp_lf_B a2 a9 a14 b3 b4, sp_ar_B a2 a9 a14 b3 b4]; exact S.2 i i1 i2
/-- a reference's step that changes nothing that counts -/
theorem iv_mo (h : iv_I o a th nl nd fi no ch bl A B L od dp PI PL mem) {th' : Int32} (st : st_eq A B A' B') (hm : mo_R a th' (nI nl) (nI nd) A' B' mem') (F : mo_F a mem mem') : iv_I o a th' nl nd fi no ch bl A' B' L od dp PI PL mem' := by
  obtain ⟨m, c, V, hB, hD, hZ, O, hp, S, w, wf⟩ := h
  obtain ⟨V', hB', hD', hZ', O', S'⟩ := sg_all V hB hD hZ O S st
  refine ⟨hm, ?_, V', hB', hD', hZ', O', hp, S', by rw [F.1]; exact w, mo_wf F w.2.1 wf⟩
  exact (c.kept m F).same (st.1 1 (by decide) (by decide)) (st.1 2 (by decide) (by decide)) (st.1 9 (by decide) (by decide)) (st.1 11 (by decide) (by decide)) (st.1 14 (by decide) (by decide)) (st.2 3 (by decide) (by decide) (by decide)) (st.2 4 (by decide) (by decide) (by decide)) (st.2 5 (by decide) (by decide) (by decide)) (st.2 6 (by decide) (by decide) (by decide)) (st.2 10 (by decide) (by decide) (by decide)) (st.2 16 (by decide) (by decide) (by decide))
theorem sg_pos (hB : sg_B nl B) : ∀ x, 1 ≤ x → x ≤ nl → 0 ≤ (B 3 x).toInt := fun x x1 x2 => (hB x x1 x2).1
/-- reckon beside a settled class -/
theorem iv_rk (h : iv_I o a th nl nd fi no ch bl A B L od dp PI PL mem) : ∃ mem' dp' lf ar, f_Mo_reckon a mem = some mem' ∧ iv_I o a th nl nd fi no ch bl (va_up A 18 lf) (va_up (va_up B 7 dp') 17 ar) L od dp PI PL mem' ∧ mo_F a mem mem' ∧ (∀ x, 1 ≤ x → x ≤ nl → dp' x = dp x) ∧ ∀ i, 1 ≤ i → i ≤ nd → lf i = PI 11 i ∧ ar i = PL 9 i := by
  obtain ⟨m, c, V, hB, hD, hZ, O, hp, S, w, wf⟩ := id h
  obtain ⟨m1, dp', lf, ar, e1, R1, F1, S1⟩ := m_reckon V (sg_pos hB) m
  obtain ⟨q1, q2⟩ := sp_S_one V hB S1 S
  exact ⟨m1, dp', lf, ar, e1, iv_mo h st_rk R1 F1, F1, q1, q2⟩
theorem iv_th (h : iv_I o a th nl nd fi no ch bl A B L od dp PI PL mem) : ∃ mem', mx_p mem (some a) 4 0 (.int 0) = some mem' ∧ iv_I o a 0 nl nd fi no ch bl A B L od dp PI PL mem' ∧ mo_F a mem mem' := by
  obtain ⟨m1, e1, R1, F1⟩ := mo_p0 h.1 0
  exact ⟨m1, e1, iv_mo h st_rf R1 F1, F1⟩
theorem c_fLn (h : cl_R o nl nd fi no bl A B L od dp PI PL mem) {v : Int32} (hv : v < 1 ∨ nI nl < v) : f_LR_findLine o v mem = some (none, mem) := by
  unfold f_LR_findLine
  by_cases c : v < 1
  · rw [if_pos c]
  · rw [if_neg c, cl_i1 h, bx_some, if_pos (hv.resolve_left c)]
theorem c_fLs (h : cl_R o nl nd fi no bl A B L od dp PI PL mem) (hn : nl ≤ 12) {x : Nat} (h1 : 1 ≤ x) (h2 : x ≤ nl) : f_LR_findLine o (nI x) mem = some (some (L.1 x), mem) := by
  unfold f_LR_findLine
  have e : nI x - 1 = nI (x - 1) := by rw [nI_lit1, pk_sub h1]
  rw [if_neg (by rw [nI_lit1, nI_ltI (by omega) (by decide)]; omega), cl_i1 h, bx_some, if_neg (by rw [nI_ltI (by omega) (by omega)]; omega), cl_g0 h, bx_some, e, cl_aL h hn (by omega), bx_some, show x - 1 + 1 = x by omega]
theorem c_fDn (h : cl_R o nl nd fi no bl A B L od dp PI PL mem) {v : Int32} (hv : v < 1 ∨ nI nd < v) : f_LR_findLoad o v mem = some (none, mem) := by
  unfold f_LR_findLoad
  by_cases c : v < 1
  · rw [if_pos c]
  · rw [if_neg c, cl_i4 h, bx_some, if_pos (hv.resolve_left c)]
theorem c_fDs (h : cl_R o nl nd fi no bl A B L od dp PI PL mem) (hn : nd ≤ 6) {x : Nat} (h1 : 1 ≤ x) (h2 : x ≤ nd) : f_LR_findLoad o (nI x) mem = some (some (L.2.1 x), mem) := by
  unfold f_LR_findLoad
  have e : nI x - 1 = nI (x - 1) := by rw [nI_lit1, pk_sub h1]
  rw [if_neg (by rw [nI_lit1, nI_ltI (by omega) (by decide)]; omega), cl_i4 h, bx_some, if_neg (by rw [nI_ltI (by omega) (by omega)]; omega), cl_g2 h, bx_some, e, cl_aD h hn (by omega), bx_some, show x - 1 + 1 = x by omega]
theorem m_isN {n : Nat} {v : Int32} (hv : v < 1 ∨ nI n < v) : (if v < 1 then (0 : Int32) else if nI n < v then 0 else 1) = 0 := by
  by_cases c : v < 1
  · rw [if_pos c]
  · rw [if_neg c, if_pos (hv.resolve_left c)]
theorem m_isS {n : Nat} {v : Int32} (hv : ¬ (v < 1 ∨ nI n < v)) : (if v < 1 then (0 : Int32) else if nI n < v then 0 else 1) = 1 := by
  rw [if_neg (fun q => hv (Or.inl q)), if_neg (fun q => hv (Or.inr q))]
end Q1
/-- the step of a query -/
def iv_ok {ρ : Type} (o a : Nat) (f : mx_Mem → Option (ρ × mx_Mem)) (g : mx_Mem → Option (ρ × mx_Mem)) (mem : mx_Mem) : Prop := ∃ r m1 m2, f mem = some (r, m1) ∧ g m1 = some (r, m2) ∧ mx_c m1 (some a) 4 = some a ∧ iv o a m2
theorem q_departs {o a : Nat} {mem : mx_Mem} (h : iv o a mem) (v : Int32) : iv_ok o a (f_LR_departs o v) (f_Mo_departs a v) mem := by
  obtain ⟨th, nl, nd, fi, no, ch, bl, A, B, L, od, dp, PI, PL, h⟩ := h
  have iv0 : mx_c mem (some a) 4 = some a := mo_c h.1
  obtain ⟨m1, e1, h1, -⟩ := iv_th h
  obtain ⟨-, c, V, -⟩ := id h
  have hn := V.1
  unfold iv_ok
  by_cases hv : v < 1 ∨ nI nl < v
  · refine ⟨-11, mem, m1, ?_, ?_, iv0, ⟨_, _, _, _, _, _, _, _, _, _, _, _, _, _, h1⟩⟩
    · unfold f_LR_departs
      rw [cl_c c, bx_some, c_fLn c hv, bx_some]; rfl
    · unfold f_Mo_departs
      rw [e1, bx_some, mo_c h1.1, bx_some, m_isLine h1.1, bx_some, m_isN hv]; rfl
  · obtain ⟨x, x1, x2, rfl⟩ := ix_of (by omega) (fun q => hv (Or.inl q)) (fun q => hv (Or.inr q))
    obtain ⟨m2, dp', lf, ar, e2, h2, -, q1, -⟩ := iv_rk h1
    refine ⟨dp x, mem, m2, ?_, ?_, iv0, ⟨_, _, _, _, _, _, _, _, _, _, _, _, _, _, h2⟩⟩
    · unfold f_LR_departs
      rw [cl_c c, bx_some, c_fLs c hn x1 x2, bx_some]
      dsimp only
      rw [if_neg (by intro q; cases q)]
      have : mx_gl mem (some (L.1 x)) 1 7 = some (dp x) := by simp [mx_gl, cl_Oi c x1 x2, cl_lf]
      rw [this, bx_some]
    · unfold f_Mo_departs
      rw [e1, bx_some, mo_c h1.1, bx_some, m_isLine h1.1, bx_some, m_isS hv]
      dsimp only
      rw [if_neg (by decide), mo_c h1.1, bx_some, e2, bx_some, mo_g7 h2.1, bx_some, mo_r7 h2.1 (by omega), bx_some, va_up_ne _ _ (by decide), va_up_self, q1 x x1 x2]
theorem q_arrival {o a : Nat} {mem : mx_Mem} (h : iv o a mem) (v : Int32) : iv_ok o a (f_LR_arrival o v) (f_Mo_arrival a v) mem := by
  obtain ⟨th, nl, nd, fi, no, ch, bl, A, B, L, od, dp, PI, PL, h⟩ := h
  have iv0 : mx_c mem (some a) 4 = some a := mo_c h.1
  obtain ⟨m1, e1, h1, -⟩ := iv_th h
  obtain ⟨-, c, V, -⟩ := id h
  have hd := V.2.1
  unfold iv_ok
  by_cases hv : v < 1 ∨ nI nd < v
  · refine ⟨-11, mem, m1, ?_, ?_, iv0, ⟨_, _, _, _, _, _, _, _, _, _, _, _, _, _, h1⟩⟩
    · unfold f_LR_arrival
      rw [cl_c c, bx_some, c_fDn c hv, bx_some]; rfl
    · unfold f_Mo_arrival
      rw [e1, bx_some, mo_c h1.1, bx_some, m_isLoad h1.1, bx_some, m_isN hv]; rfl
  · obtain ⟨x, x1, x2, rfl⟩ := ix_of (by omega) (fun q => hv (Or.inl q)) (fun q => hv (Or.inr q))
    obtain ⟨m2, dp', lf, ar, e2, h2, -, -, q2⟩ := iv_rk h1
    refine ⟨PL 9 x, mem, m2, ?_, ?_, iv0, ⟨_, _, _, _, _, _, _, _, _, _, _, _, _, _, h2⟩⟩
    · unfold f_LR_arrival
      rw [cl_c c, bx_some, c_fDs c hd x1 x2, bx_some]
      dsimp only
      rw [if_neg (by intro q; cases q)]
      have : mx_gl mem (some (L.2.1 x)) 3 9 = some (PL 9 x) := by simp [mx_gl, cl_Ol c x1 x2, cl_df]
      rw [this, bx_some]
    · unfold f_Mo_arrival
      rw [e1, bx_some, mo_c h1.1, bx_some, m_isLoad h1.1, bx_some, m_isS hv]
      dsimp only
      rw [if_neg (by decide), mo_c h1.1, bx_some, e2, bx_some, mo_g17 h2.1, bx_some, mo_r17 h2.1 (by omega), bx_some, va_up_self, (q2 x x1 x2).2]
theorem q_chosen {o a : Nat} {mem : mx_Mem} (h : iv o a mem) (v : Int32) : iv_ok o a (f_LR_chosen o v) (f_Mo_chosen a v) mem := by
  obtain ⟨th, nl, nd, fi, no, ch, bl, A, B, L, od, dp, PI, PL, h⟩ := h
  have iv0 : mx_c mem (some a) 4 = some a := mo_c h.1
  obtain ⟨m1, e1, h1, -⟩ := iv_th h
  obtain ⟨-, c, V, -, -, -, -, hp, -⟩ := id h
  have hd := V.2.1
  have iv1 : iv o a m1 := ⟨_, _, _, _, _, _, _, _, _, _, _, _, _, _, h1⟩
  unfold iv_ok
  by_cases hv : v < 1 ∨ nI nd < v
  · refine ⟨-11, mem, m1, ?_, ?_, iv0, iv1⟩
    · unfold f_LR_chosen
      rw [cl_c c, bx_some, c_fDn c hv, bx_some]; rfl
    · unfold f_Mo_chosen
      rw [e1, bx_some, mo_c h1.1, bx_some, m_isLoad h1.1, bx_some, m_isN hv]; rfl
  · obtain ⟨x, x1, x2, rfl⟩ := ix_of (by omega) (fun q => hv (Or.inl q)) (fun q => hv (Or.inr q))
    obtain ⟨e8, f1, f2, e12, n4, e13, c4, cn⟩ := V.2.2.1 x x1 x2
    refine ⟨cl_pk no ch x, mem, m1, ?_, ?_, iv0, iv1⟩
    · unfold f_LR_chosen
      rw [cl_c c, bx_some, c_fDs c hd x1 x2, bx_some]
      dsimp only
      rw [if_neg (by intro q; cases q)]
      have : mx_gi mem (some (L.2.1 x)) 3 6 = some (cl_pk no ch x) := by simp [mx_gi, cl_Ol c x1 x2, cl_df, hp x x1 x2]
      rw [this, bx_some]
    · unfold f_Mo_chosen
      rw [e1, bx_some, mo_c h1.1, bx_some, m_isLoad h1.1, bx_some, m_isS hv]
      dsimp only
      rw [if_neg (by decide), mo_g12 h1.1, bx_some, mo_r12 h1.1 (by omega), bx_some, e12]
      unfold cl_pk
      by_cases c0 : no x = 0
      · rw [if_pos c0, c0, if_pos (show nI 0 = 0 from rfl)]
      · rw [if_neg c0, if_neg (by rw [show (0 : Int32) = nI 0 from rfl, nI_eq (by omega) (by decide)]; exact c0), mo_g13 h1.1, bx_some, mo_r13 h1.1 (by omega), bx_some, e13]
