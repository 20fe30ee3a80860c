/-! THE REFERENCE: arrivals, and all of reckon -/
/-- when a load arrives, and whether it is left, by what lines depart at -/
def sp_ar (fi no ch : Nat → Nat) (bl : Nat → Nat → Nat) (A : Nat → Nat → Int32) (B : Nat → Nat → Int64) (dp : Nat → Int64) (l : Nat) : Int64 :=
  if A 2 (fi l) = A 9 l then sp_thr B dp (fi l) else if 0 < no l ∧ A 14 (4 * l + ch l) = 2 then sp_thr B dp (fi l) + 60
  else if 0 < no l ∧ ¬ dp (bl l (ch l)) < sp_thr B dp (fi l) + 10 then sp_thr B dp (bl l (ch l)) else sp_thr B dp (fi l) + 1440
def sp_lf (fi no ch : Nat → Nat) (bl : Nat → Nat → Nat) (A : Nat → Nat → Int32) (B : Nat → Nat → Int64) (dp : Nat → Int64) (l : Nat) : Int32 :=
  if A 2 (fi l) = A 9 l then 0 else if 0 < no l ∧ A 14 (4 * l + ch l) = 2 then 0
  else if 0 < no l ∧ ¬ dp (bl l (ch l)) < sp_thr B dp (fi l) + 10 then 0 else 1
theorem uI_s {f : Nat → Int32} {x : Nat} {v : Int32} : upd f x v x = v := by simp [upd]
theorem uI_n {f : Nat → Int32} {x y : Nat} {v : Int32} (h : y ≠ x) : upd f x v y = f y := by simp [upd, h]
theorem uI_u {f : Nat → Int32} {x : Nat} {v w : Int32} : upd (upd f x v) x w = upd f x w := by
  funext y
  by_cases h : y = x
  · subst h; rw [uI_s, uI_s]
  · rw [uI_n h, uI_n h, uI_n h]
theorem sp_ar_B {fi no ch : Nat → Nat} {bl : Nat → Nat → Nat} {A A' : Nat → Nat → Int32} {B B' : Nat → Nat → Int64} {dp : Nat → Int64} {l : Nat} (g2 : A' 2 = A 2) (g9 : A' 9 = A 9) (g14 : A' 14 = A 14) (h3 : B' 3 = B 3) (h4 : B' 4 = B 4) : sp_ar fi no ch bl A' B' dp l = sp_ar fi no ch bl A B dp l := by
  unfold sp_ar
  rw [g2, g9, g14, sp_thr_B h3 h4, sp_thr_B h3 h4]
theorem sp_lf_B {fi no ch : Nat → Nat} {bl : Nat → Nat → Nat} {A A' : Nat → Nat → Int32} {B B' : Nat → Nat → Int64} {dp : Nat → Int64} {l : Nat} (g2 : A' 2 = A 2) (g9 : A' 9 = A 9) (g14 : A' 14 = A 14) (h3 : B' 3 = B 3) (h4 : B' 4 = B 4) : sp_lf fi no ch bl A' B' dp l = sp_lf fi no ch bl A B dp l := by
  unfold sp_lf
  rw [g2, g9, g14, sp_thr_B h3 h4]
section M5
variable {a : Nat} {th : Int32} {nl nd : Nat} {fi no ch : Nat → Nat} {bl : Nat → Nat → Nat} {A : Nat → Nat → Int32} {B : Nat → Nat → Int64} {mem : mx_Mem}
theorem m_ar112 (h : mo_R a th (nI nl) (nI nd) A B mem) {l : Nat} (hl : l < 7) (v2 : Int64) (v4 : Int32) : ∃ mem', fj_Mo_arrive_112 (some a) (nI l) v2 v4 mem = some mem' ∧ mo_R a th (nI nl) (nI nd) (va_up A 18 (upd (A 18) l 1)) (va_up B 17 (vp_updL (B 17) l (v2 + 1440))) mem' ∧ mo_F a mem mem' := by
  unfold fj_Mo_arrive_112
  rw [mo_g18 h, bx_some]
  obtain ⟨m1, e1, R1, F1⟩ := mo_w18 h 1 hl
  rw [e1, bx_some, mo_g17 R1, bx_some]
  obtain ⟨m2, e2, R2, F2⟩ := mo_w17 R1 (v2 + 1440) hl
  rw [e2, bx_some]
  exact ⟨m2, rfl, R2, F1.tr F2⟩
theorem m_ar78 (h : mo_R a th (nI nl) (nI nd) A B mem) (V : sg_V nl nd fi no ch bl A B) {l : Nat} (h1 : 1 ≤ l) (h2 : l ≤ nd) (v2 : Int64) : ∃ mem', fj_Mo_arrive_78 (some a) (nI l) v2 (nI (4 * l + ch l)) mem = some mem' ∧
    mo_R a th (nI nl) (nI nd) (va_up A 18 (upd (A 18) l (if 0 < no l ∧ ¬ B 7 (bl l (ch l)) < v2 + 10 then 0 else 1))) (va_up B 17 (vp_updL (B 17) l (if 0 < no l ∧ ¬ B 7 (bl l (ch l)) < v2 + 10 then sp_thr B (B 7) (bl l (ch l)) else v2 + 1440))) mem' ∧ mo_F a mem mem' := by
  obtain ⟨hn, hd, hV, hO⟩ := V
  obtain ⟨e8, f1, f2, e12, n4, e13, c4, cn⟩ := hV l h1 h2
  unfold fj_Mo_arrive_78
  rw [mo_g12 h, bx_some, mo_r12 h (by omega), bx_some, e12]
  by_cases c1 : no l = 0
  · rw [if_pos ((nI_le0 (by omega)).mpr c1), if_neg (by omega), if_neg (by omega)]
    exact m_ar112 h (by omega) v2 _
  · obtain ⟨e15, b1, -⟩ := hO l (ch l) h1 h2 (by omega)
    rw [if_neg (fun q => c1 ((nI_le0 (by omega)).mp q)), mo_g7 h, bx_some, mo_g15 h, bx_some, mo_r15 h (by omega), bx_some, e15, mo_r7 h (by omega), bx_some]
    by_cases c2 : B 7 (bl l (ch l)) < v2 + 10
    · rw [if_pos c2, if_neg (fun q => q.2 c2), if_neg (fun q => q.2 c2)]
      exact m_ar112 h (by omega) v2 _
    · rw [if_neg c2, if_pos ⟨by omega, c2⟩, if_pos ⟨by omega, c2⟩, mo_g18 h, bx_some]
      obtain ⟨m1, e1, R1, F1⟩ := mo_w18 h 0 (j := l) (by omega)
      rw [e1, bx_some, mo_g17 R1, bx_some, mo_g15 R1, bx_some, mo_r15 R1 (by omega), bx_some, va_up_ne A _ (by decide), e15, mo_c R1, bx_some, m_there R1 (by omega), bx_some]
      dsimp only
      obtain ⟨m2, e2, R2, F2⟩ := mo_w17 R1 (sp_thr B (B 7) (bl l (ch l))) (j := l) (by omega)
      rw [e2, bx_some]
      exact ⟨m2, rfl, R2, F1.tr F2⟩
theorem m_arrive (h : mo_R a th (nI nl) (nI nd) A B mem) (V : sg_V nl nd fi no ch bl A B) {l : Nat} (h1 : 1 ≤ l) (h2 : l ≤ nd) : ∃ mem', f_Mo_arrive a (nI l) mem = some mem' ∧
    mo_R a th (nI nl) (nI nd) (va_up A 18 (upd (A 18) l (sp_lf fi no ch bl A B (B 7) l))) (va_up B 17 (vp_updL (B 17) l (sp_ar fi no ch bl A B (B 7) l))) mem' ∧ mo_F a mem mem' := by
  obtain ⟨hn, hd, hV, hO⟩ := id V
  obtain ⟨e8, f1, f2, e12, n4, e13, c4, cn⟩ := hV l h1 h2
  unfold f_Mo_arrive
  rw [mo_g8 h, bx_some, mo_r8 h (by omega), bx_some, e8, mo_c h, bx_some, m_there h (by omega), bx_some]
  dsimp only
  rw [mo_g18 h, bx_some]
  obtain ⟨m1, e1, R1, F1⟩ := mo_w18 h 0 (j := l) (by omega)
  have V1 : sg_V nl nd fi no ch bl (va_up A 18 (upd (A 18) l 0)) B := sg_V_B V (va_up_ne A _ (by decide)) (va_up_ne A _ (by decide)) (va_up_ne A _ (by decide)) (va_up_ne A _ (by decide)) (va_up_ne A _ (by decide)) rfl
  rw [e1, bx_some, mo_c R1, bx_some, m_isDirect R1 V1 h1 h2, bx_some]
  dsimp only
  rw [va_up_ne A _ (show 2 ≠ 18 by decide), va_up_ne A _ (show 9 ≠ 18 by decide)]
  by_cases c1 : A 2 (fi l) = A 9 l
  · rw [if_pos c1, if_neg (by decide), mo_g17 R1, bx_some]
    obtain ⟨m2, e2, R2, F2⟩ := mo_w17 R1 (sp_thr B (B 7) (fi l)) (j := l) (by omega)
    rw [e2, bx_some]
    refine ⟨m2, rfl, ?_, F1.tr F2⟩
    unfold sp_lf sp_ar
    rw [if_pos c1, if_pos c1]
    exact R2
  · rw [if_neg c1, if_pos rfl, mo_g13 R1, bx_some, mo_r13 R1 (by omega), bx_some, mo_g12 R1, bx_some, mo_r12 R1 (by omega), bx_some, va_up_ne A _ (show 12 ≠ 18 by decide), va_up_ne A _ (show 13 ≠ 18 by decide), e12, e13, nI_oc]
    have fin : ¬ (0 < no l ∧ A 14 (4 * l + ch l) = 2) → ∃ mem', fj_Mo_arrive_78 (some a) (nI l) (sp_thr B (B 7) (fi l)) (nI (4 * l + ch l)) m1 = some mem' ∧ mo_R a th (nI nl) (nI nd) (va_up A 18 (upd (A 18) l (sp_lf fi no ch bl A B (B 7) l))) (va_up B 17 (vp_updL (B 17) l (sp_ar fi no ch bl A B (B 7) l))) mem' ∧ mo_F a mem mem' := by
      intro c2
      obtain ⟨m2, e2, R2, F2⟩ := m_ar78 R1 V1 h1 h2 (sp_thr B (B 7) (fi l))
      refine ⟨m2, e2, ?_, F1.tr F2⟩
      unfold sp_lf sp_ar
      rw [if_neg c1, if_neg c1, if_neg c2, if_neg c2]
      rw [va_up_self, uI_u, bx_uu] at R2
      exact R2
    by_cases c2 : no l = 0
    · rw [if_pos ((nI_le0 (by omega)).mpr c2)]
      exact fin (by omega)
    · rw [if_neg (fun q => c2 ((nI_le0 (by omega)).mp q)), mo_g14 R1, bx_some, mo_r14 R1 (by omega), bx_some, va_up_ne A _ (show 14 ≠ 18 by decide)]
      by_cases c3 : A 14 (4 * l + ch l) = 2
      · rw [if_pos c3, mo_g17 R1, bx_some]
        obtain ⟨m2, e2, R2, F2⟩ := mo_w17 R1 (sp_thr B (B 7) (fi l) + 60) (j := l) (by omega)
        rw [e2, bx_some]
        refine ⟨m2, rfl, ?_, F1.tr F2⟩
        unfold sp_lf sp_ar
        rw [if_neg c1, if_neg c1, if_pos ⟨by omega, c3⟩, if_pos ⟨by omega, c3⟩]
        exact R2
      · rw [if_neg c3]
        exact fin (fun q => c3 q.2)
theorem m_arL (V : sg_V nl nd fi no ch bl A B) : ∀ (k n l : Nat) (lf : Nat → Int32) (ar : Nat → Int64) (mem : mx_Mem), k < n → l + k = nd + 1 → 1 ≤ l → mo_R a th (nI nl) (nI nd) (va_up A 18 lf) (va_up B 17 ar) mem → (∀ i, 1 ≤ i → i < l → lf i = sp_lf fi no ch bl A B (B 7) i ∧ ar i = sp_ar fi no ch bl A B (B 7) i) →
    ∃ mem' lf' ar', fl_Mo_reckon_139 n (some a) (nI l) mem = some mem' ∧ mo_R a th (nI nl) (nI nd) (va_up A 18 lf') (va_up B 17 ar') mem' ∧ mo_F a mem mem' ∧ ∀ i, 1 ≤ i → i ≤ nd → lf' i = sp_lf fi no ch bl A B (B 7) i ∧ ar' i = sp_ar fi no ch bl A B (B 7) i := by
  have hn := V.1
  have hd := V.2.1
  intro k
  induction k with
  | zero =>
    intro n l lf ar mem hk hl h1 h hI
    obtain ⟨n, rfl⟩ : ∃ n', n = n' + 1 := ⟨n - 1, by omega⟩
    refine ⟨mem, lf, ar, ?_, h, mo_F.rf, fun i i1 i2 => hI i i1 (by omega)⟩
    rw [fl_Mo_reckon_139, mo_i9 h, bx_some, if_pos (by rw [nI_ltI (by omega) (by omega)]; omega)]
  | succ k ih =>
    intro n l lf ar mem hk hl h1 h hI
    obtain ⟨n, rfl⟩ : ∃ n', n = n' + 1 := ⟨n - 1, by omega⟩
    rw [fl_Mo_reckon_139, mo_i9 h, bx_some, if_neg (by rw [nI_ltI (by omega) (by omega)]; omega), mo_c h, bx_some]
    have V1 : sg_V nl nd fi no ch bl (va_up A 18 lf) (va_up B 17 ar) := sg_V_B V (va_up_ne A _ (by decide)) (va_up_ne A _ (by decide)) (va_up_ne A _ (by decide)) (va_up_ne A _ (by decide)) (va_up_ne A _ (by decide)) (va_up_ne B _ (by decide))
    obtain ⟨m1, e1, R1, F1⟩ := m_arrive h V1 h1 (by omega)
    rw [e1, bx_some, nI_1]
    rw [va_up_self, va_up_self, bx_uu, bx_uu, va_up_ne B _ (show 7 ≠ 17 by decide), sp_lf_B (va_up_ne A _ (by decide)) (va_up_ne A _ (by decide)) (va_up_ne A _ (by decide)) (va_up_ne B _ (by decide)) (va_up_ne B _ (by decide)), sp_ar_B (va_up_ne A _ (by decide)) (va_up_ne A _ (by decide)) (va_up_ne A _ (by decide)) (va_up_ne B _ (by decide)) (va_up_ne B _ (by decide))] at R1
    obtain ⟨m2, lf', ar', e2, R2, F2, hI2⟩ := ih n (l + 1) _ _ m1 (by omega) (by omega) (by omega) R1 (fun i i1 i2 => by
      by_cases hil : i = l
      · subst hil
        exact ⟨uI_s, uL_s⟩
      · rw [uI_n hil, uL_n hil]
        exact hI i i1 (by omega))
    exact ⟨m2, lf', ar', e2, R2, F1.tr F2, hI2⟩
/-- what reckon leaves: departures that fit together, and what follows of them -/
def sp_S (nl nd : Nat) (fi no ch : Nat → Nat) (bl : Nat → Nat → Nat) (A : Nat → Nat → Int32) (B : Nat → Nat → Int64) (dp : Nat → Int64) (lf : Nat → Int32) (ar : Nat → Int64) : Prop :=
  (∀ x, 1 ≤ x → x ≤ nl → dp x = sp_H nd fi no ch A B dp x) ∧ ∀ i, 1 ≤ i → i ≤ nd → lf i = sp_lf fi no ch bl A B dp i ∧ ar i = sp_ar fi no ch bl A B dp i
theorem m_reckon (V : sg_V nl nd fi no ch bl A B) (hpos : ∀ x, 1 ≤ x → x ≤ nl → 0 ≤ (B 3 x).toInt) (h : mo_R a th (nI nl) (nI nd) A B mem) : ∃ mem' dp lf ar, f_Mo_reckon a mem = some mem' ∧ mo_R a th (nI nl) (nI nd) (va_up A 18 lf) (va_up (va_up B 7 dp) 17 ar) mem' ∧ mo_F a mem mem' ∧ sp_S nl nd fi no ch bl A B dp lf ar := by
  have hn := V.1
  have hd := V.2.1
  unfold f_Mo_reckon
  have hB : va_up B 7 (B 7) = B := by
    funext k
    by_cases hk : k = 7
    · subst hk; rw [va_up_self]
    · rw [va_up_ne _ _ hk]
  have hA : va_up A 18 (A 18) = A := by
    funext k
    by_cases hk : k = 18
    · subst hk; rw [va_up_self]
    · rw [va_up_ne _ _ hk]
  have hbh : ∀ x, 1 ≤ x → x ≤ nl → sp_bh (B 3) (-1) 0 x := fun x x1 x2 => Or.inl (Int64.lt_iff_toInt_lt.mpr (by have := hpos x x1 x2; rw [show (-1 : Int64).toInt = -1 from rfl]; omega))
  have hct : sp_ct (sp_pb (B 3) (-1) 0) nl = 0 := by
    have : ∀ n, n ≤ nl → sp_ct (sp_pb (B 3) (-1) 0) n = 0 := by
      intro n
      induction n with
      | zero => intro _; rfl
      | succ n ih =>
        intro hle
        unfold sp_ct
        rw [ih (by omega), sp_pb_f.mpr (hbh (n + 1) (by omega) hle)]
        rfl
    exact this nl (Nat.le_refl _)
  obtain ⟨m1, dp, e1, R1, F1, hfx⟩ := m_rkO (K := fun (v0 : Option Nat) (m1 : mx_Mem) => fl_Mo_reckon_139 5000 v0 1 m1) V nl 5000 0 (-1) 0 (B 7) mem (by omega) (by omega) (by omega) (by rw [hB]; exact h) hct (fun x x1 x2 x3 => absurd (hbh x x1 x2) x3)
  rw [show (nI 0 : Int32) = 0 from rfl] at e1
  rw [e1]
  have V1 : sg_V nl nd fi no ch bl A (va_up B 7 dp) := sg_V_B V rfl rfl rfl rfl rfl (u7_n (by decide))
  have hB2 : va_up (va_up B 7 dp) 17 ((va_up B 7 dp) 17) = va_up B 7 dp := by
    funext k
    by_cases hk : k = 17
    · subst hk; rw [va_up_self]
    · rw [va_up_ne _ _ hk]
  obtain ⟨m2, lf, ar, e2, R2, F2, hI⟩ := m_arL V1 nd 5000 1 (A 18) ((va_up B 7 dp) 17) m1 (by omega) (by omega) (by omega) (by rw [hA, hB2]; exact R1) (fun i i1 i2 => by omega)
  refine ⟨m2, dp, lf, ar, e2, R2, F1.tr F2, hfx, fun i i1 i2 => ?_⟩
  have := hI i i1 i2
  rw [u7_r, sp_lf_B rfl rfl rfl (u7_n (by decide)) (u7_n (by decide)), sp_ar_B rfl rfl rfl (u7_n (by decide)) (u7_n (by decide))] at this
  exact this
end M5
