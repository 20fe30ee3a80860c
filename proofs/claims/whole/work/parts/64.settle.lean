/-! THE CLASS: settle solves the equation of departures -/
def sg_O (nd : Nat) (fi : Nat → Nat) (B : Nat → Nat → Int64) (od : Nat → Nat) : Prop := (∀ j, j < nd → 1 ≤ od j ∧ od j ≤ nd) ∧ (∀ j j', j ≤ j' → j' < nd → B 3 (fi (od j)) ≤ B 3 (fi (od j'))) ∧ ∀ l, 1 ≤ l → l ≤ nd → ∃ j, j < nd ∧ od j = l
section FX
variable {nl nd : Nat} {fi no ch : Nat → Nat} {bl : Nat → Nat → Nat} {A : Nat → Nat → Int32} {B : Nat → Nat → Int64} {od : Nat → Nat} {dp0 : Nat → Int64}
theorem cl_hd_ne {dp : Nat → Int64} {l y : Nat} (h : 0 < no l → A 14 (4 * l + ch l) = 1 → y ≠ bl l (ch l)) : cl_hd fi no ch bl A B dp l y = dp y := by
  unfold cl_hd
  split
  · rename_i c
    split
    · rfl
    · exact uL_n (h c.1 c.2)
  · rfl
theorem sg_k1 (V : sg_V nl nd fi no ch bl A B) {l : Nat} (h1 : 1 ≤ l) (h2 : l ≤ nd) (c1 : 0 < no l) (c2 : A 14 (4 * l + ch l) = 1) : 1 ≤ bl l (ch l) ∧ bl l (ch l) ≤ nl ∧ A 15 (4 * l + ch l) = nI (bl l (ch l)) ∧ B 3 (fi l) < B 3 (bl l (ch l)) := by
  obtain ⟨hn, hd, hV, hO⟩ := V
  obtain ⟨e8, f1, f2, e12, n4, e13, c4, cn⟩ := hV l h1 h2
  obtain ⟨e15, b1, hk⟩ := hO l (ch l) h1 h2 (by omega)
  rcases hk with ⟨k1, -⟩ | ⟨-, k2, k3⟩
  · rw [c2] at k1; exact absurd k1 (by decide)
  · exact ⟨k2, b1, e15, k3⟩
theorem cl_stab (V : sg_V nl nd fi no ch bl A B) (O : sg_O nd fi B od) : ∀ (d j : Nat), j + d ≤ nd → j < nd → cl_fd fi no ch bl A B od dp0 (j + d) (fi (od j)) = cl_fd fi no ch bl A B od dp0 j (fi (od j)) := by
  intro d
  induction d with
  | zero => intro j _ _; rfl
  | succ d ih =>
    intro j h1 h2
    rw [← ih j (by omega) h2]
    show cl_hd fi no ch bl A B (cl_fd fi no ch bl A B od dp0 (j + d)) (od (j + d)) (fi (od j)) = _
    refine cl_hd_ne (fun c1 c2 q => ?_)
    obtain ⟨o1, o2⟩ := O.1 (j + d) (by omega)
    obtain ⟨-, -, -, k⟩ := sg_k1 V o1 o2 c1 c2
    have hs := O.2.1 j (j + d) (by omega) (by omega)
    rw [← q, l_ltI] at k
    rw [l_leI] at hs
    omega
theorem cl_thrF (V : sg_V nl nd fi no ch bl A B) (O : sg_O nd fi B od) {j : Nat} (h : j < nd) : sp_thr B (cl_fd fi no ch bl A B od dp0 nd) (fi (od j)) = sp_thr B (cl_fd fi no ch bl A B od dp0 j) (fi (od j)) := by
  unfold sp_thr
  have := cl_stab (dp0 := dp0) V O (nd - j) j (by omega) h
  rw [show j + (nd - j) = nd by omega] at this
  rw [this]
theorem cl_inv (V : sg_V nl nd fi no ch bl A B) (hB : sg_B nl B) (O : sg_O nd fi B od) (h0 : ∀ x, 1 ≤ x → x ≤ nl → dp0 x = B 3 x + B 5 x) : ∀ (k : Nat), k ≤ nd → ∀ x, 1 ≤ x → x ≤ nl →
    (cl_fd fi no ch bl A B od dp0 k x = B 3 x + B 5 x ∨ ∃ j, j < k ∧ sp_el fi no ch A B (cl_fd fi no ch bl A B od dp0 nd) x (od j) ∧ cl_fd fi no ch bl A B od dp0 k x = sp_thr B (cl_fd fi no ch bl A B od dp0 nd) (fi (od j)) + 10) ∧ B 3 x + B 5 x ≤ cl_fd fi no ch bl A B od dp0 k x ∧ ∀ j, j < k → sp_el fi no ch A B (cl_fd fi no ch bl A B od dp0 nd) x (od j) → sp_thr B (cl_fd fi no ch bl A B od dp0 nd) (fi (od j)) + 10 ≤ cl_fd fi no ch bl A B od dp0 k x := by
  have hn := V.1
  intro k
  induction k with
  | zero =>
    intro _ x x1 x2
    have e : cl_fd fi no ch bl A B od dp0 0 x = B 3 x + B 5 x := h0 x x1 x2
    exact ⟨Or.inl e, by rw [e]; exact Int64.le_refl _, fun j hj => by omega⟩
  | succ k ih =>
    intro hk x x1 x2
    have I := ih (by omega)
    obtain ⟨g1, g2, g3⟩ := I x x1 x2
    obtain ⟨o1, o2⟩ := O.1 k (by omega)
    have keep : cl_fd fi no ch bl A B od dp0 (k + 1) x = cl_fd fi no ch bl A B od dp0 k x → ¬ sp_el fi no ch A B (cl_fd fi no ch bl A B od dp0 nd) x (od k) →
        (cl_fd fi no ch bl A B od dp0 (k + 1) x = B 3 x + B 5 x ∨ ∃ j, j < k + 1 ∧ sp_el fi no ch A B (cl_fd fi no ch bl A B od dp0 nd) x (od j) ∧ cl_fd fi no ch bl A B od dp0 (k + 1) x = sp_thr B (cl_fd fi no ch bl A B od dp0 nd) (fi (od j)) + 10) ∧ B 3 x + B 5 x ≤ cl_fd fi no ch bl A B od dp0 (k + 1) x ∧ ∀ j, j < k + 1 → sp_el fi no ch A B (cl_fd fi no ch bl A B od dp0 nd) x (od j) → sp_thr B (cl_fd fi no ch bl A B od dp0 nd) (fi (od j)) + 10 ≤ cl_fd fi no ch bl A B od dp0 (k + 1) x := by
      intro e ne
      rw [e]
      refine ⟨?_, g2, fun j hj hel => ?_⟩
      · rcases g1 with g1 | ⟨j, j1, j2, j3⟩
        · exact Or.inl g1
        · exact Or.inr ⟨j, by omega, j2, j3⟩
      · by_cases ej : j = k
        · subst ej; exact absurd hel ne
        · exact g3 j (by omega) hel
    have ehd : cl_fd fi no ch bl A B od dp0 (k + 1) x = cl_hd fi no ch bl A B (cl_fd fi no ch bl A B od dp0 k) (od k) x := rfl
    by_cases cw : 0 < no (od k) ∧ A 14 (4 * od k + ch (od k)) = 1
    · obtain ⟨k1, k2, k3, k4⟩ := sg_k1 V o1 o2 cw.1 cw.2
      by_cases ex : x = bl (od k) (ch (od k))
      · obtain ⟨-, f1, f2, -⟩ := V.2.2.1 (od k) o1 o2
        obtain ⟨p1, p2, -⟩ := I (fi (od k)) f1 f2
        obtain ⟨a1, a2, a3, a4, a5, a6, a7⟩ := hB (fi (od k)) f1 f2
        obtain ⟨b1, b2, b3, b4, b5, b6, b7⟩ := hB x x1 x2
        obtain ⟨s1, s2⟩ := sp_bd hB f1 f2
        obtain ⟨t1, t2⟩ := sp_bd hB x1 x2
        have c0 : 0 ≤ (cl_fd fi no ch bl A B od dp0 k (fi (od k))).toInt := by rw [l_leI, s1] at p2; omega
        have c9 : (cl_fd fi no ch bl A B od dp0 k (fi (od k))).toInt ≤ 20000 := by
          rcases p1 with p1 | ⟨j, -, j2, j3⟩
          · rw [p1, s1]; omega
          · have := j2.2.2.2
            rw [l_ltI, s2, ← j3] at this
            omega
        obtain ⟨-, w2⟩ := sp_thr_I hB f1 f2 c0 c9
        have hW := cl_thrF (dp0 := dp0) V O (show k < nd by omega)
        rw [ehd]
        unfold cl_hd
        rw [if_pos cw, ← ex]
        have hsub : (sp_thr B (cl_fd fi no ch bl A B od dp0 k) (fi (od k)) + 10 - (B 3 x + B 5 x)).toInt = (sp_thr B (cl_fd fi no ch bl A B od dp0 k) (fi (od k)) + 10).toInt - (B 3 x + B 5 x).toInt := l_subI (by rw [w2, t1]; omega) (by rw [w2, t1]; omega)
        have hcond : B 6 x < sp_thr B (cl_fd fi no ch bl A B od dp0 k) (fi (od k)) + 10 - (B 3 x + B 5 x) ↔ B 3 x + B 5 x + B 6 x < sp_thr B (cl_fd fi no ch bl A B od dp0 k) (fi (od k)) + 10 := by
          rw [l_ltI, l_ltI, hsub, t2, t1]; omega
        by_cases cc : B 6 x < sp_thr B (cl_fd fi no ch bl A B od dp0 k) (fi (od k)) + 10 - (B 3 x + B 5 x)
        · rw [if_pos cc]
          have ne : ¬ sp_el fi no ch A B (cl_fd fi no ch bl A B od dp0 nd) x (od k) := by
            intro q
            have := q.2.2.2
            rw [hW] at this
            exact this (hcond.mp cc)
          have := keep (by rw [ehd]; unfold cl_hd; rw [if_pos cw, ← ex, if_pos cc]) ne
          rw [ehd] at this
          unfold cl_hd at this
          rw [if_pos cw, ← ex, if_pos cc] at this
          exact this
        · rw [if_neg cc, uL_s]
          have hel : sp_el fi no ch A B (cl_fd fi no ch bl A B od dp0 nd) x (od k) := ⟨cw.1, cw.2, by rw [k3, ← ex], by rw [hW]; exact fun q => cc (hcond.mpr q)⟩
          by_cases cm : sp_thr B (cl_fd fi no ch bl A B od dp0 k) (fi (od k)) + 10 < cl_fd fi no ch bl A B od dp0 k x
          · rw [if_pos cm]
            refine ⟨?_, g2, fun j hj hj2 => ?_⟩
            · rcases g1 with g1 | ⟨j, j1, j2, j3⟩
              · exact Or.inl g1
              · exact Or.inr ⟨j, by omega, j2, j3⟩
            · by_cases ej : j = k
              · subst ej
                rw [hW, l_leI]
                rw [l_ltI] at cm
                omega
              · exact g3 j (by omega) hj2
          · rw [if_neg cm]
            rw [l_ltI] at cm
            refine ⟨Or.inr ⟨k, by omega, hel, by rw [hW]⟩, by rw [l_leI] at g2 ⊢; omega, fun j hj hj2 => ?_⟩
            by_cases ej : j = k
            · subst ej
              rw [hW]; exact Int64.le_refl _
            · have := g3 j (by omega) hj2
              rw [l_leI] at this ⊢
              omega
      · refine keep ?_ ?_
        · rw [ehd]; exact cl_hd_ne (fun _ _ => ex)
        · intro q
          have := q.2.2.1
          rw [k3] at this
          exact ex ((nI_eq (by omega) (by omega)).mp this).symm
    · refine keep ?_ (fun q => cw ⟨q.1, q.2.1⟩)
      rw [ehd]; exact cl_hd_ne (fun c1 c2 => absurd ⟨c1, c2⟩ cw)
theorem cl_fix (V : sg_V nl nd fi no ch bl A B) (hB : sg_B nl B) (O : sg_O nd fi B od) (h0 : ∀ x, 1 ≤ x → x ≤ nl → dp0 x = B 3 x + B 5 x) : ∀ x, 1 ≤ x → x ≤ nl → cl_fd fi no ch bl A B od dp0 nd x = sp_H nd fi no ch A B (cl_fd fi no ch bl A B od dp0 nd) x := by
  intro x x1 x2
  obtain ⟨g1, g2, g3⟩ := cl_inv V hB O h0 nd (Nat.le_refl _) x x1 x2
  refine sp_M_one (nd := nd) ⟨?_, g2, fun i i1 i2 i3 => ?_⟩ sp_H_M
  · rcases g1 with g1 | ⟨j, j1, j2, j3⟩
    · exact Or.inl g1
    · obtain ⟨o1, o2⟩ := O.1 j j1
      exact Or.inr ⟨od j, o1, o2, j2, j3⟩
  · obtain ⟨j, j1, rfl⟩ := O.2.2 i i1 i2
    exact g3 j j1 i3
end FX
section C3
variable {o nl nd : Nat} {fi no ch : Nat → Nat} {bl : Nat → Nat → Nat} {A : Nat → Nat → Int32} {B : Nat → Nat → Int64} {L : cl_L} {od : Nat → Nat} {dp : Nat → Int64} {PI : Nat → Nat → Int32} {PL : Nat → Nat → Int64} {mem : mx_Mem}
theorem c_settle (h : cl_R o nl nd fi no bl A B L od dp PI PL mem) (V : sg_V nl nd fi no ch bl A B) (hB : sg_B nl B) (O : sg_O nd fi B od) (hp : ∀ l, 1 ≤ l → l ≤ nd → PI 6 l = cl_pk no ch l) :
    ∃ mem' dp' PI' PL', f_LR_settle o mem = some mem' ∧ cl_R o nl nd fi no bl A B L od dp' PI' PL' mem' ∧ cl_F mem mem' ∧ mem'.1 = mem.1 ∧ (PI' 6 = PI 6 ∧ PI' 7 = PI 7 ∧ PL' 10 = PL 10) ∧ sp_S nl nd fi no ch bl A B dp' (PI' 11) (PL' 9) := by
  have hn := V.1
  have hd := V.2.1
  unfold f_LR_settle
  obtain ⟨m1, d1, e1, R1, F1, z1, hI1⟩ := c_setA (K := fun (v0 : Option Nat) (m1 : mx_Mem) => fl_LR_settle_27 (fun (v0 : Option Nat) (m2 : mx_Mem) => fl_LR_settle_52 5000 v0 0 m2) 5000 v0 0 m1) hn nl 5000 0 dp mem (by omega) (by omega) h (fun i i1 i2 => by omega)
  rw [show (nI 0 : Int32) = 0 from rfl] at e1
  rw [e1]
  obtain ⟨m2, P2, e2, R2, F2, z2, ⟨h9, h10⟩, hI2⟩ := c_setB (K := fun (v0 : Option Nat) (m2 : mx_Mem) => fl_LR_settle_52 5000 v0 0 m2) V O.1 hp d1 nd 5000 0 PL m1 (by omega) (by omega) R1 (fun i hi => by omega)
  rw [show (nI 0 : Int32) = 0 from rfl] at e2
  try dsimp only
  rw [e2]
  have hcm : ∀ l, 1 ≤ l → l ≤ nd → P2 8 l = sp_thr B (cl_fd fi no ch bl A B od d1 nd) (fi l) := by
    intro l l1 l2
    obtain ⟨j, j1, rfl⟩ := O.2.2 l l1 l2
    obtain ⟨i', a1, a2, a3, a4⟩ := hI2 j j1
    rw [a4, ← a3, cl_thrF V O a2]
  obtain ⟨m3, I3, P3, e3, R3, F3, z3, ⟨q6, q7, q10⟩, hI3⟩ := c_setC V nd 5000 0 PI P2 m2 (by omega) (by omega) R2 hp hcm (fun l l1 l2 => by omega)
  rw [show (nI 0 : Int32) = 0 from rfl] at e3
  try dsimp only
  exact ⟨m3, _, I3, P3, e3, R3, (F1.tr F2).tr F3, z3.trans (z2.trans z1), ⟨q6, q7, q10.trans h10⟩, cl_fix V hB O hI1, hI3⟩
end C3
