/-! THE REFERENCE: all departures -/
theorem sp_thr_B {B B' : Nat → Nat → Int64} {dp : Nat → Int64} {x : Nat} (h3 : B' 3 = B 3) (h4 : B' 4 = B 4) : sp_thr B' dp x = sp_thr B dp x := by
  unfold sp_thr
  rw [h3, h4]
theorem sp_st_B {fi no ch : Nat → Nat} {A A' : Nat → Nat → Int32} {B B' : Nat → Nat → Int64} {dp : Nat → Int64} {x l : Nat} {at0 acc : Int64} (g14 : A' 14 = A 14) (g15 : A' 15 = A 15) (h3 : B' 3 = B 3) (h4 : B' 4 = B 4) (h6 : B' 6 = B 6) : sp_st fi no ch A' B' dp x at0 acc l = sp_st fi no ch A B dp x at0 acc l := by
  unfold sp_st
  rw [sp_thr_B h3 h4, g14, g15, h6]
theorem sp_go_B {fi no ch : Nat → Nat} {A A' : Nat → Nat → Int32} {B B' : Nat → Nat → Int64} {dp : Nat → Int64} {x : Nat} {at0 : Int64} (g14 : A' 14 = A 14) (g15 : A' 15 = A 15) (h3 : B' 3 = B 3) (h4 : B' 4 = B 4) (h6 : B' 6 = B 6) : ∀ (k l : Nat) (acc : Int64), sp_go fi no ch A' B' dp x at0 k l acc = sp_go fi no ch A B dp x at0 k l acc := by
  intro k
  induction k with
  | zero => intro l acc; rfl
  | succ k ih =>
    intro l acc
    unfold sp_go
    rw [sp_st_B g14 g15 h3 h4 h6, ih]
theorem sp_H_B {nd : Nat} {fi no ch : Nat → Nat} {A A' : Nat → Nat → Int32} {B B' : Nat → Nat → Int64} {dp : Nat → Int64} {x : Nat} (g14 : A' 14 = A 14) (g15 : A' 15 = A 15) (h3 : B' 3 = B 3) (h4 : B' 4 = B 4) (h5 : B' 5 = B 5) (h6 : B' 6 = B 6) : sp_H nd fi no ch A' B' dp x = sp_H nd fi no ch A B dp x := by
  unfold sp_H
  rw [sp_go_B g14 g15 h3 h4 h6, h3, h5]
theorem sp_go_dp {fi no ch : Nat → Nat} {A : Nat → Nat → Int32} {B : Nat → Nat → Int64} {dp dp' : Nat → Int64} {x : Nat} {at0 : Int64} : ∀ (k l : Nat) (acc : Int64), (∀ i, l ≤ i → i < l + k → 0 < no i → A 14 (4 * i + ch i) = 1 → A 15 (4 * i + ch i) = nI x → dp' (fi i) = dp (fi i)) → sp_go fi no ch A B dp' x at0 k l acc = sp_go fi no ch A B dp x at0 k l acc := by
  intro k
  induction k with
  | zero => intro l acc _; rfl
  | succ k ih =>
    intro l acc h
    unfold sp_go
    have hs : sp_st fi no ch A B dp' x at0 acc l = sp_st fi no ch A B dp x at0 acc l := by
      unfold sp_st
      by_cases c : 0 < no l ∧ A 14 (4 * l + ch l) = 1 ∧ A 15 (4 * l + ch l) = nI x
      · have e : sp_thr B dp' (fi l) = sp_thr B dp (fi l) := by
          unfold sp_thr
          rw [h l (Nat.le_refl _) (by omega) c.1 c.2.1 c.2.2]
        rw [e]
      · rw [if_neg (fun q => c ⟨q.1, q.2.1, q.2.2.1⟩), if_neg (fun q => c ⟨q.1, q.2.1, q.2.2.1⟩)]
    rw [hs]
    exact ih (l + 1) _ (fun i g1 g2 => h i (by omega) (by omega))
theorem sp_H_dp {nd : Nat} {fi no ch : Nat → Nat} {A : Nat → Nat → Int32} {B : Nat → Nat → Int64} {dp dp' : Nat → Int64} {x : Nat} (h : ∀ i, 1 ≤ i → i ≤ nd → 0 < no i → A 14 (4 * i + ch i) = 1 → A 15 (4 * i + ch i) = nI x → dp' (fi i) = dp (fi i)) : sp_H nd fi no ch A B dp' x = sp_H nd fi no ch A B dp x := by
  unfold sp_H
  exact sp_go_dp nd 1 _ (fun i g1 g2 => h i g1 (by omega))
/-- a load that waits for a line begins on one that leaves earlier -/
theorem sg_wt {nl nd : Nat} {fi no ch : Nat → Nat} {bl : Nat → Nat → Nat} {A : Nat → Nat → Int32} {B : Nat → Nat → Int64} (V : sg_V nl nd fi no ch bl A B) {x i : Nat} (hx : x ≤ 12) (h1 : 1 ≤ i) (h2 : i ≤ nd) (c1 : 0 < no i) (c2 : A 14 (4 * i + ch i) = 1) (c3 : A 15 (4 * i + ch i) = nI x) : B 3 (fi i) < B 3 x := by
  obtain ⟨hn, hd, hV, hO⟩ := V
  obtain ⟨e8, f1, f2, e12, n4, e13, c4, cn⟩ := hV i h1 h2
  obtain ⟨e15, b1, hk⟩ := hO i (ch i) h1 h2 (by omega)
  rcases hk with ⟨k1, k2⟩ | ⟨k1, k2, k3⟩
  · rw [c2] at k1; exact absurd k1 (by decide)
  · have hbx : bl i (ch i) = x := by
      rw [c3] at e15
      exact ((nI_eq (by omega) (by omega)).mp e15).symm
    rw [hbx] at k3
    exact k3
theorem sg_V_B {nl nd : Nat} {fi no ch : Nat → Nat} {bl : Nat → Nat → Nat} {A A' : Nat → Nat → Int32} {B B' : Nat → Nat → Int64} (V : sg_V nl nd fi no ch bl A B) (g8 : A' 8 = A 8) (g12 : A' 12 = A 12) (g13 : A' 13 = A 13) (g14 : A' 14 = A 14) (g15 : A' 15 = A 15) (h3 : B' 3 = B 3) : sg_V nl nd fi no ch bl A' B' := by
  obtain ⟨hn, hd, hV, hO⟩ := V
  refine ⟨hn, hd, ?_, ?_⟩
  · rw [g8, g12, g13]; exact hV
  · rw [g14, g15, h3]; exact hO
def sp_pb (lv : Nat → Int64) (time : Int64) (num x : Nat) : Bool := !(decide (time < lv x) || (decide (lv x = time) && decide (num < x)))
theorem sp_pb_f {lv : Nat → Int64} {time : Int64} {num x : Nat} : sp_pb lv time num x = false ↔ sp_bh lv time num x := by
  unfold sp_pb sp_bh
  rw [Bool.not_eq_false', Bool.or_eq_true, Bool.and_eq_true, decide_eq_true_eq, decide_eq_true_eq, decide_eq_true_eq]
theorem sp_pb_t {lv : Nat → Int64} {time : Int64} {num x : Nat} : sp_pb lv time num x = true ↔ ¬ sp_bh lv time num x := by
  rw [← sp_pb_f]
  cases sp_pb lv time num x <;> simp
/-- the first line behind is found: behind it there are one fewer -/
theorem sp_pb_step {lv : Nat → Int64} {time : Int64} {num nl nx : Nat} (h1 : 1 ≤ nx) (hb : sp_bh lv time num nx) (hm : ∀ x, 1 ≤ x → x ≤ nl → sp_bh lv time num x → lv nx < lv x ∨ (lv nx = lv x ∧ nx ≤ x)) {x : Nat} (g1 : 1 ≤ x) (g2 : x ≤ nl) (g3 : x ≠ nx) : sp_bh lv (lv nx) nx x ↔ sp_bh lv time num x := by
  constructor
  · intro q
    rcases hb with hb | ⟨hb1, hb2⟩
    · rcases q with q | ⟨q1, q2⟩
      · exact Or.inl (l_tr hb q)
      · exact Or.inl (by rw [q1]; exact hb)
    · rcases q with q | ⟨q1, q2⟩
      · exact Or.inl (by rw [← hb1]; exact q)
      · exact Or.inr ⟨q1.trans hb1, by omega⟩
  · intro q
    rcases hm x g1 g2 q with r | ⟨r1, r2⟩
    · exact Or.inl r
    · exact Or.inr ⟨r1.symm, by omega⟩
section M4
variable {a : Nat} {th : Int32} {nl nd : Nat} {fi no ch : Nat → Nat} {bl : Nat → Nat → Nat} {A : Nat → Nat → Int32} {B : Nat → Nat → Int64} {mem : mx_Mem}
theorem m_rkO {K : Option Nat → mx_Mem → Option mx_Mem} (V : sg_V nl nd fi no ch bl A B) : ∀ (j n k : Nat) (time : Int64) (num : Nat) (dp : Nat → Int64) (mem : mx_Mem), j < n → k + j = nl → num ≤ 12 → mo_R a th (nI nl) (nI nd) A (va_up B 7 dp) mem → sp_ct (sp_pb (B 3) time num) nl = k → (∀ x, 1 ≤ x → x ≤ nl → ¬ sp_bh (B 3) time num x → dp x = sp_H nd fi no ch A B dp x) →
    ∃ mem' dp', fl_Mo_reckon_9 K n (some a) time (nI num) (nI k) mem = K (some a) mem' ∧ mo_R a th (nI nl) (nI nd) A (va_up B 7 dp') mem' ∧ mo_F a mem mem' ∧ ∀ x, 1 ≤ x → x ≤ nl → dp' x = sp_H nd fi no ch A B dp' x := by
  have hn := V.1
  have hd := V.2.1
  intro j
  induction j with
  | zero =>
    intro n k time num dp mem hj hk hnum h hct hfx
    obtain ⟨n, rfl⟩ : ∃ n', n = n' + 1 := ⟨n - 1, by omega⟩
    refine ⟨mem, dp, ?_, h, mo_F.rf, fun x g1 g2 => hfx x g1 g2 (sp_pb_t.mp (sp_ct_full nl (by omega) x g1 g2))⟩
    rw [fl_Mo_reckon_9, mo_i1 h, bx_some, if_pos (by rw [nI_leI (by omega) (by omega)]; omega)]
  | succ j ih =>
    intro n k time num dp mem hj hk hnum h hct hfx
    obtain ⟨n, rfl⟩ : ∃ n', n = n' + 1 := ⟨n - 1, by omega⟩
    rw [fl_Mo_reckon_9, mo_i1 h, bx_some, if_neg (by rw [nI_leI (by omega) (by omega)]; omega)]
    have h3 : (va_up B 7 dp) 3 = B 3 := u7_n (by decide)
    obtain ⟨nx, hnx, e1⟩ := m_rkI (K := fun (v0 : Option Nat) (v4 : Int32) (v5 : Int32) (m4 : mx_Mem) => Option.bind (mx_gr m4 v0 4 4) fun x5 =>
        Option.bind (mx_agl m4 x5 4 v5) fun x7 =>
        Option.bind (mx_c m4 v0 4) fun a12 =>
        Option.bind (f_Mo_depart a12 v5 m4) fun q9 =>
        fl_Mo_reckon_9 K n v0 x7 v5 (v4 + 1) q9) hn h time num hnum (nI k) nl 5000 0 0 (by omega) (by omega) (Or.inl ⟨rfl, fun x g1 g2 => by omega⟩)
    rw [h3] at hnx
    rw [show (nI 0 : Int32) = 0 from rfl, show (nI (0 + 1) : Int32) = 1 from rfl] at e1
    rw [e1]
    obtain ⟨y, y1, y2, y3⟩ := sp_ct_ex nl (show sp_ct (sp_pb (B 3) time num) nl < nl by omega)
    rcases hnx with ⟨-, h0⟩ | ⟨n1, n2, n3, n4⟩
    · exact absurd (sp_pb_f.mp y3) (h0 y y1 y2)
    · rw [mo_g3 h, bx_some, mo_r3 h (by omega), bx_some, mo_c h, bx_some, h3]
      obtain ⟨m1, e2, R1, F1⟩ := m_depart (sg_V_B V rfl rfl rfl rfl rfl h3) n1 n2 h
      rw [e2, bx_some, nI_1]
      rw [u7_r, bx_uu, sp_H_B rfl rfl h3 (u7_n (by decide)) (u7_n (by decide)) (u7_n (by decide))] at R1
      have hstep := fun {x : Nat} (g1 : 1 ≤ x) (g2 : x ≤ nl) (g3 : x ≠ nx) => sp_pb_step (x := x) n1 n3 n4 g1 g2 g3
      have hself : ¬ sp_bh (B 3) (B 3 nx) nx nx := by
        intro q
        rcases q with q | ⟨-, q⟩
        · exact Int64.lt_irrefl q
        · omega
      have hct2 : sp_ct (sp_pb (B 3) (B 3 nx) nx) nl = k + 1 := by
        rw [sp_ct_add n1 (sp_pb_f.mpr n3) (sp_pb_t.mpr hself) nl n2 (fun x g1 g2 g3 => ?_), hct]
        have := hstep g1 g2 g3
        by_cases q : sp_bh (B 3) time num x
        · rw [sp_pb_f.mpr q, sp_pb_f.mpr (this.mpr q)]
        · rw [sp_pb_t.mpr q, sp_pb_t.mpr (fun z => q (this.mp z))]
      obtain ⟨m2, dp', e3, R2, F2, hall⟩ := ih n (k + 1) (B 3 nx) nx (vp_updL dp nx (sp_H nd fi no ch A B dp nx)) m1 (by omega) (by omega) (by omega) R1 hct2 (fun x g1 g2 g3 => by
        by_cases hxn : x = nx
        · subst hxn
          rw [uL_s]
          refine (sp_H_dp (fun i i1 i2 c1 c2 c3 => uL_n ?_)).symm
          intro q
          have := sg_wt V (by omega) i1 i2 c1 c2 c3
          rw [q] at this
          exact Int64.lt_irrefl this
        · rw [uL_n hxn]
          have hold : ¬ sp_bh (B 3) time num x := fun q => g3 ((hstep g1 g2 hxn).mpr q)
          rw [hfx x g1 g2 hold]
          refine (sp_H_dp (fun i i1 i2 c1 c2 c3 => uL_n ?_)).symm
          intro q
          have hw := sg_wt V (by omega) i1 i2 c1 c2 c3
          rw [q] at hw
          exact g3 (Or.inl hw))
      exact ⟨m2, dp', e3, R2, F1.tr F2, hall⟩
end M4
