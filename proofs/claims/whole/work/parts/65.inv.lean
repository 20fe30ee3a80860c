/-! CLASS AND REFERENCE SIDE BY SIDE -/
theorem cl_nk {mem : mx_Mem} {b b' : Nat} {e e' : mx_E} (h : mem.2 b = some e) (h' : mem.2 b' = some e') (hk : mo_K e = false) (hk' : mo_K e' = true) : b ≠ b' := by
  intro q
  rw [q, h'] at h
  cases h
  rw [hk] at hk'
  cases hk'
section IV
variable {o a nl nd : Nat} {th : Int32} {fi no ch : Nat → Nat} {bl : Nat → Nat → Nat} {A A' : Nat → Nat → Int32} {B B' : Nat → Nat → Int64} {L : cl_L} {od : Nat → Nat} {dp : Nat → Int64} {PI : Nat → Nat → Int32} {PL : Nat → Nat → Int64} {mem mem' : mx_Mem}
theorem mo_kk {u w : Int32} (h : mo_R a th u w A B mem) {b : Nat} (h1 : a ≤ b) (h2 : b ≤ a + 20) : ∃ e, mem.2 b = some e ∧ mo_K e = true := by
  by_cases e : b = a
  · subst e
    exact ⟨_, h.1, rfl⟩
  · obtain ⟨k, rfl⟩ : ∃ k, b = a + k := ⟨b - a, by omega⟩
    refine ⟨_, h.2 k (by omega) (by omega), ?_⟩
    show decide (3 ≤ mo_kd k) = true
    unfold mo_kd
    split
    · rfl
    · split <;> rfl
/-- what the class does leaves the reference's cells alone -/
theorem mo_R.kept {u w : Int32} (h : mo_R a th u w A B mem) (F : cl_F mem mem') : mo_R a th u w A B mem' := by
  refine ⟨F.2.1 _ _ h.1 rfl, fun k g1 g2 => ?_⟩
  obtain ⟨e, q1, q2⟩ := mo_kk h (b := a + k) (by omega) (by omega)
  rw [h.2 k g1 g2] at q1
  cases q1
  exact F.2.1 _ _ (h.2 k g1 g2) q2
/-- what the reference does leaves the class's cells alone -/
theorem cl_out {u w : Int32} (hm : mo_R a th u w A B mem) (F : mo_F a mem mem') {b : Nat} {e : mx_E} (h : mem.2 b = some e) (hk : mo_K e = false) : mem'.2 b = some e := by
  rw [F.2 b ?_]
  · exact h
  · rcases Nat.lt_or_ge b a with q | q
    · exact Or.inl q
    · rcases Nat.lt_or_ge (a + 20) b with r | r
      · exact Or.inr r
      · obtain ⟨e', h1, h2⟩ := mo_kk hm q r
        exact absurd rfl (cl_nk h h1 hk h2)
theorem cl_R.kept {u w : Int32} {A0 : Nat → Nat → Int32} {B0 : Nat → Nat → Int64} (h : cl_R o nl nd fi no bl A B L od dp PI PL mem) (hm : mo_R a th u w A0 B0 mem) (F : mo_F a mem mem') : cl_R o nl nd fi no bl A B L od dp PI PL mem' := by
  obtain ⟨g1, ⟨f2, g2, g2'⟩, ⟨f3, g3, g3'⟩, ⟨f4, g4, g4'⟩, g5, g6, g7, g8, g9, g10, g11⟩ := h
  refine ⟨cl_out hm F g1 rfl, ⟨f2, cl_out hm F g2 rfl, g2'⟩, ⟨f3, cl_out hm F g3 rfl, g3'⟩, ⟨f4, cl_out hm F g4 rfl, g4'⟩, fun i i1 i2 => cl_out hm F (g5 i i1 i2) rfl, fun l l1 l2 => cl_out hm F (g6 l l1 l2) rfl, fun l l1 l2 => ?_, fun l q l1 l2 l3 => cl_out hm F (g8 l q l1 l2 l3) rfl, g9, g10, g11⟩
  obtain ⟨f, q1, q2⟩ := g7 l l1 l2
  exact ⟨f, cl_out hm F q1 rfl, q2⟩
/-- the class's cells speak of few of the arrays -/
theorem cl_R.same (h : cl_R o nl nd fi no bl A B L od dp PI PL mem) (a1 : A' 1 = A 1) (a2 : A' 2 = A 2) (a9 : A' 9 = A 9) (a11 : A' 11 = A 11) (a14 : A' 14 = A 14) (b3 : B' 3 = B 3) (b4 : B' 4 = B 4) (b5 : B' 5 = B 5) (b6 : B' 6 = B 6) (b10 : B' 10 = B 10) (b16 : B' 16 = B 16) : cl_R o nl nd fi no bl A' B' L od dp PI PL mem := by
  have e1 : cl_lf A' B' dp = cl_lf A B dp := by funext i; unfold cl_lf; rw [a1, a2, b3, b4, b5, b6]
  have e2 : cl_df fi no A' B' L PI PL = cl_df fi no A B L PI PL := by funext i; unfold cl_df; rw [a9, b10, a11]
  have e3 : cl_of bl A' B' L = cl_of bl A B L := by funext i q; unfold cl_of; rw [a14, b16]
  unfold cl_R
  rw [e1, e2, e3]
  exact h
end IV
/-- the loads' numbers are as said -/
def sg_D (nd : Nat) (no : Nat → Nat) (A : Nat → Nat → Int32) (B : Nat → Nat → Int64) : Prop := ∀ l, 1 ≤ l → l ≤ nd → 0 ≤ (B 10 l).toInt ∧ (B 10 l).toInt ≤ 20000 ∧ 1 ≤ (A 11 l).toInt ∧ (A 11 l).toInt ≤ 100 ∧ ∀ q, q < no l → 0 ≤ (B 16 (4 * l + q)).toInt ∧ (B 16 (4 * l + q)).toInt ≤ 10000
/-- what is not made yet is 0 -/
def sg_Z (nl nd : Nat) (A : Nat → Nat → Int32) (B : Nat → Nat → Int64) : Prop := (∀ x, nl < x → x ≤ 12 → B 5 x = 0 ∧ B 6 x = 0) ∧ ∀ l, nd < l → l ≤ 6 → A 12 l = 0 ∧ A 13 l = 0
/-- all lies below the next address -/
def cl_W (o a nl nd : Nat) (no : Nat → Nat) (L : cl_L) (n : Nat) : Prop := o + 3 < n ∧ a + 20 < n ∧ (∀ i, 1 ≤ i → i ≤ nl → L.1 i < n) ∧ (∀ l, 1 ≤ l → l ≤ nd → L.2.1 l < n ∧ L.2.2.1 l < n ∧ ∀ q, q < no l → L.2.2.2 l q < n)
/-- THE INVARIANT between the class's object o and the reference's a -/
def iv_I (o a : Nat) (th : Int32) (nl nd : Nat) (fi no ch : Nat → Nat) (bl : Nat → Nat → Nat) (A : Nat → Nat → Int32) (B : Nat → Nat → Int64) (L : cl_L) (od : Nat → Nat) (dp : Nat → Int64) (PI : Nat → Nat → Int32) (PL : Nat → Nat → Int64) (mem : mx_Mem) : Prop :=
  mo_R a th (nI nl) (nI nd) A B mem ∧ cl_R o nl nd fi no bl A B L od dp PI PL mem ∧ sg_V nl nd fi no ch bl A B ∧ sg_B nl B ∧ sg_D nd no A B ∧ sg_Z nl nd A B ∧ sg_O nd fi B od ∧ (∀ l, 1 ≤ l → l ≤ nd → PI 6 l = cl_pk no ch l) ∧ sp_S nl nd fi no ch bl A B dp (PI 11) (PL 9) ∧ cl_W o a nl nd no L mem.1 ∧ mx_wf mem
def iv (o a : Nat) (mem : mx_Mem) : Prop := ∃ th nl nd fi no ch bl A B L od dp PI PL, iv_I o a th nl nd fi no ch bl A B L od dp PI PL mem
theorem mo_wf {a : Nat} {mem mem' : mx_Mem} (F : mo_F a mem mem') (ha : a + 20 < mem.1) (w : mx_wf mem) : mx_wf mem' := by
  intro b hb
  rw [F.1] at hb
  rw [F.2 b (Or.inr (by omega))]
  exact w b hb
theorem sp_S_one {nl nd : Nat} {fi no ch : Nat → Nat} {bl : Nat → Nat → Nat} {A : Nat → Nat → Int32} {B : Nat → Nat → Int64} (V : sg_V nl nd fi no ch bl A B) (hB : sg_B nl B) {d1 d2 : Nat → Int64} {f1 f2 : Nat → Int32} {r1 r2 : Nat → Int64} (h1 : sp_S nl nd fi no ch bl A B d1 f1 r1) (h2 : sp_S nl nd fi no ch bl A B d2 f2 r2) : (∀ x, 1 ≤ x → x ≤ nl → d1 x = d2 x) ∧ ∀ i, 1 ≤ i → i ≤ nd → f1 i = f2 i ∧ r1 i = r2 i := by
  have hd := sp_one V hB h1.1 h2.1
  refine ⟨hd, fun i i1 i2 => ?_⟩
  obtain ⟨hn, hdd, hV, hO⟩ := V
  obtain ⟨e8, g1, g2, e12, n4, e13, c4, cn⟩ := hV i i1 i2
  have t1 : sp_thr B d1 (fi i) = sp_thr B d2 (fi i) := by unfold sp_thr; rw [hd _ g1 g2]
  rw [(h1.2 i i1 i2).1, (h1.2 i i1 i2).2, (h2.2 i i1 i2).1, (h2.2 i i1 i2).2]
  unfold sp_lf sp_ar
  rw [t1]
  by_cases c1 : A 2 (fi i) = A 9 i
  · rw [if_pos c1, if_pos c1, if_pos c1, if_pos c1]; exact ⟨rfl, rfl⟩
  · rw [if_neg c1, if_neg c1, if_neg c1, if_neg c1]
    by_cases c2 : 0 < no i ∧ A 14 (4 * i + ch i) = 2
    · rw [if_pos c2, if_pos c2, if_pos c2, if_pos c2]; exact ⟨rfl, rfl⟩
    · rw [if_neg c2, if_neg c2, if_neg c2, if_neg c2]
      by_cases c3 : no i = 0
      · have n1 : ∀ d : Nat → Int64, ¬ (0 < no i ∧ ¬ d (bl i (ch i)) < sp_thr B d2 (fi i) + 10) := fun d q => by omega
        rw [if_neg (n1 d1), if_neg (n1 d2), if_neg (n1 d1), if_neg (n1 d2)]; exact ⟨rfl, rfl⟩
      · obtain ⟨e15, b1, hk⟩ := hO i (ch i) i1 i2 (by omega)
        rcases hk with ⟨k1, -⟩ | ⟨-, k2, -⟩
        · exact absurd ⟨by omega, k1⟩ c2
        · have t2 : d1 (bl i (ch i)) = d2 (bl i (ch i)) := hd _ k2 b1
          have t3 : sp_thr B d1 (bl i (ch i)) = sp_thr B d2 (bl i (ch i)) := by unfold sp_thr; rw [t2]
          rw [t2, t3]; exact ⟨rfl, rfl⟩
/-- an index that is looked at -/
theorem ix_of {v : Int32} {n : Nat} (hn : n < 2 ^ 31) (h1 : ¬ v < 1) (h2 : ¬ nI n < v) : ∃ x, 1 ≤ x ∧ x ≤ n ∧ v = nI x := by
  have h0 : ¬ v < 0 := by
    intro q
    apply h1
    have := Int32.lt_iff_toInt_lt.mp q
    exact Int32.lt_iff_toInt_lt.mpr (by rw [show (1 : Int32).toInt = 1 from rfl]; rw [show (0 : Int32).toInt = 0 from rfl] at this; omega)
  obtain ⟨j, hj, rfl⟩ := nI_of h0
  rw [nI_ltI hn hj] at h2
  rw [show (1 : Int32) = nI 1 from rfl, nI_ltI hj (by decide)] at h1
  exact ⟨j, by omega, by omega, rfl⟩
