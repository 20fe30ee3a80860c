/-! THE CLASS'S SMALL METHODS, without memory -/
theorem l_addsub (a b c : Int64) : a + (b - c) = a + b - c := by
  rw [Int64.sub_eq_add_neg, Int64.sub_eq_add_neg, Int64.add_assoc]
def cl_pk (no ch : Nat → Nat) (l : Nat) : Int32 := if no l = 0 then (-1) else nI (ch l)
/-- a line waits for a load: what lines depart at behind it -/
def cl_hd (fi no ch : Nat → Nat) (bl : Nat → Nat → Nat) (A : Nat → Nat → Int32) (B : Nat → Nat → Int64) (dp : Nat → Int64) (l : Nat) : Nat → Int64 :=
  if 0 < no l ∧ A 14 (4 * l + ch l) = 1 then (if B 6 (bl l (ch l)) < sp_thr B dp (fi l) + 10 - (B 3 (bl l (ch l)) + B 5 (bl l (ch l))) then dp else vp_updL dp (bl l (ch l)) (if sp_thr B dp (fi l) + 10 < dp (bl l (ch l)) then dp (bl l (ch l)) else sp_thr B dp (fi l) + 10)) else dp
section C1
variable {o nl nd : Nat} {fi no ch : Nat → Nat} {bl : Nat → Nat → Nat} {A : Nat → Nat → Int32} {B : Nat → Nat → Int64} {L : cl_L} {od : Nat → Nat} {dp : Nat → Int64} {PI : Nat → Nat → Int32} {PL : Nat → Nat → Int64} {mem : mx_Mem}
theorem c_within (v lo hi : Int64) : f_LR_isWithin v lo hi mem = some (if v < lo then 0 else if hi < v then 0 else 1, mem) := by
  unfold f_LR_isWithin
  split
  · rfl
  · split <;> rfl
theorem c_place (v : Int32) : f_LR_isPlace v mem = some (if v.toInt64 < 0 then 0 else if 9 < v.toInt64 then 0 else 1, mem) := by
  unfold f_LR_isPlace
  rw [c_within, bx_some]
  dsimp only
  split
  · rfl
  · split <;> rfl
theorem c_arr (h : cl_R o nl nd fi no bl A B L od dp PI PL mem) {i : Nat} (h1 : 1 ≤ i) (h2 : i ≤ nl) : f_Li_arrivesAt (L.1 i) mem = some (sp_thr B dp i, mem) := by
  unfold f_Li_arrivesAt sp_thr
  rw [← l_addsub]
  simp [mx_gl, cl_Oi h h1 h2, cl_lf]
theorem c_forget (h : cl_R o nl nd fi no bl A B L od dp PI PL mem) {i : Nat} (h1 : 1 ≤ i) (h2 : i ≤ nl) : ∃ mem', f_Li_forgetWaiting (L.1 i) mem = some mem' ∧ cl_R o nl nd fi no bl A B L od (vp_updL dp i (B 3 i + B 5 i)) PI PL mem' ∧ cl_F mem mem' ∧ mem'.1 = mem.1 := by
  obtain ⟨m1, e1, R1, F1, z1⟩ := cl_upI h h1 h2 (k := 7) (v := .long (B 3 i + B 5 i)) (by decide) (B' := B) (dp' := vp_updL dp i (B 3 i + B 5 i)) (by simp [cl_lf, uL_s]) (fun j hj => by simp [cl_lf, uL_n hj]) rfl rfl
  refine ⟨m1, ?_, R1, F1, z1⟩
  unfold f_Li_forgetWaiting
  simp [mx_gl, cl_Oi h h1 h2, cl_lf, e1]
theorem c_hold (h : cl_R o nl nd fi no bl A B L od dp PI PL mem) {i : Nat} (h1 : 1 ≤ i) (h2 : i ≤ nl) (v : Int64) : ∃ mem', f_Li_holdUntil (L.1 i) v mem = some mem' ∧ cl_R o nl nd fi no bl A B L od (if B 6 i < v - (B 3 i + B 5 i) then dp else vp_updL dp i (if v < dp i then dp i else v)) PI PL mem' ∧ cl_F mem mem' ∧ mem'.1 = mem.1 := by
  unfold f_Li_holdUntil
  have r3 : mx_gl mem (some (L.1 i)) 1 3 = some (B 3 i) := by simp [mx_gl, cl_Oi h h1 h2, cl_lf]
  have r5 : mx_gl mem (some (L.1 i)) 1 5 = some (B 5 i) := by simp [mx_gl, cl_Oi h h1 h2, cl_lf]
  have r6 : mx_gl mem (some (L.1 i)) 1 6 = some (B 6 i) := by simp [mx_gl, cl_Oi h h1 h2, cl_lf]
  have r7 : mx_gl mem (some (L.1 i)) 1 7 = some (dp i) := by simp [mx_gl, cl_Oi h h1 h2, cl_lf]
  rw [r3, bx_some, r5, bx_some, r6, bx_some]
  by_cases c : B 6 i < v - (B 3 i + B 5 i)
  · rw [if_pos c, if_pos c]
    exact ⟨mem, rfl, h, cl_F.rf, rfl⟩
  · rw [if_neg c, if_neg c, r7, bx_some]
    obtain ⟨m1, e1, R1, F1, z1⟩ := cl_upI h h1 h2 (k := 7) (v := .long (if v < dp i then dp i else v)) (by decide) (B' := B) (dp' := vp_updL dp i (if v < dp i then dp i else v)) (by simp [cl_lf, uL_s]) (fun j hj => by simp [cl_lf, uL_n hj]) rfl rfl
    rw [e1, bx_some]
    exact ⟨m1, rfl, R1, F1, z1⟩
theorem c_cl (h : cl_R o nl nd fi no bl A B L od dp PI PL mem) {l : Nat} (h1 : 1 ≤ l) (h2 : l ≤ nd) : mx_c mem (some (L.2.1 l)) 3 = some (L.2.1 l) := by simp [mx_c, cl_Ol h h1 h2]
theorem c_ci (h : cl_R o nl nd fi no bl A B L od dp PI PL mem) {i : Nat} (h1 : 1 ≤ i) (h2 : i ≤ nl) : mx_c mem (some (L.1 i)) 1 = some (L.1 i) := by simp [mx_c, cl_Oi h h1 h2]
theorem c_picked (h : cl_R o nl nd fi no bl A B L od dp PI PL mem) (V : sg_V nl nd fi no ch bl A B) {l : Nat} (h1 : 1 ≤ l) (h2 : l ≤ nd) (hp : PI 6 l = cl_pk no ch l) : f_Lo_pickedOption (L.2.1 l) mem = some (if no l = 0 then none else some (L.2.2.2 l (ch l)), mem) := by
  obtain ⟨hn, hd, hV, hO⟩ := V
  obtain ⟨e8, f1, f2, e12, n4, e13, c4, cn⟩ := hV l h1 h2
  have r6 : mx_gi mem (some (L.2.1 l)) 3 6 = some (cl_pk no ch l) := by simp [mx_gi, cl_Ol h h1 h2, cl_df, hp]
  have r5 : mx_gi mem (some (L.2.1 l)) 3 5 = some (nI (no l)) := by simp [mx_gi, cl_Ol h h1 h2, cl_df]
  have r4 : mx_gr mem (some (L.2.1 l)) 3 4 = some (some (L.2.2.1 l)) := by simp [mx_gr, cl_Ol h h1 h2, cl_df]
  unfold f_Lo_pickedOption
  rw [r6, bx_some]
  by_cases c : no l = 0
  · unfold cl_pk
    rw [if_pos c, if_pos c, if_pos (by decide)]
  · have hk : cl_pk no ch l = nI (ch l) := by unfold cl_pk; rw [if_neg c]
    rw [hk, if_neg c, if_neg (nI_pos (by omega)), bx_some, r5, bx_some, if_neg (by rw [nI_leI (by omega) (by omega)]; omega), r4, bx_some, bx_some, cl_aQ h h1 h2 n4 (by omega), bx_some]
theorem c_direct (h : cl_R o nl nd fi no bl A B L od dp PI PL mem) (V : sg_V nl nd fi no ch bl A B) {l : Nat} (h1 : 1 ≤ l) (h2 : l ≤ nd) : f_Lo_isDirect (L.2.1 l) mem = some (if A 2 (fi l) = A 9 l then 1 else 0, mem) := by
  obtain ⟨hn, hd, hV, hO⟩ := V
  obtain ⟨e8, f1, f2, -⟩ := hV l h1 h2
  have r0 : mx_gr mem (some (L.2.1 l)) 3 0 = some (some (L.1 (fi l))) := by simp [mx_gr, cl_Ol h h1 h2, cl_df]
  have r1 : mx_gi mem (some (L.2.1 l)) 3 1 = some (A 9 l) := by simp [mx_gi, cl_Ol h h1 h2, cl_df]
  have r2 : mx_gi mem (some (L.1 (fi l))) 1 2 = some (A 2 (fi l)) := by simp [mx_gi, cl_Oi h f1 f2, cl_lf]
  unfold f_Lo_isDirect
  rw [r0, bx_some, r2, bx_some, r1, bx_some]
  split <;> rfl
theorem c_upL (h : cl_R o nl nd fi no bl A B L od dp PI PL mem) {l : Nat} (h1 : 1 ≤ l) (h2 : l ≤ nd) (k : Nat) (hk : k = 8 ∨ k = 9 ∨ k = 10) (v : Int64) : ∃ mem', mx_p mem (some (L.2.1 l)) 3 k (.long v) = some mem' ∧ cl_R o nl nd fi no bl A B L od dp PI (va_up PL k (vp_updL (PL k) l v)) mem' ∧ cl_F mem mem' ∧ mem'.1 = mem.1 := by
  refine cl_upD h h1 h2 (by omega) ?_ (fun j hj => ?_)
  · rcases hk with rfl | rfl | rfl <;> simp [cl_df, va_up, vp_updL]
  · rcases hk with rfl | rfl | rfl <;> simp [cl_df, va_up, vp_updL, hj]
theorem c_upP (h : cl_R o nl nd fi no bl A B L od dp PI PL mem) {l : Nat} (h1 : 1 ≤ l) (h2 : l ≤ nd) (k : Nat) (hk : k = 6 ∨ k = 7 ∨ k = 11) (v : Int32) : ∃ mem', mx_p mem (some (L.2.1 l)) 3 k (.int v) = some mem' ∧ cl_R o nl nd fi no bl A B L od dp (va_up PI k (upd (PI k) l v)) PL mem' ∧ cl_F mem mem' ∧ mem'.1 = mem.1 := by
  refine cl_upD h h1 h2 (by omega) ?_ (fun j hj => ?_)
  · rcases hk with rfl | rfl | rfl <;> simp [cl_df, va_up, upd]
  · rcases hk with rfl | rfl | rfl <;> simp [cl_df, va_up, upd, hj]
theorem c_come (h : cl_R o nl nd fi no bl A B L od dp PI PL mem) (V : sg_V nl nd fi no ch bl A B) {l : Nat} (h1 : 1 ≤ l) (h2 : l ≤ nd) (hp : PI 6 l = cl_pk no ch l) : ∃ mem', f_Lo_comeAndHold (L.2.1 l) mem = some mem' ∧ cl_R o nl nd fi no bl A B L od (cl_hd fi no ch bl A B dp l) PI (va_up PL 8 (vp_updL (PL 8) l (sp_thr B dp (fi l)))) mem' ∧ cl_F mem mem' ∧ mem'.1 = mem.1 := by
  obtain ⟨hn, hd, hV, hO⟩ := id V
  obtain ⟨e8, f1, f2, e12, n4, e13, c4, cn⟩ := hV l h1 h2
  have r0 : mx_gr mem (some (L.2.1 l)) 3 0 = some (some (L.1 (fi l))) := by simp [mx_gr, cl_Ol h h1 h2, cl_df]
  unfold f_Lo_comeAndHold
  rw [r0, bx_some, c_ci h f1 f2, bx_some, c_arr h f1 f2, bx_some]
  dsimp only
  obtain ⟨m1, e1, R1, F1, z1⟩ := c_upL h h1 h2 8 (by omega) (sp_thr B dp (fi l))
  rw [e1, bx_some, c_cl R1 h1 h2, bx_some, c_picked R1 V h1 h2 hp, bx_some]
  dsimp only
  by_cases c1 : no l = 0
  · rw [if_pos c1, if_pos rfl]
    refine ⟨m1, rfl, ?_, F1, z1⟩
    unfold cl_hd
    rw [if_neg (by omega)]
    exact R1
  · obtain ⟨e15, b1, hk⟩ := hO l (ch l) h1 h2 (by omega)
    have q0 : mx_gi m1 (some (L.2.2.2 l (ch l))) 2 0 = some (A 14 (4 * l + ch l)) := by simp [mx_gi, cl_Oq R1 h1 h2 (show ch l < no l by omega), cl_of]
    rw [if_neg c1, if_neg (by intro q; cases q), q0, bx_some]
    by_cases c2 : A 14 (4 * l + ch l) = 1
    · rcases hk with ⟨k1, -⟩ | ⟨-, k2, k3⟩
      · rw [c2] at k1; exact absurd k1 (by decide)
      · have hon : cl_on bl L l (ch l) = some (L.1 (bl l (ch l))) := by unfold cl_on; rw [if_neg (by omega)]
        have q1 : mx_gr m1 (some (L.2.2.2 l (ch l))) 2 1 = some (some (L.1 (bl l (ch l)))) := by simp [mx_gr, cl_Oq R1 h1 h2 (show ch l < no l by omega), cl_of, hon, va_rf]
        have q8 : mx_gl m1 (some (L.2.1 l)) 3 8 = some (sp_thr B dp (fi l)) := by simp [mx_gl, cl_Ol R1 h1 h2, cl_df, va_up_self, uL_s]
        rw [if_pos c2, q1, bx_some, if_neg (by intro q; cases q), bx_some, q8, bx_some, c_ci R1 k2 b1, bx_some]
        obtain ⟨m2, e2, R2, F2, z2⟩ := c_hold R1 k2 b1 (sp_thr B dp (fi l) + 10)
        rw [e2, bx_some]
        refine ⟨m2, rfl, ?_, F1.tr F2, z2.trans z1⟩
        unfold cl_hd
        rw [if_pos ⟨by omega, c2⟩]
        exact R2
    · rw [if_neg c2]
      refine ⟨m1, rfl, ?_, F1, z1⟩
      unfold cl_hd
      rw [if_neg (fun q => c2 q.2)]
      exact R1
end C1
