/-! solve: the class's loop -/
theorem sv_btS {h v1 : Int64} {a v3 : Int32} {α : Type} {x y : α} : (if h < v1 then x else if h = v1 then (if v3 ≤ a then y else x) else y) = if sv_bt h v1 a v3 = true then x else y := by
  unfold sv_bt
  by_cases c1 : h < v1
  · rw [if_pos c1, decide_eq_true (Or.inl c1), if_pos rfl]
  · rw [if_neg c1]
    by_cases c2 : h = v1
    · rw [if_pos c2]
      by_cases c3 : v3 ≤ a
      · rw [if_pos c3, decide_eq_false (fun q => q.elim c1 (fun z => z.2 c3)), if_neg (by intro z; cases z)]
      · rw [if_neg c3, decide_eq_true (Or.inr ⟨c2, c3⟩), if_pos rfl]
    · rw [if_neg c2, decide_eq_false (fun q => q.elim c1 (fun z => c2 z.1)), if_neg (by intro z; cases z)]
theorem sv_btM {h v1 : Int64} {a v3 : Int32} (c : h < v1) : sv_bt h v1 a v3 = true := decide_eq_true (Or.inl c)
section SL
variable {o a nl nd : Nat} {th : Int32} {fi no ch0 : Nat → Nat} {bl : Nat → Nat → Nat} {A : Nat → Nat → Int32} {B : Nat → Nat → Int64} {L : cl_L} {od : Nat → Nat} {hm : (Nat → Nat) → Int64}
def sv_ac (no : Nat → Nat) (A : Nat → Nat → Int32) (nd : Nat) (ch : Nat → Nat) : Int32 := sp_cnt (sp_pa no ch A) nd 1 0
set_option maxHeartbeats 2000000 in
theorem c_solveL (V : sg_V nl nd fi no ch0 bl A B) (hB : sg_B nl B) (hD : sg_D nd no A B) (O : sg_O nd fi B od) (hH : ∀ ch, sg_C nd no ch → ∀ dp lf ar, sp_S nl nd fi no ch bl (sv_A A ch) B dp lf ar → sv_hm no ch (A 11) (B 10) (B 16) ar nd 1 0 = hm ch) :
    ∀ (d n t : Nat) (v1 : Int64) (v3 : Int32) (b ch : Nat → Nat) (sm : Bool) (dp : Nat → Int64) (PI : Nat → Nat → Int32) (PL : Nat → Nat → Int64) (mem : mx_Mem), 4096 ≤ sv_wt nd ch + d → d < n → t ≤ sv_wt nd ch → sg_C nd no ch → cl_R o nl nd fi no bl A B L od dp PI PL mem → (∀ l, 1 ≤ l → l ≤ nd → PI 6 l = cl_pk no ch l) → (sm = false → v1 = 9223372036854775807) → (sm = true → sg_C nd no b ∧ ∀ l, 1 ≤ l → l ≤ nd → PI 7 l = cl_pk no b l) →
    ∃ mem' dp' PI' PL', fl_LR_solve_37 n (some o) v1 v3 1 (nI t) mem = some ((sv_se hm (sv_ac no A nd) no nd d v1 v3 b ch).1, mem') ∧ sg_C nd no (sv_se hm (sv_ac no A nd) no nd d v1 v3 b ch).2 ∧ cl_R o nl nd fi no bl A B L od dp' PI' PL' mem' ∧ cl_F mem mem' ∧ mem'.1 = mem.1 ∧ (∀ l, 1 ≤ l → l ≤ nd → PI' 6 l = cl_pk no (sv_se hm (sv_ac no A nd) no nd d v1 v3 b ch).2 l) ∧ sp_S nl nd fi no (sv_se hm (sv_ac no A nd) no nd d v1 v3 b ch).2 bl (sv_A A (sv_se hm (sv_ac no A nd) no nd d v1 v3 b ch).2) B dp' (PI' 11) (PL' 9) := by
  have hd := V.2.1
  have n4 : ∀ l, 1 ≤ l → l ≤ nd → no l ≤ 4 := fun l l1 l2 => (V.2.2.1 l l1 l2).2.2.2.2.1
  have toA : ∀ (ch : Nat → Nat) {dp : Nat → Int64} {PI : Nat → Nat → Int32} {PL : Nat → Nat → Int64} {mem : mx_Mem}, cl_R o nl nd fi no bl A B L od dp PI PL mem → cl_R o nl nd fi no bl (sv_A A ch) B L od dp PI PL mem := fun ch _ _ _ _ h => h.same (sv_A_n (by decide)) (sv_A_n (by decide)) (sv_A_n (by decide)) (sv_A_n (by decide)) (sv_A_n (by decide)) rfl rfl rfl rfl rfl rfl
  have ofA : ∀ (ch : Nat → Nat) {dp : Nat → Int64} {PI : Nat → Nat → Int32} {PL : Nat → Nat → Int64} {mem : mx_Mem}, cl_R o nl nd fi no bl (sv_A A ch) B L od dp PI PL mem → cl_R o nl nd fi no bl A B L od dp PI PL mem := fun ch _ _ _ _ h => h.same (sv_A_n (by decide)).symm (sv_A_n (by decide)).symm (sv_A_n (by decide)).symm (sv_A_n (by decide)).symm (sv_A_n (by decide)).symm rfl rfl rfl rfl rfl rfl
  intro d
  induction d with
  | zero =>
    intro n t v1 v3 b ch sm dp PI PL mem hd1 hdn ht hC
    have := sv_wt_6 hd (sg_C4 V hC)
    omega
  | succ d ih =>
    intro n t v1 v3 b ch sm dp PI PL mem hd1 hdn ht hC h hp hs0 hs1
    obtain ⟨n, rfl⟩ : ∃ n', n = n' + 1 := ⟨n - 1, by omega⟩
    have w4 := sv_wt_6 hd (sg_C4 V hC)
    -- behind a step
    have tail : ∀ (v1' : Int64) (v3' : Int32) (b' : Nat → Nat) (dp2 : Nat → Int64) (PI2 : Nat → Nat → Int32) (PL2 : Nat → Nat → Int64) (mem2 : mx_Mem), cl_R o nl nd fi no bl A B L od dp2 PI2 PL2 mem2 → (∀ l, 1 ≤ l → l ≤ nd → PI2 6 l = cl_pk no ch l) → sg_C nd no b' → (∀ l, 1 ≤ l → l ≤ nd → PI2 7 l = cl_pk no b' l) →
        ∀ r : Int64 × (Nat → Nat), r = (if (sv_nx no nd ch).1 = true then sv_se hm (sv_ac no A nd) no nd d v1' v3' b' (sv_nx no nd ch).2 else (v1', b')) →
        ∃ mem' dp' PI' PL', (Option.bind (mx_c mem2 (some o) 0) fun a23 => Option.bind (f_LR_pickNextChoice a23 mem2) fun q20 => fl_LR_solve_37 n (some o) v1' v3' q20.1 (nI t + 1) q20.2) = some (r.1, mem') ∧ sg_C nd no r.2 ∧ cl_R o nl nd fi no bl A B L od dp' PI' PL' mem' ∧ cl_F mem2 mem' ∧ mem'.1 = mem2.1 ∧ (∀ l, 1 ≤ l → l ≤ nd → PI' 6 l = cl_pk no r.2 l) ∧ sp_S nl nd fi no r.2 bl (sv_A A r.2) B dp' (PI' 11) (PL' 9) := by
      intro v1' v3' b' dp2 PI2 PL2 mem2 R2 hp2 hCb hk2 r hr
      obtain ⟨PI3, mem3, e3, R3, F3, z3, q7, q6⟩ := c_nextL hd n4 nd 5000 ch PI2 mem2 (by omega) (Nat.le_refl _) R2 hC hp2
      rw [cl_c R2, bx_some]
      unfold f_LR_pickNextChoice
      rw [cl_i4 R2, bx_some, e3, bx_some, nI_1]
      cases hb : (sv_nx no nd ch).1 with
      | true =>
        rw [hb, if_pos rfl] at hr
        subst hr
        have hw := sv_nx_wt nd ch (sg_C4 V hC) hb
        obtain ⟨m4, dp4, PI4, PL4, e4, C4, R4, F4, z4, p4, S4⟩ := ih n (t + 1) v1' v3' b' (sv_nx no nd ch).2 true dp2 PI3 PL2 mem3 (by omega) (by omega) (by omega) (sv_nx_C nd ch (Nat.le_refl _) hC) R3 q6 (fun q => by cases q) (fun _ => ⟨hCb, fun l l1 l2 => by rw [q7]; exact hk2 l l1 l2⟩)
        exact ⟨m4, dp4, PI4, PL4, e4, C4, R4, F3.tr F4, z4.trans z3, p4, S4⟩
      | false =>
        rw [hb, if_neg (by intro z; cases z)] at hr
        subst hr
        obtain ⟨n, rfl⟩ : ∃ n', n = n' + 1 := ⟨n - 1, by omega⟩
        obtain ⟨PI4, mem4, e4, R4, F4, z4, q4⟩ := c_takeL hd nd 5000 0 PI3 mem3 (by omega) (by omega) R3
        rw [show (nI 0 : Int32) = 0 from rfl] at e4
        have hp4 : ∀ l, 1 ≤ l → l ≤ nd → PI4 6 l = cl_pk no b' l := fun l l1 l2 => by rw [(q4 l).2 (by omega) l2, q7]; exact hk2 l l1 l2
        obtain ⟨m5, dp5, PI5, PL5, e5, R5, F5, z5, ⟨p6, p7, p10⟩, S5⟩ := c_settle (toA b' R4) (sv_V V hCb) hB O hp4
        refine ⟨m5, dp5, PI5, PL5, ?_, hCb, ofA b' R5, (F3.tr F4).tr F5, z5.trans (z4.trans z3), fun l l1 l2 => by rw [p6]; exact hp4 l l1 l2, S5⟩
        rw [fl_LR_solve_37]
        dsimp only
        rw [if_pos (by rfl), cl_c R3, bx_some]
        unfold f_LR_takeKeptChoice
        rw [e4, bx_some, cl_c R4, bx_some, e5, bx_some]
    obtain ⟨m1, dp1, PI1, PL1, e1, R1, F1, z1, ⟨p6, p7, p10⟩, S1⟩ := c_settle (toA ch h) (sv_V V hC) hB O hp
    have hp1 : ∀ l, 1 ≤ l → l ≤ nd → PI1 6 l = cl_pk no ch l := fun l l1 l2 => by rw [p6]; exact hp l l1 l2
    have hk1 : ∀ {b : Nat → Nat}, (∀ l, 1 ≤ l → l ≤ nd → PI 7 l = cl_pk no b l) → ∀ l, 1 ≤ l → l ≤ nd → PI1 7 l = cl_pk no b l := fun hh l l1 l2 => by rw [p7]; exact hh l l1 l2
    have R1' := ofA ch R1
    have hh := hH ch hC dp1 (PI1 11) (PL1 9) S1
    have hlt := sv_hlt V hB hD hC S1
    rw [hh] at hlt
    have eh := c_harmL (sv_V V hC) R1' hp1 nd 5000 0 0 (by omega) (by omega)
    rw [show (nI 0 : Int32) = 0 from rfl, hh] at eh
    have ea := c_countActs (sv_V V hC) R1 hp1
    rw [sp_cnt_c (p' := sp_pa no ch A) nd 1 0 (fun i _ _ => by unfold sp_pa; rw [sv_A_n (by decide)])] at ea
    rw [show sp_cnt (sp_pa no ch A) nd 1 0 = sv_ac no A nd ch from rfl] at ea
    rw [fl_LR_solve_37, if_neg (by decide), if_neg (by rw [show (4096 : Int32) = nI 4096 from rfl, nI_leI (by decide) (by omega)]; omega), cl_c h, bx_some, e1, bx_some, cl_c R1', bx_some]
    unfold f_LR_sumHarm
    rw [eh, bx_some]
    dsimp only
    rw [cl_c R1', bx_some, ea, bx_some]
    dsimp only
    rw [sv_btS]
    generalize hr : sv_se hm (sv_ac no A nd) no nd (d + 1) v1 v3 b ch = r
    rw [sv_se] at hr
    by_cases bt : sv_bt (hm ch) v1 (sv_ac no A nd ch) v3 = true
    · rw [if_pos bt] at hr ⊢
      obtain ⟨PI2, m2, e2, R2, F2, z2, q6, q7⟩ := c_keepL hd nd 5000 0 PI1 m1 (by omega) (by omega) R1'
      rw [show (nI 0 : Int32) = 0 from rfl] at e2
      obtain ⟨m3, dp3, PI3, PL3, e3, C3, R3, F3, z3, p3, S3⟩ := tail (hm ch) (sv_ac no A nd ch) ch dp1 PI2 PL1 m2 R2 (fun l l1 l2 => by rw [q6]; exact hp1 l l1 l2) hC (fun l l1 l2 => by rw [(q7 l).2 (by omega) l2]; exact hp1 l l1 l2) r hr.symm
      refine ⟨m3, dp3, PI3, PL3, ?_, C3, R3, (F1.tr F2).tr F3, z3.trans (z2.trans z1), p3, S3⟩
      rw [cl_c R1', bx_some]
      unfold f_LR_keepChoice
      rw [e2, bx_some, e3]
    · rw [if_neg bt] at hr ⊢
      have hsm : sm = true := by
        cases hsm : sm with
        | true => rfl
        | false => exact absurd (sv_btM (by rw [hs0 hsm]; exact hlt)) bt
      obtain ⟨hCb, hkb⟩ := hs1 hsm
      obtain ⟨m3, dp3, PI3, PL3, e3, C3, R3, F3, z3, p3, S3⟩ := tail v1 v3 b dp1 PI1 PL1 m1 R1' hp1 hCb (hk1 hkb) r hr.symm
      exact ⟨m3, dp3, PI3, PL3, e3, C3, R3, F1.tr F3, z3.trans z1, p3, S3⟩
end SL
