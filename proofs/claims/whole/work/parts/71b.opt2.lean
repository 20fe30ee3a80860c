/-! option: the class's steps -/
theorem c_Oinit {mem : mx_Mem} {n : Nat} (h : mem.2 n = some (.inr (2, [.int 0, .null, .long 0]))) (v1 : Int32) (v2 : Option Nat) (v3 : Int64) : f_Op_init n v1 v2 v3 mem = some (mem.1, va_up mem.2 n (some (.inr (2, [.int v1, va_rf v2, .long v3])))) := by
  unfold f_Op_init
  simp [mx_p, mx_O, h, va_up_self, bx_uu]
set_option maxHeartbeats 1000000 in
theorem c_mkopt {o nl nd : Nat} {fi no ch : Nat → Nat} {bl : Nat → Nat → Nat} {A : Nat → Nat → Int32} {B : Nat → Nat → Int64} {L : cl_L} {od : Nat → Nat} {dp : Nat → Int64} {PI : Nat → Nat → Int32} {PL : Nat → Nat → Int64} {mem : mx_Mem} (c : cl_R o nl nd fi no bl A B L od dp PI PL mem) (V : sg_V nl nd fi no ch bl A B) (wf : mx_wf mem) (hp : ∀ l, 1 ≤ l → l ≤ nd → PI 6 l = cl_pk no ch l) {l : Nat} (l1 : 1 ≤ l) (l2 : l ≤ nd) (hno : no l < 4) (v2 : Int32) (v4 : Int64) (on : Option Nat) :
    ∃ M f, M.1 = mem.1 + 1 ∧ M.2 mem.1 = some (.inr (2, [.int v2, va_rf on, .long v4])) ∧ M.2 (L.2.2.1 l) = some (cl_qs f 2 4) ∧ (∀ q, q < no l + 1 → f q = some (op_bl L.2.2.2 l (no l) mem.1 l q)) ∧ M.2 (L.2.1 l) = some (.inr (3, [.ref (L.1 (fi l)), .int (A 9 l), .long (B 10 l), .int (A 11 l), .ref (L.2.2.1 l), .int (nI (no l + 1)), .int (nI (ch l)), .int (PI 7 l), .long (PL 8 l), .long (PL 9 l), .long (PL 10 l), .int (PI 11 l)])) ∧ (∀ b, b ≠ mem.1 → b ≠ L.2.2.1 l → b ≠ L.2.1 l → M.2 b = mem.2 b) ∧ mx_c M (some o) 0 = some o ∧
    fj_LR_option_94 (some o) v2 v4 (some (L.2.1 l)) on mem = Option.bind (f_LR_settle o M) (fun q17 => some (nI (no l), q17)) := by
  obtain ⟨g1, ⟨e2, g2, g2'⟩, ⟨e3, g3, g3'⟩, ⟨e4, g4, g4'⟩, g5, g6, g7, g8, g9, g10, g11⟩ := id c
  obtain ⟨e8, f1, f2, e12, n4, e13, c4, cn⟩ := V.2.2.1 l l1 l2
  obtain ⟨fo, go1, go2⟩ := g7 l l1 l2
  have gl := g6 l l1 l2
  have fresh : ∀ {b : Nat} {e : mx_E}, mem.2 b = some e → b ≠ mem.1 := fun h q => by rw [q, wf mem.1 (Nat.le_refl _)] at h; cases h
  have nlo : L.2.1 l ≠ L.2.2.1 l := cl_ne gl go1 (by simp [cl_tag, cl_qs])
  unfold fj_LR_option_94
  rw [c_cl c l1 l2, bx_some, c_room c l1 l2 n4, bx_some]
  dsimp only
  rw [if_neg (show ¬ no l = 4 by omega), if_neg (by decide), bx_some, c_Oinit (mem := mx_n mem (.inr (2, [.int 0, .null, .long 0]))) (va_up_self _ _ _), bx_some]
  have hX0 : va_up (mx_n mem (.inr (2, [.int 0, .null, .long 0]))).2 mem.1 (some (.inr (2, [.int v2, va_rf on, .long v4]))) = va_up mem.2 mem.1 (some (.inr (2, [.int v2, va_rf on, .long v4]))) := bx_uu _ _ _ _
  rw [hX0, show (mx_n mem (.inr (2, [.int 0, .null, .long 0]))).1 = mem.1 + 1 from rfl]
  generalize hX : va_up mem.2 mem.1 (some (.inr (2, [.int v2, va_rf on, .long v4]))) = X
  have Xn : X mem.1 = some (.inr (2, [.int v2, va_rf on, .long v4])) := by rw [← hX, va_up_self]
  have Xk : ∀ {b : Nat}, b ≠ mem.1 → X b = mem.2 b := fun h => by rw [← hX, va_up_ne _ _ h]
  have Xl : X (L.2.1 l) = some (.inr (3, cl_df fi no A B L PI PL l)) := by rw [Xk (fresh gl)]; exact gl
  have Xa : X (L.2.2.1 l) = some (cl_qs fo 2 4) := by rw [Xk (fresh go1)]; exact go1
  have x1 : mx_c (mem.1 + 1, X) (some (L.2.1 l)) 3 = some (L.2.1 l) := by simp [mx_c, mx_O_of (mem := (mem.1 + 1, X)) Xl]
  have x5 : mx_gi (mem.1 + 1, X) (some (L.2.1 l)) 3 5 = some (nI (no l)) := by simp [mx_gi, mx_O_of (mem := (mem.1 + 1, X)) Xl, cl_df]
  have x4 : mx_gr (mem.1 + 1, X) (some (L.2.1 l)) 3 4 = some (some (L.2.2.1 l)) := by simp [mx_gr, mx_O_of (mem := (mem.1 + 1, X)) Xl, cl_df]
  have xr : f_Lo_hasRoom (L.2.1 l) (mem.1 + 1, X) = some (1, (mem.1 + 1, X)) := by
    unfold f_Lo_hasRoom
    rw [x5, bx_some, x4, bx_some, cl_ln (mem := (mem.1 + 1, X)) Xa, bx_some, if_neg (by rw [nI_leI (by decide) (by omega)]; omega)]
  have xc : mx_cn (mem.1 + 1, X) (some mem.1) 2 = some () := by simp [mx_cn, mx_O_of (mem := (mem.1 + 1, X)) Xn]
  rw [x1, bx_some]
  unfold f_Lo_addOption
  rw [x1, bx_some, xr, bx_some]
  dsimp only
  rw [if_neg (by decide), x4, bx_some, x5, bx_some, xc, bx_some, cl_wr (mem := (mem.1 + 1, X)) Xa (by omega) (by decide), bx_some]
  dsimp only
  generalize hY : va_up X (L.2.2.1 l) (some (cl_qs (va_up fo (no l) (some mem.1)) 2 4)) = Y
  have Yl : Y (L.2.1 l) = some (.inr (3, cl_df fi no A B L PI PL l)) := by rw [← hY, va_up_ne _ _ nlo]; exact Xl
  have Ya : Y (L.2.2.1 l) = some (cl_qs (va_up fo (no l) (some mem.1)) 2 4) := by rw [← hY, va_up_self]
  have Yk : ∀ {b : Nat}, b ≠ L.2.2.1 l → Y b = X b := fun h => by rw [← hY, va_up_ne _ _ h]
  have y5 : mx_gi (mem.1 + 1, Y) (some (L.2.1 l)) 3 5 = some (nI (no l)) := by simp [mx_gi, mx_O_of (mem := (mem.1 + 1, Y)) Yl, cl_df]
  have yp : mx_p (mem.1 + 1, Y) (some (L.2.1 l)) 3 5 (.int (nI (no l) + 1)) = some (mem.1 + 1, va_up Y (L.2.1 l) (some (.inr (3, [.ref (L.1 (fi l)), .int (A 9 l), .long (B 10 l), .int (A 11 l), .ref (L.2.2.1 l), .int (nI (no l + 1)), .int (PI 6 l), .int (PI 7 l), .long (PL 8 l), .long (PL 9 l), .long (PL 10 l), .int (PI 11 l)])))) := by
    rw [nI_1]
    simp [mx_p, mx_O_of (mem := (mem.1 + 1, Y)) Yl, cl_df]
  rw [y5, bx_some, yp, bx_some]
  generalize hZ : va_up Y (L.2.1 l) (some (.inr (3, [.ref (L.1 (fi l)), .int (A 9 l), .long (B 10 l), .int (A 11 l), .ref (L.2.2.1 l), .int (nI (no l + 1)), .int (PI 6 l), .int (PI 7 l), .long (PL 8 l), .long (PL 9 l), .long (PL 10 l), .int (PI 11 l)]))) = Z
  have Zl : Z (L.2.1 l) = some (.inr (3, [.ref (L.1 (fi l)), .int (A 9 l), .long (B 10 l), .int (A 11 l), .ref (L.2.2.1 l), .int (nI (no l + 1)), .int (PI 6 l), .int (PI 7 l), .long (PL 8 l), .long (PL 9 l), .long (PL 10 l), .int (PI 11 l)])) := by rw [← hZ, va_up_self]
  have Zk : ∀ {b : Nat}, b ≠ L.2.1 l → Z b = Y b := fun h => by rw [← hZ, va_up_ne _ _ h]
  have z6 : mx_gi (mem.1 + 1, Z) (some (L.2.1 l)) 3 6 = some (PI 6 l) := by simp [mx_gi, mx_O_of (mem := (mem.1 + 1, Z)) Zl]
  have z5 : mx_gi (mem.1 + 1, Z) (some (L.2.1 l)) 3 5 = some (nI (no l + 1)) := by simp [mx_gi, mx_O_of (mem := (mem.1 + 1, Z)) Zl]
  have hfq : ∀ q, q < no l + 1 → (va_up fo (no l) (some mem.1)) q = some (op_bl L.2.2.2 l (no l) mem.1 l q) := by
    intro q hq
    by_cases e : q = no l
    · subst e; rw [va_up_self, op_bl_s]
    · rw [va_up_ne _ _ e, op_bl_n (fun z => e z.2)]; exact go2 q (by omega)
  have ho1 : o ≠ L.2.1 l := cl_ne g1 gl (by simp [cl_tag, cl_ob])
  have ho2 : o ≠ L.2.2.1 l := cl_ne g1 go1 (by simp [cl_tag, cl_ob, cl_qs])
  rw [z6, bx_some]
  by_cases c0 : no l = 0
  · have hpk : PI 6 l = -1 := by rw [hp l l1 l2]; unfold cl_pk; rw [if_pos c0]
    have hch : ch l = 0 := by omega
    have zp : mx_p (mem.1 + 1, Z) (some (L.2.1 l)) 3 6 (.int 0) = some (mem.1 + 1, va_up Z (L.2.1 l) (some (.inr (3, [.ref (L.1 (fi l)), .int (A 9 l), .long (B 10 l), .int (A 11 l), .ref (L.2.2.1 l), .int (nI (no l + 1)), .int (nI (ch l)), .int (PI 7 l), .long (PL 8 l), .long (PL 9 l), .long (PL 10 l), .int (PI 11 l)])))) := by
      rw [hch]
      simp [mx_p, mx_O_of (mem := (mem.1 + 1, Z)) Zl]
      rfl
    have w5 : mx_gi (mem.1 + 1, va_up Z (L.2.1 l) (some (.inr (3, [.ref (L.1 (fi l)), .int (A 9 l), .long (B 10 l), .int (A 11 l), .ref (L.2.2.1 l), .int (nI (no l + 1)), .int (nI (ch l)), .int (PI 7 l), .long (PL 8 l), .long (PL 9 l), .long (PL 10 l), .int (PI 11 l)])))) (some (L.2.1 l)) 3 5 = some (nI (no l + 1)) := by simp [mx_gi, mx_O, va_up_self]
    rw [hpk, if_neg (by decide), zp, bx_some, w5, bx_some, bx_some]
    refine ⟨(mem.1 + 1, va_up Z (L.2.1 l) (some (.inr (3, [.ref (L.1 (fi l)), .int (A 9 l), .long (B 10 l), .int (A 11 l), .ref (L.2.2.1 l), .int (nI (no l + 1)), .int (nI (ch l)), .int (PI 7 l), .long (PL 8 l), .long (PL 9 l), .long (PL 10 l), .int (PI 11 l)])))), va_up fo (no l) (some mem.1), rfl, ?_, ?_, hfq, va_up_self _ _ _, ?_, ?_, ?_⟩
    · dsimp only; rw [va_up_ne _ _ (fun q => fresh gl q.symm), Zk (fun q => fresh gl q.symm), Yk (fun q => fresh go1 q.symm)]; exact Xn
    · dsimp only; rw [va_up_ne _ _ nlo.symm, Zk nlo.symm]; exact Ya
    · intro b b1 b2 b3
      dsimp only; rw [va_up_ne _ _ b3, Zk b3, Yk b2, Xk b1]
    · have : (va_up Z (L.2.1 l) (some (.inr (3, [.ref (L.1 (fi l)), .int (A 9 l), .long (B 10 l), .int (A 11 l), .ref (L.2.2.1 l), .int (nI (no l + 1)), .int (nI (ch l)), .int (PI 7 l), .long (PL 8 l), .long (PL 9 l), .long (PL 10 l), .int (PI 11 l)])))) o = some (cl_ob o nl nd) := by rw [va_up_ne _ _ ho1, Zk ho1, Yk ho2, Xk (fresh g1)]; exact g1
      simp [mx_c, mx_O_of (mem := (mem.1 + 1, va_up Z (L.2.1 l) (some (.inr (3, [.ref (L.1 (fi l)), .int (A 9 l), .long (B 10 l), .int (A 11 l), .ref (L.2.2.1 l), .int (nI (no l + 1)), .int (nI (ch l)), .int (PI 7 l), .long (PL 8 l), .long (PL 9 l), .long (PL 10 l), .int (PI 11 l)]))))) this]
    · dsimp only
      have this : (va_up Z (L.2.1 l) (some (.inr (3, [.ref (L.1 (fi l)), .int (A 9 l), .long (B 10 l), .int (A 11 l), .ref (L.2.2.1 l), .int (nI (no l + 1)), .int (nI (ch l)), .int (PI 7 l), .long (PL 8 l), .long (PL 9 l), .long (PL 10 l), .int (PI 11 l)])))) o = some (cl_ob o nl nd) := by rw [va_up_ne _ _ ho1, Zk ho1, Yk ho2, Xk (fresh g1)]; exact g1
      have oc : mx_c (mem.1 + 1, va_up Z (L.2.1 l) (some (.inr (3, [.ref (L.1 (fi l)), .int (A 9 l), .long (B 10 l), .int (A 11 l), .ref (L.2.2.1 l), .int (nI (no l + 1)), .int (nI (ch l)), .int (PI 7 l), .long (PL 8 l), .long (PL 9 l), .long (PL 10 l), .int (PI 11 l)])))) (some o) 0 = some o := by simp [mx_c, mx_O_of (mem := (mem.1 + 1, va_up Z (L.2.1 l) (some (.inr (3, [.ref (L.1 (fi l)), .int (A 9 l), .long (B 10 l), .int (A 11 l), .ref (L.2.2.1 l), .int (nI (no l + 1)), .int (nI (ch l)), .int (PI 7 l), .long (PL 8 l), .long (PL 9 l), .long (PL 10 l), .int (PI 11 l)]))))) this]
      rw [oc, bx_some, show nI (no l + 1) - 1 = nI (no l) from nI_pred _]
  · have hpk : PI 6 l = nI (ch l) := by rw [hp l l1 l2]; unfold cl_pk; rw [if_neg c0]
    have this : Z o = some (cl_ob o nl nd) := by rw [Zk ho1, Yk ho2, Xk (fresh g1)]; exact g1
    have oc : mx_c (mem.1 + 1, Z) (some o) 0 = some o := by simp [mx_c, mx_O_of (mem := (mem.1 + 1, Z)) this]
    rw [hpk, if_pos (nI_pos' (by omega)), z5, bx_some, bx_some]
    refine ⟨(mem.1 + 1, Z), va_up fo (no l) (some mem.1), rfl, ?_, ?_, hfq, ?_, ?_, oc, ?_⟩
    · dsimp only; rw [Zk (fun q => fresh gl q.symm), Yk (fun q => fresh go1 q.symm)]; exact Xn
    · dsimp only; rw [Zk nlo.symm]; exact Ya
    · dsimp only; rw [Zl, hpk]
    · intro b b1 b2 b3
      dsimp only; rw [Zk b3, Yk b2, Xk b1]
    · dsimp only
      rw [oc, bx_some, show nI (no l + 1) - 1 = nI (no l) from nI_pred _]
