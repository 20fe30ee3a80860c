/-! load: class and reference -/
def ld_PI (PI : Nat → Nat → Int32) (n : Nat) : Nat → Nat → Int32 := fun k l => if l = n then (if k = 11 then 0 else (-1)) else PI k l
def ld_PL (PL : Nat → Nat → Int64) (n : Nat) : Nat → Nat → Int64 := fun k l => if l = n then 0 else PL k l
section L2
variable {o a nl nd : Nat} {th : Int32} {fi no ch : Nat → Nat} {bl : Nat → Nat → Nat} {A A' : Nat → Nat → Int32} {B B' : Nat → Nat → Int64} {L : cl_L} {od : Nat → Nat} {dp : Nat → Int64} {PI : Nat → Nat → Int32} {PL : Nat → Nat → Int64} {mem mem' : mx_Mem}
set_option maxHeartbeats 1000000 in
theorem cl_load (c : cl_R o nl nd fi no bl A B L od dp PI PL mem) (V : sg_V nl nd fi no ch bl A B) (wf : mx_wf mem) {x : Nat} {v2 v5 : Int32} {v3 : Int64} (h9 : A' 9 = upd (A 9) (nd + 1) v2) (h11 : A' 11 = upd (A 11) (nd + 1) v5) (hA : ∀ k, k ≠ 8 → k ≠ 9 → k ≠ 11 → A' k = A k) (h10 : B' 10 = vp_updL (B 10) (nd + 1) v3) (hb : ∀ k, k ≠ 10 → B' k = B k)
    {M : mx_Mem} {f2 f3 : Nat → Option Nat} {p : Nat} (hz : M.1 = mem.1 + 2) (ho : M.2 o = some (cl_ob o nl (nd + 1))) (h2 : M.2 (o + 2) = some (cl_qs f2 1 6)) (h2' : ∀ j, j < nd + 1 → f2 j = some (va_up L.2.1 (nd + 1) mem.1 (j + 1))) (h3 : M.2 (o + 3) = some (cl_qs f3 1 6)) (h3' : ∀ j, j < nd + 1 → f3 j = some (va_up L.2.1 (nd + 1) mem.1 (od_in od p (nd + 1) j)))
    (hn : M.2 mem.1 = some (.inr (3, [.ref (L.1 x), .int v2, .long v3, .int v5, .ref (mem.1 + 1), .int 0, .int (-1), .int (-1), .long 0, .long 0, .long 0, .int 0]))) (hn1 : M.2 (mem.1 + 1) = some (cl_qs (fun _ => none) 2 4)) (hk : ∀ b, b ≠ o → b ≠ o + 2 → b ≠ o + 3 → b ≠ mem.1 → b ≠ mem.1 + 1 → M.2 b = mem.2 b) :
    cl_R o nl (nd + 1) (va_up fi (nd + 1) x) (va_up no (nd + 1) 0) bl A' B' (L.1, va_up L.2.1 (nd + 1) mem.1, va_up L.2.2.1 (nd + 1) (mem.1 + 1), L.2.2.2) (od_in od p (nd + 1)) dp (ld_PI PI (nd + 1)) (ld_PL PL (nd + 1)) M ∧ cl_F mem M := by
  obtain ⟨g1, ⟨e2, g2, g2'⟩, ⟨e3, g3, g3'⟩, ⟨e4, g4, g4'⟩, g5, g6, g7, g8, g9, g10, g11⟩ := id c
  have fresh : ∀ {b : Nat} {e : mx_E}, mem.2 b = some e → b ≠ mem.1 ∧ b ≠ mem.1 + 1 := fun h => ⟨(fun q => by rw [q, wf mem.1 (Nat.le_refl _)] at h; cases h), (fun q => by rw [q, wf (mem.1 + 1) (Nat.le_succ _)] at h; cases h)⟩
  have keep : ∀ {b : Nat} {e : mx_E}, mem.2 b = some e → b ≠ o → b ≠ o + 2 → b ≠ o + 3 → M.2 b = some e := fun h q1 q2 q3 => by rw [hk _ q1 q2 q3 (fresh h).1 (fresh h).2]; exact h
  have keepT : ∀ {b : Nat} {e : mx_E}, mem.2 b = some e → cl_tag e ≠ 0 → cl_tag e ≠ 101 → M.2 b = some e := fun h q1 q2 => keep h (cl_ne h g1 q1) (cl_ne h g3 q2) (cl_ne h g4 q2)
  refine ⟨⟨ho, ⟨e2, keepT g2 (by simp [cl_tag, cl_qs]) (by simp [cl_tag, cl_qs]), g2'⟩, ⟨f2, h2, h2'⟩, ⟨f3, h3, h3'⟩, ?_, ?_, ?_, ?_, ?_, ?_, g11⟩, ?_, ?_, ?_⟩
  · intro i i1 i2
    have el : cl_lf A' B' dp i = cl_lf A B dp i := by unfold cl_lf; rw [hA 1 (by decide) (by decide) (by decide), hA 2 (by decide) (by decide) (by decide), hb 3 (by decide), hb 4 (by decide), hb 5 (by decide), hb 6 (by decide)]
    rw [el]
    exact keepT (g5 i i1 i2) (by simp [cl_tag]) (by simp [cl_tag])
  · intro l l1 l2
    dsimp only
    by_cases e : l = nd + 1
    · subst e
      rw [va_up_self, hn]
      unfold cl_df ld_PI ld_PL
      dsimp only
      rw [va_up_self, va_up_self, va_up_self, h9, h11, h10, uI_s, uI_s, uL_s]
      simp
      rfl
    · have el : cl_df (va_up fi (nd + 1) x) (va_up no (nd + 1) 0) A' B' (L.1, va_up L.2.1 (nd + 1) mem.1, va_up L.2.2.1 (nd + 1) (mem.1 + 1), L.2.2.2) (ld_PI PI (nd + 1)) (ld_PL PL (nd + 1)) l = cl_df fi no A B L PI PL l := by
        unfold cl_df ld_PI ld_PL
        dsimp only
        rw [va_up_ne _ _ e, va_up_ne _ _ e, va_up_ne _ _ e, h9, h11, h10, uI_n e, uI_n e, uL_n e]
        simp [e]
      rw [va_up_ne _ _ e, el]
      exact keepT (g6 l l1 (by omega)) (by simp [cl_tag]) (by simp [cl_tag])
  · intro l l1 l2
    dsimp only
    by_cases e : l = nd + 1
    · subst e
      rw [va_up_self, va_up_self]
      exact ⟨_, hn1, fun q hq => by omega⟩
    · rw [va_up_ne _ _ e, va_up_ne _ _ e]
      obtain ⟨f, q1, q2⟩ := g7 l l1 (by omega)
      exact ⟨f, keepT q1 (by simp [cl_tag, cl_qs]) (by simp [cl_tag, cl_qs]), q2⟩
  · intro l q l1 l2 l3
    dsimp only
    by_cases e : l = nd + 1
    · subst e
      rw [va_up_self] at l3
      omega
    · rw [va_up_ne _ _ e] at l3
      have el : cl_of bl A' B' (L.1, va_up L.2.1 (nd + 1) mem.1, va_up L.2.2.1 (nd + 1) (mem.1 + 1), L.2.2.2) l q = cl_of bl A B L l q := by
        unfold cl_of cl_on
        rw [hA 14 (by decide) (by decide) (by decide), hb 16 (by decide)]
      rw [el]
      exact keepT (g8 l q l1 (by omega) l3) (by simp [cl_tag]) (by simp [cl_tag])
  · intro l l' l1 l2 l3 l4
    dsimp only
    by_cases e : l = nd + 1
    · by_cases e' : l' = nd + 1
      · intro _; omega
      · subst e
        rw [va_up_self, va_up_ne _ _ e']
        exact fun q => absurd q.symm (fresh (g6 l' l3 (by omega))).1
    · by_cases e' : l' = nd + 1
      · subst e'
        rw [va_up_self, va_up_ne _ _ e]
        exact fun q => absurd q (fresh (g6 l l1 (by omega))).1
      · rw [va_up_ne _ _ e, va_up_ne _ _ e']
        exact g9 l l' l1 (by omega) l3 (by omega)
  · intro l l' l1 l2 l3 l4
    dsimp only
    by_cases e : l = nd + 1
    · by_cases e' : l' = nd + 1
      · intro _; omega
      · subst e
        obtain ⟨f, q1, -⟩ := g7 l' l3 (by omega)
        rw [va_up_self, va_up_ne _ _ e']
        exact fun q => absurd q.symm (fresh q1).2
    · by_cases e' : l' = nd + 1
      · subst e'
        obtain ⟨f, q1, -⟩ := g7 l l1 (by omega)
        rw [va_up_self, va_up_ne _ _ e]
        exact fun q => absurd q (fresh q1).2
      · rw [va_up_ne _ _ e, va_up_ne _ _ e']
        exact g10 l l' l1 (by omega) l3 (by omega)
  · rw [hz]; omega
  · intro b e h hkk
    exact keep h (fun q => absurd rfl (cl_nk (q ▸ g1 : mem.2 b = _) h rfl hkk)) (fun q => absurd rfl (cl_nk (q ▸ g3 : mem.2 b = _) h rfl hkk)) (fun q => absurd rfl (cl_nk (q ▸ g4 : mem.2 b = _) h rfl hkk))
  · intro _ b hb1
    rw [hz] at hb1
    have n1 : b ≠ o := fun q => by rw [← q, wf b (by omega)] at g1; cases g1
    have n2 : b ≠ o + 2 := fun q => by rw [← q, wf b (by omega)] at g3; cases g3
    have n3 : b ≠ o + 3 := fun q => by rw [← q, wf b (by omega)] at g4; cases g4
    rw [hk b n1 n2 n3 (by omega) (by omega)]
    exact wf b (by omega)
end L2
theorem c_Dinit {mem : mx_Mem} {n : Nat} (h : mem.2 n = some (.inr (3, [.null, .int 0, .long 0, .int 0, .null, .int 0, .int 0, .int 0, .long 0, .long 0, .long 0, .int 0]))) (hne : n ≠ mem.1) (y : Nat) (v2 : Int32) (v3 : Int64) (v5 : Int32) : f_Lo_init n (some y) v2 v3 v5 mem = some (mem.1 + 1, va_up (va_up mem.2 mem.1 (some (cl_qs (fun _ => none) 2 4))) n (some (.inr (3, [.ref y, .int v2, .long v3, .int v5, .ref mem.1, .int 0, .int (-1), .int (-1), .long 0, .long 0, .long 0, .int 0])))) := by
  unfold f_Lo_init
  simp [mx_p, mx_O, mx_n, h, va_up_self, va_up_ne _ _ hne, bx_uu, va_rf, cl_qs]
theorem w2_0 {v lo hi : Int64} (h : v < lo ∨ hi < v) : (if v < lo then (0 : Int32) else if hi < v then 0 else 1) = 0 := by
  by_cases c : v < lo
  · rw [if_pos c]
  · rw [if_neg c, if_pos (h.resolve_left c)]
theorem w2_1 {v lo hi : Int64} (h : ¬ (v < lo ∨ hi < v)) : (if v < lo then (0 : Int32) else if hi < v then 0 else 1) = 1 := by
  rw [if_neg (fun q => h (Or.inl q)), if_neg (fun q => h (Or.inr q))]
set_option maxHeartbeats 1000000 in
/-- the class's steps that make a load -/
theorem c_mkload {o nl nd : Nat} {fi no ch : Nat → Nat} {bl : Nat → Nat → Nat} {A : Nat → Nat → Int32} {B : Nat → Nat → Int64} {L : cl_L} {od : Nat → Nat} {dp : Nat → Int64} {PI : Nat → Nat → Int32} {PL : Nat → Nat → Int64} {mem : mx_Mem} (c : cl_R o nl nd fi no bl A B L od dp PI PL mem) (V : sg_V nl nd fi no ch bl A B) (O : sg_O nd fi B od) (wf : mx_wf mem) (hd : nd < 6) {x : Nat} (x1 : 1 ≤ x) (x2 : x ≤ nl) (v2 : Int32) (v3 : Int64) (v5 : Int32) {ρ : Type} (K : mx_Mem → Option ρ) :
    ∃ M f2 f3 p, p ≤ nd ∧ (∀ j, p ≤ j → j < nd → B 3 x < B 3 (fi (od j))) ∧ (p = 0 ∨ B 3 (fi (od (p - 1))) ≤ B 3 x) ∧ M.1 = mem.1 + 2 ∧ M.2 o = some (cl_ob o nl (nd + 1)) ∧ M.2 (o + 2) = some (cl_qs f2 1 6) ∧ (∀ j, j < nd + 1 → f2 j = some (va_up L.2.1 (nd + 1) mem.1 (j + 1))) ∧ M.2 (o + 3) = some (cl_qs f3 1 6) ∧ (∀ j, j < nd + 1 → f3 j = some (va_up L.2.1 (nd + 1) mem.1 (od_in od p (nd + 1) j))) ∧
    M.2 mem.1 = some (.inr (3, [.ref (L.1 x), .int v2, .long v3, .int v5, .ref (mem.1 + 1), .int 0, .int (-1), .int (-1), .long 0, .long 0, .long 0, .int 0])) ∧ M.2 (mem.1 + 1) = some (cl_qs (fun _ => none) 2 4) ∧ (∀ b, b ≠ o → b ≠ o + 2 → b ≠ o + 3 → b ≠ mem.1 → b ≠ mem.1 + 1 → M.2 b = mem.2 b) ∧
    (Option.bind (some (mx_n mem (.inr (3, [.null, .int 0, .long 0, .int 0, .null, .int 0, .int 0, .int 0, .long 0, .long 0, .long 0, .int 0])))) fun m33 =>
      Option.bind (f_Lo_init mem.1 (some (L.1 x)) v2 v3 v5 m33) fun q35 =>
      Option.bind (mx_gr q35 (some o) 0 2) fun x38 =>
      Option.bind (mx_gi q35 (some o) 0 4) fun x40 =>
      Option.bind (mx_cn q35 (some mem.1) 3) fun _ =>
      Option.bind (mx_as q35 x38 1 x40 (some mem.1)) fun m44 =>
      Option.bind (mx_c m44 (some o) 0) fun a48 =>
      Option.bind (f_LR_fileByLeaving a48 (some mem.1) m44) fun q45 =>
      Option.bind (mx_gi q45 (some o) 0 4) fun x50 =>
      Option.bind (mx_p q45 (some o) 0 4 (.int ((x50 + 1)))) fun m52 => K m52) = K M := by
  obtain ⟨g1, ⟨e2, g2, g2'⟩, ⟨e3, g3, g3'⟩, ⟨e4, g4, g4'⟩, g5, g6, g7, g8, g9, g10, g11⟩ := id c
  have fresh : ∀ {b : Nat} {e : mx_E}, mem.2 b = some e → b ≠ mem.1 ∧ b ≠ mem.1 + 1 := fun h => ⟨(fun q => by rw [q, wf mem.1 (Nat.le_refl _)] at h; cases h), (fun q => by rw [q, wf (mem.1 + 1) (Nat.le_succ _)] at h; cases h)⟩
  rw [bx_some, c_Dinit (mem := mx_n mem (.inr (3, [.null, .int 0, .long 0, .int 0, .null, .int 0, .int 0, .int 0, .long 0, .long 0, .long 0, .int 0]))) (va_up_self _ _ _) (by show mem.1 ≠ mem.1 + 1; omega), bx_some]
  have hz0 : (mx_n mem (.inr (3, [.null, .int 0, .long 0, .int 0, .null, .int 0, .int 0, .int 0, .long 0, .long 0, .long 0, .int 0]))).1 = mem.1 + 1 := rfl
  rw [hz0]
  generalize hX : va_up (va_up (mx_n mem (.inr (3, [.null, .int 0, .long 0, .int 0, .null, .int 0, .int 0, .int 0, .long 0, .long 0, .long 0, .int 0]))).2 (mem.1 + 1) (some (cl_qs (fun _ => none) 2 4))) mem.1 (some (.inr (3, [.ref (L.1 x), .int v2, .long v3, .int v5, .ref (mem.1 + 1), .int 0, .int (-1), .int (-1), .long 0, .long 0, .long 0, .int 0]))) = X
  have Xn : X mem.1 = some (.inr (3, [.ref (L.1 x), .int v2, .long v3, .int v5, .ref (mem.1 + 1), .int 0, .int (-1), .int (-1), .long 0, .long 0, .long 0, .int 0])) := by rw [← hX, va_up_self]
  have Xn1 : X (mem.1 + 1) = some (cl_qs (fun _ => none) 2 4) := by rw [← hX, va_up_ne _ _ (by omega), va_up_self]
  have Xk : ∀ b, b ≠ mem.1 → b ≠ mem.1 + 1 → X b = mem.2 b := fun b b1 b2 => by rw [← hX, va_up_ne _ _ b1, va_up_ne _ _ b2]; exact va_up_ne _ _ b1
  have Xo : ∀ {b : Nat} {e : mx_E}, mem.2 b = some e → X b = some e := fun h => by rw [Xk _ (fresh h).1 (fresh h).2]; exact h
  have r1 : mx_gr (mem.1 + 1 + 1, X) (some o) 0 2 = some (some (o + 2)) := by simp [mx_gr, mx_O_of (mem := (mem.1 + 1 + 1, X)) (Xo g1)]
  have r2 : mx_gi (mem.1 + 1 + 1, X) (some o) 0 4 = some (nI nd) := by simp [mx_gi, mx_O_of (mem := (mem.1 + 1 + 1, X)) (Xo g1)]
  have r3 : mx_cn (mem.1 + 1 + 1, X) (some mem.1) 3 = some () := by simp [mx_cn, mx_O_of (mem := (mem.1 + 1 + 1, X)) Xn]
  rw [r1, bx_some, r2, bx_some, r3, bx_some, cl_wr (mem := (mem.1 + 1 + 1, X)) (Xo g3) (by omega) (by decide), bx_some]
  dsimp only
  generalize hY : va_up X (o + 2) (some (cl_qs (va_up e3 nd (some mem.1)) 1 6)) = Y
  have Y2 : Y (o + 2) = some (cl_qs (va_up e3 nd (some mem.1)) 1 6) := by rw [← hY, va_up_self]
  have Yk : ∀ {b : Nat}, b ≠ o + 2 → Y b = X b := fun b1 => by rw [← hY, va_up_ne _ _ b1]
  have Yo : Y o = some (cl_ob o nl nd) := by rw [Yk (by omega)]; exact Xo g1
  have Y3 : Y (o + 3) = some (cl_qs e4 1 6) := by rw [Yk (by omega)]; exact Xo g4
  have Yn : Y mem.1 = some (.inr (3, [.ref (L.1 x), .int v2, .long v3, .int v5, .ref (mem.1 + 1), .int 0, .int (-1), .int (-1), .long 0, .long 0, .long 0, .int 0])) := by rw [Yk (fun q => (fresh g3).1 q.symm)]; exact Xn
  have Yself : va_up Y (o + 3) (some (cl_qs e4 1 6)) = Y := by
    funext b
    by_cases e : b = o + 3
    · subst e; rw [va_up_self, Y3]
    · rw [va_up_ne _ _ e]
  have r4 : mx_c (mem.1 + 1 + 1, Y) (some o) 0 = some o := by simp [mx_c, mx_O_of (mem := (mem.1 + 1 + 1, Y)) Yo]
  have r5 : mx_gi (mem.1 + 1 + 1, Y) (some o) 0 4 = some (nI nd) := by simp [mx_gi, mx_O_of (mem := (mem.1 + 1 + 1, Y)) Yo]
  obtain ⟨p, f3, hp, hfl, q1, q2, q3, q4⟩ := c_file (o := o) (nl := nl) (nd := nd) (fi := fi) (A := A) (B := B) (L := L) (od := od) (dp := dp) (g := Y) (z := mem.1 + 1 + 1) (n := mem.1) (x := x) hd O.1 (fun l l1 l2 => by obtain ⟨-, f1, f2, -⟩ := V.2.2.1 l l1 l2; exact ⟨f1, f2⟩) x1 x2 Yo Y3 (fun l l1 l2 => ⟨_, by rw [Yk (cl_ne (g6 l l1 l2) g3 (by simp [cl_tag, cl_qs]))]; exact Xo (g6 l l1 l2), rfl⟩) (fun i i1 i2 => by rw [Yk (cl_ne (g5 i i1 i2) g3 (by simp [cl_tag, cl_qs]))]; exact Xo (g5 i i1 i2)) Yn rfl nd 5000 e4 (by omega) (Nat.le_refl _) g4' (fun j j1 j2 => by omega)
  rw [Yself] at hfl
  rw [r4, bx_some]
  unfold f_LR_fileByLeaving
  rw [r5, bx_some, hfl, bx_some]
  have Zo : (va_up Y (o + 3) (some (cl_qs f3 1 6))) o = some (cl_ob o nl nd) := by rw [va_up_ne _ _ (by omega)]; exact Yo
  have r6 : mx_gi (mem.1 + 1 + 1, va_up Y (o + 3) (some (cl_qs f3 1 6))) (some o) 0 4 = some (nI nd) := by simp [mx_gi, mx_O_of (mem := (mem.1 + 1 + 1, va_up Y (o + 3) (some (cl_qs f3 1 6)))) Zo]
  have r7 : mx_p (mem.1 + 1 + 1, va_up Y (o + 3) (some (cl_qs f3 1 6))) (some o) 0 4 (.int (nI nd + 1)) = some (mem.1 + 1 + 1, va_up (va_up Y (o + 3) (some (cl_qs f3 1 6))) o (some (cl_ob o nl (nd + 1)))) := by
    rw [nI_1]
    simp [mx_p, mx_O_of (mem := (mem.1 + 1 + 1, va_up Y (o + 3) (some (cl_qs f3 1 6)))) Zo, cl_ob]
  rw [r6, bx_some, r7, bx_some]
  refine ⟨(mem.1 + 1 + 1, va_up (va_up Y (o + 3) (some (cl_qs f3 1 6))) o (some (cl_ob o nl (nd + 1)))), va_up e3 nd (some mem.1), f3, p, hp, fun j j1 j2 => (q3 j j1 j2).2, q4, rfl, va_up_self _ _ _, ?_, ?_, ?_, ?_, ?_, ?_, ?_, rfl⟩
  · dsimp only; rw [va_up_ne _ _ (by omega), va_up_ne _ _ (by omega)]; exact Y2
  · intro j hj
    by_cases e : j = nd
    · subst e; rw [va_up_self, va_up_self]
    · rw [va_up_ne _ _ e, va_up_ne _ _ (by omega)]; exact g3' j (by omega)
  · dsimp only; rw [va_up_ne _ _ (by omega), va_up_self]
  · intro j hj
    unfold od_in
    by_cases c1 : j < p
    · have := O.1 j (by omega)
      rw [if_pos c1, va_up_ne _ _ (by omega)]; exact q1 j c1
    · rw [if_neg c1]
      by_cases c2 : j = p
      · rw [if_pos c2, va_up_self, c2]; exact q2
      · have := O.1 (j - 1) (by omega)
        rw [if_neg c2, va_up_ne _ _ (by omega)]
        have := (q3 (j - 1) (by omega) (by omega)).1
        rw [show j - 1 + 1 = j by omega] at this
        exact this
  · dsimp only; rw [va_up_ne _ _ (fun q => (fresh g1).1 q.symm), va_up_ne _ _ (fun q => (fresh g4).1 q.symm)]; exact Yn
  · dsimp only; rw [va_up_ne _ _ (fun q => (fresh g1).2 q.symm), va_up_ne _ _ (fun q => (fresh g4).2 q.symm), Yk (fun q => (fresh g3).2 q.symm)]; exact Xn1
  · intro b b1 b2 b3 b4 b5
    dsimp only
    rw [va_up_ne _ _ b1, va_up_ne _ _ b3, Yk b2, Xk b b4 b5]
