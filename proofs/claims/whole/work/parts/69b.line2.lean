/-! line: class and reference -/
theorem cl_W.more {o a nl nd : Nat} {no : Nat → Nat} {L : cl_L} {n n' : Nat} (h : cl_W o a nl nd no L n) (hn : n ≤ n') : cl_W o a nl nd no L n' := by
  obtain ⟨h1, h2, h3, h4⟩ := h
  refine ⟨by omega, by omega, fun i i1 i2 => by have := h3 i i1 i2; omega, fun l l1 l2 => ?_⟩
  obtain ⟨q1, q2, q3⟩ := h4 l l1 l2
  exact ⟨by omega, by omega, fun q hq => by have := q3 q hq; omega⟩
/-- the class's steps that make a line -/
theorem c_mkline {o nl nd : Nat} {mem : mx_Mem} {f : Nat → Option Nat} (wf : mx_wf mem) (g1 : mem.2 o = some (cl_ob o nl nd)) (g2 : mem.2 (o + 1) = some (cl_qs f 0 12)) (hn : nl < 12) (v1 v2 : Int32) (v3 v5 : Int64) {ρ : Type} (K : mx_Mem → Option ρ) :
    (Option.bind (some (mx_n mem (.inr (1, [.int 0, .int 0, .int 0, .long 0, .long 0, .long 0, .long 0, .long 0])))) fun m30 =>
      Option.bind (mx_gi m30 (some o) 0 1) fun x32 =>
      Option.bind (f_Li_init mem.1 (x32 + 1) v1 v2 v3 v5 m30) fun q34 =>
      Option.bind (mx_cn q34 (some mem.1) 1) fun _ =>
      Option.bind (mx_as q34 (some (o + 1)) 0 (nI nl) (some mem.1)) fun m39 =>
      Option.bind (mx_gi m39 (some o) 0 1) fun x40 =>
      Option.bind (mx_p m39 (some o) 0 1 (.int ((x40 + 1)))) fun m42 => K m42) = K (mem.1 + 1, va_up (va_up (va_up mem.2 mem.1 (some (.inr (1, [.int (nI (nl + 1)), .int v1, .int v2, .long v3, .long v5, .long 0, .long 0, .long v3])))) (o + 1) (some (cl_qs (va_up f nl (some mem.1)) 0 12))) o (some (cl_ob o (nl + 1) nd))) := by
  have fresh : ∀ {b : Nat} {e : mx_E}, mem.2 b = some e → b ≠ mem.1 := fun h q => by rw [q, wf mem.1 (Nat.le_refl _)] at h; cases h
  have k1 : (mx_n mem (.inr (1, [.int 0, .int 0, .int 0, .long 0, .long 0, .long 0, .long 0, .long 0]))).2 o = some (cl_ob o nl nd) := by
    show va_up mem.2 mem.1 _ o = _
    rw [va_up_ne _ _ (fresh g1)]; exact g1
  have r1 : mx_gi (mx_n mem (.inr (1, [.int 0, .int 0, .int 0, .long 0, .long 0, .long 0, .long 0, .long 0]))) (some o) 0 1 = some (nI nl) := by simp [mx_gi, mx_O_of k1]
  rw [bx_some, r1, bx_some, c_Linit (va_up_self _ _ _), bx_some]
  have e2 : va_up (mx_n mem (.inr (1, [.int 0, .int 0, .int 0, .long 0, .long 0, .long 0, .long 0, .long 0]))).2 mem.1 (some (.inr (1, [.int (nI nl + 1), .int v1, .int v2, .long v3, .long v5, .long 0, .long 0, .long v3]))) = va_up mem.2 mem.1 (some (.inr (1, [.int (nI (nl + 1)), .int v1, .int v2, .long v3, .long v5, .long 0, .long 0, .long v3]))) := by
    rw [nI_1]
    exact bx_uu _ _ _ _
  rw [e2]
  have k2 : (va_up mem.2 mem.1 (some (.inr (1, [.int (nI (nl + 1)), .int v1, .int v2, .long v3, .long v5, .long 0, .long 0, .long v3])))) (o + 1) = some (cl_qs f 0 12) := by rw [va_up_ne _ _ (fresh g2)]; exact g2
  have c2 : mx_cn ((mx_n mem (.inr (1, [.int 0, .int 0, .int 0, .long 0, .long 0, .long 0, .long 0, .long 0]))).1, va_up mem.2 mem.1 (some (.inr (1, [.int (nI (nl + 1)), .int v1, .int v2, .long v3, .long v5, .long 0, .long 0, .long v3])))) (some mem.1) 1 = some () := by simp [mx_cn, mx_O, va_up_self]
  rw [c2, bx_some, cl_wr (mem := ((mx_n mem (.inr (1, [.int 0, .int 0, .int 0, .long 0, .long 0, .long 0, .long 0, .long 0]))).1, va_up mem.2 mem.1 (some (.inr (1, [.int (nI (nl + 1)), .int v1, .int v2, .long v3, .long v5, .long 0, .long 0, .long v3]))))) k2 (by omega) (by decide), bx_some]
  dsimp only
  have k3 : (va_up (va_up mem.2 mem.1 (some (.inr (1, [.int (nI (nl + 1)), .int v1, .int v2, .long v3, .long v5, .long 0, .long 0, .long v3])))) (o + 1) (some (cl_qs (va_up f nl (some mem.1)) 0 12))) o = some (cl_ob o nl nd) := by rw [va_up_ne _ _ (by omega), va_up_ne _ _ (fresh g1)]; exact g1
  have r3 : mx_gi ((mx_n mem (.inr (1, [.int 0, .int 0, .int 0, .long 0, .long 0, .long 0, .long 0, .long 0]))).1, va_up (va_up mem.2 mem.1 (some (.inr (1, [.int (nI (nl + 1)), .int v1, .int v2, .long v3, .long v5, .long 0, .long 0, .long v3])))) (o + 1) (some (cl_qs (va_up f nl (some mem.1)) 0 12))) (some o) 0 1 = some (nI nl) := by simp [mx_gi, mx_O, k3, cl_ob]
  rw [r3, bx_some]
  have r4 : mx_p ((mx_n mem (.inr (1, [.int 0, .int 0, .int 0, .long 0, .long 0, .long 0, .long 0, .long 0]))).1, va_up (va_up mem.2 mem.1 (some (.inr (1, [.int (nI (nl + 1)), .int v1, .int v2, .long v3, .long v5, .long 0, .long 0, .long v3])))) (o + 1) (some (cl_qs (va_up f nl (some mem.1)) 0 12))) (some o) 0 1 (.int (nI nl + 1)) = some (mem.1 + 1, va_up (va_up (va_up mem.2 mem.1 (some (.inr (1, [.int (nI (nl + 1)), .int v1, .int v2, .long v3, .long v5, .long 0, .long 0, .long v3])))) (o + 1) (some (cl_qs (va_up f nl (some mem.1)) 0 12))) o (some (cl_ob o (nl + 1) nd))) := by
    rw [nI_1]
    simp [mx_p, mx_O, k3, cl_ob, mx_n]
  rw [r4, bx_some]
set_option maxHeartbeats 2000000 in
theorem q_line {o a : Nat} {mem : mx_Mem} (h : iv o a mem) (v1 v2 : Int32) (v3 v5 : Int64) : iv_ok o a (f_LR_line o v1 v2 v3 v5) (f_Mo_line a v1 v2 v3 v5) mem := by
  obtain ⟨th, nl, nd, fi, no, ch, bl, A, B, L, od, dp, PI, PL, h⟩ := h
  have iv0 : mx_c mem (some a) 4 = some a := mo_c h.1
  obtain ⟨m1, e1, h1, -⟩ := iv_th h
  have iv1 : iv o a m1 := ⟨_, _, _, _, _, _, _, _, _, _, _, _, _, _, h1⟩
  obtain ⟨m, c, V, hB, hD, hZ, O, hp, S, W, wf⟩ := id h
  have hn := V.1
  by_cases w1 : v1.toInt64 < 0 ∨ 9 < v1.toInt64
  · refine ⟨-12, mem, m1, ?_, ?_, iv0, iv1⟩
    · unfold f_LR_line; rw [c_place, bx_some, w_0 w1]; rfl
    · unfold f_Mo_line; rw [e1, bx_some, m_in, bx_some, w_0 w1]; rfl
  · by_cases w2 : v2.toInt64 < 0 ∨ 9 < v2.toInt64
    · refine ⟨-12, mem, m1, ?_, ?_, iv0, iv1⟩
      · unfold f_LR_line; rw [c_place, bx_some, w_1 w1]; dsimp only; rw [if_neg (by decide), c_place, bx_some, w_0 w2]; rfl
      · unfold f_Mo_line; rw [e1, bx_some, m_in, bx_some, w_1 w1]; dsimp only; rw [if_neg (by decide), m_in, bx_some, w_0 w2]; rfl
    · by_cases w3 : v1 = v2
      · refine ⟨-12, mem, m1, ?_, ?_, iv0, iv1⟩
        · unfold f_LR_line; rw [c_place, bx_some, w_1 w1]; dsimp only; rw [if_neg (by decide), c_place, bx_some, w_1 w2]; dsimp only; rw [if_neg (by decide), if_pos w3]
        · unfold f_Mo_line; rw [e1, bx_some, m_in, bx_some, w_1 w1]; dsimp only; rw [if_neg (by decide), m_in, bx_some, w_1 w2]; dsimp only; rw [if_neg (by decide), if_pos w3]
      · by_cases w4 : v3 < 0 ∨ 10000 < v3
        · refine ⟨-12, mem, m1, ?_, ?_, iv0, iv1⟩
          · unfold f_LR_line; rw [c_place, bx_some, w_1 w1]; dsimp only; rw [if_neg (by decide), c_place, bx_some, w_1 w2]; dsimp only; rw [if_neg (by decide), if_neg w3, c_within, bx_some, w_0 w4]; rfl
          · unfold f_Mo_line; rw [e1, bx_some, m_in, bx_some, w_1 w1]; dsimp only; rw [if_neg (by decide), m_in, bx_some, w_1 w2]; dsimp only; rw [if_neg (by decide), if_neg w3, m_in, bx_some, w_0 w4]; rfl
        · by_cases w5 : v5 < 0 ∨ 10000 < v5
          · refine ⟨-12, mem, m1, ?_, ?_, iv0, iv1⟩
            · unfold f_LR_line; rw [c_place, bx_some, w_1 w1]; dsimp only; rw [if_neg (by decide), c_place, bx_some, w_1 w2]; dsimp only; rw [if_neg (by decide), if_neg w3, c_within, bx_some, w_1 w4]; dsimp only; rw [if_neg (by decide), c_within, bx_some, w_0 w5]; rfl
            · unfold f_Mo_line; rw [e1, bx_some, m_in, bx_some, w_1 w1]; dsimp only; rw [if_neg (by decide), m_in, bx_some, w_1 w2]; dsimp only; rw [if_neg (by decide), if_neg w3, m_in, bx_some, w_1 w4]; dsimp only; rw [if_neg (by decide), m_in, bx_some, w_0 w5]; rfl
          · have cpre : ∀ {ρ : Option (Int32 × mx_Mem)}, (if v3 < v5 then (Option.bind (mx_gi mem (some o) 0 1) fun x19 =>
                Option.bind (mx_gr mem (some o) 0 0) fun x21 =>
                Option.bind (mx_al mem x21 0) fun x23 =>
                if x19 < x23 then (Option.bind (mx_gr mem (some o) 0 0) fun x26 =>
                  Option.bind (mx_gi mem (some o) 0 1) fun x28 =>
                  Option.bind (some (mx_n mem (.inr (1, [.int 0, .int 0, .int 0, .long 0, .long 0, .long 0, .long 0, .long 0])))) fun m30 =>
                  Option.bind (mx_gi m30 (some o) 0 1) fun x32 =>
                  Option.bind (f_Li_init mem.1 (x32 + 1) v1 v2 v3 v5 m30) fun q34 =>
                  Option.bind (mx_cn q34 (some mem.1) 1) fun _ =>
                  Option.bind (mx_as q34 x26 0 x28 (some mem.1)) fun m39 =>
                  Option.bind (mx_gi m39 (some o) 0 1) fun x40 =>
                  Option.bind (mx_p m39 (some o) 0 1 (.int ((x40 + 1)))) fun m42 =>
                  Option.bind (mx_c m42 (some o) 0) fun a47 =>
                  Option.bind (f_LR_settle a47 m42) fun q44 =>
                  Option.bind (mx_gi q44 (some o) 0 1) fun x49 =>
                  some (x49, q44))
                else (some ((-14), mem)))
              else (some ((-12), mem))) = ρ → f_LR_line o v1 v2 v3 v5 mem = ρ := by
              intro ρ hρ
              unfold f_LR_line; rw [c_place, bx_some, w_1 w1]; dsimp only; rw [if_neg (by decide), c_place, bx_some, w_1 w2]; dsimp only; rw [if_neg (by decide), if_neg w3, c_within, bx_some, w_1 w4]; dsimp only; rw [if_neg (by decide), c_within, bx_some, w_1 w5]; dsimp only; rw [if_neg (by decide)]
              exact hρ
            by_cases w6 : v3 < v5
            · obtain ⟨fq, hfq, -⟩ := id c.2.1
              by_cases w7 : nl = 12
              · refine ⟨-14, mem, m1, ?_, ?_, iv0, iv1⟩
                · apply cpre
                  rw [if_pos w6, cl_i1 c, bx_some, cl_g0 c, bx_some, cl_ln hfq, bx_some, if_neg (by rw [nI_ltI (by omega) (by decide)]; omega)]
                · unfold f_Mo_line; rw [e1, bx_some, m_in, bx_some, w_1 w1]; dsimp only; rw [if_neg (by decide), m_in, bx_some, w_1 w2]; dsimp only; rw [if_neg (by decide), if_neg w3, m_in, bx_some, w_1 w4]; dsimp only; rw [if_neg (by decide), m_in, bx_some, w_1 w5]; dsimp only; rw [if_neg (by decide), if_pos w6, mo_i1 h1.1, bx_some, w7, if_pos (by rfl)]
              · obtain ⟨b1, b2⟩ := w_bd w4
                obtain ⟨b3, b4⟩ := w_bd w5
                have b5 := l_ltI.mp w6
                rw [show (10000 : Int64).toInt = 10000 from rfl] at b2 b4
                have hA : ∀ k, k ≠ 1 → k ≠ 2 → (va_up (va_up A 1 (upd (A 1) (nl + 1) v1)) 2 (upd ((va_up A 1 (upd (A 1) (nl + 1) v1)) 2) (nl + 1) v2)) k = A k := fun k k1 k2 => by rw [va_up_ne _ _ k2, va_up_ne _ _ k1]
                have hA1 : (va_up (va_up A 1 (upd (A 1) (nl + 1) v1)) 2 (upd ((va_up A 1 (upd (A 1) (nl + 1) v1)) 2) (nl + 1) v2)) 1 = upd (A 1) (nl + 1) v1 := by rw [va_up_ne _ _ (by decide), va_up_self]
                have hA2 : (va_up (va_up A 1 (upd (A 1) (nl + 1) v1)) 2 (upd ((va_up A 1 (upd (A 1) (nl + 1) v1)) 2) (nl + 1) v2)) 2 = upd (A 2) (nl + 1) v2 := by rw [va_up_self, va_up_ne _ _ (by decide)]
                have hb : ∀ k, k ≠ 3 → k ≠ 4 → (va_up (va_up B 3 (vp_updL (B 3) (nl + 1) v3)) 4 (vp_updL ((va_up B 3 (vp_updL (B 3) (nl + 1) v3)) 4) (nl + 1) v5)) k = B k := fun k k1 k2 => by rw [va_up_ne _ _ k2, va_up_ne _ _ k1]
                have hb3 : (va_up (va_up B 3 (vp_updL (B 3) (nl + 1) v3)) 4 (vp_updL ((va_up B 3 (vp_updL (B 3) (nl + 1) v3)) 4) (nl + 1) v5)) 3 = vp_updL (B 3) (nl + 1) v3 := by rw [va_up_ne _ _ (by decide), va_up_self]
                have hb4 : (va_up (va_up B 3 (vp_updL (B 3) (nl + 1) v3)) 4 (vp_updL ((va_up B 3 (vp_updL (B 3) (nl + 1) v3)) 4) (nl + 1) v5)) 4 = vp_updL (B 4) (nl + 1) v5 := by rw [va_up_self, va_up_ne _ _ (by decide)]
                generalize hAA : (va_up (va_up A 1 (upd (A 1) (nl + 1) v1)) 2 (upd ((va_up A 1 (upd (A 1) (nl + 1) v1)) 2) (nl + 1) v2)) = A2 at hA hA1 hA2
                generalize hBB : (va_up (va_up B 3 (vp_updL (B 3) (nl + 1) v3)) 4 (vp_updL ((va_up B 3 (vp_updL (B 3) (nl + 1) v3)) 4) (nl + 1) v5)) = B2 at hb hb3 hb4
                obtain ⟨f, M, hf, hM, R, F⟩ := cl_line (ch := ch) c V wf hZ (by omega) hA1 hA2 hA hb3 hb4 hb
                obtain ⟨V', hB', hD', hZ', O'⟩ := sg_line V hB hD hZ O (by omega) b1 b5 b4 hA hb3 hb4 hb
                obtain ⟨c2, dp', PI', PL', f2, R2, F2, z2, ⟨p6, p7, p10⟩, S2⟩ := c_settle R V' hB' O' hp
                have M2 := m.kept (F.tr F2)
                obtain ⟨d1, g1, D1, G1⟩ := mo_p0 M2 0
                obtain ⟨d2, g2, D2, G2⟩ := mo_p1 D1 (nI (nl + 1))
                obtain ⟨d3, g3, D3, G3⟩ := mo_w1 D2 v1 (j := nl + 1) (by omega)
                obtain ⟨d4, g4, D4, G4⟩ := mo_w2 D3 v2 (j := nl + 1) (by omega)
                obtain ⟨d5, g5, D5, G5⟩ := mo_w3 D4 v3 (j := nl + 1) (by omega)
                obtain ⟨d6, g6, D6, G6⟩ := mo_w4 D5 v5 (j := nl + 1) (by omega)
                rw [hAA, hBB] at D6
                have G := ((((G1.tr G2).tr G3).tr G4).tr G5).tr G6
                have zM : M.1 = mem.1 + 1 := by rw [hM]
                refine ⟨nI (nl + 1), c2, d6, ?_, ?_, mo_c M2, ?_⟩
                · apply cpre
                  rw [if_pos w6, cl_i1 c, bx_some, cl_g0 c, bx_some, cl_ln hf, bx_some, if_pos (by rw [nI_ltI (by omega) (by decide)]; omega), bx_some, bx_some]
                  rw [c_mkline wf c.1 hf (by omega) v1 v2 v3 v5 (fun m42 => Option.bind (mx_c m42 (some o) 0) fun a47 =>
                    Option.bind (f_LR_settle a47 m42) fun q44 =>
                    Option.bind (mx_gi q44 (some o) 0 1) fun x49 =>
                    some (x49, q44)), ← hM, cl_c R, bx_some, f2, bx_some, cl_i1 R2, bx_some]
                · unfold f_Mo_line; rw [g1, bx_some, m_in, bx_some, w_1 w1]; dsimp only; rw [if_neg (by decide), m_in, bx_some, w_1 w2]; dsimp only; rw [if_neg (by decide), if_neg w3, m_in, bx_some, w_1 w4]; dsimp only; rw [if_neg (by decide), m_in, bx_some, w_1 w5]; dsimp only
                  rw [if_neg (by decide), if_pos w6, mo_i1 D1, bx_some, if_neg (by rw [show (12 : Int32) = nI 12 from rfl, nI_eq (by omega) (by decide)]; exact w7), bx_some, nI_1, g2, bx_some, mo_g1 D2, bx_some, mo_i1 D2, bx_some, g3, bx_some, mo_g2 D3, bx_some, mo_i1 D3, bx_some, g4, bx_some, mo_g3 D4, bx_some, mo_i1 D4, bx_some, g5, bx_some, mo_g4 D5, bx_some, mo_i1 D5, bx_some, g6, bx_some, mo_i1 D6, bx_some]
                · refine ⟨0, nl + 1, nd, fi, no, ch, bl, A2, B2, (va_up L.1 (nl + 1) mem.1, L.2), od, dp', PI', PL', D6, ?_, V', hB', hD', hZ', O', fun l l1 l2 => by rw [p6]; exact hp l l1 l2, S2, ?_, ?_⟩
                  · exact cl_R.kept R2 M2 G
                  · rw [G.1, z2, zM]
                    obtain ⟨W1, W2, W3, W4⟩ := W.more (Nat.le_succ mem.1)
                    refine ⟨W1, W2, fun i i1 i2 => ?_, W4⟩
                    dsimp only
                    by_cases e : i = nl + 1
                    · subst e; rw [va_up_self]; omega
                    · rw [va_up_ne _ _ e]; exact W3 i i1 (by omega)
                  · exact mo_wf G (by rw [z2, zM]; have := W.2.1; omega) ((F.tr F2).2.2 wf)
            · refine ⟨-12, mem, m1, ?_, ?_, iv0, iv1⟩
              · apply cpre
                rw [if_neg w6]
              · unfold f_Mo_line; rw [e1, bx_some, m_in, bx_some, w_1 w1]; dsimp only; rw [if_neg (by decide), m_in, bx_some, w_1 w2]; dsimp only; rw [if_neg (by decide), if_neg w3, m_in, bx_some, w_1 w4]; dsimp only; rw [if_neg (by decide), m_in, bx_some, w_1 w5]; dsimp only; rw [if_neg (by decide), if_neg w6]
