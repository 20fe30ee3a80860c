/-! load: class and reference answer alike -/
set_option maxHeartbeats 2000000 in
theorem q_load {o a : Nat} {mem : mx_Mem} (h : iv o a mem) (v1 v2 : Int32) (v3 : Int64) (v5 : Int32) : iv_ok o a (f_LR_load o v1 v2 v3 v5) (f_Mo_load a v1 v2 v3 v5) mem := by
  obtain ⟨th, nl, nd, fi, no, ch, bl, A, B, L, od, dp, PI, PL, h⟩ := h
  have iv0 : mx_c mem (some a) 4 = some a := mo_c h.1
  obtain ⟨m1, e1, h1, -⟩ := iv_th h
  have iv1 : iv o a m1 := ⟨_, _, _, _, _, _, _, _, _, _, _, _, _, _, h1⟩
  obtain ⟨m, c, V, hB, hD, hZ, O, hp, S, W, wf⟩ := id h
  have hn := V.1
  have hd := V.2.1
  by_cases hv : v1 < 1 ∨ nI nl < v1
  · refine ⟨-11, mem, m1, ?_, ?_, iv0, iv1⟩
    · unfold f_LR_load; rw [cl_c c, bx_some, c_fLn c hv, bx_some]; rfl
    · unfold f_Mo_load; rw [e1, bx_some, mo_c h1.1, bx_some, m_isLine h1.1, bx_some, m_isN hv]; rfl
  · obtain ⟨x, x1, x2, rfl⟩ := ix_of (by omega) (fun q => hv (Or.inl q)) (fun q => hv (Or.inr q))
    by_cases w2 : v2.toInt64 < 0 ∨ 9 < v2.toInt64
    · refine ⟨-12, mem, m1, ?_, ?_, iv0, iv1⟩
      · unfold f_LR_load; rw [cl_c c, bx_some, c_fLs c hn x1 x2, bx_some]; dsimp only; rw [if_neg (by intro q; cases q), c_place, bx_some, w_0 w2]; rfl
      · unfold f_Mo_load; rw [e1, bx_some, mo_c h1.1, bx_some, m_isLine h1.1, bx_some, m_isS hv]; dsimp only; rw [if_neg (by decide), m_in, bx_some, w_0 w2]; rfl
    · by_cases w3 : v3 < 0 ∨ 20000 < v3
      · refine ⟨-12, mem, m1, ?_, ?_, iv0, iv1⟩
        · unfold f_LR_load; rw [cl_c c, bx_some, c_fLs c hn x1 x2, bx_some]; dsimp only; rw [if_neg (by intro q; cases q), c_place, bx_some, w_1 w2]; dsimp only; rw [if_neg (by decide), c_within, bx_some, w_0 w3]; rfl
        · unfold f_Mo_load; rw [e1, bx_some, mo_c h1.1, bx_some, m_isLine h1.1, bx_some, m_isS hv]; dsimp only; rw [if_neg (by decide), m_in, bx_some, w_1 w2]; dsimp only; rw [if_neg (by decide), m_in, bx_some, w_0 w3]; rfl
      · by_cases w5 : v5.toInt64 < 1 ∨ 100 < v5.toInt64
        · refine ⟨-12, mem, m1, ?_, ?_, iv0, iv1⟩
          · unfold f_LR_load; rw [cl_c c, bx_some, c_fLs c hn x1 x2, bx_some]; dsimp only; rw [if_neg (by intro q; cases q), c_place, bx_some, w_1 w2]; dsimp only; rw [if_neg (by decide), c_within, bx_some, w_1 w3]; dsimp only; rw [if_neg (by decide), c_within, bx_some, w2_0 w5]; rfl
          · unfold f_Mo_load; rw [e1, bx_some, mo_c h1.1, bx_some, m_isLine h1.1, bx_some, m_isS hv]; dsimp only; rw [if_neg (by decide), m_in, bx_some, w_1 w2]; dsimp only; rw [if_neg (by decide), m_in, bx_some, w_1 w3]; dsimp only; rw [if_neg (by decide), m_in, bx_some, w2_0 w5]; rfl
        · obtain ⟨f2, hf2, -⟩ := id c.2.2.1
          obtain ⟨f3, hf3, -⟩ := id c.2.2.2.1
          by_cases w7 : nd = 6
          · refine ⟨-14, mem, m1, ?_, ?_, iv0, iv1⟩
            · unfold f_LR_load; rw [cl_c c, bx_some, c_fLs c hn x1 x2, bx_some]; dsimp only; rw [if_neg (by intro q; cases q), c_place, bx_some, w_1 w2]; dsimp only; rw [if_neg (by decide), c_within, bx_some, w_1 w3]; dsimp only; rw [if_neg (by decide), c_within, bx_some, w2_1 w5]; dsimp only
              rw [if_neg (by decide), cl_i4 c, bx_some, cl_g2 c, bx_some, cl_ln hf2, bx_some, if_pos (by rw [nI_leI (by decide) (by omega)]; omega)]
            · unfold f_Mo_load; rw [e1, bx_some, mo_c h1.1, bx_some, m_isLine h1.1, bx_some, m_isS hv]; dsimp only; rw [if_neg (by decide), m_in, bx_some, w_1 w2]; dsimp only; rw [if_neg (by decide), m_in, bx_some, w_1 w3]; dsimp only; rw [if_neg (by decide), m_in, bx_some, w2_1 w5]; dsimp only
              rw [if_neg (by decide), mo_i9 h1.1, bx_some, w7, if_pos (by rfl)]
          · obtain ⟨b1, b2⟩ := w_bd w3
            rw [show (20000 : Int64).toInt = 20000 from rfl] at b2
            have b3 : 1 ≤ v5.toInt ∧ v5.toInt ≤ 100 := by
              have q1 : ¬ v5.toInt64 < 1 := fun q => w5 (Or.inl q)
              have q2 : ¬ 100 < v5.toInt64 := fun q => w5 (Or.inr q)
              rw [l_ltI, Int32.toInt_toInt64, show (1 : Int64).toInt = 1 from rfl] at q1
              rw [l_ltI, Int32.toInt_toInt64, show (100 : Int64).toInt = 100 from rfl] at q2
              omega
            have hA : ∀ k, k ≠ 8 → k ≠ 9 → k ≠ 11 → (va_up (va_up (va_up A 8 (upd (A 8) (nd + 1) (nI x))) 9 (upd ((va_up A 8 (upd (A 8) (nd + 1) (nI x))) 9) (nd + 1) v2)) 11 (upd ((va_up (va_up A 8 (upd (A 8) (nd + 1) (nI x))) 9 (upd ((va_up A 8 (upd (A 8) (nd + 1) (nI x))) 9) (nd + 1) v2)) 11) (nd + 1) v5)) k = A k := fun k k1 k2 k3 => by rw [va_up_ne _ _ k3, va_up_ne _ _ k2, va_up_ne _ _ k1]
            have hA8 : (va_up (va_up (va_up A 8 (upd (A 8) (nd + 1) (nI x))) 9 (upd ((va_up A 8 (upd (A 8) (nd + 1) (nI x))) 9) (nd + 1) v2)) 11 (upd ((va_up (va_up A 8 (upd (A 8) (nd + 1) (nI x))) 9 (upd ((va_up A 8 (upd (A 8) (nd + 1) (nI x))) 9) (nd + 1) v2)) 11) (nd + 1) v5)) 8 = upd (A 8) (nd + 1) (nI x) := by rw [va_up_ne _ _ (by decide), va_up_ne _ _ (by decide), va_up_self]
            have hA9 : (va_up (va_up (va_up A 8 (upd (A 8) (nd + 1) (nI x))) 9 (upd ((va_up A 8 (upd (A 8) (nd + 1) (nI x))) 9) (nd + 1) v2)) 11 (upd ((va_up (va_up A 8 (upd (A 8) (nd + 1) (nI x))) 9 (upd ((va_up A 8 (upd (A 8) (nd + 1) (nI x))) 9) (nd + 1) v2)) 11) (nd + 1) v5)) 9 = upd (A 9) (nd + 1) v2 := by rw [va_up_ne _ _ (by decide), va_up_self, va_up_ne _ _ (by decide)]
            have hA11 : (va_up (va_up (va_up A 8 (upd (A 8) (nd + 1) (nI x))) 9 (upd ((va_up A 8 (upd (A 8) (nd + 1) (nI x))) 9) (nd + 1) v2)) 11 (upd ((va_up (va_up A 8 (upd (A 8) (nd + 1) (nI x))) 9 (upd ((va_up A 8 (upd (A 8) (nd + 1) (nI x))) 9) (nd + 1) v2)) 11) (nd + 1) v5)) 11 = upd (A 11) (nd + 1) v5 := by rw [va_up_self, va_up_ne _ _ (by decide), va_up_ne _ _ (by decide)]
            have hb : ∀ k, k ≠ 10 → (va_up B 10 (vp_updL (B 10) (nd + 1) v3)) k = B k := fun k k1 => va_up_ne _ _ k1
            have hb10 : (va_up B 10 (vp_updL (B 10) (nd + 1) v3)) 10 = vp_updL (B 10) (nd + 1) v3 := va_up_self _ _ _
            generalize hAA : (va_up (va_up (va_up A 8 (upd (A 8) (nd + 1) (nI x))) 9 (upd ((va_up A 8 (upd (A 8) (nd + 1) (nI x))) 9) (nd + 1) v2)) 11 (upd ((va_up (va_up A 8 (upd (A 8) (nd + 1) (nI x))) 9 (upd ((va_up A 8 (upd (A 8) (nd + 1) (nI x))) 9) (nd + 1) v2)) 11) (nd + 1) v5)) = A2 at hA hA8 hA9 hA11
            generalize hBB : (va_up B 10 (vp_updL (B 10) (nd + 1) v3)) = B2 at hb hb10
            obtain ⟨V', hB', hD', hZ'⟩ := sg_load V hB hD hZ (by omega) x1 x2 b1 b2 b3.1 b3.2 hA8 hA11 hA hb10 hb
            obtain ⟨M, k2, k3, p, kp, kq1, kq2, kz, k_o, k_2, k_2', k_3, k_3', k_n, k_n1, k_k, kev⟩ := c_mkload c V O wf (by omega) x1 x2 v2 v3 v5 (fun m52 => Option.bind (mx_c m52 (some o) 0) fun a57 =>
                Option.bind (f_LR_settle a57 m52) fun q54 =>
                Option.bind (mx_gi q54 (some o) 0 4) fun x59 =>
                some (x59, q54))
            obtain ⟨R, F⟩ := cl_load (ch := ch) c V wf hA9 hA11 hA hb10 hb kz k_o k_2 k_2' k_3 k_3' k_n k_n1 k_k
            have O' : sg_O (nd + 1) (va_up fi (nd + 1) x) B2 (od_in od p (nd + 1)) := by
              have := sg_in O kp kq1 kq2
              unfold sg_O at this ⊢
              rw [hb 3 (by decide)]
              exact this
            have hp' : ∀ l, 1 ≤ l → l ≤ nd + 1 → ld_PI PI (nd + 1) 6 l = cl_pk (va_up no (nd + 1) 0) (va_up ch (nd + 1) 0) l := by
              intro l l1 l2
              unfold ld_PI cl_pk
              by_cases e : l = nd + 1
              · subst e; rw [if_pos rfl, va_up_self, if_pos rfl]; rfl
              · rw [if_neg e, va_up_ne _ _ e, va_up_ne _ _ e]; exact hp l l1 (by omega)
            obtain ⟨c2, dp', PI', PL', f2', R2, F2, z2, ⟨p6, p7, p10⟩, S2⟩ := c_settle R V' hB' O' hp'
            have M2 := m.kept (F.tr F2)
            obtain ⟨d1, g1, D1, G1⟩ := mo_p0 M2 0
            obtain ⟨d2, g2, D2, G2⟩ := mo_p9 D1 (nI (nd + 1))
            obtain ⟨d3, g3, D3, G3⟩ := mo_w8 D2 (nI x) (j := nd + 1) (by omega)
            obtain ⟨d4, g4, D4, G4⟩ := mo_w9 D3 v2 (j := nd + 1) (by omega)
            obtain ⟨d5, g5, D5, G5⟩ := mo_w10 D4 v3 (j := nd + 1) (by omega)
            obtain ⟨d6, g6, D6, G6⟩ := mo_w11 D5 v5 (j := nd + 1) (by omega)
            rw [hAA, hBB] at D6
            have G := ((((G1.tr G2).tr G3).tr G4).tr G5).tr G6
            refine ⟨nI (nd + 1), c2, d6, ?_, ?_, mo_c M2, ?_⟩
            · unfold f_LR_load; rw [cl_c c, bx_some, c_fLs c hn x1 x2, bx_some]; dsimp only; rw [if_neg (by intro q; cases q), c_place, bx_some, w_1 w2]; dsimp only; rw [if_neg (by decide), c_within, bx_some, w_1 w3]; dsimp only; rw [if_neg (by decide), c_within, bx_some, w2_1 w5]; dsimp only
              rw [if_neg (by decide), cl_i4 c, bx_some, cl_g2 c, bx_some, cl_ln hf2, bx_some, if_neg (by rw [nI_leI (by decide) (by omega)]; omega), bx_some, cl_g3 c, bx_some, cl_ln hf3, bx_some, if_pos (by rw [nI_ltI (by omega) (by decide)]; omega)]
              rw [kev, cl_c R, bx_some, f2', bx_some, cl_i4 R2, bx_some]
            · unfold f_Mo_load; rw [g1, bx_some, mo_c D1, bx_some, m_isLine D1, bx_some, m_isS hv]; dsimp only; rw [if_neg (by decide), m_in, bx_some, w_1 w2]; dsimp only; rw [if_neg (by decide), m_in, bx_some, w_1 w3]; dsimp only; rw [if_neg (by decide), m_in, bx_some, w2_1 w5]; dsimp only
              rw [if_neg (by decide), mo_i9 D1, bx_some, if_neg (by rw [show (6 : Int32) = nI 6 from rfl, nI_eq (by omega) (by decide)]; exact w7), bx_some, nI_1, g2, bx_some, mo_g8 D2, bx_some, mo_i9 D2, bx_some, g3, bx_some, mo_g9 D3, bx_some, mo_i9 D3, bx_some, g4, bx_some, mo_g10 D4, bx_some, mo_i9 D4, bx_some, g5, bx_some, mo_g11 D5, bx_some, mo_i9 D5, bx_some, g6, bx_some, mo_i9 D6, bx_some]
            · refine ⟨0, nl, nd + 1, _, _, _, bl, A2, B2, _, _, dp', PI', PL', D6, cl_R.kept R2 M2 G, V', hB', hD', hZ', O', fun l l1 l2 => by rw [p6]; exact hp' l l1 l2, S2, ?_, ?_⟩
              · rw [G.1, z2, kz]
                obtain ⟨W1, W2, W3, W4⟩ := W.more (show mem.1 ≤ mem.1 + 2 by omega)
                refine ⟨W1, W2, W3, fun l l1 l2 => ?_⟩
                dsimp only
                by_cases e : l = nd + 1
                · subst e
                  rw [va_up_self, va_up_self, va_up_self]
                  exact ⟨by omega, by omega, fun q hq => by omega⟩
                · rw [va_up_ne _ _ e, va_up_ne _ _ e, va_up_ne _ _ e]
                  exact W4 l l1 (by omega)
              · exact mo_wf G (by rw [z2, kz]; have := W.2.1; omega) ((F.tr F2).2.2 wf)
