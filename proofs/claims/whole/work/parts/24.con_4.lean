set_option maxHeartbeats 4000000 in
set_option maxRecDepth 100000 in
theorem wfl_LR_solve_2 {p : Program} {l : Launch} {e : Env} {R : Room} {s : State} {m : MethodId} {args : Array Value} {below : List Frame} {meth : Method} {c : Code} {G : mx_G} (q : Int64 × mx_Mem) (CX : gq_C p R s m args meth c G b_LR_solve 9 (some .long) R_LR 4 0 0 80) {k0 : Option Nat → mx_Mem → Option (Int64 × mx_Mem)} (hk0 : ∀ (v0 : Option Nat) (mem : mx_Mem), k0 v0 mem = some q → ∀ (H : Heap) (locs : List Loc) (ls : Array Slot), lv_has ls 9 [(0, va_rf v0)] → mx_M vwCl G mem H → va_S (mx_A G) s.heap H locs → W p l e R s m args below meth c H locs 0 0 (MQ below (gq_Q G (some (.long q.1)) q.2) args s 0 0 (mx_A G)) (F0 m 25 ls [])) : ∀ (n : Nat) (v0 : Option Nat) (v1 : Int32) (mem : mx_Mem), fl_LR_solve_2 k0 n v0 v1 mem = some q → ∀ (H : Heap) (locs : List Loc) (ls : Array Slot), lv_has ls 9 [(0, va_rf v0), (1, .int v1)] → mx_M vwCl G mem H → va_S (mx_A G) s.heap H locs → W p l e R s m args below meth c H locs 0 0 (MQ below (gq_Q G (some (.long q.1)) q.2) args s 0 0 (mx_A G)) (F0 m 2 ls []) := by
  obtain ⟨hx, hb, hml, hr, hown, hts, hlocks, hK, hN, hb0, hRf, hRc, hRs, hRl⟩ := id CX
  intro n
  induction n with
  | zero => intro v0 v1 mem h; rw [fl_LR_solve_2] at h; cases h
  | succ n ih =>
    intro v0 v1 mem h H locs ls hl hM hS
    rw [fl_LR_solve_2] at h
    refine lv_iload_n hx hb d_LR_solve_2 rfl (lv_at hl 1 rfl) ?_
    refine mx_aload_n hx hb d_LR_solve_3 rfl (lv_at hl 0 rfl) ?_
    obtain ⟨x1, e2, h⟩ := mx_b h
    refine mx_geti hx hb hts i_LR hown hK hM e2 (ci := 0) (C := R_LR) (T := T_LR) (N := 5) rfl 4 (by decide) (hts _ wd_9) d_LR_solve_4 ?_
    refine lv_icmp_ge (tgt := 25) hx hb d_LR_solve_7 (by decide) (fun c3 => ?_) (fun c3 => ?_)
    · rw [if_pos c3] at h
      exact hk0 _ _ h _ _ _ (lv_sub hl [0] rfl) hM hS
    · rw [if_neg c3] at h
      refine mx_aload_n hx hb d_LR_solve_10 rfl (lv_at hl 0 rfl) ?_
      obtain ⟨x4, e5, h⟩ := mx_b h
      refine mx_getr hx hb hts i_LR hown hK hM e5 (ci := 0) (C := R_LR) (T := T_LR) (N := 5) rfl 2 (by decide) (hts _ wd_6) d_LR_solve_11 ?_
      refine lv_iload_n hx hb d_LR_solve_14 rfl (lv_at hl 1 rfl) ?_
      obtain ⟨x6, e7, h⟩ := mx_b h
      refine mx_aald hx hb hK hM e7 rfl d_LR_solve_15 ?_
      obtain ⟨a11, e10, h⟩ := mx_b h
      obtain ⟨q8, e9, h⟩ := mx_b h
      have e12 := mx_c_eq e10
      refine W.eq (g2 := F0 m 16 ls [.ref a11]) (congrArg (fun z => F0 m 16 ls [va_rf z]) e12) ?_
      refine gq_go (va_runV (b := a11) (As := []) (rest := []) ⟨hx, hb, hml, hown, hts⟩ (c_Lo_pickFirst l G a11  _ _ e9) (cwV 0 hts (gq_gV wd_162 wd_163 wd_164 wd_42 wd_161) rfl rfl rfl (by decide +kernel) ⟨Nat.le_trans (Nat.le_of_ble_eq_true rfl) hRf, Nat.le_trans (Nat.le_of_ble_eq_true rfl) hRl⟩) (gq_preV hK hN hM hS hb0 e10 (C := R_Lo) (T := T_Lo) (N := 12) rfl) rfl rfl hl.1 rfl (lv_room (Nat.le_of_ble_eq_true rfl)) d_LR_solve_16 ⟨Nat.le_trans (Nat.le_of_ble_eq_true rfl) hRc, Nat.le_trans (Nat.le_of_ble_eq_true rfl) hRs⟩) hS (fun H locs hM hS => ?_)
      refine W.eq (g2 := F0 m 19 ls []) rfl ?_
      refine lv_iinc (v := (v1 + 1)) (lv' := [(1, .int ((v1 + 1))), (0, va_rf v0)]) hx hb d_LR_solve_19 hl (k := 1) rfl rfl (by decide) (by simp [mx_cat, mx_cati, mx_catl, mx_catr]) (fun ls hl => ?_)
      refine lv_goto (tgt := 2) hx hb d_LR_solve_22 (by decide) ?_
      exact ih _ _ _ h _ _ _ (lv_sub hl [1, 0] rfl) hM hS
set_option maxHeartbeats 4000000 in
set_option maxRecDepth 100000 in
theorem wfl_LR_solve_37 {p : Program} {l : Launch} {e : Env} {R : Room} {s : State} {m : MethodId} {args : Array Value} {below : List Frame} {meth : Method} {c : Code} {G : mx_G} (q : Int64 × mx_Mem) (CX : gq_C p R s m args meth c G b_LR_solve 9 (some .long) R_LR 4 0 0 80)  : ∀ (n : Nat) (v0 : Option Nat) (v1 : Int64) (v3 : Int32) (v4 : Int32) (v5 : Int32) (mem : mx_Mem), fl_LR_solve_37  n v0 v1 v3 v4 v5 mem = some q → ∀ (H : Heap) (locs : List Loc) (ls : Array Slot), lv_has ls 9 [(0, va_rf v0), (1, .long v1), (3, .int v3), (4, .int v4), (5, .int v5)] → mx_M vwCl G mem H → va_S (mx_A G) s.heap H locs → W p l e R s m args below meth c H locs 0 0 (MQ below (gq_Q G (some (.long q.1)) q.2) args s 0 0 (mx_A G)) (F0 m 37 ls []) := by
  obtain ⟨hx, hb, hml, hr, hown, hts, hlocks, hK, hN, hb0, hRf, hRc, hRs, hRl⟩ := id CX
  intro n
  induction n with
  | zero => intro v0 v1 v3 v4 v5 mem h; rw [fl_LR_solve_37] at h; cases h
  | succ n ih =>
    intro v0 v1 v3 v4 v5 mem h H locs ls hl hM hS
    rw [fl_LR_solve_37] at h
    refine lv_iload hx hb d_LR_solve_37 (lv_at hl 3 rfl) ?_
    refine lv_if_eq (tgt := 108) hx hb d_LR_solve_39 (by decide) (fun c1 => ?_) (fun c1 => ?_)
    · rw [if_pos c1] at h
      refine mx_aload_n hx hb d_LR_solve_108 rfl (lv_at hl 0 rfl) ?_
      obtain ⟨a5, e4, h⟩ := mx_b h
      obtain ⟨q2, e3, h⟩ := mx_b h
      have e6 := mx_c_eq e4
      refine W.eq (g2 := F0 m 109 ls [.ref a5]) (congrArg (fun z => F0 m 109 ls [va_rf z]) e6) ?_
      refine gq_go (va_runV (b := a5) (As := []) (rest := []) ⟨hx, hb, hml, hown, hts⟩ (c_LR_takeKeptChoice l G a5  _ _ e3) (cwV 0 hts (gq_gV wd_188 wd_189 wd_190 wd_14 wd_187) rfl rfl rfl (by decide +kernel) ⟨Nat.le_trans (Nat.le_of_ble_eq_true rfl) hRf, Nat.le_trans (Nat.le_of_ble_eq_true rfl) hRl⟩) (gq_preV hK hN hM hS hb0 e4 (C := R_LR) (T := T_LR) (N := 5) rfl) rfl rfl hl.1 rfl (lv_room (Nat.le_of_ble_eq_true rfl)) d_LR_solve_109 ⟨Nat.le_trans (Nat.le_of_ble_eq_true rfl) hRc, Nat.le_trans (Nat.le_of_ble_eq_true rfl) hRs⟩) hS (fun H locs hM hS => ?_)
      refine W.eq (g2 := F0 m 112 ls []) rfl ?_
      refine mx_aload_n hx hb d_LR_solve_112 rfl (lv_at hl 0 rfl) ?_
      obtain ⟨a10, e9, h⟩ := mx_b h
      obtain ⟨q7, e8, h⟩ := mx_b h
      have e11 := mx_c_eq e9
      refine W.eq (g2 := F0 m 113 ls [.ref a10]) (congrArg (fun z => F0 m 113 ls [va_rf z]) e11) ?_
      refine gq_go (va_runV (b := a10) (As := []) (rest := []) ⟨hx, hb, hml, hown, hts⟩ (c_LR_settle l G a10  _ _ e8) (cwV 0 hts (gq_gV wd_82 wd_83 wd_84 wd_14 wd_81) rfl rfl rfl (by decide +kernel) ⟨Nat.le_trans (Nat.le_of_ble_eq_true rfl) hRf, Nat.le_trans (Nat.le_of_ble_eq_true rfl) hRl⟩) (gq_preV hK hN hM hS hb0 e9 (C := R_LR) (T := T_LR) (N := 5) rfl) rfl rfl hl.1 rfl (lv_room (Nat.le_of_ble_eq_true rfl)) d_LR_solve_113 ⟨Nat.le_trans (Nat.le_of_ble_eq_true rfl) hRc, Nat.le_trans (Nat.le_of_ble_eq_true rfl) hRs⟩) hS (fun H locs hM hS => ?_)
      refine W.eq (g2 := F0 m 116 ls []) rfl ?_
      refine lv_lload_n hx hb d_LR_solve_116 rfl (lv_at hl 1 rfl) ?_
      cases h
      exact W.lret hx hb hr (fun t ht hW => ⟨⟨rfl, by rw [ht]; exact hM⟩, hS.F ht⟩) hS.2.2 d_LR_solve_117
    · rw [if_neg c1] at h
      refine lv_iload hx hb d_LR_solve_42 (lv_at hl 4 rfl) ?_
      refine lv_sipush (v := 4096) hx hb d_LR_solve_44 (by decide) ?_
      refine lv_icmp_ge (tgt := 108) hx hb d_LR_solve_47 (by decide) (fun c2 => ?_) (fun c2 => ?_)
      · rw [if_pos c2] at h
        refine mx_aload_n hx hb d_LR_solve_108 rfl (lv_at hl 0 rfl) ?_
        obtain ⟨a6, e5, h⟩ := mx_b h
        obtain ⟨q3, e4, h⟩ := mx_b h
        have e7 := mx_c_eq e5
        refine W.eq (g2 := F0 m 109 ls [.ref a6]) (congrArg (fun z => F0 m 109 ls [va_rf z]) e7) ?_
        refine gq_go (va_runV (b := a6) (As := []) (rest := []) ⟨hx, hb, hml, hown, hts⟩ (c_LR_takeKeptChoice l G a6  _ _ e4) (cwV 0 hts (gq_gV wd_188 wd_189 wd_190 wd_14 wd_187) rfl rfl rfl (by decide +kernel) ⟨Nat.le_trans (Nat.le_of_ble_eq_true rfl) hRf, Nat.le_trans (Nat.le_of_ble_eq_true rfl) hRl⟩) (gq_preV hK hN hM hS hb0 e5 (C := R_LR) (T := T_LR) (N := 5) rfl) rfl rfl hl.1 rfl (lv_room (Nat.le_of_ble_eq_true rfl)) d_LR_solve_109 ⟨Nat.le_trans (Nat.le_of_ble_eq_true rfl) hRc, Nat.le_trans (Nat.le_of_ble_eq_true rfl) hRs⟩) hS (fun H locs hM hS => ?_)
        refine W.eq (g2 := F0 m 112 ls []) rfl ?_
        refine mx_aload_n hx hb d_LR_solve_112 rfl (lv_at hl 0 rfl) ?_
        obtain ⟨a11, e10, h⟩ := mx_b h
        obtain ⟨q8, e9, h⟩ := mx_b h
        have e12 := mx_c_eq e10
        refine W.eq (g2 := F0 m 113 ls [.ref a11]) (congrArg (fun z => F0 m 113 ls [va_rf z]) e12) ?_
        refine gq_go (va_runV (b := a11) (As := []) (rest := []) ⟨hx, hb, hml, hown, hts⟩ (c_LR_settle l G a11  _ _ e9) (cwV 0 hts (gq_gV wd_82 wd_83 wd_84 wd_14 wd_81) rfl rfl rfl (by decide +kernel) ⟨Nat.le_trans (Nat.le_of_ble_eq_true rfl) hRf, Nat.le_trans (Nat.le_of_ble_eq_true rfl) hRl⟩) (gq_preV hK hN hM hS hb0 e10 (C := R_LR) (T := T_LR) (N := 5) rfl) rfl rfl hl.1 rfl (lv_room (Nat.le_of_ble_eq_true rfl)) d_LR_solve_113 ⟨Nat.le_trans (Nat.le_of_ble_eq_true rfl) hRc, Nat.le_trans (Nat.le_of_ble_eq_true rfl) hRs⟩) hS (fun H locs hM hS => ?_)
        refine W.eq (g2 := F0 m 116 ls []) rfl ?_
        refine lv_lload_n hx hb d_LR_solve_116 rfl (lv_at hl 1 rfl) ?_
        cases h
        exact W.lret hx hb hr (fun t ht hW => ⟨⟨rfl, by rw [ht]; exact hM⟩, hS.F ht⟩) hS.2.2 d_LR_solve_117
      · rw [if_neg c2] at h
        refine mx_aload_n hx hb d_LR_solve_50 rfl (lv_at hl 0 rfl) ?_
        obtain ⟨a6, e5, h⟩ := mx_b h
        obtain ⟨q3, e4, h⟩ := mx_b h
        have e7 := mx_c_eq e5
        refine W.eq (g2 := F0 m 51 ls [.ref a6]) (congrArg (fun z => F0 m 51 ls [va_rf z]) e7) ?_
        refine gq_go (va_runV (b := a6) (As := []) (rest := []) ⟨hx, hb, hml, hown, hts⟩ (c_LR_settle l G a6  _ _ e4) (cwV 0 hts (gq_gV wd_82 wd_83 wd_84 wd_14 wd_81) rfl rfl rfl (by decide +kernel) ⟨Nat.le_trans (Nat.le_of_ble_eq_true rfl) hRf, Nat.le_trans (Nat.le_of_ble_eq_true rfl) hRl⟩) (gq_preV hK hN hM hS hb0 e5 (C := R_LR) (T := T_LR) (N := 5) rfl) rfl rfl hl.1 rfl (lv_room (Nat.le_of_ble_eq_true rfl)) d_LR_solve_51 ⟨Nat.le_trans (Nat.le_of_ble_eq_true rfl) hRc, Nat.le_trans (Nat.le_of_ble_eq_true rfl) hRs⟩) hS (fun H locs hM hS => ?_)
        refine W.eq (g2 := F0 m 54 ls []) rfl ?_
        refine mx_aload_n hx hb d_LR_solve_54 rfl (lv_at hl 0 rfl) ?_
        obtain ⟨a11, e10, h⟩ := mx_b h
        obtain ⟨q8, e9, h⟩ := mx_b h
        have e12 := mx_c_eq e10
        refine W.eq (g2 := F0 m 55 ls [.ref a11]) (congrArg (fun z => F0 m 55 ls [va_rf z]) e12) ?_
        refine gq_go (va_runV (b := a11) (As := []) (rest := []) ⟨hx, hb, hml, hown, hts⟩ (c_LR_sumHarm l G a11  _ _ e9) (cwV 0 hts (gq_gV wd_192 wd_193 wd_194 wd_14 wd_191) rfl rfl rfl (by decide +kernel) ⟨Nat.le_trans (Nat.le_of_ble_eq_true rfl) hRf, Nat.le_trans (Nat.le_of_ble_eq_true rfl) hRl⟩) (gq_preV hK hN hM hS hb0 e10 (C := R_LR) (T := T_LR) (N := 5) rfl) rfl rfl hl.1 rfl (lv_room (Nat.le_of_ble_eq_true rfl)) d_LR_solve_55 ⟨Nat.le_trans (Nat.le_of_ble_eq_true rfl) hRc, Nat.le_trans (Nat.le_of_ble_eq_true rfl) hRs⟩) hS (fun H locs hM hS => ?_)
        refine W.eq (g2 := F0 m 58 ls [.long q8.1]) rfl ?_
        refine lv_lstore (lv' := [(6, .long q8.1), (0, va_rf v0), (1, .long v1), (3, .int v3), (4, .int v4), (5, .int v5)]) hx hb d_LR_solve_58 hl (by decide) rfl (fun ls hl => ?_)
        refine mx_aload_n hx hb d_LR_solve_60 rfl (lv_at hl 1 rfl) ?_
        obtain ⟨a16, e15, h⟩ := mx_b h
        obtain ⟨q13, e14, h⟩ := mx_b h
        have e17 := mx_c_eq e15
        refine W.eq (g2 := F0 m 61 ls [.ref a16]) (congrArg (fun z => F0 m 61 ls [va_rf z]) e17) ?_
        refine gq_go (va_runV (b := a16) (As := []) (rest := []) ⟨hx, hb, hml, hown, hts⟩ (c_LR_countActs l G a16  _ _ e14) (cwV 0 hts (gq_gV wd_196 wd_197 wd_198 wd_14 wd_195) rfl rfl rfl (by decide +kernel) ⟨Nat.le_trans (Nat.le_of_ble_eq_true rfl) hRf, Nat.le_trans (Nat.le_of_ble_eq_true rfl) hRl⟩) (gq_preV hK hN hM hS hb0 e15 (C := R_LR) (T := T_LR) (N := 5) rfl) rfl rfl hl.1 rfl (lv_room (Nat.le_of_ble_eq_true rfl)) d_LR_solve_61 ⟨Nat.le_trans (Nat.le_of_ble_eq_true rfl) hRc, Nat.le_trans (Nat.le_of_ble_eq_true rfl) hRs⟩) hS (fun H locs hM hS => ?_)
        refine W.eq (g2 := F0 m 64 ls [.int q13.1]) rfl ?_
        refine lv_istore (lv' := [(8, .int q13.1), (6, .long q8.1), (0, va_rf v0), (1, .long v1), (3, .int v3), (4, .int v4), (5, .int v5)]) hx hb d_LR_solve_64 hl (by decide) rfl (fun ls hl => ?_)
        refine lv_lload hx hb d_LR_solve_66 (lv_at hl 1 rfl) ?_
        refine lv_lload_n hx hb d_LR_solve_68 rfl (lv_at hl 3 rfl) ?_
        refine mx_lcmp_lt (tgt := 86) hx hb d_LR_solve_69 d_LR_solve_70 (by decide) (fun c18 => ?_) (fun c18 => ?_)
        · rw [if_pos c18] at h
          refine lv_lload hx hb d_LR_solve_86 (lv_at hl 1 rfl) ?_
          refine lv_lstore_n (lv' := [(1, .long q8.1), (8, .int q13.1), (6, .long q8.1), (0, va_rf v0), (3, .int v3), (4, .int v4), (5, .int v5)]) hx hb d_LR_solve_88 rfl hl (by decide) (by simp [mx_cat, mx_cati, mx_catl, mx_catr]) (fun ls hl => ?_)
          refine lv_iload hx hb d_LR_solve_89 (lv_at hl 1 rfl) ?_
          refine lv_istore_n (lv' := [(3, .int q13.1), (1, .long q8.1), (8, .int q13.1), (6, .long q8.1), (0, va_rf v0), (4, .int v4), (5, .int v5)]) hx hb d_LR_solve_91 rfl hl (by decide) rfl (fun ls hl => ?_)
          refine mx_aload_n hx hb d_LR_solve_92 rfl (lv_at hl 4 rfl) ?_
          obtain ⟨a22, e21, h⟩ := mx_b h
          obtain ⟨q19, e20, h⟩ := mx_b h
          have e23 := mx_c_eq e21
          refine W.eq (g2 := F0 m 93 ls [.ref a22]) (congrArg (fun z => F0 m 93 ls [va_rf z]) e23) ?_
          refine gq_go (va_runV (b := a22) (As := []) (rest := []) ⟨hx, hb, hml, hown, hts⟩ (c_LR_keepChoice l G a22  _ _ e20) (cwV 0 hts (gq_gV wd_200 wd_201 wd_202 wd_14 wd_199) rfl rfl rfl (by decide +kernel) ⟨Nat.le_trans (Nat.le_of_ble_eq_true rfl) hRf, Nat.le_trans (Nat.le_of_ble_eq_true rfl) hRl⟩) (gq_preV hK hN hM hS hb0 e21 (C := R_LR) (T := T_LR) (N := 5) rfl) rfl rfl hl.1 rfl (lv_room (Nat.le_of_ble_eq_true rfl)) d_LR_solve_93 ⟨Nat.le_trans (Nat.le_of_ble_eq_true rfl) hRc, Nat.le_trans (Nat.le_of_ble_eq_true rfl) hRs⟩) hS (fun H locs hM hS => ?_)
          refine W.eq (g2 := F0 m 96 ls []) rfl ?_
          refine mx_aload_n hx hb d_LR_solve_96 rfl (lv_at hl 4 rfl) ?_
          obtain ⟨a27, e26, h⟩ := mx_b h
          obtain ⟨q24, e25, h⟩ := mx_b h
          have e28 := mx_c_eq e26
          refine W.eq (g2 := F0 m 97 ls [.ref a27]) (congrArg (fun z => F0 m 97 ls [va_rf z]) e28) ?_
          refine gq_go (va_runV (b := a27) (As := []) (rest := []) ⟨hx, hb, hml, hown, hts⟩ (c_LR_pickNextChoice l G a27  _ _ e25) (cwV 0 hts (gq_gV wd_204 wd_205 wd_206 wd_14 wd_203) rfl rfl rfl (by decide +kernel) ⟨Nat.le_trans (Nat.le_of_ble_eq_true rfl) hRf, Nat.le_trans (Nat.le_of_ble_eq_true rfl) hRl⟩) (gq_preV hK hN hM hS hb0 e26 (C := R_LR) (T := T_LR) (N := 5) rfl) rfl rfl hl.1 rfl (lv_room (Nat.le_of_ble_eq_true rfl)) d_LR_solve_97 ⟨Nat.le_trans (Nat.le_of_ble_eq_true rfl) hRc, Nat.le_trans (Nat.le_of_ble_eq_true rfl) hRs⟩) hS (fun H locs hM hS => ?_)
          refine W.eq (g2 := F0 m 100 ls [.int q24.1]) rfl ?_
          refine lv_istore (lv' := [(4, .int q24.1), (3, .int q13.1), (1, .long q8.1), (8, .int q13.1), (6, .long q8.1), (0, va_rf v0), (5, .int v5)]) hx hb d_LR_solve_100 hl (by decide) rfl (fun ls hl => ?_)
          refine lv_iinc (v := (v5 + 1)) (lv' := [(5, .int ((v5 + 1))), (4, .int q24.1), (3, .int q13.1), (1, .long q8.1), (8, .int q13.1), (6, .long q8.1), (0, va_rf v0)]) hx hb d_LR_solve_102 hl (k := 6) rfl rfl (by decide) rfl (fun ls hl => ?_)
          refine lv_goto (tgt := 37) hx hb d_LR_solve_105 (by decide) ?_
          exact ih _ _ _ _ _ _ h _ _ _ (lv_sub hl [6, 3, 2, 1, 0] rfl) hM hS
        · rw [if_neg c18] at h
          refine lv_lload hx hb d_LR_solve_73 (lv_at hl 1 rfl) ?_
          refine lv_lload_n hx hb d_LR_solve_75 rfl (lv_at hl 3 rfl) ?_
          refine mx_lcmp_ne (tgt := 96) hx hb d_LR_solve_76 d_LR_solve_77 (by decide) (fun c19 => ?_) (fun c19 => ?_)
          · rw [if_neg c19] at h
            refine mx_aload_n hx hb d_LR_solve_96 rfl (lv_at hl 2 rfl) ?_
            obtain ⟨a23, e22, h⟩ := mx_b h
            obtain ⟨q20, e21, h⟩ := mx_b h
            have e24 := mx_c_eq e22
            refine W.eq (g2 := F0 m 97 ls [.ref a23]) (congrArg (fun z => F0 m 97 ls [va_rf z]) e24) ?_
            refine gq_go (va_runV (b := a23) (As := []) (rest := []) ⟨hx, hb, hml, hown, hts⟩ (c_LR_pickNextChoice l G a23  _ _ e21) (cwV 0 hts (gq_gV wd_204 wd_205 wd_206 wd_14 wd_203) rfl rfl rfl (by decide +kernel) ⟨Nat.le_trans (Nat.le_of_ble_eq_true rfl) hRf, Nat.le_trans (Nat.le_of_ble_eq_true rfl) hRl⟩) (gq_preV hK hN hM hS hb0 e22 (C := R_LR) (T := T_LR) (N := 5) rfl) rfl rfl hl.1 rfl (lv_room (Nat.le_of_ble_eq_true rfl)) d_LR_solve_97 ⟨Nat.le_trans (Nat.le_of_ble_eq_true rfl) hRc, Nat.le_trans (Nat.le_of_ble_eq_true rfl) hRs⟩) hS (fun H locs hM hS => ?_)
            refine W.eq (g2 := F0 m 100 ls [.int q20.1]) rfl ?_
            refine lv_istore (lv' := [(4, .int q20.1), (8, .int q13.1), (6, .long q8.1), (0, va_rf v0), (1, .long v1), (3, .int v3), (5, .int v5)]) hx hb d_LR_solve_100 hl (by decide) rfl (fun ls hl => ?_)
            refine lv_iinc (v := (v5 + 1)) (lv' := [(5, .int ((v5 + 1))), (4, .int q20.1), (8, .int q13.1), (6, .long q8.1), (0, va_rf v0), (1, .long v1), (3, .int v3)]) hx hb d_LR_solve_102 hl (k := 6) rfl rfl (by decide) rfl (fun ls hl => ?_)
            refine lv_goto (tgt := 37) hx hb d_LR_solve_105 (by decide) ?_
            exact ih _ _ _ _ _ _ h _ _ _ (lv_sub hl [4, 5, 6, 1, 0] rfl) hM hS
          · rw [if_pos c19] at h
            refine lv_iload hx hb d_LR_solve_80 (lv_at hl 0 rfl) ?_
            refine lv_iload_n hx hb d_LR_solve_82 rfl (lv_at hl 4 rfl) ?_
            refine lv_icmp_ge (tgt := 96) hx hb d_LR_solve_83 (by decide) (fun c20 => ?_) (fun c20 => ?_)
            · rw [if_pos c20] at h
              refine mx_aload_n hx hb d_LR_solve_96 rfl (lv_at hl 2 rfl) ?_
              obtain ⟨a24, e23, h⟩ := mx_b h
              obtain ⟨q21, e22, h⟩ := mx_b h
              have e25 := mx_c_eq e23
              refine W.eq (g2 := F0 m 97 ls [.ref a24]) (congrArg (fun z => F0 m 97 ls [va_rf z]) e25) ?_
              refine gq_go (va_runV (b := a24) (As := []) (rest := []) ⟨hx, hb, hml, hown, hts⟩ (c_LR_pickNextChoice l G a24  _ _ e22) (cwV 0 hts (gq_gV wd_204 wd_205 wd_206 wd_14 wd_203) rfl rfl rfl (by decide +kernel) ⟨Nat.le_trans (Nat.le_of_ble_eq_true rfl) hRf, Nat.le_trans (Nat.le_of_ble_eq_true rfl) hRl⟩) (gq_preV hK hN hM hS hb0 e23 (C := R_LR) (T := T_LR) (N := 5) rfl) rfl rfl hl.1 rfl (lv_room (Nat.le_of_ble_eq_true rfl)) d_LR_solve_97 ⟨Nat.le_trans (Nat.le_of_ble_eq_true rfl) hRc, Nat.le_trans (Nat.le_of_ble_eq_true rfl) hRs⟩) hS (fun H locs hM hS => ?_)
              refine W.eq (g2 := F0 m 100 ls [.int q21.1]) rfl ?_
              refine lv_istore (lv' := [(4, .int q21.1), (8, .int q13.1), (6, .long q8.1), (0, va_rf v0), (1, .long v1), (3, .int v3), (5, .int v5)]) hx hb d_LR_solve_100 hl (by decide) rfl (fun ls hl => ?_)
              refine lv_iinc (v := (v5 + 1)) (lv' := [(5, .int ((v5 + 1))), (4, .int q21.1), (8, .int q13.1), (6, .long q8.1), (0, va_rf v0), (1, .long v1), (3, .int v3)]) hx hb d_LR_solve_102 hl (k := 6) rfl rfl (by decide) rfl (fun ls hl => ?_)
              refine lv_goto (tgt := 37) hx hb d_LR_solve_105 (by decide) ?_
              exact ih _ _ _ _ _ _ h _ _ _ (lv_sub hl [4, 5, 6, 1, 0] rfl) hM hS
            · rw [if_neg c20] at h
              refine lv_lload hx hb d_LR_solve_86 (lv_at hl 1 rfl) ?_
              refine lv_lstore_n (lv' := [(1, .long q8.1), (8, .int q13.1), (6, .long q8.1), (0, va_rf v0), (3, .int v3), (4, .int v4), (5, .int v5)]) hx hb d_LR_solve_88 rfl hl (by decide) (by simp [mx_cat, mx_cati, mx_catl, mx_catr]) (fun ls hl => ?_)
              refine lv_iload hx hb d_LR_solve_89 (lv_at hl 1 rfl) ?_
              refine lv_istore_n (lv' := [(3, .int q13.1), (1, .long q8.1), (8, .int q13.1), (6, .long q8.1), (0, va_rf v0), (4, .int v4), (5, .int v5)]) hx hb d_LR_solve_91 rfl hl (by decide) rfl (fun ls hl => ?_)
              refine mx_aload_n hx hb d_LR_solve_92 rfl (lv_at hl 4 rfl) ?_
              obtain ⟨a24, e23, h⟩ := mx_b h
              obtain ⟨q21, e22, h⟩ := mx_b h
              have e25 := mx_c_eq e23
              refine W.eq (g2 := F0 m 93 ls [.ref a24]) (congrArg (fun z => F0 m 93 ls [va_rf z]) e25) ?_
              refine gq_go (va_runV (b := a24) (As := []) (rest := []) ⟨hx, hb, hml, hown, hts⟩ (c_LR_keepChoice l G a24  _ _ e22) (cwV 0 hts (gq_gV wd_200 wd_201 wd_202 wd_14 wd_199) rfl rfl rfl (by decide +kernel) ⟨Nat.le_trans (Nat.le_of_ble_eq_true rfl) hRf, Nat.le_trans (Nat.le_of_ble_eq_true rfl) hRl⟩) (gq_preV hK hN hM hS hb0 e23 (C := R_LR) (T := T_LR) (N := 5) rfl) rfl rfl hl.1 rfl (lv_room (Nat.le_of_ble_eq_true rfl)) d_LR_solve_93 ⟨Nat.le_trans (Nat.le_of_ble_eq_true rfl) hRc, Nat.le_trans (Nat.le_of_ble_eq_true rfl) hRs⟩) hS (fun H locs hM hS => ?_)
              refine W.eq (g2 := F0 m 96 ls []) rfl ?_
              refine mx_aload_n hx hb d_LR_solve_96 rfl (lv_at hl 4 rfl) ?_
              obtain ⟨a29, e28, h⟩ := mx_b h
              obtain ⟨q26, e27, h⟩ := mx_b h
              have e30 := mx_c_eq e28
              refine W.eq (g2 := F0 m 97 ls [.ref a29]) (congrArg (fun z => F0 m 97 ls [va_rf z]) e30) ?_
              refine gq_go (va_runV (b := a29) (As := []) (rest := []) ⟨hx, hb, hml, hown, hts⟩ (c_LR_pickNextChoice l G a29  _ _ e27) (cwV 0 hts (gq_gV wd_204 wd_205 wd_206 wd_14 wd_203) rfl rfl rfl (by decide +kernel) ⟨Nat.le_trans (Nat.le_of_ble_eq_true rfl) hRf, Nat.le_trans (Nat.le_of_ble_eq_true rfl) hRl⟩) (gq_preV hK hN hM hS hb0 e28 (C := R_LR) (T := T_LR) (N := 5) rfl) rfl rfl hl.1 rfl (lv_room (Nat.le_of_ble_eq_true rfl)) d_LR_solve_97 ⟨Nat.le_trans (Nat.le_of_ble_eq_true rfl) hRc, Nat.le_trans (Nat.le_of_ble_eq_true rfl) hRs⟩) hS (fun H locs hM hS => ?_)
              refine W.eq (g2 := F0 m 100 ls [.int q26.1]) rfl ?_
              refine lv_istore (lv' := [(4, .int q26.1), (3, .int q13.1), (1, .long q8.1), (8, .int q13.1), (6, .long q8.1), (0, va_rf v0), (5, .int v5)]) hx hb d_LR_solve_100 hl (by decide) rfl (fun ls hl => ?_)
              refine lv_iinc (v := (v5 + 1)) (lv' := [(5, .int ((v5 + 1))), (4, .int q26.1), (3, .int q13.1), (1, .long q8.1), (8, .int q13.1), (6, .long q8.1), (0, va_rf v0)]) hx hb d_LR_solve_102 hl (k := 6) rfl rfl (by decide) rfl (fun ls hl => ?_)
              refine lv_goto (tgt := 37) hx hb d_LR_solve_105 (by decide) ?_
              exact ih _ _ _ _ _ _ h _ _ _ (lv_sub hl [6, 3, 2, 1, 0] rfl) hM hS
set_option maxHeartbeats 4000000 in
set_option maxRecDepth 100000 in
theorem c_LR_solve (l : Launch) (G : mx_G) (a0 : Nat) (mem : mx_Mem) (q : Int64 × mx_Mem) (h : f_LR_solve a0 mem = some q) : Met l y_LR_solve (gq_w y_LR_solve b_LR_solve 9 (some .long)) { frames := 4, cells := 0, slots := 0, locals := 80 } (gq_P G [.ref a0] mem) (gq_Q G (some (.long q.1)) q.2) 0 0 (mx_A G) := by
  refine Met.ofW (cc := b_LR_solve) (maxL := 9) (ret := (some .long)) (by decide) rfl ?_
  intro p e s m args below meth c s₁ B hml hv
  obtain ⟨rfl, hb0, hM, hK, hN⟩ := hv
  have CX : gq_C p (headSpec (gq_w y_LR_solve b_LR_solve 9 (some .long)) { frames := 4, cells := 0, slots := 0, locals := 80 }).room s m _ meth c G b_LR_solve 9 (some .long) R_LR 4 0 0 80 := ⟨B.exec, B.bytes, hml, B.returns, findClass_of_methodNamed B.named, fun w hw => atoms_spec (ws := gq_w y_LR_solve b_LR_solve 9 (some .long)) B.pre w (List.mem_cons_of_mem _ hw), B.notSynchronized, hK, hN, hb0, Nat.le_refl _, Nat.le_refl _, Nat.le_refl _, Nat.le_refl _⟩
  obtain ⟨hx, hb, hml, hr, hown, hts, hlocks, hK, hN, hb0, hRf, hRc, hRs, hRl⟩ := id CX
  have hS : va_S (mx_A G) s.heap s.heap [] := va_S.rf
  have hl := lv_entry [.ref a0] (n := 9) (Nat.le_of_ble_eq_true rfl)
  rw [lg_entry_eq]
  generalize (lg_sl [.ref a0] ++ List.replicate (9 - (lg_sl [.ref a0]).length) Slot.unset).toArray = ls at hl ⊢
  have hl : lv_has ls 9 [(0, va_rf (some a0))] := hl
  unfold f_LR_solve at h
  refine lv_iconst (v := 0) hx hb d_LR_solve_0 (by decide) ?_
  refine lv_istore_n (lv' := [(1, .int 0), (0, va_rf (some a0))]) hx hb d_LR_solve_1 rfl hl (by decide) (by simp [mx_cat, mx_cati, mx_catl, mx_catr]) (fun ls hl => ?_)
  refine wfl_LR_solve_2 q CX ?_ 5000 _ _ _ h _ _ _ (lv_sub hl [1, 0] rfl) hM hS
  · intro v0 m1 h H locs ls hl hM hS
    refine lv_ldc2 (v := 9223372036854775807) hx hb hown (hts _ wd_186) d_LR_solve_25 ?_
    refine lv_lstore_n (lv' := [(1, .long 9223372036854775807), (0, va_rf v0)]) hx hb d_LR_solve_28 rfl hl (by decide) (by simp [mx_cat, mx_cati, mx_catl, mx_catr]) (fun ls hl => ?_)
    refine lv_iconst (v := 0) hx hb d_LR_solve_29 (by decide) ?_
    refine lv_istore_n (lv' := [(3, .int 0), (1, .long 9223372036854775807), (0, va_rf v0)]) hx hb d_LR_solve_30 rfl hl (by decide) rfl (fun ls hl => ?_)
    refine lv_iconst (v := 1) hx hb d_LR_solve_31 (by decide) ?_
    refine lv_istore (lv' := [(4, .int 1), (3, .int 0), (1, .long 9223372036854775807), (0, va_rf v0)]) hx hb d_LR_solve_32 hl (by decide) rfl (fun ls hl => ?_)
    refine lv_iconst (v := 0) hx hb d_LR_solve_34 (by decide) ?_
    refine lv_istore (lv' := [(5, .int 0), (4, .int 1), (3, .int 0), (1, .long 9223372036854775807), (0, va_rf v0)]) hx hb d_LR_solve_35 hl (by decide) rfl (fun ls hl => ?_)
    refine wfl_LR_solve_37 q CX  5000 _ _ _ _ _ _ h _ _ _ (lv_sub hl [4, 3, 2, 1, 0] rfl) hM hS
set_option maxHeartbeats 4000000 in
set_option maxRecDepth 100000 in
theorem c_LR_chosen (l : Launch) (G : mx_G) (a0 : Nat) (v1 : Int32) (mem : mx_Mem) (q : Int32 × mx_Mem) (h : f_LR_chosen a0 v1 mem = some q) : Met l y_LR_chosen (gq_w y_LR_chosen b_LR_chosen 3 (some .int)) { frames := 1, cells := 0, slots := 0, locals := 21 } (gq_P G [.ref a0, .int v1] mem) (gq_Q G (some (.int q.1)) q.2) 0 0 (mx_A G) := by
  refine Met.ofW (cc := b_LR_chosen) (maxL := 3) (ret := (some .int)) (by decide) rfl ?_
  intro p e s m args below meth c s₁ B hml hv
  obtain ⟨rfl, hb0, hM, hK, hN⟩ := hv
  have CX : gq_C p (headSpec (gq_w y_LR_chosen b_LR_chosen 3 (some .int)) { frames := 1, cells := 0, slots := 0, locals := 21 }).room s m _ meth c G b_LR_chosen 3 (some .int) R_LR 1 0 0 21 := ⟨B.exec, B.bytes, hml, B.returns, findClass_of_methodNamed B.named, fun w hw => atoms_spec (ws := gq_w y_LR_chosen b_LR_chosen 3 (some .int)) B.pre w (List.mem_cons_of_mem _ hw), B.notSynchronized, hK, hN, hb0, Nat.le_refl _, Nat.le_refl _, Nat.le_refl _, Nat.le_refl _⟩
  obtain ⟨hx, hb, hml, hr, hown, hts, hlocks, hK, hN, hb0, hRf, hRc, hRs, hRl⟩ := id CX
  have hS : va_S (mx_A G) s.heap s.heap [] := va_S.rf
  have hl := lv_entry [.ref a0, .int v1] (n := 3) (Nat.le_of_ble_eq_true rfl)
  rw [lg_entry_eq]
  generalize (lg_sl [.ref a0, .int v1] ++ List.replicate (3 - (lg_sl [.ref a0, .int v1]).length) Slot.unset).toArray = ls at hl ⊢
  have hl : lv_has ls 3 [(0, va_rf (some a0)), (1, .int v1)] := hl
  unfold f_LR_chosen at h
  refine mx_aload_n hx hb d_LR_chosen_0 rfl (lv_at hl 0 rfl) ?_
  refine lv_iload_n hx hb d_LR_chosen_1 rfl (lv_at hl 1 rfl) ?_
  obtain ⟨a4, e3, h⟩ := mx_b h
  obtain ⟨q1, e2, h⟩ := mx_b h
  have e5 := mx_c_eq e3
  refine W.eq (g2 := F0 m 2 ls [.int v1, .ref a4]) (congrArg (fun z => F0 m 2 ls [.int v1, va_rf z]) e5) ?_
  refine gq_go (va_runV (b := a4) (As := [.int v1]) (rest := []) ⟨hx, hb, hml, hown, hts⟩ (c_LR_findLoad l G a4 v1 _ _ e2) (cwV 1 hts (gq_gV wd_113 wd_114 wd_115 wd_14 wd_112) rfl rfl rfl (by decide +kernel) ⟨Nat.le_trans (Nat.le_of_ble_eq_true rfl) hRf, Nat.le_trans (Nat.le_of_ble_eq_true rfl) hRl⟩) (gq_preV hK hN hM hS hb0 e3 (C := R_LR) (T := T_LR) (N := 5) rfl) rfl rfl hl.1 rfl (lv_room (Nat.le_of_ble_eq_true rfl)) d_LR_chosen_2 ⟨Nat.le_trans (Nat.le_of_ble_eq_true rfl) hRc, Nat.le_trans (Nat.le_of_ble_eq_true rfl) hRs⟩) hS (fun H locs hM hS => ?_)
  refine W.eq (g2 := F0 m 5 ls [va_rf q1.1]) rfl ?_
  refine mx_astore_n (lv' := [(2, va_rf q1.1), (0, va_rf (some a0)), (1, .int v1)]) hx hb d_LR_chosen_5 rfl hl (by decide) rfl (fun ls hl => ?_)
  refine mx_aload_n hx hb d_LR_chosen_6 rfl (lv_at hl 0 rfl) ?_
  refine mx_ifnonnull (tgt := 15) hx hb d_LR_chosen_7 (by decide) (fun c6 => ?_) (fun c6 => ?_)
  · rw [if_neg c6] at h
    refine mx_aload_n hx hb d_LR_chosen_15 rfl (lv_at hl 0 rfl) ?_
    obtain ⟨x7, e8, h⟩ := mx_b h
    refine mx_getiN hx hb hts i_Lo hown hK hM e8 (ci := 3) (C := R_Lo) (T := T_Lo) (N := 12) rfl 6 (by decide) (va_Nw.use rfl (hN _ nw_16)) d_LR_chosen_16 ?_
    cases h
    exact W.iret hx hb hr (fun t ht hW => ⟨⟨rfl, by rw [ht]; exact hM⟩, hS.F ht⟩) hS.2.2 d_LR_chosen_19
  · rw [if_pos c6] at h
    refine lv_bipush (v := (-11)) hx hb d_LR_chosen_10 (by decide) ?_
    refine lv_goto (tgt := 19) hx hb d_LR_chosen_12 (by decide) ?_
    cases h
    exact W.iret hx hb hr (fun t ht hW => ⟨⟨rfl, by rw [ht]; exact hM⟩, hS.F ht⟩) hS.2.2 d_LR_chosen_19
set_option maxHeartbeats 4000000 in
set_option maxRecDepth 100000 in
theorem c_LR_arrival (l : Launch) (G : mx_G) (a0 : Nat) (v1 : Int32) (mem : mx_Mem) (q : Int64 × mx_Mem) (h : f_LR_arrival a0 v1 mem = some q) : Met l y_LR_arrival (gq_w y_LR_arrival b_LR_arrival 3 (some .long)) { frames := 1, cells := 0, slots := 0, locals := 21 } (gq_P G [.ref a0, .int v1] mem) (gq_Q G (some (.long q.1)) q.2) 0 0 (mx_A G) := by
  refine Met.ofW (cc := b_LR_arrival) (maxL := 3) (ret := (some .long)) (by decide) rfl ?_
  intro p e s m args below meth c s₁ B hml hv
  obtain ⟨rfl, hb0, hM, hK, hN⟩ := hv
  have CX : gq_C p (headSpec (gq_w y_LR_arrival b_LR_arrival 3 (some .long)) { frames := 1, cells := 0, slots := 0, locals := 21 }).room s m _ meth c G b_LR_arrival 3 (some .long) R_LR 1 0 0 21 := ⟨B.exec, B.bytes, hml, B.returns, findClass_of_methodNamed B.named, fun w hw => atoms_spec (ws := gq_w y_LR_arrival b_LR_arrival 3 (some .long)) B.pre w (List.mem_cons_of_mem _ hw), B.notSynchronized, hK, hN, hb0, Nat.le_refl _, Nat.le_refl _, Nat.le_refl _, Nat.le_refl _⟩
  obtain ⟨hx, hb, hml, hr, hown, hts, hlocks, hK, hN, hb0, hRf, hRc, hRs, hRl⟩ := id CX
  have hS : va_S (mx_A G) s.heap s.heap [] := va_S.rf
  have hl := lv_entry [.ref a0, .int v1] (n := 3) (Nat.le_of_ble_eq_true rfl)
  rw [lg_entry_eq]
  generalize (lg_sl [.ref a0, .int v1] ++ List.replicate (3 - (lg_sl [.ref a0, .int v1]).length) Slot.unset).toArray = ls at hl ⊢
  have hl : lv_has ls 3 [(0, va_rf (some a0)), (1, .int v1)] := hl
  unfold f_LR_arrival at h
  refine mx_aload_n hx hb d_LR_arrival_0 rfl (lv_at hl 0 rfl) ?_
  refine lv_iload_n hx hb d_LR_arrival_1 rfl (lv_at hl 1 rfl) ?_
  obtain ⟨a4, e3, h⟩ := mx_b h
  obtain ⟨q1, e2, h⟩ := mx_b h
  have e5 := mx_c_eq e3
  refine W.eq (g2 := F0 m 2 ls [.int v1, .ref a4]) (congrArg (fun z => F0 m 2 ls [.int v1, va_rf z]) e5) ?_
  refine gq_go (va_runV (b := a4) (As := [.int v1]) (rest := []) ⟨hx, hb, hml, hown, hts⟩ (c_LR_findLoad l G a4 v1 _ _ e2) (cwV 1 hts (gq_gV wd_113 wd_114 wd_115 wd_14 wd_112) rfl rfl rfl (by decide +kernel) ⟨Nat.le_trans (Nat.le_of_ble_eq_true rfl) hRf, Nat.le_trans (Nat.le_of_ble_eq_true rfl) hRl⟩) (gq_preV hK hN hM hS hb0 e3 (C := R_LR) (T := T_LR) (N := 5) rfl) rfl rfl hl.1 rfl (lv_room (Nat.le_of_ble_eq_true rfl)) d_LR_arrival_2 ⟨Nat.le_trans (Nat.le_of_ble_eq_true rfl) hRc, Nat.le_trans (Nat.le_of_ble_eq_true rfl) hRs⟩) hS (fun H locs hM hS => ?_)
  refine W.eq (g2 := F0 m 5 ls [va_rf q1.1]) rfl ?_
  refine mx_astore_n (lv' := [(2, va_rf q1.1), (0, va_rf (some a0)), (1, .int v1)]) hx hb d_LR_arrival_5 rfl hl (by decide) rfl (fun ls hl => ?_)
  refine mx_aload_n hx hb d_LR_arrival_6 rfl (lv_at hl 0 rfl) ?_
  refine mx_ifnonnull (tgt := 16) hx hb d_LR_arrival_7 (by decide) (fun c6 => ?_) (fun c6 => ?_)
  · rw [if_neg c6] at h
    refine mx_aload_n hx hb d_LR_arrival_16 rfl (lv_at hl 0 rfl) ?_
    obtain ⟨x7, e8, h⟩ := mx_b h
    refine mx_getlN hx hb hts i_Lo hown hK hM e8 (ci := 3) (C := R_Lo) (T := T_Lo) (N := 12) rfl 9 (by decide) (va_Nw.use rfl (hN _ nw_17)) d_LR_arrival_17 ?_
    cases h
    exact W.lret hx hb hr (fun t ht hW => ⟨⟨rfl, by rw [ht]; exact hM⟩, hS.F ht⟩) hS.2.2 d_LR_arrival_20
  · rw [if_pos c6] at h
    refine lv_ldc2 (v := (-11)) hx hb hown (hts _ wd_207) d_LR_arrival_10 ?_
    refine lv_goto (tgt := 20) hx hb d_LR_arrival_13 (by decide) ?_
    cases h
    exact W.lret hx hb hr (fun t ht hW => ⟨⟨rfl, by rw [ht]; exact hM⟩, hS.F ht⟩) hS.2.2 d_LR_arrival_20
set_option maxHeartbeats 4000000 in
set_option maxRecDepth 100000 in
theorem c_LR_departs (l : Launch) (G : mx_G) (a0 : Nat) (v1 : Int32) (mem : mx_Mem) (q : Int64 × mx_Mem) (h : f_LR_departs a0 v1 mem = some q) : Met l y_LR_departs (gq_w y_LR_departs b_LR_departs 3 (some .long)) { frames := 1, cells := 0, slots := 0, locals := 21 } (gq_P G [.ref a0, .int v1] mem) (gq_Q G (some (.long q.1)) q.2) 0 0 (mx_A G) := by
  refine Met.ofW (cc := b_LR_departs) (maxL := 3) (ret := (some .long)) (by decide) rfl ?_
  intro p e s m args below meth c s₁ B hml hv
  obtain ⟨rfl, hb0, hM, hK, hN⟩ := hv
  have CX : gq_C p (headSpec (gq_w y_LR_departs b_LR_departs 3 (some .long)) { frames := 1, cells := 0, slots := 0, locals := 21 }).room s m _ meth c G b_LR_departs 3 (some .long) R_LR 1 0 0 21 := ⟨B.exec, B.bytes, hml, B.returns, findClass_of_methodNamed B.named, fun w hw => atoms_spec (ws := gq_w y_LR_departs b_LR_departs 3 (some .long)) B.pre w (List.mem_cons_of_mem _ hw), B.notSynchronized, hK, hN, hb0, Nat.le_refl _, Nat.le_refl _, Nat.le_refl _, Nat.le_refl _⟩
  obtain ⟨hx, hb, hml, hr, hown, hts, hlocks, hK, hN, hb0, hRf, hRc, hRs, hRl⟩ := id CX
  have hS : va_S (mx_A G) s.heap s.heap [] := va_S.rf
  have hl := lv_entry [.ref a0, .int v1] (n := 3) (Nat.le_of_ble_eq_true rfl)
  rw [lg_entry_eq]
  generalize (lg_sl [.ref a0, .int v1] ++ List.replicate (3 - (lg_sl [.ref a0, .int v1]).length) Slot.unset).toArray = ls at hl ⊢
  have hl : lv_has ls 3 [(0, va_rf (some a0)), (1, .int v1)] := hl
  unfold f_LR_departs at h
  refine mx_aload_n hx hb d_LR_departs_0 rfl (lv_at hl 0 rfl) ?_
  refine lv_iload_n hx hb d_LR_departs_1 rfl (lv_at hl 1 rfl) ?_
  obtain ⟨a4, e3, h⟩ := mx_b h
  obtain ⟨q1, e2, h⟩ := mx_b h
  have e5 := mx_c_eq e3
  refine W.eq (g2 := F0 m 2 ls [.int v1, .ref a4]) (congrArg (fun z => F0 m 2 ls [.int v1, va_rf z]) e5) ?_
  refine gq_go (va_runV (b := a4) (As := [.int v1]) (rest := []) ⟨hx, hb, hml, hown, hts⟩ (c_LR_findLine l G a4 v1 _ _ e2) (cwV 1 hts (gq_gV wd_91 wd_92 wd_93 wd_14 wd_90) rfl rfl rfl (by decide +kernel) ⟨Nat.le_trans (Nat.le_of_ble_eq_true rfl) hRf, Nat.le_trans (Nat.le_of_ble_eq_true rfl) hRl⟩) (gq_preV hK hN hM hS hb0 e3 (C := R_LR) (T := T_LR) (N := 5) rfl) rfl rfl hl.1 rfl (lv_room (Nat.le_of_ble_eq_true rfl)) d_LR_departs_2 ⟨Nat.le_trans (Nat.le_of_ble_eq_true rfl) hRc, Nat.le_trans (Nat.le_of_ble_eq_true rfl) hRs⟩) hS (fun H locs hM hS => ?_)
  refine W.eq (g2 := F0 m 5 ls [va_rf q1.1]) rfl ?_
  refine mx_astore_n (lv' := [(2, va_rf q1.1), (0, va_rf (some a0)), (1, .int v1)]) hx hb d_LR_departs_5 rfl hl (by decide) rfl (fun ls hl => ?_)
  refine mx_aload_n hx hb d_LR_departs_6 rfl (lv_at hl 0 rfl) ?_
  refine mx_ifnonnull (tgt := 16) hx hb d_LR_departs_7 (by decide) (fun c6 => ?_) (fun c6 => ?_)
  · rw [if_neg c6] at h
    refine mx_aload_n hx hb d_LR_departs_16 rfl (lv_at hl 0 rfl) ?_
    obtain ⟨x7, e8, h⟩ := mx_b h
    refine mx_getlN hx hb hts i_Li hown hK hM e8 (ci := 1) (C := R_Li) (T := T_Li) (N := 8) rfl 7 (by decide) (va_Nw.use rfl (hN _ nw_18)) d_LR_departs_17 ?_
    cases h
    exact W.lret hx hb hr (fun t ht hW => ⟨⟨rfl, by rw [ht]; exact hM⟩, hS.F ht⟩) hS.2.2 d_LR_departs_20
  · rw [if_pos c6] at h
    refine lv_ldc2 (v := (-11)) hx hb hown (hts _ wd_207) d_LR_departs_10 ?_
    refine lv_goto (tgt := 20) hx hb d_LR_departs_13 (by decide) ?_
    cases h
    exact W.lret hx hb hr (fun t ht hW => ⟨⟨rfl, by rw [ht]; exact hM⟩, hS.F ht⟩) hS.2.2 d_LR_departs_20
set_option maxHeartbeats 4000000 in
set_option maxRecDepth 100000 in
theorem wfl_LR_none_4 {p : Program} {l : Launch} {e : Env} {R : Room} {s : State} {m : MethodId} {args : Array Value} {below : List Frame} {meth : Method} {c : Code} {G : mx_G} (q : Int32 × mx_Mem) (CX : gq_C p R s m args meth c G b_LR_none 4 (some .int) R_LR 0 0 0 0)  : ∀ (n : Nat) (v0 : Option Nat) (v1 : Int32) (v2 : Int32) (v3 : Int32) (mem : mx_Mem), fl_LR_none_4  n v0 v1 v2 v3 mem = some q → ∀ (H : Heap) (locs : List Loc) (ls : Array Slot), lv_has ls 4 [(0, va_rf v0), (1, .int v1), (2, .int v2), (3, .int v3)] → mx_M vwCl G mem H → va_S (mx_A G) s.heap H locs → W p l e R s m args below meth c H locs 0 0 (MQ below (gq_Q G (some (.int q.1)) q.2) args s 0 0 (mx_A G)) (F0 m 4 ls []) := by
  obtain ⟨hx, hb, hml, hr, hown, hts, hlocks, hK, hN, hb0, hRf, hRc, hRs, hRl⟩ := id CX
  intro n
  induction n with
  | zero => intro v0 v1 v2 v3 mem h; rw [fl_LR_none_4] at h; cases h
  | succ n ih =>
    intro v0 v1 v2 v3 mem h H locs ls hl hM hS
    rw [fl_LR_none_4] at h
    refine lv_iload_n hx hb d_LR_none_4 rfl (lv_at hl 3 rfl) ?_
    refine mx_aload_n hx hb d_LR_none_5 rfl (lv_at hl 0 rfl) ?_
    obtain ⟨x1, e2, h⟩ := mx_b h
    refine mx_geti hx hb hts i_LR hown hK hM e2 (ci := 0) (C := R_LR) (T := T_LR) (N := 5) rfl 4 (by decide) (hts _ wd_9) d_LR_none_6 ?_
    refine lv_icmp_ge (tgt := 42) hx hb d_LR_none_9 (by decide) (fun c3 => ?_) (fun c3 => ?_)
    · rw [if_pos c3] at h
      refine lv_iconst (v := (-1)) hx hb d_LR_none_42 (by decide) ?_
      cases h
      exact W.iret hx hb hr (fun t ht hW => ⟨⟨rfl, by rw [ht]; exact hM⟩, hS.F ht⟩) hS.2.2 d_LR_none_43
    · rw [if_neg c3] at h
      refine mx_aload_n hx hb d_LR_none_12 rfl (lv_at hl 0 rfl) ?_
      obtain ⟨x4, e5, h⟩ := mx_b h
      refine mx_getr hx hb hts i_LR hown hK hM e5 (ci := 0) (C := R_LR) (T := T_LR) (N := 5) rfl 2 (by decide) (hts _ wd_6) d_LR_none_13 ?_
      refine lv_iload_n hx hb d_LR_none_16 rfl (lv_at hl 3 rfl) ?_
      obtain ⟨x6, e7, h⟩ := mx_b h
      refine mx_aald hx hb hK hM e7 rfl d_LR_none_17 ?_
      obtain ⟨x8, e9, h⟩ := mx_b h
      refine mx_getiN hx hb hts i_Lo hown hK hM e9 (ci := 3) (C := R_Lo) (T := T_Lo) (N := 12) rfl 11 (by decide) (va_Nw.use rfl (hN _ nw_12)) d_LR_none_18 ?_
      refine lv_if_eq (tgt := 36) hx hb d_LR_none_21 (by decide) (fun c10 => ?_) (fun c10 => ?_)
      · rw [if_pos c10] at h
        refine lv_iinc (v := (v3 + 1)) (lv' := [(3, .int ((v3 + 1))), (0, va_rf v0), (1, .int v1), (2, .int v2)]) hx hb d_LR_none_36 hl (k := 3) rfl rfl (by decide) rfl (fun ls hl => ?_)
        refine lv_goto (tgt := 4) hx hb d_LR_none_39 (by decide) ?_
        exact ih _ _ _ _ _ h _ _ _ (lv_sub hl [1, 2, 3, 0] rfl) hM hS
      · rw [if_neg c10] at h
        refine lv_iload_n hx hb d_LR_none_24 rfl (lv_at hl 2 rfl) ?_
        refine lv_iload_n hx hb d_LR_none_25 rfl (lv_at hl 1 rfl) ?_
        refine lv_icmp_ne (tgt := 33) hx hb d_LR_none_26 (by decide) (fun c11 => ?_) (fun c11 => ?_)
        · rw [if_neg c11] at h
          refine lv_iinc (v := (v2 + 1)) (lv' := [(2, .int ((v2 + 1))), (0, va_rf v0), (1, .int v1), (3, .int v3)]) hx hb d_LR_none_33 hl (k := 2) rfl rfl (by decide) rfl (fun ls hl => ?_)
          refine lv_iinc (v := (v3 + 1)) (lv' := [(3, .int ((v3 + 1))), (2, .int ((v2 + 1))), (0, va_rf v0), (1, .int v1)]) hx hb d_LR_none_36 hl (k := 3) rfl rfl (by decide) rfl (fun ls hl => ?_)
          refine lv_goto (tgt := 4) hx hb d_LR_none_39 (by decide) ?_
          exact ih _ _ _ _ _ h _ _ _ (lv_sub hl [2, 3, 1, 0] rfl) hM hS
        · rw [if_pos c11] at h
          refine lv_iload_n hx hb d_LR_none_29 rfl (lv_at hl 3 rfl) ?_
          refine lv_iconst (v := 1) hx hb d_LR_none_30 (by decide) ?_
          refine lv_iadd hx hb d_LR_none_31 ?_
          cases h
          exact W.iret hx hb hr (fun t ht hW => ⟨⟨rfl, by rw [ht]; exact hM⟩, hS.F ht⟩) hS.2.2 d_LR_none_32
set_option maxHeartbeats 4000000 in
set_option maxRecDepth 100000 in
theorem c_LR_none (l : Launch) (G : mx_G) (a0 : Nat) (v1 : Int32) (mem : mx_Mem) (q : Int32 × mx_Mem) (h : f_LR_none a0 v1 mem = some q) : Met l y_LR_none (gq_w y_LR_none b_LR_none 4 (some .int)) { frames := 0, cells := 0, slots := 0, locals := 0 } (gq_P G [.ref a0, .int v1] mem) (gq_Q G (some (.int q.1)) q.2) 0 0 (mx_A G) := by
  refine Met.ofW (cc := b_LR_none) (maxL := 4) (ret := (some .int)) (by decide) rfl ?_
  intro p e s m args below meth c s₁ B hml hv
  obtain ⟨rfl, hb0, hM, hK, hN⟩ := hv
  have CX : gq_C p (headSpec (gq_w y_LR_none b_LR_none 4 (some .int)) { frames := 0, cells := 0, slots := 0, locals := 0 }).room s m _ meth c G b_LR_none 4 (some .int) R_LR 0 0 0 0 := ⟨B.exec, B.bytes, hml, B.returns, findClass_of_methodNamed B.named, fun w hw => atoms_spec (ws := gq_w y_LR_none b_LR_none 4 (some .int)) B.pre w (List.mem_cons_of_mem _ hw), B.notSynchronized, hK, hN, hb0, Nat.le_refl _, Nat.le_refl _, Nat.le_refl _, Nat.le_refl _⟩
  obtain ⟨hx, hb, hml, hr, hown, hts, hlocks, hK, hN, hb0, hRf, hRc, hRs, hRl⟩ := id CX
  have hS : va_S (mx_A G) s.heap s.heap [] := va_S.rf
  have hl := lv_entry [.ref a0, .int v1] (n := 4) (Nat.le_of_ble_eq_true rfl)
  rw [lg_entry_eq]
  generalize (lg_sl [.ref a0, .int v1] ++ List.replicate (4 - (lg_sl [.ref a0, .int v1]).length) Slot.unset).toArray = ls at hl ⊢
  have hl : lv_has ls 4 [(0, va_rf (some a0)), (1, .int v1)] := hl
  unfold f_LR_none at h
  refine lv_iconst (v := 0) hx hb d_LR_none_0 (by decide) ?_
  refine lv_istore_n (lv' := [(2, .int 0), (0, va_rf (some a0)), (1, .int v1)]) hx hb d_LR_none_1 rfl hl (by decide) rfl (fun ls hl => ?_)
  refine lv_iconst (v := 0) hx hb d_LR_none_2 (by decide) ?_
  refine lv_istore_n (lv' := [(3, .int 0), (2, .int 0), (0, va_rf (some a0)), (1, .int v1)]) hx hb d_LR_none_3 rfl hl (by decide) rfl (fun ls hl => ?_)
  refine wfl_LR_none_4 q CX  5000 _ _ _ _ _ h _ _ _ (lv_sub hl [2, 3, 1, 0] rfl) hM hS
set_option maxHeartbeats 4000000 in
set_option maxRecDepth 100000 in
theorem c_LR_acts (l : Launch) (G : mx_G) (a0 : Nat) (mem : mx_Mem) (q : Int32 × mx_Mem) (h : f_LR_acts a0 mem = some q) : Met l y_LR_acts (gq_w y_LR_acts b_LR_acts 1 (some .int)) { frames := 3, cells := 0, slots := 0, locals := 63 } (gq_P G [.ref a0] mem) (gq_Q G (some (.int q.1)) q.2) 0 0 (mx_A G) := by
  refine Met.ofW (cc := b_LR_acts) (maxL := 1) (ret := (some .int)) (by decide) rfl ?_
  intro p e s m args below meth c s₁ B hml hv
  obtain ⟨rfl, hb0, hM, hK, hN⟩ := hv
  have CX : gq_C p (headSpec (gq_w y_LR_acts b_LR_acts 1 (some .int)) { frames := 3, cells := 0, slots := 0, locals := 63 }).room s m _ meth c G b_LR_acts 1 (some .int) R_LR 3 0 0 63 := ⟨B.exec, B.bytes, hml, B.returns, findClass_of_methodNamed B.named, fun w hw => atoms_spec (ws := gq_w y_LR_acts b_LR_acts 1 (some .int)) B.pre w (List.mem_cons_of_mem _ hw), B.notSynchronized, hK, hN, hb0, Nat.le_refl _, Nat.le_refl _, Nat.le_refl _, Nat.le_refl _⟩
  obtain ⟨hx, hb, hml, hr, hown, hts, hlocks, hK, hN, hb0, hRf, hRc, hRs, hRl⟩ := id CX
  have hS : va_S (mx_A G) s.heap s.heap [] := va_S.rf
  have hl := lv_entry [.ref a0] (n := 1) (Nat.le_of_ble_eq_true rfl)
  rw [lg_entry_eq]
  generalize (lg_sl [.ref a0] ++ List.replicate (1 - (lg_sl [.ref a0]).length) Slot.unset).toArray = ls at hl ⊢
  have hl : lv_has ls 1 [(0, va_rf (some a0))] := hl
  unfold f_LR_acts at h
  refine mx_aload_n hx hb d_LR_acts_0 rfl (lv_at hl 0 rfl) ?_
  obtain ⟨a4, e3, h⟩ := mx_b h
  obtain ⟨q1, e2, h⟩ := mx_b h
  have e5 := mx_c_eq e3
  refine W.eq (g2 := F0 m 1 ls [.ref a4]) (congrArg (fun z => F0 m 1 ls [va_rf z]) e5) ?_
  refine gq_go (va_runV (b := a4) (As := []) (rest := []) ⟨hx, hb, hml, hown, hts⟩ (c_LR_countActs l G a4  _ _ e2) (cwV 0 hts (gq_gV wd_196 wd_197 wd_198 wd_14 wd_195) rfl rfl rfl (by decide +kernel) ⟨Nat.le_trans (Nat.le_of_ble_eq_true rfl) hRf, Nat.le_trans (Nat.le_of_ble_eq_true rfl) hRl⟩) (gq_preV hK hN hM hS hb0 e3 (C := R_LR) (T := T_LR) (N := 5) rfl) rfl rfl hl.1 rfl (lv_room (Nat.le_of_ble_eq_true rfl)) d_LR_acts_1 ⟨Nat.le_trans (Nat.le_of_ble_eq_true rfl) hRc, Nat.le_trans (Nat.le_of_ble_eq_true rfl) hRs⟩) hS (fun H locs hM hS => ?_)
  refine W.eq (g2 := F0 m 4 ls [.int q1.1]) rfl ?_
  cases h
  exact W.iret hx hb hr (fun t ht hW => ⟨⟨rfl, by rw [ht]; exact hM⟩, hS.F ht⟩) hS.2.2 d_LR_acts_4
