set_option maxHeartbeats 4000000 in
set_option maxRecDepth 100000 in
theorem c_Lo_addOption (l : Launch) (G : mx_G) (a0 : Nat) (v1 : Option Nat) (mem : mx_Mem) (q : Int32 × mx_Mem) (h : f_Lo_addOption a0 v1 mem = some q) : Met l y_Lo_addOption (gq_w y_Lo_addOption b_Lo_addOption 2 (some .int)) { frames := 1, cells := 0, slots := 0, locals := 20 } (gq_P G [.ref a0, va_rf v1] mem) (gq_Q G (some (.int q.1)) q.2) 0 0 (mx_A G) := by
  refine Met.ofW (cc := b_Lo_addOption) (maxL := 2) (ret := (some .int)) (by decide) rfl ?_
  intro p e s m args below meth c s₁ B hml hv
  obtain ⟨rfl, hb0, hM, hK, hN⟩ := hv
  have CX : gq_C p (headSpec (gq_w y_Lo_addOption b_Lo_addOption 2 (some .int)) { frames := 1, cells := 0, slots := 0, locals := 20 }).room s m _ meth c G b_Lo_addOption 2 (some .int) R_Lo 1 0 0 20 := ⟨B.exec, B.bytes, hml, B.returns, findClass_of_methodNamed B.named, fun w hw => atoms_spec (ws := gq_w y_Lo_addOption b_Lo_addOption 2 (some .int)) B.pre w (List.mem_cons_of_mem _ hw), B.notSynchronized, hK, hN, hb0, Nat.le_refl _, Nat.le_refl _, Nat.le_refl _, Nat.le_refl _⟩
  obtain ⟨hx, hb, hml, hr, hown, hts, hlocks, hK, hN, hb0, hRf, hRc, hRs, hRl⟩ := id CX
  have hS : va_S (mx_A G) s.heap s.heap [] := va_S.rf
  have hl := lv_entry [.ref a0, va_rf v1] (n := 2) (by simp [lg_sl, mx_cat, mx_cati, mx_catl, mx_catr])
  rw [lg_entry_eq]
  generalize (lg_sl [.ref a0, va_rf v1] ++ List.replicate (2 - (lg_sl [.ref a0, va_rf v1]).length) Slot.unset).toArray = ls at hl ⊢
  have hl : lv_has ls 2 [(0, va_rf (some a0)), (1, va_rf v1)] := by have h9 := hl; simp [lv_args, mx_cat, mx_cati, mx_catl, mx_catr] at h9; exact h9
  unfold f_Lo_addOption at h
  refine mx_aload_n hx hb d_Lo_addOption_0 rfl (lv_at hl 0 rfl) ?_
  obtain ⟨a4, e3, h⟩ := mx_b h
  obtain ⟨q1, e2, h⟩ := mx_b h
  have e5 := mx_c_eq e3
  refine W.eq (g2 := F0 m 1 ls [.ref a4]) (congrArg (fun z => F0 m 1 ls [va_rf z]) e5) ?_
  refine gq_go (va_runV (b := a4) (As := []) (rest := []) ⟨hx, hb, hml, hown, hts⟩ (c_Lo_hasRoom l G a4  _ _ e2) (cwV 0 hts (gq_gV wd_109 wd_110 wd_111 wd_42 wd_108) rfl rfl rfl (by decide +kernel) ⟨Nat.le_trans (Nat.le_of_ble_eq_true rfl) hRf, Nat.le_trans (Nat.le_of_ble_eq_true rfl) hRl⟩) (gq_preV hK hN hM hS hb0 e3 (C := R_Lo) (T := T_Lo) (N := 12) rfl) rfl rfl hl.1 rfl (lv_room (Nat.le_of_ble_eq_true rfl)) d_Lo_addOption_1 ⟨Nat.le_trans (Nat.le_of_ble_eq_true rfl) hRc, Nat.le_trans (Nat.le_of_ble_eq_true rfl) hRs⟩) hS (fun H locs hM hS => ?_)
  refine W.eq (g2 := F0 m 4 ls [.int q1.1]) rfl ?_
  refine lv_if_ne (tgt := 9) hx hb d_Lo_addOption_4 (by decide) (fun c6 => ?_) (fun c6 => ?_)
  · rw [if_neg c6] at h
    refine mx_aload_n hx hb d_Lo_addOption_9 rfl (lv_at hl 0 rfl) ?_
    obtain ⟨x7, e8, h⟩ := mx_b h
    refine mx_getr hx hb hts i_Lo hown hK hM e8 (ci := 3) (C := R_Lo) (T := T_Lo) (N := 12) rfl 4 (by decide) (hts _ wd_26) d_Lo_addOption_10 ?_
    refine mx_aload_n hx hb d_Lo_addOption_13 rfl (lv_at hl 0 rfl) ?_
    obtain ⟨x9, e10, h⟩ := mx_b h
    refine mx_geti hx hb hts i_Lo hown hK hM e10 (ci := 3) (C := R_Lo) (T := T_Lo) (N := 12) rfl 5 (by decide) (hts _ wd_25) d_Lo_addOption_14 ?_
    refine mx_aload_n hx hb d_Lo_addOption_17 rfl (lv_at hl 1 rfl) ?_
    obtain ⟨_, e11, h⟩ := mx_b h
    obtain ⟨m13, e12, h⟩ := mx_b h
    refine mx_aast hx hb hK hM hS e11 e12 rfl rfl d_Lo_addOption_18 (fun H locs hM hS => ?_)
    refine mx_aload_n hx hb d_Lo_addOption_19 rfl (lv_at hl 0 rfl) ?_
    refine lv_dup hx hb d_Lo_addOption_20 (mx_cat _) ?_
    obtain ⟨x14, e15, h⟩ := mx_b h
    refine mx_geti hx hb hts i_Lo hown hK hM e15 (ci := 3) (C := R_Lo) (T := T_Lo) (N := 12) rfl 5 (by decide) (hts _ wd_25) d_Lo_addOption_21 ?_
    refine lv_iconst (v := 1) hx hb d_Lo_addOption_24 (by decide) ?_
    refine lv_iadd hx hb d_Lo_addOption_25 ?_
    obtain ⟨m16, e17, h⟩ := mx_b h
    refine mx_put hx hb hts i_Lo t_Lo t_Lo_ok n_Lo hown hK hM hS e17 (ci := 3) (C := R_Lo) (T := T_Lo) (N := 12) rfl 5 (by decide) (hts _ wd_25) rfl (ty := .int) (by decide +kernel) rfl rfl d_Lo_addOption_26 (fun H locs hM hS => ?_)
    refine mx_aload_n hx hb d_Lo_addOption_29 rfl (lv_at hl 0 rfl) ?_
    obtain ⟨x18, e19, h⟩ := mx_b h
    refine mx_geti hx hb hts i_Lo hown hK hM e19 (ci := 3) (C := R_Lo) (T := T_Lo) (N := 12) rfl 6 (by decide) (hts _ wd_24) d_Lo_addOption_30 ?_
    refine lv_if_ge (tgt := 41) hx hb d_Lo_addOption_33 (by decide) (fun c20 => ?_) (fun c20 => ?_)
    · rw [if_pos c20] at h
      refine mx_aload_n hx hb d_Lo_addOption_41 rfl (lv_at hl 0 rfl) ?_
      obtain ⟨x21, e22, h⟩ := mx_b h
      refine mx_geti hx hb hts i_Lo hown hK hM e22 (ci := 3) (C := R_Lo) (T := T_Lo) (N := 12) rfl 5 (by decide) (hts _ wd_25) d_Lo_addOption_42 ?_
      refine lv_iconst (v := 1) hx hb d_Lo_addOption_45 (by decide) ?_
      refine lv_isub hx hb d_Lo_addOption_46 ?_
      cases h
      exact W.iret hx hb hr (fun t ht hW => ⟨⟨rfl, by rw [ht]; exact hM⟩, hS.F ht⟩) hS.2.2 d_Lo_addOption_47
    · rw [if_neg c20] at h
      refine mx_aload_n hx hb d_Lo_addOption_36 rfl (lv_at hl 0 rfl) ?_
      refine lv_iconst (v := 0) hx hb d_Lo_addOption_37 (by decide) ?_
      obtain ⟨m21, e22, h⟩ := mx_b h
      refine mx_put hx hb hts i_Lo t_Lo t_Lo_ok n_Lo hown hK hM hS e22 (ci := 3) (C := R_Lo) (T := T_Lo) (N := 12) rfl 6 (by decide) (hts _ wd_24) rfl (ty := .int) (by decide +kernel) rfl rfl d_Lo_addOption_38 (fun H locs hM hS => ?_)
      refine mx_aload_n hx hb d_Lo_addOption_41 rfl (lv_at hl 0 rfl) ?_
      obtain ⟨x23, e24, h⟩ := mx_b h
      refine mx_geti hx hb hts i_Lo hown hK hM e24 (ci := 3) (C := R_Lo) (T := T_Lo) (N := 12) rfl 5 (by decide) (hts _ wd_25) d_Lo_addOption_42 ?_
      refine lv_iconst (v := 1) hx hb d_Lo_addOption_45 (by decide) ?_
      refine lv_isub hx hb d_Lo_addOption_46 ?_
      cases h
      exact W.iret hx hb hr (fun t ht hW => ⟨⟨rfl, by rw [ht]; exact hM⟩, hS.F ht⟩) hS.2.2 d_Lo_addOption_47
  · rw [if_pos c6] at h
    refine lv_iconst (v := (-1)) hx hb d_Lo_addOption_7 (by decide) ?_
    cases h
    exact W.iret hx hb hr (fun t ht hW => ⟨⟨rfl, by rw [ht]; exact hM⟩, hS.F ht⟩) hS.2.2 d_Lo_addOption_8
set_option maxHeartbeats 4000000 in
set_option maxRecDepth 100000 in
theorem wfj_LR_option_94 {p : Program} {l : Launch} {e : Env} {R : Room} {s : State} {m : MethodId} {args : Array Value} {below : List Frame} {meth : Method} {c : Code} {G : mx_G} (q : Int32 × mx_Mem) (CX : gq_C p R s m args meth c G b_LR_option 9 (some .int) R_LR 4 1 3 80) (v0 : Option Nat) (v2 : Int32) (v4 : Int64) (v6 : Option Nat) (v7 : Option Nat) (mem : mx_Mem) (h : fj_LR_option_94 v0 v2 v4 v6 v7 mem = some q) (H : Heap) (locs : List Loc) (ls : Array Slot) (hl : lv_has ls 9 [(0, va_rf v0), (2, .int v2), (4, .long v4), (6, va_rf v6), (7, va_rf v7)]) (hM : mx_M vwCl G mem H) (hS : va_S (mx_A G) s.heap H locs) : W p l e R s m args below meth c H locs 0 0 (MQ below (gq_Q G (some (.int q.1)) q.2) args s 1 3 (mx_A G)) (F0 m 94 ls []) := by
  obtain ⟨hx, hb, hml, hr, hown, hts, hlocks, hK, hN, hb0, hRf, hRc, hRs, hRl⟩ := id CX
  rw [fj_LR_option_94] at h
  refine mx_aload hx hb d_LR_option_94 (lv_at hl 3 rfl) ?_
  obtain ⟨a4, e3, h⟩ := mx_b h
  obtain ⟨q1, e2, h⟩ := mx_b h
  have e5 := mx_c_eq e3
  refine W.eq (g2 := F0 m 96 ls [.ref a4]) (congrArg (fun z => F0 m 96 ls [va_rf z]) e5) ?_
  refine gq_go (va_runV (b := a4) (As := []) (rest := []) ⟨hx, hb, hml, hown, hts⟩ (c_Lo_hasRoom l G a4  _ _ e2) (cwV 0 hts (gq_gV wd_118 wd_110 wd_111 wd_42 wd_108) rfl rfl rfl (by decide +kernel) ⟨Nat.le_trans (Nat.le_of_ble_eq_true rfl) hRf, Nat.le_trans (Nat.le_of_ble_eq_true rfl) hRl⟩) (gq_preV hK hN hM hS hb0 e3 (C := R_Lo) (T := T_Lo) (N := 12) rfl) rfl rfl hl.1 rfl (lv_room (Nat.le_of_ble_eq_true rfl)) d_LR_option_96 ⟨Nat.le_trans (Nat.le_of_ble_eq_true rfl) hRc, Nat.le_trans (Nat.le_of_ble_eq_true rfl) hRs⟩) hS (fun H locs hM hS => ?_)
  refine W.eq (g2 := F0 m 99 ls [.int q1.1]) rfl ?_
  refine lv_if_ne (tgt := 105) hx hb d_LR_option_99 (by decide) (fun c6 => ?_) (fun c6 => ?_)
  · rw [if_neg c6] at h
    refine mx_aload hx hb d_LR_option_105 (lv_at hl 3 rfl) ?_
    obtain ⟨m7, e8, h⟩ := mx_b h
    refine mx_new (ci := 2) (fs := [.int 0, .null, .long 0]) (C := R_Op) (T := T_Op) (N := 3) hx hb hts i_Op t_Op t_Op_ok hown (hts _ wd_119) (hts _ wd_120) (hts _ wd_121) hK hM hS hb0 rfl (fun j hj => by rcases (show j = 0 ∨ j = 1 ∨ j = 2 by omega) with rfl | rfl | rfl <;> rfl) e8 d_LR_option_107 (Nat.le_trans (Nat.le_of_ble_eq_true rfl) hRc) (Nat.le_trans (Nat.le_of_ble_eq_true rfl) hRs) (fun H hM hS => ?_)
    refine W.widen (k := 1) (n := 3) (by decide) (by decide) ?_
    refine lv_dup hx hb d_LR_option_110 (mx_cat _) ?_
    refine lv_iload_n hx hb d_LR_option_111 rfl (lv_at hl 1 rfl) ?_
    refine mx_aload hx hb d_LR_option_112 (lv_at hl 4 rfl) ?_
    refine lv_lload hx hb d_LR_option_114 (lv_at hl 2 rfl) ?_
    obtain ⟨q9, e10, h⟩ := mx_b h
    refine gq_go (va_runI (b := (q1.2).1) (As := [.int v2, va_rf v7, .long v4]) (rest := [va_rf (some (q1.2).1), va_rf v6]) ⟨hx, hb, hml, hown, hts⟩ (c_Op_init l G ((q1.2).1) v2 v7 v4 _ _ e10) (cwI 3 hts (gq_gI wd_122) rfl rfl rfl (hts _ wd_121) (hts _ wd_123) (hts _ wd_124) rfl (by decide +kernel) ⟨Nat.le_trans (Nat.le_of_ble_eq_true rfl) hRf, Nat.le_trans (Nat.le_of_ble_eq_true rfl) hRl⟩) (gq_preS hK hN hM hS hb0) rfl rfl hl.1 rfl (lv_room (by simp [mx_cat, mx_cati, mx_catl, mx_catr])) d_LR_option_116 ⟨Nat.le_trans (Nat.le_of_ble_eq_true rfl) hRc, Nat.le_trans (Nat.le_of_ble_eq_true rfl) hRs⟩) hS (fun H locs hM hS => ?_)
    refine W.eq (g2 := F0 m 119 ls [va_rf (some (q1.2).1), va_rf v6]) rfl ?_
    obtain ⟨a15, e14, h⟩ := mx_b h
    obtain ⟨q12, e13, h⟩ := mx_b h
    have e16 := mx_c_eq e14
    refine W.eq (g2 := F0 m 119 ls [va_rf (some (q1.2).1), .ref a15]) (congrArg (fun z => F0 m 119 ls [va_rf (some (q1.2).1), va_rf z]) e16) ?_
    refine gq_go (va_runV (b := a15) (As := [va_rf (some (q1.2).1)]) (rest := []) ⟨hx, hb, hml, hown, hts⟩ (c_Lo_addOption l G a15 (some (q1.2).1) _ _ e13) (cwV 1 hts (gq_gV wd_126 wd_127 wd_128 wd_42 wd_125) rfl rfl rfl (by decide +kernel) ⟨Nat.le_trans (Nat.le_of_ble_eq_true rfl) hRf, Nat.le_trans (Nat.le_of_ble_eq_true rfl) hRl⟩) (gq_preV hK hN hM hS hb0 e14 (C := R_Lo) (T := T_Lo) (N := 12) rfl) rfl rfl hl.1 rfl (lv_room (Nat.le_of_ble_eq_true rfl)) d_LR_option_119 ⟨Nat.le_trans (Nat.le_of_ble_eq_true rfl) hRc, Nat.le_trans (Nat.le_of_ble_eq_true rfl) hRs⟩) hS (fun H locs hM hS => ?_)
    refine W.eq (g2 := F0 m 122 ls [.int q12.1]) rfl ?_
    refine lv_istore (lv' := [(8, .int q12.1), (0, va_rf v0), (2, .int v2), (4, .long v4), (6, va_rf v6), (7, va_rf v7)]) hx hb d_LR_option_122 hl (by decide) (by simp [mx_cat, mx_cati, mx_catl, mx_catr]) (fun ls hl => ?_)
    refine mx_aload_n hx hb d_LR_option_124 rfl (lv_at hl 1 rfl) ?_
    obtain ⟨a20, e19, h⟩ := mx_b h
    obtain ⟨q17, e18, h⟩ := mx_b h
    have e21 := mx_c_eq e19
    refine W.eq (g2 := F0 m 125 ls [.ref a20]) (congrArg (fun z => F0 m 125 ls [va_rf z]) e21) ?_
    refine gq_go (va_runV (b := a20) (As := []) (rest := []) ⟨hx, hb, hml, hown, hts⟩ (c_LR_settle l G a20  _ _ e18) (cwV 0 hts (gq_gV wd_82 wd_83 wd_84 wd_14 wd_81) rfl rfl rfl (by decide +kernel) ⟨Nat.le_trans (Nat.le_of_ble_eq_true rfl) hRf, Nat.le_trans (Nat.le_of_ble_eq_true rfl) hRl⟩) (gq_preV hK hN hM hS hb0 e19 (C := R_LR) (T := T_LR) (N := 5) rfl) rfl rfl hl.1 rfl (lv_room (Nat.le_of_ble_eq_true rfl)) d_LR_option_125 ⟨Nat.le_trans (Nat.le_of_ble_eq_true rfl) hRc, Nat.le_trans (Nat.le_of_ble_eq_true rfl) hRs⟩) hS (fun H locs hM hS => ?_)
    refine W.eq (g2 := F0 m 128 ls []) rfl ?_
    refine lv_iload hx hb d_LR_option_128 (lv_at hl 0 rfl) ?_
    cases h
    exact W.iret hx hb hr (fun t ht hW => ⟨⟨rfl, by rw [ht]; exact hM⟩, hS.F ht⟩) hS.2.2 d_LR_option_130
  · rw [if_pos c6] at h
    refine lv_bipush (v := (-14)) hx hb d_LR_option_102 (by decide) ?_
    cases h
    refine W.widen (k := 1) (n := 3) (by decide) (by decide) ?_
    exact W.iret hx hb hr (fun t ht hW => ⟨⟨rfl, by rw [ht]; exact hM⟩, hS.F ht⟩) hS.2.2 d_LR_option_104
set_option maxHeartbeats 4000000 in
set_option maxRecDepth 100000 in
theorem wfj_LR_option_41 {p : Program} {l : Launch} {e : Env} {R : Room} {s : State} {m : MethodId} {args : Array Value} {below : List Frame} {meth : Method} {c : Code} {G : mx_G} (q : Int32 × mx_Mem) (CX : gq_C p R s m args meth c G b_LR_option 9 (some .int) R_LR 4 1 3 80) (v0 : Option Nat) (v2 : Int32) (v4 : Int64) (v6 : Option Nat) (v7 : Option Nat) (mem : mx_Mem) (h : fj_LR_option_41 v0 v2 v4 v6 v7 mem = some q) (H : Heap) (locs : List Loc) (ls : Array Slot) (hl : lv_has ls 9 [(0, va_rf v0), (2, .int v2), (4, .long v4), (6, va_rf v6), (7, va_rf v7)]) (hM : mx_M vwCl G mem H) (hS : va_S (mx_A G) s.heap H locs) : W p l e R s m args below meth c H locs 0 0 (MQ below (gq_Q G (some (.int q.1)) q.2) args s 1 3 (mx_A G)) (F0 m 41 ls []) := by
  obtain ⟨hx, hb, hml, hr, hown, hts, hlocks, hK, hN, hb0, hRf, hRc, hRs, hRl⟩ := id CX
  rw [fj_LR_option_41] at h
  refine lv_iload_n hx hb d_LR_option_41 rfl (lv_at hl 1 rfl) ?_
  refine lv_i2l hx hb d_LR_option_42 rfl ?_
  refine lv_lconst (v := 0) hx hb d_LR_option_43 (by decide) ?_
  refine lv_ldc2 (v := 2) hx hb hown (hts _ wd_116) d_LR_option_44 ?_
  obtain ⟨q1, e2, h⟩ := mx_b h
  refine gq_go (va_runS (As := [.long v2.toInt64, .long 0, .long 2]) (rest := []) ⟨hx, hb, hml, hown, hts⟩ (c_LR_isWithin l G v2.toInt64 0 2 _ _ e2) (cwS 3 hts (gq_gS wd_12 wd_13 wd_14 wd_11) rfl rfl rfl (by decide +kernel) ⟨Nat.le_trans (Nat.le_of_ble_eq_true rfl) hRf, Nat.le_trans (Nat.le_of_ble_eq_true rfl) hRl⟩) (gq_preS hK hN hM hS hb0) rfl rfl hl.1 rfl (lv_room (Nat.le_of_ble_eq_true rfl)) d_LR_option_47 ⟨Nat.le_trans (Nat.le_of_ble_eq_true rfl) hRc, Nat.le_trans (Nat.le_of_ble_eq_true rfl) hRs⟩) hS (fun H locs hM hS => ?_)
  refine W.eq (g2 := F0 m 50 ls [.int q1.1]) rfl ?_
  refine lv_if_eq (tgt := 65) hx hb d_LR_option_50 (by decide) (fun c4 => ?_) (fun c4 => ?_)
  · rw [if_pos c4] at h
    refine lv_bipush (v := (-12)) hx hb d_LR_option_65 (by decide) ?_
    cases h
    refine W.widen (k := 1) (n := 3) (by decide) (by decide) ?_
    exact W.iret hx hb hr (fun t ht hW => ⟨⟨rfl, by rw [ht]; exact hM⟩, hS.F ht⟩) hS.2.2 d_LR_option_67
  · rw [if_neg c4] at h
    refine lv_lload hx hb d_LR_option_53 (lv_at hl 2 rfl) ?_
    refine lv_lconst (v := 0) hx hb d_LR_option_55 (by decide) ?_
    refine lv_ldc2 (v := 10000) hx hb hown (hts _ wd_76) d_LR_option_56 ?_
    obtain ⟨q5, e6, h⟩ := mx_b h
    refine gq_go (va_runS (As := [.long v4, .long 0, .long 10000]) (rest := []) ⟨hx, hb, hml, hown, hts⟩ (c_LR_isWithin l G v4 0 10000 _ _ e6) (cwS 3 hts (gq_gS wd_12 wd_13 wd_14 wd_11) rfl rfl rfl (by decide +kernel) ⟨Nat.le_trans (Nat.le_of_ble_eq_true rfl) hRf, Nat.le_trans (Nat.le_of_ble_eq_true rfl) hRl⟩) (gq_preS hK hN hM hS hb0) rfl rfl hl.1 rfl (lv_room (Nat.le_of_ble_eq_true rfl)) d_LR_option_59 ⟨Nat.le_trans (Nat.le_of_ble_eq_true rfl) hRc, Nat.le_trans (Nat.le_of_ble_eq_true rfl) hRs⟩) hS (fun H locs hM hS => ?_)
    refine W.eq (g2 := F0 m 62 ls [.int q5.1]) rfl ?_
    refine lv_if_ne (tgt := 68) hx hb d_LR_option_62 (by decide) (fun c8 => ?_) (fun c8 => ?_)
    · rw [if_neg c8] at h
      refine mx_aload hx hb d_LR_option_68 (lv_at hl 3 rfl) ?_
      obtain ⟨a12, e11, h⟩ := mx_b h
      obtain ⟨q9, e10, h⟩ := mx_b h
      have e13 := mx_c_eq e11
      refine W.eq (g2 := F0 m 70 ls [.ref a12]) (congrArg (fun z => F0 m 70 ls [va_rf z]) e13) ?_
      refine gq_go (va_runV (b := a12) (As := []) (rest := []) ⟨hx, hb, hml, hown, hts⟩ (c_Lo_isDirect l G a12  _ _ e10) (cwV 0 hts (gq_gV wd_117 wd_52 wd_53 wd_42 wd_50) rfl rfl rfl (by decide +kernel) ⟨Nat.le_trans (Nat.le_of_ble_eq_true rfl) hRf, Nat.le_trans (Nat.le_of_ble_eq_true rfl) hRl⟩) (gq_preV hK hN hM hS hb0 e11 (C := R_Lo) (T := T_Lo) (N := 12) rfl) rfl rfl hl.1 rfl (lv_room (Nat.le_of_ble_eq_true rfl)) d_LR_option_70 ⟨Nat.le_trans (Nat.le_of_ble_eq_true rfl) hRc, Nat.le_trans (Nat.le_of_ble_eq_true rfl) hRs⟩) hS (fun H locs hM hS => ?_)
      refine W.eq (g2 := F0 m 73 ls [.int q9.1]) rfl ?_
      refine lv_if_ne (tgt := 91) hx hb d_LR_option_73 (by decide) (fun c14 => ?_) (fun c14 => ?_)
      · rw [if_neg c14] at h
        refine lv_bipush (v := (-13)) hx hb d_LR_option_91 (by decide) ?_
        cases h
        refine W.widen (k := 1) (n := 3) (by decide) (by decide) ?_
        exact W.iret hx hb hr (fun t ht hW => ⟨⟨rfl, by rw [ht]; exact hM⟩, hS.F ht⟩) hS.2.2 d_LR_option_93
      · rw [if_pos c14] at h
        refine mx_aload hx hb d_LR_option_76 (lv_at hl 4 rfl) ?_
        refine mx_ifnull (tgt := 94) hx hb d_LR_option_78 (by decide) (fun c15 => ?_) (fun c15 => ?_)
        · rw [if_pos c15] at h
          exact wfj_LR_option_94 q CX _ _ _ _ _ _ h _ _ _ (lv_sub hl [0, 1, 2, 3, 4] rfl) hM hS
        · rw [if_neg c15] at h
          refine mx_aload hx hb d_LR_option_81 (lv_at hl 3 rfl) ?_
          refine mx_aload hx hb d_LR_option_83 (lv_at hl 4 rfl) ?_
          obtain ⟨a19, e18, h⟩ := mx_b h
          obtain ⟨q16, e17, h⟩ := mx_b h
          have e20 := mx_c_eq e18
          refine W.eq (g2 := F0 m 85 ls [va_rf v7, .ref a19]) (congrArg (fun z => F0 m 85 ls [va_rf v7, va_rf z]) e20) ?_
          refine gq_go (va_runV (b := a19) (As := [va_rf v7]) (rest := []) ⟨hx, hb, hml, hown, hts⟩ (c_Lo_canGoOnBy l G a19 v7 _ _ e17) (cwV 1 hts (gq_gV wd_130 wd_131 wd_132 wd_42 wd_129) rfl rfl rfl (by decide +kernel) ⟨Nat.le_trans (Nat.le_of_ble_eq_true rfl) hRf, Nat.le_trans (Nat.le_of_ble_eq_true rfl) hRl⟩) (gq_preV hK hN hM hS hb0 e18 (C := R_Lo) (T := T_Lo) (N := 12) rfl) rfl rfl hl.1 rfl (lv_room (Nat.le_of_ble_eq_true rfl)) d_LR_option_85 ⟨Nat.le_trans (Nat.le_of_ble_eq_true rfl) hRc, Nat.le_trans (Nat.le_of_ble_eq_true rfl) hRs⟩) hS (fun H locs hM hS => ?_)
          refine W.eq (g2 := F0 m 88 ls [.int q16.1]) rfl ?_
          refine lv_if_ne (tgt := 94) hx hb d_LR_option_88 (by decide) (fun c21 => ?_) (fun c21 => ?_)
          · rw [if_neg c21] at h
            exact wfj_LR_option_94 q CX _ _ _ _ _ _ h _ _ _ (lv_sub hl [0, 1, 2, 3, 4] rfl) hM hS
          · rw [if_pos c21] at h
            refine lv_bipush (v := (-13)) hx hb d_LR_option_91 (by decide) ?_
            cases h
            refine W.widen (k := 1) (n := 3) (by decide) (by decide) ?_
            exact W.iret hx hb hr (fun t ht hW => ⟨⟨rfl, by rw [ht]; exact hM⟩, hS.F ht⟩) hS.2.2 d_LR_option_93
    · rw [if_pos c8] at h
      refine lv_bipush (v := (-12)) hx hb d_LR_option_65 (by decide) ?_
      cases h
      refine W.widen (k := 1) (n := 3) (by decide) (by decide) ?_
      exact W.iret hx hb hr (fun t ht hW => ⟨⟨rfl, by rw [ht]; exact hM⟩, hS.F ht⟩) hS.2.2 d_LR_option_67
set_option maxHeartbeats 4000000 in
set_option maxRecDepth 100000 in
theorem c_LR_option (l : Launch) (G : mx_G) (a0 : Nat) (v1 : Int32) (v2 : Int32) (v3 : Int32) (v4 : Int64) (mem : mx_Mem) (q : Int32 × mx_Mem) (h : f_LR_option a0 v1 v2 v3 v4 mem = some q) : Met l y_LR_option (gq_w y_LR_option b_LR_option 9 (some .int)) { frames := 4, cells := 1, slots := 3, locals := 80 } (gq_P G [.ref a0, .int v1, .int v2, .int v3, .long v4] mem) (gq_Q G (some (.int q.1)) q.2) 1 3 (mx_A G) := by
  refine Met.ofW (cc := b_LR_option) (maxL := 9) (ret := (some .int)) (by decide) rfl ?_
  intro p e s m args below meth c s₁ B hml hv
  obtain ⟨rfl, hb0, hM, hK, hN⟩ := hv
  have CX : gq_C p (headSpec (gq_w y_LR_option b_LR_option 9 (some .int)) { frames := 4, cells := 1, slots := 3, locals := 80 }).room s m _ meth c G b_LR_option 9 (some .int) R_LR 4 1 3 80 := ⟨B.exec, B.bytes, hml, B.returns, findClass_of_methodNamed B.named, fun w hw => atoms_spec (ws := gq_w y_LR_option b_LR_option 9 (some .int)) B.pre w (List.mem_cons_of_mem _ hw), B.notSynchronized, hK, hN, hb0, Nat.le_refl _, Nat.le_refl _, Nat.le_refl _, Nat.le_refl _⟩
  obtain ⟨hx, hb, hml, hr, hown, hts, hlocks, hK, hN, hb0, hRf, hRc, hRs, hRl⟩ := id CX
  have hS : va_S (mx_A G) s.heap s.heap [] := va_S.rf
  have hl := lv_entry [.ref a0, .int v1, .int v2, .int v3, .long v4] (n := 9) (Nat.le_of_ble_eq_true rfl)
  rw [lg_entry_eq]
  generalize (lg_sl [.ref a0, .int v1, .int v2, .int v3, .long v4] ++ List.replicate (9 - (lg_sl [.ref a0, .int v1, .int v2, .int v3, .long v4]).length) Slot.unset).toArray = ls at hl ⊢
  have hl : lv_has ls 9 [(0, va_rf (some a0)), (1, .int v1), (2, .int v2), (3, .int v3), (4, .long v4)] := hl
  unfold f_LR_option at h
  refine mx_aload_n hx hb d_LR_option_0 rfl (lv_at hl 0 rfl) ?_
  refine lv_iload_n hx hb d_LR_option_1 rfl (lv_at hl 1 rfl) ?_
  obtain ⟨a4, e3, h⟩ := mx_b h
  obtain ⟨q1, e2, h⟩ := mx_b h
  have e5 := mx_c_eq e3
  refine W.eq (g2 := F0 m 2 ls [.int v1, .ref a4]) (congrArg (fun z => F0 m 2 ls [.int v1, va_rf z]) e5) ?_
  refine gq_go (va_runV (b := a4) (As := [.int v1]) (rest := []) ⟨hx, hb, hml, hown, hts⟩ (c_LR_findLoad l G a4 v1 _ _ e2) (cwV 1 hts (gq_gV wd_113 wd_114 wd_115 wd_14 wd_112) rfl rfl rfl (by decide +kernel) ⟨Nat.le_trans (Nat.le_of_ble_eq_true rfl) hRf, Nat.le_trans (Nat.le_of_ble_eq_true rfl) hRl⟩) (gq_preV hK hN hM hS hb0 e3 (C := R_LR) (T := T_LR) (N := 5) rfl) rfl rfl hl.1 rfl (lv_room (Nat.le_of_ble_eq_true rfl)) d_LR_option_2 ⟨Nat.le_trans (Nat.le_of_ble_eq_true rfl) hRc, Nat.le_trans (Nat.le_of_ble_eq_true rfl) hRs⟩) hS (fun H locs hM hS => ?_)
  refine W.eq (g2 := F0 m 5 ls [va_rf q1.1]) rfl ?_
  refine mx_astore (lv' := [(6, va_rf q1.1), (0, va_rf (some a0)), (1, .int v1), (2, .int v2), (3, .int v3), (4, .long v4)]) hx hb d_LR_option_5 hl (by decide) rfl (fun ls hl => ?_)
  refine lv_iload_n hx hb d_LR_option_7 rfl (lv_at hl 3 rfl) ?_
  refine lv_iconst (v := 2) hx hb d_LR_option_8 (by decide) ?_
  refine lv_icmp_ne (tgt := 16) hx hb d_LR_option_9 (by decide) (fun c6 => ?_) (fun c6 => ?_)
  · rw [if_neg c6] at h
    refine mx_aload_n hx hb d_LR_option_16 rfl (lv_at hl 1 rfl) ?_
    refine lv_iload_n hx hb d_LR_option_17 rfl (lv_at hl 4 rfl) ?_
    obtain ⟨a10, e9, h⟩ := mx_b h
    obtain ⟨q7, e8, h⟩ := mx_b h
    have e11 := mx_c_eq e9
    refine W.eq (g2 := F0 m 18 ls [.int v3, .ref a10]) (congrArg (fun z => F0 m 18 ls [.int v3, va_rf z]) e11) ?_
    refine gq_go (va_runV (b := a10) (As := [.int v3]) (rest := []) ⟨hx, hb, hml, hown, hts⟩ (c_LR_findLine l G a10 v3 _ _ e8) (cwV 1 hts (gq_gV wd_91 wd_92 wd_93 wd_14 wd_90) rfl rfl rfl (by decide +kernel) ⟨Nat.le_trans (Nat.le_of_ble_eq_true rfl) hRf, Nat.le_trans (Nat.le_of_ble_eq_true rfl) hRl⟩) (gq_preV hK hN hM hS hb0 e9 (C := R_LR) (T := T_LR) (N := 5) rfl) rfl rfl hl.1 rfl (lv_room (Nat.le_of_ble_eq_true rfl)) d_LR_option_18 ⟨Nat.le_trans (Nat.le_of_ble_eq_true rfl) hRc, Nat.le_trans (Nat.le_of_ble_eq_true rfl) hRs⟩) hS (fun H locs hM hS => ?_)
    refine W.eq (g2 := F0 m 21 ls [va_rf q7.1]) rfl ?_
    refine mx_astore (lv' := [(7, va_rf q7.1), (6, va_rf q1.1), (0, va_rf (some a0)), (1, .int v1), (2, .int v2), (3, .int v3), (4, .long v4)]) hx hb d_LR_option_21 hl (by decide) (by simp [mx_cat, mx_cati, mx_catl, mx_catr]) (fun ls hl => ?_)
    refine mx_aload hx hb d_LR_option_23 (lv_at hl 1 rfl) ?_
    refine mx_ifnull (tgt := 38) hx hb d_LR_option_25 (by decide) (fun c12 => ?_) (fun c12 => ?_)
    · rw [if_pos c12] at h
      refine lv_bipush (v := (-11)) hx hb d_LR_option_38 (by decide) ?_
      cases h
      refine W.widen (k := 1) (n := 3) (by decide) (by decide) ?_
      exact W.iret hx hb hr (fun t ht hW => ⟨⟨rfl, by rw [ht]; exact hM⟩, hS.F ht⟩) hS.2.2 d_LR_option_40
    · rw [if_neg c12] at h
      refine lv_iload_n hx hb d_LR_option_28 rfl (lv_at hl 4 rfl) ?_
      refine lv_iconst (v := 2) hx hb d_LR_option_29 (by decide) ?_
      refine lv_icmp_eq (tgt := 41) hx hb d_LR_option_30 (by decide) (fun c13 => ?_) (fun c13 => ?_)
      · rw [if_pos c13] at h
        exact wfj_LR_option_41 q CX _ _ _ _ _ _ h _ _ _ (lv_sub hl [2, 4, 6, 1, 0] rfl) hM hS
      · rw [if_neg c13] at h
        refine mx_aload hx hb d_LR_option_33 (lv_at hl 0 rfl) ?_
        refine mx_ifnonnull (tgt := 41) hx hb d_LR_option_35 (by decide) (fun c14 => ?_) (fun c14 => ?_)
        · rw [if_neg c14] at h
          exact wfj_LR_option_41 q CX _ _ _ _ _ _ h _ _ _ (lv_sub hl [2, 4, 6, 1, 0] rfl) hM hS
        · rw [if_pos c14] at h
          refine lv_bipush (v := (-11)) hx hb d_LR_option_38 (by decide) ?_
          cases h
          refine W.widen (k := 1) (n := 3) (by decide) (by decide) ?_
          exact W.iret hx hb hr (fun t ht hW => ⟨⟨rfl, by rw [ht]; exact hM⟩, hS.F ht⟩) hS.2.2 d_LR_option_40
  · rw [if_pos c6] at h
    refine mx_null hx hb d_LR_option_12 ?_
    refine lv_goto (tgt := 21) hx hb d_LR_option_13 (by decide) ?_
    refine mx_astore (lv' := [(7, va_rf none), (6, va_rf q1.1), (0, va_rf (some a0)), (1, .int v1), (2, .int v2), (3, .int v3), (4, .long v4)]) hx hb d_LR_option_21 hl (by decide) (by simp [mx_cat, mx_cati, mx_catl, mx_catr]) (fun ls hl => ?_)
    refine mx_aload hx hb d_LR_option_23 (lv_at hl 1 rfl) ?_
    refine mx_ifnull (tgt := 38) hx hb d_LR_option_25 (by decide) (fun c7 => ?_) (fun c7 => ?_)
    · rw [if_pos c7] at h
      refine lv_bipush (v := (-11)) hx hb d_LR_option_38 (by decide) ?_
      cases h
      refine W.widen (k := 1) (n := 3) (by decide) (by decide) ?_
      exact W.iret hx hb hr (fun t ht hW => ⟨⟨rfl, by rw [ht]; exact hM⟩, hS.F ht⟩) hS.2.2 d_LR_option_40
    · rw [if_neg c7] at h
      refine lv_iload_n hx hb d_LR_option_28 rfl (lv_at hl 4 rfl) ?_
      refine lv_iconst (v := 2) hx hb d_LR_option_29 (by decide) ?_
      refine lv_icmp_eq (tgt := 41) hx hb d_LR_option_30 (by decide) (fun c8 => ?_) (fun c8 => ?_)
      · rw [if_pos c8] at h
        exact wfj_LR_option_41 q CX _ _ _ _ _ _ h _ _ _ (lv_sub hl [2, 4, 6, 1, 0] rfl) hM hS
      · rw [if_neg c8] at h
        refine mx_aload hx hb d_LR_option_33 (lv_at hl 0 rfl) ?_
        refine mx_ifnonnull (tgt := 41) hx hb d_LR_option_35 (by decide) (fun c9 => ?_) (fun c9 => ?_)
        · rw [if_neg c9] at h
          exact wfj_LR_option_41 q CX _ _ _ _ _ _ h _ _ _ (lv_sub hl [2, 4, 6, 1, 0] rfl) hM hS
        · rw [if_pos c9] at h
          refine lv_bipush (v := (-11)) hx hb d_LR_option_38 (by decide) ?_
          cases h
          refine W.widen (k := 1) (n := 3) (by decide) (by decide) ?_
          exact W.iret hx hb hr (fun t ht hW => ⟨⟨rfl, by rw [ht]; exact hM⟩, hS.F ht⟩) hS.2.2 d_LR_option_40
set_option maxHeartbeats 4000000 in
set_option maxRecDepth 100000 in
theorem c_LR_waits (l : Launch) (G : mx_G) (a0 : Nat) (v1 : Int32) (v2 : Int64) (mem : mx_Mem) (q : Int32 × mx_Mem) (h : f_LR_waits a0 v1 v2 mem = some q) : Met l y_LR_waits (gq_w y_LR_waits b_LR_waits 6 (some .int)) { frames := 4, cells := 0, slots := 0, locals := 80 } (gq_P G [.ref a0, .int v1, .long v2] mem) (gq_Q G (some (.int q.1)) q.2) 0 0 (mx_A G) := by
  refine Met.ofW (cc := b_LR_waits) (maxL := 6) (ret := (some .int)) (by decide) rfl ?_
  intro p e s m args below meth c s₁ B hml hv
  obtain ⟨rfl, hb0, hM, hK, hN⟩ := hv
  have CX : gq_C p (headSpec (gq_w y_LR_waits b_LR_waits 6 (some .int)) { frames := 4, cells := 0, slots := 0, locals := 80 }).room s m _ meth c G b_LR_waits 6 (some .int) R_LR 4 0 0 80 := ⟨B.exec, B.bytes, hml, B.returns, findClass_of_methodNamed B.named, fun w hw => atoms_spec (ws := gq_w y_LR_waits b_LR_waits 6 (some .int)) B.pre w (List.mem_cons_of_mem _ hw), B.notSynchronized, hK, hN, hb0, Nat.le_refl _, Nat.le_refl _, Nat.le_refl _, Nat.le_refl _⟩
  obtain ⟨hx, hb, hml, hr, hown, hts, hlocks, hK, hN, hb0, hRf, hRc, hRs, hRl⟩ := id CX
  have hS : va_S (mx_A G) s.heap s.heap [] := va_S.rf
  have hl := lv_entry [.ref a0, .int v1, .long v2] (n := 6) (Nat.le_of_ble_eq_true rfl)
  rw [lg_entry_eq]
  generalize (lg_sl [.ref a0, .int v1, .long v2] ++ List.replicate (6 - (lg_sl [.ref a0, .int v1, .long v2]).length) Slot.unset).toArray = ls at hl ⊢
  have hl : lv_has ls 6 [(0, va_rf (some a0)), (1, .int v1), (2, .long v2)] := hl
  unfold f_LR_waits at h
  refine mx_aload_n hx hb d_LR_waits_0 rfl (lv_at hl 0 rfl) ?_
  refine lv_iload_n hx hb d_LR_waits_1 rfl (lv_at hl 1 rfl) ?_
  obtain ⟨a4, e3, h⟩ := mx_b h
  obtain ⟨q1, e2, h⟩ := mx_b h
  have e5 := mx_c_eq e3
  refine W.eq (g2 := F0 m 2 ls [.int v1, .ref a4]) (congrArg (fun z => F0 m 2 ls [.int v1, va_rf z]) e5) ?_
  refine gq_go (va_runV (b := a4) (As := [.int v1]) (rest := []) ⟨hx, hb, hml, hown, hts⟩ (c_LR_findLine l G a4 v1 _ _ e2) (cwV 1 hts (gq_gV wd_91 wd_92 wd_93 wd_14 wd_90) rfl rfl rfl (by decide +kernel) ⟨Nat.le_trans (Nat.le_of_ble_eq_true rfl) hRf, Nat.le_trans (Nat.le_of_ble_eq_true rfl) hRl⟩) (gq_preV hK hN hM hS hb0 e3 (C := R_LR) (T := T_LR) (N := 5) rfl) rfl rfl hl.1 rfl (lv_room (Nat.le_of_ble_eq_true rfl)) d_LR_waits_2 ⟨Nat.le_trans (Nat.le_of_ble_eq_true rfl) hRc, Nat.le_trans (Nat.le_of_ble_eq_true rfl) hRs⟩) hS (fun H locs hM hS => ?_)
  refine W.eq (g2 := F0 m 5 ls [va_rf q1.1]) rfl ?_
  refine mx_astore (lv' := [(4, va_rf q1.1), (0, va_rf (some a0)), (1, .int v1), (2, .long v2)]) hx hb d_LR_waits_5 hl (by decide) rfl (fun ls hl => ?_)
  refine mx_aload hx hb d_LR_waits_7 (lv_at hl 0 rfl) ?_
  refine mx_ifnonnull (tgt := 15) hx hb d_LR_waits_9 (by decide) (fun c6 => ?_) (fun c6 => ?_)
  · rw [if_neg c6] at h
    refine lv_lload_n hx hb d_LR_waits_15 rfl (lv_at hl 3 rfl) ?_
    refine lv_lconst (v := 0) hx hb d_LR_waits_16 (by decide) ?_
    refine lv_ldc2 (v := 600) hx hb hown (hts _ wd_133) d_LR_waits_17 ?_
    obtain ⟨q7, e8, h⟩ := mx_b h
    refine gq_go (va_runS (As := [.long v2, .long 0, .long 600]) (rest := []) ⟨hx, hb, hml, hown, hts⟩ (c_LR_isWithin l G v2 0 600 _ _ e8) (cwS 3 hts (gq_gS wd_12 wd_13 wd_14 wd_11) rfl rfl rfl (by decide +kernel) ⟨Nat.le_trans (Nat.le_of_ble_eq_true rfl) hRf, Nat.le_trans (Nat.le_of_ble_eq_true rfl) hRl⟩) (gq_preS hK hN hM hS hb0) rfl rfl hl.1 rfl (lv_room (Nat.le_of_ble_eq_true rfl)) d_LR_waits_20 ⟨Nat.le_trans (Nat.le_of_ble_eq_true rfl) hRc, Nat.le_trans (Nat.le_of_ble_eq_true rfl) hRs⟩) hS (fun H locs hM hS => ?_)
    refine W.eq (g2 := F0 m 23 ls [.int q7.1]) rfl ?_
    refine lv_if_ne (tgt := 29) hx hb d_LR_waits_23 (by decide) (fun c10 => ?_) (fun c10 => ?_)
    · rw [if_neg c10] at h
      refine mx_aload hx hb d_LR_waits_29 (lv_at hl 0 rfl) ?_
      obtain ⟨x11, e12, h⟩ := mx_b h
      refine mx_getlN hx hb hts i_Li hown hK hM e12 (ci := 1) (C := R_Li) (T := T_Li) (N := 8) rfl 6 (by decide) (va_Nw.use rfl (hN _ nw_11)) d_LR_waits_31 ?_
      refine lv_l2i hx hb d_LR_waits_34 rfl ?_
      refine lv_istore (lv' := [(5, .int x11.toInt32), (4, va_rf q1.1), (0, va_rf (some a0)), (1, .int v1), (2, .long v2)]) hx hb d_LR_waits_35 hl (by decide) (by simp [mx_cat, mx_cati, mx_catl, mx_catr]) (fun ls hl => ?_)
      refine mx_aload hx hb d_LR_waits_37 (lv_at hl 1 rfl) ?_
      refine lv_lload_n hx hb d_LR_waits_39 rfl (lv_at hl 4 rfl) ?_
      obtain ⟨m13, e14, h⟩ := mx_b h
      refine mx_putN hx hb hts i_Li t_Li t_Li_ok n_Li hown hK hM hS e14 (ci := 1) (C := R_Li) (T := T_Li) (N := 8) rfl 6 (by decide) (va_Nw.use rfl (hN _ nw_11)) rfl (ty := .long) (by decide +kernel) rfl rfl d_LR_waits_40 (fun H locs hM hS => ?_)
      refine mx_aload_n hx hb d_LR_waits_43 rfl (lv_at hl 2 rfl) ?_
      obtain ⟨a18, e17, h⟩ := mx_b h
      obtain ⟨q15, e16, h⟩ := mx_b h
      have e19 := mx_c_eq e17
      refine W.eq (g2 := F0 m 44 ls [.ref a18]) (congrArg (fun z => F0 m 44 ls [va_rf z]) e19) ?_
      refine gq_go (va_runV (b := a18) (As := []) (rest := []) ⟨hx, hb, hml, hown, hts⟩ (c_LR_settle l G a18  _ _ e16) (cwV 0 hts (gq_gV wd_82 wd_83 wd_84 wd_14 wd_81) rfl rfl rfl (by decide +kernel) ⟨Nat.le_trans (Nat.le_of_ble_eq_true rfl) hRf, Nat.le_trans (Nat.le_of_ble_eq_true rfl) hRl⟩) (gq_preV hK hN hM hS hb0 e17 (C := R_LR) (T := T_LR) (N := 5) rfl) rfl rfl hl.1 rfl (lv_room (Nat.le_of_ble_eq_true rfl)) d_LR_waits_44 ⟨Nat.le_trans (Nat.le_of_ble_eq_true rfl) hRc, Nat.le_trans (Nat.le_of_ble_eq_true rfl) hRs⟩) hS (fun H locs hM hS => ?_)
      refine W.eq (g2 := F0 m 47 ls []) rfl ?_
      refine lv_iload hx hb d_LR_waits_47 (lv_at hl 0 rfl) ?_
      cases h
      exact W.iret hx hb hr (fun t ht hW => ⟨⟨rfl, by rw [ht]; exact hM⟩, hS.F ht⟩) hS.2.2 d_LR_waits_49
    · rw [if_pos c10] at h
      refine lv_bipush (v := (-12)) hx hb d_LR_waits_26 (by decide) ?_
      cases h
      exact W.iret hx hb hr (fun t ht hW => ⟨⟨rfl, by rw [ht]; exact hM⟩, hS.F ht⟩) hS.2.2 d_LR_waits_28
  · rw [if_pos c6] at h
    refine lv_bipush (v := (-11)) hx hb d_LR_waits_12 (by decide) ?_
    cases h
    exact W.iret hx hb hr (fun t ht hW => ⟨⟨rfl, by rw [ht]; exact hM⟩, hS.F ht⟩) hS.2.2 d_LR_waits_14
set_option maxHeartbeats 4000000 in
set_option maxRecDepth 100000 in
theorem c_Lo_minutesBehind (l : Launch) (G : mx_G) (a0 : Nat) (mem : mx_Mem) (q : Int64 × mx_Mem) (h : f_Lo_minutesBehind a0 mem = some q) : Met l y_Lo_minutesBehind (gq_w y_Lo_minutesBehind b_Lo_minutesBehind 1 (some .long)) { frames := 1, cells := 0, slots := 0, locals := 15 } (gq_P G [.ref a0] mem) (gq_Q G (some (.long q.1)) q.2) 0 0 (mx_A G) := by
  refine Met.ofW (cc := b_Lo_minutesBehind) (maxL := 1) (ret := (some .long)) (by decide) rfl ?_
  intro p e s m args below meth c s₁ B hml hv
  obtain ⟨rfl, hb0, hM, hK, hN⟩ := hv
  have CX : gq_C p (headSpec (gq_w y_Lo_minutesBehind b_Lo_minutesBehind 1 (some .long)) { frames := 1, cells := 0, slots := 0, locals := 15 }).room s m _ meth c G b_Lo_minutesBehind 1 (some .long) R_Lo 1 0 0 15 := ⟨B.exec, B.bytes, hml, B.returns, findClass_of_methodNamed B.named, fun w hw => atoms_spec (ws := gq_w y_Lo_minutesBehind b_Lo_minutesBehind 1 (some .long)) B.pre w (List.mem_cons_of_mem _ hw), B.notSynchronized, hK, hN, hb0, Nat.le_refl _, Nat.le_refl _, Nat.le_refl _, Nat.le_refl _⟩
  obtain ⟨hx, hb, hml, hr, hown, hts, hlocks, hK, hN, hb0, hRf, hRc, hRs, hRl⟩ := id CX
  have hS : va_S (mx_A G) s.heap s.heap [] := va_S.rf
  have hl := lv_entry [.ref a0] (n := 1) (Nat.le_of_ble_eq_true rfl)
  rw [lg_entry_eq]
  generalize (lg_sl [.ref a0] ++ List.replicate (1 - (lg_sl [.ref a0]).length) Slot.unset).toArray = ls at hl ⊢
  have hl : lv_has ls 1 [(0, va_rf (some a0))] := hl
  unfold f_Lo_minutesBehind at h
  refine lv_lconst (v := 0) hx hb d_Lo_minutesBehind_0 (by decide) ?_
  refine mx_aload_n hx hb d_Lo_minutesBehind_1 rfl (lv_at hl 0 rfl) ?_
  obtain ⟨x1, e2, h⟩ := mx_b h
  refine mx_getl hx hb hts i_Lo hown hK hM e2 (ci := 3) (C := R_Lo) (T := T_Lo) (N := 12) rfl 9 (by decide) (hts _ wd_55) d_Lo_minutesBehind_2 ?_
  refine mx_aload_n hx hb d_Lo_minutesBehind_5 rfl (lv_at hl 0 rfl) ?_
  obtain ⟨x3, e4, h⟩ := mx_b h
  refine mx_getl hx hb hts i_Lo hown hK hM e4 (ci := 3) (C := R_Lo) (T := T_Lo) (N := 12) rfl 2 (by decide) (hts _ wd_87) d_Lo_minutesBehind_6 ?_
  refine lv_lsub hx hb d_Lo_minutesBehind_9 ?_
  refine va_mmax_long hx hb (by rw [hml]; exact hl.1.symm) hown (hts _ wd_134) (hts _ wd_28) (hts _ wd_29) (hts _ wd_30) (Nat.le_trans (Nat.le_of_ble_eq_true rfl) hRf) (Nat.le_trans (Nat.le_of_ble_eq_true rfl) hRl) (Nat.le_trans (Nat.le_of_ble_eq_true rfl) hRc) (Nat.le_trans (Nat.le_of_ble_eq_true rfl) hRs) d_Lo_minutesBehind_10 ?_
  cases h
  exact W.lret hx hb hr (fun t ht hW => ⟨⟨rfl, by rw [ht]; exact hM⟩, hS.F ht⟩) hS.2.2 d_Lo_minutesBehind_13
set_option maxHeartbeats 4000000 in
set_option maxRecDepth 100000 in
theorem wfl_LR_countFailing_4 {p : Program} {l : Launch} {e : Env} {R : Room} {s : State} {m : MethodId} {args : Array Value} {below : List Frame} {meth : Method} {c : Code} {G : mx_G} (q : Int32 × mx_Mem) (CX : gq_C p R s m args meth c G b_LR_countFailing 3 (some .int) R_LR 2 0 0 35)  : ∀ (n : Nat) (v0 : Option Nat) (v1 : Int32) (v2 : Int32) (mem : mx_Mem), fl_LR_countFailing_4  n v0 v1 v2 mem = some q → ∀ (H : Heap) (locs : List Loc) (ls : Array Slot), lv_has ls 3 [(0, va_rf v0), (1, .int v1), (2, .int v2)] → mx_M vwCl G mem H → va_S (mx_A G) s.heap H locs → W p l e R s m args below meth c H locs 0 0 (MQ below (gq_Q G (some (.int q.1)) q.2) args s 0 0 (mx_A G)) (F0 m 4 ls []) := by
  obtain ⟨hx, hb, hml, hr, hown, hts, hlocks, hK, hN, hb0, hRf, hRc, hRs, hRl⟩ := id CX
  intro n
  induction n with
  | zero => intro v0 v1 v2 mem h; rw [fl_LR_countFailing_4] at h; cases h
  | succ n ih =>
    intro v0 v1 v2 mem h H locs ls hl hM hS
    rw [fl_LR_countFailing_4] at h
    refine lv_iload_n hx hb d_LR_countFailing_4 rfl (lv_at hl 2 rfl) ?_
    refine mx_aload_n hx hb d_LR_countFailing_5 rfl (lv_at hl 0 rfl) ?_
    obtain ⟨x1, e2, h⟩ := mx_b h
    refine mx_geti hx hb hts i_LR hown hK hM e2 (ci := 0) (C := R_LR) (T := T_LR) (N := 5) rfl 4 (by decide) (hts _ wd_9) d_LR_countFailing_6 ?_
    refine lv_icmp_ge (tgt := 47) hx hb d_LR_countFailing_9 (by decide) (fun c3 => ?_) (fun c3 => ?_)
    · rw [if_pos c3] at h
      refine lv_iload_n hx hb d_LR_countFailing_47 rfl (lv_at hl 1 rfl) ?_
      cases h
      exact W.iret hx hb hr (fun t ht hW => ⟨⟨rfl, by rw [ht]; exact hM⟩, hS.F ht⟩) hS.2.2 d_LR_countFailing_48
    · rw [if_neg c3] at h
      refine mx_aload_n hx hb d_LR_countFailing_12 rfl (lv_at hl 0 rfl) ?_
      obtain ⟨x4, e5, h⟩ := mx_b h
      refine mx_getr hx hb hts i_LR hown hK hM e5 (ci := 0) (C := R_LR) (T := T_LR) (N := 5) rfl 2 (by decide) (hts _ wd_6) d_LR_countFailing_13 ?_
      refine lv_iload_n hx hb d_LR_countFailing_16 rfl (lv_at hl 2 rfl) ?_
      obtain ⟨x6, e7, h⟩ := mx_b h
      refine mx_aald hx hb hK hM e7 rfl d_LR_countFailing_17 ?_
      obtain ⟨x8, e9, h⟩ := mx_b h
      refine mx_getiN hx hb hts i_Lo hown hK hM e9 (ci := 3) (C := R_Lo) (T := T_Lo) (N := 12) rfl 11 (by decide) (va_Nw.use rfl (hN _ nw_12)) d_LR_countFailing_18 ?_
      refine lv_if_ne (tgt := 38) hx hb d_LR_countFailing_21 (by decide) (fun c10 => ?_) (fun c10 => ?_)
      · rw [if_neg c10] at h
        refine lv_iinc (v := (v1 + 1)) (lv' := [(1, .int ((v1 + 1))), (0, va_rf v0), (2, .int v2)]) hx hb d_LR_countFailing_38 hl (k := 1) rfl rfl (by decide) (by simp [mx_cat, mx_cati, mx_catl, mx_catr]) (fun ls hl => ?_)
        refine lv_iinc (v := (v2 + 1)) (lv' := [(2, .int ((v2 + 1))), (1, .int ((v1 + 1))), (0, va_rf v0)]) hx hb d_LR_countFailing_41 hl (k := 2) rfl rfl (by decide) rfl (fun ls hl => ?_)
        refine lv_goto (tgt := 4) hx hb d_LR_countFailing_44 (by decide) ?_
        exact ih _ _ _ _ h _ _ _ (lv_sub hl [2, 1, 0] rfl) hM hS
      · rw [if_pos c10] at h
        refine mx_aload_n hx hb d_LR_countFailing_24 rfl (lv_at hl 0 rfl) ?_
        obtain ⟨x11, e12, h⟩ := mx_b h
        refine mx_getr hx hb hts i_LR hown hK hM e12 (ci := 0) (C := R_LR) (T := T_LR) (N := 5) rfl 2 (by decide) (hts _ wd_6) d_LR_countFailing_25 ?_
        refine lv_iload_n hx hb d_LR_countFailing_28 rfl (lv_at hl 2 rfl) ?_
        obtain ⟨x13, e14, h⟩ := mx_b h
        refine mx_aald hx hb hK hM e14 rfl d_LR_countFailing_29 ?_
        obtain ⟨a18, e17, h⟩ := mx_b h
        obtain ⟨q15, e16, h⟩ := mx_b h
        have e19 := mx_c_eq e17
        refine W.eq (g2 := F0 m 30 ls [.ref a18]) (congrArg (fun z => F0 m 30 ls [va_rf z]) e19) ?_
        refine gq_go (va_runV (b := a18) (As := []) (rest := []) ⟨hx, hb, hml, hown, hts⟩ (c_Lo_minutesBehind l G a18  _ _ e16) (cwV 0 hts (gq_gV wd_136 wd_137 wd_138 wd_42 wd_135) rfl rfl rfl (by decide +kernel) ⟨Nat.le_trans (Nat.le_of_ble_eq_true rfl) hRf, Nat.le_trans (Nat.le_of_ble_eq_true rfl) hRl⟩) (gq_preV hK hN hM hS hb0 e17 (C := R_Lo) (T := T_Lo) (N := 12) rfl) rfl rfl hl.1 rfl (lv_room (Nat.le_of_ble_eq_true rfl)) d_LR_countFailing_30 ⟨Nat.le_trans (Nat.le_of_ble_eq_true rfl) hRc, Nat.le_trans (Nat.le_of_ble_eq_true rfl) hRs⟩) hS (fun H locs hM hS => ?_)
        refine W.eq (g2 := F0 m 33 ls [.long q15.1]) rfl ?_
        refine lv_lconst (v := 0) hx hb d_LR_countFailing_33 (by decide) ?_
        refine mx_lcmp_le (tgt := 41) hx hb d_LR_countFailing_34 d_LR_countFailing_35 (by decide) (fun c20 => ?_) (fun c20 => ?_)
        · rw [if_pos c20] at h
          refine lv_iinc (v := (v2 + 1)) (lv' := [(2, .int ((v2 + 1))), (0, va_rf v0), (1, .int v1)]) hx hb d_LR_countFailing_41 hl (k := 2) rfl rfl (by decide) rfl (fun ls hl => ?_)
          refine lv_goto (tgt := 4) hx hb d_LR_countFailing_44 (by decide) ?_
          exact ih _ _ _ _ h _ _ _ (lv_sub hl [1, 2, 0] rfl) hM hS
        · rw [if_neg c20] at h
          refine lv_iinc (v := (v1 + 1)) (lv' := [(1, .int ((v1 + 1))), (0, va_rf v0), (2, .int v2)]) hx hb d_LR_countFailing_38 hl (k := 1) rfl rfl (by decide) (by simp [mx_cat, mx_cati, mx_catl, mx_catr]) (fun ls hl => ?_)
          refine lv_iinc (v := (v2 + 1)) (lv' := [(2, .int ((v2 + 1))), (1, .int ((v1 + 1))), (0, va_rf v0)]) hx hb d_LR_countFailing_41 hl (k := 2) rfl rfl (by decide) rfl (fun ls hl => ?_)
          refine lv_goto (tgt := 4) hx hb d_LR_countFailing_44 (by decide) ?_
          exact ih _ _ _ _ h _ _ _ (lv_sub hl [2, 1, 0] rfl) hM hS
set_option maxHeartbeats 4000000 in
set_option maxRecDepth 100000 in
theorem c_LR_countFailing (l : Launch) (G : mx_G) (a0 : Nat) (mem : mx_Mem) (q : Int32 × mx_Mem) (h : f_LR_countFailing a0 mem = some q) : Met l y_LR_countFailing (gq_w y_LR_countFailing b_LR_countFailing 3 (some .int)) { frames := 2, cells := 0, slots := 0, locals := 35 } (gq_P G [.ref a0] mem) (gq_Q G (some (.int q.1)) q.2) 0 0 (mx_A G) := by
  refine Met.ofW (cc := b_LR_countFailing) (maxL := 3) (ret := (some .int)) (by decide) rfl ?_
  intro p e s m args below meth c s₁ B hml hv
  obtain ⟨rfl, hb0, hM, hK, hN⟩ := hv
  have CX : gq_C p (headSpec (gq_w y_LR_countFailing b_LR_countFailing 3 (some .int)) { frames := 2, cells := 0, slots := 0, locals := 35 }).room s m _ meth c G b_LR_countFailing 3 (some .int) R_LR 2 0 0 35 := ⟨B.exec, B.bytes, hml, B.returns, findClass_of_methodNamed B.named, fun w hw => atoms_spec (ws := gq_w y_LR_countFailing b_LR_countFailing 3 (some .int)) B.pre w (List.mem_cons_of_mem _ hw), B.notSynchronized, hK, hN, hb0, Nat.le_refl _, Nat.le_refl _, Nat.le_refl _, Nat.le_refl _⟩
  obtain ⟨hx, hb, hml, hr, hown, hts, hlocks, hK, hN, hb0, hRf, hRc, hRs, hRl⟩ := id CX
  have hS : va_S (mx_A G) s.heap s.heap [] := va_S.rf
  have hl := lv_entry [.ref a0] (n := 3) (Nat.le_of_ble_eq_true rfl)
  rw [lg_entry_eq]
  generalize (lg_sl [.ref a0] ++ List.replicate (3 - (lg_sl [.ref a0]).length) Slot.unset).toArray = ls at hl ⊢
  have hl : lv_has ls 3 [(0, va_rf (some a0))] := hl
  unfold f_LR_countFailing at h
  refine lv_iconst (v := 0) hx hb d_LR_countFailing_0 (by decide) ?_
  refine lv_istore_n (lv' := [(1, .int 0), (0, va_rf (some a0))]) hx hb d_LR_countFailing_1 rfl hl (by decide) (by simp [mx_cat, mx_cati, mx_catl, mx_catr]) (fun ls hl => ?_)
  refine lv_iconst (v := 0) hx hb d_LR_countFailing_2 (by decide) ?_
  refine lv_istore_n (lv' := [(2, .int 0), (1, .int 0), (0, va_rf (some a0))]) hx hb d_LR_countFailing_3 rfl hl (by decide) rfl (fun ls hl => ?_)
  refine wfl_LR_countFailing_4 q CX  5000 _ _ _ _ h _ _ _ (lv_sub hl [2, 1, 0] rfl) hM hS
set_option maxHeartbeats 4000000 in
set_option maxRecDepth 100000 in
theorem c_LR_late (l : Launch) (G : mx_G) (a0 : Nat) (v1 : Int32) (v2 : Int64) (mem : mx_Mem) (q : Int32 × mx_Mem) (h : f_LR_late a0 v1 v2 mem = some q) : Met l y_LR_late (gq_w y_LR_late b_LR_late 5 (some .int)) { frames := 4, cells := 0, slots := 0, locals := 80 } (gq_P G [.ref a0, .int v1, .long v2] mem) (gq_Q G (some (.int q.1)) q.2) 0 0 (mx_A G) := by
  refine Met.ofW (cc := b_LR_late) (maxL := 5) (ret := (some .int)) (by decide) rfl ?_
  intro p e s m args below meth c s₁ B hml hv
  obtain ⟨rfl, hb0, hM, hK, hN⟩ := hv
  have CX : gq_C p (headSpec (gq_w y_LR_late b_LR_late 5 (some .int)) { frames := 4, cells := 0, slots := 0, locals := 80 }).room s m _ meth c G b_LR_late 5 (some .int) R_LR 4 0 0 80 := ⟨B.exec, B.bytes, hml, B.returns, findClass_of_methodNamed B.named, fun w hw => atoms_spec (ws := gq_w y_LR_late b_LR_late 5 (some .int)) B.pre w (List.mem_cons_of_mem _ hw), B.notSynchronized, hK, hN, hb0, Nat.le_refl _, Nat.le_refl _, Nat.le_refl _, Nat.le_refl _⟩
  obtain ⟨hx, hb, hml, hr, hown, hts, hlocks, hK, hN, hb0, hRf, hRc, hRs, hRl⟩ := id CX
  have hS : va_S (mx_A G) s.heap s.heap [] := va_S.rf
  have hl := lv_entry [.ref a0, .int v1, .long v2] (n := 5) (Nat.le_of_ble_eq_true rfl)
  rw [lg_entry_eq]
  generalize (lg_sl [.ref a0, .int v1, .long v2] ++ List.replicate (5 - (lg_sl [.ref a0, .int v1, .long v2]).length) Slot.unset).toArray = ls at hl ⊢
  have hl : lv_has ls 5 [(0, va_rf (some a0)), (1, .int v1), (2, .long v2)] := hl
  unfold f_LR_late at h
  refine mx_aload_n hx hb d_LR_late_0 rfl (lv_at hl 0 rfl) ?_
  refine lv_iload_n hx hb d_LR_late_1 rfl (lv_at hl 1 rfl) ?_
  obtain ⟨a4, e3, h⟩ := mx_b h
  obtain ⟨q1, e2, h⟩ := mx_b h
  have e5 := mx_c_eq e3
  refine W.eq (g2 := F0 m 2 ls [.int v1, .ref a4]) (congrArg (fun z => F0 m 2 ls [.int v1, va_rf z]) e5) ?_
  refine gq_go (va_runV (b := a4) (As := [.int v1]) (rest := []) ⟨hx, hb, hml, hown, hts⟩ (c_LR_findLine l G a4 v1 _ _ e2) (cwV 1 hts (gq_gV wd_91 wd_92 wd_93 wd_14 wd_90) rfl rfl rfl (by decide +kernel) ⟨Nat.le_trans (Nat.le_of_ble_eq_true rfl) hRf, Nat.le_trans (Nat.le_of_ble_eq_true rfl) hRl⟩) (gq_preV hK hN hM hS hb0 e3 (C := R_LR) (T := T_LR) (N := 5) rfl) rfl rfl hl.1 rfl (lv_room (Nat.le_of_ble_eq_true rfl)) d_LR_late_2 ⟨Nat.le_trans (Nat.le_of_ble_eq_true rfl) hRc, Nat.le_trans (Nat.le_of_ble_eq_true rfl) hRs⟩) hS (fun H locs hM hS => ?_)
  refine W.eq (g2 := F0 m 5 ls [va_rf q1.1]) rfl ?_
  refine mx_astore (lv' := [(4, va_rf q1.1), (0, va_rf (some a0)), (1, .int v1), (2, .long v2)]) hx hb d_LR_late_5 hl (by decide) rfl (fun ls hl => ?_)
  refine mx_aload hx hb d_LR_late_7 (lv_at hl 0 rfl) ?_
  refine mx_ifnonnull (tgt := 15) hx hb d_LR_late_9 (by decide) (fun c6 => ?_) (fun c6 => ?_)
  · rw [if_neg c6] at h
    refine lv_lload_n hx hb d_LR_late_15 rfl (lv_at hl 3 rfl) ?_
    refine lv_lconst (v := 0) hx hb d_LR_late_16 (by decide) ?_
    refine lv_ldc2 (v := 2000) hx hb hown (hts _ wd_139) d_LR_late_17 ?_
    obtain ⟨q7, e8, h⟩ := mx_b h
    refine gq_go (va_runS (As := [.long v2, .long 0, .long 2000]) (rest := []) ⟨hx, hb, hml, hown, hts⟩ (c_LR_isWithin l G v2 0 2000 _ _ e8) (cwS 3 hts (gq_gS wd_12 wd_13 wd_14 wd_11) rfl rfl rfl (by decide +kernel) ⟨Nat.le_trans (Nat.le_of_ble_eq_true rfl) hRf, Nat.le_trans (Nat.le_of_ble_eq_true rfl) hRl⟩) (gq_preS hK hN hM hS hb0) rfl rfl hl.1 rfl (lv_room (Nat.le_of_ble_eq_true rfl)) d_LR_late_20 ⟨Nat.le_trans (Nat.le_of_ble_eq_true rfl) hRc, Nat.le_trans (Nat.le_of_ble_eq_true rfl) hRs⟩) hS (fun H locs hM hS => ?_)
    refine W.eq (g2 := F0 m 23 ls [.int q7.1]) rfl ?_
    refine lv_if_ne (tgt := 29) hx hb d_LR_late_23 (by decide) (fun c10 => ?_) (fun c10 => ?_)
    · rw [if_neg c10] at h
      refine mx_aload hx hb d_LR_late_29 (lv_at hl 0 rfl) ?_
      refine lv_lload_n hx hb d_LR_late_31 rfl (lv_at hl 3 rfl) ?_
      obtain ⟨m11, e12, h⟩ := mx_b h
      refine mx_putN hx hb hts i_Li t_Li t_Li_ok n_Li hown hK hM hS e12 (ci := 1) (C := R_Li) (T := T_Li) (N := 8) rfl 5 (by decide) (va_Nw.use rfl (hN _ nw_13)) rfl (ty := .long) (by decide +kernel) rfl rfl d_LR_late_32 (fun H locs hM hS => ?_)
      refine mx_aload_n hx hb d_LR_late_35 rfl (lv_at hl 1 rfl) ?_
      obtain ⟨a16, e15, h⟩ := mx_b h
      obtain ⟨q13, e14, h⟩ := mx_b h
      have e17 := mx_c_eq e15
      refine W.eq (g2 := F0 m 36 ls [.ref a16]) (congrArg (fun z => F0 m 36 ls [va_rf z]) e17) ?_
      refine gq_go (va_runV (b := a16) (As := []) (rest := []) ⟨hx, hb, hml, hown, hts⟩ (c_LR_settle l G a16  _ _ e14) (cwV 0 hts (gq_gV wd_82 wd_83 wd_84 wd_14 wd_81) rfl rfl rfl (by decide +kernel) ⟨Nat.le_trans (Nat.le_of_ble_eq_true rfl) hRf, Nat.le_trans (Nat.le_of_ble_eq_true rfl) hRl⟩) (gq_preV hK hN hM hS hb0 e15 (C := R_LR) (T := T_LR) (N := 5) rfl) rfl rfl hl.1 rfl (lv_room (Nat.le_of_ble_eq_true rfl)) d_LR_late_36 ⟨Nat.le_trans (Nat.le_of_ble_eq_true rfl) hRc, Nat.le_trans (Nat.le_of_ble_eq_true rfl) hRs⟩) hS (fun H locs hM hS => ?_)
      refine W.eq (g2 := F0 m 39 ls []) rfl ?_
      refine mx_aload_n hx hb d_LR_late_39 rfl (lv_at hl 1 rfl) ?_
      obtain ⟨a21, e20, h⟩ := mx_b h
      obtain ⟨q18, e19, h⟩ := mx_b h
      have e22 := mx_c_eq e20
      refine W.eq (g2 := F0 m 40 ls [.ref a21]) (congrArg (fun z => F0 m 40 ls [va_rf z]) e22) ?_
      refine gq_go (va_runV (b := a21) (As := []) (rest := []) ⟨hx, hb, hml, hown, hts⟩ (c_LR_countFailing l G a21  _ _ e19) (cwV 0 hts (gq_gV wd_141 wd_142 wd_143 wd_14 wd_140) rfl rfl rfl (by decide +kernel) ⟨Nat.le_trans (Nat.le_of_ble_eq_true rfl) hRf, Nat.le_trans (Nat.le_of_ble_eq_true rfl) hRl⟩) (gq_preV hK hN hM hS hb0 e20 (C := R_LR) (T := T_LR) (N := 5) rfl) rfl rfl hl.1 rfl (lv_room (Nat.le_of_ble_eq_true rfl)) d_LR_late_40 ⟨Nat.le_trans (Nat.le_of_ble_eq_true rfl) hRc, Nat.le_trans (Nat.le_of_ble_eq_true rfl) hRs⟩) hS (fun H locs hM hS => ?_)
      refine W.eq (g2 := F0 m 43 ls [.int q18.1]) rfl ?_
      cases h
      exact W.iret hx hb hr (fun t ht hW => ⟨⟨rfl, by rw [ht]; exact hM⟩, hS.F ht⟩) hS.2.2 d_LR_late_43
    · rw [if_pos c10] at h
      refine lv_bipush (v := (-12)) hx hb d_LR_late_26 (by decide) ?_
      cases h
      exact W.iret hx hb hr (fun t ht hW => ⟨⟨rfl, by rw [ht]; exact hM⟩, hS.F ht⟩) hS.2.2 d_LR_late_28
  · rw [if_pos c6] at h
    refine lv_bipush (v := (-11)) hx hb d_LR_late_12 (by decide) ?_
    cases h
    exact W.iret hx hb hr (fun t ht hW => ⟨⟨rfl, by rw [ht]; exact hM⟩, hS.F ht⟩) hS.2.2 d_LR_late_14
set_option maxHeartbeats 4000000 in
set_option maxRecDepth 100000 in
theorem c_Lo_rememberArrival (l : Launch) (G : mx_G) (a0 : Nat) (mem : mx_Mem) (q : mx_Mem) (h : f_Lo_rememberArrival a0 mem = some q) : Met l y_Lo_rememberArrival (gq_w y_Lo_rememberArrival b_Lo_rememberArrival 1 none) { frames := 0, cells := 0, slots := 0, locals := 0 } (gq_P G [.ref a0] mem) (gq_Q G none q) 0 0 (mx_A G) := by
  refine Met.ofW (cc := b_Lo_rememberArrival) (maxL := 1) (ret := none) (by decide) rfl ?_
  intro p e s m args below meth c s₁ B hml hv
  obtain ⟨rfl, hb0, hM, hK, hN⟩ := hv
  have CX : gq_C p (headSpec (gq_w y_Lo_rememberArrival b_Lo_rememberArrival 1 none) { frames := 0, cells := 0, slots := 0, locals := 0 }).room s m _ meth c G b_Lo_rememberArrival 1 none R_Lo 0 0 0 0 := ⟨B.exec, B.bytes, hml, B.returns, findClass_of_methodNamed B.named, fun w hw => atoms_spec (ws := gq_w y_Lo_rememberArrival b_Lo_rememberArrival 1 none) B.pre w (List.mem_cons_of_mem _ hw), B.notSynchronized, hK, hN, hb0, Nat.le_refl _, Nat.le_refl _, Nat.le_refl _, Nat.le_refl _⟩
  obtain ⟨hx, hb, hml, hr, hown, hts, hlocks, hK, hN, hb0, hRf, hRc, hRs, hRl⟩ := id CX
  have hS : va_S (mx_A G) s.heap s.heap [] := va_S.rf
  have hl := lv_entry [.ref a0] (n := 1) (Nat.le_of_ble_eq_true rfl)
  rw [lg_entry_eq]
  generalize (lg_sl [.ref a0] ++ List.replicate (1 - (lg_sl [.ref a0]).length) Slot.unset).toArray = ls at hl ⊢
  have hl : lv_has ls 1 [(0, va_rf (some a0))] := hl
  unfold f_Lo_rememberArrival at h
  refine mx_aload_n hx hb d_Lo_rememberArrival_0 rfl (lv_at hl 0 rfl) ?_
  refine mx_aload_n hx hb d_Lo_rememberArrival_1 rfl (lv_at hl 0 rfl) ?_
  obtain ⟨x1, e2, h⟩ := mx_b h
  refine mx_getl hx hb hts i_Lo hown hK hM e2 (ci := 3) (C := R_Lo) (T := T_Lo) (N := 12) rfl 9 (by decide) (hts _ wd_55) d_Lo_rememberArrival_2 ?_
  obtain ⟨m3, e4, h⟩ := mx_b h
  refine mx_put hx hb hts i_Lo t_Lo t_Lo_ok n_Lo hown hK hM hS e4 (ci := 3) (C := R_Lo) (T := T_Lo) (N := 12) rfl 10 (by decide) (hts _ wd_144) rfl (ty := .long) (by decide +kernel) rfl rfl d_Lo_rememberArrival_5 (fun H locs hM hS => ?_)
  cases h
  exact W.vret hx hb hr (fun t ht hW => ⟨⟨rfl, by rw [ht]; exact hM⟩, hS.F ht⟩) hS.2.2 d_Lo_rememberArrival_8
set_option maxHeartbeats 4000000 in
set_option maxRecDepth 100000 in
theorem wfl_Lo_concerns_18 {p : Program} {l : Launch} {e : Env} {R : Room} {s : State} {m : MethodId} {args : Array Value} {below : List Frame} {meth : Method} {c : Code} {G : mx_G} (q : Int32 × mx_Mem) (CX : gq_C p R s m args meth c G b_Lo_concerns 4 (some .boolean) R_Lo 0 0 0 0)  : ∀ (n : Nat) (v0 : Option Nat) (v1 : Option Nat) (v2 : Int32) (mem : mx_Mem), fl_Lo_concerns_18  n v0 v1 v2 mem = some q → ∀ (H : Heap) (locs : List Loc) (ls : Array Slot), lv_has ls 4 [(0, va_rf v0), (1, va_rf v1), (2, .int v2)] → mx_M vwCl G mem H → va_S (mx_A G) s.heap H locs → W p l e R s m args below meth c H locs 0 0 (MQ below (gq_Q G (some (.int q.1)) q.2) args s 0 0 (mx_A G)) (F0 m 18 ls []) := by
  obtain ⟨hx, hb, hml, hr, hown, hts, hlocks, hK, hN, hb0, hRf, hRc, hRs, hRl⟩ := id CX
  intro n
  induction n with
  | zero => intro v0 v1 v2 mem h; rw [fl_Lo_concerns_18] at h; cases h
  | succ n ih =>
    intro v0 v1 v2 mem h H locs ls hl hM hS
    rw [fl_Lo_concerns_18] at h
    refine lv_iload_n hx hb d_Lo_concerns_18 rfl (lv_at hl 2 rfl) ?_
    refine mx_aload_n hx hb d_Lo_concerns_19 rfl (lv_at hl 0 rfl) ?_
    obtain ⟨x1, e2, h⟩ := mx_b h
    refine mx_geti hx hb hts i_Lo hown hK hM e2 (ci := 3) (C := R_Lo) (T := T_Lo) (N := 12) rfl 5 (by decide) (hts _ wd_25) d_Lo_concerns_20 ?_
    refine lv_icmp_ge (tgt := 59) hx hb d_Lo_concerns_23 (by decide) (fun c3 => ?_) (fun c3 => ?_)
    · rw [if_pos c3] at h
      refine lv_iconst (v := 0) hx hb d_Lo_concerns_59 (by decide) ?_
      cases h
      exact W.zret hx hb hr rfl (fun t ht hW => ⟨⟨rfl, by rw [ht]; exact hM⟩, hS.F ht⟩) hS.2.2 d_Lo_concerns_60
    · rw [if_neg c3] at h
      refine mx_aload_n hx hb d_Lo_concerns_26 rfl (lv_at hl 0 rfl) ?_
      obtain ⟨x4, e5, h⟩ := mx_b h
      refine mx_getr hx hb hts i_Lo hown hK hM e5 (ci := 3) (C := R_Lo) (T := T_Lo) (N := 12) rfl 4 (by decide) (hts _ wd_26) d_Lo_concerns_27 ?_
      refine lv_iload_n hx hb d_Lo_concerns_30 rfl (lv_at hl 2 rfl) ?_
      obtain ⟨x6, e7, h⟩ := mx_b h
      refine mx_aald hx hb hK hM e7 rfl d_Lo_concerns_31 ?_
      obtain ⟨x8, e9, h⟩ := mx_b h
      refine mx_getrN hx hb hts i_Op hown hK hM e9 (ci := 2) (C := R_Op) (T := T_Op) (N := 3) rfl 1 (by decide) (va_Nw.use rfl (hN _ nw_3)) d_Lo_concerns_32 ?_
      refine mx_astore_n (lv' := [(3, va_rf x8), (0, va_rf v0), (1, va_rf v1), (2, .int v2)]) hx hb d_Lo_concerns_35 rfl hl (by decide) rfl (fun ls hl => ?_)
      refine mx_aload_n hx hb d_Lo_concerns_36 rfl (lv_at hl 0 rfl) ?_
      refine mx_ifnull (tgt := 53) hx hb d_Lo_concerns_37 (by decide) (fun c10 => ?_) (fun c10 => ?_)
      · rw [if_pos c10] at h
        refine lv_iinc (v := (v2 + 1)) (lv' := [(2, .int ((v2 + 1))), (3, va_rf x8), (0, va_rf v0), (1, va_rf v1)]) hx hb d_Lo_concerns_53 hl (k := 3) rfl rfl (by decide) (by simp [mx_cat, mx_cati, mx_catl, mx_catr]) (fun ls hl => ?_)
        refine lv_goto (tgt := 18) hx hb d_Lo_concerns_56 (by decide) ?_
        exact ih _ _ _ _ h _ _ _ (lv_sub hl [2, 3, 0] rfl) hM hS
      · rw [if_neg c10] at h
        refine mx_aload_n hx hb d_Lo_concerns_40 rfl (lv_at hl 0 rfl) ?_
        obtain ⟨x11, e12, h⟩ := mx_b h
        refine mx_getiN hx hb hts i_Li hown hK hM e12 (ci := 1) (C := R_Li) (T := T_Li) (N := 8) rfl 0 (by decide) (va_Nw.use rfl (hN _ nw_14)) d_Lo_concerns_41 ?_
        refine mx_aload_n hx hb d_Lo_concerns_44 rfl (lv_at hl 2 rfl) ?_
        obtain ⟨x13, e14, h⟩ := mx_b h
        refine mx_getiN hx hb hts i_Li hown hK hM e14 (ci := 1) (C := R_Li) (T := T_Li) (N := 8) rfl 0 (by decide) (va_Nw.use rfl (hN _ nw_14)) d_Lo_concerns_45 ?_
        refine lv_icmp_ne (tgt := 53) hx hb d_Lo_concerns_48 (by decide) (fun c15 => ?_) (fun c15 => ?_)
        · rw [if_neg c15] at h
          refine lv_iinc (v := (v2 + 1)) (lv' := [(2, .int ((v2 + 1))), (3, va_rf x8), (0, va_rf v0), (1, va_rf v1)]) hx hb d_Lo_concerns_53 hl (k := 3) rfl rfl (by decide) (by simp [mx_cat, mx_cati, mx_catl, mx_catr]) (fun ls hl => ?_)
          refine lv_goto (tgt := 18) hx hb d_Lo_concerns_56 (by decide) ?_
          exact ih _ _ _ _ h _ _ _ (lv_sub hl [2, 3, 0] rfl) hM hS
        · rw [if_pos c15] at h
          refine lv_iconst (v := 1) hx hb d_Lo_concerns_51 (by decide) ?_
          cases h
          exact W.zret hx hb hr rfl (fun t ht hW => ⟨⟨rfl, by rw [ht]; exact hM⟩, hS.F ht⟩) hS.2.2 d_Lo_concerns_52
set_option maxHeartbeats 4000000 in
set_option maxRecDepth 100000 in
theorem c_Lo_concerns (l : Launch) (G : mx_G) (a0 : Nat) (v1 : Option Nat) (mem : mx_Mem) (q : Int32 × mx_Mem) (h : f_Lo_concerns a0 v1 mem = some q) : Met l y_Lo_concerns (gq_w y_Lo_concerns b_Lo_concerns 4 (some .boolean)) { frames := 0, cells := 0, slots := 0, locals := 0 } (gq_P G [.ref a0, va_rf v1] mem) (gq_Q G (some (.int q.1)) q.2) 0 0 (mx_A G) := by
  refine Met.ofW (cc := b_Lo_concerns) (maxL := 4) (ret := (some .boolean)) (by decide) rfl ?_
  intro p e s m args below meth c s₁ B hml hv
  obtain ⟨rfl, hb0, hM, hK, hN⟩ := hv
  have CX : gq_C p (headSpec (gq_w y_Lo_concerns b_Lo_concerns 4 (some .boolean)) { frames := 0, cells := 0, slots := 0, locals := 0 }).room s m _ meth c G b_Lo_concerns 4 (some .boolean) R_Lo 0 0 0 0 := ⟨B.exec, B.bytes, hml, B.returns, findClass_of_methodNamed B.named, fun w hw => atoms_spec (ws := gq_w y_Lo_concerns b_Lo_concerns 4 (some .boolean)) B.pre w (List.mem_cons_of_mem _ hw), B.notSynchronized, hK, hN, hb0, Nat.le_refl _, Nat.le_refl _, Nat.le_refl _, Nat.le_refl _⟩
  obtain ⟨hx, hb, hml, hr, hown, hts, hlocks, hK, hN, hb0, hRf, hRc, hRs, hRl⟩ := id CX
  have hS : va_S (mx_A G) s.heap s.heap [] := va_S.rf
  have hl := lv_entry [.ref a0, va_rf v1] (n := 4) (by simp [lg_sl, mx_cat, mx_cati, mx_catl, mx_catr])
  rw [lg_entry_eq]
  generalize (lg_sl [.ref a0, va_rf v1] ++ List.replicate (4 - (lg_sl [.ref a0, va_rf v1]).length) Slot.unset).toArray = ls at hl ⊢
  have hl : lv_has ls 4 [(0, va_rf (some a0)), (1, va_rf v1)] := by have h9 := hl; simp [lv_args, mx_cat, mx_cati, mx_catl, mx_catr] at h9; exact h9
  unfold f_Lo_concerns at h
  refine mx_aload_n hx hb d_Lo_concerns_0 rfl (lv_at hl 0 rfl) ?_
  obtain ⟨x1, e2, h⟩ := mx_b h
  refine mx_getr hx hb hts i_Lo hown hK hM e2 (ci := 3) (C := R_Lo) (T := T_Lo) (N := 12) rfl 0 (by decide) (hts _ wd_31) d_Lo_concerns_1 ?_
  obtain ⟨x3, e4, h⟩ := mx_b h
  refine mx_getiN hx hb hts i_Li hown hK hM e4 (ci := 1) (C := R_Li) (T := T_Li) (N := 8) rfl 0 (by decide) (va_Nw.use rfl (hN _ nw_14)) d_Lo_concerns_4 ?_
  refine mx_aload_n hx hb d_Lo_concerns_7 rfl (lv_at hl 1 rfl) ?_
  obtain ⟨x5, e6, h⟩ := mx_b h
  refine mx_getiN hx hb hts i_Li hown hK hM e6 (ci := 1) (C := R_Li) (T := T_Li) (N := 8) rfl 0 (by decide) (va_Nw.use rfl (hN _ nw_14)) d_Lo_concerns_8 ?_
  refine lv_icmp_ne (tgt := 16) hx hb d_Lo_concerns_11 (by decide) (fun c7 => ?_) (fun c7 => ?_)
  · rw [if_neg c7] at h
    refine lv_iconst (v := 0) hx hb d_Lo_concerns_16 (by decide) ?_
    refine lv_istore_n (lv' := [(2, .int 0), (0, va_rf (some a0)), (1, va_rf v1)]) hx hb d_Lo_concerns_17 rfl hl (by decide) (by simp [mx_cat, mx_cati, mx_catl, mx_catr]) (fun ls hl => ?_)
    refine wfl_Lo_concerns_18 q CX  5000 _ _ _ _ h _ _ _ (lv_sub hl [1, 2, 0] rfl) hM hS
  · rw [if_pos c7] at h
    refine lv_iconst (v := 1) hx hb d_Lo_concerns_14 (by decide) ?_
    cases h
    exact W.zret hx hb hr rfl (fun t ht hW => ⟨⟨rfl, by rw [ht]; exact hM⟩, hS.F ht⟩) hS.2.2 d_Lo_concerns_15
set_option maxHeartbeats 4000000 in
set_option maxRecDepth 100000 in
theorem c_Lo_pickFirst (l : Launch) (G : mx_G) (a0 : Nat) (mem : mx_Mem) (q : mx_Mem) (h : f_Lo_pickFirst a0 mem = some q) : Met l y_Lo_pickFirst (gq_w y_Lo_pickFirst b_Lo_pickFirst 1 none) { frames := 0, cells := 0, slots := 0, locals := 0 } (gq_P G [.ref a0] mem) (gq_Q G none q) 0 0 (mx_A G) := by
  refine Met.ofW (cc := b_Lo_pickFirst) (maxL := 1) (ret := none) (by decide) rfl ?_
  intro p e s m args below meth c s₁ B hml hv
  obtain ⟨rfl, hb0, hM, hK, hN⟩ := hv
  have CX : gq_C p (headSpec (gq_w y_Lo_pickFirst b_Lo_pickFirst 1 none) { frames := 0, cells := 0, slots := 0, locals := 0 }).room s m _ meth c G b_Lo_pickFirst 1 none R_Lo 0 0 0 0 := ⟨B.exec, B.bytes, hml, B.returns, findClass_of_methodNamed B.named, fun w hw => atoms_spec (ws := gq_w y_Lo_pickFirst b_Lo_pickFirst 1 none) B.pre w (List.mem_cons_of_mem _ hw), B.notSynchronized, hK, hN, hb0, Nat.le_refl _, Nat.le_refl _, Nat.le_refl _, Nat.le_refl _⟩
  obtain ⟨hx, hb, hml, hr, hown, hts, hlocks, hK, hN, hb0, hRf, hRc, hRs, hRl⟩ := id CX
  have hS : va_S (mx_A G) s.heap s.heap [] := va_S.rf
  have hl := lv_entry [.ref a0] (n := 1) (Nat.le_of_ble_eq_true rfl)
  rw [lg_entry_eq]
  generalize (lg_sl [.ref a0] ++ List.replicate (1 - (lg_sl [.ref a0]).length) Slot.unset).toArray = ls at hl ⊢
  have hl : lv_has ls 1 [(0, va_rf (some a0))] := hl
  unfold f_Lo_pickFirst at h
  refine mx_aload_n hx hb d_Lo_pickFirst_0 rfl (lv_at hl 0 rfl) ?_
  refine mx_aload_n hx hb d_Lo_pickFirst_1 rfl (lv_at hl 0 rfl) ?_
  obtain ⟨x1, e2, h⟩ := mx_b h
  refine mx_geti hx hb hts i_Lo hown hK hM e2 (ci := 3) (C := R_Lo) (T := T_Lo) (N := 12) rfl 5 (by decide) (hts _ wd_25) d_Lo_pickFirst_2 ?_
  refine lv_if_le (tgt := 12) hx hb d_Lo_pickFirst_5 (by decide) (fun c3 => ?_) (fun c3 => ?_)
  · rw [if_pos c3] at h
    refine lv_iconst (v := (-1)) hx hb d_Lo_pickFirst_12 (by decide) ?_
    obtain ⟨m4, e5, h⟩ := mx_b h
    refine mx_put hx hb hts i_Lo t_Lo t_Lo_ok n_Lo hown hK hM hS e5 (ci := 3) (C := R_Lo) (T := T_Lo) (N := 12) rfl 6 (by decide) (hts _ wd_24) rfl (ty := .int) (by decide +kernel) rfl rfl d_Lo_pickFirst_13 (fun H locs hM hS => ?_)
    cases h
    exact W.vret hx hb hr (fun t ht hW => ⟨⟨rfl, by rw [ht]; exact hM⟩, hS.F ht⟩) hS.2.2 d_Lo_pickFirst_16
  · rw [if_neg c3] at h
    refine lv_iconst (v := 0) hx hb d_Lo_pickFirst_8 (by decide) ?_
    refine lv_goto (tgt := 13) hx hb d_Lo_pickFirst_9 (by decide) ?_
    obtain ⟨m4, e5, h⟩ := mx_b h
    refine mx_put hx hb hts i_Lo t_Lo t_Lo_ok n_Lo hown hK hM hS e5 (ci := 3) (C := R_Lo) (T := T_Lo) (N := 12) rfl 6 (by decide) (hts _ wd_24) rfl (ty := .int) (by decide +kernel) rfl rfl d_Lo_pickFirst_13 (fun H locs hM hS => ?_)
    cases h
    exact W.vret hx hb hr (fun t ht hW => ⟨⟨rfl, by rw [ht]; exact hM⟩, hS.F ht⟩) hS.2.2 d_Lo_pickFirst_16
set_option maxHeartbeats 4000000 in
set_option maxRecDepth 100000 in
theorem c_Lo_hasMoved (l : Launch) (G : mx_G) (a0 : Nat) (mem : mx_Mem) (q : Int32 × mx_Mem) (h : f_Lo_hasMoved a0 mem = some q) : Met l y_Lo_hasMoved (gq_w y_Lo_hasMoved b_Lo_hasMoved 1 (some .boolean)) { frames := 0, cells := 0, slots := 0, locals := 0 } (gq_P G [.ref a0] mem) (gq_Q G (some (.int q.1)) q.2) 0 0 (mx_A G) := by
  refine Met.ofW (cc := b_Lo_hasMoved) (maxL := 1) (ret := (some .boolean)) (by decide) rfl ?_
  intro p e s m args below meth c s₁ B hml hv
  obtain ⟨rfl, hb0, hM, hK, hN⟩ := hv
  have CX : gq_C p (headSpec (gq_w y_Lo_hasMoved b_Lo_hasMoved 1 (some .boolean)) { frames := 0, cells := 0, slots := 0, locals := 0 }).room s m _ meth c G b_Lo_hasMoved 1 (some .boolean) R_Lo 0 0 0 0 := ⟨B.exec, B.bytes, hml, B.returns, findClass_of_methodNamed B.named, fun w hw => atoms_spec (ws := gq_w y_Lo_hasMoved b_Lo_hasMoved 1 (some .boolean)) B.pre w (List.mem_cons_of_mem _ hw), B.notSynchronized, hK, hN, hb0, Nat.le_refl _, Nat.le_refl _, Nat.le_refl _, Nat.le_refl _⟩
  obtain ⟨hx, hb, hml, hr, hown, hts, hlocks, hK, hN, hb0, hRf, hRc, hRs, hRl⟩ := id CX
  have hS : va_S (mx_A G) s.heap s.heap [] := va_S.rf
  have hl := lv_entry [.ref a0] (n := 1) (Nat.le_of_ble_eq_true rfl)
  rw [lg_entry_eq]
  generalize (lg_sl [.ref a0] ++ List.replicate (1 - (lg_sl [.ref a0]).length) Slot.unset).toArray = ls at hl ⊢
  have hl : lv_has ls 1 [(0, va_rf (some a0))] := hl
  unfold f_Lo_hasMoved at h
  refine mx_aload_n hx hb d_Lo_hasMoved_0 rfl (lv_at hl 0 rfl) ?_
  obtain ⟨x1, e2, h⟩ := mx_b h
  refine mx_getl hx hb hts i_Lo hown hK hM e2 (ci := 3) (C := R_Lo) (T := T_Lo) (N := 12) rfl 9 (by decide) (hts _ wd_55) d_Lo_hasMoved_1 ?_
  refine mx_aload_n hx hb d_Lo_hasMoved_4 rfl (lv_at hl 0 rfl) ?_
  obtain ⟨x3, e4, h⟩ := mx_b h
  refine mx_getl hx hb hts i_Lo hown hK hM e4 (ci := 3) (C := R_Lo) (T := T_Lo) (N := 12) rfl 10 (by decide) (hts _ wd_144) d_Lo_hasMoved_5 ?_
  refine mx_lcmp_eq (tgt := 16) hx hb d_Lo_hasMoved_8 d_Lo_hasMoved_9 (by decide) (fun c5 => ?_) (fun c5 => ?_)
  · rw [if_pos c5] at h
    refine lv_iconst (v := 0) hx hb d_Lo_hasMoved_16 (by decide) ?_
    cases h
    exact W.zret hx hb hr rfl (fun t ht hW => ⟨⟨rfl, by rw [ht]; exact hM⟩, hS.F ht⟩) hS.2.2 d_Lo_hasMoved_17
  · rw [if_neg c5] at h
    refine lv_iconst (v := 1) hx hb d_Lo_hasMoved_12 (by decide) ?_
    refine lv_goto (tgt := 17) hx hb d_Lo_hasMoved_13 (by decide) ?_
    cases h
    exact W.zret hx hb hr rfl (fun t ht hW => ⟨⟨rfl, by rw [ht]; exact hM⟩, hS.F ht⟩) hS.2.2 d_Lo_hasMoved_17
