set_option maxHeartbeats 4000000 in
set_option maxRecDepth 100000 in
theorem wfl_LR_tell_32 {p : Program} {l : Launch} {e : Env} {R : Room} {s : State} {m : MethodId} {args : Array Value} {below : List Frame} {meth : Method} {c : Code} {G : mx_G} (q : Int32 × mx_Mem) (CX : gq_C p R s m args meth c G b_LR_tell 6 (some .int) R_LR 4 0 0 80)  : ∀ (n : Nat) (v0 : Option Nat) (v2 : Int64) (v4 : Option Nat) (v5 : Int32) (mem : mx_Mem), fl_LR_tell_32  n v0 v2 v4 v5 mem = some q → ∀ (H : Heap) (locs : List Loc) (ls : Array Slot), lv_has ls 6 [(0, va_rf v0), (2, .long v2), (4, va_rf v4), (5, .int v5)] → mx_M vwCl G mem H → va_S (mx_A G) s.heap H locs → W p l e R s m args below meth c H locs 0 0 (MQ below (gq_Q G (some (.int q.1)) q.2) args s 0 0 (mx_A G)) (F0 m 32 ls []) := by
  obtain ⟨hx, hb, hml, hr, hown, hts, hlocks, hK, hN, hb0, hRf, hRc, hRs, hRl⟩ := id CX
  intro n
  induction n with
  | zero => intro v0 v2 v4 v5 mem h; rw [fl_LR_tell_32] at h; cases h
  | succ n ih =>
    intro v0 v2 v4 v5 mem h H locs ls hl hM hS
    rw [fl_LR_tell_32] at h
    refine lv_iload hx hb d_LR_tell_32 (lv_at hl 3 rfl) ?_
    refine mx_aload_n hx hb d_LR_tell_34 rfl (lv_at hl 0 rfl) ?_
    obtain ⟨x1, e2, h⟩ := mx_b h
    refine mx_geti hx hb hts i_LR hown hK hM e2 (ci := 0) (C := R_LR) (T := T_LR) (N := 5) rfl 4 (by decide) (hts _ wd_9) d_LR_tell_35 ?_
    refine lv_icmp_ge (tgt := 82) hx hb d_LR_tell_38 (by decide) (fun c3 => ?_) (fun c3 => ?_)
    · rw [if_pos c3] at h
      refine mx_aload hx hb d_LR_tell_82 (lv_at hl 2 rfl) ?_
      refine lv_lload_n hx hb d_LR_tell_84 rfl (lv_at hl 1 rfl) ?_
      obtain ⟨m4, e5, h⟩ := mx_b h
      refine mx_putN hx hb hts i_Li t_Li t_Li_ok n_Li hown hK hM hS e5 (ci := 1) (C := R_Li) (T := T_Li) (N := 8) rfl 5 (by decide) (va_Nw.use rfl (hN _ nw_13)) rfl (ty := .long) (by decide +kernel) rfl rfl d_LR_tell_85 (fun H locs hM hS => ?_)
      refine mx_aload_n hx hb d_LR_tell_88 rfl (lv_at hl 0 rfl) ?_
      obtain ⟨a9, e8, h⟩ := mx_b h
      obtain ⟨q6, e7, h⟩ := mx_b h
      have e10 := mx_c_eq e8
      refine W.eq (g2 := F0 m 89 ls [.ref a9]) (congrArg (fun z => F0 m 89 ls [va_rf z]) e10) ?_
      refine gq_go (va_runV (b := a9) (As := []) (rest := []) ⟨hx, hb, hml, hown, hts⟩ (c_LR_settle l G a9  _ _ e7) (cwV 0 hts (gq_gV wd_106 wd_107 wd_108 wd_38 wd_105) rfl rfl rfl (by decide +kernel) ⟨Nat.le_trans (Nat.le_of_ble_eq_true rfl) hRf, Nat.le_trans (Nat.le_of_ble_eq_true rfl) hRl⟩) (gq_preV hK hN hM hS hb0 e8 (C := R_LR) (T := T_LR) (N := 5) rfl) rfl rfl hl.1 rfl (lv_room (Nat.le_of_ble_eq_true rfl)) d_LR_tell_89 ⟨(Nat.le_trans (Nat.le_of_ble_eq_true rfl) hRc), (Nat.le_trans (Nat.le_of_ble_eq_true rfl) hRs)⟩) hS (fun H locs hM hS => ?_)
      refine W.eq (g2 := F0 m 92 ls []) rfl ?_
      refine mx_aload_n hx hb d_LR_tell_92 rfl (lv_at hl 0 rfl) ?_
      obtain ⟨a14, e13, h⟩ := mx_b h
      obtain ⟨q11, e12, h⟩ := mx_b h
      have e15 := mx_c_eq e13
      refine W.eq (g2 := F0 m 93 ls [.ref a14]) (congrArg (fun z => F0 m 93 ls [va_rf z]) e15) ?_
      refine gq_go (va_runV (b := a14) (As := []) (rest := []) ⟨hx, hb, hml, hown, hts⟩ (c_LR_countMoved l G a14  _ _ e12) (cwV 0 hts (gq_gV wd_220 wd_221 wd_222 wd_38 wd_219) rfl rfl rfl (by decide +kernel) ⟨Nat.le_trans (Nat.le_of_ble_eq_true rfl) hRf, Nat.le_trans (Nat.le_of_ble_eq_true rfl) hRl⟩) (gq_preV hK hN hM hS hb0 e13 (C := R_LR) (T := T_LR) (N := 5) rfl) rfl rfl hl.1 rfl (lv_room (Nat.le_of_ble_eq_true rfl)) d_LR_tell_93 ⟨(Nat.le_trans (Nat.le_of_ble_eq_true rfl) hRc), (Nat.le_trans (Nat.le_of_ble_eq_true rfl) hRs)⟩) hS (fun H locs hM hS => ?_)
      refine W.eq (g2 := F0 m 96 ls [.int q11.1]) rfl ?_
      cases h
      exact W.iret hx hb hr (fun t ht hW => ⟨⟨rfl, by rw [ht]; exact hM⟩, hS.F ht⟩) hS.2.2 d_LR_tell_96
    · rw [if_neg c3] at h
      refine mx_aload_n hx hb d_LR_tell_41 rfl (lv_at hl 0 rfl) ?_
      obtain ⟨x4, e5, h⟩ := mx_b h
      refine mx_getr hx hb hts i_LR hown hK hM e5 (ci := 0) (C := R_LR) (T := T_LR) (N := 5) rfl 2 (by decide) (hts _ wd_6) d_LR_tell_42 ?_
      refine lv_iload hx hb d_LR_tell_45 (lv_at hl 3 rfl) ?_
      obtain ⟨x6, e7, h⟩ := mx_b h
      refine mx_aald hx hb hK hM e7 rfl d_LR_tell_47 ?_
      obtain ⟨a11, e10, h⟩ := mx_b h
      obtain ⟨q8, e9, h⟩ := mx_b h
      have e12 := mx_c_eq e10
      refine W.eq (g2 := F0 m 48 ls [.ref a11]) (congrArg (fun z => F0 m 48 ls [va_rf z]) e12) ?_
      refine gq_go (va_runV (b := a11) (As := []) (rest := []) ⟨hx, hb, hml, hown, hts⟩ (c_Lo_rememberArrival l G a11  _ _ e9) (cwV 0 hts (gq_gV wd_224 wd_225 wd_226 wd_66 wd_223) rfl rfl rfl (by decide +kernel) ⟨Nat.le_trans (Nat.le_of_ble_eq_true rfl) hRf, Nat.le_trans (Nat.le_of_ble_eq_true rfl) hRl⟩) (gq_preV hK hN hM hS hb0 e10 (C := R_Lo) (T := T_Lo) (N := 12) rfl) rfl rfl hl.1 rfl (lv_room (Nat.le_of_ble_eq_true rfl)) d_LR_tell_48 ⟨(Nat.le_trans (Nat.le_of_ble_eq_true rfl) hRc), (Nat.le_trans (Nat.le_of_ble_eq_true rfl) hRs)⟩) hS (fun H locs hM hS => ?_)
      refine W.eq (g2 := F0 m 51 ls []) rfl ?_
      refine mx_aload_n hx hb d_LR_tell_51 rfl (lv_at hl 0 rfl) ?_
      obtain ⟨x13, e14, h⟩ := mx_b h
      refine mx_getr hx hb hts i_LR hown hK hM e14 (ci := 0) (C := R_LR) (T := T_LR) (N := 5) rfl 2 (by decide) (hts _ wd_6) d_LR_tell_52 ?_
      refine lv_iload hx hb d_LR_tell_55 (lv_at hl 3 rfl) ?_
      obtain ⟨x15, e16, h⟩ := mx_b h
      refine mx_aald hx hb hK hM e16 rfl d_LR_tell_57 ?_
      refine mx_aload hx hb d_LR_tell_58 (lv_at hl 2 rfl) ?_
      obtain ⟨a20, e19, h⟩ := mx_b h
      obtain ⟨q17, e18, h⟩ := mx_b h
      have e21 := mx_c_eq e19
      refine W.eq (g2 := F0 m 60 ls [va_rf v4, .ref a20]) (congrArg (fun z => F0 m 60 ls [va_rf v4, va_rf z]) e21) ?_
      refine gq_go (va_runV (b := a20) (As := [va_rf v4]) (rest := []) ⟨hx, hb, hml, hown, hts⟩ (c_Lo_concerns l G a20 v4 _ _ e18) (cwV 1 hts (gq_gV wd_228 wd_229 wd_230 wd_66 wd_227) rfl rfl rfl (by decide +kernel) ⟨Nat.le_trans (Nat.le_of_ble_eq_true rfl) hRf, Nat.le_trans (Nat.le_of_ble_eq_true rfl) hRl⟩) (gq_preV hK hN hM hS hb0 e19 (C := R_Lo) (T := T_Lo) (N := 12) rfl) rfl rfl hl.1 rfl (lv_room (Nat.le_of_ble_eq_true rfl)) d_LR_tell_60 ⟨(Nat.le_trans (Nat.le_of_ble_eq_true rfl) hRc), (Nat.le_trans (Nat.le_of_ble_eq_true rfl) hRs)⟩) hS (fun H locs hM hS => ?_)
      refine W.eq (g2 := F0 m 63 ls [.int q17.1]) rfl ?_
      refine lv_if_eq (tgt := 76) hx hb d_LR_tell_63 (by decide) (fun c22 => ?_) (fun c22 => ?_)
      · rw [if_pos c22] at h
        refine lv_iinc (v := (v5 + 1)) (lv' := [(5, .int ((v5 + 1))), (0, va_rf v0), (2, .long v2), (4, va_rf v4)]) hx hb d_LR_tell_76 hl (k := 3) rfl rfl (by decide) (by simp [mx_cat, mx_cati, mx_catl, mx_catr]) (fun ls hl => ?_)
        refine lv_goto (tgt := 32) hx hb d_LR_tell_79 (by decide) ?_
        exact ih _ _ _ _ _ h _ _ _ (lv_sub hl [1, 2, 3, 0] rfl) hM hS
      · rw [if_neg c22] at h
        refine mx_aload_n hx hb d_LR_tell_66 rfl (lv_at hl 0 rfl) ?_
        obtain ⟨x23, e24, h⟩ := mx_b h
        refine mx_getr hx hb hts i_LR hown hK hM e24 (ci := 0) (C := R_LR) (T := T_LR) (N := 5) rfl 2 (by decide) (hts _ wd_6) d_LR_tell_67 ?_
        refine lv_iload hx hb d_LR_tell_70 (lv_at hl 3 rfl) ?_
        obtain ⟨x25, e26, h⟩ := mx_b h
        refine mx_aald hx hb hK hM e26 rfl d_LR_tell_72 ?_
        obtain ⟨a30, e29, h⟩ := mx_b h
        obtain ⟨q27, e28, h⟩ := mx_b h
        have e31 := mx_c_eq e29
        refine W.eq (g2 := F0 m 73 ls [.ref a30]) (congrArg (fun z => F0 m 73 ls [va_rf z]) e31) ?_
        refine gq_go (va_runV (b := a30) (As := []) (rest := []) ⟨hx, hb, hml, hown, hts⟩ (c_Lo_pickFirst l G a30  _ _ e28) (cwV 0 hts (gq_gV wd_232 wd_233 wd_234 wd_66 wd_231) rfl rfl rfl (by decide +kernel) ⟨Nat.le_trans (Nat.le_of_ble_eq_true rfl) hRf, Nat.le_trans (Nat.le_of_ble_eq_true rfl) hRl⟩) (gq_preV hK hN hM hS hb0 e29 (C := R_Lo) (T := T_Lo) (N := 12) rfl) rfl rfl hl.1 rfl (lv_room (Nat.le_of_ble_eq_true rfl)) d_LR_tell_73 ⟨(Nat.le_trans (Nat.le_of_ble_eq_true rfl) hRc), (Nat.le_trans (Nat.le_of_ble_eq_true rfl) hRs)⟩) hS (fun H locs hM hS => ?_)
        refine W.eq (g2 := F0 m 76 ls []) rfl ?_
        refine lv_iinc (v := (v5 + 1)) (lv' := [(5, .int ((v5 + 1))), (0, va_rf v0), (2, .long v2), (4, va_rf v4)]) hx hb d_LR_tell_76 hl (k := 3) rfl rfl (by decide) (by simp [mx_cat, mx_cati, mx_catl, mx_catr]) (fun ls hl => ?_)
        refine lv_goto (tgt := 32) hx hb d_LR_tell_79 (by decide) ?_
        exact ih _ _ _ _ _ h _ _ _ (lv_sub hl [1, 2, 3, 0] rfl) hM hS
set_option maxHeartbeats 4000000 in
set_option maxRecDepth 100000 in
theorem c_LR_tell (l : Launch) (G : mx_G) (a0 : Nat) (v1 : Int32) (v2 : Int64) (mem : mx_Mem) (q : Int32 × mx_Mem) (h : f_LR_tell a0 v1 v2 mem = some q) : Met l y_LR_tell (gq_w y_LR_tell b_LR_tell 6 (some .int)) { frames := 4, cells := 0, slots := 0, locals := 80 } (gq_P G [.ref a0, .int v1, .long v2] mem) (gq_Q G (some (.int q.1)) q.2) 0 0 (mx_A G) := by
  refine Met.ofW (cc := b_LR_tell) (maxL := 6) (ret := (some .int)) (by decide) rfl ?_
  intro p e s m args below meth c s₁ B hml hv
  obtain ⟨rfl, hb0, hM, hK, hN⟩ := hv
  have CX : gq_C p (headSpec (gq_w y_LR_tell b_LR_tell 6 (some .int)) { frames := 4, cells := 0, slots := 0, locals := 80 }).room s m _ meth c G b_LR_tell 6 (some .int) R_LR 4 0 0 80 := ⟨B.exec, B.bytes, hml, B.returns, findClass_of_methodNamed B.named, fun w hw => atoms_spec (ws := gq_w y_LR_tell b_LR_tell 6 (some .int)) B.pre w (List.mem_cons_of_mem _ hw), B.notSynchronized, hK, hN, hb0, Nat.le_refl _, Nat.le_refl _, Nat.le_refl _, Nat.le_refl _⟩
  obtain ⟨hx, hb, hml, hr, hown, hts, hlocks, hK, hN, hb0, hRf, hRc, hRs, hRl⟩ := id CX
  have hS : va_S (mx_A G) s.heap s.heap [] := va_S.rf
  have hl := lv_entry [.ref a0, .int v1, .long v2] (n := 6) (Nat.le_of_ble_eq_true rfl)
  rw [lg_entry_eq]
  generalize (lg_sl [.ref a0, .int v1, .long v2] ++ List.replicate (6 - (lg_sl [.ref a0, .int v1, .long v2]).length) Slot.unset).toArray = ls at hl ⊢
  have hl : lv_has ls 6 [(0, va_rf (some a0)), (1, .int v1), (2, .long v2)] := hl
  unfold f_LR_tell at h
  refine mx_aload_n hx hb d_LR_tell_0 rfl (lv_at hl 0 rfl) ?_
  refine lv_iload_n hx hb d_LR_tell_1 rfl (lv_at hl 1 rfl) ?_
  obtain ⟨a4, e3, h⟩ := mx_b h
  obtain ⟨q1, e2, h⟩ := mx_b h
  have e5 := mx_c_eq e3
  refine W.eq (g2 := F0 m 2 ls [.int v1, .ref a4]) (congrArg (fun z => F0 m 2 ls [.int v1, va_rf z]) e5) ?_
  refine gq_go (va_runV (b := a4) (As := [.int v1]) (rest := []) ⟨hx, hb, hml, hown, hts⟩ (c_LR_findLine l G a4 v1 _ _ e2) (cwV 1 hts (gq_gV wd_123 wd_124 wd_125 wd_38 wd_122) rfl rfl rfl (by decide +kernel) ⟨Nat.le_trans (Nat.le_of_ble_eq_true rfl) hRf, Nat.le_trans (Nat.le_of_ble_eq_true rfl) hRl⟩) (gq_preV hK hN hM hS hb0 e3 (C := R_LR) (T := T_LR) (N := 5) rfl) rfl rfl hl.1 rfl (lv_room (Nat.le_of_ble_eq_true rfl)) d_LR_tell_2 ⟨(Nat.le_trans (Nat.le_of_ble_eq_true rfl) hRc), (Nat.le_trans (Nat.le_of_ble_eq_true rfl) hRs)⟩) hS (fun H locs hM hS => ?_)
  refine W.eq (g2 := F0 m 5 ls [va_rf q1.1]) rfl ?_
  refine mx_astore (lv' := [(4, va_rf q1.1), (0, va_rf (some a0)), (1, .int v1), (2, .long v2)]) hx hb d_LR_tell_5 hl (by decide) rfl (fun ls hl => ?_)
  refine mx_aload hx hb d_LR_tell_7 (lv_at hl 0 rfl) ?_
  refine mx_ifnonnull (tgt := 15) hx hb d_LR_tell_9 (by decide) (fun c6 => ?_) (fun c6 => ?_)
  · rw [if_neg c6] at h
    refine lv_lload_n hx hb d_LR_tell_15 rfl (lv_at hl 3 rfl) ?_
    refine lv_lconst (v := 0) hx hb d_LR_tell_16 (by decide) ?_
    refine lv_ldc2 (v := 2000) hx hb hown (hts _ wd_188) d_LR_tell_17 ?_
    obtain ⟨q7, e8, h⟩ := mx_b h
    refine gq_go (va_runS (As := [.long v2, .long 0, .long 2000]) (rest := []) ⟨hx, hb, hml, hown, hts⟩ (c_LR_isWithin l G v2 0 2000 _ _ e8) (cwS 3 hts (gq_gS wd_36 wd_37 wd_38 wd_35) rfl rfl rfl (by decide +kernel) ⟨Nat.le_trans (Nat.le_of_ble_eq_true rfl) hRf, Nat.le_trans (Nat.le_of_ble_eq_true rfl) hRl⟩) (gq_preS hK hN hM hS hb0) rfl rfl hl.1 rfl (lv_room (Nat.le_of_ble_eq_true rfl)) d_LR_tell_20 ⟨(Nat.le_trans (Nat.le_of_ble_eq_true rfl) hRc), (Nat.le_trans (Nat.le_of_ble_eq_true rfl) hRs)⟩) hS (fun H locs hM hS => ?_)
    refine W.eq (g2 := F0 m 23 ls [.int q7.1]) rfl ?_
    refine lv_if_ne (tgt := 29) hx hb d_LR_tell_23 (by decide) (fun c10 => ?_) (fun c10 => ?_)
    · rw [if_neg c10] at h
      refine lv_iconst (v := 0) hx hb d_LR_tell_29 (by decide) ?_
      refine lv_istore (lv' := [(5, .int 0), (4, va_rf q1.1), (0, va_rf (some a0)), (1, .int v1), (2, .long v2)]) hx hb d_LR_tell_30 hl (by decide) (by simp [mx_cat, mx_cati, mx_catl, mx_catr]) (fun ls hl => ?_)
      refine wfl_LR_tell_32 q CX  5000 _ _ _ _ _ h _ _ _ (lv_sub hl [2, 4, 1, 0] rfl) hM hS
    · rw [if_pos c10] at h
      refine lv_bipush (v := (-12)) hx hb d_LR_tell_26 (by decide) ?_
      cases h
      exact W.iret hx hb hr (fun t ht hW => ⟨⟨rfl, by rw [ht]; exact hM⟩, hS.F ht⟩) hS.2.2 d_LR_tell_28
  · rw [if_pos c6] at h
    refine lv_bipush (v := (-11)) hx hb d_LR_tell_12 (by decide) ?_
    cases h
    exact W.iret hx hb hr (fun t ht hW => ⟨⟨rfl, by rw [ht]; exact hM⟩, hS.F ht⟩) hS.2.2 d_LR_tell_14
set_option maxHeartbeats 4000000 in
set_option maxRecDepth 100000 in
theorem wfl_Mo_tell_37 {p : Program} {l : Launch} {e : Env} {R : Room} {s : State} {m : MethodId} {args : Array Value} {below : List Frame} {meth : Method} {c : Code} {G : mx_G} (q : Int32 × mx_Mem) (CX : gq_C p R s m args meth c G b_Mo_tell 7 (some .int) R_Mo 3 0 0 76) {k0 : Option Nat → Int32 → Int64 → mx_Mem → Option (Int32 × mx_Mem)} (hk0 : ∀ (v0 : Option Nat) (v1 : Int32) (v2 : Int64) (mem : mx_Mem), k0 v0 v1 v2 mem = some q → ∀ (H : Heap) (locs : List Loc) (ls : Array Slot), lv_has ls 7 [(0, va_rf v0), (1, .int v1), (2, .long v2)] → mx_M vwCl G mem H → va_S (mx_A G) s.heap H locs → W p l e R s m args below meth c H locs 0 0 (MQ below (gq_Q G (some (.int q.1)) q.2) args s 0 0 (mx_A G)) (F0 m 66 ls [])) : ∀ (n : Nat) (v0 : Option Nat) (v1 : Int32) (v2 : Int64) (v4 : Int32) (mem : mx_Mem), fl_Mo_tell_37 k0 n v0 v1 v2 v4 mem = some q → ∀ (H : Heap) (locs : List Loc) (ls : Array Slot), lv_has ls 7 [(0, va_rf v0), (1, .int v1), (2, .long v2), (4, .int v4)] → mx_M vwCl G mem H → va_S (mx_A G) s.heap H locs → W p l e R s m args below meth c H locs 0 0 (MQ below (gq_Q G (some (.int q.1)) q.2) args s 0 0 (mx_A G)) (F0 m 37 ls []) := by
  obtain ⟨hx, hb, hml, hr, hown, hts, hlocks, hK, hN, hb0, hRf, hRc, hRs, hRl⟩ := id CX
  intro n
  induction n with
  | zero => intro v0 v1 v2 v4 mem h; rw [fl_Mo_tell_37] at h; cases h
  | succ n ih =>
    intro v0 v1 v2 v4 mem h H locs ls hl hM hS
    rw [fl_Mo_tell_37] at h
    refine lv_iload hx hb d_Mo_tell_37 (lv_at hl 3 rfl) ?_
    refine mx_aload_n hx hb d_Mo_tell_39 rfl (lv_at hl 0 rfl) ?_
    obtain ⟨x1, e2, h⟩ := mx_b h
    refine mx_geti hx hb hts i_Mo hown hK hM e2 (ci := 4) (C := R_Mo) (T := T_Mo) (N := 23) rfl 9 (by decide) (hts _ wd_142) d_Mo_tell_40 ?_
    refine lv_icmp_gt (tgt := 66) hx hb d_Mo_tell_43 (by decide) (fun c3 => ?_) (fun c3 => ?_)
    · rw [if_pos c3] at h
      exact hk0 _ _ _ _ h _ _ _ (lv_sub hl [0, 1, 2] rfl) hM hS
    · rw [if_neg c3] at h
      refine mx_aload_n hx hb d_Mo_tell_46 rfl (lv_at hl 0 rfl) ?_
      obtain ⟨x4, e5, h⟩ := mx_b h
      refine mx_getr hx hb hts i_Mo hown hK hM e5 (ci := 4) (C := R_Mo) (T := T_Mo) (N := 23) rfl 22 (by decide) (hts _ wd_33) d_Mo_tell_47 ?_
      refine lv_iload hx hb d_Mo_tell_50 (lv_at hl 3 rfl) ?_
      refine mx_aload_n hx hb d_Mo_tell_52 rfl (lv_at hl 0 rfl) ?_
      obtain ⟨x6, e7, h⟩ := mx_b h
      refine mx_getr hx hb hts i_Mo hown hK hM e7 (ci := 4) (C := R_Mo) (T := T_Mo) (N := 23) rfl 19 (by decide) (hts _ wd_29) d_Mo_tell_53 ?_
      refine lv_iload hx hb d_Mo_tell_56 (lv_at hl 3 rfl) ?_
      obtain ⟨x8, e9, h⟩ := mx_b h
      refine mx_lald hx hb hK hM e9 rfl d_Mo_tell_58 ?_
      obtain ⟨m11, e10, h⟩ := mx_b h
      refine mx_last hx hb hK hM hS e10 rfl d_Mo_tell_59 (fun H locs hM hS => ?_)
      refine lv_iinc (v := (v4 + 1)) (lv' := [(4, .int ((v4 + 1))), (0, va_rf v0), (1, .int v1), (2, .long v2)]) hx hb d_Mo_tell_60 hl (k := 3) rfl rfl (by decide) rfl (fun ls hl => ?_)
      refine lv_goto (tgt := 37) hx hb d_Mo_tell_63 (by decide) ?_
      exact ih _ _ _ _ _ h _ _ _ (lv_sub hl [1, 2, 3, 0] rfl) hM hS
set_option maxHeartbeats 4000000 in
set_option maxRecDepth 100000 in
theorem wfl_Mo_tell_106 {p : Program} {l : Launch} {e : Env} {R : Room} {s : State} {m : MethodId} {args : Array Value} {below : List Frame} {meth : Method} {c : Code} {G : mx_G} (q : Int32 × mx_Mem) (CX : gq_C p R s m args meth c G b_Mo_tell 7 (some .int) R_Mo 3 0 0 76) {k0 : Option Nat → Int32 → Int32 → Int32 → mx_Mem → Option (Int32 × mx_Mem)} (hk0 : ∀ (v0 : Option Nat) (v1 : Int32) (v4 : Int32) (v5 : Int32) (mem : mx_Mem), k0 v0 v1 v4 v5 mem = some q → ∀ (H : Heap) (locs : List Loc) (ls : Array Slot), lv_has ls 7 [(0, va_rf v0), (1, .int v1), (4, .int v4), (5, .int v5)] → mx_M vwCl G mem H → va_S (mx_A G) s.heap H locs → W p l e R s m args below meth c H locs 0 0 (MQ below (gq_Q G (some (.int q.1)) q.2) args s 0 0 (mx_A G)) (F0 m 152 ls [])) : ∀ (n : Nat) (v0 : Option Nat) (v1 : Int32) (v4 : Int32) (v5 : Int32) (v6 : Int32) (mem : mx_Mem), fl_Mo_tell_106 k0 n v0 v1 v4 v5 v6 mem = some q → ∀ (H : Heap) (locs : List Loc) (ls : Array Slot), lv_has ls 7 [(0, va_rf v0), (1, .int v1), (4, .int v4), (5, .int v5), (6, .int v6)] → mx_M vwCl G mem H → va_S (mx_A G) s.heap H locs → W p l e R s m args below meth c H locs 0 0 (MQ below (gq_Q G (some (.int q.1)) q.2) args s 0 0 (mx_A G)) (F0 m 106 ls []) := by
  obtain ⟨hx, hb, hml, hr, hown, hts, hlocks, hK, hN, hb0, hRf, hRc, hRs, hRl⟩ := id CX
  intro n
  induction n with
  | zero => intro v0 v1 v4 v5 v6 mem h; rw [fl_Mo_tell_106] at h; cases h
  | succ n ih =>
    intro v0 v1 v4 v5 v6 mem h H locs ls hl hM hS
    rw [fl_Mo_tell_106] at h
    refine lv_iload hx hb d_Mo_tell_106 (lv_at hl 4 rfl) ?_
    refine mx_aload_n hx hb d_Mo_tell_108 rfl (lv_at hl 0 rfl) ?_
    obtain ⟨x1, e2, h⟩ := mx_b h
    refine mx_getr hx hb hts i_Mo hown hK hM e2 (ci := 4) (C := R_Mo) (T := T_Mo) (N := 23) rfl 14 (by decide) (hts _ wd_24) d_Mo_tell_109 ?_
    refine lv_iload hx hb d_Mo_tell_112 (lv_at hl 2 rfl) ?_
    obtain ⟨x3, e4, h⟩ := mx_b h
    refine mx_iald hx hb hK hM e4 rfl d_Mo_tell_114 ?_
    refine lv_icmp_ge (tgt := 152) hx hb d_Mo_tell_115 (by decide) (fun c5 => ?_) (fun c5 => ?_)
    · rw [if_pos c5] at h
      exact hk0 _ _ _ _ _ h _ _ _ (lv_sub hl [0, 1, 2, 3] rfl) hM hS
    · rw [if_neg c5] at h
      refine lv_iload hx hb d_Mo_tell_118 (lv_at hl 3 rfl) ?_
      refine lv_if_ne (tgt := 139) hx hb d_Mo_tell_120 (by decide) (fun c6 => ?_) (fun c6 => ?_)
      · rw [if_neg c6] at h
        refine lv_iconst (v := 1) hx hb d_Mo_tell_139 (by decide) ?_
        refine lv_goto (tgt := 144) hx hb d_Mo_tell_140 (by decide) ?_
        refine lv_istore (lv' := [(5, .int 1), (0, va_rf v0), (1, .int v1), (4, .int v4), (6, .int v6)]) hx hb d_Mo_tell_144 hl (by decide) rfl (fun ls hl => ?_)
        refine lv_iinc (v := (v6 + 1)) (lv' := [(6, .int ((v6 + 1))), (5, .int 1), (0, va_rf v0), (1, .int v1), (4, .int v4)]) hx hb d_Mo_tell_146 hl (k := 4) rfl rfl (by decide) rfl (fun ls hl => ?_)
        refine lv_goto (tgt := 106) hx hb d_Mo_tell_149 (by decide) ?_
        exact ih _ _ _ _ _ _ h _ _ _ (lv_sub hl [2, 3, 4, 1, 0] rfl) hM hS
      · rw [if_pos c6] at h
        refine mx_aload_n hx hb d_Mo_tell_123 rfl (lv_at hl 0 rfl) ?_
        obtain ⟨x7, e8, h⟩ := mx_b h
        refine mx_getr hx hb hts i_Mo hown hK hM e8 (ci := 4) (C := R_Mo) (T := T_Mo) (N := 23) rfl 17 (by decide) (hts _ wd_27) d_Mo_tell_124 ?_
        refine lv_iconst (v := 4) hx hb d_Mo_tell_127 (by decide) ?_
        refine lv_iload hx hb d_Mo_tell_128 (lv_at hl 2 rfl) ?_
        refine lv_imul hx hb d_Mo_tell_130 ?_
        refine lv_iload hx hb d_Mo_tell_131 (lv_at hl 4 rfl) ?_
        refine lv_iadd hx hb d_Mo_tell_133 ?_
        obtain ⟨x9, e10, h⟩ := mx_b h
        refine mx_iald hx hb hK hM e10 rfl d_Mo_tell_134 ?_
        refine lv_iload_n hx hb d_Mo_tell_135 rfl (lv_at hl 1 rfl) ?_
        refine lv_icmp_ne (tgt := 143) hx hb d_Mo_tell_136 (by decide) (fun c11 => ?_) (fun c11 => ?_)
        · rw [if_neg c11] at h
          refine lv_iconst (v := 0) hx hb d_Mo_tell_143 (by decide) ?_
          refine lv_istore (lv' := [(5, .int 0), (0, va_rf v0), (1, .int v1), (4, .int v4), (6, .int v6)]) hx hb d_Mo_tell_144 hl (by decide) rfl (fun ls hl => ?_)
          refine lv_iinc (v := (v6 + 1)) (lv' := [(6, .int ((v6 + 1))), (5, .int 0), (0, va_rf v0), (1, .int v1), (4, .int v4)]) hx hb d_Mo_tell_146 hl (k := 4) rfl rfl (by decide) rfl (fun ls hl => ?_)
          refine lv_goto (tgt := 106) hx hb d_Mo_tell_149 (by decide) ?_
          exact ih _ _ _ _ _ _ h _ _ _ (lv_sub hl [2, 3, 4, 1, 0] rfl) hM hS
        · rw [if_pos c11] at h
          refine lv_iconst (v := 1) hx hb d_Mo_tell_139 (by decide) ?_
          refine lv_goto (tgt := 144) hx hb d_Mo_tell_140 (by decide) ?_
          refine lv_istore (lv' := [(5, .int 1), (0, va_rf v0), (1, .int v1), (4, .int v4), (6, .int v6)]) hx hb d_Mo_tell_144 hl (by decide) rfl (fun ls hl => ?_)
          refine lv_iinc (v := (v6 + 1)) (lv' := [(6, .int ((v6 + 1))), (5, .int 1), (0, va_rf v0), (1, .int v1), (4, .int v4)]) hx hb d_Mo_tell_146 hl (k := 4) rfl rfl (by decide) rfl (fun ls hl => ?_)
          refine lv_goto (tgt := 106) hx hb d_Mo_tell_149 (by decide) ?_
          exact ih _ _ _ _ _ _ h _ _ _ (lv_sub hl [2, 3, 4, 1, 0] rfl) hM hS
set_option maxHeartbeats 4000000 in
set_option maxRecDepth 100000 in
theorem wfl_Mo_tell_76 {p : Program} {l : Launch} {e : Env} {R : Room} {s : State} {m : MethodId} {args : Array Value} {below : List Frame} {meth : Method} {c : Code} {G : mx_G} (q : Int32 × mx_Mem) (CX : gq_C p R s m args meth c G b_Mo_tell 7 (some .int) R_Mo 3 0 0 76) {k0 : Option Nat → mx_Mem → Option (Int32 × mx_Mem)} (hk0 : ∀ (v0 : Option Nat) (mem : mx_Mem), k0 v0 mem = some q → ∀ (H : Heap) (locs : List Loc) (ls : Array Slot), lv_has ls 7 [(0, va_rf v0)] → mx_M vwCl G mem H → va_S (mx_A G) s.heap H locs → W p l e R s m args below meth c H locs 0 0 (MQ below (gq_Q G (some (.int q.1)) q.2) args s 0 0 (mx_A G)) (F0 m 181 ls [])) : ∀ (n : Nat) (v0 : Option Nat) (v1 : Int32) (v4 : Int32) (mem : mx_Mem), fl_Mo_tell_76 k0 n v0 v1 v4 mem = some q → ∀ (H : Heap) (locs : List Loc) (ls : Array Slot), lv_has ls 7 [(0, va_rf v0), (1, .int v1), (4, .int v4)] → mx_M vwCl G mem H → va_S (mx_A G) s.heap H locs → W p l e R s m args below meth c H locs 0 0 (MQ below (gq_Q G (some (.int q.1)) q.2) args s 0 0 (mx_A G)) (F0 m 76 ls []) := by
  obtain ⟨hx, hb, hml, hr, hown, hts, hlocks, hK, hN, hb0, hRf, hRc, hRs, hRl⟩ := id CX
  intro n
  induction n with
  | zero => intro v0 v1 v4 mem h; rw [fl_Mo_tell_76] at h; cases h
  | succ n ih =>
    intro v0 v1 v4 mem h H locs ls hl hM hS
    rw [fl_Mo_tell_76] at h
    refine lv_iload hx hb d_Mo_tell_76 (lv_at hl 2 rfl) ?_
    refine mx_aload_n hx hb d_Mo_tell_78 rfl (lv_at hl 0 rfl) ?_
    obtain ⟨x1, e2, h⟩ := mx_b h
    refine mx_geti hx hb hts i_Mo hown hK hM e2 (ci := 4) (C := R_Mo) (T := T_Mo) (N := 23) rfl 9 (by decide) (hts _ wd_142) d_Mo_tell_79 ?_
    refine lv_icmp_gt (tgt := 181) hx hb d_Mo_tell_82 (by decide) (fun c3 => ?_) (fun c3 => ?_)
    · rw [if_pos c3] at h
      exact hk0 _ _ h _ _ _ (lv_sub hl [0] rfl) hM hS
    · rw [if_neg c3] at h
      refine mx_aload_n hx hb d_Mo_tell_85 rfl (lv_at hl 0 rfl) ?_
      obtain ⟨x4, e5, h⟩ := mx_b h
      refine mx_getr hx hb hts i_Mo hown hK hM e5 (ci := 4) (C := R_Mo) (T := T_Mo) (N := 23) rfl 10 (by decide) (hts _ wd_20) d_Mo_tell_86 ?_
      refine lv_iload hx hb d_Mo_tell_89 (lv_at hl 2 rfl) ?_
      obtain ⟨x6, e7, h⟩ := mx_b h
      refine mx_iald hx hb hK hM e7 rfl d_Mo_tell_91 ?_
      refine lv_iload_n hx hb d_Mo_tell_92 rfl (lv_at hl 1 rfl) ?_
      refine lv_icmp_ne (tgt := 100) hx hb d_Mo_tell_93 (by decide) (fun c8 => ?_) (fun c8 => ?_)
      · rw [if_neg c8] at h
        refine lv_iconst (v := 0) hx hb d_Mo_tell_100 (by decide) ?_
        refine lv_istore (lv' := [(5, .int 0), (0, va_rf v0), (1, .int v1), (4, .int v4)]) hx hb d_Mo_tell_101 hl (by decide) rfl (fun ls hl => ?_)
        refine lv_iconst (v := 0) hx hb d_Mo_tell_103 (by decide) ?_
        refine lv_istore (lv' := [(6, .int 0), (5, .int 0), (0, va_rf v0), (1, .int v1), (4, .int v4)]) hx hb d_Mo_tell_104 hl (by decide) rfl (fun ls hl => ?_)
        refine wfl_Mo_tell_106 q CX ?_ 5000 _ _ _ _ _ _ h _ _ _ (lv_sub hl [2, 3, 4, 1, 0] rfl) hM hS
        · intro v0 v1 v4 v5 m9 h H locs ls hl hM hS
          refine mx_aload_n hx hb d_Mo_tell_152 rfl (lv_at hl 0 rfl) ?_
          obtain ⟨x10, e11, h⟩ := mx_b h
          refine mx_getr hx hb hts i_Mo hown hK hM e11 (ci := 4) (C := R_Mo) (T := T_Mo) (N := 23) rfl 15 (by decide) (hts _ wd_25) d_Mo_tell_153 ?_
          refine lv_iload hx hb d_Mo_tell_156 (lv_at hl 2 rfl) ?_
          refine lv_iload hx hb d_Mo_tell_158 (lv_at hl 3 rfl) ?_
          refine lv_if_eq (tgt := 167) hx hb d_Mo_tell_160 (by decide) (fun c12 => ?_) (fun c12 => ?_)
          · rw [if_pos c12] at h
            refine mx_aload_n hx hb d_Mo_tell_167 rfl (lv_at hl 0 rfl) ?_
            obtain ⟨x13, e14, h⟩ := mx_b h
            refine mx_getr hx hb hts i_Mo hown hK hM e14 (ci := 4) (C := R_Mo) (T := T_Mo) (N := 23) rfl 15 (by decide) (hts _ wd_25) d_Mo_tell_168 ?_
            refine lv_iload hx hb d_Mo_tell_171 (lv_at hl 2 rfl) ?_
            obtain ⟨x15, e16, h⟩ := mx_b h
            refine mx_iald hx hb hK hM e16 rfl d_Mo_tell_173 ?_
            obtain ⟨m18, e17, h⟩ := mx_b h
            refine mx_iast hx hb hK hM hS e17 rfl d_Mo_tell_174 (fun H locs hM hS => ?_)
            refine lv_iinc (v := (v4 + 1)) (lv' := [(4, .int ((v4 + 1))), (0, va_rf v0), (1, .int v1), (5, .int v5)]) hx hb d_Mo_tell_175 hl (k := 2) rfl rfl (by decide) rfl (fun ls hl => ?_)
            refine lv_goto (tgt := 76) hx hb d_Mo_tell_178 (by decide) ?_
            exact ih _ _ _ _ h _ _ _ (lv_sub hl [1, 2, 0] rfl) hM hS
          · rw [if_neg c12] at h
            refine lv_iconst (v := 0) hx hb d_Mo_tell_163 (by decide) ?_
            refine lv_goto (tgt := 174) hx hb d_Mo_tell_164 (by decide) ?_
            obtain ⟨m14, e13, h⟩ := mx_b h
            refine mx_iast hx hb hK hM hS e13 rfl d_Mo_tell_174 (fun H locs hM hS => ?_)
            refine lv_iinc (v := (v4 + 1)) (lv' := [(4, .int ((v4 + 1))), (0, va_rf v0), (1, .int v1), (5, .int v5)]) hx hb d_Mo_tell_175 hl (k := 2) rfl rfl (by decide) rfl (fun ls hl => ?_)
            refine lv_goto (tgt := 76) hx hb d_Mo_tell_178 (by decide) ?_
            exact ih _ _ _ _ h _ _ _ (lv_sub hl [1, 2, 0] rfl) hM hS
      · rw [if_pos c8] at h
        refine lv_iconst (v := 1) hx hb d_Mo_tell_96 (by decide) ?_
        refine lv_goto (tgt := 101) hx hb d_Mo_tell_97 (by decide) ?_
        refine lv_istore (lv' := [(5, .int 1), (0, va_rf v0), (1, .int v1), (4, .int v4)]) hx hb d_Mo_tell_101 hl (by decide) rfl (fun ls hl => ?_)
        refine lv_iconst (v := 0) hx hb d_Mo_tell_103 (by decide) ?_
        refine lv_istore (lv' := [(6, .int 0), (5, .int 1), (0, va_rf v0), (1, .int v1), (4, .int v4)]) hx hb d_Mo_tell_104 hl (by decide) rfl (fun ls hl => ?_)
        refine wfl_Mo_tell_106 q CX ?_ 5000 _ _ _ _ _ _ h _ _ _ (lv_sub hl [2, 3, 4, 1, 0] rfl) hM hS
        · intro v0 v1 v4 v5 m9 h H locs ls hl hM hS
          refine mx_aload_n hx hb d_Mo_tell_152 rfl (lv_at hl 0 rfl) ?_
          obtain ⟨x10, e11, h⟩ := mx_b h
          refine mx_getr hx hb hts i_Mo hown hK hM e11 (ci := 4) (C := R_Mo) (T := T_Mo) (N := 23) rfl 15 (by decide) (hts _ wd_25) d_Mo_tell_153 ?_
          refine lv_iload hx hb d_Mo_tell_156 (lv_at hl 2 rfl) ?_
          refine lv_iload hx hb d_Mo_tell_158 (lv_at hl 3 rfl) ?_
          refine lv_if_eq (tgt := 167) hx hb d_Mo_tell_160 (by decide) (fun c12 => ?_) (fun c12 => ?_)
          · rw [if_pos c12] at h
            refine mx_aload_n hx hb d_Mo_tell_167 rfl (lv_at hl 0 rfl) ?_
            obtain ⟨x13, e14, h⟩ := mx_b h
            refine mx_getr hx hb hts i_Mo hown hK hM e14 (ci := 4) (C := R_Mo) (T := T_Mo) (N := 23) rfl 15 (by decide) (hts _ wd_25) d_Mo_tell_168 ?_
            refine lv_iload hx hb d_Mo_tell_171 (lv_at hl 2 rfl) ?_
            obtain ⟨x15, e16, h⟩ := mx_b h
            refine mx_iald hx hb hK hM e16 rfl d_Mo_tell_173 ?_
            obtain ⟨m18, e17, h⟩ := mx_b h
            refine mx_iast hx hb hK hM hS e17 rfl d_Mo_tell_174 (fun H locs hM hS => ?_)
            refine lv_iinc (v := (v4 + 1)) (lv' := [(4, .int ((v4 + 1))), (0, va_rf v0), (1, .int v1), (5, .int v5)]) hx hb d_Mo_tell_175 hl (k := 2) rfl rfl (by decide) rfl (fun ls hl => ?_)
            refine lv_goto (tgt := 76) hx hb d_Mo_tell_178 (by decide) ?_
            exact ih _ _ _ _ h _ _ _ (lv_sub hl [1, 2, 0] rfl) hM hS
          · rw [if_neg c12] at h
            refine lv_iconst (v := 0) hx hb d_Mo_tell_163 (by decide) ?_
            refine lv_goto (tgt := 174) hx hb d_Mo_tell_164 (by decide) ?_
            obtain ⟨m14, e13, h⟩ := mx_b h
            refine mx_iast hx hb hK hM hS e13 rfl d_Mo_tell_174 (fun H locs hM hS => ?_)
            refine lv_iinc (v := (v4 + 1)) (lv' := [(4, .int ((v4 + 1))), (0, va_rf v0), (1, .int v1), (5, .int v5)]) hx hb d_Mo_tell_175 hl (k := 2) rfl rfl (by decide) rfl (fun ls hl => ?_)
            refine lv_goto (tgt := 76) hx hb d_Mo_tell_178 (by decide) ?_
            exact ih _ _ _ _ h _ _ _ (lv_sub hl [1, 2, 0] rfl) hM hS
set_option maxHeartbeats 4000000 in
set_option maxRecDepth 100000 in
theorem wfl_Mo_tell_191 {p : Program} {l : Launch} {e : Env} {R : Room} {s : State} {m : MethodId} {args : Array Value} {below : List Frame} {meth : Method} {c : Code} {G : mx_G} (q : Int32 × mx_Mem) (CX : gq_C p R s m args meth c G b_Mo_tell 7 (some .int) R_Mo 3 0 0 76)  : ∀ (n : Nat) (v0 : Option Nat) (v4 : Int32) (v5 : Int32) (mem : mx_Mem), fl_Mo_tell_191  n v0 v4 v5 mem = some q → ∀ (H : Heap) (locs : List Loc) (ls : Array Slot), lv_has ls 7 [(0, va_rf v0), (4, .int v4), (5, .int v5)] → mx_M vwCl G mem H → va_S (mx_A G) s.heap H locs → W p l e R s m args below meth c H locs 0 0 (MQ below (gq_Q G (some (.int q.1)) q.2) args s 0 0 (mx_A G)) (F0 m 191 ls []) := by
  obtain ⟨hx, hb, hml, hr, hown, hts, hlocks, hK, hN, hb0, hRf, hRc, hRs, hRl⟩ := id CX
  intro n
  induction n with
  | zero => intro v0 v4 v5 mem h; rw [fl_Mo_tell_191] at h; cases h
  | succ n ih =>
    intro v0 v4 v5 mem h H locs ls hl hM hS
    rw [fl_Mo_tell_191] at h
    refine lv_iload hx hb d_Mo_tell_191 (lv_at hl 2 rfl) ?_
    refine mx_aload_n hx hb d_Mo_tell_193 rfl (lv_at hl 0 rfl) ?_
    obtain ⟨x1, e2, h⟩ := mx_b h
    refine mx_geti hx hb hts i_Mo hown hK hM e2 (ci := 4) (C := R_Mo) (T := T_Mo) (N := 23) rfl 9 (by decide) (hts _ wd_142) d_Mo_tell_194 ?_
    refine lv_icmp_gt (tgt := 234) hx hb d_Mo_tell_197 (by decide) (fun c3 => ?_) (fun c3 => ?_)
    · rw [if_pos c3] at h
      refine lv_iload hx hb d_Mo_tell_234 (lv_at hl 1 rfl) ?_
      cases h
      exact W.iret hx hb hr (fun t ht hW => ⟨⟨rfl, by rw [ht]; exact hM⟩, hS.F ht⟩) hS.2.2 d_Mo_tell_236
    · rw [if_neg c3] at h
      refine lv_iload hx hb d_Mo_tell_200 (lv_at hl 1 rfl) ?_
      refine mx_aload_n hx hb d_Mo_tell_202 rfl (lv_at hl 0 rfl) ?_
      obtain ⟨x4, e5, h⟩ := mx_b h
      refine mx_getr hx hb hts i_Mo hown hK hM e5 (ci := 4) (C := R_Mo) (T := T_Mo) (N := 23) rfl 19 (by decide) (hts _ wd_29) d_Mo_tell_203 ?_
      refine lv_iload hx hb d_Mo_tell_206 (lv_at hl 2 rfl) ?_
      obtain ⟨x6, e7, h⟩ := mx_b h
      refine mx_lald hx hb hK hM e7 rfl d_Mo_tell_208 ?_
      refine mx_aload_n hx hb d_Mo_tell_209 rfl (lv_at hl 0 rfl) ?_
      obtain ⟨x8, e9, h⟩ := mx_b h
      refine mx_getr hx hb hts i_Mo hown hK hM e9 (ci := 4) (C := R_Mo) (T := T_Mo) (N := 23) rfl 22 (by decide) (hts _ wd_33) d_Mo_tell_210 ?_
      refine lv_iload hx hb d_Mo_tell_213 (lv_at hl 2 rfl) ?_
      obtain ⟨x10, e11, h⟩ := mx_b h
      refine mx_lald hx hb hK hM e11 rfl d_Mo_tell_215 ?_
      refine mx_lcmp_eq (tgt := 224) hx hb d_Mo_tell_216 d_Mo_tell_217 (by decide) (fun c12 => ?_) (fun c12 => ?_)
      · rw [if_pos c12] at h
        refine lv_iconst (v := 0) hx hb d_Mo_tell_224 (by decide) ?_
        refine lv_iadd hx hb d_Mo_tell_225 ?_
        refine lv_istore (lv' := [(4, .int ((v4 + 0))), (0, va_rf v0), (5, .int v5)]) hx hb d_Mo_tell_226 hl (by decide) rfl (fun ls hl => ?_)
        refine lv_iinc (v := (v5 + 1)) (lv' := [(5, .int ((v5 + 1))), (4, .int ((v4 + 0))), (0, va_rf v0)]) hx hb d_Mo_tell_228 hl (k := 2) rfl rfl (by decide) rfl (fun ls hl => ?_)
        refine lv_goto (tgt := 191) hx hb d_Mo_tell_231 (by decide) ?_
        exact ih _ _ _ _ h _ _ _ (lv_sub hl [2, 1, 0] rfl) hM hS
      · rw [if_neg c12] at h
        refine lv_iconst (v := 1) hx hb d_Mo_tell_220 (by decide) ?_
        refine lv_goto (tgt := 225) hx hb d_Mo_tell_221 (by decide) ?_
        refine lv_iadd hx hb d_Mo_tell_225 ?_
        refine lv_istore (lv' := [(4, .int ((v4 + 1))), (0, va_rf v0), (5, .int v5)]) hx hb d_Mo_tell_226 hl (by decide) rfl (fun ls hl => ?_)
        refine lv_iinc (v := (v5 + 1)) (lv' := [(5, .int ((v5 + 1))), (4, .int ((v4 + 1))), (0, va_rf v0)]) hx hb d_Mo_tell_228 hl (k := 2) rfl rfl (by decide) rfl (fun ls hl => ?_)
        refine lv_goto (tgt := 191) hx hb d_Mo_tell_231 (by decide) ?_
        exact ih _ _ _ _ h _ _ _ (lv_sub hl [2, 1, 0] rfl) hM hS
set_option maxHeartbeats 4000000 in
set_option maxRecDepth 100000 in
theorem c_Mo_tell (l : Launch) (G : mx_G) (a0 : Nat) (v1 : Int32) (v2 : Int64) (mem : mx_Mem) (q : Int32 × mx_Mem) (h : f_Mo_tell a0 v1 v2 mem = some q) : Met l y_Mo_tell (gq_w y_Mo_tell b_Mo_tell 7 (some .int)) { frames := 3, cells := 0, slots := 0, locals := 76 } (gq_P G [.ref a0, .int v1, .long v2] mem) (gq_Q G (some (.int q.1)) q.2) 0 0 (mx_A G) := by
  refine Met.ofW (cc := b_Mo_tell) (maxL := 7) (ret := (some .int)) (by decide) rfl ?_
  intro p e s m args below meth c s₁ B hml hv
  obtain ⟨rfl, hb0, hM, hK, hN⟩ := hv
  have CX : gq_C p (headSpec (gq_w y_Mo_tell b_Mo_tell 7 (some .int)) { frames := 3, cells := 0, slots := 0, locals := 76 }).room s m _ meth c G b_Mo_tell 7 (some .int) R_Mo 3 0 0 76 := ⟨B.exec, B.bytes, hml, B.returns, findClass_of_methodNamed B.named, fun w hw => atoms_spec (ws := gq_w y_Mo_tell b_Mo_tell 7 (some .int)) B.pre w (List.mem_cons_of_mem _ hw), B.notSynchronized, hK, hN, hb0, Nat.le_refl _, Nat.le_refl _, Nat.le_refl _, Nat.le_refl _⟩
  obtain ⟨hx, hb, hml, hr, hown, hts, hlocks, hK, hN, hb0, hRf, hRc, hRs, hRl⟩ := id CX
  have hS : va_S (mx_A G) s.heap s.heap [] := va_S.rf
  have hl := lv_entry [.ref a0, .int v1, .long v2] (n := 7) (Nat.le_of_ble_eq_true rfl)
  rw [lg_entry_eq]
  generalize (lg_sl [.ref a0, .int v1, .long v2] ++ List.replicate (7 - (lg_sl [.ref a0, .int v1, .long v2]).length) Slot.unset).toArray = ls at hl ⊢
  have hl : lv_has ls 7 [(0, va_rf (some a0)), (1, .int v1), (2, .long v2)] := hl
  unfold f_Mo_tell at h
  refine mx_aload_n hx hb d_Mo_tell_0 rfl (lv_at hl 0 rfl) ?_
  refine lv_iconst (v := 0) hx hb d_Mo_tell_1 (by decide) ?_
  obtain ⟨m1, e2, h⟩ := mx_b h
  refine mx_put hx hb hts i_Mo t_Mo t_Mo_ok n_Mo hown hK hM hS e2 (ci := 4) (C := R_Mo) (T := T_Mo) (N := 23) rfl 0 (by decide) (hts _ wd_109) rfl (ty := .int) (by decide +kernel) rfl rfl d_Mo_tell_2 (fun H locs hM hS => ?_)
  refine mx_aload_n hx hb d_Mo_tell_5 rfl (lv_at hl 0 rfl) ?_
  refine lv_iload_n hx hb d_Mo_tell_6 rfl (lv_at hl 1 rfl) ?_
  obtain ⟨a6, e5, h⟩ := mx_b h
  obtain ⟨q3, e4, h⟩ := mx_b h
  have e7 := mx_c_eq e5
  refine W.eq (g2 := F0 m 7 ls [.int v1, .ref a6]) (congrArg (fun z => F0 m 7 ls [.int v1, va_rf z]) e7) ?_
  refine gq_go (va_runV (b := a6) (As := [.int v1]) (rest := []) ⟨hx, hb, hml, hown, hts⟩ (c_Mo_isLine l G a6 v1 _ _ e4) (cwV 1 hts (gq_gV wd_137 wd_138 wd_139 wd_114 wd_136) rfl rfl rfl (by decide +kernel) ⟨Nat.le_trans (Nat.le_of_ble_eq_true rfl) hRf, Nat.le_trans (Nat.le_of_ble_eq_true rfl) hRl⟩) (gq_preV hK hN hM hS hb0 e5 (C := R_Mo) (T := T_Mo) (N := 23) rfl) rfl rfl hl.1 rfl (lv_room (Nat.le_of_ble_eq_true rfl)) d_Mo_tell_7 ⟨(Nat.le_trans (Nat.le_of_ble_eq_true rfl) hRc), (Nat.le_trans (Nat.le_of_ble_eq_true rfl) hRs)⟩) hS (fun H locs hM hS => ?_)
  refine W.eq (g2 := F0 m 10 ls [.int q3.1]) rfl ?_
  refine lv_if_ne (tgt := 16) hx hb d_Mo_tell_10 (by decide) (fun c8 => ?_) (fun c8 => ?_)
  · rw [if_neg c8] at h
    refine lv_lload_n hx hb d_Mo_tell_16 rfl (lv_at hl 2 rfl) ?_
    refine lv_lconst (v := 0) hx hb d_Mo_tell_17 (by decide) ?_
    refine lv_ldc2 (v := 2000) hx hb hown (hts _ wd_209) d_Mo_tell_18 ?_
    obtain ⟨q9, e10, h⟩ := mx_b h
    refine gq_go (va_runS (As := [.long v2, .long 0, .long 2000]) (rest := []) ⟨hx, hb, hml, hown, hts⟩ (c_Mo_in l G v2 0 2000 _ _ e10) (cwS 3 hts (gq_gS wd_112 wd_113 wd_114 wd_111) rfl rfl rfl (by decide +kernel) ⟨Nat.le_trans (Nat.le_of_ble_eq_true rfl) hRf, Nat.le_trans (Nat.le_of_ble_eq_true rfl) hRl⟩) (gq_preS hK hN hM hS hb0) rfl rfl hl.1 rfl (lv_room (Nat.le_of_ble_eq_true rfl)) d_Mo_tell_21 ⟨(Nat.le_trans (Nat.le_of_ble_eq_true rfl) hRc), (Nat.le_trans (Nat.le_of_ble_eq_true rfl) hRs)⟩) hS (fun H locs hM hS => ?_)
    refine W.eq (g2 := F0 m 24 ls [.int q9.1]) rfl ?_
    refine lv_if_ne (tgt := 30) hx hb d_Mo_tell_24 (by decide) (fun c12 => ?_) (fun c12 => ?_)
    · rw [if_neg c12] at h
      refine mx_aload_n hx hb d_Mo_tell_30 rfl (lv_at hl 0 rfl) ?_
      obtain ⟨a16, e15, h⟩ := mx_b h
      obtain ⟨q13, e14, h⟩ := mx_b h
      have e17 := mx_c_eq e15
      refine W.eq (g2 := F0 m 31 ls [.ref a16]) (congrArg (fun z => F0 m 31 ls [va_rf z]) e17) ?_
      refine gq_go (va_runV (b := a16) (As := []) (rest := []) ⟨hx, hb, hml, hown, hts⟩ (c_Mo_reckon l G a16  _ _ e14) (cwV 0 hts (gq_gV wd_211 wd_212 wd_213 wd_114 wd_210) rfl rfl rfl (by decide +kernel) ⟨Nat.le_trans (Nat.le_of_ble_eq_true rfl) hRf, Nat.le_trans (Nat.le_of_ble_eq_true rfl) hRl⟩) (gq_preV hK hN hM hS hb0 e15 (C := R_Mo) (T := T_Mo) (N := 23) rfl) rfl rfl hl.1 rfl (lv_room (Nat.le_of_ble_eq_true rfl)) d_Mo_tell_31 ⟨(Nat.le_trans (Nat.le_of_ble_eq_true rfl) hRc), (Nat.le_trans (Nat.le_of_ble_eq_true rfl) hRs)⟩) hS (fun H locs hM hS => ?_)
      refine W.eq (g2 := F0 m 34 ls []) rfl ?_
      refine lv_iconst (v := 1) hx hb d_Mo_tell_34 (by decide) ?_
      refine lv_istore (lv' := [(4, .int 1), (0, va_rf (some a0)), (1, .int v1), (2, .long v2)]) hx hb d_Mo_tell_35 hl (by decide) rfl (fun ls hl => ?_)
      refine wfl_Mo_tell_37 q CX ?_ 5000 _ _ _ _ _ h _ _ _ (lv_sub hl [1, 2, 3, 0] rfl) hM hS
      · intro v0 v1 v2 m18 h H locs ls hl hM hS
        refine mx_aload_n hx hb d_Mo_tell_66 rfl (lv_at hl 0 rfl) ?_
        obtain ⟨x19, e20, h⟩ := mx_b h
        refine mx_getr hx hb hts i_Mo hown hK hM e20 (ci := 4) (C := R_Mo) (T := T_Mo) (N := 23) rfl 6 (by decide) (hts _ wd_17) d_Mo_tell_67 ?_
        refine lv_iload_n hx hb d_Mo_tell_70 rfl (lv_at hl 1 rfl) ?_
        refine lv_lload_n hx hb d_Mo_tell_71 rfl (lv_at hl 2 rfl) ?_
        obtain ⟨m22, e21, h⟩ := mx_b h
        refine mx_last hx hb hK hM hS e21 rfl d_Mo_tell_72 (fun H locs hM hS => ?_)
        refine lv_iconst (v := 1) hx hb d_Mo_tell_73 (by decide) ?_
        refine lv_istore (lv' := [(4, .int 1), (0, va_rf v0), (1, .int v1), (2, .long v2)]) hx hb d_Mo_tell_74 hl (by decide) rfl (fun ls hl => ?_)
        refine wfl_Mo_tell_76 q CX ?_ 5000 _ _ _ _ h _ _ _ (lv_sub hl [1, 2, 0] rfl) hM hS
        · intro v0 m23 h H locs ls hl hM hS
          refine mx_aload_n hx hb d_Mo_tell_181 rfl (lv_at hl 0 rfl) ?_
          obtain ⟨a27, e26, h⟩ := mx_b h
          obtain ⟨q24, e25, h⟩ := mx_b h
          have e28 := mx_c_eq e26
          refine W.eq (g2 := F0 m 182 ls [.ref a27]) (congrArg (fun z => F0 m 182 ls [va_rf z]) e28) ?_
          refine gq_go (va_runV (b := a27) (As := []) (rest := []) ⟨hx, hb, hml, hown, hts⟩ (c_Mo_reckon l G a27  _ _ e25) (cwV 0 hts (gq_gV wd_211 wd_212 wd_213 wd_114 wd_210) rfl rfl rfl (by decide +kernel) ⟨Nat.le_trans (Nat.le_of_ble_eq_true rfl) hRf, Nat.le_trans (Nat.le_of_ble_eq_true rfl) hRl⟩) (gq_preV hK hN hM hS hb0 e26 (C := R_Mo) (T := T_Mo) (N := 23) rfl) rfl rfl hl.1 rfl (lv_room (Nat.le_of_ble_eq_true rfl)) d_Mo_tell_182 ⟨(Nat.le_trans (Nat.le_of_ble_eq_true rfl) hRc), (Nat.le_trans (Nat.le_of_ble_eq_true rfl) hRs)⟩) hS (fun H locs hM hS => ?_)
          refine W.eq (g2 := F0 m 185 ls []) rfl ?_
          refine lv_iconst (v := 0) hx hb d_Mo_tell_185 (by decide) ?_
          refine lv_istore (lv' := [(4, .int 0), (0, va_rf v0)]) hx hb d_Mo_tell_186 hl (by decide) rfl (fun ls hl => ?_)
          refine lv_iconst (v := 1) hx hb d_Mo_tell_188 (by decide) ?_
          refine lv_istore (lv' := [(5, .int 1), (4, .int 0), (0, va_rf v0)]) hx hb d_Mo_tell_189 hl (by decide) rfl (fun ls hl => ?_)
          refine wfl_Mo_tell_191 q CX  5000 _ _ _ _ h _ _ _ (lv_sub hl [2, 1, 0] rfl) hM hS
    · rw [if_pos c12] at h
      refine lv_bipush (v := (-12)) hx hb d_Mo_tell_27 (by decide) ?_
      cases h
      exact W.iret hx hb hr (fun t ht hW => ⟨⟨rfl, by rw [ht]; exact hM⟩, hS.F ht⟩) hS.2.2 d_Mo_tell_29
  · rw [if_pos c8] at h
    refine lv_bipush (v := (-11)) hx hb d_Mo_tell_13 (by decide) ?_
    cases h
    exact W.iret hx hb hr (fun t ht hW => ⟨⟨rfl, by rw [ht]; exact hM⟩, hS.F ht⟩) hS.2.2 d_Mo_tell_15
set_option maxHeartbeats 4000000 in
set_option maxRecDepth 100000 in
theorem c_Lo_harm (l : Launch) (G : mx_G) (a0 : Nat) (mem : mx_Mem) (q : Int64 × mx_Mem) (h : f_Lo_harm a0 mem = some q) : Met l y_Lo_harm (gq_w y_Lo_harm b_Lo_harm 2 (some .long)) { frames := 2, cells := 0, slots := 0, locals := 35 } (gq_P G [.ref a0] mem) (gq_Q G (some (.long q.1)) q.2) 0 0 (mx_A G) := by
  refine Met.ofW (cc := b_Lo_harm) (maxL := 2) (ret := (some .long)) (by decide) rfl ?_
  intro p e s m args below meth c s₁ B hml hv
  obtain ⟨rfl, hb0, hM, hK, hN⟩ := hv
  have CX : gq_C p (headSpec (gq_w y_Lo_harm b_Lo_harm 2 (some .long)) { frames := 2, cells := 0, slots := 0, locals := 35 }).room s m _ meth c G b_Lo_harm 2 (some .long) R_Lo 2 0 0 35 := ⟨B.exec, B.bytes, hml, B.returns, findClass_of_methodNamed B.named, fun w hw => atoms_spec (ws := gq_w y_Lo_harm b_Lo_harm 2 (some .long)) B.pre w (List.mem_cons_of_mem _ hw), B.notSynchronized, hK, hN, hb0, Nat.le_refl _, Nat.le_refl _, Nat.le_refl _, Nat.le_refl _⟩
  obtain ⟨hx, hb, hml, hr, hown, hts, hlocks, hK, hN, hb0, hRf, hRc, hRs, hRl⟩ := id CX
  have hS : va_S (mx_A G) s.heap s.heap [] := va_S.rf
  have hl := lv_entry [.ref a0] (n := 2) (Nat.le_of_ble_eq_true rfl)
  rw [lg_entry_eq]
  generalize (lg_sl [.ref a0] ++ List.replicate (2 - (lg_sl [.ref a0]).length) Slot.unset).toArray = ls at hl ⊢
  have hl : lv_has ls 2 [(0, va_rf (some a0))] := hl
  unfold f_Lo_harm at h
  refine mx_aload_n hx hb d_Lo_harm_0 rfl (lv_at hl 0 rfl) ?_
  obtain ⟨a4, e3, h⟩ := mx_b h
  obtain ⟨q1, e2, h⟩ := mx_b h
  have e5 := mx_c_eq e3
  refine W.eq (g2 := F0 m 1 ls [.ref a4]) (congrArg (fun z => F0 m 1 ls [va_rf z]) e5) ?_
  refine gq_go (va_runV (b := a4) (As := []) (rest := []) ⟨hx, hb, hml, hown, hts⟩ (c_Lo_pickedOption l G a4  _ _ e2) (cwV 0 hts (gq_gV wd_63 wd_64 wd_65 wd_66 wd_62) rfl rfl rfl (by decide +kernel) ⟨Nat.le_trans (Nat.le_of_ble_eq_true rfl) hRf, Nat.le_trans (Nat.le_of_ble_eq_true rfl) hRl⟩) (gq_preV hK hN hM hS hb0 e3 (C := R_Lo) (T := T_Lo) (N := 12) rfl) rfl rfl hl.1 rfl (lv_room (Nat.le_of_ble_eq_true rfl)) d_Lo_harm_1 ⟨(Nat.le_trans (Nat.le_of_ble_eq_true rfl) hRc), (Nat.le_trans (Nat.le_of_ble_eq_true rfl) hRs)⟩) hS (fun H locs hM hS => ?_)
  refine W.eq (g2 := F0 m 4 ls [va_rf q1.1]) rfl ?_
  refine mx_astore_n (lv' := [(1, va_rf q1.1), (0, va_rf (some a0))]) hx hb d_Lo_harm_4 rfl hl (by decide) (by simp [mx_cat, mx_cati, mx_catl, mx_catr]) (fun ls hl => ?_)
  refine mx_aload_n hx hb d_Lo_harm_5 rfl (lv_at hl 1 rfl) ?_
  obtain ⟨x6, e7, h⟩ := mx_b h
  refine mx_geti hx hb hts i_Lo hown hK hM e7 (ci := 3) (C := R_Lo) (T := T_Lo) (N := 12) rfl 3 (by decide) (hts _ wd_120) d_Lo_harm_6 ?_
  refine lv_i2l hx hb d_Lo_harm_9 rfl ?_
  refine mx_aload_n hx hb d_Lo_harm_10 rfl (lv_at hl 1 rfl) ?_
  obtain ⟨a11, e10, h⟩ := mx_b h
  obtain ⟨q8, e9, h⟩ := mx_b h
  have e12 := mx_c_eq e10
  refine W.eq (g2 := F0 m 11 ls [.ref a11, .long x6.toInt64]) (congrArg (fun z => F0 m 11 ls [va_rf z, .long x6.toInt64]) e12) ?_
  refine gq_go (va_runV (b := a11) (As := []) (rest := [.long x6.toInt64]) ⟨hx, hb, hml, hown, hts⟩ (c_Lo_minutesBehind l G a11  _ _ e9) (cwV 0 hts (gq_gV wd_235 wd_186 wd_187 wd_66 wd_184) rfl rfl rfl (by decide +kernel) ⟨Nat.le_trans (Nat.le_of_ble_eq_true rfl) hRf, Nat.le_trans (Nat.le_of_ble_eq_true rfl) hRl⟩) (gq_preV hK hN hM hS hb0 e10 (C := R_Lo) (T := T_Lo) (N := 12) rfl) rfl rfl hl.1 rfl (lv_room (Nat.le_of_ble_eq_true rfl)) d_Lo_harm_11 ⟨(Nat.le_trans (Nat.le_of_ble_eq_true rfl) hRc), (Nat.le_trans (Nat.le_of_ble_eq_true rfl) hRs)⟩) hS (fun H locs hM hS => ?_)
  refine W.eq (g2 := F0 m 14 ls [.long q8.1, .long x6.toInt64]) rfl ?_
  refine lv_lmul hx hb d_Lo_harm_14 ?_
  refine mx_aload_n hx hb d_Lo_harm_15 rfl (lv_at hl 0 rfl) ?_
  refine mx_ifnonnull (tgt := 23) hx hb d_Lo_harm_16 (by decide) (fun c13 => ?_) (fun c13 => ?_)
  · rw [if_neg c13] at h
    refine mx_aload_n hx hb d_Lo_harm_23 rfl (lv_at hl 0 rfl) ?_
    obtain ⟨x14, e15, h⟩ := mx_b h
    refine mx_getlN hx hb hts i_Op hown hK hM e15 (ci := 2) (C := R_Op) (T := T_Op) (N := 3) rfl 2 (by decide) (va_Nw.use rfl (hN _ nw_15)) d_Lo_harm_24 ?_
    refine lv_ladd hx hb d_Lo_harm_27 ?_
    cases h
    exact W.lret hx hb hr (fun t ht hW => ⟨⟨rfl, by rw [ht]; exact hM⟩, hS.F ht⟩) hS.2.2 d_Lo_harm_28
  · rw [if_pos c13] at h
    refine lv_lconst (v := 0) hx hb d_Lo_harm_19 (by decide) ?_
    refine lv_goto (tgt := 27) hx hb d_Lo_harm_20 (by decide) ?_
    refine lv_ladd hx hb d_Lo_harm_27 ?_
    cases h
    exact W.lret hx hb hr (fun t ht hW => ⟨⟨rfl, by rw [ht]; exact hM⟩, hS.F ht⟩) hS.2.2 d_Lo_harm_28
set_option maxHeartbeats 4000000 in
set_option maxRecDepth 100000 in
theorem wfl_LR_sumHarm_4 {p : Program} {l : Launch} {e : Env} {R : Room} {s : State} {m : MethodId} {args : Array Value} {below : List Frame} {meth : Method} {c : Code} {G : mx_G} (q : Int64 × mx_Mem) (CX : gq_C p R s m args meth c G b_LR_sumHarm 4 (some .long) R_LR 3 0 0 56)  : ∀ (n : Nat) (v0 : Option Nat) (v1 : Int64) (v3 : Int32) (mem : mx_Mem), fl_LR_sumHarm_4  n v0 v1 v3 mem = some q → ∀ (H : Heap) (locs : List Loc) (ls : Array Slot), lv_has ls 4 [(0, va_rf v0), (1, .long v1), (3, .int v3)] → mx_M vwCl G mem H → va_S (mx_A G) s.heap H locs → W p l e R s m args below meth c H locs 0 0 (MQ below (gq_Q G (some (.long q.1)) q.2) args s 0 0 (mx_A G)) (F0 m 4 ls []) := by
  obtain ⟨hx, hb, hml, hr, hown, hts, hlocks, hK, hN, hb0, hRf, hRc, hRs, hRl⟩ := id CX
  intro n
  induction n with
  | zero => intro v0 v1 v3 mem h; rw [fl_LR_sumHarm_4] at h; cases h
  | succ n ih =>
    intro v0 v1 v3 mem h H locs ls hl hM hS
    rw [fl_LR_sumHarm_4] at h
    refine lv_iload_n hx hb d_LR_sumHarm_4 rfl (lv_at hl 2 rfl) ?_
    refine mx_aload_n hx hb d_LR_sumHarm_5 rfl (lv_at hl 0 rfl) ?_
    obtain ⟨x1, e2, h⟩ := mx_b h
    refine mx_geti hx hb hts i_LR hown hK hM e2 (ci := 0) (C := R_LR) (T := T_LR) (N := 5) rfl 4 (by decide) (hts _ wd_9) d_LR_sumHarm_6 ?_
    refine lv_icmp_ge (tgt := 30) hx hb d_LR_sumHarm_9 (by decide) (fun c3 => ?_) (fun c3 => ?_)
    · rw [if_pos c3] at h
      refine lv_lload_n hx hb d_LR_sumHarm_30 rfl (lv_at hl 1 rfl) ?_
      cases h
      exact W.lret hx hb hr (fun t ht hW => ⟨⟨rfl, by rw [ht]; exact hM⟩, hS.F ht⟩) hS.2.2 d_LR_sumHarm_31
    · rw [if_neg c3] at h
      refine lv_lload_n hx hb d_LR_sumHarm_12 rfl (lv_at hl 1 rfl) ?_
      refine mx_aload_n hx hb d_LR_sumHarm_13 rfl (lv_at hl 0 rfl) ?_
      obtain ⟨x4, e5, h⟩ := mx_b h
      refine mx_getr hx hb hts i_LR hown hK hM e5 (ci := 0) (C := R_LR) (T := T_LR) (N := 5) rfl 2 (by decide) (hts _ wd_6) d_LR_sumHarm_14 ?_
      refine lv_iload_n hx hb d_LR_sumHarm_17 rfl (lv_at hl 2 rfl) ?_
      obtain ⟨x6, e7, h⟩ := mx_b h
      refine mx_aald hx hb hK hM e7 rfl d_LR_sumHarm_18 ?_
      obtain ⟨a11, e10, h⟩ := mx_b h
      obtain ⟨q8, e9, h⟩ := mx_b h
      have e12 := mx_c_eq e10
      refine W.eq (g2 := F0 m 19 ls [.ref a11, .long v1]) (congrArg (fun z => F0 m 19 ls [va_rf z, .long v1]) e12) ?_
      refine gq_go (va_runV (b := a11) (As := []) (rest := [.long v1]) ⟨hx, hb, hml, hown, hts⟩ (c_Lo_harm l G a11  _ _ e9) (cwV 0 hts (gq_gV wd_237 wd_238 wd_239 wd_66 wd_236) rfl rfl rfl (by decide +kernel) ⟨Nat.le_trans (Nat.le_of_ble_eq_true rfl) hRf, Nat.le_trans (Nat.le_of_ble_eq_true rfl) hRl⟩) (gq_preV hK hN hM hS hb0 e10 (C := R_Lo) (T := T_Lo) (N := 12) rfl) rfl rfl hl.1 rfl (lv_room (Nat.le_of_ble_eq_true rfl)) d_LR_sumHarm_19 ⟨(Nat.le_trans (Nat.le_of_ble_eq_true rfl) hRc), (Nat.le_trans (Nat.le_of_ble_eq_true rfl) hRs)⟩) hS (fun H locs hM hS => ?_)
      refine W.eq (g2 := F0 m 22 ls [.long q8.1, .long v1]) rfl ?_
      refine lv_ladd hx hb d_LR_sumHarm_22 ?_
      refine lv_lstore_n (lv' := [(1, .long ((v1 + q8.1))), (0, va_rf v0), (3, .int v3)]) hx hb d_LR_sumHarm_23 rfl hl (by decide) (by simp [mx_cat, mx_cati, mx_catl, mx_catr]) (fun ls hl => ?_)
      refine lv_iinc (v := (v3 + 1)) (lv' := [(3, .int ((v3 + 1))), (1, .long ((v1 + q8.1))), (0, va_rf v0)]) hx hb d_LR_sumHarm_24 hl (k := 2) rfl rfl (by decide) rfl (fun ls hl => ?_)
      refine lv_goto (tgt := 4) hx hb d_LR_sumHarm_27 (by decide) ?_
      exact ih _ _ _ _ h _ _ _ (lv_sub hl [2, 1, 0] rfl) hM hS
set_option maxHeartbeats 4000000 in
set_option maxRecDepth 100000 in
theorem c_LR_sumHarm (l : Launch) (G : mx_G) (a0 : Nat) (mem : mx_Mem) (q : Int64 × mx_Mem) (h : f_LR_sumHarm a0 mem = some q) : Met l y_LR_sumHarm (gq_w y_LR_sumHarm b_LR_sumHarm 4 (some .long)) { frames := 3, cells := 0, slots := 0, locals := 56 } (gq_P G [.ref a0] mem) (gq_Q G (some (.long q.1)) q.2) 0 0 (mx_A G) := by
  refine Met.ofW (cc := b_LR_sumHarm) (maxL := 4) (ret := (some .long)) (by decide) rfl ?_
  intro p e s m args below meth c s₁ B hml hv
  obtain ⟨rfl, hb0, hM, hK, hN⟩ := hv
  have CX : gq_C p (headSpec (gq_w y_LR_sumHarm b_LR_sumHarm 4 (some .long)) { frames := 3, cells := 0, slots := 0, locals := 56 }).room s m _ meth c G b_LR_sumHarm 4 (some .long) R_LR 3 0 0 56 := ⟨B.exec, B.bytes, hml, B.returns, findClass_of_methodNamed B.named, fun w hw => atoms_spec (ws := gq_w y_LR_sumHarm b_LR_sumHarm 4 (some .long)) B.pre w (List.mem_cons_of_mem _ hw), B.notSynchronized, hK, hN, hb0, Nat.le_refl _, Nat.le_refl _, Nat.le_refl _, Nat.le_refl _⟩
  obtain ⟨hx, hb, hml, hr, hown, hts, hlocks, hK, hN, hb0, hRf, hRc, hRs, hRl⟩ := id CX
  have hS : va_S (mx_A G) s.heap s.heap [] := va_S.rf
  have hl := lv_entry [.ref a0] (n := 4) (Nat.le_of_ble_eq_true rfl)
  rw [lg_entry_eq]
  generalize (lg_sl [.ref a0] ++ List.replicate (4 - (lg_sl [.ref a0]).length) Slot.unset).toArray = ls at hl ⊢
  have hl : lv_has ls 4 [(0, va_rf (some a0))] := hl
  unfold f_LR_sumHarm at h
  refine lv_lconst (v := 0) hx hb d_LR_sumHarm_0 (by decide) ?_
  refine lv_lstore_n (lv' := [(1, .long 0), (0, va_rf (some a0))]) hx hb d_LR_sumHarm_1 rfl hl (by decide) (by simp [mx_cat, mx_cati, mx_catl, mx_catr]) (fun ls hl => ?_)
  refine lv_iconst (v := 0) hx hb d_LR_sumHarm_2 (by decide) ?_
  refine lv_istore_n (lv' := [(3, .int 0), (1, .long 0), (0, va_rf (some a0))]) hx hb d_LR_sumHarm_3 rfl hl (by decide) rfl (fun ls hl => ?_)
  refine wfl_LR_sumHarm_4 q CX  5000 _ _ _ _ h _ _ _ (lv_sub hl [2, 1, 0] rfl) hM hS
set_option maxHeartbeats 4000000 in
set_option maxRecDepth 100000 in
theorem c_Lo_isAct (l : Launch) (G : mx_G) (a0 : Nat) (mem : mx_Mem) (q : Int32 × mx_Mem) (h : f_Lo_isAct a0 mem = some q) : Met l y_Lo_isAct (gq_w y_Lo_isAct b_Lo_isAct 2 (some .boolean)) { frames := 1, cells := 0, slots := 0, locals := 20 } (gq_P G [.ref a0] mem) (gq_Q G (some (.int q.1)) q.2) 0 0 (mx_A G) := by
  refine Met.ofW (cc := b_Lo_isAct) (maxL := 2) (ret := (some .boolean)) (by decide) rfl ?_
  intro p e s m args below meth c s₁ B hml hv
  obtain ⟨rfl, hb0, hM, hK, hN⟩ := hv
  have CX : gq_C p (headSpec (gq_w y_Lo_isAct b_Lo_isAct 2 (some .boolean)) { frames := 1, cells := 0, slots := 0, locals := 20 }).room s m _ meth c G b_Lo_isAct 2 (some .boolean) R_Lo 1 0 0 20 := ⟨B.exec, B.bytes, hml, B.returns, findClass_of_methodNamed B.named, fun w hw => atoms_spec (ws := gq_w y_Lo_isAct b_Lo_isAct 2 (some .boolean)) B.pre w (List.mem_cons_of_mem _ hw), B.notSynchronized, hK, hN, hb0, Nat.le_refl _, Nat.le_refl _, Nat.le_refl _, Nat.le_refl _⟩
  obtain ⟨hx, hb, hml, hr, hown, hts, hlocks, hK, hN, hb0, hRf, hRc, hRs, hRl⟩ := id CX
  have hS : va_S (mx_A G) s.heap s.heap [] := va_S.rf
  have hl := lv_entry [.ref a0] (n := 2) (Nat.le_of_ble_eq_true rfl)
  rw [lg_entry_eq]
  generalize (lg_sl [.ref a0] ++ List.replicate (2 - (lg_sl [.ref a0]).length) Slot.unset).toArray = ls at hl ⊢
  have hl : lv_has ls 2 [(0, va_rf (some a0))] := hl
  unfold f_Lo_isAct at h
  refine mx_aload_n hx hb d_Lo_isAct_0 rfl (lv_at hl 0 rfl) ?_
  obtain ⟨a4, e3, h⟩ := mx_b h
  obtain ⟨q1, e2, h⟩ := mx_b h
  have e5 := mx_c_eq e3
  refine W.eq (g2 := F0 m 1 ls [.ref a4]) (congrArg (fun z => F0 m 1 ls [va_rf z]) e5) ?_
  refine gq_go (va_runV (b := a4) (As := []) (rest := []) ⟨hx, hb, hml, hown, hts⟩ (c_Lo_pickedOption l G a4  _ _ e2) (cwV 0 hts (gq_gV wd_63 wd_64 wd_65 wd_66 wd_62) rfl rfl rfl (by decide +kernel) ⟨Nat.le_trans (Nat.le_of_ble_eq_true rfl) hRf, Nat.le_trans (Nat.le_of_ble_eq_true rfl) hRl⟩) (gq_preV hK hN hM hS hb0 e3 (C := R_Lo) (T := T_Lo) (N := 12) rfl) rfl rfl hl.1 rfl (lv_room (Nat.le_of_ble_eq_true rfl)) d_Lo_isAct_1 ⟨(Nat.le_trans (Nat.le_of_ble_eq_true rfl) hRc), (Nat.le_trans (Nat.le_of_ble_eq_true rfl) hRs)⟩) hS (fun H locs hM hS => ?_)
  refine W.eq (g2 := F0 m 4 ls [va_rf q1.1]) rfl ?_
  refine mx_astore_n (lv' := [(1, va_rf q1.1), (0, va_rf (some a0))]) hx hb d_Lo_isAct_4 rfl hl (by decide) (by simp [mx_cat, mx_cati, mx_catl, mx_catr]) (fun ls hl => ?_)
  refine mx_aload_n hx hb d_Lo_isAct_5 rfl (lv_at hl 0 rfl) ?_
  refine mx_ifnull (tgt := 20) hx hb d_Lo_isAct_6 (by decide) (fun c6 => ?_) (fun c6 => ?_)
  · rw [if_pos c6] at h
    refine lv_iconst (v := 0) hx hb d_Lo_isAct_20 (by decide) ?_
    cases h
    exact W.zret hx hb hr rfl (fun t ht hW => ⟨⟨rfl, by rw [ht]; exact hM⟩, hS.F ht⟩) hS.2.2 d_Lo_isAct_21
  · rw [if_neg c6] at h
    refine mx_aload_n hx hb d_Lo_isAct_9 rfl (lv_at hl 0 rfl) ?_
    obtain ⟨x7, e8, h⟩ := mx_b h
    refine mx_getiN hx hb hts i_Op hown hK hM e8 (ci := 2) (C := R_Op) (T := T_Op) (N := 3) rfl 0 (by decide) (va_Nw.use rfl (hN _ nw_2)) d_Lo_isAct_10 ?_
    refine lv_if_eq (tgt := 20) hx hb d_Lo_isAct_13 (by decide) (fun c9 => ?_) (fun c9 => ?_)
    · rw [if_pos c9] at h
      refine lv_iconst (v := 0) hx hb d_Lo_isAct_20 (by decide) ?_
      cases h
      exact W.zret hx hb hr rfl (fun t ht hW => ⟨⟨rfl, by rw [ht]; exact hM⟩, hS.F ht⟩) hS.2.2 d_Lo_isAct_21
    · rw [if_neg c9] at h
      refine lv_iconst (v := 1) hx hb d_Lo_isAct_16 (by decide) ?_
      refine lv_goto (tgt := 21) hx hb d_Lo_isAct_17 (by decide) ?_
      cases h
      exact W.zret hx hb hr rfl (fun t ht hW => ⟨⟨rfl, by rw [ht]; exact hM⟩, hS.F ht⟩) hS.2.2 d_Lo_isAct_21
set_option maxHeartbeats 4000000 in
set_option maxRecDepth 100000 in
theorem wfl_LR_countActs_4 {p : Program} {l : Launch} {e : Env} {R : Room} {s : State} {m : MethodId} {args : Array Value} {below : List Frame} {meth : Method} {c : Code} {G : mx_G} (q : Int32 × mx_Mem) (CX : gq_C p R s m args meth c G b_LR_countActs 3 (some .int) R_LR 2 0 0 41)  : ∀ (n : Nat) (v0 : Option Nat) (v1 : Int32) (v2 : Int32) (mem : mx_Mem), fl_LR_countActs_4  n v0 v1 v2 mem = some q → ∀ (H : Heap) (locs : List Loc) (ls : Array Slot), lv_has ls 3 [(0, va_rf v0), (1, .int v1), (2, .int v2)] → mx_M vwCl G mem H → va_S (mx_A G) s.heap H locs → W p l e R s m args below meth c H locs 0 0 (MQ below (gq_Q G (some (.int q.1)) q.2) args s 0 0 (mx_A G)) (F0 m 4 ls []) := by
  obtain ⟨hx, hb, hml, hr, hown, hts, hlocks, hK, hN, hb0, hRf, hRc, hRs, hRl⟩ := id CX
  intro n
  induction n with
  | zero => intro v0 v1 v2 mem h; rw [fl_LR_countActs_4] at h; cases h
  | succ n ih =>
    intro v0 v1 v2 mem h H locs ls hl hM hS
    rw [fl_LR_countActs_4] at h
    refine lv_iload_n hx hb d_LR_countActs_4 rfl (lv_at hl 2 rfl) ?_
    refine mx_aload_n hx hb d_LR_countActs_5 rfl (lv_at hl 0 rfl) ?_
    obtain ⟨x1, e2, h⟩ := mx_b h
    refine mx_geti hx hb hts i_LR hown hK hM e2 (ci := 0) (C := R_LR) (T := T_LR) (N := 5) rfl 4 (by decide) (hts _ wd_9) d_LR_countActs_6 ?_
    refine lv_icmp_ge (tgt := 33) hx hb d_LR_countActs_9 (by decide) (fun c3 => ?_) (fun c3 => ?_)
    · rw [if_pos c3] at h
      refine lv_iload_n hx hb d_LR_countActs_33 rfl (lv_at hl 1 rfl) ?_
      cases h
      exact W.iret hx hb hr (fun t ht hW => ⟨⟨rfl, by rw [ht]; exact hM⟩, hS.F ht⟩) hS.2.2 d_LR_countActs_34
    · rw [if_neg c3] at h
      refine mx_aload_n hx hb d_LR_countActs_12 rfl (lv_at hl 0 rfl) ?_
      obtain ⟨x4, e5, h⟩ := mx_b h
      refine mx_getr hx hb hts i_LR hown hK hM e5 (ci := 0) (C := R_LR) (T := T_LR) (N := 5) rfl 2 (by decide) (hts _ wd_6) d_LR_countActs_13 ?_
      refine lv_iload_n hx hb d_LR_countActs_16 rfl (lv_at hl 2 rfl) ?_
      obtain ⟨x6, e7, h⟩ := mx_b h
      refine mx_aald hx hb hK hM e7 rfl d_LR_countActs_17 ?_
      obtain ⟨a11, e10, h⟩ := mx_b h
      obtain ⟨q8, e9, h⟩ := mx_b h
      have e12 := mx_c_eq e10
      refine W.eq (g2 := F0 m 18 ls [.ref a11]) (congrArg (fun z => F0 m 18 ls [va_rf z]) e12) ?_
      refine gq_go (va_runV (b := a11) (As := []) (rest := []) ⟨hx, hb, hml, hown, hts⟩ (c_Lo_isAct l G a11  _ _ e9) (cwV 0 hts (gq_gV wd_241 wd_242 wd_243 wd_66 wd_240) rfl rfl rfl (by decide +kernel) ⟨Nat.le_trans (Nat.le_of_ble_eq_true rfl) hRf, Nat.le_trans (Nat.le_of_ble_eq_true rfl) hRl⟩) (gq_preV hK hN hM hS hb0 e10 (C := R_Lo) (T := T_Lo) (N := 12) rfl) rfl rfl hl.1 rfl (lv_room (Nat.le_of_ble_eq_true rfl)) d_LR_countActs_18 ⟨(Nat.le_trans (Nat.le_of_ble_eq_true rfl) hRc), (Nat.le_trans (Nat.le_of_ble_eq_true rfl) hRs)⟩) hS (fun H locs hM hS => ?_)
      refine W.eq (g2 := F0 m 21 ls [.int q8.1]) rfl ?_
      refine lv_if_eq (tgt := 27) hx hb d_LR_countActs_21 (by decide) (fun c13 => ?_) (fun c13 => ?_)
      · rw [if_pos c13] at h
        refine lv_iinc (v := (v2 + 1)) (lv' := [(2, .int ((v2 + 1))), (0, va_rf v0), (1, .int v1)]) hx hb d_LR_countActs_27 hl (k := 2) rfl rfl (by decide) rfl (fun ls hl => ?_)
        refine lv_goto (tgt := 4) hx hb d_LR_countActs_30 (by decide) ?_
        exact ih _ _ _ _ h _ _ _ (lv_sub hl [1, 2, 0] rfl) hM hS
      · rw [if_neg c13] at h
        refine lv_iinc (v := (v1 + 1)) (lv' := [(1, .int ((v1 + 1))), (0, va_rf v0), (2, .int v2)]) hx hb d_LR_countActs_24 hl (k := 1) rfl rfl (by decide) (by simp [mx_cat, mx_cati, mx_catl, mx_catr]) (fun ls hl => ?_)
        refine lv_iinc (v := (v2 + 1)) (lv' := [(2, .int ((v2 + 1))), (1, .int ((v1 + 1))), (0, va_rf v0)]) hx hb d_LR_countActs_27 hl (k := 2) rfl rfl (by decide) rfl (fun ls hl => ?_)
        refine lv_goto (tgt := 4) hx hb d_LR_countActs_30 (by decide) ?_
        exact ih _ _ _ _ h _ _ _ (lv_sub hl [2, 1, 0] rfl) hM hS
set_option maxHeartbeats 4000000 in
set_option maxRecDepth 100000 in
theorem c_LR_countActs (l : Launch) (G : mx_G) (a0 : Nat) (mem : mx_Mem) (q : Int32 × mx_Mem) (h : f_LR_countActs a0 mem = some q) : Met l y_LR_countActs (gq_w y_LR_countActs b_LR_countActs 3 (some .int)) { frames := 2, cells := 0, slots := 0, locals := 41 } (gq_P G [.ref a0] mem) (gq_Q G (some (.int q.1)) q.2) 0 0 (mx_A G) := by
  refine Met.ofW (cc := b_LR_countActs) (maxL := 3) (ret := (some .int)) (by decide) rfl ?_
  intro p e s m args below meth c s₁ B hml hv
  obtain ⟨rfl, hb0, hM, hK, hN⟩ := hv
  have CX : gq_C p (headSpec (gq_w y_LR_countActs b_LR_countActs 3 (some .int)) { frames := 2, cells := 0, slots := 0, locals := 41 }).room s m _ meth c G b_LR_countActs 3 (some .int) R_LR 2 0 0 41 := ⟨B.exec, B.bytes, hml, B.returns, findClass_of_methodNamed B.named, fun w hw => atoms_spec (ws := gq_w y_LR_countActs b_LR_countActs 3 (some .int)) B.pre w (List.mem_cons_of_mem _ hw), B.notSynchronized, hK, hN, hb0, Nat.le_refl _, Nat.le_refl _, Nat.le_refl _, Nat.le_refl _⟩
  obtain ⟨hx, hb, hml, hr, hown, hts, hlocks, hK, hN, hb0, hRf, hRc, hRs, hRl⟩ := id CX
  have hS : va_S (mx_A G) s.heap s.heap [] := va_S.rf
  have hl := lv_entry [.ref a0] (n := 3) (Nat.le_of_ble_eq_true rfl)
  rw [lg_entry_eq]
  generalize (lg_sl [.ref a0] ++ List.replicate (3 - (lg_sl [.ref a0]).length) Slot.unset).toArray = ls at hl ⊢
  have hl : lv_has ls 3 [(0, va_rf (some a0))] := hl
  unfold f_LR_countActs at h
  refine lv_iconst (v := 0) hx hb d_LR_countActs_0 (by decide) ?_
  refine lv_istore_n (lv' := [(1, .int 0), (0, va_rf (some a0))]) hx hb d_LR_countActs_1 rfl hl (by decide) (by simp [mx_cat, mx_cati, mx_catl, mx_catr]) (fun ls hl => ?_)
  refine lv_iconst (v := 0) hx hb d_LR_countActs_2 (by decide) ?_
  refine lv_istore_n (lv' := [(2, .int 0), (1, .int 0), (0, va_rf (some a0))]) hx hb d_LR_countActs_3 rfl hl (by decide) rfl (fun ls hl => ?_)
  refine wfl_LR_countActs_4 q CX  5000 _ _ _ _ h _ _ _ (lv_sub hl [2, 1, 0] rfl) hM hS
set_option maxHeartbeats 4000000 in
set_option maxRecDepth 100000 in
theorem c_Lo_keepPicked (l : Launch) (G : mx_G) (a0 : Nat) (mem : mx_Mem) (q : mx_Mem) (h : f_Lo_keepPicked a0 mem = some q) : Met l y_Lo_keepPicked (gq_w y_Lo_keepPicked b_Lo_keepPicked 1 none) { frames := 0, cells := 0, slots := 0, locals := 0 } (gq_P G [.ref a0] mem) (gq_Q G none q) 0 0 (mx_A G) := by
  refine Met.ofW (cc := b_Lo_keepPicked) (maxL := 1) (ret := none) (by decide) rfl ?_
  intro p e s m args below meth c s₁ B hml hv
  obtain ⟨rfl, hb0, hM, hK, hN⟩ := hv
  have CX : gq_C p (headSpec (gq_w y_Lo_keepPicked b_Lo_keepPicked 1 none) { frames := 0, cells := 0, slots := 0, locals := 0 }).room s m _ meth c G b_Lo_keepPicked 1 none R_Lo 0 0 0 0 := ⟨B.exec, B.bytes, hml, B.returns, findClass_of_methodNamed B.named, fun w hw => atoms_spec (ws := gq_w y_Lo_keepPicked b_Lo_keepPicked 1 none) B.pre w (List.mem_cons_of_mem _ hw), B.notSynchronized, hK, hN, hb0, Nat.le_refl _, Nat.le_refl _, Nat.le_refl _, Nat.le_refl _⟩
  obtain ⟨hx, hb, hml, hr, hown, hts, hlocks, hK, hN, hb0, hRf, hRc, hRs, hRl⟩ := id CX
  have hS : va_S (mx_A G) s.heap s.heap [] := va_S.rf
  have hl := lv_entry [.ref a0] (n := 1) (Nat.le_of_ble_eq_true rfl)
  rw [lg_entry_eq]
  generalize (lg_sl [.ref a0] ++ List.replicate (1 - (lg_sl [.ref a0]).length) Slot.unset).toArray = ls at hl ⊢
  have hl : lv_has ls 1 [(0, va_rf (some a0))] := hl
  unfold f_Lo_keepPicked at h
  refine mx_aload_n hx hb d_Lo_keepPicked_0 rfl (lv_at hl 0 rfl) ?_
  refine mx_aload_n hx hb d_Lo_keepPicked_1 rfl (lv_at hl 0 rfl) ?_
  obtain ⟨x1, e2, h⟩ := mx_b h
  refine mx_geti hx hb hts i_Lo hown hK hM e2 (ci := 3) (C := R_Lo) (T := T_Lo) (N := 12) rfl 6 (by decide) (hts _ wd_48) d_Lo_keepPicked_2 ?_
  obtain ⟨m3, e4, h⟩ := mx_b h
  refine mx_put hx hb hts i_Lo t_Lo t_Lo_ok n_Lo hown hK hM hS e4 (ci := 3) (C := R_Lo) (T := T_Lo) (N := 12) rfl 7 (by decide) (hts _ wd_121) rfl (ty := .int) (by decide +kernel) rfl rfl d_Lo_keepPicked_5 (fun H locs hM hS => ?_)
  cases h
  exact W.vret hx hb hr (fun t ht hW => ⟨⟨rfl, by rw [ht]; exact hM⟩, hS.F ht⟩) hS.2.2 d_Lo_keepPicked_8
