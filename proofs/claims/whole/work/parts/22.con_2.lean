set_option maxHeartbeats 4000000 in
set_option maxRecDepth 100000 in
theorem wfl_LR_fileByLeaving_5 {p : Program} {l : Launch} {e : Env} {R : Room} {s : State} {m : MethodId} {args : Array Value} {below : List Frame} {meth : Method} {c : Code} {G : mx_G} (q : mx_Mem) (CX : gq_C p R s m args meth c G b_LR_fileByLeaving 3 none R_LR 0 0 0 0)  : ∀ (n : Nat) (v0 : Option Nat) (v1 : Option Nat) (v2 : Int32) (mem : mx_Mem), fl_LR_fileByLeaving_5  n v0 v1 v2 mem = some q → ∀ (H : Heap) (locs : List Loc) (ls : Array Slot), lv_has ls 3 [(0, va_rf v0), (1, va_rf v1), (2, .int v2)] → mx_M vwCl G mem H → va_S (mx_A G) s.heap H locs → W p l e R s m args below meth c H locs 0 0 (MQ below (gq_Q G none q) args s 0 0 (mx_A G)) (F0 m 5 ls []) := by
  obtain ⟨hx, hb, hml, hr, hown, hts, hlocks, hK, hN, hb0, hRf, hRc, hRs, hRl⟩ := id CX
  intro n
  induction n with
  | zero => intro v0 v1 v2 mem h; rw [fl_LR_fileByLeaving_5] at h; cases h
  | succ n ih =>
    intro v0 v1 v2 mem h H locs ls hl hM hS
    rw [fl_LR_fileByLeaving_5] at h
    refine lv_iload_n hx hb d_LR_fileByLeaving_5 rfl (lv_at hl 2 rfl) ?_
    refine lv_if_le (tgt := 54) hx hb d_LR_fileByLeaving_6 (by decide) (fun c1 => ?_) (fun c1 => ?_)
    · rw [if_pos c1] at h
      refine mx_aload_n hx hb d_LR_fileByLeaving_54 rfl (lv_at hl 0 rfl) ?_
      obtain ⟨x2, e3, h⟩ := mx_b h
      refine mx_getr hx hb hts i_LR hown hK hM e3 (ci := 0) (C := R_LR) (T := T_LR) (N := 5) rfl 3 (by decide) (hts _ wd_7) d_LR_fileByLeaving_55 ?_
      refine lv_iload_n hx hb d_LR_fileByLeaving_58 rfl (lv_at hl 2 rfl) ?_
      refine mx_aload_n hx hb d_LR_fileByLeaving_59 rfl (lv_at hl 1 rfl) ?_
      obtain ⟨_, e4, h⟩ := mx_b h
      obtain ⟨m6, e5, h⟩ := mx_b h
      refine mx_aast hx hb hK hM hS e4 e5 rfl rfl d_LR_fileByLeaving_60 (fun H locs hM hS => ?_)
      cases h
      exact W.vret hx hb hr (fun t ht hW => ⟨⟨rfl, by rw [ht]; exact hM⟩, hS.F ht⟩) hS.2.2 d_LR_fileByLeaving_61
    · rw [if_neg c1] at h
      refine mx_aload_n hx hb d_LR_fileByLeaving_9 rfl (lv_at hl 0 rfl) ?_
      obtain ⟨x2, e3, h⟩ := mx_b h
      refine mx_getr hx hb hts i_LR hown hK hM e3 (ci := 0) (C := R_LR) (T := T_LR) (N := 5) rfl 3 (by decide) (hts _ wd_7) d_LR_fileByLeaving_10 ?_
      refine lv_iload_n hx hb d_LR_fileByLeaving_13 rfl (lv_at hl 2 rfl) ?_
      refine lv_iconst (v := 1) hx hb d_LR_fileByLeaving_14 (by decide) ?_
      refine lv_isub hx hb d_LR_fileByLeaving_15 ?_
      obtain ⟨x4, e5, h⟩ := mx_b h
      refine mx_aald hx hb hK hM e5 rfl d_LR_fileByLeaving_16 ?_
      obtain ⟨x6, e7, h⟩ := mx_b h
      refine mx_getrN hx hb hts i_Lo hown hK hM e7 (ci := 3) (C := R_Lo) (T := T_Lo) (N := 12) rfl 0 (by decide) (va_Nw.use rfl (hN _ nw_7)) d_LR_fileByLeaving_17 ?_
      obtain ⟨x8, e9, h⟩ := mx_b h
      refine mx_getlN hx hb hts i_Li hown hK hM e9 (ci := 1) (C := R_Li) (T := T_Li) (N := 8) rfl 3 (by decide) (va_Nw.use rfl (hN _ nw_8)) d_LR_fileByLeaving_20 ?_
      refine mx_aload_n hx hb d_LR_fileByLeaving_23 rfl (lv_at hl 1 rfl) ?_
      obtain ⟨x10, e11, h⟩ := mx_b h
      refine mx_getrN hx hb hts i_Lo hown hK hM e11 (ci := 3) (C := R_Lo) (T := T_Lo) (N := 12) rfl 0 (by decide) (va_Nw.use rfl (hN _ nw_7)) d_LR_fileByLeaving_24 ?_
      obtain ⟨x12, e13, h⟩ := mx_b h
      refine mx_getlN hx hb hts i_Li hown hK hM e13 (ci := 1) (C := R_Li) (T := T_Li) (N := 8) rfl 3 (by decide) (va_Nw.use rfl (hN _ nw_8)) d_LR_fileByLeaving_27 ?_
      refine mx_lcmp_le (tgt := 54) hx hb d_LR_fileByLeaving_30 d_LR_fileByLeaving_31 (by decide) (fun c14 => ?_) (fun c14 => ?_)
      · rw [if_pos c14] at h
        refine mx_aload_n hx hb d_LR_fileByLeaving_54 rfl (lv_at hl 0 rfl) ?_
        obtain ⟨x15, e16, h⟩ := mx_b h
        refine mx_getr hx hb hts i_LR hown hK hM e16 (ci := 0) (C := R_LR) (T := T_LR) (N := 5) rfl 3 (by decide) (hts _ wd_7) d_LR_fileByLeaving_55 ?_
        refine lv_iload_n hx hb d_LR_fileByLeaving_58 rfl (lv_at hl 2 rfl) ?_
        refine mx_aload_n hx hb d_LR_fileByLeaving_59 rfl (lv_at hl 1 rfl) ?_
        obtain ⟨_, e17, h⟩ := mx_b h
        obtain ⟨m19, e18, h⟩ := mx_b h
        refine mx_aast hx hb hK hM hS e17 e18 rfl rfl d_LR_fileByLeaving_60 (fun H locs hM hS => ?_)
        cases h
        exact W.vret hx hb hr (fun t ht hW => ⟨⟨rfl, by rw [ht]; exact hM⟩, hS.F ht⟩) hS.2.2 d_LR_fileByLeaving_61
      · rw [if_neg c14] at h
        refine mx_aload_n hx hb d_LR_fileByLeaving_34 rfl (lv_at hl 0 rfl) ?_
        obtain ⟨x15, e16, h⟩ := mx_b h
        refine mx_getr hx hb hts i_LR hown hK hM e16 (ci := 0) (C := R_LR) (T := T_LR) (N := 5) rfl 3 (by decide) (hts _ wd_7) d_LR_fileByLeaving_35 ?_
        refine lv_iload_n hx hb d_LR_fileByLeaving_38 rfl (lv_at hl 2 rfl) ?_
        refine mx_aload_n hx hb d_LR_fileByLeaving_39 rfl (lv_at hl 0 rfl) ?_
        obtain ⟨x17, e18, h⟩ := mx_b h
        refine mx_getr hx hb hts i_LR hown hK hM e18 (ci := 0) (C := R_LR) (T := T_LR) (N := 5) rfl 3 (by decide) (hts _ wd_7) d_LR_fileByLeaving_40 ?_
        refine lv_iload_n hx hb d_LR_fileByLeaving_43 rfl (lv_at hl 2 rfl) ?_
        refine lv_iconst (v := 1) hx hb d_LR_fileByLeaving_44 (by decide) ?_
        refine lv_isub hx hb d_LR_fileByLeaving_45 ?_
        obtain ⟨x19, e20, h⟩ := mx_b h
        refine mx_aald hx hb hK hM e20 rfl d_LR_fileByLeaving_46 ?_
        obtain ⟨_, e21, h⟩ := mx_b h
        obtain ⟨m23, e22, h⟩ := mx_b h
        refine mx_aast hx hb hK hM hS e21 e22 rfl rfl d_LR_fileByLeaving_47 (fun H locs hM hS => ?_)
        refine lv_iinc (v := (v2 + (-1))) (lv' := [(2, .int ((v2 + (-1)))), (0, va_rf v0), (1, va_rf v1)]) hx hb d_LR_fileByLeaving_48 hl (k := 2) rfl rfl (by decide) (by simp [mx_cat, mx_cati, mx_catl, mx_catr]) (fun ls hl => ?_)
        refine lv_goto (tgt := 5) hx hb d_LR_fileByLeaving_51 (by decide) ?_
        exact ih _ _ _ _ h _ _ _ (lv_sub hl [1, 2, 0] rfl) hM hS
set_option maxHeartbeats 4000000 in
set_option maxRecDepth 100000 in
theorem c_LR_fileByLeaving (l : Launch) (G : mx_G) (a0 : Nat) (v1 : Option Nat) (mem : mx_Mem) (q : mx_Mem) (h : f_LR_fileByLeaving a0 v1 mem = some q) : Met l y_LR_fileByLeaving (gq_w y_LR_fileByLeaving b_LR_fileByLeaving 3 none) { frames := 0, cells := 0, slots := 0, locals := 0 } (gq_P G [.ref a0, va_rf v1] mem) (gq_Q G none q) 0 0 (mx_A G) := by
  refine Met.ofW (cc := b_LR_fileByLeaving) (maxL := 3) (ret := none) (by decide) rfl ?_
  intro p e s m args below meth c s₁ B hml hv
  obtain ⟨rfl, hb0, hM, hK, hN⟩ := hv
  have CX : gq_C p (headSpec (gq_w y_LR_fileByLeaving b_LR_fileByLeaving 3 none) { frames := 0, cells := 0, slots := 0, locals := 0 }).room s m _ meth c G b_LR_fileByLeaving 3 none R_LR 0 0 0 0 := ⟨B.exec, B.bytes, hml, B.returns, findClass_of_methodNamed B.named, fun w hw => atoms_spec (ws := gq_w y_LR_fileByLeaving b_LR_fileByLeaving 3 none) B.pre w (List.mem_cons_of_mem _ hw), B.notSynchronized, hK, hN, hb0, Nat.le_refl _, Nat.le_refl _, Nat.le_refl _, Nat.le_refl _⟩
  obtain ⟨hx, hb, hml, hr, hown, hts, hlocks, hK, hN, hb0, hRf, hRc, hRs, hRl⟩ := id CX
  have hS : va_S (mx_A G) s.heap s.heap [] := va_S.rf
  have hl := lv_entry [.ref a0, va_rf v1] (n := 3) (by simp [lg_sl, mx_cat, mx_cati, mx_catl, mx_catr])
  rw [lg_entry_eq]
  generalize (lg_sl [.ref a0, va_rf v1] ++ List.replicate (3 - (lg_sl [.ref a0, va_rf v1]).length) Slot.unset).toArray = ls at hl ⊢
  have hl : lv_has ls 3 [(0, va_rf (some a0)), (1, va_rf v1)] := by have h9 := hl; simp [lv_args, mx_cat, mx_cati, mx_catl, mx_catr] at h9; exact h9
  unfold f_LR_fileByLeaving at h
  refine mx_aload_n hx hb d_LR_fileByLeaving_0 rfl (lv_at hl 0 rfl) ?_
  obtain ⟨x1, e2, h⟩ := mx_b h
  refine mx_geti hx hb hts i_LR hown hK hM e2 (ci := 0) (C := R_LR) (T := T_LR) (N := 5) rfl 4 (by decide) (hts _ wd_9) d_LR_fileByLeaving_1 ?_
  refine lv_istore_n (lv' := [(2, .int x1), (0, va_rf (some a0)), (1, va_rf v1)]) hx hb d_LR_fileByLeaving_4 rfl hl (by decide) (by simp [mx_cat, mx_cati, mx_catl, mx_catr]) (fun ls hl => ?_)
  refine wfl_LR_fileByLeaving_5 q CX  5000 _ _ _ _ h _ _ _ (lv_sub hl [1, 2, 0] rfl) hM hS
set_option maxHeartbeats 4000000 in
set_option maxRecDepth 100000 in
theorem c_LR_load (l : Launch) (G : mx_G) (a0 : Nat) (v1 : Int32) (v2 : Int32) (v3 : Int64) (v5 : Int32) (mem : mx_Mem) (q : Int32 × mx_Mem) (h : f_LR_load a0 v1 v2 v3 v5 mem = some q) : Met l y_LR_load (gq_w y_LR_load b_LR_load 8 (some .int)) { frames := 4, cells := 2, slots := 16, locals := 80 } (gq_P G [.ref a0, .int v1, .int v2, .long v3, .int v5] mem) (gq_Q G (some (.int q.1)) q.2) 2 16 (mx_A G) := by
  refine Met.ofW (cc := b_LR_load) (maxL := 8) (ret := (some .int)) (by decide) rfl ?_
  intro p e s m args below meth c s₁ B hml hv
  obtain ⟨rfl, hb0, hM, hK, hN⟩ := hv
  have CX : gq_C p (headSpec (gq_w y_LR_load b_LR_load 8 (some .int)) { frames := 4, cells := 2, slots := 16, locals := 80 }).room s m _ meth c G b_LR_load 8 (some .int) R_LR 4 2 16 80 := ⟨B.exec, B.bytes, hml, B.returns, findClass_of_methodNamed B.named, fun w hw => atoms_spec (ws := gq_w y_LR_load b_LR_load 8 (some .int)) B.pre w (List.mem_cons_of_mem _ hw), B.notSynchronized, hK, hN, hb0, Nat.le_refl _, Nat.le_refl _, Nat.le_refl _, Nat.le_refl _⟩
  obtain ⟨hx, hb, hml, hr, hown, hts, hlocks, hK, hN, hb0, hRf, hRc, hRs, hRl⟩ := id CX
  have hS : va_S (mx_A G) s.heap s.heap [] := va_S.rf
  have hl := lv_entry [.ref a0, .int v1, .int v2, .long v3, .int v5] (n := 8) (Nat.le_of_ble_eq_true rfl)
  rw [lg_entry_eq]
  generalize (lg_sl [.ref a0, .int v1, .int v2, .long v3, .int v5] ++ List.replicate (8 - (lg_sl [.ref a0, .int v1, .int v2, .long v3, .int v5]).length) Slot.unset).toArray = ls at hl ⊢
  have hl : lv_has ls 8 [(0, va_rf (some a0)), (1, .int v1), (2, .int v2), (3, .long v3), (5, .int v5)] := hl
  unfold f_LR_load at h
  refine mx_aload_n hx hb d_LR_load_0 rfl (lv_at hl 0 rfl) ?_
  refine lv_iload_n hx hb d_LR_load_1 rfl (lv_at hl 1 rfl) ?_
  obtain ⟨a4, e3, h⟩ := mx_b h
  obtain ⟨q1, e2, h⟩ := mx_b h
  have e5 := mx_c_eq e3
  refine W.eq (g2 := F0 m 2 ls [.int v1, .ref a4]) (congrArg (fun z => F0 m 2 ls [.int v1, va_rf z]) e5) ?_
  refine gq_go (va_runV (b := a4) (As := [.int v1]) (rest := []) ⟨hx, hb, hml, hown, hts⟩ (c_LR_findLine l G a4 v1 _ _ e2) (cwV 1 hts (gq_gV wd_123 wd_124 wd_125 wd_38 wd_122) rfl rfl rfl (by decide +kernel) ⟨Nat.le_trans (Nat.le_of_ble_eq_true rfl) hRf, Nat.le_trans (Nat.le_of_ble_eq_true rfl) hRl⟩) (gq_preV hK hN hM hS hb0 e3 (C := R_LR) (T := T_LR) (N := 5) rfl) rfl rfl hl.1 rfl (lv_room (Nat.le_of_ble_eq_true rfl)) d_LR_load_2 ⟨(Nat.le_trans (Nat.le_of_ble_eq_true rfl) hRc), (Nat.le_trans (Nat.le_of_ble_eq_true rfl) hRs)⟩) hS (fun H locs hM hS => ?_)
  refine W.eq (g2 := F0 m 5 ls [va_rf q1.1]) rfl ?_
  refine mx_astore (lv' := [(6, va_rf q1.1), (0, va_rf (some a0)), (1, .int v1), (2, .int v2), (3, .long v3), (5, .int v5)]) hx hb d_LR_load_5 hl (by decide) rfl (fun ls hl => ?_)
  refine mx_aload hx hb d_LR_load_7 (lv_at hl 0 rfl) ?_
  refine mx_ifnonnull (tgt := 15) hx hb d_LR_load_9 (by decide) (fun c6 => ?_) (fun c6 => ?_)
  · rw [if_neg c6] at h
    refine lv_iload_n hx hb d_LR_load_15 rfl (lv_at hl 3 rfl) ?_
    obtain ⟨q7, e8, h⟩ := mx_b h
    refine gq_go (va_runS (As := [.int v2]) (rest := []) ⟨hx, hb, hml, hown, hts⟩ (c_LR_isPlace l G v2 _ _ e8) (cwS 1 hts (gq_gS wd_98 wd_99 wd_38 wd_97) rfl rfl rfl (by decide +kernel) ⟨Nat.le_trans (Nat.le_of_ble_eq_true rfl) hRf, Nat.le_trans (Nat.le_of_ble_eq_true rfl) hRl⟩) (gq_preS hK hN hM hS hb0) rfl rfl hl.1 rfl (lv_room (Nat.le_of_ble_eq_true rfl)) d_LR_load_16 ⟨(Nat.le_trans (Nat.le_of_ble_eq_true rfl) hRc), (Nat.le_trans (Nat.le_of_ble_eq_true rfl) hRs)⟩) hS (fun H locs hM hS => ?_)
    refine W.eq (g2 := F0 m 19 ls [.int q7.1]) rfl ?_
    refine lv_if_eq (tgt := 46) hx hb d_LR_load_19 (by decide) (fun c10 => ?_) (fun c10 => ?_)
    · rw [if_pos c10] at h
      refine lv_bipush (v := (-12)) hx hb d_LR_load_46 (by decide) ?_
      cases h
      refine W.widen (k := 2) (n := 16) (by decide) (by decide) ?_
      exact W.iret hx hb hr (fun t ht hW => ⟨⟨rfl, by rw [ht]; exact hM⟩, hS.F ht⟩) hS.2.2 d_LR_load_48
    · rw [if_neg c10] at h
      refine lv_lload_n hx hb d_LR_load_22 rfl (lv_at hl 4 rfl) ?_
      refine lv_lconst (v := 0) hx hb d_LR_load_23 (by decide) ?_
      refine lv_ldc2 (v := 20000) hx hb hown (hts _ wd_126) d_LR_load_24 ?_
      obtain ⟨q11, e12, h⟩ := mx_b h
      refine gq_go (va_runS (As := [.long v3, .long 0, .long 20000]) (rest := []) ⟨hx, hb, hml, hown, hts⟩ (c_LR_isWithin l G v3 0 20000 _ _ e12) (cwS 3 hts (gq_gS wd_36 wd_37 wd_38 wd_35) rfl rfl rfl (by decide +kernel) ⟨Nat.le_trans (Nat.le_of_ble_eq_true rfl) hRf, Nat.le_trans (Nat.le_of_ble_eq_true rfl) hRl⟩) (gq_preS hK hN hM hS hb0) rfl rfl hl.1 rfl (lv_room (Nat.le_of_ble_eq_true rfl)) d_LR_load_27 ⟨(Nat.le_trans (Nat.le_of_ble_eq_true rfl) hRc), (Nat.le_trans (Nat.le_of_ble_eq_true rfl) hRs)⟩) hS (fun H locs hM hS => ?_)
      refine W.eq (g2 := F0 m 30 ls [.int q11.1]) rfl ?_
      refine lv_if_eq (tgt := 46) hx hb d_LR_load_30 (by decide) (fun c14 => ?_) (fun c14 => ?_)
      · rw [if_pos c14] at h
        refine lv_bipush (v := (-12)) hx hb d_LR_load_46 (by decide) ?_
        cases h
        refine W.widen (k := 2) (n := 16) (by decide) (by decide) ?_
        exact W.iret hx hb hr (fun t ht hW => ⟨⟨rfl, by rw [ht]; exact hM⟩, hS.F ht⟩) hS.2.2 d_LR_load_48
      · rw [if_neg c14] at h
        refine lv_iload hx hb d_LR_load_33 (lv_at hl 5 rfl) ?_
        refine lv_i2l hx hb d_LR_load_35 rfl ?_
        refine lv_lconst (v := 1) hx hb d_LR_load_36 (by decide) ?_
        refine lv_ldc2 (v := 100) hx hb hown (hts _ wd_127) d_LR_load_37 ?_
        obtain ⟨q15, e16, h⟩ := mx_b h
        refine gq_go (va_runS (As := [.long v5.toInt64, .long 1, .long 100]) (rest := []) ⟨hx, hb, hml, hown, hts⟩ (c_LR_isWithin l G v5.toInt64 1 100 _ _ e16) (cwS 3 hts (gq_gS wd_36 wd_37 wd_38 wd_35) rfl rfl rfl (by decide +kernel) ⟨Nat.le_trans (Nat.le_of_ble_eq_true rfl) hRf, Nat.le_trans (Nat.le_of_ble_eq_true rfl) hRl⟩) (gq_preS hK hN hM hS hb0) rfl rfl hl.1 rfl (lv_room (Nat.le_of_ble_eq_true rfl)) d_LR_load_40 ⟨(Nat.le_trans (Nat.le_of_ble_eq_true rfl) hRc), (Nat.le_trans (Nat.le_of_ble_eq_true rfl) hRs)⟩) hS (fun H locs hM hS => ?_)
        refine W.eq (g2 := F0 m 43 ls [.int q15.1]) rfl ?_
        refine lv_if_ne (tgt := 49) hx hb d_LR_load_43 (by decide) (fun c18 => ?_) (fun c18 => ?_)
        · rw [if_neg c18] at h
          refine mx_aload_n hx hb d_LR_load_49 rfl (lv_at hl 1 rfl) ?_
          obtain ⟨x19, e20, h⟩ := mx_b h
          refine mx_geti hx hb hts i_LR hown hK hM e20 (ci := 0) (C := R_LR) (T := T_LR) (N := 5) rfl 4 (by decide) (hts _ wd_9) d_LR_load_50 ?_
          refine mx_aload_n hx hb d_LR_load_53 rfl (lv_at hl 1 rfl) ?_
          obtain ⟨x21, e22, h⟩ := mx_b h
          refine mx_getr hx hb hts i_LR hown hK hM e22 (ci := 0) (C := R_LR) (T := T_LR) (N := 5) rfl 2 (by decide) (hts _ wd_6) d_LR_load_54 ?_
          obtain ⟨x23, e24, h⟩ := mx_b h
          refine mx_alen hx hb hK hM e24 rfl d_LR_load_57 ?_
          refine lv_icmp_ge (tgt := 73) hx hb d_LR_load_58 (by decide) (fun c25 => ?_) (fun c25 => ?_)
          · rw [if_pos c25] at h
            refine lv_bipush (v := (-14)) hx hb d_LR_load_73 (by decide) ?_
            cases h
            refine W.widen (k := 2) (n := 16) (by decide) (by decide) ?_
            exact W.iret hx hb hr (fun t ht hW => ⟨⟨rfl, by rw [ht]; exact hM⟩, hS.F ht⟩) hS.2.2 d_LR_load_75
          · rw [if_neg c25] at h
            refine mx_aload_n hx hb d_LR_load_61 rfl (lv_at hl 1 rfl) ?_
            obtain ⟨x26, e27, h⟩ := mx_b h
            refine mx_geti hx hb hts i_LR hown hK hM e27 (ci := 0) (C := R_LR) (T := T_LR) (N := 5) rfl 4 (by decide) (hts _ wd_9) d_LR_load_62 ?_
            refine mx_aload_n hx hb d_LR_load_65 rfl (lv_at hl 1 rfl) ?_
            obtain ⟨x28, e29, h⟩ := mx_b h
            refine mx_getr hx hb hts i_LR hown hK hM e29 (ci := 0) (C := R_LR) (T := T_LR) (N := 5) rfl 3 (by decide) (hts _ wd_7) d_LR_load_66 ?_
            obtain ⟨x30, e31, h⟩ := mx_b h
            refine mx_alen hx hb hK hM e31 rfl d_LR_load_69 ?_
            refine lv_icmp_lt (tgt := 76) hx hb d_LR_load_70 (by decide) (fun c32 => ?_) (fun c32 => ?_)
            · rw [if_pos c32] at h
              obtain ⟨m33, e34, h⟩ := mx_b h
              refine mx_new (ci := 3) (fs := [.null, .int 0, .long 0, .int 0, .null, .int 0, .int 0, .int 0, .long 0, .long 0, .long 0, .int 0]) (C := R_Lo) (T := T_Lo) (N := 12) hx hb hts i_Lo t_Lo t_Lo_ok hown (hts _ wd_5) (hts _ wd_128) (hts _ wd_66) hK hM hS hb0 rfl (fun j hj => by rcases (show j = 0 ∨ j = 1 ∨ j = 2 ∨ j = 3 ∨ j = 4 ∨ j = 5 ∨ j = 6 ∨ j = 7 ∨ j = 8 ∨ j = 9 ∨ j = 10 ∨ j = 11 by omega) with rfl | rfl | rfl | rfl | rfl | rfl | rfl | rfl | rfl | rfl | rfl | rfl <;> rfl) e34 d_LR_load_76 (Nat.le_trans (Nat.le_of_ble_eq_true rfl) hRc) (Nat.le_trans (Nat.le_of_ble_eq_true rfl) hRs) (fun H hM hS => ?_)
              refine W.widen (k := 1) (n := 12) (by decide) (by decide) ?_
              refine lv_dup hx hb d_LR_load_79 (mx_cat _) ?_
              refine mx_aload hx hb d_LR_load_80 (lv_at hl 0 rfl) ?_
              refine lv_iload_n hx hb d_LR_load_82 rfl (lv_at hl 3 rfl) ?_
              refine lv_lload_n hx hb d_LR_load_83 rfl (lv_at hl 4 rfl) ?_
              refine lv_iload hx hb d_LR_load_84 (lv_at hl 5 rfl) ?_
              obtain ⟨q35, e36, h⟩ := mx_b h
              refine gq_go (va_runI (b := (q15.2).1) (As := [va_rf q1.1, .int v2, .long v3, .int v5]) (rest := [va_rf (some (q15.2).1)]) ⟨hx, hb, hml, hown, hts⟩ (c_Lo_init l G ((q15.2).1) q1.1 v2 v3 v5 _ _ e36) (cwI 4 hts (gq_gI wd_129) rfl rfl rfl (hts _ wd_66) (hts _ wd_130) (hts _ wd_131) rfl (by decide +kernel) ⟨Nat.le_trans (Nat.le_of_ble_eq_true rfl) hRf, Nat.le_trans (Nat.le_of_ble_eq_true rfl) hRl⟩) (gq_preS hK hN hM hS hb0) rfl rfl hl.1 rfl (lv_room (Nat.le_of_ble_eq_true rfl)) d_LR_load_86 ⟨(Nat.le_trans (Nat.le_of_ble_eq_true rfl) hRc), (Nat.le_trans (Nat.le_of_ble_eq_true rfl) hRs)⟩) hS (fun H locs hM hS => ?_)
              refine W.widen (k := 2) (n := 16) (by decide) (by decide) ?_
              refine W.eq (g2 := F0 m 89 ls [va_rf (some (q15.2).1)]) rfl ?_
              refine mx_astore (lv' := [(7, va_rf (some (q15.2).1)), (6, va_rf q1.1), (0, va_rf (some a0)), (1, .int v1), (2, .int v2), (3, .long v3), (5, .int v5)]) hx hb d_LR_load_89 hl (by decide) (by simp [mx_cat, mx_cati, mx_catl, mx_catr]) (fun ls hl => ?_)
              refine mx_aload_n hx hb d_LR_load_91 rfl (lv_at hl 2 rfl) ?_
              obtain ⟨x38, e39, h⟩ := mx_b h
              refine mx_getr hx hb hts i_LR hown hK hM e39 (ci := 0) (C := R_LR) (T := T_LR) (N := 5) rfl 2 (by decide) (hts _ wd_6) d_LR_load_92 ?_
              refine mx_aload_n hx hb d_LR_load_95 rfl (lv_at hl 2 rfl) ?_
              obtain ⟨x40, e41, h⟩ := mx_b h
              refine mx_geti hx hb hts i_LR hown hK hM e41 (ci := 0) (C := R_LR) (T := T_LR) (N := 5) rfl 4 (by decide) (hts _ wd_9) d_LR_load_96 ?_
              refine mx_aload hx hb d_LR_load_99 (lv_at hl 0 rfl) ?_
              obtain ⟨_, e42, h⟩ := mx_b h
              obtain ⟨m44, e43, h⟩ := mx_b h
              refine mx_aast hx hb hK hM hS e42 e43 rfl rfl d_LR_load_101 (fun H locs hM hS => ?_)
              refine mx_aload_n hx hb d_LR_load_102 rfl (lv_at hl 2 rfl) ?_
              refine mx_aload hx hb d_LR_load_103 (lv_at hl 0 rfl) ?_
              obtain ⟨a48, e47, h⟩ := mx_b h
              obtain ⟨q45, e46, h⟩ := mx_b h
              have e49 := mx_c_eq e47
              refine W.eq (g2 := F0 m 105 ls [va_rf (some (q15.2).1), .ref a48]) (congrArg (fun z => F0 m 105 ls [va_rf (some (q15.2).1), va_rf z]) e49) ?_
              refine gq_go (va_runV (b := a48) (As := [va_rf (some (q15.2).1)]) (rest := []) ⟨hx, hb, hml, hown, hts⟩ (c_LR_fileByLeaving l G a48 (some (q15.2).1) _ _ e46) (cwV 1 hts (gq_gV wd_133 wd_134 wd_135 wd_38 wd_132) rfl rfl rfl (by decide +kernel) ⟨Nat.le_trans (Nat.le_of_ble_eq_true rfl) hRf, Nat.le_trans (Nat.le_of_ble_eq_true rfl) hRl⟩) (gq_preV hK hN hM hS hb0 e47 (C := R_LR) (T := T_LR) (N := 5) rfl) rfl rfl hl.1 rfl (lv_room (Nat.le_of_ble_eq_true rfl)) d_LR_load_105 ⟨(Nat.le_trans (Nat.le_of_ble_eq_true rfl) hRc), (Nat.le_trans (Nat.le_of_ble_eq_true rfl) hRs)⟩) hS (fun H locs hM hS => ?_)
              refine W.eq (g2 := F0 m 108 ls []) rfl ?_
              refine mx_aload_n hx hb d_LR_load_108 rfl (lv_at hl 2 rfl) ?_
              refine lv_dup hx hb d_LR_load_109 (mx_cat _) ?_
              obtain ⟨x50, e51, h⟩ := mx_b h
              refine mx_geti hx hb hts i_LR hown hK hM e51 (ci := 0) (C := R_LR) (T := T_LR) (N := 5) rfl 4 (by decide) (hts _ wd_9) d_LR_load_110 ?_
              refine lv_iconst (v := 1) hx hb d_LR_load_113 (by decide) ?_
              refine lv_iadd hx hb d_LR_load_114 ?_
              obtain ⟨m52, e53, h⟩ := mx_b h
              refine mx_put hx hb hts i_LR t_LR t_LR_ok n_LR hown hK hM hS e53 (ci := 0) (C := R_LR) (T := T_LR) (N := 5) rfl 4 (by decide) (hts _ wd_9) rfl (ty := .int) (by decide +kernel) rfl rfl d_LR_load_115 (fun H locs hM hS => ?_)
              refine mx_aload_n hx hb d_LR_load_118 rfl (lv_at hl 2 rfl) ?_
              obtain ⟨a57, e56, h⟩ := mx_b h
              obtain ⟨q54, e55, h⟩ := mx_b h
              have e58 := mx_c_eq e56
              refine W.eq (g2 := F0 m 119 ls [.ref a57]) (congrArg (fun z => F0 m 119 ls [va_rf z]) e58) ?_
              refine gq_go (va_runV (b := a57) (As := []) (rest := []) ⟨hx, hb, hml, hown, hts⟩ (c_LR_settle l G a57  _ _ e55) (cwV 0 hts (gq_gV wd_106 wd_107 wd_108 wd_38 wd_105) rfl rfl rfl (by decide +kernel) ⟨Nat.le_trans (Nat.le_of_ble_eq_true rfl) hRf, Nat.le_trans (Nat.le_of_ble_eq_true rfl) hRl⟩) (gq_preV hK hN hM hS hb0 e56 (C := R_LR) (T := T_LR) (N := 5) rfl) rfl rfl hl.1 rfl (lv_room (Nat.le_of_ble_eq_true rfl)) d_LR_load_119 ⟨(Nat.le_trans (Nat.le_of_ble_eq_true rfl) hRc), (Nat.le_trans (Nat.le_of_ble_eq_true rfl) hRs)⟩) hS (fun H locs hM hS => ?_)
              refine W.eq (g2 := F0 m 122 ls []) rfl ?_
              refine mx_aload_n hx hb d_LR_load_122 rfl (lv_at hl 2 rfl) ?_
              obtain ⟨x59, e60, h⟩ := mx_b h
              refine mx_geti hx hb hts i_LR hown hK hM e60 (ci := 0) (C := R_LR) (T := T_LR) (N := 5) rfl 4 (by decide) (hts _ wd_9) d_LR_load_123 ?_
              cases h
              exact W.iret hx hb hr (fun t ht hW => ⟨⟨rfl, by rw [ht]; exact hM⟩, hS.F ht⟩) hS.2.2 d_LR_load_126
            · rw [if_neg c32] at h
              refine lv_bipush (v := (-14)) hx hb d_LR_load_73 (by decide) ?_
              cases h
              refine W.widen (k := 2) (n := 16) (by decide) (by decide) ?_
              exact W.iret hx hb hr (fun t ht hW => ⟨⟨rfl, by rw [ht]; exact hM⟩, hS.F ht⟩) hS.2.2 d_LR_load_75
        · rw [if_pos c18] at h
          refine lv_bipush (v := (-12)) hx hb d_LR_load_46 (by decide) ?_
          cases h
          refine W.widen (k := 2) (n := 16) (by decide) (by decide) ?_
          exact W.iret hx hb hr (fun t ht hW => ⟨⟨rfl, by rw [ht]; exact hM⟩, hS.F ht⟩) hS.2.2 d_LR_load_48
  · rw [if_pos c6] at h
    refine lv_bipush (v := (-11)) hx hb d_LR_load_12 (by decide) ?_
    cases h
    refine W.widen (k := 2) (n := 16) (by decide) (by decide) ?_
    exact W.iret hx hb hr (fun t ht hW => ⟨⟨rfl, by rw [ht]; exact hM⟩, hS.F ht⟩) hS.2.2 d_LR_load_14
set_option maxHeartbeats 4000000 in
set_option maxRecDepth 100000 in
theorem c_Mo_isLine (l : Launch) (G : mx_G) (a0 : Nat) (v1 : Int32) (mem : mx_Mem) (q : Int32 × mx_Mem) (h : f_Mo_isLine a0 v1 mem = some q) : Met l y_Mo_isLine (gq_w y_Mo_isLine b_Mo_isLine 2 (some .boolean)) { frames := 0, cells := 0, slots := 0, locals := 0 } (gq_P G [.ref a0, .int v1] mem) (gq_Q G (some (.int q.1)) q.2) 0 0 (mx_A G) := by
  refine Met.ofW (cc := b_Mo_isLine) (maxL := 2) (ret := (some .boolean)) (by decide) rfl ?_
  intro p e s m args below meth c s₁ B hml hv
  obtain ⟨rfl, hb0, hM, hK, hN⟩ := hv
  have CX : gq_C p (headSpec (gq_w y_Mo_isLine b_Mo_isLine 2 (some .boolean)) { frames := 0, cells := 0, slots := 0, locals := 0 }).room s m _ meth c G b_Mo_isLine 2 (some .boolean) R_Mo 0 0 0 0 := ⟨B.exec, B.bytes, hml, B.returns, findClass_of_methodNamed B.named, fun w hw => atoms_spec (ws := gq_w y_Mo_isLine b_Mo_isLine 2 (some .boolean)) B.pre w (List.mem_cons_of_mem _ hw), B.notSynchronized, hK, hN, hb0, Nat.le_refl _, Nat.le_refl _, Nat.le_refl _, Nat.le_refl _⟩
  obtain ⟨hx, hb, hml, hr, hown, hts, hlocks, hK, hN, hb0, hRf, hRc, hRs, hRl⟩ := id CX
  have hS : va_S (mx_A G) s.heap s.heap [] := va_S.rf
  have hl := lv_entry [.ref a0, .int v1] (n := 2) (Nat.le_of_ble_eq_true rfl)
  rw [lg_entry_eq]
  generalize (lg_sl [.ref a0, .int v1] ++ List.replicate (2 - (lg_sl [.ref a0, .int v1]).length) Slot.unset).toArray = ls at hl ⊢
  have hl : lv_has ls 2 [(0, va_rf (some a0)), (1, .int v1)] := hl
  unfold f_Mo_isLine at h
  refine lv_iload_n hx hb d_Mo_isLine_0 rfl (lv_at hl 1 rfl) ?_
  refine lv_iconst (v := 1) hx hb d_Mo_isLine_1 (by decide) ?_
  refine lv_icmp_lt (tgt := 17) hx hb d_Mo_isLine_2 (by decide) (fun c1 => ?_) (fun c1 => ?_)
  · rw [if_pos c1] at h
    refine lv_iconst (v := 0) hx hb d_Mo_isLine_17 (by decide) ?_
    cases h
    exact W.zret hx hb hr rfl (fun t ht hW => ⟨⟨rfl, by rw [ht]; exact hM⟩, hS.F ht⟩) hS.2.2 d_Mo_isLine_18
  · rw [if_neg c1] at h
    refine lv_iload_n hx hb d_Mo_isLine_5 rfl (lv_at hl 1 rfl) ?_
    refine mx_aload_n hx hb d_Mo_isLine_6 rfl (lv_at hl 0 rfl) ?_
    obtain ⟨x2, e3, h⟩ := mx_b h
    refine mx_geti hx hb hts i_Mo hown hK hM e3 (ci := 4) (C := R_Mo) (T := T_Mo) (N := 23) rfl 1 (by decide) (hts _ wd_116) d_Mo_isLine_7 ?_
    refine lv_icmp_gt (tgt := 17) hx hb d_Mo_isLine_10 (by decide) (fun c4 => ?_) (fun c4 => ?_)
    · rw [if_pos c4] at h
      refine lv_iconst (v := 0) hx hb d_Mo_isLine_17 (by decide) ?_
      cases h
      exact W.zret hx hb hr rfl (fun t ht hW => ⟨⟨rfl, by rw [ht]; exact hM⟩, hS.F ht⟩) hS.2.2 d_Mo_isLine_18
    · rw [if_neg c4] at h
      refine lv_iconst (v := 1) hx hb d_Mo_isLine_13 (by decide) ?_
      refine lv_goto (tgt := 18) hx hb d_Mo_isLine_14 (by decide) ?_
      cases h
      exact W.zret hx hb hr rfl (fun t ht hW => ⟨⟨rfl, by rw [ht]; exact hM⟩, hS.F ht⟩) hS.2.2 d_Mo_isLine_18
set_option maxHeartbeats 4000000 in
set_option maxRecDepth 100000 in
theorem c_Mo_load (l : Launch) (G : mx_G) (a0 : Nat) (v1 : Int32) (v2 : Int32) (v3 : Int64) (v5 : Int32) (mem : mx_Mem) (q : Int32 × mx_Mem) (h : f_Mo_load a0 v1 v2 v3 v5 mem = some q) : Met l y_Mo_load (gq_w y_Mo_load b_Mo_load 6 (some .int)) { frames := 1, cells := 0, slots := 0, locals := 25 } (gq_P G [.ref a0, .int v1, .int v2, .long v3, .int v5] mem) (gq_Q G (some (.int q.1)) q.2) 0 0 (mx_A G) := by
  refine Met.ofW (cc := b_Mo_load) (maxL := 6) (ret := (some .int)) (by decide) rfl ?_
  intro p e s m args below meth c s₁ B hml hv
  obtain ⟨rfl, hb0, hM, hK, hN⟩ := hv
  have CX : gq_C p (headSpec (gq_w y_Mo_load b_Mo_load 6 (some .int)) { frames := 1, cells := 0, slots := 0, locals := 25 }).room s m _ meth c G b_Mo_load 6 (some .int) R_Mo 1 0 0 25 := ⟨B.exec, B.bytes, hml, B.returns, findClass_of_methodNamed B.named, fun w hw => atoms_spec (ws := gq_w y_Mo_load b_Mo_load 6 (some .int)) B.pre w (List.mem_cons_of_mem _ hw), B.notSynchronized, hK, hN, hb0, Nat.le_refl _, Nat.le_refl _, Nat.le_refl _, Nat.le_refl _⟩
  obtain ⟨hx, hb, hml, hr, hown, hts, hlocks, hK, hN, hb0, hRf, hRc, hRs, hRl⟩ := id CX
  have hS : va_S (mx_A G) s.heap s.heap [] := va_S.rf
  have hl := lv_entry [.ref a0, .int v1, .int v2, .long v3, .int v5] (n := 6) (Nat.le_of_ble_eq_true rfl)
  rw [lg_entry_eq]
  generalize (lg_sl [.ref a0, .int v1, .int v2, .long v3, .int v5] ++ List.replicate (6 - (lg_sl [.ref a0, .int v1, .int v2, .long v3, .int v5]).length) Slot.unset).toArray = ls at hl ⊢
  have hl : lv_has ls 6 [(0, va_rf (some a0)), (1, .int v1), (2, .int v2), (3, .long v3), (5, .int v5)] := hl
  unfold f_Mo_load at h
  refine mx_aload_n hx hb d_Mo_load_0 rfl (lv_at hl 0 rfl) ?_
  refine lv_iconst (v := 0) hx hb d_Mo_load_1 (by decide) ?_
  obtain ⟨m1, e2, h⟩ := mx_b h
  refine mx_put hx hb hts i_Mo t_Mo t_Mo_ok n_Mo hown hK hM hS e2 (ci := 4) (C := R_Mo) (T := T_Mo) (N := 23) rfl 0 (by decide) (hts _ wd_109) rfl (ty := .int) (by decide +kernel) rfl rfl d_Mo_load_2 (fun H locs hM hS => ?_)
  refine mx_aload_n hx hb d_Mo_load_5 rfl (lv_at hl 0 rfl) ?_
  refine lv_iload_n hx hb d_Mo_load_6 rfl (lv_at hl 1 rfl) ?_
  obtain ⟨a6, e5, h⟩ := mx_b h
  obtain ⟨q3, e4, h⟩ := mx_b h
  have e7 := mx_c_eq e5
  refine W.eq (g2 := F0 m 7 ls [.int v1, .ref a6]) (congrArg (fun z => F0 m 7 ls [.int v1, va_rf z]) e7) ?_
  refine gq_go (va_runV (b := a6) (As := [.int v1]) (rest := []) ⟨hx, hb, hml, hown, hts⟩ (c_Mo_isLine l G a6 v1 _ _ e4) (cwV 1 hts (gq_gV wd_137 wd_138 wd_139 wd_114 wd_136) rfl rfl rfl (by decide +kernel) ⟨Nat.le_trans (Nat.le_of_ble_eq_true rfl) hRf, Nat.le_trans (Nat.le_of_ble_eq_true rfl) hRl⟩) (gq_preV hK hN hM hS hb0 e5 (C := R_Mo) (T := T_Mo) (N := 23) rfl) rfl rfl hl.1 rfl (lv_room (Nat.le_of_ble_eq_true rfl)) d_Mo_load_7 ⟨(Nat.le_trans (Nat.le_of_ble_eq_true rfl) hRc), (Nat.le_trans (Nat.le_of_ble_eq_true rfl) hRs)⟩) hS (fun H locs hM hS => ?_)
  refine W.eq (g2 := F0 m 10 ls [.int q3.1]) rfl ?_
  refine lv_if_ne (tgt := 16) hx hb d_Mo_load_10 (by decide) (fun c8 => ?_) (fun c8 => ?_)
  · rw [if_neg c8] at h
    refine lv_iload_n hx hb d_Mo_load_16 rfl (lv_at hl 2 rfl) ?_
    refine lv_i2l hx hb d_Mo_load_17 rfl ?_
    refine lv_lconst (v := 0) hx hb d_Mo_load_18 (by decide) ?_
    refine lv_ldc2 (v := 9) hx hb hown (hts _ wd_110) d_Mo_load_19 ?_
    obtain ⟨q9, e10, h⟩ := mx_b h
    refine gq_go (va_runS (As := [.long v2.toInt64, .long 0, .long 9]) (rest := []) ⟨hx, hb, hml, hown, hts⟩ (c_Mo_in l G v2.toInt64 0 9 _ _ e10) (cwS 3 hts (gq_gS wd_112 wd_113 wd_114 wd_111) rfl rfl rfl (by decide +kernel) ⟨Nat.le_trans (Nat.le_of_ble_eq_true rfl) hRf, Nat.le_trans (Nat.le_of_ble_eq_true rfl) hRl⟩) (gq_preS hK hN hM hS hb0) rfl rfl hl.1 rfl (lv_room (Nat.le_of_ble_eq_true rfl)) d_Mo_load_22 ⟨(Nat.le_trans (Nat.le_of_ble_eq_true rfl) hRc), (Nat.le_trans (Nat.le_of_ble_eq_true rfl) hRs)⟩) hS (fun H locs hM hS => ?_)
    refine W.eq (g2 := F0 m 25 ls [.int q9.1]) rfl ?_
    refine lv_if_eq (tgt := 52) hx hb d_Mo_load_25 (by decide) (fun c12 => ?_) (fun c12 => ?_)
    · rw [if_pos c12] at h
      refine lv_bipush (v := (-12)) hx hb d_Mo_load_52 (by decide) ?_
      cases h
      exact W.iret hx hb hr (fun t ht hW => ⟨⟨rfl, by rw [ht]; exact hM⟩, hS.F ht⟩) hS.2.2 d_Mo_load_54
    · rw [if_neg c12] at h
      refine lv_lload_n hx hb d_Mo_load_28 rfl (lv_at hl 3 rfl) ?_
      refine lv_lconst (v := 0) hx hb d_Mo_load_29 (by decide) ?_
      refine lv_ldc2 (v := 20000) hx hb hown (hts _ wd_140) d_Mo_load_30 ?_
      obtain ⟨q13, e14, h⟩ := mx_b h
      refine gq_go (va_runS (As := [.long v3, .long 0, .long 20000]) (rest := []) ⟨hx, hb, hml, hown, hts⟩ (c_Mo_in l G v3 0 20000 _ _ e14) (cwS 3 hts (gq_gS wd_112 wd_113 wd_114 wd_111) rfl rfl rfl (by decide +kernel) ⟨Nat.le_trans (Nat.le_of_ble_eq_true rfl) hRf, Nat.le_trans (Nat.le_of_ble_eq_true rfl) hRl⟩) (gq_preS hK hN hM hS hb0) rfl rfl hl.1 rfl (lv_room (Nat.le_of_ble_eq_true rfl)) d_Mo_load_33 ⟨(Nat.le_trans (Nat.le_of_ble_eq_true rfl) hRc), (Nat.le_trans (Nat.le_of_ble_eq_true rfl) hRs)⟩) hS (fun H locs hM hS => ?_)
      refine W.eq (g2 := F0 m 36 ls [.int q13.1]) rfl ?_
      refine lv_if_eq (tgt := 52) hx hb d_Mo_load_36 (by decide) (fun c16 => ?_) (fun c16 => ?_)
      · rw [if_pos c16] at h
        refine lv_bipush (v := (-12)) hx hb d_Mo_load_52 (by decide) ?_
        cases h
        exact W.iret hx hb hr (fun t ht hW => ⟨⟨rfl, by rw [ht]; exact hM⟩, hS.F ht⟩) hS.2.2 d_Mo_load_54
      · rw [if_neg c16] at h
        refine lv_iload hx hb d_Mo_load_39 (lv_at hl 4 rfl) ?_
        refine lv_i2l hx hb d_Mo_load_41 rfl ?_
        refine lv_lconst (v := 1) hx hb d_Mo_load_42 (by decide) ?_
        refine lv_ldc2 (v := 100) hx hb hown (hts _ wd_141) d_Mo_load_43 ?_
        obtain ⟨q17, e18, h⟩ := mx_b h
        refine gq_go (va_runS (As := [.long v5.toInt64, .long 1, .long 100]) (rest := []) ⟨hx, hb, hml, hown, hts⟩ (c_Mo_in l G v5.toInt64 1 100 _ _ e18) (cwS 3 hts (gq_gS wd_112 wd_113 wd_114 wd_111) rfl rfl rfl (by decide +kernel) ⟨Nat.le_trans (Nat.le_of_ble_eq_true rfl) hRf, Nat.le_trans (Nat.le_of_ble_eq_true rfl) hRl⟩) (gq_preS hK hN hM hS hb0) rfl rfl hl.1 rfl (lv_room (Nat.le_of_ble_eq_true rfl)) d_Mo_load_46 ⟨(Nat.le_trans (Nat.le_of_ble_eq_true rfl) hRc), (Nat.le_trans (Nat.le_of_ble_eq_true rfl) hRs)⟩) hS (fun H locs hM hS => ?_)
        refine W.eq (g2 := F0 m 49 ls [.int q17.1]) rfl ?_
        refine lv_if_ne (tgt := 55) hx hb d_Mo_load_49 (by decide) (fun c20 => ?_) (fun c20 => ?_)
        · rw [if_neg c20] at h
          refine mx_aload_n hx hb d_Mo_load_55 rfl (lv_at hl 0 rfl) ?_
          obtain ⟨x21, e22, h⟩ := mx_b h
          refine mx_geti hx hb hts i_Mo hown hK hM e22 (ci := 4) (C := R_Mo) (T := T_Mo) (N := 23) rfl 9 (by decide) (hts _ wd_142) d_Mo_load_56 ?_
          refine lv_bipush (v := 6) hx hb d_Mo_load_59 (by decide) ?_
          refine lv_icmp_ne (tgt := 67) hx hb d_Mo_load_61 (by decide) (fun c23 => ?_) (fun c23 => ?_)
          · rw [if_neg c23] at h
            refine mx_aload_n hx hb d_Mo_load_67 rfl (lv_at hl 0 rfl) ?_
            refine lv_dup hx hb d_Mo_load_68 (mx_cat _) ?_
            obtain ⟨x24, e25, h⟩ := mx_b h
            refine mx_geti hx hb hts i_Mo hown hK hM e25 (ci := 4) (C := R_Mo) (T := T_Mo) (N := 23) rfl 9 (by decide) (hts _ wd_142) d_Mo_load_69 ?_
            refine lv_iconst (v := 1) hx hb d_Mo_load_72 (by decide) ?_
            refine lv_iadd hx hb d_Mo_load_73 ?_
            obtain ⟨m26, e27, h⟩ := mx_b h
            refine mx_put hx hb hts i_Mo t_Mo t_Mo_ok n_Mo hown hK hM hS e27 (ci := 4) (C := R_Mo) (T := T_Mo) (N := 23) rfl 9 (by decide) (hts _ wd_142) rfl (ty := .int) (by decide +kernel) rfl rfl d_Mo_load_74 (fun H locs hM hS => ?_)
            refine mx_aload_n hx hb d_Mo_load_77 rfl (lv_at hl 0 rfl) ?_
            obtain ⟨x28, e29, h⟩ := mx_b h
            refine mx_getr hx hb hts i_Mo hown hK hM e29 (ci := 4) (C := R_Mo) (T := T_Mo) (N := 23) rfl 10 (by decide) (hts _ wd_20) d_Mo_load_78 ?_
            refine mx_aload_n hx hb d_Mo_load_81 rfl (lv_at hl 0 rfl) ?_
            obtain ⟨x30, e31, h⟩ := mx_b h
            refine mx_geti hx hb hts i_Mo hown hK hM e31 (ci := 4) (C := R_Mo) (T := T_Mo) (N := 23) rfl 9 (by decide) (hts _ wd_142) d_Mo_load_82 ?_
            refine lv_iload_n hx hb d_Mo_load_85 rfl (lv_at hl 1 rfl) ?_
            obtain ⟨m33, e32, h⟩ := mx_b h
            refine mx_iast hx hb hK hM hS e32 rfl d_Mo_load_86 (fun H locs hM hS => ?_)
            refine mx_aload_n hx hb d_Mo_load_87 rfl (lv_at hl 0 rfl) ?_
            obtain ⟨x34, e35, h⟩ := mx_b h
            refine mx_getr hx hb hts i_Mo hown hK hM e35 (ci := 4) (C := R_Mo) (T := T_Mo) (N := 23) rfl 11 (by decide) (hts _ wd_21) d_Mo_load_88 ?_
            refine mx_aload_n hx hb d_Mo_load_91 rfl (lv_at hl 0 rfl) ?_
            obtain ⟨x36, e37, h⟩ := mx_b h
            refine mx_geti hx hb hts i_Mo hown hK hM e37 (ci := 4) (C := R_Mo) (T := T_Mo) (N := 23) rfl 9 (by decide) (hts _ wd_142) d_Mo_load_92 ?_
            refine lv_iload_n hx hb d_Mo_load_95 rfl (lv_at hl 2 rfl) ?_
            obtain ⟨m39, e38, h⟩ := mx_b h
            refine mx_iast hx hb hK hM hS e38 rfl d_Mo_load_96 (fun H locs hM hS => ?_)
            refine mx_aload_n hx hb d_Mo_load_97 rfl (lv_at hl 0 rfl) ?_
            obtain ⟨x40, e41, h⟩ := mx_b h
            refine mx_getr hx hb hts i_Mo hown hK hM e41 (ci := 4) (C := R_Mo) (T := T_Mo) (N := 23) rfl 12 (by decide) (hts _ wd_22) d_Mo_load_98 ?_
            refine mx_aload_n hx hb d_Mo_load_101 rfl (lv_at hl 0 rfl) ?_
            obtain ⟨x42, e43, h⟩ := mx_b h
            refine mx_geti hx hb hts i_Mo hown hK hM e43 (ci := 4) (C := R_Mo) (T := T_Mo) (N := 23) rfl 9 (by decide) (hts _ wd_142) d_Mo_load_102 ?_
            refine lv_lload_n hx hb d_Mo_load_105 rfl (lv_at hl 3 rfl) ?_
            obtain ⟨m45, e44, h⟩ := mx_b h
            refine mx_last hx hb hK hM hS e44 rfl d_Mo_load_106 (fun H locs hM hS => ?_)
            refine mx_aload_n hx hb d_Mo_load_107 rfl (lv_at hl 0 rfl) ?_
            obtain ⟨x46, e47, h⟩ := mx_b h
            refine mx_getr hx hb hts i_Mo hown hK hM e47 (ci := 4) (C := R_Mo) (T := T_Mo) (N := 23) rfl 13 (by decide) (hts _ wd_23) d_Mo_load_108 ?_
            refine mx_aload_n hx hb d_Mo_load_111 rfl (lv_at hl 0 rfl) ?_
            obtain ⟨x48, e49, h⟩ := mx_b h
            refine mx_geti hx hb hts i_Mo hown hK hM e49 (ci := 4) (C := R_Mo) (T := T_Mo) (N := 23) rfl 9 (by decide) (hts _ wd_142) d_Mo_load_112 ?_
            refine lv_iload hx hb d_Mo_load_115 (lv_at hl 4 rfl) ?_
            obtain ⟨m51, e50, h⟩ := mx_b h
            refine mx_iast hx hb hK hM hS e50 rfl d_Mo_load_117 (fun H locs hM hS => ?_)
            refine mx_aload_n hx hb d_Mo_load_118 rfl (lv_at hl 0 rfl) ?_
            obtain ⟨x52, e53, h⟩ := mx_b h
            refine mx_geti hx hb hts i_Mo hown hK hM e53 (ci := 4) (C := R_Mo) (T := T_Mo) (N := 23) rfl 9 (by decide) (hts _ wd_142) d_Mo_load_119 ?_
            cases h
            exact W.iret hx hb hr (fun t ht hW => ⟨⟨rfl, by rw [ht]; exact hM⟩, hS.F ht⟩) hS.2.2 d_Mo_load_122
          · rw [if_pos c23] at h
            refine lv_bipush (v := (-14)) hx hb d_Mo_load_64 (by decide) ?_
            cases h
            exact W.iret hx hb hr (fun t ht hW => ⟨⟨rfl, by rw [ht]; exact hM⟩, hS.F ht⟩) hS.2.2 d_Mo_load_66
        · rw [if_pos c20] at h
          refine lv_bipush (v := (-12)) hx hb d_Mo_load_52 (by decide) ?_
          cases h
          exact W.iret hx hb hr (fun t ht hW => ⟨⟨rfl, by rw [ht]; exact hM⟩, hS.F ht⟩) hS.2.2 d_Mo_load_54
  · rw [if_pos c8] at h
    refine lv_bipush (v := (-11)) hx hb d_Mo_load_13 (by decide) ?_
    cases h
    exact W.iret hx hb hr (fun t ht hW => ⟨⟨rfl, by rw [ht]; exact hM⟩, hS.F ht⟩) hS.2.2 d_Mo_load_15
set_option maxHeartbeats 4000000 in
set_option maxRecDepth 100000 in
theorem c_LR_findLoad (l : Launch) (G : mx_G) (a0 : Nat) (v1 : Int32) (mem : mx_Mem) (q : Option Nat × mx_Mem) (h : f_LR_findLoad a0 v1 mem = some q) : Met l y_LR_findLoad (gq_w y_LR_findLoad b_LR_findLoad 2 (some (.object "LateRoutes$Load"))) { frames := 0, cells := 0, slots := 0, locals := 0 } (gq_P G [.ref a0, .int v1] mem) (gq_Q G (some (va_rf q.1)) q.2) 0 0 (mx_A G) := by
  refine Met.ofW (cc := b_LR_findLoad) (maxL := 2) (ret := (some (.object "LateRoutes$Load"))) (by decide) rfl ?_
  intro p e s m args below meth c s₁ B hml hv
  obtain ⟨rfl, hb0, hM, hK, hN⟩ := hv
  have CX : gq_C p (headSpec (gq_w y_LR_findLoad b_LR_findLoad 2 (some (.object "LateRoutes$Load"))) { frames := 0, cells := 0, slots := 0, locals := 0 }).room s m _ meth c G b_LR_findLoad 2 (some (.object "LateRoutes$Load")) R_LR 0 0 0 0 := ⟨B.exec, B.bytes, hml, B.returns, findClass_of_methodNamed B.named, fun w hw => atoms_spec (ws := gq_w y_LR_findLoad b_LR_findLoad 2 (some (.object "LateRoutes$Load"))) B.pre w (List.mem_cons_of_mem _ hw), B.notSynchronized, hK, hN, hb0, Nat.le_refl _, Nat.le_refl _, Nat.le_refl _, Nat.le_refl _⟩
  obtain ⟨hx, hb, hml, hr, hown, hts, hlocks, hK, hN, hb0, hRf, hRc, hRs, hRl⟩ := id CX
  have hS : va_S (mx_A G) s.heap s.heap [] := va_S.rf
  have hl := lv_entry [.ref a0, .int v1] (n := 2) (Nat.le_of_ble_eq_true rfl)
  rw [lg_entry_eq]
  generalize (lg_sl [.ref a0, .int v1] ++ List.replicate (2 - (lg_sl [.ref a0, .int v1]).length) Slot.unset).toArray = ls at hl ⊢
  have hl : lv_has ls 2 [(0, va_rf (some a0)), (1, .int v1)] := hl
  unfold f_LR_findLoad at h
  refine lv_iload_n hx hb d_LR_findLoad_0 rfl (lv_at hl 1 rfl) ?_
  refine lv_iconst (v := 1) hx hb d_LR_findLoad_1 (by decide) ?_
  refine lv_icmp_lt (tgt := 24) hx hb d_LR_findLoad_2 (by decide) (fun c1 => ?_) (fun c1 => ?_)
  · rw [if_pos c1] at h
    refine mx_null hx hb d_LR_findLoad_24 ?_
    cases h
    exact W.aret hx hb hr (Or.inl ⟨_, rfl⟩) (va_rf_or _) (fun t ht hW => ⟨⟨rfl, by rw [ht]; exact hM⟩, hS.F ht⟩) hS.2.2 d_LR_findLoad_25
  · rw [if_neg c1] at h
    refine lv_iload_n hx hb d_LR_findLoad_5 rfl (lv_at hl 1 rfl) ?_
    refine mx_aload_n hx hb d_LR_findLoad_6 rfl (lv_at hl 0 rfl) ?_
    obtain ⟨x2, e3, h⟩ := mx_b h
    refine mx_geti hx hb hts i_LR hown hK hM e3 (ci := 0) (C := R_LR) (T := T_LR) (N := 5) rfl 4 (by decide) (hts _ wd_9) d_LR_findLoad_7 ?_
    refine lv_icmp_gt (tgt := 24) hx hb d_LR_findLoad_10 (by decide) (fun c4 => ?_) (fun c4 => ?_)
    · rw [if_pos c4] at h
      refine mx_null hx hb d_LR_findLoad_24 ?_
      cases h
      exact W.aret hx hb hr (Or.inl ⟨_, rfl⟩) (va_rf_or _) (fun t ht hW => ⟨⟨rfl, by rw [ht]; exact hM⟩, hS.F ht⟩) hS.2.2 d_LR_findLoad_25
    · rw [if_neg c4] at h
      refine mx_aload_n hx hb d_LR_findLoad_13 rfl (lv_at hl 0 rfl) ?_
      obtain ⟨x5, e6, h⟩ := mx_b h
      refine mx_getr hx hb hts i_LR hown hK hM e6 (ci := 0) (C := R_LR) (T := T_LR) (N := 5) rfl 2 (by decide) (hts _ wd_6) d_LR_findLoad_14 ?_
      refine lv_iload_n hx hb d_LR_findLoad_17 rfl (lv_at hl 1 rfl) ?_
      refine lv_iconst (v := 1) hx hb d_LR_findLoad_18 (by decide) ?_
      refine lv_isub hx hb d_LR_findLoad_19 ?_
      obtain ⟨x7, e8, h⟩ := mx_b h
      refine mx_aald hx hb hK hM e8 rfl d_LR_findLoad_20 ?_
      refine lv_goto (tgt := 25) hx hb d_LR_findLoad_21 (by decide) ?_
      cases h
      exact W.aret hx hb hr (Or.inl ⟨_, rfl⟩) (va_rf_or _) (fun t ht hW => ⟨⟨rfl, by rw [ht]; exact hM⟩, hS.F ht⟩) hS.2.2 d_LR_findLoad_25
set_option maxHeartbeats 4000000 in
set_option maxRecDepth 100000 in
theorem c_Lo_canGoOnBy (l : Launch) (G : mx_G) (a0 : Nat) (v1 : Option Nat) (mem : mx_Mem) (q : Int32 × mx_Mem) (h : f_Lo_canGoOnBy a0 v1 mem = some q) : Met l y_Lo_canGoOnBy (gq_w y_Lo_canGoOnBy b_Lo_canGoOnBy 2 (some .boolean)) { frames := 0, cells := 0, slots := 0, locals := 0 } (gq_P G [.ref a0, va_rf v1] mem) (gq_Q G (some (.int q.1)) q.2) 0 0 (mx_A G) := by
  refine Met.ofW (cc := b_Lo_canGoOnBy) (maxL := 2) (ret := (some .boolean)) (by decide) rfl ?_
  intro p e s m args below meth c s₁ B hml hv
  obtain ⟨rfl, hb0, hM, hK, hN⟩ := hv
  have CX : gq_C p (headSpec (gq_w y_Lo_canGoOnBy b_Lo_canGoOnBy 2 (some .boolean)) { frames := 0, cells := 0, slots := 0, locals := 0 }).room s m _ meth c G b_Lo_canGoOnBy 2 (some .boolean) R_Lo 0 0 0 0 := ⟨B.exec, B.bytes, hml, B.returns, findClass_of_methodNamed B.named, fun w hw => atoms_spec (ws := gq_w y_Lo_canGoOnBy b_Lo_canGoOnBy 2 (some .boolean)) B.pre w (List.mem_cons_of_mem _ hw), B.notSynchronized, hK, hN, hb0, Nat.le_refl _, Nat.le_refl _, Nat.le_refl _, Nat.le_refl _⟩
  obtain ⟨hx, hb, hml, hr, hown, hts, hlocks, hK, hN, hb0, hRf, hRc, hRs, hRl⟩ := id CX
  have hS : va_S (mx_A G) s.heap s.heap [] := va_S.rf
  have hl := lv_entry [.ref a0, va_rf v1] (n := 2) (by simp [lg_sl, mx_cat, mx_cati, mx_catl, mx_catr])
  rw [lg_entry_eq]
  generalize (lg_sl [.ref a0, va_rf v1] ++ List.replicate (2 - (lg_sl [.ref a0, va_rf v1]).length) Slot.unset).toArray = ls at hl ⊢
  have hl : lv_has ls 2 [(0, va_rf (some a0)), (1, va_rf v1)] := by have h9 := hl; simp [lv_args, mx_cat, mx_cati, mx_catl, mx_catr] at h9; exact h9
  unfold f_Lo_canGoOnBy at h
  refine mx_aload_n hx hb d_Lo_canGoOnBy_0 rfl (lv_at hl 1 rfl) ?_
  obtain ⟨x1, e2, h⟩ := mx_b h
  refine mx_getiN hx hb hts i_Li hown hK hM e2 (ci := 1) (C := R_Li) (T := T_Li) (N := 8) rfl 1 (by decide) (va_Nw.use rfl (hN _ nw_9)) d_Lo_canGoOnBy_1 ?_
  refine mx_aload_n hx hb d_Lo_canGoOnBy_4 rfl (lv_at hl 0 rfl) ?_
  obtain ⟨x3, e4, h⟩ := mx_b h
  refine mx_getr hx hb hts i_Lo hown hK hM e4 (ci := 3) (C := R_Lo) (T := T_Lo) (N := 12) rfl 0 (by decide) (hts _ wd_55) d_Lo_canGoOnBy_5 ?_
  obtain ⟨x5, e6, h⟩ := mx_b h
  refine mx_getiN hx hb hts i_Li hown hK hM e6 (ci := 1) (C := R_Li) (T := T_Li) (N := 8) rfl 2 (by decide) (va_Nw.use rfl (hN _ nw_4)) d_Lo_canGoOnBy_8 ?_
  refine lv_icmp_ne (tgt := 44) hx hb d_Lo_canGoOnBy_11 (by decide) (fun c7 => ?_) (fun c7 => ?_)
  · rw [if_neg c7] at h
    refine lv_iconst (v := 0) hx hb d_Lo_canGoOnBy_44 (by decide) ?_
    cases h
    exact W.zret hx hb hr rfl (fun t ht hW => ⟨⟨rfl, by rw [ht]; exact hM⟩, hS.F ht⟩) hS.2.2 d_Lo_canGoOnBy_45
  · rw [if_pos c7] at h
    refine mx_aload_n hx hb d_Lo_canGoOnBy_14 rfl (lv_at hl 1 rfl) ?_
    obtain ⟨x8, e9, h⟩ := mx_b h
    refine mx_getiN hx hb hts i_Li hown hK hM e9 (ci := 1) (C := R_Li) (T := T_Li) (N := 8) rfl 2 (by decide) (va_Nw.use rfl (hN _ nw_4)) d_Lo_canGoOnBy_15 ?_
    refine mx_aload_n hx hb d_Lo_canGoOnBy_18 rfl (lv_at hl 0 rfl) ?_
    obtain ⟨x10, e11, h⟩ := mx_b h
    refine mx_geti hx hb hts i_Lo hown hK hM e11 (ci := 3) (C := R_Lo) (T := T_Lo) (N := 12) rfl 1 (by decide) (hts _ wd_72) d_Lo_canGoOnBy_19 ?_
    refine lv_icmp_ne (tgt := 44) hx hb d_Lo_canGoOnBy_22 (by decide) (fun c12 => ?_) (fun c12 => ?_)
    · rw [if_neg c12] at h
      refine lv_iconst (v := 0) hx hb d_Lo_canGoOnBy_44 (by decide) ?_
      cases h
      exact W.zret hx hb hr rfl (fun t ht hW => ⟨⟨rfl, by rw [ht]; exact hM⟩, hS.F ht⟩) hS.2.2 d_Lo_canGoOnBy_45
    · rw [if_pos c12] at h
      refine mx_aload_n hx hb d_Lo_canGoOnBy_25 rfl (lv_at hl 1 rfl) ?_
      obtain ⟨x13, e14, h⟩ := mx_b h
      refine mx_getlN hx hb hts i_Li hown hK hM e14 (ci := 1) (C := R_Li) (T := T_Li) (N := 8) rfl 3 (by decide) (va_Nw.use rfl (hN _ nw_10)) d_Lo_canGoOnBy_26 ?_
      refine mx_aload_n hx hb d_Lo_canGoOnBy_29 rfl (lv_at hl 0 rfl) ?_
      obtain ⟨x15, e16, h⟩ := mx_b h
      refine mx_getr hx hb hts i_Lo hown hK hM e16 (ci := 3) (C := R_Lo) (T := T_Lo) (N := 12) rfl 0 (by decide) (hts _ wd_55) d_Lo_canGoOnBy_30 ?_
      obtain ⟨x17, e18, h⟩ := mx_b h
      refine mx_getlN hx hb hts i_Li hown hK hM e18 (ci := 1) (C := R_Li) (T := T_Li) (N := 8) rfl 3 (by decide) (va_Nw.use rfl (hN _ nw_10)) d_Lo_canGoOnBy_33 ?_
      refine mx_lcmp_le (tgt := 44) hx hb d_Lo_canGoOnBy_36 d_Lo_canGoOnBy_37 (by decide) (fun c19 => ?_) (fun c19 => ?_)
      · rw [if_pos c19] at h
        refine lv_iconst (v := 0) hx hb d_Lo_canGoOnBy_44 (by decide) ?_
        cases h
        exact W.zret hx hb hr rfl (fun t ht hW => ⟨⟨rfl, by rw [ht]; exact hM⟩, hS.F ht⟩) hS.2.2 d_Lo_canGoOnBy_45
      · rw [if_neg c19] at h
        refine lv_iconst (v := 1) hx hb d_Lo_canGoOnBy_40 (by decide) ?_
        refine lv_goto (tgt := 45) hx hb d_Lo_canGoOnBy_41 (by decide) ?_
        cases h
        exact W.zret hx hb hr rfl (fun t ht hW => ⟨⟨rfl, by rw [ht]; exact hM⟩, hS.F ht⟩) hS.2.2 d_Lo_canGoOnBy_45
set_option maxHeartbeats 4000000 in
set_option maxRecDepth 100000 in
theorem c_Lo_hasRoom (l : Launch) (G : mx_G) (a0 : Nat) (mem : mx_Mem) (q : Int32 × mx_Mem) (h : f_Lo_hasRoom a0 mem = some q) : Met l y_Lo_hasRoom (gq_w y_Lo_hasRoom b_Lo_hasRoom 1 (some .boolean)) { frames := 0, cells := 0, slots := 0, locals := 0 } (gq_P G [.ref a0] mem) (gq_Q G (some (.int q.1)) q.2) 0 0 (mx_A G) := by
  refine Met.ofW (cc := b_Lo_hasRoom) (maxL := 1) (ret := (some .boolean)) (by decide) rfl ?_
  intro p e s m args below meth c s₁ B hml hv
  obtain ⟨rfl, hb0, hM, hK, hN⟩ := hv
  have CX : gq_C p (headSpec (gq_w y_Lo_hasRoom b_Lo_hasRoom 1 (some .boolean)) { frames := 0, cells := 0, slots := 0, locals := 0 }).room s m _ meth c G b_Lo_hasRoom 1 (some .boolean) R_Lo 0 0 0 0 := ⟨B.exec, B.bytes, hml, B.returns, findClass_of_methodNamed B.named, fun w hw => atoms_spec (ws := gq_w y_Lo_hasRoom b_Lo_hasRoom 1 (some .boolean)) B.pre w (List.mem_cons_of_mem _ hw), B.notSynchronized, hK, hN, hb0, Nat.le_refl _, Nat.le_refl _, Nat.le_refl _, Nat.le_refl _⟩
  obtain ⟨hx, hb, hml, hr, hown, hts, hlocks, hK, hN, hb0, hRf, hRc, hRs, hRl⟩ := id CX
  have hS : va_S (mx_A G) s.heap s.heap [] := va_S.rf
  have hl := lv_entry [.ref a0] (n := 1) (Nat.le_of_ble_eq_true rfl)
  rw [lg_entry_eq]
  generalize (lg_sl [.ref a0] ++ List.replicate (1 - (lg_sl [.ref a0]).length) Slot.unset).toArray = ls at hl ⊢
  have hl : lv_has ls 1 [(0, va_rf (some a0))] := hl
  unfold f_Lo_hasRoom at h
  refine mx_aload_n hx hb d_Lo_hasRoom_0 rfl (lv_at hl 0 rfl) ?_
  obtain ⟨x1, e2, h⟩ := mx_b h
  refine mx_geti hx hb hts i_Lo hown hK hM e2 (ci := 3) (C := R_Lo) (T := T_Lo) (N := 12) rfl 5 (by decide) (hts _ wd_49) d_Lo_hasRoom_1 ?_
  refine mx_aload_n hx hb d_Lo_hasRoom_4 rfl (lv_at hl 0 rfl) ?_
  obtain ⟨x3, e4, h⟩ := mx_b h
  refine mx_getr hx hb hts i_Lo hown hK hM e4 (ci := 3) (C := R_Lo) (T := T_Lo) (N := 12) rfl 4 (by decide) (hts _ wd_50) d_Lo_hasRoom_5 ?_
  obtain ⟨x5, e6, h⟩ := mx_b h
  refine mx_alen hx hb hK hM e6 rfl d_Lo_hasRoom_8 ?_
  refine lv_icmp_ge (tgt := 16) hx hb d_Lo_hasRoom_9 (by decide) (fun c7 => ?_) (fun c7 => ?_)
  · rw [if_pos c7] at h
    refine lv_iconst (v := 0) hx hb d_Lo_hasRoom_16 (by decide) ?_
    cases h
    exact W.zret hx hb hr rfl (fun t ht hW => ⟨⟨rfl, by rw [ht]; exact hM⟩, hS.F ht⟩) hS.2.2 d_Lo_hasRoom_17
  · rw [if_neg c7] at h
    refine lv_iconst (v := 1) hx hb d_Lo_hasRoom_12 (by decide) ?_
    refine lv_goto (tgt := 17) hx hb d_Lo_hasRoom_13 (by decide) ?_
    cases h
    exact W.zret hx hb hr rfl (fun t ht hW => ⟨⟨rfl, by rw [ht]; exact hM⟩, hS.F ht⟩) hS.2.2 d_Lo_hasRoom_17
set_option maxHeartbeats 4000000 in
set_option maxRecDepth 100000 in
theorem c_Op_init (l : Launch) (G : mx_G) (a0 : Nat) (v1 : Int32) (v2 : Option Nat) (v3 : Int64) (mem : mx_Mem) (q : mx_Mem) (h : f_Op_init a0 v1 v2 v3 mem = some q) : Met l y_Op_init (gq_w y_Op_init b_Op_init 5 none) { frames := 1, cells := 0, slots := 0, locals := 12 } (gq_P G [.ref a0, .int v1, va_rf v2, .long v3] mem) (gq_Q G none q) 0 0 (mx_A G) := by
  refine Met.ofW (cc := b_Op_init) (maxL := 5) (ret := none) (by decide) rfl ?_
  intro p e s m args below meth c s₁ B hml hv
  obtain ⟨rfl, hb0, hM, hK, hN⟩ := hv
  have CX : gq_C p (headSpec (gq_w y_Op_init b_Op_init 5 none) { frames := 1, cells := 0, slots := 0, locals := 12 }).room s m _ meth c G b_Op_init 5 none R_Op 1 0 0 12 := ⟨B.exec, B.bytes, hml, B.returns, findClass_of_methodNamed B.named, fun w hw => atoms_spec (ws := gq_w y_Op_init b_Op_init 5 none) B.pre w (List.mem_cons_of_mem _ hw), B.notSynchronized, hK, hN, hb0, Nat.le_refl _, Nat.le_refl _, Nat.le_refl _, Nat.le_refl _⟩
  have hin : meth.name = "<init>" := (name_of_methodNamed B.named B.method).1
  obtain ⟨hx, hb, hml, hr, hown, hts, hlocks, hK, hN, hb0, hRf, hRc, hRs, hRl⟩ := id CX
  have hS : va_S (mx_A G) s.heap s.heap [] := va_S.rf
  have hl := lv_entry [.ref a0, .int v1, va_rf v2, .long v3] (n := 5) (by simp [lg_sl, mx_cat, mx_cati, mx_catl, mx_catr])
  rw [lg_entry_eq]
  generalize (lg_sl [.ref a0, .int v1, va_rf v2, .long v3] ++ List.replicate (5 - (lg_sl [.ref a0, .int v1, va_rf v2, .long v3]).length) Slot.unset).toArray = ls at hl ⊢
  have hl : lv_has ls 5 [(0, va_rf (some a0)), (1, .int v1), (2, va_rf v2), (3, .long v3)] := by have h9 := hl; simp [lv_args, mx_cat, mx_cati, mx_catl, mx_catr] at h9; exact h9
  unfold f_Op_init at h
  refine mx_aload_n hx hb d_Op_init_0 rfl (lv_at hl 0 rfl) ?_
  refine W.objInit hx hb hown (hts _ wd_143) (hts _ wd_1) (hts _ wd_2) rfl (by rw [hml]; exact hl.1) rfl d_Op_init_1 (Nat.le_trans (Nat.le_of_ble_eq_true rfl) hRf) (Nat.le_trans (Nat.le_of_ble_eq_true rfl) hRl) ?_
  refine W.eq (g2 := F0 m 4 ls []) rfl ?_
  refine mx_aload_n hx hb d_Op_init_4 rfl (lv_at hl 0 rfl) ?_
  refine lv_iload_n hx hb d_Op_init_5 rfl (lv_at hl 1 rfl) ?_
  obtain ⟨m1, e2, h⟩ := mx_b h
  refine mx_putF hx hb hts i_Op t_Op t_Op_ok n_Op hown hK hM hS e2 (ci := 2) (C := R_Op) (T := T_Op) (N := 3) rfl 0 (by decide) (hts _ wd_144) rfl hin rfl (ty := .int) (by decide +kernel) rfl rfl d_Op_init_6 (fun H locs hM hS => ?_)
  refine mx_aload_n hx hb d_Op_init_9 rfl (lv_at hl 0 rfl) ?_
  refine mx_aload_n hx hb d_Op_init_10 rfl (lv_at hl 2 rfl) ?_
  obtain ⟨m3, e4, h⟩ := mx_b h
  refine mx_putF hx hb hts i_Op t_Op t_Op_ok n_Op hown hK hM hS e4 (ci := 2) (C := R_Op) (T := T_Op) (N := 3) rfl 1 (by decide) (hts _ wd_145) rfl hin rfl (ty := (.object "LateRoutes$Line")) (by decide +kernel) (mx_ref_nar _) (mx_ref_fit _) d_Op_init_11 (fun H locs hM hS => ?_)
  refine mx_aload_n hx hb d_Op_init_14 rfl (lv_at hl 0 rfl) ?_
  refine lv_lload_n hx hb d_Op_init_15 rfl (lv_at hl 3 rfl) ?_
  obtain ⟨m5, e6, h⟩ := mx_b h
  refine mx_putF hx hb hts i_Op t_Op t_Op_ok n_Op hown hK hM hS e6 (ci := 2) (C := R_Op) (T := T_Op) (N := 3) rfl 2 (by decide) (hts _ wd_146) rfl hin rfl (ty := .long) (by decide +kernel) rfl rfl d_Op_init_16 (fun H locs hM hS => ?_)
  cases h
  exact W.vret hx hb hr (fun t ht hW => ⟨⟨rfl, by rw [ht]; exact hM⟩, hS.F ht⟩) hS.2.2 d_Op_init_19
set_option maxHeartbeats 4000000 in
set_option maxRecDepth 100000 in
theorem c_Lo_addOption (l : Launch) (G : mx_G) (a0 : Nat) (v1 : Option Nat) (mem : mx_Mem) (q : Int32 × mx_Mem) (h : f_Lo_addOption a0 v1 mem = some q) : Met l y_Lo_addOption (gq_w y_Lo_addOption b_Lo_addOption 2 (some .int)) { frames := 1, cells := 0, slots := 0, locals := 20 } (gq_P G [.ref a0, va_rf v1] mem) (gq_Q G (some (.int q.1)) q.2) 0 0 (mx_A G) := by
  refine Met.ofW (cc := b_Lo_addOption) (maxL := 2) (ret := (some .int)) (by decide) rfl ?_
  intro p e s m args below meth c s₁ B hml hv
  obtain ⟨rfl, hb0, hM, hK, hN⟩ := hv
  have CX : gq_C p (headSpec (gq_w y_Lo_addOption b_Lo_addOption 2 (some .int)) { frames := 1, cells := 0, slots := 0, locals := 20 }).room s m _ meth c G b_Lo_addOption 2 (some .int) R_Lo 1 0 0 20 := ⟨B.exec, B.bytes, hml, B.returns, findClass_of_methodNamed B.named, fun w hw => atoms_spec (ws := gq_w y_Lo_addOption b_Lo_addOption 2 (some .int)) B.pre w (List.mem_cons_of_mem _ hw), B.notSynchronized, hK, hN, hb0, Nat.le_refl _, Nat.le_refl _, Nat.le_refl _, Nat.le_refl _⟩
  obtain ⟨hx, hb, hml, hr, hown, hts, hlocks, hK, hN, hb0, hRf, hRc, hRs, hRl⟩ := id CX
  have hS : va_S (mx_A G) s.heap s.heap [] := va_S.rf
  have hl := lv_entry [.ref a0, va_rf v1] (n := 2) (by simp [lg_sl, mx_cat, mx_cati, mx_catl, mx_catr])
  rw [lg_entry_eq]
  generalize (lg_sl [.ref a0, va_rf v1] ++ List.replicate (2 - (lg_sl [.ref a0, va_rf v1]).length) Slot.unset).toArray = ls at hl ⊢
  have hl : lv_has ls 2 [(0, va_rf (some a0)), (1, va_rf v1)] := by have h9 := hl; simp [lv_args, mx_cat, mx_cati, mx_catl, mx_catr] at h9; exact h9
  unfold f_Lo_addOption at h
  refine mx_aload_n hx hb d_Lo_addOption_0 rfl (lv_at hl 0 rfl) ?_
  obtain ⟨a4, e3, h⟩ := mx_b h
  obtain ⟨q1, e2, h⟩ := mx_b h
  have e5 := mx_c_eq e3
  refine W.eq (g2 := F0 m 1 ls [.ref a4]) (congrArg (fun z => F0 m 1 ls [va_rf z]) e5) ?_
  refine gq_go (va_runV (b := a4) (As := []) (rest := []) ⟨hx, hb, hml, hown, hts⟩ (c_Lo_hasRoom l G a4  _ _ e2) (cwV 0 hts (gq_gV wd_148 wd_149 wd_150 wd_66 wd_147) rfl rfl rfl (by decide +kernel) ⟨Nat.le_trans (Nat.le_of_ble_eq_true rfl) hRf, Nat.le_trans (Nat.le_of_ble_eq_true rfl) hRl⟩) (gq_preV hK hN hM hS hb0 e3 (C := R_Lo) (T := T_Lo) (N := 12) rfl) rfl rfl hl.1 rfl (lv_room (Nat.le_of_ble_eq_true rfl)) d_Lo_addOption_1 ⟨(Nat.le_trans (Nat.le_of_ble_eq_true rfl) hRc), (Nat.le_trans (Nat.le_of_ble_eq_true rfl) hRs)⟩) hS (fun H locs hM hS => ?_)
  refine W.eq (g2 := F0 m 4 ls [.int q1.1]) rfl ?_
  refine lv_if_ne (tgt := 9) hx hb d_Lo_addOption_4 (by decide) (fun c6 => ?_) (fun c6 => ?_)
  · rw [if_neg c6] at h
    refine mx_aload_n hx hb d_Lo_addOption_9 rfl (lv_at hl 0 rfl) ?_
    obtain ⟨x7, e8, h⟩ := mx_b h
    refine mx_getr hx hb hts i_Lo hown hK hM e8 (ci := 3) (C := R_Lo) (T := T_Lo) (N := 12) rfl 4 (by decide) (hts _ wd_50) d_Lo_addOption_10 ?_
    refine mx_aload_n hx hb d_Lo_addOption_13 rfl (lv_at hl 0 rfl) ?_
    obtain ⟨x9, e10, h⟩ := mx_b h
    refine mx_geti hx hb hts i_Lo hown hK hM e10 (ci := 3) (C := R_Lo) (T := T_Lo) (N := 12) rfl 5 (by decide) (hts _ wd_49) d_Lo_addOption_14 ?_
    refine mx_aload_n hx hb d_Lo_addOption_17 rfl (lv_at hl 1 rfl) ?_
    obtain ⟨_, e11, h⟩ := mx_b h
    obtain ⟨m13, e12, h⟩ := mx_b h
    refine mx_aast hx hb hK hM hS e11 e12 rfl rfl d_Lo_addOption_18 (fun H locs hM hS => ?_)
    refine mx_aload_n hx hb d_Lo_addOption_19 rfl (lv_at hl 0 rfl) ?_
    refine lv_dup hx hb d_Lo_addOption_20 (mx_cat _) ?_
    obtain ⟨x14, e15, h⟩ := mx_b h
    refine mx_geti hx hb hts i_Lo hown hK hM e15 (ci := 3) (C := R_Lo) (T := T_Lo) (N := 12) rfl 5 (by decide) (hts _ wd_49) d_Lo_addOption_21 ?_
    refine lv_iconst (v := 1) hx hb d_Lo_addOption_24 (by decide) ?_
    refine lv_iadd hx hb d_Lo_addOption_25 ?_
    obtain ⟨m16, e17, h⟩ := mx_b h
    refine mx_put hx hb hts i_Lo t_Lo t_Lo_ok n_Lo hown hK hM hS e17 (ci := 3) (C := R_Lo) (T := T_Lo) (N := 12) rfl 5 (by decide) (hts _ wd_49) rfl (ty := .int) (by decide +kernel) rfl rfl d_Lo_addOption_26 (fun H locs hM hS => ?_)
    refine mx_aload_n hx hb d_Lo_addOption_29 rfl (lv_at hl 0 rfl) ?_
    obtain ⟨x18, e19, h⟩ := mx_b h
    refine mx_geti hx hb hts i_Lo hown hK hM e19 (ci := 3) (C := R_Lo) (T := T_Lo) (N := 12) rfl 6 (by decide) (hts _ wd_48) d_Lo_addOption_30 ?_
    refine lv_if_ge (tgt := 41) hx hb d_Lo_addOption_33 (by decide) (fun c20 => ?_) (fun c20 => ?_)
    · rw [if_pos c20] at h
      refine mx_aload_n hx hb d_Lo_addOption_41 rfl (lv_at hl 0 rfl) ?_
      obtain ⟨x21, e22, h⟩ := mx_b h
      refine mx_geti hx hb hts i_Lo hown hK hM e22 (ci := 3) (C := R_Lo) (T := T_Lo) (N := 12) rfl 5 (by decide) (hts _ wd_49) d_Lo_addOption_42 ?_
      refine lv_iconst (v := 1) hx hb d_Lo_addOption_45 (by decide) ?_
      refine lv_isub hx hb d_Lo_addOption_46 ?_
      cases h
      exact W.iret hx hb hr (fun t ht hW => ⟨⟨rfl, by rw [ht]; exact hM⟩, hS.F ht⟩) hS.2.2 d_Lo_addOption_47
    · rw [if_neg c20] at h
      refine mx_aload_n hx hb d_Lo_addOption_36 rfl (lv_at hl 0 rfl) ?_
      refine lv_iconst (v := 0) hx hb d_Lo_addOption_37 (by decide) ?_
      obtain ⟨m21, e22, h⟩ := mx_b h
      refine mx_put hx hb hts i_Lo t_Lo t_Lo_ok n_Lo hown hK hM hS e22 (ci := 3) (C := R_Lo) (T := T_Lo) (N := 12) rfl 6 (by decide) (hts _ wd_48) rfl (ty := .int) (by decide +kernel) rfl rfl d_Lo_addOption_38 (fun H locs hM hS => ?_)
      refine mx_aload_n hx hb d_Lo_addOption_41 rfl (lv_at hl 0 rfl) ?_
      obtain ⟨x23, e24, h⟩ := mx_b h
      refine mx_geti hx hb hts i_Lo hown hK hM e24 (ci := 3) (C := R_Lo) (T := T_Lo) (N := 12) rfl 5 (by decide) (hts _ wd_49) d_Lo_addOption_42 ?_
      refine lv_iconst (v := 1) hx hb d_Lo_addOption_45 (by decide) ?_
      refine lv_isub hx hb d_Lo_addOption_46 ?_
      cases h
      exact W.iret hx hb hr (fun t ht hW => ⟨⟨rfl, by rw [ht]; exact hM⟩, hS.F ht⟩) hS.2.2 d_Lo_addOption_47
  · rw [if_pos c6] at h
    refine lv_iconst (v := (-1)) hx hb d_Lo_addOption_7 (by decide) ?_
    cases h
    exact W.iret hx hb hr (fun t ht hW => ⟨⟨rfl, by rw [ht]; exact hM⟩, hS.F ht⟩) hS.2.2 d_Lo_addOption_8
