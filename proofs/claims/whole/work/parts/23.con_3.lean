set_option maxHeartbeats 4000000 in
set_option maxRecDepth 100000 in
theorem wfl_LR_countMoved_4 {p : Program} {l : Launch} {e : Env} {R : Room} {s : State} {m : MethodId} {args : Array Value} {below : List Frame} {meth : Method} {c : Code} {G : mx_G} (q : Int32 × mx_Mem) (CX : gq_C p R s m args meth c G b_LR_countMoved 3 (some .int) R_LR 1 0 0 20)  : ∀ (n : Nat) (v0 : Option Nat) (v1 : Int32) (v2 : Int32) (mem : mx_Mem), fl_LR_countMoved_4  n v0 v1 v2 mem = some q → ∀ (H : Heap) (locs : List Loc) (ls : Array Slot), lv_has ls 3 [(0, va_rf v0), (1, .int v1), (2, .int v2)] → mx_M vwCl G mem H → va_S (mx_A G) s.heap H locs → W p l e R s m args below meth c H locs 0 0 (MQ below (gq_Q G (some (.int q.1)) q.2) args s 0 0 (mx_A G)) (F0 m 4 ls []) := by
  obtain ⟨hx, hb, hml, hr, hown, hts, hlocks, hK, hN, hb0, hRf, hRc, hRs, hRl⟩ := id CX
  intro n
  induction n with
  | zero => intro v0 v1 v2 mem h; rw [fl_LR_countMoved_4] at h; cases h
  | succ n ih =>
    intro v0 v1 v2 mem h H locs ls hl hM hS
    rw [fl_LR_countMoved_4] at h
    refine lv_iload_n hx hb d_LR_countMoved_4 rfl (lv_at hl 2 rfl) ?_
    refine mx_aload_n hx hb d_LR_countMoved_5 rfl (lv_at hl 0 rfl) ?_
    obtain ⟨x1, e2, h⟩ := mx_b h
    refine mx_geti hx hb hts i_LR hown hK hM e2 (ci := 0) (C := R_LR) (T := T_LR) (N := 5) rfl 4 (by decide) (hts _ wd_9) d_LR_countMoved_6 ?_
    refine lv_icmp_ge (tgt := 33) hx hb d_LR_countMoved_9 (by decide) (fun c3 => ?_) (fun c3 => ?_)
    · rw [if_pos c3] at h
      refine lv_iload_n hx hb d_LR_countMoved_33 rfl (lv_at hl 1 rfl) ?_
      cases h
      exact W.iret hx hb hr (fun t ht hW => ⟨⟨rfl, by rw [ht]; exact hM⟩, hS.F ht⟩) hS.2.2 d_LR_countMoved_34
    · rw [if_neg c3] at h
      refine mx_aload_n hx hb d_LR_countMoved_12 rfl (lv_at hl 0 rfl) ?_
      obtain ⟨x4, e5, h⟩ := mx_b h
      refine mx_getr hx hb hts i_LR hown hK hM e5 (ci := 0) (C := R_LR) (T := T_LR) (N := 5) rfl 2 (by decide) (hts _ wd_6) d_LR_countMoved_13 ?_
      refine lv_iload_n hx hb d_LR_countMoved_16 rfl (lv_at hl 2 rfl) ?_
      obtain ⟨x6, e7, h⟩ := mx_b h
      refine mx_aald hx hb hK hM e7 rfl d_LR_countMoved_17 ?_
      obtain ⟨a11, e10, h⟩ := mx_b h
      obtain ⟨q8, e9, h⟩ := mx_b h
      have e12 := mx_c_eq e10
      refine W.eq (g2 := F0 m 18 ls [.ref a11]) (congrArg (fun z => F0 m 18 ls [va_rf z]) e12) ?_
      refine gq_go (va_runV (b := a11) (As := []) (rest := []) ⟨hx, hb, hml, hown, hts⟩ (c_Lo_hasMoved l G a11  _ _ e9) (cwV 0 hts (gq_gV wd_146 wd_147 wd_148 wd_42 wd_145) rfl rfl rfl (by decide +kernel) ⟨Nat.le_trans (Nat.le_of_ble_eq_true rfl) hRf, Nat.le_trans (Nat.le_of_ble_eq_true rfl) hRl⟩) (gq_preV hK hN hM hS hb0 e10 (C := R_Lo) (T := T_Lo) (N := 12) rfl) rfl rfl hl.1 rfl (lv_room (Nat.le_of_ble_eq_true rfl)) d_LR_countMoved_18 ⟨Nat.le_trans (Nat.le_of_ble_eq_true rfl) hRc, Nat.le_trans (Nat.le_of_ble_eq_true rfl) hRs⟩) hS (fun H locs hM hS => ?_)
      refine W.eq (g2 := F0 m 21 ls [.int q8.1]) rfl ?_
      refine lv_if_eq (tgt := 27) hx hb d_LR_countMoved_21 (by decide) (fun c13 => ?_) (fun c13 => ?_)
      · rw [if_pos c13] at h
        refine lv_iinc (v := (v2 + 1)) (lv' := [(2, .int ((v2 + 1))), (0, va_rf v0), (1, .int v1)]) hx hb d_LR_countMoved_27 hl (k := 2) rfl rfl (by decide) rfl (fun ls hl => ?_)
        refine lv_goto (tgt := 4) hx hb d_LR_countMoved_30 (by decide) ?_
        exact ih _ _ _ _ h _ _ _ (lv_sub hl [1, 2, 0] rfl) hM hS
      · rw [if_neg c13] at h
        refine lv_iinc (v := (v1 + 1)) (lv' := [(1, .int ((v1 + 1))), (0, va_rf v0), (2, .int v2)]) hx hb d_LR_countMoved_24 hl (k := 1) rfl rfl (by decide) (by simp [mx_cat, mx_cati, mx_catl, mx_catr]) (fun ls hl => ?_)
        refine lv_iinc (v := (v2 + 1)) (lv' := [(2, .int ((v2 + 1))), (1, .int ((v1 + 1))), (0, va_rf v0)]) hx hb d_LR_countMoved_27 hl (k := 2) rfl rfl (by decide) rfl (fun ls hl => ?_)
        refine lv_goto (tgt := 4) hx hb d_LR_countMoved_30 (by decide) ?_
        exact ih _ _ _ _ h _ _ _ (lv_sub hl [2, 1, 0] rfl) hM hS
set_option maxHeartbeats 4000000 in
set_option maxRecDepth 100000 in
theorem c_LR_countMoved (l : Launch) (G : mx_G) (a0 : Nat) (mem : mx_Mem) (q : Int32 × mx_Mem) (h : f_LR_countMoved a0 mem = some q) : Met l y_LR_countMoved (gq_w y_LR_countMoved b_LR_countMoved 3 (some .int)) { frames := 1, cells := 0, slots := 0, locals := 20 } (gq_P G [.ref a0] mem) (gq_Q G (some (.int q.1)) q.2) 0 0 (mx_A G) := by
  refine Met.ofW (cc := b_LR_countMoved) (maxL := 3) (ret := (some .int)) (by decide) rfl ?_
  intro p e s m args below meth c s₁ B hml hv
  obtain ⟨rfl, hb0, hM, hK, hN⟩ := hv
  have CX : gq_C p (headSpec (gq_w y_LR_countMoved b_LR_countMoved 3 (some .int)) { frames := 1, cells := 0, slots := 0, locals := 20 }).room s m _ meth c G b_LR_countMoved 3 (some .int) R_LR 1 0 0 20 := ⟨B.exec, B.bytes, hml, B.returns, findClass_of_methodNamed B.named, fun w hw => atoms_spec (ws := gq_w y_LR_countMoved b_LR_countMoved 3 (some .int)) B.pre w (List.mem_cons_of_mem _ hw), B.notSynchronized, hK, hN, hb0, Nat.le_refl _, Nat.le_refl _, Nat.le_refl _, Nat.le_refl _⟩
  obtain ⟨hx, hb, hml, hr, hown, hts, hlocks, hK, hN, hb0, hRf, hRc, hRs, hRl⟩ := id CX
  have hS : va_S (mx_A G) s.heap s.heap [] := va_S.rf
  have hl := lv_entry [.ref a0] (n := 3) (Nat.le_of_ble_eq_true rfl)
  rw [lg_entry_eq]
  generalize (lg_sl [.ref a0] ++ List.replicate (3 - (lg_sl [.ref a0]).length) Slot.unset).toArray = ls at hl ⊢
  have hl : lv_has ls 3 [(0, va_rf (some a0))] := hl
  unfold f_LR_countMoved at h
  refine lv_iconst (v := 0) hx hb d_LR_countMoved_0 (by decide) ?_
  refine lv_istore_n (lv' := [(1, .int 0), (0, va_rf (some a0))]) hx hb d_LR_countMoved_1 rfl hl (by decide) (by simp [mx_cat, mx_cati, mx_catl, mx_catr]) (fun ls hl => ?_)
  refine lv_iconst (v := 0) hx hb d_LR_countMoved_2 (by decide) ?_
  refine lv_istore_n (lv' := [(2, .int 0), (1, .int 0), (0, va_rf (some a0))]) hx hb d_LR_countMoved_3 rfl hl (by decide) rfl (fun ls hl => ?_)
  refine wfl_LR_countMoved_4 q CX  5000 _ _ _ _ h _ _ _ (lv_sub hl [2, 1, 0] rfl) hM hS
set_option maxHeartbeats 4000000 in
set_option maxRecDepth 100000 in
theorem wfl_LR_tell_32 {p : Program} {l : Launch} {e : Env} {R : Room} {s : State} {m : MethodId} {args : Array Value} {below : List Frame} {meth : Method} {c : Code} {G : mx_G} (q : Int32 × mx_Mem) (CX : gq_C p R s m args meth c G b_LR_tell 6 (some .int) R_LR 4 0 0 80)  : ∀ (n : Nat) (v0 : Option Nat) (v2 : Int64) (v4 : Option Nat) (v5 : Int32) (mem : mx_Mem), fl_LR_tell_32  n v0 v2 v4 v5 mem = some q → ∀ (H : Heap) (locs : List Loc) (ls : Array Slot), lv_has ls 6 [(0, va_rf v0), (2, .long v2), (4, va_rf v4), (5, .int v5)] → mx_M vwCl G mem H → va_S (mx_A G) s.heap H locs → W p l e R s m args below meth c H locs 0 0 (MQ below (gq_Q G (some (.int q.1)) q.2) args s 0 0 (mx_A G)) (F0 m 32 ls []) := by
  obtain ⟨hx, hb, hml, hr, hown, hts, hlocks, hK, hN, hb0, hRf, hRc, hRs, hRl⟩ := id CX
  intro n
  induction n with
  | zero => intro v0 v2 v4 v5 mem h; rw [fl_LR_tell_32] at h; cases h
  | succ n ih =>
    intro v0 v2 v4 v5 mem h H locs ls hl hM hS
    rw [fl_LR_tell_32] at h
    refine lv_iload hx hb d_LR_tell_32 (lv_at hl 3 rfl) ?_
    refine mx_aload_n hx hb d_LR_tell_34 rfl (lv_at hl 0 rfl) ?_
    obtain ⟨x1, e2, h⟩ := mx_b h
    refine mx_geti hx hb hts i_LR hown hK hM e2 (ci := 0) (C := R_LR) (T := T_LR) (N := 5) rfl 4 (by decide) (hts _ wd_9) d_LR_tell_35 ?_
    refine lv_icmp_ge (tgt := 82) hx hb d_LR_tell_38 (by decide) (fun c3 => ?_) (fun c3 => ?_)
    · rw [if_pos c3] at h
      refine mx_aload hx hb d_LR_tell_82 (lv_at hl 2 rfl) ?_
      refine lv_lload_n hx hb d_LR_tell_84 rfl (lv_at hl 1 rfl) ?_
      obtain ⟨m4, e5, h⟩ := mx_b h
      refine mx_putN hx hb hts i_Li t_Li t_Li_ok n_Li hown hK hM hS e5 (ci := 1) (C := R_Li) (T := T_Li) (N := 8) rfl 5 (by decide) (va_Nw.use rfl (hN _ nw_13)) rfl (ty := .long) (by decide +kernel) rfl rfl d_LR_tell_85 (fun H locs hM hS => ?_)
      refine mx_aload_n hx hb d_LR_tell_88 rfl (lv_at hl 0 rfl) ?_
      obtain ⟨a9, e8, h⟩ := mx_b h
      obtain ⟨q6, e7, h⟩ := mx_b h
      have e10 := mx_c_eq e8
      refine W.eq (g2 := F0 m 89 ls [.ref a9]) (congrArg (fun z => F0 m 89 ls [va_rf z]) e10) ?_
      refine gq_go (va_runV (b := a9) (As := []) (rest := []) ⟨hx, hb, hml, hown, hts⟩ (c_LR_settle l G a9  _ _ e7) (cwV 0 hts (gq_gV wd_82 wd_83 wd_84 wd_14 wd_81) rfl rfl rfl (by decide +kernel) ⟨Nat.le_trans (Nat.le_of_ble_eq_true rfl) hRf, Nat.le_trans (Nat.le_of_ble_eq_true rfl) hRl⟩) (gq_preV hK hN hM hS hb0 e8 (C := R_LR) (T := T_LR) (N := 5) rfl) rfl rfl hl.1 rfl (lv_room (Nat.le_of_ble_eq_true rfl)) d_LR_tell_89 ⟨Nat.le_trans (Nat.le_of_ble_eq_true rfl) hRc, Nat.le_trans (Nat.le_of_ble_eq_true rfl) hRs⟩) hS (fun H locs hM hS => ?_)
      refine W.eq (g2 := F0 m 92 ls []) rfl ?_
      refine mx_aload_n hx hb d_LR_tell_92 rfl (lv_at hl 0 rfl) ?_
      obtain ⟨a14, e13, h⟩ := mx_b h
      obtain ⟨q11, e12, h⟩ := mx_b h
      have e15 := mx_c_eq e13
      refine W.eq (g2 := F0 m 93 ls [.ref a14]) (congrArg (fun z => F0 m 93 ls [va_rf z]) e15) ?_
      refine gq_go (va_runV (b := a14) (As := []) (rest := []) ⟨hx, hb, hml, hown, hts⟩ (c_LR_countMoved l G a14  _ _ e12) (cwV 0 hts (gq_gV wd_150 wd_151 wd_152 wd_14 wd_149) rfl rfl rfl (by decide +kernel) ⟨Nat.le_trans (Nat.le_of_ble_eq_true rfl) hRf, Nat.le_trans (Nat.le_of_ble_eq_true rfl) hRl⟩) (gq_preV hK hN hM hS hb0 e13 (C := R_LR) (T := T_LR) (N := 5) rfl) rfl rfl hl.1 rfl (lv_room (Nat.le_of_ble_eq_true rfl)) d_LR_tell_93 ⟨Nat.le_trans (Nat.le_of_ble_eq_true rfl) hRc, Nat.le_trans (Nat.le_of_ble_eq_true rfl) hRs⟩) hS (fun H locs hM hS => ?_)
      refine W.eq (g2 := F0 m 96 ls [.int q11.1]) rfl ?_
      cases h
      exact W.iret hx hb hr (fun t ht hW => ⟨⟨rfl, by rw [ht]; exact hM⟩, hS.F ht⟩) hS.2.2 d_LR_tell_96
    · rw [if_neg c3] at h
      refine mx_aload_n hx hb d_LR_tell_41 rfl (lv_at hl 0 rfl) ?_
      obtain ⟨x4, e5, h⟩ := mx_b h
      refine mx_getr hx hb hts i_LR hown hK hM e5 (ci := 0) (C := R_LR) (T := T_LR) (N := 5) rfl 2 (by decide) (hts _ wd_6) d_LR_tell_42 ?_
      refine lv_iload hx hb d_LR_tell_45 (lv_at hl 3 rfl) ?_
      obtain ⟨x6, e7, h⟩ := mx_b h
      refine mx_aald hx hb hK hM e7 rfl d_LR_tell_47 ?_
      obtain ⟨a11, e10, h⟩ := mx_b h
      obtain ⟨q8, e9, h⟩ := mx_b h
      have e12 := mx_c_eq e10
      refine W.eq (g2 := F0 m 48 ls [.ref a11]) (congrArg (fun z => F0 m 48 ls [va_rf z]) e12) ?_
      refine gq_go (va_runV (b := a11) (As := []) (rest := []) ⟨hx, hb, hml, hown, hts⟩ (c_Lo_rememberArrival l G a11  _ _ e9) (cwV 0 hts (gq_gV wd_154 wd_155 wd_156 wd_42 wd_153) rfl rfl rfl (by decide +kernel) ⟨Nat.le_trans (Nat.le_of_ble_eq_true rfl) hRf, Nat.le_trans (Nat.le_of_ble_eq_true rfl) hRl⟩) (gq_preV hK hN hM hS hb0 e10 (C := R_Lo) (T := T_Lo) (N := 12) rfl) rfl rfl hl.1 rfl (lv_room (Nat.le_of_ble_eq_true rfl)) d_LR_tell_48 ⟨Nat.le_trans (Nat.le_of_ble_eq_true rfl) hRc, Nat.le_trans (Nat.le_of_ble_eq_true rfl) hRs⟩) hS (fun H locs hM hS => ?_)
      refine W.eq (g2 := F0 m 51 ls []) rfl ?_
      refine mx_aload_n hx hb d_LR_tell_51 rfl (lv_at hl 0 rfl) ?_
      obtain ⟨x13, e14, h⟩ := mx_b h
      refine mx_getr hx hb hts i_LR hown hK hM e14 (ci := 0) (C := R_LR) (T := T_LR) (N := 5) rfl 2 (by decide) (hts _ wd_6) d_LR_tell_52 ?_
      refine lv_iload hx hb d_LR_tell_55 (lv_at hl 3 rfl) ?_
      obtain ⟨x15, e16, h⟩ := mx_b h
      refine mx_aald hx hb hK hM e16 rfl d_LR_tell_57 ?_
      refine mx_aload hx hb d_LR_tell_58 (lv_at hl 2 rfl) ?_
      obtain ⟨a20, e19, h⟩ := mx_b h
      obtain ⟨q17, e18, h⟩ := mx_b h
      have e21 := mx_c_eq e19
      refine W.eq (g2 := F0 m 60 ls [va_rf v4, .ref a20]) (congrArg (fun z => F0 m 60 ls [va_rf v4, va_rf z]) e21) ?_
      refine gq_go (va_runV (b := a20) (As := [va_rf v4]) (rest := []) ⟨hx, hb, hml, hown, hts⟩ (c_Lo_concerns l G a20 v4 _ _ e18) (cwV 1 hts (gq_gV wd_158 wd_159 wd_160 wd_42 wd_157) rfl rfl rfl (by decide +kernel) ⟨Nat.le_trans (Nat.le_of_ble_eq_true rfl) hRf, Nat.le_trans (Nat.le_of_ble_eq_true rfl) hRl⟩) (gq_preV hK hN hM hS hb0 e19 (C := R_Lo) (T := T_Lo) (N := 12) rfl) rfl rfl hl.1 rfl (lv_room (Nat.le_of_ble_eq_true rfl)) d_LR_tell_60 ⟨Nat.le_trans (Nat.le_of_ble_eq_true rfl) hRc, Nat.le_trans (Nat.le_of_ble_eq_true rfl) hRs⟩) hS (fun H locs hM hS => ?_)
      refine W.eq (g2 := F0 m 63 ls [.int q17.1]) rfl ?_
      refine lv_if_eq (tgt := 76) hx hb d_LR_tell_63 (by decide) (fun c22 => ?_) (fun c22 => ?_)
      · rw [if_pos c22] at h
        refine lv_iinc (v := (v5 + 1)) (lv' := [(5, .int ((v5 + 1))), (0, va_rf v0), (2, .long v2), (4, va_rf v4)]) hx hb d_LR_tell_76 hl (k := 3) rfl rfl (by decide) (by simp [mx_cat, mx_cati, mx_catl, mx_catr]) (fun ls hl => ?_)
        refine lv_goto (tgt := 32) hx hb d_LR_tell_79 (by decide) ?_
        exact ih _ _ _ _ _ h _ _ _ (lv_sub hl [1, 2, 3, 0] rfl) hM hS
      · rw [if_neg c22] at h
        refine mx_aload_n hx hb d_LR_tell_66 rfl (lv_at hl 0 rfl) ?_
        obtain ⟨x23, e24, h⟩ := mx_b h
        refine mx_getr hx hb hts i_LR hown hK hM e24 (ci := 0) (C := R_LR) (T := T_LR) (N := 5) rfl 2 (by decide) (hts _ wd_6) d_LR_tell_67 ?_
        refine lv_iload hx hb d_LR_tell_70 (lv_at hl 3 rfl) ?_
        obtain ⟨x25, e26, h⟩ := mx_b h
        refine mx_aald hx hb hK hM e26 rfl d_LR_tell_72 ?_
        obtain ⟨a30, e29, h⟩ := mx_b h
        obtain ⟨q27, e28, h⟩ := mx_b h
        have e31 := mx_c_eq e29
        refine W.eq (g2 := F0 m 73 ls [.ref a30]) (congrArg (fun z => F0 m 73 ls [va_rf z]) e31) ?_
        refine gq_go (va_runV (b := a30) (As := []) (rest := []) ⟨hx, hb, hml, hown, hts⟩ (c_Lo_pickFirst l G a30  _ _ e28) (cwV 0 hts (gq_gV wd_162 wd_163 wd_164 wd_42 wd_161) rfl rfl rfl (by decide +kernel) ⟨Nat.le_trans (Nat.le_of_ble_eq_true rfl) hRf, Nat.le_trans (Nat.le_of_ble_eq_true rfl) hRl⟩) (gq_preV hK hN hM hS hb0 e29 (C := R_Lo) (T := T_Lo) (N := 12) rfl) rfl rfl hl.1 rfl (lv_room (Nat.le_of_ble_eq_true rfl)) d_LR_tell_73 ⟨Nat.le_trans (Nat.le_of_ble_eq_true rfl) hRc, Nat.le_trans (Nat.le_of_ble_eq_true rfl) hRs⟩) hS (fun H locs hM hS => ?_)
        refine W.eq (g2 := F0 m 76 ls []) rfl ?_
        refine lv_iinc (v := (v5 + 1)) (lv' := [(5, .int ((v5 + 1))), (0, va_rf v0), (2, .long v2), (4, va_rf v4)]) hx hb d_LR_tell_76 hl (k := 3) rfl rfl (by decide) (by simp [mx_cat, mx_cati, mx_catl, mx_catr]) (fun ls hl => ?_)
        refine lv_goto (tgt := 32) hx hb d_LR_tell_79 (by decide) ?_
        exact ih _ _ _ _ _ h _ _ _ (lv_sub hl [1, 2, 3, 0] rfl) hM hS
set_option maxHeartbeats 4000000 in
set_option maxRecDepth 100000 in
theorem c_LR_tell (l : Launch) (G : mx_G) (a0 : Nat) (v1 : Int32) (v2 : Int64) (mem : mx_Mem) (q : Int32 × mx_Mem) (h : f_LR_tell a0 v1 v2 mem = some q) : Met l y_LR_tell (gq_w y_LR_tell b_LR_tell 6 (some .int)) { frames := 4, cells := 0, slots := 0, locals := 80 } (gq_P G [.ref a0, .int v1, .long v2] mem) (gq_Q G (some (.int q.1)) q.2) 0 0 (mx_A G) := by
  refine Met.ofW (cc := b_LR_tell) (maxL := 6) (ret := (some .int)) (by decide) rfl ?_
  intro p e s m args below meth c s₁ B hml hv
  obtain ⟨rfl, hb0, hM, hK, hN⟩ := hv
  have CX : gq_C p (headSpec (gq_w y_LR_tell b_LR_tell 6 (some .int)) { frames := 4, cells := 0, slots := 0, locals := 80 }).room s m _ meth c G b_LR_tell 6 (some .int) R_LR 4 0 0 80 := ⟨B.exec, B.bytes, hml, B.returns, findClass_of_methodNamed B.named, fun w hw => atoms_spec (ws := gq_w y_LR_tell b_LR_tell 6 (some .int)) B.pre w (List.mem_cons_of_mem _ hw), B.notSynchronized, hK, hN, hb0, Nat.le_refl _, Nat.le_refl _, Nat.le_refl _, Nat.le_refl _⟩
  obtain ⟨hx, hb, hml, hr, hown, hts, hlocks, hK, hN, hb0, hRf, hRc, hRs, hRl⟩ := id CX
  have hS : va_S (mx_A G) s.heap s.heap [] := va_S.rf
  have hl := lv_entry [.ref a0, .int v1, .long v2] (n := 6) (Nat.le_of_ble_eq_true rfl)
  rw [lg_entry_eq]
  generalize (lg_sl [.ref a0, .int v1, .long v2] ++ List.replicate (6 - (lg_sl [.ref a0, .int v1, .long v2]).length) Slot.unset).toArray = ls at hl ⊢
  have hl : lv_has ls 6 [(0, va_rf (some a0)), (1, .int v1), (2, .long v2)] := hl
  unfold f_LR_tell at h
  refine mx_aload_n hx hb d_LR_tell_0 rfl (lv_at hl 0 rfl) ?_
  refine lv_iload_n hx hb d_LR_tell_1 rfl (lv_at hl 1 rfl) ?_
  obtain ⟨a4, e3, h⟩ := mx_b h
  obtain ⟨q1, e2, h⟩ := mx_b h
  have e5 := mx_c_eq e3
  refine W.eq (g2 := F0 m 2 ls [.int v1, .ref a4]) (congrArg (fun z => F0 m 2 ls [.int v1, va_rf z]) e5) ?_
  refine gq_go (va_runV (b := a4) (As := [.int v1]) (rest := []) ⟨hx, hb, hml, hown, hts⟩ (c_LR_findLine l G a4 v1 _ _ e2) (cwV 1 hts (gq_gV wd_91 wd_92 wd_93 wd_14 wd_90) rfl rfl rfl (by decide +kernel) ⟨Nat.le_trans (Nat.le_of_ble_eq_true rfl) hRf, Nat.le_trans (Nat.le_of_ble_eq_true rfl) hRl⟩) (gq_preV hK hN hM hS hb0 e3 (C := R_LR) (T := T_LR) (N := 5) rfl) rfl rfl hl.1 rfl (lv_room (Nat.le_of_ble_eq_true rfl)) d_LR_tell_2 ⟨Nat.le_trans (Nat.le_of_ble_eq_true rfl) hRc, Nat.le_trans (Nat.le_of_ble_eq_true rfl) hRs⟩) hS (fun H locs hM hS => ?_)
  refine W.eq (g2 := F0 m 5 ls [va_rf q1.1]) rfl ?_
  refine mx_astore (lv' := [(4, va_rf q1.1), (0, va_rf (some a0)), (1, .int v1), (2, .long v2)]) hx hb d_LR_tell_5 hl (by decide) rfl (fun ls hl => ?_)
  refine mx_aload hx hb d_LR_tell_7 (lv_at hl 0 rfl) ?_
  refine mx_ifnonnull (tgt := 15) hx hb d_LR_tell_9 (by decide) (fun c6 => ?_) (fun c6 => ?_)
  · rw [if_neg c6] at h
    refine lv_lload_n hx hb d_LR_tell_15 rfl (lv_at hl 3 rfl) ?_
    refine lv_lconst (v := 0) hx hb d_LR_tell_16 (by decide) ?_
    refine lv_ldc2 (v := 2000) hx hb hown (hts _ wd_139) d_LR_tell_17 ?_
    obtain ⟨q7, e8, h⟩ := mx_b h
    refine gq_go (va_runS (As := [.long v2, .long 0, .long 2000]) (rest := []) ⟨hx, hb, hml, hown, hts⟩ (c_LR_isWithin l G v2 0 2000 _ _ e8) (cwS 3 hts (gq_gS wd_12 wd_13 wd_14 wd_11) rfl rfl rfl (by decide +kernel) ⟨Nat.le_trans (Nat.le_of_ble_eq_true rfl) hRf, Nat.le_trans (Nat.le_of_ble_eq_true rfl) hRl⟩) (gq_preS hK hN hM hS hb0) rfl rfl hl.1 rfl (lv_room (Nat.le_of_ble_eq_true rfl)) d_LR_tell_20 ⟨Nat.le_trans (Nat.le_of_ble_eq_true rfl) hRc, Nat.le_trans (Nat.le_of_ble_eq_true rfl) hRs⟩) hS (fun H locs hM hS => ?_)
    refine W.eq (g2 := F0 m 23 ls [.int q7.1]) rfl ?_
    refine lv_if_ne (tgt := 29) hx hb d_LR_tell_23 (by decide) (fun c10 => ?_) (fun c10 => ?_)
    · rw [if_neg c10] at h
      refine lv_iconst (v := 0) hx hb d_LR_tell_29 (by decide) ?_
      refine lv_istore (lv' := [(5, .int 0), (4, va_rf q1.1), (0, va_rf (some a0)), (1, .int v1), (2, .long v2)]) hx hb d_LR_tell_30 hl (by decide) (by simp [mx_cat, mx_cati, mx_catl, mx_catr]) (fun ls hl => ?_)
      refine wfl_LR_tell_32 q CX  5000 _ _ _ _ _ h _ _ _ (lv_sub hl [2, 4, 1, 0] rfl) hM hS
    · rw [if_pos c10] at h
      refine lv_bipush (v := (-12)) hx hb d_LR_tell_26 (by decide) ?_
      cases h
      exact W.iret hx hb hr (fun t ht hW => ⟨⟨rfl, by rw [ht]; exact hM⟩, hS.F ht⟩) hS.2.2 d_LR_tell_28
  · rw [if_pos c6] at h
    refine lv_bipush (v := (-11)) hx hb d_LR_tell_12 (by decide) ?_
    cases h
    exact W.iret hx hb hr (fun t ht hW => ⟨⟨rfl, by rw [ht]; exact hM⟩, hS.F ht⟩) hS.2.2 d_LR_tell_14
set_option maxHeartbeats 4000000 in
set_option maxRecDepth 100000 in
theorem c_Lo_harm (l : Launch) (G : mx_G) (a0 : Nat) (mem : mx_Mem) (q : Int64 × mx_Mem) (h : f_Lo_harm a0 mem = some q) : Met l y_Lo_harm (gq_w y_Lo_harm b_Lo_harm 2 (some .long)) { frames := 2, cells := 0, slots := 0, locals := 35 } (gq_P G [.ref a0] mem) (gq_Q G (some (.long q.1)) q.2) 0 0 (mx_A G) := by
  refine Met.ofW (cc := b_Lo_harm) (maxL := 2) (ret := (some .long)) (by decide) rfl ?_
  intro p e s m args below meth c s₁ B hml hv
  obtain ⟨rfl, hb0, hM, hK, hN⟩ := hv
  have CX : gq_C p (headSpec (gq_w y_Lo_harm b_Lo_harm 2 (some .long)) { frames := 2, cells := 0, slots := 0, locals := 35 }).room s m _ meth c G b_Lo_harm 2 (some .long) R_Lo 2 0 0 35 := ⟨B.exec, B.bytes, hml, B.returns, findClass_of_methodNamed B.named, fun w hw => atoms_spec (ws := gq_w y_Lo_harm b_Lo_harm 2 (some .long)) B.pre w (List.mem_cons_of_mem _ hw), B.notSynchronized, hK, hN, hb0, Nat.le_refl _, Nat.le_refl _, Nat.le_refl _, Nat.le_refl _⟩
  obtain ⟨hx, hb, hml, hr, hown, hts, hlocks, hK, hN, hb0, hRf, hRc, hRs, hRl⟩ := id CX
  have hS : va_S (mx_A G) s.heap s.heap [] := va_S.rf
  have hl := lv_entry [.ref a0] (n := 2) (Nat.le_of_ble_eq_true rfl)
  rw [lg_entry_eq]
  generalize (lg_sl [.ref a0] ++ List.replicate (2 - (lg_sl [.ref a0]).length) Slot.unset).toArray = ls at hl ⊢
  have hl : lv_has ls 2 [(0, va_rf (some a0))] := hl
  unfold f_Lo_harm at h
  refine mx_aload_n hx hb d_Lo_harm_0 rfl (lv_at hl 0 rfl) ?_
  obtain ⟨a4, e3, h⟩ := mx_b h
  obtain ⟨q1, e2, h⟩ := mx_b h
  have e5 := mx_c_eq e3
  refine W.eq (g2 := F0 m 1 ls [.ref a4]) (congrArg (fun z => F0 m 1 ls [va_rf z]) e5) ?_
  refine gq_go (va_runV (b := a4) (As := []) (rest := []) ⟨hx, hb, hml, hown, hts⟩ (c_Lo_pickedOption l G a4  _ _ e2) (cwV 0 hts (gq_gV wd_39 wd_40 wd_41 wd_42 wd_38) rfl rfl rfl (by decide +kernel) ⟨Nat.le_trans (Nat.le_of_ble_eq_true rfl) hRf, Nat.le_trans (Nat.le_of_ble_eq_true rfl) hRl⟩) (gq_preV hK hN hM hS hb0 e3 (C := R_Lo) (T := T_Lo) (N := 12) rfl) rfl rfl hl.1 rfl (lv_room (Nat.le_of_ble_eq_true rfl)) d_Lo_harm_1 ⟨Nat.le_trans (Nat.le_of_ble_eq_true rfl) hRc, Nat.le_trans (Nat.le_of_ble_eq_true rfl) hRs⟩) hS (fun H locs hM hS => ?_)
  refine W.eq (g2 := F0 m 4 ls [va_rf q1.1]) rfl ?_
  refine mx_astore_n (lv' := [(1, va_rf q1.1), (0, va_rf (some a0))]) hx hb d_Lo_harm_4 rfl hl (by decide) (by simp [mx_cat, mx_cati, mx_catl, mx_catr]) (fun ls hl => ?_)
  refine mx_aload_n hx hb d_Lo_harm_5 rfl (lv_at hl 1 rfl) ?_
  obtain ⟨x6, e7, h⟩ := mx_b h
  refine mx_geti hx hb hts i_Lo hown hK hM e7 (ci := 3) (C := R_Lo) (T := T_Lo) (N := 12) rfl 3 (by decide) (hts _ wd_88) d_Lo_harm_6 ?_
  refine lv_i2l hx hb d_Lo_harm_9 rfl ?_
  refine mx_aload_n hx hb d_Lo_harm_10 rfl (lv_at hl 1 rfl) ?_
  obtain ⟨a11, e10, h⟩ := mx_b h
  obtain ⟨q8, e9, h⟩ := mx_b h
  have e12 := mx_c_eq e10
  refine W.eq (g2 := F0 m 11 ls [.ref a11, .long x6.toInt64]) (congrArg (fun z => F0 m 11 ls [va_rf z, .long x6.toInt64]) e12) ?_
  refine gq_go (va_runV (b := a11) (As := []) (rest := [.long x6.toInt64]) ⟨hx, hb, hml, hown, hts⟩ (c_Lo_minutesBehind l G a11  _ _ e9) (cwV 0 hts (gq_gV wd_165 wd_137 wd_138 wd_42 wd_135) rfl rfl rfl (by decide +kernel) ⟨Nat.le_trans (Nat.le_of_ble_eq_true rfl) hRf, Nat.le_trans (Nat.le_of_ble_eq_true rfl) hRl⟩) (gq_preV hK hN hM hS hb0 e10 (C := R_Lo) (T := T_Lo) (N := 12) rfl) rfl rfl hl.1 rfl (lv_room (Nat.le_of_ble_eq_true rfl)) d_Lo_harm_11 ⟨Nat.le_trans (Nat.le_of_ble_eq_true rfl) hRc, Nat.le_trans (Nat.le_of_ble_eq_true rfl) hRs⟩) hS (fun H locs hM hS => ?_)
  refine W.eq (g2 := F0 m 14 ls [.long q8.1, .long x6.toInt64]) rfl ?_
  refine lv_lmul hx hb d_Lo_harm_14 ?_
  refine mx_aload_n hx hb d_Lo_harm_15 rfl (lv_at hl 0 rfl) ?_
  refine mx_ifnonnull (tgt := 23) hx hb d_Lo_harm_16 (by decide) (fun c13 => ?_) (fun c13 => ?_)
  · rw [if_neg c13] at h
    refine mx_aload_n hx hb d_Lo_harm_23 rfl (lv_at hl 0 rfl) ?_
    obtain ⟨x14, e15, h⟩ := mx_b h
    refine mx_getlN hx hb hts i_Op hown hK hM e15 (ci := 2) (C := R_Op) (T := T_Op) (N := 3) rfl 2 (by decide) (va_Nw.use rfl (hN _ nw_15)) d_Lo_harm_24 ?_
    refine lv_ladd hx hb d_Lo_harm_27 ?_
    cases h
    exact W.lret hx hb hr (fun t ht hW => ⟨⟨rfl, by rw [ht]; exact hM⟩, hS.F ht⟩) hS.2.2 d_Lo_harm_28
  · rw [if_pos c13] at h
    refine lv_lconst (v := 0) hx hb d_Lo_harm_19 (by decide) ?_
    refine lv_goto (tgt := 27) hx hb d_Lo_harm_20 (by decide) ?_
    refine lv_ladd hx hb d_Lo_harm_27 ?_
    cases h
    exact W.lret hx hb hr (fun t ht hW => ⟨⟨rfl, by rw [ht]; exact hM⟩, hS.F ht⟩) hS.2.2 d_Lo_harm_28
set_option maxHeartbeats 4000000 in
set_option maxRecDepth 100000 in
theorem wfl_LR_sumHarm_4 {p : Program} {l : Launch} {e : Env} {R : Room} {s : State} {m : MethodId} {args : Array Value} {below : List Frame} {meth : Method} {c : Code} {G : mx_G} (q : Int64 × mx_Mem) (CX : gq_C p R s m args meth c G b_LR_sumHarm 4 (some .long) R_LR 3 0 0 56)  : ∀ (n : Nat) (v0 : Option Nat) (v1 : Int64) (v3 : Int32) (mem : mx_Mem), fl_LR_sumHarm_4  n v0 v1 v3 mem = some q → ∀ (H : Heap) (locs : List Loc) (ls : Array Slot), lv_has ls 4 [(0, va_rf v0), (1, .long v1), (3, .int v3)] → mx_M vwCl G mem H → va_S (mx_A G) s.heap H locs → W p l e R s m args below meth c H locs 0 0 (MQ below (gq_Q G (some (.long q.1)) q.2) args s 0 0 (mx_A G)) (F0 m 4 ls []) := by
  obtain ⟨hx, hb, hml, hr, hown, hts, hlocks, hK, hN, hb0, hRf, hRc, hRs, hRl⟩ := id CX
  intro n
  induction n with
  | zero => intro v0 v1 v3 mem h; rw [fl_LR_sumHarm_4] at h; cases h
  | succ n ih =>
    intro v0 v1 v3 mem h H locs ls hl hM hS
    rw [fl_LR_sumHarm_4] at h
    refine lv_iload_n hx hb d_LR_sumHarm_4 rfl (lv_at hl 2 rfl) ?_
    refine mx_aload_n hx hb d_LR_sumHarm_5 rfl (lv_at hl 0 rfl) ?_
    obtain ⟨x1, e2, h⟩ := mx_b h
    refine mx_geti hx hb hts i_LR hown hK hM e2 (ci := 0) (C := R_LR) (T := T_LR) (N := 5) rfl 4 (by decide) (hts _ wd_9) d_LR_sumHarm_6 ?_
    refine lv_icmp_ge (tgt := 30) hx hb d_LR_sumHarm_9 (by decide) (fun c3 => ?_) (fun c3 => ?_)
    · rw [if_pos c3] at h
      refine lv_lload_n hx hb d_LR_sumHarm_30 rfl (lv_at hl 1 rfl) ?_
      cases h
      exact W.lret hx hb hr (fun t ht hW => ⟨⟨rfl, by rw [ht]; exact hM⟩, hS.F ht⟩) hS.2.2 d_LR_sumHarm_31
    · rw [if_neg c3] at h
      refine lv_lload_n hx hb d_LR_sumHarm_12 rfl (lv_at hl 1 rfl) ?_
      refine mx_aload_n hx hb d_LR_sumHarm_13 rfl (lv_at hl 0 rfl) ?_
      obtain ⟨x4, e5, h⟩ := mx_b h
      refine mx_getr hx hb hts i_LR hown hK hM e5 (ci := 0) (C := R_LR) (T := T_LR) (N := 5) rfl 2 (by decide) (hts _ wd_6) d_LR_sumHarm_14 ?_
      refine lv_iload_n hx hb d_LR_sumHarm_17 rfl (lv_at hl 2 rfl) ?_
      obtain ⟨x6, e7, h⟩ := mx_b h
      refine mx_aald hx hb hK hM e7 rfl d_LR_sumHarm_18 ?_
      obtain ⟨a11, e10, h⟩ := mx_b h
      obtain ⟨q8, e9, h⟩ := mx_b h
      have e12 := mx_c_eq e10
      refine W.eq (g2 := F0 m 19 ls [.ref a11, .long v1]) (congrArg (fun z => F0 m 19 ls [va_rf z, .long v1]) e12) ?_
      refine gq_go (va_runV (b := a11) (As := []) (rest := [.long v1]) ⟨hx, hb, hml, hown, hts⟩ (c_Lo_harm l G a11  _ _ e9) (cwV 0 hts (gq_gV wd_167 wd_168 wd_169 wd_42 wd_166) rfl rfl rfl (by decide +kernel) ⟨Nat.le_trans (Nat.le_of_ble_eq_true rfl) hRf, Nat.le_trans (Nat.le_of_ble_eq_true rfl) hRl⟩) (gq_preV hK hN hM hS hb0 e10 (C := R_Lo) (T := T_Lo) (N := 12) rfl) rfl rfl hl.1 rfl (lv_room (Nat.le_of_ble_eq_true rfl)) d_LR_sumHarm_19 ⟨Nat.le_trans (Nat.le_of_ble_eq_true rfl) hRc, Nat.le_trans (Nat.le_of_ble_eq_true rfl) hRs⟩) hS (fun H locs hM hS => ?_)
      refine W.eq (g2 := F0 m 22 ls [.long q8.1, .long v1]) rfl ?_
      refine lv_ladd hx hb d_LR_sumHarm_22 ?_
      refine lv_lstore_n (lv' := [(1, .long ((v1 + q8.1))), (0, va_rf v0), (3, .int v3)]) hx hb d_LR_sumHarm_23 rfl hl (by decide) (by simp [mx_cat, mx_cati, mx_catl, mx_catr]) (fun ls hl => ?_)
      refine lv_iinc (v := (v3 + 1)) (lv' := [(3, .int ((v3 + 1))), (1, .long ((v1 + q8.1))), (0, va_rf v0)]) hx hb d_LR_sumHarm_24 hl (k := 2) rfl rfl (by decide) rfl (fun ls hl => ?_)
      refine lv_goto (tgt := 4) hx hb d_LR_sumHarm_27 (by decide) ?_
      exact ih _ _ _ _ h _ _ _ (lv_sub hl [2, 1, 0] rfl) hM hS
set_option maxHeartbeats 4000000 in
set_option maxRecDepth 100000 in
theorem c_LR_sumHarm (l : Launch) (G : mx_G) (a0 : Nat) (mem : mx_Mem) (q : Int64 × mx_Mem) (h : f_LR_sumHarm a0 mem = some q) : Met l y_LR_sumHarm (gq_w y_LR_sumHarm b_LR_sumHarm 4 (some .long)) { frames := 3, cells := 0, slots := 0, locals := 56 } (gq_P G [.ref a0] mem) (gq_Q G (some (.long q.1)) q.2) 0 0 (mx_A G) := by
  refine Met.ofW (cc := b_LR_sumHarm) (maxL := 4) (ret := (some .long)) (by decide) rfl ?_
  intro p e s m args below meth c s₁ B hml hv
  obtain ⟨rfl, hb0, hM, hK, hN⟩ := hv
  have CX : gq_C p (headSpec (gq_w y_LR_sumHarm b_LR_sumHarm 4 (some .long)) { frames := 3, cells := 0, slots := 0, locals := 56 }).room s m _ meth c G b_LR_sumHarm 4 (some .long) R_LR 3 0 0 56 := ⟨B.exec, B.bytes, hml, B.returns, findClass_of_methodNamed B.named, fun w hw => atoms_spec (ws := gq_w y_LR_sumHarm b_LR_sumHarm 4 (some .long)) B.pre w (List.mem_cons_of_mem _ hw), B.notSynchronized, hK, hN, hb0, Nat.le_refl _, Nat.le_refl _, Nat.le_refl _, Nat.le_refl _⟩
  obtain ⟨hx, hb, hml, hr, hown, hts, hlocks, hK, hN, hb0, hRf, hRc, hRs, hRl⟩ := id CX
  have hS : va_S (mx_A G) s.heap s.heap [] := va_S.rf
  have hl := lv_entry [.ref a0] (n := 4) (Nat.le_of_ble_eq_true rfl)
  rw [lg_entry_eq]
  generalize (lg_sl [.ref a0] ++ List.replicate (4 - (lg_sl [.ref a0]).length) Slot.unset).toArray = ls at hl ⊢
  have hl : lv_has ls 4 [(0, va_rf (some a0))] := hl
  unfold f_LR_sumHarm at h
  refine lv_lconst (v := 0) hx hb d_LR_sumHarm_0 (by decide) ?_
  refine lv_lstore_n (lv' := [(1, .long 0), (0, va_rf (some a0))]) hx hb d_LR_sumHarm_1 rfl hl (by decide) (by simp [mx_cat, mx_cati, mx_catl, mx_catr]) (fun ls hl => ?_)
  refine lv_iconst (v := 0) hx hb d_LR_sumHarm_2 (by decide) ?_
  refine lv_istore_n (lv' := [(3, .int 0), (1, .long 0), (0, va_rf (some a0))]) hx hb d_LR_sumHarm_3 rfl hl (by decide) rfl (fun ls hl => ?_)
  refine wfl_LR_sumHarm_4 q CX  5000 _ _ _ _ h _ _ _ (lv_sub hl [2, 1, 0] rfl) hM hS
set_option maxHeartbeats 4000000 in
set_option maxRecDepth 100000 in
theorem c_Lo_isAct (l : Launch) (G : mx_G) (a0 : Nat) (mem : mx_Mem) (q : Int32 × mx_Mem) (h : f_Lo_isAct a0 mem = some q) : Met l y_Lo_isAct (gq_w y_Lo_isAct b_Lo_isAct 2 (some .boolean)) { frames := 1, cells := 0, slots := 0, locals := 20 } (gq_P G [.ref a0] mem) (gq_Q G (some (.int q.1)) q.2) 0 0 (mx_A G) := by
  refine Met.ofW (cc := b_Lo_isAct) (maxL := 2) (ret := (some .boolean)) (by decide) rfl ?_
  intro p e s m args below meth c s₁ B hml hv
  obtain ⟨rfl, hb0, hM, hK, hN⟩ := hv
  have CX : gq_C p (headSpec (gq_w y_Lo_isAct b_Lo_isAct 2 (some .boolean)) { frames := 1, cells := 0, slots := 0, locals := 20 }).room s m _ meth c G b_Lo_isAct 2 (some .boolean) R_Lo 1 0 0 20 := ⟨B.exec, B.bytes, hml, B.returns, findClass_of_methodNamed B.named, fun w hw => atoms_spec (ws := gq_w y_Lo_isAct b_Lo_isAct 2 (some .boolean)) B.pre w (List.mem_cons_of_mem _ hw), B.notSynchronized, hK, hN, hb0, Nat.le_refl _, Nat.le_refl _, Nat.le_refl _, Nat.le_refl _⟩
  obtain ⟨hx, hb, hml, hr, hown, hts, hlocks, hK, hN, hb0, hRf, hRc, hRs, hRl⟩ := id CX
  have hS : va_S (mx_A G) s.heap s.heap [] := va_S.rf
  have hl := lv_entry [.ref a0] (n := 2) (Nat.le_of_ble_eq_true rfl)
  rw [lg_entry_eq]
  generalize (lg_sl [.ref a0] ++ List.replicate (2 - (lg_sl [.ref a0]).length) Slot.unset).toArray = ls at hl ⊢
  have hl : lv_has ls 2 [(0, va_rf (some a0))] := hl
  unfold f_Lo_isAct at h
  refine mx_aload_n hx hb d_Lo_isAct_0 rfl (lv_at hl 0 rfl) ?_
  obtain ⟨a4, e3, h⟩ := mx_b h
  obtain ⟨q1, e2, h⟩ := mx_b h
  have e5 := mx_c_eq e3
  refine W.eq (g2 := F0 m 1 ls [.ref a4]) (congrArg (fun z => F0 m 1 ls [va_rf z]) e5) ?_
  refine gq_go (va_runV (b := a4) (As := []) (rest := []) ⟨hx, hb, hml, hown, hts⟩ (c_Lo_pickedOption l G a4  _ _ e2) (cwV 0 hts (gq_gV wd_39 wd_40 wd_41 wd_42 wd_38) rfl rfl rfl (by decide +kernel) ⟨Nat.le_trans (Nat.le_of_ble_eq_true rfl) hRf, Nat.le_trans (Nat.le_of_ble_eq_true rfl) hRl⟩) (gq_preV hK hN hM hS hb0 e3 (C := R_Lo) (T := T_Lo) (N := 12) rfl) rfl rfl hl.1 rfl (lv_room (Nat.le_of_ble_eq_true rfl)) d_Lo_isAct_1 ⟨Nat.le_trans (Nat.le_of_ble_eq_true rfl) hRc, Nat.le_trans (Nat.le_of_ble_eq_true rfl) hRs⟩) hS (fun H locs hM hS => ?_)
  refine W.eq (g2 := F0 m 4 ls [va_rf q1.1]) rfl ?_
  refine mx_astore_n (lv' := [(1, va_rf q1.1), (0, va_rf (some a0))]) hx hb d_Lo_isAct_4 rfl hl (by decide) (by simp [mx_cat, mx_cati, mx_catl, mx_catr]) (fun ls hl => ?_)
  refine mx_aload_n hx hb d_Lo_isAct_5 rfl (lv_at hl 0 rfl) ?_
  refine mx_ifnull (tgt := 20) hx hb d_Lo_isAct_6 (by decide) (fun c6 => ?_) (fun c6 => ?_)
  · rw [if_pos c6] at h
    refine lv_iconst (v := 0) hx hb d_Lo_isAct_20 (by decide) ?_
    cases h
    exact W.zret hx hb hr rfl (fun t ht hW => ⟨⟨rfl, by rw [ht]; exact hM⟩, hS.F ht⟩) hS.2.2 d_Lo_isAct_21
  · rw [if_neg c6] at h
    refine mx_aload_n hx hb d_Lo_isAct_9 rfl (lv_at hl 0 rfl) ?_
    obtain ⟨x7, e8, h⟩ := mx_b h
    refine mx_getiN hx hb hts i_Op hown hK hM e8 (ci := 2) (C := R_Op) (T := T_Op) (N := 3) rfl 0 (by decide) (va_Nw.use rfl (hN _ nw_2)) d_Lo_isAct_10 ?_
    refine lv_if_eq (tgt := 20) hx hb d_Lo_isAct_13 (by decide) (fun c9 => ?_) (fun c9 => ?_)
    · rw [if_pos c9] at h
      refine lv_iconst (v := 0) hx hb d_Lo_isAct_20 (by decide) ?_
      cases h
      exact W.zret hx hb hr rfl (fun t ht hW => ⟨⟨rfl, by rw [ht]; exact hM⟩, hS.F ht⟩) hS.2.2 d_Lo_isAct_21
    · rw [if_neg c9] at h
      refine lv_iconst (v := 1) hx hb d_Lo_isAct_16 (by decide) ?_
      refine lv_goto (tgt := 21) hx hb d_Lo_isAct_17 (by decide) ?_
      cases h
      exact W.zret hx hb hr rfl (fun t ht hW => ⟨⟨rfl, by rw [ht]; exact hM⟩, hS.F ht⟩) hS.2.2 d_Lo_isAct_21
set_option maxHeartbeats 4000000 in
set_option maxRecDepth 100000 in
theorem wfl_LR_countActs_4 {p : Program} {l : Launch} {e : Env} {R : Room} {s : State} {m : MethodId} {args : Array Value} {below : List Frame} {meth : Method} {c : Code} {G : mx_G} (q : Int32 × mx_Mem) (CX : gq_C p R s m args meth c G b_LR_countActs 3 (some .int) R_LR 2 0 0 41)  : ∀ (n : Nat) (v0 : Option Nat) (v1 : Int32) (v2 : Int32) (mem : mx_Mem), fl_LR_countActs_4  n v0 v1 v2 mem = some q → ∀ (H : Heap) (locs : List Loc) (ls : Array Slot), lv_has ls 3 [(0, va_rf v0), (1, .int v1), (2, .int v2)] → mx_M vwCl G mem H → va_S (mx_A G) s.heap H locs → W p l e R s m args below meth c H locs 0 0 (MQ below (gq_Q G (some (.int q.1)) q.2) args s 0 0 (mx_A G)) (F0 m 4 ls []) := by
  obtain ⟨hx, hb, hml, hr, hown, hts, hlocks, hK, hN, hb0, hRf, hRc, hRs, hRl⟩ := id CX
  intro n
  induction n with
  | zero => intro v0 v1 v2 mem h; rw [fl_LR_countActs_4] at h; cases h
  | succ n ih =>
    intro v0 v1 v2 mem h H locs ls hl hM hS
    rw [fl_LR_countActs_4] at h
    refine lv_iload_n hx hb d_LR_countActs_4 rfl (lv_at hl 2 rfl) ?_
    refine mx_aload_n hx hb d_LR_countActs_5 rfl (lv_at hl 0 rfl) ?_
    obtain ⟨x1, e2, h⟩ := mx_b h
    refine mx_geti hx hb hts i_LR hown hK hM e2 (ci := 0) (C := R_LR) (T := T_LR) (N := 5) rfl 4 (by decide) (hts _ wd_9) d_LR_countActs_6 ?_
    refine lv_icmp_ge (tgt := 33) hx hb d_LR_countActs_9 (by decide) (fun c3 => ?_) (fun c3 => ?_)
    · rw [if_pos c3] at h
      refine lv_iload_n hx hb d_LR_countActs_33 rfl (lv_at hl 1 rfl) ?_
      cases h
      exact W.iret hx hb hr (fun t ht hW => ⟨⟨rfl, by rw [ht]; exact hM⟩, hS.F ht⟩) hS.2.2 d_LR_countActs_34
    · rw [if_neg c3] at h
      refine mx_aload_n hx hb d_LR_countActs_12 rfl (lv_at hl 0 rfl) ?_
      obtain ⟨x4, e5, h⟩ := mx_b h
      refine mx_getr hx hb hts i_LR hown hK hM e5 (ci := 0) (C := R_LR) (T := T_LR) (N := 5) rfl 2 (by decide) (hts _ wd_6) d_LR_countActs_13 ?_
      refine lv_iload_n hx hb d_LR_countActs_16 rfl (lv_at hl 2 rfl) ?_
      obtain ⟨x6, e7, h⟩ := mx_b h
      refine mx_aald hx hb hK hM e7 rfl d_LR_countActs_17 ?_
      obtain ⟨a11, e10, h⟩ := mx_b h
      obtain ⟨q8, e9, h⟩ := mx_b h
      have e12 := mx_c_eq e10
      refine W.eq (g2 := F0 m 18 ls [.ref a11]) (congrArg (fun z => F0 m 18 ls [va_rf z]) e12) ?_
      refine gq_go (va_runV (b := a11) (As := []) (rest := []) ⟨hx, hb, hml, hown, hts⟩ (c_Lo_isAct l G a11  _ _ e9) (cwV 0 hts (gq_gV wd_171 wd_172 wd_173 wd_42 wd_170) rfl rfl rfl (by decide +kernel) ⟨Nat.le_trans (Nat.le_of_ble_eq_true rfl) hRf, Nat.le_trans (Nat.le_of_ble_eq_true rfl) hRl⟩) (gq_preV hK hN hM hS hb0 e10 (C := R_Lo) (T := T_Lo) (N := 12) rfl) rfl rfl hl.1 rfl (lv_room (Nat.le_of_ble_eq_true rfl)) d_LR_countActs_18 ⟨Nat.le_trans (Nat.le_of_ble_eq_true rfl) hRc, Nat.le_trans (Nat.le_of_ble_eq_true rfl) hRs⟩) hS (fun H locs hM hS => ?_)
      refine W.eq (g2 := F0 m 21 ls [.int q8.1]) rfl ?_
      refine lv_if_eq (tgt := 27) hx hb d_LR_countActs_21 (by decide) (fun c13 => ?_) (fun c13 => ?_)
      · rw [if_pos c13] at h
        refine lv_iinc (v := (v2 + 1)) (lv' := [(2, .int ((v2 + 1))), (0, va_rf v0), (1, .int v1)]) hx hb d_LR_countActs_27 hl (k := 2) rfl rfl (by decide) rfl (fun ls hl => ?_)
        refine lv_goto (tgt := 4) hx hb d_LR_countActs_30 (by decide) ?_
        exact ih _ _ _ _ h _ _ _ (lv_sub hl [1, 2, 0] rfl) hM hS
      · rw [if_neg c13] at h
        refine lv_iinc (v := (v1 + 1)) (lv' := [(1, .int ((v1 + 1))), (0, va_rf v0), (2, .int v2)]) hx hb d_LR_countActs_24 hl (k := 1) rfl rfl (by decide) (by simp [mx_cat, mx_cati, mx_catl, mx_catr]) (fun ls hl => ?_)
        refine lv_iinc (v := (v2 + 1)) (lv' := [(2, .int ((v2 + 1))), (1, .int ((v1 + 1))), (0, va_rf v0)]) hx hb d_LR_countActs_27 hl (k := 2) rfl rfl (by decide) rfl (fun ls hl => ?_)
        refine lv_goto (tgt := 4) hx hb d_LR_countActs_30 (by decide) ?_
        exact ih _ _ _ _ h _ _ _ (lv_sub hl [2, 1, 0] rfl) hM hS
set_option maxHeartbeats 4000000 in
set_option maxRecDepth 100000 in
theorem c_LR_countActs (l : Launch) (G : mx_G) (a0 : Nat) (mem : mx_Mem) (q : Int32 × mx_Mem) (h : f_LR_countActs a0 mem = some q) : Met l y_LR_countActs (gq_w y_LR_countActs b_LR_countActs 3 (some .int)) { frames := 2, cells := 0, slots := 0, locals := 41 } (gq_P G [.ref a0] mem) (gq_Q G (some (.int q.1)) q.2) 0 0 (mx_A G) := by
  refine Met.ofW (cc := b_LR_countActs) (maxL := 3) (ret := (some .int)) (by decide) rfl ?_
  intro p e s m args below meth c s₁ B hml hv
  obtain ⟨rfl, hb0, hM, hK, hN⟩ := hv
  have CX : gq_C p (headSpec (gq_w y_LR_countActs b_LR_countActs 3 (some .int)) { frames := 2, cells := 0, slots := 0, locals := 41 }).room s m _ meth c G b_LR_countActs 3 (some .int) R_LR 2 0 0 41 := ⟨B.exec, B.bytes, hml, B.returns, findClass_of_methodNamed B.named, fun w hw => atoms_spec (ws := gq_w y_LR_countActs b_LR_countActs 3 (some .int)) B.pre w (List.mem_cons_of_mem _ hw), B.notSynchronized, hK, hN, hb0, Nat.le_refl _, Nat.le_refl _, Nat.le_refl _, Nat.le_refl _⟩
  obtain ⟨hx, hb, hml, hr, hown, hts, hlocks, hK, hN, hb0, hRf, hRc, hRs, hRl⟩ := id CX
  have hS : va_S (mx_A G) s.heap s.heap [] := va_S.rf
  have hl := lv_entry [.ref a0] (n := 3) (Nat.le_of_ble_eq_true rfl)
  rw [lg_entry_eq]
  generalize (lg_sl [.ref a0] ++ List.replicate (3 - (lg_sl [.ref a0]).length) Slot.unset).toArray = ls at hl ⊢
  have hl : lv_has ls 3 [(0, va_rf (some a0))] := hl
  unfold f_LR_countActs at h
  refine lv_iconst (v := 0) hx hb d_LR_countActs_0 (by decide) ?_
  refine lv_istore_n (lv' := [(1, .int 0), (0, va_rf (some a0))]) hx hb d_LR_countActs_1 rfl hl (by decide) (by simp [mx_cat, mx_cati, mx_catl, mx_catr]) (fun ls hl => ?_)
  refine lv_iconst (v := 0) hx hb d_LR_countActs_2 (by decide) ?_
  refine lv_istore_n (lv' := [(2, .int 0), (1, .int 0), (0, va_rf (some a0))]) hx hb d_LR_countActs_3 rfl hl (by decide) rfl (fun ls hl => ?_)
  refine wfl_LR_countActs_4 q CX  5000 _ _ _ _ h _ _ _ (lv_sub hl [2, 1, 0] rfl) hM hS
set_option maxHeartbeats 4000000 in
set_option maxRecDepth 100000 in
theorem c_Lo_keepPicked (l : Launch) (G : mx_G) (a0 : Nat) (mem : mx_Mem) (q : mx_Mem) (h : f_Lo_keepPicked a0 mem = some q) : Met l y_Lo_keepPicked (gq_w y_Lo_keepPicked b_Lo_keepPicked 1 none) { frames := 0, cells := 0, slots := 0, locals := 0 } (gq_P G [.ref a0] mem) (gq_Q G none q) 0 0 (mx_A G) := by
  refine Met.ofW (cc := b_Lo_keepPicked) (maxL := 1) (ret := none) (by decide) rfl ?_
  intro p e s m args below meth c s₁ B hml hv
  obtain ⟨rfl, hb0, hM, hK, hN⟩ := hv
  have CX : gq_C p (headSpec (gq_w y_Lo_keepPicked b_Lo_keepPicked 1 none) { frames := 0, cells := 0, slots := 0, locals := 0 }).room s m _ meth c G b_Lo_keepPicked 1 none R_Lo 0 0 0 0 := ⟨B.exec, B.bytes, hml, B.returns, findClass_of_methodNamed B.named, fun w hw => atoms_spec (ws := gq_w y_Lo_keepPicked b_Lo_keepPicked 1 none) B.pre w (List.mem_cons_of_mem _ hw), B.notSynchronized, hK, hN, hb0, Nat.le_refl _, Nat.le_refl _, Nat.le_refl _, Nat.le_refl _⟩
  obtain ⟨hx, hb, hml, hr, hown, hts, hlocks, hK, hN, hb0, hRf, hRc, hRs, hRl⟩ := id CX
  have hS : va_S (mx_A G) s.heap s.heap [] := va_S.rf
  have hl := lv_entry [.ref a0] (n := 1) (Nat.le_of_ble_eq_true rfl)
  rw [lg_entry_eq]
  generalize (lg_sl [.ref a0] ++ List.replicate (1 - (lg_sl [.ref a0]).length) Slot.unset).toArray = ls at hl ⊢
  have hl : lv_has ls 1 [(0, va_rf (some a0))] := hl
  unfold f_Lo_keepPicked at h
  refine mx_aload_n hx hb d_Lo_keepPicked_0 rfl (lv_at hl 0 rfl) ?_
  refine mx_aload_n hx hb d_Lo_keepPicked_1 rfl (lv_at hl 0 rfl) ?_
  obtain ⟨x1, e2, h⟩ := mx_b h
  refine mx_geti hx hb hts i_Lo hown hK hM e2 (ci := 3) (C := R_Lo) (T := T_Lo) (N := 12) rfl 6 (by decide) (hts _ wd_24) d_Lo_keepPicked_2 ?_
  obtain ⟨m3, e4, h⟩ := mx_b h
  refine mx_put hx hb hts i_Lo t_Lo t_Lo_ok n_Lo hown hK hM hS e4 (ci := 3) (C := R_Lo) (T := T_Lo) (N := 12) rfl 7 (by decide) (hts _ wd_89) rfl (ty := .int) (by decide +kernel) rfl rfl d_Lo_keepPicked_5 (fun H locs hM hS => ?_)
  cases h
  exact W.vret hx hb hr (fun t ht hW => ⟨⟨rfl, by rw [ht]; exact hM⟩, hS.F ht⟩) hS.2.2 d_Lo_keepPicked_8
set_option maxHeartbeats 4000000 in
set_option maxRecDepth 100000 in
theorem wfl_LR_keepChoice_2 {p : Program} {l : Launch} {e : Env} {R : Room} {s : State} {m : MethodId} {args : Array Value} {below : List Frame} {meth : Method} {c : Code} {G : mx_G} (q : mx_Mem) (CX : gq_C p R s m args meth c G b_LR_keepChoice 2 none R_LR 1 0 0 20)  : ∀ (n : Nat) (v0 : Option Nat) (v1 : Int32) (mem : mx_Mem), fl_LR_keepChoice_2  n v0 v1 mem = some q → ∀ (H : Heap) (locs : List Loc) (ls : Array Slot), lv_has ls 2 [(0, va_rf v0), (1, .int v1)] → mx_M vwCl G mem H → va_S (mx_A G) s.heap H locs → W p l e R s m args below meth c H locs 0 0 (MQ below (gq_Q G none q) args s 0 0 (mx_A G)) (F0 m 2 ls []) := by
  obtain ⟨hx, hb, hml, hr, hown, hts, hlocks, hK, hN, hb0, hRf, hRc, hRs, hRl⟩ := id CX
  intro n
  induction n with
  | zero => intro v0 v1 mem h; rw [fl_LR_keepChoice_2] at h; cases h
  | succ n ih =>
    intro v0 v1 mem h H locs ls hl hM hS
    rw [fl_LR_keepChoice_2] at h
    refine lv_iload_n hx hb d_LR_keepChoice_2 rfl (lv_at hl 1 rfl) ?_
    refine mx_aload_n hx hb d_LR_keepChoice_3 rfl (lv_at hl 0 rfl) ?_
    obtain ⟨x1, e2, h⟩ := mx_b h
    refine mx_geti hx hb hts i_LR hown hK hM e2 (ci := 0) (C := R_LR) (T := T_LR) (N := 5) rfl 4 (by decide) (hts _ wd_9) d_LR_keepChoice_4 ?_
    refine lv_icmp_ge (tgt := 25) hx hb d_LR_keepChoice_7 (by decide) (fun c3 => ?_) (fun c3 => ?_)
    · rw [if_pos c3] at h
      cases h
      exact W.vret hx hb hr (fun t ht hW => ⟨⟨rfl, by rw [ht]; exact hM⟩, hS.F ht⟩) hS.2.2 d_LR_keepChoice_25
    · rw [if_neg c3] at h
      refine mx_aload_n hx hb d_LR_keepChoice_10 rfl (lv_at hl 0 rfl) ?_
      obtain ⟨x4, e5, h⟩ := mx_b h
      refine mx_getr hx hb hts i_LR hown hK hM e5 (ci := 0) (C := R_LR) (T := T_LR) (N := 5) rfl 2 (by decide) (hts _ wd_6) d_LR_keepChoice_11 ?_
      refine lv_iload_n hx hb d_LR_keepChoice_14 rfl (lv_at hl 1 rfl) ?_
      obtain ⟨x6, e7, h⟩ := mx_b h
      refine mx_aald hx hb hK hM e7 rfl d_LR_keepChoice_15 ?_
      obtain ⟨a11, e10, h⟩ := mx_b h
      obtain ⟨q8, e9, h⟩ := mx_b h
      have e12 := mx_c_eq e10
      refine W.eq (g2 := F0 m 16 ls [.ref a11]) (congrArg (fun z => F0 m 16 ls [va_rf z]) e12) ?_
      refine gq_go (va_runV (b := a11) (As := []) (rest := []) ⟨hx, hb, hml, hown, hts⟩ (c_Lo_keepPicked l G a11  _ _ e9) (cwV 0 hts (gq_gV wd_175 wd_176 wd_177 wd_42 wd_174) rfl rfl rfl (by decide +kernel) ⟨Nat.le_trans (Nat.le_of_ble_eq_true rfl) hRf, Nat.le_trans (Nat.le_of_ble_eq_true rfl) hRl⟩) (gq_preV hK hN hM hS hb0 e10 (C := R_Lo) (T := T_Lo) (N := 12) rfl) rfl rfl hl.1 rfl (lv_room (Nat.le_of_ble_eq_true rfl)) d_LR_keepChoice_16 ⟨Nat.le_trans (Nat.le_of_ble_eq_true rfl) hRc, Nat.le_trans (Nat.le_of_ble_eq_true rfl) hRs⟩) hS (fun H locs hM hS => ?_)
      refine W.eq (g2 := F0 m 19 ls []) rfl ?_
      refine lv_iinc (v := (v1 + 1)) (lv' := [(1, .int ((v1 + 1))), (0, va_rf v0)]) hx hb d_LR_keepChoice_19 hl (k := 1) rfl rfl (by decide) (by simp [mx_cat, mx_cati, mx_catl, mx_catr]) (fun ls hl => ?_)
      refine lv_goto (tgt := 2) hx hb d_LR_keepChoice_22 (by decide) ?_
      exact ih _ _ _ h _ _ _ (lv_sub hl [1, 0] rfl) hM hS
set_option maxHeartbeats 4000000 in
set_option maxRecDepth 100000 in
theorem c_LR_keepChoice (l : Launch) (G : mx_G) (a0 : Nat) (mem : mx_Mem) (q : mx_Mem) (h : f_LR_keepChoice a0 mem = some q) : Met l y_LR_keepChoice (gq_w y_LR_keepChoice b_LR_keepChoice 2 none) { frames := 1, cells := 0, slots := 0, locals := 20 } (gq_P G [.ref a0] mem) (gq_Q G none q) 0 0 (mx_A G) := by
  refine Met.ofW (cc := b_LR_keepChoice) (maxL := 2) (ret := none) (by decide) rfl ?_
  intro p e s m args below meth c s₁ B hml hv
  obtain ⟨rfl, hb0, hM, hK, hN⟩ := hv
  have CX : gq_C p (headSpec (gq_w y_LR_keepChoice b_LR_keepChoice 2 none) { frames := 1, cells := 0, slots := 0, locals := 20 }).room s m _ meth c G b_LR_keepChoice 2 none R_LR 1 0 0 20 := ⟨B.exec, B.bytes, hml, B.returns, findClass_of_methodNamed B.named, fun w hw => atoms_spec (ws := gq_w y_LR_keepChoice b_LR_keepChoice 2 none) B.pre w (List.mem_cons_of_mem _ hw), B.notSynchronized, hK, hN, hb0, Nat.le_refl _, Nat.le_refl _, Nat.le_refl _, Nat.le_refl _⟩
  obtain ⟨hx, hb, hml, hr, hown, hts, hlocks, hK, hN, hb0, hRf, hRc, hRs, hRl⟩ := id CX
  have hS : va_S (mx_A G) s.heap s.heap [] := va_S.rf
  have hl := lv_entry [.ref a0] (n := 2) (Nat.le_of_ble_eq_true rfl)
  rw [lg_entry_eq]
  generalize (lg_sl [.ref a0] ++ List.replicate (2 - (lg_sl [.ref a0]).length) Slot.unset).toArray = ls at hl ⊢
  have hl : lv_has ls 2 [(0, va_rf (some a0))] := hl
  unfold f_LR_keepChoice at h
  refine lv_iconst (v := 0) hx hb d_LR_keepChoice_0 (by decide) ?_
  refine lv_istore_n (lv' := [(1, .int 0), (0, va_rf (some a0))]) hx hb d_LR_keepChoice_1 rfl hl (by decide) (by simp [mx_cat, mx_cati, mx_catl, mx_catr]) (fun ls hl => ?_)
  refine wfl_LR_keepChoice_2 q CX  5000 _ _ _ h _ _ _ (lv_sub hl [1, 0] rfl) hM hS
set_option maxHeartbeats 4000000 in
set_option maxRecDepth 100000 in
theorem c_Lo_pickNext (l : Launch) (G : mx_G) (a0 : Nat) (mem : mx_Mem) (q : Int32 × mx_Mem) (h : f_Lo_pickNext a0 mem = some q) : Met l y_Lo_pickNext (gq_w y_Lo_pickNext b_Lo_pickNext 1 (some .boolean)) { frames := 0, cells := 0, slots := 0, locals := 0 } (gq_P G [.ref a0] mem) (gq_Q G (some (.int q.1)) q.2) 0 0 (mx_A G) := by
  refine Met.ofW (cc := b_Lo_pickNext) (maxL := 1) (ret := (some .boolean)) (by decide) rfl ?_
  intro p e s m args below meth c s₁ B hml hv
  obtain ⟨rfl, hb0, hM, hK, hN⟩ := hv
  have CX : gq_C p (headSpec (gq_w y_Lo_pickNext b_Lo_pickNext 1 (some .boolean)) { frames := 0, cells := 0, slots := 0, locals := 0 }).room s m _ meth c G b_Lo_pickNext 1 (some .boolean) R_Lo 0 0 0 0 := ⟨B.exec, B.bytes, hml, B.returns, findClass_of_methodNamed B.named, fun w hw => atoms_spec (ws := gq_w y_Lo_pickNext b_Lo_pickNext 1 (some .boolean)) B.pre w (List.mem_cons_of_mem _ hw), B.notSynchronized, hK, hN, hb0, Nat.le_refl _, Nat.le_refl _, Nat.le_refl _, Nat.le_refl _⟩
  obtain ⟨hx, hb, hml, hr, hown, hts, hlocks, hK, hN, hb0, hRf, hRc, hRs, hRl⟩ := id CX
  have hS : va_S (mx_A G) s.heap s.heap [] := va_S.rf
  have hl := lv_entry [.ref a0] (n := 1) (Nat.le_of_ble_eq_true rfl)
  rw [lg_entry_eq]
  generalize (lg_sl [.ref a0] ++ List.replicate (1 - (lg_sl [.ref a0]).length) Slot.unset).toArray = ls at hl ⊢
  have hl : lv_has ls 1 [(0, va_rf (some a0))] := hl
  unfold f_Lo_pickNext at h
  refine mx_aload_n hx hb d_Lo_pickNext_0 rfl (lv_at hl 0 rfl) ?_
  obtain ⟨x1, e2, h⟩ := mx_b h
  refine mx_geti hx hb hts i_Lo hown hK hM e2 (ci := 3) (C := R_Lo) (T := T_Lo) (N := 12) rfl 6 (by decide) (hts _ wd_24) d_Lo_pickNext_1 ?_
  refine lv_iconst (v := 1) hx hb d_Lo_pickNext_4 (by decide) ?_
  refine lv_iadd hx hb d_Lo_pickNext_5 ?_
  refine mx_aload_n hx hb d_Lo_pickNext_6 rfl (lv_at hl 0 rfl) ?_
  obtain ⟨x3, e4, h⟩ := mx_b h
  refine mx_geti hx hb hts i_Lo hown hK hM e4 (ci := 3) (C := R_Lo) (T := T_Lo) (N := 12) rfl 5 (by decide) (hts _ wd_25) d_Lo_pickNext_7 ?_
  refine lv_icmp_lt (tgt := 15) hx hb d_Lo_pickNext_10 (by decide) (fun c5 => ?_) (fun c5 => ?_)
  · rw [if_pos c5] at h
    refine mx_aload_n hx hb d_Lo_pickNext_15 rfl (lv_at hl 0 rfl) ?_
    refine lv_dup hx hb d_Lo_pickNext_16 (mx_cat _) ?_
    obtain ⟨x6, e7, h⟩ := mx_b h
    refine mx_geti hx hb hts i_Lo hown hK hM e7 (ci := 3) (C := R_Lo) (T := T_Lo) (N := 12) rfl 6 (by decide) (hts _ wd_24) d_Lo_pickNext_17 ?_
    refine lv_iconst (v := 1) hx hb d_Lo_pickNext_20 (by decide) ?_
    refine lv_iadd hx hb d_Lo_pickNext_21 ?_
    obtain ⟨m8, e9, h⟩ := mx_b h
    refine mx_put hx hb hts i_Lo t_Lo t_Lo_ok n_Lo hown hK hM hS e9 (ci := 3) (C := R_Lo) (T := T_Lo) (N := 12) rfl 6 (by decide) (hts _ wd_24) rfl (ty := .int) (by decide +kernel) rfl rfl d_Lo_pickNext_22 (fun H locs hM hS => ?_)
    refine lv_iconst (v := 1) hx hb d_Lo_pickNext_25 (by decide) ?_
    cases h
    exact W.zret hx hb hr rfl (fun t ht hW => ⟨⟨rfl, by rw [ht]; exact hM⟩, hS.F ht⟩) hS.2.2 d_Lo_pickNext_26
  · rw [if_neg c5] at h
    refine lv_iconst (v := 0) hx hb d_Lo_pickNext_13 (by decide) ?_
    cases h
    exact W.zret hx hb hr rfl (fun t ht hW => ⟨⟨rfl, by rw [ht]; exact hM⟩, hS.F ht⟩) hS.2.2 d_Lo_pickNext_14
set_option maxHeartbeats 4000000 in
set_option maxRecDepth 100000 in
theorem wfl_LR_pickNextChoice_7 {p : Program} {l : Launch} {e : Env} {R : Room} {s : State} {m : MethodId} {args : Array Value} {below : List Frame} {meth : Method} {c : Code} {G : mx_G} (q : Int32 × mx_Mem) (CX : gq_C p R s m args meth c G b_LR_pickNextChoice 2 (some .boolean) R_LR 1 0 0 20)  : ∀ (n : Nat) (v0 : Option Nat) (v1 : Int32) (mem : mx_Mem), fl_LR_pickNextChoice_7  n v0 v1 mem = some q → ∀ (H : Heap) (locs : List Loc) (ls : Array Slot), lv_has ls 2 [(0, va_rf v0), (1, .int v1)] → mx_M vwCl G mem H → va_S (mx_A G) s.heap H locs → W p l e R s m args below meth c H locs 0 0 (MQ below (gq_Q G (some (.int q.1)) q.2) args s 0 0 (mx_A G)) (F0 m 7 ls []) := by
  obtain ⟨hx, hb, hml, hr, hown, hts, hlocks, hK, hN, hb0, hRf, hRc, hRs, hRl⟩ := id CX
  intro n
  induction n with
  | zero => intro v0 v1 mem h; rw [fl_LR_pickNextChoice_7] at h; cases h
  | succ n ih =>
    intro v0 v1 mem h H locs ls hl hM hS
    rw [fl_LR_pickNextChoice_7] at h
    refine lv_iload_n hx hb d_LR_pickNextChoice_7 rfl (lv_at hl 1 rfl) ?_
    refine lv_if_lt (tgt := 40) hx hb d_LR_pickNextChoice_8 (by decide) (fun c1 => ?_) (fun c1 => ?_)
    · rw [if_pos c1] at h
      refine lv_iconst (v := 0) hx hb d_LR_pickNextChoice_40 (by decide) ?_
      cases h
      exact W.zret hx hb hr rfl (fun t ht hW => ⟨⟨rfl, by rw [ht]; exact hM⟩, hS.F ht⟩) hS.2.2 d_LR_pickNextChoice_41
    · rw [if_neg c1] at h
      refine mx_aload_n hx hb d_LR_pickNextChoice_11 rfl (lv_at hl 0 rfl) ?_
      obtain ⟨x2, e3, h⟩ := mx_b h
      refine mx_getr hx hb hts i_LR hown hK hM e3 (ci := 0) (C := R_LR) (T := T_LR) (N := 5) rfl 2 (by decide) (hts _ wd_6) d_LR_pickNextChoice_12 ?_
      refine lv_iload_n hx hb d_LR_pickNextChoice_15 rfl (lv_at hl 1 rfl) ?_
      obtain ⟨x4, e5, h⟩ := mx_b h
      refine mx_aald hx hb hK hM e5 rfl d_LR_pickNextChoice_16 ?_
      obtain ⟨a9, e8, h⟩ := mx_b h
      obtain ⟨q6, e7, h⟩ := mx_b h
      have e10 := mx_c_eq e8
      refine W.eq (g2 := F0 m 17 ls [.ref a9]) (congrArg (fun z => F0 m 17 ls [va_rf z]) e10) ?_
      refine gq_go (va_runV (b := a9) (As := []) (rest := []) ⟨hx, hb, hml, hown, hts⟩ (c_Lo_pickNext l G a9  _ _ e7) (cwV 0 hts (gq_gV wd_179 wd_180 wd_181 wd_42 wd_178) rfl rfl rfl (by decide +kernel) ⟨Nat.le_trans (Nat.le_of_ble_eq_true rfl) hRf, Nat.le_trans (Nat.le_of_ble_eq_true rfl) hRl⟩) (gq_preV hK hN hM hS hb0 e8 (C := R_Lo) (T := T_Lo) (N := 12) rfl) rfl rfl hl.1 rfl (lv_room (Nat.le_of_ble_eq_true rfl)) d_LR_pickNextChoice_17 ⟨Nat.le_trans (Nat.le_of_ble_eq_true rfl) hRc, Nat.le_trans (Nat.le_of_ble_eq_true rfl) hRs⟩) hS (fun H locs hM hS => ?_)
      refine W.eq (g2 := F0 m 20 ls [.int q6.1]) rfl ?_
      refine lv_if_eq (tgt := 25) hx hb d_LR_pickNextChoice_20 (by decide) (fun c11 => ?_) (fun c11 => ?_)
      · rw [if_pos c11] at h
        refine mx_aload_n hx hb d_LR_pickNextChoice_25 rfl (lv_at hl 0 rfl) ?_
        obtain ⟨x12, e13, h⟩ := mx_b h
        refine mx_getr hx hb hts i_LR hown hK hM e13 (ci := 0) (C := R_LR) (T := T_LR) (N := 5) rfl 2 (by decide) (hts _ wd_6) d_LR_pickNextChoice_26 ?_
        refine lv_iload_n hx hb d_LR_pickNextChoice_29 rfl (lv_at hl 1 rfl) ?_
        obtain ⟨x14, e15, h⟩ := mx_b h
        refine mx_aald hx hb hK hM e15 rfl d_LR_pickNextChoice_30 ?_
        obtain ⟨a19, e18, h⟩ := mx_b h
        obtain ⟨q16, e17, h⟩ := mx_b h
        have e20 := mx_c_eq e18
        refine W.eq (g2 := F0 m 31 ls [.ref a19]) (congrArg (fun z => F0 m 31 ls [va_rf z]) e20) ?_
        refine gq_go (va_runV (b := a19) (As := []) (rest := []) ⟨hx, hb, hml, hown, hts⟩ (c_Lo_pickFirst l G a19  _ _ e17) (cwV 0 hts (gq_gV wd_162 wd_163 wd_164 wd_42 wd_161) rfl rfl rfl (by decide +kernel) ⟨Nat.le_trans (Nat.le_of_ble_eq_true rfl) hRf, Nat.le_trans (Nat.le_of_ble_eq_true rfl) hRl⟩) (gq_preV hK hN hM hS hb0 e18 (C := R_Lo) (T := T_Lo) (N := 12) rfl) rfl rfl hl.1 rfl (lv_room (Nat.le_of_ble_eq_true rfl)) d_LR_pickNextChoice_31 ⟨Nat.le_trans (Nat.le_of_ble_eq_true rfl) hRc, Nat.le_trans (Nat.le_of_ble_eq_true rfl) hRs⟩) hS (fun H locs hM hS => ?_)
        refine W.eq (g2 := F0 m 34 ls []) rfl ?_
        refine lv_iinc (v := (v1 + (-1))) (lv' := [(1, .int ((v1 + (-1)))), (0, va_rf v0)]) hx hb d_LR_pickNextChoice_34 hl (k := 1) rfl rfl (by decide) (by simp [mx_cat, mx_cati, mx_catl, mx_catr]) (fun ls hl => ?_)
        refine lv_goto (tgt := 7) hx hb d_LR_pickNextChoice_37 (by decide) ?_
        exact ih _ _ _ h _ _ _ (lv_sub hl [1, 0] rfl) hM hS
      · rw [if_neg c11] at h
        refine lv_iconst (v := 1) hx hb d_LR_pickNextChoice_23 (by decide) ?_
        cases h
        exact W.zret hx hb hr rfl (fun t ht hW => ⟨⟨rfl, by rw [ht]; exact hM⟩, hS.F ht⟩) hS.2.2 d_LR_pickNextChoice_24
set_option maxHeartbeats 4000000 in
set_option maxRecDepth 100000 in
theorem c_LR_pickNextChoice (l : Launch) (G : mx_G) (a0 : Nat) (mem : mx_Mem) (q : Int32 × mx_Mem) (h : f_LR_pickNextChoice a0 mem = some q) : Met l y_LR_pickNextChoice (gq_w y_LR_pickNextChoice b_LR_pickNextChoice 2 (some .boolean)) { frames := 1, cells := 0, slots := 0, locals := 20 } (gq_P G [.ref a0] mem) (gq_Q G (some (.int q.1)) q.2) 0 0 (mx_A G) := by
  refine Met.ofW (cc := b_LR_pickNextChoice) (maxL := 2) (ret := (some .boolean)) (by decide) rfl ?_
  intro p e s m args below meth c s₁ B hml hv
  obtain ⟨rfl, hb0, hM, hK, hN⟩ := hv
  have CX : gq_C p (headSpec (gq_w y_LR_pickNextChoice b_LR_pickNextChoice 2 (some .boolean)) { frames := 1, cells := 0, slots := 0, locals := 20 }).room s m _ meth c G b_LR_pickNextChoice 2 (some .boolean) R_LR 1 0 0 20 := ⟨B.exec, B.bytes, hml, B.returns, findClass_of_methodNamed B.named, fun w hw => atoms_spec (ws := gq_w y_LR_pickNextChoice b_LR_pickNextChoice 2 (some .boolean)) B.pre w (List.mem_cons_of_mem _ hw), B.notSynchronized, hK, hN, hb0, Nat.le_refl _, Nat.le_refl _, Nat.le_refl _, Nat.le_refl _⟩
  obtain ⟨hx, hb, hml, hr, hown, hts, hlocks, hK, hN, hb0, hRf, hRc, hRs, hRl⟩ := id CX
  have hS : va_S (mx_A G) s.heap s.heap [] := va_S.rf
  have hl := lv_entry [.ref a0] (n := 2) (Nat.le_of_ble_eq_true rfl)
  rw [lg_entry_eq]
  generalize (lg_sl [.ref a0] ++ List.replicate (2 - (lg_sl [.ref a0]).length) Slot.unset).toArray = ls at hl ⊢
  have hl : lv_has ls 2 [(0, va_rf (some a0))] := hl
  unfold f_LR_pickNextChoice at h
  refine mx_aload_n hx hb d_LR_pickNextChoice_0 rfl (lv_at hl 0 rfl) ?_
  obtain ⟨x1, e2, h⟩ := mx_b h
  refine mx_geti hx hb hts i_LR hown hK hM e2 (ci := 0) (C := R_LR) (T := T_LR) (N := 5) rfl 4 (by decide) (hts _ wd_9) d_LR_pickNextChoice_1 ?_
  refine lv_iconst (v := 1) hx hb d_LR_pickNextChoice_4 (by decide) ?_
  refine lv_isub hx hb d_LR_pickNextChoice_5 ?_
  refine lv_istore_n (lv' := [(1, .int ((x1 - 1))), (0, va_rf (some a0))]) hx hb d_LR_pickNextChoice_6 rfl hl (by decide) (by simp [mx_cat, mx_cati, mx_catl, mx_catr]) (fun ls hl => ?_)
  refine wfl_LR_pickNextChoice_7 q CX  5000 _ _ _ h _ _ _ (lv_sub hl [1, 0] rfl) hM hS
set_option maxHeartbeats 4000000 in
set_option maxRecDepth 100000 in
theorem c_Lo_takeKept (l : Launch) (G : mx_G) (a0 : Nat) (mem : mx_Mem) (q : mx_Mem) (h : f_Lo_takeKept a0 mem = some q) : Met l y_Lo_takeKept (gq_w y_Lo_takeKept b_Lo_takeKept 1 none) { frames := 0, cells := 0, slots := 0, locals := 0 } (gq_P G [.ref a0] mem) (gq_Q G none q) 0 0 (mx_A G) := by
  refine Met.ofW (cc := b_Lo_takeKept) (maxL := 1) (ret := none) (by decide) rfl ?_
  intro p e s m args below meth c s₁ B hml hv
  obtain ⟨rfl, hb0, hM, hK, hN⟩ := hv
  have CX : gq_C p (headSpec (gq_w y_Lo_takeKept b_Lo_takeKept 1 none) { frames := 0, cells := 0, slots := 0, locals := 0 }).room s m _ meth c G b_Lo_takeKept 1 none R_Lo 0 0 0 0 := ⟨B.exec, B.bytes, hml, B.returns, findClass_of_methodNamed B.named, fun w hw => atoms_spec (ws := gq_w y_Lo_takeKept b_Lo_takeKept 1 none) B.pre w (List.mem_cons_of_mem _ hw), B.notSynchronized, hK, hN, hb0, Nat.le_refl _, Nat.le_refl _, Nat.le_refl _, Nat.le_refl _⟩
  obtain ⟨hx, hb, hml, hr, hown, hts, hlocks, hK, hN, hb0, hRf, hRc, hRs, hRl⟩ := id CX
  have hS : va_S (mx_A G) s.heap s.heap [] := va_S.rf
  have hl := lv_entry [.ref a0] (n := 1) (Nat.le_of_ble_eq_true rfl)
  rw [lg_entry_eq]
  generalize (lg_sl [.ref a0] ++ List.replicate (1 - (lg_sl [.ref a0]).length) Slot.unset).toArray = ls at hl ⊢
  have hl : lv_has ls 1 [(0, va_rf (some a0))] := hl
  unfold f_Lo_takeKept at h
  refine mx_aload_n hx hb d_Lo_takeKept_0 rfl (lv_at hl 0 rfl) ?_
  refine mx_aload_n hx hb d_Lo_takeKept_1 rfl (lv_at hl 0 rfl) ?_
  obtain ⟨x1, e2, h⟩ := mx_b h
  refine mx_geti hx hb hts i_Lo hown hK hM e2 (ci := 3) (C := R_Lo) (T := T_Lo) (N := 12) rfl 7 (by decide) (hts _ wd_89) d_Lo_takeKept_2 ?_
  obtain ⟨m3, e4, h⟩ := mx_b h
  refine mx_put hx hb hts i_Lo t_Lo t_Lo_ok n_Lo hown hK hM hS e4 (ci := 3) (C := R_Lo) (T := T_Lo) (N := 12) rfl 6 (by decide) (hts _ wd_24) rfl (ty := .int) (by decide +kernel) rfl rfl d_Lo_takeKept_5 (fun H locs hM hS => ?_)
  cases h
  exact W.vret hx hb hr (fun t ht hW => ⟨⟨rfl, by rw [ht]; exact hM⟩, hS.F ht⟩) hS.2.2 d_Lo_takeKept_8
set_option maxHeartbeats 4000000 in
set_option maxRecDepth 100000 in
theorem wfl_LR_takeKeptChoice_2 {p : Program} {l : Launch} {e : Env} {R : Room} {s : State} {m : MethodId} {args : Array Value} {below : List Frame} {meth : Method} {c : Code} {G : mx_G} (q : mx_Mem) (CX : gq_C p R s m args meth c G b_LR_takeKeptChoice 2 none R_LR 1 0 0 20)  : ∀ (n : Nat) (v0 : Option Nat) (v1 : Int32) (mem : mx_Mem), fl_LR_takeKeptChoice_2  n v0 v1 mem = some q → ∀ (H : Heap) (locs : List Loc) (ls : Array Slot), lv_has ls 2 [(0, va_rf v0), (1, .int v1)] → mx_M vwCl G mem H → va_S (mx_A G) s.heap H locs → W p l e R s m args below meth c H locs 0 0 (MQ below (gq_Q G none q) args s 0 0 (mx_A G)) (F0 m 2 ls []) := by
  obtain ⟨hx, hb, hml, hr, hown, hts, hlocks, hK, hN, hb0, hRf, hRc, hRs, hRl⟩ := id CX
  intro n
  induction n with
  | zero => intro v0 v1 mem h; rw [fl_LR_takeKeptChoice_2] at h; cases h
  | succ n ih =>
    intro v0 v1 mem h H locs ls hl hM hS
    rw [fl_LR_takeKeptChoice_2] at h
    refine lv_iload_n hx hb d_LR_takeKeptChoice_2 rfl (lv_at hl 1 rfl) ?_
    refine mx_aload_n hx hb d_LR_takeKeptChoice_3 rfl (lv_at hl 0 rfl) ?_
    obtain ⟨x1, e2, h⟩ := mx_b h
    refine mx_geti hx hb hts i_LR hown hK hM e2 (ci := 0) (C := R_LR) (T := T_LR) (N := 5) rfl 4 (by decide) (hts _ wd_9) d_LR_takeKeptChoice_4 ?_
    refine lv_icmp_ge (tgt := 25) hx hb d_LR_takeKeptChoice_7 (by decide) (fun c3 => ?_) (fun c3 => ?_)
    · rw [if_pos c3] at h
      cases h
      exact W.vret hx hb hr (fun t ht hW => ⟨⟨rfl, by rw [ht]; exact hM⟩, hS.F ht⟩) hS.2.2 d_LR_takeKeptChoice_25
    · rw [if_neg c3] at h
      refine mx_aload_n hx hb d_LR_takeKeptChoice_10 rfl (lv_at hl 0 rfl) ?_
      obtain ⟨x4, e5, h⟩ := mx_b h
      refine mx_getr hx hb hts i_LR hown hK hM e5 (ci := 0) (C := R_LR) (T := T_LR) (N := 5) rfl 2 (by decide) (hts _ wd_6) d_LR_takeKeptChoice_11 ?_
      refine lv_iload_n hx hb d_LR_takeKeptChoice_14 rfl (lv_at hl 1 rfl) ?_
      obtain ⟨x6, e7, h⟩ := mx_b h
      refine mx_aald hx hb hK hM e7 rfl d_LR_takeKeptChoice_15 ?_
      obtain ⟨a11, e10, h⟩ := mx_b h
      obtain ⟨q8, e9, h⟩ := mx_b h
      have e12 := mx_c_eq e10
      refine W.eq (g2 := F0 m 16 ls [.ref a11]) (congrArg (fun z => F0 m 16 ls [va_rf z]) e12) ?_
      refine gq_go (va_runV (b := a11) (As := []) (rest := []) ⟨hx, hb, hml, hown, hts⟩ (c_Lo_takeKept l G a11  _ _ e9) (cwV 0 hts (gq_gV wd_183 wd_184 wd_185 wd_42 wd_182) rfl rfl rfl (by decide +kernel) ⟨Nat.le_trans (Nat.le_of_ble_eq_true rfl) hRf, Nat.le_trans (Nat.le_of_ble_eq_true rfl) hRl⟩) (gq_preV hK hN hM hS hb0 e10 (C := R_Lo) (T := T_Lo) (N := 12) rfl) rfl rfl hl.1 rfl (lv_room (Nat.le_of_ble_eq_true rfl)) d_LR_takeKeptChoice_16 ⟨Nat.le_trans (Nat.le_of_ble_eq_true rfl) hRc, Nat.le_trans (Nat.le_of_ble_eq_true rfl) hRs⟩) hS (fun H locs hM hS => ?_)
      refine W.eq (g2 := F0 m 19 ls []) rfl ?_
      refine lv_iinc (v := (v1 + 1)) (lv' := [(1, .int ((v1 + 1))), (0, va_rf v0)]) hx hb d_LR_takeKeptChoice_19 hl (k := 1) rfl rfl (by decide) (by simp [mx_cat, mx_cati, mx_catl, mx_catr]) (fun ls hl => ?_)
      refine lv_goto (tgt := 2) hx hb d_LR_takeKeptChoice_22 (by decide) ?_
      exact ih _ _ _ h _ _ _ (lv_sub hl [1, 0] rfl) hM hS
set_option maxHeartbeats 4000000 in
set_option maxRecDepth 100000 in
theorem c_LR_takeKeptChoice (l : Launch) (G : mx_G) (a0 : Nat) (mem : mx_Mem) (q : mx_Mem) (h : f_LR_takeKeptChoice a0 mem = some q) : Met l y_LR_takeKeptChoice (gq_w y_LR_takeKeptChoice b_LR_takeKeptChoice 2 none) { frames := 1, cells := 0, slots := 0, locals := 20 } (gq_P G [.ref a0] mem) (gq_Q G none q) 0 0 (mx_A G) := by
  refine Met.ofW (cc := b_LR_takeKeptChoice) (maxL := 2) (ret := none) (by decide) rfl ?_
  intro p e s m args below meth c s₁ B hml hv
  obtain ⟨rfl, hb0, hM, hK, hN⟩ := hv
  have CX : gq_C p (headSpec (gq_w y_LR_takeKeptChoice b_LR_takeKeptChoice 2 none) { frames := 1, cells := 0, slots := 0, locals := 20 }).room s m _ meth c G b_LR_takeKeptChoice 2 none R_LR 1 0 0 20 := ⟨B.exec, B.bytes, hml, B.returns, findClass_of_methodNamed B.named, fun w hw => atoms_spec (ws := gq_w y_LR_takeKeptChoice b_LR_takeKeptChoice 2 none) B.pre w (List.mem_cons_of_mem _ hw), B.notSynchronized, hK, hN, hb0, Nat.le_refl _, Nat.le_refl _, Nat.le_refl _, Nat.le_refl _⟩
  obtain ⟨hx, hb, hml, hr, hown, hts, hlocks, hK, hN, hb0, hRf, hRc, hRs, hRl⟩ := id CX
  have hS : va_S (mx_A G) s.heap s.heap [] := va_S.rf
  have hl := lv_entry [.ref a0] (n := 2) (Nat.le_of_ble_eq_true rfl)
  rw [lg_entry_eq]
  generalize (lg_sl [.ref a0] ++ List.replicate (2 - (lg_sl [.ref a0]).length) Slot.unset).toArray = ls at hl ⊢
  have hl : lv_has ls 2 [(0, va_rf (some a0))] := hl
  unfold f_LR_takeKeptChoice at h
  refine lv_iconst (v := 0) hx hb d_LR_takeKeptChoice_0 (by decide) ?_
  refine lv_istore_n (lv' := [(1, .int 0), (0, va_rf (some a0))]) hx hb d_LR_takeKeptChoice_1 rfl hl (by decide) (by simp [mx_cat, mx_cati, mx_catl, mx_catr]) (fun ls hl => ?_)
  refine wfl_LR_takeKeptChoice_2 q CX  5000 _ _ _ h _ _ _ (lv_sub hl [1, 0] rfl) hM hS
