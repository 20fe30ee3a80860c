set_option maxHeartbeats 4000000 in
set_option maxRecDepth 100000 in
theorem wfl_LR_countFailing_4 {p : Program} {l : Launch} {e : Env} {R : Room} {s : State} {m : MethodId} {args : Array Value} {below : List Frame} {meth : Method} {c : Code} {G : mx_G} (q : Int32 × mx_Mem) (CX : gq_C p R s m args meth c G b_LR_countFailing 3 (some .int) R_LR 2 0 0 35)  : ∀ (n : Nat) (v0 : Option Nat) (v1 : Int32) (v2 : Int32) (mem : mx_Mem), fl_LR_countFailing_4  n v0 v1 v2 mem = some q → ∀ (H : Heap) (locs : List Loc) (ls : Array Slot), lv_has ls 3 [(0, va_rf v0), (1, .int v1), (2, .int v2)] → mx_M vwCl G mem H → va_S (mx_A G) s.heap H locs → W p l e R s m args below meth c H locs 0 0 (MQ below (gq_Q G (some (.int q.1)) q.2) args s 0 0 (mx_A G)) (F0 m 4 ls []) := by
  obtain ⟨hx, hb, hml, hr, hown, hts, hlocks, hK, hN, hb0, hRf, hRc, hRs, hRl⟩ := id CX
  intro n
  induction n with
  | zero => intro v0 v1 v2 mem h; rw [fl_LR_countFailing_4] at h; cases h
  | succ n ih =>
    intro v0 v1 v2 mem h H locs ls hl hM hS
    rw [fl_LR_countFailing_4] at h
    refine lv_iload_n hx hb d_LR_countFailing_4 rfl (lv_at hl 2 rfl) ?_
    refine mx_aload_n hx hb d_LR_countFailing_5 rfl (lv_at hl 0 rfl) ?_
    obtain ⟨x1, e2, h⟩ := mx_b h
    refine mx_geti hx hb hts i_LR hown hK hM e2 (ci := 0) (C := R_LR) (T := T_LR) (N := 5) rfl 4 (by decide) (hts _ wd_9) d_LR_countFailing_6 ?_
    refine lv_icmp_ge (tgt := 47) hx hb d_LR_countFailing_9 (by decide) (fun c3 => ?_) (fun c3 => ?_)
    · rw [if_pos c3] at h
      refine lv_iload_n hx hb d_LR_countFailing_47 rfl (lv_at hl 1 rfl) ?_
      cases h
      exact W.iret hx hb hr (fun t ht hW => ⟨⟨rfl, by rw [ht]; exact hM⟩, hS.F ht⟩) hS.2.2 d_LR_countFailing_48
    · rw [if_neg c3] at h
      refine mx_aload_n hx hb d_LR_countFailing_12 rfl (lv_at hl 0 rfl) ?_
      obtain ⟨x4, e5, h⟩ := mx_b h
      refine mx_getr hx hb hts i_LR hown hK hM e5 (ci := 0) (C := R_LR) (T := T_LR) (N := 5) rfl 2 (by decide) (hts _ wd_6) d_LR_countFailing_13 ?_
      refine lv_iload_n hx hb d_LR_countFailing_16 rfl (lv_at hl 2 rfl) ?_
      obtain ⟨x6, e7, h⟩ := mx_b h
      refine mx_aald hx hb hK hM e7 rfl d_LR_countFailing_17 ?_
      obtain ⟨x8, e9, h⟩ := mx_b h
      refine mx_getiN hx hb hts i_Lo hown hK hM e9 (ci := 3) (C := R_Lo) (T := T_Lo) (N := 12) rfl 11 (by decide) (va_Nw.use rfl (hN _ nw_12)) d_LR_countFailing_18 ?_
      refine lv_if_ne (tgt := 38) hx hb d_LR_countFailing_21 (by decide) (fun c10 => ?_) (fun c10 => ?_)
      · rw [if_neg c10] at h
        refine lv_iinc (v := (v1 + 1)) (lv' := [(1, .int ((v1 + 1))), (0, va_rf v0), (2, .int v2)]) hx hb d_LR_countFailing_38 hl (k := 1) rfl rfl (by decide) (by simp [mx_cat, mx_cati, mx_catl, mx_catr]) (fun ls hl => ?_)
        refine lv_iinc (v := (v2 + 1)) (lv' := [(2, .int ((v2 + 1))), (1, .int ((v1 + 1))), (0, va_rf v0)]) hx hb d_LR_countFailing_41 hl (k := 2) rfl rfl (by decide) rfl (fun ls hl => ?_)
        refine lv_goto (tgt := 4) hx hb d_LR_countFailing_44 (by decide) ?_
        exact ih _ _ _ _ h _ _ _ (lv_sub hl [2, 1, 0] rfl) hM hS
      · rw [if_pos c10] at h
        refine mx_aload_n hx hb d_LR_countFailing_24 rfl (lv_at hl 0 rfl) ?_
        obtain ⟨x11, e12, h⟩ := mx_b h
        refine mx_getr hx hb hts i_LR hown hK hM e12 (ci := 0) (C := R_LR) (T := T_LR) (N := 5) rfl 2 (by decide) (hts _ wd_6) d_LR_countFailing_25 ?_
        refine lv_iload_n hx hb d_LR_countFailing_28 rfl (lv_at hl 2 rfl) ?_
        obtain ⟨x13, e14, h⟩ := mx_b h
        refine mx_aald hx hb hK hM e14 rfl d_LR_countFailing_29 ?_
        obtain ⟨a18, e17, h⟩ := mx_b h
        obtain ⟨q15, e16, h⟩ := mx_b h
        have e19 := mx_c_eq e17
        refine W.eq (g2 := F0 m 30 ls [.ref a18]) (congrArg (fun z => F0 m 30 ls [va_rf z]) e19) ?_
        refine gq_go (va_runV (b := a18) (As := []) (rest := []) ⟨hx, hb, hml, hown, hts⟩ (c_Lo_minutesBehind l G a18  _ _ e16) (cwV 0 hts (gq_gV wd_185 wd_186 wd_187 wd_66 wd_184) rfl rfl rfl (by decide +kernel) ⟨Nat.le_trans (Nat.le_of_ble_eq_true rfl) hRf, Nat.le_trans (Nat.le_of_ble_eq_true rfl) hRl⟩) (gq_preV hK hN hM hS hb0 e17 (C := R_Lo) (T := T_Lo) (N := 12) rfl) rfl rfl hl.1 rfl (lv_room (Nat.le_of_ble_eq_true rfl)) d_LR_countFailing_30 ⟨(Nat.le_trans (Nat.le_of_ble_eq_true rfl) hRc), (Nat.le_trans (Nat.le_of_ble_eq_true rfl) hRs)⟩) hS (fun H locs hM hS => ?_)
        refine W.eq (g2 := F0 m 33 ls [.long q15.1]) rfl ?_
        refine lv_lconst (v := 0) hx hb d_LR_countFailing_33 (by decide) ?_
        refine mx_lcmp_le (tgt := 41) hx hb d_LR_countFailing_34 d_LR_countFailing_35 (by decide) (fun c20 => ?_) (fun c20 => ?_)
        · rw [if_pos c20] at h
          refine lv_iinc (v := (v2 + 1)) (lv' := [(2, .int ((v2 + 1))), (0, va_rf v0), (1, .int v1)]) hx hb d_LR_countFailing_41 hl (k := 2) rfl rfl (by decide) rfl (fun ls hl => ?_)
          refine lv_goto (tgt := 4) hx hb d_LR_countFailing_44 (by decide) ?_
          exact ih _ _ _ _ h _ _ _ (lv_sub hl [1, 2, 0] rfl) hM hS
        · rw [if_neg c20] at h
          refine lv_iinc (v := (v1 + 1)) (lv' := [(1, .int ((v1 + 1))), (0, va_rf v0), (2, .int v2)]) hx hb d_LR_countFailing_38 hl (k := 1) rfl rfl (by decide) (by simp [mx_cat, mx_cati, mx_catl, mx_catr]) (fun ls hl => ?_)
          refine lv_iinc (v := (v2 + 1)) (lv' := [(2, .int ((v2 + 1))), (1, .int ((v1 + 1))), (0, va_rf v0)]) hx hb d_LR_countFailing_41 hl (k := 2) rfl rfl (by decide) rfl (fun ls hl => ?_)
          refine lv_goto (tgt := 4) hx hb d_LR_countFailing_44 (by decide) ?_
          exact ih _ _ _ _ h _ _ _ (lv_sub hl [2, 1, 0] rfl) hM hS
set_option maxHeartbeats 4000000 in
set_option maxRecDepth 100000 in
theorem c_LR_countFailing (l : Launch) (G : mx_G) (a0 : Nat) (mem : mx_Mem) (q : Int32 × mx_Mem) (h : f_LR_countFailing a0 mem = some q) : Met l y_LR_countFailing (gq_w y_LR_countFailing b_LR_countFailing 3 (some .int)) { frames := 2, cells := 0, slots := 0, locals := 35 } (gq_P G [.ref a0] mem) (gq_Q G (some (.int q.1)) q.2) 0 0 (mx_A G) := by
  refine Met.ofW (cc := b_LR_countFailing) (maxL := 3) (ret := (some .int)) (by decide) rfl ?_
  intro p e s m args below meth c s₁ B hml hv
  obtain ⟨rfl, hb0, hM, hK, hN⟩ := hv
  have CX : gq_C p (headSpec (gq_w y_LR_countFailing b_LR_countFailing 3 (some .int)) { frames := 2, cells := 0, slots := 0, locals := 35 }).room s m _ meth c G b_LR_countFailing 3 (some .int) R_LR 2 0 0 35 := ⟨B.exec, B.bytes, hml, B.returns, findClass_of_methodNamed B.named, fun w hw => atoms_spec (ws := gq_w y_LR_countFailing b_LR_countFailing 3 (some .int)) B.pre w (List.mem_cons_of_mem _ hw), B.notSynchronized, hK, hN, hb0, Nat.le_refl _, Nat.le_refl _, Nat.le_refl _, Nat.le_refl _⟩
  obtain ⟨hx, hb, hml, hr, hown, hts, hlocks, hK, hN, hb0, hRf, hRc, hRs, hRl⟩ := id CX
  have hS : va_S (mx_A G) s.heap s.heap [] := va_S.rf
  have hl := lv_entry [.ref a0] (n := 3) (Nat.le_of_ble_eq_true rfl)
  rw [lg_entry_eq]
  generalize (lg_sl [.ref a0] ++ List.replicate (3 - (lg_sl [.ref a0]).length) Slot.unset).toArray = ls at hl ⊢
  have hl : lv_has ls 3 [(0, va_rf (some a0))] := hl
  unfold f_LR_countFailing at h
  refine lv_iconst (v := 0) hx hb d_LR_countFailing_0 (by decide) ?_
  refine lv_istore_n (lv' := [(1, .int 0), (0, va_rf (some a0))]) hx hb d_LR_countFailing_1 rfl hl (by decide) (by simp [mx_cat, mx_cati, mx_catl, mx_catr]) (fun ls hl => ?_)
  refine lv_iconst (v := 0) hx hb d_LR_countFailing_2 (by decide) ?_
  refine lv_istore_n (lv' := [(2, .int 0), (1, .int 0), (0, va_rf (some a0))]) hx hb d_LR_countFailing_3 rfl hl (by decide) rfl (fun ls hl => ?_)
  refine wfl_LR_countFailing_4 q CX  5000 _ _ _ _ h _ _ _ (lv_sub hl [2, 1, 0] rfl) hM hS
set_option maxHeartbeats 4000000 in
set_option maxRecDepth 100000 in
theorem c_LR_late (l : Launch) (G : mx_G) (a0 : Nat) (v1 : Int32) (v2 : Int64) (mem : mx_Mem) (q : Int32 × mx_Mem) (h : f_LR_late a0 v1 v2 mem = some q) : Met l y_LR_late (gq_w y_LR_late b_LR_late 5 (some .int)) { frames := 4, cells := 0, slots := 0, locals := 80 } (gq_P G [.ref a0, .int v1, .long v2] mem) (gq_Q G (some (.int q.1)) q.2) 0 0 (mx_A G) := by
  refine Met.ofW (cc := b_LR_late) (maxL := 5) (ret := (some .int)) (by decide) rfl ?_
  intro p e s m args below meth c s₁ B hml hv
  obtain ⟨rfl, hb0, hM, hK, hN⟩ := hv
  have CX : gq_C p (headSpec (gq_w y_LR_late b_LR_late 5 (some .int)) { frames := 4, cells := 0, slots := 0, locals := 80 }).room s m _ meth c G b_LR_late 5 (some .int) R_LR 4 0 0 80 := ⟨B.exec, B.bytes, hml, B.returns, findClass_of_methodNamed B.named, fun w hw => atoms_spec (ws := gq_w y_LR_late b_LR_late 5 (some .int)) B.pre w (List.mem_cons_of_mem _ hw), B.notSynchronized, hK, hN, hb0, Nat.le_refl _, Nat.le_refl _, Nat.le_refl _, Nat.le_refl _⟩
  obtain ⟨hx, hb, hml, hr, hown, hts, hlocks, hK, hN, hb0, hRf, hRc, hRs, hRl⟩ := id CX
  have hS : va_S (mx_A G) s.heap s.heap [] := va_S.rf
  have hl := lv_entry [.ref a0, .int v1, .long v2] (n := 5) (Nat.le_of_ble_eq_true rfl)
  rw [lg_entry_eq]
  generalize (lg_sl [.ref a0, .int v1, .long v2] ++ List.replicate (5 - (lg_sl [.ref a0, .int v1, .long v2]).length) Slot.unset).toArray = ls at hl ⊢
  have hl : lv_has ls 5 [(0, va_rf (some a0)), (1, .int v1), (2, .long v2)] := hl
  unfold f_LR_late at h
  refine mx_aload_n hx hb d_LR_late_0 rfl (lv_at hl 0 rfl) ?_
  refine lv_iload_n hx hb d_LR_late_1 rfl (lv_at hl 1 rfl) ?_
  obtain ⟨a4, e3, h⟩ := mx_b h
  obtain ⟨q1, e2, h⟩ := mx_b h
  have e5 := mx_c_eq e3
  refine W.eq (g2 := F0 m 2 ls [.int v1, .ref a4]) (congrArg (fun z => F0 m 2 ls [.int v1, va_rf z]) e5) ?_
  refine gq_go (va_runV (b := a4) (As := [.int v1]) (rest := []) ⟨hx, hb, hml, hown, hts⟩ (c_LR_findLine l G a4 v1 _ _ e2) (cwV 1 hts (gq_gV wd_123 wd_124 wd_125 wd_38 wd_122) rfl rfl rfl (by decide +kernel) ⟨Nat.le_trans (Nat.le_of_ble_eq_true rfl) hRf, Nat.le_trans (Nat.le_of_ble_eq_true rfl) hRl⟩) (gq_preV hK hN hM hS hb0 e3 (C := R_LR) (T := T_LR) (N := 5) rfl) rfl rfl hl.1 rfl (lv_room (Nat.le_of_ble_eq_true rfl)) d_LR_late_2 ⟨(Nat.le_trans (Nat.le_of_ble_eq_true rfl) hRc), (Nat.le_trans (Nat.le_of_ble_eq_true rfl) hRs)⟩) hS (fun H locs hM hS => ?_)
  refine W.eq (g2 := F0 m 5 ls [va_rf q1.1]) rfl ?_
  refine mx_astore (lv' := [(4, va_rf q1.1), (0, va_rf (some a0)), (1, .int v1), (2, .long v2)]) hx hb d_LR_late_5 hl (by decide) rfl (fun ls hl => ?_)
  refine mx_aload hx hb d_LR_late_7 (lv_at hl 0 rfl) ?_
  refine mx_ifnonnull (tgt := 15) hx hb d_LR_late_9 (by decide) (fun c6 => ?_) (fun c6 => ?_)
  · rw [if_neg c6] at h
    refine lv_lload_n hx hb d_LR_late_15 rfl (lv_at hl 3 rfl) ?_
    refine lv_lconst (v := 0) hx hb d_LR_late_16 (by decide) ?_
    refine lv_ldc2 (v := 2000) hx hb hown (hts _ wd_188) d_LR_late_17 ?_
    obtain ⟨q7, e8, h⟩ := mx_b h
    refine gq_go (va_runS (As := [.long v2, .long 0, .long 2000]) (rest := []) ⟨hx, hb, hml, hown, hts⟩ (c_LR_isWithin l G v2 0 2000 _ _ e8) (cwS 3 hts (gq_gS wd_36 wd_37 wd_38 wd_35) rfl rfl rfl (by decide +kernel) ⟨Nat.le_trans (Nat.le_of_ble_eq_true rfl) hRf, Nat.le_trans (Nat.le_of_ble_eq_true rfl) hRl⟩) (gq_preS hK hN hM hS hb0) rfl rfl hl.1 rfl (lv_room (Nat.le_of_ble_eq_true rfl)) d_LR_late_20 ⟨(Nat.le_trans (Nat.le_of_ble_eq_true rfl) hRc), (Nat.le_trans (Nat.le_of_ble_eq_true rfl) hRs)⟩) hS (fun H locs hM hS => ?_)
    refine W.eq (g2 := F0 m 23 ls [.int q7.1]) rfl ?_
    refine lv_if_ne (tgt := 29) hx hb d_LR_late_23 (by decide) (fun c10 => ?_) (fun c10 => ?_)
    · rw [if_neg c10] at h
      refine mx_aload hx hb d_LR_late_29 (lv_at hl 0 rfl) ?_
      refine lv_lload_n hx hb d_LR_late_31 rfl (lv_at hl 3 rfl) ?_
      obtain ⟨m11, e12, h⟩ := mx_b h
      refine mx_putN hx hb hts i_Li t_Li t_Li_ok n_Li hown hK hM hS e12 (ci := 1) (C := R_Li) (T := T_Li) (N := 8) rfl 5 (by decide) (va_Nw.use rfl (hN _ nw_13)) rfl (ty := .long) (by decide +kernel) rfl rfl d_LR_late_32 (fun H locs hM hS => ?_)
      refine mx_aload_n hx hb d_LR_late_35 rfl (lv_at hl 1 rfl) ?_
      obtain ⟨a16, e15, h⟩ := mx_b h
      obtain ⟨q13, e14, h⟩ := mx_b h
      have e17 := mx_c_eq e15
      refine W.eq (g2 := F0 m 36 ls [.ref a16]) (congrArg (fun z => F0 m 36 ls [va_rf z]) e17) ?_
      refine gq_go (va_runV (b := a16) (As := []) (rest := []) ⟨hx, hb, hml, hown, hts⟩ (c_LR_settle l G a16  _ _ e14) (cwV 0 hts (gq_gV wd_106 wd_107 wd_108 wd_38 wd_105) rfl rfl rfl (by decide +kernel) ⟨Nat.le_trans (Nat.le_of_ble_eq_true rfl) hRf, Nat.le_trans (Nat.le_of_ble_eq_true rfl) hRl⟩) (gq_preV hK hN hM hS hb0 e15 (C := R_LR) (T := T_LR) (N := 5) rfl) rfl rfl hl.1 rfl (lv_room (Nat.le_of_ble_eq_true rfl)) d_LR_late_36 ⟨(Nat.le_trans (Nat.le_of_ble_eq_true rfl) hRc), (Nat.le_trans (Nat.le_of_ble_eq_true rfl) hRs)⟩) hS (fun H locs hM hS => ?_)
      refine W.eq (g2 := F0 m 39 ls []) rfl ?_
      refine mx_aload_n hx hb d_LR_late_39 rfl (lv_at hl 1 rfl) ?_
      obtain ⟨a21, e20, h⟩ := mx_b h
      obtain ⟨q18, e19, h⟩ := mx_b h
      have e22 := mx_c_eq e20
      refine W.eq (g2 := F0 m 40 ls [.ref a21]) (congrArg (fun z => F0 m 40 ls [va_rf z]) e22) ?_
      refine gq_go (va_runV (b := a21) (As := []) (rest := []) ⟨hx, hb, hml, hown, hts⟩ (c_LR_countFailing l G a21  _ _ e19) (cwV 0 hts (gq_gV wd_190 wd_191 wd_192 wd_38 wd_189) rfl rfl rfl (by decide +kernel) ⟨Nat.le_trans (Nat.le_of_ble_eq_true rfl) hRf, Nat.le_trans (Nat.le_of_ble_eq_true rfl) hRl⟩) (gq_preV hK hN hM hS hb0 e20 (C := R_LR) (T := T_LR) (N := 5) rfl) rfl rfl hl.1 rfl (lv_room (Nat.le_of_ble_eq_true rfl)) d_LR_late_40 ⟨(Nat.le_trans (Nat.le_of_ble_eq_true rfl) hRc), (Nat.le_trans (Nat.le_of_ble_eq_true rfl) hRs)⟩) hS (fun H locs hM hS => ?_)
      refine W.eq (g2 := F0 m 43 ls [.int q18.1]) rfl ?_
      cases h
      exact W.iret hx hb hr (fun t ht hW => ⟨⟨rfl, by rw [ht]; exact hM⟩, hS.F ht⟩) hS.2.2 d_LR_late_43
    · rw [if_pos c10] at h
      refine lv_bipush (v := (-12)) hx hb d_LR_late_26 (by decide) ?_
      cases h
      exact W.iret hx hb hr (fun t ht hW => ⟨⟨rfl, by rw [ht]; exact hM⟩, hS.F ht⟩) hS.2.2 d_LR_late_28
  · rw [if_pos c6] at h
    refine lv_bipush (v := (-11)) hx hb d_LR_late_12 (by decide) ?_
    cases h
    exact W.iret hx hb hr (fun t ht hW => ⟨⟨rfl, by rw [ht]; exact hM⟩, hS.F ht⟩) hS.2.2 d_LR_late_14
set_option maxHeartbeats 4000000 in
set_option maxRecDepth 100000 in
theorem c_Mo_there (l : Launch) (G : mx_G) (a0 : Nat) (v1 : Int32) (mem : mx_Mem) (q : Int64 × mx_Mem) (h : f_Mo_there a0 v1 mem = some q) : Met l y_Mo_there (gq_w y_Mo_there b_Mo_there 2 (some .long)) { frames := 0, cells := 0, slots := 0, locals := 0 } (gq_P G [.ref a0, .int v1] mem) (gq_Q G (some (.long q.1)) q.2) 0 0 (mx_A G) := by
  refine Met.ofW (cc := b_Mo_there) (maxL := 2) (ret := (some .long)) (by decide) rfl ?_
  intro p e s m args below meth c s₁ B hml hv
  obtain ⟨rfl, hb0, hM, hK, hN⟩ := hv
  have CX : gq_C p (headSpec (gq_w y_Mo_there b_Mo_there 2 (some .long)) { frames := 0, cells := 0, slots := 0, locals := 0 }).room s m _ meth c G b_Mo_there 2 (some .long) R_Mo 0 0 0 0 := ⟨B.exec, B.bytes, hml, B.returns, findClass_of_methodNamed B.named, fun w hw => atoms_spec (ws := gq_w y_Mo_there b_Mo_there 2 (some .long)) B.pre w (List.mem_cons_of_mem _ hw), B.notSynchronized, hK, hN, hb0, Nat.le_refl _, Nat.le_refl _, Nat.le_refl _, Nat.le_refl _⟩
  obtain ⟨hx, hb, hml, hr, hown, hts, hlocks, hK, hN, hb0, hRf, hRc, hRs, hRl⟩ := id CX
  have hS : va_S (mx_A G) s.heap s.heap [] := va_S.rf
  have hl := lv_entry [.ref a0, .int v1] (n := 2) (Nat.le_of_ble_eq_true rfl)
  rw [lg_entry_eq]
  generalize (lg_sl [.ref a0, .int v1] ++ List.replicate (2 - (lg_sl [.ref a0, .int v1]).length) Slot.unset).toArray = ls at hl ⊢
  have hl : lv_has ls 2 [(0, va_rf (some a0)), (1, .int v1)] := hl
  unfold f_Mo_there at h
  refine mx_aload_n hx hb d_Mo_there_0 rfl (lv_at hl 0 rfl) ?_
  obtain ⟨x1, e2, h⟩ := mx_b h
  refine mx_getr hx hb hts i_Mo hown hK hM e2 (ci := 4) (C := R_Mo) (T := T_Mo) (N := 23) rfl 5 (by decide) (hts _ wd_16) d_Mo_there_1 ?_
  refine lv_iload_n hx hb d_Mo_there_4 rfl (lv_at hl 1 rfl) ?_
  obtain ⟨x3, e4, h⟩ := mx_b h
  refine mx_lald hx hb hK hM e4 rfl d_Mo_there_5 ?_
  refine mx_aload_n hx hb d_Mo_there_6 rfl (lv_at hl 0 rfl) ?_
  obtain ⟨x5, e6, h⟩ := mx_b h
  refine mx_getr hx hb hts i_Mo hown hK hM e6 (ci := 4) (C := R_Mo) (T := T_Mo) (N := 23) rfl 8 (by decide) (hts _ wd_19) d_Mo_there_7 ?_
  refine lv_iload_n hx hb d_Mo_there_10 rfl (lv_at hl 1 rfl) ?_
  obtain ⟨x7, e8, h⟩ := mx_b h
  refine mx_lald hx hb hK hM e8 rfl d_Mo_there_11 ?_
  refine lv_ladd hx hb d_Mo_there_12 ?_
  refine mx_aload_n hx hb d_Mo_there_13 rfl (lv_at hl 0 rfl) ?_
  obtain ⟨x9, e10, h⟩ := mx_b h
  refine mx_getr hx hb hts i_Mo hown hK hM e10 (ci := 4) (C := R_Mo) (T := T_Mo) (N := 23) rfl 4 (by decide) (hts _ wd_15) d_Mo_there_14 ?_
  refine lv_iload_n hx hb d_Mo_there_17 rfl (lv_at hl 1 rfl) ?_
  obtain ⟨x11, e12, h⟩ := mx_b h
  refine mx_lald hx hb hK hM e12 rfl d_Mo_there_18 ?_
  refine lv_lsub hx hb d_Mo_there_19 ?_
  cases h
  exact W.lret hx hb hr (fun t ht hW => ⟨⟨rfl, by rw [ht]; exact hM⟩, hS.F ht⟩) hS.2.2 d_Mo_there_20
set_option maxHeartbeats 4000000 in
set_option maxRecDepth 100000 in
theorem wfl_Mo_depart_24 {p : Program} {l : Launch} {e : Env} {R : Room} {s : State} {m : MethodId} {args : Array Value} {below : List Frame} {meth : Method} {c : Code} {G : mx_G} (q : mx_Mem) (CX : gq_C p R s m args meth c G b_Mo_depart 9 none R_Mo 1 0 0 21)  : ∀ (n : Nat) (v0 : Option Nat) (v1 : Int32) (v2 : Int64) (v4 : Int32) (mem : mx_Mem), fl_Mo_depart_24  n v0 v1 v2 v4 mem = some q → ∀ (H : Heap) (locs : List Loc) (ls : Array Slot), lv_has ls 9 [(0, va_rf v0), (1, .int v1), (2, .long v2), (4, .int v4)] → mx_M vwCl G mem H → va_S (mx_A G) s.heap H locs → W p l e R s m args below meth c H locs 0 0 (MQ below (gq_Q G none q) args s 0 0 (mx_A G)) (F0 m 24 ls []) := by
  obtain ⟨hx, hb, hml, hr, hown, hts, hlocks, hK, hN, hb0, hRf, hRc, hRs, hRl⟩ := id CX
  intro n
  induction n with
  | zero => intro v0 v1 v2 v4 mem h; rw [fl_Mo_depart_24] at h; cases h
  | succ n ih =>
    intro v0 v1 v2 v4 mem h H locs ls hl hM hS
    rw [fl_Mo_depart_24] at h
    refine lv_iload hx hb d_Mo_depart_24 (lv_at hl 3 rfl) ?_
    refine mx_aload_n hx hb d_Mo_depart_26 rfl (lv_at hl 0 rfl) ?_
    obtain ⟨x1, e2, h⟩ := mx_b h
    refine mx_geti hx hb hts i_Mo hown hK hM e2 (ci := 4) (C := R_Mo) (T := T_Mo) (N := 23) rfl 9 (by decide) (hts _ wd_142) d_Mo_depart_27 ?_
    refine lv_icmp_gt (tgt := 166) hx hb d_Mo_depart_30 (by decide) (fun c3 => ?_) (fun c3 => ?_)
    · rw [if_pos c3] at h
      cases h
      exact W.vret hx hb hr (fun t ht hW => ⟨⟨rfl, by rw [ht]; exact hM⟩, hS.F ht⟩) hS.2.2 d_Mo_depart_166
    · rw [if_neg c3] at h
      refine lv_iconst (v := 4) hx hb d_Mo_depart_33 (by decide) ?_
      refine lv_iload hx hb d_Mo_depart_34 (lv_at hl 3 rfl) ?_
      refine lv_imul hx hb d_Mo_depart_36 ?_
      refine mx_aload_n hx hb d_Mo_depart_37 rfl (lv_at hl 0 rfl) ?_
      obtain ⟨x4, e5, h⟩ := mx_b h
      refine mx_getr hx hb hts i_Mo hown hK hM e5 (ci := 4) (C := R_Mo) (T := T_Mo) (N := 23) rfl 15 (by decide) (hts _ wd_25) d_Mo_depart_38 ?_
      refine lv_iload hx hb d_Mo_depart_41 (lv_at hl 3 rfl) ?_
      obtain ⟨x6, e7, h⟩ := mx_b h
      refine mx_iald hx hb hK hM e7 rfl d_Mo_depart_43 ?_
      refine lv_iadd hx hb d_Mo_depart_44 ?_
      refine lv_istore (lv' := [(5, .int (((4 * v4) + x6))), (0, va_rf v0), (1, .int v1), (2, .long v2), (4, .int v4)]) hx hb d_Mo_depart_45 hl (by decide) rfl (fun ls hl => ?_)
      refine mx_aload_n hx hb d_Mo_depart_47 rfl (lv_at hl 1 rfl) ?_
      obtain ⟨x8, e9, h⟩ := mx_b h
      refine mx_getr hx hb hts i_Mo hown hK hM e9 (ci := 4) (C := R_Mo) (T := T_Mo) (N := 23) rfl 14 (by decide) (hts _ wd_24) d_Mo_depart_48 ?_
      refine lv_iload hx hb d_Mo_depart_51 (lv_at hl 4 rfl) ?_
      obtain ⟨x10, e11, h⟩ := mx_b h
      refine mx_iald hx hb hK hM e11 rfl d_Mo_depart_53 ?_
      refine lv_if_le (tgt := 83) hx hb d_Mo_depart_54 (by decide) (fun c12 => ?_) (fun c12 => ?_)
      · rw [if_pos c12] at h
        refine lv_iconst (v := 0) hx hb d_Mo_depart_83 (by decide) ?_
        refine lv_istore (lv' := [(6, .int 0), (5, .int (((4 * v4) + x6))), (0, va_rf v0), (1, .int v1), (2, .long v2), (4, .int v4)]) hx hb d_Mo_depart_84 hl (by decide) rfl (fun ls hl => ?_)
        refine lv_iload hx hb d_Mo_depart_86 (lv_at hl 0 rfl) ?_
        refine lv_if_eq (tgt := 109) hx hb d_Mo_depart_88 (by decide) (fun c13 => ?_) (fun c13 => ?_)
        · refine lv_lconst (v := 0) hx hb d_Mo_depart_109 (by decide) ?_
          refine lv_lstore (lv' := [(7, .long 0), (6, .int 0), (5, .int (((4 * v4) + x6))), (0, va_rf v0), (1, .int v1), (2, .long v2), (4, .int v4)]) hx hb d_Mo_depart_110 hl (by decide) rfl (fun ls hl => ?_)
          refine mx_aload_n hx hb d_Mo_depart_112 rfl (lv_at hl 3 rfl) ?_
          obtain ⟨x14, e15, h⟩ := mx_b h
          refine mx_getr hx hb hts i_Mo hown hK hM e15 (ci := 4) (C := R_Mo) (T := T_Mo) (N := 23) rfl 8 (by decide) (hts _ wd_19) d_Mo_depart_113 ?_
          refine lv_iload_n hx hb d_Mo_depart_116 rfl (lv_at hl 4 rfl) ?_
          refine lv_iload hx hb d_Mo_depart_117 (lv_at hl 1 rfl) ?_
          refine lv_if_eq (tgt := 153) hx hb d_Mo_depart_119 (by decide) (fun c16 => ?_) (fun c16 => ?_)
          · refine mx_aload_n hx hb d_Mo_depart_153 rfl (lv_at hl 3 rfl) ?_
            obtain ⟨x17, e18, h⟩ := mx_b h
            refine mx_getr hx hb hts i_Mo hown hK hM e18 (ci := 4) (C := R_Mo) (T := T_Mo) (N := 23) rfl 8 (by decide) (hts _ wd_19) d_Mo_depart_154 ?_
            refine lv_iload_n hx hb d_Mo_depart_157 rfl (lv_at hl 4 rfl) ?_
            obtain ⟨x19, e20, h⟩ := mx_b h
            refine mx_lald hx hb hK hM e20 rfl d_Mo_depart_158 ?_
            obtain ⟨m22, e21, h⟩ := mx_b h
            refine mx_last hx hb hK hM hS e21 rfl d_Mo_depart_159 (fun H locs hM hS => ?_)
            refine lv_iinc (v := (v4 + 1)) (lv' := [(4, .int ((v4 + 1))), (7, .long 0), (6, .int 0), (5, .int (((4 * v4) + x6))), (0, va_rf v0), (1, .int v1), (2, .long v2)]) hx hb d_Mo_depart_160 hl (k := 6) rfl rfl (by decide) rfl (fun ls hl => ?_)
            refine lv_goto (tgt := 24) hx hb d_Mo_depart_163 (by decide) ?_
            exact ih _ _ _ _ _ h _ _ _ (lv_sub hl [4, 5, 6, 0] rfl) hM hS
          · exact absurd c16 (by decide)
        · exact absurd c13 (by decide)
      · rw [if_neg c12] at h
        refine mx_aload_n hx hb d_Mo_depart_57 rfl (lv_at hl 1 rfl) ?_
        obtain ⟨x13, e14, h⟩ := mx_b h
        refine mx_getr hx hb hts i_Mo hown hK hM e14 (ci := 4) (C := R_Mo) (T := T_Mo) (N := 23) rfl 16 (by decide) (hts _ wd_26) d_Mo_depart_58 ?_
        refine lv_iload hx hb d_Mo_depart_61 (lv_at hl 0 rfl) ?_
        obtain ⟨x15, e16, h⟩ := mx_b h
        refine mx_iald hx hb hK hM e16 rfl d_Mo_depart_63 ?_
        refine lv_iconst (v := 1) hx hb d_Mo_depart_64 (by decide) ?_
        refine lv_icmp_ne (tgt := 83) hx hb d_Mo_depart_65 (by decide) (fun c17 => ?_) (fun c17 => ?_)
        · rw [if_neg c17] at h
          refine lv_iconst (v := 0) hx hb d_Mo_depart_83 (by decide) ?_
          refine lv_istore (lv' := [(6, .int 0), (5, .int (((4 * v4) + x6))), (0, va_rf v0), (1, .int v1), (2, .long v2), (4, .int v4)]) hx hb d_Mo_depart_84 hl (by decide) rfl (fun ls hl => ?_)
          refine lv_iload hx hb d_Mo_depart_86 (lv_at hl 0 rfl) ?_
          refine lv_if_eq (tgt := 109) hx hb d_Mo_depart_88 (by decide) (fun c18 => ?_) (fun c18 => ?_)
          · refine lv_lconst (v := 0) hx hb d_Mo_depart_109 (by decide) ?_
            refine lv_lstore (lv' := [(7, .long 0), (6, .int 0), (5, .int (((4 * v4) + x6))), (0, va_rf v0), (1, .int v1), (2, .long v2), (4, .int v4)]) hx hb d_Mo_depart_110 hl (by decide) rfl (fun ls hl => ?_)
            refine mx_aload_n hx hb d_Mo_depart_112 rfl (lv_at hl 3 rfl) ?_
            obtain ⟨x19, e20, h⟩ := mx_b h
            refine mx_getr hx hb hts i_Mo hown hK hM e20 (ci := 4) (C := R_Mo) (T := T_Mo) (N := 23) rfl 8 (by decide) (hts _ wd_19) d_Mo_depart_113 ?_
            refine lv_iload_n hx hb d_Mo_depart_116 rfl (lv_at hl 4 rfl) ?_
            refine lv_iload hx hb d_Mo_depart_117 (lv_at hl 1 rfl) ?_
            refine lv_if_eq (tgt := 153) hx hb d_Mo_depart_119 (by decide) (fun c21 => ?_) (fun c21 => ?_)
            · refine mx_aload_n hx hb d_Mo_depart_153 rfl (lv_at hl 3 rfl) ?_
              obtain ⟨x22, e23, h⟩ := mx_b h
              refine mx_getr hx hb hts i_Mo hown hK hM e23 (ci := 4) (C := R_Mo) (T := T_Mo) (N := 23) rfl 8 (by decide) (hts _ wd_19) d_Mo_depart_154 ?_
              refine lv_iload_n hx hb d_Mo_depart_157 rfl (lv_at hl 4 rfl) ?_
              obtain ⟨x24, e25, h⟩ := mx_b h
              refine mx_lald hx hb hK hM e25 rfl d_Mo_depart_158 ?_
              obtain ⟨m27, e26, h⟩ := mx_b h
              refine mx_last hx hb hK hM hS e26 rfl d_Mo_depart_159 (fun H locs hM hS => ?_)
              refine lv_iinc (v := (v4 + 1)) (lv' := [(4, .int ((v4 + 1))), (7, .long 0), (6, .int 0), (5, .int (((4 * v4) + x6))), (0, va_rf v0), (1, .int v1), (2, .long v2)]) hx hb d_Mo_depart_160 hl (k := 6) rfl rfl (by decide) rfl (fun ls hl => ?_)
              refine lv_goto (tgt := 24) hx hb d_Mo_depart_163 (by decide) ?_
              exact ih _ _ _ _ _ h _ _ _ (lv_sub hl [4, 5, 6, 0] rfl) hM hS
            · exact absurd c21 (by decide)
          · exact absurd c18 (by decide)
        · rw [if_pos c17] at h
          refine mx_aload_n hx hb d_Mo_depart_68 rfl (lv_at hl 1 rfl) ?_
          obtain ⟨x18, e19, h⟩ := mx_b h
          refine mx_getr hx hb hts i_Mo hown hK hM e19 (ci := 4) (C := R_Mo) (T := T_Mo) (N := 23) rfl 17 (by decide) (hts _ wd_27) d_Mo_depart_69 ?_
          refine lv_iload hx hb d_Mo_depart_72 (lv_at hl 0 rfl) ?_
          obtain ⟨x20, e21, h⟩ := mx_b h
          refine mx_iald hx hb hK hM e21 rfl d_Mo_depart_74 ?_
          refine lv_iload_n hx hb d_Mo_depart_75 rfl (lv_at hl 2 rfl) ?_
          refine lv_icmp_ne (tgt := 83) hx hb d_Mo_depart_76 (by decide) (fun c22 => ?_) (fun c22 => ?_)
          · rw [if_neg c22] at h
            refine lv_iconst (v := 0) hx hb d_Mo_depart_83 (by decide) ?_
            refine lv_istore (lv' := [(6, .int 0), (5, .int (((4 * v4) + x6))), (0, va_rf v0), (1, .int v1), (2, .long v2), (4, .int v4)]) hx hb d_Mo_depart_84 hl (by decide) rfl (fun ls hl => ?_)
            refine lv_iload hx hb d_Mo_depart_86 (lv_at hl 0 rfl) ?_
            refine lv_if_eq (tgt := 109) hx hb d_Mo_depart_88 (by decide) (fun c23 => ?_) (fun c23 => ?_)
            · refine lv_lconst (v := 0) hx hb d_Mo_depart_109 (by decide) ?_
              refine lv_lstore (lv' := [(7, .long 0), (6, .int 0), (5, .int (((4 * v4) + x6))), (0, va_rf v0), (1, .int v1), (2, .long v2), (4, .int v4)]) hx hb d_Mo_depart_110 hl (by decide) rfl (fun ls hl => ?_)
              refine mx_aload_n hx hb d_Mo_depart_112 rfl (lv_at hl 3 rfl) ?_
              obtain ⟨x24, e25, h⟩ := mx_b h
              refine mx_getr hx hb hts i_Mo hown hK hM e25 (ci := 4) (C := R_Mo) (T := T_Mo) (N := 23) rfl 8 (by decide) (hts _ wd_19) d_Mo_depart_113 ?_
              refine lv_iload_n hx hb d_Mo_depart_116 rfl (lv_at hl 4 rfl) ?_
              refine lv_iload hx hb d_Mo_depart_117 (lv_at hl 1 rfl) ?_
              refine lv_if_eq (tgt := 153) hx hb d_Mo_depart_119 (by decide) (fun c26 => ?_) (fun c26 => ?_)
              · refine mx_aload_n hx hb d_Mo_depart_153 rfl (lv_at hl 3 rfl) ?_
                obtain ⟨x27, e28, h⟩ := mx_b h
                refine mx_getr hx hb hts i_Mo hown hK hM e28 (ci := 4) (C := R_Mo) (T := T_Mo) (N := 23) rfl 8 (by decide) (hts _ wd_19) d_Mo_depart_154 ?_
                refine lv_iload_n hx hb d_Mo_depart_157 rfl (lv_at hl 4 rfl) ?_
                obtain ⟨x29, e30, h⟩ := mx_b h
                refine mx_lald hx hb hK hM e30 rfl d_Mo_depart_158 ?_
                obtain ⟨m32, e31, h⟩ := mx_b h
                refine mx_last hx hb hK hM hS e31 rfl d_Mo_depart_159 (fun H locs hM hS => ?_)
                refine lv_iinc (v := (v4 + 1)) (lv' := [(4, .int ((v4 + 1))), (7, .long 0), (6, .int 0), (5, .int (((4 * v4) + x6))), (0, va_rf v0), (1, .int v1), (2, .long v2)]) hx hb d_Mo_depart_160 hl (k := 6) rfl rfl (by decide) rfl (fun ls hl => ?_)
                refine lv_goto (tgt := 24) hx hb d_Mo_depart_163 (by decide) ?_
                exact ih _ _ _ _ _ h _ _ _ (lv_sub hl [4, 5, 6, 0] rfl) hM hS
              · exact absurd c26 (by decide)
            · exact absurd c23 (by decide)
          · rw [if_pos c22] at h
            refine lv_iconst (v := 1) hx hb d_Mo_depart_79 (by decide) ?_
            refine lv_goto (tgt := 84) hx hb d_Mo_depart_80 (by decide) ?_
            refine lv_istore (lv' := [(6, .int 1), (5, .int (((4 * v4) + x6))), (0, va_rf v0), (1, .int v1), (2, .long v2), (4, .int v4)]) hx hb d_Mo_depart_84 hl (by decide) rfl (fun ls hl => ?_)
            refine lv_iload hx hb d_Mo_depart_86 (lv_at hl 0 rfl) ?_
            refine lv_if_eq (tgt := 109) hx hb d_Mo_depart_88 (by decide) (fun c23 => ?_) (fun c23 => ?_)
            · exact absurd c23 (by decide)
            · refine mx_aload_n hx hb d_Mo_depart_91 rfl (lv_at hl 2 rfl) ?_
              refine mx_aload_n hx hb d_Mo_depart_92 rfl (lv_at hl 2 rfl) ?_
              obtain ⟨x24, e25, h⟩ := mx_b h
              refine mx_getr hx hb hts i_Mo hown hK hM e25 (ci := 4) (C := R_Mo) (T := T_Mo) (N := 23) rfl 10 (by decide) (hts _ wd_20) d_Mo_depart_93 ?_
              refine lv_iload hx hb d_Mo_depart_96 (lv_at hl 5 rfl) ?_
              obtain ⟨x26, e27, h⟩ := mx_b h
              refine mx_iald hx hb hK hM e27 rfl d_Mo_depart_98 ?_
              obtain ⟨a31, e30, h⟩ := mx_b h
              obtain ⟨q28, e29, h⟩ := mx_b h
              have e32 := mx_c_eq e30
              refine W.eq (g2 := F0 m 99 ls [.int x26, .ref a31]) (congrArg (fun z => F0 m 99 ls [.int x26, va_rf z]) e32) ?_
              refine gq_go (va_runV (b := a31) (As := [.int x26]) (rest := []) ⟨hx, hb, hml, hown, hts⟩ (c_Mo_there l G a31 x26 _ _ e29) (cwV 1 hts (gq_gV wd_194 wd_195 wd_196 wd_114 wd_193) rfl rfl rfl (by decide +kernel) ⟨Nat.le_trans (Nat.le_of_ble_eq_true rfl) hRf, Nat.le_trans (Nat.le_of_ble_eq_true rfl) hRl⟩) (gq_preV hK hN hM hS hb0 e30 (C := R_Mo) (T := T_Mo) (N := 23) rfl) rfl rfl hl.1 rfl (lv_room (Nat.le_of_ble_eq_true rfl)) d_Mo_depart_99 ⟨(Nat.le_trans (Nat.le_of_ble_eq_true rfl) hRc), (Nat.le_trans (Nat.le_of_ble_eq_true rfl) hRs)⟩) hS (fun H locs hM hS => ?_)
              refine W.eq (g2 := F0 m 102 ls [.long q28.1]) rfl ?_
              refine lv_ldc2 (v := 10) hx hb hown (hts _ wd_197) d_Mo_depart_102 ?_
              refine lv_ladd hx hb d_Mo_depart_105 ?_
              refine lv_goto (tgt := 110) hx hb d_Mo_depart_106 (by decide) ?_
              refine lv_lstore (lv' := [(7, .long ((q28.1 + 10))), (6, .int 1), (5, .int (((4 * v4) + x6))), (0, va_rf v0), (1, .int v1), (2, .long v2), (4, .int v4)]) hx hb d_Mo_depart_110 hl (by decide) rfl (fun ls hl => ?_)
              refine mx_aload_n hx hb d_Mo_depart_112 rfl (lv_at hl 3 rfl) ?_
              obtain ⟨x33, e34, h⟩ := mx_b h
              refine mx_getr hx hb hts i_Mo hown hK hM e34 (ci := 4) (C := R_Mo) (T := T_Mo) (N := 23) rfl 8 (by decide) (hts _ wd_19) d_Mo_depart_113 ?_
              refine lv_iload_n hx hb d_Mo_depart_116 rfl (lv_at hl 4 rfl) ?_
              refine lv_iload hx hb d_Mo_depart_117 (lv_at hl 1 rfl) ?_
              refine lv_if_eq (tgt := 153) hx hb d_Mo_depart_119 (by decide) (fun c35 => ?_) (fun c35 => ?_)
              · exact absurd c35 (by decide)
              · refine lv_lload hx hb d_Mo_depart_122 (lv_at hl 0 rfl) ?_
                refine lv_lload_n hx hb d_Mo_depart_124 rfl (lv_at hl 5 rfl) ?_
                refine mx_aload_n hx hb d_Mo_depart_125 rfl (lv_at hl 3 rfl) ?_
                obtain ⟨x36, e37, h⟩ := mx_b h
                refine mx_getr hx hb hts i_Mo hown hK hM e37 (ci := 4) (C := R_Mo) (T := T_Mo) (N := 23) rfl 7 (by decide) (hts _ wd_18) d_Mo_depart_126 ?_
                refine lv_iload_n hx hb d_Mo_depart_129 rfl (lv_at hl 4 rfl) ?_
                obtain ⟨x38, e39, h⟩ := mx_b h
                refine mx_lald hx hb hK hM e39 rfl d_Mo_depart_130 ?_
                refine lv_ladd hx hb d_Mo_depart_131 ?_
                refine mx_lcmp_gt (tgt := 153) hx hb d_Mo_depart_132 d_Mo_depart_133 (by decide) (fun c40 => ?_) (fun c40 => ?_)
                · rw [if_pos c40] at h
                  refine mx_aload_n hx hb d_Mo_depart_153 rfl (lv_at hl 3 rfl) ?_
                  obtain ⟨x41, e42, h⟩ := mx_b h
                  refine mx_getr hx hb hts i_Mo hown hK hM e42 (ci := 4) (C := R_Mo) (T := T_Mo) (N := 23) rfl 8 (by decide) (hts _ wd_19) d_Mo_depart_154 ?_
                  refine lv_iload_n hx hb d_Mo_depart_157 rfl (lv_at hl 4 rfl) ?_
                  obtain ⟨x43, e44, h⟩ := mx_b h
                  refine mx_lald hx hb hK hM e44 rfl d_Mo_depart_158 ?_
                  obtain ⟨m46, e45, h⟩ := mx_b h
                  refine mx_last hx hb hK hM hS e45 rfl d_Mo_depart_159 (fun H locs hM hS => ?_)
                  refine lv_iinc (v := (v4 + 1)) (lv' := [(4, .int ((v4 + 1))), (7, .long ((q28.1 + 10))), (6, .int 1), (5, .int (((4 * v4) + x6))), (0, va_rf v0), (1, .int v1), (2, .long v2)]) hx hb d_Mo_depart_160 hl (k := 6) rfl rfl (by decide) rfl (fun ls hl => ?_)
                  refine lv_goto (tgt := 24) hx hb d_Mo_depart_163 (by decide) ?_
                  exact ih _ _ _ _ _ h _ _ _ (lv_sub hl [4, 5, 6, 0] rfl) hM hS
                · rw [if_neg c40] at h
                  refine lv_lload hx hb d_Mo_depart_136 (lv_at hl 0 rfl) ?_
                  refine mx_aload_n hx hb d_Mo_depart_138 rfl (lv_at hl 3 rfl) ?_
                  obtain ⟨x41, e42, h⟩ := mx_b h
                  refine mx_getr hx hb hts i_Mo hown hK hM e42 (ci := 4) (C := R_Mo) (T := T_Mo) (N := 23) rfl 8 (by decide) (hts _ wd_19) d_Mo_depart_139 ?_
                  refine lv_iload_n hx hb d_Mo_depart_142 rfl (lv_at hl 4 rfl) ?_
                  obtain ⟨x43, e44, h⟩ := mx_b h
                  refine mx_lald hx hb hK hM e44 rfl d_Mo_depart_143 ?_
                  refine mx_lcmp_le (tgt := 153) hx hb d_Mo_depart_144 d_Mo_depart_145 (by decide) (fun c45 => ?_) (fun c45 => ?_)
                  · rw [if_pos c45] at h
                    refine mx_aload_n hx hb d_Mo_depart_153 rfl (lv_at hl 3 rfl) ?_
                    obtain ⟨x46, e47, h⟩ := mx_b h
                    refine mx_getr hx hb hts i_Mo hown hK hM e47 (ci := 4) (C := R_Mo) (T := T_Mo) (N := 23) rfl 8 (by decide) (hts _ wd_19) d_Mo_depart_154 ?_
                    refine lv_iload_n hx hb d_Mo_depart_157 rfl (lv_at hl 4 rfl) ?_
                    obtain ⟨x48, e49, h⟩ := mx_b h
                    refine mx_lald hx hb hK hM e49 rfl d_Mo_depart_158 ?_
                    obtain ⟨m51, e50, h⟩ := mx_b h
                    refine mx_last hx hb hK hM hS e50 rfl d_Mo_depart_159 (fun H locs hM hS => ?_)
                    refine lv_iinc (v := (v4 + 1)) (lv' := [(4, .int ((v4 + 1))), (7, .long ((q28.1 + 10))), (6, .int 1), (5, .int (((4 * v4) + x6))), (0, va_rf v0), (1, .int v1), (2, .long v2)]) hx hb d_Mo_depart_160 hl (k := 6) rfl rfl (by decide) rfl (fun ls hl => ?_)
                    refine lv_goto (tgt := 24) hx hb d_Mo_depart_163 (by decide) ?_
                    exact ih _ _ _ _ _ h _ _ _ (lv_sub hl [4, 5, 6, 0] rfl) hM hS
                  · rw [if_neg c45] at h
                    refine lv_lload hx hb d_Mo_depart_148 (lv_at hl 0 rfl) ?_
                    refine lv_goto (tgt := 159) hx hb d_Mo_depart_150 (by decide) ?_
                    obtain ⟨m47, e46, h⟩ := mx_b h
                    refine mx_last hx hb hK hM hS e46 rfl d_Mo_depart_159 (fun H locs hM hS => ?_)
                    refine lv_iinc (v := (v4 + 1)) (lv' := [(4, .int ((v4 + 1))), (7, .long ((q28.1 + 10))), (6, .int 1), (5, .int (((4 * v4) + x6))), (0, va_rf v0), (1, .int v1), (2, .long v2)]) hx hb d_Mo_depart_160 hl (k := 6) rfl rfl (by decide) rfl (fun ls hl => ?_)
                    refine lv_goto (tgt := 24) hx hb d_Mo_depart_163 (by decide) ?_
                    exact ih _ _ _ _ _ h _ _ _ (lv_sub hl [4, 5, 6, 0] rfl) hM hS
set_option maxHeartbeats 4000000 in
set_option maxRecDepth 100000 in
theorem c_Mo_depart (l : Launch) (G : mx_G) (a0 : Nat) (v1 : Int32) (mem : mx_Mem) (q : mx_Mem) (h : f_Mo_depart a0 v1 mem = some q) : Met l y_Mo_depart (gq_w y_Mo_depart b_Mo_depart 9 none) { frames := 1, cells := 0, slots := 0, locals := 21 } (gq_P G [.ref a0, .int v1] mem) (gq_Q G none q) 0 0 (mx_A G) := by
  refine Met.ofW (cc := b_Mo_depart) (maxL := 9) (ret := none) (by decide) rfl ?_
  intro p e s m args below meth c s₁ B hml hv
  obtain ⟨rfl, hb0, hM, hK, hN⟩ := hv
  have CX : gq_C p (headSpec (gq_w y_Mo_depart b_Mo_depart 9 none) { frames := 1, cells := 0, slots := 0, locals := 21 }).room s m _ meth c G b_Mo_depart 9 none R_Mo 1 0 0 21 := ⟨B.exec, B.bytes, hml, B.returns, findClass_of_methodNamed B.named, fun w hw => atoms_spec (ws := gq_w y_Mo_depart b_Mo_depart 9 none) B.pre w (List.mem_cons_of_mem _ hw), B.notSynchronized, hK, hN, hb0, Nat.le_refl _, Nat.le_refl _, Nat.le_refl _, Nat.le_refl _⟩
  obtain ⟨hx, hb, hml, hr, hown, hts, hlocks, hK, hN, hb0, hRf, hRc, hRs, hRl⟩ := id CX
  have hS : va_S (mx_A G) s.heap s.heap [] := va_S.rf
  have hl := lv_entry [.ref a0, .int v1] (n := 9) (Nat.le_of_ble_eq_true rfl)
  rw [lg_entry_eq]
  generalize (lg_sl [.ref a0, .int v1] ++ List.replicate (9 - (lg_sl [.ref a0, .int v1]).length) Slot.unset).toArray = ls at hl ⊢
  have hl : lv_has ls 9 [(0, va_rf (some a0)), (1, .int v1)] := hl
  unfold f_Mo_depart at h
  refine mx_aload_n hx hb d_Mo_depart_0 rfl (lv_at hl 0 rfl) ?_
  obtain ⟨x1, e2, h⟩ := mx_b h
  refine mx_getr hx hb hts i_Mo hown hK hM e2 (ci := 4) (C := R_Mo) (T := T_Mo) (N := 23) rfl 4 (by decide) (hts _ wd_15) d_Mo_depart_1 ?_
  refine lv_iload_n hx hb d_Mo_depart_4 rfl (lv_at hl 1 rfl) ?_
  obtain ⟨x3, e4, h⟩ := mx_b h
  refine mx_lald hx hb hK hM e4 rfl d_Mo_depart_5 ?_
  refine mx_aload_n hx hb d_Mo_depart_6 rfl (lv_at hl 0 rfl) ?_
  obtain ⟨x5, e6, h⟩ := mx_b h
  refine mx_getr hx hb hts i_Mo hown hK hM e6 (ci := 4) (C := R_Mo) (T := T_Mo) (N := 23) rfl 6 (by decide) (hts _ wd_17) d_Mo_depart_7 ?_
  refine lv_iload_n hx hb d_Mo_depart_10 rfl (lv_at hl 1 rfl) ?_
  obtain ⟨x7, e8, h⟩ := mx_b h
  refine mx_lald hx hb hK hM e8 rfl d_Mo_depart_11 ?_
  refine lv_ladd hx hb d_Mo_depart_12 ?_
  refine lv_lstore_n (lv' := [(2, .long ((x3 + x7))), (0, va_rf (some a0)), (1, .int v1)]) hx hb d_Mo_depart_13 rfl hl (by decide) rfl (fun ls hl => ?_)
  refine mx_aload_n hx hb d_Mo_depart_14 rfl (lv_at hl 1 rfl) ?_
  obtain ⟨x9, e10, h⟩ := mx_b h
  refine mx_getr hx hb hts i_Mo hown hK hM e10 (ci := 4) (C := R_Mo) (T := T_Mo) (N := 23) rfl 8 (by decide) (hts _ wd_19) d_Mo_depart_15 ?_
  refine lv_iload_n hx hb d_Mo_depart_18 rfl (lv_at hl 2 rfl) ?_
  refine lv_lload_n hx hb d_Mo_depart_19 rfl (lv_at hl 0 rfl) ?_
  obtain ⟨m12, e11, h⟩ := mx_b h
  refine mx_last hx hb hK hM hS e11 rfl d_Mo_depart_20 (fun H locs hM hS => ?_)
  refine lv_iconst (v := 1) hx hb d_Mo_depart_21 (by decide) ?_
  refine lv_istore (lv' := [(4, .int 1), (2, .long ((x3 + x7))), (0, va_rf (some a0)), (1, .int v1)]) hx hb d_Mo_depart_22 hl (by decide) rfl (fun ls hl => ?_)
  refine wfl_Mo_depart_24 q CX  5000 _ _ _ _ _ h _ _ _ (lv_sub hl [2, 3, 1, 0] rfl) hM hS
set_option maxHeartbeats 4000000 in
set_option maxRecDepth 100000 in
theorem wfj_Mo_arrive_112 {p : Program} {l : Launch} {e : Env} {R : Room} {s : State} {m : MethodId} {args : Array Value} {below : List Frame} {meth : Method} {c : Code} {G : mx_G} (q : mx_Mem) (CX : gq_C p R s m args meth c G b_Mo_arrive 6 none R_Mo 1 0 0 21) (v0 : Option Nat) (v1 : Int32) (v2 : Int64) (v4 : Int32) (mem : mx_Mem) (h : fj_Mo_arrive_112 v0 v1 v2 v4 mem = some q) (H : Heap) (locs : List Loc) (ls : Array Slot) (hl : lv_has ls 6 [(0, va_rf v0), (1, .int v1), (2, .long v2), (4, .int v4)]) (hM : mx_M vwCl G mem H) (hS : va_S (mx_A G) s.heap H locs) : W p l e R s m args below meth c H locs 0 0 (MQ below (gq_Q G none q) args s 0 0 (mx_A G)) (F0 m 112 ls []) := by
  obtain ⟨hx, hb, hml, hr, hown, hts, hlocks, hK, hN, hb0, hRf, hRc, hRs, hRl⟩ := id CX
  rw [fj_Mo_arrive_112] at h
  refine lv_iconst (v := 0) hx hb d_Mo_arrive_112 (by decide) ?_
  refine lv_istore (lv' := [(5, .int 0), (0, va_rf v0), (1, .int v1), (2, .long v2), (4, .int v4)]) hx hb d_Mo_arrive_113 hl (by decide) rfl (fun ls hl => ?_)
  refine mx_aload_n hx hb d_Mo_arrive_115 rfl (lv_at hl 1 rfl) ?_
  obtain ⟨x1, e2, h⟩ := mx_b h
  refine mx_getr hx hb hts i_Mo hown hK hM e2 (ci := 4) (C := R_Mo) (T := T_Mo) (N := 23) rfl 20 (by decide) (hts _ wd_31) d_Mo_arrive_116 ?_
  refine lv_iload_n hx hb d_Mo_arrive_119 rfl (lv_at hl 2 rfl) ?_
  refine lv_iload hx hb d_Mo_arrive_120 (lv_at hl 0 rfl) ?_
  refine lv_if_ne (tgt := 129) hx hb d_Mo_arrive_122 (by decide) (fun c3 => ?_) (fun c3 => ?_)
  · exact absurd c3 (by decide)
  · refine lv_iconst (v := 1) hx hb d_Mo_arrive_125 (by decide) ?_
    refine lv_goto (tgt := 130) hx hb d_Mo_arrive_126 (by decide) ?_
    obtain ⟨m5, e4, h⟩ := mx_b h
    refine mx_bast hx hb hK hM hS rfl e4 rfl d_Mo_arrive_130 (fun H locs hM hS => ?_)
    refine mx_aload_n hx hb d_Mo_arrive_131 rfl (lv_at hl 1 rfl) ?_
    obtain ⟨x6, e7, h⟩ := mx_b h
    refine mx_getr hx hb hts i_Mo hown hK hM e7 (ci := 4) (C := R_Mo) (T := T_Mo) (N := 23) rfl 19 (by decide) (hts _ wd_29) d_Mo_arrive_132 ?_
    refine lv_iload_n hx hb d_Mo_arrive_135 rfl (lv_at hl 2 rfl) ?_
    refine lv_iload hx hb d_Mo_arrive_136 (lv_at hl 0 rfl) ?_
    refine lv_if_eq (tgt := 155) hx hb d_Mo_arrive_138 (by decide) (fun c8 => ?_) (fun c8 => ?_)
    · refine lv_lload_n hx hb d_Mo_arrive_155 rfl (lv_at hl 3 rfl) ?_
      refine lv_ldc2 (v := 1440) hx hb hown (hts _ wd_198) d_Mo_arrive_156 ?_
      refine lv_ladd hx hb d_Mo_arrive_159 ?_
      obtain ⟨m10, e9, h⟩ := mx_b h
      refine mx_last hx hb hK hM hS e9 rfl d_Mo_arrive_160 (fun H locs hM hS => ?_)
      cases h
      exact W.vret hx hb hr (fun t ht hW => ⟨⟨rfl, by rw [ht]; exact hM⟩, hS.F ht⟩) hS.2.2 d_Mo_arrive_161
    · exact absurd c8 (by decide)
set_option maxHeartbeats 4000000 in
set_option maxRecDepth 100000 in
theorem wfj_Mo_arrive_78 {p : Program} {l : Launch} {e : Env} {R : Room} {s : State} {m : MethodId} {args : Array Value} {below : List Frame} {meth : Method} {c : Code} {G : mx_G} (q : mx_Mem) (CX : gq_C p R s m args meth c G b_Mo_arrive 6 none R_Mo 1 0 0 21) (v0 : Option Nat) (v1 : Int32) (v2 : Int64) (v4 : Int32) (mem : mx_Mem) (h : fj_Mo_arrive_78 v0 v1 v2 v4 mem = some q) (H : Heap) (locs : List Loc) (ls : Array Slot) (hl : lv_has ls 6 [(0, va_rf v0), (1, .int v1), (2, .long v2), (4, .int v4)]) (hM : mx_M vwCl G mem H) (hS : va_S (mx_A G) s.heap H locs) : W p l e R s m args below meth c H locs 0 0 (MQ below (gq_Q G none q) args s 0 0 (mx_A G)) (F0 m 78 ls []) := by
  obtain ⟨hx, hb, hml, hr, hown, hts, hlocks, hK, hN, hb0, hRf, hRc, hRs, hRl⟩ := id CX
  rw [fj_Mo_arrive_78] at h
  refine mx_aload_n hx hb d_Mo_arrive_78 rfl (lv_at hl 0 rfl) ?_
  obtain ⟨x1, e2, h⟩ := mx_b h
  refine mx_getr hx hb hts i_Mo hown hK hM e2 (ci := 4) (C := R_Mo) (T := T_Mo) (N := 23) rfl 14 (by decide) (hts _ wd_24) d_Mo_arrive_79 ?_
  refine lv_iload_n hx hb d_Mo_arrive_82 rfl (lv_at hl 1 rfl) ?_
  obtain ⟨x3, e4, h⟩ := mx_b h
  refine mx_iald hx hb hK hM e4 rfl d_Mo_arrive_83 ?_
  refine lv_if_le (tgt := 112) hx hb d_Mo_arrive_84 (by decide) (fun c5 => ?_) (fun c5 => ?_)
  · rw [if_pos c5] at h
    exact wfj_Mo_arrive_112 q CX _ _ _ _ _ h _ _ _ (lv_sub hl [0, 1, 2, 3] rfl) hM hS
  · rw [if_neg c5] at h
    refine mx_aload_n hx hb d_Mo_arrive_87 rfl (lv_at hl 0 rfl) ?_
    obtain ⟨x6, e7, h⟩ := mx_b h
    refine mx_getr hx hb hts i_Mo hown hK hM e7 (ci := 4) (C := R_Mo) (T := T_Mo) (N := 23) rfl 8 (by decide) (hts _ wd_19) d_Mo_arrive_88 ?_
    refine mx_aload_n hx hb d_Mo_arrive_91 rfl (lv_at hl 0 rfl) ?_
    obtain ⟨x8, e9, h⟩ := mx_b h
    refine mx_getr hx hb hts i_Mo hown hK hM e9 (ci := 4) (C := R_Mo) (T := T_Mo) (N := 23) rfl 17 (by decide) (hts _ wd_27) d_Mo_arrive_92 ?_
    refine lv_iload hx hb d_Mo_arrive_95 (lv_at hl 3 rfl) ?_
    obtain ⟨x10, e11, h⟩ := mx_b h
    refine mx_iald hx hb hK hM e11 rfl d_Mo_arrive_97 ?_
    obtain ⟨x12, e13, h⟩ := mx_b h
    refine mx_lald hx hb hK hM e13 rfl d_Mo_arrive_98 ?_
    refine lv_lload_n hx hb d_Mo_arrive_99 rfl (lv_at hl 2 rfl) ?_
    refine lv_ldc2 (v := 10) hx hb hown (hts _ wd_197) d_Mo_arrive_100 ?_
    refine lv_ladd hx hb d_Mo_arrive_103 ?_
    refine mx_lcmp_lt (tgt := 112) hx hb d_Mo_arrive_104 d_Mo_arrive_105 (by decide) (fun c14 => ?_) (fun c14 => ?_)
    · rw [if_pos c14] at h
      exact wfj_Mo_arrive_112 q CX _ _ _ _ _ h _ _ _ (lv_sub hl [0, 1, 2, 3] rfl) hM hS
    · rw [if_neg c14] at h
      refine lv_iconst (v := 1) hx hb d_Mo_arrive_108 (by decide) ?_
      refine lv_goto (tgt := 113) hx hb d_Mo_arrive_109 (by decide) ?_
      refine lv_istore (lv' := [(5, .int 1), (0, va_rf v0), (1, .int v1), (2, .long v2), (4, .int v4)]) hx hb d_Mo_arrive_113 hl (by decide) rfl (fun ls hl => ?_)
      refine mx_aload_n hx hb d_Mo_arrive_115 rfl (lv_at hl 1 rfl) ?_
      obtain ⟨x15, e16, h⟩ := mx_b h
      refine mx_getr hx hb hts i_Mo hown hK hM e16 (ci := 4) (C := R_Mo) (T := T_Mo) (N := 23) rfl 20 (by decide) (hts _ wd_31) d_Mo_arrive_116 ?_
      refine lv_iload_n hx hb d_Mo_arrive_119 rfl (lv_at hl 2 rfl) ?_
      refine lv_iload hx hb d_Mo_arrive_120 (lv_at hl 0 rfl) ?_
      refine lv_if_ne (tgt := 129) hx hb d_Mo_arrive_122 (by decide) (fun c17 => ?_) (fun c17 => ?_)
      · refine lv_iconst (v := 0) hx hb d_Mo_arrive_129 (by decide) ?_
        obtain ⟨m19, e18, h⟩ := mx_b h
        refine mx_bast hx hb hK hM hS rfl e18 rfl d_Mo_arrive_130 (fun H locs hM hS => ?_)
        refine mx_aload_n hx hb d_Mo_arrive_131 rfl (lv_at hl 1 rfl) ?_
        obtain ⟨x20, e21, h⟩ := mx_b h
        refine mx_getr hx hb hts i_Mo hown hK hM e21 (ci := 4) (C := R_Mo) (T := T_Mo) (N := 23) rfl 19 (by decide) (hts _ wd_29) d_Mo_arrive_132 ?_
        refine lv_iload_n hx hb d_Mo_arrive_135 rfl (lv_at hl 2 rfl) ?_
        refine lv_iload hx hb d_Mo_arrive_136 (lv_at hl 0 rfl) ?_
        refine lv_if_eq (tgt := 155) hx hb d_Mo_arrive_138 (by decide) (fun c22 => ?_) (fun c22 => ?_)
        · exact absurd c22 (by decide)
        · refine mx_aload_n hx hb d_Mo_arrive_141 rfl (lv_at hl 1 rfl) ?_
          refine mx_aload_n hx hb d_Mo_arrive_142 rfl (lv_at hl 1 rfl) ?_
          obtain ⟨x23, e24, h⟩ := mx_b h
          refine mx_getr hx hb hts i_Mo hown hK hM e24 (ci := 4) (C := R_Mo) (T := T_Mo) (N := 23) rfl 17 (by decide) (hts _ wd_27) d_Mo_arrive_143 ?_
          refine lv_iload hx hb d_Mo_arrive_146 (lv_at hl 4 rfl) ?_
          obtain ⟨x25, e26, h⟩ := mx_b h
          refine mx_iald hx hb hK hM e26 rfl d_Mo_arrive_148 ?_
          obtain ⟨a30, e29, h⟩ := mx_b h
          obtain ⟨q27, e28, h⟩ := mx_b h
          have e31 := mx_c_eq e29
          refine W.eq (g2 := F0 m 149 ls [.int x25, .ref a30, .int v1, va_rf x20]) (congrArg (fun z => F0 m 149 ls [.int x25, va_rf z, .int v1, va_rf x20]) e31) ?_
          refine gq_go (va_runV (b := a30) (As := [.int x25]) (rest := [.int v1, va_rf x20]) ⟨hx, hb, hml, hown, hts⟩ (c_Mo_there l G a30 x25 _ _ e28) (cwV 1 hts (gq_gV wd_194 wd_195 wd_196 wd_114 wd_193) rfl rfl rfl (by decide +kernel) ⟨Nat.le_trans (Nat.le_of_ble_eq_true rfl) hRf, Nat.le_trans (Nat.le_of_ble_eq_true rfl) hRl⟩) (gq_preV hK hN hM hS hb0 e29 (C := R_Mo) (T := T_Mo) (N := 23) rfl) rfl rfl hl.1 rfl (lv_room (by simp [mx_cat, mx_cati, mx_catl, mx_catr])) d_Mo_arrive_149 ⟨(Nat.le_trans (Nat.le_of_ble_eq_true rfl) hRc), (Nat.le_trans (Nat.le_of_ble_eq_true rfl) hRs)⟩) hS (fun H locs hM hS => ?_)
          refine W.eq (g2 := F0 m 152 ls [.long q27.1, .int v1, va_rf x20]) rfl ?_
          refine lv_goto (tgt := 160) hx hb d_Mo_arrive_152 (by decide) ?_
          obtain ⟨m33, e32, h⟩ := mx_b h
          refine mx_last hx hb hK hM hS e32 rfl d_Mo_arrive_160 (fun H locs hM hS => ?_)
          cases h
          exact W.vret hx hb hr (fun t ht hW => ⟨⟨rfl, by rw [ht]; exact hM⟩, hS.F ht⟩) hS.2.2 d_Mo_arrive_161
      · exact absurd c17 (by decide)
set_option maxHeartbeats 4000000 in
set_option maxRecDepth 100000 in
theorem c_Mo_arrive (l : Launch) (G : mx_G) (a0 : Nat) (v1 : Int32) (mem : mx_Mem) (q : mx_Mem) (h : f_Mo_arrive a0 v1 mem = some q) : Met l y_Mo_arrive (gq_w y_Mo_arrive b_Mo_arrive 6 none) { frames := 1, cells := 0, slots := 0, locals := 21 } (gq_P G [.ref a0, .int v1] mem) (gq_Q G none q) 0 0 (mx_A G) := by
  refine Met.ofW (cc := b_Mo_arrive) (maxL := 6) (ret := none) (by decide) rfl ?_
  intro p e s m args below meth c s₁ B hml hv
  obtain ⟨rfl, hb0, hM, hK, hN⟩ := hv
  have CX : gq_C p (headSpec (gq_w y_Mo_arrive b_Mo_arrive 6 none) { frames := 1, cells := 0, slots := 0, locals := 21 }).room s m _ meth c G b_Mo_arrive 6 none R_Mo 1 0 0 21 := ⟨B.exec, B.bytes, hml, B.returns, findClass_of_methodNamed B.named, fun w hw => atoms_spec (ws := gq_w y_Mo_arrive b_Mo_arrive 6 none) B.pre w (List.mem_cons_of_mem _ hw), B.notSynchronized, hK, hN, hb0, Nat.le_refl _, Nat.le_refl _, Nat.le_refl _, Nat.le_refl _⟩
  obtain ⟨hx, hb, hml, hr, hown, hts, hlocks, hK, hN, hb0, hRf, hRc, hRs, hRl⟩ := id CX
  have hS : va_S (mx_A G) s.heap s.heap [] := va_S.rf
  have hl := lv_entry [.ref a0, .int v1] (n := 6) (Nat.le_of_ble_eq_true rfl)
  rw [lg_entry_eq]
  generalize (lg_sl [.ref a0, .int v1] ++ List.replicate (6 - (lg_sl [.ref a0, .int v1]).length) Slot.unset).toArray = ls at hl ⊢
  have hl : lv_has ls 6 [(0, va_rf (some a0)), (1, .int v1)] := hl
  unfold f_Mo_arrive at h
  refine mx_aload_n hx hb d_Mo_arrive_0 rfl (lv_at hl 0 rfl) ?_
  refine mx_aload_n hx hb d_Mo_arrive_1 rfl (lv_at hl 0 rfl) ?_
  obtain ⟨x1, e2, h⟩ := mx_b h
  refine mx_getr hx hb hts i_Mo hown hK hM e2 (ci := 4) (C := R_Mo) (T := T_Mo) (N := 23) rfl 10 (by decide) (hts _ wd_20) d_Mo_arrive_2 ?_
  refine lv_iload_n hx hb d_Mo_arrive_5 rfl (lv_at hl 1 rfl) ?_
  obtain ⟨x3, e4, h⟩ := mx_b h
  refine mx_iald hx hb hK hM e4 rfl d_Mo_arrive_6 ?_
  obtain ⟨a8, e7, h⟩ := mx_b h
  obtain ⟨q5, e6, h⟩ := mx_b h
  have e9 := mx_c_eq e7
  refine W.eq (g2 := F0 m 7 ls [.int x3, .ref a8]) (congrArg (fun z => F0 m 7 ls [.int x3, va_rf z]) e9) ?_
  refine gq_go (va_runV (b := a8) (As := [.int x3]) (rest := []) ⟨hx, hb, hml, hown, hts⟩ (c_Mo_there l G a8 x3 _ _ e6) (cwV 1 hts (gq_gV wd_194 wd_195 wd_196 wd_114 wd_193) rfl rfl rfl (by decide +kernel) ⟨Nat.le_trans (Nat.le_of_ble_eq_true rfl) hRf, Nat.le_trans (Nat.le_of_ble_eq_true rfl) hRl⟩) (gq_preV hK hN hM hS hb0 e7 (C := R_Mo) (T := T_Mo) (N := 23) rfl) rfl rfl hl.1 rfl (lv_room (Nat.le_of_ble_eq_true rfl)) d_Mo_arrive_7 ⟨(Nat.le_trans (Nat.le_of_ble_eq_true rfl) hRc), (Nat.le_trans (Nat.le_of_ble_eq_true rfl) hRs)⟩) hS (fun H locs hM hS => ?_)
  refine W.eq (g2 := F0 m 10 ls [.long q5.1]) rfl ?_
  refine lv_lstore_n (lv' := [(2, .long q5.1), (0, va_rf (some a0)), (1, .int v1)]) hx hb d_Mo_arrive_10 rfl hl (by decide) rfl (fun ls hl => ?_)
  refine mx_aload_n hx hb d_Mo_arrive_11 rfl (lv_at hl 1 rfl) ?_
  obtain ⟨x10, e11, h⟩ := mx_b h
  refine mx_getr hx hb hts i_Mo hown hK hM e11 (ci := 4) (C := R_Mo) (T := T_Mo) (N := 23) rfl 20 (by decide) (hts _ wd_31) d_Mo_arrive_12 ?_
  refine lv_iload_n hx hb d_Mo_arrive_15 rfl (lv_at hl 2 rfl) ?_
  refine lv_iconst (v := 0) hx hb d_Mo_arrive_16 (by decide) ?_
  obtain ⟨m13, e12, h⟩ := mx_b h
  refine mx_bast hx hb hK hM hS rfl e12 rfl d_Mo_arrive_17 (fun H locs hM hS => ?_)
  refine mx_aload_n hx hb d_Mo_arrive_18 rfl (lv_at hl 1 rfl) ?_
  refine lv_iload_n hx hb d_Mo_arrive_19 rfl (lv_at hl 2 rfl) ?_
  obtain ⟨a17, e16, h⟩ := mx_b h
  obtain ⟨q14, e15, h⟩ := mx_b h
  have e18 := mx_c_eq e16
  refine W.eq (g2 := F0 m 20 ls [.int v1, .ref a17]) (congrArg (fun z => F0 m 20 ls [.int v1, va_rf z]) e18) ?_
  refine gq_go (va_runV (b := a17) (As := [.int v1]) (rest := []) ⟨hx, hb, hml, hown, hts⟩ (c_Mo_isDirect l G a17 v1 _ _ e15) (cwV 1 hts (gq_gV wd_178 wd_179 wd_180 wd_114 wd_177) rfl rfl rfl (by decide +kernel) ⟨Nat.le_trans (Nat.le_of_ble_eq_true rfl) hRf, Nat.le_trans (Nat.le_of_ble_eq_true rfl) hRl⟩) (gq_preV hK hN hM hS hb0 e16 (C := R_Mo) (T := T_Mo) (N := 23) rfl) rfl rfl hl.1 rfl (lv_room (Nat.le_of_ble_eq_true rfl)) d_Mo_arrive_20 ⟨(Nat.le_trans (Nat.le_of_ble_eq_true rfl) hRc), (Nat.le_trans (Nat.le_of_ble_eq_true rfl) hRs)⟩) hS (fun H locs hM hS => ?_)
  refine W.eq (g2 := F0 m 23 ls [.int q14.1]) rfl ?_
  refine lv_if_eq (tgt := 34) hx hb d_Mo_arrive_23 (by decide) (fun c19 => ?_) (fun c19 => ?_)
  · rw [if_pos c19] at h
    refine lv_iconst (v := 4) hx hb d_Mo_arrive_34 (by decide) ?_
    refine lv_iload_n hx hb d_Mo_arrive_35 rfl (lv_at hl 2 rfl) ?_
    refine lv_imul hx hb d_Mo_arrive_36 ?_
    refine mx_aload_n hx hb d_Mo_arrive_37 rfl (lv_at hl 1 rfl) ?_
    obtain ⟨x20, e21, h⟩ := mx_b h
    refine mx_getr hx hb hts i_Mo hown hK hM e21 (ci := 4) (C := R_Mo) (T := T_Mo) (N := 23) rfl 15 (by decide) (hts _ wd_25) d_Mo_arrive_38 ?_
    refine lv_iload_n hx hb d_Mo_arrive_41 rfl (lv_at hl 2 rfl) ?_
    obtain ⟨x22, e23, h⟩ := mx_b h
    refine mx_iald hx hb hK hM e23 rfl d_Mo_arrive_42 ?_
    refine lv_iadd hx hb d_Mo_arrive_43 ?_
    refine lv_istore (lv' := [(4, .int (((4 * v1) + x22))), (2, .long q5.1), (0, va_rf (some a0)), (1, .int v1)]) hx hb d_Mo_arrive_44 hl (by decide) rfl (fun ls hl => ?_)
    refine mx_aload_n hx hb d_Mo_arrive_46 rfl (lv_at hl 2 rfl) ?_
    obtain ⟨x24, e25, h⟩ := mx_b h
    refine mx_getr hx hb hts i_Mo hown hK hM e25 (ci := 4) (C := R_Mo) (T := T_Mo) (N := 23) rfl 14 (by decide) (hts _ wd_24) d_Mo_arrive_47 ?_
    refine lv_iload_n hx hb d_Mo_arrive_50 rfl (lv_at hl 3 rfl) ?_
    obtain ⟨x26, e27, h⟩ := mx_b h
    refine mx_iald hx hb hK hM e27 rfl d_Mo_arrive_51 ?_
    refine lv_if_le (tgt := 78) hx hb d_Mo_arrive_52 (by decide) (fun c28 => ?_) (fun c28 => ?_)
    · rw [if_pos c28] at h
      exact wfj_Mo_arrive_78 q CX _ _ _ _ _ h _ _ _ (lv_sub hl [2, 3, 1, 0] rfl) hM hS
    · rw [if_neg c28] at h
      refine mx_aload_n hx hb d_Mo_arrive_55 rfl (lv_at hl 2 rfl) ?_
      obtain ⟨x29, e30, h⟩ := mx_b h
      refine mx_getr hx hb hts i_Mo hown hK hM e30 (ci := 4) (C := R_Mo) (T := T_Mo) (N := 23) rfl 16 (by decide) (hts _ wd_26) d_Mo_arrive_56 ?_
      refine lv_iload hx hb d_Mo_arrive_59 (lv_at hl 0 rfl) ?_
      obtain ⟨x31, e32, h⟩ := mx_b h
      refine mx_iald hx hb hK hM e32 rfl d_Mo_arrive_61 ?_
      refine lv_iconst (v := 2) hx hb d_Mo_arrive_62 (by decide) ?_
      refine lv_icmp_ne (tgt := 78) hx hb d_Mo_arrive_63 (by decide) (fun c33 => ?_) (fun c33 => ?_)
      · rw [if_neg c33] at h
        exact wfj_Mo_arrive_78 q CX _ _ _ _ _ h _ _ _ (lv_sub hl [2, 3, 1, 0] rfl) hM hS
      · rw [if_pos c33] at h
        refine mx_aload_n hx hb d_Mo_arrive_66 rfl (lv_at hl 2 rfl) ?_
        obtain ⟨x34, e35, h⟩ := mx_b h
        refine mx_getr hx hb hts i_Mo hown hK hM e35 (ci := 4) (C := R_Mo) (T := T_Mo) (N := 23) rfl 19 (by decide) (hts _ wd_29) d_Mo_arrive_67 ?_
        refine lv_iload_n hx hb d_Mo_arrive_70 rfl (lv_at hl 3 rfl) ?_
        refine lv_lload_n hx hb d_Mo_arrive_71 rfl (lv_at hl 1 rfl) ?_
        refine lv_ldc2 (v := 60) hx hb hown (hts _ wd_199) d_Mo_arrive_72 ?_
        refine lv_ladd hx hb d_Mo_arrive_75 ?_
        obtain ⟨m37, e36, h⟩ := mx_b h
        refine mx_last hx hb hK hM hS e36 rfl d_Mo_arrive_76 (fun H locs hM hS => ?_)
        cases h
        exact W.vret hx hb hr (fun t ht hW => ⟨⟨rfl, by rw [ht]; exact hM⟩, hS.F ht⟩) hS.2.2 d_Mo_arrive_77
  · rw [if_neg c19] at h
    refine mx_aload_n hx hb d_Mo_arrive_26 rfl (lv_at hl 1 rfl) ?_
    obtain ⟨x20, e21, h⟩ := mx_b h
    refine mx_getr hx hb hts i_Mo hown hK hM e21 (ci := 4) (C := R_Mo) (T := T_Mo) (N := 23) rfl 19 (by decide) (hts _ wd_29) d_Mo_arrive_27 ?_
    refine lv_iload_n hx hb d_Mo_arrive_30 rfl (lv_at hl 2 rfl) ?_
    refine lv_lload_n hx hb d_Mo_arrive_31 rfl (lv_at hl 0 rfl) ?_
    obtain ⟨m23, e22, h⟩ := mx_b h
    refine mx_last hx hb hK hM hS e22 rfl d_Mo_arrive_32 (fun H locs hM hS => ?_)
    cases h
    exact W.vret hx hb hr (fun t ht hW => ⟨⟨rfl, by rw [ht]; exact hM⟩, hS.F ht⟩) hS.2.2 d_Mo_arrive_33
