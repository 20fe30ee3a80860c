set_option maxHeartbeats 4000000 in
set_option maxRecDepth 100000 in
theorem wfj_Lo_arrive_91 {p : Program} {l : Launch} {e : Env} {R : Room} {s : State} {m : MethodId} {args : Array Value} {below : List Frame} {meth : Method} {c : Code} {G : mx_G} (q : mx_Mem) (CX : gq_C p R s m args meth c G b_Lo_arrive 2 none R_Lo 1 0 0 21) (v0 : Option Nat) (mem : mx_Mem) (h : fj_Lo_arrive_91 v0 mem = some q) (H : Heap) (locs : List Loc) (ls : Array Slot) (hl : lv_has ls 2 [(0, va_rf v0)]) (hM : mx_M vwCl G mem H) (hS : va_S (mx_A G) s.heap H locs) : W p l e R s m args below meth c H locs 0 0 (MQ below (gq_Q G none q) args s 0 0 (mx_A G)) (F0 m 91 ls []) := by
  obtain ⟨hx, hb, hml, hr, hown, hts, hlocks, hK, hN, hb0, hRf, hRc, hRs, hRl⟩ := id CX
  rw [fj_Lo_arrive_91] at h
  refine mx_aload_n hx hb d_Lo_arrive_91 rfl (lv_at hl 0 rfl) ?_
  refine mx_aload_n hx hb d_Lo_arrive_92 rfl (lv_at hl 0 rfl) ?_
  obtain ⟨x1, e2, h⟩ := mx_b h
  refine mx_getl hx hb hts i_Lo hown hK hM e2 (ci := 3) (C := R_Lo) (T := T_Lo) (N := 12) rfl 8 (by decide) (hts _ wd_61) d_Lo_arrive_93 ?_
  refine lv_ldc2 (v := 1440) hx hb hown (hts _ wd_78) d_Lo_arrive_96 ?_
  refine lv_ladd hx hb d_Lo_arrive_99 ?_
  obtain ⟨m3, e4, h⟩ := mx_b h
  refine mx_put hx hb hts i_Lo t_Lo t_Lo_ok n_Lo hown hK hM hS e4 (ci := 3) (C := R_Lo) (T := T_Lo) (N := 12) rfl 9 (by decide) (hts _ wd_79) rfl (ty := .long) (by decide +kernel) rfl rfl d_Lo_arrive_100 (fun H locs hM hS => ?_)
  refine mx_aload_n hx hb d_Lo_arrive_103 rfl (lv_at hl 0 rfl) ?_
  refine lv_iconst (v := 1) hx hb d_Lo_arrive_104 (by decide) ?_
  obtain ⟨m5, e6, h⟩ := mx_b h
  refine mx_put hx hb hts i_Lo t_Lo t_Lo_ok n_Lo hown hK hM hS e6 (ci := 3) (C := R_Lo) (T := T_Lo) (N := 12) rfl 11 (by decide) (hts _ wd_73) rfl (ty := .boolean) (by decide +kernel) rfl rfl d_Lo_arrive_105 (fun H locs hM hS => ?_)
  cases h
  exact W.vret hx hb hr (fun t ht hW => ⟨⟨rfl, by rw [ht]; exact hM⟩, hS.F ht⟩) hS.2.2 d_Lo_arrive_108
set_option maxHeartbeats 4000000 in
set_option maxRecDepth 100000 in
theorem wfj_Lo_arrive_55 {p : Program} {l : Launch} {e : Env} {R : Room} {s : State} {m : MethodId} {args : Array Value} {below : List Frame} {meth : Method} {c : Code} {G : mx_G} (q : mx_Mem) (CX : gq_C p R s m args meth c G b_Lo_arrive 2 none R_Lo 1 0 0 21) (v0 : Option Nat) (v1 : Option Nat) (mem : mx_Mem) (h : fj_Lo_arrive_55 v0 v1 mem = some q) (H : Heap) (locs : List Loc) (ls : Array Slot) (hl : lv_has ls 2 [(0, va_rf v0), (1, va_rf v1)]) (hM : mx_M vwCl G mem H) (hS : va_S (mx_A G) s.heap H locs) : W p l e R s m args below meth c H locs 0 0 (MQ below (gq_Q G none q) args s 0 0 (mx_A G)) (F0 m 55 ls []) := by
  obtain ⟨hx, hb, hml, hr, hown, hts, hlocks, hK, hN, hb0, hRf, hRc, hRs, hRl⟩ := id CX
  rw [fj_Lo_arrive_55] at h
  refine mx_aload_n hx hb d_Lo_arrive_55 rfl (lv_at hl 1 rfl) ?_
  refine mx_ifnull (tgt := 91) hx hb d_Lo_arrive_56 (by decide) (fun c1 => ?_) (fun c1 => ?_)
  · rw [if_pos c1] at h
    exact wfj_Lo_arrive_91 q CX _ _ h _ _ _ (lv_sub hl [0] rfl) hM hS
  · rw [if_neg c1] at h
    refine mx_aload_n hx hb d_Lo_arrive_59 rfl (lv_at hl 1 rfl) ?_
    obtain ⟨x2, e3, h⟩ := mx_b h
    refine mx_getrN hx hb hts i_Op hown hK hM e3 (ci := 2) (C := R_Op) (T := T_Op) (N := 3) rfl 1 (by decide) (va_Nw.use rfl (hN _ nw_3)) d_Lo_arrive_60 ?_
    refine mx_ifnull (tgt := 91) hx hb d_Lo_arrive_63 (by decide) (fun c4 => ?_) (fun c4 => ?_)
    · rw [if_pos c4] at h
      exact wfj_Lo_arrive_91 q CX _ _ h _ _ _ (lv_sub hl [0] rfl) hM hS
    · rw [if_neg c4] at h
      refine mx_aload_n hx hb d_Lo_arrive_66 rfl (lv_at hl 0 rfl) ?_
      refine mx_aload_n hx hb d_Lo_arrive_67 rfl (lv_at hl 1 rfl) ?_
      obtain ⟨x5, e6, h⟩ := mx_b h
      refine mx_getrN hx hb hts i_Op hown hK hM e6 (ci := 2) (C := R_Op) (T := T_Op) (N := 3) rfl 1 (by decide) (va_Nw.use rfl (hN _ nw_3)) d_Lo_arrive_68 ?_
      obtain ⟨a10, e9, h⟩ := mx_b h
      obtain ⟨q7, e8, h⟩ := mx_b h
      have e11 := mx_c_eq e9
      refine W.eq (g2 := F0 m 71 ls [va_rf x5, .ref a10]) (congrArg (fun z => F0 m 71 ls [va_rf x5, va_rf z]) e11) ?_
      refine gq_go (va_runV (b := a10) (As := [va_rf x5]) (rest := []) ⟨hx, hb, hml, hown, hts⟩ (c_Lo_catches l G a10 x5 _ _ e8) (cwV 1 hts (gq_gV wd_81 wd_82 wd_83 wd_66 wd_80) rfl rfl rfl (by decide +kernel) ⟨Nat.le_trans (Nat.le_of_ble_eq_true rfl) hRf, Nat.le_trans (Nat.le_of_ble_eq_true rfl) hRl⟩) (gq_preV hK hN hM hS hb0 e9 (C := R_Lo) (T := T_Lo) (N := 12) rfl) rfl rfl hl.1 rfl (lv_room (Nat.le_of_ble_eq_true rfl)) d_Lo_arrive_71 ⟨(Nat.le_trans (Nat.le_of_ble_eq_true rfl) hRc), (Nat.le_trans (Nat.le_of_ble_eq_true rfl) hRs)⟩) hS (fun H locs hM hS => ?_)
      refine W.eq (g2 := F0 m 74 ls [.int q7.1]) rfl ?_
      refine lv_if_eq (tgt := 91) hx hb d_Lo_arrive_74 (by decide) (fun c12 => ?_) (fun c12 => ?_)
      · rw [if_pos c12] at h
        exact wfj_Lo_arrive_91 q CX _ _ h _ _ _ (lv_sub hl [0] rfl) hM hS
      · rw [if_neg c12] at h
        refine mx_aload_n hx hb d_Lo_arrive_77 rfl (lv_at hl 0 rfl) ?_
        refine mx_aload_n hx hb d_Lo_arrive_78 rfl (lv_at hl 1 rfl) ?_
        obtain ⟨x13, e14, h⟩ := mx_b h
        refine mx_getrN hx hb hts i_Op hown hK hM e14 (ci := 2) (C := R_Op) (T := T_Op) (N := 3) rfl 1 (by decide) (va_Nw.use rfl (hN _ nw_3)) d_Lo_arrive_79 ?_
        obtain ⟨a18, e17, h⟩ := mx_b h
        obtain ⟨q15, e16, h⟩ := mx_b h
        have e19 := mx_c_eq e17
        refine W.eq (g2 := F0 m 82 ls [.ref a18, va_rf v0]) (congrArg (fun z => F0 m 82 ls [va_rf z, va_rf v0]) e19) ?_
        refine gq_go (va_runV (b := a18) (As := []) (rest := [va_rf v0]) ⟨hx, hb, hml, hown, hts⟩ (c_Li_arrivesAt l G a18  _ _ e16) (cwV 0 hts (gq_gV wd_57 wd_58 wd_59 wd_60 wd_56) rfl rfl rfl (by decide +kernel) ⟨Nat.le_trans (Nat.le_of_ble_eq_true rfl) hRf, Nat.le_trans (Nat.le_of_ble_eq_true rfl) hRl⟩) (gq_preV hK hN hM hS hb0 e17 (C := R_Li) (T := T_Li) (N := 8) rfl) rfl rfl hl.1 rfl (lv_room (by simp [mx_cat, mx_cati, mx_catl, mx_catr])) d_Lo_arrive_82 ⟨(Nat.le_trans (Nat.le_of_ble_eq_true rfl) hRc), (Nat.le_trans (Nat.le_of_ble_eq_true rfl) hRs)⟩) hS (fun H locs hM hS => ?_)
        refine W.eq (g2 := F0 m 85 ls [.long q15.1, va_rf v0]) rfl ?_
        obtain ⟨m20, e21, h⟩ := mx_b h
        refine mx_put hx hb hts i_Lo t_Lo t_Lo_ok n_Lo hown hK hM hS e21 (ci := 3) (C := R_Lo) (T := T_Lo) (N := 12) rfl 9 (by decide) (hts _ wd_79) rfl (ty := .long) (by decide +kernel) rfl rfl d_Lo_arrive_85 (fun H locs hM hS => ?_)
        refine lv_goto (tgt := 108) hx hb d_Lo_arrive_88 (by decide) ?_
        cases h
        exact W.vret hx hb hr (fun t ht hW => ⟨⟨rfl, by rw [ht]; exact hM⟩, hS.F ht⟩) hS.2.2 d_Lo_arrive_108
set_option maxHeartbeats 4000000 in
set_option maxRecDepth 100000 in
theorem c_Lo_arrive (l : Launch) (G : mx_G) (a0 : Nat) (mem : mx_Mem) (q : mx_Mem) (h : f_Lo_arrive a0 mem = some q) : Met l y_Lo_arrive (gq_w y_Lo_arrive b_Lo_arrive 2 none) { frames := 1, cells := 0, slots := 0, locals := 21 } (gq_P G [.ref a0] mem) (gq_Q G none q) 0 0 (mx_A G) := by
  refine Met.ofW (cc := b_Lo_arrive) (maxL := 2) (ret := none) (by decide) rfl ?_
  intro p e s m args below meth c s₁ B hml hv
  obtain ⟨rfl, hb0, hM, hK, hN⟩ := hv
  have CX : gq_C p (headSpec (gq_w y_Lo_arrive b_Lo_arrive 2 none) { frames := 1, cells := 0, slots := 0, locals := 21 }).room s m _ meth c G b_Lo_arrive 2 none R_Lo 1 0 0 21 := ⟨B.exec, B.bytes, hml, B.returns, findClass_of_methodNamed B.named, fun w hw => atoms_spec (ws := gq_w y_Lo_arrive b_Lo_arrive 2 none) B.pre w (List.mem_cons_of_mem _ hw), B.notSynchronized, hK, hN, hb0, Nat.le_refl _, Nat.le_refl _, Nat.le_refl _, Nat.le_refl _⟩
  obtain ⟨hx, hb, hml, hr, hown, hts, hlocks, hK, hN, hb0, hRf, hRc, hRs, hRl⟩ := id CX
  have hS : va_S (mx_A G) s.heap s.heap [] := va_S.rf
  have hl := lv_entry [.ref a0] (n := 2) (Nat.le_of_ble_eq_true rfl)
  rw [lg_entry_eq]
  generalize (lg_sl [.ref a0] ++ List.replicate (2 - (lg_sl [.ref a0]).length) Slot.unset).toArray = ls at hl ⊢
  have hl : lv_has ls 2 [(0, va_rf (some a0))] := hl
  unfold f_Lo_arrive at h
  refine mx_aload_n hx hb d_Lo_arrive_0 rfl (lv_at hl 0 rfl) ?_
  obtain ⟨a4, e3, h⟩ := mx_b h
  obtain ⟨q1, e2, h⟩ := mx_b h
  have e5 := mx_c_eq e3
  refine W.eq (g2 := F0 m 1 ls [.ref a4]) (congrArg (fun z => F0 m 1 ls [va_rf z]) e5) ?_
  refine gq_go (va_runV (b := a4) (As := []) (rest := []) ⟨hx, hb, hml, hown, hts⟩ (c_Lo_pickedOption l G a4  _ _ e2) (cwV 0 hts (gq_gV wd_63 wd_64 wd_65 wd_66 wd_62) rfl rfl rfl (by decide +kernel) ⟨Nat.le_trans (Nat.le_of_ble_eq_true rfl) hRf, Nat.le_trans (Nat.le_of_ble_eq_true rfl) hRl⟩) (gq_preV hK hN hM hS hb0 e3 (C := R_Lo) (T := T_Lo) (N := 12) rfl) rfl rfl hl.1 rfl (lv_room (Nat.le_of_ble_eq_true rfl)) d_Lo_arrive_1 ⟨(Nat.le_trans (Nat.le_of_ble_eq_true rfl) hRc), (Nat.le_trans (Nat.le_of_ble_eq_true rfl) hRs)⟩) hS (fun H locs hM hS => ?_)
  refine W.eq (g2 := F0 m 4 ls [va_rf q1.1]) rfl ?_
  refine mx_astore_n (lv' := [(1, va_rf q1.1), (0, va_rf (some a0))]) hx hb d_Lo_arrive_4 rfl hl (by decide) (by simp [mx_cat, mx_cati, mx_catl, mx_catr]) (fun ls hl => ?_)
  refine mx_aload_n hx hb d_Lo_arrive_5 rfl (lv_at hl 1 rfl) ?_
  refine lv_iconst (v := 0) hx hb d_Lo_arrive_6 (by decide) ?_
  obtain ⟨m6, e7, h⟩ := mx_b h
  refine mx_put hx hb hts i_Lo t_Lo t_Lo_ok n_Lo hown hK hM hS e7 (ci := 3) (C := R_Lo) (T := T_Lo) (N := 12) rfl 11 (by decide) (hts _ wd_73) rfl (ty := .boolean) (by decide +kernel) rfl rfl d_Lo_arrive_7 (fun H locs hM hS => ?_)
  refine mx_aload_n hx hb d_Lo_arrive_10 rfl (lv_at hl 1 rfl) ?_
  obtain ⟨a11, e10, h⟩ := mx_b h
  obtain ⟨q8, e9, h⟩ := mx_b h
  have e12 := mx_c_eq e10
  refine W.eq (g2 := F0 m 11 ls [.ref a11]) (congrArg (fun z => F0 m 11 ls [va_rf z]) e12) ?_
  refine gq_go (va_runV (b := a11) (As := []) (rest := []) ⟨hx, hb, hml, hown, hts⟩ (c_Lo_isDirect l G a11  _ _ e9) (cwV 0 hts (gq_gV wd_75 wd_76 wd_77 wd_66 wd_74) rfl rfl rfl (by decide +kernel) ⟨Nat.le_trans (Nat.le_of_ble_eq_true rfl) hRf, Nat.le_trans (Nat.le_of_ble_eq_true rfl) hRl⟩) (gq_preV hK hN hM hS hb0 e10 (C := R_Lo) (T := T_Lo) (N := 12) rfl) rfl rfl hl.1 rfl (lv_room (Nat.le_of_ble_eq_true rfl)) d_Lo_arrive_11 ⟨(Nat.le_trans (Nat.le_of_ble_eq_true rfl) hRc), (Nat.le_trans (Nat.le_of_ble_eq_true rfl) hRs)⟩) hS (fun H locs hM hS => ?_)
  refine W.eq (g2 := F0 m 14 ls [.int q8.1]) rfl ?_
  refine lv_if_eq (tgt := 28) hx hb d_Lo_arrive_14 (by decide) (fun c13 => ?_) (fun c13 => ?_)
  · rw [if_pos c13] at h
    refine mx_aload_n hx hb d_Lo_arrive_28 rfl (lv_at hl 0 rfl) ?_
    refine mx_ifnull (tgt := 55) hx hb d_Lo_arrive_29 (by decide) (fun c14 => ?_) (fun c14 => ?_)
    · rw [if_pos c14] at h
      exact wfj_Lo_arrive_55 q CX _ _ _ h _ _ _ (lv_sub hl [1, 0] rfl) hM hS
    · rw [if_neg c14] at h
      refine mx_aload_n hx hb d_Lo_arrive_32 rfl (lv_at hl 0 rfl) ?_
      obtain ⟨x15, e16, h⟩ := mx_b h
      refine mx_getiN hx hb hts i_Op hown hK hM e16 (ci := 2) (C := R_Op) (T := T_Op) (N := 3) rfl 0 (by decide) (va_Nw.use rfl (hN _ nw_2)) d_Lo_arrive_33 ?_
      refine lv_iconst (v := 2) hx hb d_Lo_arrive_36 (by decide) ?_
      refine lv_icmp_ne (tgt := 55) hx hb d_Lo_arrive_37 (by decide) (fun c17 => ?_) (fun c17 => ?_)
      · rw [if_neg c17] at h
        exact wfj_Lo_arrive_55 q CX _ _ _ h _ _ _ (lv_sub hl [1, 0] rfl) hM hS
      · rw [if_pos c17] at h
        refine mx_aload_n hx hb d_Lo_arrive_40 rfl (lv_at hl 1 rfl) ?_
        refine mx_aload_n hx hb d_Lo_arrive_41 rfl (lv_at hl 1 rfl) ?_
        obtain ⟨x18, e19, h⟩ := mx_b h
        refine mx_getl hx hb hts i_Lo hown hK hM e19 (ci := 3) (C := R_Lo) (T := T_Lo) (N := 12) rfl 8 (by decide) (hts _ wd_61) d_Lo_arrive_42 ?_
        refine lv_ldc2 (v := 60) hx hb hown (hts _ wd_84) d_Lo_arrive_45 ?_
        refine lv_ladd hx hb d_Lo_arrive_48 ?_
        obtain ⟨m20, e21, h⟩ := mx_b h
        refine mx_put hx hb hts i_Lo t_Lo t_Lo_ok n_Lo hown hK hM hS e21 (ci := 3) (C := R_Lo) (T := T_Lo) (N := 12) rfl 9 (by decide) (hts _ wd_79) rfl (ty := .long) (by decide +kernel) rfl rfl d_Lo_arrive_49 (fun H locs hM hS => ?_)
        refine lv_goto (tgt := 108) hx hb d_Lo_arrive_52 (by decide) ?_
        cases h
        exact W.vret hx hb hr (fun t ht hW => ⟨⟨rfl, by rw [ht]; exact hM⟩, hS.F ht⟩) hS.2.2 d_Lo_arrive_108
  · rw [if_neg c13] at h
    refine mx_aload_n hx hb d_Lo_arrive_17 rfl (lv_at hl 1 rfl) ?_
    refine mx_aload_n hx hb d_Lo_arrive_18 rfl (lv_at hl 1 rfl) ?_
    obtain ⟨x14, e15, h⟩ := mx_b h
    refine mx_getl hx hb hts i_Lo hown hK hM e15 (ci := 3) (C := R_Lo) (T := T_Lo) (N := 12) rfl 8 (by decide) (hts _ wd_61) d_Lo_arrive_19 ?_
    obtain ⟨m16, e17, h⟩ := mx_b h
    refine mx_put hx hb hts i_Lo t_Lo t_Lo_ok n_Lo hown hK hM hS e17 (ci := 3) (C := R_Lo) (T := T_Lo) (N := 12) rfl 9 (by decide) (hts _ wd_79) rfl (ty := .long) (by decide +kernel) rfl rfl d_Lo_arrive_22 (fun H locs hM hS => ?_)
    refine lv_goto (tgt := 108) hx hb d_Lo_arrive_25 (by decide) ?_
    cases h
    exact W.vret hx hb hr (fun t ht hW => ⟨⟨rfl, by rw [ht]; exact hM⟩, hS.F ht⟩) hS.2.2 d_Lo_arrive_108
set_option maxHeartbeats 4000000 in
set_option maxRecDepth 100000 in
theorem wfl_LR_settle_2 {p : Program} {l : Launch} {e : Env} {R : Room} {s : State} {m : MethodId} {args : Array Value} {below : List Frame} {meth : Method} {c : Code} {G : mx_G} (q : mx_Mem) (CX : gq_C p R s m args meth c G b_LR_settle 2 none R_LR 3 0 0 59) {k0 : Option Nat → mx_Mem → Option (mx_Mem)} (hk0 : ∀ (v0 : Option Nat) (mem : mx_Mem), k0 v0 mem = some q → ∀ (H : Heap) (locs : List Loc) (ls : Array Slot), lv_has ls 2 [(0, va_rf v0)] → mx_M vwCl G mem H → va_S (mx_A G) s.heap H locs → W p l e R s m args below meth c H locs 0 0 (MQ below (gq_Q G none q) args s 0 0 (mx_A G)) (F0 m 25 ls [])) : ∀ (n : Nat) (v0 : Option Nat) (v1 : Int32) (mem : mx_Mem), fl_LR_settle_2 k0 n v0 v1 mem = some q → ∀ (H : Heap) (locs : List Loc) (ls : Array Slot), lv_has ls 2 [(0, va_rf v0), (1, .int v1)] → mx_M vwCl G mem H → va_S (mx_A G) s.heap H locs → W p l e R s m args below meth c H locs 0 0 (MQ below (gq_Q G none q) args s 0 0 (mx_A G)) (F0 m 2 ls []) := by
  obtain ⟨hx, hb, hml, hr, hown, hts, hlocks, hK, hN, hb0, hRf, hRc, hRs, hRl⟩ := id CX
  intro n
  induction n with
  | zero => intro v0 v1 mem h; rw [fl_LR_settle_2] at h; cases h
  | succ n ih =>
    intro v0 v1 mem h H locs ls hl hM hS
    rw [fl_LR_settle_2] at h
    refine lv_iload_n hx hb d_LR_settle_2 rfl (lv_at hl 1 rfl) ?_
    refine mx_aload_n hx hb d_LR_settle_3 rfl (lv_at hl 0 rfl) ?_
    obtain ⟨x1, e2, h⟩ := mx_b h
    refine mx_geti hx hb hts i_LR hown hK hM e2 (ci := 0) (C := R_LR) (T := T_LR) (N := 5) rfl 1 (by decide) (hts _ wd_8) d_LR_settle_4 ?_
    refine lv_icmp_ge (tgt := 25) hx hb d_LR_settle_7 (by decide) (fun c3 => ?_) (fun c3 => ?_)
    · rw [if_pos c3] at h
      exact hk0 _ _ h _ _ _ (lv_sub hl [0] rfl) hM hS
    · rw [if_neg c3] at h
      refine mx_aload_n hx hb d_LR_settle_10 rfl (lv_at hl 0 rfl) ?_
      obtain ⟨x4, e5, h⟩ := mx_b h
      refine mx_getr hx hb hts i_LR hown hK hM e5 (ci := 0) (C := R_LR) (T := T_LR) (N := 5) rfl 0 (by decide) (hts _ wd_4) d_LR_settle_11 ?_
      refine lv_iload_n hx hb d_LR_settle_14 rfl (lv_at hl 1 rfl) ?_
      obtain ⟨x6, e7, h⟩ := mx_b h
      refine mx_aald hx hb hK hM e7 rfl d_LR_settle_15 ?_
      obtain ⟨a11, e10, h⟩ := mx_b h
      obtain ⟨q8, e9, h⟩ := mx_b h
      have e12 := mx_c_eq e10
      refine W.eq (g2 := F0 m 16 ls [.ref a11]) (congrArg (fun z => F0 m 16 ls [va_rf z]) e12) ?_
      refine gq_go (va_runV (b := a11) (As := []) (rest := []) ⟨hx, hb, hml, hown, hts⟩ (c_Li_forgetWaiting l G a11  _ _ e9) (cwV 0 hts (gq_gV wd_86 wd_87 wd_88 wd_60 wd_85) rfl rfl rfl (by decide +kernel) ⟨Nat.le_trans (Nat.le_of_ble_eq_true rfl) hRf, Nat.le_trans (Nat.le_of_ble_eq_true rfl) hRl⟩) (gq_preV hK hN hM hS hb0 e10 (C := R_Li) (T := T_Li) (N := 8) rfl) rfl rfl hl.1 rfl (lv_room (Nat.le_of_ble_eq_true rfl)) d_LR_settle_16 ⟨(Nat.le_trans (Nat.le_of_ble_eq_true rfl) hRc), (Nat.le_trans (Nat.le_of_ble_eq_true rfl) hRs)⟩) hS (fun H locs hM hS => ?_)
      refine W.eq (g2 := F0 m 19 ls []) rfl ?_
      refine lv_iinc (v := (v1 + 1)) (lv' := [(1, .int ((v1 + 1))), (0, va_rf v0)]) hx hb d_LR_settle_19 hl (k := 1) rfl rfl (by decide) (by simp [mx_cat, mx_cati, mx_catl, mx_catr]) (fun ls hl => ?_)
      refine lv_goto (tgt := 2) hx hb d_LR_settle_22 (by decide) ?_
      exact ih _ _ _ h _ _ _ (lv_sub hl [1, 0] rfl) hM hS
set_option maxHeartbeats 4000000 in
set_option maxRecDepth 100000 in
theorem wfl_LR_settle_27 {p : Program} {l : Launch} {e : Env} {R : Room} {s : State} {m : MethodId} {args : Array Value} {below : List Frame} {meth : Method} {c : Code} {G : mx_G} (q : mx_Mem) (CX : gq_C p R s m args meth c G b_LR_settle 2 none R_LR 3 0 0 59) {k0 : Option Nat → mx_Mem → Option (mx_Mem)} (hk0 : ∀ (v0 : Option Nat) (mem : mx_Mem), k0 v0 mem = some q → ∀ (H : Heap) (locs : List Loc) (ls : Array Slot), lv_has ls 2 [(0, va_rf v0)] → mx_M vwCl G mem H → va_S (mx_A G) s.heap H locs → W p l e R s m args below meth c H locs 0 0 (MQ below (gq_Q G none q) args s 0 0 (mx_A G)) (F0 m 50 ls [])) : ∀ (n : Nat) (v0 : Option Nat) (v1 : Int32) (mem : mx_Mem), fl_LR_settle_27 k0 n v0 v1 mem = some q → ∀ (H : Heap) (locs : List Loc) (ls : Array Slot), lv_has ls 2 [(0, va_rf v0), (1, .int v1)] → mx_M vwCl G mem H → va_S (mx_A G) s.heap H locs → W p l e R s m args below meth c H locs 0 0 (MQ below (gq_Q G none q) args s 0 0 (mx_A G)) (F0 m 27 ls []) := by
  obtain ⟨hx, hb, hml, hr, hown, hts, hlocks, hK, hN, hb0, hRf, hRc, hRs, hRl⟩ := id CX
  intro n
  induction n with
  | zero => intro v0 v1 mem h; rw [fl_LR_settle_27] at h; cases h
  | succ n ih =>
    intro v0 v1 mem h H locs ls hl hM hS
    rw [fl_LR_settle_27] at h
    refine lv_iload_n hx hb d_LR_settle_27 rfl (lv_at hl 1 rfl) ?_
    refine mx_aload_n hx hb d_LR_settle_28 rfl (lv_at hl 0 rfl) ?_
    obtain ⟨x1, e2, h⟩ := mx_b h
    refine mx_geti hx hb hts i_LR hown hK hM e2 (ci := 0) (C := R_LR) (T := T_LR) (N := 5) rfl 4 (by decide) (hts _ wd_9) d_LR_settle_29 ?_
    refine lv_icmp_ge (tgt := 50) hx hb d_LR_settle_32 (by decide) (fun c3 => ?_) (fun c3 => ?_)
    · rw [if_pos c3] at h
      exact hk0 _ _ h _ _ _ (lv_sub hl [0] rfl) hM hS
    · rw [if_neg c3] at h
      refine mx_aload_n hx hb d_LR_settle_35 rfl (lv_at hl 0 rfl) ?_
      obtain ⟨x4, e5, h⟩ := mx_b h
      refine mx_getr hx hb hts i_LR hown hK hM e5 (ci := 0) (C := R_LR) (T := T_LR) (N := 5) rfl 3 (by decide) (hts _ wd_7) d_LR_settle_36 ?_
      refine lv_iload_n hx hb d_LR_settle_39 rfl (lv_at hl 1 rfl) ?_
      obtain ⟨x6, e7, h⟩ := mx_b h
      refine mx_aald hx hb hK hM e7 rfl d_LR_settle_40 ?_
      obtain ⟨a11, e10, h⟩ := mx_b h
      obtain ⟨q8, e9, h⟩ := mx_b h
      have e12 := mx_c_eq e10
      refine W.eq (g2 := F0 m 41 ls [.ref a11]) (congrArg (fun z => F0 m 41 ls [va_rf z]) e12) ?_
      refine gq_go (va_runV (b := a11) (As := []) (rest := []) ⟨hx, hb, hml, hown, hts⟩ (c_Lo_comeAndHold l G a11  _ _ e9) (cwV 0 hts (gq_gV wd_90 wd_91 wd_92 wd_66 wd_89) rfl rfl rfl (by decide +kernel) ⟨Nat.le_trans (Nat.le_of_ble_eq_true rfl) hRf, Nat.le_trans (Nat.le_of_ble_eq_true rfl) hRl⟩) (gq_preV hK hN hM hS hb0 e10 (C := R_Lo) (T := T_Lo) (N := 12) rfl) rfl rfl hl.1 rfl (lv_room (Nat.le_of_ble_eq_true rfl)) d_LR_settle_41 ⟨(Nat.le_trans (Nat.le_of_ble_eq_true rfl) hRc), (Nat.le_trans (Nat.le_of_ble_eq_true rfl) hRs)⟩) hS (fun H locs hM hS => ?_)
      refine W.eq (g2 := F0 m 44 ls []) rfl ?_
      refine lv_iinc (v := (v1 + 1)) (lv' := [(1, .int ((v1 + 1))), (0, va_rf v0)]) hx hb d_LR_settle_44 hl (k := 1) rfl rfl (by decide) (by simp [mx_cat, mx_cati, mx_catl, mx_catr]) (fun ls hl => ?_)
      refine lv_goto (tgt := 27) hx hb d_LR_settle_47 (by decide) ?_
      exact ih _ _ _ h _ _ _ (lv_sub hl [1, 0] rfl) hM hS
set_option maxHeartbeats 4000000 in
set_option maxRecDepth 100000 in
theorem wfl_LR_settle_52 {p : Program} {l : Launch} {e : Env} {R : Room} {s : State} {m : MethodId} {args : Array Value} {below : List Frame} {meth : Method} {c : Code} {G : mx_G} (q : mx_Mem) (CX : gq_C p R s m args meth c G b_LR_settle 2 none R_LR 3 0 0 59)  : ∀ (n : Nat) (v0 : Option Nat) (v1 : Int32) (mem : mx_Mem), fl_LR_settle_52  n v0 v1 mem = some q → ∀ (H : Heap) (locs : List Loc) (ls : Array Slot), lv_has ls 2 [(0, va_rf v0), (1, .int v1)] → mx_M vwCl G mem H → va_S (mx_A G) s.heap H locs → W p l e R s m args below meth c H locs 0 0 (MQ below (gq_Q G none q) args s 0 0 (mx_A G)) (F0 m 52 ls []) := by
  obtain ⟨hx, hb, hml, hr, hown, hts, hlocks, hK, hN, hb0, hRf, hRc, hRs, hRl⟩ := id CX
  intro n
  induction n with
  | zero => intro v0 v1 mem h; rw [fl_LR_settle_52] at h; cases h
  | succ n ih =>
    intro v0 v1 mem h H locs ls hl hM hS
    rw [fl_LR_settle_52] at h
    refine lv_iload_n hx hb d_LR_settle_52 rfl (lv_at hl 1 rfl) ?_
    refine mx_aload_n hx hb d_LR_settle_53 rfl (lv_at hl 0 rfl) ?_
    obtain ⟨x1, e2, h⟩ := mx_b h
    refine mx_geti hx hb hts i_LR hown hK hM e2 (ci := 0) (C := R_LR) (T := T_LR) (N := 5) rfl 4 (by decide) (hts _ wd_9) d_LR_settle_54 ?_
    refine lv_icmp_ge (tgt := 75) hx hb d_LR_settle_57 (by decide) (fun c3 => ?_) (fun c3 => ?_)
    · rw [if_pos c3] at h
      cases h
      exact W.vret hx hb hr (fun t ht hW => ⟨⟨rfl, by rw [ht]; exact hM⟩, hS.F ht⟩) hS.2.2 d_LR_settle_75
    · rw [if_neg c3] at h
      refine mx_aload_n hx hb d_LR_settle_60 rfl (lv_at hl 0 rfl) ?_
      obtain ⟨x4, e5, h⟩ := mx_b h
      refine mx_getr hx hb hts i_LR hown hK hM e5 (ci := 0) (C := R_LR) (T := T_LR) (N := 5) rfl 2 (by decide) (hts _ wd_6) d_LR_settle_61 ?_
      refine lv_iload_n hx hb d_LR_settle_64 rfl (lv_at hl 1 rfl) ?_
      obtain ⟨x6, e7, h⟩ := mx_b h
      refine mx_aald hx hb hK hM e7 rfl d_LR_settle_65 ?_
      obtain ⟨a11, e10, h⟩ := mx_b h
      obtain ⟨q8, e9, h⟩ := mx_b h
      have e12 := mx_c_eq e10
      refine W.eq (g2 := F0 m 66 ls [.ref a11]) (congrArg (fun z => F0 m 66 ls [va_rf z]) e12) ?_
      refine gq_go (va_runV (b := a11) (As := []) (rest := []) ⟨hx, hb, hml, hown, hts⟩ (c_Lo_arrive l G a11  _ _ e9) (cwV 0 hts (gq_gV wd_94 wd_95 wd_96 wd_66 wd_93) rfl rfl rfl (by decide +kernel) ⟨Nat.le_trans (Nat.le_of_ble_eq_true rfl) hRf, Nat.le_trans (Nat.le_of_ble_eq_true rfl) hRl⟩) (gq_preV hK hN hM hS hb0 e10 (C := R_Lo) (T := T_Lo) (N := 12) rfl) rfl rfl hl.1 rfl (lv_room (Nat.le_of_ble_eq_true rfl)) d_LR_settle_66 ⟨(Nat.le_trans (Nat.le_of_ble_eq_true rfl) hRc), (Nat.le_trans (Nat.le_of_ble_eq_true rfl) hRs)⟩) hS (fun H locs hM hS => ?_)
      refine W.eq (g2 := F0 m 69 ls []) rfl ?_
      refine lv_iinc (v := (v1 + 1)) (lv' := [(1, .int ((v1 + 1))), (0, va_rf v0)]) hx hb d_LR_settle_69 hl (k := 1) rfl rfl (by decide) (by simp [mx_cat, mx_cati, mx_catl, mx_catr]) (fun ls hl => ?_)
      refine lv_goto (tgt := 52) hx hb d_LR_settle_72 (by decide) ?_
      exact ih _ _ _ h _ _ _ (lv_sub hl [1, 0] rfl) hM hS
set_option maxHeartbeats 4000000 in
set_option maxRecDepth 100000 in
theorem c_LR_settle (l : Launch) (G : mx_G) (a0 : Nat) (mem : mx_Mem) (q : mx_Mem) (h : f_LR_settle a0 mem = some q) : Met l y_LR_settle (gq_w y_LR_settle b_LR_settle 2 none) { frames := 3, cells := 0, slots := 0, locals := 59 } (gq_P G [.ref a0] mem) (gq_Q G none q) 0 0 (mx_A G) := by
  refine Met.ofW (cc := b_LR_settle) (maxL := 2) (ret := none) (by decide) rfl ?_
  intro p e s m args below meth c s₁ B hml hv
  obtain ⟨rfl, hb0, hM, hK, hN⟩ := hv
  have CX : gq_C p (headSpec (gq_w y_LR_settle b_LR_settle 2 none) { frames := 3, cells := 0, slots := 0, locals := 59 }).room s m _ meth c G b_LR_settle 2 none R_LR 3 0 0 59 := ⟨B.exec, B.bytes, hml, B.returns, findClass_of_methodNamed B.named, fun w hw => atoms_spec (ws := gq_w y_LR_settle b_LR_settle 2 none) B.pre w (List.mem_cons_of_mem _ hw), B.notSynchronized, hK, hN, hb0, Nat.le_refl _, Nat.le_refl _, Nat.le_refl _, Nat.le_refl _⟩
  obtain ⟨hx, hb, hml, hr, hown, hts, hlocks, hK, hN, hb0, hRf, hRc, hRs, hRl⟩ := id CX
  have hS : va_S (mx_A G) s.heap s.heap [] := va_S.rf
  have hl := lv_entry [.ref a0] (n := 2) (Nat.le_of_ble_eq_true rfl)
  rw [lg_entry_eq]
  generalize (lg_sl [.ref a0] ++ List.replicate (2 - (lg_sl [.ref a0]).length) Slot.unset).toArray = ls at hl ⊢
  have hl : lv_has ls 2 [(0, va_rf (some a0))] := hl
  unfold f_LR_settle at h
  refine lv_iconst (v := 0) hx hb d_LR_settle_0 (by decide) ?_
  refine lv_istore_n (lv' := [(1, .int 0), (0, va_rf (some a0))]) hx hb d_LR_settle_1 rfl hl (by decide) (by simp [mx_cat, mx_cati, mx_catl, mx_catr]) (fun ls hl => ?_)
  refine wfl_LR_settle_2 q CX ?_ 5000 _ _ _ h _ _ _ (lv_sub hl [1, 0] rfl) hM hS
  · intro v0 m1 h H locs ls hl hM hS
    refine lv_iconst (v := 0) hx hb d_LR_settle_25 (by decide) ?_
    refine lv_istore_n (lv' := [(1, .int 0), (0, va_rf v0)]) hx hb d_LR_settle_26 rfl hl (by decide) (by simp [mx_cat, mx_cati, mx_catl, mx_catr]) (fun ls hl => ?_)
    refine wfl_LR_settle_27 q CX ?_ 5000 _ _ _ h _ _ _ (lv_sub hl [1, 0] rfl) hM hS
    · intro v0 m2 h H locs ls hl hM hS
      refine lv_iconst (v := 0) hx hb d_LR_settle_50 (by decide) ?_
      refine lv_istore_n (lv' := [(1, .int 0), (0, va_rf v0)]) hx hb d_LR_settle_51 rfl hl (by decide) (by simp [mx_cat, mx_cati, mx_catl, mx_catr]) (fun ls hl => ?_)
      refine wfl_LR_settle_52 q CX  5000 _ _ _ h _ _ _ (lv_sub hl [1, 0] rfl) hM hS
set_option maxHeartbeats 4000000 in
set_option maxRecDepth 100000 in
theorem c_LR_line (l : Launch) (G : mx_G) (a0 : Nat) (v1 : Int32) (v2 : Int32) (v3 : Int64) (v5 : Int64) (mem : mx_Mem) (q : Int32 × mx_Mem) (h : f_LR_line a0 v1 v2 v3 v5 mem = some q) : Met l y_LR_line (gq_w y_LR_line b_LR_line 7 (some .int)) { frames := 4, cells := 1, slots := 8, locals := 80 } (gq_P G [.ref a0, .int v1, .int v2, .long v3, .long v5] mem) (gq_Q G (some (.int q.1)) q.2) 1 8 (mx_A G) := by
  refine Met.ofW (cc := b_LR_line) (maxL := 7) (ret := (some .int)) (by decide) rfl ?_
  intro p e s m args below meth c s₁ B hml hv
  obtain ⟨rfl, hb0, hM, hK, hN⟩ := hv
  have CX : gq_C p (headSpec (gq_w y_LR_line b_LR_line 7 (some .int)) { frames := 4, cells := 1, slots := 8, locals := 80 }).room s m _ meth c G b_LR_line 7 (some .int) R_LR 4 1 8 80 := ⟨B.exec, B.bytes, hml, B.returns, findClass_of_methodNamed B.named, fun w hw => atoms_spec (ws := gq_w y_LR_line b_LR_line 7 (some .int)) B.pre w (List.mem_cons_of_mem _ hw), B.notSynchronized, hK, hN, hb0, Nat.le_refl _, Nat.le_refl _, Nat.le_refl _, Nat.le_refl _⟩
  obtain ⟨hx, hb, hml, hr, hown, hts, hlocks, hK, hN, hb0, hRf, hRc, hRs, hRl⟩ := id CX
  have hS : va_S (mx_A G) s.heap s.heap [] := va_S.rf
  have hl := lv_entry [.ref a0, .int v1, .int v2, .long v3, .long v5] (n := 7) (Nat.le_of_ble_eq_true rfl)
  rw [lg_entry_eq]
  generalize (lg_sl [.ref a0, .int v1, .int v2, .long v3, .long v5] ++ List.replicate (7 - (lg_sl [.ref a0, .int v1, .int v2, .long v3, .long v5]).length) Slot.unset).toArray = ls at hl ⊢
  have hl : lv_has ls 7 [(0, va_rf (some a0)), (1, .int v1), (2, .int v2), (3, .long v3), (5, .long v5)] := hl
  unfold f_LR_line at h
  refine lv_iload_n hx hb d_LR_line_0 rfl (lv_at hl 1 rfl) ?_
  obtain ⟨q1, e2, h⟩ := mx_b h
  refine gq_go (va_runS (As := [.int v1]) (rest := []) ⟨hx, hb, hml, hown, hts⟩ (c_LR_isPlace l G v1 _ _ e2) (cwS 1 hts (gq_gS wd_98 wd_99 wd_38 wd_97) rfl rfl rfl (by decide +kernel) ⟨Nat.le_trans (Nat.le_of_ble_eq_true rfl) hRf, Nat.le_trans (Nat.le_of_ble_eq_true rfl) hRl⟩) (gq_preS hK hN hM hS hb0) rfl rfl hl.1 rfl (lv_room (Nat.le_of_ble_eq_true rfl)) d_LR_line_1 ⟨(Nat.le_trans (Nat.le_of_ble_eq_true rfl) hRc), (Nat.le_trans (Nat.le_of_ble_eq_true rfl) hRs)⟩) hS (fun H locs hM hS => ?_)
  refine W.eq (g2 := F0 m 4 ls [.int q1.1]) rfl ?_
  refine lv_if_eq (tgt := 19) hx hb d_LR_line_4 (by decide) (fun c4 => ?_) (fun c4 => ?_)
  · rw [if_pos c4] at h
    refine lv_bipush (v := (-12)) hx hb d_LR_line_19 (by decide) ?_
    cases h
    refine W.widen (k := 1) (n := 8) (by decide) (by decide) ?_
    exact W.iret hx hb hr (fun t ht hW => ⟨⟨rfl, by rw [ht]; exact hM⟩, hS.F ht⟩) hS.2.2 d_LR_line_21
  · rw [if_neg c4] at h
    refine lv_iload_n hx hb d_LR_line_7 rfl (lv_at hl 2 rfl) ?_
    obtain ⟨q5, e6, h⟩ := mx_b h
    refine gq_go (va_runS (As := [.int v2]) (rest := []) ⟨hx, hb, hml, hown, hts⟩ (c_LR_isPlace l G v2 _ _ e6) (cwS 1 hts (gq_gS wd_98 wd_99 wd_38 wd_97) rfl rfl rfl (by decide +kernel) ⟨Nat.le_trans (Nat.le_of_ble_eq_true rfl) hRf, Nat.le_trans (Nat.le_of_ble_eq_true rfl) hRl⟩) (gq_preS hK hN hM hS hb0) rfl rfl hl.1 rfl (lv_room (Nat.le_of_ble_eq_true rfl)) d_LR_line_8 ⟨(Nat.le_trans (Nat.le_of_ble_eq_true rfl) hRc), (Nat.le_trans (Nat.le_of_ble_eq_true rfl) hRs)⟩) hS (fun H locs hM hS => ?_)
    refine W.eq (g2 := F0 m 11 ls [.int q5.1]) rfl ?_
    refine lv_if_eq (tgt := 19) hx hb d_LR_line_11 (by decide) (fun c8 => ?_) (fun c8 => ?_)
    · rw [if_pos c8] at h
      refine lv_bipush (v := (-12)) hx hb d_LR_line_19 (by decide) ?_
      cases h
      refine W.widen (k := 1) (n := 8) (by decide) (by decide) ?_
      exact W.iret hx hb hr (fun t ht hW => ⟨⟨rfl, by rw [ht]; exact hM⟩, hS.F ht⟩) hS.2.2 d_LR_line_21
    · rw [if_neg c8] at h
      refine lv_iload_n hx hb d_LR_line_14 rfl (lv_at hl 1 rfl) ?_
      refine lv_iload_n hx hb d_LR_line_15 rfl (lv_at hl 2 rfl) ?_
      refine lv_icmp_ne (tgt := 22) hx hb d_LR_line_16 (by decide) (fun c9 => ?_) (fun c9 => ?_)
      · rw [if_neg c9] at h
        refine lv_lload_n hx hb d_LR_line_22 rfl (lv_at hl 3 rfl) ?_
        refine lv_lconst (v := 0) hx hb d_LR_line_23 (by decide) ?_
        refine lv_ldc2 (v := 10000) hx hb hown (hts _ wd_100) d_LR_line_24 ?_
        obtain ⟨q10, e11, h⟩ := mx_b h
        refine gq_go (va_runS (As := [.long v3, .long 0, .long 10000]) (rest := []) ⟨hx, hb, hml, hown, hts⟩ (c_LR_isWithin l G v3 0 10000 _ _ e11) (cwS 3 hts (gq_gS wd_36 wd_37 wd_38 wd_35) rfl rfl rfl (by decide +kernel) ⟨Nat.le_trans (Nat.le_of_ble_eq_true rfl) hRf, Nat.le_trans (Nat.le_of_ble_eq_true rfl) hRl⟩) (gq_preS hK hN hM hS hb0) rfl rfl hl.1 rfl (lv_room (Nat.le_of_ble_eq_true rfl)) d_LR_line_27 ⟨(Nat.le_trans (Nat.le_of_ble_eq_true rfl) hRc), (Nat.le_trans (Nat.le_of_ble_eq_true rfl) hRs)⟩) hS (fun H locs hM hS => ?_)
        refine W.eq (g2 := F0 m 30 ls [.int q10.1]) rfl ?_
        refine lv_if_eq (tgt := 52) hx hb d_LR_line_30 (by decide) (fun c13 => ?_) (fun c13 => ?_)
        · rw [if_pos c13] at h
          refine lv_bipush (v := (-12)) hx hb d_LR_line_52 (by decide) ?_
          cases h
          refine W.widen (k := 1) (n := 8) (by decide) (by decide) ?_
          exact W.iret hx hb hr (fun t ht hW => ⟨⟨rfl, by rw [ht]; exact hM⟩, hS.F ht⟩) hS.2.2 d_LR_line_54
        · rw [if_neg c13] at h
          refine lv_lload hx hb d_LR_line_33 (lv_at hl 4 rfl) ?_
          refine lv_lconst (v := 0) hx hb d_LR_line_35 (by decide) ?_
          refine lv_ldc2 (v := 10000) hx hb hown (hts _ wd_100) d_LR_line_36 ?_
          obtain ⟨q14, e15, h⟩ := mx_b h
          refine gq_go (va_runS (As := [.long v5, .long 0, .long 10000]) (rest := []) ⟨hx, hb, hml, hown, hts⟩ (c_LR_isWithin l G v5 0 10000 _ _ e15) (cwS 3 hts (gq_gS wd_36 wd_37 wd_38 wd_35) rfl rfl rfl (by decide +kernel) ⟨Nat.le_trans (Nat.le_of_ble_eq_true rfl) hRf, Nat.le_trans (Nat.le_of_ble_eq_true rfl) hRl⟩) (gq_preS hK hN hM hS hb0) rfl rfl hl.1 rfl (lv_room (Nat.le_of_ble_eq_true rfl)) d_LR_line_39 ⟨(Nat.le_trans (Nat.le_of_ble_eq_true rfl) hRc), (Nat.le_trans (Nat.le_of_ble_eq_true rfl) hRs)⟩) hS (fun H locs hM hS => ?_)
          refine W.eq (g2 := F0 m 42 ls [.int q14.1]) rfl ?_
          refine lv_if_eq (tgt := 52) hx hb d_LR_line_42 (by decide) (fun c17 => ?_) (fun c17 => ?_)
          · rw [if_pos c17] at h
            refine lv_bipush (v := (-12)) hx hb d_LR_line_52 (by decide) ?_
            cases h
            refine W.widen (k := 1) (n := 8) (by decide) (by decide) ?_
            exact W.iret hx hb hr (fun t ht hW => ⟨⟨rfl, by rw [ht]; exact hM⟩, hS.F ht⟩) hS.2.2 d_LR_line_54
          · rw [if_neg c17] at h
            refine lv_lload hx hb d_LR_line_45 (lv_at hl 4 rfl) ?_
            refine lv_lload_n hx hb d_LR_line_47 rfl (lv_at hl 3 rfl) ?_
            refine mx_lcmp_gt (tgt := 55) hx hb d_LR_line_48 d_LR_line_49 (by decide) (fun c18 => ?_) (fun c18 => ?_)
            · rw [if_pos c18] at h
              refine mx_aload_n hx hb d_LR_line_55 rfl (lv_at hl 0 rfl) ?_
              obtain ⟨x19, e20, h⟩ := mx_b h
              refine mx_geti hx hb hts i_LR hown hK hM e20 (ci := 0) (C := R_LR) (T := T_LR) (N := 5) rfl 1 (by decide) (hts _ wd_8) d_LR_line_56 ?_
              refine mx_aload_n hx hb d_LR_line_59 rfl (lv_at hl 0 rfl) ?_
              obtain ⟨x21, e22, h⟩ := mx_b h
              refine mx_getr hx hb hts i_LR hown hK hM e22 (ci := 0) (C := R_LR) (T := T_LR) (N := 5) rfl 0 (by decide) (hts _ wd_4) d_LR_line_60 ?_
              obtain ⟨x23, e24, h⟩ := mx_b h
              refine mx_alen hx hb hK hM e24 rfl d_LR_line_63 ?_
              refine lv_icmp_lt (tgt := 70) hx hb d_LR_line_64 (by decide) (fun c25 => ?_) (fun c25 => ?_)
              · rw [if_pos c25] at h
                refine mx_aload_n hx hb d_LR_line_70 rfl (lv_at hl 0 rfl) ?_
                obtain ⟨x26, e27, h⟩ := mx_b h
                refine mx_getr hx hb hts i_LR hown hK hM e27 (ci := 0) (C := R_LR) (T := T_LR) (N := 5) rfl 0 (by decide) (hts _ wd_4) d_LR_line_71 ?_
                refine mx_aload_n hx hb d_LR_line_74 rfl (lv_at hl 0 rfl) ?_
                obtain ⟨x28, e29, h⟩ := mx_b h
                refine mx_geti hx hb hts i_LR hown hK hM e29 (ci := 0) (C := R_LR) (T := T_LR) (N := 5) rfl 1 (by decide) (hts _ wd_8) d_LR_line_75 ?_
                obtain ⟨m30, e31, h⟩ := mx_b h
                refine mx_new (ci := 1) (fs := [.int 0, .int 0, .int 0, .long 0, .long 0, .long 0, .long 0, .long 0]) (C := R_Li) (T := T_Li) (N := 8) hx hb hts i_Li t_Li t_Li_ok hown (hts _ wd_3) (hts _ wd_101) (hts _ wd_60) hK hM hS hb0 rfl (fun j hj => by rcases (show j = 0 ∨ j = 1 ∨ j = 2 ∨ j = 3 ∨ j = 4 ∨ j = 5 ∨ j = 6 ∨ j = 7 by omega) with rfl | rfl | rfl | rfl | rfl | rfl | rfl | rfl <;> rfl) e31 d_LR_line_78 (Nat.le_trans (Nat.le_of_ble_eq_true rfl) hRc) (Nat.le_trans (Nat.le_of_ble_eq_true rfl) hRs) (fun H hM hS => ?_)
                refine W.widen (k := 1) (n := 8) (by decide) (by decide) ?_
                refine lv_dup hx hb d_LR_line_81 (mx_cat _) ?_
                refine mx_aload_n hx hb d_LR_line_82 rfl (lv_at hl 0 rfl) ?_
                obtain ⟨x32, e33, h⟩ := mx_b h
                refine mx_geti hx hb hts i_LR hown hK hM e33 (ci := 0) (C := R_LR) (T := T_LR) (N := 5) rfl 1 (by decide) (hts _ wd_8) d_LR_line_83 ?_
                refine lv_iconst (v := 1) hx hb d_LR_line_86 (by decide) ?_
                refine lv_iadd hx hb d_LR_line_87 ?_
                refine lv_iload_n hx hb d_LR_line_88 rfl (lv_at hl 1 rfl) ?_
                refine lv_iload_n hx hb d_LR_line_89 rfl (lv_at hl 2 rfl) ?_
                refine lv_lload_n hx hb d_LR_line_90 rfl (lv_at hl 3 rfl) ?_
                refine lv_lload hx hb d_LR_line_91 (lv_at hl 4 rfl) ?_
                obtain ⟨q34, e35, h⟩ := mx_b h
                refine gq_go (va_runI (b := (q14.2).1) (As := [.int ((x32 + 1)), .int v1, .int v2, .long v3, .long v5]) (rest := [va_rf (some (q14.2).1), .int x28, va_rf x26]) ⟨hx, hb, hml, hown, hts⟩ (c_Li_init l G ((q14.2).1) (x32 + 1) v1 v2 v3 v5 _ _ e35) (cwI 5 hts (gq_gI wd_102) rfl rfl rfl (hts _ wd_60) (hts _ wd_103) (hts _ wd_104) rfl (by decide +kernel) ⟨Nat.le_trans (Nat.le_of_ble_eq_true rfl) hRf, Nat.le_trans (Nat.le_of_ble_eq_true rfl) hRl⟩) (gq_preS hK hN hM hS hb0) rfl rfl hl.1 rfl (lv_room (by simp [mx_cat, mx_cati, mx_catl, mx_catr])) d_LR_line_93 ⟨(Nat.le_trans (Nat.le_of_ble_eq_true rfl) hRc), (Nat.le_trans (Nat.le_of_ble_eq_true rfl) hRs)⟩) hS (fun H locs hM hS => ?_)
                refine W.eq (g2 := F0 m 96 ls [va_rf (some (q14.2).1), .int x28, va_rf x26]) rfl ?_
                obtain ⟨_, e37, h⟩ := mx_b h
                obtain ⟨m39, e38, h⟩ := mx_b h
                refine mx_aast hx hb hK hM hS e37 e38 rfl rfl d_LR_line_96 (fun H locs hM hS => ?_)
                refine mx_aload_n hx hb d_LR_line_97 rfl (lv_at hl 0 rfl) ?_
                refine lv_dup hx hb d_LR_line_98 (mx_cat _) ?_
                obtain ⟨x40, e41, h⟩ := mx_b h
                refine mx_geti hx hb hts i_LR hown hK hM e41 (ci := 0) (C := R_LR) (T := T_LR) (N := 5) rfl 1 (by decide) (hts _ wd_8) d_LR_line_99 ?_
                refine lv_iconst (v := 1) hx hb d_LR_line_102 (by decide) ?_
                refine lv_iadd hx hb d_LR_line_103 ?_
                obtain ⟨m42, e43, h⟩ := mx_b h
                refine mx_put hx hb hts i_LR t_LR t_LR_ok n_LR hown hK hM hS e43 (ci := 0) (C := R_LR) (T := T_LR) (N := 5) rfl 1 (by decide) (hts _ wd_8) rfl (ty := .int) (by decide +kernel) rfl rfl d_LR_line_104 (fun H locs hM hS => ?_)
                refine mx_aload_n hx hb d_LR_line_107 rfl (lv_at hl 0 rfl) ?_
                obtain ⟨a47, e46, h⟩ := mx_b h
                obtain ⟨q44, e45, h⟩ := mx_b h
                have e48 := mx_c_eq e46
                refine W.eq (g2 := F0 m 108 ls [.ref a47]) (congrArg (fun z => F0 m 108 ls [va_rf z]) e48) ?_
                refine gq_go (va_runV (b := a47) (As := []) (rest := []) ⟨hx, hb, hml, hown, hts⟩ (c_LR_settle l G a47  _ _ e45) (cwV 0 hts (gq_gV wd_106 wd_107 wd_108 wd_38 wd_105) rfl rfl rfl (by decide +kernel) ⟨Nat.le_trans (Nat.le_of_ble_eq_true rfl) hRf, Nat.le_trans (Nat.le_of_ble_eq_true rfl) hRl⟩) (gq_preV hK hN hM hS hb0 e46 (C := R_LR) (T := T_LR) (N := 5) rfl) rfl rfl hl.1 rfl (lv_room (Nat.le_of_ble_eq_true rfl)) d_LR_line_108 ⟨(Nat.le_trans (Nat.le_of_ble_eq_true rfl) hRc), (Nat.le_trans (Nat.le_of_ble_eq_true rfl) hRs)⟩) hS (fun H locs hM hS => ?_)
                refine W.eq (g2 := F0 m 111 ls []) rfl ?_
                refine mx_aload_n hx hb d_LR_line_111 rfl (lv_at hl 0 rfl) ?_
                obtain ⟨x49, e50, h⟩ := mx_b h
                refine mx_geti hx hb hts i_LR hown hK hM e50 (ci := 0) (C := R_LR) (T := T_LR) (N := 5) rfl 1 (by decide) (hts _ wd_8) d_LR_line_112 ?_
                cases h
                exact W.iret hx hb hr (fun t ht hW => ⟨⟨rfl, by rw [ht]; exact hM⟩, hS.F ht⟩) hS.2.2 d_LR_line_115
              · rw [if_neg c25] at h
                refine lv_bipush (v := (-14)) hx hb d_LR_line_67 (by decide) ?_
                cases h
                refine W.widen (k := 1) (n := 8) (by decide) (by decide) ?_
                exact W.iret hx hb hr (fun t ht hW => ⟨⟨rfl, by rw [ht]; exact hM⟩, hS.F ht⟩) hS.2.2 d_LR_line_69
            · rw [if_neg c18] at h
              refine lv_bipush (v := (-12)) hx hb d_LR_line_52 (by decide) ?_
              cases h
              refine W.widen (k := 1) (n := 8) (by decide) (by decide) ?_
              exact W.iret hx hb hr (fun t ht hW => ⟨⟨rfl, by rw [ht]; exact hM⟩, hS.F ht⟩) hS.2.2 d_LR_line_54
      · rw [if_pos c9] at h
        refine lv_bipush (v := (-12)) hx hb d_LR_line_19 (by decide) ?_
        cases h
        refine W.widen (k := 1) (n := 8) (by decide) (by decide) ?_
        exact W.iret hx hb hr (fun t ht hW => ⟨⟨rfl, by rw [ht]; exact hM⟩, hS.F ht⟩) hS.2.2 d_LR_line_21
set_option maxHeartbeats 4000000 in
set_option maxRecDepth 100000 in
theorem c_Mo_in (l : Launch) (G : mx_G) (v0 : Int64) (v2 : Int64) (v4 : Int64) (mem : mx_Mem) (q : Int32 × mx_Mem) (h : f_Mo_in v0 v2 v4 mem = some q) : Met l y_Mo_in (gq_w y_Mo_in b_Mo_in 6 (some .boolean)) { frames := 0, cells := 0, slots := 0, locals := 0 } (gq_P G [.long v0, .long v2, .long v4] mem) (gq_Q G (some (.int q.1)) q.2) 0 0 (mx_A G) := by
  refine Met.ofW (cc := b_Mo_in) (maxL := 6) (ret := (some .boolean)) (by decide) rfl ?_
  intro p e s m args below meth c s₁ B hml hv
  obtain ⟨rfl, hb0, hM, hK, hN⟩ := hv
  have CX : gq_C p (headSpec (gq_w y_Mo_in b_Mo_in 6 (some .boolean)) { frames := 0, cells := 0, slots := 0, locals := 0 }).room s m _ meth c G b_Mo_in 6 (some .boolean) R_Mo 0 0 0 0 := ⟨B.exec, B.bytes, hml, B.returns, findClass_of_methodNamed B.named, fun w hw => atoms_spec (ws := gq_w y_Mo_in b_Mo_in 6 (some .boolean)) B.pre w (List.mem_cons_of_mem _ hw), B.notSynchronized, hK, hN, hb0, Nat.le_refl _, Nat.le_refl _, Nat.le_refl _, Nat.le_refl _⟩
  obtain ⟨hx, hb, hml, hr, hown, hts, hlocks, hK, hN, hb0, hRf, hRc, hRs, hRl⟩ := id CX
  have hS : va_S (mx_A G) s.heap s.heap [] := va_S.rf
  have hl := lv_entry [.long v0, .long v2, .long v4] (n := 6) (Nat.le_of_ble_eq_true rfl)
  rw [lg_entry_eq]
  generalize (lg_sl [.long v0, .long v2, .long v4] ++ List.replicate (6 - (lg_sl [.long v0, .long v2, .long v4]).length) Slot.unset).toArray = ls at hl ⊢
  have hl : lv_has ls 6 [(0, .long v0), (2, .long v2), (4, .long v4)] := hl
  unfold f_Mo_in at h
  refine lv_lload_n hx hb d_Mo_in_0 rfl (lv_at hl 0 rfl) ?_
  refine lv_lload_n hx hb d_Mo_in_1 rfl (lv_at hl 1 rfl) ?_
  refine mx_lcmp_lt (tgt := 17) hx hb d_Mo_in_2 d_Mo_in_3 (by decide) (fun c1 => ?_) (fun c1 => ?_)
  · rw [if_pos c1] at h
    refine lv_iconst (v := 0) hx hb d_Mo_in_17 (by decide) ?_
    cases h
    exact W.zret hx hb hr rfl (fun t ht hW => ⟨⟨rfl, by rw [ht]; exact hM⟩, hS.F ht⟩) hS.2.2 d_Mo_in_18
  · rw [if_neg c1] at h
    refine lv_lload_n hx hb d_Mo_in_6 rfl (lv_at hl 0 rfl) ?_
    refine lv_lload hx hb d_Mo_in_7 (lv_at hl 2 rfl) ?_
    refine mx_lcmp_gt (tgt := 17) hx hb d_Mo_in_9 d_Mo_in_10 (by decide) (fun c2 => ?_) (fun c2 => ?_)
    · rw [if_pos c2] at h
      refine lv_iconst (v := 0) hx hb d_Mo_in_17 (by decide) ?_
      cases h
      exact W.zret hx hb hr rfl (fun t ht hW => ⟨⟨rfl, by rw [ht]; exact hM⟩, hS.F ht⟩) hS.2.2 d_Mo_in_18
    · rw [if_neg c2] at h
      refine lv_iconst (v := 1) hx hb d_Mo_in_13 (by decide) ?_
      refine lv_goto (tgt := 18) hx hb d_Mo_in_14 (by decide) ?_
      cases h
      exact W.zret hx hb hr rfl (fun t ht hW => ⟨⟨rfl, by rw [ht]; exact hM⟩, hS.F ht⟩) hS.2.2 d_Mo_in_18
set_option maxHeartbeats 4000000 in
set_option maxRecDepth 100000 in
theorem c_Mo_line (l : Launch) (G : mx_G) (a0 : Nat) (v1 : Int32) (v2 : Int32) (v3 : Int64) (v5 : Int64) (mem : mx_Mem) (q : Int32 × mx_Mem) (h : f_Mo_line a0 v1 v2 v3 v5 mem = some q) : Met l y_Mo_line (gq_w y_Mo_line b_Mo_line 7 (some .int)) { frames := 1, cells := 0, slots := 0, locals := 25 } (gq_P G [.ref a0, .int v1, .int v2, .long v3, .long v5] mem) (gq_Q G (some (.int q.1)) q.2) 0 0 (mx_A G) := by
  refine Met.ofW (cc := b_Mo_line) (maxL := 7) (ret := (some .int)) (by decide) rfl ?_
  intro p e s m args below meth c s₁ B hml hv
  obtain ⟨rfl, hb0, hM, hK, hN⟩ := hv
  have CX : gq_C p (headSpec (gq_w y_Mo_line b_Mo_line 7 (some .int)) { frames := 1, cells := 0, slots := 0, locals := 25 }).room s m _ meth c G b_Mo_line 7 (some .int) R_Mo 1 0 0 25 := ⟨B.exec, B.bytes, hml, B.returns, findClass_of_methodNamed B.named, fun w hw => atoms_spec (ws := gq_w y_Mo_line b_Mo_line 7 (some .int)) B.pre w (List.mem_cons_of_mem _ hw), B.notSynchronized, hK, hN, hb0, Nat.le_refl _, Nat.le_refl _, Nat.le_refl _, Nat.le_refl _⟩
  obtain ⟨hx, hb, hml, hr, hown, hts, hlocks, hK, hN, hb0, hRf, hRc, hRs, hRl⟩ := id CX
  have hS : va_S (mx_A G) s.heap s.heap [] := va_S.rf
  have hl := lv_entry [.ref a0, .int v1, .int v2, .long v3, .long v5] (n := 7) (Nat.le_of_ble_eq_true rfl)
  rw [lg_entry_eq]
  generalize (lg_sl [.ref a0, .int v1, .int v2, .long v3, .long v5] ++ List.replicate (7 - (lg_sl [.ref a0, .int v1, .int v2, .long v3, .long v5]).length) Slot.unset).toArray = ls at hl ⊢
  have hl : lv_has ls 7 [(0, va_rf (some a0)), (1, .int v1), (2, .int v2), (3, .long v3), (5, .long v5)] := hl
  unfold f_Mo_line at h
  refine mx_aload_n hx hb d_Mo_line_0 rfl (lv_at hl 0 rfl) ?_
  refine lv_iconst (v := 0) hx hb d_Mo_line_1 (by decide) ?_
  obtain ⟨m1, e2, h⟩ := mx_b h
  refine mx_put hx hb hts i_Mo t_Mo t_Mo_ok n_Mo hown hK hM hS e2 (ci := 4) (C := R_Mo) (T := T_Mo) (N := 23) rfl 0 (by decide) (hts _ wd_109) rfl (ty := .int) (by decide +kernel) rfl rfl d_Mo_line_2 (fun H locs hM hS => ?_)
  refine lv_iload_n hx hb d_Mo_line_5 rfl (lv_at hl 1 rfl) ?_
  refine lv_i2l hx hb d_Mo_line_6 rfl ?_
  refine lv_lconst (v := 0) hx hb d_Mo_line_7 (by decide) ?_
  refine lv_ldc2 (v := 9) hx hb hown (hts _ wd_110) d_Mo_line_8 ?_
  obtain ⟨q3, e4, h⟩ := mx_b h
  refine gq_go (va_runS (As := [.long v1.toInt64, .long 0, .long 9]) (rest := []) ⟨hx, hb, hml, hown, hts⟩ (c_Mo_in l G v1.toInt64 0 9 _ _ e4) (cwS 3 hts (gq_gS wd_112 wd_113 wd_114 wd_111) rfl rfl rfl (by decide +kernel) ⟨Nat.le_trans (Nat.le_of_ble_eq_true rfl) hRf, Nat.le_trans (Nat.le_of_ble_eq_true rfl) hRl⟩) (gq_preS hK hN hM hS hb0) rfl rfl hl.1 rfl (lv_room (Nat.le_of_ble_eq_true rfl)) d_Mo_line_11 ⟨(Nat.le_trans (Nat.le_of_ble_eq_true rfl) hRc), (Nat.le_trans (Nat.le_of_ble_eq_true rfl) hRs)⟩) hS (fun H locs hM hS => ?_)
  refine W.eq (g2 := F0 m 14 ls [.int q3.1]) rfl ?_
  refine lv_if_eq (tgt := 64) hx hb d_Mo_line_14 (by decide) (fun c6 => ?_) (fun c6 => ?_)
  · rw [if_pos c6] at h
    refine lv_bipush (v := (-12)) hx hb d_Mo_line_64 (by decide) ?_
    cases h
    exact W.iret hx hb hr (fun t ht hW => ⟨⟨rfl, by rw [ht]; exact hM⟩, hS.F ht⟩) hS.2.2 d_Mo_line_66
  · rw [if_neg c6] at h
    refine lv_iload_n hx hb d_Mo_line_17 rfl (lv_at hl 2 rfl) ?_
    refine lv_i2l hx hb d_Mo_line_18 rfl ?_
    refine lv_lconst (v := 0) hx hb d_Mo_line_19 (by decide) ?_
    refine lv_ldc2 (v := 9) hx hb hown (hts _ wd_110) d_Mo_line_20 ?_
    obtain ⟨q7, e8, h⟩ := mx_b h
    refine gq_go (va_runS (As := [.long v2.toInt64, .long 0, .long 9]) (rest := []) ⟨hx, hb, hml, hown, hts⟩ (c_Mo_in l G v2.toInt64 0 9 _ _ e8) (cwS 3 hts (gq_gS wd_112 wd_113 wd_114 wd_111) rfl rfl rfl (by decide +kernel) ⟨Nat.le_trans (Nat.le_of_ble_eq_true rfl) hRf, Nat.le_trans (Nat.le_of_ble_eq_true rfl) hRl⟩) (gq_preS hK hN hM hS hb0) rfl rfl hl.1 rfl (lv_room (Nat.le_of_ble_eq_true rfl)) d_Mo_line_23 ⟨(Nat.le_trans (Nat.le_of_ble_eq_true rfl) hRc), (Nat.le_trans (Nat.le_of_ble_eq_true rfl) hRs)⟩) hS (fun H locs hM hS => ?_)
    refine W.eq (g2 := F0 m 26 ls [.int q7.1]) rfl ?_
    refine lv_if_eq (tgt := 64) hx hb d_Mo_line_26 (by decide) (fun c10 => ?_) (fun c10 => ?_)
    · rw [if_pos c10] at h
      refine lv_bipush (v := (-12)) hx hb d_Mo_line_64 (by decide) ?_
      cases h
      exact W.iret hx hb hr (fun t ht hW => ⟨⟨rfl, by rw [ht]; exact hM⟩, hS.F ht⟩) hS.2.2 d_Mo_line_66
    · rw [if_neg c10] at h
      refine lv_iload_n hx hb d_Mo_line_29 rfl (lv_at hl 1 rfl) ?_
      refine lv_iload_n hx hb d_Mo_line_30 rfl (lv_at hl 2 rfl) ?_
      refine lv_icmp_eq (tgt := 64) hx hb d_Mo_line_31 (by decide) (fun c11 => ?_) (fun c11 => ?_)
      · rw [if_pos c11] at h
        refine lv_bipush (v := (-12)) hx hb d_Mo_line_64 (by decide) ?_
        cases h
        exact W.iret hx hb hr (fun t ht hW => ⟨⟨rfl, by rw [ht]; exact hM⟩, hS.F ht⟩) hS.2.2 d_Mo_line_66
      · rw [if_neg c11] at h
        refine lv_lload_n hx hb d_Mo_line_34 rfl (lv_at hl 3 rfl) ?_
        refine lv_lconst (v := 0) hx hb d_Mo_line_35 (by decide) ?_
        refine lv_ldc2 (v := 10000) hx hb hown (hts _ wd_115) d_Mo_line_36 ?_
        obtain ⟨q12, e13, h⟩ := mx_b h
        refine gq_go (va_runS (As := [.long v3, .long 0, .long 10000]) (rest := []) ⟨hx, hb, hml, hown, hts⟩ (c_Mo_in l G v3 0 10000 _ _ e13) (cwS 3 hts (gq_gS wd_112 wd_113 wd_114 wd_111) rfl rfl rfl (by decide +kernel) ⟨Nat.le_trans (Nat.le_of_ble_eq_true rfl) hRf, Nat.le_trans (Nat.le_of_ble_eq_true rfl) hRl⟩) (gq_preS hK hN hM hS hb0) rfl rfl hl.1 rfl (lv_room (Nat.le_of_ble_eq_true rfl)) d_Mo_line_39 ⟨(Nat.le_trans (Nat.le_of_ble_eq_true rfl) hRc), (Nat.le_trans (Nat.le_of_ble_eq_true rfl) hRs)⟩) hS (fun H locs hM hS => ?_)
        refine W.eq (g2 := F0 m 42 ls [.int q12.1]) rfl ?_
        refine lv_if_eq (tgt := 64) hx hb d_Mo_line_42 (by decide) (fun c15 => ?_) (fun c15 => ?_)
        · rw [if_pos c15] at h
          refine lv_bipush (v := (-12)) hx hb d_Mo_line_64 (by decide) ?_
          cases h
          exact W.iret hx hb hr (fun t ht hW => ⟨⟨rfl, by rw [ht]; exact hM⟩, hS.F ht⟩) hS.2.2 d_Mo_line_66
        · rw [if_neg c15] at h
          refine lv_lload hx hb d_Mo_line_45 (lv_at hl 4 rfl) ?_
          refine lv_lconst (v := 0) hx hb d_Mo_line_47 (by decide) ?_
          refine lv_ldc2 (v := 10000) hx hb hown (hts _ wd_115) d_Mo_line_48 ?_
          obtain ⟨q16, e17, h⟩ := mx_b h
          refine gq_go (va_runS (As := [.long v5, .long 0, .long 10000]) (rest := []) ⟨hx, hb, hml, hown, hts⟩ (c_Mo_in l G v5 0 10000 _ _ e17) (cwS 3 hts (gq_gS wd_112 wd_113 wd_114 wd_111) rfl rfl rfl (by decide +kernel) ⟨Nat.le_trans (Nat.le_of_ble_eq_true rfl) hRf, Nat.le_trans (Nat.le_of_ble_eq_true rfl) hRl⟩) (gq_preS hK hN hM hS hb0) rfl rfl hl.1 rfl (lv_room (Nat.le_of_ble_eq_true rfl)) d_Mo_line_51 ⟨(Nat.le_trans (Nat.le_of_ble_eq_true rfl) hRc), (Nat.le_trans (Nat.le_of_ble_eq_true rfl) hRs)⟩) hS (fun H locs hM hS => ?_)
          refine W.eq (g2 := F0 m 54 ls [.int q16.1]) rfl ?_
          refine lv_if_eq (tgt := 64) hx hb d_Mo_line_54 (by decide) (fun c19 => ?_) (fun c19 => ?_)
          · rw [if_pos c19] at h
            refine lv_bipush (v := (-12)) hx hb d_Mo_line_64 (by decide) ?_
            cases h
            exact W.iret hx hb hr (fun t ht hW => ⟨⟨rfl, by rw [ht]; exact hM⟩, hS.F ht⟩) hS.2.2 d_Mo_line_66
          · rw [if_neg c19] at h
            refine lv_lload hx hb d_Mo_line_57 (lv_at hl 4 rfl) ?_
            refine lv_lload_n hx hb d_Mo_line_59 rfl (lv_at hl 3 rfl) ?_
            refine mx_lcmp_gt (tgt := 67) hx hb d_Mo_line_60 d_Mo_line_61 (by decide) (fun c20 => ?_) (fun c20 => ?_)
            · rw [if_pos c20] at h
              refine mx_aload_n hx hb d_Mo_line_67 rfl (lv_at hl 0 rfl) ?_
              obtain ⟨x21, e22, h⟩ := mx_b h
              refine mx_geti hx hb hts i_Mo hown hK hM e22 (ci := 4) (C := R_Mo) (T := T_Mo) (N := 23) rfl 1 (by decide) (hts _ wd_116) d_Mo_line_68 ?_
              refine lv_bipush (v := 12) hx hb d_Mo_line_71 (by decide) ?_
              refine lv_icmp_ne (tgt := 79) hx hb d_Mo_line_73 (by decide) (fun c23 => ?_) (fun c23 => ?_)
              · rw [if_neg c23] at h
                refine mx_aload_n hx hb d_Mo_line_79 rfl (lv_at hl 0 rfl) ?_
                refine lv_dup hx hb d_Mo_line_80 (mx_cat _) ?_
                obtain ⟨x24, e25, h⟩ := mx_b h
                refine mx_geti hx hb hts i_Mo hown hK hM e25 (ci := 4) (C := R_Mo) (T := T_Mo) (N := 23) rfl 1 (by decide) (hts _ wd_116) d_Mo_line_81 ?_
                refine lv_iconst (v := 1) hx hb d_Mo_line_84 (by decide) ?_
                refine lv_iadd hx hb d_Mo_line_85 ?_
                obtain ⟨m26, e27, h⟩ := mx_b h
                refine mx_put hx hb hts i_Mo t_Mo t_Mo_ok n_Mo hown hK hM hS e27 (ci := 4) (C := R_Mo) (T := T_Mo) (N := 23) rfl 1 (by decide) (hts _ wd_116) rfl (ty := .int) (by decide +kernel) rfl rfl d_Mo_line_86 (fun H locs hM hS => ?_)
                refine mx_aload_n hx hb d_Mo_line_89 rfl (lv_at hl 0 rfl) ?_
                obtain ⟨x28, e29, h⟩ := mx_b h
                refine mx_getr hx hb hts i_Mo hown hK hM e29 (ci := 4) (C := R_Mo) (T := T_Mo) (N := 23) rfl 2 (by decide) (hts _ wd_12) d_Mo_line_90 ?_
                refine mx_aload_n hx hb d_Mo_line_93 rfl (lv_at hl 0 rfl) ?_
                obtain ⟨x30, e31, h⟩ := mx_b h
                refine mx_geti hx hb hts i_Mo hown hK hM e31 (ci := 4) (C := R_Mo) (T := T_Mo) (N := 23) rfl 1 (by decide) (hts _ wd_116) d_Mo_line_94 ?_
                refine lv_iload_n hx hb d_Mo_line_97 rfl (lv_at hl 1 rfl) ?_
                obtain ⟨m33, e32, h⟩ := mx_b h
                refine mx_iast hx hb hK hM hS e32 rfl d_Mo_line_98 (fun H locs hM hS => ?_)
                refine mx_aload_n hx hb d_Mo_line_99 rfl (lv_at hl 0 rfl) ?_
                obtain ⟨x34, e35, h⟩ := mx_b h
                refine mx_getr hx hb hts i_Mo hown hK hM e35 (ci := 4) (C := R_Mo) (T := T_Mo) (N := 23) rfl 3 (by decide) (hts _ wd_13) d_Mo_line_100 ?_
                refine mx_aload_n hx hb d_Mo_line_103 rfl (lv_at hl 0 rfl) ?_
                obtain ⟨x36, e37, h⟩ := mx_b h
                refine mx_geti hx hb hts i_Mo hown hK hM e37 (ci := 4) (C := R_Mo) (T := T_Mo) (N := 23) rfl 1 (by decide) (hts _ wd_116) d_Mo_line_104 ?_
                refine lv_iload_n hx hb d_Mo_line_107 rfl (lv_at hl 2 rfl) ?_
                obtain ⟨m39, e38, h⟩ := mx_b h
                refine mx_iast hx hb hK hM hS e38 rfl d_Mo_line_108 (fun H locs hM hS => ?_)
                refine mx_aload_n hx hb d_Mo_line_109 rfl (lv_at hl 0 rfl) ?_
                obtain ⟨x40, e41, h⟩ := mx_b h
                refine mx_getr hx hb hts i_Mo hown hK hM e41 (ci := 4) (C := R_Mo) (T := T_Mo) (N := 23) rfl 4 (by decide) (hts _ wd_15) d_Mo_line_110 ?_
                refine mx_aload_n hx hb d_Mo_line_113 rfl (lv_at hl 0 rfl) ?_
                obtain ⟨x42, e43, h⟩ := mx_b h
                refine mx_geti hx hb hts i_Mo hown hK hM e43 (ci := 4) (C := R_Mo) (T := T_Mo) (N := 23) rfl 1 (by decide) (hts _ wd_116) d_Mo_line_114 ?_
                refine lv_lload_n hx hb d_Mo_line_117 rfl (lv_at hl 3 rfl) ?_
                obtain ⟨m45, e44, h⟩ := mx_b h
                refine mx_last hx hb hK hM hS e44 rfl d_Mo_line_118 (fun H locs hM hS => ?_)
                refine mx_aload_n hx hb d_Mo_line_119 rfl (lv_at hl 0 rfl) ?_
                obtain ⟨x46, e47, h⟩ := mx_b h
                refine mx_getr hx hb hts i_Mo hown hK hM e47 (ci := 4) (C := R_Mo) (T := T_Mo) (N := 23) rfl 5 (by decide) (hts _ wd_16) d_Mo_line_120 ?_
                refine mx_aload_n hx hb d_Mo_line_123 rfl (lv_at hl 0 rfl) ?_
                obtain ⟨x48, e49, h⟩ := mx_b h
                refine mx_geti hx hb hts i_Mo hown hK hM e49 (ci := 4) (C := R_Mo) (T := T_Mo) (N := 23) rfl 1 (by decide) (hts _ wd_116) d_Mo_line_124 ?_
                refine lv_lload hx hb d_Mo_line_127 (lv_at hl 4 rfl) ?_
                obtain ⟨m51, e50, h⟩ := mx_b h
                refine mx_last hx hb hK hM hS e50 rfl d_Mo_line_129 (fun H locs hM hS => ?_)
                refine mx_aload_n hx hb d_Mo_line_130 rfl (lv_at hl 0 rfl) ?_
                obtain ⟨x52, e53, h⟩ := mx_b h
                refine mx_geti hx hb hts i_Mo hown hK hM e53 (ci := 4) (C := R_Mo) (T := T_Mo) (N := 23) rfl 1 (by decide) (hts _ wd_116) d_Mo_line_131 ?_
                cases h
                exact W.iret hx hb hr (fun t ht hW => ⟨⟨rfl, by rw [ht]; exact hM⟩, hS.F ht⟩) hS.2.2 d_Mo_line_134
              · rw [if_pos c23] at h
                refine lv_bipush (v := (-14)) hx hb d_Mo_line_76 (by decide) ?_
                cases h
                exact W.iret hx hb hr (fun t ht hW => ⟨⟨rfl, by rw [ht]; exact hM⟩, hS.F ht⟩) hS.2.2 d_Mo_line_78
            · rw [if_neg c20] at h
              refine lv_bipush (v := (-12)) hx hb d_Mo_line_64 (by decide) ?_
              cases h
              exact W.iret hx hb hr (fun t ht hW => ⟨⟨rfl, by rw [ht]; exact hM⟩, hS.F ht⟩) hS.2.2 d_Mo_line_66
set_option maxHeartbeats 4000000 in
set_option maxRecDepth 100000 in
theorem c_LR_findLine (l : Launch) (G : mx_G) (a0 : Nat) (v1 : Int32) (mem : mx_Mem) (q : Option Nat × mx_Mem) (h : f_LR_findLine a0 v1 mem = some q) : Met l y_LR_findLine (gq_w y_LR_findLine b_LR_findLine 2 (some (.object "LateRoutes$Line"))) { frames := 0, cells := 0, slots := 0, locals := 0 } (gq_P G [.ref a0, .int v1] mem) (gq_Q G (some (va_rf q.1)) q.2) 0 0 (mx_A G) := by
  refine Met.ofW (cc := b_LR_findLine) (maxL := 2) (ret := (some (.object "LateRoutes$Line"))) (by decide) rfl ?_
  intro p e s m args below meth c s₁ B hml hv
  obtain ⟨rfl, hb0, hM, hK, hN⟩ := hv
  have CX : gq_C p (headSpec (gq_w y_LR_findLine b_LR_findLine 2 (some (.object "LateRoutes$Line"))) { frames := 0, cells := 0, slots := 0, locals := 0 }).room s m _ meth c G b_LR_findLine 2 (some (.object "LateRoutes$Line")) R_LR 0 0 0 0 := ⟨B.exec, B.bytes, hml, B.returns, findClass_of_methodNamed B.named, fun w hw => atoms_spec (ws := gq_w y_LR_findLine b_LR_findLine 2 (some (.object "LateRoutes$Line"))) B.pre w (List.mem_cons_of_mem _ hw), B.notSynchronized, hK, hN, hb0, Nat.le_refl _, Nat.le_refl _, Nat.le_refl _, Nat.le_refl _⟩
  obtain ⟨hx, hb, hml, hr, hown, hts, hlocks, hK, hN, hb0, hRf, hRc, hRs, hRl⟩ := id CX
  have hS : va_S (mx_A G) s.heap s.heap [] := va_S.rf
  have hl := lv_entry [.ref a0, .int v1] (n := 2) (Nat.le_of_ble_eq_true rfl)
  rw [lg_entry_eq]
  generalize (lg_sl [.ref a0, .int v1] ++ List.replicate (2 - (lg_sl [.ref a0, .int v1]).length) Slot.unset).toArray = ls at hl ⊢
  have hl : lv_has ls 2 [(0, va_rf (some a0)), (1, .int v1)] := hl
  unfold f_LR_findLine at h
  refine lv_iload_n hx hb d_LR_findLine_0 rfl (lv_at hl 1 rfl) ?_
  refine lv_iconst (v := 1) hx hb d_LR_findLine_1 (by decide) ?_
  refine lv_icmp_lt (tgt := 24) hx hb d_LR_findLine_2 (by decide) (fun c1 => ?_) (fun c1 => ?_)
  · rw [if_pos c1] at h
    refine mx_null hx hb d_LR_findLine_24 ?_
    cases h
    exact W.aret hx hb hr (Or.inl ⟨_, rfl⟩) (va_rf_or _) (fun t ht hW => ⟨⟨rfl, by rw [ht]; exact hM⟩, hS.F ht⟩) hS.2.2 d_LR_findLine_25
  · rw [if_neg c1] at h
    refine lv_iload_n hx hb d_LR_findLine_5 rfl (lv_at hl 1 rfl) ?_
    refine mx_aload_n hx hb d_LR_findLine_6 rfl (lv_at hl 0 rfl) ?_
    obtain ⟨x2, e3, h⟩ := mx_b h
    refine mx_geti hx hb hts i_LR hown hK hM e3 (ci := 0) (C := R_LR) (T := T_LR) (N := 5) rfl 1 (by decide) (hts _ wd_8) d_LR_findLine_7 ?_
    refine lv_icmp_gt (tgt := 24) hx hb d_LR_findLine_10 (by decide) (fun c4 => ?_) (fun c4 => ?_)
    · rw [if_pos c4] at h
      refine mx_null hx hb d_LR_findLine_24 ?_
      cases h
      exact W.aret hx hb hr (Or.inl ⟨_, rfl⟩) (va_rf_or _) (fun t ht hW => ⟨⟨rfl, by rw [ht]; exact hM⟩, hS.F ht⟩) hS.2.2 d_LR_findLine_25
    · rw [if_neg c4] at h
      refine mx_aload_n hx hb d_LR_findLine_13 rfl (lv_at hl 0 rfl) ?_
      obtain ⟨x5, e6, h⟩ := mx_b h
      refine mx_getr hx hb hts i_LR hown hK hM e6 (ci := 0) (C := R_LR) (T := T_LR) (N := 5) rfl 0 (by decide) (hts _ wd_4) d_LR_findLine_14 ?_
      refine lv_iload_n hx hb d_LR_findLine_17 rfl (lv_at hl 1 rfl) ?_
      refine lv_iconst (v := 1) hx hb d_LR_findLine_18 (by decide) ?_
      refine lv_isub hx hb d_LR_findLine_19 ?_
      obtain ⟨x7, e8, h⟩ := mx_b h
      refine mx_aald hx hb hK hM e8 rfl d_LR_findLine_20 ?_
      refine lv_goto (tgt := 25) hx hb d_LR_findLine_21 (by decide) ?_
      cases h
      exact W.aret hx hb hr (Or.inl ⟨_, rfl⟩) (va_rf_or _) (fun t ht hW => ⟨⟨rfl, by rw [ht]; exact hM⟩, hS.F ht⟩) hS.2.2 d_LR_findLine_25
set_option maxHeartbeats 4000000 in
set_option maxRecDepth 100000 in
theorem c_Lo_init (l : Launch) (G : mx_G) (a0 : Nat) (v1 : Option Nat) (v2 : Int32) (v3 : Int64) (v5 : Int32) (mem : mx_Mem) (q : mx_Mem) (h : f_Lo_init a0 v1 v2 v3 v5 mem = some q) : Met l y_Lo_init (gq_w y_Lo_init b_Lo_init 6 none) { frames := 1, cells := 1, slots := 4, locals := 12 } (gq_P G [.ref a0, va_rf v1, .int v2, .long v3, .int v5] mem) (gq_Q G none q) 1 4 (mx_A G) := by
  refine Met.ofW (cc := b_Lo_init) (maxL := 6) (ret := none) (by decide) rfl ?_
  intro p e s m args below meth c s₁ B hml hv
  obtain ⟨rfl, hb0, hM, hK, hN⟩ := hv
  have CX : gq_C p (headSpec (gq_w y_Lo_init b_Lo_init 6 none) { frames := 1, cells := 1, slots := 4, locals := 12 }).room s m _ meth c G b_Lo_init 6 none R_Lo 1 1 4 12 := ⟨B.exec, B.bytes, hml, B.returns, findClass_of_methodNamed B.named, fun w hw => atoms_spec (ws := gq_w y_Lo_init b_Lo_init 6 none) B.pre w (List.mem_cons_of_mem _ hw), B.notSynchronized, hK, hN, hb0, Nat.le_refl _, Nat.le_refl _, Nat.le_refl _, Nat.le_refl _⟩
  have hin : meth.name = "<init>" := (name_of_methodNamed B.named B.method).1
  obtain ⟨hx, hb, hml, hr, hown, hts, hlocks, hK, hN, hb0, hRf, hRc, hRs, hRl⟩ := id CX
  have hS : va_S (mx_A G) s.heap s.heap [] := va_S.rf
  have hl := lv_entry [.ref a0, va_rf v1, .int v2, .long v3, .int v5] (n := 6) (by simp [lg_sl, mx_cat, mx_cati, mx_catl, mx_catr])
  rw [lg_entry_eq]
  generalize (lg_sl [.ref a0, va_rf v1, .int v2, .long v3, .int v5] ++ List.replicate (6 - (lg_sl [.ref a0, va_rf v1, .int v2, .long v3, .int v5]).length) Slot.unset).toArray = ls at hl ⊢
  have hl : lv_has ls 6 [(0, va_rf (some a0)), (1, va_rf v1), (2, .int v2), (3, .long v3), (5, .int v5)] := by have h9 := hl; simp [lv_args, mx_cat, mx_cati, mx_catl, mx_catr] at h9; exact h9
  unfold f_Lo_init at h
  refine mx_aload_n hx hb d_Lo_init_0 rfl (lv_at hl 0 rfl) ?_
  refine W.objInit hx hb hown (hts _ wd_117) (hts _ wd_1) (hts _ wd_2) rfl (by rw [hml]; exact hl.1) rfl d_Lo_init_1 (Nat.le_trans (Nat.le_of_ble_eq_true rfl) hRf) (Nat.le_trans (Nat.le_of_ble_eq_true rfl) hRl) ?_
  refine W.eq (g2 := F0 m 4 ls []) rfl ?_
  refine mx_aload_n hx hb d_Lo_init_4 rfl (lv_at hl 0 rfl) ?_
  refine lv_iconst (v := 4) hx hb d_Lo_init_5 (by decide) ?_
  obtain ⟨m1, e2, h⟩ := mx_b h
  refine mx_newq (kd := 2) (N' := 4) hx hb hown (hts _ wd_118) (va_AO.use (hN _ nw_6)) hK hM hS hb0 rfl (by decide) (by decide) (by decide) e2 d_Lo_init_6 (Nat.le_trans (Nat.le_of_ble_eq_true rfl) hRc) (Nat.le_trans (Nat.le_of_ble_eq_true rfl) hRs) (fun H hM hS => ?_)
  refine W.widen (k := 1) (n := 4) (by decide) (by decide) ?_
  obtain ⟨m3, e4, h⟩ := mx_b h
  refine mx_putF hx hb hts i_Lo t_Lo t_Lo_ok n_Lo hown hK hM hS e4 (ci := 3) (C := R_Lo) (T := T_Lo) (N := 12) rfl 4 (by decide) (hts _ wd_50) rfl hin rfl (ty := (.array (.object "LateRoutes$Option"))) (by decide +kernel) (mx_arr_nar _) (mx_arr_fit _) d_Lo_init_9 (fun H locs hM hS => ?_)
  refine mx_aload_n hx hb d_Lo_init_12 rfl (lv_at hl 0 rfl) ?_
  refine mx_aload_n hx hb d_Lo_init_13 rfl (lv_at hl 1 rfl) ?_
  obtain ⟨m5, e6, h⟩ := mx_b h
  refine mx_putF hx hb hts i_Lo t_Lo t_Lo_ok n_Lo hown hK hM hS e6 (ci := 3) (C := R_Lo) (T := T_Lo) (N := 12) rfl 0 (by decide) (hts _ wd_55) rfl hin rfl (ty := (.object "LateRoutes$Line")) (by decide +kernel) (mx_ref_nar _) (mx_ref_fit _) d_Lo_init_14 (fun H locs hM hS => ?_)
  refine mx_aload_n hx hb d_Lo_init_17 rfl (lv_at hl 0 rfl) ?_
  refine lv_iload_n hx hb d_Lo_init_18 rfl (lv_at hl 2 rfl) ?_
  obtain ⟨m7, e8, h⟩ := mx_b h
  refine mx_putF hx hb hts i_Lo t_Lo t_Lo_ok n_Lo hown hK hM hS e8 (ci := 3) (C := R_Lo) (T := T_Lo) (N := 12) rfl 1 (by decide) (hts _ wd_72) rfl hin rfl (ty := .int) (by decide +kernel) rfl rfl d_Lo_init_19 (fun H locs hM hS => ?_)
  refine mx_aload_n hx hb d_Lo_init_22 rfl (lv_at hl 0 rfl) ?_
  refine lv_lload_n hx hb d_Lo_init_23 rfl (lv_at hl 3 rfl) ?_
  obtain ⟨m9, e10, h⟩ := mx_b h
  refine mx_putF hx hb hts i_Lo t_Lo t_Lo_ok n_Lo hown hK hM hS e10 (ci := 3) (C := R_Lo) (T := T_Lo) (N := 12) rfl 2 (by decide) (hts _ wd_119) rfl hin rfl (ty := .long) (by decide +kernel) rfl rfl d_Lo_init_24 (fun H locs hM hS => ?_)
  refine mx_aload_n hx hb d_Lo_init_27 rfl (lv_at hl 0 rfl) ?_
  refine lv_iload hx hb d_Lo_init_28 (lv_at hl 4 rfl) ?_
  obtain ⟨m11, e12, h⟩ := mx_b h
  refine mx_putF hx hb hts i_Lo t_Lo t_Lo_ok n_Lo hown hK hM hS e12 (ci := 3) (C := R_Lo) (T := T_Lo) (N := 12) rfl 3 (by decide) (hts _ wd_120) rfl hin rfl (ty := .int) (by decide +kernel) rfl rfl d_Lo_init_30 (fun H locs hM hS => ?_)
  refine mx_aload_n hx hb d_Lo_init_33 rfl (lv_at hl 0 rfl) ?_
  refine lv_iconst (v := 0) hx hb d_Lo_init_34 (by decide) ?_
  obtain ⟨m13, e14, h⟩ := mx_b h
  refine mx_put hx hb hts i_Lo t_Lo t_Lo_ok n_Lo hown hK hM hS e14 (ci := 3) (C := R_Lo) (T := T_Lo) (N := 12) rfl 5 (by decide) (hts _ wd_49) rfl (ty := .int) (by decide +kernel) rfl rfl d_Lo_init_35 (fun H locs hM hS => ?_)
  refine mx_aload_n hx hb d_Lo_init_38 rfl (lv_at hl 0 rfl) ?_
  refine lv_iconst (v := (-1)) hx hb d_Lo_init_39 (by decide) ?_
  obtain ⟨m15, e16, h⟩ := mx_b h
  refine mx_put hx hb hts i_Lo t_Lo t_Lo_ok n_Lo hown hK hM hS e16 (ci := 3) (C := R_Lo) (T := T_Lo) (N := 12) rfl 6 (by decide) (hts _ wd_48) rfl (ty := .int) (by decide +kernel) rfl rfl d_Lo_init_40 (fun H locs hM hS => ?_)
  refine mx_aload_n hx hb d_Lo_init_43 rfl (lv_at hl 0 rfl) ?_
  refine lv_iconst (v := (-1)) hx hb d_Lo_init_44 (by decide) ?_
  obtain ⟨m17, e18, h⟩ := mx_b h
  refine mx_put hx hb hts i_Lo t_Lo t_Lo_ok n_Lo hown hK hM hS e18 (ci := 3) (C := R_Lo) (T := T_Lo) (N := 12) rfl 7 (by decide) (hts _ wd_121) rfl (ty := .int) (by decide +kernel) rfl rfl d_Lo_init_45 (fun H locs hM hS => ?_)
  cases h
  exact W.vret hx hb hr (fun t ht hW => ⟨⟨rfl, by rw [ht]; exact hM⟩, hS.F ht⟩) hS.2.2 d_Lo_init_48
