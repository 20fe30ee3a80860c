set_option maxHeartbeats 4000000 in
set_option maxRecDepth 100000 in
theorem wfj_LR_option_94 {p : Program} {l : Launch} {e : Env} {R : Room} {s : State} {m : MethodId} {args : Array Value} {below : List Frame} {meth : Method} {c : Code} {G : mx_G} (q : Int32 × mx_Mem) (CX : gq_C p R s m args meth c G b_LR_option 9 (some .int) R_LR 4 1 3 80) (v0 : Option Nat) (v2 : Int32) (v4 : Int64) (v6 : Option Nat) (v7 : Option Nat) (mem : mx_Mem) (h : fj_LR_option_94 v0 v2 v4 v6 v7 mem = some q) (H : Heap) (locs : List Loc) (ls : Array Slot) (hl : lv_has ls 9 [(0, va_rf v0), (2, .int v2), (4, .long v4), (6, va_rf v6), (7, va_rf v7)]) (hM : mx_M vwCl G mem H) (hS : va_S (mx_A G) s.heap H locs) : W p l e R s m args below meth c H locs 0 0 (MQ below (gq_Q G (some (.int q.1)) q.2) args s 1 3 (mx_A G)) (F0 m 94 ls []) := by
  obtain ⟨hx, hb, hml, hr, hown, hts, hlocks, hK, hN, hb0, hRf, hRc, hRs, hRl⟩ := id CX
  rw [fj_LR_option_94] at h
  refine mx_aload hx hb d_LR_option_94 (lv_at hl 3 rfl) ?_
  obtain ⟨a4, e3, h⟩ := mx_b h
  obtain ⟨q1, e2, h⟩ := mx_b h
  have e5 := mx_c_eq e3
  refine W.eq (g2 := F0 m 96 ls [.ref a4]) (congrArg (fun z => F0 m 96 ls [va_rf z]) e5) ?_
  refine gq_go (va_runV (b := a4) (As := []) (rest := []) ⟨hx, hb, hml, hown, hts⟩ (c_Lo_hasRoom l G a4  _ _ e2) (cwV 0 hts (gq_gV wd_157 wd_149 wd_150 wd_66 wd_147) rfl rfl rfl (by decide +kernel) ⟨Nat.le_trans (Nat.le_of_ble_eq_true rfl) hRf, Nat.le_trans (Nat.le_of_ble_eq_true rfl) hRl⟩) (gq_preV hK hN hM hS hb0 e3 (C := R_Lo) (T := T_Lo) (N := 12) rfl) rfl rfl hl.1 rfl (lv_room (Nat.le_of_ble_eq_true rfl)) d_LR_option_96 ⟨(Nat.le_trans (Nat.le_of_ble_eq_true rfl) hRc), (Nat.le_trans (Nat.le_of_ble_eq_true rfl) hRs)⟩) hS (fun H locs hM hS => ?_)
  refine W.eq (g2 := F0 m 99 ls [.int q1.1]) rfl ?_
  refine lv_if_ne (tgt := 105) hx hb d_LR_option_99 (by decide) (fun c6 => ?_) (fun c6 => ?_)
  · rw [if_neg c6] at h
    refine mx_aload hx hb d_LR_option_105 (lv_at hl 3 rfl) ?_
    obtain ⟨m7, e8, h⟩ := mx_b h
    refine mx_new (ci := 2) (fs := [.int 0, .null, .long 0]) (C := R_Op) (T := T_Op) (N := 3) hx hb hts i_Op t_Op t_Op_ok hown (hts _ wd_158) (hts _ wd_159) (hts _ wd_160) hK hM hS hb0 rfl (fun j hj => by rcases (show j = 0 ∨ j = 1 ∨ j = 2 by omega) with rfl | rfl | rfl <;> rfl) e8 d_LR_option_107 (Nat.le_trans (Nat.le_of_ble_eq_true rfl) hRc) (Nat.le_trans (Nat.le_of_ble_eq_true rfl) hRs) (fun H hM hS => ?_)
    refine W.widen (k := 1) (n := 3) (by decide) (by decide) ?_
    refine lv_dup hx hb d_LR_option_110 (mx_cat _) ?_
    refine lv_iload_n hx hb d_LR_option_111 rfl (lv_at hl 1 rfl) ?_
    refine mx_aload hx hb d_LR_option_112 (lv_at hl 4 rfl) ?_
    refine lv_lload hx hb d_LR_option_114 (lv_at hl 2 rfl) ?_
    obtain ⟨q9, e10, h⟩ := mx_b h
    refine gq_go (va_runI (b := (q1.2).1) (As := [.int v2, va_rf v7, .long v4]) (rest := [va_rf (some (q1.2).1), va_rf v6]) ⟨hx, hb, hml, hown, hts⟩ (c_Op_init l G ((q1.2).1) v2 v7 v4 _ _ e10) (cwI 3 hts (gq_gI wd_161) rfl rfl rfl (hts _ wd_160) (hts _ wd_162) (hts _ wd_163) rfl (by decide +kernel) ⟨Nat.le_trans (Nat.le_of_ble_eq_true rfl) hRf, Nat.le_trans (Nat.le_of_ble_eq_true rfl) hRl⟩) (gq_preS hK hN hM hS hb0) rfl rfl hl.1 rfl (lv_room (by simp [mx_cat, mx_cati, mx_catl, mx_catr])) d_LR_option_116 ⟨(Nat.le_trans (Nat.le_of_ble_eq_true rfl) hRc), (Nat.le_trans (Nat.le_of_ble_eq_true rfl) hRs)⟩) hS (fun H locs hM hS => ?_)
    refine W.eq (g2 := F0 m 119 ls [va_rf (some (q1.2).1), va_rf v6]) rfl ?_
    obtain ⟨a15, e14, h⟩ := mx_b h
    obtain ⟨q12, e13, h⟩ := mx_b h
    have e16 := mx_c_eq e14
    refine W.eq (g2 := F0 m 119 ls [va_rf (some (q1.2).1), .ref a15]) (congrArg (fun z => F0 m 119 ls [va_rf (some (q1.2).1), va_rf z]) e16) ?_
    refine gq_go (va_runV (b := a15) (As := [va_rf (some (q1.2).1)]) (rest := []) ⟨hx, hb, hml, hown, hts⟩ (c_Lo_addOption l G a15 (some (q1.2).1) _ _ e13) (cwV 1 hts (gq_gV wd_165 wd_166 wd_167 wd_66 wd_164) rfl rfl rfl (by decide +kernel) ⟨Nat.le_trans (Nat.le_of_ble_eq_true rfl) hRf, Nat.le_trans (Nat.le_of_ble_eq_true rfl) hRl⟩) (gq_preV hK hN hM hS hb0 e14 (C := R_Lo) (T := T_Lo) (N := 12) rfl) rfl rfl hl.1 rfl (lv_room (Nat.le_of_ble_eq_true rfl)) d_LR_option_119 ⟨(Nat.le_trans (Nat.le_of_ble_eq_true rfl) hRc), (Nat.le_trans (Nat.le_of_ble_eq_true rfl) hRs)⟩) hS (fun H locs hM hS => ?_)
    refine W.eq (g2 := F0 m 122 ls [.int q12.1]) rfl ?_
    refine lv_istore (lv' := [(8, .int q12.1), (0, va_rf v0), (2, .int v2), (4, .long v4), (6, va_rf v6), (7, va_rf v7)]) hx hb d_LR_option_122 hl (by decide) (by simp [mx_cat, mx_cati, mx_catl, mx_catr]) (fun ls hl => ?_)
    refine mx_aload_n hx hb d_LR_option_124 rfl (lv_at hl 1 rfl) ?_
    obtain ⟨a20, e19, h⟩ := mx_b h
    obtain ⟨q17, e18, h⟩ := mx_b h
    have e21 := mx_c_eq e19
    refine W.eq (g2 := F0 m 125 ls [.ref a20]) (congrArg (fun z => F0 m 125 ls [va_rf z]) e21) ?_
    refine gq_go (va_runV (b := a20) (As := []) (rest := []) ⟨hx, hb, hml, hown, hts⟩ (c_LR_settle l G a20  _ _ e18) (cwV 0 hts (gq_gV wd_106 wd_107 wd_108 wd_38 wd_105) rfl rfl rfl (by decide +kernel) ⟨Nat.le_trans (Nat.le_of_ble_eq_true rfl) hRf, Nat.le_trans (Nat.le_of_ble_eq_true rfl) hRl⟩) (gq_preV hK hN hM hS hb0 e19 (C := R_LR) (T := T_LR) (N := 5) rfl) rfl rfl hl.1 rfl (lv_room (Nat.le_of_ble_eq_true rfl)) d_LR_option_125 ⟨(Nat.le_trans (Nat.le_of_ble_eq_true rfl) hRc), (Nat.le_trans (Nat.le_of_ble_eq_true rfl) hRs)⟩) hS (fun H locs hM hS => ?_)
    refine W.eq (g2 := F0 m 128 ls []) rfl ?_
    refine lv_iload hx hb d_LR_option_128 (lv_at hl 0 rfl) ?_
    cases h
    exact W.iret hx hb hr (fun t ht hW => ⟨⟨rfl, by rw [ht]; exact hM⟩, hS.F ht⟩) hS.2.2 d_LR_option_130
  · rw [if_pos c6] at h
    refine lv_bipush (v := (-14)) hx hb d_LR_option_102 (by decide) ?_
    cases h
    refine W.widen (k := 1) (n := 3) (by decide) (by decide) ?_
    exact W.iret hx hb hr (fun t ht hW => ⟨⟨rfl, by rw [ht]; exact hM⟩, hS.F ht⟩) hS.2.2 d_LR_option_104
set_option maxHeartbeats 4000000 in
set_option maxRecDepth 100000 in
theorem wfj_LR_option_41 {p : Program} {l : Launch} {e : Env} {R : Room} {s : State} {m : MethodId} {args : Array Value} {below : List Frame} {meth : Method} {c : Code} {G : mx_G} (q : Int32 × mx_Mem) (CX : gq_C p R s m args meth c G b_LR_option 9 (some .int) R_LR 4 1 3 80) (v0 : Option Nat) (v2 : Int32) (v4 : Int64) (v6 : Option Nat) (v7 : Option Nat) (mem : mx_Mem) (h : fj_LR_option_41 v0 v2 v4 v6 v7 mem = some q) (H : Heap) (locs : List Loc) (ls : Array Slot) (hl : lv_has ls 9 [(0, va_rf v0), (2, .int v2), (4, .long v4), (6, va_rf v6), (7, va_rf v7)]) (hM : mx_M vwCl G mem H) (hS : va_S (mx_A G) s.heap H locs) : W p l e R s m args below meth c H locs 0 0 (MQ below (gq_Q G (some (.int q.1)) q.2) args s 1 3 (mx_A G)) (F0 m 41 ls []) := by
  obtain ⟨hx, hb, hml, hr, hown, hts, hlocks, hK, hN, hb0, hRf, hRc, hRs, hRl⟩ := id CX
  rw [fj_LR_option_41] at h
  refine lv_iload_n hx hb d_LR_option_41 rfl (lv_at hl 1 rfl) ?_
  refine lv_i2l hx hb d_LR_option_42 rfl ?_
  refine lv_lconst (v := 0) hx hb d_LR_option_43 (by decide) ?_
  refine lv_ldc2 (v := 2) hx hb hown (hts _ wd_155) d_LR_option_44 ?_
  obtain ⟨q1, e2, h⟩ := mx_b h
  refine gq_go (va_runS (As := [.long v2.toInt64, .long 0, .long 2]) (rest := []) ⟨hx, hb, hml, hown, hts⟩ (c_LR_isWithin l G v2.toInt64 0 2 _ _ e2) (cwS 3 hts (gq_gS wd_36 wd_37 wd_38 wd_35) rfl rfl rfl (by decide +kernel) ⟨Nat.le_trans (Nat.le_of_ble_eq_true rfl) hRf, Nat.le_trans (Nat.le_of_ble_eq_true rfl) hRl⟩) (gq_preS hK hN hM hS hb0) rfl rfl hl.1 rfl (lv_room (Nat.le_of_ble_eq_true rfl)) d_LR_option_47 ⟨(Nat.le_trans (Nat.le_of_ble_eq_true rfl) hRc), (Nat.le_trans (Nat.le_of_ble_eq_true rfl) hRs)⟩) hS (fun H locs hM hS => ?_)
  refine W.eq (g2 := F0 m 50 ls [.int q1.1]) rfl ?_
  refine lv_if_eq (tgt := 65) hx hb d_LR_option_50 (by decide) (fun c4 => ?_) (fun c4 => ?_)
  · rw [if_pos c4] at h
    refine lv_bipush (v := (-12)) hx hb d_LR_option_65 (by decide) ?_
    cases h
    refine W.widen (k := 1) (n := 3) (by decide) (by decide) ?_
    exact W.iret hx hb hr (fun t ht hW => ⟨⟨rfl, by rw [ht]; exact hM⟩, hS.F ht⟩) hS.2.2 d_LR_option_67
  · rw [if_neg c4] at h
    refine lv_lload hx hb d_LR_option_53 (lv_at hl 2 rfl) ?_
    refine lv_lconst (v := 0) hx hb d_LR_option_55 (by decide) ?_
    refine lv_ldc2 (v := 10000) hx hb hown (hts _ wd_100) d_LR_option_56 ?_
    obtain ⟨q5, e6, h⟩ := mx_b h
    refine gq_go (va_runS (As := [.long v4, .long 0, .long 10000]) (rest := []) ⟨hx, hb, hml, hown, hts⟩ (c_LR_isWithin l G v4 0 10000 _ _ e6) (cwS 3 hts (gq_gS wd_36 wd_37 wd_38 wd_35) rfl rfl rfl (by decide +kernel) ⟨Nat.le_trans (Nat.le_of_ble_eq_true rfl) hRf, Nat.le_trans (Nat.le_of_ble_eq_true rfl) hRl⟩) (gq_preS hK hN hM hS hb0) rfl rfl hl.1 rfl (lv_room (Nat.le_of_ble_eq_true rfl)) d_LR_option_59 ⟨(Nat.le_trans (Nat.le_of_ble_eq_true rfl) hRc), (Nat.le_trans (Nat.le_of_ble_eq_true rfl) hRs)⟩) hS (fun H locs hM hS => ?_)
    refine W.eq (g2 := F0 m 62 ls [.int q5.1]) rfl ?_
    refine lv_if_ne (tgt := 68) hx hb d_LR_option_62 (by decide) (fun c8 => ?_) (fun c8 => ?_)
    · rw [if_neg c8] at h
      refine mx_aload hx hb d_LR_option_68 (lv_at hl 3 rfl) ?_
      obtain ⟨a12, e11, h⟩ := mx_b h
      obtain ⟨q9, e10, h⟩ := mx_b h
      have e13 := mx_c_eq e11
      refine W.eq (g2 := F0 m 70 ls [.ref a12]) (congrArg (fun z => F0 m 70 ls [va_rf z]) e13) ?_
      refine gq_go (va_runV (b := a12) (As := []) (rest := []) ⟨hx, hb, hml, hown, hts⟩ (c_Lo_isDirect l G a12  _ _ e10) (cwV 0 hts (gq_gV wd_156 wd_76 wd_77 wd_66 wd_74) rfl rfl rfl (by decide +kernel) ⟨Nat.le_trans (Nat.le_of_ble_eq_true rfl) hRf, Nat.le_trans (Nat.le_of_ble_eq_true rfl) hRl⟩) (gq_preV hK hN hM hS hb0 e11 (C := R_Lo) (T := T_Lo) (N := 12) rfl) rfl rfl hl.1 rfl (lv_room (Nat.le_of_ble_eq_true rfl)) d_LR_option_70 ⟨(Nat.le_trans (Nat.le_of_ble_eq_true rfl) hRc), (Nat.le_trans (Nat.le_of_ble_eq_true rfl) hRs)⟩) hS (fun H locs hM hS => ?_)
      refine W.eq (g2 := F0 m 73 ls [.int q9.1]) rfl ?_
      refine lv_if_ne (tgt := 91) hx hb d_LR_option_73 (by decide) (fun c14 => ?_) (fun c14 => ?_)
      · rw [if_neg c14] at h
        refine lv_bipush (v := (-13)) hx hb d_LR_option_91 (by decide) ?_
        cases h
        refine W.widen (k := 1) (n := 3) (by decide) (by decide) ?_
        exact W.iret hx hb hr (fun t ht hW => ⟨⟨rfl, by rw [ht]; exact hM⟩, hS.F ht⟩) hS.2.2 d_LR_option_93
      · rw [if_pos c14] at h
        refine mx_aload hx hb d_LR_option_76 (lv_at hl 4 rfl) ?_
        refine mx_ifnull (tgt := 94) hx hb d_LR_option_78 (by decide) (fun c15 => ?_) (fun c15 => ?_)
        · rw [if_pos c15] at h
          exact wfj_LR_option_94 q CX _ _ _ _ _ _ h _ _ _ (lv_sub hl [0, 1, 2, 3, 4] rfl) hM hS
        · rw [if_neg c15] at h
          refine mx_aload hx hb d_LR_option_81 (lv_at hl 3 rfl) ?_
          refine mx_aload hx hb d_LR_option_83 (lv_at hl 4 rfl) ?_
          obtain ⟨a19, e18, h⟩ := mx_b h
          obtain ⟨q16, e17, h⟩ := mx_b h
          have e20 := mx_c_eq e18
          refine W.eq (g2 := F0 m 85 ls [va_rf v7, .ref a19]) (congrArg (fun z => F0 m 85 ls [va_rf v7, va_rf z]) e20) ?_
          refine gq_go (va_runV (b := a19) (As := [va_rf v7]) (rest := []) ⟨hx, hb, hml, hown, hts⟩ (c_Lo_canGoOnBy l G a19 v7 _ _ e17) (cwV 1 hts (gq_gV wd_169 wd_170 wd_171 wd_66 wd_168) rfl rfl rfl (by decide +kernel) ⟨Nat.le_trans (Nat.le_of_ble_eq_true rfl) hRf, Nat.le_trans (Nat.le_of_ble_eq_true rfl) hRl⟩) (gq_preV hK hN hM hS hb0 e18 (C := R_Lo) (T := T_Lo) (N := 12) rfl) rfl rfl hl.1 rfl (lv_room (Nat.le_of_ble_eq_true rfl)) d_LR_option_85 ⟨(Nat.le_trans (Nat.le_of_ble_eq_true rfl) hRc), (Nat.le_trans (Nat.le_of_ble_eq_true rfl) hRs)⟩) hS (fun H locs hM hS => ?_)
          refine W.eq (g2 := F0 m 88 ls [.int q16.1]) rfl ?_
          refine lv_if_ne (tgt := 94) hx hb d_LR_option_88 (by decide) (fun c21 => ?_) (fun c21 => ?_)
          · rw [if_neg c21] at h
            exact wfj_LR_option_94 q CX _ _ _ _ _ _ h _ _ _ (lv_sub hl [0, 1, 2, 3, 4] rfl) hM hS
          · rw [if_pos c21] at h
            refine lv_bipush (v := (-13)) hx hb d_LR_option_91 (by decide) ?_
            cases h
            refine W.widen (k := 1) (n := 3) (by decide) (by decide) ?_
            exact W.iret hx hb hr (fun t ht hW => ⟨⟨rfl, by rw [ht]; exact hM⟩, hS.F ht⟩) hS.2.2 d_LR_option_93
    · rw [if_pos c8] at h
      refine lv_bipush (v := (-12)) hx hb d_LR_option_65 (by decide) ?_
      cases h
      refine W.widen (k := 1) (n := 3) (by decide) (by decide) ?_
      exact W.iret hx hb hr (fun t ht hW => ⟨⟨rfl, by rw [ht]; exact hM⟩, hS.F ht⟩) hS.2.2 d_LR_option_67
set_option maxHeartbeats 4000000 in
set_option maxRecDepth 100000 in
theorem c_LR_option (l : Launch) (G : mx_G) (a0 : Nat) (v1 : Int32) (v2 : Int32) (v3 : Int32) (v4 : Int64) (mem : mx_Mem) (q : Int32 × mx_Mem) (h : f_LR_option a0 v1 v2 v3 v4 mem = some q) : Met l y_LR_option (gq_w y_LR_option b_LR_option 9 (some .int)) { frames := 4, cells := 1, slots := 3, locals := 80 } (gq_P G [.ref a0, .int v1, .int v2, .int v3, .long v4] mem) (gq_Q G (some (.int q.1)) q.2) 1 3 (mx_A G) := by
  refine Met.ofW (cc := b_LR_option) (maxL := 9) (ret := (some .int)) (by decide) rfl ?_
  intro p e s m args below meth c s₁ B hml hv
  obtain ⟨rfl, hb0, hM, hK, hN⟩ := hv
  have CX : gq_C p (headSpec (gq_w y_LR_option b_LR_option 9 (some .int)) { frames := 4, cells := 1, slots := 3, locals := 80 }).room s m _ meth c G b_LR_option 9 (some .int) R_LR 4 1 3 80 := ⟨B.exec, B.bytes, hml, B.returns, findClass_of_methodNamed B.named, fun w hw => atoms_spec (ws := gq_w y_LR_option b_LR_option 9 (some .int)) B.pre w (List.mem_cons_of_mem _ hw), B.notSynchronized, hK, hN, hb0, Nat.le_refl _, Nat.le_refl _, Nat.le_refl _, Nat.le_refl _⟩
  obtain ⟨hx, hb, hml, hr, hown, hts, hlocks, hK, hN, hb0, hRf, hRc, hRs, hRl⟩ := id CX
  have hS : va_S (mx_A G) s.heap s.heap [] := va_S.rf
  have hl := lv_entry [.ref a0, .int v1, .int v2, .int v3, .long v4] (n := 9) (Nat.le_of_ble_eq_true rfl)
  rw [lg_entry_eq]
  generalize (lg_sl [.ref a0, .int v1, .int v2, .int v3, .long v4] ++ List.replicate (9 - (lg_sl [.ref a0, .int v1, .int v2, .int v3, .long v4]).length) Slot.unset).toArray = ls at hl ⊢
  have hl : lv_has ls 9 [(0, va_rf (some a0)), (1, .int v1), (2, .int v2), (3, .int v3), (4, .long v4)] := hl
  unfold f_LR_option at h
  refine mx_aload_n hx hb d_LR_option_0 rfl (lv_at hl 0 rfl) ?_
  refine lv_iload_n hx hb d_LR_option_1 rfl (lv_at hl 1 rfl) ?_
  obtain ⟨a4, e3, h⟩ := mx_b h
  obtain ⟨q1, e2, h⟩ := mx_b h
  have e5 := mx_c_eq e3
  refine W.eq (g2 := F0 m 2 ls [.int v1, .ref a4]) (congrArg (fun z => F0 m 2 ls [.int v1, va_rf z]) e5) ?_
  refine gq_go (va_runV (b := a4) (As := [.int v1]) (rest := []) ⟨hx, hb, hml, hown, hts⟩ (c_LR_findLoad l G a4 v1 _ _ e2) (cwV 1 hts (gq_gV wd_152 wd_153 wd_154 wd_38 wd_151) rfl rfl rfl (by decide +kernel) ⟨Nat.le_trans (Nat.le_of_ble_eq_true rfl) hRf, Nat.le_trans (Nat.le_of_ble_eq_true rfl) hRl⟩) (gq_preV hK hN hM hS hb0 e3 (C := R_LR) (T := T_LR) (N := 5) rfl) rfl rfl hl.1 rfl (lv_room (Nat.le_of_ble_eq_true rfl)) d_LR_option_2 ⟨(Nat.le_trans (Nat.le_of_ble_eq_true rfl) hRc), (Nat.le_trans (Nat.le_of_ble_eq_true rfl) hRs)⟩) hS (fun H locs hM hS => ?_)
  refine W.eq (g2 := F0 m 5 ls [va_rf q1.1]) rfl ?_
  refine mx_astore (lv' := [(6, va_rf q1.1), (0, va_rf (some a0)), (1, .int v1), (2, .int v2), (3, .int v3), (4, .long v4)]) hx hb d_LR_option_5 hl (by decide) rfl (fun ls hl => ?_)
  refine lv_iload_n hx hb d_LR_option_7 rfl (lv_at hl 3 rfl) ?_
  refine lv_iconst (v := 2) hx hb d_LR_option_8 (by decide) ?_
  refine lv_icmp_ne (tgt := 16) hx hb d_LR_option_9 (by decide) (fun c6 => ?_) (fun c6 => ?_)
  · rw [if_neg c6] at h
    refine mx_aload_n hx hb d_LR_option_16 rfl (lv_at hl 1 rfl) ?_
    refine lv_iload_n hx hb d_LR_option_17 rfl (lv_at hl 4 rfl) ?_
    obtain ⟨a10, e9, h⟩ := mx_b h
    obtain ⟨q7, e8, h⟩ := mx_b h
    have e11 := mx_c_eq e9
    refine W.eq (g2 := F0 m 18 ls [.int v3, .ref a10]) (congrArg (fun z => F0 m 18 ls [.int v3, va_rf z]) e11) ?_
    refine gq_go (va_runV (b := a10) (As := [.int v3]) (rest := []) ⟨hx, hb, hml, hown, hts⟩ (c_LR_findLine l G a10 v3 _ _ e8) (cwV 1 hts (gq_gV wd_123 wd_124 wd_125 wd_38 wd_122) rfl rfl rfl (by decide +kernel) ⟨Nat.le_trans (Nat.le_of_ble_eq_true rfl) hRf, Nat.le_trans (Nat.le_of_ble_eq_true rfl) hRl⟩) (gq_preV hK hN hM hS hb0 e9 (C := R_LR) (T := T_LR) (N := 5) rfl) rfl rfl hl.1 rfl (lv_room (Nat.le_of_ble_eq_true rfl)) d_LR_option_18 ⟨(Nat.le_trans (Nat.le_of_ble_eq_true rfl) hRc), (Nat.le_trans (Nat.le_of_ble_eq_true rfl) hRs)⟩) hS (fun H locs hM hS => ?_)
    refine W.eq (g2 := F0 m 21 ls [va_rf q7.1]) rfl ?_
    refine mx_astore (lv' := [(7, va_rf q7.1), (6, va_rf q1.1), (0, va_rf (some a0)), (1, .int v1), (2, .int v2), (3, .int v3), (4, .long v4)]) hx hb d_LR_option_21 hl (by decide) (by simp [mx_cat, mx_cati, mx_catl, mx_catr]) (fun ls hl => ?_)
    refine mx_aload hx hb d_LR_option_23 (lv_at hl 1 rfl) ?_
    refine mx_ifnull (tgt := 38) hx hb d_LR_option_25 (by decide) (fun c12 => ?_) (fun c12 => ?_)
    · rw [if_pos c12] at h
      refine lv_bipush (v := (-11)) hx hb d_LR_option_38 (by decide) ?_
      cases h
      refine W.widen (k := 1) (n := 3) (by decide) (by decide) ?_
      exact W.iret hx hb hr (fun t ht hW => ⟨⟨rfl, by rw [ht]; exact hM⟩, hS.F ht⟩) hS.2.2 d_LR_option_40
    · rw [if_neg c12] at h
      refine lv_iload_n hx hb d_LR_option_28 rfl (lv_at hl 4 rfl) ?_
      refine lv_iconst (v := 2) hx hb d_LR_option_29 (by decide) ?_
      refine lv_icmp_eq (tgt := 41) hx hb d_LR_option_30 (by decide) (fun c13 => ?_) (fun c13 => ?_)
      · rw [if_pos c13] at h
        exact wfj_LR_option_41 q CX _ _ _ _ _ _ h _ _ _ (lv_sub hl [2, 4, 6, 1, 0] rfl) hM hS
      · rw [if_neg c13] at h
        refine mx_aload hx hb d_LR_option_33 (lv_at hl 0 rfl) ?_
        refine mx_ifnonnull (tgt := 41) hx hb d_LR_option_35 (by decide) (fun c14 => ?_) (fun c14 => ?_)
        · rw [if_neg c14] at h
          exact wfj_LR_option_41 q CX _ _ _ _ _ _ h _ _ _ (lv_sub hl [2, 4, 6, 1, 0] rfl) hM hS
        · rw [if_pos c14] at h
          refine lv_bipush (v := (-11)) hx hb d_LR_option_38 (by decide) ?_
          cases h
          refine W.widen (k := 1) (n := 3) (by decide) (by decide) ?_
          exact W.iret hx hb hr (fun t ht hW => ⟨⟨rfl, by rw [ht]; exact hM⟩, hS.F ht⟩) hS.2.2 d_LR_option_40
  · rw [if_pos c6] at h
    refine mx_null hx hb d_LR_option_12 ?_
    refine lv_goto (tgt := 21) hx hb d_LR_option_13 (by decide) ?_
    refine mx_astore (lv' := [(7, va_rf none), (6, va_rf q1.1), (0, va_rf (some a0)), (1, .int v1), (2, .int v2), (3, .int v3), (4, .long v4)]) hx hb d_LR_option_21 hl (by decide) (by simp [mx_cat, mx_cati, mx_catl, mx_catr]) (fun ls hl => ?_)
    refine mx_aload hx hb d_LR_option_23 (lv_at hl 1 rfl) ?_
    refine mx_ifnull (tgt := 38) hx hb d_LR_option_25 (by decide) (fun c7 => ?_) (fun c7 => ?_)
    · rw [if_pos c7] at h
      refine lv_bipush (v := (-11)) hx hb d_LR_option_38 (by decide) ?_
      cases h
      refine W.widen (k := 1) (n := 3) (by decide) (by decide) ?_
      exact W.iret hx hb hr (fun t ht hW => ⟨⟨rfl, by rw [ht]; exact hM⟩, hS.F ht⟩) hS.2.2 d_LR_option_40
    · rw [if_neg c7] at h
      refine lv_iload_n hx hb d_LR_option_28 rfl (lv_at hl 4 rfl) ?_
      refine lv_iconst (v := 2) hx hb d_LR_option_29 (by decide) ?_
      refine lv_icmp_eq (tgt := 41) hx hb d_LR_option_30 (by decide) (fun c8 => ?_) (fun c8 => ?_)
      · rw [if_pos c8] at h
        exact wfj_LR_option_41 q CX _ _ _ _ _ _ h _ _ _ (lv_sub hl [2, 4, 6, 1, 0] rfl) hM hS
      · rw [if_neg c8] at h
        refine mx_aload hx hb d_LR_option_33 (lv_at hl 0 rfl) ?_
        refine mx_ifnonnull (tgt := 41) hx hb d_LR_option_35 (by decide) (fun c9 => ?_) (fun c9 => ?_)
        · rw [if_neg c9] at h
          exact wfj_LR_option_41 q CX _ _ _ _ _ _ h _ _ _ (lv_sub hl [2, 4, 6, 1, 0] rfl) hM hS
        · rw [if_pos c9] at h
          refine lv_bipush (v := (-11)) hx hb d_LR_option_38 (by decide) ?_
          cases h
          refine W.widen (k := 1) (n := 3) (by decide) (by decide) ?_
          exact W.iret hx hb hr (fun t ht hW => ⟨⟨rfl, by rw [ht]; exact hM⟩, hS.F ht⟩) hS.2.2 d_LR_option_40
set_option maxHeartbeats 4000000 in
set_option maxRecDepth 100000 in
theorem c_Mo_isLoad (l : Launch) (G : mx_G) (a0 : Nat) (v1 : Int32) (mem : mx_Mem) (q : Int32 × mx_Mem) (h : f_Mo_isLoad a0 v1 mem = some q) : Met l y_Mo_isLoad (gq_w y_Mo_isLoad b_Mo_isLoad 2 (some .boolean)) { frames := 0, cells := 0, slots := 0, locals := 0 } (gq_P G [.ref a0, .int v1] mem) (gq_Q G (some (.int q.1)) q.2) 0 0 (mx_A G) := by
  refine Met.ofW (cc := b_Mo_isLoad) (maxL := 2) (ret := (some .boolean)) (by decide) rfl ?_
  intro p e s m args below meth c s₁ B hml hv
  obtain ⟨rfl, hb0, hM, hK, hN⟩ := hv
  have CX : gq_C p (headSpec (gq_w y_Mo_isLoad b_Mo_isLoad 2 (some .boolean)) { frames := 0, cells := 0, slots := 0, locals := 0 }).room s m _ meth c G b_Mo_isLoad 2 (some .boolean) R_Mo 0 0 0 0 := ⟨B.exec, B.bytes, hml, B.returns, findClass_of_methodNamed B.named, fun w hw => atoms_spec (ws := gq_w y_Mo_isLoad b_Mo_isLoad 2 (some .boolean)) B.pre w (List.mem_cons_of_mem _ hw), B.notSynchronized, hK, hN, hb0, Nat.le_refl _, Nat.le_refl _, Nat.le_refl _, Nat.le_refl _⟩
  obtain ⟨hx, hb, hml, hr, hown, hts, hlocks, hK, hN, hb0, hRf, hRc, hRs, hRl⟩ := id CX
  have hS : va_S (mx_A G) s.heap s.heap [] := va_S.rf
  have hl := lv_entry [.ref a0, .int v1] (n := 2) (Nat.le_of_ble_eq_true rfl)
  rw [lg_entry_eq]
  generalize (lg_sl [.ref a0, .int v1] ++ List.replicate (2 - (lg_sl [.ref a0, .int v1]).length) Slot.unset).toArray = ls at hl ⊢
  have hl : lv_has ls 2 [(0, va_rf (some a0)), (1, .int v1)] := hl
  unfold f_Mo_isLoad at h
  refine lv_iload_n hx hb d_Mo_isLoad_0 rfl (lv_at hl 1 rfl) ?_
  refine lv_iconst (v := 1) hx hb d_Mo_isLoad_1 (by decide) ?_
  refine lv_icmp_lt (tgt := 17) hx hb d_Mo_isLoad_2 (by decide) (fun c1 => ?_) (fun c1 => ?_)
  · rw [if_pos c1] at h
    refine lv_iconst (v := 0) hx hb d_Mo_isLoad_17 (by decide) ?_
    cases h
    exact W.zret hx hb hr rfl (fun t ht hW => ⟨⟨rfl, by rw [ht]; exact hM⟩, hS.F ht⟩) hS.2.2 d_Mo_isLoad_18
  · rw [if_neg c1] at h
    refine lv_iload_n hx hb d_Mo_isLoad_5 rfl (lv_at hl 1 rfl) ?_
    refine mx_aload_n hx hb d_Mo_isLoad_6 rfl (lv_at hl 0 rfl) ?_
    obtain ⟨x2, e3, h⟩ := mx_b h
    refine mx_geti hx hb hts i_Mo hown hK hM e3 (ci := 4) (C := R_Mo) (T := T_Mo) (N := 23) rfl 9 (by decide) (hts _ wd_142) d_Mo_isLoad_7 ?_
    refine lv_icmp_gt (tgt := 17) hx hb d_Mo_isLoad_10 (by decide) (fun c4 => ?_) (fun c4 => ?_)
    · rw [if_pos c4] at h
      refine lv_iconst (v := 0) hx hb d_Mo_isLoad_17 (by decide) ?_
      cases h
      exact W.zret hx hb hr rfl (fun t ht hW => ⟨⟨rfl, by rw [ht]; exact hM⟩, hS.F ht⟩) hS.2.2 d_Mo_isLoad_18
    · rw [if_neg c4] at h
      refine lv_iconst (v := 1) hx hb d_Mo_isLoad_13 (by decide) ?_
      refine lv_goto (tgt := 18) hx hb d_Mo_isLoad_14 (by decide) ?_
      cases h
      exact W.zret hx hb hr rfl (fun t ht hW => ⟨⟨rfl, by rw [ht]; exact hM⟩, hS.F ht⟩) hS.2.2 d_Mo_isLoad_18
set_option maxHeartbeats 4000000 in
set_option maxRecDepth 100000 in
theorem c_Mo_isDirect (l : Launch) (G : mx_G) (a0 : Nat) (v1 : Int32) (mem : mx_Mem) (q : Int32 × mx_Mem) (h : f_Mo_isDirect a0 v1 mem = some q) : Met l y_Mo_isDirect (gq_w y_Mo_isDirect b_Mo_isDirect 2 (some .boolean)) { frames := 0, cells := 0, slots := 0, locals := 0 } (gq_P G [.ref a0, .int v1] mem) (gq_Q G (some (.int q.1)) q.2) 0 0 (mx_A G) := by
  refine Met.ofW (cc := b_Mo_isDirect) (maxL := 2) (ret := (some .boolean)) (by decide) rfl ?_
  intro p e s m args below meth c s₁ B hml hv
  obtain ⟨rfl, hb0, hM, hK, hN⟩ := hv
  have CX : gq_C p (headSpec (gq_w y_Mo_isDirect b_Mo_isDirect 2 (some .boolean)) { frames := 0, cells := 0, slots := 0, locals := 0 }).room s m _ meth c G b_Mo_isDirect 2 (some .boolean) R_Mo 0 0 0 0 := ⟨B.exec, B.bytes, hml, B.returns, findClass_of_methodNamed B.named, fun w hw => atoms_spec (ws := gq_w y_Mo_isDirect b_Mo_isDirect 2 (some .boolean)) B.pre w (List.mem_cons_of_mem _ hw), B.notSynchronized, hK, hN, hb0, Nat.le_refl _, Nat.le_refl _, Nat.le_refl _, Nat.le_refl _⟩
  obtain ⟨hx, hb, hml, hr, hown, hts, hlocks, hK, hN, hb0, hRf, hRc, hRs, hRl⟩ := id CX
  have hS : va_S (mx_A G) s.heap s.heap [] := va_S.rf
  have hl := lv_entry [.ref a0, .int v1] (n := 2) (Nat.le_of_ble_eq_true rfl)
  rw [lg_entry_eq]
  generalize (lg_sl [.ref a0, .int v1] ++ List.replicate (2 - (lg_sl [.ref a0, .int v1]).length) Slot.unset).toArray = ls at hl ⊢
  have hl : lv_has ls 2 [(0, va_rf (some a0)), (1, .int v1)] := hl
  unfold f_Mo_isDirect at h
  refine mx_aload_n hx hb d_Mo_isDirect_0 rfl (lv_at hl 0 rfl) ?_
  obtain ⟨x1, e2, h⟩ := mx_b h
  refine mx_getr hx hb hts i_Mo hown hK hM e2 (ci := 4) (C := R_Mo) (T := T_Mo) (N := 23) rfl 3 (by decide) (hts _ wd_13) d_Mo_isDirect_1 ?_
  refine mx_aload_n hx hb d_Mo_isDirect_4 rfl (lv_at hl 0 rfl) ?_
  obtain ⟨x3, e4, h⟩ := mx_b h
  refine mx_getr hx hb hts i_Mo hown hK hM e4 (ci := 4) (C := R_Mo) (T := T_Mo) (N := 23) rfl 10 (by decide) (hts _ wd_20) d_Mo_isDirect_5 ?_
  refine lv_iload_n hx hb d_Mo_isDirect_8 rfl (lv_at hl 1 rfl) ?_
  obtain ⟨x5, e6, h⟩ := mx_b h
  refine mx_iald hx hb hK hM e6 rfl d_Mo_isDirect_9 ?_
  obtain ⟨x7, e8, h⟩ := mx_b h
  refine mx_iald hx hb hK hM e8 rfl d_Mo_isDirect_10 ?_
  refine mx_aload_n hx hb d_Mo_isDirect_11 rfl (lv_at hl 0 rfl) ?_
  obtain ⟨x9, e10, h⟩ := mx_b h
  refine mx_getr hx hb hts i_Mo hown hK hM e10 (ci := 4) (C := R_Mo) (T := T_Mo) (N := 23) rfl 11 (by decide) (hts _ wd_21) d_Mo_isDirect_12 ?_
  refine lv_iload_n hx hb d_Mo_isDirect_15 rfl (lv_at hl 1 rfl) ?_
  obtain ⟨x11, e12, h⟩ := mx_b h
  refine mx_iald hx hb hK hM e12 rfl d_Mo_isDirect_16 ?_
  refine lv_icmp_ne (tgt := 24) hx hb d_Mo_isDirect_17 (by decide) (fun c13 => ?_) (fun c13 => ?_)
  · rw [if_neg c13] at h
    refine lv_iconst (v := 0) hx hb d_Mo_isDirect_24 (by decide) ?_
    cases h
    exact W.zret hx hb hr rfl (fun t ht hW => ⟨⟨rfl, by rw [ht]; exact hM⟩, hS.F ht⟩) hS.2.2 d_Mo_isDirect_25
  · rw [if_pos c13] at h
    refine lv_iconst (v := 1) hx hb d_Mo_isDirect_20 (by decide) ?_
    refine lv_goto (tgt := 25) hx hb d_Mo_isDirect_21 (by decide) ?_
    cases h
    exact W.zret hx hb hr rfl (fun t ht hW => ⟨⟨rfl, by rw [ht]; exact hM⟩, hS.F ht⟩) hS.2.2 d_Mo_isDirect_25
set_option maxHeartbeats 4000000 in
set_option maxRecDepth 100000 in
theorem wfj_Mo_option_128 {p : Program} {l : Launch} {e : Env} {R : Room} {s : State} {m : MethodId} {args : Array Value} {below : List Frame} {meth : Method} {c : Code} {G : mx_G} (q : Int32 × mx_Mem) (CX : gq_C p R s m args meth c G b_Mo_option 8 (some .int) R_Mo 1 0 0 25) (v0 : Option Nat) (v1 : Int32) (v2 : Int32) (v3 : Int32) (v4 : Int64) (mem : mx_Mem) (h : fj_Mo_option_128 v0 v1 v2 v3 v4 mem = some q) (H : Heap) (locs : List Loc) (ls : Array Slot) (hl : lv_has ls 8 [(0, va_rf v0), (1, .int v1), (2, .int v2), (3, .int v3), (4, .long v4)]) (hM : mx_M vwCl G mem H) (hS : va_S (mx_A G) s.heap H locs) : W p l e R s m args below meth c H locs 0 0 (MQ below (gq_Q G (some (.int q.1)) q.2) args s 0 0 (mx_A G)) (F0 m 128 ls []) := by
  obtain ⟨hx, hb, hml, hr, hown, hts, hlocks, hK, hN, hb0, hRf, hRc, hRs, hRl⟩ := id CX
  rw [fj_Mo_option_128] at h
  refine mx_aload_n hx hb d_Mo_option_128 rfl (lv_at hl 0 rfl) ?_
  obtain ⟨x1, e2, h⟩ := mx_b h
  refine mx_getr hx hb hts i_Mo hown hK hM e2 (ci := 4) (C := R_Mo) (T := T_Mo) (N := 23) rfl 14 (by decide) (hts _ wd_24) d_Mo_option_129 ?_
  refine lv_iload_n hx hb d_Mo_option_132 rfl (lv_at hl 1 rfl) ?_
  obtain ⟨x3, e4, h⟩ := mx_b h
  refine mx_iald hx hb hK hM e4 rfl d_Mo_option_133 ?_
  refine lv_iconst (v := 4) hx hb d_Mo_option_134 (by decide) ?_
  refine lv_icmp_ne (tgt := 141) hx hb d_Mo_option_135 (by decide) (fun c5 => ?_) (fun c5 => ?_)
  · rw [if_neg c5] at h
    refine lv_iconst (v := 4) hx hb d_Mo_option_141 (by decide) ?_
    refine lv_iload_n hx hb d_Mo_option_142 rfl (lv_at hl 1 rfl) ?_
    refine lv_imul hx hb d_Mo_option_143 ?_
    refine mx_aload_n hx hb d_Mo_option_144 rfl (lv_at hl 0 rfl) ?_
    obtain ⟨x6, e7, h⟩ := mx_b h
    refine mx_getr hx hb hts i_Mo hown hK hM e7 (ci := 4) (C := R_Mo) (T := T_Mo) (N := 23) rfl 14 (by decide) (hts _ wd_24) d_Mo_option_145 ?_
    refine lv_iload_n hx hb d_Mo_option_148 rfl (lv_at hl 1 rfl) ?_
    obtain ⟨x8, e9, h⟩ := mx_b h
    refine mx_iald hx hb hK hM e9 rfl d_Mo_option_149 ?_
    refine lv_iadd hx hb d_Mo_option_150 ?_
    refine lv_istore (lv' := [(7, .int (((4 * v1) + x8))), (0, va_rf v0), (1, .int v1), (2, .int v2), (3, .int v3), (4, .long v4)]) hx hb d_Mo_option_151 hl (by decide) rfl (fun ls hl => ?_)
    refine mx_aload_n hx hb d_Mo_option_153 rfl (lv_at hl 1 rfl) ?_
    obtain ⟨x10, e11, h⟩ := mx_b h
    refine mx_getr hx hb hts i_Mo hown hK hM e11 (ci := 4) (C := R_Mo) (T := T_Mo) (N := 23) rfl 16 (by decide) (hts _ wd_26) d_Mo_option_154 ?_
    refine lv_iload hx hb d_Mo_option_157 (lv_at hl 0 rfl) ?_
    refine lv_iload_n hx hb d_Mo_option_159 rfl (lv_at hl 3 rfl) ?_
    obtain ⟨m13, e12, h⟩ := mx_b h
    refine mx_iast hx hb hK hM hS e12 rfl d_Mo_option_160 (fun H locs hM hS => ?_)
    refine mx_aload_n hx hb d_Mo_option_161 rfl (lv_at hl 1 rfl) ?_
    obtain ⟨x14, e15, h⟩ := mx_b h
    refine mx_getr hx hb hts i_Mo hown hK hM e15 (ci := 4) (C := R_Mo) (T := T_Mo) (N := 23) rfl 17 (by decide) (hts _ wd_27) d_Mo_option_162 ?_
    refine lv_iload hx hb d_Mo_option_165 (lv_at hl 0 rfl) ?_
    refine lv_iload_n hx hb d_Mo_option_167 rfl (lv_at hl 3 rfl) ?_
    refine lv_iconst (v := 2) hx hb d_Mo_option_168 (by decide) ?_
    refine lv_icmp_ne (tgt := 176) hx hb d_Mo_option_169 (by decide) (fun c16 => ?_) (fun c16 => ?_)
    · rw [if_neg c16] at h
      refine lv_iload_n hx hb d_Mo_option_176 rfl (lv_at hl 4 rfl) ?_
      obtain ⟨m18, e17, h⟩ := mx_b h
      refine mx_iast hx hb hK hM hS e17 rfl d_Mo_option_177 (fun H locs hM hS => ?_)
      refine mx_aload_n hx hb d_Mo_option_178 rfl (lv_at hl 1 rfl) ?_
      obtain ⟨x19, e20, h⟩ := mx_b h
      refine mx_getr hx hb hts i_Mo hown hK hM e20 (ci := 4) (C := R_Mo) (T := T_Mo) (N := 23) rfl 18 (by decide) (hts _ wd_28) d_Mo_option_179 ?_
      refine lv_iload hx hb d_Mo_option_182 (lv_at hl 0 rfl) ?_
      refine lv_lload hx hb d_Mo_option_184 (lv_at hl 5 rfl) ?_
      obtain ⟨m22, e21, h⟩ := mx_b h
      refine mx_last hx hb hK hM hS e21 rfl d_Mo_option_186 (fun H locs hM hS => ?_)
      refine mx_aload_n hx hb d_Mo_option_187 rfl (lv_at hl 1 rfl) ?_
      obtain ⟨x23, e24, h⟩ := mx_b h
      refine mx_getr hx hb hts i_Mo hown hK hM e24 (ci := 4) (C := R_Mo) (T := T_Mo) (N := 23) rfl 14 (by decide) (hts _ wd_24) d_Mo_option_188 ?_
      refine lv_iload_n hx hb d_Mo_option_191 rfl (lv_at hl 2 rfl) ?_
      refine lv_dup2_11 hx hb d_Mo_option_192 rfl (mx_cat _) ?_
      obtain ⟨x25, e26, h⟩ := mx_b h
      refine mx_iald hx hb hK hM e26 rfl d_Mo_option_193 ?_
      refine lv_iconst (v := 1) hx hb d_Mo_option_194 (by decide) ?_
      refine lv_iadd hx hb d_Mo_option_195 ?_
      obtain ⟨m28, e27, h⟩ := mx_b h
      refine mx_iast hx hb hK hM hS e27 rfl d_Mo_option_196 (fun H locs hM hS => ?_)
      refine mx_aload_n hx hb d_Mo_option_197 rfl (lv_at hl 1 rfl) ?_
      obtain ⟨x29, e30, h⟩ := mx_b h
      refine mx_getr hx hb hts i_Mo hown hK hM e30 (ci := 4) (C := R_Mo) (T := T_Mo) (N := 23) rfl 14 (by decide) (hts _ wd_24) d_Mo_option_198 ?_
      refine lv_iload_n hx hb d_Mo_option_201 rfl (lv_at hl 2 rfl) ?_
      obtain ⟨x31, e32, h⟩ := mx_b h
      refine mx_iald hx hb hK hM e32 rfl d_Mo_option_202 ?_
      refine lv_iconst (v := 1) hx hb d_Mo_option_203 (by decide) ?_
      refine lv_isub hx hb d_Mo_option_204 ?_
      cases h
      exact W.iret hx hb hr (fun t ht hW => ⟨⟨rfl, by rw [ht]; exact hM⟩, hS.F ht⟩) hS.2.2 d_Mo_option_205
    · rw [if_pos c16] at h
      refine lv_iconst (v := 0) hx hb d_Mo_option_172 (by decide) ?_
      refine lv_goto (tgt := 177) hx hb d_Mo_option_173 (by decide) ?_
      obtain ⟨m18, e17, h⟩ := mx_b h
      refine mx_iast hx hb hK hM hS e17 rfl d_Mo_option_177 (fun H locs hM hS => ?_)
      refine mx_aload_n hx hb d_Mo_option_178 rfl (lv_at hl 1 rfl) ?_
      obtain ⟨x19, e20, h⟩ := mx_b h
      refine mx_getr hx hb hts i_Mo hown hK hM e20 (ci := 4) (C := R_Mo) (T := T_Mo) (N := 23) rfl 18 (by decide) (hts _ wd_28) d_Mo_option_179 ?_
      refine lv_iload hx hb d_Mo_option_182 (lv_at hl 0 rfl) ?_
      refine lv_lload hx hb d_Mo_option_184 (lv_at hl 5 rfl) ?_
      obtain ⟨m22, e21, h⟩ := mx_b h
      refine mx_last hx hb hK hM hS e21 rfl d_Mo_option_186 (fun H locs hM hS => ?_)
      refine mx_aload_n hx hb d_Mo_option_187 rfl (lv_at hl 1 rfl) ?_
      obtain ⟨x23, e24, h⟩ := mx_b h
      refine mx_getr hx hb hts i_Mo hown hK hM e24 (ci := 4) (C := R_Mo) (T := T_Mo) (N := 23) rfl 14 (by decide) (hts _ wd_24) d_Mo_option_188 ?_
      refine lv_iload_n hx hb d_Mo_option_191 rfl (lv_at hl 2 rfl) ?_
      refine lv_dup2_11 hx hb d_Mo_option_192 rfl (mx_cat _) ?_
      obtain ⟨x25, e26, h⟩ := mx_b h
      refine mx_iald hx hb hK hM e26 rfl d_Mo_option_193 ?_
      refine lv_iconst (v := 1) hx hb d_Mo_option_194 (by decide) ?_
      refine lv_iadd hx hb d_Mo_option_195 ?_
      obtain ⟨m28, e27, h⟩ := mx_b h
      refine mx_iast hx hb hK hM hS e27 rfl d_Mo_option_196 (fun H locs hM hS => ?_)
      refine mx_aload_n hx hb d_Mo_option_197 rfl (lv_at hl 1 rfl) ?_
      obtain ⟨x29, e30, h⟩ := mx_b h
      refine mx_getr hx hb hts i_Mo hown hK hM e30 (ci := 4) (C := R_Mo) (T := T_Mo) (N := 23) rfl 14 (by decide) (hts _ wd_24) d_Mo_option_198 ?_
      refine lv_iload_n hx hb d_Mo_option_201 rfl (lv_at hl 2 rfl) ?_
      obtain ⟨x31, e32, h⟩ := mx_b h
      refine mx_iald hx hb hK hM e32 rfl d_Mo_option_202 ?_
      refine lv_iconst (v := 1) hx hb d_Mo_option_203 (by decide) ?_
      refine lv_isub hx hb d_Mo_option_204 ?_
      cases h
      exact W.iret hx hb hr (fun t ht hW => ⟨⟨rfl, by rw [ht]; exact hM⟩, hS.F ht⟩) hS.2.2 d_Mo_option_205
  · rw [if_pos c5] at h
    refine lv_bipush (v := (-14)) hx hb d_Mo_option_138 (by decide) ?_
    cases h
    exact W.iret hx hb hr (fun t ht hW => ⟨⟨rfl, by rw [ht]; exact hM⟩, hS.F ht⟩) hS.2.2 d_Mo_option_140
set_option maxHeartbeats 4000000 in
set_option maxRecDepth 100000 in
theorem wfj_Mo_option_29 {p : Program} {l : Launch} {e : Env} {R : Room} {s : State} {m : MethodId} {args : Array Value} {below : List Frame} {meth : Method} {c : Code} {G : mx_G} (q : Int32 × mx_Mem) (CX : gq_C p R s m args meth c G b_Mo_option 8 (some .int) R_Mo 1 0 0 25) (v0 : Option Nat) (v1 : Int32) (v2 : Int32) (v3 : Int32) (v4 : Int64) (mem : mx_Mem) (h : fj_Mo_option_29 v0 v1 v2 v3 v4 mem = some q) (H : Heap) (locs : List Loc) (ls : Array Slot) (hl : lv_has ls 8 [(0, va_rf v0), (1, .int v1), (2, .int v2), (3, .int v3), (4, .long v4)]) (hM : mx_M vwCl G mem H) (hS : va_S (mx_A G) s.heap H locs) : W p l e R s m args below meth c H locs 0 0 (MQ below (gq_Q G (some (.int q.1)) q.2) args s 0 0 (mx_A G)) (F0 m 29 ls []) := by
  obtain ⟨hx, hb, hml, hr, hown, hts, hlocks, hK, hN, hb0, hRf, hRc, hRs, hRl⟩ := id CX
  rw [fj_Mo_option_29] at h
  refine lv_iload_n hx hb d_Mo_option_29 rfl (lv_at hl 2 rfl) ?_
  refine lv_i2l hx hb d_Mo_option_30 rfl ?_
  refine lv_lconst (v := 0) hx hb d_Mo_option_31 (by decide) ?_
  refine lv_ldc2 (v := 2) hx hb hown (hts _ wd_176) d_Mo_option_32 ?_
  obtain ⟨q1, e2, h⟩ := mx_b h
  refine gq_go (va_runS (As := [.long v2.toInt64, .long 0, .long 2]) (rest := []) ⟨hx, hb, hml, hown, hts⟩ (c_Mo_in l G v2.toInt64 0 2 _ _ e2) (cwS 3 hts (gq_gS wd_112 wd_113 wd_114 wd_111) rfl rfl rfl (by decide +kernel) ⟨Nat.le_trans (Nat.le_of_ble_eq_true rfl) hRf, Nat.le_trans (Nat.le_of_ble_eq_true rfl) hRl⟩) (gq_preS hK hN hM hS hb0) rfl rfl hl.1 rfl (lv_room (Nat.le_of_ble_eq_true rfl)) d_Mo_option_35 ⟨(Nat.le_trans (Nat.le_of_ble_eq_true rfl) hRc), (Nat.le_trans (Nat.le_of_ble_eq_true rfl) hRs)⟩) hS (fun H locs hM hS => ?_)
  refine W.eq (g2 := F0 m 38 ls [.int q1.1]) rfl ?_
  refine lv_if_eq (tgt := 53) hx hb d_Mo_option_38 (by decide) (fun c4 => ?_) (fun c4 => ?_)
  · rw [if_pos c4] at h
    refine lv_bipush (v := (-12)) hx hb d_Mo_option_53 (by decide) ?_
    cases h
    exact W.iret hx hb hr (fun t ht hW => ⟨⟨rfl, by rw [ht]; exact hM⟩, hS.F ht⟩) hS.2.2 d_Mo_option_55
  · rw [if_neg c4] at h
    refine lv_lload hx hb d_Mo_option_41 (lv_at hl 4 rfl) ?_
    refine lv_lconst (v := 0) hx hb d_Mo_option_43 (by decide) ?_
    refine lv_ldc2 (v := 10000) hx hb hown (hts _ wd_115) d_Mo_option_44 ?_
    obtain ⟨q5, e6, h⟩ := mx_b h
    refine gq_go (va_runS (As := [.long v4, .long 0, .long 10000]) (rest := []) ⟨hx, hb, hml, hown, hts⟩ (c_Mo_in l G v4 0 10000 _ _ e6) (cwS 3 hts (gq_gS wd_112 wd_113 wd_114 wd_111) rfl rfl rfl (by decide +kernel) ⟨Nat.le_trans (Nat.le_of_ble_eq_true rfl) hRf, Nat.le_trans (Nat.le_of_ble_eq_true rfl) hRl⟩) (gq_preS hK hN hM hS hb0) rfl rfl hl.1 rfl (lv_room (Nat.le_of_ble_eq_true rfl)) d_Mo_option_47 ⟨(Nat.le_trans (Nat.le_of_ble_eq_true rfl) hRc), (Nat.le_trans (Nat.le_of_ble_eq_true rfl) hRs)⟩) hS (fun H locs hM hS => ?_)
    refine W.eq (g2 := F0 m 50 ls [.int q5.1]) rfl ?_
    refine lv_if_ne (tgt := 56) hx hb d_Mo_option_50 (by decide) (fun c8 => ?_) (fun c8 => ?_)
    · rw [if_neg c8] at h
      refine mx_aload_n hx hb d_Mo_option_56 rfl (lv_at hl 0 rfl) ?_
      obtain ⟨x9, e10, h⟩ := mx_b h
      refine mx_getr hx hb hts i_Mo hown hK hM e10 (ci := 4) (C := R_Mo) (T := T_Mo) (N := 23) rfl 10 (by decide) (hts _ wd_20) d_Mo_option_57 ?_
      refine lv_iload_n hx hb d_Mo_option_60 rfl (lv_at hl 1 rfl) ?_
      obtain ⟨x11, e12, h⟩ := mx_b h
      refine mx_iald hx hb hK hM e12 rfl d_Mo_option_61 ?_
      refine lv_istore (lv' := [(6, .int x11), (0, va_rf v0), (1, .int v1), (2, .int v2), (3, .int v3), (4, .long v4)]) hx hb d_Mo_option_62 hl (by decide) rfl (fun ls hl => ?_)
      refine mx_aload_n hx hb d_Mo_option_64 rfl (lv_at hl 1 rfl) ?_
      refine lv_iload_n hx hb d_Mo_option_65 rfl (lv_at hl 2 rfl) ?_
      obtain ⟨a16, e15, h⟩ := mx_b h
      obtain ⟨q13, e14, h⟩ := mx_b h
      have e17 := mx_c_eq e15
      refine W.eq (g2 := F0 m 66 ls [.int v1, .ref a16]) (congrArg (fun z => F0 m 66 ls [.int v1, va_rf z]) e17) ?_
      refine gq_go (va_runV (b := a16) (As := [.int v1]) (rest := []) ⟨hx, hb, hml, hown, hts⟩ (c_Mo_isDirect l G a16 v1 _ _ e14) (cwV 1 hts (gq_gV wd_178 wd_179 wd_180 wd_114 wd_177) rfl rfl rfl (by decide +kernel) ⟨Nat.le_trans (Nat.le_of_ble_eq_true rfl) hRf, Nat.le_trans (Nat.le_of_ble_eq_true rfl) hRl⟩) (gq_preV hK hN hM hS hb0 e15 (C := R_Mo) (T := T_Mo) (N := 23) rfl) rfl rfl hl.1 rfl (lv_room (Nat.le_of_ble_eq_true rfl)) d_Mo_option_66 ⟨(Nat.le_trans (Nat.le_of_ble_eq_true rfl) hRc), (Nat.le_trans (Nat.le_of_ble_eq_true rfl) hRs)⟩) hS (fun H locs hM hS => ?_)
      refine W.eq (g2 := F0 m 69 ls [.int q13.1]) rfl ?_
      refine lv_if_ne (tgt := 125) hx hb d_Mo_option_69 (by decide) (fun c18 => ?_) (fun c18 => ?_)
      · rw [if_neg c18] at h
        refine lv_bipush (v := (-13)) hx hb d_Mo_option_125 (by decide) ?_
        cases h
        exact W.iret hx hb hr (fun t ht hW => ⟨⟨rfl, by rw [ht]; exact hM⟩, hS.F ht⟩) hS.2.2 d_Mo_option_127
      · rw [if_pos c18] at h
        refine lv_iload_n hx hb d_Mo_option_72 rfl (lv_at hl 3 rfl) ?_
        refine lv_iconst (v := 2) hx hb d_Mo_option_73 (by decide) ?_
        refine lv_icmp_eq (tgt := 128) hx hb d_Mo_option_74 (by decide) (fun c19 => ?_) (fun c19 => ?_)
        · rw [if_pos c19] at h
          exact wfj_Mo_option_128 q CX _ _ _ _ _ _ h _ _ _ (lv_sub hl [1, 2, 3, 4, 5] rfl) hM hS
        · rw [if_neg c19] at h
          refine mx_aload_n hx hb d_Mo_option_77 rfl (lv_at hl 1 rfl) ?_
          obtain ⟨x20, e21, h⟩ := mx_b h
          refine mx_getr hx hb hts i_Mo hown hK hM e21 (ci := 4) (C := R_Mo) (T := T_Mo) (N := 23) rfl 2 (by decide) (hts _ wd_12) d_Mo_option_78 ?_
          refine lv_iload_n hx hb d_Mo_option_81 rfl (lv_at hl 4 rfl) ?_
          obtain ⟨x22, e23, h⟩ := mx_b h
          refine mx_iald hx hb hK hM e23 rfl d_Mo_option_82 ?_
          refine mx_aload_n hx hb d_Mo_option_83 rfl (lv_at hl 1 rfl) ?_
          obtain ⟨x24, e25, h⟩ := mx_b h
          refine mx_getr hx hb hts i_Mo hown hK hM e25 (ci := 4) (C := R_Mo) (T := T_Mo) (N := 23) rfl 3 (by decide) (hts _ wd_13) d_Mo_option_84 ?_
          refine lv_iload hx hb d_Mo_option_87 (lv_at hl 0 rfl) ?_
          obtain ⟨x26, e27, h⟩ := mx_b h
          refine mx_iald hx hb hK hM e27 rfl d_Mo_option_89 ?_
          refine lv_icmp_ne (tgt := 125) hx hb d_Mo_option_90 (by decide) (fun c28 => ?_) (fun c28 => ?_)
          · rw [if_neg c28] at h
            refine lv_bipush (v := (-13)) hx hb d_Mo_option_125 (by decide) ?_
            cases h
            exact W.iret hx hb hr (fun t ht hW => ⟨⟨rfl, by rw [ht]; exact hM⟩, hS.F ht⟩) hS.2.2 d_Mo_option_127
          · rw [if_pos c28] at h
            refine mx_aload_n hx hb d_Mo_option_93 rfl (lv_at hl 1 rfl) ?_
            obtain ⟨x29, e30, h⟩ := mx_b h
            refine mx_getr hx hb hts i_Mo hown hK hM e30 (ci := 4) (C := R_Mo) (T := T_Mo) (N := 23) rfl 3 (by decide) (hts _ wd_13) d_Mo_option_94 ?_
            refine lv_iload_n hx hb d_Mo_option_97 rfl (lv_at hl 4 rfl) ?_
            obtain ⟨x31, e32, h⟩ := mx_b h
            refine mx_iald hx hb hK hM e32 rfl d_Mo_option_98 ?_
            refine mx_aload_n hx hb d_Mo_option_99 rfl (lv_at hl 1 rfl) ?_
            obtain ⟨x33, e34, h⟩ := mx_b h
            refine mx_getr hx hb hts i_Mo hown hK hM e34 (ci := 4) (C := R_Mo) (T := T_Mo) (N := 23) rfl 11 (by decide) (hts _ wd_21) d_Mo_option_100 ?_
            refine lv_iload_n hx hb d_Mo_option_103 rfl (lv_at hl 2 rfl) ?_
            obtain ⟨x35, e36, h⟩ := mx_b h
            refine mx_iald hx hb hK hM e36 rfl d_Mo_option_104 ?_
            refine lv_icmp_ne (tgt := 125) hx hb d_Mo_option_105 (by decide) (fun c37 => ?_) (fun c37 => ?_)
            · rw [if_neg c37] at h
              refine lv_bipush (v := (-13)) hx hb d_Mo_option_125 (by decide) ?_
              cases h
              exact W.iret hx hb hr (fun t ht hW => ⟨⟨rfl, by rw [ht]; exact hM⟩, hS.F ht⟩) hS.2.2 d_Mo_option_127
            · rw [if_pos c37] at h
              refine mx_aload_n hx hb d_Mo_option_108 rfl (lv_at hl 1 rfl) ?_
              obtain ⟨x38, e39, h⟩ := mx_b h
              refine mx_getr hx hb hts i_Mo hown hK hM e39 (ci := 4) (C := R_Mo) (T := T_Mo) (N := 23) rfl 4 (by decide) (hts _ wd_15) d_Mo_option_109 ?_
              refine lv_iload_n hx hb d_Mo_option_112 rfl (lv_at hl 4 rfl) ?_
              obtain ⟨x40, e41, h⟩ := mx_b h
              refine mx_lald hx hb hK hM e41 rfl d_Mo_option_113 ?_
              refine mx_aload_n hx hb d_Mo_option_114 rfl (lv_at hl 1 rfl) ?_
              obtain ⟨x42, e43, h⟩ := mx_b h
              refine mx_getr hx hb hts i_Mo hown hK hM e43 (ci := 4) (C := R_Mo) (T := T_Mo) (N := 23) rfl 4 (by decide) (hts _ wd_15) d_Mo_option_115 ?_
              refine lv_iload hx hb d_Mo_option_118 (lv_at hl 0 rfl) ?_
              obtain ⟨x44, e45, h⟩ := mx_b h
              refine mx_lald hx hb hK hM e45 rfl d_Mo_option_120 ?_
              refine mx_lcmp_gt (tgt := 128) hx hb d_Mo_option_121 d_Mo_option_122 (by decide) (fun c46 => ?_) (fun c46 => ?_)
              · rw [if_pos c46] at h
                exact wfj_Mo_option_128 q CX _ _ _ _ _ _ h _ _ _ (lv_sub hl [1, 2, 3, 4, 5] rfl) hM hS
              · rw [if_neg c46] at h
                refine lv_bipush (v := (-13)) hx hb d_Mo_option_125 (by decide) ?_
                cases h
                exact W.iret hx hb hr (fun t ht hW => ⟨⟨rfl, by rw [ht]; exact hM⟩, hS.F ht⟩) hS.2.2 d_Mo_option_127
    · rw [if_pos c8] at h
      refine lv_bipush (v := (-12)) hx hb d_Mo_option_53 (by decide) ?_
      cases h
      exact W.iret hx hb hr (fun t ht hW => ⟨⟨rfl, by rw [ht]; exact hM⟩, hS.F ht⟩) hS.2.2 d_Mo_option_55
set_option maxHeartbeats 4000000 in
set_option maxRecDepth 100000 in
theorem c_Mo_option (l : Launch) (G : mx_G) (a0 : Nat) (v1 : Int32) (v2 : Int32) (v3 : Int32) (v4 : Int64) (mem : mx_Mem) (q : Int32 × mx_Mem) (h : f_Mo_option a0 v1 v2 v3 v4 mem = some q) : Met l y_Mo_option (gq_w y_Mo_option b_Mo_option 8 (some .int)) { frames := 1, cells := 0, slots := 0, locals := 25 } (gq_P G [.ref a0, .int v1, .int v2, .int v3, .long v4] mem) (gq_Q G (some (.int q.1)) q.2) 0 0 (mx_A G) := by
  refine Met.ofW (cc := b_Mo_option) (maxL := 8) (ret := (some .int)) (by decide) rfl ?_
  intro p e s m args below meth c s₁ B hml hv
  obtain ⟨rfl, hb0, hM, hK, hN⟩ := hv
  have CX : gq_C p (headSpec (gq_w y_Mo_option b_Mo_option 8 (some .int)) { frames := 1, cells := 0, slots := 0, locals := 25 }).room s m _ meth c G b_Mo_option 8 (some .int) R_Mo 1 0 0 25 := ⟨B.exec, B.bytes, hml, B.returns, findClass_of_methodNamed B.named, fun w hw => atoms_spec (ws := gq_w y_Mo_option b_Mo_option 8 (some .int)) B.pre w (List.mem_cons_of_mem _ hw), B.notSynchronized, hK, hN, hb0, Nat.le_refl _, Nat.le_refl _, Nat.le_refl _, Nat.le_refl _⟩
  obtain ⟨hx, hb, hml, hr, hown, hts, hlocks, hK, hN, hb0, hRf, hRc, hRs, hRl⟩ := id CX
  have hS : va_S (mx_A G) s.heap s.heap [] := va_S.rf
  have hl := lv_entry [.ref a0, .int v1, .int v2, .int v3, .long v4] (n := 8) (Nat.le_of_ble_eq_true rfl)
  rw [lg_entry_eq]
  generalize (lg_sl [.ref a0, .int v1, .int v2, .int v3, .long v4] ++ List.replicate (8 - (lg_sl [.ref a0, .int v1, .int v2, .int v3, .long v4]).length) Slot.unset).toArray = ls at hl ⊢
  have hl : lv_has ls 8 [(0, va_rf (some a0)), (1, .int v1), (2, .int v2), (3, .int v3), (4, .long v4)] := hl
  unfold f_Mo_option at h
  refine mx_aload_n hx hb d_Mo_option_0 rfl (lv_at hl 0 rfl) ?_
  refine lv_iconst (v := 0) hx hb d_Mo_option_1 (by decide) ?_
  obtain ⟨m1, e2, h⟩ := mx_b h
  refine mx_put hx hb hts i_Mo t_Mo t_Mo_ok n_Mo hown hK hM hS e2 (ci := 4) (C := R_Mo) (T := T_Mo) (N := 23) rfl 0 (by decide) (hts _ wd_109) rfl (ty := .int) (by decide +kernel) rfl rfl d_Mo_option_2 (fun H locs hM hS => ?_)
  refine mx_aload_n hx hb d_Mo_option_5 rfl (lv_at hl 0 rfl) ?_
  refine lv_iload_n hx hb d_Mo_option_6 rfl (lv_at hl 1 rfl) ?_
  obtain ⟨a6, e5, h⟩ := mx_b h
  obtain ⟨q3, e4, h⟩ := mx_b h
  have e7 := mx_c_eq e5
  refine W.eq (g2 := F0 m 7 ls [.int v1, .ref a6]) (congrArg (fun z => F0 m 7 ls [.int v1, va_rf z]) e7) ?_
  refine gq_go (va_runV (b := a6) (As := [.int v1]) (rest := []) ⟨hx, hb, hml, hown, hts⟩ (c_Mo_isLoad l G a6 v1 _ _ e4) (cwV 1 hts (gq_gV wd_173 wd_174 wd_175 wd_114 wd_172) rfl rfl rfl (by decide +kernel) ⟨Nat.le_trans (Nat.le_of_ble_eq_true rfl) hRf, Nat.le_trans (Nat.le_of_ble_eq_true rfl) hRl⟩) (gq_preV hK hN hM hS hb0 e5 (C := R_Mo) (T := T_Mo) (N := 23) rfl) rfl rfl hl.1 rfl (lv_room (Nat.le_of_ble_eq_true rfl)) d_Mo_option_7 ⟨(Nat.le_trans (Nat.le_of_ble_eq_true rfl) hRc), (Nat.le_trans (Nat.le_of_ble_eq_true rfl) hRs)⟩) hS (fun H locs hM hS => ?_)
  refine W.eq (g2 := F0 m 10 ls [.int q3.1]) rfl ?_
  refine lv_if_eq (tgt := 26) hx hb d_Mo_option_10 (by decide) (fun c8 => ?_) (fun c8 => ?_)
  · rw [if_pos c8] at h
    refine lv_bipush (v := (-11)) hx hb d_Mo_option_26 (by decide) ?_
    cases h
    exact W.iret hx hb hr (fun t ht hW => ⟨⟨rfl, by rw [ht]; exact hM⟩, hS.F ht⟩) hS.2.2 d_Mo_option_28
  · rw [if_neg c8] at h
    refine lv_iload_n hx hb d_Mo_option_13 rfl (lv_at hl 2 rfl) ?_
    refine lv_iconst (v := 2) hx hb d_Mo_option_14 (by decide) ?_
    refine lv_icmp_eq (tgt := 29) hx hb d_Mo_option_15 (by decide) (fun c9 => ?_) (fun c9 => ?_)
    · rw [if_pos c9] at h
      exact wfj_Mo_option_29 q CX _ _ _ _ _ _ h _ _ _ (lv_sub hl [0, 1, 2, 3, 4] rfl) hM hS
    · rw [if_neg c9] at h
      refine mx_aload_n hx hb d_Mo_option_18 rfl (lv_at hl 0 rfl) ?_
      refine lv_iload_n hx hb d_Mo_option_19 rfl (lv_at hl 3 rfl) ?_
      obtain ⟨a13, e12, h⟩ := mx_b h
      obtain ⟨q10, e11, h⟩ := mx_b h
      have e14 := mx_c_eq e12
      refine W.eq (g2 := F0 m 20 ls [.int v3, .ref a13]) (congrArg (fun z => F0 m 20 ls [.int v3, va_rf z]) e14) ?_
      refine gq_go (va_runV (b := a13) (As := [.int v3]) (rest := []) ⟨hx, hb, hml, hown, hts⟩ (c_Mo_isLine l G a13 v3 _ _ e11) (cwV 1 hts (gq_gV wd_137 wd_138 wd_139 wd_114 wd_136) rfl rfl rfl (by decide +kernel) ⟨Nat.le_trans (Nat.le_of_ble_eq_true rfl) hRf, Nat.le_trans (Nat.le_of_ble_eq_true rfl) hRl⟩) (gq_preV hK hN hM hS hb0 e12 (C := R_Mo) (T := T_Mo) (N := 23) rfl) rfl rfl hl.1 rfl (lv_room (Nat.le_of_ble_eq_true rfl)) d_Mo_option_20 ⟨(Nat.le_trans (Nat.le_of_ble_eq_true rfl) hRc), (Nat.le_trans (Nat.le_of_ble_eq_true rfl) hRs)⟩) hS (fun H locs hM hS => ?_)
      refine W.eq (g2 := F0 m 23 ls [.int q10.1]) rfl ?_
      refine lv_if_ne (tgt := 29) hx hb d_Mo_option_23 (by decide) (fun c15 => ?_) (fun c15 => ?_)
      · rw [if_neg c15] at h
        exact wfj_Mo_option_29 q CX _ _ _ _ _ _ h _ _ _ (lv_sub hl [0, 1, 2, 3, 4] rfl) hM hS
      · rw [if_pos c15] at h
        refine lv_bipush (v := (-11)) hx hb d_Mo_option_26 (by decide) ?_
        cases h
        exact W.iret hx hb hr (fun t ht hW => ⟨⟨rfl, by rw [ht]; exact hM⟩, hS.F ht⟩) hS.2.2 d_Mo_option_28
set_option maxHeartbeats 4000000 in
set_option maxRecDepth 100000 in
theorem c_LR_waits (l : Launch) (G : mx_G) (a0 : Nat) (v1 : Int32) (v2 : Int64) (mem : mx_Mem) (q : Int32 × mx_Mem) (h : f_LR_waits a0 v1 v2 mem = some q) : Met l y_LR_waits (gq_w y_LR_waits b_LR_waits 6 (some .int)) { frames := 4, cells := 0, slots := 0, locals := 80 } (gq_P G [.ref a0, .int v1, .long v2] mem) (gq_Q G (some (.int q.1)) q.2) 0 0 (mx_A G) := by
  refine Met.ofW (cc := b_LR_waits) (maxL := 6) (ret := (some .int)) (by decide) rfl ?_
  intro p e s m args below meth c s₁ B hml hv
  obtain ⟨rfl, hb0, hM, hK, hN⟩ := hv
  have CX : gq_C p (headSpec (gq_w y_LR_waits b_LR_waits 6 (some .int)) { frames := 4, cells := 0, slots := 0, locals := 80 }).room s m _ meth c G b_LR_waits 6 (some .int) R_LR 4 0 0 80 := ⟨B.exec, B.bytes, hml, B.returns, findClass_of_methodNamed B.named, fun w hw => atoms_spec (ws := gq_w y_LR_waits b_LR_waits 6 (some .int)) B.pre w (List.mem_cons_of_mem _ hw), B.notSynchronized, hK, hN, hb0, Nat.le_refl _, Nat.le_refl _, Nat.le_refl _, Nat.le_refl _⟩
  obtain ⟨hx, hb, hml, hr, hown, hts, hlocks, hK, hN, hb0, hRf, hRc, hRs, hRl⟩ := id CX
  have hS : va_S (mx_A G) s.heap s.heap [] := va_S.rf
  have hl := lv_entry [.ref a0, .int v1, .long v2] (n := 6) (Nat.le_of_ble_eq_true rfl)
  rw [lg_entry_eq]
  generalize (lg_sl [.ref a0, .int v1, .long v2] ++ List.replicate (6 - (lg_sl [.ref a0, .int v1, .long v2]).length) Slot.unset).toArray = ls at hl ⊢
  have hl : lv_has ls 6 [(0, va_rf (some a0)), (1, .int v1), (2, .long v2)] := hl
  unfold f_LR_waits at h
  refine mx_aload_n hx hb d_LR_waits_0 rfl (lv_at hl 0 rfl) ?_
  refine lv_iload_n hx hb d_LR_waits_1 rfl (lv_at hl 1 rfl) ?_
  obtain ⟨a4, e3, h⟩ := mx_b h
  obtain ⟨q1, e2, h⟩ := mx_b h
  have e5 := mx_c_eq e3
  refine W.eq (g2 := F0 m 2 ls [.int v1, .ref a4]) (congrArg (fun z => F0 m 2 ls [.int v1, va_rf z]) e5) ?_
  refine gq_go (va_runV (b := a4) (As := [.int v1]) (rest := []) ⟨hx, hb, hml, hown, hts⟩ (c_LR_findLine l G a4 v1 _ _ e2) (cwV 1 hts (gq_gV wd_123 wd_124 wd_125 wd_38 wd_122) rfl rfl rfl (by decide +kernel) ⟨Nat.le_trans (Nat.le_of_ble_eq_true rfl) hRf, Nat.le_trans (Nat.le_of_ble_eq_true rfl) hRl⟩) (gq_preV hK hN hM hS hb0 e3 (C := R_LR) (T := T_LR) (N := 5) rfl) rfl rfl hl.1 rfl (lv_room (Nat.le_of_ble_eq_true rfl)) d_LR_waits_2 ⟨(Nat.le_trans (Nat.le_of_ble_eq_true rfl) hRc), (Nat.le_trans (Nat.le_of_ble_eq_true rfl) hRs)⟩) hS (fun H locs hM hS => ?_)
  refine W.eq (g2 := F0 m 5 ls [va_rf q1.1]) rfl ?_
  refine mx_astore (lv' := [(4, va_rf q1.1), (0, va_rf (some a0)), (1, .int v1), (2, .long v2)]) hx hb d_LR_waits_5 hl (by decide) rfl (fun ls hl => ?_)
  refine mx_aload hx hb d_LR_waits_7 (lv_at hl 0 rfl) ?_
  refine mx_ifnonnull (tgt := 15) hx hb d_LR_waits_9 (by decide) (fun c6 => ?_) (fun c6 => ?_)
  · rw [if_neg c6] at h
    refine lv_lload_n hx hb d_LR_waits_15 rfl (lv_at hl 3 rfl) ?_
    refine lv_lconst (v := 0) hx hb d_LR_waits_16 (by decide) ?_
    refine lv_ldc2 (v := 600) hx hb hown (hts _ wd_181) d_LR_waits_17 ?_
    obtain ⟨q7, e8, h⟩ := mx_b h
    refine gq_go (va_runS (As := [.long v2, .long 0, .long 600]) (rest := []) ⟨hx, hb, hml, hown, hts⟩ (c_LR_isWithin l G v2 0 600 _ _ e8) (cwS 3 hts (gq_gS wd_36 wd_37 wd_38 wd_35) rfl rfl rfl (by decide +kernel) ⟨Nat.le_trans (Nat.le_of_ble_eq_true rfl) hRf, Nat.le_trans (Nat.le_of_ble_eq_true rfl) hRl⟩) (gq_preS hK hN hM hS hb0) rfl rfl hl.1 rfl (lv_room (Nat.le_of_ble_eq_true rfl)) d_LR_waits_20 ⟨(Nat.le_trans (Nat.le_of_ble_eq_true rfl) hRc), (Nat.le_trans (Nat.le_of_ble_eq_true rfl) hRs)⟩) hS (fun H locs hM hS => ?_)
    refine W.eq (g2 := F0 m 23 ls [.int q7.1]) rfl ?_
    refine lv_if_ne (tgt := 29) hx hb d_LR_waits_23 (by decide) (fun c10 => ?_) (fun c10 => ?_)
    · rw [if_neg c10] at h
      refine mx_aload hx hb d_LR_waits_29 (lv_at hl 0 rfl) ?_
      obtain ⟨x11, e12, h⟩ := mx_b h
      refine mx_getlN hx hb hts i_Li hown hK hM e12 (ci := 1) (C := R_Li) (T := T_Li) (N := 8) rfl 6 (by decide) (va_Nw.use rfl (hN _ nw_11)) d_LR_waits_31 ?_
      refine lv_l2i hx hb d_LR_waits_34 rfl ?_
      refine lv_istore (lv' := [(5, .int x11.toInt32), (4, va_rf q1.1), (0, va_rf (some a0)), (1, .int v1), (2, .long v2)]) hx hb d_LR_waits_35 hl (by decide) (by simp [mx_cat, mx_cati, mx_catl, mx_catr]) (fun ls hl => ?_)
      refine mx_aload hx hb d_LR_waits_37 (lv_at hl 1 rfl) ?_
      refine lv_lload_n hx hb d_LR_waits_39 rfl (lv_at hl 4 rfl) ?_
      obtain ⟨m13, e14, h⟩ := mx_b h
      refine mx_putN hx hb hts i_Li t_Li t_Li_ok n_Li hown hK hM hS e14 (ci := 1) (C := R_Li) (T := T_Li) (N := 8) rfl 6 (by decide) (va_Nw.use rfl (hN _ nw_11)) rfl (ty := .long) (by decide +kernel) rfl rfl d_LR_waits_40 (fun H locs hM hS => ?_)
      refine mx_aload_n hx hb d_LR_waits_43 rfl (lv_at hl 2 rfl) ?_
      obtain ⟨a18, e17, h⟩ := mx_b h
      obtain ⟨q15, e16, h⟩ := mx_b h
      have e19 := mx_c_eq e17
      refine W.eq (g2 := F0 m 44 ls [.ref a18]) (congrArg (fun z => F0 m 44 ls [va_rf z]) e19) ?_
      refine gq_go (va_runV (b := a18) (As := []) (rest := []) ⟨hx, hb, hml, hown, hts⟩ (c_LR_settle l G a18  _ _ e16) (cwV 0 hts (gq_gV wd_106 wd_107 wd_108 wd_38 wd_105) rfl rfl rfl (by decide +kernel) ⟨Nat.le_trans (Nat.le_of_ble_eq_true rfl) hRf, Nat.le_trans (Nat.le_of_ble_eq_true rfl) hRl⟩) (gq_preV hK hN hM hS hb0 e17 (C := R_LR) (T := T_LR) (N := 5) rfl) rfl rfl hl.1 rfl (lv_room (Nat.le_of_ble_eq_true rfl)) d_LR_waits_44 ⟨(Nat.le_trans (Nat.le_of_ble_eq_true rfl) hRc), (Nat.le_trans (Nat.le_of_ble_eq_true rfl) hRs)⟩) hS (fun H locs hM hS => ?_)
      refine W.eq (g2 := F0 m 47 ls []) rfl ?_
      refine lv_iload hx hb d_LR_waits_47 (lv_at hl 0 rfl) ?_
      cases h
      exact W.iret hx hb hr (fun t ht hW => ⟨⟨rfl, by rw [ht]; exact hM⟩, hS.F ht⟩) hS.2.2 d_LR_waits_49
    · rw [if_pos c10] at h
      refine lv_bipush (v := (-12)) hx hb d_LR_waits_26 (by decide) ?_
      cases h
      exact W.iret hx hb hr (fun t ht hW => ⟨⟨rfl, by rw [ht]; exact hM⟩, hS.F ht⟩) hS.2.2 d_LR_waits_28
  · rw [if_pos c6] at h
    refine lv_bipush (v := (-11)) hx hb d_LR_waits_12 (by decide) ?_
    cases h
    exact W.iret hx hb hr (fun t ht hW => ⟨⟨rfl, by rw [ht]; exact hM⟩, hS.F ht⟩) hS.2.2 d_LR_waits_14
set_option maxHeartbeats 4000000 in
set_option maxRecDepth 100000 in
theorem c_Mo_waits (l : Launch) (G : mx_G) (a0 : Nat) (v1 : Int32) (v2 : Int64) (mem : mx_Mem) (q : Int32 × mx_Mem) (h : f_Mo_waits a0 v1 v2 mem = some q) : Met l y_Mo_waits (gq_w y_Mo_waits b_Mo_waits 5 (some .int)) { frames := 1, cells := 0, slots := 0, locals := 25 } (gq_P G [.ref a0, .int v1, .long v2] mem) (gq_Q G (some (.int q.1)) q.2) 0 0 (mx_A G) := by
  refine Met.ofW (cc := b_Mo_waits) (maxL := 5) (ret := (some .int)) (by decide) rfl ?_
  intro p e s m args below meth c s₁ B hml hv
  obtain ⟨rfl, hb0, hM, hK, hN⟩ := hv
  have CX : gq_C p (headSpec (gq_w y_Mo_waits b_Mo_waits 5 (some .int)) { frames := 1, cells := 0, slots := 0, locals := 25 }).room s m _ meth c G b_Mo_waits 5 (some .int) R_Mo 1 0 0 25 := ⟨B.exec, B.bytes, hml, B.returns, findClass_of_methodNamed B.named, fun w hw => atoms_spec (ws := gq_w y_Mo_waits b_Mo_waits 5 (some .int)) B.pre w (List.mem_cons_of_mem _ hw), B.notSynchronized, hK, hN, hb0, Nat.le_refl _, Nat.le_refl _, Nat.le_refl _, Nat.le_refl _⟩
  obtain ⟨hx, hb, hml, hr, hown, hts, hlocks, hK, hN, hb0, hRf, hRc, hRs, hRl⟩ := id CX
  have hS : va_S (mx_A G) s.heap s.heap [] := va_S.rf
  have hl := lv_entry [.ref a0, .int v1, .long v2] (n := 5) (Nat.le_of_ble_eq_true rfl)
  rw [lg_entry_eq]
  generalize (lg_sl [.ref a0, .int v1, .long v2] ++ List.replicate (5 - (lg_sl [.ref a0, .int v1, .long v2]).length) Slot.unset).toArray = ls at hl ⊢
  have hl : lv_has ls 5 [(0, va_rf (some a0)), (1, .int v1), (2, .long v2)] := hl
  unfold f_Mo_waits at h
  refine mx_aload_n hx hb d_Mo_waits_0 rfl (lv_at hl 0 rfl) ?_
  refine lv_iconst (v := 0) hx hb d_Mo_waits_1 (by decide) ?_
  obtain ⟨m1, e2, h⟩ := mx_b h
  refine mx_put hx hb hts i_Mo t_Mo t_Mo_ok n_Mo hown hK hM hS e2 (ci := 4) (C := R_Mo) (T := T_Mo) (N := 23) rfl 0 (by decide) (hts _ wd_109) rfl (ty := .int) (by decide +kernel) rfl rfl d_Mo_waits_2 (fun H locs hM hS => ?_)
  refine mx_aload_n hx hb d_Mo_waits_5 rfl (lv_at hl 0 rfl) ?_
  refine lv_iload_n hx hb d_Mo_waits_6 rfl (lv_at hl 1 rfl) ?_
  obtain ⟨a6, e5, h⟩ := mx_b h
  obtain ⟨q3, e4, h⟩ := mx_b h
  have e7 := mx_c_eq e5
  refine W.eq (g2 := F0 m 7 ls [.int v1, .ref a6]) (congrArg (fun z => F0 m 7 ls [.int v1, va_rf z]) e7) ?_
  refine gq_go (va_runV (b := a6) (As := [.int v1]) (rest := []) ⟨hx, hb, hml, hown, hts⟩ (c_Mo_isLine l G a6 v1 _ _ e4) (cwV 1 hts (gq_gV wd_137 wd_138 wd_139 wd_114 wd_136) rfl rfl rfl (by decide +kernel) ⟨Nat.le_trans (Nat.le_of_ble_eq_true rfl) hRf, Nat.le_trans (Nat.le_of_ble_eq_true rfl) hRl⟩) (gq_preV hK hN hM hS hb0 e5 (C := R_Mo) (T := T_Mo) (N := 23) rfl) rfl rfl hl.1 rfl (lv_room (Nat.le_of_ble_eq_true rfl)) d_Mo_waits_7 ⟨(Nat.le_trans (Nat.le_of_ble_eq_true rfl) hRc), (Nat.le_trans (Nat.le_of_ble_eq_true rfl) hRs)⟩) hS (fun H locs hM hS => ?_)
  refine W.eq (g2 := F0 m 10 ls [.int q3.1]) rfl ?_
  refine lv_if_ne (tgt := 16) hx hb d_Mo_waits_10 (by decide) (fun c8 => ?_) (fun c8 => ?_)
  · rw [if_neg c8] at h
    refine lv_lload_n hx hb d_Mo_waits_16 rfl (lv_at hl 2 rfl) ?_
    refine lv_lconst (v := 0) hx hb d_Mo_waits_17 (by decide) ?_
    refine lv_ldc2 (v := 600) hx hb hown (hts _ wd_182) d_Mo_waits_18 ?_
    obtain ⟨q9, e10, h⟩ := mx_b h
    refine gq_go (va_runS (As := [.long v2, .long 0, .long 600]) (rest := []) ⟨hx, hb, hml, hown, hts⟩ (c_Mo_in l G v2 0 600 _ _ e10) (cwS 3 hts (gq_gS wd_112 wd_113 wd_114 wd_111) rfl rfl rfl (by decide +kernel) ⟨Nat.le_trans (Nat.le_of_ble_eq_true rfl) hRf, Nat.le_trans (Nat.le_of_ble_eq_true rfl) hRl⟩) (gq_preS hK hN hM hS hb0) rfl rfl hl.1 rfl (lv_room (Nat.le_of_ble_eq_true rfl)) d_Mo_waits_21 ⟨(Nat.le_trans (Nat.le_of_ble_eq_true rfl) hRc), (Nat.le_trans (Nat.le_of_ble_eq_true rfl) hRs)⟩) hS (fun H locs hM hS => ?_)
    refine W.eq (g2 := F0 m 24 ls [.int q9.1]) rfl ?_
    refine lv_if_ne (tgt := 30) hx hb d_Mo_waits_24 (by decide) (fun c12 => ?_) (fun c12 => ?_)
    · rw [if_neg c12] at h
      refine mx_aload_n hx hb d_Mo_waits_30 rfl (lv_at hl 0 rfl) ?_
      obtain ⟨x13, e14, h⟩ := mx_b h
      refine mx_getr hx hb hts i_Mo hown hK hM e14 (ci := 4) (C := R_Mo) (T := T_Mo) (N := 23) rfl 7 (by decide) (hts _ wd_18) d_Mo_waits_31 ?_
      refine lv_iload_n hx hb d_Mo_waits_34 rfl (lv_at hl 1 rfl) ?_
      obtain ⟨x15, e16, h⟩ := mx_b h
      refine mx_lald hx hb hK hM e16 rfl d_Mo_waits_35 ?_
      refine lv_l2i hx hb d_Mo_waits_36 rfl ?_
      refine lv_istore (lv' := [(4, .int x15.toInt32), (0, va_rf (some a0)), (1, .int v1), (2, .long v2)]) hx hb d_Mo_waits_37 hl (by decide) rfl (fun ls hl => ?_)
      refine mx_aload_n hx hb d_Mo_waits_39 rfl (lv_at hl 1 rfl) ?_
      obtain ⟨x17, e18, h⟩ := mx_b h
      refine mx_getr hx hb hts i_Mo hown hK hM e18 (ci := 4) (C := R_Mo) (T := T_Mo) (N := 23) rfl 7 (by decide) (hts _ wd_18) d_Mo_waits_40 ?_
      refine lv_iload_n hx hb d_Mo_waits_43 rfl (lv_at hl 2 rfl) ?_
      refine lv_lload_n hx hb d_Mo_waits_44 rfl (lv_at hl 3 rfl) ?_
      obtain ⟨m20, e19, h⟩ := mx_b h
      refine mx_last hx hb hK hM hS e19 rfl d_Mo_waits_45 (fun H locs hM hS => ?_)
      refine lv_iload hx hb d_Mo_waits_46 (lv_at hl 0 rfl) ?_
      cases h
      exact W.iret hx hb hr (fun t ht hW => ⟨⟨rfl, by rw [ht]; exact hM⟩, hS.F ht⟩) hS.2.2 d_Mo_waits_48
    · rw [if_pos c12] at h
      refine lv_bipush (v := (-12)) hx hb d_Mo_waits_27 (by decide) ?_
      cases h
      exact W.iret hx hb hr (fun t ht hW => ⟨⟨rfl, by rw [ht]; exact hM⟩, hS.F ht⟩) hS.2.2 d_Mo_waits_29
  · rw [if_pos c8] at h
    refine lv_bipush (v := (-11)) hx hb d_Mo_waits_13 (by decide) ?_
    cases h
    exact W.iret hx hb hr (fun t ht hW => ⟨⟨rfl, by rw [ht]; exact hM⟩, hS.F ht⟩) hS.2.2 d_Mo_waits_15
set_option maxHeartbeats 4000000 in
set_option maxRecDepth 100000 in
theorem c_Lo_minutesBehind (l : Launch) (G : mx_G) (a0 : Nat) (mem : mx_Mem) (q : Int64 × mx_Mem) (h : f_Lo_minutesBehind a0 mem = some q) : Met l y_Lo_minutesBehind (gq_w y_Lo_minutesBehind b_Lo_minutesBehind 1 (some .long)) { frames := 1, cells := 0, slots := 0, locals := 15 } (gq_P G [.ref a0] mem) (gq_Q G (some (.long q.1)) q.2) 0 0 (mx_A G) := by
  refine Met.ofW (cc := b_Lo_minutesBehind) (maxL := 1) (ret := (some .long)) (by decide) rfl ?_
  intro p e s m args below meth c s₁ B hml hv
  obtain ⟨rfl, hb0, hM, hK, hN⟩ := hv
  have CX : gq_C p (headSpec (gq_w y_Lo_minutesBehind b_Lo_minutesBehind 1 (some .long)) { frames := 1, cells := 0, slots := 0, locals := 15 }).room s m _ meth c G b_Lo_minutesBehind 1 (some .long) R_Lo 1 0 0 15 := ⟨B.exec, B.bytes, hml, B.returns, findClass_of_methodNamed B.named, fun w hw => atoms_spec (ws := gq_w y_Lo_minutesBehind b_Lo_minutesBehind 1 (some .long)) B.pre w (List.mem_cons_of_mem _ hw), B.notSynchronized, hK, hN, hb0, Nat.le_refl _, Nat.le_refl _, Nat.le_refl _, Nat.le_refl _⟩
  obtain ⟨hx, hb, hml, hr, hown, hts, hlocks, hK, hN, hb0, hRf, hRc, hRs, hRl⟩ := id CX
  have hS : va_S (mx_A G) s.heap s.heap [] := va_S.rf
  have hl := lv_entry [.ref a0] (n := 1) (Nat.le_of_ble_eq_true rfl)
  rw [lg_entry_eq]
  generalize (lg_sl [.ref a0] ++ List.replicate (1 - (lg_sl [.ref a0]).length) Slot.unset).toArray = ls at hl ⊢
  have hl : lv_has ls 1 [(0, va_rf (some a0))] := hl
  unfold f_Lo_minutesBehind at h
  refine lv_lconst (v := 0) hx hb d_Lo_minutesBehind_0 (by decide) ?_
  refine mx_aload_n hx hb d_Lo_minutesBehind_1 rfl (lv_at hl 0 rfl) ?_
  obtain ⟨x1, e2, h⟩ := mx_b h
  refine mx_getl hx hb hts i_Lo hown hK hM e2 (ci := 3) (C := R_Lo) (T := T_Lo) (N := 12) rfl 9 (by decide) (hts _ wd_79) d_Lo_minutesBehind_2 ?_
  refine mx_aload_n hx hb d_Lo_minutesBehind_5 rfl (lv_at hl 0 rfl) ?_
  obtain ⟨x3, e4, h⟩ := mx_b h
  refine mx_getl hx hb hts i_Lo hown hK hM e4 (ci := 3) (C := R_Lo) (T := T_Lo) (N := 12) rfl 2 (by decide) (hts _ wd_119) d_Lo_minutesBehind_6 ?_
  refine lv_lsub hx hb d_Lo_minutesBehind_9 ?_
  refine va_mmax_long hx hb (by rw [hml]; exact hl.1.symm) hown (hts _ wd_183) (hts _ wd_52) (hts _ wd_53) (hts _ wd_54) (Nat.le_trans (Nat.le_of_ble_eq_true rfl) hRf) (Nat.le_trans (Nat.le_of_ble_eq_true rfl) hRl) (Nat.le_trans (Nat.le_of_ble_eq_true rfl) hRc) (Nat.le_trans (Nat.le_of_ble_eq_true rfl) hRs) d_Lo_minutesBehind_10 ?_
  cases h
  exact W.lret hx hb hr (fun t ht hW => ⟨⟨rfl, by rw [ht]; exact hM⟩, hS.F ht⟩) hS.2.2 d_Lo_minutesBehind_13
