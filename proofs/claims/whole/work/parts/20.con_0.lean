set_option maxHeartbeats 4000000 in
set_option maxRecDepth 100000 in
theorem c_LR_init (l : Launch) (G : mx_G) (a0 : Nat) (mem : mx_Mem) (q : mx_Mem) (h : f_LR_init a0 mem = some q) : Met l y_LR_init (gq_w y_LR_init b_LR_init 1 none) { frames := 1, cells := 3, slots := 24, locals := 12 } (gq_P G [.ref a0] mem) (gq_Q G none q) 3 24 (mx_A G) := by
  refine Met.ofW (cc := b_LR_init) (maxL := 1) (ret := none) (by decide) rfl ?_
  intro p e s m args below meth c s₁ B hml hv
  obtain ⟨rfl, hb0, hM, hK, hN⟩ := hv
  have CX : gq_C p (headSpec (gq_w y_LR_init b_LR_init 1 none) { frames := 1, cells := 3, slots := 24, locals := 12 }).room s m _ meth c G b_LR_init 1 none R_LR 1 3 24 12 := ⟨B.exec, B.bytes, hml, B.returns, findClass_of_methodNamed B.named, fun w hw => atoms_spec (ws := gq_w y_LR_init b_LR_init 1 none) B.pre w (List.mem_cons_of_mem _ hw), B.notSynchronized, hK, hN, hb0, Nat.le_refl _, Nat.le_refl _, Nat.le_refl _, Nat.le_refl _⟩
  have hin : meth.name = "<init>" := (name_of_methodNamed B.named B.method).1
  obtain ⟨hx, hb, hml, hr, hown, hts, hlocks, hK, hN, hb0, hRf, hRc, hRs, hRl⟩ := id CX
  have hS : va_S (mx_A G) s.heap s.heap [] := va_S.rf
  have hl := lv_entry [.ref a0] (n := 1) (Nat.le_of_ble_eq_true rfl)
  rw [lg_entry_eq]
  generalize (lg_sl [.ref a0] ++ List.replicate (1 - (lg_sl [.ref a0]).length) Slot.unset).toArray = ls at hl ⊢
  have hl : lv_has ls 1 [(0, va_rf (some a0))] := hl
  unfold f_LR_init at h
  refine mx_aload_n hx hb d_LR_init_0 rfl (lv_at hl 0 rfl) ?_
  refine W.objInit hx hb hown (hts _ wd_0) (hts _ wd_1) (hts _ wd_2) rfl (by rw [hml]; exact hl.1) rfl d_LR_init_1 (Nat.le_trans (Nat.le_of_ble_eq_true rfl) hRf) (Nat.le_trans (Nat.le_of_ble_eq_true rfl) hRl) ?_
  refine W.eq (g2 := F0 m 4 ls []) rfl ?_
  refine mx_aload_n hx hb d_LR_init_4 rfl (lv_at hl 0 rfl) ?_
  refine lv_bipush (v := 12) hx hb d_LR_init_5 (by decide) ?_
  obtain ⟨m1, e2, h⟩ := mx_b h
  refine mx_newq (kd := 0) (N' := 12) hx hb hown (hts _ wd_3) (va_AO.use (hN _ nw_0)) hK hM hS hb0 rfl (by decide) (by decide) (by decide) e2 d_LR_init_7 (Nat.le_trans (Nat.le_of_ble_eq_true rfl) hRc) (Nat.le_trans (Nat.le_of_ble_eq_true rfl) hRs) (fun H hM hS => ?_)
  refine W.widen (k := 1) (n := 12) (by decide) (by decide) ?_
  obtain ⟨m3, e4, h⟩ := mx_b h
  refine mx_putF hx hb hts i_LR t_LR t_LR_ok n_LR hown hK hM hS e4 (ci := 0) (C := R_LR) (T := T_LR) (N := 5) rfl 0 (by decide) (hts _ wd_4) rfl hin rfl (ty := (.array (.object "LateRoutes$Line"))) (by decide +kernel) (mx_arr_nar _) (mx_arr_fit _) d_LR_init_10 (fun H locs hM hS => ?_)
  refine mx_aload_n hx hb d_LR_init_13 rfl (lv_at hl 0 rfl) ?_
  refine lv_bipush (v := 6) hx hb d_LR_init_14 (by decide) ?_
  obtain ⟨m5, e6, h⟩ := mx_b h
  refine mx_newq (kd := 1) (N' := 6) hx hb hown (hts _ wd_5) (va_AO.use (hN _ nw_1)) hK hM hS hb0 rfl (by decide) (by decide) (by decide) e6 d_LR_init_16 (Nat.le_trans (Nat.le_of_ble_eq_true rfl) hRc) (Nat.le_trans (Nat.le_of_ble_eq_true rfl) hRs) (fun H hM hS => ?_)
  refine W.widen (k := 2) (n := 18) (by decide) (by decide) ?_
  obtain ⟨m7, e8, h⟩ := mx_b h
  refine mx_putF hx hb hts i_LR t_LR t_LR_ok n_LR hown hK hM hS e8 (ci := 0) (C := R_LR) (T := T_LR) (N := 5) rfl 2 (by decide) (hts _ wd_6) rfl hin rfl (ty := (.array (.object "LateRoutes$Load"))) (by decide +kernel) (mx_arr_nar _) (mx_arr_fit _) d_LR_init_19 (fun H locs hM hS => ?_)
  refine mx_aload_n hx hb d_LR_init_22 rfl (lv_at hl 0 rfl) ?_
  refine lv_bipush (v := 6) hx hb d_LR_init_23 (by decide) ?_
  obtain ⟨m9, e10, h⟩ := mx_b h
  refine mx_newq (kd := 1) (N' := 6) hx hb hown (hts _ wd_5) (va_AO.use (hN _ nw_1)) hK hM hS hb0 rfl (by decide) (by decide) (by decide) e10 d_LR_init_25 (Nat.le_trans (Nat.le_of_ble_eq_true rfl) hRc) (Nat.le_trans (Nat.le_of_ble_eq_true rfl) hRs) (fun H hM hS => ?_)
  refine W.widen (k := 3) (n := 24) (by decide) (by decide) ?_
  obtain ⟨m11, e12, h⟩ := mx_b h
  refine mx_putF hx hb hts i_LR t_LR t_LR_ok n_LR hown hK hM hS e12 (ci := 0) (C := R_LR) (T := T_LR) (N := 5) rfl 3 (by decide) (hts _ wd_7) rfl hin rfl (ty := (.array (.object "LateRoutes$Load"))) (by decide +kernel) (mx_arr_nar _) (mx_arr_fit _) d_LR_init_28 (fun H locs hM hS => ?_)
  refine mx_aload_n hx hb d_LR_init_31 rfl (lv_at hl 0 rfl) ?_
  refine lv_iconst (v := 0) hx hb d_LR_init_32 (by decide) ?_
  obtain ⟨m13, e14, h⟩ := mx_b h
  refine mx_put hx hb hts i_LR t_LR t_LR_ok n_LR hown hK hM hS e14 (ci := 0) (C := R_LR) (T := T_LR) (N := 5) rfl 1 (by decide) (hts _ wd_8) rfl (ty := .int) (by decide +kernel) rfl rfl d_LR_init_33 (fun H locs hM hS => ?_)
  refine mx_aload_n hx hb d_LR_init_36 rfl (lv_at hl 0 rfl) ?_
  refine lv_iconst (v := 0) hx hb d_LR_init_37 (by decide) ?_
  obtain ⟨m15, e16, h⟩ := mx_b h
  refine mx_put hx hb hts i_LR t_LR t_LR_ok n_LR hown hK hM hS e16 (ci := 0) (C := R_LR) (T := T_LR) (N := 5) rfl 4 (by decide) (hts _ wd_9) rfl (ty := .int) (by decide +kernel) rfl rfl d_LR_init_38 (fun H locs hM hS => ?_)
  cases h
  exact W.vret hx hb hr (fun t ht hW => ⟨⟨rfl, by rw [ht]; exact hM⟩, hS.F ht⟩) hS.2.2 d_LR_init_41
set_option maxHeartbeats 4000000 in
set_option maxRecDepth 100000 in
theorem c_Mo_init (l : Launch) (G : mx_G) (a0 : Nat) (mem : mx_Mem) (q : mx_Mem) (h : f_Mo_init a0 mem = some q) : Met l y_Mo_init (gq_w y_Mo_init b_Mo_init 1 none) { frames := 1, cells := 20, slots := 245, locals := 12 } (gq_P G [.ref a0] mem) (gq_Q G none q) 20 245 (mx_A G) := by
  refine Met.ofW (cc := b_Mo_init) (maxL := 1) (ret := none) (by decide) rfl ?_
  intro p e s m args below meth c s₁ B hml hv
  obtain ⟨rfl, hb0, hM, hK, hN⟩ := hv
  have CX : gq_C p (headSpec (gq_w y_Mo_init b_Mo_init 1 none) { frames := 1, cells := 20, slots := 245, locals := 12 }).room s m _ meth c G b_Mo_init 1 none R_Mo 1 20 245 12 := ⟨B.exec, B.bytes, hml, B.returns, findClass_of_methodNamed B.named, fun w hw => atoms_spec (ws := gq_w y_Mo_init b_Mo_init 1 none) B.pre w (List.mem_cons_of_mem _ hw), B.notSynchronized, hK, hN, hb0, Nat.le_refl _, Nat.le_refl _, Nat.le_refl _, Nat.le_refl _⟩
  have hin : meth.name = "<init>" := (name_of_methodNamed B.named B.method).1
  obtain ⟨hx, hb, hml, hr, hown, hts, hlocks, hK, hN, hb0, hRf, hRc, hRs, hRl⟩ := id CX
  have hS : va_S (mx_A G) s.heap s.heap [] := va_S.rf
  have hl := lv_entry [.ref a0] (n := 1) (Nat.le_of_ble_eq_true rfl)
  rw [lg_entry_eq]
  generalize (lg_sl [.ref a0] ++ List.replicate (1 - (lg_sl [.ref a0]).length) Slot.unset).toArray = ls at hl ⊢
  have hl : lv_has ls 1 [(0, va_rf (some a0))] := hl
  unfold f_Mo_init at h
  refine mx_aload_n hx hb d_Mo_init_0 rfl (lv_at hl 0 rfl) ?_
  refine W.objInit hx hb hown (hts _ wd_10) (hts _ wd_1) (hts _ wd_2) rfl (by rw [hml]; exact hl.1) rfl d_Mo_init_1 (Nat.le_trans (Nat.le_of_ble_eq_true rfl) hRf) (Nat.le_trans (Nat.le_of_ble_eq_true rfl) hRl) ?_
  refine W.eq (g2 := F0 m 4 ls []) rfl ?_
  refine mx_aload_n hx hb d_Mo_init_4 rfl (lv_at hl 0 rfl) ?_
  refine lv_bipush (v := 13) hx hb d_Mo_init_5 (by decide) ?_
  obtain ⟨m1, e2, h⟩ := mx_b h
  refine mx_newa (kd := 3) (atype := .int) (ty := .int) (N' := 13) (a0 := (13, .inl (fun _ => 0))) hx hb (hts _ wd_11) rfl hK hM hS hb0 rfl (fun _ h9 => h9) (fun _ => rfl) (by decide) (by decide) (by decide) e2 d_Mo_init_7 (Nat.le_trans (Nat.le_of_ble_eq_true rfl) hRc) (Nat.le_trans (Nat.le_of_ble_eq_true rfl) hRs) (fun H hM hS => ?_)
  refine W.widen (k := 1) (n := 13) (by decide) (by decide) ?_
  obtain ⟨m3, e4, h⟩ := mx_b h
  refine mx_putF hx hb hts i_Mo t_Mo t_Mo_ok n_Mo hown hK hM hS e4 (ci := 4) (C := R_Mo) (T := T_Mo) (N := 23) rfl 2 (by decide) (hts _ wd_12) rfl hin rfl (ty := (.array .int)) (by decide +kernel) (mx_arr_nar _) (mx_arr_fit _) d_Mo_init_9 (fun H locs hM hS => ?_)
  refine mx_aload_n hx hb d_Mo_init_12 rfl (lv_at hl 0 rfl) ?_
  refine lv_bipush (v := 13) hx hb d_Mo_init_13 (by decide) ?_
  obtain ⟨m5, e6, h⟩ := mx_b h
  refine mx_newa (kd := 3) (atype := .int) (ty := .int) (N' := 13) (a0 := (13, .inl (fun _ => 0))) hx hb (hts _ wd_11) rfl hK hM hS hb0 rfl (fun _ h9 => h9) (fun _ => rfl) (by decide) (by decide) (by decide) e6 d_Mo_init_15 (Nat.le_trans (Nat.le_of_ble_eq_true rfl) hRc) (Nat.le_trans (Nat.le_of_ble_eq_true rfl) hRs) (fun H hM hS => ?_)
  refine W.widen (k := 2) (n := 26) (by decide) (by decide) ?_
  obtain ⟨m7, e8, h⟩ := mx_b h
  refine mx_putF hx hb hts i_Mo t_Mo t_Mo_ok n_Mo hown hK hM hS e8 (ci := 4) (C := R_Mo) (T := T_Mo) (N := 23) rfl 3 (by decide) (hts _ wd_13) rfl hin rfl (ty := (.array .int)) (by decide +kernel) (mx_arr_nar _) (mx_arr_fit _) d_Mo_init_17 (fun H locs hM hS => ?_)
  refine mx_aload_n hx hb d_Mo_init_20 rfl (lv_at hl 0 rfl) ?_
  refine lv_bipush (v := 13) hx hb d_Mo_init_21 (by decide) ?_
  obtain ⟨m9, e10, h⟩ := mx_b h
  refine mx_newa (kd := 4) (atype := .long) (ty := .long) (N' := 13) (a0 := (13, .inr (.inl (fun _ => 0)))) hx hb (hts _ wd_14) rfl hK hM hS hb0 rfl (fun _ h9 => h9) (fun _ => rfl) (by decide) (by decide) (by decide) e10 d_Mo_init_23 (Nat.le_trans (Nat.le_of_ble_eq_true rfl) hRc) (Nat.le_trans (Nat.le_of_ble_eq_true rfl) hRs) (fun H hM hS => ?_)
  refine W.widen (k := 3) (n := 39) (by decide) (by decide) ?_
  obtain ⟨m11, e12, h⟩ := mx_b h
  refine mx_putF hx hb hts i_Mo t_Mo t_Mo_ok n_Mo hown hK hM hS e12 (ci := 4) (C := R_Mo) (T := T_Mo) (N := 23) rfl 4 (by decide) (hts _ wd_15) rfl hin rfl (ty := (.array .long)) (by decide +kernel) (mx_arr_nar _) (mx_arr_fit _) d_Mo_init_25 (fun H locs hM hS => ?_)
  refine mx_aload_n hx hb d_Mo_init_28 rfl (lv_at hl 0 rfl) ?_
  refine lv_bipush (v := 13) hx hb d_Mo_init_29 (by decide) ?_
  obtain ⟨m13, e14, h⟩ := mx_b h
  refine mx_newa (kd := 4) (atype := .long) (ty := .long) (N' := 13) (a0 := (13, .inr (.inl (fun _ => 0)))) hx hb (hts _ wd_14) rfl hK hM hS hb0 rfl (fun _ h9 => h9) (fun _ => rfl) (by decide) (by decide) (by decide) e14 d_Mo_init_31 (Nat.le_trans (Nat.le_of_ble_eq_true rfl) hRc) (Nat.le_trans (Nat.le_of_ble_eq_true rfl) hRs) (fun H hM hS => ?_)
  refine W.widen (k := 4) (n := 52) (by decide) (by decide) ?_
  obtain ⟨m15, e16, h⟩ := mx_b h
  refine mx_putF hx hb hts i_Mo t_Mo t_Mo_ok n_Mo hown hK hM hS e16 (ci := 4) (C := R_Mo) (T := T_Mo) (N := 23) rfl 5 (by decide) (hts _ wd_16) rfl hin rfl (ty := (.array .long)) (by decide +kernel) (mx_arr_nar _) (mx_arr_fit _) d_Mo_init_33 (fun H locs hM hS => ?_)
  refine mx_aload_n hx hb d_Mo_init_36 rfl (lv_at hl 0 rfl) ?_
  refine lv_bipush (v := 13) hx hb d_Mo_init_37 (by decide) ?_
  obtain ⟨m17, e18, h⟩ := mx_b h
  refine mx_newa (kd := 4) (atype := .long) (ty := .long) (N' := 13) (a0 := (13, .inr (.inl (fun _ => 0)))) hx hb (hts _ wd_14) rfl hK hM hS hb0 rfl (fun _ h9 => h9) (fun _ => rfl) (by decide) (by decide) (by decide) e18 d_Mo_init_39 (Nat.le_trans (Nat.le_of_ble_eq_true rfl) hRc) (Nat.le_trans (Nat.le_of_ble_eq_true rfl) hRs) (fun H hM hS => ?_)
  refine W.widen (k := 5) (n := 65) (by decide) (by decide) ?_
  obtain ⟨m19, e20, h⟩ := mx_b h
  refine mx_putF hx hb hts i_Mo t_Mo t_Mo_ok n_Mo hown hK hM hS e20 (ci := 4) (C := R_Mo) (T := T_Mo) (N := 23) rfl 6 (by decide) (hts _ wd_17) rfl hin rfl (ty := (.array .long)) (by decide +kernel) (mx_arr_nar _) (mx_arr_fit _) d_Mo_init_41 (fun H locs hM hS => ?_)
  refine mx_aload_n hx hb d_Mo_init_44 rfl (lv_at hl 0 rfl) ?_
  refine lv_bipush (v := 13) hx hb d_Mo_init_45 (by decide) ?_
  obtain ⟨m21, e22, h⟩ := mx_b h
  refine mx_newa (kd := 4) (atype := .long) (ty := .long) (N' := 13) (a0 := (13, .inr (.inl (fun _ => 0)))) hx hb (hts _ wd_14) rfl hK hM hS hb0 rfl (fun _ h9 => h9) (fun _ => rfl) (by decide) (by decide) (by decide) e22 d_Mo_init_47 (Nat.le_trans (Nat.le_of_ble_eq_true rfl) hRc) (Nat.le_trans (Nat.le_of_ble_eq_true rfl) hRs) (fun H hM hS => ?_)
  refine W.widen (k := 6) (n := 78) (by decide) (by decide) ?_
  obtain ⟨m23, e24, h⟩ := mx_b h
  refine mx_putF hx hb hts i_Mo t_Mo t_Mo_ok n_Mo hown hK hM hS e24 (ci := 4) (C := R_Mo) (T := T_Mo) (N := 23) rfl 7 (by decide) (hts _ wd_18) rfl hin rfl (ty := (.array .long)) (by decide +kernel) (mx_arr_nar _) (mx_arr_fit _) d_Mo_init_49 (fun H locs hM hS => ?_)
  refine mx_aload_n hx hb d_Mo_init_52 rfl (lv_at hl 0 rfl) ?_
  refine lv_bipush (v := 13) hx hb d_Mo_init_53 (by decide) ?_
  obtain ⟨m25, e26, h⟩ := mx_b h
  refine mx_newa (kd := 4) (atype := .long) (ty := .long) (N' := 13) (a0 := (13, .inr (.inl (fun _ => 0)))) hx hb (hts _ wd_14) rfl hK hM hS hb0 rfl (fun _ h9 => h9) (fun _ => rfl) (by decide) (by decide) (by decide) e26 d_Mo_init_55 (Nat.le_trans (Nat.le_of_ble_eq_true rfl) hRc) (Nat.le_trans (Nat.le_of_ble_eq_true rfl) hRs) (fun H hM hS => ?_)
  refine W.widen (k := 7) (n := 91) (by decide) (by decide) ?_
  obtain ⟨m27, e28, h⟩ := mx_b h
  refine mx_putF hx hb hts i_Mo t_Mo t_Mo_ok n_Mo hown hK hM hS e28 (ci := 4) (C := R_Mo) (T := T_Mo) (N := 23) rfl 8 (by decide) (hts _ wd_19) rfl hin rfl (ty := (.array .long)) (by decide +kernel) (mx_arr_nar _) (mx_arr_fit _) d_Mo_init_57 (fun H locs hM hS => ?_)
  refine mx_aload_n hx hb d_Mo_init_60 rfl (lv_at hl 0 rfl) ?_
  refine lv_bipush (v := 7) hx hb d_Mo_init_61 (by decide) ?_
  obtain ⟨m29, e30, h⟩ := mx_b h
  refine mx_newa (kd := 3) (atype := .int) (ty := .int) (N' := 7) (a0 := (7, .inl (fun _ => 0))) hx hb (hts _ wd_11) rfl hK hM hS hb0 rfl (fun _ h9 => h9) (fun _ => rfl) (by decide) (by decide) (by decide) e30 d_Mo_init_63 (Nat.le_trans (Nat.le_of_ble_eq_true rfl) hRc) (Nat.le_trans (Nat.le_of_ble_eq_true rfl) hRs) (fun H hM hS => ?_)
  refine W.widen (k := 8) (n := 98) (by decide) (by decide) ?_
  obtain ⟨m31, e32, h⟩ := mx_b h
  refine mx_putF hx hb hts i_Mo t_Mo t_Mo_ok n_Mo hown hK hM hS e32 (ci := 4) (C := R_Mo) (T := T_Mo) (N := 23) rfl 10 (by decide) (hts _ wd_20) rfl hin rfl (ty := (.array .int)) (by decide +kernel) (mx_arr_nar _) (mx_arr_fit _) d_Mo_init_65 (fun H locs hM hS => ?_)
  refine mx_aload_n hx hb d_Mo_init_68 rfl (lv_at hl 0 rfl) ?_
  refine lv_bipush (v := 7) hx hb d_Mo_init_69 (by decide) ?_
  obtain ⟨m33, e34, h⟩ := mx_b h
  refine mx_newa (kd := 3) (atype := .int) (ty := .int) (N' := 7) (a0 := (7, .inl (fun _ => 0))) hx hb (hts _ wd_11) rfl hK hM hS hb0 rfl (fun _ h9 => h9) (fun _ => rfl) (by decide) (by decide) (by decide) e34 d_Mo_init_71 (Nat.le_trans (Nat.le_of_ble_eq_true rfl) hRc) (Nat.le_trans (Nat.le_of_ble_eq_true rfl) hRs) (fun H hM hS => ?_)
  refine W.widen (k := 9) (n := 105) (by decide) (by decide) ?_
  obtain ⟨m35, e36, h⟩ := mx_b h
  refine mx_putF hx hb hts i_Mo t_Mo t_Mo_ok n_Mo hown hK hM hS e36 (ci := 4) (C := R_Mo) (T := T_Mo) (N := 23) rfl 11 (by decide) (hts _ wd_21) rfl hin rfl (ty := (.array .int)) (by decide +kernel) (mx_arr_nar _) (mx_arr_fit _) d_Mo_init_73 (fun H locs hM hS => ?_)
  refine mx_aload_n hx hb d_Mo_init_76 rfl (lv_at hl 0 rfl) ?_
  refine lv_bipush (v := 7) hx hb d_Mo_init_77 (by decide) ?_
  obtain ⟨m37, e38, h⟩ := mx_b h
  refine mx_newa (kd := 4) (atype := .long) (ty := .long) (N' := 7) (a0 := (7, .inr (.inl (fun _ => 0)))) hx hb (hts _ wd_14) rfl hK hM hS hb0 rfl (fun _ h9 => h9) (fun _ => rfl) (by decide) (by decide) (by decide) e38 d_Mo_init_79 (Nat.le_trans (Nat.le_of_ble_eq_true rfl) hRc) (Nat.le_trans (Nat.le_of_ble_eq_true rfl) hRs) (fun H hM hS => ?_)
  refine W.widen (k := 10) (n := 112) (by decide) (by decide) ?_
  obtain ⟨m39, e40, h⟩ := mx_b h
  refine mx_putF hx hb hts i_Mo t_Mo t_Mo_ok n_Mo hown hK hM hS e40 (ci := 4) (C := R_Mo) (T := T_Mo) (N := 23) rfl 12 (by decide) (hts _ wd_22) rfl hin rfl (ty := (.array .long)) (by decide +kernel) (mx_arr_nar _) (mx_arr_fit _) d_Mo_init_81 (fun H locs hM hS => ?_)
  refine mx_aload_n hx hb d_Mo_init_84 rfl (lv_at hl 0 rfl) ?_
  refine lv_bipush (v := 7) hx hb d_Mo_init_85 (by decide) ?_
  obtain ⟨m41, e42, h⟩ := mx_b h
  refine mx_newa (kd := 3) (atype := .int) (ty := .int) (N' := 7) (a0 := (7, .inl (fun _ => 0))) hx hb (hts _ wd_11) rfl hK hM hS hb0 rfl (fun _ h9 => h9) (fun _ => rfl) (by decide) (by decide) (by decide) e42 d_Mo_init_87 (Nat.le_trans (Nat.le_of_ble_eq_true rfl) hRc) (Nat.le_trans (Nat.le_of_ble_eq_true rfl) hRs) (fun H hM hS => ?_)
  refine W.widen (k := 11) (n := 119) (by decide) (by decide) ?_
  obtain ⟨m43, e44, h⟩ := mx_b h
  refine mx_putF hx hb hts i_Mo t_Mo t_Mo_ok n_Mo hown hK hM hS e44 (ci := 4) (C := R_Mo) (T := T_Mo) (N := 23) rfl 13 (by decide) (hts _ wd_23) rfl hin rfl (ty := (.array .int)) (by decide +kernel) (mx_arr_nar _) (mx_arr_fit _) d_Mo_init_89 (fun H locs hM hS => ?_)
  refine mx_aload_n hx hb d_Mo_init_92 rfl (lv_at hl 0 rfl) ?_
  refine lv_bipush (v := 7) hx hb d_Mo_init_93 (by decide) ?_
  obtain ⟨m45, e46, h⟩ := mx_b h
  refine mx_newa (kd := 3) (atype := .int) (ty := .int) (N' := 7) (a0 := (7, .inl (fun _ => 0))) hx hb (hts _ wd_11) rfl hK hM hS hb0 rfl (fun _ h9 => h9) (fun _ => rfl) (by decide) (by decide) (by decide) e46 d_Mo_init_95 (Nat.le_trans (Nat.le_of_ble_eq_true rfl) hRc) (Nat.le_trans (Nat.le_of_ble_eq_true rfl) hRs) (fun H hM hS => ?_)
  refine W.widen (k := 12) (n := 126) (by decide) (by decide) ?_
  obtain ⟨m47, e48, h⟩ := mx_b h
  refine mx_putF hx hb hts i_Mo t_Mo t_Mo_ok n_Mo hown hK hM hS e48 (ci := 4) (C := R_Mo) (T := T_Mo) (N := 23) rfl 14 (by decide) (hts _ wd_24) rfl hin rfl (ty := (.array .int)) (by decide +kernel) (mx_arr_nar _) (mx_arr_fit _) d_Mo_init_97 (fun H locs hM hS => ?_)
  refine mx_aload_n hx hb d_Mo_init_100 rfl (lv_at hl 0 rfl) ?_
  refine lv_bipush (v := 7) hx hb d_Mo_init_101 (by decide) ?_
  obtain ⟨m49, e50, h⟩ := mx_b h
  refine mx_newa (kd := 3) (atype := .int) (ty := .int) (N' := 7) (a0 := (7, .inl (fun _ => 0))) hx hb (hts _ wd_11) rfl hK hM hS hb0 rfl (fun _ h9 => h9) (fun _ => rfl) (by decide) (by decide) (by decide) e50 d_Mo_init_103 (Nat.le_trans (Nat.le_of_ble_eq_true rfl) hRc) (Nat.le_trans (Nat.le_of_ble_eq_true rfl) hRs) (fun H hM hS => ?_)
  refine W.widen (k := 13) (n := 133) (by decide) (by decide) ?_
  obtain ⟨m51, e52, h⟩ := mx_b h
  refine mx_putF hx hb hts i_Mo t_Mo t_Mo_ok n_Mo hown hK hM hS e52 (ci := 4) (C := R_Mo) (T := T_Mo) (N := 23) rfl 15 (by decide) (hts _ wd_25) rfl hin rfl (ty := (.array .int)) (by decide +kernel) (mx_arr_nar _) (mx_arr_fit _) d_Mo_init_105 (fun H locs hM hS => ?_)
  refine mx_aload_n hx hb d_Mo_init_108 rfl (lv_at hl 0 rfl) ?_
  refine lv_bipush (v := 28) hx hb d_Mo_init_109 (by decide) ?_
  obtain ⟨m53, e54, h⟩ := mx_b h
  refine mx_newa (kd := 3) (atype := .int) (ty := .int) (N' := 28) (a0 := (28, .inl (fun _ => 0))) hx hb (hts _ wd_11) rfl hK hM hS hb0 rfl (fun _ h9 => h9) (fun _ => rfl) (by decide) (by decide) (by decide) e54 d_Mo_init_111 (Nat.le_trans (Nat.le_of_ble_eq_true rfl) hRc) (Nat.le_trans (Nat.le_of_ble_eq_true rfl) hRs) (fun H hM hS => ?_)
  refine W.widen (k := 14) (n := 161) (by decide) (by decide) ?_
  obtain ⟨m55, e56, h⟩ := mx_b h
  refine mx_putF hx hb hts i_Mo t_Mo t_Mo_ok n_Mo hown hK hM hS e56 (ci := 4) (C := R_Mo) (T := T_Mo) (N := 23) rfl 16 (by decide) (hts _ wd_26) rfl hin rfl (ty := (.array .int)) (by decide +kernel) (mx_arr_nar _) (mx_arr_fit _) d_Mo_init_113 (fun H locs hM hS => ?_)
  refine mx_aload_n hx hb d_Mo_init_116 rfl (lv_at hl 0 rfl) ?_
  refine lv_bipush (v := 28) hx hb d_Mo_init_117 (by decide) ?_
  obtain ⟨m57, e58, h⟩ := mx_b h
  refine mx_newa (kd := 3) (atype := .int) (ty := .int) (N' := 28) (a0 := (28, .inl (fun _ => 0))) hx hb (hts _ wd_11) rfl hK hM hS hb0 rfl (fun _ h9 => h9) (fun _ => rfl) (by decide) (by decide) (by decide) e58 d_Mo_init_119 (Nat.le_trans (Nat.le_of_ble_eq_true rfl) hRc) (Nat.le_trans (Nat.le_of_ble_eq_true rfl) hRs) (fun H hM hS => ?_)
  refine W.widen (k := 15) (n := 189) (by decide) (by decide) ?_
  obtain ⟨m59, e60, h⟩ := mx_b h
  refine mx_putF hx hb hts i_Mo t_Mo t_Mo_ok n_Mo hown hK hM hS e60 (ci := 4) (C := R_Mo) (T := T_Mo) (N := 23) rfl 17 (by decide) (hts _ wd_27) rfl hin rfl (ty := (.array .int)) (by decide +kernel) (mx_arr_nar _) (mx_arr_fit _) d_Mo_init_121 (fun H locs hM hS => ?_)
  refine mx_aload_n hx hb d_Mo_init_124 rfl (lv_at hl 0 rfl) ?_
  refine lv_bipush (v := 28) hx hb d_Mo_init_125 (by decide) ?_
  obtain ⟨m61, e62, h⟩ := mx_b h
  refine mx_newa (kd := 4) (atype := .long) (ty := .long) (N' := 28) (a0 := (28, .inr (.inl (fun _ => 0)))) hx hb (hts _ wd_14) rfl hK hM hS hb0 rfl (fun _ h9 => h9) (fun _ => rfl) (by decide) (by decide) (by decide) e62 d_Mo_init_127 (Nat.le_trans (Nat.le_of_ble_eq_true rfl) hRc) (Nat.le_trans (Nat.le_of_ble_eq_true rfl) hRs) (fun H hM hS => ?_)
  refine W.widen (k := 16) (n := 217) (by decide) (by decide) ?_
  obtain ⟨m63, e64, h⟩ := mx_b h
  refine mx_putF hx hb hts i_Mo t_Mo t_Mo_ok n_Mo hown hK hM hS e64 (ci := 4) (C := R_Mo) (T := T_Mo) (N := 23) rfl 18 (by decide) (hts _ wd_28) rfl hin rfl (ty := (.array .long)) (by decide +kernel) (mx_arr_nar _) (mx_arr_fit _) d_Mo_init_129 (fun H locs hM hS => ?_)
  refine mx_aload_n hx hb d_Mo_init_132 rfl (lv_at hl 0 rfl) ?_
  refine lv_bipush (v := 7) hx hb d_Mo_init_133 (by decide) ?_
  obtain ⟨m65, e66, h⟩ := mx_b h
  refine mx_newa (kd := 4) (atype := .long) (ty := .long) (N' := 7) (a0 := (7, .inr (.inl (fun _ => 0)))) hx hb (hts _ wd_14) rfl hK hM hS hb0 rfl (fun _ h9 => h9) (fun _ => rfl) (by decide) (by decide) (by decide) e66 d_Mo_init_135 (Nat.le_trans (Nat.le_of_ble_eq_true rfl) hRc) (Nat.le_trans (Nat.le_of_ble_eq_true rfl) hRs) (fun H hM hS => ?_)
  refine W.widen (k := 17) (n := 224) (by decide) (by decide) ?_
  obtain ⟨m67, e68, h⟩ := mx_b h
  refine mx_putF hx hb hts i_Mo t_Mo t_Mo_ok n_Mo hown hK hM hS e68 (ci := 4) (C := R_Mo) (T := T_Mo) (N := 23) rfl 19 (by decide) (hts _ wd_29) rfl hin rfl (ty := (.array .long)) (by decide +kernel) (mx_arr_nar _) (mx_arr_fit _) d_Mo_init_137 (fun H locs hM hS => ?_)
  refine mx_aload_n hx hb d_Mo_init_140 rfl (lv_at hl 0 rfl) ?_
  refine lv_bipush (v := 7) hx hb d_Mo_init_141 (by decide) ?_
  obtain ⟨m69, e70, h⟩ := mx_b h
  refine mx_newa (kd := 5) (atype := .boolean) (ty := .boolean) (N' := 7) (a0 := (7, .inl (fun _ => 0))) hx hb (hts _ wd_30) rfl hK hM hS hb0 rfl (fun _ h9 => h9) (fun _ => rfl) (by decide) (by decide) (by decide) e70 d_Mo_init_143 (Nat.le_trans (Nat.le_of_ble_eq_true rfl) hRc) (Nat.le_trans (Nat.le_of_ble_eq_true rfl) hRs) (fun H hM hS => ?_)
  refine W.widen (k := 18) (n := 231) (by decide) (by decide) ?_
  obtain ⟨m71, e72, h⟩ := mx_b h
  refine mx_putF hx hb hts i_Mo t_Mo t_Mo_ok n_Mo hown hK hM hS e72 (ci := 4) (C := R_Mo) (T := T_Mo) (N := 23) rfl 20 (by decide) (hts _ wd_31) rfl hin rfl (ty := (.array .boolean)) (by decide +kernel) (mx_arr_nar _) (mx_arr_fit _) d_Mo_init_145 (fun H locs hM hS => ?_)
  refine mx_aload_n hx hb d_Mo_init_148 rfl (lv_at hl 0 rfl) ?_
  refine lv_bipush (v := 7) hx hb d_Mo_init_149 (by decide) ?_
  obtain ⟨m73, e74, h⟩ := mx_b h
  refine mx_newa (kd := 3) (atype := .int) (ty := .int) (N' := 7) (a0 := (7, .inl (fun _ => 0))) hx hb (hts _ wd_11) rfl hK hM hS hb0 rfl (fun _ h9 => h9) (fun _ => rfl) (by decide) (by decide) (by decide) e74 d_Mo_init_151 (Nat.le_trans (Nat.le_of_ble_eq_true rfl) hRc) (Nat.le_trans (Nat.le_of_ble_eq_true rfl) hRs) (fun H hM hS => ?_)
  refine W.widen (k := 19) (n := 238) (by decide) (by decide) ?_
  obtain ⟨m75, e76, h⟩ := mx_b h
  refine mx_putF hx hb hts i_Mo t_Mo t_Mo_ok n_Mo hown hK hM hS e76 (ci := 4) (C := R_Mo) (T := T_Mo) (N := 23) rfl 21 (by decide) (hts _ wd_32) rfl hin rfl (ty := (.array .int)) (by decide +kernel) (mx_arr_nar _) (mx_arr_fit _) d_Mo_init_153 (fun H locs hM hS => ?_)
  refine mx_aload_n hx hb d_Mo_init_156 rfl (lv_at hl 0 rfl) ?_
  refine lv_bipush (v := 7) hx hb d_Mo_init_157 (by decide) ?_
  obtain ⟨m77, e78, h⟩ := mx_b h
  refine mx_newa (kd := 4) (atype := .long) (ty := .long) (N' := 7) (a0 := (7, .inr (.inl (fun _ => 0)))) hx hb (hts _ wd_14) rfl hK hM hS hb0 rfl (fun _ h9 => h9) (fun _ => rfl) (by decide) (by decide) (by decide) e78 d_Mo_init_159 (Nat.le_trans (Nat.le_of_ble_eq_true rfl) hRc) (Nat.le_trans (Nat.le_of_ble_eq_true rfl) hRs) (fun H hM hS => ?_)
  refine W.widen (k := 20) (n := 245) (by decide) (by decide) ?_
  obtain ⟨m79, e80, h⟩ := mx_b h
  refine mx_putF hx hb hts i_Mo t_Mo t_Mo_ok n_Mo hown hK hM hS e80 (ci := 4) (C := R_Mo) (T := T_Mo) (N := 23) rfl 22 (by decide) (hts _ wd_33) rfl hin rfl (ty := (.array .long)) (by decide +kernel) (mx_arr_nar _) (mx_arr_fit _) d_Mo_init_161 (fun H locs hM hS => ?_)
  cases h
  exact W.vret hx hb hr (fun t ht hW => ⟨⟨rfl, by rw [ht]; exact hM⟩, hS.F ht⟩) hS.2.2 d_Mo_init_164
set_option maxHeartbeats 4000000 in
set_option maxRecDepth 100000 in
theorem c_LR_isWithin (l : Launch) (G : mx_G) (v0 : Int64) (v2 : Int64) (v4 : Int64) (mem : mx_Mem) (q : Int32 × mx_Mem) (h : f_LR_isWithin v0 v2 v4 mem = some q) : Met l y_LR_isWithin (gq_w y_LR_isWithin b_LR_isWithin 6 (some .boolean)) { frames := 0, cells := 0, slots := 0, locals := 0 } (gq_P G [.long v0, .long v2, .long v4] mem) (gq_Q G (some (.int q.1)) q.2) 0 0 (mx_A G) := by
  refine Met.ofW (cc := b_LR_isWithin) (maxL := 6) (ret := (some .boolean)) (by decide) rfl ?_
  intro p e s m args below meth c s₁ B hml hv
  obtain ⟨rfl, hb0, hM, hK, hN⟩ := hv
  have CX : gq_C p (headSpec (gq_w y_LR_isWithin b_LR_isWithin 6 (some .boolean)) { frames := 0, cells := 0, slots := 0, locals := 0 }).room s m _ meth c G b_LR_isWithin 6 (some .boolean) R_LR 0 0 0 0 := ⟨B.exec, B.bytes, hml, B.returns, findClass_of_methodNamed B.named, fun w hw => atoms_spec (ws := gq_w y_LR_isWithin b_LR_isWithin 6 (some .boolean)) B.pre w (List.mem_cons_of_mem _ hw), B.notSynchronized, hK, hN, hb0, Nat.le_refl _, Nat.le_refl _, Nat.le_refl _, Nat.le_refl _⟩
  obtain ⟨hx, hb, hml, hr, hown, hts, hlocks, hK, hN, hb0, hRf, hRc, hRs, hRl⟩ := id CX
  have hS : va_S (mx_A G) s.heap s.heap [] := va_S.rf
  have hl := lv_entry [.long v0, .long v2, .long v4] (n := 6) (Nat.le_of_ble_eq_true rfl)
  rw [lg_entry_eq]
  generalize (lg_sl [.long v0, .long v2, .long v4] ++ List.replicate (6 - (lg_sl [.long v0, .long v2, .long v4]).length) Slot.unset).toArray = ls at hl ⊢
  have hl : lv_has ls 6 [(0, .long v0), (2, .long v2), (4, .long v4)] := hl
  unfold f_LR_isWithin at h
  refine lv_lload_n hx hb d_LR_isWithin_0 rfl (lv_at hl 0 rfl) ?_
  refine lv_lload_n hx hb d_LR_isWithin_1 rfl (lv_at hl 1 rfl) ?_
  refine mx_lcmp_lt (tgt := 17) hx hb d_LR_isWithin_2 d_LR_isWithin_3 (by decide) (fun c1 => ?_) (fun c1 => ?_)
  · rw [if_pos c1] at h
    refine lv_iconst (v := 0) hx hb d_LR_isWithin_17 (by decide) ?_
    cases h
    exact W.zret hx hb hr rfl (fun t ht hW => ⟨⟨rfl, by rw [ht]; exact hM⟩, hS.F ht⟩) hS.2.2 d_LR_isWithin_18
  · rw [if_neg c1] at h
    refine lv_lload_n hx hb d_LR_isWithin_6 rfl (lv_at hl 0 rfl) ?_
    refine lv_lload hx hb d_LR_isWithin_7 (lv_at hl 2 rfl) ?_
    refine mx_lcmp_gt (tgt := 17) hx hb d_LR_isWithin_9 d_LR_isWithin_10 (by decide) (fun c2 => ?_) (fun c2 => ?_)
    · rw [if_pos c2] at h
      refine lv_iconst (v := 0) hx hb d_LR_isWithin_17 (by decide) ?_
      cases h
      exact W.zret hx hb hr rfl (fun t ht hW => ⟨⟨rfl, by rw [ht]; exact hM⟩, hS.F ht⟩) hS.2.2 d_LR_isWithin_18
    · rw [if_neg c2] at h
      refine lv_iconst (v := 1) hx hb d_LR_isWithin_13 (by decide) ?_
      refine lv_goto (tgt := 18) hx hb d_LR_isWithin_14 (by decide) ?_
      cases h
      exact W.zret hx hb hr rfl (fun t ht hW => ⟨⟨rfl, by rw [ht]; exact hM⟩, hS.F ht⟩) hS.2.2 d_LR_isWithin_18
set_option maxHeartbeats 4000000 in
set_option maxRecDepth 100000 in
theorem c_LR_isPlace (l : Launch) (G : mx_G) (v0 : Int32) (mem : mx_Mem) (q : Int32 × mx_Mem) (h : f_LR_isPlace v0 mem = some q) : Met l y_LR_isPlace (gq_w y_LR_isPlace b_LR_isPlace 1 (some .boolean)) { frames := 1, cells := 0, slots := 0, locals := 25 } (gq_P G [.int v0] mem) (gq_Q G (some (.int q.1)) q.2) 0 0 (mx_A G) := by
  refine Met.ofW (cc := b_LR_isPlace) (maxL := 1) (ret := (some .boolean)) (by decide) rfl ?_
  intro p e s m args below meth c s₁ B hml hv
  obtain ⟨rfl, hb0, hM, hK, hN⟩ := hv
  have CX : gq_C p (headSpec (gq_w y_LR_isPlace b_LR_isPlace 1 (some .boolean)) { frames := 1, cells := 0, slots := 0, locals := 25 }).room s m _ meth c G b_LR_isPlace 1 (some .boolean) R_LR 1 0 0 25 := ⟨B.exec, B.bytes, hml, B.returns, findClass_of_methodNamed B.named, fun w hw => atoms_spec (ws := gq_w y_LR_isPlace b_LR_isPlace 1 (some .boolean)) B.pre w (List.mem_cons_of_mem _ hw), B.notSynchronized, hK, hN, hb0, Nat.le_refl _, Nat.le_refl _, Nat.le_refl _, Nat.le_refl _⟩
  obtain ⟨hx, hb, hml, hr, hown, hts, hlocks, hK, hN, hb0, hRf, hRc, hRs, hRl⟩ := id CX
  have hS : va_S (mx_A G) s.heap s.heap [] := va_S.rf
  have hl := lv_entry [.int v0] (n := 1) (Nat.le_of_ble_eq_true rfl)
  rw [lg_entry_eq]
  generalize (lg_sl [.int v0] ++ List.replicate (1 - (lg_sl [.int v0]).length) Slot.unset).toArray = ls at hl ⊢
  have hl : lv_has ls 1 [(0, .int v0)] := hl
  unfold f_LR_isPlace at h
  refine lv_iload_n hx hb d_LR_isPlace_0 rfl (lv_at hl 0 rfl) ?_
  refine lv_i2l hx hb d_LR_isPlace_1 rfl ?_
  refine lv_lconst (v := 0) hx hb d_LR_isPlace_2 (by decide) ?_
  refine lv_ldc2 (v := 9) hx hb hown (hts _ wd_34) d_LR_isPlace_3 ?_
  obtain ⟨q1, e2, h⟩ := mx_b h
  refine gq_go (va_runS (As := [.long v0.toInt64, .long 0, .long 9]) (rest := []) ⟨hx, hb, hml, hown, hts⟩ (c_LR_isWithin l G v0.toInt64 0 9 _ _ e2) (cwS 3 hts (gq_gS wd_36 wd_37 wd_38 wd_35) rfl rfl rfl (by decide +kernel) ⟨Nat.le_trans (Nat.le_of_ble_eq_true rfl) hRf, Nat.le_trans (Nat.le_of_ble_eq_true rfl) hRl⟩) (gq_preS hK hN hM hS hb0) rfl rfl hl.1 rfl (lv_room (Nat.le_of_ble_eq_true rfl)) d_LR_isPlace_6 ⟨(Nat.le_trans (Nat.le_of_ble_eq_true rfl) hRc), (Nat.le_trans (Nat.le_of_ble_eq_true rfl) hRs)⟩) hS (fun H locs hM hS => ?_)
  refine W.eq (g2 := F0 m 9 ls [.int q1.1]) rfl ?_
  obtain ⟨_, e4, h⟩ := mx_b h
  cases h
  exact W.zret hx hb hr (mx_z_nar e4) (fun t ht hW => ⟨⟨rfl, by rw [ht]; exact hM⟩, hS.F ht⟩) hS.2.2 d_LR_isPlace_9
set_option maxHeartbeats 4000000 in
set_option maxRecDepth 100000 in
theorem c_Li_init (l : Launch) (G : mx_G) (a0 : Nat) (v1 : Int32) (v2 : Int32) (v3 : Int32) (v4 : Int64) (v6 : Int64) (mem : mx_Mem) (q : mx_Mem) (h : f_Li_init a0 v1 v2 v3 v4 v6 mem = some q) : Met l y_Li_init (gq_w y_Li_init b_Li_init 8 none) { frames := 1, cells := 0, slots := 0, locals := 12 } (gq_P G [.ref a0, .int v1, .int v2, .int v3, .long v4, .long v6] mem) (gq_Q G none q) 0 0 (mx_A G) := by
  refine Met.ofW (cc := b_Li_init) (maxL := 8) (ret := none) (by decide) rfl ?_
  intro p e s m args below meth c s₁ B hml hv
  obtain ⟨rfl, hb0, hM, hK, hN⟩ := hv
  have CX : gq_C p (headSpec (gq_w y_Li_init b_Li_init 8 none) { frames := 1, cells := 0, slots := 0, locals := 12 }).room s m _ meth c G b_Li_init 8 none R_Li 1 0 0 12 := ⟨B.exec, B.bytes, hml, B.returns, findClass_of_methodNamed B.named, fun w hw => atoms_spec (ws := gq_w y_Li_init b_Li_init 8 none) B.pre w (List.mem_cons_of_mem _ hw), B.notSynchronized, hK, hN, hb0, Nat.le_refl _, Nat.le_refl _, Nat.le_refl _, Nat.le_refl _⟩
  have hin : meth.name = "<init>" := (name_of_methodNamed B.named B.method).1
  obtain ⟨hx, hb, hml, hr, hown, hts, hlocks, hK, hN, hb0, hRf, hRc, hRs, hRl⟩ := id CX
  have hS : va_S (mx_A G) s.heap s.heap [] := va_S.rf
  have hl := lv_entry [.ref a0, .int v1, .int v2, .int v3, .long v4, .long v6] (n := 8) (Nat.le_of_ble_eq_true rfl)
  rw [lg_entry_eq]
  generalize (lg_sl [.ref a0, .int v1, .int v2, .int v3, .long v4, .long v6] ++ List.replicate (8 - (lg_sl [.ref a0, .int v1, .int v2, .int v3, .long v4, .long v6]).length) Slot.unset).toArray = ls at hl ⊢
  have hl : lv_has ls 8 [(0, va_rf (some a0)), (1, .int v1), (2, .int v2), (3, .int v3), (4, .long v4), (6, .long v6)] := hl
  unfold f_Li_init at h
  refine mx_aload_n hx hb d_Li_init_0 rfl (lv_at hl 0 rfl) ?_
  refine W.objInit hx hb hown (hts _ wd_39) (hts _ wd_1) (hts _ wd_2) rfl (by rw [hml]; exact hl.1) rfl d_Li_init_1 (Nat.le_trans (Nat.le_of_ble_eq_true rfl) hRf) (Nat.le_trans (Nat.le_of_ble_eq_true rfl) hRl) ?_
  refine W.eq (g2 := F0 m 4 ls []) rfl ?_
  refine mx_aload_n hx hb d_Li_init_4 rfl (lv_at hl 0 rfl) ?_
  refine lv_iload_n hx hb d_Li_init_5 rfl (lv_at hl 1 rfl) ?_
  obtain ⟨m1, e2, h⟩ := mx_b h
  refine mx_putF hx hb hts i_Li t_Li t_Li_ok n_Li hown hK hM hS e2 (ci := 1) (C := R_Li) (T := T_Li) (N := 8) rfl 0 (by decide) (hts _ wd_40) rfl hin rfl (ty := .int) (by decide +kernel) rfl rfl d_Li_init_6 (fun H locs hM hS => ?_)
  refine mx_aload_n hx hb d_Li_init_9 rfl (lv_at hl 0 rfl) ?_
  refine lv_iload_n hx hb d_Li_init_10 rfl (lv_at hl 2 rfl) ?_
  obtain ⟨m3, e4, h⟩ := mx_b h
  refine mx_putF hx hb hts i_Li t_Li t_Li_ok n_Li hown hK hM hS e4 (ci := 1) (C := R_Li) (T := T_Li) (N := 8) rfl 1 (by decide) (hts _ wd_41) rfl hin rfl (ty := .int) (by decide +kernel) rfl rfl d_Li_init_11 (fun H locs hM hS => ?_)
  refine mx_aload_n hx hb d_Li_init_14 rfl (lv_at hl 0 rfl) ?_
  refine lv_iload_n hx hb d_Li_init_15 rfl (lv_at hl 3 rfl) ?_
  obtain ⟨m5, e6, h⟩ := mx_b h
  refine mx_putF hx hb hts i_Li t_Li t_Li_ok n_Li hown hK hM hS e6 (ci := 1) (C := R_Li) (T := T_Li) (N := 8) rfl 2 (by decide) (hts _ wd_42) rfl hin rfl (ty := .int) (by decide +kernel) rfl rfl d_Li_init_16 (fun H locs hM hS => ?_)
  refine mx_aload_n hx hb d_Li_init_19 rfl (lv_at hl 0 rfl) ?_
  refine lv_lload hx hb d_Li_init_20 (lv_at hl 4 rfl) ?_
  obtain ⟨m7, e8, h⟩ := mx_b h
  refine mx_putF hx hb hts i_Li t_Li t_Li_ok n_Li hown hK hM hS e8 (ci := 1) (C := R_Li) (T := T_Li) (N := 8) rfl 3 (by decide) (hts _ wd_43) rfl hin rfl (ty := .long) (by decide +kernel) rfl rfl d_Li_init_22 (fun H locs hM hS => ?_)
  refine mx_aload_n hx hb d_Li_init_25 rfl (lv_at hl 0 rfl) ?_
  refine lv_lload hx hb d_Li_init_26 (lv_at hl 5 rfl) ?_
  obtain ⟨m9, e10, h⟩ := mx_b h
  refine mx_putF hx hb hts i_Li t_Li t_Li_ok n_Li hown hK hM hS e10 (ci := 1) (C := R_Li) (T := T_Li) (N := 8) rfl 4 (by decide) (hts _ wd_44) rfl hin rfl (ty := .long) (by decide +kernel) rfl rfl d_Li_init_28 (fun H locs hM hS => ?_)
  refine mx_aload_n hx hb d_Li_init_31 rfl (lv_at hl 0 rfl) ?_
  refine lv_lconst (v := 0) hx hb d_Li_init_32 (by decide) ?_
  obtain ⟨m11, e12, h⟩ := mx_b h
  refine mx_put hx hb hts i_Li t_Li t_Li_ok n_Li hown hK hM hS e12 (ci := 1) (C := R_Li) (T := T_Li) (N := 8) rfl 5 (by decide) (hts _ wd_45) rfl (ty := .long) (by decide +kernel) rfl rfl d_Li_init_33 (fun H locs hM hS => ?_)
  refine mx_aload_n hx hb d_Li_init_36 rfl (lv_at hl 0 rfl) ?_
  refine lv_lconst (v := 0) hx hb d_Li_init_37 (by decide) ?_
  obtain ⟨m13, e14, h⟩ := mx_b h
  refine mx_put hx hb hts i_Li t_Li t_Li_ok n_Li hown hK hM hS e14 (ci := 1) (C := R_Li) (T := T_Li) (N := 8) rfl 6 (by decide) (hts _ wd_46) rfl (ty := .long) (by decide +kernel) rfl rfl d_Li_init_38 (fun H locs hM hS => ?_)
  refine mx_aload_n hx hb d_Li_init_41 rfl (lv_at hl 0 rfl) ?_
  refine lv_lload hx hb d_Li_init_42 (lv_at hl 4 rfl) ?_
  obtain ⟨m15, e16, h⟩ := mx_b h
  refine mx_put hx hb hts i_Li t_Li t_Li_ok n_Li hown hK hM hS e16 (ci := 1) (C := R_Li) (T := T_Li) (N := 8) rfl 7 (by decide) (hts _ wd_47) rfl (ty := .long) (by decide +kernel) rfl rfl d_Li_init_44 (fun H locs hM hS => ?_)
  cases h
  exact W.vret hx hb hr (fun t ht hW => ⟨⟨rfl, by rw [ht]; exact hM⟩, hS.F ht⟩) hS.2.2 d_Li_init_47
set_option maxHeartbeats 4000000 in
set_option maxRecDepth 100000 in
theorem c_Li_forgetWaiting (l : Launch) (G : mx_G) (a0 : Nat) (mem : mx_Mem) (q : mx_Mem) (h : f_Li_forgetWaiting a0 mem = some q) : Met l y_Li_forgetWaiting (gq_w y_Li_forgetWaiting b_Li_forgetWaiting 1 none) { frames := 0, cells := 0, slots := 0, locals := 0 } (gq_P G [.ref a0] mem) (gq_Q G none q) 0 0 (mx_A G) := by
  refine Met.ofW (cc := b_Li_forgetWaiting) (maxL := 1) (ret := none) (by decide) rfl ?_
  intro p e s m args below meth c s₁ B hml hv
  obtain ⟨rfl, hb0, hM, hK, hN⟩ := hv
  have CX : gq_C p (headSpec (gq_w y_Li_forgetWaiting b_Li_forgetWaiting 1 none) { frames := 0, cells := 0, slots := 0, locals := 0 }).room s m _ meth c G b_Li_forgetWaiting 1 none R_Li 0 0 0 0 := ⟨B.exec, B.bytes, hml, B.returns, findClass_of_methodNamed B.named, fun w hw => atoms_spec (ws := gq_w y_Li_forgetWaiting b_Li_forgetWaiting 1 none) B.pre w (List.mem_cons_of_mem _ hw), B.notSynchronized, hK, hN, hb0, Nat.le_refl _, Nat.le_refl _, Nat.le_refl _, Nat.le_refl _⟩
  obtain ⟨hx, hb, hml, hr, hown, hts, hlocks, hK, hN, hb0, hRf, hRc, hRs, hRl⟩ := id CX
  have hS : va_S (mx_A G) s.heap s.heap [] := va_S.rf
  have hl := lv_entry [.ref a0] (n := 1) (Nat.le_of_ble_eq_true rfl)
  rw [lg_entry_eq]
  generalize (lg_sl [.ref a0] ++ List.replicate (1 - (lg_sl [.ref a0]).length) Slot.unset).toArray = ls at hl ⊢
  have hl : lv_has ls 1 [(0, va_rf (some a0))] := hl
  unfold f_Li_forgetWaiting at h
  refine mx_aload_n hx hb d_Li_forgetWaiting_0 rfl (lv_at hl 0 rfl) ?_
  refine mx_aload_n hx hb d_Li_forgetWaiting_1 rfl (lv_at hl 0 rfl) ?_
  obtain ⟨x1, e2, h⟩ := mx_b h
  refine mx_getl hx hb hts i_Li hown hK hM e2 (ci := 1) (C := R_Li) (T := T_Li) (N := 8) rfl 3 (by decide) (hts _ wd_43) d_Li_forgetWaiting_2 ?_
  refine mx_aload_n hx hb d_Li_forgetWaiting_5 rfl (lv_at hl 0 rfl) ?_
  obtain ⟨x3, e4, h⟩ := mx_b h
  refine mx_getl hx hb hts i_Li hown hK hM e4 (ci := 1) (C := R_Li) (T := T_Li) (N := 8) rfl 5 (by decide) (hts _ wd_45) d_Li_forgetWaiting_6 ?_
  refine lv_ladd hx hb d_Li_forgetWaiting_9 ?_
  obtain ⟨m5, e6, h⟩ := mx_b h
  refine mx_put hx hb hts i_Li t_Li t_Li_ok n_Li hown hK hM hS e6 (ci := 1) (C := R_Li) (T := T_Li) (N := 8) rfl 7 (by decide) (hts _ wd_47) rfl (ty := .long) (by decide +kernel) rfl rfl d_Li_forgetWaiting_10 (fun H locs hM hS => ?_)
  cases h
  exact W.vret hx hb hr (fun t ht hW => ⟨⟨rfl, by rw [ht]; exact hM⟩, hS.F ht⟩) hS.2.2 d_Li_forgetWaiting_13
set_option maxHeartbeats 4000000 in
set_option maxRecDepth 100000 in
theorem c_Li_arrivesAt (l : Launch) (G : mx_G) (a0 : Nat) (mem : mx_Mem) (q : Int64 × mx_Mem) (h : f_Li_arrivesAt a0 mem = some q) : Met l y_Li_arrivesAt (gq_w y_Li_arrivesAt b_Li_arrivesAt 1 (some .long)) { frames := 0, cells := 0, slots := 0, locals := 0 } (gq_P G [.ref a0] mem) (gq_Q G (some (.long q.1)) q.2) 0 0 (mx_A G) := by
  refine Met.ofW (cc := b_Li_arrivesAt) (maxL := 1) (ret := (some .long)) (by decide) rfl ?_
  intro p e s m args below meth c s₁ B hml hv
  obtain ⟨rfl, hb0, hM, hK, hN⟩ := hv
  have CX : gq_C p (headSpec (gq_w y_Li_arrivesAt b_Li_arrivesAt 1 (some .long)) { frames := 0, cells := 0, slots := 0, locals := 0 }).room s m _ meth c G b_Li_arrivesAt 1 (some .long) R_Li 0 0 0 0 := ⟨B.exec, B.bytes, hml, B.returns, findClass_of_methodNamed B.named, fun w hw => atoms_spec (ws := gq_w y_Li_arrivesAt b_Li_arrivesAt 1 (some .long)) B.pre w (List.mem_cons_of_mem _ hw), B.notSynchronized, hK, hN, hb0, Nat.le_refl _, Nat.le_refl _, Nat.le_refl _, Nat.le_refl _⟩
  obtain ⟨hx, hb, hml, hr, hown, hts, hlocks, hK, hN, hb0, hRf, hRc, hRs, hRl⟩ := id CX
  have hS : va_S (mx_A G) s.heap s.heap [] := va_S.rf
  have hl := lv_entry [.ref a0] (n := 1) (Nat.le_of_ble_eq_true rfl)
  rw [lg_entry_eq]
  generalize (lg_sl [.ref a0] ++ List.replicate (1 - (lg_sl [.ref a0]).length) Slot.unset).toArray = ls at hl ⊢
  have hl : lv_has ls 1 [(0, va_rf (some a0))] := hl
  unfold f_Li_arrivesAt at h
  refine mx_aload_n hx hb d_Li_arrivesAt_0 rfl (lv_at hl 0 rfl) ?_
  obtain ⟨x1, e2, h⟩ := mx_b h
  refine mx_getl hx hb hts i_Li hown hK hM e2 (ci := 1) (C := R_Li) (T := T_Li) (N := 8) rfl 4 (by decide) (hts _ wd_44) d_Li_arrivesAt_1 ?_
  refine mx_aload_n hx hb d_Li_arrivesAt_4 rfl (lv_at hl 0 rfl) ?_
  obtain ⟨x3, e4, h⟩ := mx_b h
  refine mx_getl hx hb hts i_Li hown hK hM e4 (ci := 1) (C := R_Li) (T := T_Li) (N := 8) rfl 7 (by decide) (hts _ wd_47) d_Li_arrivesAt_5 ?_
  refine mx_aload_n hx hb d_Li_arrivesAt_8 rfl (lv_at hl 0 rfl) ?_
  obtain ⟨x5, e6, h⟩ := mx_b h
  refine mx_getl hx hb hts i_Li hown hK hM e6 (ci := 1) (C := R_Li) (T := T_Li) (N := 8) rfl 3 (by decide) (hts _ wd_43) d_Li_arrivesAt_9 ?_
  refine lv_lsub hx hb d_Li_arrivesAt_12 ?_
  refine lv_ladd hx hb d_Li_arrivesAt_13 ?_
  cases h
  exact W.lret hx hb hr (fun t ht hW => ⟨⟨rfl, by rw [ht]; exact hM⟩, hS.F ht⟩) hS.2.2 d_Li_arrivesAt_14
set_option maxHeartbeats 4000000 in
set_option maxRecDepth 100000 in
theorem c_Lo_pickedOption (l : Launch) (G : mx_G) (a0 : Nat) (mem : mx_Mem) (q : Option Nat × mx_Mem) (h : f_Lo_pickedOption a0 mem = some q) : Met l y_Lo_pickedOption (gq_w y_Lo_pickedOption b_Lo_pickedOption 1 (some (.object "LateRoutes$Option"))) { frames := 0, cells := 0, slots := 0, locals := 0 } (gq_P G [.ref a0] mem) (gq_Q G (some (va_rf q.1)) q.2) 0 0 (mx_A G) := by
  refine Met.ofW (cc := b_Lo_pickedOption) (maxL := 1) (ret := (some (.object "LateRoutes$Option"))) (by decide) rfl ?_
  intro p e s m args below meth c s₁ B hml hv
  obtain ⟨rfl, hb0, hM, hK, hN⟩ := hv
  have CX : gq_C p (headSpec (gq_w y_Lo_pickedOption b_Lo_pickedOption 1 (some (.object "LateRoutes$Option"))) { frames := 0, cells := 0, slots := 0, locals := 0 }).room s m _ meth c G b_Lo_pickedOption 1 (some (.object "LateRoutes$Option")) R_Lo 0 0 0 0 := ⟨B.exec, B.bytes, hml, B.returns, findClass_of_methodNamed B.named, fun w hw => atoms_spec (ws := gq_w y_Lo_pickedOption b_Lo_pickedOption 1 (some (.object "LateRoutes$Option"))) B.pre w (List.mem_cons_of_mem _ hw), B.notSynchronized, hK, hN, hb0, Nat.le_refl _, Nat.le_refl _, Nat.le_refl _, Nat.le_refl _⟩
  obtain ⟨hx, hb, hml, hr, hown, hts, hlocks, hK, hN, hb0, hRf, hRc, hRs, hRl⟩ := id CX
  have hS : va_S (mx_A G) s.heap s.heap [] := va_S.rf
  have hl := lv_entry [.ref a0] (n := 1) (Nat.le_of_ble_eq_true rfl)
  rw [lg_entry_eq]
  generalize (lg_sl [.ref a0] ++ List.replicate (1 - (lg_sl [.ref a0]).length) Slot.unset).toArray = ls at hl ⊢
  have hl : lv_has ls 1 [(0, va_rf (some a0))] := hl
  unfold f_Lo_pickedOption at h
  refine mx_aload_n hx hb d_Lo_pickedOption_0 rfl (lv_at hl 0 rfl) ?_
  obtain ⟨x1, e2, h⟩ := mx_b h
  refine mx_geti hx hb hts i_Lo hown hK hM e2 (ci := 3) (C := R_Lo) (T := T_Lo) (N := 12) rfl 6 (by decide) (hts _ wd_48) d_Lo_pickedOption_1 ?_
  refine lv_if_lt (tgt := 30) hx hb d_Lo_pickedOption_4 (by decide) (fun c3 => ?_) (fun c3 => ?_)
  · rw [if_pos c3] at h
    refine mx_null hx hb d_Lo_pickedOption_30 ?_
    cases h
    exact W.aret hx hb hr (Or.inl ⟨_, rfl⟩) (va_rf_or _) (fun t ht hW => ⟨⟨rfl, by rw [ht]; exact hM⟩, hS.F ht⟩) hS.2.2 d_Lo_pickedOption_31
  · rw [if_neg c3] at h
    refine mx_aload_n hx hb d_Lo_pickedOption_7 rfl (lv_at hl 0 rfl) ?_
    obtain ⟨x4, e5, h⟩ := mx_b h
    refine mx_geti hx hb hts i_Lo hown hK hM e5 (ci := 3) (C := R_Lo) (T := T_Lo) (N := 12) rfl 6 (by decide) (hts _ wd_48) d_Lo_pickedOption_8 ?_
    refine mx_aload_n hx hb d_Lo_pickedOption_11 rfl (lv_at hl 0 rfl) ?_
    obtain ⟨x6, e7, h⟩ := mx_b h
    refine mx_geti hx hb hts i_Lo hown hK hM e7 (ci := 3) (C := R_Lo) (T := T_Lo) (N := 12) rfl 5 (by decide) (hts _ wd_49) d_Lo_pickedOption_12 ?_
    refine lv_icmp_ge (tgt := 30) hx hb d_Lo_pickedOption_15 (by decide) (fun c8 => ?_) (fun c8 => ?_)
    · rw [if_pos c8] at h
      refine mx_null hx hb d_Lo_pickedOption_30 ?_
      cases h
      exact W.aret hx hb hr (Or.inl ⟨_, rfl⟩) (va_rf_or _) (fun t ht hW => ⟨⟨rfl, by rw [ht]; exact hM⟩, hS.F ht⟩) hS.2.2 d_Lo_pickedOption_31
    · rw [if_neg c8] at h
      refine mx_aload_n hx hb d_Lo_pickedOption_18 rfl (lv_at hl 0 rfl) ?_
      obtain ⟨x9, e10, h⟩ := mx_b h
      refine mx_getr hx hb hts i_Lo hown hK hM e10 (ci := 3) (C := R_Lo) (T := T_Lo) (N := 12) rfl 4 (by decide) (hts _ wd_50) d_Lo_pickedOption_19 ?_
      refine mx_aload_n hx hb d_Lo_pickedOption_22 rfl (lv_at hl 0 rfl) ?_
      obtain ⟨x11, e12, h⟩ := mx_b h
      refine mx_geti hx hb hts i_Lo hown hK hM e12 (ci := 3) (C := R_Lo) (T := T_Lo) (N := 12) rfl 6 (by decide) (hts _ wd_48) d_Lo_pickedOption_23 ?_
      obtain ⟨x13, e14, h⟩ := mx_b h
      refine mx_aald hx hb hK hM e14 rfl d_Lo_pickedOption_26 ?_
      refine lv_goto (tgt := 31) hx hb d_Lo_pickedOption_27 (by decide) ?_
      cases h
      exact W.aret hx hb hr (Or.inl ⟨_, rfl⟩) (va_rf_or _) (fun t ht hW => ⟨⟨rfl, by rw [ht]; exact hM⟩, hS.F ht⟩) hS.2.2 d_Lo_pickedOption_31
set_option maxHeartbeats 4000000 in
set_option maxRecDepth 100000 in
theorem c_Li_holdUntil (l : Launch) (G : mx_G) (a0 : Nat) (v1 : Int64) (mem : mx_Mem) (q : mx_Mem) (h : f_Li_holdUntil a0 v1 mem = some q) : Met l y_Li_holdUntil (gq_w y_Li_holdUntil b_Li_holdUntil 3 none) { frames := 1, cells := 0, slots := 0, locals := 16 } (gq_P G [.ref a0, .long v1] mem) (gq_Q G none q) 0 0 (mx_A G) := by
  refine Met.ofW (cc := b_Li_holdUntil) (maxL := 3) (ret := none) (by decide) rfl ?_
  intro p e s m args below meth c s₁ B hml hv
  obtain ⟨rfl, hb0, hM, hK, hN⟩ := hv
  have CX : gq_C p (headSpec (gq_w y_Li_holdUntil b_Li_holdUntil 3 none) { frames := 1, cells := 0, slots := 0, locals := 16 }).room s m _ meth c G b_Li_holdUntil 3 none R_Li 1 0 0 16 := ⟨B.exec, B.bytes, hml, B.returns, findClass_of_methodNamed B.named, fun w hw => atoms_spec (ws := gq_w y_Li_holdUntil b_Li_holdUntil 3 none) B.pre w (List.mem_cons_of_mem _ hw), B.notSynchronized, hK, hN, hb0, Nat.le_refl _, Nat.le_refl _, Nat.le_refl _, Nat.le_refl _⟩
  obtain ⟨hx, hb, hml, hr, hown, hts, hlocks, hK, hN, hb0, hRf, hRc, hRs, hRl⟩ := id CX
  have hS : va_S (mx_A G) s.heap s.heap [] := va_S.rf
  have hl := lv_entry [.ref a0, .long v1] (n := 3) (Nat.le_of_ble_eq_true rfl)
  rw [lg_entry_eq]
  generalize (lg_sl [.ref a0, .long v1] ++ List.replicate (3 - (lg_sl [.ref a0, .long v1]).length) Slot.unset).toArray = ls at hl ⊢
  have hl : lv_has ls 3 [(0, va_rf (some a0)), (1, .long v1)] := hl
  unfold f_Li_holdUntil at h
  refine lv_lload_n hx hb d_Li_holdUntil_0 rfl (lv_at hl 1 rfl) ?_
  refine mx_aload_n hx hb d_Li_holdUntil_1 rfl (lv_at hl 0 rfl) ?_
  obtain ⟨x1, e2, h⟩ := mx_b h
  refine mx_getl hx hb hts i_Li hown hK hM e2 (ci := 1) (C := R_Li) (T := T_Li) (N := 8) rfl 3 (by decide) (hts _ wd_43) d_Li_holdUntil_2 ?_
  refine mx_aload_n hx hb d_Li_holdUntil_5 rfl (lv_at hl 0 rfl) ?_
  obtain ⟨x3, e4, h⟩ := mx_b h
  refine mx_getl hx hb hts i_Li hown hK hM e4 (ci := 1) (C := R_Li) (T := T_Li) (N := 8) rfl 5 (by decide) (hts _ wd_45) d_Li_holdUntil_6 ?_
  refine lv_ladd hx hb d_Li_holdUntil_9 ?_
  refine lv_lsub hx hb d_Li_holdUntil_10 ?_
  refine mx_aload_n hx hb d_Li_holdUntil_11 rfl (lv_at hl 0 rfl) ?_
  obtain ⟨x5, e6, h⟩ := mx_b h
  refine mx_getl hx hb hts i_Li hown hK hM e6 (ci := 1) (C := R_Li) (T := T_Li) (N := 8) rfl 6 (by decide) (hts _ wd_46) d_Li_holdUntil_12 ?_
  refine mx_lcmp_gt (tgt := 31) hx hb d_Li_holdUntil_15 d_Li_holdUntil_16 (by decide) (fun c7 => ?_) (fun c7 => ?_)
  · rw [if_pos c7] at h
    cases h
    exact W.vret hx hb hr (fun t ht hW => ⟨⟨rfl, by rw [ht]; exact hM⟩, hS.F ht⟩) hS.2.2 d_Li_holdUntil_31
  · rw [if_neg c7] at h
    refine mx_aload_n hx hb d_Li_holdUntil_19 rfl (lv_at hl 0 rfl) ?_
    refine mx_aload_n hx hb d_Li_holdUntil_20 rfl (lv_at hl 0 rfl) ?_
    obtain ⟨x8, e9, h⟩ := mx_b h
    refine mx_getl hx hb hts i_Li hown hK hM e9 (ci := 1) (C := R_Li) (T := T_Li) (N := 8) rfl 7 (by decide) (hts _ wd_47) d_Li_holdUntil_21 ?_
    refine lv_lload_n hx hb d_Li_holdUntil_24 rfl (lv_at hl 1 rfl) ?_
    refine va_mmax_long hx hb (by rw [hml]; exact hl.1.symm) hown (hts _ wd_51) (hts _ wd_52) (hts _ wd_53) (hts _ wd_54) (Nat.le_trans (Nat.le_of_ble_eq_true rfl) hRf) (Nat.le_trans (Nat.le_of_ble_eq_true rfl) hRl) (Nat.le_trans (Nat.le_of_ble_eq_true rfl) hRc) (Nat.le_trans (Nat.le_of_ble_eq_true rfl) hRs) d_Li_holdUntil_25 ?_
    obtain ⟨m10, e11, h⟩ := mx_b h
    refine mx_put hx hb hts i_Li t_Li t_Li_ok n_Li hown hK hM hS e11 (ci := 1) (C := R_Li) (T := T_Li) (N := 8) rfl 7 (by decide) (hts _ wd_47) rfl (ty := .long) (by decide +kernel) rfl rfl d_Li_holdUntil_28 (fun H locs hM hS => ?_)
    cases h
    exact W.vret hx hb hr (fun t ht hW => ⟨⟨rfl, by rw [ht]; exact hM⟩, hS.F ht⟩) hS.2.2 d_Li_holdUntil_31
set_option maxHeartbeats 4000000 in
set_option maxRecDepth 100000 in
theorem c_Lo_comeAndHold (l : Launch) (G : mx_G) (a0 : Nat) (mem : mx_Mem) (q : mx_Mem) (h : f_Lo_comeAndHold a0 mem = some q) : Met l y_Lo_comeAndHold (gq_w y_Lo_comeAndHold b_Lo_comeAndHold 2 none) { frames := 2, cells := 0, slots := 0, locals := 38 } (gq_P G [.ref a0] mem) (gq_Q G none q) 0 0 (mx_A G) := by
  refine Met.ofW (cc := b_Lo_comeAndHold) (maxL := 2) (ret := none) (by decide) rfl ?_
  intro p e s m args below meth c s₁ B hml hv
  obtain ⟨rfl, hb0, hM, hK, hN⟩ := hv
  have CX : gq_C p (headSpec (gq_w y_Lo_comeAndHold b_Lo_comeAndHold 2 none) { frames := 2, cells := 0, slots := 0, locals := 38 }).room s m _ meth c G b_Lo_comeAndHold 2 none R_Lo 2 0 0 38 := ⟨B.exec, B.bytes, hml, B.returns, findClass_of_methodNamed B.named, fun w hw => atoms_spec (ws := gq_w y_Lo_comeAndHold b_Lo_comeAndHold 2 none) B.pre w (List.mem_cons_of_mem _ hw), B.notSynchronized, hK, hN, hb0, Nat.le_refl _, Nat.le_refl _, Nat.le_refl _, Nat.le_refl _⟩
  obtain ⟨hx, hb, hml, hr, hown, hts, hlocks, hK, hN, hb0, hRf, hRc, hRs, hRl⟩ := id CX
  have hS : va_S (mx_A G) s.heap s.heap [] := va_S.rf
  have hl := lv_entry [.ref a0] (n := 2) (Nat.le_of_ble_eq_true rfl)
  rw [lg_entry_eq]
  generalize (lg_sl [.ref a0] ++ List.replicate (2 - (lg_sl [.ref a0]).length) Slot.unset).toArray = ls at hl ⊢
  have hl : lv_has ls 2 [(0, va_rf (some a0))] := hl
  unfold f_Lo_comeAndHold at h
  refine mx_aload_n hx hb d_Lo_comeAndHold_0 rfl (lv_at hl 0 rfl) ?_
  refine mx_aload_n hx hb d_Lo_comeAndHold_1 rfl (lv_at hl 0 rfl) ?_
  obtain ⟨x1, e2, h⟩ := mx_b h
  refine mx_getr hx hb hts i_Lo hown hK hM e2 (ci := 3) (C := R_Lo) (T := T_Lo) (N := 12) rfl 0 (by decide) (hts _ wd_55) d_Lo_comeAndHold_2 ?_
  obtain ⟨a6, e5, h⟩ := mx_b h
  obtain ⟨q3, e4, h⟩ := mx_b h
  have e7 := mx_c_eq e5
  refine W.eq (g2 := F0 m 5 ls [.ref a6, va_rf (some a0)]) (congrArg (fun z => F0 m 5 ls [va_rf z, va_rf (some a0)]) e7) ?_
  refine gq_go (va_runV (b := a6) (As := []) (rest := [va_rf (some a0)]) ⟨hx, hb, hml, hown, hts⟩ (c_Li_arrivesAt l G a6  _ _ e4) (cwV 0 hts (gq_gV wd_57 wd_58 wd_59 wd_60 wd_56) rfl rfl rfl (by decide +kernel) ⟨Nat.le_trans (Nat.le_of_ble_eq_true rfl) hRf, Nat.le_trans (Nat.le_of_ble_eq_true rfl) hRl⟩) (gq_preV hK hN hM hS hb0 e5 (C := R_Li) (T := T_Li) (N := 8) rfl) rfl rfl hl.1 rfl (lv_room (Nat.le_of_ble_eq_true rfl)) d_Lo_comeAndHold_5 ⟨(Nat.le_trans (Nat.le_of_ble_eq_true rfl) hRc), (Nat.le_trans (Nat.le_of_ble_eq_true rfl) hRs)⟩) hS (fun H locs hM hS => ?_)
  refine W.eq (g2 := F0 m 8 ls [.long q3.1, va_rf (some a0)]) rfl ?_
  obtain ⟨m8, e9, h⟩ := mx_b h
  refine mx_put hx hb hts i_Lo t_Lo t_Lo_ok n_Lo hown hK hM hS e9 (ci := 3) (C := R_Lo) (T := T_Lo) (N := 12) rfl 8 (by decide) (hts _ wd_61) rfl (ty := .long) (by decide +kernel) rfl rfl d_Lo_comeAndHold_8 (fun H locs hM hS => ?_)
  refine mx_aload_n hx hb d_Lo_comeAndHold_11 rfl (lv_at hl 0 rfl) ?_
  obtain ⟨a13, e12, h⟩ := mx_b h
  obtain ⟨q10, e11, h⟩ := mx_b h
  have e14 := mx_c_eq e12
  refine W.eq (g2 := F0 m 12 ls [.ref a13]) (congrArg (fun z => F0 m 12 ls [va_rf z]) e14) ?_
  refine gq_go (va_runV (b := a13) (As := []) (rest := []) ⟨hx, hb, hml, hown, hts⟩ (c_Lo_pickedOption l G a13  _ _ e11) (cwV 0 hts (gq_gV wd_63 wd_64 wd_65 wd_66 wd_62) rfl rfl rfl (by decide +kernel) ⟨Nat.le_trans (Nat.le_of_ble_eq_true rfl) hRf, Nat.le_trans (Nat.le_of_ble_eq_true rfl) hRl⟩) (gq_preV hK hN hM hS hb0 e12 (C := R_Lo) (T := T_Lo) (N := 12) rfl) rfl rfl hl.1 rfl (lv_room (Nat.le_of_ble_eq_true rfl)) d_Lo_comeAndHold_12 ⟨(Nat.le_trans (Nat.le_of_ble_eq_true rfl) hRc), (Nat.le_trans (Nat.le_of_ble_eq_true rfl) hRs)⟩) hS (fun H locs hM hS => ?_)
  refine W.eq (g2 := F0 m 15 ls [va_rf q10.1]) rfl ?_
  refine mx_astore_n (lv' := [(1, va_rf q10.1), (0, va_rf (some a0))]) hx hb d_Lo_comeAndHold_15 rfl hl (by decide) (by simp [mx_cat, mx_cati, mx_catl, mx_catr]) (fun ls hl => ?_)
  refine mx_aload_n hx hb d_Lo_comeAndHold_16 rfl (lv_at hl 0 rfl) ?_
  refine mx_ifnull (tgt := 50) hx hb d_Lo_comeAndHold_17 (by decide) (fun c15 => ?_) (fun c15 => ?_)
  · rw [if_pos c15] at h
    cases h
    exact W.vret hx hb hr (fun t ht hW => ⟨⟨rfl, by rw [ht]; exact hM⟩, hS.F ht⟩) hS.2.2 d_Lo_comeAndHold_50
  · rw [if_neg c15] at h
    refine mx_aload_n hx hb d_Lo_comeAndHold_20 rfl (lv_at hl 0 rfl) ?_
    obtain ⟨x16, e17, h⟩ := mx_b h
    refine mx_getiN hx hb hts i_Op hown hK hM e17 (ci := 2) (C := R_Op) (T := T_Op) (N := 3) rfl 0 (by decide) (va_Nw.use rfl (hN _ nw_2)) d_Lo_comeAndHold_21 ?_
    refine lv_iconst (v := 1) hx hb d_Lo_comeAndHold_24 (by decide) ?_
    refine lv_icmp_ne (tgt := 50) hx hb d_Lo_comeAndHold_25 (by decide) (fun c18 => ?_) (fun c18 => ?_)
    · rw [if_neg c18] at h
      cases h
      exact W.vret hx hb hr (fun t ht hW => ⟨⟨rfl, by rw [ht]; exact hM⟩, hS.F ht⟩) hS.2.2 d_Lo_comeAndHold_50
    · rw [if_pos c18] at h
      refine mx_aload_n hx hb d_Lo_comeAndHold_28 rfl (lv_at hl 0 rfl) ?_
      obtain ⟨x19, e20, h⟩ := mx_b h
      refine mx_getrN hx hb hts i_Op hown hK hM e20 (ci := 2) (C := R_Op) (T := T_Op) (N := 3) rfl 1 (by decide) (va_Nw.use rfl (hN _ nw_3)) d_Lo_comeAndHold_29 ?_
      refine mx_ifnull (tgt := 50) hx hb d_Lo_comeAndHold_32 (by decide) (fun c21 => ?_) (fun c21 => ?_)
      · rw [if_pos c21] at h
        cases h
        exact W.vret hx hb hr (fun t ht hW => ⟨⟨rfl, by rw [ht]; exact hM⟩, hS.F ht⟩) hS.2.2 d_Lo_comeAndHold_50
      · rw [if_neg c21] at h
        refine mx_aload_n hx hb d_Lo_comeAndHold_35 rfl (lv_at hl 0 rfl) ?_
        obtain ⟨x22, e23, h⟩ := mx_b h
        refine mx_getrN hx hb hts i_Op hown hK hM e23 (ci := 2) (C := R_Op) (T := T_Op) (N := 3) rfl 1 (by decide) (va_Nw.use rfl (hN _ nw_3)) d_Lo_comeAndHold_36 ?_
        refine mx_aload_n hx hb d_Lo_comeAndHold_39 rfl (lv_at hl 1 rfl) ?_
        obtain ⟨x24, e25, h⟩ := mx_b h
        refine mx_getl hx hb hts i_Lo hown hK hM e25 (ci := 3) (C := R_Lo) (T := T_Lo) (N := 12) rfl 8 (by decide) (hts _ wd_61) d_Lo_comeAndHold_40 ?_
        refine lv_ldc2 (v := 10) hx hb hown (hts _ wd_67) d_Lo_comeAndHold_43 ?_
        refine lv_ladd hx hb d_Lo_comeAndHold_46 ?_
        obtain ⟨a29, e28, h⟩ := mx_b h
        obtain ⟨q26, e27, h⟩ := mx_b h
        have e30 := mx_c_eq e28
        refine W.eq (g2 := F0 m 47 ls [.long ((x24 + 10)), .ref a29]) (congrArg (fun z => F0 m 47 ls [.long ((x24 + 10)), va_rf z]) e30) ?_
        refine gq_go (va_runV (b := a29) (As := [.long ((x24 + 10))]) (rest := []) ⟨hx, hb, hml, hown, hts⟩ (c_Li_holdUntil l G a29 (x24 + 10) _ _ e27) (cwV 1 hts (gq_gV wd_69 wd_70 wd_71 wd_60 wd_68) rfl rfl rfl (by decide +kernel) ⟨Nat.le_trans (Nat.le_of_ble_eq_true rfl) hRf, Nat.le_trans (Nat.le_of_ble_eq_true rfl) hRl⟩) (gq_preV hK hN hM hS hb0 e28 (C := R_Li) (T := T_Li) (N := 8) rfl) rfl rfl hl.1 rfl (lv_room (Nat.le_of_ble_eq_true rfl)) d_Lo_comeAndHold_47 ⟨(Nat.le_trans (Nat.le_of_ble_eq_true rfl) hRc), (Nat.le_trans (Nat.le_of_ble_eq_true rfl) hRs)⟩) hS (fun H locs hM hS => ?_)
        refine W.eq (g2 := F0 m 50 ls []) rfl ?_
        cases h
        exact W.vret hx hb hr (fun t ht hW => ⟨⟨rfl, by rw [ht]; exact hM⟩, hS.F ht⟩) hS.2.2 d_Lo_comeAndHold_50
set_option maxHeartbeats 4000000 in
set_option maxRecDepth 100000 in
theorem c_Lo_isDirect (l : Launch) (G : mx_G) (a0 : Nat) (mem : mx_Mem) (q : Int32 × mx_Mem) (h : f_Lo_isDirect a0 mem = some q) : Met l y_Lo_isDirect (gq_w y_Lo_isDirect b_Lo_isDirect 1 (some .boolean)) { frames := 0, cells := 0, slots := 0, locals := 0 } (gq_P G [.ref a0] mem) (gq_Q G (some (.int q.1)) q.2) 0 0 (mx_A G) := by
  refine Met.ofW (cc := b_Lo_isDirect) (maxL := 1) (ret := (some .boolean)) (by decide) rfl ?_
  intro p e s m args below meth c s₁ B hml hv
  obtain ⟨rfl, hb0, hM, hK, hN⟩ := hv
  have CX : gq_C p (headSpec (gq_w y_Lo_isDirect b_Lo_isDirect 1 (some .boolean)) { frames := 0, cells := 0, slots := 0, locals := 0 }).room s m _ meth c G b_Lo_isDirect 1 (some .boolean) R_Lo 0 0 0 0 := ⟨B.exec, B.bytes, hml, B.returns, findClass_of_methodNamed B.named, fun w hw => atoms_spec (ws := gq_w y_Lo_isDirect b_Lo_isDirect 1 (some .boolean)) B.pre w (List.mem_cons_of_mem _ hw), B.notSynchronized, hK, hN, hb0, Nat.le_refl _, Nat.le_refl _, Nat.le_refl _, Nat.le_refl _⟩
  obtain ⟨hx, hb, hml, hr, hown, hts, hlocks, hK, hN, hb0, hRf, hRc, hRs, hRl⟩ := id CX
  have hS : va_S (mx_A G) s.heap s.heap [] := va_S.rf
  have hl := lv_entry [.ref a0] (n := 1) (Nat.le_of_ble_eq_true rfl)
  rw [lg_entry_eq]
  generalize (lg_sl [.ref a0] ++ List.replicate (1 - (lg_sl [.ref a0]).length) Slot.unset).toArray = ls at hl ⊢
  have hl : lv_has ls 1 [(0, va_rf (some a0))] := hl
  unfold f_Lo_isDirect at h
  refine mx_aload_n hx hb d_Lo_isDirect_0 rfl (lv_at hl 0 rfl) ?_
  obtain ⟨x1, e2, h⟩ := mx_b h
  refine mx_getr hx hb hts i_Lo hown hK hM e2 (ci := 3) (C := R_Lo) (T := T_Lo) (N := 12) rfl 0 (by decide) (hts _ wd_55) d_Lo_isDirect_1 ?_
  obtain ⟨x3, e4, h⟩ := mx_b h
  refine mx_getiN hx hb hts i_Li hown hK hM e4 (ci := 1) (C := R_Li) (T := T_Li) (N := 8) rfl 2 (by decide) (va_Nw.use rfl (hN _ nw_4)) d_Lo_isDirect_4 ?_
  refine mx_aload_n hx hb d_Lo_isDirect_7 rfl (lv_at hl 0 rfl) ?_
  obtain ⟨x5, e6, h⟩ := mx_b h
  refine mx_geti hx hb hts i_Lo hown hK hM e6 (ci := 3) (C := R_Lo) (T := T_Lo) (N := 12) rfl 1 (by decide) (hts _ wd_72) d_Lo_isDirect_8 ?_
  refine lv_icmp_ne (tgt := 18) hx hb d_Lo_isDirect_11 (by decide) (fun c7 => ?_) (fun c7 => ?_)
  · rw [if_neg c7] at h
    refine lv_iconst (v := 0) hx hb d_Lo_isDirect_18 (by decide) ?_
    cases h
    exact W.zret hx hb hr rfl (fun t ht hW => ⟨⟨rfl, by rw [ht]; exact hM⟩, hS.F ht⟩) hS.2.2 d_Lo_isDirect_19
  · rw [if_pos c7] at h
    refine lv_iconst (v := 1) hx hb d_Lo_isDirect_14 (by decide) ?_
    refine lv_goto (tgt := 19) hx hb d_Lo_isDirect_15 (by decide) ?_
    cases h
    exact W.zret hx hb hr rfl (fun t ht hW => ⟨⟨rfl, by rw [ht]; exact hM⟩, hS.F ht⟩) hS.2.2 d_Lo_isDirect_19
set_option maxHeartbeats 4000000 in
set_option maxRecDepth 100000 in
theorem c_Lo_catches (l : Launch) (G : mx_G) (a0 : Nat) (v1 : Option Nat) (mem : mx_Mem) (q : Int32 × mx_Mem) (h : f_Lo_catches a0 v1 mem = some q) : Met l y_Lo_catches (gq_w y_Lo_catches b_Lo_catches 2 (some .boolean)) { frames := 0, cells := 0, slots := 0, locals := 0 } (gq_P G [.ref a0, va_rf v1] mem) (gq_Q G (some (.int q.1)) q.2) 0 0 (mx_A G) := by
  refine Met.ofW (cc := b_Lo_catches) (maxL := 2) (ret := (some .boolean)) (by decide) rfl ?_
  intro p e s m args below meth c s₁ B hml hv
  obtain ⟨rfl, hb0, hM, hK, hN⟩ := hv
  have CX : gq_C p (headSpec (gq_w y_Lo_catches b_Lo_catches 2 (some .boolean)) { frames := 0, cells := 0, slots := 0, locals := 0 }).room s m _ meth c G b_Lo_catches 2 (some .boolean) R_Lo 0 0 0 0 := ⟨B.exec, B.bytes, hml, B.returns, findClass_of_methodNamed B.named, fun w hw => atoms_spec (ws := gq_w y_Lo_catches b_Lo_catches 2 (some .boolean)) B.pre w (List.mem_cons_of_mem _ hw), B.notSynchronized, hK, hN, hb0, Nat.le_refl _, Nat.le_refl _, Nat.le_refl _, Nat.le_refl _⟩
  obtain ⟨hx, hb, hml, hr, hown, hts, hlocks, hK, hN, hb0, hRf, hRc, hRs, hRl⟩ := id CX
  have hS : va_S (mx_A G) s.heap s.heap [] := va_S.rf
  have hl := lv_entry [.ref a0, va_rf v1] (n := 2) (by simp [lg_sl, mx_cat, mx_cati, mx_catl, mx_catr])
  rw [lg_entry_eq]
  generalize (lg_sl [.ref a0, va_rf v1] ++ List.replicate (2 - (lg_sl [.ref a0, va_rf v1]).length) Slot.unset).toArray = ls at hl ⊢
  have hl : lv_has ls 2 [(0, va_rf (some a0)), (1, va_rf v1)] := by have h9 := hl; simp [lv_args, mx_cat, mx_cati, mx_catl, mx_catr] at h9; exact h9
  unfold f_Lo_catches at h
  refine mx_aload_n hx hb d_Lo_catches_0 rfl (lv_at hl 1 rfl) ?_
  obtain ⟨x1, e2, h⟩ := mx_b h
  refine mx_getlN hx hb hts i_Li hown hK hM e2 (ci := 1) (C := R_Li) (T := T_Li) (N := 8) rfl 7 (by decide) (va_Nw.use rfl (hN _ nw_5)) d_Lo_catches_1 ?_
  refine mx_aload_n hx hb d_Lo_catches_4 rfl (lv_at hl 0 rfl) ?_
  obtain ⟨x3, e4, h⟩ := mx_b h
  refine mx_getl hx hb hts i_Lo hown hK hM e4 (ci := 3) (C := R_Lo) (T := T_Lo) (N := 12) rfl 8 (by decide) (hts _ wd_61) d_Lo_catches_5 ?_
  refine lv_ldc2 (v := 10) hx hb hown (hts _ wd_67) d_Lo_catches_8 ?_
  refine lv_ladd hx hb d_Lo_catches_11 ?_
  refine mx_lcmp_lt (tgt := 20) hx hb d_Lo_catches_12 d_Lo_catches_13 (by decide) (fun c5 => ?_) (fun c5 => ?_)
  · rw [if_pos c5] at h
    refine lv_iconst (v := 0) hx hb d_Lo_catches_20 (by decide) ?_
    cases h
    exact W.zret hx hb hr rfl (fun t ht hW => ⟨⟨rfl, by rw [ht]; exact hM⟩, hS.F ht⟩) hS.2.2 d_Lo_catches_21
  · rw [if_neg c5] at h
    refine lv_iconst (v := 1) hx hb d_Lo_catches_16 (by decide) ?_
    refine lv_goto (tgt := 21) hx hb d_Lo_catches_17 (by decide) ?_
    cases h
    exact W.zret hx hb hr rfl (fun t ht hW => ⟨⟨rfl, by rw [ht]; exact hM⟩, hS.F ht⟩) hS.2.2 d_Lo_catches_21
