set_option maxHeartbeats 4000000 in
set_option maxRecDepth 100000 in
theorem wfl_LR_keepChoice_2 {p : Program} {l : Launch} {e : Env} {R : Room} {s : State} {m : MethodId} {args : Array Value} {below : List Frame} {meth : Method} {c : Code} {G : mx_G} (q : mx_Mem) (CX : gq_C p R s m args meth c G b_LR_keepChoice 2 none R_LR 1 0 0 20)  : ∀ (n : Nat) (v0 : Option Nat) (v1 : Int32) (mem : mx_Mem), fl_LR_keepChoice_2  n v0 v1 mem = some q → ∀ (H : Heap) (locs : List Loc) (ls : Array Slot), lv_has ls 2 [(0, va_rf v0), (1, .int v1)] → mx_M vwCl G mem H → va_S (mx_A G) s.heap H locs → W p l e R s m args below meth c H locs 0 0 (MQ below (gq_Q G none q) args s 0 0 (mx_A G)) (F0 m 2 ls []) := by
  obtain ⟨hx, hb, hml, hr, hown, hts, hlocks, hK, hN, hb0, hRf, hRc, hRs, hRl⟩ := id CX
  intro n
  induction n with
  | zero => intro v0 v1 mem h; rw [fl_LR_keepChoice_2] at h; cases h
  | succ n ih =>
    intro v0 v1 mem h H locs ls hl hM hS
    rw [fl_LR_keepChoice_2] at h
    refine lv_iload_n hx hb d_LR_keepChoice_2 rfl (lv_at hl 1 rfl) ?_
    refine mx_aload_n hx hb d_LR_keepChoice_3 rfl (lv_at hl 0 rfl) ?_
    obtain ⟨x1, e2, h⟩ := mx_b h
    refine mx_geti hx hb hts i_LR hown hK hM e2 (ci := 0) (C := R_LR) (T := T_LR) (N := 5) rfl 4 (by decide) (hts _ wd_9) d_LR_keepChoice_4 ?_
    refine lv_icmp_ge (tgt := 25) hx hb d_LR_keepChoice_7 (by decide) (fun c3 => ?_) (fun c3 => ?_)
    · rw [if_pos c3] at h
      cases h
      exact W.vret hx hb hr (fun t ht hW => ⟨⟨rfl, by rw [ht]; exact hM⟩, hS.F ht⟩) hS.2.2 d_LR_keepChoice_25
    · rw [if_neg c3] at h
      refine mx_aload_n hx hb d_LR_keepChoice_10 rfl (lv_at hl 0 rfl) ?_
      obtain ⟨x4, e5, h⟩ := mx_b h
      refine mx_getr hx hb hts i_LR hown hK hM e5 (ci := 0) (C := R_LR) (T := T_LR) (N := 5) rfl 2 (by decide) (hts _ wd_6) d_LR_keepChoice_11 ?_
      refine lv_iload_n hx hb d_LR_keepChoice_14 rfl (lv_at hl 1 rfl) ?_
      obtain ⟨x6, e7, h⟩ := mx_b h
      refine mx_aald hx hb hK hM e7 rfl d_LR_keepChoice_15 ?_
      obtain ⟨a11, e10, h⟩ := mx_b h
      obtain ⟨q8, e9, h⟩ := mx_b h
      have e12 := mx_c_eq e10
      refine W.eq (g2 := F0 m 16 ls [.ref a11]) (congrArg (fun z => F0 m 16 ls [va_rf z]) e12) ?_
      refine gq_go (va_runV (b := a11) (As := []) (rest := []) ⟨hx, hb, hml, hown, hts⟩ (c_Lo_keepPicked l G a11  _ _ e9) (cwV 0 hts (gq_gV wd_245 wd_246 wd_247 wd_66 wd_244) rfl rfl rfl (by decide +kernel) ⟨Nat.le_trans (Nat.le_of_ble_eq_true rfl) hRf, Nat.le_trans (Nat.le_of_ble_eq_true rfl) hRl⟩) (gq_preV hK hN hM hS hb0 e10 (C := R_Lo) (T := T_Lo) (N := 12) rfl) rfl rfl hl.1 rfl (lv_room (Nat.le_of_ble_eq_true rfl)) d_LR_keepChoice_16 ⟨(Nat.le_trans (Nat.le_of_ble_eq_true rfl) hRc), (Nat.le_trans (Nat.le_of_ble_eq_true rfl) hRs)⟩) hS (fun H locs hM hS => ?_)
      refine W.eq (g2 := F0 m 19 ls []) rfl ?_
      refine lv_iinc (v := (v1 + 1)) (lv' := [(1, .int ((v1 + 1))), (0, va_rf v0)]) hx hb d_LR_keepChoice_19 hl (k := 1) rfl rfl (by decide) (by simp [mx_cat, mx_cati, mx_catl, mx_catr]) (fun ls hl => ?_)
      refine lv_goto (tgt := 2) hx hb d_LR_keepChoice_22 (by decide) ?_
      exact ih _ _ _ h _ _ _ (lv_sub hl [1, 0] rfl) hM hS
set_option maxHeartbeats 4000000 in
set_option maxRecDepth 100000 in
theorem c_LR_keepChoice (l : Launch) (G : mx_G) (a0 : Nat) (mem : mx_Mem) (q : mx_Mem) (h : f_LR_keepChoice a0 mem = some q) : Met l y_LR_keepChoice (gq_w y_LR_keepChoice b_LR_keepChoice 2 none) { frames := 1, cells := 0, slots := 0, locals := 20 } (gq_P G [.ref a0] mem) (gq_Q G none q) 0 0 (mx_A G) := by
  refine Met.ofW (cc := b_LR_keepChoice) (maxL := 2) (ret := none) (by decide) rfl ?_
  intro p e s m args below meth c s₁ B hml hv
  obtain ⟨rfl, hb0, hM, hK, hN⟩ := hv
  have CX : gq_C p (headSpec (gq_w y_LR_keepChoice b_LR_keepChoice 2 none) { frames := 1, cells := 0, slots := 0, locals := 20 }).room s m _ meth c G b_LR_keepChoice 2 none R_LR 1 0 0 20 := ⟨B.exec, B.bytes, hml, B.returns, findClass_of_methodNamed B.named, fun w hw => atoms_spec (ws := gq_w y_LR_keepChoice b_LR_keepChoice 2 none) B.pre w (List.mem_cons_of_mem _ hw), B.notSynchronized, hK, hN, hb0, Nat.le_refl _, Nat.le_refl _, Nat.le_refl _, Nat.le_refl _⟩
  obtain ⟨hx, hb, hml, hr, hown, hts, hlocks, hK, hN, hb0, hRf, hRc, hRs, hRl⟩ := id CX
  have hS : va_S (mx_A G) s.heap s.heap [] := va_S.rf
  have hl := lv_entry [.ref a0] (n := 2) (Nat.le_of_ble_eq_true rfl)
  rw [lg_entry_eq]
  generalize (lg_sl [.ref a0] ++ List.replicate (2 - (lg_sl [.ref a0]).length) Slot.unset).toArray = ls at hl ⊢
  have hl : lv_has ls 2 [(0, va_rf (some a0))] := hl
  unfold f_LR_keepChoice at h
  refine lv_iconst (v := 0) hx hb d_LR_keepChoice_0 (by decide) ?_
  refine lv_istore_n (lv' := [(1, .int 0), (0, va_rf (some a0))]) hx hb d_LR_keepChoice_1 rfl hl (by decide) (by simp [mx_cat, mx_cati, mx_catl, mx_catr]) (fun ls hl => ?_)
  refine wfl_LR_keepChoice_2 q CX  5000 _ _ _ h _ _ _ (lv_sub hl [1, 0] rfl) hM hS
set_option maxHeartbeats 4000000 in
set_option maxRecDepth 100000 in
theorem c_Lo_pickNext (l : Launch) (G : mx_G) (a0 : Nat) (mem : mx_Mem) (q : Int32 × mx_Mem) (h : f_Lo_pickNext a0 mem = some q) : Met l y_Lo_pickNext (gq_w y_Lo_pickNext b_Lo_pickNext 1 (some .boolean)) { frames := 0, cells := 0, slots := 0, locals := 0 } (gq_P G [.ref a0] mem) (gq_Q G (some (.int q.1)) q.2) 0 0 (mx_A G) := by
  refine Met.ofW (cc := b_Lo_pickNext) (maxL := 1) (ret := (some .boolean)) (by decide) rfl ?_
  intro p e s m args below meth c s₁ B hml hv
  obtain ⟨rfl, hb0, hM, hK, hN⟩ := hv
  have CX : gq_C p (headSpec (gq_w y_Lo_pickNext b_Lo_pickNext 1 (some .boolean)) { frames := 0, cells := 0, slots := 0, locals := 0 }).room s m _ meth c G b_Lo_pickNext 1 (some .boolean) R_Lo 0 0 0 0 := ⟨B.exec, B.bytes, hml, B.returns, findClass_of_methodNamed B.named, fun w hw => atoms_spec (ws := gq_w y_Lo_pickNext b_Lo_pickNext 1 (some .boolean)) B.pre w (List.mem_cons_of_mem _ hw), B.notSynchronized, hK, hN, hb0, Nat.le_refl _, Nat.le_refl _, Nat.le_refl _, Nat.le_refl _⟩
  obtain ⟨hx, hb, hml, hr, hown, hts, hlocks, hK, hN, hb0, hRf, hRc, hRs, hRl⟩ := id CX
  have hS : va_S (mx_A G) s.heap s.heap [] := va_S.rf
  have hl := lv_entry [.ref a0] (n := 1) (Nat.le_of_ble_eq_true rfl)
  rw [lg_entry_eq]
  generalize (lg_sl [.ref a0] ++ List.replicate (1 - (lg_sl [.ref a0]).length) Slot.unset).toArray = ls at hl ⊢
  have hl : lv_has ls 1 [(0, va_rf (some a0))] := hl
  unfold f_Lo_pickNext at h
  refine mx_aload_n hx hb d_Lo_pickNext_0 rfl (lv_at hl 0 rfl) ?_
  obtain ⟨x1, e2, h⟩ := mx_b h
  refine mx_geti hx hb hts i_Lo hown hK hM e2 (ci := 3) (C := R_Lo) (T := T_Lo) (N := 12) rfl 6 (by decide) (hts _ wd_48) d_Lo_pickNext_1 ?_
  refine lv_iconst (v := 1) hx hb d_Lo_pickNext_4 (by decide) ?_
  refine lv_iadd hx hb d_Lo_pickNext_5 ?_
  refine mx_aload_n hx hb d_Lo_pickNext_6 rfl (lv_at hl 0 rfl) ?_
  obtain ⟨x3, e4, h⟩ := mx_b h
  refine mx_geti hx hb hts i_Lo hown hK hM e4 (ci := 3) (C := R_Lo) (T := T_Lo) (N := 12) rfl 5 (by decide) (hts _ wd_49) d_Lo_pickNext_7 ?_
  refine lv_icmp_lt (tgt := 15) hx hb d_Lo_pickNext_10 (by decide) (fun c5 => ?_) (fun c5 => ?_)
  · rw [if_pos c5] at h
    refine mx_aload_n hx hb d_Lo_pickNext_15 rfl (lv_at hl 0 rfl) ?_
    refine lv_dup hx hb d_Lo_pickNext_16 (mx_cat _) ?_
    obtain ⟨x6, e7, h⟩ := mx_b h
    refine mx_geti hx hb hts i_Lo hown hK hM e7 (ci := 3) (C := R_Lo) (T := T_Lo) (N := 12) rfl 6 (by decide) (hts _ wd_48) d_Lo_pickNext_17 ?_
    refine lv_iconst (v := 1) hx hb d_Lo_pickNext_20 (by decide) ?_
    refine lv_iadd hx hb d_Lo_pickNext_21 ?_
    obtain ⟨m8, e9, h⟩ := mx_b h
    refine mx_put hx hb hts i_Lo t_Lo t_Lo_ok n_Lo hown hK hM hS e9 (ci := 3) (C := R_Lo) (T := T_Lo) (N := 12) rfl 6 (by decide) (hts _ wd_48) rfl (ty := .int) (by decide +kernel) rfl rfl d_Lo_pickNext_22 (fun H locs hM hS => ?_)
    refine lv_iconst (v := 1) hx hb d_Lo_pickNext_25 (by decide) ?_
    cases h
    exact W.zret hx hb hr rfl (fun t ht hW => ⟨⟨rfl, by rw [ht]; exact hM⟩, hS.F ht⟩) hS.2.2 d_Lo_pickNext_26
  · rw [if_neg c5] at h
    refine lv_iconst (v := 0) hx hb d_Lo_pickNext_13 (by decide) ?_
    cases h
    exact W.zret hx hb hr rfl (fun t ht hW => ⟨⟨rfl, by rw [ht]; exact hM⟩, hS.F ht⟩) hS.2.2 d_Lo_pickNext_14
set_option maxHeartbeats 4000000 in
set_option maxRecDepth 100000 in
theorem wfl_LR_pickNextChoice_7 {p : Program} {l : Launch} {e : Env} {R : Room} {s : State} {m : MethodId} {args : Array Value} {below : List Frame} {meth : Method} {c : Code} {G : mx_G} (q : Int32 × mx_Mem) (CX : gq_C p R s m args meth c G b_LR_pickNextChoice 2 (some .boolean) R_LR 1 0 0 20)  : ∀ (n : Nat) (v0 : Option Nat) (v1 : Int32) (mem : mx_Mem), fl_LR_pickNextChoice_7  n v0 v1 mem = some q → ∀ (H : Heap) (locs : List Loc) (ls : Array Slot), lv_has ls 2 [(0, va_rf v0), (1, .int v1)] → mx_M vwCl G mem H → va_S (mx_A G) s.heap H locs → W p l e R s m args below meth c H locs 0 0 (MQ below (gq_Q G (some (.int q.1)) q.2) args s 0 0 (mx_A G)) (F0 m 7 ls []) := by
  obtain ⟨hx, hb, hml, hr, hown, hts, hlocks, hK, hN, hb0, hRf, hRc, hRs, hRl⟩ := id CX
  intro n
  induction n with
  | zero => intro v0 v1 mem h; rw [fl_LR_pickNextChoice_7] at h; cases h
  | succ n ih =>
    intro v0 v1 mem h H locs ls hl hM hS
    rw [fl_LR_pickNextChoice_7] at h
    refine lv_iload_n hx hb d_LR_pickNextChoice_7 rfl (lv_at hl 1 rfl) ?_
    refine lv_if_lt (tgt := 40) hx hb d_LR_pickNextChoice_8 (by decide) (fun c1 => ?_) (fun c1 => ?_)
    · rw [if_pos c1] at h
      refine lv_iconst (v := 0) hx hb d_LR_pickNextChoice_40 (by decide) ?_
      cases h
      exact W.zret hx hb hr rfl (fun t ht hW => ⟨⟨rfl, by rw [ht]; exact hM⟩, hS.F ht⟩) hS.2.2 d_LR_pickNextChoice_41
    · rw [if_neg c1] at h
      refine mx_aload_n hx hb d_LR_pickNextChoice_11 rfl (lv_at hl 0 rfl) ?_
      obtain ⟨x2, e3, h⟩ := mx_b h
      refine mx_getr hx hb hts i_LR hown hK hM e3 (ci := 0) (C := R_LR) (T := T_LR) (N := 5) rfl 2 (by decide) (hts _ wd_6) d_LR_pickNextChoice_12 ?_
      refine lv_iload_n hx hb d_LR_pickNextChoice_15 rfl (lv_at hl 1 rfl) ?_
      obtain ⟨x4, e5, h⟩ := mx_b h
      refine mx_aald hx hb hK hM e5 rfl d_LR_pickNextChoice_16 ?_
      obtain ⟨a9, e8, h⟩ := mx_b h
      obtain ⟨q6, e7, h⟩ := mx_b h
      have e10 := mx_c_eq e8
      refine W.eq (g2 := F0 m 17 ls [.ref a9]) (congrArg (fun z => F0 m 17 ls [va_rf z]) e10) ?_
      refine gq_go (va_runV (b := a9) (As := []) (rest := []) ⟨hx, hb, hml, hown, hts⟩ (c_Lo_pickNext l G a9  _ _ e7) (cwV 0 hts (gq_gV wd_249 wd_250 wd_251 wd_66 wd_248) rfl rfl rfl (by decide +kernel) ⟨Nat.le_trans (Nat.le_of_ble_eq_true rfl) hRf, Nat.le_trans (Nat.le_of_ble_eq_true rfl) hRl⟩) (gq_preV hK hN hM hS hb0 e8 (C := R_Lo) (T := T_Lo) (N := 12) rfl) rfl rfl hl.1 rfl (lv_room (Nat.le_of_ble_eq_true rfl)) d_LR_pickNextChoice_17 ⟨(Nat.le_trans (Nat.le_of_ble_eq_true rfl) hRc), (Nat.le_trans (Nat.le_of_ble_eq_true rfl) hRs)⟩) hS (fun H locs hM hS => ?_)
      refine W.eq (g2 := F0 m 20 ls [.int q6.1]) rfl ?_
      refine lv_if_eq (tgt := 25) hx hb d_LR_pickNextChoice_20 (by decide) (fun c11 => ?_) (fun c11 => ?_)
      · rw [if_pos c11] at h
        refine mx_aload_n hx hb d_LR_pickNextChoice_25 rfl (lv_at hl 0 rfl) ?_
        obtain ⟨x12, e13, h⟩ := mx_b h
        refine mx_getr hx hb hts i_LR hown hK hM e13 (ci := 0) (C := R_LR) (T := T_LR) (N := 5) rfl 2 (by decide) (hts _ wd_6) d_LR_pickNextChoice_26 ?_
        refine lv_iload_n hx hb d_LR_pickNextChoice_29 rfl (lv_at hl 1 rfl) ?_
        obtain ⟨x14, e15, h⟩ := mx_b h
        refine mx_aald hx hb hK hM e15 rfl d_LR_pickNextChoice_30 ?_
        obtain ⟨a19, e18, h⟩ := mx_b h
        obtain ⟨q16, e17, h⟩ := mx_b h
        have e20 := mx_c_eq e18
        refine W.eq (g2 := F0 m 31 ls [.ref a19]) (congrArg (fun z => F0 m 31 ls [va_rf z]) e20) ?_
        refine gq_go (va_runV (b := a19) (As := []) (rest := []) ⟨hx, hb, hml, hown, hts⟩ (c_Lo_pickFirst l G a19  _ _ e17) (cwV 0 hts (gq_gV wd_232 wd_233 wd_234 wd_66 wd_231) rfl rfl rfl (by decide +kernel) ⟨Nat.le_trans (Nat.le_of_ble_eq_true rfl) hRf, Nat.le_trans (Nat.le_of_ble_eq_true rfl) hRl⟩) (gq_preV hK hN hM hS hb0 e18 (C := R_Lo) (T := T_Lo) (N := 12) rfl) rfl rfl hl.1 rfl (lv_room (Nat.le_of_ble_eq_true rfl)) d_LR_pickNextChoice_31 ⟨(Nat.le_trans (Nat.le_of_ble_eq_true rfl) hRc), (Nat.le_trans (Nat.le_of_ble_eq_true rfl) hRs)⟩) hS (fun H locs hM hS => ?_)
        refine W.eq (g2 := F0 m 34 ls []) rfl ?_
        refine lv_iinc (v := (v1 + (-1))) (lv' := [(1, .int ((v1 + (-1)))), (0, va_rf v0)]) hx hb d_LR_pickNextChoice_34 hl (k := 1) rfl rfl (by decide) (by simp [mx_cat, mx_cati, mx_catl, mx_catr]) (fun ls hl => ?_)
        refine lv_goto (tgt := 7) hx hb d_LR_pickNextChoice_37 (by decide) ?_
        exact ih _ _ _ h _ _ _ (lv_sub hl [1, 0] rfl) hM hS
      · rw [if_neg c11] at h
        refine lv_iconst (v := 1) hx hb d_LR_pickNextChoice_23 (by decide) ?_
        cases h
        exact W.zret hx hb hr rfl (fun t ht hW => ⟨⟨rfl, by rw [ht]; exact hM⟩, hS.F ht⟩) hS.2.2 d_LR_pickNextChoice_24
set_option maxHeartbeats 4000000 in
set_option maxRecDepth 100000 in
theorem c_LR_pickNextChoice (l : Launch) (G : mx_G) (a0 : Nat) (mem : mx_Mem) (q : Int32 × mx_Mem) (h : f_LR_pickNextChoice a0 mem = some q) : Met l y_LR_pickNextChoice (gq_w y_LR_pickNextChoice b_LR_pickNextChoice 2 (some .boolean)) { frames := 1, cells := 0, slots := 0, locals := 20 } (gq_P G [.ref a0] mem) (gq_Q G (some (.int q.1)) q.2) 0 0 (mx_A G) := by
  refine Met.ofW (cc := b_LR_pickNextChoice) (maxL := 2) (ret := (some .boolean)) (by decide) rfl ?_
  intro p e s m args below meth c s₁ B hml hv
  obtain ⟨rfl, hb0, hM, hK, hN⟩ := hv
  have CX : gq_C p (headSpec (gq_w y_LR_pickNextChoice b_LR_pickNextChoice 2 (some .boolean)) { frames := 1, cells := 0, slots := 0, locals := 20 }).room s m _ meth c G b_LR_pickNextChoice 2 (some .boolean) R_LR 1 0 0 20 := ⟨B.exec, B.bytes, hml, B.returns, findClass_of_methodNamed B.named, fun w hw => atoms_spec (ws := gq_w y_LR_pickNextChoice b_LR_pickNextChoice 2 (some .boolean)) B.pre w (List.mem_cons_of_mem _ hw), B.notSynchronized, hK, hN, hb0, Nat.le_refl _, Nat.le_refl _, Nat.le_refl _, Nat.le_refl _⟩
  obtain ⟨hx, hb, hml, hr, hown, hts, hlocks, hK, hN, hb0, hRf, hRc, hRs, hRl⟩ := id CX
  have hS : va_S (mx_A G) s.heap s.heap [] := va_S.rf
  have hl := lv_entry [.ref a0] (n := 2) (Nat.le_of_ble_eq_true rfl)
  rw [lg_entry_eq]
  generalize (lg_sl [.ref a0] ++ List.replicate (2 - (lg_sl [.ref a0]).length) Slot.unset).toArray = ls at hl ⊢
  have hl : lv_has ls 2 [(0, va_rf (some a0))] := hl
  unfold f_LR_pickNextChoice at h
  refine mx_aload_n hx hb d_LR_pickNextChoice_0 rfl (lv_at hl 0 rfl) ?_
  obtain ⟨x1, e2, h⟩ := mx_b h
  refine mx_geti hx hb hts i_LR hown hK hM e2 (ci := 0) (C := R_LR) (T := T_LR) (N := 5) rfl 4 (by decide) (hts _ wd_9) d_LR_pickNextChoice_1 ?_
  refine lv_iconst (v := 1) hx hb d_LR_pickNextChoice_4 (by decide) ?_
  refine lv_isub hx hb d_LR_pickNextChoice_5 ?_
  refine lv_istore_n (lv' := [(1, .int ((x1 - 1))), (0, va_rf (some a0))]) hx hb d_LR_pickNextChoice_6 rfl hl (by decide) (by simp [mx_cat, mx_cati, mx_catl, mx_catr]) (fun ls hl => ?_)
  refine wfl_LR_pickNextChoice_7 q CX  5000 _ _ _ h _ _ _ (lv_sub hl [1, 0] rfl) hM hS
set_option maxHeartbeats 4000000 in
set_option maxRecDepth 100000 in
theorem c_Lo_takeKept (l : Launch) (G : mx_G) (a0 : Nat) (mem : mx_Mem) (q : mx_Mem) (h : f_Lo_takeKept a0 mem = some q) : Met l y_Lo_takeKept (gq_w y_Lo_takeKept b_Lo_takeKept 1 none) { frames := 0, cells := 0, slots := 0, locals := 0 } (gq_P G [.ref a0] mem) (gq_Q G none q) 0 0 (mx_A G) := by
  refine Met.ofW (cc := b_Lo_takeKept) (maxL := 1) (ret := none) (by decide) rfl ?_
  intro p e s m args below meth c s₁ B hml hv
  obtain ⟨rfl, hb0, hM, hK, hN⟩ := hv
  have CX : gq_C p (headSpec (gq_w y_Lo_takeKept b_Lo_takeKept 1 none) { frames := 0, cells := 0, slots := 0, locals := 0 }).room s m _ meth c G b_Lo_takeKept 1 none R_Lo 0 0 0 0 := ⟨B.exec, B.bytes, hml, B.returns, findClass_of_methodNamed B.named, fun w hw => atoms_spec (ws := gq_w y_Lo_takeKept b_Lo_takeKept 1 none) B.pre w (List.mem_cons_of_mem _ hw), B.notSynchronized, hK, hN, hb0, Nat.le_refl _, Nat.le_refl _, Nat.le_refl _, Nat.le_refl _⟩
  obtain ⟨hx, hb, hml, hr, hown, hts, hlocks, hK, hN, hb0, hRf, hRc, hRs, hRl⟩ := id CX
  have hS : va_S (mx_A G) s.heap s.heap [] := va_S.rf
  have hl := lv_entry [.ref a0] (n := 1) (Nat.le_of_ble_eq_true rfl)
  rw [lg_entry_eq]
  generalize (lg_sl [.ref a0] ++ List.replicate (1 - (lg_sl [.ref a0]).length) Slot.unset).toArray = ls at hl ⊢
  have hl : lv_has ls 1 [(0, va_rf (some a0))] := hl
  unfold f_Lo_takeKept at h
  refine mx_aload_n hx hb d_Lo_takeKept_0 rfl (lv_at hl 0 rfl) ?_
  refine mx_aload_n hx hb d_Lo_takeKept_1 rfl (lv_at hl 0 rfl) ?_
  obtain ⟨x1, e2, h⟩ := mx_b h
  refine mx_geti hx hb hts i_Lo hown hK hM e2 (ci := 3) (C := R_Lo) (T := T_Lo) (N := 12) rfl 7 (by decide) (hts _ wd_121) d_Lo_takeKept_2 ?_
  obtain ⟨m3, e4, h⟩ := mx_b h
  refine mx_put hx hb hts i_Lo t_Lo t_Lo_ok n_Lo hown hK hM hS e4 (ci := 3) (C := R_Lo) (T := T_Lo) (N := 12) rfl 6 (by decide) (hts _ wd_48) rfl (ty := .int) (by decide +kernel) rfl rfl d_Lo_takeKept_5 (fun H locs hM hS => ?_)
  cases h
  exact W.vret hx hb hr (fun t ht hW => ⟨⟨rfl, by rw [ht]; exact hM⟩, hS.F ht⟩) hS.2.2 d_Lo_takeKept_8
set_option maxHeartbeats 4000000 in
set_option maxRecDepth 100000 in
theorem wfl_LR_takeKeptChoice_2 {p : Program} {l : Launch} {e : Env} {R : Room} {s : State} {m : MethodId} {args : Array Value} {below : List Frame} {meth : Method} {c : Code} {G : mx_G} (q : mx_Mem) (CX : gq_C p R s m args meth c G b_LR_takeKeptChoice 2 none R_LR 1 0 0 20)  : ∀ (n : Nat) (v0 : Option Nat) (v1 : Int32) (mem : mx_Mem), fl_LR_takeKeptChoice_2  n v0 v1 mem = some q → ∀ (H : Heap) (locs : List Loc) (ls : Array Slot), lv_has ls 2 [(0, va_rf v0), (1, .int v1)] → mx_M vwCl G mem H → va_S (mx_A G) s.heap H locs → W p l e R s m args below meth c H locs 0 0 (MQ below (gq_Q G none q) args s 0 0 (mx_A G)) (F0 m 2 ls []) := by
  obtain ⟨hx, hb, hml, hr, hown, hts, hlocks, hK, hN, hb0, hRf, hRc, hRs, hRl⟩ := id CX
  intro n
  induction n with
  | zero => intro v0 v1 mem h; rw [fl_LR_takeKeptChoice_2] at h; cases h
  | succ n ih =>
    intro v0 v1 mem h H locs ls hl hM hS
    rw [fl_LR_takeKeptChoice_2] at h
    refine lv_iload_n hx hb d_LR_takeKeptChoice_2 rfl (lv_at hl 1 rfl) ?_
    refine mx_aload_n hx hb d_LR_takeKeptChoice_3 rfl (lv_at hl 0 rfl) ?_
    obtain ⟨x1, e2, h⟩ := mx_b h
    refine mx_geti hx hb hts i_LR hown hK hM e2 (ci := 0) (C := R_LR) (T := T_LR) (N := 5) rfl 4 (by decide) (hts _ wd_9) d_LR_takeKeptChoice_4 ?_
    refine lv_icmp_ge (tgt := 25) hx hb d_LR_takeKeptChoice_7 (by decide) (fun c3 => ?_) (fun c3 => ?_)
    · rw [if_pos c3] at h
      cases h
      exact W.vret hx hb hr (fun t ht hW => ⟨⟨rfl, by rw [ht]; exact hM⟩, hS.F ht⟩) hS.2.2 d_LR_takeKeptChoice_25
    · rw [if_neg c3] at h
      refine mx_aload_n hx hb d_LR_takeKeptChoice_10 rfl (lv_at hl 0 rfl) ?_
      obtain ⟨x4, e5, h⟩ := mx_b h
      refine mx_getr hx hb hts i_LR hown hK hM e5 (ci := 0) (C := R_LR) (T := T_LR) (N := 5) rfl 2 (by decide) (hts _ wd_6) d_LR_takeKeptChoice_11 ?_
      refine lv_iload_n hx hb d_LR_takeKeptChoice_14 rfl (lv_at hl 1 rfl) ?_
      obtain ⟨x6, e7, h⟩ := mx_b h
      refine mx_aald hx hb hK hM e7 rfl d_LR_takeKeptChoice_15 ?_
      obtain ⟨a11, e10, h⟩ := mx_b h
      obtain ⟨q8, e9, h⟩ := mx_b h
      have e12 := mx_c_eq e10
      refine W.eq (g2 := F0 m 16 ls [.ref a11]) (congrArg (fun z => F0 m 16 ls [va_rf z]) e12) ?_
      refine gq_go (va_runV (b := a11) (As := []) (rest := []) ⟨hx, hb, hml, hown, hts⟩ (c_Lo_takeKept l G a11  _ _ e9) (cwV 0 hts (gq_gV wd_253 wd_254 wd_255 wd_66 wd_252) rfl rfl rfl (by decide +kernel) ⟨Nat.le_trans (Nat.le_of_ble_eq_true rfl) hRf, Nat.le_trans (Nat.le_of_ble_eq_true rfl) hRl⟩) (gq_preV hK hN hM hS hb0 e10 (C := R_Lo) (T := T_Lo) (N := 12) rfl) rfl rfl hl.1 rfl (lv_room (Nat.le_of_ble_eq_true rfl)) d_LR_takeKeptChoice_16 ⟨(Nat.le_trans (Nat.le_of_ble_eq_true rfl) hRc), (Nat.le_trans (Nat.le_of_ble_eq_true rfl) hRs)⟩) hS (fun H locs hM hS => ?_)
      refine W.eq (g2 := F0 m 19 ls []) rfl ?_
      refine lv_iinc (v := (v1 + 1)) (lv' := [(1, .int ((v1 + 1))), (0, va_rf v0)]) hx hb d_LR_takeKeptChoice_19 hl (k := 1) rfl rfl (by decide) (by simp [mx_cat, mx_cati, mx_catl, mx_catr]) (fun ls hl => ?_)
      refine lv_goto (tgt := 2) hx hb d_LR_takeKeptChoice_22 (by decide) ?_
      exact ih _ _ _ h _ _ _ (lv_sub hl [1, 0] rfl) hM hS
set_option maxHeartbeats 4000000 in
set_option maxRecDepth 100000 in
theorem c_LR_takeKeptChoice (l : Launch) (G : mx_G) (a0 : Nat) (mem : mx_Mem) (q : mx_Mem) (h : f_LR_takeKeptChoice a0 mem = some q) : Met l y_LR_takeKeptChoice (gq_w y_LR_takeKeptChoice b_LR_takeKeptChoice 2 none) { frames := 1, cells := 0, slots := 0, locals := 20 } (gq_P G [.ref a0] mem) (gq_Q G none q) 0 0 (mx_A G) := by
  refine Met.ofW (cc := b_LR_takeKeptChoice) (maxL := 2) (ret := none) (by decide) rfl ?_
  intro p e s m args below meth c s₁ B hml hv
  obtain ⟨rfl, hb0, hM, hK, hN⟩ := hv
  have CX : gq_C p (headSpec (gq_w y_LR_takeKeptChoice b_LR_takeKeptChoice 2 none) { frames := 1, cells := 0, slots := 0, locals := 20 }).room s m _ meth c G b_LR_takeKeptChoice 2 none R_LR 1 0 0 20 := ⟨B.exec, B.bytes, hml, B.returns, findClass_of_methodNamed B.named, fun w hw => atoms_spec (ws := gq_w y_LR_takeKeptChoice b_LR_takeKeptChoice 2 none) B.pre w (List.mem_cons_of_mem _ hw), B.notSynchronized, hK, hN, hb0, Nat.le_refl _, Nat.le_refl _, Nat.le_refl _, Nat.le_refl _⟩
  obtain ⟨hx, hb, hml, hr, hown, hts, hlocks, hK, hN, hb0, hRf, hRc, hRs, hRl⟩ := id CX
  have hS : va_S (mx_A G) s.heap s.heap [] := va_S.rf
  have hl := lv_entry [.ref a0] (n := 2) (Nat.le_of_ble_eq_true rfl)
  rw [lg_entry_eq]
  generalize (lg_sl [.ref a0] ++ List.replicate (2 - (lg_sl [.ref a0]).length) Slot.unset).toArray = ls at hl ⊢
  have hl : lv_has ls 2 [(0, va_rf (some a0))] := hl
  unfold f_LR_takeKeptChoice at h
  refine lv_iconst (v := 0) hx hb d_LR_takeKeptChoice_0 (by decide) ?_
  refine lv_istore_n (lv' := [(1, .int 0), (0, va_rf (some a0))]) hx hb d_LR_takeKeptChoice_1 rfl hl (by decide) (by simp [mx_cat, mx_cati, mx_catl, mx_catr]) (fun ls hl => ?_)
  refine wfl_LR_takeKeptChoice_2 q CX  5000 _ _ _ h _ _ _ (lv_sub hl [1, 0] rfl) hM hS
set_option maxHeartbeats 4000000 in
set_option maxRecDepth 100000 in
theorem wfl_LR_solve_2 {p : Program} {l : Launch} {e : Env} {R : Room} {s : State} {m : MethodId} {args : Array Value} {below : List Frame} {meth : Method} {c : Code} {G : mx_G} (q : Int64 × mx_Mem) (CX : gq_C p R s m args meth c G b_LR_solve 9 (some .long) R_LR 4 0 0 80) {k0 : Option Nat → mx_Mem → Option (Int64 × mx_Mem)} (hk0 : ∀ (v0 : Option Nat) (mem : mx_Mem), k0 v0 mem = some q → ∀ (H : Heap) (locs : List Loc) (ls : Array Slot), lv_has ls 9 [(0, va_rf v0)] → mx_M vwCl G mem H → va_S (mx_A G) s.heap H locs → W p l e R s m args below meth c H locs 0 0 (MQ below (gq_Q G (some (.long q.1)) q.2) args s 0 0 (mx_A G)) (F0 m 25 ls [])) : ∀ (n : Nat) (v0 : Option Nat) (v1 : Int32) (mem : mx_Mem), fl_LR_solve_2 k0 n v0 v1 mem = some q → ∀ (H : Heap) (locs : List Loc) (ls : Array Slot), lv_has ls 9 [(0, va_rf v0), (1, .int v1)] → mx_M vwCl G mem H → va_S (mx_A G) s.heap H locs → W p l e R s m args below meth c H locs 0 0 (MQ below (gq_Q G (some (.long q.1)) q.2) args s 0 0 (mx_A G)) (F0 m 2 ls []) := by
  obtain ⟨hx, hb, hml, hr, hown, hts, hlocks, hK, hN, hb0, hRf, hRc, hRs, hRl⟩ := id CX
  intro n
  induction n with
  | zero => intro v0 v1 mem h; rw [fl_LR_solve_2] at h; cases h
  | succ n ih =>
    intro v0 v1 mem h H locs ls hl hM hS
    rw [fl_LR_solve_2] at h
    refine lv_iload_n hx hb d_LR_solve_2 rfl (lv_at hl 1 rfl) ?_
    refine mx_aload_n hx hb d_LR_solve_3 rfl (lv_at hl 0 rfl) ?_
    obtain ⟨x1, e2, h⟩ := mx_b h
    refine mx_geti hx hb hts i_LR hown hK hM e2 (ci := 0) (C := R_LR) (T := T_LR) (N := 5) rfl 4 (by decide) (hts _ wd_9) d_LR_solve_4 ?_
    refine lv_icmp_ge (tgt := 25) hx hb d_LR_solve_7 (by decide) (fun c3 => ?_) (fun c3 => ?_)
    · rw [if_pos c3] at h
      exact hk0 _ _ h _ _ _ (lv_sub hl [0] rfl) hM hS
    · rw [if_neg c3] at h
      refine mx_aload_n hx hb d_LR_solve_10 rfl (lv_at hl 0 rfl) ?_
      obtain ⟨x4, e5, h⟩ := mx_b h
      refine mx_getr hx hb hts i_LR hown hK hM e5 (ci := 0) (C := R_LR) (T := T_LR) (N := 5) rfl 2 (by decide) (hts _ wd_6) d_LR_solve_11 ?_
      refine lv_iload_n hx hb d_LR_solve_14 rfl (lv_at hl 1 rfl) ?_
      obtain ⟨x6, e7, h⟩ := mx_b h
      refine mx_aald hx hb hK hM e7 rfl d_LR_solve_15 ?_
      obtain ⟨a11, e10, h⟩ := mx_b h
      obtain ⟨q8, e9, h⟩ := mx_b h
      have e12 := mx_c_eq e10
      refine W.eq (g2 := F0 m 16 ls [.ref a11]) (congrArg (fun z => F0 m 16 ls [va_rf z]) e12) ?_
      refine gq_go (va_runV (b := a11) (As := []) (rest := []) ⟨hx, hb, hml, hown, hts⟩ (c_Lo_pickFirst l G a11  _ _ e9) (cwV 0 hts (gq_gV wd_232 wd_233 wd_234 wd_66 wd_231) rfl rfl rfl (by decide +kernel) ⟨Nat.le_trans (Nat.le_of_ble_eq_true rfl) hRf, Nat.le_trans (Nat.le_of_ble_eq_true rfl) hRl⟩) (gq_preV hK hN hM hS hb0 e10 (C := R_Lo) (T := T_Lo) (N := 12) rfl) rfl rfl hl.1 rfl (lv_room (Nat.le_of_ble_eq_true rfl)) d_LR_solve_16 ⟨(Nat.le_trans (Nat.le_of_ble_eq_true rfl) hRc), (Nat.le_trans (Nat.le_of_ble_eq_true rfl) hRs)⟩) hS (fun H locs hM hS => ?_)
      refine W.eq (g2 := F0 m 19 ls []) rfl ?_
      refine lv_iinc (v := (v1 + 1)) (lv' := [(1, .int ((v1 + 1))), (0, va_rf v0)]) hx hb d_LR_solve_19 hl (k := 1) rfl rfl (by decide) (by simp [mx_cat, mx_cati, mx_catl, mx_catr]) (fun ls hl => ?_)
      refine lv_goto (tgt := 2) hx hb d_LR_solve_22 (by decide) ?_
      exact ih _ _ _ h _ _ _ (lv_sub hl [1, 0] rfl) hM hS
set_option maxHeartbeats 4000000 in
set_option maxRecDepth 100000 in
theorem wfl_LR_solve_37 {p : Program} {l : Launch} {e : Env} {R : Room} {s : State} {m : MethodId} {args : Array Value} {below : List Frame} {meth : Method} {c : Code} {G : mx_G} (q : Int64 × mx_Mem) (CX : gq_C p R s m args meth c G b_LR_solve 9 (some .long) R_LR 4 0 0 80)  : ∀ (n : Nat) (v0 : Option Nat) (v1 : Int64) (v3 : Int32) (v4 : Int32) (v5 : Int32) (mem : mx_Mem), fl_LR_solve_37  n v0 v1 v3 v4 v5 mem = some q → ∀ (H : Heap) (locs : List Loc) (ls : Array Slot), lv_has ls 9 [(0, va_rf v0), (1, .long v1), (3, .int v3), (4, .int v4), (5, .int v5)] → mx_M vwCl G mem H → va_S (mx_A G) s.heap H locs → W p l e R s m args below meth c H locs 0 0 (MQ below (gq_Q G (some (.long q.1)) q.2) args s 0 0 (mx_A G)) (F0 m 37 ls []) := by
  obtain ⟨hx, hb, hml, hr, hown, hts, hlocks, hK, hN, hb0, hRf, hRc, hRs, hRl⟩ := id CX
  intro n
  induction n with
  | zero => intro v0 v1 v3 v4 v5 mem h; rw [fl_LR_solve_37] at h; cases h
  | succ n ih =>
    intro v0 v1 v3 v4 v5 mem h H locs ls hl hM hS
    rw [fl_LR_solve_37] at h
    refine lv_iload hx hb d_LR_solve_37 (lv_at hl 3 rfl) ?_
    refine lv_if_eq (tgt := 108) hx hb d_LR_solve_39 (by decide) (fun c1 => ?_) (fun c1 => ?_)
    · rw [if_pos c1] at h
      refine mx_aload_n hx hb d_LR_solve_108 rfl (lv_at hl 0 rfl) ?_
      obtain ⟨a5, e4, h⟩ := mx_b h
      obtain ⟨q2, e3, h⟩ := mx_b h
      have e6 := mx_c_eq e4
      refine W.eq (g2 := F0 m 109 ls [.ref a5]) (congrArg (fun z => F0 m 109 ls [va_rf z]) e6) ?_
      refine gq_go (va_runV (b := a5) (As := []) (rest := []) ⟨hx, hb, hml, hown, hts⟩ (c_LR_takeKeptChoice l G a5  _ _ e3) (cwV 0 hts (gq_gV wd_258 wd_259 wd_260 wd_38 wd_257) rfl rfl rfl (by decide +kernel) ⟨Nat.le_trans (Nat.le_of_ble_eq_true rfl) hRf, Nat.le_trans (Nat.le_of_ble_eq_true rfl) hRl⟩) (gq_preV hK hN hM hS hb0 e4 (C := R_LR) (T := T_LR) (N := 5) rfl) rfl rfl hl.1 rfl (lv_room (Nat.le_of_ble_eq_true rfl)) d_LR_solve_109 ⟨(Nat.le_trans (Nat.le_of_ble_eq_true rfl) hRc), (Nat.le_trans (Nat.le_of_ble_eq_true rfl) hRs)⟩) hS (fun H locs hM hS => ?_)
      refine W.eq (g2 := F0 m 112 ls []) rfl ?_
      refine mx_aload_n hx hb d_LR_solve_112 rfl (lv_at hl 0 rfl) ?_
      obtain ⟨a10, e9, h⟩ := mx_b h
      obtain ⟨q7, e8, h⟩ := mx_b h
      have e11 := mx_c_eq e9
      refine W.eq (g2 := F0 m 113 ls [.ref a10]) (congrArg (fun z => F0 m 113 ls [va_rf z]) e11) ?_
      refine gq_go (va_runV (b := a10) (As := []) (rest := []) ⟨hx, hb, hml, hown, hts⟩ (c_LR_settle l G a10  _ _ e8) (cwV 0 hts (gq_gV wd_106 wd_107 wd_108 wd_38 wd_105) rfl rfl rfl (by decide +kernel) ⟨Nat.le_trans (Nat.le_of_ble_eq_true rfl) hRf, Nat.le_trans (Nat.le_of_ble_eq_true rfl) hRl⟩) (gq_preV hK hN hM hS hb0 e9 (C := R_LR) (T := T_LR) (N := 5) rfl) rfl rfl hl.1 rfl (lv_room (Nat.le_of_ble_eq_true rfl)) d_LR_solve_113 ⟨(Nat.le_trans (Nat.le_of_ble_eq_true rfl) hRc), (Nat.le_trans (Nat.le_of_ble_eq_true rfl) hRs)⟩) hS (fun H locs hM hS => ?_)
      refine W.eq (g2 := F0 m 116 ls []) rfl ?_
      refine lv_lload_n hx hb d_LR_solve_116 rfl (lv_at hl 1 rfl) ?_
      cases h
      exact W.lret hx hb hr (fun t ht hW => ⟨⟨rfl, by rw [ht]; exact hM⟩, hS.F ht⟩) hS.2.2 d_LR_solve_117
    · rw [if_neg c1] at h
      refine lv_iload hx hb d_LR_solve_42 (lv_at hl 4 rfl) ?_
      refine lv_sipush (v := 4096) hx hb d_LR_solve_44 (by decide) ?_
      refine lv_icmp_ge (tgt := 108) hx hb d_LR_solve_47 (by decide) (fun c2 => ?_) (fun c2 => ?_)
      · rw [if_pos c2] at h
        refine mx_aload_n hx hb d_LR_solve_108 rfl (lv_at hl 0 rfl) ?_
        obtain ⟨a6, e5, h⟩ := mx_b h
        obtain ⟨q3, e4, h⟩ := mx_b h
        have e7 := mx_c_eq e5
        refine W.eq (g2 := F0 m 109 ls [.ref a6]) (congrArg (fun z => F0 m 109 ls [va_rf z]) e7) ?_
        refine gq_go (va_runV (b := a6) (As := []) (rest := []) ⟨hx, hb, hml, hown, hts⟩ (c_LR_takeKeptChoice l G a6  _ _ e4) (cwV 0 hts (gq_gV wd_258 wd_259 wd_260 wd_38 wd_257) rfl rfl rfl (by decide +kernel) ⟨Nat.le_trans (Nat.le_of_ble_eq_true rfl) hRf, Nat.le_trans (Nat.le_of_ble_eq_true rfl) hRl⟩) (gq_preV hK hN hM hS hb0 e5 (C := R_LR) (T := T_LR) (N := 5) rfl) rfl rfl hl.1 rfl (lv_room (Nat.le_of_ble_eq_true rfl)) d_LR_solve_109 ⟨(Nat.le_trans (Nat.le_of_ble_eq_true rfl) hRc), (Nat.le_trans (Nat.le_of_ble_eq_true rfl) hRs)⟩) hS (fun H locs hM hS => ?_)
        refine W.eq (g2 := F0 m 112 ls []) rfl ?_
        refine mx_aload_n hx hb d_LR_solve_112 rfl (lv_at hl 0 rfl) ?_
        obtain ⟨a11, e10, h⟩ := mx_b h
        obtain ⟨q8, e9, h⟩ := mx_b h
        have e12 := mx_c_eq e10
        refine W.eq (g2 := F0 m 113 ls [.ref a11]) (congrArg (fun z => F0 m 113 ls [va_rf z]) e12) ?_
        refine gq_go (va_runV (b := a11) (As := []) (rest := []) ⟨hx, hb, hml, hown, hts⟩ (c_LR_settle l G a11  _ _ e9) (cwV 0 hts (gq_gV wd_106 wd_107 wd_108 wd_38 wd_105) rfl rfl rfl (by decide +kernel) ⟨Nat.le_trans (Nat.le_of_ble_eq_true rfl) hRf, Nat.le_trans (Nat.le_of_ble_eq_true rfl) hRl⟩) (gq_preV hK hN hM hS hb0 e10 (C := R_LR) (T := T_LR) (N := 5) rfl) rfl rfl hl.1 rfl (lv_room (Nat.le_of_ble_eq_true rfl)) d_LR_solve_113 ⟨(Nat.le_trans (Nat.le_of_ble_eq_true rfl) hRc), (Nat.le_trans (Nat.le_of_ble_eq_true rfl) hRs)⟩) hS (fun H locs hM hS => ?_)
        refine W.eq (g2 := F0 m 116 ls []) rfl ?_
        refine lv_lload_n hx hb d_LR_solve_116 rfl (lv_at hl 1 rfl) ?_
        cases h
        exact W.lret hx hb hr (fun t ht hW => ⟨⟨rfl, by rw [ht]; exact hM⟩, hS.F ht⟩) hS.2.2 d_LR_solve_117
      · rw [if_neg c2] at h
        refine mx_aload_n hx hb d_LR_solve_50 rfl (lv_at hl 0 rfl) ?_
        obtain ⟨a6, e5, h⟩ := mx_b h
        obtain ⟨q3, e4, h⟩ := mx_b h
        have e7 := mx_c_eq e5
        refine W.eq (g2 := F0 m 51 ls [.ref a6]) (congrArg (fun z => F0 m 51 ls [va_rf z]) e7) ?_
        refine gq_go (va_runV (b := a6) (As := []) (rest := []) ⟨hx, hb, hml, hown, hts⟩ (c_LR_settle l G a6  _ _ e4) (cwV 0 hts (gq_gV wd_106 wd_107 wd_108 wd_38 wd_105) rfl rfl rfl (by decide +kernel) ⟨Nat.le_trans (Nat.le_of_ble_eq_true rfl) hRf, Nat.le_trans (Nat.le_of_ble_eq_true rfl) hRl⟩) (gq_preV hK hN hM hS hb0 e5 (C := R_LR) (T := T_LR) (N := 5) rfl) rfl rfl hl.1 rfl (lv_room (Nat.le_of_ble_eq_true rfl)) d_LR_solve_51 ⟨(Nat.le_trans (Nat.le_of_ble_eq_true rfl) hRc), (Nat.le_trans (Nat.le_of_ble_eq_true rfl) hRs)⟩) hS (fun H locs hM hS => ?_)
        refine W.eq (g2 := F0 m 54 ls []) rfl ?_
        refine mx_aload_n hx hb d_LR_solve_54 rfl (lv_at hl 0 rfl) ?_
        obtain ⟨a11, e10, h⟩ := mx_b h
        obtain ⟨q8, e9, h⟩ := mx_b h
        have e12 := mx_c_eq e10
        refine W.eq (g2 := F0 m 55 ls [.ref a11]) (congrArg (fun z => F0 m 55 ls [va_rf z]) e12) ?_
        refine gq_go (va_runV (b := a11) (As := []) (rest := []) ⟨hx, hb, hml, hown, hts⟩ (c_LR_sumHarm l G a11  _ _ e9) (cwV 0 hts (gq_gV wd_262 wd_263 wd_264 wd_38 wd_261) rfl rfl rfl (by decide +kernel) ⟨Nat.le_trans (Nat.le_of_ble_eq_true rfl) hRf, Nat.le_trans (Nat.le_of_ble_eq_true rfl) hRl⟩) (gq_preV hK hN hM hS hb0 e10 (C := R_LR) (T := T_LR) (N := 5) rfl) rfl rfl hl.1 rfl (lv_room (Nat.le_of_ble_eq_true rfl)) d_LR_solve_55 ⟨(Nat.le_trans (Nat.le_of_ble_eq_true rfl) hRc), (Nat.le_trans (Nat.le_of_ble_eq_true rfl) hRs)⟩) hS (fun H locs hM hS => ?_)
        refine W.eq (g2 := F0 m 58 ls [.long q8.1]) rfl ?_
        refine lv_lstore (lv' := [(6, .long q8.1), (0, va_rf v0), (1, .long v1), (3, .int v3), (4, .int v4), (5, .int v5)]) hx hb d_LR_solve_58 hl (by decide) rfl (fun ls hl => ?_)
        refine mx_aload_n hx hb d_LR_solve_60 rfl (lv_at hl 1 rfl) ?_
        obtain ⟨a16, e15, h⟩ := mx_b h
        obtain ⟨q13, e14, h⟩ := mx_b h
        have e17 := mx_c_eq e15
        refine W.eq (g2 := F0 m 61 ls [.ref a16]) (congrArg (fun z => F0 m 61 ls [va_rf z]) e17) ?_
        refine gq_go (va_runV (b := a16) (As := []) (rest := []) ⟨hx, hb, hml, hown, hts⟩ (c_LR_countActs l G a16  _ _ e14) (cwV 0 hts (gq_gV wd_266 wd_267 wd_268 wd_38 wd_265) rfl rfl rfl (by decide +kernel) ⟨Nat.le_trans (Nat.le_of_ble_eq_true rfl) hRf, Nat.le_trans (Nat.le_of_ble_eq_true rfl) hRl⟩) (gq_preV hK hN hM hS hb0 e15 (C := R_LR) (T := T_LR) (N := 5) rfl) rfl rfl hl.1 rfl (lv_room (Nat.le_of_ble_eq_true rfl)) d_LR_solve_61 ⟨(Nat.le_trans (Nat.le_of_ble_eq_true rfl) hRc), (Nat.le_trans (Nat.le_of_ble_eq_true rfl) hRs)⟩) hS (fun H locs hM hS => ?_)
        refine W.eq (g2 := F0 m 64 ls [.int q13.1]) rfl ?_
        refine lv_istore (lv' := [(8, .int q13.1), (6, .long q8.1), (0, va_rf v0), (1, .long v1), (3, .int v3), (4, .int v4), (5, .int v5)]) hx hb d_LR_solve_64 hl (by decide) rfl (fun ls hl => ?_)
        refine lv_lload hx hb d_LR_solve_66 (lv_at hl 1 rfl) ?_
        refine lv_lload_n hx hb d_LR_solve_68 rfl (lv_at hl 3 rfl) ?_
        refine mx_lcmp_lt (tgt := 86) hx hb d_LR_solve_69 d_LR_solve_70 (by decide) (fun c18 => ?_) (fun c18 => ?_)
        · rw [if_pos c18] at h
          refine lv_lload hx hb d_LR_solve_86 (lv_at hl 1 rfl) ?_
          refine lv_lstore_n (lv' := [(1, .long q8.1), (8, .int q13.1), (6, .long q8.1), (0, va_rf v0), (3, .int v3), (4, .int v4), (5, .int v5)]) hx hb d_LR_solve_88 rfl hl (by decide) (by simp [mx_cat, mx_cati, mx_catl, mx_catr]) (fun ls hl => ?_)
          refine lv_iload hx hb d_LR_solve_89 (lv_at hl 1 rfl) ?_
          refine lv_istore_n (lv' := [(3, .int q13.1), (1, .long q8.1), (8, .int q13.1), (6, .long q8.1), (0, va_rf v0), (4, .int v4), (5, .int v5)]) hx hb d_LR_solve_91 rfl hl (by decide) rfl (fun ls hl => ?_)
          refine mx_aload_n hx hb d_LR_solve_92 rfl (lv_at hl 4 rfl) ?_
          obtain ⟨a22, e21, h⟩ := mx_b h
          obtain ⟨q19, e20, h⟩ := mx_b h
          have e23 := mx_c_eq e21
          refine W.eq (g2 := F0 m 93 ls [.ref a22]) (congrArg (fun z => F0 m 93 ls [va_rf z]) e23) ?_
          refine gq_go (va_runV (b := a22) (As := []) (rest := []) ⟨hx, hb, hml, hown, hts⟩ (c_LR_keepChoice l G a22  _ _ e20) (cwV 0 hts (gq_gV wd_270 wd_271 wd_272 wd_38 wd_269) rfl rfl rfl (by decide +kernel) ⟨Nat.le_trans (Nat.le_of_ble_eq_true rfl) hRf, Nat.le_trans (Nat.le_of_ble_eq_true rfl) hRl⟩) (gq_preV hK hN hM hS hb0 e21 (C := R_LR) (T := T_LR) (N := 5) rfl) rfl rfl hl.1 rfl (lv_room (Nat.le_of_ble_eq_true rfl)) d_LR_solve_93 ⟨(Nat.le_trans (Nat.le_of_ble_eq_true rfl) hRc), (Nat.le_trans (Nat.le_of_ble_eq_true rfl) hRs)⟩) hS (fun H locs hM hS => ?_)
          refine W.eq (g2 := F0 m 96 ls []) rfl ?_
          refine mx_aload_n hx hb d_LR_solve_96 rfl (lv_at hl 4 rfl) ?_
          obtain ⟨a27, e26, h⟩ := mx_b h
          obtain ⟨q24, e25, h⟩ := mx_b h
          have e28 := mx_c_eq e26
          refine W.eq (g2 := F0 m 97 ls [.ref a27]) (congrArg (fun z => F0 m 97 ls [va_rf z]) e28) ?_
          refine gq_go (va_runV (b := a27) (As := []) (rest := []) ⟨hx, hb, hml, hown, hts⟩ (c_LR_pickNextChoice l G a27  _ _ e25) (cwV 0 hts (gq_gV wd_274 wd_275 wd_276 wd_38 wd_273) rfl rfl rfl (by decide +kernel) ⟨Nat.le_trans (Nat.le_of_ble_eq_true rfl) hRf, Nat.le_trans (Nat.le_of_ble_eq_true rfl) hRl⟩) (gq_preV hK hN hM hS hb0 e26 (C := R_LR) (T := T_LR) (N := 5) rfl) rfl rfl hl.1 rfl (lv_room (Nat.le_of_ble_eq_true rfl)) d_LR_solve_97 ⟨(Nat.le_trans (Nat.le_of_ble_eq_true rfl) hRc), (Nat.le_trans (Nat.le_of_ble_eq_true rfl) hRs)⟩) hS (fun H locs hM hS => ?_)
          refine W.eq (g2 := F0 m 100 ls [.int q24.1]) rfl ?_
          refine lv_istore (lv' := [(4, .int q24.1), (3, .int q13.1), (1, .long q8.1), (8, .int q13.1), (6, .long q8.1), (0, va_rf v0), (5, .int v5)]) hx hb d_LR_solve_100 hl (by decide) rfl (fun ls hl => ?_)
          refine lv_iinc (v := (v5 + 1)) (lv' := [(5, .int ((v5 + 1))), (4, .int q24.1), (3, .int q13.1), (1, .long q8.1), (8, .int q13.1), (6, .long q8.1), (0, va_rf v0)]) hx hb d_LR_solve_102 hl (k := 6) rfl rfl (by decide) rfl (fun ls hl => ?_)
          refine lv_goto (tgt := 37) hx hb d_LR_solve_105 (by decide) ?_
          exact ih _ _ _ _ _ _ h _ _ _ (lv_sub hl [6, 3, 2, 1, 0] rfl) hM hS
        · rw [if_neg c18] at h
          refine lv_lload hx hb d_LR_solve_73 (lv_at hl 1 rfl) ?_
          refine lv_lload_n hx hb d_LR_solve_75 rfl (lv_at hl 3 rfl) ?_
          refine mx_lcmp_ne (tgt := 96) hx hb d_LR_solve_76 d_LR_solve_77 (by decide) (fun c19 => ?_) (fun c19 => ?_)
          · rw [if_neg c19] at h
            refine mx_aload_n hx hb d_LR_solve_96 rfl (lv_at hl 2 rfl) ?_
            obtain ⟨a23, e22, h⟩ := mx_b h
            obtain ⟨q20, e21, h⟩ := mx_b h
            have e24 := mx_c_eq e22
            refine W.eq (g2 := F0 m 97 ls [.ref a23]) (congrArg (fun z => F0 m 97 ls [va_rf z]) e24) ?_
            refine gq_go (va_runV (b := a23) (As := []) (rest := []) ⟨hx, hb, hml, hown, hts⟩ (c_LR_pickNextChoice l G a23  _ _ e21) (cwV 0 hts (gq_gV wd_274 wd_275 wd_276 wd_38 wd_273) rfl rfl rfl (by decide +kernel) ⟨Nat.le_trans (Nat.le_of_ble_eq_true rfl) hRf, Nat.le_trans (Nat.le_of_ble_eq_true rfl) hRl⟩) (gq_preV hK hN hM hS hb0 e22 (C := R_LR) (T := T_LR) (N := 5) rfl) rfl rfl hl.1 rfl (lv_room (Nat.le_of_ble_eq_true rfl)) d_LR_solve_97 ⟨(Nat.le_trans (Nat.le_of_ble_eq_true rfl) hRc), (Nat.le_trans (Nat.le_of_ble_eq_true rfl) hRs)⟩) hS (fun H locs hM hS => ?_)
            refine W.eq (g2 := F0 m 100 ls [.int q20.1]) rfl ?_
            refine lv_istore (lv' := [(4, .int q20.1), (8, .int q13.1), (6, .long q8.1), (0, va_rf v0), (1, .long v1), (3, .int v3), (5, .int v5)]) hx hb d_LR_solve_100 hl (by decide) rfl (fun ls hl => ?_)
            refine lv_iinc (v := (v5 + 1)) (lv' := [(5, .int ((v5 + 1))), (4, .int q20.1), (8, .int q13.1), (6, .long q8.1), (0, va_rf v0), (1, .long v1), (3, .int v3)]) hx hb d_LR_solve_102 hl (k := 6) rfl rfl (by decide) rfl (fun ls hl => ?_)
            refine lv_goto (tgt := 37) hx hb d_LR_solve_105 (by decide) ?_
            exact ih _ _ _ _ _ _ h _ _ _ (lv_sub hl [4, 5, 6, 1, 0] rfl) hM hS
          · rw [if_pos c19] at h
            refine lv_iload hx hb d_LR_solve_80 (lv_at hl 0 rfl) ?_
            refine lv_iload_n hx hb d_LR_solve_82 rfl (lv_at hl 4 rfl) ?_
            refine lv_icmp_ge (tgt := 96) hx hb d_LR_solve_83 (by decide) (fun c20 => ?_) (fun c20 => ?_)
            · rw [if_pos c20] at h
              refine mx_aload_n hx hb d_LR_solve_96 rfl (lv_at hl 2 rfl) ?_
              obtain ⟨a24, e23, h⟩ := mx_b h
              obtain ⟨q21, e22, h⟩ := mx_b h
              have e25 := mx_c_eq e23
              refine W.eq (g2 := F0 m 97 ls [.ref a24]) (congrArg (fun z => F0 m 97 ls [va_rf z]) e25) ?_
              refine gq_go (va_runV (b := a24) (As := []) (rest := []) ⟨hx, hb, hml, hown, hts⟩ (c_LR_pickNextChoice l G a24  _ _ e22) (cwV 0 hts (gq_gV wd_274 wd_275 wd_276 wd_38 wd_273) rfl rfl rfl (by decide +kernel) ⟨Nat.le_trans (Nat.le_of_ble_eq_true rfl) hRf, Nat.le_trans (Nat.le_of_ble_eq_true rfl) hRl⟩) (gq_preV hK hN hM hS hb0 e23 (C := R_LR) (T := T_LR) (N := 5) rfl) rfl rfl hl.1 rfl (lv_room (Nat.le_of_ble_eq_true rfl)) d_LR_solve_97 ⟨(Nat.le_trans (Nat.le_of_ble_eq_true rfl) hRc), (Nat.le_trans (Nat.le_of_ble_eq_true rfl) hRs)⟩) hS (fun H locs hM hS => ?_)
              refine W.eq (g2 := F0 m 100 ls [.int q21.1]) rfl ?_
              refine lv_istore (lv' := [(4, .int q21.1), (8, .int q13.1), (6, .long q8.1), (0, va_rf v0), (1, .long v1), (3, .int v3), (5, .int v5)]) hx hb d_LR_solve_100 hl (by decide) rfl (fun ls hl => ?_)
              refine lv_iinc (v := (v5 + 1)) (lv' := [(5, .int ((v5 + 1))), (4, .int q21.1), (8, .int q13.1), (6, .long q8.1), (0, va_rf v0), (1, .long v1), (3, .int v3)]) hx hb d_LR_solve_102 hl (k := 6) rfl rfl (by decide) rfl (fun ls hl => ?_)
              refine lv_goto (tgt := 37) hx hb d_LR_solve_105 (by decide) ?_
              exact ih _ _ _ _ _ _ h _ _ _ (lv_sub hl [4, 5, 6, 1, 0] rfl) hM hS
            · rw [if_neg c20] at h
              refine lv_lload hx hb d_LR_solve_86 (lv_at hl 1 rfl) ?_
              refine lv_lstore_n (lv' := [(1, .long q8.1), (8, .int q13.1), (6, .long q8.1), (0, va_rf v0), (3, .int v3), (4, .int v4), (5, .int v5)]) hx hb d_LR_solve_88 rfl hl (by decide) (by simp [mx_cat, mx_cati, mx_catl, mx_catr]) (fun ls hl => ?_)
              refine lv_iload hx hb d_LR_solve_89 (lv_at hl 1 rfl) ?_
              refine lv_istore_n (lv' := [(3, .int q13.1), (1, .long q8.1), (8, .int q13.1), (6, .long q8.1), (0, va_rf v0), (4, .int v4), (5, .int v5)]) hx hb d_LR_solve_91 rfl hl (by decide) rfl (fun ls hl => ?_)
              refine mx_aload_n hx hb d_LR_solve_92 rfl (lv_at hl 4 rfl) ?_
              obtain ⟨a24, e23, h⟩ := mx_b h
              obtain ⟨q21, e22, h⟩ := mx_b h
              have e25 := mx_c_eq e23
              refine W.eq (g2 := F0 m 93 ls [.ref a24]) (congrArg (fun z => F0 m 93 ls [va_rf z]) e25) ?_
              refine gq_go (va_runV (b := a24) (As := []) (rest := []) ⟨hx, hb, hml, hown, hts⟩ (c_LR_keepChoice l G a24  _ _ e22) (cwV 0 hts (gq_gV wd_270 wd_271 wd_272 wd_38 wd_269) rfl rfl rfl (by decide +kernel) ⟨Nat.le_trans (Nat.le_of_ble_eq_true rfl) hRf, Nat.le_trans (Nat.le_of_ble_eq_true rfl) hRl⟩) (gq_preV hK hN hM hS hb0 e23 (C := R_LR) (T := T_LR) (N := 5) rfl) rfl rfl hl.1 rfl (lv_room (Nat.le_of_ble_eq_true rfl)) d_LR_solve_93 ⟨(Nat.le_trans (Nat.le_of_ble_eq_true rfl) hRc), (Nat.le_trans (Nat.le_of_ble_eq_true rfl) hRs)⟩) hS (fun H locs hM hS => ?_)
              refine W.eq (g2 := F0 m 96 ls []) rfl ?_
              refine mx_aload_n hx hb d_LR_solve_96 rfl (lv_at hl 4 rfl) ?_
              obtain ⟨a29, e28, h⟩ := mx_b h
              obtain ⟨q26, e27, h⟩ := mx_b h
              have e30 := mx_c_eq e28
              refine W.eq (g2 := F0 m 97 ls [.ref a29]) (congrArg (fun z => F0 m 97 ls [va_rf z]) e30) ?_
              refine gq_go (va_runV (b := a29) (As := []) (rest := []) ⟨hx, hb, hml, hown, hts⟩ (c_LR_pickNextChoice l G a29  _ _ e27) (cwV 0 hts (gq_gV wd_274 wd_275 wd_276 wd_38 wd_273) rfl rfl rfl (by decide +kernel) ⟨Nat.le_trans (Nat.le_of_ble_eq_true rfl) hRf, Nat.le_trans (Nat.le_of_ble_eq_true rfl) hRl⟩) (gq_preV hK hN hM hS hb0 e28 (C := R_LR) (T := T_LR) (N := 5) rfl) rfl rfl hl.1 rfl (lv_room (Nat.le_of_ble_eq_true rfl)) d_LR_solve_97 ⟨(Nat.le_trans (Nat.le_of_ble_eq_true rfl) hRc), (Nat.le_trans (Nat.le_of_ble_eq_true rfl) hRs)⟩) hS (fun H locs hM hS => ?_)
              refine W.eq (g2 := F0 m 100 ls [.int q26.1]) rfl ?_
              refine lv_istore (lv' := [(4, .int q26.1), (3, .int q13.1), (1, .long q8.1), (8, .int q13.1), (6, .long q8.1), (0, va_rf v0), (5, .int v5)]) hx hb d_LR_solve_100 hl (by decide) rfl (fun ls hl => ?_)
              refine lv_iinc (v := (v5 + 1)) (lv' := [(5, .int ((v5 + 1))), (4, .int q26.1), (3, .int q13.1), (1, .long q8.1), (8, .int q13.1), (6, .long q8.1), (0, va_rf v0)]) hx hb d_LR_solve_102 hl (k := 6) rfl rfl (by decide) rfl (fun ls hl => ?_)
              refine lv_goto (tgt := 37) hx hb d_LR_solve_105 (by decide) ?_
              exact ih _ _ _ _ _ _ h _ _ _ (lv_sub hl [6, 3, 2, 1, 0] rfl) hM hS
set_option maxHeartbeats 4000000 in
set_option maxRecDepth 100000 in
theorem c_LR_solve (l : Launch) (G : mx_G) (a0 : Nat) (mem : mx_Mem) (q : Int64 × mx_Mem) (h : f_LR_solve a0 mem = some q) : Met l y_LR_solve (gq_w y_LR_solve b_LR_solve 9 (some .long)) { frames := 4, cells := 0, slots := 0, locals := 80 } (gq_P G [.ref a0] mem) (gq_Q G (some (.long q.1)) q.2) 0 0 (mx_A G) := by
  refine Met.ofW (cc := b_LR_solve) (maxL := 9) (ret := (some .long)) (by decide) rfl ?_
  intro p e s m args below meth c s₁ B hml hv
  obtain ⟨rfl, hb0, hM, hK, hN⟩ := hv
  have CX : gq_C p (headSpec (gq_w y_LR_solve b_LR_solve 9 (some .long)) { frames := 4, cells := 0, slots := 0, locals := 80 }).room s m _ meth c G b_LR_solve 9 (some .long) R_LR 4 0 0 80 := ⟨B.exec, B.bytes, hml, B.returns, findClass_of_methodNamed B.named, fun w hw => atoms_spec (ws := gq_w y_LR_solve b_LR_solve 9 (some .long)) B.pre w (List.mem_cons_of_mem _ hw), B.notSynchronized, hK, hN, hb0, Nat.le_refl _, Nat.le_refl _, Nat.le_refl _, Nat.le_refl _⟩
  obtain ⟨hx, hb, hml, hr, hown, hts, hlocks, hK, hN, hb0, hRf, hRc, hRs, hRl⟩ := id CX
  have hS : va_S (mx_A G) s.heap s.heap [] := va_S.rf
  have hl := lv_entry [.ref a0] (n := 9) (Nat.le_of_ble_eq_true rfl)
  rw [lg_entry_eq]
  generalize (lg_sl [.ref a0] ++ List.replicate (9 - (lg_sl [.ref a0]).length) Slot.unset).toArray = ls at hl ⊢
  have hl : lv_has ls 9 [(0, va_rf (some a0))] := hl
  unfold f_LR_solve at h
  refine lv_iconst (v := 0) hx hb d_LR_solve_0 (by decide) ?_
  refine lv_istore_n (lv' := [(1, .int 0), (0, va_rf (some a0))]) hx hb d_LR_solve_1 rfl hl (by decide) (by simp [mx_cat, mx_cati, mx_catl, mx_catr]) (fun ls hl => ?_)
  refine wfl_LR_solve_2 q CX ?_ 5000 _ _ _ h _ _ _ (lv_sub hl [1, 0] rfl) hM hS
  · intro v0 m1 h H locs ls hl hM hS
    refine lv_ldc2 (v := 9223372036854775807) hx hb hown (hts _ wd_256) d_LR_solve_25 ?_
    refine lv_lstore_n (lv' := [(1, .long 9223372036854775807), (0, va_rf v0)]) hx hb d_LR_solve_28 rfl hl (by decide) (by simp [mx_cat, mx_cati, mx_catl, mx_catr]) (fun ls hl => ?_)
    refine lv_iconst (v := 0) hx hb d_LR_solve_29 (by decide) ?_
    refine lv_istore_n (lv' := [(3, .int 0), (1, .long 9223372036854775807), (0, va_rf v0)]) hx hb d_LR_solve_30 rfl hl (by decide) rfl (fun ls hl => ?_)
    refine lv_iconst (v := 1) hx hb d_LR_solve_31 (by decide) ?_
    refine lv_istore (lv' := [(4, .int 1), (3, .int 0), (1, .long 9223372036854775807), (0, va_rf v0)]) hx hb d_LR_solve_32 hl (by decide) rfl (fun ls hl => ?_)
    refine lv_iconst (v := 0) hx hb d_LR_solve_34 (by decide) ?_
    refine lv_istore (lv' := [(5, .int 0), (4, .int 1), (3, .int 0), (1, .long 9223372036854775807), (0, va_rf v0)]) hx hb d_LR_solve_35 hl (by decide) rfl (fun ls hl => ?_)
    refine wfl_LR_solve_37 q CX  5000 _ _ _ _ _ _ h _ _ _ (lv_sub hl [4, 3, 2, 1, 0] rfl) hM hS
set_option maxHeartbeats 4000000 in
set_option maxRecDepth 100000 in
theorem wfl_Mo_harm_4 {p : Program} {l : Launch} {e : Env} {R : Room} {s : State} {m : MethodId} {args : Array Value} {below : List Frame} {meth : Method} {c : Code} {G : mx_G} (q : Int64 × mx_Mem) (CX : gq_C p R s m args meth c G b_Mo_harm 4 (some .long) R_Mo 0 0 0 0)  : ∀ (n : Nat) (v0 : Option Nat) (v1 : Int64) (v3 : Int32) (mem : mx_Mem), fl_Mo_harm_4  n v0 v1 v3 mem = some q → ∀ (H : Heap) (locs : List Loc) (ls : Array Slot), lv_has ls 4 [(0, va_rf v0), (1, .long v1), (3, .int v3)] → mx_M vwCl G mem H → va_S (mx_A G) s.heap H locs → W p l e R s m args below meth c H locs 0 0 (MQ below (gq_Q G (some (.long q.1)) q.2) args s 0 0 (mx_A G)) (F0 m 4 ls []) := by
  obtain ⟨hx, hb, hml, hr, hown, hts, hlocks, hK, hN, hb0, hRf, hRc, hRs, hRl⟩ := id CX
  intro n
  induction n with
  | zero => intro v0 v1 v3 mem h; rw [fl_Mo_harm_4] at h; cases h
  | succ n ih =>
    intro v0 v1 v3 mem h H locs ls hl hM hS
    rw [fl_Mo_harm_4] at h
    refine lv_iload_n hx hb d_Mo_harm_4 rfl (lv_at hl 2 rfl) ?_
    refine mx_aload_n hx hb d_Mo_harm_5 rfl (lv_at hl 0 rfl) ?_
    obtain ⟨x1, e2, h⟩ := mx_b h
    refine mx_geti hx hb hts i_Mo hown hK hM e2 (ci := 4) (C := R_Mo) (T := T_Mo) (N := 23) rfl 9 (by decide) (hts _ wd_142) d_Mo_harm_6 ?_
    refine lv_icmp_gt (tgt := 93) hx hb d_Mo_harm_9 (by decide) (fun c3 => ?_) (fun c3 => ?_)
    · rw [if_pos c3] at h
      refine lv_lload_n hx hb d_Mo_harm_93 rfl (lv_at hl 1 rfl) ?_
      cases h
      exact W.lret hx hb hr (fun t ht hW => ⟨⟨rfl, by rw [ht]; exact hM⟩, hS.F ht⟩) hS.2.2 d_Mo_harm_94
    · rw [if_neg c3] at h
      refine lv_lload_n hx hb d_Mo_harm_12 rfl (lv_at hl 1 rfl) ?_
      refine mx_aload_n hx hb d_Mo_harm_13 rfl (lv_at hl 0 rfl) ?_
      obtain ⟨x4, e5, h⟩ := mx_b h
      refine mx_getr hx hb hts i_Mo hown hK hM e5 (ci := 4) (C := R_Mo) (T := T_Mo) (N := 23) rfl 19 (by decide) (hts _ wd_29) d_Mo_harm_14 ?_
      refine lv_iload_n hx hb d_Mo_harm_17 rfl (lv_at hl 2 rfl) ?_
      obtain ⟨x6, e7, h⟩ := mx_b h
      refine mx_lald hx hb hK hM e7 rfl d_Mo_harm_18 ?_
      refine mx_aload_n hx hb d_Mo_harm_19 rfl (lv_at hl 0 rfl) ?_
      obtain ⟨x8, e9, h⟩ := mx_b h
      refine mx_getr hx hb hts i_Mo hown hK hM e9 (ci := 4) (C := R_Mo) (T := T_Mo) (N := 23) rfl 12 (by decide) (hts _ wd_22) d_Mo_harm_20 ?_
      refine lv_iload_n hx hb d_Mo_harm_23 rfl (lv_at hl 2 rfl) ?_
      obtain ⟨x10, e11, h⟩ := mx_b h
      refine mx_lald hx hb hK hM e11 rfl d_Mo_harm_24 ?_
      refine mx_lcmp_le (tgt := 53) hx hb d_Mo_harm_25 d_Mo_harm_26 (by decide) (fun c12 => ?_) (fun c12 => ?_)
      · rw [if_pos c12] at h
        refine lv_lconst (v := 0) hx hb d_Mo_harm_53 (by decide) ?_
        refine lv_ladd hx hb d_Mo_harm_54 ?_
        refine lv_lstore_n (lv' := [(1, .long ((v1 + 0))), (0, va_rf v0), (3, .int v3)]) hx hb d_Mo_harm_55 rfl hl (by decide) (by simp [mx_cat, mx_cati, mx_catl, mx_catr]) (fun ls hl => ?_)
        refine lv_lload_n hx hb d_Mo_harm_56 rfl (lv_at hl 0 rfl) ?_
        refine mx_aload_n hx hb d_Mo_harm_57 rfl (lv_at hl 1 rfl) ?_
        obtain ⟨x13, e14, h⟩ := mx_b h
        refine mx_getr hx hb hts i_Mo hown hK hM e14 (ci := 4) (C := R_Mo) (T := T_Mo) (N := 23) rfl 14 (by decide) (hts _ wd_24) d_Mo_harm_58 ?_
        refine lv_iload_n hx hb d_Mo_harm_61 rfl (lv_at hl 2 rfl) ?_
        obtain ⟨x15, e16, h⟩ := mx_b h
        refine mx_iald hx hb hK hM e16 rfl d_Mo_harm_62 ?_
        refine lv_if_le (tgt := 84) hx hb d_Mo_harm_63 (by decide) (fun c17 => ?_) (fun c17 => ?_)
        · rw [if_pos c17] at h
          refine lv_lconst (v := 0) hx hb d_Mo_harm_84 (by decide) ?_
          refine lv_ladd hx hb d_Mo_harm_85 ?_
          refine lv_lstore_n (lv' := [(1, .long (((v1 + 0) + 0))), (0, va_rf v0), (3, .int v3)]) hx hb d_Mo_harm_86 rfl hl (by decide) (by simp [mx_cat, mx_cati, mx_catl, mx_catr]) (fun ls hl => ?_)
          refine lv_iinc (v := (v3 + 1)) (lv' := [(3, .int ((v3 + 1))), (1, .long (((v1 + 0) + 0))), (0, va_rf v0)]) hx hb d_Mo_harm_87 hl (k := 2) rfl rfl (by decide) rfl (fun ls hl => ?_)
          refine lv_goto (tgt := 4) hx hb d_Mo_harm_90 (by decide) ?_
          exact ih _ _ _ _ h _ _ _ (lv_sub hl [2, 1, 0] rfl) hM hS
        · rw [if_neg c17] at h
          refine mx_aload_n hx hb d_Mo_harm_66 rfl (lv_at hl 1 rfl) ?_
          obtain ⟨x18, e19, h⟩ := mx_b h
          refine mx_getr hx hb hts i_Mo hown hK hM e19 (ci := 4) (C := R_Mo) (T := T_Mo) (N := 23) rfl 18 (by decide) (hts _ wd_28) d_Mo_harm_67 ?_
          refine lv_iconst (v := 4) hx hb d_Mo_harm_70 (by decide) ?_
          refine lv_iload_n hx hb d_Mo_harm_71 rfl (lv_at hl 2 rfl) ?_
          refine lv_imul hx hb d_Mo_harm_72 ?_
          refine mx_aload_n hx hb d_Mo_harm_73 rfl (lv_at hl 1 rfl) ?_
          obtain ⟨x20, e21, h⟩ := mx_b h
          refine mx_getr hx hb hts i_Mo hown hK hM e21 (ci := 4) (C := R_Mo) (T := T_Mo) (N := 23) rfl 15 (by decide) (hts _ wd_25) d_Mo_harm_74 ?_
          refine lv_iload_n hx hb d_Mo_harm_77 rfl (lv_at hl 2 rfl) ?_
          obtain ⟨x22, e23, h⟩ := mx_b h
          refine mx_iald hx hb hK hM e23 rfl d_Mo_harm_78 ?_
          refine lv_iadd hx hb d_Mo_harm_79 ?_
          obtain ⟨x24, e25, h⟩ := mx_b h
          refine mx_lald hx hb hK hM e25 rfl d_Mo_harm_80 ?_
          refine lv_goto (tgt := 85) hx hb d_Mo_harm_81 (by decide) ?_
          refine lv_ladd hx hb d_Mo_harm_85 ?_
          refine lv_lstore_n (lv' := [(1, .long (((v1 + 0) + x24))), (0, va_rf v0), (3, .int v3)]) hx hb d_Mo_harm_86 rfl hl (by decide) (by simp [mx_cat, mx_cati, mx_catl, mx_catr]) (fun ls hl => ?_)
          refine lv_iinc (v := (v3 + 1)) (lv' := [(3, .int ((v3 + 1))), (1, .long (((v1 + 0) + x24))), (0, va_rf v0)]) hx hb d_Mo_harm_87 hl (k := 2) rfl rfl (by decide) rfl (fun ls hl => ?_)
          refine lv_goto (tgt := 4) hx hb d_Mo_harm_90 (by decide) ?_
          exact ih _ _ _ _ h _ _ _ (lv_sub hl [2, 1, 0] rfl) hM hS
      · rw [if_neg c12] at h
        refine mx_aload_n hx hb d_Mo_harm_29 rfl (lv_at hl 0 rfl) ?_
        obtain ⟨x13, e14, h⟩ := mx_b h
        refine mx_getr hx hb hts i_Mo hown hK hM e14 (ci := 4) (C := R_Mo) (T := T_Mo) (N := 23) rfl 13 (by decide) (hts _ wd_23) d_Mo_harm_30 ?_
        refine lv_iload_n hx hb d_Mo_harm_33 rfl (lv_at hl 2 rfl) ?_
        obtain ⟨x15, e16, h⟩ := mx_b h
        refine mx_iald hx hb hK hM e16 rfl d_Mo_harm_34 ?_
        refine lv_i2l hx hb d_Mo_harm_35 rfl ?_
        refine mx_aload_n hx hb d_Mo_harm_36 rfl (lv_at hl 0 rfl) ?_
        obtain ⟨x17, e18, h⟩ := mx_b h
        refine mx_getr hx hb hts i_Mo hown hK hM e18 (ci := 4) (C := R_Mo) (T := T_Mo) (N := 23) rfl 19 (by decide) (hts _ wd_29) d_Mo_harm_37 ?_
        refine lv_iload_n hx hb d_Mo_harm_40 rfl (lv_at hl 2 rfl) ?_
        obtain ⟨x19, e20, h⟩ := mx_b h
        refine mx_lald hx hb hK hM e20 rfl d_Mo_harm_41 ?_
        refine mx_aload_n hx hb d_Mo_harm_42 rfl (lv_at hl 0 rfl) ?_
        obtain ⟨x21, e22, h⟩ := mx_b h
        refine mx_getr hx hb hts i_Mo hown hK hM e22 (ci := 4) (C := R_Mo) (T := T_Mo) (N := 23) rfl 12 (by decide) (hts _ wd_22) d_Mo_harm_43 ?_
        refine lv_iload_n hx hb d_Mo_harm_46 rfl (lv_at hl 2 rfl) ?_
        obtain ⟨x23, e24, h⟩ := mx_b h
        refine mx_lald hx hb hK hM e24 rfl d_Mo_harm_47 ?_
        refine lv_lsub hx hb d_Mo_harm_48 ?_
        refine lv_lmul hx hb d_Mo_harm_49 ?_
        refine lv_goto (tgt := 54) hx hb d_Mo_harm_50 (by decide) ?_
        refine lv_ladd hx hb d_Mo_harm_54 ?_
        refine lv_lstore_n (lv' := [(1, .long ((v1 + (x15.toInt64 * (x19 - x23))))), (0, va_rf v0), (3, .int v3)]) hx hb d_Mo_harm_55 rfl hl (by decide) (by simp [mx_cat, mx_cati, mx_catl, mx_catr]) (fun ls hl => ?_)
        refine lv_lload_n hx hb d_Mo_harm_56 rfl (lv_at hl 0 rfl) ?_
        refine mx_aload_n hx hb d_Mo_harm_57 rfl (lv_at hl 1 rfl) ?_
        obtain ⟨x25, e26, h⟩ := mx_b h
        refine mx_getr hx hb hts i_Mo hown hK hM e26 (ci := 4) (C := R_Mo) (T := T_Mo) (N := 23) rfl 14 (by decide) (hts _ wd_24) d_Mo_harm_58 ?_
        refine lv_iload_n hx hb d_Mo_harm_61 rfl (lv_at hl 2 rfl) ?_
        obtain ⟨x27, e28, h⟩ := mx_b h
        refine mx_iald hx hb hK hM e28 rfl d_Mo_harm_62 ?_
        refine lv_if_le (tgt := 84) hx hb d_Mo_harm_63 (by decide) (fun c29 => ?_) (fun c29 => ?_)
        · rw [if_pos c29] at h
          refine lv_lconst (v := 0) hx hb d_Mo_harm_84 (by decide) ?_
          refine lv_ladd hx hb d_Mo_harm_85 ?_
          refine lv_lstore_n (lv' := [(1, .long (((v1 + (x15.toInt64 * (x19 - x23))) + 0))), (0, va_rf v0), (3, .int v3)]) hx hb d_Mo_harm_86 rfl hl (by decide) (by simp [mx_cat, mx_cati, mx_catl, mx_catr]) (fun ls hl => ?_)
          refine lv_iinc (v := (v3 + 1)) (lv' := [(3, .int ((v3 + 1))), (1, .long (((v1 + (x15.toInt64 * (x19 - x23))) + 0))), (0, va_rf v0)]) hx hb d_Mo_harm_87 hl (k := 2) rfl rfl (by decide) rfl (fun ls hl => ?_)
          refine lv_goto (tgt := 4) hx hb d_Mo_harm_90 (by decide) ?_
          exact ih _ _ _ _ h _ _ _ (lv_sub hl [2, 1, 0] rfl) hM hS
        · rw [if_neg c29] at h
          refine mx_aload_n hx hb d_Mo_harm_66 rfl (lv_at hl 1 rfl) ?_
          obtain ⟨x30, e31, h⟩ := mx_b h
          refine mx_getr hx hb hts i_Mo hown hK hM e31 (ci := 4) (C := R_Mo) (T := T_Mo) (N := 23) rfl 18 (by decide) (hts _ wd_28) d_Mo_harm_67 ?_
          refine lv_iconst (v := 4) hx hb d_Mo_harm_70 (by decide) ?_
          refine lv_iload_n hx hb d_Mo_harm_71 rfl (lv_at hl 2 rfl) ?_
          refine lv_imul hx hb d_Mo_harm_72 ?_
          refine mx_aload_n hx hb d_Mo_harm_73 rfl (lv_at hl 1 rfl) ?_
          obtain ⟨x32, e33, h⟩ := mx_b h
          refine mx_getr hx hb hts i_Mo hown hK hM e33 (ci := 4) (C := R_Mo) (T := T_Mo) (N := 23) rfl 15 (by decide) (hts _ wd_25) d_Mo_harm_74 ?_
          refine lv_iload_n hx hb d_Mo_harm_77 rfl (lv_at hl 2 rfl) ?_
          obtain ⟨x34, e35, h⟩ := mx_b h
          refine mx_iald hx hb hK hM e35 rfl d_Mo_harm_78 ?_
          refine lv_iadd hx hb d_Mo_harm_79 ?_
          obtain ⟨x36, e37, h⟩ := mx_b h
          refine mx_lald hx hb hK hM e37 rfl d_Mo_harm_80 ?_
          refine lv_goto (tgt := 85) hx hb d_Mo_harm_81 (by decide) ?_
          refine lv_ladd hx hb d_Mo_harm_85 ?_
          refine lv_lstore_n (lv' := [(1, .long (((v1 + (x15.toInt64 * (x19 - x23))) + x36))), (0, va_rf v0), (3, .int v3)]) hx hb d_Mo_harm_86 rfl hl (by decide) (by simp [mx_cat, mx_cati, mx_catl, mx_catr]) (fun ls hl => ?_)
          refine lv_iinc (v := (v3 + 1)) (lv' := [(3, .int ((v3 + 1))), (1, .long (((v1 + (x15.toInt64 * (x19 - x23))) + x36))), (0, va_rf v0)]) hx hb d_Mo_harm_87 hl (k := 2) rfl rfl (by decide) rfl (fun ls hl => ?_)
          refine lv_goto (tgt := 4) hx hb d_Mo_harm_90 (by decide) ?_
          exact ih _ _ _ _ h _ _ _ (lv_sub hl [2, 1, 0] rfl) hM hS
set_option maxHeartbeats 4000000 in
set_option maxRecDepth 100000 in
theorem c_Mo_harm (l : Launch) (G : mx_G) (a0 : Nat) (mem : mx_Mem) (q : Int64 × mx_Mem) (h : f_Mo_harm a0 mem = some q) : Met l y_Mo_harm (gq_w y_Mo_harm b_Mo_harm 4 (some .long)) { frames := 0, cells := 0, slots := 0, locals := 0 } (gq_P G [.ref a0] mem) (gq_Q G (some (.long q.1)) q.2) 0 0 (mx_A G) := by
  refine Met.ofW (cc := b_Mo_harm) (maxL := 4) (ret := (some .long)) (by decide) rfl ?_
  intro p e s m args below meth c s₁ B hml hv
  obtain ⟨rfl, hb0, hM, hK, hN⟩ := hv
  have CX : gq_C p (headSpec (gq_w y_Mo_harm b_Mo_harm 4 (some .long)) { frames := 0, cells := 0, slots := 0, locals := 0 }).room s m _ meth c G b_Mo_harm 4 (some .long) R_Mo 0 0 0 0 := ⟨B.exec, B.bytes, hml, B.returns, findClass_of_methodNamed B.named, fun w hw => atoms_spec (ws := gq_w y_Mo_harm b_Mo_harm 4 (some .long)) B.pre w (List.mem_cons_of_mem _ hw), B.notSynchronized, hK, hN, hb0, Nat.le_refl _, Nat.le_refl _, Nat.le_refl _, Nat.le_refl _⟩
  obtain ⟨hx, hb, hml, hr, hown, hts, hlocks, hK, hN, hb0, hRf, hRc, hRs, hRl⟩ := id CX
  have hS : va_S (mx_A G) s.heap s.heap [] := va_S.rf
  have hl := lv_entry [.ref a0] (n := 4) (Nat.le_of_ble_eq_true rfl)
  rw [lg_entry_eq]
  generalize (lg_sl [.ref a0] ++ List.replicate (4 - (lg_sl [.ref a0]).length) Slot.unset).toArray = ls at hl ⊢
  have hl : lv_has ls 4 [(0, va_rf (some a0))] := hl
  unfold f_Mo_harm at h
  refine lv_lconst (v := 0) hx hb d_Mo_harm_0 (by decide) ?_
  refine lv_lstore_n (lv' := [(1, .long 0), (0, va_rf (some a0))]) hx hb d_Mo_harm_1 rfl hl (by decide) (by simp [mx_cat, mx_cati, mx_catl, mx_catr]) (fun ls hl => ?_)
  refine lv_iconst (v := 1) hx hb d_Mo_harm_2 (by decide) ?_
  refine lv_istore_n (lv' := [(3, .int 1), (1, .long 0), (0, va_rf (some a0))]) hx hb d_Mo_harm_3 rfl hl (by decide) rfl (fun ls hl => ?_)
  refine wfl_Mo_harm_4 q CX  5000 _ _ _ _ h _ _ _ (lv_sub hl [2, 1, 0] rfl) hM hS
set_option maxHeartbeats 4000000 in
set_option maxRecDepth 100000 in
theorem wfl_Mo_actsNow_4 {p : Program} {l : Launch} {e : Env} {R : Room} {s : State} {m : MethodId} {args : Array Value} {below : List Frame} {meth : Method} {c : Code} {G : mx_G} (q : Int32 × mx_Mem) (CX : gq_C p R s m args meth c G b_Mo_actsNow 3 (some .int) R_Mo 0 0 0 0)  : ∀ (n : Nat) (v0 : Option Nat) (v1 : Int32) (v2 : Int32) (mem : mx_Mem), fl_Mo_actsNow_4  n v0 v1 v2 mem = some q → ∀ (H : Heap) (locs : List Loc) (ls : Array Slot), lv_has ls 3 [(0, va_rf v0), (1, .int v1), (2, .int v2)] → mx_M vwCl G mem H → va_S (mx_A G) s.heap H locs → W p l e R s m args below meth c H locs 0 0 (MQ below (gq_Q G (some (.int q.1)) q.2) args s 0 0 (mx_A G)) (F0 m 4 ls []) := by
  obtain ⟨hx, hb, hml, hr, hown, hts, hlocks, hK, hN, hb0, hRf, hRc, hRs, hRl⟩ := id CX
  intro n
  induction n with
  | zero => intro v0 v1 v2 mem h; rw [fl_Mo_actsNow_4] at h; cases h
  | succ n ih =>
    intro v0 v1 v2 mem h H locs ls hl hM hS
    rw [fl_Mo_actsNow_4] at h
    refine lv_iload_n hx hb d_Mo_actsNow_4 rfl (lv_at hl 2 rfl) ?_
    refine mx_aload_n hx hb d_Mo_actsNow_5 rfl (lv_at hl 0 rfl) ?_
    obtain ⟨x1, e2, h⟩ := mx_b h
    refine mx_geti hx hb hts i_Mo hown hK hM e2 (ci := 4) (C := R_Mo) (T := T_Mo) (N := 23) rfl 9 (by decide) (hts _ wd_142) d_Mo_actsNow_6 ?_
    refine lv_icmp_gt (tgt := 53) hx hb d_Mo_actsNow_9 (by decide) (fun c3 => ?_) (fun c3 => ?_)
    · rw [if_pos c3] at h
      refine lv_iload_n hx hb d_Mo_actsNow_53 rfl (lv_at hl 1 rfl) ?_
      cases h
      exact W.iret hx hb hr (fun t ht hW => ⟨⟨rfl, by rw [ht]; exact hM⟩, hS.F ht⟩) hS.2.2 d_Mo_actsNow_54
    · rw [if_neg c3] at h
      refine lv_iload_n hx hb d_Mo_actsNow_12 rfl (lv_at hl 1 rfl) ?_
      refine mx_aload_n hx hb d_Mo_actsNow_13 rfl (lv_at hl 0 rfl) ?_
      obtain ⟨x4, e5, h⟩ := mx_b h
      refine mx_getr hx hb hts i_Mo hown hK hM e5 (ci := 4) (C := R_Mo) (T := T_Mo) (N := 23) rfl 14 (by decide) (hts _ wd_24) d_Mo_actsNow_14 ?_
      refine lv_iload_n hx hb d_Mo_actsNow_17 rfl (lv_at hl 2 rfl) ?_
      obtain ⟨x6, e7, h⟩ := mx_b h
      refine mx_iald hx hb hK hM e7 rfl d_Mo_actsNow_18 ?_
      refine lv_if_le (tgt := 44) hx hb d_Mo_actsNow_19 (by decide) (fun c8 => ?_) (fun c8 => ?_)
      · rw [if_pos c8] at h
        refine lv_iconst (v := 0) hx hb d_Mo_actsNow_44 (by decide) ?_
        refine lv_iadd hx hb d_Mo_actsNow_45 ?_
        refine lv_istore_n (lv' := [(1, .int ((v1 + 0))), (0, va_rf v0), (2, .int v2)]) hx hb d_Mo_actsNow_46 rfl hl (by decide) (by simp [mx_cat, mx_cati, mx_catl, mx_catr]) (fun ls hl => ?_)
        refine lv_iinc (v := (v2 + 1)) (lv' := [(2, .int ((v2 + 1))), (1, .int ((v1 + 0))), (0, va_rf v0)]) hx hb d_Mo_actsNow_47 hl (k := 2) rfl rfl (by decide) rfl (fun ls hl => ?_)
        refine lv_goto (tgt := 4) hx hb d_Mo_actsNow_50 (by decide) ?_
        exact ih _ _ _ _ h _ _ _ (lv_sub hl [2, 1, 0] rfl) hM hS
      · rw [if_neg c8] at h
        refine mx_aload_n hx hb d_Mo_actsNow_22 rfl (lv_at hl 0 rfl) ?_
        obtain ⟨x9, e10, h⟩ := mx_b h
        refine mx_getr hx hb hts i_Mo hown hK hM e10 (ci := 4) (C := R_Mo) (T := T_Mo) (N := 23) rfl 16 (by decide) (hts _ wd_26) d_Mo_actsNow_23 ?_
        refine lv_iconst (v := 4) hx hb d_Mo_actsNow_26 (by decide) ?_
        refine lv_iload_n hx hb d_Mo_actsNow_27 rfl (lv_at hl 2 rfl) ?_
        refine lv_imul hx hb d_Mo_actsNow_28 ?_
        refine mx_aload_n hx hb d_Mo_actsNow_29 rfl (lv_at hl 0 rfl) ?_
        obtain ⟨x11, e12, h⟩ := mx_b h
        refine mx_getr hx hb hts i_Mo hown hK hM e12 (ci := 4) (C := R_Mo) (T := T_Mo) (N := 23) rfl 15 (by decide) (hts _ wd_25) d_Mo_actsNow_30 ?_
        refine lv_iload_n hx hb d_Mo_actsNow_33 rfl (lv_at hl 2 rfl) ?_
        obtain ⟨x13, e14, h⟩ := mx_b h
        refine mx_iald hx hb hK hM e14 rfl d_Mo_actsNow_34 ?_
        refine lv_iadd hx hb d_Mo_actsNow_35 ?_
        obtain ⟨x15, e16, h⟩ := mx_b h
        refine mx_iald hx hb hK hM e16 rfl d_Mo_actsNow_36 ?_
        refine lv_if_le (tgt := 44) hx hb d_Mo_actsNow_37 (by decide) (fun c17 => ?_) (fun c17 => ?_)
        · rw [if_pos c17] at h
          refine lv_iconst (v := 0) hx hb d_Mo_actsNow_44 (by decide) ?_
          refine lv_iadd hx hb d_Mo_actsNow_45 ?_
          refine lv_istore_n (lv' := [(1, .int ((v1 + 0))), (0, va_rf v0), (2, .int v2)]) hx hb d_Mo_actsNow_46 rfl hl (by decide) (by simp [mx_cat, mx_cati, mx_catl, mx_catr]) (fun ls hl => ?_)
          refine lv_iinc (v := (v2 + 1)) (lv' := [(2, .int ((v2 + 1))), (1, .int ((v1 + 0))), (0, va_rf v0)]) hx hb d_Mo_actsNow_47 hl (k := 2) rfl rfl (by decide) rfl (fun ls hl => ?_)
          refine lv_goto (tgt := 4) hx hb d_Mo_actsNow_50 (by decide) ?_
          exact ih _ _ _ _ h _ _ _ (lv_sub hl [2, 1, 0] rfl) hM hS
        · rw [if_neg c17] at h
          refine lv_iconst (v := 1) hx hb d_Mo_actsNow_40 (by decide) ?_
          refine lv_goto (tgt := 45) hx hb d_Mo_actsNow_41 (by decide) ?_
          refine lv_iadd hx hb d_Mo_actsNow_45 ?_
          refine lv_istore_n (lv' := [(1, .int ((v1 + 1))), (0, va_rf v0), (2, .int v2)]) hx hb d_Mo_actsNow_46 rfl hl (by decide) (by simp [mx_cat, mx_cati, mx_catl, mx_catr]) (fun ls hl => ?_)
          refine lv_iinc (v := (v2 + 1)) (lv' := [(2, .int ((v2 + 1))), (1, .int ((v1 + 1))), (0, va_rf v0)]) hx hb d_Mo_actsNow_47 hl (k := 2) rfl rfl (by decide) rfl (fun ls hl => ?_)
          refine lv_goto (tgt := 4) hx hb d_Mo_actsNow_50 (by decide) ?_
          exact ih _ _ _ _ h _ _ _ (lv_sub hl [2, 1, 0] rfl) hM hS
set_option maxHeartbeats 4000000 in
set_option maxRecDepth 100000 in
theorem c_Mo_actsNow (l : Launch) (G : mx_G) (a0 : Nat) (mem : mx_Mem) (q : Int32 × mx_Mem) (h : f_Mo_actsNow a0 mem = some q) : Met l y_Mo_actsNow (gq_w y_Mo_actsNow b_Mo_actsNow 3 (some .int)) { frames := 0, cells := 0, slots := 0, locals := 0 } (gq_P G [.ref a0] mem) (gq_Q G (some (.int q.1)) q.2) 0 0 (mx_A G) := by
  refine Met.ofW (cc := b_Mo_actsNow) (maxL := 3) (ret := (some .int)) (by decide) rfl ?_
  intro p e s m args below meth c s₁ B hml hv
  obtain ⟨rfl, hb0, hM, hK, hN⟩ := hv
  have CX : gq_C p (headSpec (gq_w y_Mo_actsNow b_Mo_actsNow 3 (some .int)) { frames := 0, cells := 0, slots := 0, locals := 0 }).room s m _ meth c G b_Mo_actsNow 3 (some .int) R_Mo 0 0 0 0 := ⟨B.exec, B.bytes, hml, B.returns, findClass_of_methodNamed B.named, fun w hw => atoms_spec (ws := gq_w y_Mo_actsNow b_Mo_actsNow 3 (some .int)) B.pre w (List.mem_cons_of_mem _ hw), B.notSynchronized, hK, hN, hb0, Nat.le_refl _, Nat.le_refl _, Nat.le_refl _, Nat.le_refl _⟩
  obtain ⟨hx, hb, hml, hr, hown, hts, hlocks, hK, hN, hb0, hRf, hRc, hRs, hRl⟩ := id CX
  have hS : va_S (mx_A G) s.heap s.heap [] := va_S.rf
  have hl := lv_entry [.ref a0] (n := 3) (Nat.le_of_ble_eq_true rfl)
  rw [lg_entry_eq]
  generalize (lg_sl [.ref a0] ++ List.replicate (3 - (lg_sl [.ref a0]).length) Slot.unset).toArray = ls at hl ⊢
  have hl : lv_has ls 3 [(0, va_rf (some a0))] := hl
  unfold f_Mo_actsNow at h
  refine lv_iconst (v := 0) hx hb d_Mo_actsNow_0 (by decide) ?_
  refine lv_istore_n (lv' := [(1, .int 0), (0, va_rf (some a0))]) hx hb d_Mo_actsNow_1 rfl hl (by decide) (by simp [mx_cat, mx_cati, mx_catl, mx_catr]) (fun ls hl => ?_)
  refine lv_iconst (v := 1) hx hb d_Mo_actsNow_2 (by decide) ?_
  refine lv_istore_n (lv' := [(2, .int 1), (1, .int 0), (0, va_rf (some a0))]) hx hb d_Mo_actsNow_3 rfl hl (by decide) rfl (fun ls hl => ?_)
  refine wfl_Mo_actsNow_4 q CX  5000 _ _ _ _ h _ _ _ (lv_sub hl [2, 1, 0] rfl) hM hS
