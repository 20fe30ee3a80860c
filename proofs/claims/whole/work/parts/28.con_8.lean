set_option maxHeartbeats 4000000 in
set_option maxRecDepth 100000 in
theorem wfl_Mo_next_5 {p : Program} {l : Launch} {e : Env} {R : Room} {s : State} {m : MethodId} {args : Array Value} {below : List Frame} {meth : Method} {c : Code} {G : mx_G} (q : Int32 × mx_Mem) (CX : gq_C p R s m args meth c G b_Mo_next 2 (some .boolean) R_Mo 0 0 0 0) {k0 : Option Nat → Int32 → mx_Mem → Option (Int32 × mx_Mem)} (hk0 : ∀ (v0 : Option Nat) (v1 : Int32) (mem : mx_Mem), k0 v0 v1 mem = some q → ∀ (H : Heap) (locs : List Loc) (ls : Array Slot), lv_has ls 2 [(0, va_rf v0), (1, .int v1)] → mx_M vwCl G mem H → va_S (mx_A G) s.heap H locs → W p l e R s m args below meth c H locs 0 0 (MQ below (gq_Q G (some (.int q.1)) q.2) args s 0 0 (mx_A G)) (F0 m 39 ls [])) : ∀ (n : Nat) (v0 : Option Nat) (v1 : Int32) (mem : mx_Mem), fl_Mo_next_5 k0 n v0 v1 mem = some q → ∀ (H : Heap) (locs : List Loc) (ls : Array Slot), lv_has ls 2 [(0, va_rf v0), (1, .int v1)] → mx_M vwCl G mem H → va_S (mx_A G) s.heap H locs → W p l e R s m args below meth c H locs 0 0 (MQ below (gq_Q G (some (.int q.1)) q.2) args s 0 0 (mx_A G)) (F0 m 5 ls []) := by
  obtain ⟨hx, hb, hml, hr, hown, hts, hlocks, hK, hN, hb0, hRf, hRc, hRs, hRl⟩ := id CX
  intro n
  induction n with
  | zero => intro v0 v1 mem h; rw [fl_Mo_next_5] at h; cases h
  | succ n ih =>
    intro v0 v1 mem h H locs ls hl hM hS
    rw [fl_Mo_next_5] at h
    refine lv_iload_n hx hb d_Mo_next_5 rfl (lv_at hl 1 rfl) ?_
    refine lv_if_le (tgt := 39) hx hb d_Mo_next_6 (by decide) (fun c1 => ?_) (fun c1 => ?_)
    · rw [if_pos c1] at h
      exact hk0 _ _ _ h _ _ _ (lv_sub hl [0, 1] rfl) hM hS
    · rw [if_neg c1] at h
      refine mx_aload_n hx hb d_Mo_next_9 rfl (lv_at hl 0 rfl) ?_
      obtain ⟨x2, e3, h⟩ := mx_b h
      refine mx_getr hx hb hts i_Mo hown hK hM e3 (ci := 4) (C := R_Mo) (T := T_Mo) (N := 23) rfl 15 (by decide) (hts _ wd_25) d_Mo_next_10 ?_
      refine lv_iload_n hx hb d_Mo_next_13 rfl (lv_at hl 1 rfl) ?_
      obtain ⟨x4, e5, h⟩ := mx_b h
      refine mx_iald hx hb hK hM e5 rfl d_Mo_next_14 ?_
      refine lv_iconst (v := 1) hx hb d_Mo_next_15 (by decide) ?_
      refine lv_iadd hx hb d_Mo_next_16 ?_
      refine mx_aload_n hx hb d_Mo_next_17 rfl (lv_at hl 0 rfl) ?_
      obtain ⟨x6, e7, h⟩ := mx_b h
      refine mx_getr hx hb hts i_Mo hown hK hM e7 (ci := 4) (C := R_Mo) (T := T_Mo) (N := 23) rfl 14 (by decide) (hts _ wd_24) d_Mo_next_18 ?_
      refine lv_iload_n hx hb d_Mo_next_21 rfl (lv_at hl 1 rfl) ?_
      obtain ⟨x8, e9, h⟩ := mx_b h
      refine mx_iald hx hb hK hM e9 rfl d_Mo_next_22 ?_
      refine lv_icmp_lt (tgt := 39) hx hb d_Mo_next_23 (by decide) (fun c10 => ?_) (fun c10 => ?_)
      · rw [if_pos c10] at h
        exact hk0 _ _ _ h _ _ _ (lv_sub hl [0, 1] rfl) hM hS
      · rw [if_neg c10] at h
        refine mx_aload_n hx hb d_Mo_next_26 rfl (lv_at hl 0 rfl) ?_
        obtain ⟨x11, e12, h⟩ := mx_b h
        refine mx_getr hx hb hts i_Mo hown hK hM e12 (ci := 4) (C := R_Mo) (T := T_Mo) (N := 23) rfl 15 (by decide) (hts _ wd_25) d_Mo_next_27 ?_
        refine lv_iload_n hx hb d_Mo_next_30 rfl (lv_at hl 1 rfl) ?_
        refine lv_iconst (v := 0) hx hb d_Mo_next_31 (by decide) ?_
        obtain ⟨m14, e13, h⟩ := mx_b h
        refine mx_iast hx hb hK hM hS e13 rfl d_Mo_next_32 (fun H locs hM hS => ?_)
        refine lv_iinc (v := (v1 + (-1))) (lv' := [(1, .int ((v1 + (-1)))), (0, va_rf v0)]) hx hb d_Mo_next_33 hl (k := 1) rfl rfl (by decide) (by simp [mx_cat, mx_cati, mx_catl, mx_catr]) (fun ls hl => ?_)
        refine lv_goto (tgt := 5) hx hb d_Mo_next_36 (by decide) ?_
        exact ih _ _ _ h _ _ _ (lv_sub hl [1, 0] rfl) hM hS
set_option maxHeartbeats 4000000 in
set_option maxRecDepth 100000 in
theorem wfj_Mo_next_39 {p : Program} {l : Launch} {e : Env} {R : Room} {s : State} {m : MethodId} {args : Array Value} {below : List Frame} {meth : Method} {c : Code} {G : mx_G} (q : Int32 × mx_Mem) (CX : gq_C p R s m args meth c G b_Mo_next 2 (some .boolean) R_Mo 0 0 0 0) (v0 : Option Nat) (v1 : Int32) (mem : mx_Mem) (h : fj_Mo_next_39 v0 v1 mem = some q) (H : Heap) (locs : List Loc) (ls : Array Slot) (hl : lv_has ls 2 [(0, va_rf v0), (1, .int v1)]) (hM : mx_M vwCl G mem H) (hS : va_S (mx_A G) s.heap H locs) : W p l e R s m args below meth c H locs 0 0 (MQ below (gq_Q G (some (.int q.1)) q.2) args s 0 0 (mx_A G)) (F0 m 39 ls []) := by
  obtain ⟨hx, hb, hml, hr, hown, hts, hlocks, hK, hN, hb0, hRf, hRc, hRs, hRl⟩ := id CX
  rw [fj_Mo_next_39] at h
  refine lv_iload_n hx hb d_Mo_next_39 rfl (lv_at hl 1 rfl) ?_
  refine lv_if_le (tgt := 53) hx hb d_Mo_next_40 (by decide) (fun c1 => ?_) (fun c1 => ?_)
  · rw [if_pos c1] at h
    refine lv_iload_n hx hb d_Mo_next_53 rfl (lv_at hl 1 rfl) ?_
    refine lv_if_le (tgt := 61) hx hb d_Mo_next_54 (by decide) (fun c2 => ?_) (fun c2 => ?_)
    · rw [if_pos c2] at h
      refine lv_iconst (v := 0) hx hb d_Mo_next_61 (by decide) ?_
      cases h
      exact W.zret hx hb hr rfl (fun t ht hW => ⟨⟨rfl, by rw [ht]; exact hM⟩, hS.F ht⟩) hS.2.2 d_Mo_next_62
    · rw [if_neg c2] at h
      refine lv_iconst (v := 1) hx hb d_Mo_next_57 (by decide) ?_
      refine lv_goto (tgt := 62) hx hb d_Mo_next_58 (by decide) ?_
      cases h
      exact W.zret hx hb hr rfl (fun t ht hW => ⟨⟨rfl, by rw [ht]; exact hM⟩, hS.F ht⟩) hS.2.2 d_Mo_next_62
  · rw [if_neg c1] at h
    refine mx_aload_n hx hb d_Mo_next_43 rfl (lv_at hl 0 rfl) ?_
    obtain ⟨x2, e3, h⟩ := mx_b h
    refine mx_getr hx hb hts i_Mo hown hK hM e3 (ci := 4) (C := R_Mo) (T := T_Mo) (N := 23) rfl 15 (by decide) (hts _ wd_25) d_Mo_next_44 ?_
    refine lv_iload_n hx hb d_Mo_next_47 rfl (lv_at hl 1 rfl) ?_
    refine lv_dup2_11 hx hb d_Mo_next_48 rfl (mx_cat _) ?_
    obtain ⟨x4, e5, h⟩ := mx_b h
    refine mx_iald hx hb hK hM e5 rfl d_Mo_next_49 ?_
    refine lv_iconst (v := 1) hx hb d_Mo_next_50 (by decide) ?_
    refine lv_iadd hx hb d_Mo_next_51 ?_
    obtain ⟨m7, e6, h⟩ := mx_b h
    refine mx_iast hx hb hK hM hS e6 rfl d_Mo_next_52 (fun H locs hM hS => ?_)
    refine lv_iload_n hx hb d_Mo_next_53 rfl (lv_at hl 1 rfl) ?_
    refine lv_if_le (tgt := 61) hx hb d_Mo_next_54 (by decide) (fun c8 => ?_) (fun c8 => ?_)
    · rw [if_pos c8] at h
      refine lv_iconst (v := 0) hx hb d_Mo_next_61 (by decide) ?_
      cases h
      exact W.zret hx hb hr rfl (fun t ht hW => ⟨⟨rfl, by rw [ht]; exact hM⟩, hS.F ht⟩) hS.2.2 d_Mo_next_62
    · rw [if_neg c8] at h
      refine lv_iconst (v := 1) hx hb d_Mo_next_57 (by decide) ?_
      refine lv_goto (tgt := 62) hx hb d_Mo_next_58 (by decide) ?_
      cases h
      exact W.zret hx hb hr rfl (fun t ht hW => ⟨⟨rfl, by rw [ht]; exact hM⟩, hS.F ht⟩) hS.2.2 d_Mo_next_62
set_option maxHeartbeats 4000000 in
set_option maxRecDepth 100000 in
theorem c_Mo_next (l : Launch) (G : mx_G) (a0 : Nat) (mem : mx_Mem) (q : Int32 × mx_Mem) (h : f_Mo_next a0 mem = some q) : Met l y_Mo_next (gq_w y_Mo_next b_Mo_next 2 (some .boolean)) { frames := 0, cells := 0, slots := 0, locals := 0 } (gq_P G [.ref a0] mem) (gq_Q G (some (.int q.1)) q.2) 0 0 (mx_A G) := by
  refine Met.ofW (cc := b_Mo_next) (maxL := 2) (ret := (some .boolean)) (by decide) rfl ?_
  intro p e s m args below meth c s₁ B hml hv
  obtain ⟨rfl, hb0, hM, hK, hN⟩ := hv
  have CX : gq_C p (headSpec (gq_w y_Mo_next b_Mo_next 2 (some .boolean)) { frames := 0, cells := 0, slots := 0, locals := 0 }).room s m _ meth c G b_Mo_next 2 (some .boolean) R_Mo 0 0 0 0 := ⟨B.exec, B.bytes, hml, B.returns, findClass_of_methodNamed B.named, fun w hw => atoms_spec (ws := gq_w y_Mo_next b_Mo_next 2 (some .boolean)) B.pre w (List.mem_cons_of_mem _ hw), B.notSynchronized, hK, hN, hb0, Nat.le_refl _, Nat.le_refl _, Nat.le_refl _, Nat.le_refl _⟩
  obtain ⟨hx, hb, hml, hr, hown, hts, hlocks, hK, hN, hb0, hRf, hRc, hRs, hRl⟩ := id CX
  have hS : va_S (mx_A G) s.heap s.heap [] := va_S.rf
  have hl := lv_entry [.ref a0] (n := 2) (Nat.le_of_ble_eq_true rfl)
  rw [lg_entry_eq]
  generalize (lg_sl [.ref a0] ++ List.replicate (2 - (lg_sl [.ref a0]).length) Slot.unset).toArray = ls at hl ⊢
  have hl : lv_has ls 2 [(0, va_rf (some a0))] := hl
  unfold f_Mo_next at h
  refine mx_aload_n hx hb d_Mo_next_0 rfl (lv_at hl 0 rfl) ?_
  obtain ⟨x1, e2, h⟩ := mx_b h
  refine mx_geti hx hb hts i_Mo hown hK hM e2 (ci := 4) (C := R_Mo) (T := T_Mo) (N := 23) rfl 9 (by decide) (hts _ wd_142) d_Mo_next_1 ?_
  refine lv_istore_n (lv' := [(1, .int x1), (0, va_rf (some a0))]) hx hb d_Mo_next_4 rfl hl (by decide) (by simp [mx_cat, mx_cati, mx_catl, mx_catr]) (fun ls hl => ?_)
  refine wfl_Mo_next_5 q CX ?_ 5000 _ _ _ h _ _ _ (lv_sub hl [1, 0] rfl) hM hS
  · intro v0 v1 m3 h H locs ls hl hM hS
    exact wfj_Mo_next_39 q CX _ _ _ h _ _ _ (lv_sub hl [0, 1] rfl) hM hS
set_option maxHeartbeats 4000000 in
set_option maxRecDepth 100000 in
theorem wfl_Mo_solve_7 {p : Program} {l : Launch} {e : Env} {R : Room} {s : State} {m : MethodId} {args : Array Value} {below : List Frame} {meth : Method} {c : Code} {G : mx_G} (q : Int64 × mx_Mem) (CX : gq_C p R s m args meth c G b_Mo_solve 10 (some .long) R_Mo 3 0 0 76) {k0 : Option Nat → mx_Mem → Option (Int64 × mx_Mem)} (hk0 : ∀ (v0 : Option Nat) (mem : mx_Mem), k0 v0 mem = some q → ∀ (H : Heap) (locs : List Loc) (ls : Array Slot), lv_has ls 10 [(0, va_rf v0)] → mx_M vwCl G mem H → va_S (mx_A G) s.heap H locs → W p l e R s m args below meth c H locs 0 0 (MQ below (gq_Q G (some (.long q.1)) q.2) args s 0 0 (mx_A G)) (F0 m 28 ls [])) : ∀ (n : Nat) (v0 : Option Nat) (v1 : Int32) (mem : mx_Mem), fl_Mo_solve_7 k0 n v0 v1 mem = some q → ∀ (H : Heap) (locs : List Loc) (ls : Array Slot), lv_has ls 10 [(0, va_rf v0), (1, .int v1)] → mx_M vwCl G mem H → va_S (mx_A G) s.heap H locs → W p l e R s m args below meth c H locs 0 0 (MQ below (gq_Q G (some (.long q.1)) q.2) args s 0 0 (mx_A G)) (F0 m 7 ls []) := by
  obtain ⟨hx, hb, hml, hr, hown, hts, hlocks, hK, hN, hb0, hRf, hRc, hRs, hRl⟩ := id CX
  intro n
  induction n with
  | zero => intro v0 v1 mem h; rw [fl_Mo_solve_7] at h; cases h
  | succ n ih =>
    intro v0 v1 mem h H locs ls hl hM hS
    rw [fl_Mo_solve_7] at h
    refine lv_iload_n hx hb d_Mo_solve_7 rfl (lv_at hl 1 rfl) ?_
    refine mx_aload_n hx hb d_Mo_solve_8 rfl (lv_at hl 0 rfl) ?_
    obtain ⟨x1, e2, h⟩ := mx_b h
    refine mx_geti hx hb hts i_Mo hown hK hM e2 (ci := 4) (C := R_Mo) (T := T_Mo) (N := 23) rfl 9 (by decide) (hts _ wd_142) d_Mo_solve_9 ?_
    refine lv_icmp_gt (tgt := 28) hx hb d_Mo_solve_12 (by decide) (fun c3 => ?_) (fun c3 => ?_)
    · rw [if_pos c3] at h
      exact hk0 _ _ h _ _ _ (lv_sub hl [0] rfl) hM hS
    · rw [if_neg c3] at h
      refine mx_aload_n hx hb d_Mo_solve_15 rfl (lv_at hl 0 rfl) ?_
      obtain ⟨x4, e5, h⟩ := mx_b h
      refine mx_getr hx hb hts i_Mo hown hK hM e5 (ci := 4) (C := R_Mo) (T := T_Mo) (N := 23) rfl 15 (by decide) (hts _ wd_25) d_Mo_solve_16 ?_
      refine lv_iload_n hx hb d_Mo_solve_19 rfl (lv_at hl 1 rfl) ?_
      refine lv_iconst (v := 0) hx hb d_Mo_solve_20 (by decide) ?_
      obtain ⟨m7, e6, h⟩ := mx_b h
      refine mx_iast hx hb hK hM hS e6 rfl d_Mo_solve_21 (fun H locs hM hS => ?_)
      refine lv_iinc (v := (v1 + 1)) (lv' := [(1, .int ((v1 + 1))), (0, va_rf v0)]) hx hb d_Mo_solve_22 hl (k := 1) rfl rfl (by decide) (by simp [mx_cat, mx_cati, mx_catl, mx_catr]) (fun ls hl => ?_)
      refine lv_goto (tgt := 7) hx hb d_Mo_solve_25 (by decide) ?_
      exact ih _ _ _ h _ _ _ (lv_sub hl [1, 0] rfl) hM hS
set_option maxHeartbeats 4000000 in
set_option maxRecDepth 100000 in
theorem wfl_Mo_solve_96 {p : Program} {l : Launch} {e : Env} {R : Room} {s : State} {m : MethodId} {args : Array Value} {below : List Frame} {meth : Method} {c : Code} {G : mx_G} (q : Int64 × mx_Mem) (CX : gq_C p R s m args meth c G b_Mo_solve 10 (some .long) R_Mo 3 0 0 76) {k0 : Option Nat → Int64 → Int32 → Int32 → mx_Mem → Option (Int64 × mx_Mem)} (hk0 : ∀ (v0 : Option Nat) (v1 : Int64) (v3 : Int32) (v4 : Int32) (mem : mx_Mem), k0 v0 v1 v3 v4 mem = some q → ∀ (H : Heap) (locs : List Loc) (ls : Array Slot), lv_has ls 10 [(0, va_rf v0), (1, .long v1), (3, .int v3), (4, .int v4)] → mx_M vwCl G mem H → va_S (mx_A G) s.heap H locs → W p l e R s m args below meth c H locs 0 0 (MQ below (gq_Q G (some (.long q.1)) q.2) args s 0 0 (mx_A G)) (F0 m 125 ls [])) : ∀ (n : Nat) (v0 : Option Nat) (v1 : Int64) (v3 : Int32) (v4 : Int32) (v9 : Int32) (mem : mx_Mem), fl_Mo_solve_96 k0 n v0 v1 v3 v4 v9 mem = some q → ∀ (H : Heap) (locs : List Loc) (ls : Array Slot), lv_has ls 10 [(0, va_rf v0), (1, .long v1), (3, .int v3), (4, .int v4), (9, .int v9)] → mx_M vwCl G mem H → va_S (mx_A G) s.heap H locs → W p l e R s m args below meth c H locs 0 0 (MQ below (gq_Q G (some (.long q.1)) q.2) args s 0 0 (mx_A G)) (F0 m 96 ls []) := by
  obtain ⟨hx, hb, hml, hr, hown, hts, hlocks, hK, hN, hb0, hRf, hRc, hRs, hRl⟩ := id CX
  intro n
  induction n with
  | zero => intro v0 v1 v3 v4 v9 mem h; rw [fl_Mo_solve_96] at h; cases h
  | succ n ih =>
    intro v0 v1 v3 v4 v9 mem h H locs ls hl hM hS
    rw [fl_Mo_solve_96] at h
    refine lv_iload hx hb d_Mo_solve_96 (lv_at hl 4 rfl) ?_
    refine mx_aload_n hx hb d_Mo_solve_98 rfl (lv_at hl 0 rfl) ?_
    obtain ⟨x1, e2, h⟩ := mx_b h
    refine mx_geti hx hb hts i_Mo hown hK hM e2 (ci := 4) (C := R_Mo) (T := T_Mo) (N := 23) rfl 9 (by decide) (hts _ wd_142) d_Mo_solve_99 ?_
    refine lv_icmp_gt (tgt := 125) hx hb d_Mo_solve_102 (by decide) (fun c3 => ?_) (fun c3 => ?_)
    · rw [if_pos c3] at h
      exact hk0 _ _ _ _ _ h _ _ _ (lv_sub hl [0, 1, 2, 3] rfl) hM hS
    · rw [if_neg c3] at h
      refine mx_aload_n hx hb d_Mo_solve_105 rfl (lv_at hl 0 rfl) ?_
      obtain ⟨x4, e5, h⟩ := mx_b h
      refine mx_getr hx hb hts i_Mo hown hK hM e5 (ci := 4) (C := R_Mo) (T := T_Mo) (N := 23) rfl 21 (by decide) (hts _ wd_32) d_Mo_solve_106 ?_
      refine lv_iload hx hb d_Mo_solve_109 (lv_at hl 4 rfl) ?_
      refine mx_aload_n hx hb d_Mo_solve_111 rfl (lv_at hl 0 rfl) ?_
      obtain ⟨x6, e7, h⟩ := mx_b h
      refine mx_getr hx hb hts i_Mo hown hK hM e7 (ci := 4) (C := R_Mo) (T := T_Mo) (N := 23) rfl 15 (by decide) (hts _ wd_25) d_Mo_solve_112 ?_
      refine lv_iload hx hb d_Mo_solve_115 (lv_at hl 4 rfl) ?_
      obtain ⟨x8, e9, h⟩ := mx_b h
      refine mx_iald hx hb hK hM e9 rfl d_Mo_solve_117 ?_
      obtain ⟨m11, e10, h⟩ := mx_b h
      refine mx_iast hx hb hK hM hS e10 rfl d_Mo_solve_118 (fun H locs hM hS => ?_)
      refine lv_iinc (v := (v9 + 1)) (lv' := [(9, .int ((v9 + 1))), (0, va_rf v0), (1, .long v1), (3, .int v3), (4, .int v4)]) hx hb d_Mo_solve_119 hl (k := 4) rfl rfl (by decide) rfl (fun ls hl => ?_)
      refine lv_goto (tgt := 96) hx hb d_Mo_solve_122 (by decide) ?_
      exact ih _ _ _ _ _ _ h _ _ _ (lv_sub hl [1, 2, 3, 4, 0] rfl) hM hS
set_option maxHeartbeats 4000000 in
set_option maxRecDepth 100000 in
theorem wfl_Mo_solve_38 {p : Program} {l : Launch} {e : Env} {R : Room} {s : State} {m : MethodId} {args : Array Value} {below : List Frame} {meth : Method} {c : Code} {G : mx_G} (q : Int64 × mx_Mem) (CX : gq_C p R s m args meth c G b_Mo_solve 10 (some .long) R_Mo 3 0 0 76) {k0 : Option Nat → Int64 → mx_Mem → Option (Int64 × mx_Mem)} (hk0 : ∀ (v0 : Option Nat) (v1 : Int64) (mem : mx_Mem), k0 v0 v1 mem = some q → ∀ (H : Heap) (locs : List Loc) (ls : Array Slot), lv_has ls 10 [(0, va_rf v0), (1, .long v1)] → mx_M vwCl G mem H → va_S (mx_A G) s.heap H locs → W p l e R s m args below meth c H locs 0 0 (MQ below (gq_Q G (some (.long q.1)) q.2) args s 0 0 (mx_A G)) (F0 m 134 ls [])) : ∀ (n : Nat) (v0 : Option Nat) (v1 : Int64) (v3 : Int32) (v4 : Int32) (v5 : Int32) (mem : mx_Mem), fl_Mo_solve_38 k0 n v0 v1 v3 v4 v5 mem = some q → ∀ (H : Heap) (locs : List Loc) (ls : Array Slot), lv_has ls 10 [(0, va_rf v0), (1, .long v1), (3, .int v3), (4, .int v4), (5, .int v5)] → mx_M vwCl G mem H → va_S (mx_A G) s.heap H locs → W p l e R s m args below meth c H locs 0 0 (MQ below (gq_Q G (some (.long q.1)) q.2) args s 0 0 (mx_A G)) (F0 m 38 ls []) := by
  obtain ⟨hx, hb, hml, hr, hown, hts, hlocks, hK, hN, hb0, hRf, hRc, hRs, hRl⟩ := id CX
  intro n
  induction n with
  | zero => intro v0 v1 v3 v4 v5 mem h; rw [fl_Mo_solve_38] at h; cases h
  | succ n ih =>
    intro v0 v1 v3 v4 v5 mem h H locs ls hl hM hS
    rw [fl_Mo_solve_38] at h
    refine lv_iload hx hb d_Mo_solve_38 (lv_at hl 4 rfl) ?_
    refine lv_if_eq (tgt := 134) hx hb d_Mo_solve_40 (by decide) (fun c1 => ?_) (fun c1 => ?_)
    · rw [if_pos c1] at h
      exact hk0 _ _ _ h _ _ _ (lv_sub hl [0, 1] rfl) hM hS
    · rw [if_neg c1] at h
      refine mx_aload_n hx hb d_Mo_solve_43 rfl (lv_at hl 0 rfl) ?_
      obtain ⟨a5, e4, h⟩ := mx_b h
      obtain ⟨q2, e3, h⟩ := mx_b h
      have e6 := mx_c_eq e4
      refine W.eq (g2 := F0 m 44 ls [.ref a5]) (congrArg (fun z => F0 m 44 ls [va_rf z]) e6) ?_
      refine gq_go (va_runV (b := a5) (As := []) (rest := []) ⟨hx, hb, hml, hown, hts⟩ (c_Mo_reckon l G a5  _ _ e3) (cwV 0 hts (gq_gV wd_211 wd_212 wd_213 wd_114 wd_210) rfl rfl rfl (by decide +kernel) ⟨Nat.le_trans (Nat.le_of_ble_eq_true rfl) hRf, Nat.le_trans (Nat.le_of_ble_eq_true rfl) hRl⟩) (gq_preV hK hN hM hS hb0 e4 (C := R_Mo) (T := T_Mo) (N := 23) rfl) rfl rfl hl.1 rfl (lv_room (Nat.le_of_ble_eq_true rfl)) d_Mo_solve_44 ⟨(Nat.le_trans (Nat.le_of_ble_eq_true rfl) hRc), (Nat.le_trans (Nat.le_of_ble_eq_true rfl) hRs)⟩) hS (fun H locs hM hS => ?_)
      refine W.eq (g2 := F0 m 47 ls []) rfl ?_
      refine mx_aload_n hx hb d_Mo_solve_47 rfl (lv_at hl 0 rfl) ?_
      obtain ⟨a10, e9, h⟩ := mx_b h
      obtain ⟨q7, e8, h⟩ := mx_b h
      have e11 := mx_c_eq e9
      refine W.eq (g2 := F0 m 48 ls [.ref a10]) (congrArg (fun z => F0 m 48 ls [va_rf z]) e11) ?_
      refine gq_go (va_runV (b := a10) (As := []) (rest := []) ⟨hx, hb, hml, hown, hts⟩ (c_Mo_harm l G a10  _ _ e8) (cwV 0 hts (gq_gV wd_278 wd_279 wd_280 wd_114 wd_277) rfl rfl rfl (by decide +kernel) ⟨Nat.le_trans (Nat.le_of_ble_eq_true rfl) hRf, Nat.le_trans (Nat.le_of_ble_eq_true rfl) hRl⟩) (gq_preV hK hN hM hS hb0 e9 (C := R_Mo) (T := T_Mo) (N := 23) rfl) rfl rfl hl.1 rfl (lv_room (Nat.le_of_ble_eq_true rfl)) d_Mo_solve_48 ⟨(Nat.le_trans (Nat.le_of_ble_eq_true rfl) hRc), (Nat.le_trans (Nat.le_of_ble_eq_true rfl) hRs)⟩) hS (fun H locs hM hS => ?_)
      refine W.eq (g2 := F0 m 51 ls [.long q7.1]) rfl ?_
      refine lv_lstore (lv' := [(6, .long q7.1), (0, va_rf v0), (1, .long v1), (3, .int v3), (4, .int v4), (5, .int v5)]) hx hb d_Mo_solve_51 hl (by decide) rfl (fun ls hl => ?_)
      refine mx_aload_n hx hb d_Mo_solve_53 rfl (lv_at hl 1 rfl) ?_
      obtain ⟨a15, e14, h⟩ := mx_b h
      obtain ⟨q12, e13, h⟩ := mx_b h
      have e16 := mx_c_eq e14
      refine W.eq (g2 := F0 m 54 ls [.ref a15]) (congrArg (fun z => F0 m 54 ls [va_rf z]) e16) ?_
      refine gq_go (va_runV (b := a15) (As := []) (rest := []) ⟨hx, hb, hml, hown, hts⟩ (c_Mo_actsNow l G a15  _ _ e13) (cwV 0 hts (gq_gV wd_282 wd_283 wd_284 wd_114 wd_281) rfl rfl rfl (by decide +kernel) ⟨Nat.le_trans (Nat.le_of_ble_eq_true rfl) hRf, Nat.le_trans (Nat.le_of_ble_eq_true rfl) hRl⟩) (gq_preV hK hN hM hS hb0 e14 (C := R_Mo) (T := T_Mo) (N := 23) rfl) rfl rfl hl.1 rfl (lv_room (Nat.le_of_ble_eq_true rfl)) d_Mo_solve_54 ⟨(Nat.le_trans (Nat.le_of_ble_eq_true rfl) hRc), (Nat.le_trans (Nat.le_of_ble_eq_true rfl) hRs)⟩) hS (fun H locs hM hS => ?_)
      refine W.eq (g2 := F0 m 57 ls [.int q12.1]) rfl ?_
      refine lv_istore (lv' := [(8, .int q12.1), (6, .long q7.1), (0, va_rf v0), (1, .long v1), (3, .int v3), (4, .int v4), (5, .int v5)]) hx hb d_Mo_solve_57 hl (by decide) rfl (fun ls hl => ?_)
      refine lv_iload hx hb d_Mo_solve_59 (lv_at hl 5 rfl) ?_
      refine lv_if_eq (tgt := 84) hx hb d_Mo_solve_61 (by decide) (fun c17 => ?_) (fun c17 => ?_)
      · rw [if_pos c17] at h
        refine lv_iconst (v := 1) hx hb d_Mo_solve_84 (by decide) ?_
        refine lv_istore (lv' := [(4, .int 1), (8, .int q12.1), (6, .long q7.1), (0, va_rf v0), (1, .long v1), (3, .int v3), (5, .int v5)]) hx hb d_Mo_solve_85 hl (by decide) rfl (fun ls hl => ?_)
        refine lv_lload hx hb d_Mo_solve_87 (lv_at hl 2 rfl) ?_
        refine lv_lstore_n (lv' := [(1, .long q7.1), (4, .int 1), (8, .int q12.1), (6, .long q7.1), (0, va_rf v0), (3, .int v3), (5, .int v5)]) hx hb d_Mo_solve_89 rfl hl (by decide) (by simp [mx_cat, mx_cati, mx_catl, mx_catr]) (fun ls hl => ?_)
        refine lv_iload hx hb d_Mo_solve_90 (lv_at hl 2 rfl) ?_
        refine lv_istore_n (lv' := [(3, .int q12.1), (1, .long q7.1), (4, .int 1), (8, .int q12.1), (6, .long q7.1), (0, va_rf v0), (5, .int v5)]) hx hb d_Mo_solve_92 rfl hl (by decide) rfl (fun ls hl => ?_)
        refine lv_iconst (v := 1) hx hb d_Mo_solve_93 (by decide) ?_
        refine lv_istore (lv' := [(9, .int 1), (3, .int q12.1), (1, .long q7.1), (4, .int 1), (8, .int q12.1), (6, .long q7.1), (0, va_rf v0), (5, .int v5)]) hx hb d_Mo_solve_94 hl (by decide) rfl (fun ls hl => ?_)
        refine wfl_Mo_solve_96 q CX ?_ 5000 _ _ _ _ _ _ h _ _ _ (lv_sub hl [6, 2, 1, 3, 0] rfl) hM hS
        · intro v0 v1 v3 v4 m18 h H locs ls hl hM hS
          refine mx_aload_n hx hb d_Mo_solve_125 rfl (lv_at hl 0 rfl) ?_
          obtain ⟨a22, e21, h⟩ := mx_b h
          obtain ⟨q19, e20, h⟩ := mx_b h
          have e23 := mx_c_eq e21
          refine W.eq (g2 := F0 m 126 ls [.ref a22]) (congrArg (fun z => F0 m 126 ls [va_rf z]) e23) ?_
          refine gq_go (va_runV (b := a22) (As := []) (rest := []) ⟨hx, hb, hml, hown, hts⟩ (c_Mo_next l G a22  _ _ e20) (cwV 0 hts (gq_gV wd_286 wd_287 wd_288 wd_114 wd_285) rfl rfl rfl (by decide +kernel) ⟨Nat.le_trans (Nat.le_of_ble_eq_true rfl) hRf, Nat.le_trans (Nat.le_of_ble_eq_true rfl) hRl⟩) (gq_preV hK hN hM hS hb0 e21 (C := R_Mo) (T := T_Mo) (N := 23) rfl) rfl rfl hl.1 rfl (lv_room (Nat.le_of_ble_eq_true rfl)) d_Mo_solve_126 ⟨(Nat.le_trans (Nat.le_of_ble_eq_true rfl) hRc), (Nat.le_trans (Nat.le_of_ble_eq_true rfl) hRs)⟩) hS (fun H locs hM hS => ?_)
          refine W.eq (g2 := F0 m 129 ls [.int q19.1]) rfl ?_
          refine lv_istore (lv' := [(5, .int q19.1), (0, va_rf v0), (1, .long v1), (3, .int v3), (4, .int v4)]) hx hb d_Mo_solve_129 hl (by decide) rfl (fun ls hl => ?_)
          refine lv_goto (tgt := 38) hx hb d_Mo_solve_131 (by decide) ?_
          exact ih _ _ _ _ _ _ h _ _ _ (lv_sub hl [1, 2, 3, 4, 0] rfl) hM hS
      · rw [if_neg c17] at h
        refine lv_lload hx hb d_Mo_solve_64 (lv_at hl 1 rfl) ?_
        refine lv_lload_n hx hb d_Mo_solve_66 rfl (lv_at hl 3 rfl) ?_
        refine mx_lcmp_lt (tgt := 84) hx hb d_Mo_solve_67 d_Mo_solve_68 (by decide) (fun c18 => ?_) (fun c18 => ?_)
        · rw [if_pos c18] at h
          refine lv_iconst (v := 1) hx hb d_Mo_solve_84 (by decide) ?_
          refine lv_istore (lv' := [(4, .int 1), (8, .int q12.1), (6, .long q7.1), (0, va_rf v0), (1, .long v1), (3, .int v3), (5, .int v5)]) hx hb d_Mo_solve_85 hl (by decide) rfl (fun ls hl => ?_)
          refine lv_lload hx hb d_Mo_solve_87 (lv_at hl 2 rfl) ?_
          refine lv_lstore_n (lv' := [(1, .long q7.1), (4, .int 1), (8, .int q12.1), (6, .long q7.1), (0, va_rf v0), (3, .int v3), (5, .int v5)]) hx hb d_Mo_solve_89 rfl hl (by decide) (by simp [mx_cat, mx_cati, mx_catl, mx_catr]) (fun ls hl => ?_)
          refine lv_iload hx hb d_Mo_solve_90 (lv_at hl 2 rfl) ?_
          refine lv_istore_n (lv' := [(3, .int q12.1), (1, .long q7.1), (4, .int 1), (8, .int q12.1), (6, .long q7.1), (0, va_rf v0), (5, .int v5)]) hx hb d_Mo_solve_92 rfl hl (by decide) rfl (fun ls hl => ?_)
          refine lv_iconst (v := 1) hx hb d_Mo_solve_93 (by decide) ?_
          refine lv_istore (lv' := [(9, .int 1), (3, .int q12.1), (1, .long q7.1), (4, .int 1), (8, .int q12.1), (6, .long q7.1), (0, va_rf v0), (5, .int v5)]) hx hb d_Mo_solve_94 hl (by decide) rfl (fun ls hl => ?_)
          refine wfl_Mo_solve_96 q CX ?_ 5000 _ _ _ _ _ _ h _ _ _ (lv_sub hl [6, 2, 1, 3, 0] rfl) hM hS
          · intro v0 v1 v3 v4 m19 h H locs ls hl hM hS
            refine mx_aload_n hx hb d_Mo_solve_125 rfl (lv_at hl 0 rfl) ?_
            obtain ⟨a23, e22, h⟩ := mx_b h
            obtain ⟨q20, e21, h⟩ := mx_b h
            have e24 := mx_c_eq e22
            refine W.eq (g2 := F0 m 126 ls [.ref a23]) (congrArg (fun z => F0 m 126 ls [va_rf z]) e24) ?_
            refine gq_go (va_runV (b := a23) (As := []) (rest := []) ⟨hx, hb, hml, hown, hts⟩ (c_Mo_next l G a23  _ _ e21) (cwV 0 hts (gq_gV wd_286 wd_287 wd_288 wd_114 wd_285) rfl rfl rfl (by decide +kernel) ⟨Nat.le_trans (Nat.le_of_ble_eq_true rfl) hRf, Nat.le_trans (Nat.le_of_ble_eq_true rfl) hRl⟩) (gq_preV hK hN hM hS hb0 e22 (C := R_Mo) (T := T_Mo) (N := 23) rfl) rfl rfl hl.1 rfl (lv_room (Nat.le_of_ble_eq_true rfl)) d_Mo_solve_126 ⟨(Nat.le_trans (Nat.le_of_ble_eq_true rfl) hRc), (Nat.le_trans (Nat.le_of_ble_eq_true rfl) hRs)⟩) hS (fun H locs hM hS => ?_)
            refine W.eq (g2 := F0 m 129 ls [.int q20.1]) rfl ?_
            refine lv_istore (lv' := [(5, .int q20.1), (0, va_rf v0), (1, .long v1), (3, .int v3), (4, .int v4)]) hx hb d_Mo_solve_129 hl (by decide) rfl (fun ls hl => ?_)
            refine lv_goto (tgt := 38) hx hb d_Mo_solve_131 (by decide) ?_
            exact ih _ _ _ _ _ _ h _ _ _ (lv_sub hl [1, 2, 3, 4, 0] rfl) hM hS
        · rw [if_neg c18] at h
          refine lv_lload hx hb d_Mo_solve_71 (lv_at hl 1 rfl) ?_
          refine lv_lload_n hx hb d_Mo_solve_73 rfl (lv_at hl 3 rfl) ?_
          refine mx_lcmp_ne (tgt := 125) hx hb d_Mo_solve_74 d_Mo_solve_75 (by decide) (fun c19 => ?_) (fun c19 => ?_)
          · rw [if_neg c19] at h
            refine mx_aload_n hx hb d_Mo_solve_125 rfl (lv_at hl 2 rfl) ?_
            obtain ⟨a23, e22, h⟩ := mx_b h
            obtain ⟨q20, e21, h⟩ := mx_b h
            have e24 := mx_c_eq e22
            refine W.eq (g2 := F0 m 126 ls [.ref a23]) (congrArg (fun z => F0 m 126 ls [va_rf z]) e24) ?_
            refine gq_go (va_runV (b := a23) (As := []) (rest := []) ⟨hx, hb, hml, hown, hts⟩ (c_Mo_next l G a23  _ _ e21) (cwV 0 hts (gq_gV wd_286 wd_287 wd_288 wd_114 wd_285) rfl rfl rfl (by decide +kernel) ⟨Nat.le_trans (Nat.le_of_ble_eq_true rfl) hRf, Nat.le_trans (Nat.le_of_ble_eq_true rfl) hRl⟩) (gq_preV hK hN hM hS hb0 e22 (C := R_Mo) (T := T_Mo) (N := 23) rfl) rfl rfl hl.1 rfl (lv_room (Nat.le_of_ble_eq_true rfl)) d_Mo_solve_126 ⟨(Nat.le_trans (Nat.le_of_ble_eq_true rfl) hRc), (Nat.le_trans (Nat.le_of_ble_eq_true rfl) hRs)⟩) hS (fun H locs hM hS => ?_)
            refine W.eq (g2 := F0 m 129 ls [.int q20.1]) rfl ?_
            refine lv_istore (lv' := [(5, .int q20.1), (8, .int q12.1), (6, .long q7.1), (0, va_rf v0), (1, .long v1), (3, .int v3), (4, .int v4)]) hx hb d_Mo_solve_129 hl (by decide) rfl (fun ls hl => ?_)
            refine lv_goto (tgt := 38) hx hb d_Mo_solve_131 (by decide) ?_
            exact ih _ _ _ _ _ _ h _ _ _ (lv_sub hl [3, 4, 5, 6, 0] rfl) hM hS
          · rw [if_pos c19] at h
            refine lv_iload hx hb d_Mo_solve_78 (lv_at hl 0 rfl) ?_
            refine lv_iload_n hx hb d_Mo_solve_80 rfl (lv_at hl 4 rfl) ?_
            refine lv_icmp_ge (tgt := 125) hx hb d_Mo_solve_81 (by decide) (fun c20 => ?_) (fun c20 => ?_)
            · rw [if_pos c20] at h
              refine mx_aload_n hx hb d_Mo_solve_125 rfl (lv_at hl 2 rfl) ?_
              obtain ⟨a24, e23, h⟩ := mx_b h
              obtain ⟨q21, e22, h⟩ := mx_b h
              have e25 := mx_c_eq e23
              refine W.eq (g2 := F0 m 126 ls [.ref a24]) (congrArg (fun z => F0 m 126 ls [va_rf z]) e25) ?_
              refine gq_go (va_runV (b := a24) (As := []) (rest := []) ⟨hx, hb, hml, hown, hts⟩ (c_Mo_next l G a24  _ _ e22) (cwV 0 hts (gq_gV wd_286 wd_287 wd_288 wd_114 wd_285) rfl rfl rfl (by decide +kernel) ⟨Nat.le_trans (Nat.le_of_ble_eq_true rfl) hRf, Nat.le_trans (Nat.le_of_ble_eq_true rfl) hRl⟩) (gq_preV hK hN hM hS hb0 e23 (C := R_Mo) (T := T_Mo) (N := 23) rfl) rfl rfl hl.1 rfl (lv_room (Nat.le_of_ble_eq_true rfl)) d_Mo_solve_126 ⟨(Nat.le_trans (Nat.le_of_ble_eq_true rfl) hRc), (Nat.le_trans (Nat.le_of_ble_eq_true rfl) hRs)⟩) hS (fun H locs hM hS => ?_)
              refine W.eq (g2 := F0 m 129 ls [.int q21.1]) rfl ?_
              refine lv_istore (lv' := [(5, .int q21.1), (8, .int q12.1), (6, .long q7.1), (0, va_rf v0), (1, .long v1), (3, .int v3), (4, .int v4)]) hx hb d_Mo_solve_129 hl (by decide) rfl (fun ls hl => ?_)
              refine lv_goto (tgt := 38) hx hb d_Mo_solve_131 (by decide) ?_
              exact ih _ _ _ _ _ _ h _ _ _ (lv_sub hl [3, 4, 5, 6, 0] rfl) hM hS
            · rw [if_neg c20] at h
              refine lv_iconst (v := 1) hx hb d_Mo_solve_84 (by decide) ?_
              refine lv_istore (lv' := [(4, .int 1), (8, .int q12.1), (6, .long q7.1), (0, va_rf v0), (1, .long v1), (3, .int v3), (5, .int v5)]) hx hb d_Mo_solve_85 hl (by decide) rfl (fun ls hl => ?_)
              refine lv_lload hx hb d_Mo_solve_87 (lv_at hl 2 rfl) ?_
              refine lv_lstore_n (lv' := [(1, .long q7.1), (4, .int 1), (8, .int q12.1), (6, .long q7.1), (0, va_rf v0), (3, .int v3), (5, .int v5)]) hx hb d_Mo_solve_89 rfl hl (by decide) (by simp [mx_cat, mx_cati, mx_catl, mx_catr]) (fun ls hl => ?_)
              refine lv_iload hx hb d_Mo_solve_90 (lv_at hl 2 rfl) ?_
              refine lv_istore_n (lv' := [(3, .int q12.1), (1, .long q7.1), (4, .int 1), (8, .int q12.1), (6, .long q7.1), (0, va_rf v0), (5, .int v5)]) hx hb d_Mo_solve_92 rfl hl (by decide) rfl (fun ls hl => ?_)
              refine lv_iconst (v := 1) hx hb d_Mo_solve_93 (by decide) ?_
              refine lv_istore (lv' := [(9, .int 1), (3, .int q12.1), (1, .long q7.1), (4, .int 1), (8, .int q12.1), (6, .long q7.1), (0, va_rf v0), (5, .int v5)]) hx hb d_Mo_solve_94 hl (by decide) rfl (fun ls hl => ?_)
              refine wfl_Mo_solve_96 q CX ?_ 5000 _ _ _ _ _ _ h _ _ _ (lv_sub hl [6, 2, 1, 3, 0] rfl) hM hS
              · intro v0 v1 v3 v4 m21 h H locs ls hl hM hS
                refine mx_aload_n hx hb d_Mo_solve_125 rfl (lv_at hl 0 rfl) ?_
                obtain ⟨a25, e24, h⟩ := mx_b h
                obtain ⟨q22, e23, h⟩ := mx_b h
                have e26 := mx_c_eq e24
                refine W.eq (g2 := F0 m 126 ls [.ref a25]) (congrArg (fun z => F0 m 126 ls [va_rf z]) e26) ?_
                refine gq_go (va_runV (b := a25) (As := []) (rest := []) ⟨hx, hb, hml, hown, hts⟩ (c_Mo_next l G a25  _ _ e23) (cwV 0 hts (gq_gV wd_286 wd_287 wd_288 wd_114 wd_285) rfl rfl rfl (by decide +kernel) ⟨Nat.le_trans (Nat.le_of_ble_eq_true rfl) hRf, Nat.le_trans (Nat.le_of_ble_eq_true rfl) hRl⟩) (gq_preV hK hN hM hS hb0 e24 (C := R_Mo) (T := T_Mo) (N := 23) rfl) rfl rfl hl.1 rfl (lv_room (Nat.le_of_ble_eq_true rfl)) d_Mo_solve_126 ⟨(Nat.le_trans (Nat.le_of_ble_eq_true rfl) hRc), (Nat.le_trans (Nat.le_of_ble_eq_true rfl) hRs)⟩) hS (fun H locs hM hS => ?_)
                refine W.eq (g2 := F0 m 129 ls [.int q22.1]) rfl ?_
                refine lv_istore (lv' := [(5, .int q22.1), (0, va_rf v0), (1, .long v1), (3, .int v3), (4, .int v4)]) hx hb d_Mo_solve_129 hl (by decide) rfl (fun ls hl => ?_)
                refine lv_goto (tgt := 38) hx hb d_Mo_solve_131 (by decide) ?_
                exact ih _ _ _ _ _ _ h _ _ _ (lv_sub hl [1, 2, 3, 4, 0] rfl) hM hS
set_option maxHeartbeats 4000000 in
set_option maxRecDepth 100000 in
theorem wfl_Mo_solve_137 {p : Program} {l : Launch} {e : Env} {R : Room} {s : State} {m : MethodId} {args : Array Value} {below : List Frame} {meth : Method} {c : Code} {G : mx_G} (q : Int64 × mx_Mem) (CX : gq_C p R s m args meth c G b_Mo_solve 10 (some .long) R_Mo 3 0 0 76)  : ∀ (n : Nat) (v0 : Option Nat) (v1 : Int64) (v6 : Int32) (mem : mx_Mem), fl_Mo_solve_137  n v0 v1 v6 mem = some q → ∀ (H : Heap) (locs : List Loc) (ls : Array Slot), lv_has ls 10 [(0, va_rf v0), (1, .long v1), (6, .int v6)] → mx_M vwCl G mem H → va_S (mx_A G) s.heap H locs → W p l e R s m args below meth c H locs 0 0 (MQ below (gq_Q G (some (.long q.1)) q.2) args s 0 0 (mx_A G)) (F0 m 137 ls []) := by
  obtain ⟨hx, hb, hml, hr, hown, hts, hlocks, hK, hN, hb0, hRf, hRc, hRs, hRl⟩ := id CX
  intro n
  induction n with
  | zero => intro v0 v1 v6 mem h; rw [fl_Mo_solve_137] at h; cases h
  | succ n ih =>
    intro v0 v1 v6 mem h H locs ls hl hM hS
    rw [fl_Mo_solve_137] at h
    refine lv_iload hx hb d_Mo_solve_137 (lv_at hl 2 rfl) ?_
    refine mx_aload_n hx hb d_Mo_solve_139 rfl (lv_at hl 0 rfl) ?_
    obtain ⟨x1, e2, h⟩ := mx_b h
    refine mx_geti hx hb hts i_Mo hown hK hM e2 (ci := 4) (C := R_Mo) (T := T_Mo) (N := 23) rfl 9 (by decide) (hts _ wd_142) d_Mo_solve_140 ?_
    refine lv_icmp_gt (tgt := 166) hx hb d_Mo_solve_143 (by decide) (fun c3 => ?_) (fun c3 => ?_)
    · rw [if_pos c3] at h
      refine lv_lload_n hx hb d_Mo_solve_166 rfl (lv_at hl 1 rfl) ?_
      cases h
      exact W.lret hx hb hr (fun t ht hW => ⟨⟨rfl, by rw [ht]; exact hM⟩, hS.F ht⟩) hS.2.2 d_Mo_solve_167
    · rw [if_neg c3] at h
      refine mx_aload_n hx hb d_Mo_solve_146 rfl (lv_at hl 0 rfl) ?_
      obtain ⟨x4, e5, h⟩ := mx_b h
      refine mx_getr hx hb hts i_Mo hown hK hM e5 (ci := 4) (C := R_Mo) (T := T_Mo) (N := 23) rfl 15 (by decide) (hts _ wd_25) d_Mo_solve_147 ?_
      refine lv_iload hx hb d_Mo_solve_150 (lv_at hl 2 rfl) ?_
      refine mx_aload_n hx hb d_Mo_solve_152 rfl (lv_at hl 0 rfl) ?_
      obtain ⟨x6, e7, h⟩ := mx_b h
      refine mx_getr hx hb hts i_Mo hown hK hM e7 (ci := 4) (C := R_Mo) (T := T_Mo) (N := 23) rfl 21 (by decide) (hts _ wd_32) d_Mo_solve_153 ?_
      refine lv_iload hx hb d_Mo_solve_156 (lv_at hl 2 rfl) ?_
      obtain ⟨x8, e9, h⟩ := mx_b h
      refine mx_iald hx hb hK hM e9 rfl d_Mo_solve_158 ?_
      obtain ⟨m11, e10, h⟩ := mx_b h
      refine mx_iast hx hb hK hM hS e10 rfl d_Mo_solve_159 (fun H locs hM hS => ?_)
      refine lv_iinc (v := (v6 + 1)) (lv' := [(6, .int ((v6 + 1))), (0, va_rf v0), (1, .long v1)]) hx hb d_Mo_solve_160 hl (k := 2) rfl rfl (by decide) rfl (fun ls hl => ?_)
      refine lv_goto (tgt := 137) hx hb d_Mo_solve_163 (by decide) ?_
      exact ih _ _ _ _ h _ _ _ (lv_sub hl [1, 2, 0] rfl) hM hS
set_option maxHeartbeats 4000000 in
set_option maxRecDepth 100000 in
theorem c_Mo_solve (l : Launch) (G : mx_G) (a0 : Nat) (mem : mx_Mem) (q : Int64 × mx_Mem) (h : f_Mo_solve a0 mem = some q) : Met l y_Mo_solve (gq_w y_Mo_solve b_Mo_solve 10 (some .long)) { frames := 3, cells := 0, slots := 0, locals := 76 } (gq_P G [.ref a0] mem) (gq_Q G (some (.long q.1)) q.2) 0 0 (mx_A G) := by
  refine Met.ofW (cc := b_Mo_solve) (maxL := 10) (ret := (some .long)) (by decide) rfl ?_
  intro p e s m args below meth c s₁ B hml hv
  obtain ⟨rfl, hb0, hM, hK, hN⟩ := hv
  have CX : gq_C p (headSpec (gq_w y_Mo_solve b_Mo_solve 10 (some .long)) { frames := 3, cells := 0, slots := 0, locals := 76 }).room s m _ meth c G b_Mo_solve 10 (some .long) R_Mo 3 0 0 76 := ⟨B.exec, B.bytes, hml, B.returns, findClass_of_methodNamed B.named, fun w hw => atoms_spec (ws := gq_w y_Mo_solve b_Mo_solve 10 (some .long)) B.pre w (List.mem_cons_of_mem _ hw), B.notSynchronized, hK, hN, hb0, Nat.le_refl _, Nat.le_refl _, Nat.le_refl _, Nat.le_refl _⟩
  obtain ⟨hx, hb, hml, hr, hown, hts, hlocks, hK, hN, hb0, hRf, hRc, hRs, hRl⟩ := id CX
  have hS : va_S (mx_A G) s.heap s.heap [] := va_S.rf
  have hl := lv_entry [.ref a0] (n := 10) (Nat.le_of_ble_eq_true rfl)
  rw [lg_entry_eq]
  generalize (lg_sl [.ref a0] ++ List.replicate (10 - (lg_sl [.ref a0]).length) Slot.unset).toArray = ls at hl ⊢
  have hl : lv_has ls 10 [(0, va_rf (some a0))] := hl
  unfold f_Mo_solve at h
  refine mx_aload_n hx hb d_Mo_solve_0 rfl (lv_at hl 0 rfl) ?_
  refine lv_iconst (v := 0) hx hb d_Mo_solve_1 (by decide) ?_
  obtain ⟨m1, e2, h⟩ := mx_b h
  refine mx_put hx hb hts i_Mo t_Mo t_Mo_ok n_Mo hown hK hM hS e2 (ci := 4) (C := R_Mo) (T := T_Mo) (N := 23) rfl 0 (by decide) (hts _ wd_109) rfl (ty := .int) (by decide +kernel) rfl rfl d_Mo_solve_2 (fun H locs hM hS => ?_)
  refine lv_iconst (v := 1) hx hb d_Mo_solve_5 (by decide) ?_
  refine lv_istore_n (lv' := [(1, .int 1), (0, va_rf (some a0))]) hx hb d_Mo_solve_6 rfl hl (by decide) (by simp [mx_cat, mx_cati, mx_catl, mx_catr]) (fun ls hl => ?_)
  refine wfl_Mo_solve_7 q CX ?_ 5000 _ _ _ h _ _ _ (lv_sub hl [1, 0] rfl) hM hS
  · intro v0 m3 h H locs ls hl hM hS
    refine lv_lconst (v := 0) hx hb d_Mo_solve_28 (by decide) ?_
    refine lv_lstore_n (lv' := [(1, .long 0), (0, va_rf v0)]) hx hb d_Mo_solve_29 rfl hl (by decide) (by simp [mx_cat, mx_cati, mx_catl, mx_catr]) (fun ls hl => ?_)
    refine lv_iconst (v := 0) hx hb d_Mo_solve_30 (by decide) ?_
    refine lv_istore_n (lv' := [(3, .int 0), (1, .long 0), (0, va_rf v0)]) hx hb d_Mo_solve_31 rfl hl (by decide) rfl (fun ls hl => ?_)
    refine lv_iconst (v := 0) hx hb d_Mo_solve_32 (by decide) ?_
    refine lv_istore (lv' := [(4, .int 0), (3, .int 0), (1, .long 0), (0, va_rf v0)]) hx hb d_Mo_solve_33 hl (by decide) rfl (fun ls hl => ?_)
    refine lv_iconst (v := 1) hx hb d_Mo_solve_35 (by decide) ?_
    refine lv_istore (lv' := [(5, .int 1), (4, .int 0), (3, .int 0), (1, .long 0), (0, va_rf v0)]) hx hb d_Mo_solve_36 hl (by decide) rfl (fun ls hl => ?_)
    refine wfl_Mo_solve_38 q CX ?_ 5000 _ _ _ _ _ _ h _ _ _ (lv_sub hl [4, 3, 2, 1, 0] rfl) hM hS
    · intro v0 v1 m4 h H locs ls hl hM hS
      refine lv_iconst (v := 1) hx hb d_Mo_solve_134 (by decide) ?_
      refine lv_istore (lv' := [(6, .int 1), (0, va_rf v0), (1, .long v1)]) hx hb d_Mo_solve_135 hl (by decide) rfl (fun ls hl => ?_)
      refine wfl_Mo_solve_137 q CX  5000 _ _ _ _ h _ _ _ (lv_sub hl [1, 2, 0] rfl) hM hS
set_option maxHeartbeats 4000000 in
set_option maxRecDepth 100000 in
theorem c_LR_chosen (l : Launch) (G : mx_G) (a0 : Nat) (v1 : Int32) (mem : mx_Mem) (q : Int32 × mx_Mem) (h : f_LR_chosen a0 v1 mem = some q) : Met l y_LR_chosen (gq_w y_LR_chosen b_LR_chosen 3 (some .int)) { frames := 1, cells := 0, slots := 0, locals := 21 } (gq_P G [.ref a0, .int v1] mem) (gq_Q G (some (.int q.1)) q.2) 0 0 (mx_A G) := by
  refine Met.ofW (cc := b_LR_chosen) (maxL := 3) (ret := (some .int)) (by decide) rfl ?_
  intro p e s m args below meth c s₁ B hml hv
  obtain ⟨rfl, hb0, hM, hK, hN⟩ := hv
  have CX : gq_C p (headSpec (gq_w y_LR_chosen b_LR_chosen 3 (some .int)) { frames := 1, cells := 0, slots := 0, locals := 21 }).room s m _ meth c G b_LR_chosen 3 (some .int) R_LR 1 0 0 21 := ⟨B.exec, B.bytes, hml, B.returns, findClass_of_methodNamed B.named, fun w hw => atoms_spec (ws := gq_w y_LR_chosen b_LR_chosen 3 (some .int)) B.pre w (List.mem_cons_of_mem _ hw), B.notSynchronized, hK, hN, hb0, Nat.le_refl _, Nat.le_refl _, Nat.le_refl _, Nat.le_refl _⟩
  obtain ⟨hx, hb, hml, hr, hown, hts, hlocks, hK, hN, hb0, hRf, hRc, hRs, hRl⟩ := id CX
  have hS : va_S (mx_A G) s.heap s.heap [] := va_S.rf
  have hl := lv_entry [.ref a0, .int v1] (n := 3) (Nat.le_of_ble_eq_true rfl)
  rw [lg_entry_eq]
  generalize (lg_sl [.ref a0, .int v1] ++ List.replicate (3 - (lg_sl [.ref a0, .int v1]).length) Slot.unset).toArray = ls at hl ⊢
  have hl : lv_has ls 3 [(0, va_rf (some a0)), (1, .int v1)] := hl
  unfold f_LR_chosen at h
  refine mx_aload_n hx hb d_LR_chosen_0 rfl (lv_at hl 0 rfl) ?_
  refine lv_iload_n hx hb d_LR_chosen_1 rfl (lv_at hl 1 rfl) ?_
  obtain ⟨a4, e3, h⟩ := mx_b h
  obtain ⟨q1, e2, h⟩ := mx_b h
  have e5 := mx_c_eq e3
  refine W.eq (g2 := F0 m 2 ls [.int v1, .ref a4]) (congrArg (fun z => F0 m 2 ls [.int v1, va_rf z]) e5) ?_
  refine gq_go (va_runV (b := a4) (As := [.int v1]) (rest := []) ⟨hx, hb, hml, hown, hts⟩ (c_LR_findLoad l G a4 v1 _ _ e2) (cwV 1 hts (gq_gV wd_152 wd_153 wd_154 wd_38 wd_151) rfl rfl rfl (by decide +kernel) ⟨Nat.le_trans (Nat.le_of_ble_eq_true rfl) hRf, Nat.le_trans (Nat.le_of_ble_eq_true rfl) hRl⟩) (gq_preV hK hN hM hS hb0 e3 (C := R_LR) (T := T_LR) (N := 5) rfl) rfl rfl hl.1 rfl (lv_room (Nat.le_of_ble_eq_true rfl)) d_LR_chosen_2 ⟨(Nat.le_trans (Nat.le_of_ble_eq_true rfl) hRc), (Nat.le_trans (Nat.le_of_ble_eq_true rfl) hRs)⟩) hS (fun H locs hM hS => ?_)
  refine W.eq (g2 := F0 m 5 ls [va_rf q1.1]) rfl ?_
  refine mx_astore_n (lv' := [(2, va_rf q1.1), (0, va_rf (some a0)), (1, .int v1)]) hx hb d_LR_chosen_5 rfl hl (by decide) rfl (fun ls hl => ?_)
  refine mx_aload_n hx hb d_LR_chosen_6 rfl (lv_at hl 0 rfl) ?_
  refine mx_ifnonnull (tgt := 15) hx hb d_LR_chosen_7 (by decide) (fun c6 => ?_) (fun c6 => ?_)
  · rw [if_neg c6] at h
    refine mx_aload_n hx hb d_LR_chosen_15 rfl (lv_at hl 0 rfl) ?_
    obtain ⟨x7, e8, h⟩ := mx_b h
    refine mx_getiN hx hb hts i_Lo hown hK hM e8 (ci := 3) (C := R_Lo) (T := T_Lo) (N := 12) rfl 6 (by decide) (va_Nw.use rfl (hN _ nw_16)) d_LR_chosen_16 ?_
    cases h
    exact W.iret hx hb hr (fun t ht hW => ⟨⟨rfl, by rw [ht]; exact hM⟩, hS.F ht⟩) hS.2.2 d_LR_chosen_19
  · rw [if_pos c6] at h
    refine lv_bipush (v := (-11)) hx hb d_LR_chosen_10 (by decide) ?_
    refine lv_goto (tgt := 19) hx hb d_LR_chosen_12 (by decide) ?_
    cases h
    exact W.iret hx hb hr (fun t ht hW => ⟨⟨rfl, by rw [ht]; exact hM⟩, hS.F ht⟩) hS.2.2 d_LR_chosen_19
set_option maxHeartbeats 4000000 in
set_option maxRecDepth 100000 in
theorem c_Mo_chosen (l : Launch) (G : mx_G) (a0 : Nat) (v1 : Int32) (mem : mx_Mem) (q : Int32 × mx_Mem) (h : f_Mo_chosen a0 v1 mem = some q) : Met l y_Mo_chosen (gq_w y_Mo_chosen b_Mo_chosen 2 (some .int)) { frames := 1, cells := 0, slots := 0, locals := 21 } (gq_P G [.ref a0, .int v1] mem) (gq_Q G (some (.int q.1)) q.2) 0 0 (mx_A G) := by
  refine Met.ofW (cc := b_Mo_chosen) (maxL := 2) (ret := (some .int)) (by decide) rfl ?_
  intro p e s m args below meth c s₁ B hml hv
  obtain ⟨rfl, hb0, hM, hK, hN⟩ := hv
  have CX : gq_C p (headSpec (gq_w y_Mo_chosen b_Mo_chosen 2 (some .int)) { frames := 1, cells := 0, slots := 0, locals := 21 }).room s m _ meth c G b_Mo_chosen 2 (some .int) R_Mo 1 0 0 21 := ⟨B.exec, B.bytes, hml, B.returns, findClass_of_methodNamed B.named, fun w hw => atoms_spec (ws := gq_w y_Mo_chosen b_Mo_chosen 2 (some .int)) B.pre w (List.mem_cons_of_mem _ hw), B.notSynchronized, hK, hN, hb0, Nat.le_refl _, Nat.le_refl _, Nat.le_refl _, Nat.le_refl _⟩
  obtain ⟨hx, hb, hml, hr, hown, hts, hlocks, hK, hN, hb0, hRf, hRc, hRs, hRl⟩ := id CX
  have hS : va_S (mx_A G) s.heap s.heap [] := va_S.rf
  have hl := lv_entry [.ref a0, .int v1] (n := 2) (Nat.le_of_ble_eq_true rfl)
  rw [lg_entry_eq]
  generalize (lg_sl [.ref a0, .int v1] ++ List.replicate (2 - (lg_sl [.ref a0, .int v1]).length) Slot.unset).toArray = ls at hl ⊢
  have hl : lv_has ls 2 [(0, va_rf (some a0)), (1, .int v1)] := hl
  unfold f_Mo_chosen at h
  refine mx_aload_n hx hb d_Mo_chosen_0 rfl (lv_at hl 0 rfl) ?_
  refine lv_iconst (v := 0) hx hb d_Mo_chosen_1 (by decide) ?_
  obtain ⟨m1, e2, h⟩ := mx_b h
  refine mx_put hx hb hts i_Mo t_Mo t_Mo_ok n_Mo hown hK hM hS e2 (ci := 4) (C := R_Mo) (T := T_Mo) (N := 23) rfl 0 (by decide) (hts _ wd_109) rfl (ty := .int) (by decide +kernel) rfl rfl d_Mo_chosen_2 (fun H locs hM hS => ?_)
  refine mx_aload_n hx hb d_Mo_chosen_5 rfl (lv_at hl 0 rfl) ?_
  refine lv_iload_n hx hb d_Mo_chosen_6 rfl (lv_at hl 1 rfl) ?_
  obtain ⟨a6, e5, h⟩ := mx_b h
  obtain ⟨q3, e4, h⟩ := mx_b h
  have e7 := mx_c_eq e5
  refine W.eq (g2 := F0 m 7 ls [.int v1, .ref a6]) (congrArg (fun z => F0 m 7 ls [.int v1, va_rf z]) e7) ?_
  refine gq_go (va_runV (b := a6) (As := [.int v1]) (rest := []) ⟨hx, hb, hml, hown, hts⟩ (c_Mo_isLoad l G a6 v1 _ _ e4) (cwV 1 hts (gq_gV wd_173 wd_174 wd_175 wd_114 wd_172) rfl rfl rfl (by decide +kernel) ⟨Nat.le_trans (Nat.le_of_ble_eq_true rfl) hRf, Nat.le_trans (Nat.le_of_ble_eq_true rfl) hRl⟩) (gq_preV hK hN hM hS hb0 e5 (C := R_Mo) (T := T_Mo) (N := 23) rfl) rfl rfl hl.1 rfl (lv_room (Nat.le_of_ble_eq_true rfl)) d_Mo_chosen_7 ⟨(Nat.le_trans (Nat.le_of_ble_eq_true rfl) hRc), (Nat.le_trans (Nat.le_of_ble_eq_true rfl) hRs)⟩) hS (fun H locs hM hS => ?_)
  refine W.eq (g2 := F0 m 10 ls [.int q3.1]) rfl ?_
  refine lv_if_ne (tgt := 18) hx hb d_Mo_chosen_10 (by decide) (fun c8 => ?_) (fun c8 => ?_)
  · rw [if_neg c8] at h
    refine mx_aload_n hx hb d_Mo_chosen_18 rfl (lv_at hl 0 rfl) ?_
    obtain ⟨x9, e10, h⟩ := mx_b h
    refine mx_getr hx hb hts i_Mo hown hK hM e10 (ci := 4) (C := R_Mo) (T := T_Mo) (N := 23) rfl 14 (by decide) (hts _ wd_24) d_Mo_chosen_19 ?_
    refine lv_iload_n hx hb d_Mo_chosen_22 rfl (lv_at hl 1 rfl) ?_
    obtain ⟨x11, e12, h⟩ := mx_b h
    refine mx_iald hx hb hK hM e12 rfl d_Mo_chosen_23 ?_
    refine lv_if_ne (tgt := 31) hx hb d_Mo_chosen_24 (by decide) (fun c13 => ?_) (fun c13 => ?_)
    · rw [if_neg c13] at h
      refine mx_aload_n hx hb d_Mo_chosen_31 rfl (lv_at hl 0 rfl) ?_
      obtain ⟨x14, e15, h⟩ := mx_b h
      refine mx_getr hx hb hts i_Mo hown hK hM e15 (ci := 4) (C := R_Mo) (T := T_Mo) (N := 23) rfl 15 (by decide) (hts _ wd_25) d_Mo_chosen_32 ?_
      refine lv_iload_n hx hb d_Mo_chosen_35 rfl (lv_at hl 1 rfl) ?_
      obtain ⟨x16, e17, h⟩ := mx_b h
      refine mx_iald hx hb hK hM e17 rfl d_Mo_chosen_36 ?_
      cases h
      exact W.iret hx hb hr (fun t ht hW => ⟨⟨rfl, by rw [ht]; exact hM⟩, hS.F ht⟩) hS.2.2 d_Mo_chosen_37
    · rw [if_pos c13] at h
      refine lv_iconst (v := (-1)) hx hb d_Mo_chosen_27 (by decide) ?_
      refine lv_goto (tgt := 37) hx hb d_Mo_chosen_28 (by decide) ?_
      cases h
      exact W.iret hx hb hr (fun t ht hW => ⟨⟨rfl, by rw [ht]; exact hM⟩, hS.F ht⟩) hS.2.2 d_Mo_chosen_37
  · rw [if_pos c8] at h
    refine lv_bipush (v := (-11)) hx hb d_Mo_chosen_13 (by decide) ?_
    refine lv_goto (tgt := 37) hx hb d_Mo_chosen_15 (by decide) ?_
    cases h
    exact W.iret hx hb hr (fun t ht hW => ⟨⟨rfl, by rw [ht]; exact hM⟩, hS.F ht⟩) hS.2.2 d_Mo_chosen_37
set_option maxHeartbeats 4000000 in
set_option maxRecDepth 100000 in
theorem c_LR_arrival (l : Launch) (G : mx_G) (a0 : Nat) (v1 : Int32) (mem : mx_Mem) (q : Int64 × mx_Mem) (h : f_LR_arrival a0 v1 mem = some q) : Met l y_LR_arrival (gq_w y_LR_arrival b_LR_arrival 3 (some .long)) { frames := 1, cells := 0, slots := 0, locals := 21 } (gq_P G [.ref a0, .int v1] mem) (gq_Q G (some (.long q.1)) q.2) 0 0 (mx_A G) := by
  refine Met.ofW (cc := b_LR_arrival) (maxL := 3) (ret := (some .long)) (by decide) rfl ?_
  intro p e s m args below meth c s₁ B hml hv
  obtain ⟨rfl, hb0, hM, hK, hN⟩ := hv
  have CX : gq_C p (headSpec (gq_w y_LR_arrival b_LR_arrival 3 (some .long)) { frames := 1, cells := 0, slots := 0, locals := 21 }).room s m _ meth c G b_LR_arrival 3 (some .long) R_LR 1 0 0 21 := ⟨B.exec, B.bytes, hml, B.returns, findClass_of_methodNamed B.named, fun w hw => atoms_spec (ws := gq_w y_LR_arrival b_LR_arrival 3 (some .long)) B.pre w (List.mem_cons_of_mem _ hw), B.notSynchronized, hK, hN, hb0, Nat.le_refl _, Nat.le_refl _, Nat.le_refl _, Nat.le_refl _⟩
  obtain ⟨hx, hb, hml, hr, hown, hts, hlocks, hK, hN, hb0, hRf, hRc, hRs, hRl⟩ := id CX
  have hS : va_S (mx_A G) s.heap s.heap [] := va_S.rf
  have hl := lv_entry [.ref a0, .int v1] (n := 3) (Nat.le_of_ble_eq_true rfl)
  rw [lg_entry_eq]
  generalize (lg_sl [.ref a0, .int v1] ++ List.replicate (3 - (lg_sl [.ref a0, .int v1]).length) Slot.unset).toArray = ls at hl ⊢
  have hl : lv_has ls 3 [(0, va_rf (some a0)), (1, .int v1)] := hl
  unfold f_LR_arrival at h
  refine mx_aload_n hx hb d_LR_arrival_0 rfl (lv_at hl 0 rfl) ?_
  refine lv_iload_n hx hb d_LR_arrival_1 rfl (lv_at hl 1 rfl) ?_
  obtain ⟨a4, e3, h⟩ := mx_b h
  obtain ⟨q1, e2, h⟩ := mx_b h
  have e5 := mx_c_eq e3
  refine W.eq (g2 := F0 m 2 ls [.int v1, .ref a4]) (congrArg (fun z => F0 m 2 ls [.int v1, va_rf z]) e5) ?_
  refine gq_go (va_runV (b := a4) (As := [.int v1]) (rest := []) ⟨hx, hb, hml, hown, hts⟩ (c_LR_findLoad l G a4 v1 _ _ e2) (cwV 1 hts (gq_gV wd_152 wd_153 wd_154 wd_38 wd_151) rfl rfl rfl (by decide +kernel) ⟨Nat.le_trans (Nat.le_of_ble_eq_true rfl) hRf, Nat.le_trans (Nat.le_of_ble_eq_true rfl) hRl⟩) (gq_preV hK hN hM hS hb0 e3 (C := R_LR) (T := T_LR) (N := 5) rfl) rfl rfl hl.1 rfl (lv_room (Nat.le_of_ble_eq_true rfl)) d_LR_arrival_2 ⟨(Nat.le_trans (Nat.le_of_ble_eq_true rfl) hRc), (Nat.le_trans (Nat.le_of_ble_eq_true rfl) hRs)⟩) hS (fun H locs hM hS => ?_)
  refine W.eq (g2 := F0 m 5 ls [va_rf q1.1]) rfl ?_
  refine mx_astore_n (lv' := [(2, va_rf q1.1), (0, va_rf (some a0)), (1, .int v1)]) hx hb d_LR_arrival_5 rfl hl (by decide) rfl (fun ls hl => ?_)
  refine mx_aload_n hx hb d_LR_arrival_6 rfl (lv_at hl 0 rfl) ?_
  refine mx_ifnonnull (tgt := 16) hx hb d_LR_arrival_7 (by decide) (fun c6 => ?_) (fun c6 => ?_)
  · rw [if_neg c6] at h
    refine mx_aload_n hx hb d_LR_arrival_16 rfl (lv_at hl 0 rfl) ?_
    obtain ⟨x7, e8, h⟩ := mx_b h
    refine mx_getlN hx hb hts i_Lo hown hK hM e8 (ci := 3) (C := R_Lo) (T := T_Lo) (N := 12) rfl 9 (by decide) (va_Nw.use rfl (hN _ nw_17)) d_LR_arrival_17 ?_
    cases h
    exact W.lret hx hb hr (fun t ht hW => ⟨⟨rfl, by rw [ht]; exact hM⟩, hS.F ht⟩) hS.2.2 d_LR_arrival_20
  · rw [if_pos c6] at h
    refine lv_ldc2 (v := (-11)) hx hb hown (hts _ wd_289) d_LR_arrival_10 ?_
    refine lv_goto (tgt := 20) hx hb d_LR_arrival_13 (by decide) ?_
    cases h
    exact W.lret hx hb hr (fun t ht hW => ⟨⟨rfl, by rw [ht]; exact hM⟩, hS.F ht⟩) hS.2.2 d_LR_arrival_20
set_option maxHeartbeats 4000000 in
set_option maxRecDepth 100000 in
theorem c_Mo_arrival (l : Launch) (G : mx_G) (a0 : Nat) (v1 : Int32) (mem : mx_Mem) (q : Int64 × mx_Mem) (h : f_Mo_arrival a0 v1 mem = some q) : Met l y_Mo_arrival (gq_w y_Mo_arrival b_Mo_arrival 2 (some .long)) { frames := 3, cells := 0, slots := 0, locals := 76 } (gq_P G [.ref a0, .int v1] mem) (gq_Q G (some (.long q.1)) q.2) 0 0 (mx_A G) := by
  refine Met.ofW (cc := b_Mo_arrival) (maxL := 2) (ret := (some .long)) (by decide) rfl ?_
  intro p e s m args below meth c s₁ B hml hv
  obtain ⟨rfl, hb0, hM, hK, hN⟩ := hv
  have CX : gq_C p (headSpec (gq_w y_Mo_arrival b_Mo_arrival 2 (some .long)) { frames := 3, cells := 0, slots := 0, locals := 76 }).room s m _ meth c G b_Mo_arrival 2 (some .long) R_Mo 3 0 0 76 := ⟨B.exec, B.bytes, hml, B.returns, findClass_of_methodNamed B.named, fun w hw => atoms_spec (ws := gq_w y_Mo_arrival b_Mo_arrival 2 (some .long)) B.pre w (List.mem_cons_of_mem _ hw), B.notSynchronized, hK, hN, hb0, Nat.le_refl _, Nat.le_refl _, Nat.le_refl _, Nat.le_refl _⟩
  obtain ⟨hx, hb, hml, hr, hown, hts, hlocks, hK, hN, hb0, hRf, hRc, hRs, hRl⟩ := id CX
  have hS : va_S (mx_A G) s.heap s.heap [] := va_S.rf
  have hl := lv_entry [.ref a0, .int v1] (n := 2) (Nat.le_of_ble_eq_true rfl)
  rw [lg_entry_eq]
  generalize (lg_sl [.ref a0, .int v1] ++ List.replicate (2 - (lg_sl [.ref a0, .int v1]).length) Slot.unset).toArray = ls at hl ⊢
  have hl : lv_has ls 2 [(0, va_rf (some a0)), (1, .int v1)] := hl
  unfold f_Mo_arrival at h
  refine mx_aload_n hx hb d_Mo_arrival_0 rfl (lv_at hl 0 rfl) ?_
  refine lv_iconst (v := 0) hx hb d_Mo_arrival_1 (by decide) ?_
  obtain ⟨m1, e2, h⟩ := mx_b h
  refine mx_put hx hb hts i_Mo t_Mo t_Mo_ok n_Mo hown hK hM hS e2 (ci := 4) (C := R_Mo) (T := T_Mo) (N := 23) rfl 0 (by decide) (hts _ wd_109) rfl (ty := .int) (by decide +kernel) rfl rfl d_Mo_arrival_2 (fun H locs hM hS => ?_)
  refine mx_aload_n hx hb d_Mo_arrival_5 rfl (lv_at hl 0 rfl) ?_
  refine lv_iload_n hx hb d_Mo_arrival_6 rfl (lv_at hl 1 rfl) ?_
  obtain ⟨a6, e5, h⟩ := mx_b h
  obtain ⟨q3, e4, h⟩ := mx_b h
  have e7 := mx_c_eq e5
  refine W.eq (g2 := F0 m 7 ls [.int v1, .ref a6]) (congrArg (fun z => F0 m 7 ls [.int v1, va_rf z]) e7) ?_
  refine gq_go (va_runV (b := a6) (As := [.int v1]) (rest := []) ⟨hx, hb, hml, hown, hts⟩ (c_Mo_isLoad l G a6 v1 _ _ e4) (cwV 1 hts (gq_gV wd_173 wd_174 wd_175 wd_114 wd_172) rfl rfl rfl (by decide +kernel) ⟨Nat.le_trans (Nat.le_of_ble_eq_true rfl) hRf, Nat.le_trans (Nat.le_of_ble_eq_true rfl) hRl⟩) (gq_preV hK hN hM hS hb0 e5 (C := R_Mo) (T := T_Mo) (N := 23) rfl) rfl rfl hl.1 rfl (lv_room (Nat.le_of_ble_eq_true rfl)) d_Mo_arrival_7 ⟨(Nat.le_trans (Nat.le_of_ble_eq_true rfl) hRc), (Nat.le_trans (Nat.le_of_ble_eq_true rfl) hRs)⟩) hS (fun H locs hM hS => ?_)
  refine W.eq (g2 := F0 m 10 ls [.int q3.1]) rfl ?_
  refine lv_if_ne (tgt := 17) hx hb d_Mo_arrival_10 (by decide) (fun c8 => ?_) (fun c8 => ?_)
  · rw [if_neg c8] at h
    refine mx_aload_n hx hb d_Mo_arrival_17 rfl (lv_at hl 0 rfl) ?_
    obtain ⟨a12, e11, h⟩ := mx_b h
    obtain ⟨q9, e10, h⟩ := mx_b h
    have e13 := mx_c_eq e11
    refine W.eq (g2 := F0 m 18 ls [.ref a12]) (congrArg (fun z => F0 m 18 ls [va_rf z]) e13) ?_
    refine gq_go (va_runV (b := a12) (As := []) (rest := []) ⟨hx, hb, hml, hown, hts⟩ (c_Mo_reckon l G a12  _ _ e10) (cwV 0 hts (gq_gV wd_211 wd_212 wd_213 wd_114 wd_210) rfl rfl rfl (by decide +kernel) ⟨Nat.le_trans (Nat.le_of_ble_eq_true rfl) hRf, Nat.le_trans (Nat.le_of_ble_eq_true rfl) hRl⟩) (gq_preV hK hN hM hS hb0 e11 (C := R_Mo) (T := T_Mo) (N := 23) rfl) rfl rfl hl.1 rfl (lv_room (Nat.le_of_ble_eq_true rfl)) d_Mo_arrival_18 ⟨(Nat.le_trans (Nat.le_of_ble_eq_true rfl) hRc), (Nat.le_trans (Nat.le_of_ble_eq_true rfl) hRs)⟩) hS (fun H locs hM hS => ?_)
    refine W.eq (g2 := F0 m 21 ls []) rfl ?_
    refine mx_aload_n hx hb d_Mo_arrival_21 rfl (lv_at hl 0 rfl) ?_
    obtain ⟨x14, e15, h⟩ := mx_b h
    refine mx_getr hx hb hts i_Mo hown hK hM e15 (ci := 4) (C := R_Mo) (T := T_Mo) (N := 23) rfl 19 (by decide) (hts _ wd_29) d_Mo_arrival_22 ?_
    refine lv_iload_n hx hb d_Mo_arrival_25 rfl (lv_at hl 1 rfl) ?_
    obtain ⟨x16, e17, h⟩ := mx_b h
    refine mx_lald hx hb hK hM e17 rfl d_Mo_arrival_26 ?_
    cases h
    exact W.lret hx hb hr (fun t ht hW => ⟨⟨rfl, by rw [ht]; exact hM⟩, hS.F ht⟩) hS.2.2 d_Mo_arrival_27
  · rw [if_pos c8] at h
    refine lv_ldc2 (v := (-11)) hx hb hown (hts _ wd_290) d_Mo_arrival_13 ?_
    cases h
    exact W.lret hx hb hr (fun t ht hW => ⟨⟨rfl, by rw [ht]; exact hM⟩, hS.F ht⟩) hS.2.2 d_Mo_arrival_16
set_option maxHeartbeats 4000000 in
set_option maxRecDepth 100000 in
theorem c_LR_departs (l : Launch) (G : mx_G) (a0 : Nat) (v1 : Int32) (mem : mx_Mem) (q : Int64 × mx_Mem) (h : f_LR_departs a0 v1 mem = some q) : Met l y_LR_departs (gq_w y_LR_departs b_LR_departs 3 (some .long)) { frames := 1, cells := 0, slots := 0, locals := 21 } (gq_P G [.ref a0, .int v1] mem) (gq_Q G (some (.long q.1)) q.2) 0 0 (mx_A G) := by
  refine Met.ofW (cc := b_LR_departs) (maxL := 3) (ret := (some .long)) (by decide) rfl ?_
  intro p e s m args below meth c s₁ B hml hv
  obtain ⟨rfl, hb0, hM, hK, hN⟩ := hv
  have CX : gq_C p (headSpec (gq_w y_LR_departs b_LR_departs 3 (some .long)) { frames := 1, cells := 0, slots := 0, locals := 21 }).room s m _ meth c G b_LR_departs 3 (some .long) R_LR 1 0 0 21 := ⟨B.exec, B.bytes, hml, B.returns, findClass_of_methodNamed B.named, fun w hw => atoms_spec (ws := gq_w y_LR_departs b_LR_departs 3 (some .long)) B.pre w (List.mem_cons_of_mem _ hw), B.notSynchronized, hK, hN, hb0, Nat.le_refl _, Nat.le_refl _, Nat.le_refl _, Nat.le_refl _⟩
  obtain ⟨hx, hb, hml, hr, hown, hts, hlocks, hK, hN, hb0, hRf, hRc, hRs, hRl⟩ := id CX
  have hS : va_S (mx_A G) s.heap s.heap [] := va_S.rf
  have hl := lv_entry [.ref a0, .int v1] (n := 3) (Nat.le_of_ble_eq_true rfl)
  rw [lg_entry_eq]
  generalize (lg_sl [.ref a0, .int v1] ++ List.replicate (3 - (lg_sl [.ref a0, .int v1]).length) Slot.unset).toArray = ls at hl ⊢
  have hl : lv_has ls 3 [(0, va_rf (some a0)), (1, .int v1)] := hl
  unfold f_LR_departs at h
  refine mx_aload_n hx hb d_LR_departs_0 rfl (lv_at hl 0 rfl) ?_
  refine lv_iload_n hx hb d_LR_departs_1 rfl (lv_at hl 1 rfl) ?_
  obtain ⟨a4, e3, h⟩ := mx_b h
  obtain ⟨q1, e2, h⟩ := mx_b h
  have e5 := mx_c_eq e3
  refine W.eq (g2 := F0 m 2 ls [.int v1, .ref a4]) (congrArg (fun z => F0 m 2 ls [.int v1, va_rf z]) e5) ?_
  refine gq_go (va_runV (b := a4) (As := [.int v1]) (rest := []) ⟨hx, hb, hml, hown, hts⟩ (c_LR_findLine l G a4 v1 _ _ e2) (cwV 1 hts (gq_gV wd_123 wd_124 wd_125 wd_38 wd_122) rfl rfl rfl (by decide +kernel) ⟨Nat.le_trans (Nat.le_of_ble_eq_true rfl) hRf, Nat.le_trans (Nat.le_of_ble_eq_true rfl) hRl⟩) (gq_preV hK hN hM hS hb0 e3 (C := R_LR) (T := T_LR) (N := 5) rfl) rfl rfl hl.1 rfl (lv_room (Nat.le_of_ble_eq_true rfl)) d_LR_departs_2 ⟨(Nat.le_trans (Nat.le_of_ble_eq_true rfl) hRc), (Nat.le_trans (Nat.le_of_ble_eq_true rfl) hRs)⟩) hS (fun H locs hM hS => ?_)
  refine W.eq (g2 := F0 m 5 ls [va_rf q1.1]) rfl ?_
  refine mx_astore_n (lv' := [(2, va_rf q1.1), (0, va_rf (some a0)), (1, .int v1)]) hx hb d_LR_departs_5 rfl hl (by decide) rfl (fun ls hl => ?_)
  refine mx_aload_n hx hb d_LR_departs_6 rfl (lv_at hl 0 rfl) ?_
  refine mx_ifnonnull (tgt := 16) hx hb d_LR_departs_7 (by decide) (fun c6 => ?_) (fun c6 => ?_)
  · rw [if_neg c6] at h
    refine mx_aload_n hx hb d_LR_departs_16 rfl (lv_at hl 0 rfl) ?_
    obtain ⟨x7, e8, h⟩ := mx_b h
    refine mx_getlN hx hb hts i_Li hown hK hM e8 (ci := 1) (C := R_Li) (T := T_Li) (N := 8) rfl 7 (by decide) (va_Nw.use rfl (hN _ nw_18)) d_LR_departs_17 ?_
    cases h
    exact W.lret hx hb hr (fun t ht hW => ⟨⟨rfl, by rw [ht]; exact hM⟩, hS.F ht⟩) hS.2.2 d_LR_departs_20
  · rw [if_pos c6] at h
    refine lv_ldc2 (v := (-11)) hx hb hown (hts _ wd_289) d_LR_departs_10 ?_
    refine lv_goto (tgt := 20) hx hb d_LR_departs_13 (by decide) ?_
    cases h
    exact W.lret hx hb hr (fun t ht hW => ⟨⟨rfl, by rw [ht]; exact hM⟩, hS.F ht⟩) hS.2.2 d_LR_departs_20
set_option maxHeartbeats 4000000 in
set_option maxRecDepth 100000 in
theorem c_Mo_departs (l : Launch) (G : mx_G) (a0 : Nat) (v1 : Int32) (mem : mx_Mem) (q : Int64 × mx_Mem) (h : f_Mo_departs a0 v1 mem = some q) : Met l y_Mo_departs (gq_w y_Mo_departs b_Mo_departs 2 (some .long)) { frames := 3, cells := 0, slots := 0, locals := 76 } (gq_P G [.ref a0, .int v1] mem) (gq_Q G (some (.long q.1)) q.2) 0 0 (mx_A G) := by
  refine Met.ofW (cc := b_Mo_departs) (maxL := 2) (ret := (some .long)) (by decide) rfl ?_
  intro p e s m args below meth c s₁ B hml hv
  obtain ⟨rfl, hb0, hM, hK, hN⟩ := hv
  have CX : gq_C p (headSpec (gq_w y_Mo_departs b_Mo_departs 2 (some .long)) { frames := 3, cells := 0, slots := 0, locals := 76 }).room s m _ meth c G b_Mo_departs 2 (some .long) R_Mo 3 0 0 76 := ⟨B.exec, B.bytes, hml, B.returns, findClass_of_methodNamed B.named, fun w hw => atoms_spec (ws := gq_w y_Mo_departs b_Mo_departs 2 (some .long)) B.pre w (List.mem_cons_of_mem _ hw), B.notSynchronized, hK, hN, hb0, Nat.le_refl _, Nat.le_refl _, Nat.le_refl _, Nat.le_refl _⟩
  obtain ⟨hx, hb, hml, hr, hown, hts, hlocks, hK, hN, hb0, hRf, hRc, hRs, hRl⟩ := id CX
  have hS : va_S (mx_A G) s.heap s.heap [] := va_S.rf
  have hl := lv_entry [.ref a0, .int v1] (n := 2) (Nat.le_of_ble_eq_true rfl)
  rw [lg_entry_eq]
  generalize (lg_sl [.ref a0, .int v1] ++ List.replicate (2 - (lg_sl [.ref a0, .int v1]).length) Slot.unset).toArray = ls at hl ⊢
  have hl : lv_has ls 2 [(0, va_rf (some a0)), (1, .int v1)] := hl
  unfold f_Mo_departs at h
  refine mx_aload_n hx hb d_Mo_departs_0 rfl (lv_at hl 0 rfl) ?_
  refine lv_iconst (v := 0) hx hb d_Mo_departs_1 (by decide) ?_
  obtain ⟨m1, e2, h⟩ := mx_b h
  refine mx_put hx hb hts i_Mo t_Mo t_Mo_ok n_Mo hown hK hM hS e2 (ci := 4) (C := R_Mo) (T := T_Mo) (N := 23) rfl 0 (by decide) (hts _ wd_109) rfl (ty := .int) (by decide +kernel) rfl rfl d_Mo_departs_2 (fun H locs hM hS => ?_)
  refine mx_aload_n hx hb d_Mo_departs_5 rfl (lv_at hl 0 rfl) ?_
  refine lv_iload_n hx hb d_Mo_departs_6 rfl (lv_at hl 1 rfl) ?_
  obtain ⟨a6, e5, h⟩ := mx_b h
  obtain ⟨q3, e4, h⟩ := mx_b h
  have e7 := mx_c_eq e5
  refine W.eq (g2 := F0 m 7 ls [.int v1, .ref a6]) (congrArg (fun z => F0 m 7 ls [.int v1, va_rf z]) e7) ?_
  refine gq_go (va_runV (b := a6) (As := [.int v1]) (rest := []) ⟨hx, hb, hml, hown, hts⟩ (c_Mo_isLine l G a6 v1 _ _ e4) (cwV 1 hts (gq_gV wd_137 wd_138 wd_139 wd_114 wd_136) rfl rfl rfl (by decide +kernel) ⟨Nat.le_trans (Nat.le_of_ble_eq_true rfl) hRf, Nat.le_trans (Nat.le_of_ble_eq_true rfl) hRl⟩) (gq_preV hK hN hM hS hb0 e5 (C := R_Mo) (T := T_Mo) (N := 23) rfl) rfl rfl hl.1 rfl (lv_room (Nat.le_of_ble_eq_true rfl)) d_Mo_departs_7 ⟨(Nat.le_trans (Nat.le_of_ble_eq_true rfl) hRc), (Nat.le_trans (Nat.le_of_ble_eq_true rfl) hRs)⟩) hS (fun H locs hM hS => ?_)
  refine W.eq (g2 := F0 m 10 ls [.int q3.1]) rfl ?_
  refine lv_if_ne (tgt := 17) hx hb d_Mo_departs_10 (by decide) (fun c8 => ?_) (fun c8 => ?_)
  · rw [if_neg c8] at h
    refine mx_aload_n hx hb d_Mo_departs_17 rfl (lv_at hl 0 rfl) ?_
    obtain ⟨a12, e11, h⟩ := mx_b h
    obtain ⟨q9, e10, h⟩ := mx_b h
    have e13 := mx_c_eq e11
    refine W.eq (g2 := F0 m 18 ls [.ref a12]) (congrArg (fun z => F0 m 18 ls [va_rf z]) e13) ?_
    refine gq_go (va_runV (b := a12) (As := []) (rest := []) ⟨hx, hb, hml, hown, hts⟩ (c_Mo_reckon l G a12  _ _ e10) (cwV 0 hts (gq_gV wd_211 wd_212 wd_213 wd_114 wd_210) rfl rfl rfl (by decide +kernel) ⟨Nat.le_trans (Nat.le_of_ble_eq_true rfl) hRf, Nat.le_trans (Nat.le_of_ble_eq_true rfl) hRl⟩) (gq_preV hK hN hM hS hb0 e11 (C := R_Mo) (T := T_Mo) (N := 23) rfl) rfl rfl hl.1 rfl (lv_room (Nat.le_of_ble_eq_true rfl)) d_Mo_departs_18 ⟨(Nat.le_trans (Nat.le_of_ble_eq_true rfl) hRc), (Nat.le_trans (Nat.le_of_ble_eq_true rfl) hRs)⟩) hS (fun H locs hM hS => ?_)
    refine W.eq (g2 := F0 m 21 ls []) rfl ?_
    refine mx_aload_n hx hb d_Mo_departs_21 rfl (lv_at hl 0 rfl) ?_
    obtain ⟨x14, e15, h⟩ := mx_b h
    refine mx_getr hx hb hts i_Mo hown hK hM e15 (ci := 4) (C := R_Mo) (T := T_Mo) (N := 23) rfl 8 (by decide) (hts _ wd_19) d_Mo_departs_22 ?_
    refine lv_iload_n hx hb d_Mo_departs_25 rfl (lv_at hl 1 rfl) ?_
    obtain ⟨x16, e17, h⟩ := mx_b h
    refine mx_lald hx hb hK hM e17 rfl d_Mo_departs_26 ?_
    cases h
    exact W.lret hx hb hr (fun t ht hW => ⟨⟨rfl, by rw [ht]; exact hM⟩, hS.F ht⟩) hS.2.2 d_Mo_departs_27
  · rw [if_pos c8] at h
    refine lv_ldc2 (v := (-11)) hx hb hown (hts _ wd_290) d_Mo_departs_13 ?_
    cases h
    exact W.lret hx hb hr (fun t ht hW => ⟨⟨rfl, by rw [ht]; exact hM⟩, hS.F ht⟩) hS.2.2 d_Mo_departs_16
set_option maxHeartbeats 4000000 in
set_option maxRecDepth 100000 in
theorem wfl_LR_none_4 {p : Program} {l : Launch} {e : Env} {R : Room} {s : State} {m : MethodId} {args : Array Value} {below : List Frame} {meth : Method} {c : Code} {G : mx_G} (q : Int32 × mx_Mem) (CX : gq_C p R s m args meth c G b_LR_none 4 (some .int) R_LR 0 0 0 0)  : ∀ (n : Nat) (v0 : Option Nat) (v1 : Int32) (v2 : Int32) (v3 : Int32) (mem : mx_Mem), fl_LR_none_4  n v0 v1 v2 v3 mem = some q → ∀ (H : Heap) (locs : List Loc) (ls : Array Slot), lv_has ls 4 [(0, va_rf v0), (1, .int v1), (2, .int v2), (3, .int v3)] → mx_M vwCl G mem H → va_S (mx_A G) s.heap H locs → W p l e R s m args below meth c H locs 0 0 (MQ below (gq_Q G (some (.int q.1)) q.2) args s 0 0 (mx_A G)) (F0 m 4 ls []) := by
  obtain ⟨hx, hb, hml, hr, hown, hts, hlocks, hK, hN, hb0, hRf, hRc, hRs, hRl⟩ := id CX
  intro n
  induction n with
  | zero => intro v0 v1 v2 v3 mem h; rw [fl_LR_none_4] at h; cases h
  | succ n ih =>
    intro v0 v1 v2 v3 mem h H locs ls hl hM hS
    rw [fl_LR_none_4] at h
    refine lv_iload_n hx hb d_LR_none_4 rfl (lv_at hl 3 rfl) ?_
    refine mx_aload_n hx hb d_LR_none_5 rfl (lv_at hl 0 rfl) ?_
    obtain ⟨x1, e2, h⟩ := mx_b h
    refine mx_geti hx hb hts i_LR hown hK hM e2 (ci := 0) (C := R_LR) (T := T_LR) (N := 5) rfl 4 (by decide) (hts _ wd_9) d_LR_none_6 ?_
    refine lv_icmp_ge (tgt := 42) hx hb d_LR_none_9 (by decide) (fun c3 => ?_) (fun c3 => ?_)
    · rw [if_pos c3] at h
      refine lv_iconst (v := (-1)) hx hb d_LR_none_42 (by decide) ?_
      cases h
      exact W.iret hx hb hr (fun t ht hW => ⟨⟨rfl, by rw [ht]; exact hM⟩, hS.F ht⟩) hS.2.2 d_LR_none_43
    · rw [if_neg c3] at h
      refine mx_aload_n hx hb d_LR_none_12 rfl (lv_at hl 0 rfl) ?_
      obtain ⟨x4, e5, h⟩ := mx_b h
      refine mx_getr hx hb hts i_LR hown hK hM e5 (ci := 0) (C := R_LR) (T := T_LR) (N := 5) rfl 2 (by decide) (hts _ wd_6) d_LR_none_13 ?_
      refine lv_iload_n hx hb d_LR_none_16 rfl (lv_at hl 3 rfl) ?_
      obtain ⟨x6, e7, h⟩ := mx_b h
      refine mx_aald hx hb hK hM e7 rfl d_LR_none_17 ?_
      obtain ⟨x8, e9, h⟩ := mx_b h
      refine mx_getiN hx hb hts i_Lo hown hK hM e9 (ci := 3) (C := R_Lo) (T := T_Lo) (N := 12) rfl 11 (by decide) (va_Nw.use rfl (hN _ nw_12)) d_LR_none_18 ?_
      refine lv_if_eq (tgt := 36) hx hb d_LR_none_21 (by decide) (fun c10 => ?_) (fun c10 => ?_)
      · rw [if_pos c10] at h
        refine lv_iinc (v := (v3 + 1)) (lv' := [(3, .int ((v3 + 1))), (0, va_rf v0), (1, .int v1), (2, .int v2)]) hx hb d_LR_none_36 hl (k := 3) rfl rfl (by decide) rfl (fun ls hl => ?_)
        refine lv_goto (tgt := 4) hx hb d_LR_none_39 (by decide) ?_
        exact ih _ _ _ _ _ h _ _ _ (lv_sub hl [1, 2, 3, 0] rfl) hM hS
      · rw [if_neg c10] at h
        refine lv_iload_n hx hb d_LR_none_24 rfl (lv_at hl 2 rfl) ?_
        refine lv_iload_n hx hb d_LR_none_25 rfl (lv_at hl 1 rfl) ?_
        refine lv_icmp_ne (tgt := 33) hx hb d_LR_none_26 (by decide) (fun c11 => ?_) (fun c11 => ?_)
        · rw [if_neg c11] at h
          refine lv_iinc (v := (v2 + 1)) (lv' := [(2, .int ((v2 + 1))), (0, va_rf v0), (1, .int v1), (3, .int v3)]) hx hb d_LR_none_33 hl (k := 2) rfl rfl (by decide) rfl (fun ls hl => ?_)
          refine lv_iinc (v := (v3 + 1)) (lv' := [(3, .int ((v3 + 1))), (2, .int ((v2 + 1))), (0, va_rf v0), (1, .int v1)]) hx hb d_LR_none_36 hl (k := 3) rfl rfl (by decide) rfl (fun ls hl => ?_)
          refine lv_goto (tgt := 4) hx hb d_LR_none_39 (by decide) ?_
          exact ih _ _ _ _ _ h _ _ _ (lv_sub hl [2, 3, 1, 0] rfl) hM hS
        · rw [if_pos c11] at h
          refine lv_iload_n hx hb d_LR_none_29 rfl (lv_at hl 3 rfl) ?_
          refine lv_iconst (v := 1) hx hb d_LR_none_30 (by decide) ?_
          refine lv_iadd hx hb d_LR_none_31 ?_
          cases h
          exact W.iret hx hb hr (fun t ht hW => ⟨⟨rfl, by rw [ht]; exact hM⟩, hS.F ht⟩) hS.2.2 d_LR_none_32
set_option maxHeartbeats 4000000 in
set_option maxRecDepth 100000 in
theorem c_LR_none (l : Launch) (G : mx_G) (a0 : Nat) (v1 : Int32) (mem : mx_Mem) (q : Int32 × mx_Mem) (h : f_LR_none a0 v1 mem = some q) : Met l y_LR_none (gq_w y_LR_none b_LR_none 4 (some .int)) { frames := 0, cells := 0, slots := 0, locals := 0 } (gq_P G [.ref a0, .int v1] mem) (gq_Q G (some (.int q.1)) q.2) 0 0 (mx_A G) := by
  refine Met.ofW (cc := b_LR_none) (maxL := 4) (ret := (some .int)) (by decide) rfl ?_
  intro p e s m args below meth c s₁ B hml hv
  obtain ⟨rfl, hb0, hM, hK, hN⟩ := hv
  have CX : gq_C p (headSpec (gq_w y_LR_none b_LR_none 4 (some .int)) { frames := 0, cells := 0, slots := 0, locals := 0 }).room s m _ meth c G b_LR_none 4 (some .int) R_LR 0 0 0 0 := ⟨B.exec, B.bytes, hml, B.returns, findClass_of_methodNamed B.named, fun w hw => atoms_spec (ws := gq_w y_LR_none b_LR_none 4 (some .int)) B.pre w (List.mem_cons_of_mem _ hw), B.notSynchronized, hK, hN, hb0, Nat.le_refl _, Nat.le_refl _, Nat.le_refl _, Nat.le_refl _⟩
  obtain ⟨hx, hb, hml, hr, hown, hts, hlocks, hK, hN, hb0, hRf, hRc, hRs, hRl⟩ := id CX
  have hS : va_S (mx_A G) s.heap s.heap [] := va_S.rf
  have hl := lv_entry [.ref a0, .int v1] (n := 4) (Nat.le_of_ble_eq_true rfl)
  rw [lg_entry_eq]
  generalize (lg_sl [.ref a0, .int v1] ++ List.replicate (4 - (lg_sl [.ref a0, .int v1]).length) Slot.unset).toArray = ls at hl ⊢
  have hl : lv_has ls 4 [(0, va_rf (some a0)), (1, .int v1)] := hl
  unfold f_LR_none at h
  refine lv_iconst (v := 0) hx hb d_LR_none_0 (by decide) ?_
  refine lv_istore_n (lv' := [(2, .int 0), (0, va_rf (some a0)), (1, .int v1)]) hx hb d_LR_none_1 rfl hl (by decide) rfl (fun ls hl => ?_)
  refine lv_iconst (v := 0) hx hb d_LR_none_2 (by decide) ?_
  refine lv_istore_n (lv' := [(3, .int 0), (2, .int 0), (0, va_rf (some a0)), (1, .int v1)]) hx hb d_LR_none_3 rfl hl (by decide) rfl (fun ls hl => ?_)
  refine wfl_LR_none_4 q CX  5000 _ _ _ _ _ h _ _ _ (lv_sub hl [2, 3, 1, 0] rfl) hM hS
