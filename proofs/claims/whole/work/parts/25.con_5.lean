set_option maxHeartbeats 4000000 in
set_option maxRecDepth 100000 in
theorem wfl_Mo_reckon_24 {p : Program} {l : Launch} {e : Env} {R : Room} {s : State} {m : MethodId} {args : Array Value} {below : List Frame} {meth : Method} {c : Code} {G : mx_G} (q : mx_Mem) (CX : gq_C p R s m args meth c G b_Mo_reckon 8 none R_Mo 2 0 0 49) {k0 : Option Nat → Int32 → Int32 → mx_Mem → Option (mx_Mem)} (hk0 : ∀ (v0 : Option Nat) (v4 : Int32) (v5 : Int32) (mem : mx_Mem), k0 v0 v4 v5 mem = some q → ∀ (H : Heap) (locs : List Loc) (ls : Array Slot), lv_has ls 8 [(0, va_rf v0), (4, .int v4), (5, .int v5)] → mx_M vwCl G mem H → va_S (mx_A G) s.heap H locs → W p l e R s m args below meth c H locs 0 0 (MQ below (gq_Q G none q) args s 0 0 (mx_A G)) (F0 m 113 ls [])) : ∀ (n : Nat) (v0 : Option Nat) (v1 : Int64) (v3 : Int32) (v4 : Int32) (v5 : Int32) (v6 : Int32) (mem : mx_Mem), fl_Mo_reckon_24 k0 n v0 v1 v3 v4 v5 v6 mem = some q → ∀ (H : Heap) (locs : List Loc) (ls : Array Slot), lv_has ls 8 [(0, va_rf v0), (1, .long v1), (3, .int v3), (4, .int v4), (5, .int v5), (6, .int v6)] → mx_M vwCl G mem H → va_S (mx_A G) s.heap H locs → W p l e R s m args below meth c H locs 0 0 (MQ below (gq_Q G none q) args s 0 0 (mx_A G)) (F0 m 24 ls []) := by
  obtain ⟨hx, hb, hml, hr, hown, hts, hlocks, hK, hN, hb0, hRf, hRc, hRs, hRl⟩ := id CX
  intro n
  induction n with
  | zero => intro v0 v1 v3 v4 v5 v6 mem h; rw [fl_Mo_reckon_24] at h; cases h
  | succ n ih =>
    intro v0 v1 v3 v4 v5 v6 mem h H locs ls hl hM hS
    rw [fl_Mo_reckon_24] at h
    refine lv_iload hx hb d_Mo_reckon_24 (lv_at hl 5 rfl) ?_
    refine mx_aload_n hx hb d_Mo_reckon_26 rfl (lv_at hl 0 rfl) ?_
    obtain ⟨x1, e2, h⟩ := mx_b h
    refine mx_geti hx hb hts i_Mo hown hK hM e2 (ci := 4) (C := R_Mo) (T := T_Mo) (N := 23) rfl 1 (by decide) (hts _ wd_116) d_Mo_reckon_27 ?_
    refine lv_icmp_gt (tgt := 113) hx hb d_Mo_reckon_30 (by decide) (fun c3 => ?_) (fun c3 => ?_)
    · rw [if_pos c3] at h
      exact hk0 _ _ _ _ h _ _ _ (lv_sub hl [0, 3, 4] rfl) hM hS
    · rw [if_neg c3] at h
      refine mx_aload_n hx hb d_Mo_reckon_33 rfl (lv_at hl 0 rfl) ?_
      obtain ⟨x4, e5, h⟩ := mx_b h
      refine mx_getr hx hb hts i_Mo hown hK hM e5 (ci := 4) (C := R_Mo) (T := T_Mo) (N := 23) rfl 4 (by decide) (hts _ wd_15) d_Mo_reckon_34 ?_
      refine lv_iload hx hb d_Mo_reckon_37 (lv_at hl 5 rfl) ?_
      obtain ⟨x6, e7, h⟩ := mx_b h
      refine mx_lald hx hb hK hM e7 rfl d_Mo_reckon_39 ?_
      refine lv_lload_n hx hb d_Mo_reckon_40 rfl (lv_at hl 1 rfl) ?_
      refine mx_lcmp_gt (tgt := 63) hx hb d_Mo_reckon_41 d_Mo_reckon_42 (by decide) (fun c8 => ?_) (fun c8 => ?_)
      · rw [if_pos c8] at h
        refine lv_iconst (v := 1) hx hb d_Mo_reckon_63 (by decide) ?_
        refine lv_goto (tgt := 68) hx hb d_Mo_reckon_64 (by decide) ?_
        refine lv_istore (lv' := [(7, .int 1), (0, va_rf v0), (1, .long v1), (3, .int v3), (4, .int v4), (5, .int v5), (6, .int v6)]) hx hb d_Mo_reckon_68 hl (by decide) rfl (fun ls hl => ?_)
        refine lv_iload hx hb d_Mo_reckon_70 (lv_at hl 0 rfl) ?_
        refine lv_if_eq (tgt := 103) hx hb d_Mo_reckon_72 (by decide) (fun c9 => ?_) (fun c9 => ?_)
        · exact absurd c9 (by decide)
        · refine lv_iload hx hb d_Mo_reckon_75 (lv_at hl 5 rfl) ?_
          refine lv_if_eq (tgt := 98) hx hb d_Mo_reckon_77 (by decide) (fun c10 => ?_) (fun c10 => ?_)
          · rw [if_pos c10] at h
            refine lv_iload hx hb d_Mo_reckon_98 (lv_at hl 6 rfl) ?_
            refine lv_goto (tgt := 105) hx hb d_Mo_reckon_100 (by decide) ?_
            refine lv_istore (lv' := [(5, .int v6), (7, .int 1), (0, va_rf v0), (1, .long v1), (3, .int v3), (4, .int v4), (6, .int v6)]) hx hb d_Mo_reckon_105 hl (by decide) rfl (fun ls hl => ?_)
            refine lv_iinc (v := (v6 + 1)) (lv' := [(6, .int ((v6 + 1))), (5, .int v6), (7, .int 1), (0, va_rf v0), (1, .long v1), (3, .int v3), (4, .int v4)]) hx hb d_Mo_reckon_107 hl (k := 6) rfl rfl (by decide) rfl (fun ls hl => ?_)
            refine lv_goto (tgt := 24) hx hb d_Mo_reckon_110 (by decide) ?_
            exact ih _ _ _ _ _ _ _ h _ _ _ (lv_sub hl [3, 4, 5, 6, 1, 0] rfl) hM hS
          · rw [if_neg c10] at h
            refine mx_aload_n hx hb d_Mo_reckon_80 rfl (lv_at hl 1 rfl) ?_
            obtain ⟨x11, e12, h⟩ := mx_b h
            refine mx_getr hx hb hts i_Mo hown hK hM e12 (ci := 4) (C := R_Mo) (T := T_Mo) (N := 23) rfl 4 (by decide) (hts _ wd_15) d_Mo_reckon_81 ?_
            refine lv_iload hx hb d_Mo_reckon_84 (lv_at hl 6 rfl) ?_
            obtain ⟨x13, e14, h⟩ := mx_b h
            refine mx_lald hx hb hK hM e14 rfl d_Mo_reckon_86 ?_
            refine mx_aload_n hx hb d_Mo_reckon_87 rfl (lv_at hl 1 rfl) ?_
            obtain ⟨x15, e16, h⟩ := mx_b h
            refine mx_getr hx hb hts i_Mo hown hK hM e16 (ci := 4) (C := R_Mo) (T := T_Mo) (N := 23) rfl 4 (by decide) (hts _ wd_15) d_Mo_reckon_88 ?_
            refine lv_iload hx hb d_Mo_reckon_91 (lv_at hl 5 rfl) ?_
            obtain ⟨x17, e18, h⟩ := mx_b h
            refine mx_lald hx hb hK hM e18 rfl d_Mo_reckon_93 ?_
            refine mx_lcmp_ge (tgt := 103) hx hb d_Mo_reckon_94 d_Mo_reckon_95 (by decide) (fun c19 => ?_) (fun c19 => ?_)
            · rw [if_pos c19] at h
              refine lv_iload hx hb d_Mo_reckon_103 (lv_at hl 5 rfl) ?_
              refine lv_istore (lv' := [(5, .int v5), (7, .int 1), (0, va_rf v0), (1, .long v1), (3, .int v3), (4, .int v4), (6, .int v6)]) hx hb d_Mo_reckon_105 hl (by decide) rfl (fun ls hl => ?_)
              refine lv_iinc (v := (v6 + 1)) (lv' := [(6, .int ((v6 + 1))), (5, .int v5), (7, .int 1), (0, va_rf v0), (1, .long v1), (3, .int v3), (4, .int v4)]) hx hb d_Mo_reckon_107 hl (k := 6) rfl rfl (by decide) rfl (fun ls hl => ?_)
              refine lv_goto (tgt := 24) hx hb d_Mo_reckon_110 (by decide) ?_
              exact ih _ _ _ _ _ _ _ h _ _ _ (lv_sub hl [3, 4, 5, 6, 1, 0] rfl) hM hS
            · rw [if_neg c19] at h
              refine lv_iload hx hb d_Mo_reckon_98 (lv_at hl 6 rfl) ?_
              refine lv_goto (tgt := 105) hx hb d_Mo_reckon_100 (by decide) ?_
              refine lv_istore (lv' := [(5, .int v6), (7, .int 1), (0, va_rf v0), (1, .long v1), (3, .int v3), (4, .int v4), (6, .int v6)]) hx hb d_Mo_reckon_105 hl (by decide) rfl (fun ls hl => ?_)
              refine lv_iinc (v := (v6 + 1)) (lv' := [(6, .int ((v6 + 1))), (5, .int v6), (7, .int 1), (0, va_rf v0), (1, .long v1), (3, .int v3), (4, .int v4)]) hx hb d_Mo_reckon_107 hl (k := 6) rfl rfl (by decide) rfl (fun ls hl => ?_)
              refine lv_goto (tgt := 24) hx hb d_Mo_reckon_110 (by decide) ?_
              exact ih _ _ _ _ _ _ _ h _ _ _ (lv_sub hl [3, 4, 5, 6, 1, 0] rfl) hM hS
      · rw [if_neg c8] at h
        refine mx_aload_n hx hb d_Mo_reckon_45 rfl (lv_at hl 0 rfl) ?_
        obtain ⟨x9, e10, h⟩ := mx_b h
        refine mx_getr hx hb hts i_Mo hown hK hM e10 (ci := 4) (C := R_Mo) (T := T_Mo) (N := 23) rfl 4 (by decide) (hts _ wd_15) d_Mo_reckon_46 ?_
        refine lv_iload hx hb d_Mo_reckon_49 (lv_at hl 5 rfl) ?_
        obtain ⟨x11, e12, h⟩ := mx_b h
        refine mx_lald hx hb hK hM e12 rfl d_Mo_reckon_51 ?_
        refine lv_lload_n hx hb d_Mo_reckon_52 rfl (lv_at hl 1 rfl) ?_
        refine mx_lcmp_ne (tgt := 67) hx hb d_Mo_reckon_53 d_Mo_reckon_54 (by decide) (fun c13 => ?_) (fun c13 => ?_)
        · rw [if_neg c13] at h
          refine lv_iconst (v := 0) hx hb d_Mo_reckon_67 (by decide) ?_
          refine lv_istore (lv' := [(7, .int 0), (0, va_rf v0), (1, .long v1), (3, .int v3), (4, .int v4), (5, .int v5), (6, .int v6)]) hx hb d_Mo_reckon_68 hl (by decide) rfl (fun ls hl => ?_)
          refine lv_iload hx hb d_Mo_reckon_70 (lv_at hl 0 rfl) ?_
          refine lv_if_eq (tgt := 103) hx hb d_Mo_reckon_72 (by decide) (fun c14 => ?_) (fun c14 => ?_)
          · refine lv_iload hx hb d_Mo_reckon_103 (lv_at hl 5 rfl) ?_
            refine lv_istore (lv' := [(5, .int v5), (7, .int 0), (0, va_rf v0), (1, .long v1), (3, .int v3), (4, .int v4), (6, .int v6)]) hx hb d_Mo_reckon_105 hl (by decide) rfl (fun ls hl => ?_)
            refine lv_iinc (v := (v6 + 1)) (lv' := [(6, .int ((v6 + 1))), (5, .int v5), (7, .int 0), (0, va_rf v0), (1, .long v1), (3, .int v3), (4, .int v4)]) hx hb d_Mo_reckon_107 hl (k := 6) rfl rfl (by decide) rfl (fun ls hl => ?_)
            refine lv_goto (tgt := 24) hx hb d_Mo_reckon_110 (by decide) ?_
            exact ih _ _ _ _ _ _ _ h _ _ _ (lv_sub hl [3, 4, 5, 6, 1, 0] rfl) hM hS
          · exact absurd c14 (by decide)
        · rw [if_pos c13] at h
          refine lv_iload hx hb d_Mo_reckon_57 (lv_at hl 5 rfl) ?_
          refine lv_iload_n hx hb d_Mo_reckon_59 rfl (lv_at hl 2 rfl) ?_
          refine lv_icmp_le (tgt := 67) hx hb d_Mo_reckon_60 (by decide) (fun c14 => ?_) (fun c14 => ?_)
          · rw [if_pos c14] at h
            refine lv_iconst (v := 0) hx hb d_Mo_reckon_67 (by decide) ?_
            refine lv_istore (lv' := [(7, .int 0), (0, va_rf v0), (1, .long v1), (3, .int v3), (4, .int v4), (5, .int v5), (6, .int v6)]) hx hb d_Mo_reckon_68 hl (by decide) rfl (fun ls hl => ?_)
            refine lv_iload hx hb d_Mo_reckon_70 (lv_at hl 0 rfl) ?_
            refine lv_if_eq (tgt := 103) hx hb d_Mo_reckon_72 (by decide) (fun c15 => ?_) (fun c15 => ?_)
            · refine lv_iload hx hb d_Mo_reckon_103 (lv_at hl 5 rfl) ?_
              refine lv_istore (lv' := [(5, .int v5), (7, .int 0), (0, va_rf v0), (1, .long v1), (3, .int v3), (4, .int v4), (6, .int v6)]) hx hb d_Mo_reckon_105 hl (by decide) rfl (fun ls hl => ?_)
              refine lv_iinc (v := (v6 + 1)) (lv' := [(6, .int ((v6 + 1))), (5, .int v5), (7, .int 0), (0, va_rf v0), (1, .long v1), (3, .int v3), (4, .int v4)]) hx hb d_Mo_reckon_107 hl (k := 6) rfl rfl (by decide) rfl (fun ls hl => ?_)
              refine lv_goto (tgt := 24) hx hb d_Mo_reckon_110 (by decide) ?_
              exact ih _ _ _ _ _ _ _ h _ _ _ (lv_sub hl [3, 4, 5, 6, 1, 0] rfl) hM hS
            · exact absurd c15 (by decide)
          · rw [if_neg c14] at h
            refine lv_iconst (v := 1) hx hb d_Mo_reckon_63 (by decide) ?_
            refine lv_goto (tgt := 68) hx hb d_Mo_reckon_64 (by decide) ?_
            refine lv_istore (lv' := [(7, .int 1), (0, va_rf v0), (1, .long v1), (3, .int v3), (4, .int v4), (5, .int v5), (6, .int v6)]) hx hb d_Mo_reckon_68 hl (by decide) rfl (fun ls hl => ?_)
            refine lv_iload hx hb d_Mo_reckon_70 (lv_at hl 0 rfl) ?_
            refine lv_if_eq (tgt := 103) hx hb d_Mo_reckon_72 (by decide) (fun c15 => ?_) (fun c15 => ?_)
            · exact absurd c15 (by decide)
            · refine lv_iload hx hb d_Mo_reckon_75 (lv_at hl 5 rfl) ?_
              refine lv_if_eq (tgt := 98) hx hb d_Mo_reckon_77 (by decide) (fun c16 => ?_) (fun c16 => ?_)
              · rw [if_pos c16] at h
                refine lv_iload hx hb d_Mo_reckon_98 (lv_at hl 6 rfl) ?_
                refine lv_goto (tgt := 105) hx hb d_Mo_reckon_100 (by decide) ?_
                refine lv_istore (lv' := [(5, .int v6), (7, .int 1), (0, va_rf v0), (1, .long v1), (3, .int v3), (4, .int v4), (6, .int v6)]) hx hb d_Mo_reckon_105 hl (by decide) rfl (fun ls hl => ?_)
                refine lv_iinc (v := (v6 + 1)) (lv' := [(6, .int ((v6 + 1))), (5, .int v6), (7, .int 1), (0, va_rf v0), (1, .long v1), (3, .int v3), (4, .int v4)]) hx hb d_Mo_reckon_107 hl (k := 6) rfl rfl (by decide) rfl (fun ls hl => ?_)
                refine lv_goto (tgt := 24) hx hb d_Mo_reckon_110 (by decide) ?_
                exact ih _ _ _ _ _ _ _ h _ _ _ (lv_sub hl [3, 4, 5, 6, 1, 0] rfl) hM hS
              · rw [if_neg c16] at h
                refine mx_aload_n hx hb d_Mo_reckon_80 rfl (lv_at hl 1 rfl) ?_
                obtain ⟨x17, e18, h⟩ := mx_b h
                refine mx_getr hx hb hts i_Mo hown hK hM e18 (ci := 4) (C := R_Mo) (T := T_Mo) (N := 23) rfl 4 (by decide) (hts _ wd_15) d_Mo_reckon_81 ?_
                refine lv_iload hx hb d_Mo_reckon_84 (lv_at hl 6 rfl) ?_
                obtain ⟨x19, e20, h⟩ := mx_b h
                refine mx_lald hx hb hK hM e20 rfl d_Mo_reckon_86 ?_
                refine mx_aload_n hx hb d_Mo_reckon_87 rfl (lv_at hl 1 rfl) ?_
                obtain ⟨x21, e22, h⟩ := mx_b h
                refine mx_getr hx hb hts i_Mo hown hK hM e22 (ci := 4) (C := R_Mo) (T := T_Mo) (N := 23) rfl 4 (by decide) (hts _ wd_15) d_Mo_reckon_88 ?_
                refine lv_iload hx hb d_Mo_reckon_91 (lv_at hl 5 rfl) ?_
                obtain ⟨x23, e24, h⟩ := mx_b h
                refine mx_lald hx hb hK hM e24 rfl d_Mo_reckon_93 ?_
                refine mx_lcmp_ge (tgt := 103) hx hb d_Mo_reckon_94 d_Mo_reckon_95 (by decide) (fun c25 => ?_) (fun c25 => ?_)
                · rw [if_pos c25] at h
                  refine lv_iload hx hb d_Mo_reckon_103 (lv_at hl 5 rfl) ?_
                  refine lv_istore (lv' := [(5, .int v5), (7, .int 1), (0, va_rf v0), (1, .long v1), (3, .int v3), (4, .int v4), (6, .int v6)]) hx hb d_Mo_reckon_105 hl (by decide) rfl (fun ls hl => ?_)
                  refine lv_iinc (v := (v6 + 1)) (lv' := [(6, .int ((v6 + 1))), (5, .int v5), (7, .int 1), (0, va_rf v0), (1, .long v1), (3, .int v3), (4, .int v4)]) hx hb d_Mo_reckon_107 hl (k := 6) rfl rfl (by decide) rfl (fun ls hl => ?_)
                  refine lv_goto (tgt := 24) hx hb d_Mo_reckon_110 (by decide) ?_
                  exact ih _ _ _ _ _ _ _ h _ _ _ (lv_sub hl [3, 4, 5, 6, 1, 0] rfl) hM hS
                · rw [if_neg c25] at h
                  refine lv_iload hx hb d_Mo_reckon_98 (lv_at hl 6 rfl) ?_
                  refine lv_goto (tgt := 105) hx hb d_Mo_reckon_100 (by decide) ?_
                  refine lv_istore (lv' := [(5, .int v6), (7, .int 1), (0, va_rf v0), (1, .long v1), (3, .int v3), (4, .int v4), (6, .int v6)]) hx hb d_Mo_reckon_105 hl (by decide) rfl (fun ls hl => ?_)
                  refine lv_iinc (v := (v6 + 1)) (lv' := [(6, .int ((v6 + 1))), (5, .int v6), (7, .int 1), (0, va_rf v0), (1, .long v1), (3, .int v3), (4, .int v4)]) hx hb d_Mo_reckon_107 hl (k := 6) rfl rfl (by decide) rfl (fun ls hl => ?_)
                  refine lv_goto (tgt := 24) hx hb d_Mo_reckon_110 (by decide) ?_
                  exact ih _ _ _ _ _ _ _ h _ _ _ (lv_sub hl [3, 4, 5, 6, 1, 0] rfl) hM hS
set_option maxHeartbeats 4000000 in
set_option maxRecDepth 100000 in
theorem wfl_Mo_reckon_9 {p : Program} {l : Launch} {e : Env} {R : Room} {s : State} {m : MethodId} {args : Array Value} {below : List Frame} {meth : Method} {c : Code} {G : mx_G} (q : mx_Mem) (CX : gq_C p R s m args meth c G b_Mo_reckon 8 none R_Mo 2 0 0 49) {k0 : Option Nat → mx_Mem → Option (mx_Mem)} (hk0 : ∀ (v0 : Option Nat) (mem : mx_Mem), k0 v0 mem = some q → ∀ (H : Heap) (locs : List Loc) (ls : Array Slot), lv_has ls 8 [(0, va_rf v0)] → mx_M vwCl G mem H → va_S (mx_A G) s.heap H locs → W p l e R s m args below meth c H locs 0 0 (MQ below (gq_Q G none q) args s 0 0 (mx_A G)) (F0 m 136 ls [])) : ∀ (n : Nat) (v0 : Option Nat) (v1 : Int64) (v3 : Int32) (v4 : Int32) (mem : mx_Mem), fl_Mo_reckon_9 k0 n v0 v1 v3 v4 mem = some q → ∀ (H : Heap) (locs : List Loc) (ls : Array Slot), lv_has ls 8 [(0, va_rf v0), (1, .long v1), (3, .int v3), (4, .int v4)] → mx_M vwCl G mem H → va_S (mx_A G) s.heap H locs → W p l e R s m args below meth c H locs 0 0 (MQ below (gq_Q G none q) args s 0 0 (mx_A G)) (F0 m 9 ls []) := by
  obtain ⟨hx, hb, hml, hr, hown, hts, hlocks, hK, hN, hb0, hRf, hRc, hRs, hRl⟩ := id CX
  intro n
  induction n with
  | zero => intro v0 v1 v3 v4 mem h; rw [fl_Mo_reckon_9] at h; cases h
  | succ n ih =>
    intro v0 v1 v3 v4 mem h H locs ls hl hM hS
    rw [fl_Mo_reckon_9] at h
    refine lv_iload hx hb d_Mo_reckon_9 (lv_at hl 3 rfl) ?_
    refine mx_aload_n hx hb d_Mo_reckon_11 rfl (lv_at hl 0 rfl) ?_
    obtain ⟨x1, e2, h⟩ := mx_b h
    refine mx_geti hx hb hts i_Mo hown hK hM e2 (ci := 4) (C := R_Mo) (T := T_Mo) (N := 23) rfl 1 (by decide) (hts _ wd_116) d_Mo_reckon_12 ?_
    refine lv_icmp_ge (tgt := 136) hx hb d_Mo_reckon_15 (by decide) (fun c3 => ?_) (fun c3 => ?_)
    · rw [if_pos c3] at h
      exact hk0 _ _ h _ _ _ (lv_sub hl [0] rfl) hM hS
    · rw [if_neg c3] at h
      refine lv_iconst (v := 0) hx hb d_Mo_reckon_18 (by decide) ?_
      refine lv_istore (lv' := [(5, .int 0), (0, va_rf v0), (1, .long v1), (3, .int v3), (4, .int v4)]) hx hb d_Mo_reckon_19 hl (by decide) rfl (fun ls hl => ?_)
      refine lv_iconst (v := 1) hx hb d_Mo_reckon_21 (by decide) ?_
      refine lv_istore (lv' := [(6, .int 1), (5, .int 0), (0, va_rf v0), (1, .long v1), (3, .int v3), (4, .int v4)]) hx hb d_Mo_reckon_22 hl (by decide) rfl (fun ls hl => ?_)
      refine wfl_Mo_reckon_24 q CX ?_ 5000 _ _ _ _ _ _ _ h _ _ _ (lv_sub hl [2, 3, 4, 5, 1, 0] rfl) hM hS
      · intro v0 v4 v5 m4 h H locs ls hl hM hS
        refine mx_aload_n hx hb d_Mo_reckon_113 rfl (lv_at hl 0 rfl) ?_
        obtain ⟨x5, e6, h⟩ := mx_b h
        refine mx_getr hx hb hts i_Mo hown hK hM e6 (ci := 4) (C := R_Mo) (T := T_Mo) (N := 23) rfl 4 (by decide) (hts _ wd_15) d_Mo_reckon_114 ?_
        refine lv_iload hx hb d_Mo_reckon_117 (lv_at hl 2 rfl) ?_
        obtain ⟨x7, e8, h⟩ := mx_b h
        refine mx_lald hx hb hK hM e8 rfl d_Mo_reckon_119 ?_
        refine lv_lstore_n (lv' := [(1, .long x7), (0, va_rf v0), (4, .int v4), (5, .int v5)]) hx hb d_Mo_reckon_120 rfl hl (by decide) (by simp [mx_cat, mx_cati, mx_catl, mx_catr]) (fun ls hl => ?_)
        refine lv_iload hx hb d_Mo_reckon_121 (lv_at hl 3 rfl) ?_
        refine lv_istore_n (lv' := [(3, .int v5), (1, .long x7), (0, va_rf v0), (4, .int v4), (5, .int v5)]) hx hb d_Mo_reckon_123 rfl hl (by decide) rfl (fun ls hl => ?_)
        refine mx_aload_n hx hb d_Mo_reckon_124 rfl (lv_at hl 2 rfl) ?_
        refine lv_iload hx hb d_Mo_reckon_125 (lv_at hl 4 rfl) ?_
        obtain ⟨a12, e11, h⟩ := mx_b h
        obtain ⟨q9, e10, h⟩ := mx_b h
        have e13 := mx_c_eq e11
        refine W.eq (g2 := F0 m 127 ls [.int v5, .ref a12]) (congrArg (fun z => F0 m 127 ls [.int v5, va_rf z]) e13) ?_
        refine gq_go (va_runV (b := a12) (As := [.int v5]) (rest := []) ⟨hx, hb, hml, hown, hts⟩ (c_Mo_depart l G a12 v5 _ _ e10) (cwV 1 hts (gq_gV wd_202 wd_203 wd_204 wd_114 wd_201) rfl rfl rfl (by decide +kernel) ⟨Nat.le_trans (Nat.le_of_ble_eq_true rfl) hRf, Nat.le_trans (Nat.le_of_ble_eq_true rfl) hRl⟩) (gq_preV hK hN hM hS hb0 e11 (C := R_Mo) (T := T_Mo) (N := 23) rfl) rfl rfl hl.1 rfl (lv_room (Nat.le_of_ble_eq_true rfl)) d_Mo_reckon_127 ⟨(Nat.le_trans (Nat.le_of_ble_eq_true rfl) hRc), (Nat.le_trans (Nat.le_of_ble_eq_true rfl) hRs)⟩) hS (fun H locs hM hS => ?_)
        refine W.eq (g2 := F0 m 130 ls []) rfl ?_
        refine lv_iinc (v := (v4 + 1)) (lv' := [(4, .int ((v4 + 1))), (3, .int v5), (1, .long x7), (0, va_rf v0), (5, .int v5)]) hx hb d_Mo_reckon_130 hl (k := 3) rfl rfl (by decide) rfl (fun ls hl => ?_)
        refine lv_goto (tgt := 9) hx hb d_Mo_reckon_133 (by decide) ?_
        exact ih _ _ _ _ _ h _ _ _ (lv_sub hl [3, 2, 1, 0] rfl) hM hS
set_option maxHeartbeats 4000000 in
set_option maxRecDepth 100000 in
theorem wfl_Mo_reckon_139 {p : Program} {l : Launch} {e : Env} {R : Room} {s : State} {m : MethodId} {args : Array Value} {below : List Frame} {meth : Method} {c : Code} {G : mx_G} (q : mx_Mem) (CX : gq_C p R s m args meth c G b_Mo_reckon 8 none R_Mo 2 0 0 49)  : ∀ (n : Nat) (v0 : Option Nat) (v4 : Int32) (mem : mx_Mem), fl_Mo_reckon_139  n v0 v4 mem = some q → ∀ (H : Heap) (locs : List Loc) (ls : Array Slot), lv_has ls 8 [(0, va_rf v0), (4, .int v4)] → mx_M vwCl G mem H → va_S (mx_A G) s.heap H locs → W p l e R s m args below meth c H locs 0 0 (MQ below (gq_Q G none q) args s 0 0 (mx_A G)) (F0 m 139 ls []) := by
  obtain ⟨hx, hb, hml, hr, hown, hts, hlocks, hK, hN, hb0, hRf, hRc, hRs, hRl⟩ := id CX
  intro n
  induction n with
  | zero => intro v0 v4 mem h; rw [fl_Mo_reckon_139] at h; cases h
  | succ n ih =>
    intro v0 v4 mem h H locs ls hl hM hS
    rw [fl_Mo_reckon_139] at h
    refine lv_iload hx hb d_Mo_reckon_139 (lv_at hl 1 rfl) ?_
    refine mx_aload_n hx hb d_Mo_reckon_141 rfl (lv_at hl 0 rfl) ?_
    obtain ⟨x1, e2, h⟩ := mx_b h
    refine mx_geti hx hb hts i_Mo hown hK hM e2 (ci := 4) (C := R_Mo) (T := T_Mo) (N := 23) rfl 9 (by decide) (hts _ wd_142) d_Mo_reckon_142 ?_
    refine lv_icmp_gt (tgt := 160) hx hb d_Mo_reckon_145 (by decide) (fun c3 => ?_) (fun c3 => ?_)
    · rw [if_pos c3] at h
      cases h
      exact W.vret hx hb hr (fun t ht hW => ⟨⟨rfl, by rw [ht]; exact hM⟩, hS.F ht⟩) hS.2.2 d_Mo_reckon_160
    · rw [if_neg c3] at h
      refine mx_aload_n hx hb d_Mo_reckon_148 rfl (lv_at hl 0 rfl) ?_
      refine lv_iload hx hb d_Mo_reckon_149 (lv_at hl 1 rfl) ?_
      obtain ⟨a7, e6, h⟩ := mx_b h
      obtain ⟨q4, e5, h⟩ := mx_b h
      have e8 := mx_c_eq e6
      refine W.eq (g2 := F0 m 151 ls [.int v4, .ref a7]) (congrArg (fun z => F0 m 151 ls [.int v4, va_rf z]) e8) ?_
      refine gq_go (va_runV (b := a7) (As := [.int v4]) (rest := []) ⟨hx, hb, hml, hown, hts⟩ (c_Mo_arrive l G a7 v4 _ _ e5) (cwV 1 hts (gq_gV wd_206 wd_207 wd_208 wd_114 wd_205) rfl rfl rfl (by decide +kernel) ⟨Nat.le_trans (Nat.le_of_ble_eq_true rfl) hRf, Nat.le_trans (Nat.le_of_ble_eq_true rfl) hRl⟩) (gq_preV hK hN hM hS hb0 e6 (C := R_Mo) (T := T_Mo) (N := 23) rfl) rfl rfl hl.1 rfl (lv_room (Nat.le_of_ble_eq_true rfl)) d_Mo_reckon_151 ⟨(Nat.le_trans (Nat.le_of_ble_eq_true rfl) hRc), (Nat.le_trans (Nat.le_of_ble_eq_true rfl) hRs)⟩) hS (fun H locs hM hS => ?_)
      refine W.eq (g2 := F0 m 154 ls []) rfl ?_
      refine lv_iinc (v := (v4 + 1)) (lv' := [(4, .int ((v4 + 1))), (0, va_rf v0)]) hx hb d_Mo_reckon_154 hl (k := 1) rfl rfl (by decide) rfl (fun ls hl => ?_)
      refine lv_goto (tgt := 139) hx hb d_Mo_reckon_157 (by decide) ?_
      exact ih _ _ _ h _ _ _ (lv_sub hl [1, 0] rfl) hM hS
set_option maxHeartbeats 4000000 in
set_option maxRecDepth 100000 in
theorem c_Mo_reckon (l : Launch) (G : mx_G) (a0 : Nat) (mem : mx_Mem) (q : mx_Mem) (h : f_Mo_reckon a0 mem = some q) : Met l y_Mo_reckon (gq_w y_Mo_reckon b_Mo_reckon 8 none) { frames := 2, cells := 0, slots := 0, locals := 49 } (gq_P G [.ref a0] mem) (gq_Q G none q) 0 0 (mx_A G) := by
  refine Met.ofW (cc := b_Mo_reckon) (maxL := 8) (ret := none) (by decide) rfl ?_
  intro p e s m args below meth c s₁ B hml hv
  obtain ⟨rfl, hb0, hM, hK, hN⟩ := hv
  have CX : gq_C p (headSpec (gq_w y_Mo_reckon b_Mo_reckon 8 none) { frames := 2, cells := 0, slots := 0, locals := 49 }).room s m _ meth c G b_Mo_reckon 8 none R_Mo 2 0 0 49 := ⟨B.exec, B.bytes, hml, B.returns, findClass_of_methodNamed B.named, fun w hw => atoms_spec (ws := gq_w y_Mo_reckon b_Mo_reckon 8 none) B.pre w (List.mem_cons_of_mem _ hw), B.notSynchronized, hK, hN, hb0, Nat.le_refl _, Nat.le_refl _, Nat.le_refl _, Nat.le_refl _⟩
  obtain ⟨hx, hb, hml, hr, hown, hts, hlocks, hK, hN, hb0, hRf, hRc, hRs, hRl⟩ := id CX
  have hS : va_S (mx_A G) s.heap s.heap [] := va_S.rf
  have hl := lv_entry [.ref a0] (n := 8) (Nat.le_of_ble_eq_true rfl)
  rw [lg_entry_eq]
  generalize (lg_sl [.ref a0] ++ List.replicate (8 - (lg_sl [.ref a0]).length) Slot.unset).toArray = ls at hl ⊢
  have hl : lv_has ls 8 [(0, va_rf (some a0))] := hl
  unfold f_Mo_reckon at h
  refine lv_ldc2 (v := (-1)) hx hb hown (hts _ wd_200) d_Mo_reckon_0 ?_
  refine lv_lstore_n (lv' := [(1, .long (-1)), (0, va_rf (some a0))]) hx hb d_Mo_reckon_3 rfl hl (by decide) (by simp [mx_cat, mx_cati, mx_catl, mx_catr]) (fun ls hl => ?_)
  refine lv_iconst (v := 0) hx hb d_Mo_reckon_4 (by decide) ?_
  refine lv_istore_n (lv' := [(3, .int 0), (1, .long (-1)), (0, va_rf (some a0))]) hx hb d_Mo_reckon_5 rfl hl (by decide) rfl (fun ls hl => ?_)
  refine lv_iconst (v := 0) hx hb d_Mo_reckon_6 (by decide) ?_
  refine lv_istore (lv' := [(4, .int 0), (3, .int 0), (1, .long (-1)), (0, va_rf (some a0))]) hx hb d_Mo_reckon_7 hl (by decide) rfl (fun ls hl => ?_)
  refine wfl_Mo_reckon_9 q CX ?_ 5000 _ _ _ _ _ h _ _ _ (lv_sub hl [3, 2, 1, 0] rfl) hM hS
  · intro v0 m1 h H locs ls hl hM hS
    refine lv_iconst (v := 1) hx hb d_Mo_reckon_136 (by decide) ?_
    refine lv_istore (lv' := [(4, .int 1), (0, va_rf v0)]) hx hb d_Mo_reckon_137 hl (by decide) rfl (fun ls hl => ?_)
    refine wfl_Mo_reckon_139 q CX  5000 _ _ _ h _ _ _ (lv_sub hl [1, 0] rfl) hM hS
set_option maxHeartbeats 4000000 in
set_option maxRecDepth 100000 in
theorem wfl_Mo_late_47 {p : Program} {l : Launch} {e : Env} {R : Room} {s : State} {m : MethodId} {args : Array Value} {below : List Frame} {meth : Method} {c : Code} {G : mx_G} (q : Int32 × mx_Mem) (CX : gq_C p R s m args meth c G b_Mo_late 6 (some .int) R_Mo 3 0 0 76)  : ∀ (n : Nat) (v0 : Option Nat) (v4 : Int32) (v5 : Int32) (mem : mx_Mem), fl_Mo_late_47  n v0 v4 v5 mem = some q → ∀ (H : Heap) (locs : List Loc) (ls : Array Slot), lv_has ls 6 [(0, va_rf v0), (4, .int v4), (5, .int v5)] → mx_M vwCl G mem H → va_S (mx_A G) s.heap H locs → W p l e R s m args below meth c H locs 0 0 (MQ below (gq_Q G (some (.int q.1)) q.2) args s 0 0 (mx_A G)) (F0 m 47 ls []) := by
  obtain ⟨hx, hb, hml, hr, hown, hts, hlocks, hK, hN, hb0, hRf, hRc, hRs, hRl⟩ := id CX
  intro n
  induction n with
  | zero => intro v0 v4 v5 mem h; rw [fl_Mo_late_47] at h; cases h
  | succ n ih =>
    intro v0 v4 v5 mem h H locs ls hl hM hS
    rw [fl_Mo_late_47] at h
    refine lv_iload hx hb d_Mo_late_47 (lv_at hl 2 rfl) ?_
    refine mx_aload_n hx hb d_Mo_late_49 rfl (lv_at hl 0 rfl) ?_
    obtain ⟨x1, e2, h⟩ := mx_b h
    refine mx_geti hx hb hts i_Mo hown hK hM e2 (ci := 4) (C := R_Mo) (T := T_Mo) (N := 23) rfl 9 (by decide) (hts _ wd_142) d_Mo_late_50 ?_
    refine lv_icmp_gt (tgt := 100) hx hb d_Mo_late_53 (by decide) (fun c3 => ?_) (fun c3 => ?_)
    · rw [if_pos c3] at h
      refine lv_iload hx hb d_Mo_late_100 (lv_at hl 1 rfl) ?_
      cases h
      exact W.iret hx hb hr (fun t ht hW => ⟨⟨rfl, by rw [ht]; exact hM⟩, hS.F ht⟩) hS.2.2 d_Mo_late_102
    · rw [if_neg c3] at h
      refine lv_iload hx hb d_Mo_late_56 (lv_at hl 1 rfl) ?_
      refine mx_aload_n hx hb d_Mo_late_58 rfl (lv_at hl 0 rfl) ?_
      obtain ⟨x4, e5, h⟩ := mx_b h
      refine mx_getr hx hb hts i_Mo hown hK hM e5 (ci := 4) (C := R_Mo) (T := T_Mo) (N := 23) rfl 20 (by decide) (hts _ wd_31) d_Mo_late_59 ?_
      refine lv_iload hx hb d_Mo_late_62 (lv_at hl 2 rfl) ?_
      obtain ⟨x6, e7, h⟩ := mx_b h
      refine mx_bald hx hb hK hM e7 rfl d_Mo_late_64 ?_
      refine lv_if_ne (tgt := 86) hx hb d_Mo_late_65 (by decide) (fun c8 => ?_) (fun c8 => ?_)
      · rw [if_neg c8] at h
        refine lv_iconst (v := 1) hx hb d_Mo_late_86 (by decide) ?_
        refine lv_goto (tgt := 91) hx hb d_Mo_late_87 (by decide) ?_
        refine lv_iadd hx hb d_Mo_late_91 ?_
        refine lv_istore (lv' := [(4, .int ((v4 + 1))), (0, va_rf v0), (5, .int v5)]) hx hb d_Mo_late_92 hl (by decide) rfl (fun ls hl => ?_)
        refine lv_iinc (v := (v5 + 1)) (lv' := [(5, .int ((v5 + 1))), (4, .int ((v4 + 1))), (0, va_rf v0)]) hx hb d_Mo_late_94 hl (k := 2) rfl rfl (by decide) rfl (fun ls hl => ?_)
        refine lv_goto (tgt := 47) hx hb d_Mo_late_97 (by decide) ?_
        exact ih _ _ _ _ h _ _ _ (lv_sub hl [2, 1, 0] rfl) hM hS
      · rw [if_pos c8] at h
        refine mx_aload_n hx hb d_Mo_late_68 rfl (lv_at hl 0 rfl) ?_
        obtain ⟨x9, e10, h⟩ := mx_b h
        refine mx_getr hx hb hts i_Mo hown hK hM e10 (ci := 4) (C := R_Mo) (T := T_Mo) (N := 23) rfl 19 (by decide) (hts _ wd_29) d_Mo_late_69 ?_
        refine lv_iload hx hb d_Mo_late_72 (lv_at hl 2 rfl) ?_
        obtain ⟨x11, e12, h⟩ := mx_b h
        refine mx_lald hx hb hK hM e12 rfl d_Mo_late_74 ?_
        refine mx_aload_n hx hb d_Mo_late_75 rfl (lv_at hl 0 rfl) ?_
        obtain ⟨x13, e14, h⟩ := mx_b h
        refine mx_getr hx hb hts i_Mo hown hK hM e14 (ci := 4) (C := R_Mo) (T := T_Mo) (N := 23) rfl 12 (by decide) (hts _ wd_22) d_Mo_late_76 ?_
        refine lv_iload hx hb d_Mo_late_79 (lv_at hl 2 rfl) ?_
        obtain ⟨x15, e16, h⟩ := mx_b h
        refine mx_lald hx hb hK hM e16 rfl d_Mo_late_81 ?_
        refine mx_lcmp_le (tgt := 90) hx hb d_Mo_late_82 d_Mo_late_83 (by decide) (fun c17 => ?_) (fun c17 => ?_)
        · rw [if_pos c17] at h
          refine lv_iconst (v := 0) hx hb d_Mo_late_90 (by decide) ?_
          refine lv_iadd hx hb d_Mo_late_91 ?_
          refine lv_istore (lv' := [(4, .int ((v4 + 0))), (0, va_rf v0), (5, .int v5)]) hx hb d_Mo_late_92 hl (by decide) rfl (fun ls hl => ?_)
          refine lv_iinc (v := (v5 + 1)) (lv' := [(5, .int ((v5 + 1))), (4, .int ((v4 + 0))), (0, va_rf v0)]) hx hb d_Mo_late_94 hl (k := 2) rfl rfl (by decide) rfl (fun ls hl => ?_)
          refine lv_goto (tgt := 47) hx hb d_Mo_late_97 (by decide) ?_
          exact ih _ _ _ _ h _ _ _ (lv_sub hl [2, 1, 0] rfl) hM hS
        · rw [if_neg c17] at h
          refine lv_iconst (v := 1) hx hb d_Mo_late_86 (by decide) ?_
          refine lv_goto (tgt := 91) hx hb d_Mo_late_87 (by decide) ?_
          refine lv_iadd hx hb d_Mo_late_91 ?_
          refine lv_istore (lv' := [(4, .int ((v4 + 1))), (0, va_rf v0), (5, .int v5)]) hx hb d_Mo_late_92 hl (by decide) rfl (fun ls hl => ?_)
          refine lv_iinc (v := (v5 + 1)) (lv' := [(5, .int ((v5 + 1))), (4, .int ((v4 + 1))), (0, va_rf v0)]) hx hb d_Mo_late_94 hl (k := 2) rfl rfl (by decide) rfl (fun ls hl => ?_)
          refine lv_goto (tgt := 47) hx hb d_Mo_late_97 (by decide) ?_
          exact ih _ _ _ _ h _ _ _ (lv_sub hl [2, 1, 0] rfl) hM hS
set_option maxHeartbeats 4000000 in
set_option maxRecDepth 100000 in
theorem c_Mo_late (l : Launch) (G : mx_G) (a0 : Nat) (v1 : Int32) (v2 : Int64) (mem : mx_Mem) (q : Int32 × mx_Mem) (h : f_Mo_late a0 v1 v2 mem = some q) : Met l y_Mo_late (gq_w y_Mo_late b_Mo_late 6 (some .int)) { frames := 3, cells := 0, slots := 0, locals := 76 } (gq_P G [.ref a0, .int v1, .long v2] mem) (gq_Q G (some (.int q.1)) q.2) 0 0 (mx_A G) := by
  refine Met.ofW (cc := b_Mo_late) (maxL := 6) (ret := (some .int)) (by decide) rfl ?_
  intro p e s m args below meth c s₁ B hml hv
  obtain ⟨rfl, hb0, hM, hK, hN⟩ := hv
  have CX : gq_C p (headSpec (gq_w y_Mo_late b_Mo_late 6 (some .int)) { frames := 3, cells := 0, slots := 0, locals := 76 }).room s m _ meth c G b_Mo_late 6 (some .int) R_Mo 3 0 0 76 := ⟨B.exec, B.bytes, hml, B.returns, findClass_of_methodNamed B.named, fun w hw => atoms_spec (ws := gq_w y_Mo_late b_Mo_late 6 (some .int)) B.pre w (List.mem_cons_of_mem _ hw), B.notSynchronized, hK, hN, hb0, Nat.le_refl _, Nat.le_refl _, Nat.le_refl _, Nat.le_refl _⟩
  obtain ⟨hx, hb, hml, hr, hown, hts, hlocks, hK, hN, hb0, hRf, hRc, hRs, hRl⟩ := id CX
  have hS : va_S (mx_A G) s.heap s.heap [] := va_S.rf
  have hl := lv_entry [.ref a0, .int v1, .long v2] (n := 6) (Nat.le_of_ble_eq_true rfl)
  rw [lg_entry_eq]
  generalize (lg_sl [.ref a0, .int v1, .long v2] ++ List.replicate (6 - (lg_sl [.ref a0, .int v1, .long v2]).length) Slot.unset).toArray = ls at hl ⊢
  have hl : lv_has ls 6 [(0, va_rf (some a0)), (1, .int v1), (2, .long v2)] := hl
  unfold f_Mo_late at h
  refine mx_aload_n hx hb d_Mo_late_0 rfl (lv_at hl 0 rfl) ?_
  refine lv_iconst (v := 0) hx hb d_Mo_late_1 (by decide) ?_
  obtain ⟨m1, e2, h⟩ := mx_b h
  refine mx_put hx hb hts i_Mo t_Mo t_Mo_ok n_Mo hown hK hM hS e2 (ci := 4) (C := R_Mo) (T := T_Mo) (N := 23) rfl 0 (by decide) (hts _ wd_109) rfl (ty := .int) (by decide +kernel) rfl rfl d_Mo_late_2 (fun H locs hM hS => ?_)
  refine mx_aload_n hx hb d_Mo_late_5 rfl (lv_at hl 0 rfl) ?_
  refine lv_iload_n hx hb d_Mo_late_6 rfl (lv_at hl 1 rfl) ?_
  obtain ⟨a6, e5, h⟩ := mx_b h
  obtain ⟨q3, e4, h⟩ := mx_b h
  have e7 := mx_c_eq e5
  refine W.eq (g2 := F0 m 7 ls [.int v1, .ref a6]) (congrArg (fun z => F0 m 7 ls [.int v1, va_rf z]) e7) ?_
  refine gq_go (va_runV (b := a6) (As := [.int v1]) (rest := []) ⟨hx, hb, hml, hown, hts⟩ (c_Mo_isLine l G a6 v1 _ _ e4) (cwV 1 hts (gq_gV wd_137 wd_138 wd_139 wd_114 wd_136) rfl rfl rfl (by decide +kernel) ⟨Nat.le_trans (Nat.le_of_ble_eq_true rfl) hRf, Nat.le_trans (Nat.le_of_ble_eq_true rfl) hRl⟩) (gq_preV hK hN hM hS hb0 e5 (C := R_Mo) (T := T_Mo) (N := 23) rfl) rfl rfl hl.1 rfl (lv_room (Nat.le_of_ble_eq_true rfl)) d_Mo_late_7 ⟨(Nat.le_trans (Nat.le_of_ble_eq_true rfl) hRc), (Nat.le_trans (Nat.le_of_ble_eq_true rfl) hRs)⟩) hS (fun H locs hM hS => ?_)
  refine W.eq (g2 := F0 m 10 ls [.int q3.1]) rfl ?_
  refine lv_if_ne (tgt := 16) hx hb d_Mo_late_10 (by decide) (fun c8 => ?_) (fun c8 => ?_)
  · rw [if_neg c8] at h
    refine lv_lload_n hx hb d_Mo_late_16 rfl (lv_at hl 2 rfl) ?_
    refine lv_lconst (v := 0) hx hb d_Mo_late_17 (by decide) ?_
    refine lv_ldc2 (v := 2000) hx hb hown (hts _ wd_209) d_Mo_late_18 ?_
    obtain ⟨q9, e10, h⟩ := mx_b h
    refine gq_go (va_runS (As := [.long v2, .long 0, .long 2000]) (rest := []) ⟨hx, hb, hml, hown, hts⟩ (c_Mo_in l G v2 0 2000 _ _ e10) (cwS 3 hts (gq_gS wd_112 wd_113 wd_114 wd_111) rfl rfl rfl (by decide +kernel) ⟨Nat.le_trans (Nat.le_of_ble_eq_true rfl) hRf, Nat.le_trans (Nat.le_of_ble_eq_true rfl) hRl⟩) (gq_preS hK hN hM hS hb0) rfl rfl hl.1 rfl (lv_room (Nat.le_of_ble_eq_true rfl)) d_Mo_late_21 ⟨(Nat.le_trans (Nat.le_of_ble_eq_true rfl) hRc), (Nat.le_trans (Nat.le_of_ble_eq_true rfl) hRs)⟩) hS (fun H locs hM hS => ?_)
    refine W.eq (g2 := F0 m 24 ls [.int q9.1]) rfl ?_
    refine lv_if_ne (tgt := 30) hx hb d_Mo_late_24 (by decide) (fun c12 => ?_) (fun c12 => ?_)
    · rw [if_neg c12] at h
      refine mx_aload_n hx hb d_Mo_late_30 rfl (lv_at hl 0 rfl) ?_
      obtain ⟨x13, e14, h⟩ := mx_b h
      refine mx_getr hx hb hts i_Mo hown hK hM e14 (ci := 4) (C := R_Mo) (T := T_Mo) (N := 23) rfl 6 (by decide) (hts _ wd_17) d_Mo_late_31 ?_
      refine lv_iload_n hx hb d_Mo_late_34 rfl (lv_at hl 1 rfl) ?_
      refine lv_lload_n hx hb d_Mo_late_35 rfl (lv_at hl 2 rfl) ?_
      obtain ⟨m16, e15, h⟩ := mx_b h
      refine mx_last hx hb hK hM hS e15 rfl d_Mo_late_36 (fun H locs hM hS => ?_)
      refine mx_aload_n hx hb d_Mo_late_37 rfl (lv_at hl 0 rfl) ?_
      obtain ⟨a20, e19, h⟩ := mx_b h
      obtain ⟨q17, e18, h⟩ := mx_b h
      have e21 := mx_c_eq e19
      refine W.eq (g2 := F0 m 38 ls [.ref a20]) (congrArg (fun z => F0 m 38 ls [va_rf z]) e21) ?_
      refine gq_go (va_runV (b := a20) (As := []) (rest := []) ⟨hx, hb, hml, hown, hts⟩ (c_Mo_reckon l G a20  _ _ e18) (cwV 0 hts (gq_gV wd_211 wd_212 wd_213 wd_114 wd_210) rfl rfl rfl (by decide +kernel) ⟨Nat.le_trans (Nat.le_of_ble_eq_true rfl) hRf, Nat.le_trans (Nat.le_of_ble_eq_true rfl) hRl⟩) (gq_preV hK hN hM hS hb0 e19 (C := R_Mo) (T := T_Mo) (N := 23) rfl) rfl rfl hl.1 rfl (lv_room (Nat.le_of_ble_eq_true rfl)) d_Mo_late_38 ⟨(Nat.le_trans (Nat.le_of_ble_eq_true rfl) hRc), (Nat.le_trans (Nat.le_of_ble_eq_true rfl) hRs)⟩) hS (fun H locs hM hS => ?_)
      refine W.eq (g2 := F0 m 41 ls []) rfl ?_
      refine lv_iconst (v := 0) hx hb d_Mo_late_41 (by decide) ?_
      refine lv_istore (lv' := [(4, .int 0), (0, va_rf (some a0)), (1, .int v1), (2, .long v2)]) hx hb d_Mo_late_42 hl (by decide) rfl (fun ls hl => ?_)
      refine lv_iconst (v := 1) hx hb d_Mo_late_44 (by decide) ?_
      refine lv_istore (lv' := [(5, .int 1), (4, .int 0), (0, va_rf (some a0)), (1, .int v1), (2, .long v2)]) hx hb d_Mo_late_45 hl (by decide) rfl (fun ls hl => ?_)
      refine wfl_Mo_late_47 q CX  5000 _ _ _ _ h _ _ _ (lv_sub hl [2, 1, 0] rfl) hM hS
    · rw [if_pos c12] at h
      refine lv_bipush (v := (-12)) hx hb d_Mo_late_27 (by decide) ?_
      cases h
      exact W.iret hx hb hr (fun t ht hW => ⟨⟨rfl, by rw [ht]; exact hM⟩, hS.F ht⟩) hS.2.2 d_Mo_late_29
  · rw [if_pos c8] at h
    refine lv_bipush (v := (-11)) hx hb d_Mo_late_13 (by decide) ?_
    cases h
    exact W.iret hx hb hr (fun t ht hW => ⟨⟨rfl, by rw [ht]; exact hM⟩, hS.F ht⟩) hS.2.2 d_Mo_late_15
set_option maxHeartbeats 4000000 in
set_option maxRecDepth 100000 in
theorem c_Lo_rememberArrival (l : Launch) (G : mx_G) (a0 : Nat) (mem : mx_Mem) (q : mx_Mem) (h : f_Lo_rememberArrival a0 mem = some q) : Met l y_Lo_rememberArrival (gq_w y_Lo_rememberArrival b_Lo_rememberArrival 1 none) { frames := 0, cells := 0, slots := 0, locals := 0 } (gq_P G [.ref a0] mem) (gq_Q G none q) 0 0 (mx_A G) := by
  refine Met.ofW (cc := b_Lo_rememberArrival) (maxL := 1) (ret := none) (by decide) rfl ?_
  intro p e s m args below meth c s₁ B hml hv
  obtain ⟨rfl, hb0, hM, hK, hN⟩ := hv
  have CX : gq_C p (headSpec (gq_w y_Lo_rememberArrival b_Lo_rememberArrival 1 none) { frames := 0, cells := 0, slots := 0, locals := 0 }).room s m _ meth c G b_Lo_rememberArrival 1 none R_Lo 0 0 0 0 := ⟨B.exec, B.bytes, hml, B.returns, findClass_of_methodNamed B.named, fun w hw => atoms_spec (ws := gq_w y_Lo_rememberArrival b_Lo_rememberArrival 1 none) B.pre w (List.mem_cons_of_mem _ hw), B.notSynchronized, hK, hN, hb0, Nat.le_refl _, Nat.le_refl _, Nat.le_refl _, Nat.le_refl _⟩
  obtain ⟨hx, hb, hml, hr, hown, hts, hlocks, hK, hN, hb0, hRf, hRc, hRs, hRl⟩ := id CX
  have hS : va_S (mx_A G) s.heap s.heap [] := va_S.rf
  have hl := lv_entry [.ref a0] (n := 1) (Nat.le_of_ble_eq_true rfl)
  rw [lg_entry_eq]
  generalize (lg_sl [.ref a0] ++ List.replicate (1 - (lg_sl [.ref a0]).length) Slot.unset).toArray = ls at hl ⊢
  have hl : lv_has ls 1 [(0, va_rf (some a0))] := hl
  unfold f_Lo_rememberArrival at h
  refine mx_aload_n hx hb d_Lo_rememberArrival_0 rfl (lv_at hl 0 rfl) ?_
  refine mx_aload_n hx hb d_Lo_rememberArrival_1 rfl (lv_at hl 0 rfl) ?_
  obtain ⟨x1, e2, h⟩ := mx_b h
  refine mx_getl hx hb hts i_Lo hown hK hM e2 (ci := 3) (C := R_Lo) (T := T_Lo) (N := 12) rfl 9 (by decide) (hts _ wd_79) d_Lo_rememberArrival_2 ?_
  obtain ⟨m3, e4, h⟩ := mx_b h
  refine mx_put hx hb hts i_Lo t_Lo t_Lo_ok n_Lo hown hK hM hS e4 (ci := 3) (C := R_Lo) (T := T_Lo) (N := 12) rfl 10 (by decide) (hts _ wd_214) rfl (ty := .long) (by decide +kernel) rfl rfl d_Lo_rememberArrival_5 (fun H locs hM hS => ?_)
  cases h
  exact W.vret hx hb hr (fun t ht hW => ⟨⟨rfl, by rw [ht]; exact hM⟩, hS.F ht⟩) hS.2.2 d_Lo_rememberArrival_8
set_option maxHeartbeats 4000000 in
set_option maxRecDepth 100000 in
theorem wfl_Lo_concerns_18 {p : Program} {l : Launch} {e : Env} {R : Room} {s : State} {m : MethodId} {args : Array Value} {below : List Frame} {meth : Method} {c : Code} {G : mx_G} (q : Int32 × mx_Mem) (CX : gq_C p R s m args meth c G b_Lo_concerns 4 (some .boolean) R_Lo 0 0 0 0)  : ∀ (n : Nat) (v0 : Option Nat) (v1 : Option Nat) (v2 : Int32) (mem : mx_Mem), fl_Lo_concerns_18  n v0 v1 v2 mem = some q → ∀ (H : Heap) (locs : List Loc) (ls : Array Slot), lv_has ls 4 [(0, va_rf v0), (1, va_rf v1), (2, .int v2)] → mx_M vwCl G mem H → va_S (mx_A G) s.heap H locs → W p l e R s m args below meth c H locs 0 0 (MQ below (gq_Q G (some (.int q.1)) q.2) args s 0 0 (mx_A G)) (F0 m 18 ls []) := by
  obtain ⟨hx, hb, hml, hr, hown, hts, hlocks, hK, hN, hb0, hRf, hRc, hRs, hRl⟩ := id CX
  intro n
  induction n with
  | zero => intro v0 v1 v2 mem h; rw [fl_Lo_concerns_18] at h; cases h
  | succ n ih =>
    intro v0 v1 v2 mem h H locs ls hl hM hS
    rw [fl_Lo_concerns_18] at h
    refine lv_iload_n hx hb d_Lo_concerns_18 rfl (lv_at hl 2 rfl) ?_
    refine mx_aload_n hx hb d_Lo_concerns_19 rfl (lv_at hl 0 rfl) ?_
    obtain ⟨x1, e2, h⟩ := mx_b h
    refine mx_geti hx hb hts i_Lo hown hK hM e2 (ci := 3) (C := R_Lo) (T := T_Lo) (N := 12) rfl 5 (by decide) (hts _ wd_49) d_Lo_concerns_20 ?_
    refine lv_icmp_ge (tgt := 59) hx hb d_Lo_concerns_23 (by decide) (fun c3 => ?_) (fun c3 => ?_)
    · rw [if_pos c3] at h
      refine lv_iconst (v := 0) hx hb d_Lo_concerns_59 (by decide) ?_
      cases h
      exact W.zret hx hb hr rfl (fun t ht hW => ⟨⟨rfl, by rw [ht]; exact hM⟩, hS.F ht⟩) hS.2.2 d_Lo_concerns_60
    · rw [if_neg c3] at h
      refine mx_aload_n hx hb d_Lo_concerns_26 rfl (lv_at hl 0 rfl) ?_
      obtain ⟨x4, e5, h⟩ := mx_b h
      refine mx_getr hx hb hts i_Lo hown hK hM e5 (ci := 3) (C := R_Lo) (T := T_Lo) (N := 12) rfl 4 (by decide) (hts _ wd_50) d_Lo_concerns_27 ?_
      refine lv_iload_n hx hb d_Lo_concerns_30 rfl (lv_at hl 2 rfl) ?_
      obtain ⟨x6, e7, h⟩ := mx_b h
      refine mx_aald hx hb hK hM e7 rfl d_Lo_concerns_31 ?_
      obtain ⟨x8, e9, h⟩ := mx_b h
      refine mx_getrN hx hb hts i_Op hown hK hM e9 (ci := 2) (C := R_Op) (T := T_Op) (N := 3) rfl 1 (by decide) (va_Nw.use rfl (hN _ nw_3)) d_Lo_concerns_32 ?_
      refine mx_astore_n (lv' := [(3, va_rf x8), (0, va_rf v0), (1, va_rf v1), (2, .int v2)]) hx hb d_Lo_concerns_35 rfl hl (by decide) rfl (fun ls hl => ?_)
      refine mx_aload_n hx hb d_Lo_concerns_36 rfl (lv_at hl 0 rfl) ?_
      refine mx_ifnull (tgt := 53) hx hb d_Lo_concerns_37 (by decide) (fun c10 => ?_) (fun c10 => ?_)
      · rw [if_pos c10] at h
        refine lv_iinc (v := (v2 + 1)) (lv' := [(2, .int ((v2 + 1))), (3, va_rf x8), (0, va_rf v0), (1, va_rf v1)]) hx hb d_Lo_concerns_53 hl (k := 3) rfl rfl (by decide) (by simp [mx_cat, mx_cati, mx_catl, mx_catr]) (fun ls hl => ?_)
        refine lv_goto (tgt := 18) hx hb d_Lo_concerns_56 (by decide) ?_
        exact ih _ _ _ _ h _ _ _ (lv_sub hl [2, 3, 0] rfl) hM hS
      · rw [if_neg c10] at h
        refine mx_aload_n hx hb d_Lo_concerns_40 rfl (lv_at hl 0 rfl) ?_
        obtain ⟨x11, e12, h⟩ := mx_b h
        refine mx_getiN hx hb hts i_Li hown hK hM e12 (ci := 1) (C := R_Li) (T := T_Li) (N := 8) rfl 0 (by decide) (va_Nw.use rfl (hN _ nw_14)) d_Lo_concerns_41 ?_
        refine mx_aload_n hx hb d_Lo_concerns_44 rfl (lv_at hl 2 rfl) ?_
        obtain ⟨x13, e14, h⟩ := mx_b h
        refine mx_getiN hx hb hts i_Li hown hK hM e14 (ci := 1) (C := R_Li) (T := T_Li) (N := 8) rfl 0 (by decide) (va_Nw.use rfl (hN _ nw_14)) d_Lo_concerns_45 ?_
        refine lv_icmp_ne (tgt := 53) hx hb d_Lo_concerns_48 (by decide) (fun c15 => ?_) (fun c15 => ?_)
        · rw [if_neg c15] at h
          refine lv_iinc (v := (v2 + 1)) (lv' := [(2, .int ((v2 + 1))), (3, va_rf x8), (0, va_rf v0), (1, va_rf v1)]) hx hb d_Lo_concerns_53 hl (k := 3) rfl rfl (by decide) (by simp [mx_cat, mx_cati, mx_catl, mx_catr]) (fun ls hl => ?_)
          refine lv_goto (tgt := 18) hx hb d_Lo_concerns_56 (by decide) ?_
          exact ih _ _ _ _ h _ _ _ (lv_sub hl [2, 3, 0] rfl) hM hS
        · rw [if_pos c15] at h
          refine lv_iconst (v := 1) hx hb d_Lo_concerns_51 (by decide) ?_
          cases h
          exact W.zret hx hb hr rfl (fun t ht hW => ⟨⟨rfl, by rw [ht]; exact hM⟩, hS.F ht⟩) hS.2.2 d_Lo_concerns_52
set_option maxHeartbeats 4000000 in
set_option maxRecDepth 100000 in
theorem c_Lo_concerns (l : Launch) (G : mx_G) (a0 : Nat) (v1 : Option Nat) (mem : mx_Mem) (q : Int32 × mx_Mem) (h : f_Lo_concerns a0 v1 mem = some q) : Met l y_Lo_concerns (gq_w y_Lo_concerns b_Lo_concerns 4 (some .boolean)) { frames := 0, cells := 0, slots := 0, locals := 0 } (gq_P G [.ref a0, va_rf v1] mem) (gq_Q G (some (.int q.1)) q.2) 0 0 (mx_A G) := by
  refine Met.ofW (cc := b_Lo_concerns) (maxL := 4) (ret := (some .boolean)) (by decide) rfl ?_
  intro p e s m args below meth c s₁ B hml hv
  obtain ⟨rfl, hb0, hM, hK, hN⟩ := hv
  have CX : gq_C p (headSpec (gq_w y_Lo_concerns b_Lo_concerns 4 (some .boolean)) { frames := 0, cells := 0, slots := 0, locals := 0 }).room s m _ meth c G b_Lo_concerns 4 (some .boolean) R_Lo 0 0 0 0 := ⟨B.exec, B.bytes, hml, B.returns, findClass_of_methodNamed B.named, fun w hw => atoms_spec (ws := gq_w y_Lo_concerns b_Lo_concerns 4 (some .boolean)) B.pre w (List.mem_cons_of_mem _ hw), B.notSynchronized, hK, hN, hb0, Nat.le_refl _, Nat.le_refl _, Nat.le_refl _, Nat.le_refl _⟩
  obtain ⟨hx, hb, hml, hr, hown, hts, hlocks, hK, hN, hb0, hRf, hRc, hRs, hRl⟩ := id CX
  have hS : va_S (mx_A G) s.heap s.heap [] := va_S.rf
  have hl := lv_entry [.ref a0, va_rf v1] (n := 4) (by simp [lg_sl, mx_cat, mx_cati, mx_catl, mx_catr])
  rw [lg_entry_eq]
  generalize (lg_sl [.ref a0, va_rf v1] ++ List.replicate (4 - (lg_sl [.ref a0, va_rf v1]).length) Slot.unset).toArray = ls at hl ⊢
  have hl : lv_has ls 4 [(0, va_rf (some a0)), (1, va_rf v1)] := by have h9 := hl; simp [lv_args, mx_cat, mx_cati, mx_catl, mx_catr] at h9; exact h9
  unfold f_Lo_concerns at h
  refine mx_aload_n hx hb d_Lo_concerns_0 rfl (lv_at hl 0 rfl) ?_
  obtain ⟨x1, e2, h⟩ := mx_b h
  refine mx_getr hx hb hts i_Lo hown hK hM e2 (ci := 3) (C := R_Lo) (T := T_Lo) (N := 12) rfl 0 (by decide) (hts _ wd_55) d_Lo_concerns_1 ?_
  obtain ⟨x3, e4, h⟩ := mx_b h
  refine mx_getiN hx hb hts i_Li hown hK hM e4 (ci := 1) (C := R_Li) (T := T_Li) (N := 8) rfl 0 (by decide) (va_Nw.use rfl (hN _ nw_14)) d_Lo_concerns_4 ?_
  refine mx_aload_n hx hb d_Lo_concerns_7 rfl (lv_at hl 1 rfl) ?_
  obtain ⟨x5, e6, h⟩ := mx_b h
  refine mx_getiN hx hb hts i_Li hown hK hM e6 (ci := 1) (C := R_Li) (T := T_Li) (N := 8) rfl 0 (by decide) (va_Nw.use rfl (hN _ nw_14)) d_Lo_concerns_8 ?_
  refine lv_icmp_ne (tgt := 16) hx hb d_Lo_concerns_11 (by decide) (fun c7 => ?_) (fun c7 => ?_)
  · rw [if_neg c7] at h
    refine lv_iconst (v := 0) hx hb d_Lo_concerns_16 (by decide) ?_
    refine lv_istore_n (lv' := [(2, .int 0), (0, va_rf (some a0)), (1, va_rf v1)]) hx hb d_Lo_concerns_17 rfl hl (by decide) (by simp [mx_cat, mx_cati, mx_catl, mx_catr]) (fun ls hl => ?_)
    refine wfl_Lo_concerns_18 q CX  5000 _ _ _ _ h _ _ _ (lv_sub hl [1, 2, 0] rfl) hM hS
  · rw [if_pos c7] at h
    refine lv_iconst (v := 1) hx hb d_Lo_concerns_14 (by decide) ?_
    cases h
    exact W.zret hx hb hr rfl (fun t ht hW => ⟨⟨rfl, by rw [ht]; exact hM⟩, hS.F ht⟩) hS.2.2 d_Lo_concerns_15
set_option maxHeartbeats 4000000 in
set_option maxRecDepth 100000 in
theorem c_Lo_pickFirst (l : Launch) (G : mx_G) (a0 : Nat) (mem : mx_Mem) (q : mx_Mem) (h : f_Lo_pickFirst a0 mem = some q) : Met l y_Lo_pickFirst (gq_w y_Lo_pickFirst b_Lo_pickFirst 1 none) { frames := 0, cells := 0, slots := 0, locals := 0 } (gq_P G [.ref a0] mem) (gq_Q G none q) 0 0 (mx_A G) := by
  refine Met.ofW (cc := b_Lo_pickFirst) (maxL := 1) (ret := none) (by decide) rfl ?_
  intro p e s m args below meth c s₁ B hml hv
  obtain ⟨rfl, hb0, hM, hK, hN⟩ := hv
  have CX : gq_C p (headSpec (gq_w y_Lo_pickFirst b_Lo_pickFirst 1 none) { frames := 0, cells := 0, slots := 0, locals := 0 }).room s m _ meth c G b_Lo_pickFirst 1 none R_Lo 0 0 0 0 := ⟨B.exec, B.bytes, hml, B.returns, findClass_of_methodNamed B.named, fun w hw => atoms_spec (ws := gq_w y_Lo_pickFirst b_Lo_pickFirst 1 none) B.pre w (List.mem_cons_of_mem _ hw), B.notSynchronized, hK, hN, hb0, Nat.le_refl _, Nat.le_refl _, Nat.le_refl _, Nat.le_refl _⟩
  obtain ⟨hx, hb, hml, hr, hown, hts, hlocks, hK, hN, hb0, hRf, hRc, hRs, hRl⟩ := id CX
  have hS : va_S (mx_A G) s.heap s.heap [] := va_S.rf
  have hl := lv_entry [.ref a0] (n := 1) (Nat.le_of_ble_eq_true rfl)
  rw [lg_entry_eq]
  generalize (lg_sl [.ref a0] ++ List.replicate (1 - (lg_sl [.ref a0]).length) Slot.unset).toArray = ls at hl ⊢
  have hl : lv_has ls 1 [(0, va_rf (some a0))] := hl
  unfold f_Lo_pickFirst at h
  refine mx_aload_n hx hb d_Lo_pickFirst_0 rfl (lv_at hl 0 rfl) ?_
  refine mx_aload_n hx hb d_Lo_pickFirst_1 rfl (lv_at hl 0 rfl) ?_
  obtain ⟨x1, e2, h⟩ := mx_b h
  refine mx_geti hx hb hts i_Lo hown hK hM e2 (ci := 3) (C := R_Lo) (T := T_Lo) (N := 12) rfl 5 (by decide) (hts _ wd_49) d_Lo_pickFirst_2 ?_
  refine lv_if_le (tgt := 12) hx hb d_Lo_pickFirst_5 (by decide) (fun c3 => ?_) (fun c3 => ?_)
  · rw [if_pos c3] at h
    refine lv_iconst (v := (-1)) hx hb d_Lo_pickFirst_12 (by decide) ?_
    obtain ⟨m4, e5, h⟩ := mx_b h
    refine mx_put hx hb hts i_Lo t_Lo t_Lo_ok n_Lo hown hK hM hS e5 (ci := 3) (C := R_Lo) (T := T_Lo) (N := 12) rfl 6 (by decide) (hts _ wd_48) rfl (ty := .int) (by decide +kernel) rfl rfl d_Lo_pickFirst_13 (fun H locs hM hS => ?_)
    cases h
    exact W.vret hx hb hr (fun t ht hW => ⟨⟨rfl, by rw [ht]; exact hM⟩, hS.F ht⟩) hS.2.2 d_Lo_pickFirst_16
  · rw [if_neg c3] at h
    refine lv_iconst (v := 0) hx hb d_Lo_pickFirst_8 (by decide) ?_
    refine lv_goto (tgt := 13) hx hb d_Lo_pickFirst_9 (by decide) ?_
    obtain ⟨m4, e5, h⟩ := mx_b h
    refine mx_put hx hb hts i_Lo t_Lo t_Lo_ok n_Lo hown hK hM hS e5 (ci := 3) (C := R_Lo) (T := T_Lo) (N := 12) rfl 6 (by decide) (hts _ wd_48) rfl (ty := .int) (by decide +kernel) rfl rfl d_Lo_pickFirst_13 (fun H locs hM hS => ?_)
    cases h
    exact W.vret hx hb hr (fun t ht hW => ⟨⟨rfl, by rw [ht]; exact hM⟩, hS.F ht⟩) hS.2.2 d_Lo_pickFirst_16
set_option maxHeartbeats 4000000 in
set_option maxRecDepth 100000 in
theorem c_Lo_hasMoved (l : Launch) (G : mx_G) (a0 : Nat) (mem : mx_Mem) (q : Int32 × mx_Mem) (h : f_Lo_hasMoved a0 mem = some q) : Met l y_Lo_hasMoved (gq_w y_Lo_hasMoved b_Lo_hasMoved 1 (some .boolean)) { frames := 0, cells := 0, slots := 0, locals := 0 } (gq_P G [.ref a0] mem) (gq_Q G (some (.int q.1)) q.2) 0 0 (mx_A G) := by
  refine Met.ofW (cc := b_Lo_hasMoved) (maxL := 1) (ret := (some .boolean)) (by decide) rfl ?_
  intro p e s m args below meth c s₁ B hml hv
  obtain ⟨rfl, hb0, hM, hK, hN⟩ := hv
  have CX : gq_C p (headSpec (gq_w y_Lo_hasMoved b_Lo_hasMoved 1 (some .boolean)) { frames := 0, cells := 0, slots := 0, locals := 0 }).room s m _ meth c G b_Lo_hasMoved 1 (some .boolean) R_Lo 0 0 0 0 := ⟨B.exec, B.bytes, hml, B.returns, findClass_of_methodNamed B.named, fun w hw => atoms_spec (ws := gq_w y_Lo_hasMoved b_Lo_hasMoved 1 (some .boolean)) B.pre w (List.mem_cons_of_mem _ hw), B.notSynchronized, hK, hN, hb0, Nat.le_refl _, Nat.le_refl _, Nat.le_refl _, Nat.le_refl _⟩
  obtain ⟨hx, hb, hml, hr, hown, hts, hlocks, hK, hN, hb0, hRf, hRc, hRs, hRl⟩ := id CX
  have hS : va_S (mx_A G) s.heap s.heap [] := va_S.rf
  have hl := lv_entry [.ref a0] (n := 1) (Nat.le_of_ble_eq_true rfl)
  rw [lg_entry_eq]
  generalize (lg_sl [.ref a0] ++ List.replicate (1 - (lg_sl [.ref a0]).length) Slot.unset).toArray = ls at hl ⊢
  have hl : lv_has ls 1 [(0, va_rf (some a0))] := hl
  unfold f_Lo_hasMoved at h
  refine mx_aload_n hx hb d_Lo_hasMoved_0 rfl (lv_at hl 0 rfl) ?_
  obtain ⟨x1, e2, h⟩ := mx_b h
  refine mx_getl hx hb hts i_Lo hown hK hM e2 (ci := 3) (C := R_Lo) (T := T_Lo) (N := 12) rfl 9 (by decide) (hts _ wd_79) d_Lo_hasMoved_1 ?_
  refine mx_aload_n hx hb d_Lo_hasMoved_4 rfl (lv_at hl 0 rfl) ?_
  obtain ⟨x3, e4, h⟩ := mx_b h
  refine mx_getl hx hb hts i_Lo hown hK hM e4 (ci := 3) (C := R_Lo) (T := T_Lo) (N := 12) rfl 10 (by decide) (hts _ wd_214) d_Lo_hasMoved_5 ?_
  refine mx_lcmp_eq (tgt := 16) hx hb d_Lo_hasMoved_8 d_Lo_hasMoved_9 (by decide) (fun c5 => ?_) (fun c5 => ?_)
  · rw [if_pos c5] at h
    refine lv_iconst (v := 0) hx hb d_Lo_hasMoved_16 (by decide) ?_
    cases h
    exact W.zret hx hb hr rfl (fun t ht hW => ⟨⟨rfl, by rw [ht]; exact hM⟩, hS.F ht⟩) hS.2.2 d_Lo_hasMoved_17
  · rw [if_neg c5] at h
    refine lv_iconst (v := 1) hx hb d_Lo_hasMoved_12 (by decide) ?_
    refine lv_goto (tgt := 17) hx hb d_Lo_hasMoved_13 (by decide) ?_
    cases h
    exact W.zret hx hb hr rfl (fun t ht hW => ⟨⟨rfl, by rw [ht]; exact hM⟩, hS.F ht⟩) hS.2.2 d_Lo_hasMoved_17
set_option maxHeartbeats 4000000 in
set_option maxRecDepth 100000 in
theorem wfl_LR_countMoved_4 {p : Program} {l : Launch} {e : Env} {R : Room} {s : State} {m : MethodId} {args : Array Value} {below : List Frame} {meth : Method} {c : Code} {G : mx_G} (q : Int32 × mx_Mem) (CX : gq_C p R s m args meth c G b_LR_countMoved 3 (some .int) R_LR 1 0 0 20)  : ∀ (n : Nat) (v0 : Option Nat) (v1 : Int32) (v2 : Int32) (mem : mx_Mem), fl_LR_countMoved_4  n v0 v1 v2 mem = some q → ∀ (H : Heap) (locs : List Loc) (ls : Array Slot), lv_has ls 3 [(0, va_rf v0), (1, .int v1), (2, .int v2)] → mx_M vwCl G mem H → va_S (mx_A G) s.heap H locs → W p l e R s m args below meth c H locs 0 0 (MQ below (gq_Q G (some (.int q.1)) q.2) args s 0 0 (mx_A G)) (F0 m 4 ls []) := by
  obtain ⟨hx, hb, hml, hr, hown, hts, hlocks, hK, hN, hb0, hRf, hRc, hRs, hRl⟩ := id CX
  intro n
  induction n with
  | zero => intro v0 v1 v2 mem h; rw [fl_LR_countMoved_4] at h; cases h
  | succ n ih =>
    intro v0 v1 v2 mem h H locs ls hl hM hS
    rw [fl_LR_countMoved_4] at h
    refine lv_iload_n hx hb d_LR_countMoved_4 rfl (lv_at hl 2 rfl) ?_
    refine mx_aload_n hx hb d_LR_countMoved_5 rfl (lv_at hl 0 rfl) ?_
    obtain ⟨x1, e2, h⟩ := mx_b h
    refine mx_geti hx hb hts i_LR hown hK hM e2 (ci := 0) (C := R_LR) (T := T_LR) (N := 5) rfl 4 (by decide) (hts _ wd_9) d_LR_countMoved_6 ?_
    refine lv_icmp_ge (tgt := 33) hx hb d_LR_countMoved_9 (by decide) (fun c3 => ?_) (fun c3 => ?_)
    · rw [if_pos c3] at h
      refine lv_iload_n hx hb d_LR_countMoved_33 rfl (lv_at hl 1 rfl) ?_
      cases h
      exact W.iret hx hb hr (fun t ht hW => ⟨⟨rfl, by rw [ht]; exact hM⟩, hS.F ht⟩) hS.2.2 d_LR_countMoved_34
    · rw [if_neg c3] at h
      refine mx_aload_n hx hb d_LR_countMoved_12 rfl (lv_at hl 0 rfl) ?_
      obtain ⟨x4, e5, h⟩ := mx_b h
      refine mx_getr hx hb hts i_LR hown hK hM e5 (ci := 0) (C := R_LR) (T := T_LR) (N := 5) rfl 2 (by decide) (hts _ wd_6) d_LR_countMoved_13 ?_
      refine lv_iload_n hx hb d_LR_countMoved_16 rfl (lv_at hl 2 rfl) ?_
      obtain ⟨x6, e7, h⟩ := mx_b h
      refine mx_aald hx hb hK hM e7 rfl d_LR_countMoved_17 ?_
      obtain ⟨a11, e10, h⟩ := mx_b h
      obtain ⟨q8, e9, h⟩ := mx_b h
      have e12 := mx_c_eq e10
      refine W.eq (g2 := F0 m 18 ls [.ref a11]) (congrArg (fun z => F0 m 18 ls [va_rf z]) e12) ?_
      refine gq_go (va_runV (b := a11) (As := []) (rest := []) ⟨hx, hb, hml, hown, hts⟩ (c_Lo_hasMoved l G a11  _ _ e9) (cwV 0 hts (gq_gV wd_216 wd_217 wd_218 wd_66 wd_215) rfl rfl rfl (by decide +kernel) ⟨Nat.le_trans (Nat.le_of_ble_eq_true rfl) hRf, Nat.le_trans (Nat.le_of_ble_eq_true rfl) hRl⟩) (gq_preV hK hN hM hS hb0 e10 (C := R_Lo) (T := T_Lo) (N := 12) rfl) rfl rfl hl.1 rfl (lv_room (Nat.le_of_ble_eq_true rfl)) d_LR_countMoved_18 ⟨(Nat.le_trans (Nat.le_of_ble_eq_true rfl) hRc), (Nat.le_trans (Nat.le_of_ble_eq_true rfl) hRs)⟩) hS (fun H locs hM hS => ?_)
      refine W.eq (g2 := F0 m 21 ls [.int q8.1]) rfl ?_
      refine lv_if_eq (tgt := 27) hx hb d_LR_countMoved_21 (by decide) (fun c13 => ?_) (fun c13 => ?_)
      · rw [if_pos c13] at h
        refine lv_iinc (v := (v2 + 1)) (lv' := [(2, .int ((v2 + 1))), (0, va_rf v0), (1, .int v1)]) hx hb d_LR_countMoved_27 hl (k := 2) rfl rfl (by decide) rfl (fun ls hl => ?_)
        refine lv_goto (tgt := 4) hx hb d_LR_countMoved_30 (by decide) ?_
        exact ih _ _ _ _ h _ _ _ (lv_sub hl [1, 2, 0] rfl) hM hS
      · rw [if_neg c13] at h
        refine lv_iinc (v := (v1 + 1)) (lv' := [(1, .int ((v1 + 1))), (0, va_rf v0), (2, .int v2)]) hx hb d_LR_countMoved_24 hl (k := 1) rfl rfl (by decide) (by simp [mx_cat, mx_cati, mx_catl, mx_catr]) (fun ls hl => ?_)
        refine lv_iinc (v := (v2 + 1)) (lv' := [(2, .int ((v2 + 1))), (1, .int ((v1 + 1))), (0, va_rf v0)]) hx hb d_LR_countMoved_27 hl (k := 2) rfl rfl (by decide) rfl (fun ls hl => ?_)
        refine lv_goto (tgt := 4) hx hb d_LR_countMoved_30 (by decide) ?_
        exact ih _ _ _ _ h _ _ _ (lv_sub hl [2, 1, 0] rfl) hM hS
set_option maxHeartbeats 4000000 in
set_option maxRecDepth 100000 in
theorem c_LR_countMoved (l : Launch) (G : mx_G) (a0 : Nat) (mem : mx_Mem) (q : Int32 × mx_Mem) (h : f_LR_countMoved a0 mem = some q) : Met l y_LR_countMoved (gq_w y_LR_countMoved b_LR_countMoved 3 (some .int)) { frames := 1, cells := 0, slots := 0, locals := 20 } (gq_P G [.ref a0] mem) (gq_Q G (some (.int q.1)) q.2) 0 0 (mx_A G) := by
  refine Met.ofW (cc := b_LR_countMoved) (maxL := 3) (ret := (some .int)) (by decide) rfl ?_
  intro p e s m args below meth c s₁ B hml hv
  obtain ⟨rfl, hb0, hM, hK, hN⟩ := hv
  have CX : gq_C p (headSpec (gq_w y_LR_countMoved b_LR_countMoved 3 (some .int)) { frames := 1, cells := 0, slots := 0, locals := 20 }).room s m _ meth c G b_LR_countMoved 3 (some .int) R_LR 1 0 0 20 := ⟨B.exec, B.bytes, hml, B.returns, findClass_of_methodNamed B.named, fun w hw => atoms_spec (ws := gq_w y_LR_countMoved b_LR_countMoved 3 (some .int)) B.pre w (List.mem_cons_of_mem _ hw), B.notSynchronized, hK, hN, hb0, Nat.le_refl _, Nat.le_refl _, Nat.le_refl _, Nat.le_refl _⟩
  obtain ⟨hx, hb, hml, hr, hown, hts, hlocks, hK, hN, hb0, hRf, hRc, hRs, hRl⟩ := id CX
  have hS : va_S (mx_A G) s.heap s.heap [] := va_S.rf
  have hl := lv_entry [.ref a0] (n := 3) (Nat.le_of_ble_eq_true rfl)
  rw [lg_entry_eq]
  generalize (lg_sl [.ref a0] ++ List.replicate (3 - (lg_sl [.ref a0]).length) Slot.unset).toArray = ls at hl ⊢
  have hl : lv_has ls 3 [(0, va_rf (some a0))] := hl
  unfold f_LR_countMoved at h
  refine lv_iconst (v := 0) hx hb d_LR_countMoved_0 (by decide) ?_
  refine lv_istore_n (lv' := [(1, .int 0), (0, va_rf (some a0))]) hx hb d_LR_countMoved_1 rfl hl (by decide) (by simp [mx_cat, mx_cati, mx_catl, mx_catr]) (fun ls hl => ?_)
  refine lv_iconst (v := 0) hx hb d_LR_countMoved_2 (by decide) ?_
  refine lv_istore_n (lv' := [(2, .int 0), (1, .int 0), (0, va_rf (some a0))]) hx hb d_LR_countMoved_3 rfl hl (by decide) rfl (fun ls hl => ?_)
  refine wfl_LR_countMoved_4 q CX  5000 _ _ _ _ h _ _ _ (lv_sub hl [2, 1, 0] rfl) hM hS
