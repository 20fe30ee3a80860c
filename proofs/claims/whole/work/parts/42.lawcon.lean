set_option maxHeartbeats 4000000 in
set_option maxRecDepth 100000 in
theorem wfl_La_law_18 {p : Program} {l : Launch} {e : Env} {s : State} {m : MethodId} {below : List Frame} {meth : Method} {c : Code} {G : mx_G} {b L : Nat} {xs : Nat → Int32} (C0 : lw_At p s m meth c b L xs) (hK : va_K G.2.1 vwCl (gq_tys G) s) (hN : gq_N s) (hG : G.1 = s.heap.size) (q : mx_Mem) : ∀ (n : Nat) (v1 : Option Nat) (v2 : Option Nat) (v3 : Int32) (mem : mx_Mem), fl_La_law_18 L xs n v1 v2 v3 mem = some q → ∀ (cells slots : Nat), cells + n * 2 ≤ 600000 → slots + n * 16 ≤ 7302250 → ∀ (H : Heap) (locs : List Loc) (ls : Array Slot), lv_has ls 4 [(0, va_rf (some b)), (1, va_rf v1), (2, va_rf v2), (3, .int v3)] → mx_M vwCl G mem H → va_S (mx_A G) s.heap H locs → W p l e room_1 s m #[Value.ref b] below meth c H locs cells slots (lw_Z below #[Value.ref b] s) (F0 m 18 ls []) := by
  obtain ⟨hx, hb, hr, hml, hown0, hts0, hX, hbl, hlocks, hgv⟩ := id C0
  have hown : s.vm.findClass R_La = some m.cls := hown0
  have hts : ∀ w ∈ gq_tbl, w.before #[Value.ref b] s = true := fun w h => hts0 w (gq_tbl_in w h)
  have hb0 : G.1 ≤ s.heap.size := Nat.le_of_eq hG
  have hbA : ¬ mx_A G b := by unfold mx_A; omega
  have hRf : 7 ≤ room_1.frames := Nat.le_refl _
  have hRl : 240 ≤ room_1.locals := Nat.le_refl _
  intro n
  induction n with
  | zero => intro v1 v2 v3 mem h; rw [fl_La_law_18] at h; cases h
  | succ n ih =>
    intro v1 v2 v3 mem h cells slots hcc hss H locs ls hl hM hS
    rw [fl_La_law_18] at h
    refine lv_iload_n hx hb d_La_law_18 rfl (lv_at hl 3 rfl) ?_
    refine mx_aload_n hx hb d_La_law_19 rfl (lv_at hl 0 rfl) ?_
    refine va_slen hx hb hX hbl hbA hS d_La_law_20 ?_
    refine lv_bipush (v := 7) hx hb d_La_law_21 (by decide) ?_
    refine lv_isub hx hb d_La_law_23 ?_
    refine lv_icmp_gt (tgt := 693) hx hb d_La_law_24 (by decide) (fun c1 => ?_) (fun c1 => ?_)
    · rw [if_pos c1] at h
      refine lv_iconst (v := 1) hx hb d_La_law_693 (by decide) ?_
      cases h
      refine va_forget (fun q9 h9 => by have h8 := hS.2.2 q9 h9; unfold mx_A at h8; omega) ?_
      refine W.widen (k := 600000) (n := 7302250) (by omega) (by omega) ?_
      exact lw_ret hx hb hr hlocks d_La_law_694
    · rw [if_neg c1] at h
      refine mx_aload_n hx hb d_La_law_27 rfl (lv_at hl 0 rfl) ?_
      refine lv_iload_n hx hb d_La_law_28 rfl (lv_at hl 3 rfl) ?_
      obtain ⟨x2, e3, h⟩ := mx_b h
      refine mx_sld hx hb hX hbl hbA hS e3 d_La_law_29 ?_
      refine lv_bipush (v := 15) hx hb d_La_law_30 (by decide) ?_
      refine lv_iand hx hb d_La_law_32 ?_
      obtain ⟨x4, e5, h⟩ := mx_b h
      refine W.eq (g2 := F0 m 33 ls [.int x4]) (congrArg (fun z => F0 m 33 ls [.int z]) (Option.some.inj e5)) ?_
      by_cases c33_0 : x4 = 0
      · rw [if_pos c33_0] at h
        refine lv_tableIn (off := 63) (tgt := 96) hx hb d_La_law_33 (by rw [c33_0]; decide) (by rw [c33_0]; decide) (by rw [c33_0]; rfl) (by decide) ?_
        refine mx_aload_n hx hb d_La_law_96 rfl (lv_at hl 1 rfl) ?_
        refine mx_aload_n hx hb d_La_law_97 rfl (lv_at hl 0 rfl) ?_
        refine lv_iload_n hx hb d_La_law_98 rfl (lv_at hl 3 rfl) ?_
        refine lv_iconst (v := 1) hx hb d_La_law_99 (by decide) ?_
        refine lv_iadd hx hb d_La_law_100 ?_
        obtain ⟨x6, e7, h⟩ := mx_b h
        refine mx_sld hx hb hX hbl hbA hS e7 d_La_law_101 ?_
        refine mx_aload_n hx hb d_La_law_102 rfl (lv_at hl 0 rfl) ?_
        refine lv_iload_n hx hb d_La_law_103 rfl (lv_at hl 3 rfl) ?_
        refine lv_iconst (v := 2) hx hb d_La_law_104 (by decide) ?_
        refine lv_iadd hx hb d_La_law_105 ?_
        obtain ⟨x8, e9, h⟩ := mx_b h
        refine mx_sld hx hb hX hbl hbA hS e9 d_La_law_106 ?_
        refine mx_aload_n hx hb d_La_law_107 rfl (lv_at hl 0 rfl) ?_
        refine lv_iload_n hx hb d_La_law_108 rfl (lv_at hl 3 rfl) ?_
        refine lv_iconst (v := 3) hx hb d_La_law_109 (by decide) ?_
        refine lv_iadd hx hb d_La_law_110 ?_
        obtain ⟨x10, e11, h⟩ := mx_b h
        refine mx_sld hx hb hX hbl hbA hS e11 d_La_law_111 ?_
        refine lv_i2l hx hb d_La_law_112 rfl ?_
        refine lv_bipush (v := 32) hx hb d_La_law_113 (by decide) ?_
        refine lv_lshl hx hb d_La_law_115 rfl ?_
        refine mx_aload_n hx hb d_La_law_116 rfl (lv_at hl 0 rfl) ?_
        refine lv_iload_n hx hb d_La_law_117 rfl (lv_at hl 3 rfl) ?_
        refine lv_iconst (v := 4) hx hb d_La_law_118 (by decide) ?_
        refine lv_iadd hx hb d_La_law_119 ?_
        obtain ⟨x12, e13, h⟩ := mx_b h
        refine mx_sld hx hb hX hbl hbA hS e13 d_La_law_120 ?_
        refine lv_i2l hx hb d_La_law_121 rfl ?_
        refine lv_ldc2 (v := 4294967295) hx hb hown (hts _ wd_301) d_La_law_122 ?_
        refine lv_land hx hb d_La_law_125 ?_
        refine lv_lor hx hb d_La_law_126 ?_
        refine mx_aload_n hx hb d_La_law_127 rfl (lv_at hl 0 rfl) ?_
        refine lv_iload_n hx hb d_La_law_128 rfl (lv_at hl 3 rfl) ?_
        refine lv_iconst (v := 5) hx hb d_La_law_129 (by decide) ?_
        refine lv_iadd hx hb d_La_law_130 ?_
        obtain ⟨x14, e15, h⟩ := mx_b h
        refine mx_sld hx hb hX hbl hbA hS e15 d_La_law_131 ?_
        refine lv_i2l hx hb d_La_law_132 rfl ?_
        refine lv_bipush (v := 32) hx hb d_La_law_133 (by decide) ?_
        refine lv_lshl hx hb d_La_law_135 rfl ?_
        refine mx_aload_n hx hb d_La_law_136 rfl (lv_at hl 0 rfl) ?_
        refine lv_iload_n hx hb d_La_law_137 rfl (lv_at hl 3 rfl) ?_
        refine lv_bipush (v := 6) hx hb d_La_law_138 (by decide) ?_
        refine lv_iadd hx hb d_La_law_140 ?_
        obtain ⟨x16, e17, h⟩ := mx_b h
        refine mx_sld hx hb hX hbl hbA hS e17 d_La_law_141 ?_
        refine lv_i2l hx hb d_La_law_142 rfl ?_
        refine lv_ldc2 (v := 4294967295) hx hb hown (hts _ wd_301) d_La_law_143 ?_
        refine lv_land hx hb d_La_law_146 ?_
        refine lv_lor hx hb d_La_law_147 ?_
        obtain ⟨a21, e20, h⟩ := mx_b h
        obtain ⟨q18, e19, h⟩ := mx_b h
        have e22 := mx_c_eq e20
        refine W.eq (g2 := F0 m 148 ls [.long (((x14.toInt64 <<< ((32 : Int32).toInt64 &&& 63)) ||| (x16.toInt64 &&& 4294967295))), .long (((x10.toInt64 <<< ((32 : Int32).toInt64 &&& 63)) ||| (x12.toInt64 &&& 4294967295))), .int x8, .int x6, .ref a21]) (congrArg (fun z => F0 m 148 ls [.long (((x14.toInt64 <<< ((32 : Int32).toInt64 &&& 63)) ||| (x16.toInt64 &&& 4294967295))), .long (((x10.toInt64 <<< ((32 : Int32).toInt64 &&& 63)) ||| (x12.toInt64 &&& 4294967295))), .int x8, .int x6, va_rf z]) e22) ?_
        refine gq_go (va_runV (b := a21) (As := [.int x6, .int x8, .long (((x10.toInt64 <<< ((32 : Int32).toInt64 &&& 63)) ||| (x12.toInt64 &&& 4294967295))), .long (((x14.toInt64 <<< ((32 : Int32).toInt64 &&& 63)) ||| (x16.toInt64 &&& 4294967295)))]) (rest := []) ⟨hx, hb, hml, hown, hts⟩ (c_LR_line l G a21 x6 x8 ((x10.toInt64 <<< ((32 : Int32).toInt64 &&& 63)) ||| (x12.toInt64 &&& 4294967295)) ((x14.toInt64 <<< ((32 : Int32).toInt64 &&& 63)) ||| (x16.toInt64 &&& 4294967295)) _ _ e19) (cwV 4 hts (gq_gV wd_303 wd_304 wd_305 wd_38 wd_302) rfl rfl rfl (by decide +kernel) ⟨Nat.le_trans (Nat.le_of_ble_eq_true rfl) hRf, Nat.le_trans (Nat.le_of_ble_eq_true rfl) hRl⟩) (gq_preV hK hN hM hS hb0 e20 (C := R_LR) (T := T_LR) (N := 5) rfl) rfl rfl hl.1 rfl (lv_room (Nat.le_of_ble_eq_true rfl)) d_La_law_148 ⟨(by show _ ≤ (600000 : Nat); omega), (by show _ ≤ (7302250 : Nat); omega)⟩) hS (fun H locs hM hS => ?_)
        refine W.widen (k := cells + 1) (n := slots + 8) (by omega) (by omega) ?_
        refine W.eq (g2 := F0 m 151 ls [.int q18.1]) rfl ?_
        refine mx_aload_n hx hb d_La_law_151 rfl (lv_at hl 2 rfl) ?_
        refine mx_aload_n hx hb d_La_law_152 rfl (lv_at hl 0 rfl) ?_
        refine lv_iload_n hx hb d_La_law_153 rfl (lv_at hl 3 rfl) ?_
        refine lv_iconst (v := 1) hx hb d_La_law_154 (by decide) ?_
        refine lv_iadd hx hb d_La_law_155 ?_
        obtain ⟨x23, e24, h⟩ := mx_b h
        refine mx_sld hx hb hX hbl hbA hS e24 d_La_law_156 ?_
        refine mx_aload_n hx hb d_La_law_157 rfl (lv_at hl 0 rfl) ?_
        refine lv_iload_n hx hb d_La_law_158 rfl (lv_at hl 3 rfl) ?_
        refine lv_iconst (v := 2) hx hb d_La_law_159 (by decide) ?_
        refine lv_iadd hx hb d_La_law_160 ?_
        obtain ⟨x25, e26, h⟩ := mx_b h
        refine mx_sld hx hb hX hbl hbA hS e26 d_La_law_161 ?_
        refine mx_aload_n hx hb d_La_law_162 rfl (lv_at hl 0 rfl) ?_
        refine lv_iload_n hx hb d_La_law_163 rfl (lv_at hl 3 rfl) ?_
        refine lv_iconst (v := 3) hx hb d_La_law_164 (by decide) ?_
        refine lv_iadd hx hb d_La_law_165 ?_
        obtain ⟨x27, e28, h⟩ := mx_b h
        refine mx_sld hx hb hX hbl hbA hS e28 d_La_law_166 ?_
        refine lv_i2l hx hb d_La_law_167 rfl ?_
        refine lv_bipush (v := 32) hx hb d_La_law_168 (by decide) ?_
        refine lv_lshl hx hb d_La_law_170 rfl ?_
        refine mx_aload_n hx hb d_La_law_171 rfl (lv_at hl 0 rfl) ?_
        refine lv_iload_n hx hb d_La_law_172 rfl (lv_at hl 3 rfl) ?_
        refine lv_iconst (v := 4) hx hb d_La_law_173 (by decide) ?_
        refine lv_iadd hx hb d_La_law_174 ?_
        obtain ⟨x29, e30, h⟩ := mx_b h
        refine mx_sld hx hb hX hbl hbA hS e30 d_La_law_175 ?_
        refine lv_i2l hx hb d_La_law_176 rfl ?_
        refine lv_ldc2 (v := 4294967295) hx hb hown (hts _ wd_301) d_La_law_177 ?_
        refine lv_land hx hb d_La_law_180 ?_
        refine lv_lor hx hb d_La_law_181 ?_
        refine mx_aload_n hx hb d_La_law_182 rfl (lv_at hl 0 rfl) ?_
        refine lv_iload_n hx hb d_La_law_183 rfl (lv_at hl 3 rfl) ?_
        refine lv_iconst (v := 5) hx hb d_La_law_184 (by decide) ?_
        refine lv_iadd hx hb d_La_law_185 ?_
        obtain ⟨x31, e32, h⟩ := mx_b h
        refine mx_sld hx hb hX hbl hbA hS e32 d_La_law_186 ?_
        refine lv_i2l hx hb d_La_law_187 rfl ?_
        refine lv_bipush (v := 32) hx hb d_La_law_188 (by decide) ?_
        refine lv_lshl hx hb d_La_law_190 rfl ?_
        refine mx_aload_n hx hb d_La_law_191 rfl (lv_at hl 0 rfl) ?_
        refine lv_iload_n hx hb d_La_law_192 rfl (lv_at hl 3 rfl) ?_
        refine lv_bipush (v := 6) hx hb d_La_law_193 (by decide) ?_
        refine lv_iadd hx hb d_La_law_195 ?_
        obtain ⟨x33, e34, h⟩ := mx_b h
        refine mx_sld hx hb hX hbl hbA hS e34 d_La_law_196 ?_
        refine lv_i2l hx hb d_La_law_197 rfl ?_
        refine lv_ldc2 (v := 4294967295) hx hb hown (hts _ wd_301) d_La_law_198 ?_
        refine lv_land hx hb d_La_law_201 ?_
        refine lv_lor hx hb d_La_law_202 ?_
        obtain ⟨a38, e37, h⟩ := mx_b h
        obtain ⟨q35, e36, h⟩ := mx_b h
        have e39 := mx_c_eq e37
        refine W.eq (g2 := F0 m 203 ls [.long (((x31.toInt64 <<< ((32 : Int32).toInt64 &&& 63)) ||| (x33.toInt64 &&& 4294967295))), .long (((x27.toInt64 <<< ((32 : Int32).toInt64 &&& 63)) ||| (x29.toInt64 &&& 4294967295))), .int x25, .int x23, .ref a38, .int q18.1]) (congrArg (fun z => F0 m 203 ls [.long (((x31.toInt64 <<< ((32 : Int32).toInt64 &&& 63)) ||| (x33.toInt64 &&& 4294967295))), .long (((x27.toInt64 <<< ((32 : Int32).toInt64 &&& 63)) ||| (x29.toInt64 &&& 4294967295))), .int x25, .int x23, va_rf z, .int q18.1]) e39) ?_
        refine gq_go (va_runV (b := a38) (As := [.int x23, .int x25, .long (((x27.toInt64 <<< ((32 : Int32).toInt64 &&& 63)) ||| (x29.toInt64 &&& 4294967295))), .long (((x31.toInt64 <<< ((32 : Int32).toInt64 &&& 63)) ||| (x33.toInt64 &&& 4294967295)))]) (rest := [.int q18.1]) ⟨hx, hb, hml, hown, hts⟩ (c_Mo_line l G a38 x23 x25 ((x27.toInt64 <<< ((32 : Int32).toInt64 &&& 63)) ||| (x29.toInt64 &&& 4294967295)) ((x31.toInt64 <<< ((32 : Int32).toInt64 &&& 63)) ||| (x33.toInt64 &&& 4294967295)) _ _ e36) (cwV 4 hts (gq_gV wd_307 wd_308 wd_309 wd_114 wd_306) rfl rfl rfl (by decide +kernel) ⟨Nat.le_trans (Nat.le_of_ble_eq_true rfl) hRf, Nat.le_trans (Nat.le_of_ble_eq_true rfl) hRl⟩) (gq_preV hK hN hM hS hb0 e37 (C := R_Mo) (T := T_Mo) (N := 23) rfl) rfl rfl hl.1 rfl (lv_room (Nat.le_of_ble_eq_true rfl)) d_La_law_203 ⟨(by show _ ≤ (600000 : Nat); omega), (by show _ ≤ (7302250 : Nat); omega)⟩) hS (fun H locs hM hS => ?_)
        refine W.eq (g2 := F0 m 206 ls [.int q35.1, .int q18.1]) rfl ?_
        refine lv_icmp_eq (tgt := 687) hx hb d_La_law_206 (by decide) (fun c40 => ?_) (fun c40 => ?_)
        · rw [if_pos c40] at h
          refine lv_iinc (v := (v3 + 7)) (lv' := [(3, .int ((v3 + 7))), (0, va_rf (some b)), (1, va_rf v1), (2, va_rf v2)]) hx hb d_La_law_687 hl (k := 3) rfl rfl (by decide) (by first | rfl | simp [mx_cat, mx_cati, mx_catl, mx_catr]) (fun ls hl => ?_)
          refine lv_goto (tgt := 18) hx hb d_La_law_690 (by decide) ?_
          exact ih _ _ _ _ h _ _ (by omega) (by omega) _ _ _ (lv_sub hl [1, 2, 3, 0] rfl) hM hS
        · rw [if_neg c40] at h
          refine lv_iconst (v := 0) hx hb d_La_law_209 (by decide) ?_
          cases h
      rw [if_neg c33_0] at h
      by_cases c33_1 : x4 = 1
      · rw [if_pos c33_1] at h
        refine lv_tableIn (off := 178) (tgt := 211) hx hb d_La_law_33 (by rw [c33_1]; decide) (by rw [c33_1]; decide) (by rw [c33_1]; rfl) (by decide) ?_
        refine mx_aload_n hx hb d_La_law_211 rfl (lv_at hl 1 rfl) ?_
        refine mx_aload_n hx hb d_La_law_212 rfl (lv_at hl 0 rfl) ?_
        refine lv_iload_n hx hb d_La_law_213 rfl (lv_at hl 3 rfl) ?_
        refine lv_iconst (v := 1) hx hb d_La_law_214 (by decide) ?_
        refine lv_iadd hx hb d_La_law_215 ?_
        obtain ⟨x6, e7, h⟩ := mx_b h
        refine mx_sld hx hb hX hbl hbA hS e7 d_La_law_216 ?_
        refine mx_aload_n hx hb d_La_law_217 rfl (lv_at hl 0 rfl) ?_
        refine lv_iload_n hx hb d_La_law_218 rfl (lv_at hl 3 rfl) ?_
        refine lv_iconst (v := 2) hx hb d_La_law_219 (by decide) ?_
        refine lv_iadd hx hb d_La_law_220 ?_
        obtain ⟨x8, e9, h⟩ := mx_b h
        refine mx_sld hx hb hX hbl hbA hS e9 d_La_law_221 ?_
        refine mx_aload_n hx hb d_La_law_222 rfl (lv_at hl 0 rfl) ?_
        refine lv_iload_n hx hb d_La_law_223 rfl (lv_at hl 3 rfl) ?_
        refine lv_iconst (v := 3) hx hb d_La_law_224 (by decide) ?_
        refine lv_iadd hx hb d_La_law_225 ?_
        obtain ⟨x10, e11, h⟩ := mx_b h
        refine mx_sld hx hb hX hbl hbA hS e11 d_La_law_226 ?_
        refine lv_i2l hx hb d_La_law_227 rfl ?_
        refine lv_bipush (v := 32) hx hb d_La_law_228 (by decide) ?_
        refine lv_lshl hx hb d_La_law_230 rfl ?_
        refine mx_aload_n hx hb d_La_law_231 rfl (lv_at hl 0 rfl) ?_
        refine lv_iload_n hx hb d_La_law_232 rfl (lv_at hl 3 rfl) ?_
        refine lv_iconst (v := 4) hx hb d_La_law_233 (by decide) ?_
        refine lv_iadd hx hb d_La_law_234 ?_
        obtain ⟨x12, e13, h⟩ := mx_b h
        refine mx_sld hx hb hX hbl hbA hS e13 d_La_law_235 ?_
        refine lv_i2l hx hb d_La_law_236 rfl ?_
        refine lv_ldc2 (v := 4294967295) hx hb hown (hts _ wd_301) d_La_law_237 ?_
        refine lv_land hx hb d_La_law_240 ?_
        refine lv_lor hx hb d_La_law_241 ?_
        refine mx_aload_n hx hb d_La_law_242 rfl (lv_at hl 0 rfl) ?_
        refine lv_iload_n hx hb d_La_law_243 rfl (lv_at hl 3 rfl) ?_
        refine lv_iconst (v := 5) hx hb d_La_law_244 (by decide) ?_
        refine lv_iadd hx hb d_La_law_245 ?_
        obtain ⟨x14, e15, h⟩ := mx_b h
        refine mx_sld hx hb hX hbl hbA hS e15 d_La_law_246 ?_
        obtain ⟨a19, e18, h⟩ := mx_b h
        obtain ⟨q16, e17, h⟩ := mx_b h
        have e20 := mx_c_eq e18
        refine W.eq (g2 := F0 m 247 ls [.int x14, .long (((x10.toInt64 <<< ((32 : Int32).toInt64 &&& 63)) ||| (x12.toInt64 &&& 4294967295))), .int x8, .int x6, .ref a19]) (congrArg (fun z => F0 m 247 ls [.int x14, .long (((x10.toInt64 <<< ((32 : Int32).toInt64 &&& 63)) ||| (x12.toInt64 &&& 4294967295))), .int x8, .int x6, va_rf z]) e20) ?_
        refine gq_go (va_runV (b := a19) (As := [.int x6, .int x8, .long (((x10.toInt64 <<< ((32 : Int32).toInt64 &&& 63)) ||| (x12.toInt64 &&& 4294967295))), .int x14]) (rest := []) ⟨hx, hb, hml, hown, hts⟩ (c_LR_load l G a19 x6 x8 ((x10.toInt64 <<< ((32 : Int32).toInt64 &&& 63)) ||| (x12.toInt64 &&& 4294967295)) x14 _ _ e17) (cwV 4 hts (gq_gV wd_311 wd_312 wd_313 wd_38 wd_310) rfl rfl rfl (by decide +kernel) ⟨Nat.le_trans (Nat.le_of_ble_eq_true rfl) hRf, Nat.le_trans (Nat.le_of_ble_eq_true rfl) hRl⟩) (gq_preV hK hN hM hS hb0 e18 (C := R_LR) (T := T_LR) (N := 5) rfl) rfl rfl hl.1 rfl (lv_room (Nat.le_of_ble_eq_true rfl)) d_La_law_247 ⟨(by show _ ≤ (600000 : Nat); omega), (by show _ ≤ (7302250 : Nat); omega)⟩) hS (fun H locs hM hS => ?_)
        refine W.widen (k := cells + 2) (n := slots + 16) (by omega) (by omega) ?_
        refine W.eq (g2 := F0 m 250 ls [.int q16.1]) rfl ?_
        refine mx_aload_n hx hb d_La_law_250 rfl (lv_at hl 2 rfl) ?_
        refine mx_aload_n hx hb d_La_law_251 rfl (lv_at hl 0 rfl) ?_
        refine lv_iload_n hx hb d_La_law_252 rfl (lv_at hl 3 rfl) ?_
        refine lv_iconst (v := 1) hx hb d_La_law_253 (by decide) ?_
        refine lv_iadd hx hb d_La_law_254 ?_
        obtain ⟨x21, e22, h⟩ := mx_b h
        refine mx_sld hx hb hX hbl hbA hS e22 d_La_law_255 ?_
        refine mx_aload_n hx hb d_La_law_256 rfl (lv_at hl 0 rfl) ?_
        refine lv_iload_n hx hb d_La_law_257 rfl (lv_at hl 3 rfl) ?_
        refine lv_iconst (v := 2) hx hb d_La_law_258 (by decide) ?_
        refine lv_iadd hx hb d_La_law_259 ?_
        obtain ⟨x23, e24, h⟩ := mx_b h
        refine mx_sld hx hb hX hbl hbA hS e24 d_La_law_260 ?_
        refine mx_aload_n hx hb d_La_law_261 rfl (lv_at hl 0 rfl) ?_
        refine lv_iload_n hx hb d_La_law_262 rfl (lv_at hl 3 rfl) ?_
        refine lv_iconst (v := 3) hx hb d_La_law_263 (by decide) ?_
        refine lv_iadd hx hb d_La_law_264 ?_
        obtain ⟨x25, e26, h⟩ := mx_b h
        refine mx_sld hx hb hX hbl hbA hS e26 d_La_law_265 ?_
        refine lv_i2l hx hb d_La_law_266 rfl ?_
        refine lv_bipush (v := 32) hx hb d_La_law_267 (by decide) ?_
        refine lv_lshl hx hb d_La_law_269 rfl ?_
        refine mx_aload_n hx hb d_La_law_270 rfl (lv_at hl 0 rfl) ?_
        refine lv_iload_n hx hb d_La_law_271 rfl (lv_at hl 3 rfl) ?_
        refine lv_iconst (v := 4) hx hb d_La_law_272 (by decide) ?_
        refine lv_iadd hx hb d_La_law_273 ?_
        obtain ⟨x27, e28, h⟩ := mx_b h
        refine mx_sld hx hb hX hbl hbA hS e28 d_La_law_274 ?_
        refine lv_i2l hx hb d_La_law_275 rfl ?_
        refine lv_ldc2 (v := 4294967295) hx hb hown (hts _ wd_301) d_La_law_276 ?_
        refine lv_land hx hb d_La_law_279 ?_
        refine lv_lor hx hb d_La_law_280 ?_
        refine mx_aload_n hx hb d_La_law_281 rfl (lv_at hl 0 rfl) ?_
        refine lv_iload_n hx hb d_La_law_282 rfl (lv_at hl 3 rfl) ?_
        refine lv_iconst (v := 5) hx hb d_La_law_283 (by decide) ?_
        refine lv_iadd hx hb d_La_law_284 ?_
        obtain ⟨x29, e30, h⟩ := mx_b h
        refine mx_sld hx hb hX hbl hbA hS e30 d_La_law_285 ?_
        obtain ⟨a34, e33, h⟩ := mx_b h
        obtain ⟨q31, e32, h⟩ := mx_b h
        have e35 := mx_c_eq e33
        refine W.eq (g2 := F0 m 286 ls [.int x29, .long (((x25.toInt64 <<< ((32 : Int32).toInt64 &&& 63)) ||| (x27.toInt64 &&& 4294967295))), .int x23, .int x21, .ref a34, .int q16.1]) (congrArg (fun z => F0 m 286 ls [.int x29, .long (((x25.toInt64 <<< ((32 : Int32).toInt64 &&& 63)) ||| (x27.toInt64 &&& 4294967295))), .int x23, .int x21, va_rf z, .int q16.1]) e35) ?_
        refine gq_go (va_runV (b := a34) (As := [.int x21, .int x23, .long (((x25.toInt64 <<< ((32 : Int32).toInt64 &&& 63)) ||| (x27.toInt64 &&& 4294967295))), .int x29]) (rest := [.int q16.1]) ⟨hx, hb, hml, hown, hts⟩ (c_Mo_load l G a34 x21 x23 ((x25.toInt64 <<< ((32 : Int32).toInt64 &&& 63)) ||| (x27.toInt64 &&& 4294967295)) x29 _ _ e32) (cwV 4 hts (gq_gV wd_315 wd_316 wd_317 wd_114 wd_314) rfl rfl rfl (by decide +kernel) ⟨Nat.le_trans (Nat.le_of_ble_eq_true rfl) hRf, Nat.le_trans (Nat.le_of_ble_eq_true rfl) hRl⟩) (gq_preV hK hN hM hS hb0 e33 (C := R_Mo) (T := T_Mo) (N := 23) rfl) rfl rfl hl.1 rfl (lv_room (Nat.le_of_ble_eq_true rfl)) d_La_law_286 ⟨(by show _ ≤ (600000 : Nat); omega), (by show _ ≤ (7302250 : Nat); omega)⟩) hS (fun H locs hM hS => ?_)
        refine W.eq (g2 := F0 m 289 ls [.int q31.1, .int q16.1]) rfl ?_
        refine lv_icmp_eq (tgt := 687) hx hb d_La_law_289 (by decide) (fun c36 => ?_) (fun c36 => ?_)
        · rw [if_pos c36] at h
          refine lv_iinc (v := (v3 + 7)) (lv' := [(3, .int ((v3 + 7))), (0, va_rf (some b)), (1, va_rf v1), (2, va_rf v2)]) hx hb d_La_law_687 hl (k := 3) rfl rfl (by decide) (by first | rfl | simp [mx_cat, mx_cati, mx_catl, mx_catr]) (fun ls hl => ?_)
          refine lv_goto (tgt := 18) hx hb d_La_law_690 (by decide) ?_
          exact ih _ _ _ _ h _ _ (by omega) (by omega) _ _ _ (lv_sub hl [1, 2, 3, 0] rfl) hM hS
        · rw [if_neg c36] at h
          refine lv_iconst (v := 0) hx hb d_La_law_292 (by decide) ?_
          cases h
      rw [if_neg c33_1] at h
      by_cases c33_2 : x4 = 2
      · rw [if_pos c33_2] at h
        refine lv_tableIn (off := 261) (tgt := 294) hx hb d_La_law_33 (by rw [c33_2]; decide) (by rw [c33_2]; decide) (by rw [c33_2]; rfl) (by decide) ?_
        refine mx_aload_n hx hb d_La_law_294 rfl (lv_at hl 1 rfl) ?_
        refine mx_aload_n hx hb d_La_law_295 rfl (lv_at hl 0 rfl) ?_
        refine lv_iload_n hx hb d_La_law_296 rfl (lv_at hl 3 rfl) ?_
        refine lv_iconst (v := 1) hx hb d_La_law_297 (by decide) ?_
        refine lv_iadd hx hb d_La_law_298 ?_
        obtain ⟨x6, e7, h⟩ := mx_b h
        refine mx_sld hx hb hX hbl hbA hS e7 d_La_law_299 ?_
        refine mx_aload_n hx hb d_La_law_300 rfl (lv_at hl 0 rfl) ?_
        refine lv_iload_n hx hb d_La_law_301 rfl (lv_at hl 3 rfl) ?_
        refine lv_iconst (v := 2) hx hb d_La_law_302 (by decide) ?_
        refine lv_iadd hx hb d_La_law_303 ?_
        obtain ⟨x8, e9, h⟩ := mx_b h
        refine mx_sld hx hb hX hbl hbA hS e9 d_La_law_304 ?_
        refine mx_aload_n hx hb d_La_law_305 rfl (lv_at hl 0 rfl) ?_
        refine lv_iload_n hx hb d_La_law_306 rfl (lv_at hl 3 rfl) ?_
        refine lv_iconst (v := 3) hx hb d_La_law_307 (by decide) ?_
        refine lv_iadd hx hb d_La_law_308 ?_
        obtain ⟨x10, e11, h⟩ := mx_b h
        refine mx_sld hx hb hX hbl hbA hS e11 d_La_law_309 ?_
        refine mx_aload_n hx hb d_La_law_310 rfl (lv_at hl 0 rfl) ?_
        refine lv_iload_n hx hb d_La_law_311 rfl (lv_at hl 3 rfl) ?_
        refine lv_iconst (v := 4) hx hb d_La_law_312 (by decide) ?_
        refine lv_iadd hx hb d_La_law_313 ?_
        obtain ⟨x12, e13, h⟩ := mx_b h
        refine mx_sld hx hb hX hbl hbA hS e13 d_La_law_314 ?_
        refine lv_i2l hx hb d_La_law_315 rfl ?_
        refine lv_bipush (v := 32) hx hb d_La_law_316 (by decide) ?_
        refine lv_lshl hx hb d_La_law_318 rfl ?_
        refine mx_aload_n hx hb d_La_law_319 rfl (lv_at hl 0 rfl) ?_
        refine lv_iload_n hx hb d_La_law_320 rfl (lv_at hl 3 rfl) ?_
        refine lv_iconst (v := 5) hx hb d_La_law_321 (by decide) ?_
        refine lv_iadd hx hb d_La_law_322 ?_
        obtain ⟨x14, e15, h⟩ := mx_b h
        refine mx_sld hx hb hX hbl hbA hS e15 d_La_law_323 ?_
        refine lv_i2l hx hb d_La_law_324 rfl ?_
        refine lv_ldc2 (v := 4294967295) hx hb hown (hts _ wd_301) d_La_law_325 ?_
        refine lv_land hx hb d_La_law_328 ?_
        refine lv_lor hx hb d_La_law_329 ?_
        obtain ⟨a19, e18, h⟩ := mx_b h
        obtain ⟨q16, e17, h⟩ := mx_b h
        have e20 := mx_c_eq e18
        refine W.eq (g2 := F0 m 330 ls [.long (((x12.toInt64 <<< ((32 : Int32).toInt64 &&& 63)) ||| (x14.toInt64 &&& 4294967295))), .int x10, .int x8, .int x6, .ref a19]) (congrArg (fun z => F0 m 330 ls [.long (((x12.toInt64 <<< ((32 : Int32).toInt64 &&& 63)) ||| (x14.toInt64 &&& 4294967295))), .int x10, .int x8, .int x6, va_rf z]) e20) ?_
        refine gq_go (va_runV (b := a19) (As := [.int x6, .int x8, .int x10, .long (((x12.toInt64 <<< ((32 : Int32).toInt64 &&& 63)) ||| (x14.toInt64 &&& 4294967295)))]) (rest := []) ⟨hx, hb, hml, hown, hts⟩ (c_LR_option l G a19 x6 x8 x10 ((x12.toInt64 <<< ((32 : Int32).toInt64 &&& 63)) ||| (x14.toInt64 &&& 4294967295)) _ _ e17) (cwV 4 hts (gq_gV wd_319 wd_320 wd_321 wd_38 wd_318) rfl rfl rfl (by decide +kernel) ⟨Nat.le_trans (Nat.le_of_ble_eq_true rfl) hRf, Nat.le_trans (Nat.le_of_ble_eq_true rfl) hRl⟩) (gq_preV hK hN hM hS hb0 e18 (C := R_LR) (T := T_LR) (N := 5) rfl) rfl rfl hl.1 rfl (lv_room (Nat.le_of_ble_eq_true rfl)) d_La_law_330 ⟨(by show _ ≤ (600000 : Nat); omega), (by show _ ≤ (7302250 : Nat); omega)⟩) hS (fun H locs hM hS => ?_)
        refine W.widen (k := cells + 1) (n := slots + 3) (by omega) (by omega) ?_
        refine W.eq (g2 := F0 m 333 ls [.int q16.1]) rfl ?_
        refine mx_aload_n hx hb d_La_law_333 rfl (lv_at hl 2 rfl) ?_
        refine mx_aload_n hx hb d_La_law_334 rfl (lv_at hl 0 rfl) ?_
        refine lv_iload_n hx hb d_La_law_335 rfl (lv_at hl 3 rfl) ?_
        refine lv_iconst (v := 1) hx hb d_La_law_336 (by decide) ?_
        refine lv_iadd hx hb d_La_law_337 ?_
        obtain ⟨x21, e22, h⟩ := mx_b h
        refine mx_sld hx hb hX hbl hbA hS e22 d_La_law_338 ?_
        refine mx_aload_n hx hb d_La_law_339 rfl (lv_at hl 0 rfl) ?_
        refine lv_iload_n hx hb d_La_law_340 rfl (lv_at hl 3 rfl) ?_
        refine lv_iconst (v := 2) hx hb d_La_law_341 (by decide) ?_
        refine lv_iadd hx hb d_La_law_342 ?_
        obtain ⟨x23, e24, h⟩ := mx_b h
        refine mx_sld hx hb hX hbl hbA hS e24 d_La_law_343 ?_
        refine mx_aload_n hx hb d_La_law_344 rfl (lv_at hl 0 rfl) ?_
        refine lv_iload_n hx hb d_La_law_345 rfl (lv_at hl 3 rfl) ?_
        refine lv_iconst (v := 3) hx hb d_La_law_346 (by decide) ?_
        refine lv_iadd hx hb d_La_law_347 ?_
        obtain ⟨x25, e26, h⟩ := mx_b h
        refine mx_sld hx hb hX hbl hbA hS e26 d_La_law_348 ?_
        refine mx_aload_n hx hb d_La_law_349 rfl (lv_at hl 0 rfl) ?_
        refine lv_iload_n hx hb d_La_law_350 rfl (lv_at hl 3 rfl) ?_
        refine lv_iconst (v := 4) hx hb d_La_law_351 (by decide) ?_
        refine lv_iadd hx hb d_La_law_352 ?_
        obtain ⟨x27, e28, h⟩ := mx_b h
        refine mx_sld hx hb hX hbl hbA hS e28 d_La_law_353 ?_
        refine lv_i2l hx hb d_La_law_354 rfl ?_
        refine lv_bipush (v := 32) hx hb d_La_law_355 (by decide) ?_
        refine lv_lshl hx hb d_La_law_357 rfl ?_
        refine mx_aload_n hx hb d_La_law_358 rfl (lv_at hl 0 rfl) ?_
        refine lv_iload_n hx hb d_La_law_359 rfl (lv_at hl 3 rfl) ?_
        refine lv_iconst (v := 5) hx hb d_La_law_360 (by decide) ?_
        refine lv_iadd hx hb d_La_law_361 ?_
        obtain ⟨x29, e30, h⟩ := mx_b h
        refine mx_sld hx hb hX hbl hbA hS e30 d_La_law_362 ?_
        refine lv_i2l hx hb d_La_law_363 rfl ?_
        refine lv_ldc2 (v := 4294967295) hx hb hown (hts _ wd_301) d_La_law_364 ?_
        refine lv_land hx hb d_La_law_367 ?_
        refine lv_lor hx hb d_La_law_368 ?_
        obtain ⟨a34, e33, h⟩ := mx_b h
        obtain ⟨q31, e32, h⟩ := mx_b h
        have e35 := mx_c_eq e33
        refine W.eq (g2 := F0 m 369 ls [.long (((x27.toInt64 <<< ((32 : Int32).toInt64 &&& 63)) ||| (x29.toInt64 &&& 4294967295))), .int x25, .int x23, .int x21, .ref a34, .int q16.1]) (congrArg (fun z => F0 m 369 ls [.long (((x27.toInt64 <<< ((32 : Int32).toInt64 &&& 63)) ||| (x29.toInt64 &&& 4294967295))), .int x25, .int x23, .int x21, va_rf z, .int q16.1]) e35) ?_
        refine gq_go (va_runV (b := a34) (As := [.int x21, .int x23, .int x25, .long (((x27.toInt64 <<< ((32 : Int32).toInt64 &&& 63)) ||| (x29.toInt64 &&& 4294967295)))]) (rest := [.int q16.1]) ⟨hx, hb, hml, hown, hts⟩ (c_Mo_option l G a34 x21 x23 x25 ((x27.toInt64 <<< ((32 : Int32).toInt64 &&& 63)) ||| (x29.toInt64 &&& 4294967295)) _ _ e32) (cwV 4 hts (gq_gV wd_323 wd_324 wd_325 wd_114 wd_322) rfl rfl rfl (by decide +kernel) ⟨Nat.le_trans (Nat.le_of_ble_eq_true rfl) hRf, Nat.le_trans (Nat.le_of_ble_eq_true rfl) hRl⟩) (gq_preV hK hN hM hS hb0 e33 (C := R_Mo) (T := T_Mo) (N := 23) rfl) rfl rfl hl.1 rfl (lv_room (Nat.le_of_ble_eq_true rfl)) d_La_law_369 ⟨(by show _ ≤ (600000 : Nat); omega), (by show _ ≤ (7302250 : Nat); omega)⟩) hS (fun H locs hM hS => ?_)
        refine W.eq (g2 := F0 m 372 ls [.int q31.1, .int q16.1]) rfl ?_
        refine lv_icmp_eq (tgt := 687) hx hb d_La_law_372 (by decide) (fun c36 => ?_) (fun c36 => ?_)
        · rw [if_pos c36] at h
          refine lv_iinc (v := (v3 + 7)) (lv' := [(3, .int ((v3 + 7))), (0, va_rf (some b)), (1, va_rf v1), (2, va_rf v2)]) hx hb d_La_law_687 hl (k := 3) rfl rfl (by decide) (by first | rfl | simp [mx_cat, mx_cati, mx_catl, mx_catr]) (fun ls hl => ?_)
          refine lv_goto (tgt := 18) hx hb d_La_law_690 (by decide) ?_
          exact ih _ _ _ _ h _ _ (by omega) (by omega) _ _ _ (lv_sub hl [1, 2, 3, 0] rfl) hM hS
        · rw [if_neg c36] at h
          refine lv_iconst (v := 0) hx hb d_La_law_375 (by decide) ?_
          cases h
      rw [if_neg c33_2] at h
      by_cases c33_3 : x4 = 3
      · rw [if_pos c33_3] at h
        refine lv_tableIn (off := 344) (tgt := 377) hx hb d_La_law_33 (by rw [c33_3]; decide) (by rw [c33_3]; decide) (by rw [c33_3]; rfl) (by decide) ?_
        refine mx_aload_n hx hb d_La_law_377 rfl (lv_at hl 1 rfl) ?_
        refine mx_aload_n hx hb d_La_law_378 rfl (lv_at hl 0 rfl) ?_
        refine lv_iload_n hx hb d_La_law_379 rfl (lv_at hl 3 rfl) ?_
        refine lv_iconst (v := 1) hx hb d_La_law_380 (by decide) ?_
        refine lv_iadd hx hb d_La_law_381 ?_
        obtain ⟨x6, e7, h⟩ := mx_b h
        refine mx_sld hx hb hX hbl hbA hS e7 d_La_law_382 ?_
        refine mx_aload_n hx hb d_La_law_383 rfl (lv_at hl 0 rfl) ?_
        refine lv_iload_n hx hb d_La_law_384 rfl (lv_at hl 3 rfl) ?_
        refine lv_iconst (v := 2) hx hb d_La_law_385 (by decide) ?_
        refine lv_iadd hx hb d_La_law_386 ?_
        obtain ⟨x8, e9, h⟩ := mx_b h
        refine mx_sld hx hb hX hbl hbA hS e9 d_La_law_387 ?_
        refine lv_i2l hx hb d_La_law_388 rfl ?_
        refine lv_bipush (v := 32) hx hb d_La_law_389 (by decide) ?_
        refine lv_lshl hx hb d_La_law_391 rfl ?_
        refine mx_aload_n hx hb d_La_law_392 rfl (lv_at hl 0 rfl) ?_
        refine lv_iload_n hx hb d_La_law_393 rfl (lv_at hl 3 rfl) ?_
        refine lv_iconst (v := 3) hx hb d_La_law_394 (by decide) ?_
        refine lv_iadd hx hb d_La_law_395 ?_
        obtain ⟨x10, e11, h⟩ := mx_b h
        refine mx_sld hx hb hX hbl hbA hS e11 d_La_law_396 ?_
        refine lv_i2l hx hb d_La_law_397 rfl ?_
        refine lv_ldc2 (v := 4294967295) hx hb hown (hts _ wd_301) d_La_law_398 ?_
        refine lv_land hx hb d_La_law_401 ?_
        refine lv_lor hx hb d_La_law_402 ?_
        obtain ⟨a15, e14, h⟩ := mx_b h
        obtain ⟨q12, e13, h⟩ := mx_b h
        have e16 := mx_c_eq e14
        refine W.eq (g2 := F0 m 403 ls [.long (((x8.toInt64 <<< ((32 : Int32).toInt64 &&& 63)) ||| (x10.toInt64 &&& 4294967295))), .int x6, .ref a15]) (congrArg (fun z => F0 m 403 ls [.long (((x8.toInt64 <<< ((32 : Int32).toInt64 &&& 63)) ||| (x10.toInt64 &&& 4294967295))), .int x6, va_rf z]) e16) ?_
        refine gq_go (va_runV (b := a15) (As := [.int x6, .long (((x8.toInt64 <<< ((32 : Int32).toInt64 &&& 63)) ||| (x10.toInt64 &&& 4294967295)))]) (rest := []) ⟨hx, hb, hml, hown, hts⟩ (c_LR_waits l G a15 x6 ((x8.toInt64 <<< ((32 : Int32).toInt64 &&& 63)) ||| (x10.toInt64 &&& 4294967295)) _ _ e13) (cwV 2 hts (gq_gV wd_327 wd_328 wd_329 wd_38 wd_326) rfl rfl rfl (by decide +kernel) ⟨Nat.le_trans (Nat.le_of_ble_eq_true rfl) hRf, Nat.le_trans (Nat.le_of_ble_eq_true rfl) hRl⟩) (gq_preV hK hN hM hS hb0 e14 (C := R_LR) (T := T_LR) (N := 5) rfl) rfl rfl hl.1 rfl (lv_room (Nat.le_of_ble_eq_true rfl)) d_La_law_403 ⟨(by show _ ≤ (600000 : Nat); omega), (by show _ ≤ (7302250 : Nat); omega)⟩) hS (fun H locs hM hS => ?_)
        refine W.eq (g2 := F0 m 406 ls [.int q12.1]) rfl ?_
        refine mx_aload_n hx hb d_La_law_406 rfl (lv_at hl 2 rfl) ?_
        refine mx_aload_n hx hb d_La_law_407 rfl (lv_at hl 0 rfl) ?_
        refine lv_iload_n hx hb d_La_law_408 rfl (lv_at hl 3 rfl) ?_
        refine lv_iconst (v := 1) hx hb d_La_law_409 (by decide) ?_
        refine lv_iadd hx hb d_La_law_410 ?_
        obtain ⟨x17, e18, h⟩ := mx_b h
        refine mx_sld hx hb hX hbl hbA hS e18 d_La_law_411 ?_
        refine mx_aload_n hx hb d_La_law_412 rfl (lv_at hl 0 rfl) ?_
        refine lv_iload_n hx hb d_La_law_413 rfl (lv_at hl 3 rfl) ?_
        refine lv_iconst (v := 2) hx hb d_La_law_414 (by decide) ?_
        refine lv_iadd hx hb d_La_law_415 ?_
        obtain ⟨x19, e20, h⟩ := mx_b h
        refine mx_sld hx hb hX hbl hbA hS e20 d_La_law_416 ?_
        refine lv_i2l hx hb d_La_law_417 rfl ?_
        refine lv_bipush (v := 32) hx hb d_La_law_418 (by decide) ?_
        refine lv_lshl hx hb d_La_law_420 rfl ?_
        refine mx_aload_n hx hb d_La_law_421 rfl (lv_at hl 0 rfl) ?_
        refine lv_iload_n hx hb d_La_law_422 rfl (lv_at hl 3 rfl) ?_
        refine lv_iconst (v := 3) hx hb d_La_law_423 (by decide) ?_
        refine lv_iadd hx hb d_La_law_424 ?_
        obtain ⟨x21, e22, h⟩ := mx_b h
        refine mx_sld hx hb hX hbl hbA hS e22 d_La_law_425 ?_
        refine lv_i2l hx hb d_La_law_426 rfl ?_
        refine lv_ldc2 (v := 4294967295) hx hb hown (hts _ wd_301) d_La_law_427 ?_
        refine lv_land hx hb d_La_law_430 ?_
        refine lv_lor hx hb d_La_law_431 ?_
        obtain ⟨a26, e25, h⟩ := mx_b h
        obtain ⟨q23, e24, h⟩ := mx_b h
        have e27 := mx_c_eq e25
        refine W.eq (g2 := F0 m 432 ls [.long (((x19.toInt64 <<< ((32 : Int32).toInt64 &&& 63)) ||| (x21.toInt64 &&& 4294967295))), .int x17, .ref a26, .int q12.1]) (congrArg (fun z => F0 m 432 ls [.long (((x19.toInt64 <<< ((32 : Int32).toInt64 &&& 63)) ||| (x21.toInt64 &&& 4294967295))), .int x17, va_rf z, .int q12.1]) e27) ?_
        refine gq_go (va_runV (b := a26) (As := [.int x17, .long (((x19.toInt64 <<< ((32 : Int32).toInt64 &&& 63)) ||| (x21.toInt64 &&& 4294967295)))]) (rest := [.int q12.1]) ⟨hx, hb, hml, hown, hts⟩ (c_Mo_waits l G a26 x17 ((x19.toInt64 <<< ((32 : Int32).toInt64 &&& 63)) ||| (x21.toInt64 &&& 4294967295)) _ _ e24) (cwV 2 hts (gq_gV wd_331 wd_332 wd_333 wd_114 wd_330) rfl rfl rfl (by decide +kernel) ⟨Nat.le_trans (Nat.le_of_ble_eq_true rfl) hRf, Nat.le_trans (Nat.le_of_ble_eq_true rfl) hRl⟩) (gq_preV hK hN hM hS hb0 e25 (C := R_Mo) (T := T_Mo) (N := 23) rfl) rfl rfl hl.1 rfl (lv_room (Nat.le_of_ble_eq_true rfl)) d_La_law_432 ⟨(by show _ ≤ (600000 : Nat); omega), (by show _ ≤ (7302250 : Nat); omega)⟩) hS (fun H locs hM hS => ?_)
        refine W.eq (g2 := F0 m 435 ls [.int q23.1, .int q12.1]) rfl ?_
        refine lv_icmp_eq (tgt := 687) hx hb d_La_law_435 (by decide) (fun c28 => ?_) (fun c28 => ?_)
        · rw [if_pos c28] at h
          refine lv_iinc (v := (v3 + 7)) (lv' := [(3, .int ((v3 + 7))), (0, va_rf (some b)), (1, va_rf v1), (2, va_rf v2)]) hx hb d_La_law_687 hl (k := 3) rfl rfl (by decide) (by first | rfl | simp [mx_cat, mx_cati, mx_catl, mx_catr]) (fun ls hl => ?_)
          refine lv_goto (tgt := 18) hx hb d_La_law_690 (by decide) ?_
          exact ih _ _ _ _ h _ _ (by omega) (by omega) _ _ _ (lv_sub hl [1, 2, 3, 0] rfl) hM hS
        · rw [if_neg c28] at h
          refine lv_iconst (v := 0) hx hb d_La_law_438 (by decide) ?_
          cases h
      rw [if_neg c33_3] at h
      by_cases c33_4 : x4 = 4
      · rw [if_pos c33_4] at h
        refine lv_tableIn (off := 407) (tgt := 440) hx hb d_La_law_33 (by rw [c33_4]; decide) (by rw [c33_4]; decide) (by rw [c33_4]; rfl) (by decide) ?_
        refine mx_aload_n hx hb d_La_law_440 rfl (lv_at hl 1 rfl) ?_
        refine mx_aload_n hx hb d_La_law_441 rfl (lv_at hl 0 rfl) ?_
        refine lv_iload_n hx hb d_La_law_442 rfl (lv_at hl 3 rfl) ?_
        refine lv_iconst (v := 1) hx hb d_La_law_443 (by decide) ?_
        refine lv_iadd hx hb d_La_law_444 ?_
        obtain ⟨x6, e7, h⟩ := mx_b h
        refine mx_sld hx hb hX hbl hbA hS e7 d_La_law_445 ?_
        refine mx_aload_n hx hb d_La_law_446 rfl (lv_at hl 0 rfl) ?_
        refine lv_iload_n hx hb d_La_law_447 rfl (lv_at hl 3 rfl) ?_
        refine lv_iconst (v := 2) hx hb d_La_law_448 (by decide) ?_
        refine lv_iadd hx hb d_La_law_449 ?_
        obtain ⟨x8, e9, h⟩ := mx_b h
        refine mx_sld hx hb hX hbl hbA hS e9 d_La_law_450 ?_
        refine lv_i2l hx hb d_La_law_451 rfl ?_
        refine lv_bipush (v := 32) hx hb d_La_law_452 (by decide) ?_
        refine lv_lshl hx hb d_La_law_454 rfl ?_
        refine mx_aload_n hx hb d_La_law_455 rfl (lv_at hl 0 rfl) ?_
        refine lv_iload_n hx hb d_La_law_456 rfl (lv_at hl 3 rfl) ?_
        refine lv_iconst (v := 3) hx hb d_La_law_457 (by decide) ?_
        refine lv_iadd hx hb d_La_law_458 ?_
        obtain ⟨x10, e11, h⟩ := mx_b h
        refine mx_sld hx hb hX hbl hbA hS e11 d_La_law_459 ?_
        refine lv_i2l hx hb d_La_law_460 rfl ?_
        refine lv_ldc2 (v := 4294967295) hx hb hown (hts _ wd_301) d_La_law_461 ?_
        refine lv_land hx hb d_La_law_464 ?_
        refine lv_lor hx hb d_La_law_465 ?_
        obtain ⟨a15, e14, h⟩ := mx_b h
        obtain ⟨q12, e13, h⟩ := mx_b h
        have e16 := mx_c_eq e14
        refine W.eq (g2 := F0 m 466 ls [.long (((x8.toInt64 <<< ((32 : Int32).toInt64 &&& 63)) ||| (x10.toInt64 &&& 4294967295))), .int x6, .ref a15]) (congrArg (fun z => F0 m 466 ls [.long (((x8.toInt64 <<< ((32 : Int32).toInt64 &&& 63)) ||| (x10.toInt64 &&& 4294967295))), .int x6, va_rf z]) e16) ?_
        refine gq_go (va_runV (b := a15) (As := [.int x6, .long (((x8.toInt64 <<< ((32 : Int32).toInt64 &&& 63)) ||| (x10.toInt64 &&& 4294967295)))]) (rest := []) ⟨hx, hb, hml, hown, hts⟩ (c_LR_late l G a15 x6 ((x8.toInt64 <<< ((32 : Int32).toInt64 &&& 63)) ||| (x10.toInt64 &&& 4294967295)) _ _ e13) (cwV 2 hts (gq_gV wd_335 wd_336 wd_337 wd_38 wd_334) rfl rfl rfl (by decide +kernel) ⟨Nat.le_trans (Nat.le_of_ble_eq_true rfl) hRf, Nat.le_trans (Nat.le_of_ble_eq_true rfl) hRl⟩) (gq_preV hK hN hM hS hb0 e14 (C := R_LR) (T := T_LR) (N := 5) rfl) rfl rfl hl.1 rfl (lv_room (Nat.le_of_ble_eq_true rfl)) d_La_law_466 ⟨(by show _ ≤ (600000 : Nat); omega), (by show _ ≤ (7302250 : Nat); omega)⟩) hS (fun H locs hM hS => ?_)
        refine W.eq (g2 := F0 m 469 ls [.int q12.1]) rfl ?_
        refine mx_aload_n hx hb d_La_law_469 rfl (lv_at hl 2 rfl) ?_
        refine mx_aload_n hx hb d_La_law_470 rfl (lv_at hl 0 rfl) ?_
        refine lv_iload_n hx hb d_La_law_471 rfl (lv_at hl 3 rfl) ?_
        refine lv_iconst (v := 1) hx hb d_La_law_472 (by decide) ?_
        refine lv_iadd hx hb d_La_law_473 ?_
        obtain ⟨x17, e18, h⟩ := mx_b h
        refine mx_sld hx hb hX hbl hbA hS e18 d_La_law_474 ?_
        refine mx_aload_n hx hb d_La_law_475 rfl (lv_at hl 0 rfl) ?_
        refine lv_iload_n hx hb d_La_law_476 rfl (lv_at hl 3 rfl) ?_
        refine lv_iconst (v := 2) hx hb d_La_law_477 (by decide) ?_
        refine lv_iadd hx hb d_La_law_478 ?_
        obtain ⟨x19, e20, h⟩ := mx_b h
        refine mx_sld hx hb hX hbl hbA hS e20 d_La_law_479 ?_
        refine lv_i2l hx hb d_La_law_480 rfl ?_
        refine lv_bipush (v := 32) hx hb d_La_law_481 (by decide) ?_
        refine lv_lshl hx hb d_La_law_483 rfl ?_
        refine mx_aload_n hx hb d_La_law_484 rfl (lv_at hl 0 rfl) ?_
        refine lv_iload_n hx hb d_La_law_485 rfl (lv_at hl 3 rfl) ?_
        refine lv_iconst (v := 3) hx hb d_La_law_486 (by decide) ?_
        refine lv_iadd hx hb d_La_law_487 ?_
        obtain ⟨x21, e22, h⟩ := mx_b h
        refine mx_sld hx hb hX hbl hbA hS e22 d_La_law_488 ?_
        refine lv_i2l hx hb d_La_law_489 rfl ?_
        refine lv_ldc2 (v := 4294967295) hx hb hown (hts _ wd_301) d_La_law_490 ?_
        refine lv_land hx hb d_La_law_493 ?_
        refine lv_lor hx hb d_La_law_494 ?_
        obtain ⟨a26, e25, h⟩ := mx_b h
        obtain ⟨q23, e24, h⟩ := mx_b h
        have e27 := mx_c_eq e25
        refine W.eq (g2 := F0 m 495 ls [.long (((x19.toInt64 <<< ((32 : Int32).toInt64 &&& 63)) ||| (x21.toInt64 &&& 4294967295))), .int x17, .ref a26, .int q12.1]) (congrArg (fun z => F0 m 495 ls [.long (((x19.toInt64 <<< ((32 : Int32).toInt64 &&& 63)) ||| (x21.toInt64 &&& 4294967295))), .int x17, va_rf z, .int q12.1]) e27) ?_
        refine gq_go (va_runV (b := a26) (As := [.int x17, .long (((x19.toInt64 <<< ((32 : Int32).toInt64 &&& 63)) ||| (x21.toInt64 &&& 4294967295)))]) (rest := [.int q12.1]) ⟨hx, hb, hml, hown, hts⟩ (c_Mo_late l G a26 x17 ((x19.toInt64 <<< ((32 : Int32).toInt64 &&& 63)) ||| (x21.toInt64 &&& 4294967295)) _ _ e24) (cwV 2 hts (gq_gV wd_339 wd_340 wd_341 wd_114 wd_338) rfl rfl rfl (by decide +kernel) ⟨Nat.le_trans (Nat.le_of_ble_eq_true rfl) hRf, Nat.le_trans (Nat.le_of_ble_eq_true rfl) hRl⟩) (gq_preV hK hN hM hS hb0 e25 (C := R_Mo) (T := T_Mo) (N := 23) rfl) rfl rfl hl.1 rfl (lv_room (Nat.le_of_ble_eq_true rfl)) d_La_law_495 ⟨(by show _ ≤ (600000 : Nat); omega), (by show _ ≤ (7302250 : Nat); omega)⟩) hS (fun H locs hM hS => ?_)
        refine W.eq (g2 := F0 m 498 ls [.int q23.1, .int q12.1]) rfl ?_
        refine lv_icmp_eq (tgt := 687) hx hb d_La_law_498 (by decide) (fun c28 => ?_) (fun c28 => ?_)
        · rw [if_pos c28] at h
          refine lv_iinc (v := (v3 + 7)) (lv' := [(3, .int ((v3 + 7))), (0, va_rf (some b)), (1, va_rf v1), (2, va_rf v2)]) hx hb d_La_law_687 hl (k := 3) rfl rfl (by decide) (by first | rfl | simp [mx_cat, mx_cati, mx_catl, mx_catr]) (fun ls hl => ?_)
          refine lv_goto (tgt := 18) hx hb d_La_law_690 (by decide) ?_
          exact ih _ _ _ _ h _ _ (by omega) (by omega) _ _ _ (lv_sub hl [1, 2, 3, 0] rfl) hM hS
        · rw [if_neg c28] at h
          refine lv_iconst (v := 0) hx hb d_La_law_501 (by decide) ?_
          cases h
      rw [if_neg c33_4] at h
      by_cases c33_5 : x4 = 5
      · rw [if_pos c33_5] at h
        refine lv_tableIn (off := 470) (tgt := 503) hx hb d_La_law_33 (by rw [c33_5]; decide) (by rw [c33_5]; decide) (by rw [c33_5]; rfl) (by decide) ?_
        refine mx_aload_n hx hb d_La_law_503 rfl (lv_at hl 1 rfl) ?_
        refine mx_aload_n hx hb d_La_law_504 rfl (lv_at hl 0 rfl) ?_
        refine lv_iload_n hx hb d_La_law_505 rfl (lv_at hl 3 rfl) ?_
        refine lv_iconst (v := 1) hx hb d_La_law_506 (by decide) ?_
        refine lv_iadd hx hb d_La_law_507 ?_
        obtain ⟨x6, e7, h⟩ := mx_b h
        refine mx_sld hx hb hX hbl hbA hS e7 d_La_law_508 ?_
        refine mx_aload_n hx hb d_La_law_509 rfl (lv_at hl 0 rfl) ?_
        refine lv_iload_n hx hb d_La_law_510 rfl (lv_at hl 3 rfl) ?_
        refine lv_iconst (v := 2) hx hb d_La_law_511 (by decide) ?_
        refine lv_iadd hx hb d_La_law_512 ?_
        obtain ⟨x8, e9, h⟩ := mx_b h
        refine mx_sld hx hb hX hbl hbA hS e9 d_La_law_513 ?_
        refine lv_i2l hx hb d_La_law_514 rfl ?_
        refine lv_bipush (v := 32) hx hb d_La_law_515 (by decide) ?_
        refine lv_lshl hx hb d_La_law_517 rfl ?_
        refine mx_aload_n hx hb d_La_law_518 rfl (lv_at hl 0 rfl) ?_
        refine lv_iload_n hx hb d_La_law_519 rfl (lv_at hl 3 rfl) ?_
        refine lv_iconst (v := 3) hx hb d_La_law_520 (by decide) ?_
        refine lv_iadd hx hb d_La_law_521 ?_
        obtain ⟨x10, e11, h⟩ := mx_b h
        refine mx_sld hx hb hX hbl hbA hS e11 d_La_law_522 ?_
        refine lv_i2l hx hb d_La_law_523 rfl ?_
        refine lv_ldc2 (v := 4294967295) hx hb hown (hts _ wd_301) d_La_law_524 ?_
        refine lv_land hx hb d_La_law_527 ?_
        refine lv_lor hx hb d_La_law_528 ?_
        obtain ⟨a15, e14, h⟩ := mx_b h
        obtain ⟨q12, e13, h⟩ := mx_b h
        have e16 := mx_c_eq e14
        refine W.eq (g2 := F0 m 529 ls [.long (((x8.toInt64 <<< ((32 : Int32).toInt64 &&& 63)) ||| (x10.toInt64 &&& 4294967295))), .int x6, .ref a15]) (congrArg (fun z => F0 m 529 ls [.long (((x8.toInt64 <<< ((32 : Int32).toInt64 &&& 63)) ||| (x10.toInt64 &&& 4294967295))), .int x6, va_rf z]) e16) ?_
        refine gq_go (va_runV (b := a15) (As := [.int x6, .long (((x8.toInt64 <<< ((32 : Int32).toInt64 &&& 63)) ||| (x10.toInt64 &&& 4294967295)))]) (rest := []) ⟨hx, hb, hml, hown, hts⟩ (c_LR_tell l G a15 x6 ((x8.toInt64 <<< ((32 : Int32).toInt64 &&& 63)) ||| (x10.toInt64 &&& 4294967295)) _ _ e13) (cwV 2 hts (gq_gV wd_343 wd_344 wd_345 wd_38 wd_342) rfl rfl rfl (by decide +kernel) ⟨Nat.le_trans (Nat.le_of_ble_eq_true rfl) hRf, Nat.le_trans (Nat.le_of_ble_eq_true rfl) hRl⟩) (gq_preV hK hN hM hS hb0 e14 (C := R_LR) (T := T_LR) (N := 5) rfl) rfl rfl hl.1 rfl (lv_room (Nat.le_of_ble_eq_true rfl)) d_La_law_529 ⟨(by show _ ≤ (600000 : Nat); omega), (by show _ ≤ (7302250 : Nat); omega)⟩) hS (fun H locs hM hS => ?_)
        refine W.eq (g2 := F0 m 532 ls [.int q12.1]) rfl ?_
        refine mx_aload_n hx hb d_La_law_532 rfl (lv_at hl 2 rfl) ?_
        refine mx_aload_n hx hb d_La_law_533 rfl (lv_at hl 0 rfl) ?_
        refine lv_iload_n hx hb d_La_law_534 rfl (lv_at hl 3 rfl) ?_
        refine lv_iconst (v := 1) hx hb d_La_law_535 (by decide) ?_
        refine lv_iadd hx hb d_La_law_536 ?_
        obtain ⟨x17, e18, h⟩ := mx_b h
        refine mx_sld hx hb hX hbl hbA hS e18 d_La_law_537 ?_
        refine mx_aload_n hx hb d_La_law_538 rfl (lv_at hl 0 rfl) ?_
        refine lv_iload_n hx hb d_La_law_539 rfl (lv_at hl 3 rfl) ?_
        refine lv_iconst (v := 2) hx hb d_La_law_540 (by decide) ?_
        refine lv_iadd hx hb d_La_law_541 ?_
        obtain ⟨x19, e20, h⟩ := mx_b h
        refine mx_sld hx hb hX hbl hbA hS e20 d_La_law_542 ?_
        refine lv_i2l hx hb d_La_law_543 rfl ?_
        refine lv_bipush (v := 32) hx hb d_La_law_544 (by decide) ?_
        refine lv_lshl hx hb d_La_law_546 rfl ?_
        refine mx_aload_n hx hb d_La_law_547 rfl (lv_at hl 0 rfl) ?_
        refine lv_iload_n hx hb d_La_law_548 rfl (lv_at hl 3 rfl) ?_
        refine lv_iconst (v := 3) hx hb d_La_law_549 (by decide) ?_
        refine lv_iadd hx hb d_La_law_550 ?_
        obtain ⟨x21, e22, h⟩ := mx_b h
        refine mx_sld hx hb hX hbl hbA hS e22 d_La_law_551 ?_
        refine lv_i2l hx hb d_La_law_552 rfl ?_
        refine lv_ldc2 (v := 4294967295) hx hb hown (hts _ wd_301) d_La_law_553 ?_
        refine lv_land hx hb d_La_law_556 ?_
        refine lv_lor hx hb d_La_law_557 ?_
        obtain ⟨a26, e25, h⟩ := mx_b h
        obtain ⟨q23, e24, h⟩ := mx_b h
        have e27 := mx_c_eq e25
        refine W.eq (g2 := F0 m 558 ls [.long (((x19.toInt64 <<< ((32 : Int32).toInt64 &&& 63)) ||| (x21.toInt64 &&& 4294967295))), .int x17, .ref a26, .int q12.1]) (congrArg (fun z => F0 m 558 ls [.long (((x19.toInt64 <<< ((32 : Int32).toInt64 &&& 63)) ||| (x21.toInt64 &&& 4294967295))), .int x17, va_rf z, .int q12.1]) e27) ?_
        refine gq_go (va_runV (b := a26) (As := [.int x17, .long (((x19.toInt64 <<< ((32 : Int32).toInt64 &&& 63)) ||| (x21.toInt64 &&& 4294967295)))]) (rest := [.int q12.1]) ⟨hx, hb, hml, hown, hts⟩ (c_Mo_tell l G a26 x17 ((x19.toInt64 <<< ((32 : Int32).toInt64 &&& 63)) ||| (x21.toInt64 &&& 4294967295)) _ _ e24) (cwV 2 hts (gq_gV wd_347 wd_348 wd_349 wd_114 wd_346) rfl rfl rfl (by decide +kernel) ⟨Nat.le_trans (Nat.le_of_ble_eq_true rfl) hRf, Nat.le_trans (Nat.le_of_ble_eq_true rfl) hRl⟩) (gq_preV hK hN hM hS hb0 e25 (C := R_Mo) (T := T_Mo) (N := 23) rfl) rfl rfl hl.1 rfl (lv_room (Nat.le_of_ble_eq_true rfl)) d_La_law_558 ⟨(by show _ ≤ (600000 : Nat); omega), (by show _ ≤ (7302250 : Nat); omega)⟩) hS (fun H locs hM hS => ?_)
        refine W.eq (g2 := F0 m 561 ls [.int q23.1, .int q12.1]) rfl ?_
        refine lv_icmp_eq (tgt := 687) hx hb d_La_law_561 (by decide) (fun c28 => ?_) (fun c28 => ?_)
        · rw [if_pos c28] at h
          refine lv_iinc (v := (v3 + 7)) (lv' := [(3, .int ((v3 + 7))), (0, va_rf (some b)), (1, va_rf v1), (2, va_rf v2)]) hx hb d_La_law_687 hl (k := 3) rfl rfl (by decide) (by first | rfl | simp [mx_cat, mx_cati, mx_catl, mx_catr]) (fun ls hl => ?_)
          refine lv_goto (tgt := 18) hx hb d_La_law_690 (by decide) ?_
          exact ih _ _ _ _ h _ _ (by omega) (by omega) _ _ _ (lv_sub hl [1, 2, 3, 0] rfl) hM hS
        · rw [if_neg c28] at h
          refine lv_iconst (v := 0) hx hb d_La_law_564 (by decide) ?_
          cases h
      rw [if_neg c33_5] at h
      by_cases c33_6 : x4 = 6
      · rw [if_pos c33_6] at h
        refine lv_tableIn (off := 533) (tgt := 566) hx hb d_La_law_33 (by rw [c33_6]; decide) (by rw [c33_6]; decide) (by rw [c33_6]; rfl) (by decide) ?_
        refine mx_aload_n hx hb d_La_law_566 rfl (lv_at hl 1 rfl) ?_
        obtain ⟨a9, e8, h⟩ := mx_b h
        obtain ⟨q6, e7, h⟩ := mx_b h
        have e10 := mx_c_eq e8
        refine W.eq (g2 := F0 m 567 ls [.ref a9]) (congrArg (fun z => F0 m 567 ls [va_rf z]) e10) ?_
        refine gq_go (va_runV (b := a9) (As := []) (rest := []) ⟨hx, hb, hml, hown, hts⟩ (c_LR_solve l G a9  _ _ e7) (cwV 0 hts (gq_gV wd_351 wd_352 wd_353 wd_38 wd_350) rfl rfl rfl (by decide +kernel) ⟨Nat.le_trans (Nat.le_of_ble_eq_true rfl) hRf, Nat.le_trans (Nat.le_of_ble_eq_true rfl) hRl⟩) (gq_preV hK hN hM hS hb0 e8 (C := R_LR) (T := T_LR) (N := 5) rfl) rfl rfl hl.1 rfl (lv_room (Nat.le_of_ble_eq_true rfl)) d_La_law_567 ⟨(by show _ ≤ (600000 : Nat); omega), (by show _ ≤ (7302250 : Nat); omega)⟩) hS (fun H locs hM hS => ?_)
        refine W.eq (g2 := F0 m 570 ls [.long q6.1]) rfl ?_
        refine mx_aload_n hx hb d_La_law_570 rfl (lv_at hl 2 rfl) ?_
        obtain ⟨a14, e13, h⟩ := mx_b h
        obtain ⟨q11, e12, h⟩ := mx_b h
        have e15 := mx_c_eq e13
        refine W.eq (g2 := F0 m 571 ls [.ref a14, .long q6.1]) (congrArg (fun z => F0 m 571 ls [va_rf z, .long q6.1]) e15) ?_
        refine gq_go (va_runV (b := a14) (As := []) (rest := [.long q6.1]) ⟨hx, hb, hml, hown, hts⟩ (c_Mo_solve l G a14  _ _ e12) (cwV 0 hts (gq_gV wd_355 wd_356 wd_357 wd_114 wd_354) rfl rfl rfl (by decide +kernel) ⟨Nat.le_trans (Nat.le_of_ble_eq_true rfl) hRf, Nat.le_trans (Nat.le_of_ble_eq_true rfl) hRl⟩) (gq_preV hK hN hM hS hb0 e13 (C := R_Mo) (T := T_Mo) (N := 23) rfl) rfl rfl hl.1 rfl (lv_room (Nat.le_of_ble_eq_true rfl)) d_La_law_571 ⟨(by show _ ≤ (600000 : Nat); omega), (by show _ ≤ (7302250 : Nat); omega)⟩) hS (fun H locs hM hS => ?_)
        refine W.eq (g2 := F0 m 574 ls [.long q11.1, .long q6.1]) rfl ?_
        refine mx_lcmp_eq (tgt := 687) hx hb d_La_law_574 d_La_law_575 (by decide) (fun c16 => ?_) (fun c16 => ?_)
        · rw [if_pos c16] at h
          refine lv_iinc (v := (v3 + 7)) (lv' := [(3, .int ((v3 + 7))), (0, va_rf (some b)), (1, va_rf v1), (2, va_rf v2)]) hx hb d_La_law_687 hl (k := 3) rfl rfl (by decide) (by first | rfl | simp [mx_cat, mx_cati, mx_catl, mx_catr]) (fun ls hl => ?_)
          refine lv_goto (tgt := 18) hx hb d_La_law_690 (by decide) ?_
          exact ih _ _ _ _ h _ _ (by omega) (by omega) _ _ _ (lv_sub hl [1, 2, 3, 0] rfl) hM hS
        · rw [if_neg c16] at h
          refine lv_iconst (v := 0) hx hb d_La_law_578 (by decide) ?_
          cases h
      rw [if_neg c33_6] at h
      by_cases c33_7 : x4 = 7
      · rw [if_pos c33_7] at h
        refine lv_tableIn (off := 547) (tgt := 580) hx hb d_La_law_33 (by rw [c33_7]; decide) (by rw [c33_7]; decide) (by rw [c33_7]; rfl) (by decide) ?_
        refine mx_aload_n hx hb d_La_law_580 rfl (lv_at hl 1 rfl) ?_
        refine mx_aload_n hx hb d_La_law_581 rfl (lv_at hl 0 rfl) ?_
        refine lv_iload_n hx hb d_La_law_582 rfl (lv_at hl 3 rfl) ?_
        refine lv_iconst (v := 1) hx hb d_La_law_583 (by decide) ?_
        refine lv_iadd hx hb d_La_law_584 ?_
        obtain ⟨x6, e7, h⟩ := mx_b h
        refine mx_sld hx hb hX hbl hbA hS e7 d_La_law_585 ?_
        obtain ⟨a11, e10, h⟩ := mx_b h
        obtain ⟨q8, e9, h⟩ := mx_b h
        have e12 := mx_c_eq e10
        refine W.eq (g2 := F0 m 586 ls [.int x6, .ref a11]) (congrArg (fun z => F0 m 586 ls [.int x6, va_rf z]) e12) ?_
        refine gq_go (va_runV (b := a11) (As := [.int x6]) (rest := []) ⟨hx, hb, hml, hown, hts⟩ (c_LR_chosen l G a11 x6 _ _ e9) (cwV 1 hts (gq_gV wd_359 wd_360 wd_361 wd_38 wd_358) rfl rfl rfl (by decide +kernel) ⟨Nat.le_trans (Nat.le_of_ble_eq_true rfl) hRf, Nat.le_trans (Nat.le_of_ble_eq_true rfl) hRl⟩) (gq_preV hK hN hM hS hb0 e10 (C := R_LR) (T := T_LR) (N := 5) rfl) rfl rfl hl.1 rfl (lv_room (Nat.le_of_ble_eq_true rfl)) d_La_law_586 ⟨(by show _ ≤ (600000 : Nat); omega), (by show _ ≤ (7302250 : Nat); omega)⟩) hS (fun H locs hM hS => ?_)
        refine W.eq (g2 := F0 m 589 ls [.int q8.1]) rfl ?_
        refine mx_aload_n hx hb d_La_law_589 rfl (lv_at hl 2 rfl) ?_
        refine mx_aload_n hx hb d_La_law_590 rfl (lv_at hl 0 rfl) ?_
        refine lv_iload_n hx hb d_La_law_591 rfl (lv_at hl 3 rfl) ?_
        refine lv_iconst (v := 1) hx hb d_La_law_592 (by decide) ?_
        refine lv_iadd hx hb d_La_law_593 ?_
        obtain ⟨x13, e14, h⟩ := mx_b h
        refine mx_sld hx hb hX hbl hbA hS e14 d_La_law_594 ?_
        obtain ⟨a18, e17, h⟩ := mx_b h
        obtain ⟨q15, e16, h⟩ := mx_b h
        have e19 := mx_c_eq e17
        refine W.eq (g2 := F0 m 595 ls [.int x13, .ref a18, .int q8.1]) (congrArg (fun z => F0 m 595 ls [.int x13, va_rf z, .int q8.1]) e19) ?_
        refine gq_go (va_runV (b := a18) (As := [.int x13]) (rest := [.int q8.1]) ⟨hx, hb, hml, hown, hts⟩ (c_Mo_chosen l G a18 x13 _ _ e16) (cwV 1 hts (gq_gV wd_363 wd_364 wd_365 wd_114 wd_362) rfl rfl rfl (by decide +kernel) ⟨Nat.le_trans (Nat.le_of_ble_eq_true rfl) hRf, Nat.le_trans (Nat.le_of_ble_eq_true rfl) hRl⟩) (gq_preV hK hN hM hS hb0 e17 (C := R_Mo) (T := T_Mo) (N := 23) rfl) rfl rfl hl.1 rfl (lv_room (Nat.le_of_ble_eq_true rfl)) d_La_law_595 ⟨(by show _ ≤ (600000 : Nat); omega), (by show _ ≤ (7302250 : Nat); omega)⟩) hS (fun H locs hM hS => ?_)
        refine W.eq (g2 := F0 m 598 ls [.int q15.1, .int q8.1]) rfl ?_
        refine lv_icmp_eq (tgt := 687) hx hb d_La_law_598 (by decide) (fun c20 => ?_) (fun c20 => ?_)
        · rw [if_pos c20] at h
          refine lv_iinc (v := (v3 + 7)) (lv' := [(3, .int ((v3 + 7))), (0, va_rf (some b)), (1, va_rf v1), (2, va_rf v2)]) hx hb d_La_law_687 hl (k := 3) rfl rfl (by decide) (by first | rfl | simp [mx_cat, mx_cati, mx_catl, mx_catr]) (fun ls hl => ?_)
          refine lv_goto (tgt := 18) hx hb d_La_law_690 (by decide) ?_
          exact ih _ _ _ _ h _ _ (by omega) (by omega) _ _ _ (lv_sub hl [1, 2, 3, 0] rfl) hM hS
        · rw [if_neg c20] at h
          refine lv_iconst (v := 0) hx hb d_La_law_601 (by decide) ?_
          cases h
      rw [if_neg c33_7] at h
      by_cases c33_8 : x4 = 8
      · rw [if_pos c33_8] at h
        refine lv_tableIn (off := 570) (tgt := 603) hx hb d_La_law_33 (by rw [c33_8]; decide) (by rw [c33_8]; decide) (by rw [c33_8]; rfl) (by decide) ?_
        refine mx_aload_n hx hb d_La_law_603 rfl (lv_at hl 1 rfl) ?_
        refine mx_aload_n hx hb d_La_law_604 rfl (lv_at hl 0 rfl) ?_
        refine lv_iload_n hx hb d_La_law_605 rfl (lv_at hl 3 rfl) ?_
        refine lv_iconst (v := 1) hx hb d_La_law_606 (by decide) ?_
        refine lv_iadd hx hb d_La_law_607 ?_
        obtain ⟨x6, e7, h⟩ := mx_b h
        refine mx_sld hx hb hX hbl hbA hS e7 d_La_law_608 ?_
        obtain ⟨a11, e10, h⟩ := mx_b h
        obtain ⟨q8, e9, h⟩ := mx_b h
        have e12 := mx_c_eq e10
        refine W.eq (g2 := F0 m 609 ls [.int x6, .ref a11]) (congrArg (fun z => F0 m 609 ls [.int x6, va_rf z]) e12) ?_
        refine gq_go (va_runV (b := a11) (As := [.int x6]) (rest := []) ⟨hx, hb, hml, hown, hts⟩ (c_LR_arrival l G a11 x6 _ _ e9) (cwV 1 hts (gq_gV wd_367 wd_368 wd_369 wd_38 wd_366) rfl rfl rfl (by decide +kernel) ⟨Nat.le_trans (Nat.le_of_ble_eq_true rfl) hRf, Nat.le_trans (Nat.le_of_ble_eq_true rfl) hRl⟩) (gq_preV hK hN hM hS hb0 e10 (C := R_LR) (T := T_LR) (N := 5) rfl) rfl rfl hl.1 rfl (lv_room (Nat.le_of_ble_eq_true rfl)) d_La_law_609 ⟨(by show _ ≤ (600000 : Nat); omega), (by show _ ≤ (7302250 : Nat); omega)⟩) hS (fun H locs hM hS => ?_)
        refine W.eq (g2 := F0 m 612 ls [.long q8.1]) rfl ?_
        refine mx_aload_n hx hb d_La_law_612 rfl (lv_at hl 2 rfl) ?_
        refine mx_aload_n hx hb d_La_law_613 rfl (lv_at hl 0 rfl) ?_
        refine lv_iload_n hx hb d_La_law_614 rfl (lv_at hl 3 rfl) ?_
        refine lv_iconst (v := 1) hx hb d_La_law_615 (by decide) ?_
        refine lv_iadd hx hb d_La_law_616 ?_
        obtain ⟨x13, e14, h⟩ := mx_b h
        refine mx_sld hx hb hX hbl hbA hS e14 d_La_law_617 ?_
        obtain ⟨a18, e17, h⟩ := mx_b h
        obtain ⟨q15, e16, h⟩ := mx_b h
        have e19 := mx_c_eq e17
        refine W.eq (g2 := F0 m 618 ls [.int x13, .ref a18, .long q8.1]) (congrArg (fun z => F0 m 618 ls [.int x13, va_rf z, .long q8.1]) e19) ?_
        refine gq_go (va_runV (b := a18) (As := [.int x13]) (rest := [.long q8.1]) ⟨hx, hb, hml, hown, hts⟩ (c_Mo_arrival l G a18 x13 _ _ e16) (cwV 1 hts (gq_gV wd_371 wd_372 wd_373 wd_114 wd_370) rfl rfl rfl (by decide +kernel) ⟨Nat.le_trans (Nat.le_of_ble_eq_true rfl) hRf, Nat.le_trans (Nat.le_of_ble_eq_true rfl) hRl⟩) (gq_preV hK hN hM hS hb0 e17 (C := R_Mo) (T := T_Mo) (N := 23) rfl) rfl rfl hl.1 rfl (lv_room (Nat.le_of_ble_eq_true rfl)) d_La_law_618 ⟨(by show _ ≤ (600000 : Nat); omega), (by show _ ≤ (7302250 : Nat); omega)⟩) hS (fun H locs hM hS => ?_)
        refine W.eq (g2 := F0 m 621 ls [.long q15.1, .long q8.1]) rfl ?_
        refine mx_lcmp_eq (tgt := 687) hx hb d_La_law_621 d_La_law_622 (by decide) (fun c20 => ?_) (fun c20 => ?_)
        · rw [if_pos c20] at h
          refine lv_iinc (v := (v3 + 7)) (lv' := [(3, .int ((v3 + 7))), (0, va_rf (some b)), (1, va_rf v1), (2, va_rf v2)]) hx hb d_La_law_687 hl (k := 3) rfl rfl (by decide) (by first | rfl | simp [mx_cat, mx_cati, mx_catl, mx_catr]) (fun ls hl => ?_)
          refine lv_goto (tgt := 18) hx hb d_La_law_690 (by decide) ?_
          exact ih _ _ _ _ h _ _ (by omega) (by omega) _ _ _ (lv_sub hl [1, 2, 3, 0] rfl) hM hS
        · rw [if_neg c20] at h
          refine lv_iconst (v := 0) hx hb d_La_law_625 (by decide) ?_
          cases h
      rw [if_neg c33_8] at h
      by_cases c33_9 : x4 = 9
      · rw [if_pos c33_9] at h
        refine lv_tableIn (off := 594) (tgt := 627) hx hb d_La_law_33 (by rw [c33_9]; decide) (by rw [c33_9]; decide) (by rw [c33_9]; rfl) (by decide) ?_
        refine mx_aload_n hx hb d_La_law_627 rfl (lv_at hl 1 rfl) ?_
        refine mx_aload_n hx hb d_La_law_628 rfl (lv_at hl 0 rfl) ?_
        refine lv_iload_n hx hb d_La_law_629 rfl (lv_at hl 3 rfl) ?_
        refine lv_iconst (v := 1) hx hb d_La_law_630 (by decide) ?_
        refine lv_iadd hx hb d_La_law_631 ?_
        obtain ⟨x6, e7, h⟩ := mx_b h
        refine mx_sld hx hb hX hbl hbA hS e7 d_La_law_632 ?_
        obtain ⟨a11, e10, h⟩ := mx_b h
        obtain ⟨q8, e9, h⟩ := mx_b h
        have e12 := mx_c_eq e10
        refine W.eq (g2 := F0 m 633 ls [.int x6, .ref a11]) (congrArg (fun z => F0 m 633 ls [.int x6, va_rf z]) e12) ?_
        refine gq_go (va_runV (b := a11) (As := [.int x6]) (rest := []) ⟨hx, hb, hml, hown, hts⟩ (c_LR_departs l G a11 x6 _ _ e9) (cwV 1 hts (gq_gV wd_375 wd_376 wd_377 wd_38 wd_374) rfl rfl rfl (by decide +kernel) ⟨Nat.le_trans (Nat.le_of_ble_eq_true rfl) hRf, Nat.le_trans (Nat.le_of_ble_eq_true rfl) hRl⟩) (gq_preV hK hN hM hS hb0 e10 (C := R_LR) (T := T_LR) (N := 5) rfl) rfl rfl hl.1 rfl (lv_room (Nat.le_of_ble_eq_true rfl)) d_La_law_633 ⟨(by show _ ≤ (600000 : Nat); omega), (by show _ ≤ (7302250 : Nat); omega)⟩) hS (fun H locs hM hS => ?_)
        refine W.eq (g2 := F0 m 636 ls [.long q8.1]) rfl ?_
        refine mx_aload_n hx hb d_La_law_636 rfl (lv_at hl 2 rfl) ?_
        refine mx_aload_n hx hb d_La_law_637 rfl (lv_at hl 0 rfl) ?_
        refine lv_iload_n hx hb d_La_law_638 rfl (lv_at hl 3 rfl) ?_
        refine lv_iconst (v := 1) hx hb d_La_law_639 (by decide) ?_
        refine lv_iadd hx hb d_La_law_640 ?_
        obtain ⟨x13, e14, h⟩ := mx_b h
        refine mx_sld hx hb hX hbl hbA hS e14 d_La_law_641 ?_
        obtain ⟨a18, e17, h⟩ := mx_b h
        obtain ⟨q15, e16, h⟩ := mx_b h
        have e19 := mx_c_eq e17
        refine W.eq (g2 := F0 m 642 ls [.int x13, .ref a18, .long q8.1]) (congrArg (fun z => F0 m 642 ls [.int x13, va_rf z, .long q8.1]) e19) ?_
        refine gq_go (va_runV (b := a18) (As := [.int x13]) (rest := [.long q8.1]) ⟨hx, hb, hml, hown, hts⟩ (c_Mo_departs l G a18 x13 _ _ e16) (cwV 1 hts (gq_gV wd_379 wd_380 wd_381 wd_114 wd_378) rfl rfl rfl (by decide +kernel) ⟨Nat.le_trans (Nat.le_of_ble_eq_true rfl) hRf, Nat.le_trans (Nat.le_of_ble_eq_true rfl) hRl⟩) (gq_preV hK hN hM hS hb0 e17 (C := R_Mo) (T := T_Mo) (N := 23) rfl) rfl rfl hl.1 rfl (lv_room (Nat.le_of_ble_eq_true rfl)) d_La_law_642 ⟨(by show _ ≤ (600000 : Nat); omega), (by show _ ≤ (7302250 : Nat); omega)⟩) hS (fun H locs hM hS => ?_)
        refine W.eq (g2 := F0 m 645 ls [.long q15.1, .long q8.1]) rfl ?_
        refine mx_lcmp_eq (tgt := 687) hx hb d_La_law_645 d_La_law_646 (by decide) (fun c20 => ?_) (fun c20 => ?_)
        · rw [if_pos c20] at h
          refine lv_iinc (v := (v3 + 7)) (lv' := [(3, .int ((v3 + 7))), (0, va_rf (some b)), (1, va_rf v1), (2, va_rf v2)]) hx hb d_La_law_687 hl (k := 3) rfl rfl (by decide) (by first | rfl | simp [mx_cat, mx_cati, mx_catl, mx_catr]) (fun ls hl => ?_)
          refine lv_goto (tgt := 18) hx hb d_La_law_690 (by decide) ?_
          exact ih _ _ _ _ h _ _ (by omega) (by omega) _ _ _ (lv_sub hl [1, 2, 3, 0] rfl) hM hS
        · rw [if_neg c20] at h
          refine lv_iconst (v := 0) hx hb d_La_law_649 (by decide) ?_
          cases h
      rw [if_neg c33_9] at h
      by_cases c33_10 : x4 = 10
      · rw [if_pos c33_10] at h
        refine lv_tableIn (off := 618) (tgt := 651) hx hb d_La_law_33 (by rw [c33_10]; decide) (by rw [c33_10]; decide) (by rw [c33_10]; rfl) (by decide) ?_
        refine mx_aload_n hx hb d_La_law_651 rfl (lv_at hl 1 rfl) ?_
        refine mx_aload_n hx hb d_La_law_652 rfl (lv_at hl 0 rfl) ?_
        refine lv_iload_n hx hb d_La_law_653 rfl (lv_at hl 3 rfl) ?_
        refine lv_iconst (v := 1) hx hb d_La_law_654 (by decide) ?_
        refine lv_iadd hx hb d_La_law_655 ?_
        obtain ⟨x6, e7, h⟩ := mx_b h
        refine mx_sld hx hb hX hbl hbA hS e7 d_La_law_656 ?_
        obtain ⟨a11, e10, h⟩ := mx_b h
        obtain ⟨q8, e9, h⟩ := mx_b h
        have e12 := mx_c_eq e10
        refine W.eq (g2 := F0 m 657 ls [.int x6, .ref a11]) (congrArg (fun z => F0 m 657 ls [.int x6, va_rf z]) e12) ?_
        refine gq_go (va_runV (b := a11) (As := [.int x6]) (rest := []) ⟨hx, hb, hml, hown, hts⟩ (c_LR_none l G a11 x6 _ _ e9) (cwV 1 hts (gq_gV wd_383 wd_384 wd_385 wd_38 wd_382) rfl rfl rfl (by decide +kernel) ⟨Nat.le_trans (Nat.le_of_ble_eq_true rfl) hRf, Nat.le_trans (Nat.le_of_ble_eq_true rfl) hRl⟩) (gq_preV hK hN hM hS hb0 e10 (C := R_LR) (T := T_LR) (N := 5) rfl) rfl rfl hl.1 rfl (lv_room (Nat.le_of_ble_eq_true rfl)) d_La_law_657 ⟨(by show _ ≤ (600000 : Nat); omega), (by show _ ≤ (7302250 : Nat); omega)⟩) hS (fun H locs hM hS => ?_)
        refine W.eq (g2 := F0 m 660 ls [.int q8.1]) rfl ?_
        refine mx_aload_n hx hb d_La_law_660 rfl (lv_at hl 2 rfl) ?_
        refine mx_aload_n hx hb d_La_law_661 rfl (lv_at hl 0 rfl) ?_
        refine lv_iload_n hx hb d_La_law_662 rfl (lv_at hl 3 rfl) ?_
        refine lv_iconst (v := 1) hx hb d_La_law_663 (by decide) ?_
        refine lv_iadd hx hb d_La_law_664 ?_
        obtain ⟨x13, e14, h⟩ := mx_b h
        refine mx_sld hx hb hX hbl hbA hS e14 d_La_law_665 ?_
        obtain ⟨a18, e17, h⟩ := mx_b h
        obtain ⟨q15, e16, h⟩ := mx_b h
        have e19 := mx_c_eq e17
        refine W.eq (g2 := F0 m 666 ls [.int x13, .ref a18, .int q8.1]) (congrArg (fun z => F0 m 666 ls [.int x13, va_rf z, .int q8.1]) e19) ?_
        refine gq_go (va_runV (b := a18) (As := [.int x13]) (rest := [.int q8.1]) ⟨hx, hb, hml, hown, hts⟩ (c_Mo_none l G a18 x13 _ _ e16) (cwV 1 hts (gq_gV wd_387 wd_388 wd_389 wd_114 wd_386) rfl rfl rfl (by decide +kernel) ⟨Nat.le_trans (Nat.le_of_ble_eq_true rfl) hRf, Nat.le_trans (Nat.le_of_ble_eq_true rfl) hRl⟩) (gq_preV hK hN hM hS hb0 e17 (C := R_Mo) (T := T_Mo) (N := 23) rfl) rfl rfl hl.1 rfl (lv_room (Nat.le_of_ble_eq_true rfl)) d_La_law_666 ⟨(by show _ ≤ (600000 : Nat); omega), (by show _ ≤ (7302250 : Nat); omega)⟩) hS (fun H locs hM hS => ?_)
        refine W.eq (g2 := F0 m 669 ls [.int q15.1, .int q8.1]) rfl ?_
        refine lv_icmp_eq (tgt := 687) hx hb d_La_law_669 (by decide) (fun c20 => ?_) (fun c20 => ?_)
        · rw [if_pos c20] at h
          refine lv_iinc (v := (v3 + 7)) (lv' := [(3, .int ((v3 + 7))), (0, va_rf (some b)), (1, va_rf v1), (2, va_rf v2)]) hx hb d_La_law_687 hl (k := 3) rfl rfl (by decide) (by first | rfl | simp [mx_cat, mx_cati, mx_catl, mx_catr]) (fun ls hl => ?_)
          refine lv_goto (tgt := 18) hx hb d_La_law_690 (by decide) ?_
          exact ih _ _ _ _ h _ _ (by omega) (by omega) _ _ _ (lv_sub hl [1, 2, 3, 0] rfl) hM hS
        · rw [if_neg c20] at h
          refine lv_iconst (v := 0) hx hb d_La_law_672 (by decide) ?_
          cases h
      rw [if_neg c33_10] at h
      by_cases c33_11 : x4 = 11
      · rw [if_pos c33_11] at h
        refine lv_tableIn (off := 641) (tgt := 674) hx hb d_La_law_33 (by rw [c33_11]; decide) (by rw [c33_11]; decide) (by rw [c33_11]; rfl) (by decide) ?_
        refine mx_aload_n hx hb d_La_law_674 rfl (lv_at hl 1 rfl) ?_
        obtain ⟨a9, e8, h⟩ := mx_b h
        obtain ⟨q6, e7, h⟩ := mx_b h
        have e10 := mx_c_eq e8
        refine W.eq (g2 := F0 m 675 ls [.ref a9]) (congrArg (fun z => F0 m 675 ls [va_rf z]) e10) ?_
        refine gq_go (va_runV (b := a9) (As := []) (rest := []) ⟨hx, hb, hml, hown, hts⟩ (c_LR_acts l G a9  _ _ e7) (cwV 0 hts (gq_gV wd_391 wd_392 wd_393 wd_38 wd_390) rfl rfl rfl (by decide +kernel) ⟨Nat.le_trans (Nat.le_of_ble_eq_true rfl) hRf, Nat.le_trans (Nat.le_of_ble_eq_true rfl) hRl⟩) (gq_preV hK hN hM hS hb0 e8 (C := R_LR) (T := T_LR) (N := 5) rfl) rfl rfl hl.1 rfl (lv_room (Nat.le_of_ble_eq_true rfl)) d_La_law_675 ⟨(by show _ ≤ (600000 : Nat); omega), (by show _ ≤ (7302250 : Nat); omega)⟩) hS (fun H locs hM hS => ?_)
        refine W.eq (g2 := F0 m 678 ls [.int q6.1]) rfl ?_
        refine mx_aload_n hx hb d_La_law_678 rfl (lv_at hl 2 rfl) ?_
        obtain ⟨a14, e13, h⟩ := mx_b h
        obtain ⟨q11, e12, h⟩ := mx_b h
        have e15 := mx_c_eq e13
        refine W.eq (g2 := F0 m 679 ls [.ref a14, .int q6.1]) (congrArg (fun z => F0 m 679 ls [va_rf z, .int q6.1]) e15) ?_
        refine gq_go (va_runV (b := a14) (As := []) (rest := [.int q6.1]) ⟨hx, hb, hml, hown, hts⟩ (c_Mo_acts l G a14  _ _ e12) (cwV 0 hts (gq_gV wd_395 wd_396 wd_397 wd_114 wd_394) rfl rfl rfl (by decide +kernel) ⟨Nat.le_trans (Nat.le_of_ble_eq_true rfl) hRf, Nat.le_trans (Nat.le_of_ble_eq_true rfl) hRl⟩) (gq_preV hK hN hM hS hb0 e13 (C := R_Mo) (T := T_Mo) (N := 23) rfl) rfl rfl hl.1 rfl (lv_room (Nat.le_of_ble_eq_true rfl)) d_La_law_679 ⟨(by show _ ≤ (600000 : Nat); omega), (by show _ ≤ (7302250 : Nat); omega)⟩) hS (fun H locs hM hS => ?_)
        refine W.eq (g2 := F0 m 682 ls [.int q11.1, .int q6.1]) rfl ?_
        refine lv_icmp_eq (tgt := 687) hx hb d_La_law_682 (by decide) (fun c16 => ?_) (fun c16 => ?_)
        · rw [if_pos c16] at h
          refine lv_iinc (v := (v3 + 7)) (lv' := [(3, .int ((v3 + 7))), (0, va_rf (some b)), (1, va_rf v1), (2, va_rf v2)]) hx hb d_La_law_687 hl (k := 3) rfl rfl (by decide) (by first | rfl | simp [mx_cat, mx_cati, mx_catl, mx_catr]) (fun ls hl => ?_)
          refine lv_goto (tgt := 18) hx hb d_La_law_690 (by decide) ?_
          exact ih _ _ _ _ h _ _ (by omega) (by omega) _ _ _ (lv_sub hl [1, 2, 3, 0] rfl) hM hS
        · rw [if_neg c16] at h
          refine lv_iconst (v := 0) hx hb d_La_law_685 (by decide) ?_
          cases h
      rw [if_neg c33_11] at h
      have hout : x4.toInt < 0 ∨ (11 : Int) < x4.toInt := mx_swo (hi := 11) (by
        intro j hj
        rcases (show j = 0 ∨ j = 1 ∨ j = 2 ∨ j = 3 ∨ j = 4 ∨ j = 5 ∨ j = 6 ∨ j = 7 ∨ j = 8 ∨ j = 9 ∨ j = 10 ∨ j = 11 by omega) with rfl | rfl | rfl | rfl | rfl | rfl | rfl | rfl | rfl | rfl | rfl | rfl
        · exact c33_0
        · exact c33_1
        · exact c33_2
        · exact c33_3
        · exact c33_4
        · exact c33_5
        · exact c33_6
        · exact c33_7
        · exact c33_8
        · exact c33_9
        · exact c33_10
        · exact c33_11
        ) (by decide)
      refine lv_tableOut (tgt := 687) hx hb d_La_law_33 hout (by decide) ?_
      refine lv_iinc (v := (v3 + 7)) (lv' := [(3, .int ((v3 + 7))), (0, va_rf (some b)), (1, va_rf v1), (2, va_rf v2)]) hx hb d_La_law_687 hl (k := 3) rfl rfl (by decide) (by first | rfl | simp [mx_cat, mx_cati, mx_catl, mx_catr]) (fun ls hl => ?_)
      refine lv_goto (tgt := 18) hx hb d_La_law_690 (by decide) ?_
      exact ih _ _ _ _ h _ _ (by omega) (by omega) _ _ _ (lv_sub hl [1, 2, 3, 0] rfl) hM hS
set_option maxHeartbeats 4000000 in
set_option maxRecDepth 100000 in
theorem c_La_law {p : Program} {l : Launch} {e : Env} {s : State} {m : MethodId} {below : List Frame} {meth : Method} {c : Code} {G : mx_G} {b L : Nat} {xs : Nat → Int32} (C0 : lw_At p s m meth c b L xs) (hK : va_K G.2.1 vwCl (gq_tys G) s) (hN : gq_N s) (hG : G.1 = s.heap.size) (mem q : mx_Mem) (h : f_La_law L xs mem = some q) (hM : mx_M vwCl G mem s.heap) : W p l e room_1 s m #[Value.ref b] below meth c s.heap [] 0 0 (lw_Z below #[Value.ref b] s) (entryFrame m ([Value.ref b] : List Value).toArray 4) := by
  obtain ⟨hx, hb, hr, hml, hown0, hts0, hX, hbl, hlocks, hgv⟩ := id C0
  have hown : s.vm.findClass R_La = some m.cls := hown0
  have hts : ∀ w ∈ gq_tbl, w.before #[Value.ref b] s = true := fun w h => hts0 w (gq_tbl_in w h)
  have hb0 : G.1 ≤ s.heap.size := Nat.le_of_eq hG
  have hbA : ¬ mx_A G b := by unfold mx_A; omega
  have hRf : 7 ≤ room_1.frames := Nat.le_refl _
  have hRl : 240 ≤ room_1.locals := Nat.le_refl _
  have hS : va_S (mx_A G) s.heap s.heap [] := va_S.rf
  have hl := lv_entry [.ref b] (n := 4) (Nat.le_of_ble_eq_true rfl)
  rw [lg_entry_eq]
  generalize (lg_sl [.ref b] ++ List.replicate (4 - (lg_sl [.ref b]).length) Slot.unset).toArray = ls at hl ⊢
  have hl : lv_has ls 4 [(0, va_rf (some b))] := hl
  unfold f_La_law at h
  obtain ⟨m1, e2, h⟩ := mx_b h
  refine mx_new (ci := 0) (fs := [.null, .int 0, .null, .null, .int 0]) (C := R_LR) (T := T_LR) (N := 5) hx hb hts i_LR t_LR t_LR_ok hown (hts _ wd_291) (hts _ wd_292) (hts _ wd_38) hK hM hS hb0 rfl (fun j hj => by rcases (show j = 0 ∨ j = 1 ∨ j = 2 ∨ j = 3 ∨ j = 4 by omega) with rfl | rfl | rfl | rfl | rfl <;> rfl) e2 d_La_law_0 (by show _ ≤ (600000 : Nat); omega) (by show _ ≤ (7302250 : Nat); omega) (fun H hM hS => ?_)
  refine W.widen (k := 1) (n := 5) (by omega) (by omega) ?_
  refine lv_dup hx hb d_La_law_3 (mx_cat _) ?_
  obtain ⟨q3, e4, h⟩ := mx_b h
  refine gq_go (va_runI (b := mem.1) (As := []) (rest := [va_rf (some mem.1)]) ⟨hx, hb, hml, hown, hts⟩ (c_LR_init l G mem.1  _ _ e4) (cwI 0 hts (gq_gI wd_293) rfl rfl rfl (hts _ wd_38) (hts _ wd_294) (hts _ wd_295) rfl (by decide +kernel) ⟨Nat.le_trans (Nat.le_of_ble_eq_true rfl) hRf, Nat.le_trans (Nat.le_of_ble_eq_true rfl) hRl⟩) (gq_preS hK hN hM hS hb0) rfl rfl hl.1 rfl (lv_room (Nat.le_of_ble_eq_true rfl)) d_La_law_4 ⟨(by show _ ≤ (600000 : Nat); omega), (by show _ ≤ (7302250 : Nat); omega)⟩) hS (fun H locs hM hS => ?_)
  refine W.widen (k := 4) (n := 29) (by omega) (by omega) ?_
  refine W.eq (g2 := F0 m 7 ls [va_rf (some mem.1)]) rfl ?_
  refine mx_astore_n (lv' := [(1, va_rf (some mem.1)), (0, va_rf (some b))]) hx hb d_La_law_7 rfl hl (by decide) (by first | rfl | simp [mx_cat, mx_cati, mx_catl, mx_catr]) (fun ls hl => ?_)
  obtain ⟨m6, e7, h⟩ := mx_b h
  refine mx_new (ci := 4) (fs := [.int 0, .int 0, .null, .null, .null, .null, .null, .null, .null, .int 0, .null, .null, .null, .null, .null, .null, .null, .null, .null, .null, .null, .null, .null]) (C := R_Mo) (T := T_Mo) (N := 23) hx hb hts i_Mo t_Mo t_Mo_ok hown (hts _ wd_296) (hts _ wd_297) (hts _ wd_114) hK hM hS hb0 rfl (fun j hj => by rcases (show j = 0 ∨ j = 1 ∨ j = 2 ∨ j = 3 ∨ j = 4 ∨ j = 5 ∨ j = 6 ∨ j = 7 ∨ j = 8 ∨ j = 9 ∨ j = 10 ∨ j = 11 ∨ j = 12 ∨ j = 13 ∨ j = 14 ∨ j = 15 ∨ j = 16 ∨ j = 17 ∨ j = 18 ∨ j = 19 ∨ j = 20 ∨ j = 21 ∨ j = 22 by omega) with rfl | rfl | rfl | rfl | rfl | rfl | rfl | rfl | rfl | rfl | rfl | rfl | rfl | rfl | rfl | rfl | rfl | rfl | rfl | rfl | rfl | rfl | rfl <;> rfl) e7 d_La_law_8 (by show _ ≤ (600000 : Nat); omega) (by show _ ≤ (7302250 : Nat); omega) (fun H hM hS => ?_)
  refine W.widen (k := 5) (n := 52) (by omega) (by omega) ?_
  refine lv_dup hx hb d_La_law_11 (mx_cat _) ?_
  obtain ⟨q8, e9, h⟩ := mx_b h
  refine gq_go (va_runI (b := q3.1) (As := []) (rest := [va_rf (some q3.1)]) ⟨hx, hb, hml, hown, hts⟩ (c_Mo_init l G q3.1  _ _ e9) (cwI 0 hts (gq_gI wd_298) rfl rfl rfl (hts _ wd_114) (hts _ wd_299) (hts _ wd_300) rfl (by decide +kernel) ⟨Nat.le_trans (Nat.le_of_ble_eq_true rfl) hRf, Nat.le_trans (Nat.le_of_ble_eq_true rfl) hRl⟩) (gq_preS hK hN hM hS hb0) rfl rfl hl.1 rfl (lv_room (Nat.le_of_ble_eq_true rfl)) d_La_law_12 ⟨(by show _ ≤ (600000 : Nat); omega), (by show _ ≤ (7302250 : Nat); omega)⟩) hS (fun H locs hM hS => ?_)
  refine W.widen (k := 25) (n := 297) (by omega) (by omega) ?_
  refine W.eq (g2 := F0 m 15 ls [va_rf (some q3.1)]) rfl ?_
  refine mx_astore_n (lv' := [(2, va_rf (some q3.1)), (1, va_rf (some mem.1)), (0, va_rf (some b))]) hx hb d_La_law_15 rfl hl (by decide) (by first | rfl | simp [mx_cat, mx_cati, mx_catl, mx_catr]) (fun ls hl => ?_)
  refine lv_iconst (v := 0) hx hb d_La_law_16 (by decide) ?_
  refine lv_istore_n (lv' := [(3, .int 0), (2, va_rf (some q3.1)), (1, va_rf (some mem.1)), (0, va_rf (some b))]) hx hb d_La_law_17 rfl hl (by decide) (by first | rfl | simp [mx_cat, mx_cati, mx_catl, mx_catr]) (fun ls hl => ?_)
  exact wfl_La_law_18 C0 hK hN hG _ _ _ _ _ _ h _ _ (by decide) (by decide) _ _ _ (lv_sub hl [3, 2, 1, 0] rfl) hM hS
