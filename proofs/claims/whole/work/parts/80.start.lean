/-! THE START: the classes' and the arrays' numbers, the empty memory, and the law's walk -/
theorem st_obj {s : State} {args : Array Value} {C : String} (h : (Cond.arrayOver (.object C)).before args s = true) : ∃ cA : ClassId, ArrOfT s cA (.object C) ∧ va_RA s cA (.object C) := by
  obtain ⟨comp, cA, kA, f1, -, f3, f4, f5⟩ := Cond.arrayOver_spec h
  exact ⟨cA, fun n z => ⟨(fun k h => by cases h), kA, f3, comp, f4⟩, kA, comp, f3, f4, f1, f5⟩
theorem st_prim {s : State} {args : Array Value} {ty : FieldType} (h : (Cond.arrayClass ty).before args s = true) (hp : ∀ cA : ClassId, s.vm.findClass ("[" ++ ty.toString) = some cA → va_RA s cA ty) : ∃ cA : ClassId, ArrOfT s cA ty ∧ va_RA s cA ty := by
  obtain ⟨cA, kA, comp, f1, f2, f3⟩ := Cond.arrayClass_spec h
  exact ⟨cA, fun n z => ⟨(fun k h => by cases h), kA, f2, comp, f3⟩, hp cA f1⟩
theorem st_N {s : State} {args : Array Value} (h : ∀ w ∈ gq_nw, w.before args s = true) : gq_N s := by
  intro w hw
  have hk := gq_nest w hw
  have hs := h w hw
  cases w <;> first | exact va_Nw.of rfl hs | exact Bool.noConfusion hk | (rename_i t; cases t <;> first | exact va_AO.of hs | exact Bool.noConfusion hk)
set_option maxHeartbeats 4000000 in
set_option maxRecDepth 100000 in
theorem whole_start {p : Program} {e : Env} {s : State} {m : MethodId} {below : List Frame} {meth : Method} {c : Code} (l : Launch) {b L : Nat} {xs : Nat → Int32} (hL : L ≤ 3584) (C0 : lw_At p s m meth c b L xs) : W p l e room_1 s m #[Value.ref b] below meth c s.heap [] 0 0 (lw_Z below #[Value.ref b] s) (entryFrame m ([Value.ref b] : List Value).toArray 4) := by
  obtain ⟨q, hq⟩ := pure_law L xs s.heap.size hL
  obtain ⟨hx, hb, hr, hml, hown, hts0, hX, hbl, hlocks, hgv⟩ := id C0
  have hts : ∀ w ∈ gq_tbl, w.before #[Value.ref b] s = true := fun w h => hts0 w (gq_tbl_in w h)
  have hnw : ∀ w ∈ gq_nw, w.before #[Value.ref b] s = true := fun w h => hts0 w (gq_nw_in w h)
  obtain ⟨c0, s0, k0⟩ := u_known (C := R_LR) (T := T_LR) (N := 5) (n := 5) hts i_LR (hts _ (gq_m (w := .instantiable R_LR 5) 8 (by decide +kernel) rfl))
  obtain ⟨c1, s1, k1⟩ := u_known (C := R_Li) (T := T_Li) (N := 8) (n := 8) hts i_Li (hts _ (gq_m (w := .instantiable R_Li 8) 47 (by decide +kernel) rfl))
  obtain ⟨c2, s2, k2⟩ := u_known (C := R_Op) (T := T_Op) (N := 3) (n := 3) hts i_Op (hts _ (gq_m (w := .instantiable R_Op 3) 209 (by decide +kernel) rfl))
  obtain ⟨c3, s3, k3⟩ := u_known (C := R_Lo) (T := T_Lo) (N := 12) (n := 12) hts i_Lo (hts _ (gq_m (w := .instantiable R_Lo 12) 105 (by decide +kernel) rfl))
  obtain ⟨c4, s4, k4⟩ := u_known (C := R_Mo) (T := T_Mo) (N := 23) (n := 23) hts i_Mo (hts _ (gq_m (w := .instantiable R_Mo 23) 343 (by decide +kernel) rfl))
  obtain ⟨d0, a0⟩ := st_obj (C := "LateRoutes$Line") (hts0 _ (List.mem_append_right _ (List.mem_of_getElem? (i := 16) (by decide +kernel))))
  obtain ⟨d1, a1⟩ := st_obj (C := "LateRoutes$Load") (hts0 _ (List.mem_append_right _ (List.mem_of_getElem? (i := 18) (by decide +kernel))))
  obtain ⟨d2, a2⟩ := st_obj (C := "LateRoutes$Option") (hts0 _ (List.mem_append_right _ (List.mem_of_getElem? (i := 144) (by decide +kernel))))
  obtain ⟨d3, a3⟩ := st_prim (ty := .int) (hts0 _ (List.mem_append_right _ (List.mem_of_getElem? (i := 418) (by decide +kernel)))) (fun _ h => h)
  obtain ⟨d4, a4⟩ := st_prim (ty := .long) (hts0 _ (List.mem_append_right _ (List.mem_of_getElem? (i := 419) (by decide +kernel)))) (fun _ h => h)
  obtain ⟨d5, a5⟩ := st_prim (ty := .boolean) (hts0 _ (List.mem_append_right _ (List.mem_of_getElem? (i := 420) (by decide +kernel)))) (fun _ h => h)
  have hK : va_K (fun k => if k = 0 then c0 else if k = 1 then c1 else if k = 2 then c2 else if k = 3 then c3 else c4, fun k => if k = 0 then s0 else if k = 1 then s1 else if k = 2 then s2 else if k = 3 then s3 else s4) vwCl
      (gq_tys (s.heap.size, (fun k => if k = 0 then c0 else if k = 1 then c1 else if k = 2 then c2 else if k = 3 then c3 else c4, fun k => if k = 0 then s0 else if k = 1 then s1 else if k = 2 then s2 else if k = 3 then s3 else s4), fun k => if k = 0 then d0 else if k = 1 then d1 else if k = 2 then d2 else if k = 3 then d3 else if k = 4 then d4 else d5)) s := by
    refine ⟨fun k q hq => ?_, fun k q hq => ?_⟩
    · match k, hq with
      | 0, hq => cases hq; exact k0
      | 1, hq => cases hq; exact k1
      | 2, hq => cases hq; exact k2
      | 3, hq => cases hq; exact k3
      | 4, hq => cases hq; exact k4
      | k + 5, hq => simp [vwCl] at hq
    · match k, hq with
      | 0, hq => cases hq; exact a0
      | 1, hq => cases hq; exact a1
      | 2, hq => cases hq; exact a2
      | 3, hq => cases hq; exact a3
      | 4, hq => cases hq; exact a4
      | 5, hq => cases hq; exact a5
      | k + 6, hq => simp [gq_tys] at hq
  exact c_La_law (G := (s.heap.size, (fun k => if k = 0 then c0 else if k = 1 then c1 else if k = 2 then c2 else if k = 3 then c3 else c4, fun k => if k = 0 then s0 else if k = 1 then s1 else if k = 2 then s2 else if k = 3 then s3 else s4), fun k => if k = 0 then d0 else if k = 1 then d1 else if k = 2 then d2 else if k = 3 then d3 else if k = 4 then d4 else d5)) C0 hK (st_N hnw) rfl _ q hq ⟨rfl, fun a e h => by cases h⟩
