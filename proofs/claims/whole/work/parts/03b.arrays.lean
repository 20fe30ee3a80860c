/-! arrays of ints, booleans and longs -/
def mx_agi (mem : mx_Mem) (r : Option Nat) (kd : Nat) (i : Int32) : Option Int32 := match mx_R mem r kd with
  | some (_, (n, .inl f)) => if 0 ≤ i ∧ i.toNatClampNeg < n then some (f i.toNatClampNeg) else none
  | _ => none
def mx_agl (mem : mx_Mem) (r : Option Nat) (kd : Nat) (i : Int32) : Option Int64 := match mx_R mem r kd with
  | some (_, (n, .inr (.inl f))) => if 0 ≤ i ∧ i.toNatClampNeg < n then some (f i.toNatClampNeg) else none
  | _ => none
def mx_asi (mem : mx_Mem) (r : Option Nat) (kd : Nat) (i : Int32) (x : Int32) : Option mx_Mem := match mx_R mem r kd with
  | some (a, (n, .inl f)) => if 0 ≤ i ∧ i.toNatClampNeg < n then some (mem.1, va_up mem.2 a (some (.inl (kd, n, .inl (upd f i.toNatClampNeg x))))) else none
  | _ => none
def mx_asl (mem : mx_Mem) (r : Option Nat) (kd : Nat) (i : Int32) (x : Int64) : Option mx_Mem := match mx_R mem r kd with
  | some (a, (n, .inr (.inl f))) => if 0 ≤ i ∧ i.toNatClampNeg < n then some (mem.1, va_up mem.2 a (some (.inl (kd, n, .inr (.inl (vp_updL f i.toNatClampNeg x)))))) else none
  | _ => none
theorem mx_agi_spec {mem : mx_Mem} {r : Option Nat} {kd : Nat} {i v : Int32} (h : mx_agi mem r kd i = some v) : ∃ (a n : Nat) (f : Nat → Int32), mx_R mem r kd = some (a, (n, .inl f)) ∧ vp_in i n ∧ v = f i.toNatClampNeg := by
  unfold mx_agi at h
  split at h
  · rename_i a n f hq
    split at h
    · rename_i hi
      cases h
      exact ⟨a, n, f, hq, mx_in hi, rfl⟩
    · cases h
  · cases h
theorem mx_agl_spec {mem : mx_Mem} {r : Option Nat} {kd : Nat} {i : Int32} {v : Int64} (h : mx_agl mem r kd i = some v) : ∃ (a n : Nat) (f : Nat → Int64), mx_R mem r kd = some (a, (n, .inr (.inl f))) ∧ vp_in i n ∧ v = f i.toNatClampNeg := by
  unfold mx_agl at h
  split at h
  · rename_i a n f hq
    split at h
    · rename_i hi
      cases h
      exact ⟨a, n, f, hq, mx_in hi, rfl⟩
    · cases h
  · cases h
theorem mx_asi_spec {mem mem' : mx_Mem} {r : Option Nat} {kd : Nat} {i x : Int32} (h : mx_asi mem r kd i x = some mem') : ∃ (a n : Nat) (f : Nat → Int32), mx_R mem r kd = some (a, (n, .inl f)) ∧ vp_in i n ∧ mem' = (mem.1, va_up mem.2 a (some (.inl (kd, n, .inl (upd f i.toNatClampNeg x))))) := by
  unfold mx_asi at h
  split at h
  · rename_i a n f hq
    split at h
    · rename_i hi
      cases h
      exact ⟨a, n, f, hq, mx_in hi, rfl⟩
    · cases h
  · cases h
theorem mx_asl_spec {mem mem' : mx_Mem} {r : Option Nat} {kd : Nat} {i : Int32} {x : Int64} (h : mx_asl mem r kd i x = some mem') : ∃ (a n : Nat) (f : Nat → Int64), mx_R mem r kd = some (a, (n, .inr (.inl f))) ∧ vp_in i n ∧ mem' = (mem.1, va_up mem.2 a (some (.inl (kd, n, .inr (.inl (vp_updL f i.toNatClampNeg x)))))) := by
  unfold mx_asl at h
  split at h
  · rename_i a n f hq
    split at h
    · rename_i hi
      cases h
      exact ⟨a, n, f, hq, mx_in hi, rfl⟩
    · cases h
  · cases h
section MXR
variable {p : Program} {l : Launch} {e : Env} {R : Room} {s : State} {m : MethodId} {args : Array Value} {below : List Frame} {meth : Method} {c : Code} {H : Heap} {locs : List Loc} {cells slots : Nat} {Q : State → Prop}
variable {cc : ByteArray} {pc : Nat} {ls : Array Slot} {rest : List Value} {cl : List vw_C} {G : mx_G} {mem mem' : mx_Mem} {H0 : Heap} {tys : List (ClassId × FieldType)}
theorem mx_iald (hexec : p.tables.exec = Jvm.exec) (hb : c.code = cc) (hK : va_K G.2.1 cl tys s) (hM : mx_M cl G mem H) {kd : Nat} {r : Option Nat} {i x : Int32} (he : mx_agi mem r kd i = some x) (ht : tys[kd]? = some (G.2.2 kd, .int)) (hdg : decode cc pc = .ok (.iaload, 1))
    (kk : W p l e R s m args below meth c H locs cells slots Q (F0 m (pc + 1) ls (.int x :: rest))) : W p l e R s m args below meth c H locs cells slots Q (F0 m pc ls (.int i :: va_rf r :: rest)) := by
  obtain ⟨a, n, f, h1, h2, rfl⟩ := mx_agi_spec he
  obtain ⟨rfl, h3⟩ := mx_R_spec h1
  exact va_iald (D := G.2.1) hexec hb hK (hM.one h3) 0 kd rfl ht h2 hdg kk
theorem mx_bald (hexec : p.tables.exec = Jvm.exec) (hb : c.code = cc) (hK : va_K G.2.1 cl tys s) (hM : mx_M cl G mem H) {kd : Nat} {r : Option Nat} {i x : Int32} (he : mx_agi mem r kd i = some x) (ht : tys[kd]? = some (G.2.2 kd, .boolean)) (hdg : decode cc pc = .ok (.baload, 1))
    (kk : W p l e R s m args below meth c H locs cells slots Q (F0 m (pc + 1) ls (.int x :: rest))) : W p l e R s m args below meth c H locs cells slots Q (F0 m pc ls (.int i :: va_rf r :: rest)) := by
  obtain ⟨a, n, f, h1, h2, rfl⟩ := mx_agi_spec he
  obtain ⟨rfl, h3⟩ := mx_R_spec h1
  exact va_zald (D := G.2.1) hexec hb hK (hM.one h3) 0 kd rfl ht h2 hdg kk
theorem mx_lald (hexec : p.tables.exec = Jvm.exec) (hb : c.code = cc) (hK : va_K G.2.1 cl tys s) (hM : mx_M cl G mem H) {kd : Nat} {r : Option Nat} {i : Int32} {x : Int64} (he : mx_agl mem r kd i = some x) (ht : tys[kd]? = some (G.2.2 kd, .long)) (hdg : decode cc pc = .ok (.laload, 1))
    (kk : W p l e R s m args below meth c H locs cells slots Q (F0 m (pc + 1) ls (.long x :: rest))) : W p l e R s m args below meth c H locs cells slots Q (F0 m pc ls (.int i :: va_rf r :: rest)) := by
  obtain ⟨a, n, f, h1, h2, rfl⟩ := mx_agl_spec he
  obtain ⟨rfl, h3⟩ := mx_R_spec h1
  exact va_lald (D := G.2.1) hexec hb hK (hM.one h3) 0 kd rfl ht h2 hdg kk
theorem mx_iast (hexec : p.tables.exec = Jvm.exec) (hb : c.code = cc) (hK : va_K G.2.1 cl tys s) (hM : mx_M cl G mem H) (hS : va_S (mx_A G) H0 H locs) {kd : Nat} {r : Option Nat} {i x : Int32} (he : mx_asi mem r kd i x = some mem') (ht : tys[kd]? = some (G.2.2 kd, .int)) (hdg : decode cc pc = .ok (.iastore, 1))
    (kk : ∀ (H1 : Heap) (locs1 : List Loc), mx_M cl G mem' H1 → va_S (mx_A G) H0 H1 locs1 → W p l e R s m args below meth c H1 locs1 cells slots Q (F0 m (pc + 1) ls rest)) : W p l e R s m args below meth c H locs cells slots Q (F0 m pc ls (.int x :: .int i :: va_rf r :: rest)) := by
  obtain ⟨a, n, f, h1, hin, rfl⟩ := mx_asi_spec he
  obtain ⟨rfl, h3⟩ := mx_R_spec h1
  have hA : H[a]? = some (vp_cell (G.2.2 kd) (n, .inl f)) := (hM.2 a _ h3).2
  refine W.iast hexec hb hA ((hK.2 kd _ ht).1 n (fun j => .int (f j))) (fun q => by cases q) (by show ¬ (i < 0 ∨ (arrV _ _ _).slots.size ≤ _); rw [arrV_size]; exact hin) rfl rfl hdg fun H1 e z oq => ?_
  refine kk H1 _ (hM.put h3 z oq ?_) (hS.put z oq (hM.2 a _ h3).1)
  show H1[a]? = some (vp_cell _ _)
  rw [e, vp_cell_i, vp_cell_i, arrV_store]
  congr 2
  funext q
  by_cases hq : q = i.toNatClampNeg
  · subst hq
    simp [updV, upd]
  · simp [updV, upd, hq]
theorem mx_bast (hexec : p.tables.exec = Jvm.exec) (hb : c.code = cc) (hK : va_K G.2.1 cl tys s) (hM : mx_M cl G mem H) (hS : va_S (mx_A G) H0 H locs) {kd : Nat} {r : Option Nat} {i x : Int32} (hz : narrow .boolean (.int x) = .int x) (he : mx_asi mem r kd i x = some mem') (ht : tys[kd]? = some (G.2.2 kd, .boolean)) (hdg : decode cc pc = .ok (.bastore, 1))
    (kk : ∀ (H1 : Heap) (locs1 : List Loc), mx_M cl G mem' H1 → va_S (mx_A G) H0 H1 locs1 → W p l e R s m args below meth c H1 locs1 cells slots Q (F0 m (pc + 1) ls rest)) : W p l e R s m args below meth c H locs cells slots Q (F0 m pc ls (.int x :: .int i :: va_rf r :: rest)) := by
  obtain ⟨a, n, f, h1, hin, rfl⟩ := mx_asi_spec he
  obtain ⟨rfl, h3⟩ := mx_R_spec h1
  have hA : H[a]? = some (vp_cell (G.2.2 kd) (n, .inl f)) := (hM.2 a _ h3).2
  refine W.zast hexec hb hA ((hK.2 kd _ ht).1 n (fun j => .int (f j))) (fun q => by cases q) (by show ¬ (i < 0 ∨ (arrV _ _ _).slots.size ≤ _); rw [arrV_size]; exact hin) rfl rfl hdg fun H1 e z oq => ?_
  refine kk H1 _ (hM.put h3 z oq ?_) (hS.put z oq (hM.2 a _ h3).1)
  show H1[a]? = some (vp_cell _ _)
  rw [e, hz, vp_cell_i, vp_cell_i, arrV_store]
  congr 2
  funext q
  by_cases hq : q = i.toNatClampNeg
  · subst hq
    simp [updV, upd]
  · simp [updV, upd, hq]
theorem mx_last (hexec : p.tables.exec = Jvm.exec) (hb : c.code = cc) (hK : va_K G.2.1 cl tys s) (hM : mx_M cl G mem H) (hS : va_S (mx_A G) H0 H locs) {kd : Nat} {r : Option Nat} {i : Int32} {x : Int64} (he : mx_asl mem r kd i x = some mem') (ht : tys[kd]? = some (G.2.2 kd, .long)) (hdg : decode cc pc = .ok (.lastore, 1))
    (kk : ∀ (H1 : Heap) (locs1 : List Loc), mx_M cl G mem' H1 → va_S (mx_A G) H0 H1 locs1 → W p l e R s m args below meth c H1 locs1 cells slots Q (F0 m (pc + 1) ls rest)) : W p l e R s m args below meth c H locs cells slots Q (F0 m pc ls (.long x :: .int i :: va_rf r :: rest)) := by
  obtain ⟨a, n, f, h1, hin, rfl⟩ := mx_asl_spec he
  obtain ⟨rfl, h3⟩ := mx_R_spec h1
  have hA : H[a]? = some (vp_cell (G.2.2 kd) (n, .inr (.inl f))) := (hM.2 a _ h3).2
  refine W.last hexec hb hA ((hK.2 kd _ ht).1 n (fun j => .long (f j))) (fun q => by cases q) (by show ¬ (i < 0 ∨ (arrV _ _ _).slots.size ≤ _); rw [arrV_size]; exact hin) rfl rfl hdg fun H1 e z oq => ?_
  refine kk H1 _ (hM.put h3 z oq ?_) (hS.put z oq (hM.2 a _ h3).1)
  show H1[a]? = some (vp_cell _ _)
  rw [e, vp_cell_l, vp_cell_l, arrV_store]
  congr 2
  funext q
  by_cases hq : q = i.toNatClampNeg
  · subst hq
    simp [updV, vp_updL]
  · simp [updV, vp_updL, hq]
theorem mx_newa (hexec : p.tables.exec = Jvm.exec) (hb : c.code = cc) {kd : Nat} {atype : ArrayType} (harr : (Cond.arrayClass (newarray.typeOf atype)).before args s = true) {ty : FieldType} (hty : newarray.typeOf atype = ty) (hK : va_K G.2.1 cl tys s) (hM : mx_M cl G mem H) (hS : va_S (mx_A G) H0 H locs) (hb0 : G.1 ≤ H0.size) (ht : tys[kd]? = some (G.2.2 kd, ty)) (hra : ∀ cA : ClassId, va_RA s cA ty → s.vm.findClass ("[" ++ ty.toString) = some cA)
    {n : Int32} {N' : Nat} {a0 : vp_A} (ha : ∀ cA : ClassId, vp_cell cA a0 = arrV cA N' (fun _ => defaultValue ty)) (hn : ¬ n < 0) (hN : n.toNatClampNeg = N') (hbytes : N' * componentBytes ty ≤ 536870912) (he : some (mx_n mem (.inl (kd, a0))) = some mem') (hdg : decode cc pc = .ok (.newarray atype, 2)) (hcells : cells + 1 ≤ R.cells) (hslots : slots + N' ≤ R.slots)
    (kk : ∀ H1 : Heap, mx_M cl G mem' H1 → va_S (mx_A G) H0 H1 locs → W p l e R s m args below meth c H1 locs (cells + 1) (slots + N') Q (F0 m (pc + 2) ls (va_rf (some mem.1) :: rest))) : W p l e R s m args below meth c H locs cells slots Q (F0 m pc ls (.int n :: rest)) := by
  cases he
  subst hty
  refine va_newaK hexec hb harr rfl hdg rfl hn hN hbytes hcells hslots hM.1 fun H1 cA e1 z1 o1 hAr hNm => ?_
  rw [← hM.1] at e1 z1 o1
  have hcA : cA = G.2.2 kd := Option.some.inj (hNm.symm.trans (hra _ (hK.2 kd _ ht).2))
  subst hcA
  exact kk H1 (hM.push (Nat.le_trans hb0 hS.1) z1 o1 (by show H1[H.size]? = some (vp_cell _ _); rw [ha]; exact e1)) (mx_S.push hS z1 o1)
end MXR
