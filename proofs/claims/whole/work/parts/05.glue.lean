/-! GLUE: what all contracts have in common. gq_nw (the words of nest mates) and gq_tys (the array types) stand in the part before -/
theorem gq_good : ∀ w ∈ gq_tbl, (w.onTables && w.keeps) = true ∨ ∃ ty, w = .arrayClass ty := fun w h => good_of_word (List.mem_filter.mp h).2
theorem gq_tbl_in : ∀ w ∈ gq_tbl, w ∈ lw_tbl := fun w h => (List.mem_filter.mp h).1
abbrev gq_w (y : MethodName) (b : ByteArray) (n : Nat) (r : Option FieldType) : List Cond := .code y b n r :: gq_tbl
def gq_N (U : State) : Prop := ∀ w ∈ gq_nw, va_Nw w U
def gq_isNest : Cond → Bool
  | .fieldLinkNest .. => true
  | .methodLinkNest .. => true
  | .arrayOver (.object _) => true
  | _ => false
theorem gq_nest : ∀ w ∈ gq_nw, gq_isNest w = true := by decide +kernel
theorem gq_N.warm {s U : State} (hW : s.WarmedH U.vm) (h : gq_N s) : gq_N U := by
  intro w hw
  have hk := gq_nest w hw
  have hs := h w hw
  cases w <;> first | exact va_Nw.warmF hW hs | exact va_Nw.warmM hW hs | exact Bool.noConfusion hk | (rename_i t; cases t <;> first | exact va_AO.moved hW.alike hs | exact Bool.noConfusion hk)
theorem gq_N.same {u U : State} (e : u.vm = U.vm) (h : gq_N u) : gq_N U := by
  intro w hw
  have hk := gq_nest w hw
  have hs := h w hw
  have hA : u.vm.Alike U.vm := by rw [e]; exact Vm.Alike.refl _
  cases w <;> first | exact va_Nw.same rfl e hs | exact Bool.noConfusion hk | (rename_i t; cases t <;> first | exact va_AO.moved hA hs | exact Bool.noConfusion hk)
def gq_P (G : mx_G) (av : List Value) (mem : mx_Mem) : Array Value → State → Prop := va_Pc av (fun U => G.1 ≤ U.heap.size ∧ mx_M vwCl G mem U.heap ∧ va_K G.2.1 vwCl (gq_tys G) U ∧ gq_N U)
def gq_Q (G : mx_G) (v : Option Value) (mem' : mx_Mem) : Array Value → State → Outcome → State → Prop := fun _ st oc t => (oc = .returned v ∧ mx_M vwCl G mem' t.heap) ∧ va_F (mx_A G) st t
def gq_C (p : Program) (R : Room) (s : State) (m : MethodId) (args : Array Value) (meth : Method) (c : Code) (G : mx_G) (cc : ByteArray) (nL : Nat) (ret : Option FieldType) (own : String) (nf nc ns nl : Nat) : Prop :=
  p.tables.exec = Jvm.exec ∧ c.code = cc ∧ c.maxLocals = nL ∧ meth.sig.returnType = ret ∧ s.vm.findClass own = some m.cls ∧ (∀ w ∈ gq_tbl, w.before args s = true) ∧ meth.locks = false ∧ va_K G.2.1 vwCl (gq_tys G) s ∧ gq_N s ∧ G.1 ≤ s.heap.size ∧ nf ≤ R.frames ∧ nc ≤ R.cells ∧ ns ≤ R.slots ∧ nl ≤ R.locals
theorem gq_gI {y : MethodName} {b : ByteArray} {n : Nat} {r : Option FieldType} (h5 : Cond.code y b n r ∈ gq_tbl) : GoodIn gq_tbl (gq_w y b n r) := by
  intro w hw
  have h : w ∈ gq_tbl := by
    rcases List.mem_cons.mp hw with rfl | hw
    · exact h5
    · exact hw
  exact ⟨h, gq_good w h⟩
theorem gq_gV {own C : String} {idx : Nat} {y : MethodName} {b : ByteArray} {n : Nat} {r : Option FieldType} (h1 : Cond.methodLink own idx y ∈ gq_tbl) (h2 : Cond.instanceMethod y ∈ gq_tbl) (h3 : Cond.selects C y y ∈ gq_tbl) (h4 : Cond.initialized C ∈ gq_tbl) (h5 : Cond.code y b n r ∈ gq_tbl) : GoodIn gq_tbl (wsV own idx C y (gq_w y b n r)) := by
  intro w hw
  have h : w ∈ gq_tbl := by
    rcases List.mem_append.mp hw with hw | hw
    · simp only [List.mem_cons, List.not_mem_nil, or_false] at hw
      rcases hw with rfl | rfl | rfl | rfl <;> assumption
    · exact (gq_gI h5 w hw).1
  exact ⟨h, gq_good w h⟩
theorem gq_gS {own : String} {idx : Nat} {y : MethodName} {b : ByteArray} {n : Nat} {r : Option FieldType} (h1 : Cond.methodLink own idx y ∈ gq_tbl) (h2 : Cond.static y ∈ gq_tbl) (h4 : Cond.initialized own ∈ gq_tbl) (h5 : Cond.code y b n r ∈ gq_tbl) : GoodIn gq_tbl (wsS own idx y (gq_w y b n r)) := by
  intro w hw
  have h : w ∈ gq_tbl := by
    rcases List.mem_append.mp hw with hw | hw
    · simp only [List.mem_cons, List.not_mem_nil, or_false] at hw
      rcases hw with rfl | rfl | rfl <;> assumption
    · exact (gq_gI h5 w hw).1
  exact ⟨h, gq_good w h⟩
theorem gq_blind {G : mx_G} {av : List Value} {mem : mx_Mem} : FrameBlind (gq_P G av mem) := by
  intro a U g mk q
  obtain ⟨q0, q1, qM, qK, qN⟩ := q
  exact ⟨q0, q1, qM, va_K.moved (u := U) (U := U.calling g mk a) (Vm.Alike.refl U.vm) qK, gq_N.same (u := U) (U := U.calling g mk a) rfl qN⟩
section GQ
variable {p : Program} {l : Launch} {e : Env} {R : Room} {s : State} {m : MethodId} {args : Array Value} {below : List Frame} {meth : Method} {c : Code} {H : Heap} {locs : List Loc} {cells slots : Nat} {Q : State → Prop}
variable {pc : Nat} {ls : Array Slot} {rest st0 : List Value} {a : Array Value} {G : mx_G} {mem mem' : mx_Mem} {H0 : Heap} {mc ms : Nat} {As : List Value}
theorem gq_preS (hK : va_K G.2.1 vwCl (gq_tys G) s) (hN : gq_N s) (hM : mx_M vwCl G mem H) (hS : va_S (mx_A G) H0 H locs) (hb0 : G.1 ≤ H0.size) : PreS s H (gq_P G As mem) As :=
  ⟨gq_blind, fun U hU hW => ⟨rfl, by rw [hU]; exact Nat.le_trans hb0 hS.1, by rw [hU]; exact hM, va_K.moved hW.alike hK, hN.warm hW⟩⟩
theorem gq_preV (hK : va_K G.2.1 vwCl (gq_tys G) s) (hN : gq_N s) (hM : mx_M vwCl G mem H) (hS : va_S (mx_A G) H0 H locs) (hb0 : G.1 ≤ H0.size) {r : Option Nat} {ci b : Nat} (he : mx_c mem r ci = some b) {C : String} {T : u_T} {N : Nat} (hc : vwCl[ci]? = some (C, T, N)) : PreV s H C b (gq_P G (.ref b :: As) mem) As := by
  obtain ⟨fs, h1⟩ := mx_c_spec he
  have h2 := (mx_O_spec h1).2
  exact ⟨gq_blind, va_recv hK (hM.one h2) hc (q0 := 0) rfl, fun U hU hW => ⟨rfl, by rw [hU]; exact Nat.le_trans hb0 hS.1, by rw [hU]; exact hM, va_K.moved hW.alike hK, hN.warm hW⟩⟩
theorem gq_go {v : Option Value} (hr : va_Run p l e R s m args below meth c H locs cells slots mc ms (F0 m pc ls st0) rest (gq_Q G v mem' a) (mx_A G)) (hS : va_S (mx_A G) H0 H locs)
    (kk : ∀ (H1 : Heap) (locs1 : List Loc), mx_M vwCl G mem' H1 → va_S (mx_A G) H0 H1 locs1 → W p l e R s m args below meth c H1 locs1 (cells + mc) (slots + ms) Q (F0 m (pc + 3) ls (v.toList ++ rest))) : W p l e R s m args below meth c H locs cells slots Q (F0 m pc ls st0) := by
  intro T hT X
  obtain ⟨v', st₀, t, T', L, h0, X', hL, e1, e2, ⟨⟨hv, hp⟩, hz, hk⟩, st⟩ := hr T hT X
  cases hv
  rw [h0] at hz hk
  rw [← e1] at hp hz hk
  obtain ⟨t2, a1, b1⟩ := kk T'.heap (locs ++ L) hp
    ⟨Nat.le_trans hS.1 hz, fun q h1 h2 => by rw [hk q (Nat.lt_of_lt_of_le h1 hS.1) h2]; exact hS.2.1 q h1 h2, fun q hq => by
      rcases List.mem_append.mp hq with h | h
      · exact hS.2.2 q h
      · exact hL q h⟩ T' rfl X'
  exact ⟨t2, st t2 a1, b1⟩
end GQ
