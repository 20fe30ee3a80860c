/-! solve: class and reference answer alike -/
theorem so_S' {nl nd : Nat} {fi no ch : Nat → Nat} {bl : Nat → Nat → Nat} {A A' : Nat → Nat → Int32} {B B' : Nat → Nat → Int64} (so : so_eq nd A B A' B') {dp : Nat → Int64} {lf : Nat → Int32} {ar : Nat → Int64} (S : sp_S nl nd fi no ch bl (sv_A A ch) B dp lf ar) : sp_S nl nd fi no ch bl A' B' dp lf ar := by
  have a2 : A' 2 = sv_A A ch 2 := by rw [sv_A_n (by decide), so.1 2 (by decide) (by decide) (by decide)]
  have a9 : A' 9 = sv_A A ch 9 := by rw [sv_A_n (by decide), so.1 9 (by decide) (by decide) (by decide)]
  have a14 : A' 14 = sv_A A ch 14 := by rw [sv_A_n (by decide), so.1 14 (by decide) (by decide) (by decide)]
  have a15 : A' 15 = sv_A A ch 15 := by rw [sv_A_n (by decide), so.1 15 (by decide) (by decide) (by decide)]
  have b3 := so.2.1 3 (by decide) (by decide)
  have b4 := so.2.1 4 (by decide) (by decide)
  have b5 := so.2.1 5 (by decide) (by decide)
  have b6 := so.2.1 6 (by decide) (by decide)
  refine ⟨fun x x1 x2 => ?_, fun i i1 i2 => ?_⟩
  · rw [sp_H_B a14 a15 b3 b4 b5 b6]; exact S.1 x x1 x2
  · rw [sp_lf_B a2 a9 a14 b3 b4, sp_ar_B a2 a9 a14 b3 b4]; exact S.2 i i1 i2
set_option maxHeartbeats 2000000 in
theorem q_solve {o a : Nat} {mem : mx_Mem} (h : iv o a mem) : iv_ok o a (f_LR_solve o) (f_Mo_solve a) mem := by
  obtain ⟨th, nl, nd, fi, no, ch, bl, A, B, L, od, dp, PI, PL, h⟩ := h
  obtain ⟨m, c, V, hB, hD, hZ, O, hp, S, W, wf⟩ := id h
  have hn := V.1
  have hd := V.2.1
  have n4 : ∀ l, 1 ≤ l → l ≤ nd → no l ≤ 4 := fun l l1 l2 => (V.2.2.1 l l1 l2).2.2.2.2.1
  obtain ⟨hm, hH⟩ := sv_hex V hB
  have C0 : sg_C nd no (fun _ => 0) := fun l l1 l2 => by dsimp only; omega
  -- the class
  obtain ⟨PI1, c1, f1, R1, F1, z1, q1⟩ := c_firstL (K := fun (v0 : Option Nat) (m1 : mx_Mem) => fl_LR_solve_37  5000 v0 9223372036854775807 0 1 0 m1) hd n4 nd 5000 0 PI mem (by omega) (by omega) c
  rw [show (nI 0 : Int32) = 0 from rfl] at f1
  obtain ⟨c2, dp2, PI2, PL2, f2, C2, R2, F2, z2, p2, S2⟩ := c_solveL V hB hD O hH 4096 5000 0 9223372036854775807 0 (fun _ => 0) (fun _ => 0) false dp PI1 PL c1 (by omega) (by omega) (by omega) C0 R1 (fun l l1 l2 => (q1 l).2 (by omega) l2) (fun _ => rfl) (fun q => by cases q)
  rw [show (nI 0 : Int32) = 0 from rfl] at f2
  have M2 := m.kept (F1.tr F2)
  -- the reference
  obtain ⟨d1, g1, D1, G1⟩ := mo_p0 M2 0
  obtain ⟨A3, d3, g3, D3, G3, y3, y3'⟩ := m_firstL (K := fun (v0 : Option Nat) (m3 : mx_Mem) => fl_Mo_solve_38 (fun (v0 : Option Nat) (v1 : Int64) (m4 : mx_Mem) => fl_Mo_solve_137  5000 v0 v1 1 m4) 5000 v0 0 0 0 1 m3) hd nd 5000 1 A d1 (by omega) (by omega) (by omega) D1
  rw [show nI 1 = (1 : Int32) from rfl] at g3
  have so3 : so_eq nd A B A3 B := ⟨fun k k1 _ _ => y3 k k1, fun _ _ _ => rfl, fun l hl => (y3' l).1 (Or.inr hl)⟩
  obtain ⟨A4, B4, d4, g4, D4, G4, so4, y4⟩ := m_solveL (K := fun (v0 : Option Nat) (v1 : Int64) (m4 : mx_Mem) => fl_Mo_solve_137  5000 v0 v1 1 m4) V hB hD hH 4096 5000 0 9223372036854775807 0 0 (fun _ => 0) (fun _ => 0) false A3 B d3 (by omega) (by omega) C0 D3 so3 (fun l l1 l2 => (y3' l).2 l1 l2) (fun _ => rfl) (fun q => by cases q)
  rw [show sp_b false = 0 from rfl] at g4
  generalize sv_se hm (sv_ac no A nd) no nd 4096 9223372036854775807 0 (fun _ => 0) (fun _ => 0) = r at f2 C2 p2 S2 g4 y4
  obtain ⟨A5, d5, g5, D5, G5, y5, y5'⟩ := m_takeL (v1 := r.1) hd nd 5000 1 A4 d4 (by omega) (by omega) (by omega) D4
  rw [show nI 1 = (1 : Int32) from rfl] at g5
  have so5 : so_eq nd A B A5 B4 := ⟨fun k k1 k2 k3 => by rw [y5 k k1]; exact so4.1 k k1 k2 k3, so4.2.1, fun l hl => by rw [(y5' l).1 (Or.inr hl)]; exact so4.2.2 l hl⟩
  have h13 : ∀ l, 1 ≤ l → l ≤ nd → A5 13 l = nI (r.2 l) := fun l l1 l2 => by rw [(y5' l).2 l1 l2]; exact y4 l l1 l2
  have G := ((G1.tr G3).tr G4).tr G5
  refine ⟨r.1, c2, d5, ?_, ?_, mo_c M2, ⟨0, nl, nd, fi, no, r.2, bl, A5, B4, L, od, dp2, PI2, PL2, D5, ?_, so_V V so5 C2 h13, so_B hB so5, so_D hD so5, ⟨?_, ?_⟩, ?_, p2, so_S' so5 S2, ?_, ?_⟩⟩
  · unfold f_LR_solve
    rw [f1, f2]
  · unfold f_Mo_solve
    rw [g1, bx_some, g3, g4, g5]
  · exact (R2.kept M2 G).same (so5.1 1 (by decide) (by decide) (by decide)) (so5.1 2 (by decide) (by decide) (by decide)) (so5.1 9 (by decide) (by decide) (by decide)) (so5.1 11 (by decide) (by decide) (by decide)) (so5.1 14 (by decide) (by decide) (by decide)) (so5.2.1 3 (by decide) (by decide)) (so5.2.1 4 (by decide) (by decide)) (so5.2.1 5 (by decide) (by decide)) (so5.2.1 6 (by decide) (by decide)) (so5.2.1 10 (by decide) (by decide)) (so5.2.1 16 (by decide) (by decide))
  · rw [so5.2.1 5 (by decide) (by decide), so5.2.1 6 (by decide) (by decide)]
    exact hZ.1
  · intro l l1 l2
    rw [so5.1 12 (by decide) (by decide) (by decide), so5.2.2 l l1]
    exact hZ.2 l l1 l2
  · unfold sg_O
    rw [so5.2.1 3 (by decide) (by decide)]
    exact O
  · rw [G.1, z2, z1]; exact W
  · exact mo_wf G (by rw [z2, z1]; exact W.2.1) ((F1.tr F2).2.2 wf)
