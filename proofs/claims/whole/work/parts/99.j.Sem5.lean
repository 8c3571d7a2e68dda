/-! what each call does to both sides: feed, forget -/
noncomputable section
set_option maxHeartbeats 4000000 in
set_option maxRecDepth 100000 in
theorem sem_feed (l : Launch) (hlt : l.stackTraces = false) (D : va_G) (cB cI cJ : ClassId) (ad : Nat → Nat) (hI : ipI ad 128) {A V : Nat → Nat → Int32} {R : Nat → Nat} {L : Nat → Nat → Int64} (I : INV A V R) (x y z x4 x5 : Int32) : CF l D cB cI cJ ad A V R L yX12_feed wsX12_feed [.ref (ad 0), .int x, .int y, .int z, .int x4, .int x5] yX13_feed wsX13_feed [.ref (ad 82), .int x, .int y, .int z, .int x4, .int x5] := by
  obtain ⟨h, nt, nc, np, nq, nl, na, nk, ln, ⟨hh, r0, r4, q33⟩, ⟨t1, t2, t3, t4, t5⟩, ⟨n1, n2, n3, n4, n5, n6, n7, n8, n9, n10, n11, n12, n13, n14, n15, n16, n17⟩, ⟨hT, hC, hP, hQ, hF, wP, wC, wT, wQ⟩, ⟨s1, hL, hoL⟩, ⟨l1, l2, l3, hA, hoA, l6, l7, l8, hS2, h3⟩, hMi, hFt, hCr⟩ := id I
  have hh2 : 116 - h = 50 ∨ 116 - h = 66 := by omega
  have hz := wf_hz wT hT
  have hW := wf_wt wT n15
  have hl9 := wf_li wC
  by_cases hl : ln + 20 ≤ 700
  · have F := eq_feed (A 2) (A 105) x y z x4 x5 hl t4 t5
    rw [← t1] at F
    refine ⟨_, _, _, (c_X12_feed l D cB cI cJ ad 128 (pl ad cB cI cJ A V R L) hI 0 1 h (116 - h) 3 4 7 14 17 24 31 44 46 (V 0 8) (V 0 9) (R 1) (V 1 1) (V 1 2) (V 1 3) (V 1 4) (V 1 5) (V 1 6) (A 2) x y z x4 x5 (by omega) (by omega) (by omega) (pl_po r0) rfl rfl (by omega)), by decide, by decide, fun r1 M1 hp1 => ?_⟩
    obtain ⟨hrb, b0, b1, fr1⟩ := hp1
    have hM1 : M1 = pl ad cB cI cJ (va_up A 2 (s_X12_feed_1_f (V 1 1) (A 2) x y z x4 x5)) (va_up V 1 (upd (V 1) 1 (s_X12_feed_0_1 (V 1 1) (A 2) x y z x4 x5))) R L := by
      refine pl_eq (A := A) (V := V) (R := R) (L := L) [1, 2] (fun q hq => fr1 q (by rintro rfl; exact absurd (by decide) hq) (by rintro rfl; exact absurd (by decide) hq)) (fun q hq => ⟨(va_up_ne _ _ (nm hq (by decide : (2 : Nat) ∈ _))), (va_up_ne _ _ (nm hq (by decide : (1 : Nat) ∈ _))), rfl, rfl⟩) (fun q hq => ?_)
      simp only [List.mem_cons, List.not_mem_nil, or_false] at hq
      rcases hq with rfl | rfl <;> first | exact b0 | exact b1
    refine ⟨(va_up A 2 (s_X12_feed_1_f (V 1 1) (A 2) x y z x4 x5)), (va_up V 1 (upd (V 1) 1 (s_X12_feed_0_1 (V 1 1) (A 2) x y z x4 x5))), R, L, hM1, rfl, fun g => ⟨_, _, _, (c_X13_feed l D cB cI cJ ad 128 (pl ad cB cI cJ (va_up A 2 (s_X12_feed_1_f (V 1 1) (A 2) x y z x4 x5)) (va_up V 1 (upd (V 1) 1 (s_X12_feed_0_1 (V 1 1) (A 2) x y z x4 x5))) R (va_up L 127 g)) hI 82 (V 82) (A 105) ln x y z x4 x5 (by omega) (by omega) rfl rfl t2 hl), by decide, by decide, fun r3 M3 hp3 => ?_⟩⟩
    obtain ⟨hrc, c0, c1, fr3⟩ := hp3
    have hM3 : M3 = pl ad cB cI cJ (va_up (va_up A 2 (s_X12_feed_1_f (V 1 1) (A 2) x y z x4 x5)) 105 (fdS (A 105) ln x y z x4 x5 20)) (va_up (va_up V 1 (upd (V 1) 1 (s_X12_feed_0_1 (V 1 1) (A 2) x y z x4 x5))) 82 (upd (upd (V 82) 2 0) 24 (nI (ln + 20)))) R (va_up L 127 g) := by
      refine pl_eq (A := (va_up A 2 (s_X12_feed_1_f (V 1 1) (A 2) x y z x4 x5))) (V := (va_up V 1 (upd (V 1) 1 (s_X12_feed_0_1 (V 1 1) (A 2) x y z x4 x5)))) (R := R) (L := (va_up L 127 g)) [105, 82] (fun q hq => fr3 q (by rintro rfl; exact absurd (by decide) hq) (by rintro rfl; exact absurd (by decide) hq)) (fun q hq => ⟨(va_up_ne _ _ (nm hq (by decide : (105 : Nat) ∈ _))), (va_up_ne _ _ (nm hq (by decide : (82 : Nat) ∈ _))), rfl, rfl⟩) (fun q hq => ?_)
      simp only [List.mem_cons, List.not_mem_nil, or_false] at hq
      rcases hq with rfl | rfl <;> first | exact c0 | exact c1
    refine ⟨(va_up (va_up A 2 (s_X12_feed_1_f (V 1 1) (A 2) x y z x4 x5)) 105 (fdS (A 105) ln x y z x4 x5 20)), (va_up (va_up V 1 (upd (V 1) 1 (s_X12_feed_0_1 (V 1 1) (A 2) x y z x4 x5))) 82 (upd (upd (V 82) 2 0) 24 (nI (ln + 20)))), R, (va_up L 127 g), hM3, rfl, rfl, fun _ => hrc.trans (F.1.symm.trans hrb.symm), ?_⟩
    rcases hh with rfl | rfl <;> exact ⟨_, nt, nc, np, nq, nl, na, nk, ln + 20, ⟨by first | exact Or.inl rfl | exact Or.inr rfl, r0, r4, q33⟩, ⟨F.2.1, rfl, hl, F.2.2.1, F.2.2.2⟩, ⟨n1, n2, n3, n4, n5, n6, n7, n8, n9, n10, n11, n12, n13, n14, n15, n16, n17⟩, ⟨hT, hC, hP, hQ, hF, wP, wC, wT, wQ⟩, ⟨s1, hL, hoL⟩, ⟨l1, l2, l3, hA, hoA, l6, l7, l8, hS2, h3⟩, hMi, hFt, hCr⟩
  · have F := no_feed (A 2) x y z x4 x5 hl t3
    rw [← t1] at F
    refine ⟨_, _, _, (c_X12_feed l D cB cI cJ ad 128 (pl ad cB cI cJ A V R L) hI 0 1 h (116 - h) 3 4 7 14 17 24 31 44 46 (V 0 8) (V 0 9) (R 1) (V 1 1) (V 1 2) (V 1 3) (V 1 4) (V 1 5) (V 1 6) (A 2) x y z x4 x5 (by omega) (by omega) (by omega) (pl_po r0) rfl rfl (by omega)), by decide, by decide, fun r1 M1 hp1 => ?_⟩
    obtain ⟨hrb, b0, b1, fr1⟩ := hp1
    have hM1 : M1 = pl ad cB cI cJ (va_up A 2 (s_X12_feed_1_f (V 1 1) (A 2) x y z x4 x5)) (va_up V 1 (upd (V 1) 1 (s_X12_feed_0_1 (V 1 1) (A 2) x y z x4 x5))) R L := by
      refine pl_eq (A := A) (V := V) (R := R) (L := L) [1, 2] (fun q hq => fr1 q (by rintro rfl; exact absurd (by decide) hq) (by rintro rfl; exact absurd (by decide) hq)) (fun q hq => ⟨(va_up_ne _ _ (nm hq (by decide : (2 : Nat) ∈ _))), (va_up_ne _ _ (nm hq (by decide : (1 : Nat) ∈ _))), rfl, rfl⟩) (fun q hq => ?_)
      simp only [List.mem_cons, List.not_mem_nil, or_false] at hq
      rcases hq with rfl | rfl <;> first | exact b0 | exact b1
    refine ⟨(va_up A 2 (s_X12_feed_1_f (V 1 1) (A 2) x y z x4 x5)), (va_up V 1 (upd (V 1) 1 (s_X12_feed_0_1 (V 1 1) (A 2) x y z x4 x5))), R, L, hM1, rfl, fun g => ⟨_, _, _, (c_X13_feedN l D cB cI cJ ad 128 (pl ad cB cI cJ (va_up A 2 (s_X12_feed_1_f (V 1 1) (A 2) x y z x4 x5)) (va_up V 1 (upd (V 1) 1 (s_X12_feed_0_1 (V 1 1) (A 2) x y z x4 x5))) R (va_up L 127 g)) hI 82 ln (V 82) x y z x4 x5 (by omega) rfl t2 hl t3), by decide, by decide, fun r3 M3 hp3 => ?_⟩⟩
    obtain ⟨hrc, c0, fr3⟩ := hp3
    have hM3 : M3 = pl ad cB cI cJ (va_up A 2 (s_X12_feed_1_f (V 1 1) (A 2) x y z x4 x5)) (va_up (va_up V 1 (upd (V 1) 1 (s_X12_feed_0_1 (V 1 1) (A 2) x y z x4 x5))) 82 (upd (V 82) 2 0)) R (va_up L 127 g) := by
      refine pl_eq (A := (va_up A 2 (s_X12_feed_1_f (V 1 1) (A 2) x y z x4 x5))) (V := (va_up V 1 (upd (V 1) 1 (s_X12_feed_0_1 (V 1 1) (A 2) x y z x4 x5)))) (R := R) (L := (va_up L 127 g)) [82] (fun q hq => fr3 q (by rintro rfl; exact absurd (by decide) hq)) (fun q hq => ⟨rfl, (va_up_ne _ _ (nm hq (by decide : (82 : Nat) ∈ _))), rfl, rfl⟩) (fun q hq => ?_)
      simp only [List.mem_cons, List.not_mem_nil, or_false] at hq
      rcases hq with rfl <;> first | exact c0
    refine ⟨(va_up A 2 (s_X12_feed_1_f (V 1 1) (A 2) x y z x4 x5)), (va_up (va_up V 1 (upd (V 1) 1 (s_X12_feed_0_1 (V 1 1) (A 2) x y z x4 x5))) 82 (upd (V 82) 2 0)), R, (va_up L 127 g), hM3, rfl, rfl, fun _ => hrc.trans (F.1.symm.trans hrb.symm), ?_⟩
    rcases hh with rfl | rfl <;> exact ⟨_, nt, nc, np, nq, nl, na, nk, ln, ⟨by first | exact Or.inl rfl | exact Or.inr rfl, r0, r4, q33⟩, ⟨F.2.1.trans t1, t2, t3, by show bqR (s_X12_feed_1_f (V 1 1) (A 2) x y z x4 x5) (A 105); rw [F.2.2]; exact t4, t5⟩, ⟨n1, n2, n3, n4, n5, n6, n7, n8, n9, n10, n11, n12, n13, n14, n15, n16, n17⟩, ⟨hT, hC, hP, hQ, hF, wP, wC, wT, wQ⟩, ⟨s1, hL, hoL⟩, ⟨l1, l2, l3, hA, hoA, l6, l7, l8, hS2, h3⟩, hMi, hFt, hCr⟩
set_option maxHeartbeats 4000000 in
set_option maxRecDepth 100000 in
theorem sem_forget (l : Launch) (hlt : l.stackTraces = false) (D : va_G) (cB cI cJ : ClassId) (ad : Nat → Nat) (hI : ipI ad 128) {A V : Nat → Nat → Int32} {R : Nat → Nat} {L : Nat → Nat → Int64} (I : INV A V R) : CF l D cB cI cJ ad A V R L yX12_forget wsX12_forget [.ref (ad 0)] yX13_forget wsX13_forget [.ref (ad 82)] := by
  obtain ⟨h, nt, nc, np, nq, nl, na, nk, ln, ⟨hh, r0, r4, q33⟩, ⟨t1, t2, t3, t4, t5⟩, ⟨n1, n2, n3, n4, n5, n6, n7, n8, n9, n10, n11, n12, n13, n14, n15, n16, n17⟩, ⟨hT, hC, hP, hQ, hF, wP, wC, wT, wQ⟩, ⟨s1, hL, hoL⟩, ⟨l1, l2, l3, hA, hoA, l6, l7, l8, hS2, h3⟩, hMi, hFt, hCr⟩ := id I
  have hh2 : 116 - h = 50 ∨ 116 - h = 66 := by omega
  have hz := wf_hz wT hT
  have hW := wf_wt wT n15
  have hl9 := wf_li wC
  obtain ⟨F1, F2, F3, F4, k2, F5, F6⟩ := eq_forget l8 l7
  rw [← l6] at F1 F3 F6
  refine ⟨_, _, _, (c_X12_forget l D cB cI cJ ad 128 (pl ad cB cI cJ A V R L) hI 0 1 h (116 - h) 3 4 7 14 17 24 31 44 46 (V 0 8) (V 0 9) (V 7 1) (V 7 3) (by omega) (by omega) (pl_po r0) rfl (by omega)), by decide, by decide, fun r1 M1 hp1 => ?_⟩
  obtain ⟨hrb, b0, fr1⟩ := hp1
  have hM1 : M1 = pl ad cB cI cJ A (va_up V 7 (upd (V 7) 3 (s_X12_forget_0_2 (V 7 3)))) R L := by
    refine pl_eq (A := A) (V := V) (R := R) (L := L) [7] (fun q hq => fr1 q (by rintro rfl; exact absurd (by decide) hq)) (fun q hq => ⟨rfl, (va_up_ne _ _ (nm hq (by decide : (7 : Nat) ∈ _))), rfl, rfl⟩) (fun q hq => ?_)
    simp only [List.mem_cons, List.not_mem_nil, or_false] at hq
    rcases hq with rfl <;> first | exact b0
  refine ⟨A, (va_up V 7 (upd (V 7) 3 (s_X12_forget_0_2 (V 7 3)))), R, L, hM1, rfl, fun g => ⟨_, _, _, (c_X13_forget l D cB cI cJ ad 128 (pl ad cB cI cJ A (va_up V 7 (upd (V 7) 3 (s_X12_forget_0_2 (V 7 3)))) R (va_up L 127 g)) hI 82 (V 82) (by omega) rfl), by decide, by decide, fun r3 M3 hp3 => ?_⟩⟩
  obtain ⟨hrc, c0, fr3⟩ := hp3
  have hM3 : M3 = pl ad cB cI cJ A (va_up (va_up V 7 (upd (V 7) 3 (s_X12_forget_0_2 (V 7 3)))) 82 (s_X13_forget_0_1 (V 82))) R (va_up L 127 g) := by
    refine pl_eq (A := A) (V := (va_up V 7 (upd (V 7) 3 (s_X12_forget_0_2 (V 7 3))))) (R := R) (L := (va_up L 127 g)) [82] (fun q hq => fr3 q (by rintro rfl; exact absurd (by decide) hq)) (fun q hq => ⟨rfl, (va_up_ne _ _ (nm hq (by decide : (82 : Nat) ∈ _))), rfl, rfl⟩) (fun q hq => ?_)
    simp only [List.mem_cons, List.not_mem_nil, or_false] at hq
    rcases hq with rfl <;> first | exact c0
  refine ⟨A, (va_up (va_up V 7 (upd (V 7) 3 (s_X12_forget_0_2 (V 7 3)))) 82 (s_X13_forget_0_1 (V 82))), R, (va_up L 127 g), hM3, rfl, F2, fun _ => hrc.trans (F1.trans hrb.symm), ?_⟩
  rcases hh with rfl | rfl <;> exact ⟨_, nt, nc, np, nq, nl, na, k2, ln, ⟨by first | exact Or.inl rfl | exact Or.inr rfl, r0, r4, q33.trans (F4 33 (by decide) (by decide)).symm⟩, ⟨t1, (F4 24 (by decide) (by decide)).trans t2, t3, t4, t5⟩, ⟨n1, n2, n3, n4, n5, n6, n7, n8, n9, n10, n11, n12, n13, n14, n15, n16, n17⟩, ⟨hT, hC, hP, hQ, hF, wP, wC, wT, wQ⟩, ⟨(F4 36 (by decide) (by decide)).trans s1, hL, hoL⟩, ⟨l1, (F4 37 (by decide) (by decide)).trans l2, l3, hA, hoA, F6, F3.trans F6, Nat.le_trans F5 l8, fun i q => hS2 i (Nat.lt_of_lt_of_le q F5), h3⟩, ⟨(F4 56 (by decide) (by decide)).trans hMi.1, hMi.2.imp id (fun ⟨ia, ik, x1, x2, x3, x4, x5, x6, x7, x8, x9, x10, x11, x12, x13, x14⟩ => ⟨ia, ik, x1, (F4 57 (by decide) (by decide)).trans x2, x3, x4, x5, (F4 58 (by decide) (by decide)).trans x6, x7, x8, x9, x10, (F4 59 (by decide) (by decide)).trans x11, x12, x13, x14⟩)⟩, hFt.imp (fun q => ⟨q.1, (F4 45 (by decide) (by decide)).trans q.2⟩) (fun q => ⟨q.1, fun z => q.2.1 ((F4 45 (by decide) (by decide)).symm.trans z), (F4 46 (by decide) (by decide)).trans q.2.2.1, q.2.2.2⟩), ⟨(F4 53 (by decide) (by decide)).trans hCr.1, hCr.2⟩⟩
end
