/-! what each call does to both sides: undo, shift -/
noncomputable section
set_option maxHeartbeats 4000000 in
set_option maxRecDepth 100000 in
theorem sem_undo (l : Launch) (hlt : l.stackTraces = false) (D : va_G) (cB cI cJ : ClassId) (ad : Nat → Nat) (hI : ipI ad 128) {A V : Nat → Nat → Int32} {R : Nat → Nat} {L : Nat → Nat → Int64} (I : INV A V R) : CF l D cB cI cJ ad A V R L yX12_undo wsX12_undo [.ref (ad 0)] yX13_undo wsX13_undo [.ref (ad 82)] := by
  obtain ⟨h, nt, nc, np, nq, nl, na, nk, ln, ⟨hh, r0, r4, q33⟩, ⟨t1, t2, t3, t4, t5⟩, ⟨n1, n2, n3, n4, n5, n6, n7, n8, n9, n10, n11, n12, n13, n14, n15, n16, n17⟩, ⟨hT, hC, hP, hQ, hF, wP, wC, wT, wQ⟩, ⟨s1, hL, hoL⟩, ⟨l1, l2, l3, hA, hoA, l6, l7, l8, hS2, h3⟩, hMi, hFt, hCr⟩ := id I
  have hh2 : 116 - h = 50 ∨ 116 - h = 66 := by omega
  have hz := wf_hz wT hT
  have hW := wf_wt wT n15
  have hl9 := wf_li wC
  obtain ⟨F1, F2, F3, F4, F5, F6, F7, k2, F8, F9⟩ := eq_undo l3 n15 l2 hA hL hoL
  rw [s1] at F3
  rw [← l1] at F1 F3 F4 F6 F9
  refine ⟨_, _, _, (c_X12_undo l D cB cI cJ ad 128 (pl ad cB cI cJ A V R L) hI 0 1 h (116 - h) 3 4 7 14 17 24 31 44 46 (V 0 8) (V 0 9) (V 7 1) (V 7 3) (V 4 2) (A 9) (A 6) (by omega) (by omega) (by omega) (by omega) (by omega) (by omega) (by omega) (pl_po r0) rfl rfl rfl (pl_g r4) rfl rfl (by omega) (by omega) (by omega)), by decide, by decide, fun r1 M1 hp1 => ?_⟩
  obtain ⟨hrb, b0, b1, b2, fr1⟩ := hp1
  generalize (s_X12_undo_2_f (V 7 1) (A 9) (A 6)) = ua0_6 at *
  generalize (s_X12_undo_0_1 (V 7 1)) = uv0_7_13 at *
  generalize (s_X12_undo_1_2 (V 7 1) (V 4 2) (A 9)) = uv1_4_13 at *
  have hM1 : M1 = pl ad cB cI cJ (va_up A 6 ua0_6) (va_up (va_up V 7 (upd (V 7) 1 uv0_7_13)) 4 (upd (V 4) 2 uv1_4_13)) R L := by
    refine pl_eq (A := A) (V := V) (R := R) (L := L) [7, 4, 6] (fun q hq => fr1 q (by rintro rfl; exact absurd (by decide) hq) (by rintro rfl; exact absurd (by decide) hq) (by rintro rfl; exact absurd (by decide) hq)) (fun q hq => ⟨(va_up_ne _ _ (nm hq (by decide : (6 : Nat) ∈ _))), ((va_up_ne _ _ (nm hq (by decide : (4 : Nat) ∈ _))).trans (va_up_ne _ _ (nm hq (by decide : (7 : Nat) ∈ _)))), rfl, rfl⟩) (fun q hq => ?_)
    simp only [List.mem_cons, List.not_mem_nil, or_false] at hq
    rcases hq with rfl | rfl | rfl <;> first | exact b0 | (rw [pl_g r4]; exact b1) | exact b2
  refine ⟨(va_up A 6 ua0_6), (va_up (va_up V 7 (upd (V 7) 1 uv0_7_13)) 4 (upd (V 4) 2 uv1_4_13)), R, L, hM1, rfl, fun g => ⟨_, _, _, (c_X13_undo l D cB cI cJ ad 128 (pl ad cB cI cJ (va_up A 6 ua0_6) (va_up (va_up V 7 (upd (V 7) 1 uv0_7_13)) 4 (upd (V 4) 2 uv1_4_13)) R (va_up L 127 g)) hI 82 (V 82) (A 100) (A 108) (A 109) (A 110) na (by omega) (by omega) (by omega) (by omega) (by omega) rfl rfl rfl rfl rfl l2 l3 (fun i q => by obtain ⟨t, ht, e⟩ := hoA i q; rw [e]; exact vp_in_nI (by omega) (by decide))), by decide, by decide, fun r3 M3 hp3 => ?_⟩⟩
  obtain ⟨hrc, c0, c1, fr3⟩ := hp3
  generalize (s_X13_undo_0_f (V 82) (A 100) (A 108) (A 109)) = uc0_100 at *
  generalize (s_X13_undo_1_1 (V 82) (A 110)) = uw0_82 at *
  have hM3 : M3 = pl ad cB cI cJ (va_up (va_up A 6 ua0_6) 100 uc0_100) (va_up (va_up (va_up V 7 (upd (V 7) 1 uv0_7_13)) 4 (upd (V 4) 2 uv1_4_13)) 82 uw0_82) R (va_up L 127 g) := by
    refine pl_eq (A := (va_up A 6 ua0_6)) (V := (va_up (va_up V 7 (upd (V 7) 1 uv0_7_13)) 4 (upd (V 4) 2 uv1_4_13))) (R := R) (L := (va_up L 127 g)) [100, 82] (fun q hq => fr3 q (by rintro rfl; exact absurd (by decide) hq) (by rintro rfl; exact absurd (by decide) hq)) (fun q hq => ⟨(va_up_ne _ _ (nm hq (by decide : (100 : Nat) ∈ _))), (va_up_ne _ _ (nm hq (by decide : (82 : Nat) ∈ _))), rfl, rfl⟩) (fun q hq => ?_)
    simp only [List.mem_cons, List.not_mem_nil, or_false] at hq
    rcases hq with rfl | rfl <;> first | exact c0 | exact c1
  refine ⟨(va_up (va_up A 6 ua0_6) 100 uc0_100), (va_up (va_up (va_up V 7 (upd (V 7) 1 uv0_7_13)) 4 (upd (V 4) 2 uv1_4_13)) 82 uw0_82), R, (va_up L 127 g), hM3, rfl, F2, fun _ => hrc.trans (F1.trans hrb.symm), ?_⟩
  refine INV_st I (fun q hq => ((va_up_ne _ _ (nm hq (by decide : (100 : Nat) ∈ _))).trans (va_up_ne _ _ (nm hq (by decide : (6 : Nat) ∈ _))))) (fun q hq => ((va_up_ne _ _ (nm hq (by decide : (82 : Nat) ∈ _))).trans ((va_up_ne _ _ (nm hq (by decide : (4 : Nat) ∈ _))).trans (va_up_ne _ _ (nm hq (by decide : (7 : Nat) ∈ _)))))) (fun q hq => rfl) (fun q hq => F5 q (nm hq (by decide)) (nm hq (by decide)) (nm hq (by decide))) (fun n9 e9 _ => ?_)
  obtain rfl : nt = n9 := (nI_eq (by omega) (by omega)).mp (n7.symm.trans e9)
  exact ⟨⟨F3, F6, F7⟩, k2, nk, F9, F4.trans F9, Nat.le_trans F8 l3, fun i q => hA i (Nat.lt_of_lt_of_le q F8), hoA, l6, (F5 38 (by decide) (by decide) (by decide)).trans l7, l8, hS2, h3⟩
set_option maxHeartbeats 4000000 in
set_option maxRecDepth 100000 in
theorem sem_shift_b (l : Launch) (hlt : l.stackTraces = false) (D : va_G) (cB cI cJ : ClassId) (ad : Nat → Nat) (hI : ipI ad 128) {A V : Nat → Nat → Int32} {R : Nat → Nat} {L : Nat → Nat → Int64} (I : INV A V R) (x y : Int32) (hq : ∀ nt : Nat, A 85 2 = nI nt → nt ≤ 12 → ¬ ∃ c : Nat, c < nt ∧ x = nI c) : CX l D cB cI cJ ad A V R L yX12_shift wsX12_shift [.ref (ad 0), .int x, .int y] yX13_shift wsX13_shift [.ref (ad 82), .int x, .int y] "java/util/NoSuchElementException" 1 := by
  obtain ⟨h, nt, nc, np, nq, nl, na, nk, ln, ⟨hh, r0, r4, q33⟩, ⟨t1, t2, t3, t4, t5⟩, ⟨n1, n2, n3, n4, n5, n6, n7, n8, n9, n10, n11, n12, n13, n14, n15, n16, n17⟩, ⟨hT, hC, hP, hQ, hF, wP, wC, wT, wQ⟩, ⟨s1, hL, hoL⟩, ⟨l1, l2, l3, hA, hoA, l6, l7, l8, hS2, h3⟩, hMi, hFt, hCr⟩ := id I
  have hh2 : 116 - h = 50 ∨ 116 - h = 66 := by omega
  have hz := wf_hz wT hT
  have hW := wf_wt wT n15
  have hl9 := wf_li wC
  have nox := hq nt n7 n15
  have gbx : x < 0 ∨ V h 7 ≤ x := by
    rcases rng (x := x) n3 (by omega) with ⟨cx, hcx, ex⟩ | ⟨g, _⟩
    · exact absurd ⟨cx, hcx, ex⟩ nox
    · exact g
  obtain ⟨G1, G2, G3, G4, G5, G6⟩ := no_shift (nq := nq) (st := A 104) (tn := A 108) (pn := A 109) (on := A 110) (mv := V 82) (po := A 87) (be := A 88) (ho := A 91) (bo := A 93) (ki := A 94) (he := A 95) (wi := A 97) (ht := A 99) (pl := A 100) (pt := A 101) (pr := A 102) (y := y) n7 n15 nox
  refine ⟨_, _, (x_X12_shiftA l D cB cI cJ ad 128 (pl ad cB cI cJ A V R L) hlt 0 1 h (116 - h) 3 4 7 14 17 24 31 44 46 (V 0 8) (V 0 9) (V h) x y (by omega) (by omega) (pl_po r0) (ph_0 hh) gbx), by decide, by decide, ⟨_, _, _, (c_X13_shift l D cB cI cJ ad 128 (pl ad cB cI cJ A V R L) hI 82 nt nc np nq (V 82) (A 85) (A 87) (A 88) (A 91) (A 93) (A 94) (A 95) (A 97) (A 99) (A 100) (A 101) (A 102) (A 104) (A 108) (A 109) (A 110) na x y (by omega) (by omega) (by omega) (by omega) (by omega) (by omega) (by omega) (by omega) (by omega) (by omega) (by omega) (by omega) (by omega) (by omega) (by omega) (by omega) (by omega) rfl rfl rfl rfl rfl rfl rfl rfl rfl rfl rfl rfl rfl rfl rfl rfl rfl n5 n13 n6 n14 n7 n15 n8 n16 l2 l3), by decide, by decide, fun r3 M3 hp3 => ?_⟩⟩
  obtain ⟨hrc, c0, c1, c2, c3, c4, c5, fr3⟩ := hp3
  rw [G2] at c0; rw [G3] at c1; rw [G4] at c2; rw [G5] at c3; rw [G6] at c4; rw [G1] at c5
  have hM3 : M3 = pl ad cB cI cJ A (va_up V 82 (upd (upd (V 82) 2 0) 2 1)) R L := by
    refine pl_eq (A := A) (V := V) (R := R) (L := L) [100, 104, 108, 109, 110, 82] (fun q hq => fr3 q (by rintro rfl; exact absurd (by decide) hq) (by rintro rfl; exact absurd (by decide) hq) (by rintro rfl; exact absurd (by decide) hq) (by rintro rfl; exact absurd (by decide) hq) (by rintro rfl; exact absurd (by decide) hq) (by rintro rfl; exact absurd (by decide) hq)) (fun q hq => ⟨rfl, (va_up_ne _ _ (nm hq (by decide : (82 : Nat) ∈ _))), rfl, rfl⟩) (fun q hq => ?_)
    simp only [List.mem_cons, List.not_mem_nil, or_false] at hq
    rcases hq with rfl | rfl | rfl | rfl | rfl | rfl <;> first | exact c0 | exact c1 | exact c2 | exact c3 | exact c4 | exact c5
  exact ⟨A, (va_up V 82 (upd (upd (V 82) 2 0) 2 1)), R, L, hM3, rfl, rfl, fun q => absurd q (by decide), INV_cg I (fun q hq => rfl) (fun q hq => va_up_ne _ _ (nm hq (by decide : (82 : Nat) ∈ _))) (fun q hq => rfl) ⟨rfl, rfl⟩ ⟨rfl, rfl⟩ (mv1 _ 1).2⟩
set_option maxHeartbeats 4000000 in
set_option maxRecDepth 100000 in
theorem sem_shift_a (l : Launch) (hlt : l.stackTraces = false) (D : va_G) (cB cI cJ : ClassId) (ad : Nat → Nat) (hI : ipI ad 128) {A V : Nat → Nat → Int32} {R : Nat → Nat} {L : Nat → Nat → Int64} (I : INV A V R) (x y : Int32) (hq : ∀ nt : Nat, A 85 2 = nI nt → nt ≤ 12 → ∃ c : Nat, c < nt ∧ x = nI c) : CF l D cB cI cJ ad A V R L yX12_shift wsX12_shift [.ref (ad 0), .int x, .int y] yX13_shift wsX13_shift [.ref (ad 82), .int x, .int y] := by
  obtain ⟨h, nt, nc, np, nq, nl, na, nk, ln, ⟨hh, r0, r4, q33⟩, ⟨t1, t2, t3, t4, t5⟩, ⟨n1, n2, n3, n4, n5, n6, n7, n8, n9, n10, n11, n12, n13, n14, n15, n16, n17⟩, ⟨hT, hC, hP, hQ, hF, wP, wC, wT, wQ⟩, ⟨s1, hL, hoL⟩, ⟨l1, l2, l3, hA, hoA, l6, l7, l8, hS2, h3⟩, hMi, hFt, hCr⟩ := id I
  have hh2 : 116 - h = 50 ∨ 116 - h = 66 := by omega
  have hz := wf_hz wT hT
  have hW := wf_wt wT n15
  have hl9 := wf_li wC
  obtain ⟨cx, hcx, ex⟩ := hq nt n7 n15
  obtain ⟨gx0, gx1⟩ := rng_in n3 (by omega) hcx ex
  obtain ⟨F1, F2, F3, F4, F5, F6, F7, ⟨k2, F8, F9, F10⟩, F11, F12⟩ := eq_shift (y := y) n15 n14 n13 n16 hT hC hP hQ hL hz n5 n6 n7 n1 n2 hcx l3 l2 hA hoA h3 hoL
  rw [s1] at F3 F10
  rw [← ex] at F1 F2 F3 F4 F5 F6 F7 F9 F10 F11 F12
  rw [← l1] at F4 F9 F10
  refine ⟨_, _, _, (c_X12_shift l D cB cI cJ ad 128 (pl ad cB cI cJ A V R L) hI 0 1 h (116 - h) 3 4 7 14 17 24 31 44 46 (V 0 8) (V 0 9) nt nc np nq (V 7 1) (V 7 3) (V 4 2) (V h) (A (h + 2)) (A (h + 4)) (A (h + 6)) (A (h + 8)) (A 6) (A 9) (A 13) x y (by omega) (by omega) (by omega) (by omega) (by omega) (by omega) (by omega) (by omega) (by omega) (by omega) (by omega) (by omega) (by omega) (by omega) (by omega) (by omega) (by omega) (by omega) (pl_po r0) (pl_g r4) rfl rfl (ph_0 hh) (ph_5 hh) (ph_6 hh) (ph_1 hh) (ph_2 hh) (ph_3 hh) (ph_4 hh) (ph_7 hh) (ph_8 hh) rfl rfl rfl rfl rfl n3 n15 n2 n14 n1 n13 n4 n16 (by omega) (by omega) (by omega) (by omega) (by omega) gx0 gx1), by decide, by decide, fun r1 M1 hp1 => ?_⟩
  obtain ⟨hrb, b0, b1, b2, b3, b4, fr1⟩ := hp1
  obtain ⟨ua0_6, hua0_6⟩ : ∃ f, f = (s_X12_shift_1_f nt nq (V h) (A (h + 2)) (A (h + 4)) (A (h + 6)) (A (h + 8)) (A 6) x y) := ⟨_, rfl⟩
  rw [← hua0_6] at b1 F6
  obtain ⟨ua1_9, hua1_9⟩ : ∃ f, f = (s_X12_shift_3_f nt nq (V 7 1) (V 4 2) (V h) (A (h + 2)) (A (h + 4)) (A (h + 6)) (A (h + 8)) (A 6) (A 9) x y) := ⟨_, rfl⟩
  rw [← hua1_9] at b3 F10
  obtain ⟨ua2_13, hua2_13⟩ : ∃ f, f = (s_X12_shift_4_f nt nq (V h) (A (h + 2)) (A (h + 4)) (A (h + 6)) (A (h + 8)) (A 6) (A 13) x y) := ⟨_, rfl⟩
  rw [← hua2_13] at b4 F7
  obtain ⟨uv0_4_13, huv0_4_13⟩ : ∃ f, f = (s_X12_shift_0_2 nt nq (V 4 2) (V h) (A (h + 2)) (A (h + 4)) (A (h + 6)) (A (h + 8)) (A 6) x y) := ⟨_, rfl⟩
  rw [← huv0_4_13] at b0 F3
  obtain ⟨uv1_7_13, huv1_7_13⟩ : ∃ f, f = (s_X12_shift_2_1 nt nq (V 7 1) (V h) (A (h + 2)) (A (h + 4)) (A (h + 6)) (A (h + 8)) (A 6) x y) := ⟨_, rfl⟩
  rw [← huv1_7_13] at b2 F4 F9
  have hM1 : M1 = pl ad cB cI cJ (va_up (va_up (va_up A 6 ua0_6) 9 ua1_9) 13 ua2_13) (va_up (va_up V 4 (upd (V 4) 2 uv0_4_13)) 7 (upd (V 7) 1 uv1_7_13)) R L := by
    refine pl_eq (A := A) (V := V) (R := R) (L := L) [4, 6, 7, 9, 13] (fun q hq => fr1 q (by rintro rfl; exact absurd (by decide) hq) (by rintro rfl; exact absurd (by decide) hq) (by rintro rfl; exact absurd (by decide) hq) (by rintro rfl; exact absurd (by decide) hq) (by rintro rfl; exact absurd (by decide) hq)) (fun q hq => ⟨((va_up_ne _ _ (nm hq (by decide : (13 : Nat) ∈ _))).trans ((va_up_ne _ _ (nm hq (by decide : (9 : Nat) ∈ _))).trans (va_up_ne _ _ (nm hq (by decide : (6 : Nat) ∈ _))))), ((va_up_ne _ _ (nm hq (by decide : (7 : Nat) ∈ _))).trans (va_up_ne _ _ (nm hq (by decide : (4 : Nat) ∈ _)))), rfl, rfl⟩) (fun q hq => ?_)
    simp only [List.mem_cons, List.not_mem_nil, or_false] at hq
    rcases hq with rfl | rfl | rfl | rfl | rfl <;> first | (rw [pl_g r4]; exact b0) | exact b1 | exact b2 | exact b3 | exact b4
  refine ⟨(va_up (va_up (va_up A 6 ua0_6) 9 ua1_9) 13 ua2_13), (va_up (va_up V 4 (upd (V 4) 2 uv0_4_13)) 7 (upd (V 7) 1 uv1_7_13)), R, L, hM1, rfl, fun g => ⟨_, _, _, (c_X13_shift l D cB cI cJ ad 128 (pl ad cB cI cJ (va_up (va_up (va_up A 6 ua0_6) 9 ua1_9) 13 ua2_13) (va_up (va_up V 4 (upd (V 4) 2 uv0_4_13)) 7 (upd (V 7) 1 uv1_7_13)) R (va_up L 127 g)) hI 82 nt nc np nq (V 82) (A 85) (A 87) (A 88) (A 91) (A 93) (A 94) (A 95) (A 97) (A 99) (A 100) (A 101) (A 102) (A 104) (A 108) (A 109) (A 110) na x y (by omega) (by omega) (by omega) (by omega) (by omega) (by omega) (by omega) (by omega) (by omega) (by omega) (by omega) (by omega) (by omega) (by omega) (by omega) (by omega) (by omega) rfl rfl rfl rfl rfl rfl rfl rfl rfl rfl rfl rfl rfl rfl rfl rfl rfl n5 n13 n6 n14 n7 n15 n8 n16 l2 l3), by decide, by decide, fun r3 M3 hp3 => ?_⟩⟩
  obtain ⟨hrc, c0, c1, c2, c3, c4, c5, fr3⟩ := hp3
  obtain ⟨uc0_100, huc0_100⟩ : ∃ f, f = (s_X13_shift_0_f nt nq (A 85) (A 87) (A 88) (A 91) (A 93) (A 94) (A 95) (A 97) (A 99) (A 100) (A 101) (A 102) x y) := ⟨_, rfl⟩
  rw [← huc0_100] at c0 F6 F12
  obtain ⟨uc1_104, huc1_104⟩ : ∃ f, f = (s_X13_shift_1_f nt nq (A 85) (A 87) (A 88) (A 91) (A 93) (A 94) (A 95) (A 97) (A 99) (A 100) (A 101) (A 102) (A 104) x y) := ⟨_, rfl⟩
  rw [← huc1_104] at c1 F7
  obtain ⟨uc2_108, huc2_108⟩ : ∃ f, f = (s_X13_shift_2_f nt nq (V 82) (A 85) (A 87) (A 88) (A 91) (A 93) (A 94) (A 95) (A 97) (A 99) (A 100) (A 101) (A 102) (A 108) (A 109) (A 110) x y) := ⟨_, rfl⟩
  rw [← huc2_108] at c2 F10 F11
  obtain ⟨uc3_109, huc3_109⟩ : ∃ f, f = (s_X13_shift_3_f nt nq (V 82) (A 85) (A 87) (A 88) (A 91) (A 93) (A 94) (A 95) (A 97) (A 99) (A 100) (A 101) (A 102) (A 108) (A 109) (A 110) x y) := ⟨_, rfl⟩
  rw [← huc3_109] at c3 F10
  obtain ⟨uc4_110, huc4_110⟩ : ∃ f, f = (s_X13_shift_4_f nt nq (V 82) (A 85) (A 87) (A 88) (A 91) (A 93) (A 94) (A 95) (A 97) (A 99) (A 100) (A 101) (A 102) (A 108) (A 109) (A 110) x y) := ⟨_, rfl⟩
  rw [← huc4_110] at c4 F10
  obtain ⟨uw0_82, huw0_82⟩ : ∃ f, f = (s_X13_shift_5_1 nt nq (V 82) (A 85) (A 87) (A 88) (A 91) (A 93) (A 94) (A 95) (A 97) (A 99) (A 100) (A 101) (A 102) x y) := ⟨_, rfl⟩
  rw [← huw0_82] at c5 F2 F3 F4 F5
  have hM3 : M3 = pl ad cB cI cJ (va_up (va_up (va_up (va_up (va_up (va_up (va_up (va_up A 6 ua0_6) 9 ua1_9) 13 ua2_13) 100 uc0_100) 104 uc1_104) 108 uc2_108) 109 uc3_109) 110 uc4_110) (va_up (va_up (va_up V 4 (upd (V 4) 2 uv0_4_13)) 7 (upd (V 7) 1 uv1_7_13)) 82 uw0_82) R (va_up L 127 g) := by
    refine pl_eq (A := (va_up (va_up (va_up A 6 ua0_6) 9 ua1_9) 13 ua2_13)) (V := (va_up (va_up V 4 (upd (V 4) 2 uv0_4_13)) 7 (upd (V 7) 1 uv1_7_13))) (R := R) (L := (va_up L 127 g)) [100, 104, 108, 109, 110, 82] (fun q hq => fr3 q (by rintro rfl; exact absurd (by decide) hq) (by rintro rfl; exact absurd (by decide) hq) (by rintro rfl; exact absurd (by decide) hq) (by rintro rfl; exact absurd (by decide) hq) (by rintro rfl; exact absurd (by decide) hq) (by rintro rfl; exact absurd (by decide) hq)) (fun q hq => ⟨((va_up_ne _ _ (nm hq (by decide : (110 : Nat) ∈ _))).trans ((va_up_ne _ _ (nm hq (by decide : (109 : Nat) ∈ _))).trans ((va_up_ne _ _ (nm hq (by decide : (108 : Nat) ∈ _))).trans ((va_up_ne _ _ (nm hq (by decide : (104 : Nat) ∈ _))).trans (va_up_ne _ _ (nm hq (by decide : (100 : Nat) ∈ _))))))), (va_up_ne _ _ (nm hq (by decide : (82 : Nat) ∈ _))), rfl, rfl⟩) (fun q hq => ?_)
    simp only [List.mem_cons, List.not_mem_nil, or_false] at hq
    rcases hq with rfl | rfl | rfl | rfl | rfl | rfl <;> first | exact c0 | exact c1 | exact c2 | exact c3 | exact c4 | exact c5
  refine ⟨(va_up (va_up (va_up (va_up (va_up (va_up (va_up (va_up A 6 ua0_6) 9 ua1_9) 13 ua2_13) 100 uc0_100) 104 uc1_104) 108 uc2_108) 109 uc3_109) 110 uc4_110), (va_up (va_up (va_up V 4 (upd (V 4) 2 uv0_4_13)) 7 (upd (V 7) 1 uv1_7_13)) 82 uw0_82), R, (va_up L 127 g), hM3, rfl, F2, fun _ => hrc.trans (F1.trans hrb.symm), ?_⟩
  refine INV_st I (fun q hq => ((va_up_ne _ _ (nm hq (by decide : (110 : Nat) ∈ _))).trans ((va_up_ne _ _ (nm hq (by decide : (109 : Nat) ∈ _))).trans ((va_up_ne _ _ (nm hq (by decide : (108 : Nat) ∈ _))).trans ((va_up_ne _ _ (nm hq (by decide : (104 : Nat) ∈ _))).trans ((va_up_ne _ _ (nm hq (by decide : (100 : Nat) ∈ _))).trans ((va_up_ne _ _ (nm hq (by decide : (13 : Nat) ∈ _))).trans ((va_up_ne _ _ (nm hq (by decide : (9 : Nat) ∈ _))).trans (va_up_ne _ _ (nm hq (by decide : (6 : Nat) ∈ _))))))))))) (fun q hq => ((va_up_ne _ _ (nm hq (by decide : (82 : Nat) ∈ _))).trans ((va_up_ne _ _ (nm hq (by decide : (7 : Nat) ∈ _))).trans (va_up_ne _ _ (nm hq (by decide : (4 : Nat) ∈ _)))))) (fun q hq => rfl) (fun q hq => F5 q (nm hq (by decide)) (nm hq (by decide)) (nm hq (by decide))) (fun n9 e9 _ => ?_)
  obtain rfl : nt = n9 := (nI_eq (by omega) (by omega)).mp (n7.symm.trans e9)
  exact ⟨⟨F3, F6, F12⟩, k2, nk, F9, F4.trans F9, F8, F10, F11, l6, (F5 38 (by decide) (by decide) (by decide)).trans l7, l8, hS2, F7⟩
set_option maxHeartbeats 4000000 in
set_option maxRecDepth 100000 in
theorem sem_shift (l : Launch) (hlt : l.stackTraces = false) (D : va_G) (cB cI cJ : ClassId) (ad : Nat → Nat) (hI : ipI ad 128) {A V : Nat → Nat → Int32} {R : Nat → Nat} {L : Nat → Nat → Int64} (I : INV A V R) (x y : Int32) : CF l D cB cI cJ ad A V R L yX12_shift wsX12_shift [.ref (ad 0), .int x, .int y] yX13_shift wsX13_shift [.ref (ad 82), .int x, .int y] ∨ CX l D cB cI cJ ad A V R L yX12_shift wsX12_shift [.ref (ad 0), .int x, .int y] yX13_shift wsX13_shift [.ref (ad 82), .int x, .int y] "java/util/NoSuchElementException" 1 := by
  by_cases hq : ∀ nt : Nat, A 85 2 = nI nt → nt ≤ 12 → ∃ c : Nat, c < nt ∧ x = nI c
  · exact Or.inl (sem_shift_a l hlt D cB cI cJ ad hI I x y hq)
  · refine Or.inr (sem_shift_b l hlt D cB cI cJ ad hI I x y (fun nt e h9 hc => hq (fun n2 e2 h2 => ?_)))
    rw [show n2 = nt from (nI_eq (by omega) (by omega)).mp (e2.symm.trans e)]
    exact hc
end
