/-! what each call does to both sides: see, share -/
noncomputable section
set_option maxHeartbeats 4000000 in
set_option maxRecDepth 100000 in
theorem sem_see (l : Launch) (hlt : l.stackTraces = false) (D : va_G) (cB cI cJ : ClassId) (ad : Nat → Nat) (hI : ipI ad 128) {A V : Nat → Nat → Int32} {R : Nat → Nat} {L : Nat → Nat → Int64} (I : INV A V R) (x y : Int32) : CF l D cB cI cJ ad A V R L yX12_see wsX12_see [.ref (ad 0), .int x, .int y] yX13_see wsX13_see [.ref (ad 82), .int x, .int y] ∨ CX l D cB cI cJ ad A V R L yX12_see wsX12_see [.ref (ad 0), .int x, .int y] yX13_see wsX13_see [.ref (ad 82), .int x, .int y] "java/util/NoSuchElementException" 1 := by
  obtain ⟨h, nt, nc, np, nq, nl, na, nk, ln, ⟨hh, r0, r4, q33⟩, ⟨t1, t2, t3, t4, t5⟩, ⟨n1, n2, n3, n4, n5, n6, n7, n8, n9, n10, n11, n12, n13, n14, n15, n16, n17⟩, ⟨hT, hC, hP, hQ, hF, wP, wC, wT, wQ⟩, ⟨s1, hL, hoL⟩, ⟨l1, l2, l3, hA, hoA, l6, l7, l8, hS2, h3⟩, hMi, hFt, hCr⟩ := id I
  have hh2 : 116 - h = 50 ∨ 116 - h = 66 := by omega
  have hz := wf_hz wT hT
  have hW := wf_wt wT n15
  have hl9 := wf_li wC
  rcases rng (x := x) n2 (by omega) with ⟨cx, hcx, ex⟩ | ⟨gbx, nox⟩
  · obtain ⟨gx0, gx1⟩ := rng_in n2 (by omega) hcx ex
    obtain ⟨F1, F2, F3, F4, F5, k2, F6, F7, F8⟩ := eq_see (y := y) l8 l7 n6 n14 hcx hS2 h3
    rw [← ex] at F1 F2 F3 F4 F5 F8
    rw [← l6] at F1 F3 F5 F7 F8
    refine Or.inl ⟨_, _, _, (c_X12_see l D cB cI cJ ad 128 (pl ad cB cI cJ A V R L) hI 0 1 h (116 - h) 3 4 7 14 17 24 31 44 46 (V 0 8) (V 0 9) (V 7 1) (V 7 3) (V h) (A 11) (A 13) x y (by omega) (by omega) (by omega) (by omega) (by omega) (by omega) (by omega) (pl_po r0) rfl (ph_0 hh) rfl rfl rfl rfl (by omega) gx0 gx1), by decide, by decide, fun r1 M1 hp1 => ?_⟩
    obtain ⟨hrb, b0, b1, b2, fr1⟩ := hp1
    obtain ⟨ua0_0, hua0_0⟩ : ∃ f, f = (s_X12_see_1_f (V 7 3) (A 11) x y) := ⟨_, rfl⟩
    rw [← hua0_0] at b1 F8
    obtain ⟨ua1_0, hua1_0⟩ : ∃ f, f = (s_X12_see_2_f (V 7 3) (A 13) y) := ⟨_, rfl⟩
    rw [← hua1_0] at b2 F5
    obtain ⟨uv0_0, huv0_0⟩ : ∃ f, f = (s_X12_see_0_2 (V 7 3) y) := ⟨_, rfl⟩
    rw [← huv0_0] at b0 F3 F7
    have hM1 : M1 = pl ad cB cI cJ (va_up (va_up A 11 ua0_0) 13 ua1_0) (va_up V 7 (upd (V 7) 3 uv0_0)) R L := by
      refine pl_eq (A := A) (V := V) (R := R) (L := L) [7, 11, 13] (fun q hq => fr1 q (by rintro rfl; exact absurd (by decide) hq) (by rintro rfl; exact absurd (by decide) hq) (by rintro rfl; exact absurd (by decide) hq)) (fun q hq => ⟨((va_up_ne _ _ (nm hq (by decide : (13 : Nat) ∈ _))).trans (va_up_ne _ _ (nm hq (by decide : (11 : Nat) ∈ _)))), (va_up_ne _ _ (nm hq (by decide : (7 : Nat) ∈ _))), rfl, rfl⟩) (fun q hq => ?_)
      simp only [List.mem_cons, List.not_mem_nil, or_false] at hq
      rcases hq with rfl | rfl | rfl <;> first | exact b0 | exact b1 | exact b2
    refine ⟨(va_up (va_up A 11 ua0_0) 13 ua1_0), (va_up V 7 (upd (V 7) 3 uv0_0)), R, L, hM1, rfl, fun g => ⟨_, _, _, (c_X13_see l D cB cI cJ ad 128 (pl ad cB cI cJ (va_up (va_up A 11 ua0_0) 13 ua1_0) (va_up V 7 (upd (V 7) 3 uv0_0)) R (va_up L 127 g)) hI 82 nt nc np nq (V 82) (A 85) (A 104) (A 118) (A 119) nk x y (by omega) (by omega) (by omega) (by omega) (by omega) rfl rfl rfl rfl rfl n5 n13 n6 n14 n7 n15 n8 n16 l7 l8), by decide, by decide, fun r3 M3 hp3 => ?_⟩⟩
    obtain ⟨hrc, c0, c1, c2, c3, fr3⟩ := hp3
    obtain ⟨uc0_0, huc0_0⟩ : ∃ f, f = (s_X13_see_0_f (V 82) (A 85) (A 104) x y) := ⟨_, rfl⟩
    rw [← huc0_0] at c0 F5
    obtain ⟨uc1_0, huc1_0⟩ : ∃ f, f = (s_X13_see_1_f (V 82) (A 85) (A 118) x y) := ⟨_, rfl⟩
    rw [← huc1_0] at c1 F8
    obtain ⟨uc2_0, huc2_0⟩ : ∃ f, f = (s_X13_see_2_f (V 82) (A 85) (A 119) x y) := ⟨_, rfl⟩
    rw [← huc2_0] at c2 F8
    obtain ⟨uw0_0, huw0_0⟩ : ∃ f, f = (s_X13_see_3_1 (V 82) (A 85) x y) := ⟨_, rfl⟩
    rw [← huw0_0] at c3 F2 F3 F4
    have hM3 : M3 = pl ad cB cI cJ (va_up (va_up (va_up (va_up (va_up A 11 ua0_0) 13 ua1_0) 104 uc0_0) 118 uc1_0) 119 uc2_0) (va_up (va_up V 7 (upd (V 7) 3 uv0_0)) 82 uw0_0) R (va_up L 127 g) := by
      refine pl_eq (A := (va_up (va_up A 11 ua0_0) 13 ua1_0)) (V := (va_up V 7 (upd (V 7) 3 uv0_0))) (R := R) (L := (va_up L 127 g)) [104, 118, 119, 82] (fun q hq => fr3 q (by rintro rfl; exact absurd (by decide) hq) (by rintro rfl; exact absurd (by decide) hq) (by rintro rfl; exact absurd (by decide) hq) (by rintro rfl; exact absurd (by decide) hq)) (fun q hq => ⟨((va_up_ne _ _ (nm hq (by decide : (119 : Nat) ∈ _))).trans ((va_up_ne _ _ (nm hq (by decide : (118 : Nat) ∈ _))).trans (va_up_ne _ _ (nm hq (by decide : (104 : Nat) ∈ _))))), (va_up_ne _ _ (nm hq (by decide : (82 : Nat) ∈ _))), rfl, rfl⟩) (fun q hq => ?_)
      simp only [List.mem_cons, List.not_mem_nil, or_false] at hq
      rcases hq with rfl | rfl | rfl | rfl <;> first | exact c0 | exact c1 | exact c2 | exact c3
    refine ⟨(va_up (va_up (va_up (va_up (va_up A 11 ua0_0) 13 ua1_0) 104 uc0_0) 118 uc1_0) 119 uc2_0), (va_up (va_up V 7 (upd (V 7) 3 uv0_0)) 82 uw0_0), R, (va_up L 127 g), hM3, rfl, F2, fun _ => hrc.trans (F1.trans hrb.symm), ?_⟩
    refine INV_st I (fun q hq => ((va_up_ne _ _ (nm hq (by decide : (119 : Nat) ∈ _))).trans ((va_up_ne _ _ (nm hq (by decide : (118 : Nat) ∈ _))).trans ((va_up_ne _ _ (nm hq (by decide : (104 : Nat) ∈ _))).trans ((va_up_ne _ _ (nm hq (by decide : (13 : Nat) ∈ _))).trans (va_up_ne _ _ (nm hq (by decide : (11 : Nat) ∈ _)))))))) (fun q hq => ((va_up_ne _ _ (nm hq (by decide : (82 : Nat) ∈ _))).trans (va_up_ne _ _ (nm hq (by decide : (7 : Nat) ∈ _))))) (fun q hq => rfl) (fun q hq => F4 q (nm hq (by decide)) (nm hq (by decide))) (fun n9 e9 _ => ?_)
    obtain rfl : nt = n9 := (nI_eq (by omega) (by omega)).mp (n7.symm.trans e9)
    exact ⟨⟨(F4 36 (by decide) (by decide)).trans s1, hL, hoL⟩, na, k2, l1, (F4 37 (by decide) (by decide)).trans l2, l3, hA, hoA, F7, F3.trans F7, F6, F8, F5⟩
  · have hc0 := cs_out n6 (by omega) nox
    refine Or.inr ⟨_, _, (x_X12_seeA l D cB cI cJ ad 128 (pl ad cB cI cJ A V R L) hlt 0 1 h (116 - h) 3 4 7 14 17 24 31 44 46 (V 0 8) (V 0 9) (V h) x y (by omega) (by omega) (pl_po r0) (ph_0 hh) gbx), by decide, by decide, ⟨_, _, _, (c_X13_see l D cB cI cJ ad 128 (pl ad cB cI cJ A V R L) hI 82 nt nc np nq (V 82) (A 85) (A 104) (A 118) (A 119) nk x y (by omega) (by omega) (by omega) (by omega) (by omega) rfl rfl rfl rfl rfl n5 n13 n6 n14 n7 n15 n8 n16 l7 l8), by decide, by decide, fun r3 M3 hp3 => ?_⟩⟩
    obtain ⟨hrc, c0, c1, c2, c3, fr3⟩ := hp3
    unfold s_X13_see_0_f at c0; unfold s_X13_see_1_f at c1; unfold s_X13_see_2_f at c2; unfold s_X13_see_3_1 at c3
    rw [if_pos hc0] at c0 c1 c2 c3
    have hM3 : M3 = pl ad cB cI cJ A (va_up V 82 (upd (upd (V 82) 2 0) 2 1)) R L := by
      refine pl_eq (A := A) (V := V) (R := R) (L := L) [104, 118, 119, 82] (fun q hq => fr3 q (by rintro rfl; exact absurd (by decide) hq) (by rintro rfl; exact absurd (by decide) hq) (by rintro rfl; exact absurd (by decide) hq) (by rintro rfl; exact absurd (by decide) hq)) (fun q hq => ⟨rfl, (va_up_ne _ _ (nm hq (by decide : (82 : Nat) ∈ _))), rfl, rfl⟩) (fun q hq => ?_)
      simp only [List.mem_cons, List.not_mem_nil, or_false] at hq
      rcases hq with rfl | rfl | rfl | rfl <;> first | exact c0 | exact c1 | exact c2 | exact c3
    exact ⟨A, (va_up V 82 (upd (upd (V 82) 2 0) 2 1)), R, L, hM3, rfl, rfl, fun q => absurd q (by decide), INV_cg I (fun q hq => rfl) (fun q hq => va_up_ne _ _ (nm hq (by decide : (82 : Nat) ∈ _))) (fun q hq => rfl) ⟨rfl, rfl⟩ ⟨rfl, rfl⟩ (mv1 _ 1).2⟩
end
