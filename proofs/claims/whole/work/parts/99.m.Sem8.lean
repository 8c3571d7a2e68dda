/-! what each call does to both sides: cheap, share -/
noncomputable section
theorem upd_n9 {f : Nat → Int32} {k j : Nat} {v : Int32} (h : j ≠ k) : upd f k v j = f j := if_neg h
set_option maxHeartbeats 4000000 in
set_option maxRecDepth 100000 in
theorem sem_cheap (l : Launch) (hlt : l.stackTraces = false) (D : va_G) (cB cI cJ : ClassId) (ad : Nat → Nat) (hI : ipI ad 128) {A V : Nat → Nat → Int32} {R : Nat → Nat} {L : Nat → Nat → Int64} (I : INV A V R) (x : Int32) : CF l D cB cI cJ ad A V R L yX12_cheap wsX12_cheap [.ref (ad 0), .int x] yX13_cheap wsX13_cheap [.ref (ad 82), .int x] ∨ CX l D cB cI cJ ad A V R L yX12_cheap wsX12_cheap [.ref (ad 0), .int x] yX13_cheap wsX13_cheap [.ref (ad 82), .int x] "java/util/NoSuchElementException" 1 := by
  obtain ⟨h, nt, nc, np, nq, nl, na, nk, ln, ⟨hh, r0, r4, q33⟩, ⟨t1, t2, t3, t4, t5⟩, ⟨n1, n2, n3, n4, n5, n6, n7, n8, n9, n10, n11, n12, n13, n14, n15, n16, n17⟩, ⟨hT, hC, hP, hQ, hF, wP, wC, wT, wQ⟩, ⟨s1, hL, hoL⟩, ⟨l1, l2, l3, hA, hoA, l6, l7, l8, hS2, h3⟩, hMi, hFt, hCr⟩ := id I
  have hh2 : 116 - h = 50 ∨ 116 - h = 66 := by omega
  have hz := wf_hz wT hT
  have hW := wf_wt wT n15
  have hl9 := wf_li wC
  rcases rng (x := x) n2 (by omega) with ⟨cx, hcx, ex⟩ | ⟨gbx, nox⟩
  · obtain ⟨gx0, gx1⟩ := rng_in n2 (by omega) hcx ex
    have hV9 : ∀ t : Nat, t < nt → ∃ k : Nat, A (h + 6) (7 * t + 4) = nI k ∧ k ≤ 999 := fun t q => by
      obtain ⟨-, -, ⟨k, e, hk⟩, -⟩ := wT t q
      exact ⟨k, e, hk⟩
    have hQ9 : ∀ i : Nat, i < nq → ∃ k : Nat, A (h + 8) (2 * i + 1) = nI k ∧ k ≤ 999 := fun i q => by
      obtain ⟨-, ⟨k, e, hk⟩⟩ := wQ.1 i q
      exact ⟨k, e, hk⟩
    obtain ⟨F1, F2⟩ := eq_cheap (ch0 := V 82 47) (fa := A 112) (ft := A 113) (faf := A 33) (lof := A 35) (wof := A 37) n15 n14 n16 hF n11 hT hC hQ hL hW hl9 hV9 hQ9 hcx
    rw [← ex] at F1 F2
    have A5 : s_X13_sumAt nt (A 94) (A 95) (A 97) (A 99) (A 100) x 5 = taS (A 6) x nt := (eq_bits n15 hL nt (Nat.le_refl _)).1
    have xm : ¬ x = -1 := by rw [ex]; exact nI_n1 (by omega)
    refine Or.inl ⟨_, _, _, (c_X12_cheap l D cB cI cJ ad 128 (pl ad cB cI cJ A V R L) hI 0 1 h (116 - h) 3 4 7 14 17 24 31 44 46 (V 0 8) (V 0 9) nl nt nc nq (V 31 1) (V 31 2) (V 31 6) (V 4 2) (V (h + 9) 2) (V (h + 9) 5) (A 33) (A 35) (A 37) (V h) (A (h + 4)) (A (h + 6)) (A (h + 8)) (A (h + 11)) (A (h + 13)) (A (h + 15)) (A 6) x (by omega) (by omega) (by omega) (by omega) (by omega) (by omega) (by omega) (by omega) (by omega) (by omega) (by omega) (by omega) (by omega) (by omega) (by omega) (by omega) (by omega) (by omega) (by omega) (by omega) (by omega) (by omega) (by omega) (by omega) (by omega) (pl_po r0) rfl rfl rfl rfl rfl rfl rfl (pl_g r4) (ph_0 hh) (ph_3 hh) (ph_4 hh) (ph_5 hh) (ph_6 hh) (pl_rule hh n12) (ph_10 hh) (ph_11 hh) (ph_12 hh) (ph_13 hh) (ph_14 hh) (ph_15 hh) rfl rfl (ph_7 hh) (ph_8 hh) n3 n15 n4 n16 n17 (rF_c hF) (by omega) (by omega) (by omega) gx0 gx1), by decide, by decide, fun r1 M1 hp1 => ?_⟩
    obtain ⟨v0__b, v1__b, v2__b, hrb, b0, b1, b2, b3, b4, b5, b6, fr1⟩ := hp1
    obtain ⟨ua0_0, hua0_0⟩ : ∃ f, f = (s_X3_keepRow_2 ((s_X3_findLosses_2 nq (A (h + 6)) (A (h + 8)) (A 35) (A 37) nt).2) ((s_X3_leastFor_34 nl nt nq (V (h + 9) 2) (A 35) (A 37) (A (h + 4)) (A (h + 6)) (A (h + 8)) (A (h + 11)) (A 6) x (feeS nl (A (h + 11)) (V (h + 9) 2) (smS (A (h + 6)) (taS (A 6) x nt) 1 nt) (tat 25 (A (h + 4)) (x * 5 + 1)) (bcI (taS (A 6) x nt)) (tat 25 (A (h + 4)) (x * 5 + 4))) 0 (4096 - 1)).2) (A 33) 12) := ⟨_, rfl⟩
    rw [← hua0_0] at b0 F2
    obtain ⟨ua1_0, hua1_0⟩ : ∃ f, f = (s_X3_findLosses_2 nq (A (h + 6)) (A (h + 8)) (A 35) (A 37) nt) := ⟨_, rfl⟩
    rw [← hua1_0] at b1 
    obtain ⟨ua2_0, hua2_0⟩ : ∃ f, f = (s_X3_findLosses_2 nq (A (h + 6)) (A (h + 8)) (A 35) (A 37) nt) := ⟨_, rfl⟩
    rw [← hua2_0] at b2 
    have hM1 : M1 = pl ad cB cI cJ (va_up (va_up (va_up (va_up (va_up (va_up (va_up A 33 ua0_0) 35 (ua1_0.1)) 37 (ua2_0.2)) 63 (if h = 50 then v0__b else A 63)) 79 (if h = 66 then v0__b else A 79)) 65 (if h = 50 then v1__b else A 65)) 81 (if h = 66 then v1__b else A 81)) (va_up (va_up (va_up V 31 (upd (upd (V 31) 1 (taS (A 6) x nt)) 2 1)) 59 (if h = 50 then tv2 (nI nl) (V (h + 9) 2) v2__b else V 59)) 75 (if h = 66 then tv2 (nI nl) (V (h + 9) 2) v2__b else V 75)) R L := by
      refine pl_eq (A := A) (V := V) (R := R) (L := L) [33, 35, 37, 31, 63, 79, 65, 81, 59, 75] (fun q hq => fr1 q (by rintro rfl; rcases hh with rfl | rfl <;> exact absurd (by decide) hq) (by rintro rfl; rcases hh with rfl | rfl <;> exact absurd (by decide) hq) (by rintro rfl; rcases hh with rfl | rfl <;> exact absurd (by decide) hq) (by rintro rfl; rcases hh with rfl | rfl <;> exact absurd (by decide) hq) (by rintro rfl; rcases hh with rfl | rfl <;> exact absurd (by decide) hq) (by rintro rfl; rcases hh with rfl | rfl <;> exact absurd (by decide) hq) (by rintro rfl; rcases hh with rfl | rfl <;> exact absurd (by decide) hq)) (fun q hq => ⟨((va_up_ne _ _ (nm hq (by decide : (81 : Nat) ∈ _))).trans ((va_up_ne _ _ (nm hq (by decide : (65 : Nat) ∈ _))).trans ((va_up_ne _ _ (nm hq (by decide : (79 : Nat) ∈ _))).trans ((va_up_ne _ _ (nm hq (by decide : (63 : Nat) ∈ _))).trans ((va_up_ne _ _ (nm hq (by decide : (37 : Nat) ∈ _))).trans ((va_up_ne _ _ (nm hq (by decide : (35 : Nat) ∈ _))).trans (va_up_ne _ _ (nm hq (by decide : (33 : Nat) ∈ _))))))))), ((va_up_ne _ _ (nm hq (by decide : (75 : Nat) ∈ _))).trans ((va_up_ne _ _ (nm hq (by decide : (59 : Nat) ∈ _))).trans (va_up_ne _ _ (nm hq (by decide : (31 : Nat) ∈ _))))), rfl, rfl⟩) (fun q hq => ?_)
      simp only [List.mem_cons, List.not_mem_nil, or_false] at hq
      rcases hh with rfl | rfl <;> rcases hq with rfl | rfl | rfl | rfl | rfl | rfl | rfl | rfl | rfl | rfl <;> first | exact b0 | exact b1 | exact b2 | exact b3 | exact b4 | exact b5 | exact b6 | exact fr1 _ (by decide) (by decide) (by decide) (by decide) (by decide) (by decide) (by decide)
    refine ⟨(va_up (va_up (va_up (va_up (va_up (va_up (va_up A 33 ua0_0) 35 (ua1_0.1)) 37 (ua2_0.2)) 63 (if h = 50 then v0__b else A 63)) 79 (if h = 66 then v0__b else A 79)) 65 (if h = 50 then v1__b else A 65)) 81 (if h = 66 then v1__b else A 81)), (va_up (va_up (va_up V 31 (upd (upd (V 31) 1 (taS (A 6) x nt)) 2 1)) 59 (if h = 50 then tv2 (nI nl) (V (h + 9) 2) v2__b else V 59)) 75 (if h = 66 then tv2 (nI nl) (V (h + 9) 2) v2__b else V 75)), R, L, hM1, rfl, fun g => ⟨_, _, _, (c_X13_cheap l D cB cI cJ ad 128 (pl ad cB cI cJ (va_up (va_up (va_up (va_up (va_up (va_up (va_up A 33 ua0_0) 35 (ua1_0.1)) 37 (ua2_0.2)) 63 (if h = 50 then v0__b else A 63)) 79 (if h = 66 then v0__b else A 79)) 65 (if h = 50 then v1__b else A 65)) 81 (if h = 66 then v1__b else A 81)) (va_up (va_up (va_up V 31 (upd (upd (V 31) 1 (taS (A 6) x nt)) 2 1)) 59 (if h = 50 then tv2 (nI nl) (V (h + 9) 2) v2__b else V 59)) 75 (if h = 66 then tv2 (nI nl) (V (h + 9) 2) v2__b else V 75)) R (va_up L 127 g)) hI 82 nt nc np nq (V 82) (A 85) (A 90) (A 93) (A 94) (A 95) (A 97) (A 98) (A 99) (A 100) (A 101) (A 102) (A 103) (A 106) (A 107) (A 112) (A 113) nl x (by omega) (by omega) (by omega) (by omega) (by omega) (by omega) (by omega) (by omega) (by omega) (by omega) (by omega) (by omega) (by omega) (by omega) (by omega) (by omega) (by omega) rfl rfl rfl rfl rfl rfl rfl rfl rfl rfl rfl rfl rfl rfl rfl rfl rfl n5 n13 n6 n14 n7 n15 n8 n16 n11 n17 (rF_ok hF) (rF_m hF) (cs_in n6 (by omega) hcx ex)), by decide, by decide, fun r3 M3 hp3 => ?_⟩⟩
    obtain ⟨v0c, v1c, hrc, c0, c1, c2, c3, c4, fr3⟩ := hp3
    obtain ⟨S9, hS9⟩ : ∃ f, f = (coS (A 95) (A 98) (fun t => s_X13_priceOf nq (A 95) (A 101) (A 102) (nI t)) (s_X13_sumAt nt (A 94) (A 95) (A 97) (A 99) (A 100) x 5) nt (fun w m => feeByS nl (A 85) (A 103) (A 90) (A 93) x w m) nt 0 0 0 0 (0, ((V 82) 47), (A 112), (A 113))) := ⟨_, rfl⟩
    rw [← hS9] at F1 F2 hrc c0 c1 c2
    obtain ⟨uw0_0, huw0_0⟩ : ∃ f, f = (s_X13_sumAt nt (A 94) (A 95) (A 97) (A 99) (A 100) x 5) := ⟨_, rfl⟩
    rw [← huw0_0] at c0 A5
    have hM3 : M3 = pl ad cB cI cJ (va_up (va_up (va_up (va_up (va_up (va_up (va_up (va_up (va_up (va_up (va_up A 33 ua0_0) 35 (ua1_0.1)) 37 (ua2_0.2)) 63 (if h = 50 then v0__b else A 63)) 79 (if h = 66 then v0__b else A 79)) 65 (if h = 50 then v1__b else A 65)) 81 (if h = 66 then v1__b else A 81)) 112 (S9.2.2.1)) 113 (S9.2.2.2)) 106 v0c) 107 v1c) (va_up (va_up (va_up (va_up V 31 (upd (upd (V 31) 1 (taS (A 6) x nt)) 2 1)) 59 (if h = 50 then tv2 (nI nl) (V (h + 9) 2) v2__b else V 59)) 75 (if h = 66 then tv2 (nI nl) (V (h + 9) 2) v2__b else V 75)) 82 ((cF (upd (upd (upd (V 82) 2 0) 45 x) 46 uw0_0) S9.1 S9.2.1))) R (va_up L 127 g) := by
      refine pl_eq (A := (va_up (va_up (va_up (va_up (va_up (va_up (va_up A 33 ua0_0) 35 (ua1_0.1)) 37 (ua2_0.2)) 63 (if h = 50 then v0__b else A 63)) 79 (if h = 66 then v0__b else A 79)) 65 (if h = 50 then v1__b else A 65)) 81 (if h = 66 then v1__b else A 81))) (V := (va_up (va_up (va_up V 31 (upd (upd (V 31) 1 (taS (A 6) x nt)) 2 1)) 59 (if h = 50 then tv2 (nI nl) (V (h + 9) 2) v2__b else V 59)) 75 (if h = 66 then tv2 (nI nl) (V (h + 9) 2) v2__b else V 75))) (R := R) (L := (va_up L 127 g)) [82, 112, 113, 106, 107] (fun q hq => fr3 q (by rintro rfl; exact absurd (by decide) hq) (by rintro rfl; exact absurd (by decide) hq) (by rintro rfl; exact absurd (by decide) hq) (by rintro rfl; exact absurd (by decide) hq) (by rintro rfl; exact absurd (by decide) hq)) (fun q hq => ⟨((va_up_ne _ _ (nm hq (by decide : (107 : Nat) ∈ _))).trans ((va_up_ne _ _ (nm hq (by decide : (106 : Nat) ∈ _))).trans ((va_up_ne _ _ (nm hq (by decide : (113 : Nat) ∈ _))).trans (va_up_ne _ _ (nm hq (by decide : (112 : Nat) ∈ _)))))), (va_up_ne _ _ (nm hq (by decide : (82 : Nat) ∈ _))), rfl, rfl⟩) (fun q hq => ?_)
      simp only [List.mem_cons, List.not_mem_nil, or_false] at hq
      rcases hq with rfl | rfl | rfl | rfl | rfl <;> first | exact c0 | exact c1 | exact c2 | exact c3 | exact c4
    refine ⟨(va_up (va_up (va_up (va_up (va_up (va_up (va_up (va_up (va_up (va_up (va_up A 33 ua0_0) 35 (ua1_0.1)) 37 (ua2_0.2)) 63 (if h = 50 then v0__b else A 63)) 79 (if h = 66 then v0__b else A 79)) 65 (if h = 50 then v1__b else A 65)) 81 (if h = 66 then v1__b else A 81)) 112 (S9.2.2.1)) 113 (S9.2.2.2)) 106 v0c) 107 v1c), (va_up (va_up (va_up (va_up V 31 (upd (upd (V 31) 1 (taS (A 6) x nt)) 2 1)) 59 (if h = 50 then tv2 (nI nl) (V (h + 9) 2) v2__b else V 59)) 75 (if h = 66 then tv2 (nI nl) (V (h + 9) 2) v2__b else V 75)) 82 ((cF (upd (upd (upd (V 82) 2 0) 45 x) 46 uw0_0) S9.1 S9.2.1))), R, (va_up L 127 g), hM3, rfl, rfl, fun _ => hrc.trans (F1.trans hrb.symm), ?_⟩
    refine INV_fc I (fun q hq => ((va_up_ne _ _ (nm hq (by decide : (107 : Nat) ∈ _))).trans ((va_up_ne _ _ (nm hq (by decide : (106 : Nat) ∈ _))).trans ((va_up_ne _ _ (nm hq (by decide : (113 : Nat) ∈ _))).trans ((va_up_ne _ _ (nm hq (by decide : (112 : Nat) ∈ _))).trans ((va_up_ne _ _ (nm hq (by decide : (81 : Nat) ∈ _))).trans ((va_up_ne _ _ (nm hq (by decide : (65 : Nat) ∈ _))).trans ((va_up_ne _ _ (nm hq (by decide : (79 : Nat) ∈ _))).trans ((va_up_ne _ _ (nm hq (by decide : (63 : Nat) ∈ _))).trans ((va_up_ne _ _ (nm hq (by decide : (37 : Nat) ∈ _))).trans ((va_up_ne _ _ (nm hq (by decide : (35 : Nat) ∈ _))).trans (va_up_ne _ _ (nm hq (by decide : (33 : Nat) ∈ _)))))))))))))) (fun q hq => ((va_up_ne _ _ (nm hq (by decide : (82 : Nat) ∈ _))).trans ((va_up_ne _ _ (nm hq (by decide : (75 : Nat) ∈ _))).trans ((va_up_ne _ _ (nm hq (by decide : (59 : Nat) ∈ _))).trans (va_up_ne _ _ (nm hq (by decide : (31 : Nat) ∈ _))))))) (fun q hq => rfl) (by first | exact ⟨rfl, rfl⟩ | (rcases hh with rfl | rfl <;> first | exact ⟨rfl, rfl⟩ | exact ⟨n12.symm, rfl⟩)) (by first | exact ⟨rfl, rfl⟩ | (rcases hh with rfl | rfl <;> first | exact ⟨rfl, rfl⟩ | exact ⟨n12.symm, rfl⟩)) (fun q hq => ?_) (fun n9 n8 e9 _ e8 _ _ hc9 => ?_)
    · exact (upd_n9 (nm hq (by decide))).trans ((upd_n9 (nm hq (by decide))).trans ((upd_n9 (nm hq (by decide))).trans ((upd_n9 (nm hq (by decide))).trans (upd_n9 (nm hq (by decide))))))
    · obtain rfl : nt = n9 := (nI_eq (by omega) (by omega)).mp (n7.symm.trans e9)
      exact ⟨Or.inr ⟨fun q => absurd (show (1 : Int32) = 0 from q) (by decide), xm, A5, F2⟩, hc9⟩
  · refine Or.inr ⟨_, _, (x_X12_cheapA l D cB cI cJ ad 128 (pl ad cB cI cJ A V R L) hlt 0 1 h (116 - h) 3 4 7 14 17 24 31 44 46 (V 0 8) (V 0 9) (V h) x (by omega) (by omega) (pl_po r0) (ph_0 hh) gbx), by decide, by decide, ⟨_, _, _, (c_X13_cheapN l D cB cI cJ ad 128 (pl ad cB cI cJ A V R L) hI 82 nt nc np nq (V 82) (A 85) x (by omega) (by omega) rfl rfl n5 n13 n6 n14 n7 n15 n8 n16 (cs_out n6 (by omega) nox)), by decide, by decide, fun r3 M3 hp3 => ?_⟩⟩
    obtain ⟨hrc, c0o, fr3⟩ := hp3
    obtain ⟨mvc, c0, hmv⟩ : ∃ f : Nat → Int32, M3 82 = .inr (12, modF ad 82 f) ∧ (f 2 = 1 ∧ ∀ j : Nat, j ≠ 2 → f j = V 82 j) := ⟨_, c0o, mvk _ 1⟩
    have hM3 : M3 = pl ad cB cI cJ A (va_up V 82 mvc) R L := by
      refine pl_eq (A := A) (V := V) (R := R) (L := L) [82] (fun q hq => fr3 q (by rintro rfl; exact absurd (by decide) hq)) (fun q hq => ⟨rfl, (va_up_ne _ _ (nm hq (by decide : (82 : Nat) ∈ _))), rfl, rfl⟩) (fun q hq => ?_)
      simp only [List.mem_cons, List.not_mem_nil, or_false] at hq
      rcases hq with rfl <;> first | exact c0
    exact ⟨A, (va_up V 82 mvc), R, L, hM3, rfl, hmv.1, fun q => absurd q (by decide), INV_cg I (fun q hq => rfl) (fun q hq => (va_up_ne _ _ (nm hq (by decide : (82 : Nat) ∈ _)))) (fun q hq => rfl) (by first | exact ⟨rfl, rfl⟩ | (rcases hh with rfl | rfl <;> first | exact ⟨rfl, rfl⟩ | exact ⟨n12.symm, rfl⟩)) (by first | exact ⟨rfl, rfl⟩ | (rcases hh with rfl | rfl <;> first | exact ⟨rfl, rfl⟩ | exact ⟨n12.symm, rfl⟩)) hmv.2⟩
set_option maxHeartbeats 4000000 in
set_option maxRecDepth 100000 in
theorem sem_share (l : Launch) (hlt : l.stackTraces = false) (D : va_G) (cB cI cJ : ClassId) (ad : Nat → Nat) (hI : ipI ad 128) {A V : Nat → Nat → Int32} {R : Nat → Nat} {L : Nat → Nat → Int64} (I : INV A V R) : CF l D cB cI cJ ad A V R L yX12_share wsX12_share [.ref (ad 0)] yX13_share wsX13_share [.ref (ad 82)] := by
  obtain ⟨h, nt, nc, np, nq, nl, na, nk, ln, ⟨hh, r0, r4, q33⟩, ⟨t1, t2, t3, t4, t5⟩, ⟨n1, n2, n3, n4, n5, n6, n7, n8, n9, n10, n11, n12, n13, n14, n15, n16, n17⟩, ⟨hT, hC, hP, hQ, hF, wP, wC, wT, wQ⟩, ⟨s1, hL, hoL⟩, ⟨l1, l2, l3, hA, hoA, l6, l7, l8, hS2, h3⟩, hMi, hFt, hCr⟩ := id I
  have hh2 : 116 - h = 50 ∨ 116 - h = 66 := by omega
  have hz := wf_hz wT hT
  have hW := wf_wt wT n15
  have hl9 := wf_li wC
  have hz9 : (s_X3_leastShare_19 nt (V h) (A (h + 6)) (A 6) 1 (A 43) nc).1 = nI (np ^ nc) := (ls19 (np := np) n14 n1 nc (Nat.le_refl _)).1
  have hnz9 : np ^ nc ≤ 1024 := Nat.le_trans (Nat.pow_le_pow_left n13 nc) (Nat.pow_le_pow_right (n := 4) (j := 5) (by decide) n14)
  rcases Nat.eq_zero_or_pos np with h0p | h0p
  · have n0 : V h 5 = 0 := by rw [n1, h0p]; rfl
    have G3 : s_X3_leastShare_0_3 (V 31 6) (V h) = V 31 6 := by unfold s_X3_leastShare_0_3; rw [if_pos n0]
    have F2 : s_X3_leastShare_1_f (np ^ nc) nt nc np (V h) (A (h + 2)) (A (h + 6)) (A 6) (A 39) (A 43) = A 39 := by unfold s_X3_leastShare_1_f; rw [if_pos n0]
    have F1 : s_X12_share (np ^ nc) nt nc np (V h) (A (h + 2)) (A (h + 6)) (A 6) (A 39) (A 43) = -1 := by unfold s_X12_share s_X3_leastShare; rw [if_pos n0]
    refine ⟨_, _, _, (c_X12_share l D cB cI cJ ad 128 (pl ad cB cI cJ A V R L) hI 0 1 h (116 - h) 3 4 7 14 17 24 31 44 46 (V 0 8) (V 0 9) (np ^ nc) nt nc np (V 31 1) (V 31 2) (V 31 6) (V 4 2) (V h) (A (h + 2)) (A (h + 6)) (A 6) (A 39) (A 41) (A 43) (by omega) (by omega) (by omega) (by omega) (by omega) (by omega) (by omega) (by omega) (by omega) (by omega) (by omega) (by omega) (by omega) (by omega) (by omega) (by omega) (pl_po r0) rfl rfl rfl rfl rfl rfl rfl (pl_g r4) rfl rfl (ph_0 hh) (ph_5 hh) (ph_6 hh) (ph_1 hh) (ph_2 hh) n3 n15 n2 n14 n1 n13 (by omega) (by omega) hz9 hnz9), by decide, by decide, fun r1 M1 hp1 => ?_⟩
    obtain ⟨hrb, b0, b1, b2, b3, fr1⟩ := hp1
    obtain ⟨ua0_0, hua0_0⟩ : ∃ f, f = (s_X3_leastShare_1_f (np ^ nc) nt nc np (V h) (A (h + 2)) (A (h + 6)) (A 6) (A 39) (A 43)) := ⟨_, rfl⟩
    rw [← hua0_0] at b1 F2
    obtain ⟨ua1_0, hua1_0⟩ : ∃ f, f = (s_X3_leastShare_2_f (np ^ nc) nt nc np (V h) (A (h + 2)) (A (h + 6)) (A 6) (A 39) (A 41) (A 43)) := ⟨_, rfl⟩
    rw [← hua1_0] at b2 
    obtain ⟨ua2_0, hua2_0⟩ : ∃ f, f = (s_X3_leastShare_3_f nt nc (V h) (A (h + 6)) (A 6) (A 43)) := ⟨_, rfl⟩
    rw [← hua2_0] at b3 
    obtain ⟨uv0_0, huv0_0⟩ : ∃ f, f = (s_X3_leastShare_0_3 (V 31 6) (V h)) := ⟨_, rfl⟩
    rw [← huv0_0] at b0 G3
    have hM1 : M1 = pl ad cB cI cJ (va_up (va_up (va_up A 39 ua0_0) 41 ua1_0) 43 ua2_0) (va_up V 31 (upd (V 31) 6 uv0_0)) R L := by
      refine pl_eq (A := A) (V := V) (R := R) (L := L) [31, 39, 41, 43] (fun q hq => fr1 q (by rintro rfl; exact absurd (by decide) hq) (by rintro rfl; exact absurd (by decide) hq) (by rintro rfl; exact absurd (by decide) hq) (by rintro rfl; exact absurd (by decide) hq)) (fun q hq => ⟨((va_up_ne _ _ (nm hq (by decide : (43 : Nat) ∈ _))).trans ((va_up_ne _ _ (nm hq (by decide : (41 : Nat) ∈ _))).trans (va_up_ne _ _ (nm hq (by decide : (39 : Nat) ∈ _))))), (va_up_ne _ _ (nm hq (by decide : (31 : Nat) ∈ _))), rfl, rfl⟩) (fun q hq => ?_)
      simp only [List.mem_cons, List.not_mem_nil, or_false] at hq
      rcases hq with rfl | rfl | rfl | rfl <;> first | exact b0 | exact b1 | exact b2 | exact b3
    refine ⟨(va_up (va_up (va_up A 39 ua0_0) 41 ua1_0) 43 ua2_0), (va_up V 31 (upd (V 31) 6 uv0_0)), R, L, hM1, rfl, fun g => ⟨_, _, _, (c_X13_shareN l D cB cI cJ ad 128 (pl ad cB cI cJ (va_up (va_up (va_up A 39 ua0_0) 41 ua1_0) 43 ua2_0) (va_up V 31 (upd (V 31) 6 uv0_0)) R (va_up L 127 g)) hI 82 nt nc np nq (V 82) (A 85) (by omega) (by omega) rfl rfl n5 n13 n6 n14 n7 n15 n8 n16 h0p), by decide, by decide, fun r3 M3 hp3 => ?_⟩⟩
    obtain ⟨hrc, c0, fr3⟩ := hp3
    have hM3 : M3 = pl ad cB cI cJ (va_up (va_up (va_up A 39 ua0_0) 41 ua1_0) 43 ua2_0) (va_up (va_up V 31 (upd (V 31) 6 uv0_0)) 82 ((upd (V 82) 2 0))) R (va_up L 127 g) := by
      refine pl_eq (A := (va_up (va_up (va_up A 39 ua0_0) 41 ua1_0) 43 ua2_0)) (V := (va_up V 31 (upd (V 31) 6 uv0_0))) (R := R) (L := (va_up L 127 g)) [82] (fun q hq => fr3 q (by rintro rfl; exact absurd (by decide) hq)) (fun q hq => ⟨rfl, (va_up_ne _ _ (nm hq (by decide : (82 : Nat) ∈ _))), rfl, rfl⟩) (fun q hq => ?_)
      simp only [List.mem_cons, List.not_mem_nil, or_false] at hq
      rcases hq with rfl <;> first | exact c0
    refine ⟨(va_up (va_up (va_up A 39 ua0_0) 41 ua1_0) 43 ua2_0), (va_up (va_up V 31 (upd (V 31) 6 uv0_0)) 82 ((upd (V 82) 2 0))), R, (va_up L 127 g), hM3, rfl, rfl, fun _ => hrc.trans (F1.symm.trans hrb.symm), ?_⟩
    refine INV_fc I (fun q hq => ((va_up_ne _ _ (nm hq (by decide : (43 : Nat) ∈ _))).trans ((va_up_ne _ _ (nm hq (by decide : (41 : Nat) ∈ _))).trans (va_up_ne _ _ (nm hq (by decide : (39 : Nat) ∈ _)))))) (fun q hq => ((va_up_ne _ _ (nm hq (by decide : (82 : Nat) ∈ _))).trans (va_up_ne _ _ (nm hq (by decide : (31 : Nat) ∈ _))))) (fun q hq => rfl) ⟨rfl, rfl⟩ ⟨rfl, rfl⟩ (fun q hq => ?_) (fun n9 n8 e9 _ e8 _ hf9 hc9 => ?_)
    · exact upd_n9 (nm hq (by decide))
    · exact ⟨hf9, hc9.1.trans G3.symm, hc9.2.imp (fun q => G3.trans q) (fun q c hc => (q c hc).trans (congrFun F2 c).symm)⟩
  · have n0 : ¬ V h 5 = 0 := by rw [n1]; exact nI_ne0 h0p (by omega)
    have ho9 : ∀ p : Nat, p < np → A 86 p = A (h + 2) (3 * p + 0) ∧ ∃ k : Nat, A 86 p = nI k ∧ 1 ≤ k ∧ k ≤ 300 := fun p q => by
      obtain ⟨⟨k, e, k1, k2⟩, -⟩ := wP p q
      obtain ⟨e2, -⟩ := hP p q
      exact ⟨e2, k, e2.trans e, k1, k2⟩
    have how : ∀ t : Nat, t < np → ¬ A 86 t = 0 := fun t q => by
      obtain ⟨-, k, e, k1, k2⟩ := ho9 t q
      rw [e]
      exact nI_ne0 k1 (by omega)
    have G3 : s_X3_leastShare_0_3 (V 31 6) (V h) = 1 := by unfold s_X3_leastShare_0_3; rw [if_neg n0]
    obtain ⟨F1, F2⟩ := eq_share (caf := A 39) (we := A 43) (co := A 116) n15 n14 n13 h0p hT hL n1 ho9
    refine ⟨_, _, _, (c_X12_share l D cB cI cJ ad 128 (pl ad cB cI cJ A V R L) hI 0 1 h (116 - h) 3 4 7 14 17 24 31 44 46 (V 0 8) (V 0 9) (np ^ nc) nt nc np (V 31 1) (V 31 2) (V 31 6) (V 4 2) (V h) (A (h + 2)) (A (h + 6)) (A 6) (A 39) (A 41) (A 43) (by omega) (by omega) (by omega) (by omega) (by omega) (by omega) (by omega) (by omega) (by omega) (by omega) (by omega) (by omega) (by omega) (by omega) (by omega) (by omega) (pl_po r0) rfl rfl rfl rfl rfl rfl rfl (pl_g r4) rfl rfl (ph_0 hh) (ph_5 hh) (ph_6 hh) (ph_1 hh) (ph_2 hh) n3 n15 n2 n14 n1 n13 (by omega) (by omega) hz9 hnz9), by decide, by decide, fun r1 M1 hp1 => ?_⟩
    obtain ⟨hrb, b0, b1, b2, b3, fr1⟩ := hp1
    obtain ⟨ua0_0, hua0_0⟩ : ∃ f, f = (s_X3_leastShare_1_f (np ^ nc) nt nc np (V h) (A (h + 2)) (A (h + 6)) (A 6) (A 39) (A 43)) := ⟨_, rfl⟩
    rw [← hua0_0] at b1 F2
    obtain ⟨ua1_0, hua1_0⟩ : ∃ f, f = (s_X3_leastShare_2_f (np ^ nc) nt nc np (V h) (A (h + 2)) (A (h + 6)) (A 6) (A 39) (A 41) (A 43)) := ⟨_, rfl⟩
    rw [← hua1_0] at b2 
    obtain ⟨ua2_0, hua2_0⟩ : ∃ f, f = (s_X3_leastShare_3_f nt nc (V h) (A (h + 6)) (A 6) (A 43)) := ⟨_, rfl⟩
    rw [← hua2_0] at b3 
    obtain ⟨uv0_0, huv0_0⟩ : ∃ f, f = (s_X3_leastShare_0_3 (V 31 6) (V h)) := ⟨_, rfl⟩
    rw [← huv0_0] at b0 G3
    have hM1 : M1 = pl ad cB cI cJ (va_up (va_up (va_up A 39 ua0_0) 41 ua1_0) 43 ua2_0) (va_up V 31 (upd (V 31) 6 uv0_0)) R L := by
      refine pl_eq (A := A) (V := V) (R := R) (L := L) [31, 39, 41, 43] (fun q hq => fr1 q (by rintro rfl; exact absurd (by decide) hq) (by rintro rfl; exact absurd (by decide) hq) (by rintro rfl; exact absurd (by decide) hq) (by rintro rfl; exact absurd (by decide) hq)) (fun q hq => ⟨((va_up_ne _ _ (nm hq (by decide : (43 : Nat) ∈ _))).trans ((va_up_ne _ _ (nm hq (by decide : (41 : Nat) ∈ _))).trans (va_up_ne _ _ (nm hq (by decide : (39 : Nat) ∈ _))))), (va_up_ne _ _ (nm hq (by decide : (31 : Nat) ∈ _))), rfl, rfl⟩) (fun q hq => ?_)
      simp only [List.mem_cons, List.not_mem_nil, or_false] at hq
      rcases hq with rfl | rfl | rfl | rfl <;> first | exact b0 | exact b1 | exact b2 | exact b3
    refine ⟨(va_up (va_up (va_up A 39 ua0_0) 41 ua1_0) 43 ua2_0), (va_up V 31 (upd (V 31) 6 uv0_0)), R, L, hM1, rfl, fun g => ⟨_, _, _, (c_X13_share l D cB cI cJ ad 128 (pl ad cB cI cJ (va_up (va_up (va_up A 39 ua0_0) 41 ua1_0) 43 ua2_0) (va_up V 31 (upd (V 31) 6 uv0_0)) R (va_up L 127 g)) hI 82 nt nc np nq (V 82) (A 85) (A 86) (A 94) (A 95) (A 97) (A 99) (A 100) (A 116) (A 117) (by omega) (by omega) (by omega) (by omega) (by omega) (by omega) (by omega) (by omega) (by omega) (by omega) rfl rfl rfl rfl rfl rfl rfl rfl rfl rfl n5 n13 n6 n14 n7 n15 n8 n16 h0p how), by decide, by decide, fun r3 M3 hp3 => ?_⟩⟩
    obtain ⟨v0c, hrc, c0, c1, c2, fr3⟩ := hp3
    obtain ⟨S9, hS9⟩ : ∃ f, f = (caS np nc (shS (moX np nc (fun c => s_X13_sumAt nt (A 94) (A 95) (A 97) (A 99) (A 100) (nI c) 1) (A 86)) (np ^ nc)).2 (A 116) nc) := ⟨_, rfl⟩
    rw [← hS9] at F2 c1
    have hM3 : M3 = pl ad cB cI cJ (va_up (va_up (va_up (va_up (va_up A 39 ua0_0) 41 ua1_0) 43 ua2_0) 116 S9) 117 v0c) (va_up (va_up V 31 (upd (V 31) 6 uv0_0)) 82 ((upd (upd (V 82) 2 0) 53 1))) R (va_up L 127 g) := by
      refine pl_eq (A := (va_up (va_up (va_up A 39 ua0_0) 41 ua1_0) 43 ua2_0)) (V := (va_up V 31 (upd (V 31) 6 uv0_0))) (R := R) (L := (va_up L 127 g)) [82, 116, 117] (fun q hq => fr3 q (by rintro rfl; exact absurd (by decide) hq) (by rintro rfl; exact absurd (by decide) hq) (by rintro rfl; exact absurd (by decide) hq)) (fun q hq => ⟨((va_up_ne _ _ (nm hq (by decide : (117 : Nat) ∈ _))).trans (va_up_ne _ _ (nm hq (by decide : (116 : Nat) ∈ _)))), (va_up_ne _ _ (nm hq (by decide : (82 : Nat) ∈ _))), rfl, rfl⟩) (fun q hq => ?_)
      simp only [List.mem_cons, List.not_mem_nil, or_false] at hq
      rcases hq with rfl | rfl | rfl <;> first | exact c0 | exact c1 | exact c2
    refine ⟨(va_up (va_up (va_up (va_up (va_up A 39 ua0_0) 41 ua1_0) 43 ua2_0) 116 S9) 117 v0c), (va_up (va_up V 31 (upd (V 31) 6 uv0_0)) 82 ((upd (upd (V 82) 2 0) 53 1))), R, (va_up L 127 g), hM3, rfl, rfl, fun _ => hrc.trans (F1.symm.trans hrb.symm), ?_⟩
    refine INV_fc I (fun q hq => ((va_up_ne _ _ (nm hq (by decide : (117 : Nat) ∈ _))).trans ((va_up_ne _ _ (nm hq (by decide : (116 : Nat) ∈ _))).trans ((va_up_ne _ _ (nm hq (by decide : (43 : Nat) ∈ _))).trans ((va_up_ne _ _ (nm hq (by decide : (41 : Nat) ∈ _))).trans (va_up_ne _ _ (nm hq (by decide : (39 : Nat) ∈ _)))))))) (fun q hq => ((va_up_ne _ _ (nm hq (by decide : (82 : Nat) ∈ _))).trans (va_up_ne _ _ (nm hq (by decide : (31 : Nat) ∈ _))))) (fun q hq => rfl) ⟨rfl, rfl⟩ ⟨rfl, rfl⟩ (fun q hq => ?_) (fun n9 n8 e9 _ e8 _ hf9 hc9 => ?_)
    · exact (upd_n9 (nm hq (by decide))).trans (upd_n9 (nm hq (by decide)))
    · obtain rfl : nc = n8 := (nI_eq (by omega) (by omega)).mp (n6.symm.trans e8)
      exact ⟨hf9, G3.symm, Or.inr (fun c hc => (F2 c hc).symm)⟩
end
