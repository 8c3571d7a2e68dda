/-! what each call does to both sides: weigh, fits, best, counter, opened -/
noncomputable section
theorem INV_100 {A V : Nat → Nat → Int32} {R : Nat → Nat} (I : INV A V R) (f : Nat → Int32) (hf : ∀ nt : Nat, A 85 2 = nI nt → nt ≤ 12 → ∀ t : Nat, t < nt → f t = A 100 t) : INV (va_up A 100 f) V R := by
  obtain ⟨h, nt, nc, np, nq, nl, na, nk, ln, ⟨hh, r0, r4, q33⟩, ⟨t1, t2, t3, t4, t5⟩, ⟨n1, n2, n3, n4, n5, n6, n7, n8, n9, n10, n11, n12, n13, n14, n15, n16, n17⟩, ⟨hT, hC, hP, hQ, hF, wP, wC, wT, wQ⟩, ⟨s1, s2, s3⟩, ⟨l1, l2, l3, l4, l5, l6, l7, l8, l9, l10⟩, hMi, hFt, hCr⟩ := I
  have g := hf nt n7 n15
  rcases hh with rfl | rfl
  · exact ⟨50, nt, nc, np, nq, nl, na, nk, ln, ⟨Or.inl rfl, r0, r4, q33⟩, ⟨t1, t2, t3, t4, t5⟩, ⟨n1, n2, n3, n4, n5, n6, n7, n8, n9, n10, n11, n12, n13, n14, n15, n16, n17⟩, ⟨hT, hC, hP, hQ, hF, wP, wC, wT, wQ⟩, ⟨s1, fun t ht => (g t ht).trans (s2 t ht), fun t ht => by obtain ⟨k, e1, e2⟩ := s3 t ht; exact ⟨k, e1, (g t ht).trans e2⟩⟩, ⟨l1, l2, l3, l4, l5, l6, l7, l8, l9, l10⟩, hMi, hFt, hCr⟩
  · exact ⟨66, nt, nc, np, nq, nl, na, nk, ln, ⟨Or.inr rfl, r0, r4, q33⟩, ⟨t1, t2, t3, t4, t5⟩, ⟨n1, n2, n3, n4, n5, n6, n7, n8, n9, n10, n11, n12, n13, n14, n15, n16, n17⟩, ⟨hT, hC, hP, hQ, hF, wP, wC, wT, wQ⟩, ⟨s1, fun t ht => (g t ht).trans (s2 t ht), fun t ht => by obtain ⟨k, e1, e2⟩ := s3 t ht; exact ⟨k, e1, (g t ht).trans e2⟩⟩, ⟨l1, l2, l3, l4, l5, l6, l7, l8, l9, l10⟩, hMi, hFt, hCr⟩
theorem wf_pack {nt nc np : Nat} {tf cf pf ki he un wi va ht ow li ho co bo own po be : Nat → Int32} (h1 : nt ≤ 12) (h2 : nc ≤ 5) (h3 : np ≤ 4) (wT : wfT nt nc tf) (wC : wfC nc np cf) (wP : wfP np pf) (hT : rlT nt tf ki he un wi va ht) (hC : rlC nc cf ow li ho co bo) (hP : rlP np pf own po be) : ∃ w h g Ho Li Be : Nat → Nat, pOK9 nt nc np w h g Ho Li Be be ow li ho bo ki he wi ht := by
  refine ⟨fun t => (wi t).toNatClampNeg, fun t => (he t).toNatClampNeg, fun t => (ht t).toNatClampNeg, fun c => (ho c).toNatClampNeg, fun c => (li c).toNatClampNeg, fun p => (be p).toNatClampNeg, h1, h2, h3, fun t q => ?_, fun t q => ?_, fun t q => ?_, wf_hz wT hT, fun c q => ?_, fun p q => ?_⟩
  · obtain ⟨-, ⟨k, e, hk⟩, -⟩ := wT t q
    obtain ⟨-, -, -, e4, -⟩ := hT t q
    have e9 : wi t = nI k := e4.trans e
    show wi t = nI (wi t).toNatClampNeg ∧ (wi t).toNatClampNeg ≤ 20
    rw [e9, nI_clamp (by omega)]
    exact ⟨rfl, hk⟩
  · obtain ⟨⟨k, u, e, -, -, hk, -⟩, -⟩ := wT t q
    obtain ⟨-, e4, -⟩ := hT t q
    have e9 : he t = nI k := e4.trans e
    show he t = nI (he t).toNatClampNeg ∧ (he t).toNatClampNeg ≤ 60
    rw [e9, nI_clamp (by omega)]
    exact ⟨rfl, hk⟩
  · obtain ⟨k, hk, e9⟩ := wf_ht wT hT t q
    show ht t = nI (ht t).toNatClampNeg ∧ (ht t).toNatClampNeg ≤ 9
    rw [e9, nI_clamp (by omega)]
    exact ⟨rfl, hk⟩
  · obtain ⟨-, ⟨a, ea, ha⟩, ⟨b, eb, hb⟩, -⟩ := wC c q
    obtain ⟨-, e2, e3, -⟩ := hC c q
    have e9 : li c = nI a := e2.trans ea
    have e8 : ho c = nI b := e3.trans eb
    have e7 := wf_bo wC hC c q
    show ho c = nI (ho c).toNatClampNeg ∧ (ho c).toNatClampNeg ≤ 60 ∧ li c = nI (li c).toNatClampNeg ∧ (li c).toNatClampNeg ≤ 200 ∧ (bo c = 0 ∨ bo c = 1)
    rw [e8, e9, nI_clamp (show b < 2 ^ 31 by omega), nI_clamp (show a < 2 ^ 31 by omega)]
    exact ⟨rfl, hb, rfl, ha, e7⟩
  · obtain ⟨k, hk, e9⟩ := wf_be wP hP q
    show be p = nI (be p).toNatClampNeg ∧ (be p).toNatClampNeg ≤ 30
    rw [e9, nI_clamp (by omega)]
    exact ⟨rfl, hk⟩
set_option maxHeartbeats 4000000 in
set_option maxRecDepth 100000 in
theorem sem_opened (l : Launch) (hlt : l.stackTraces = false) (D : va_G) (cB cI cJ : ClassId) (ad : Nat → Nat) (hI : ipI ad 128) {A V : Nat → Nat → Int32} {R : Nat → Nat} {L : Nat → Nat → Int64} (I : INV A V R) : CF l D cB cI cJ ad A V R L yX12_opened wsX12_opened [.ref (ad 0)] yX13_opened wsX13_opened [.ref (ad 82)] := by
  obtain ⟨h, nt, nc, np, nq, nl, na, nk, ln, ⟨hh, r0, r4, q33⟩, ⟨t1, t2, t3, t4, t5⟩, ⟨n1, n2, n3, n4, n5, n6, n7, n8, n9, n10, n11, n12, n13, n14, n15, n16, n17⟩, ⟨hT, hC, hP, hQ, hF, wP, wC, wT, wQ⟩, ⟨s1, hL, hoL⟩, ⟨l1, l2, l3, hA, hoA, l6, l7, l8, hS2, h3⟩, hMi, hFt, hCr⟩ := id I
  have hh2 : 116 - h = 50 ∨ 116 - h = 66 := by omega
  have hz := wf_hz wT hT
  have hW := wf_wt wT n15
  have hl9 := wf_li wC
  obtain ⟨w9, h9, g9, Ho, Li, Be, hD⟩ := wf_pack n15 n14 n13 wT wC wP hT hC hP
  have hO : ∀ c : Nat, c < nc → ∃ k : Nat, A 89 c = nI k ∧ k < np := fun c q => by
    obtain ⟨⟨k, e, hk⟩, -⟩ := wC c q
    obtain ⟨e2, -⟩ := hC c q
    exact ⟨k, e2.trans e, hk⟩
  have h99 : ∀ c : Nat, c < nc → ∃ k : Nat, A (h + 4) (5 * c + 3) = nI k ∧ k ≤ 99 := fun c q => by
    obtain ⟨-, -, -, ⟨k, e, hk⟩, -⟩ := wC c q
    exact ⟨k, e, hk⟩
  refine ⟨_, _, _, (c_X12_opened l D cB cI cJ ad 128 (pl ad cB cI cJ A V R L) hI 0 1 h (116 - h) 3 4 7 14 17 24 31 44 46 (V 0 8) (V 0 9) (2 ^ nc) nt nc np (V 4 2) (V h) (A (h + 2)) (A (h + 4)) (A (h + 6)) (A 6) (A 26) (A 28) (A 30) (by omega) (by omega) (by omega) (by omega) (by omega) (by omega) (by omega) (by omega) (by omega) (by omega) (by omega) (by omega) (by omega) (by omega) (by omega) (by omega) (by omega) (by omega) (pl_po r0) rfl rfl rfl rfl rfl rfl rfl (pl_g r4) rfl rfl (ph_0 hh) (ph_5 hh) (ph_6 hh) (ph_1 hh) (ph_2 hh) (ph_3 hh) (ph_4 hh) n3 n15 n2 n14 n1 n13 (by omega) (by omega) (by rw [n2]; exact shl_n nc (by omega)) (Nat.pow_le_pow_right (n := 2) (j := 5) (by decide) n14)), by decide, by decide, fun r1 M1 hp1 => ?_⟩
  obtain ⟨v0__, v1__, v2__, hr1, b0o, b1o, b2o, fr1⟩ := hp1
  obtain ⟨fb1, b0⟩ : ∃ f, M1 26 = .inl (cI, 8, .inl f) := ⟨_, b0o⟩
  obtain ⟨fb2, b1⟩ : ∃ f, M1 28 = .inl (cI, 256, .inl f) := ⟨_, b1o⟩
  obtain ⟨fb3, b2⟩ : ∃ f, M1 30 = .inl (cI, 256, .inl f) := ⟨_, b2o⟩
  have hM1 : M1 = pl ad cB cI cJ (va_up (va_up (va_up A 26 fb1) 28 fb2) 30 fb3) V R L := by
    refine pl_eq (A := A) (V := V) (R := R) (L := L) [26, 28, 30] (fun q hq => fr1 q (by rintro rfl; exact absurd (by decide) hq) (by rintro rfl; exact absurd (by decide) hq) (by rintro rfl; exact absurd (by decide) hq)) (fun q hq => ⟨((va_up_ne _ _ (nm hq (by decide : (30 : Nat) ∈ _))).trans ((va_up_ne _ _ (nm hq (by decide : (28 : Nat) ∈ _))).trans (va_up_ne _ _ (nm hq (by decide : (26 : Nat) ∈ _))))), rfl, rfl, rfl⟩) (fun q hq => ?_)
    simp only [List.mem_cons, List.not_mem_nil, or_false] at hq
    rcases hq with rfl | rfl | rfl <;> first | exact b0 | exact b1 | exact b2
  refine ⟨(va_up (va_up (va_up A 26 fb1) 28 fb2) 30 fb3), V, R, L, hM1, rfl, fun g => ⟨_, _, _, (c_X13_opened l D cB cI cJ ad 128 (pl ad cB cI cJ (va_up (va_up (va_up A 26 fb1) 28 fb2) 30 fb3) V R (va_up L 127 g)) hI 82 nt nc np nq (V 82) (A 85) (A 88) (A 89) (A 90) (A 91) (A 92) (A 93) (A 94) (A 95) (A 97) (A 99) (A 100) (A 111) (2 ^ nc) (by omega) (by omega) (by omega) (by omega) (by omega) (by omega) (by omega) (by omega) (by omega) (by omega) (by omega) (by omega) (by omega) (by omega) rfl rfl rfl rfl rfl rfl rfl rfl rfl rfl rfl rfl rfl rfl n5 n13 n6 n14 n7 n15 n8 n16 (by rw [n6]; exact shl_n nc (by omega)) (Nat.pow_le_pow_right (n := 2) (j := 5) (by decide) n14)), by decide, by decide, fun r3 M3 hp3 => ?_⟩⟩
  obtain ⟨v0, hrc, c0o, c1o, c2o, fr3⟩ := hp3
  obtain ⟨mvc, c0, hmv⟩ : ∃ f : Nat → Int32, M3 82 = .inr (12, modF ad 82 f) ∧ (f 2 = 0 ∧ ∀ j : Nat, j ≠ 2 → f j = V 82 j) := ⟨_, c0o, mv0 _⟩
  obtain ⟨fc3, c2⟩ : ∃ f, M3 111 = .inl (cI, 12, .inl f) := ⟨_, c2o⟩
  have hM3 : M3 = pl ad cB cI cJ (va_up (va_up (va_up (va_up A 26 fb1) 28 fb2) 30 fb3) 111 fc3) (va_up V 82 mvc) R (va_up L 127 g) := by
    refine pl_eq (A := (va_up (va_up (va_up A 26 fb1) 28 fb2) 30 fb3)) (V := V) (R := R) (L := (va_up L 127 g)) [82, 100, 111] (fun q hq => fr3 q (by rintro rfl; exact absurd (by decide) hq) (by rintro rfl; exact absurd (by decide) hq) (by rintro rfl; exact absurd (by decide) hq)) (fun q hq => ⟨(va_up_ne _ _ (nm hq (by decide : (111 : Nat) ∈ _))), (va_up_ne _ _ (nm hq (by decide : (82 : Nat) ∈ _))), rfl, rfl⟩) (fun q hq => ?_)
    simp only [List.mem_cons, List.not_mem_nil, or_false] at hq
    rcases hq with rfl | rfl | rfl <;> first | exact c0 | exact c1o | exact c2
  exact ⟨(va_up (va_up (va_up (va_up A 26 fb1) 28 fb2) 30 fb3) 111 fc3), (va_up V 82 mvc), R, (va_up L 127 g), hM3, rfl, hmv.1, fun _ => hrc.trans (Eq.trans (by have E1 := eq_opened (mv := upd (V 82) 2 0) (itf := A 26) (ref := A 28) (tkf := A 30) hD hT hC hP hL hO h99 (nz := 2 ^ nc) (Nat.pow_le_pow_right (n := 2) (j := 5) (by decide) n14); rw [show (upd (V 82) 2 0) 36 = V 82 36 from rfl, s1] at E1; exact E1) hr1.symm), INV_cg I (fun q hq => ((va_up_ne _ _ (nm hq (by decide : (111 : Nat) ∈ _))).trans ((va_up_ne _ _ (nm hq (by decide : (30 : Nat) ∈ _))).trans ((va_up_ne _ _ (nm hq (by decide : (28 : Nat) ∈ _))).trans (va_up_ne _ _ (nm hq (by decide : (26 : Nat) ∈ _))))))) (fun q hq => (va_up_ne _ _ (nm hq (by decide : (82 : Nat) ∈ _)))) (fun q hq => rfl) (by first | exact ⟨rfl, rfl⟩ | (rcases hh with rfl | rfl <;> first | exact ⟨rfl, rfl⟩ | exact ⟨n12.symm, rfl⟩)) (by first | exact ⟨rfl, rfl⟩ | (rcases hh with rfl | rfl <;> first | exact ⟨rfl, rfl⟩ | exact ⟨n12.symm, rfl⟩)) hmv.2⟩
set_option maxHeartbeats 4000000 in
set_option maxRecDepth 100000 in
theorem sem_weigh (l : Launch) (hlt : l.stackTraces = false) (D : va_G) (cB cI cJ : ClassId) (ad : Nat → Nat) (hI : ipI ad 128) {A V : Nat → Nat → Int32} {R : Nat → Nat} {L : Nat → Nat → Int64} (I : INV A V R) (x y : Int32) : CF l D cB cI cJ ad A V R L yX12_weigh wsX12_weigh [.ref (ad 0), .int x, .int y] yX13_weigh wsX13_weigh [.ref (ad 82), .int x, .int y] ∨ CX l D cB cI cJ ad A V R L yX12_weigh wsX12_weigh [.ref (ad 0), .int x, .int y] yX13_weigh wsX13_weigh [.ref (ad 82), .int x, .int y] "java/util/NoSuchElementException" 1 := by
  obtain ⟨h, nt, nc, np, nq, nl, na, nk, ln, ⟨hh, r0, r4, q33⟩, ⟨t1, t2, t3, t4, t5⟩, ⟨n1, n2, n3, n4, n5, n6, n7, n8, n9, n10, n11, n12, n13, n14, n15, n16, n17⟩, ⟨hT, hC, hP, hQ, hF, wP, wC, wT, wQ⟩, ⟨s1, hL, hoL⟩, ⟨l1, l2, l3, hA, hoA, l6, l7, l8, hS2, h3⟩, hMi, hFt, hCr⟩ := id I
  have hh2 : 116 - h = 50 ∨ 116 - h = 66 := by omega
  have hz := wf_hz wT hT
  have hW := wf_wt wT n15
  have hl9 := wf_li wC
  obtain ⟨uN, hN, hu, hw9, hwu⟩ := wf_un wT hT
  rcases rng (x := x) n2 (by omega) with ⟨cx, hcx, ex⟩ | ⟨gbx, nox⟩
  · obtain ⟨gx0, gx1⟩ := rng_in n2 (by omega) hcx ex
    by_cases gw : y < 0 ∨ 3 ≤ y
    · refine Or.inr ⟨_, _, (x_X12_weighB l D cB cI cJ ad 128 (pl ad cB cI cJ A V R L) hlt 0 1 h (116 - h) 3 4 7 14 17 24 31 44 46 (V 0 8) (V 0 9) (V h) x y (by omega) (by omega) (pl_po r0) (ph_0 hh) gx0 gx1 gw), by decide, by decide, ⟨_, _, _, (c_X13_weigh l D cB cI cJ ad 128 (pl ad cB cI cJ A V R L) hI 82 nt nc np nq (V 82) (A 85) (A 90) (A 94) (A 95) (A 96) (A 97) (A 99) (A 100) hN uN x y (by omega) (by omega) (by omega) (by omega) (by omega) (by omega) (by omega) (by omega) (by omega) rfl rfl rfl rfl rfl rfl rfl rfl rfl n5 n13 n6 n14 n7 n15 n8 n16 hu hwu), by decide, by decide, fun r3 M3 hp3 => ?_⟩⟩
      obtain ⟨hrc, c0o, fr3⟩ := hp3
      obtain ⟨mvc, c0, hmv⟩ : ∃ f : Nat → Int32, M3 82 = .inr (12, modF ad 82 f) ∧ (f 2 = 1 ∧ ∀ j : Nat, j ≠ 2 → f j = V 82 j) := ⟨_, c0o, by rw [if_neg (cs_in n6 (by omega) hcx ex), if_pos (isIn_o (k := 2) (by decide) (by decide) gw)]; exact mvk _ 1⟩
      have hM3 : M3 = pl ad cB cI cJ A (va_up V 82 mvc) R L := by
        refine pl_eq (A := A) (V := V) (R := R) (L := L) [82] (fun q hq => fr3 q (by rintro rfl; exact absurd (by decide) hq)) (fun q hq => ⟨rfl, (va_up_ne _ _ (nm hq (by decide : (82 : Nat) ∈ _))), rfl, rfl⟩) (fun q hq => ?_)
        simp only [List.mem_cons, List.not_mem_nil, or_false] at hq
        rcases hq with rfl <;> first | exact c0
      exact ⟨A, (va_up V 82 mvc), R, L, hM3, rfl, hmv.1, fun q => absurd q (by decide), INV_cg I (fun q hq => rfl) (fun q hq => (va_up_ne _ _ (nm hq (by decide : (82 : Nat) ∈ _)))) (fun q hq => rfl) (by first | exact ⟨rfl, rfl⟩ | (rcases hh with rfl | rfl <;> first | exact ⟨rfl, rfl⟩ | exact ⟨n12.symm, rfl⟩)) (by first | exact ⟨rfl, rfl⟩ | (rcases hh with rfl | rfl <;> first | exact ⟨rfl, rfl⟩ | exact ⟨n12.symm, rfl⟩)) hmv.2⟩
    · obtain ⟨gw0, gw1⟩ := rg2 gw
      have hi : ¬ s_X13_isIn y.toInt64 0 2 = 0 := isIn_k (k := 2) (by decide) (by decide) gw0 gw1
      refine Or.inl ⟨_, _, _, (c_X12_weigh l D cB cI cJ ad 128 (pl ad cB cI cJ A V R L) hI 0 1 h (116 - h) 3 4 7 14 17 24 31 44 46 (V 0 8) (V 0 9) (R 44) nt nc (V 44 2) (V 44 3) (V 44 4) (V 44 5) (V 44 6) (V 4 2) (L 44 0) (L 44 1) (V h) (A (h + 4)) (A (h + 6)) (A 6) (L 45) x y (by omega) (by omega) (by omega) (by omega) (by omega) (by omega) (by omega) (by omega) (by omega) (by omega) (pl_po r0) rfl (pl_g r4) rfl rfl (ph_0 hh) (ph_5 hh) (ph_6 hh) (ph_3 hh) (ph_4 hh) n3 n15 (wf_wt wT n15) (by omega) (by omega) (by omega) gx0 gx1 gw0 gw1), by decide, by decide, fun r1 M1 hp1 => ?_⟩
      obtain ⟨hr1, b0o, fr1⟩ := hp1
      obtain ⟨wb1_0, wb1_1, wb1_2, wb1_3, wb1_4, wb1_5, wb1_6, wb1_7, b0⟩ : ∃ x0 x1 x2 x3 x4 x5 x6 x7, M1 44 = .inr (6, scaleF ad 44 x0 x1 x2 x3 x4 x5 x6 x7) := ⟨_, _, _, _, _, _, _, _, b0o⟩
      have hM1 : M1 = pl ad cB cI cJ A (va_up V 44 (tvN [0, 0, wb1_1, wb1_2, wb1_3, wb1_4, wb1_5])) (va_up R 44 wb1_0) (va_up L 44 (tvL wb1_6 wb1_7)) := by
        refine pl_eq (A := A) (V := V) (R := R) (L := L) [44] (fun q hq => fr1 q (by rintro rfl; exact absurd (by decide) hq)) (fun q hq => ⟨rfl, (va_up_ne _ _ (nm hq (by decide : (44 : Nat) ∈ _))), (va_up_ne _ _ (nm hq (by decide : (44 : Nat) ∈ _))), (va_up_ne _ _ (nm hq (by decide : (44 : Nat) ∈ _)))⟩) (fun q hq => ?_)
        simp only [List.mem_cons, List.not_mem_nil, or_false] at hq
        rcases hq with rfl <;> first | exact b0
      refine ⟨A, (va_up V 44 (tvN [0, 0, wb1_1, wb1_2, wb1_3, wb1_4, wb1_5])), (va_up R 44 wb1_0), (va_up L 44 (tvL wb1_6 wb1_7)), hM1, rfl, fun g => ⟨_, _, _, (c_X13_weigh l D cB cI cJ ad 128 (pl ad cB cI cJ A (va_up V 44 (tvN [0, 0, wb1_1, wb1_2, wb1_3, wb1_4, wb1_5])) (va_up R 44 wb1_0) (va_up (va_up L 44 (tvL wb1_6 wb1_7)) 127 g)) hI 82 nt nc np nq (V 82) (A 85) (A 90) (A 94) (A 95) (A 96) (A 97) (A 99) (A 100) hN uN x y (by omega) (by omega) (by omega) (by omega) (by omega) (by omega) (by omega) (by omega) (by omega) rfl rfl rfl rfl rfl rfl rfl rfl rfl n5 n13 n6 n14 n7 n15 n8 n16 hu hwu), by decide, by decide, fun r3 M3 hp3 => ?_⟩⟩
      obtain ⟨hrc, c0o, fr3⟩ := hp3
      obtain ⟨mvc, c0, hmv⟩ : ∃ f : Nat → Int32, M3 82 = .inr (12, modF ad 82 f) ∧ (f 2 = 0 ∧ ∀ j : Nat, j ≠ 2 → f j = V 82 j) := ⟨_, c0o, by rw [if_neg (cs_in n6 (by omega) hcx ex), if_neg hi]; exact mvk _ 0⟩
      have hM3 : M3 = pl ad cB cI cJ A (va_up (va_up V 44 (tvN [0, 0, wb1_1, wb1_2, wb1_3, wb1_4, wb1_5])) 82 mvc) (va_up R 44 wb1_0) (va_up (va_up L 44 (tvL wb1_6 wb1_7)) 127 g) := by
        refine pl_eq (A := A) (V := (va_up V 44 (tvN [0, 0, wb1_1, wb1_2, wb1_3, wb1_4, wb1_5]))) (R := (va_up R 44 wb1_0)) (L := (va_up (va_up L 44 (tvL wb1_6 wb1_7)) 127 g)) [82] (fun q hq => fr3 q (by rintro rfl; exact absurd (by decide) hq)) (fun q hq => ⟨rfl, (va_up_ne _ _ (nm hq (by decide : (82 : Nat) ∈ _))), rfl, rfl⟩) (fun q hq => ?_)
        simp only [List.mem_cons, List.not_mem_nil, or_false] at hq
        rcases hq with rfl <;> first | exact c0
      exact ⟨A, (va_up (va_up V 44 (tvN [0, 0, wb1_1, wb1_2, wb1_3, wb1_4, wb1_5])) 82 mvc), (va_up R 44 wb1_0), (va_up (va_up L 44 (tvL wb1_6 wb1_7)) 127 g), hM3, rfl, hmv.1, fun _ => hrc.trans (Eq.trans (by rw [if_neg (cs_in n6 (by omega) hcx ex), if_neg hi, ex, nI_clamp (by omega)]; exact eq_weigh n15 n14 hT hC hL hcx hu hw9 (sm2 gw0 gw1)) hr1.symm), INV_cg I (fun q hq => rfl) (fun q hq => ((va_up_ne _ _ (nm hq (by decide : (82 : Nat) ∈ _))).trans (va_up_ne _ _ (nm hq (by decide : (44 : Nat) ∈ _))))) (fun q hq => (va_up_ne _ _ (nm hq (by decide : (44 : Nat) ∈ _)))) (by first | exact ⟨rfl, rfl⟩ | (rcases hh with rfl | rfl <;> first | exact ⟨rfl, rfl⟩ | exact ⟨n12.symm, rfl⟩)) (by first | exact ⟨rfl, rfl⟩ | (rcases hh with rfl | rfl <;> first | exact ⟨rfl, rfl⟩ | exact ⟨n12.symm, rfl⟩)) hmv.2⟩
  · refine Or.inr ⟨_, _, (x_X12_weighA l D cB cI cJ ad 128 (pl ad cB cI cJ A V R L) hlt 0 1 h (116 - h) 3 4 7 14 17 24 31 44 46 (V 0 8) (V 0 9) (V h) x y (by omega) (by omega) (pl_po r0) (ph_0 hh) gbx), by decide, by decide, ⟨_, _, _, (c_X13_weigh l D cB cI cJ ad 128 (pl ad cB cI cJ A V R L) hI 82 nt nc np nq (V 82) (A 85) (A 90) (A 94) (A 95) (A 96) (A 97) (A 99) (A 100) hN uN x y (by omega) (by omega) (by omega) (by omega) (by omega) (by omega) (by omega) (by omega) (by omega) rfl rfl rfl rfl rfl rfl rfl rfl rfl n5 n13 n6 n14 n7 n15 n8 n16 hu hwu), by decide, by decide, fun r3 M3 hp3 => ?_⟩⟩
    obtain ⟨hrc, c0o, fr3⟩ := hp3
    obtain ⟨mvc, c0, hmv⟩ : ∃ f : Nat → Int32, M3 82 = .inr (12, modF ad 82 f) ∧ (f 2 = 1 ∧ ∀ j : Nat, j ≠ 2 → f j = V 82 j) := ⟨_, c0o, by rw [if_pos (cs_out n6 (by omega) nox)]; exact mvk _ 1⟩
    have hM3 : M3 = pl ad cB cI cJ A (va_up V 82 mvc) R L := by
      refine pl_eq (A := A) (V := V) (R := R) (L := L) [82] (fun q hq => fr3 q (by rintro rfl; exact absurd (by decide) hq)) (fun q hq => ⟨rfl, (va_up_ne _ _ (nm hq (by decide : (82 : Nat) ∈ _))), rfl, rfl⟩) (fun q hq => ?_)
      simp only [List.mem_cons, List.not_mem_nil, or_false] at hq
      rcases hq with rfl <;> first | exact c0
    exact ⟨A, (va_up V 82 mvc), R, L, hM3, rfl, hmv.1, fun q => absurd q (by decide), INV_cg I (fun q hq => rfl) (fun q hq => (va_up_ne _ _ (nm hq (by decide : (82 : Nat) ∈ _)))) (fun q hq => rfl) (by first | exact ⟨rfl, rfl⟩ | (rcases hh with rfl | rfl <;> first | exact ⟨rfl, rfl⟩ | exact ⟨n12.symm, rfl⟩)) (by first | exact ⟨rfl, rfl⟩ | (rcases hh with rfl | rfl <;> first | exact ⟨rfl, rfl⟩ | exact ⟨n12.symm, rfl⟩)) hmv.2⟩
theorem k3_o {x : Int32} (h : x < 0 ∨ 3 ≤ x) : (if x < 0 then (1 : Int32) else if x ≤ 2 then 0 else 1) = 1 := by
  by_cases q : x < 0
  · rw [if_pos q]
  · rw [if_neg q, if_neg (fun z => absurd (Int32.le_trans (h.resolve_left q) z) (by decide))]
theorem k3_i {x : Int32} (h0 : ¬ x < 0) (h1 : x < 3) : x ≤ 2 := by
  rcases sm2 h0 h1 with rfl | rfl | rfl <;> decide
set_option maxHeartbeats 4000000 in
set_option maxRecDepth 100000 in
theorem sem_fits (l : Launch) (hlt : l.stackTraces = false) (D : va_G) (cB cI cJ : ClassId) (ad : Nat → Nat) (hI : ipI ad 128) {A V : Nat → Nat → Int32} {R : Nat → Nat} {L : Nat → Nat → Int64} (I : INV A V R) (x : Int32) : CF l D cB cI cJ ad A V R L yX12_fits wsX12_fits [.ref (ad 0), .int x] yX13_fits wsX13_fits [.ref (ad 82), .int x] ∨ CX l D cB cI cJ ad A V R L yX12_fits wsX12_fits [.ref (ad 0), .int x] yX13_fits wsX13_fits [.ref (ad 82), .int x] "java/util/NoSuchElementException" 1 := by
  obtain ⟨h, nt, nc, np, nq, nl, na, nk, ln, ⟨hh, r0, r4, q33⟩, ⟨t1, t2, t3, t4, t5⟩, ⟨n1, n2, n3, n4, n5, n6, n7, n8, n9, n10, n11, n12, n13, n14, n15, n16, n17⟩, ⟨hT, hC, hP, hQ, hF, wP, wC, wT, wQ⟩, ⟨s1, hL, hoL⟩, ⟨l1, l2, l3, hA, hoA, l6, l7, l8, hS2, h3⟩, hMi, hFt, hCr⟩ := id I
  have hh2 : 116 - h = 50 ∨ 116 - h = 66 := by omega
  have hz := wf_hz wT hT
  have hW := wf_wt wT n15
  have hl9 := wf_li wC
  by_cases gw : x < 0 ∨ 3 ≤ x
  · refine Or.inr ⟨_, _, (x_X12_fitsA l D cB cI cJ ad 128 (pl ad cB cI cJ A V R L) hlt 0 1 h (116 - h) 3 4 7 14 17 24 31 44 46 (V 0 8) (V 0 9) x (by omega) (pl_po r0) gw), by decide, by decide, ⟨_, _, _, (c_X13_fits l D cB cI cJ ad 128 (pl ad cB cI cJ A V R L) hI 82 nt nc np nq (V 82) (A 85) (A 87) (A 88) (A 91) (A 93) (A 94) (A 95) (A 97) (A 99) (A 100) (A 101) (A 102) (A 118) (A 119) nk x (by omega) (by omega) (by omega) (by omega) (by omega) (by omega) (by omega) (by omega) (by omega) (by omega) (by omega) (by omega) (by omega) (by omega) (by omega) rfl rfl rfl rfl rfl rfl rfl rfl rfl rfl rfl rfl rfl rfl rfl n5 n13 n6 n14 n7 n15 n8 n16 l7 l8), by decide, by decide, fun r3 M3 hp3 => ?_⟩⟩
    obtain ⟨hrc, c0o, c1o, fr3⟩ := hp3
    obtain ⟨mvc, c0, hmv⟩ : ∃ f : Nat → Int32, M3 82 = .inr (12, modF ad 82 f) ∧ (f 2 = 1 ∧ ∀ j : Nat, j ≠ 2 → f j = V 82 j) := ⟨_, c0o, by rw [k3_o gw]; exact mvk _ 1⟩
    have hM3 : M3 = pl ad cB cI cJ A (va_up V 82 mvc) R L := by
      refine pl_eq (A := A) (V := V) (R := R) (L := L) [82, 100] (fun q hq => fr3 q (by rintro rfl; exact absurd (by decide) hq) (by rintro rfl; exact absurd (by decide) hq)) (fun q hq => ⟨rfl, (va_up_ne _ _ (nm hq (by decide : (82 : Nat) ∈ _))), rfl, rfl⟩) (fun q hq => ?_)
      simp only [List.mem_cons, List.not_mem_nil, or_false] at hq
      rcases hq with rfl | rfl <;> first | exact c0 | exact c1o
    exact ⟨A, (va_up V 82 mvc), R, L, hM3, rfl, hmv.1, fun q => absurd q (by decide), INV_cg I (fun q hq => rfl) (fun q hq => (va_up_ne _ _ (nm hq (by decide : (82 : Nat) ∈ _)))) (fun q hq => rfl) (by first | exact ⟨rfl, rfl⟩ | (rcases hh with rfl | rfl <;> first | exact ⟨rfl, rfl⟩ | exact ⟨n12.symm, rfl⟩)) (by first | exact ⟨rfl, rfl⟩ | (rcases hh with rfl | rfl <;> first | exact ⟨rfl, rfl⟩ | exact ⟨n12.symm, rfl⟩)) hmv.2⟩
  · obtain ⟨gw0, gw1⟩ := rg2 gw
    refine Or.inl ⟨_, _, _, (c_X12_fits l D cB cI cJ ad 128 (pl ad cB cI cJ A V R L) hI 0 1 h (116 - h) 3 4 7 14 17 24 31 44 46 (V 0 8) (V 0 9) 47 (R 47) nt nc np nq (V 4 2) (V 47 2) (V 46 1) (V 46 2) (V 46 3) (V 46 4) (V 46 5) (V 46 6) (V 46 7) (V 46 8) nk (V 7 1) (V h) (A (h + 2)) (A (h + 4)) (A (h + 6)) (A (h + 8)) (A 11) (A 6) (A 49) x (by omega) (by omega) (by omega) (by omega) (by omega) (by omega) (by omega) (by omega) (by omega) (by omega) (by omega) (by omega) (by omega) (by omega) (by omega) (by omega) (by omega) (by omega) (by omega) (by omega) (pl_po r0) rfl rfl rfl rfl (pl_g r4) rfl rfl (ph_0 hh) (ph_5 hh) (ph_6 hh) (ph_1 hh) (ph_2 hh) (ph_3 hh) (ph_4 hh) (ph_7 hh) (ph_8 hh) (pl_log (h := h) l6) rfl rfl n3 n15 n2 n14 n1 n13 n4 n16 (by omega) (by omega) (by omega) (by omega) (by omega) (by omega) (by omega) l8 (by omega) (by omega) gw0 gw1), by decide, by decide, fun r1 M1 hp1 => ?_⟩
    obtain ⟨v0__, v1__, v2__, hr1, b0o, b1o, b2o, fr1⟩ := hp1
    obtain ⟨wb1_1, wb1_2, wb1_3, wb1_4, wb1_5, wb1_6, wb1_7, wb1_8, b0⟩ : ∃ x1 x2 x3 x4 x5 x6 x7 x8, M1 46 = .inr (10, trialF ad 46 47 x1 x2 x3 x4 x5 x6 x7 x8) := ⟨_, _, _, _, _, _, _, _, b0o⟩
    obtain ⟨wb2_0, wb2_1, b1⟩ : ∃ x0 x1, M1 47 = .inr (7, standF ad 47 x0 x1) := ⟨_, _, b1o⟩
    obtain ⟨fb3, b2⟩ : ∃ f, M1 49 = .inl (cI, 12, .inl f) := ⟨_, b2o⟩
    have hM1 : M1 = pl ad cB cI cJ (va_up A 49 fb3) (va_up (va_up V 46 (tvN [0, wb1_1, wb1_2, wb1_3, wb1_4, wb1_5, wb1_6, wb1_7, wb1_8])) 47 (tvN [0, 0, wb2_1])) (va_up R 47 wb2_0) L := by
      refine pl_eq (A := A) (V := V) (R := R) (L := L) [46, 47, 49] (fun q hq => fr1 q (by rintro rfl; exact absurd (by decide) hq) (by rintro rfl; exact absurd (by decide) hq) (by rintro rfl; exact absurd (by decide) hq)) (fun q hq => ⟨(va_up_ne _ _ (nm hq (by decide : (49 : Nat) ∈ _))), ((va_up_ne _ _ (nm hq (by decide : (47 : Nat) ∈ _))).trans (va_up_ne _ _ (nm hq (by decide : (46 : Nat) ∈ _)))), (va_up_ne _ _ (nm hq (by decide : (47 : Nat) ∈ _))), rfl⟩) (fun q hq => ?_)
      simp only [List.mem_cons, List.not_mem_nil, or_false] at hq
      rcases hq with rfl | rfl | rfl <;> first | exact b0 | exact b1 | exact b2
    refine ⟨(va_up A 49 fb3), (va_up (va_up V 46 (tvN [0, wb1_1, wb1_2, wb1_3, wb1_4, wb1_5, wb1_6, wb1_7, wb1_8])) 47 (tvN [0, 0, wb2_1])), (va_up R 47 wb2_0), L, hM1, rfl, fun g => ⟨_, _, _, (c_X13_fits l D cB cI cJ ad 128 (pl ad cB cI cJ (va_up A 49 fb3) (va_up (va_up V 46 (tvN [0, wb1_1, wb1_2, wb1_3, wb1_4, wb1_5, wb1_6, wb1_7, wb1_8])) 47 (tvN [0, 0, wb2_1])) (va_up R 47 wb2_0) (va_up L 127 g)) hI 82 nt nc np nq (V 82) (A 85) (A 87) (A 88) (A 91) (A 93) (A 94) (A 95) (A 97) (A 99) (A 100) (A 101) (A 102) (A 118) (A 119) nk x (by omega) (by omega) (by omega) (by omega) (by omega) (by omega) (by omega) (by omega) (by omega) (by omega) (by omega) (by omega) (by omega) (by omega) (by omega) rfl rfl rfl rfl rfl rfl rfl rfl rfl rfl rfl rfl rfl rfl rfl n5 n13 n6 n14 n7 n15 n8 n16 l7 l8), by decide, by decide, fun r3 M3 hp3 => ?_⟩⟩
    obtain ⟨hrc, c0o, c1o, fr3⟩ := hp3
    obtain ⟨mvc, c0, hmv⟩ : ∃ f : Nat → Int32, M3 82 = .inr (12, modF ad 82 f) ∧ (f 2 = 0 ∧ ∀ j : Nat, j ≠ 2 → f j = V 82 j) := ⟨_, c0o, by rw [if_neg gw0, if_pos (k3_i gw0 gw1)]; exact mvk _ 0⟩
    have hM3 : M3 = pl ad cB cI cJ (va_up A 49 fb3) (va_up (va_up (va_up V 46 (tvN [0, wb1_1, wb1_2, wb1_3, wb1_4, wb1_5, wb1_6, wb1_7, wb1_8])) 47 (tvN [0, 0, wb2_1])) 82 mvc) (va_up R 47 wb2_0) (va_up L 127 g) := by
      refine pl_eq (A := (va_up A 49 fb3)) (V := (va_up (va_up V 46 (tvN [0, wb1_1, wb1_2, wb1_3, wb1_4, wb1_5, wb1_6, wb1_7, wb1_8])) 47 (tvN [0, 0, wb2_1]))) (R := (va_up R 47 wb2_0)) (L := (va_up L 127 g)) [82, 100] (fun q hq => fr3 q (by rintro rfl; exact absurd (by decide) hq) (by rintro rfl; exact absurd (by decide) hq)) (fun q hq => ⟨rfl, (va_up_ne _ _ (nm hq (by decide : (82 : Nat) ∈ _))), rfl, rfl⟩) (fun q hq => ?_)
      simp only [List.mem_cons, List.not_mem_nil, or_false] at hq
      rcases hq with rfl | rfl <;> first | exact c0 | exact c1o
    exact ⟨(va_up A 49 fb3), (va_up (va_up (va_up V 46 (tvN [0, wb1_1, wb1_2, wb1_3, wb1_4, wb1_5, wb1_6, wb1_7, wb1_8])) 47 (tvN [0, 0, wb2_1])) 82 mvc), (va_up R 47 wb2_0), (va_up L 127 g), hM3, rfl, hmv.1, fun _ => hrc.trans (Eq.trans (by rw [if_neg gw0, if_pos (k3_i gw0 gw1)]; unfold s_X12_fits; rw [eq_fits n15 n14 n13 n16 l8 hT hC hP hQ hL hz n5 n6 n1 n2 hS2 hoL, as_seen n15 hT hL hS2 l8]) hr1.symm), INV_cg I (fun q hq => (va_up_ne _ _ (nm hq (by decide : (49 : Nat) ∈ _)))) (fun q hq => ((va_up_ne _ _ (nm hq (by decide : (82 : Nat) ∈ _))).trans ((va_up_ne _ _ (nm hq (by decide : (47 : Nat) ∈ _))).trans (va_up_ne _ _ (nm hq (by decide : (46 : Nat) ∈ _)))))) (fun q hq => (va_up_ne _ _ (nm hq (by decide : (47 : Nat) ∈ _)))) (by first | exact ⟨rfl, rfl⟩ | (rcases hh with rfl | rfl <;> first | exact ⟨rfl, rfl⟩ | exact ⟨n12.symm, rfl⟩)) (by first | exact ⟨rfl, rfl⟩ | (rcases hh with rfl | rfl <;> first | exact ⟨rfl, rfl⟩ | exact ⟨n12.symm, rfl⟩)) hmv.2⟩
set_option maxHeartbeats 4000000 in
set_option maxRecDepth 100000 in
theorem sem_best (l : Launch) (hlt : l.stackTraces = false) (D : va_G) (cB cI cJ : ClassId) (ad : Nat → Nat) (hI : ipI ad 128) {A V : Nat → Nat → Int32} {R : Nat → Nat} {L : Nat → Nat → Int64} (I : INV A V R) (x : Int32) : CF l D cB cI cJ ad A V R L yX12_best wsX12_best [.ref (ad 0), .int x] yX13_best wsX13_best [.ref (ad 82), .int x] ∨ CX l D cB cI cJ ad A V R L yX12_best wsX12_best [.ref (ad 0), .int x] yX13_best wsX13_best [.ref (ad 82), .int x] "java/util/NoSuchElementException" 1 := by
  obtain ⟨h, nt, nc, np, nq, nl, na, nk, ln, ⟨hh, r0, r4, q33⟩, ⟨t1, t2, t3, t4, t5⟩, ⟨n1, n2, n3, n4, n5, n6, n7, n8, n9, n10, n11, n12, n13, n14, n15, n16, n17⟩, ⟨hT, hC, hP, hQ, hF, wP, wC, wT, wQ⟩, ⟨s1, hL, hoL⟩, ⟨l1, l2, l3, hA, hoA, l6, l7, l8, hS2, h3⟩, hMi, hFt, hCr⟩ := id I
  have hh2 : 116 - h = 50 ∨ 116 - h = 66 := by omega
  have hz := wf_hz wT hT
  have hW := wf_wt wT n15
  have hl9 := wf_li wC
  by_cases gw : x < 0 ∨ 3 ≤ x
  · refine Or.inr ⟨_, _, (x_X12_bestA l D cB cI cJ ad 128 (pl ad cB cI cJ A V R L) hlt 0 1 h (116 - h) 3 4 7 14 17 24 31 44 46 (V 0 8) (V 0 9) x (by omega) (pl_po r0) gw), by decide, by decide, ⟨_, _, _, (c_X13_best l D cB cI cJ ad 128 (pl ad cB cI cJ A V R L) hI 82 nt nc np nq (V 82) (A 85) (A 87) (A 88) (A 90) (A 91) (A 92) (A 93) (A 94) (A 95) (A 97) (A 98) (A 99) (A 100) (A 101) (A 102) (A 103) (A 106) (A 107) nl x (by omega) (by omega) (by omega) (by omega) (by omega) (by omega) (by omega) (by omega) (by omega) (by omega) (by omega) (by omega) (by omega) (by omega) (by omega) (by omega) (by omega) (by omega) (by omega) rfl rfl rfl rfl rfl rfl rfl rfl rfl rfl rfl rfl rfl rfl rfl rfl rfl rfl rfl n5 n13 n6 n14 n7 n15 n8 n16 n11 n17 (rF_ok hF) (rF_m hF)), by decide, by decide, fun r3 M3 hp3 => ?_⟩⟩
    obtain ⟨v0, v1, hrc, c0o, c1o, c2o, c3o, fr3⟩ := hp3
    obtain ⟨mvc, c0, hmv⟩ : ∃ f : Nat → Int32, M3 82 = .inr (12, modF ad 82 f) ∧ (f 2 = 1 ∧ ∀ j : Nat, j ≠ 2 → f j = V 82 j) := ⟨_, c0o, by rw [k3_o gw]; exact mvk _ 1⟩
    obtain ⟨fc3, c2⟩ : ∃ f, M3 106 = .inl (cI, 5, .inl f) := ⟨_, c2o⟩
    obtain ⟨fc4, c3⟩ : ∃ f, M3 107 = .inl (cI, 64, .inl f) := ⟨_, c3o⟩
    have hM3 : M3 = pl ad cB cI cJ (va_up (va_up A 106 fc3) 107 fc4) (va_up V 82 mvc) R L := by
      refine pl_eq (A := A) (V := V) (R := R) (L := L) [82, 100, 106, 107] (fun q hq => fr3 q (by rintro rfl; exact absurd (by decide) hq) (by rintro rfl; exact absurd (by decide) hq) (by rintro rfl; exact absurd (by decide) hq) (by rintro rfl; exact absurd (by decide) hq)) (fun q hq => ⟨((va_up_ne _ _ (nm hq (by decide : (107 : Nat) ∈ _))).trans (va_up_ne _ _ (nm hq (by decide : (106 : Nat) ∈ _)))), (va_up_ne _ _ (nm hq (by decide : (82 : Nat) ∈ _))), rfl, rfl⟩) (fun q hq => ?_)
      simp only [List.mem_cons, List.not_mem_nil, or_false] at hq
      rcases hq with rfl | rfl | rfl | rfl <;> first | exact c0 | exact c1o | exact c2 | exact c3
    exact ⟨(va_up (va_up A 106 fc3) 107 fc4), (va_up V 82 mvc), R, L, hM3, rfl, hmv.1, fun q => absurd q (by decide), INV_cg I (fun q hq => ((va_up_ne _ _ (nm hq (by decide : (107 : Nat) ∈ _))).trans (va_up_ne _ _ (nm hq (by decide : (106 : Nat) ∈ _))))) (fun q hq => (va_up_ne _ _ (nm hq (by decide : (82 : Nat) ∈ _)))) (fun q hq => rfl) (by first | exact ⟨rfl, rfl⟩ | (rcases hh with rfl | rfl <;> first | exact ⟨rfl, rfl⟩ | exact ⟨n12.symm, rfl⟩)) (by first | exact ⟨rfl, rfl⟩ | (rcases hh with rfl | rfl <;> first | exact ⟨rfl, rfl⟩ | exact ⟨n12.symm, rfl⟩)) hmv.2⟩
  · obtain ⟨gw0, gw1⟩ := rg2 gw
    refine Or.inl ⟨_, _, _, (c_X12_best l D cB cI cJ ad 128 (pl ad cB cI cJ A V R L) hI 0 1 h (116 - h) 3 4 7 14 17 24 31 44 46 (V 0 8) (V 0 9) 47 (R 47) nt nc np nq (V 4 2) (V 47 2) (V 46 1) (V 46 2) (V 46 3) (V 46 4) (V 46 5) (V 46 6) (V 46 7) (V 46 8) nl (V (h + 9) 2) (V (h + 9) 5) (V h) (A (h + 2)) (A (h + 4)) (A (h + 6)) (A (h + 8)) (A (h + 11)) (A (h + 13)) (A (h + 15)) (A 6) (A 49) x (by omega) (by omega) (by omega) (by omega) (by omega) (by omega) (by omega) (by omega) (by omega) (by omega) (by omega) (by omega) (by omega) (by omega) (by omega) (by omega) (by omega) (by omega) (by omega) (by omega) (by omega) (by omega) (by omega) (by omega) (pl_po r0) rfl rfl rfl rfl (pl_g r4) rfl rfl (ph_0 hh) (ph_5 hh) (ph_6 hh) (ph_1 hh) (ph_2 hh) (ph_3 hh) (ph_4 hh) (ph_7 hh) (ph_8 hh) (pl_rule hh n12) (ph_10 hh) (ph_11 hh) (ph_12 hh) (ph_13 hh) (ph_14 hh) (ph_15 hh) n3 n15 n2 n14 n1 n13 n4 n16 (by omega) (by omega) (by omega) (by omega) (by omega) (by omega) (by omega) n17 (rF_c hF) (by omega) (by omega) gw0 gw1), by decide, by decide, fun r1 M1 hp1 => ?_⟩
    obtain ⟨v0__, v1__, v2__, v3__, v4__, v5__, hr1, b0o, b1o, b2o, b3o, b4o, b5o, fr1⟩ := hp1
    obtain ⟨wb1_0, wb1_1, b0⟩ : ∃ x0 x1, M1 47 = .inr (7, standF ad 47 x0 x1) := ⟨_, _, b0o⟩
    obtain ⟨fb2, b1⟩ : ∃ f, M1 49 = .inl (cI, 12, .inl f) := ⟨_, b1o⟩
    obtain ⟨wb3_1, wb3_2, wb3_3, wb3_4, wb3_5, wb3_6, wb3_7, wb3_8, b2⟩ : ∃ x1 x2 x3 x4 x5 x6 x7 x8, M1 46 = .inr (10, trialF ad 46 47 x1 x2 x3 x4 x5 x6 x7 x8) := ⟨_, _, _, _, _, _, _, _, b2o⟩
    obtain ⟨fb4, b3⟩ : ∃ f, M1 (h + 13) = .inl (cI, 5, .inl f) := ⟨_, b3o⟩
    obtain ⟨fb5, b4⟩ : ∃ f, M1 (h + 15) = .inl (cI, 31, .inl f) := ⟨_, b4o⟩
    obtain ⟨wb6, b5⟩ : ∃ f, M1 (h + 9) = .inr (5, ruleF ad (h + 9) (nI nl) (V (h + 9) 2) f) := ⟨_, b5o⟩
    have hM1 : M1 = pl ad cB cI cJ (va_up (va_up (va_up (va_up (va_up A 49 fb2) 63 (if h = 50 then fb4 else A 63)) 79 (if h = 66 then fb4 else A 79)) 65 (if h = 50 then fb5 else A 65)) 81 (if h = 66 then fb5 else A 81)) (va_up (va_up (va_up (va_up V 47 (tvN [0, 0, wb1_1])) 46 (tvN [0, wb3_1, wb3_2, wb3_3, wb3_4, wb3_5, wb3_6, wb3_7, wb3_8])) 59 (if h = 50 then tv2 (nI nl) (V 59 2) wb6 else V 59)) 75 (if h = 66 then tv2 (nI nl) (V 75 2) wb6 else V 75)) (va_up R 47 wb1_0) L := by
      refine pl_eq (A := A) (V := V) (R := R) (L := L) [47, 49, 46, 63, 79, 65, 81, 59, 75] (fun q hq => fr1 q (by rintro rfl; rcases hh with rfl | rfl <;> exact absurd (by decide) hq) (by rintro rfl; rcases hh with rfl | rfl <;> exact absurd (by decide) hq) (by rintro rfl; rcases hh with rfl | rfl <;> exact absurd (by decide) hq) (by rintro rfl; rcases hh with rfl | rfl <;> exact absurd (by decide) hq) (by rintro rfl; rcases hh with rfl | rfl <;> exact absurd (by decide) hq) (by rintro rfl; rcases hh with rfl | rfl <;> exact absurd (by decide) hq)) (fun q hq => ⟨((va_up_ne _ _ (nm hq (by decide : (81 : Nat) ∈ _))).trans ((va_up_ne _ _ (nm hq (by decide : (65 : Nat) ∈ _))).trans ((va_up_ne _ _ (nm hq (by decide : (79 : Nat) ∈ _))).trans ((va_up_ne _ _ (nm hq (by decide : (63 : Nat) ∈ _))).trans (va_up_ne _ _ (nm hq (by decide : (49 : Nat) ∈ _))))))), ((va_up_ne _ _ (nm hq (by decide : (75 : Nat) ∈ _))).trans ((va_up_ne _ _ (nm hq (by decide : (59 : Nat) ∈ _))).trans ((va_up_ne _ _ (nm hq (by decide : (46 : Nat) ∈ _))).trans (va_up_ne _ _ (nm hq (by decide : (47 : Nat) ∈ _)))))), (va_up_ne _ _ (nm hq (by decide : (47 : Nat) ∈ _))), rfl⟩) (fun q hq => ?_)
      simp only [List.mem_cons, List.not_mem_nil, or_false] at hq
      rcases hh with rfl | rfl <;> rcases hq with rfl | rfl | rfl | rfl | rfl | rfl | rfl | rfl | rfl <;> first | exact b0 | exact b1 | exact b2 | exact b3 | exact b4 | exact b5 | exact fr1 _ (by decide) (by decide) (by decide) (by decide) (by decide) (by decide)
    refine ⟨(va_up (va_up (va_up (va_up (va_up A 49 fb2) 63 (if h = 50 then fb4 else A 63)) 79 (if h = 66 then fb4 else A 79)) 65 (if h = 50 then fb5 else A 65)) 81 (if h = 66 then fb5 else A 81)), (va_up (va_up (va_up (va_up V 47 (tvN [0, 0, wb1_1])) 46 (tvN [0, wb3_1, wb3_2, wb3_3, wb3_4, wb3_5, wb3_6, wb3_7, wb3_8])) 59 (if h = 50 then tv2 (nI nl) (V 59 2) wb6 else V 59)) 75 (if h = 66 then tv2 (nI nl) (V 75 2) wb6 else V 75)), (va_up R 47 wb1_0), L, hM1, rfl, fun g => ⟨_, _, _, (c_X13_best l D cB cI cJ ad 128 (pl ad cB cI cJ (va_up (va_up (va_up (va_up (va_up A 49 fb2) 63 (if h = 50 then fb4 else A 63)) 79 (if h = 66 then fb4 else A 79)) 65 (if h = 50 then fb5 else A 65)) 81 (if h = 66 then fb5 else A 81)) (va_up (va_up (va_up (va_up V 47 (tvN [0, 0, wb1_1])) 46 (tvN [0, wb3_1, wb3_2, wb3_3, wb3_4, wb3_5, wb3_6, wb3_7, wb3_8])) 59 (if h = 50 then tv2 (nI nl) (V 59 2) wb6 else V 59)) 75 (if h = 66 then tv2 (nI nl) (V 75 2) wb6 else V 75)) (va_up R 47 wb1_0) (va_up L 127 g)) hI 82 nt nc np nq (V 82) (A 85) (A 87) (A 88) (A 90) (A 91) (A 92) (A 93) (A 94) (A 95) (A 97) (A 98) (A 99) (A 100) (A 101) (A 102) (A 103) (A 106) (A 107) nl x (by omega) (by omega) (by omega) (by omega) (by omega) (by omega) (by omega) (by omega) (by omega) (by omega) (by omega) (by omega) (by omega) (by omega) (by omega) (by omega) (by omega) (by omega) (by omega) rfl rfl rfl rfl rfl rfl rfl rfl rfl rfl rfl rfl rfl rfl rfl rfl rfl rfl rfl n5 n13 n6 n14 n7 n15 n8 n16 n11 n17 (rF_ok hF) (rF_m hF)), by decide, by decide, fun r3 M3 hp3 => ?_⟩⟩
    obtain ⟨v0, v1, hrc, c0o, c1o, c2o, c3o, fr3⟩ := hp3
    obtain ⟨mvc, c0, hmv⟩ : ∃ f : Nat → Int32, M3 82 = .inr (12, modF ad 82 f) ∧ (f 2 = 0 ∧ ∀ j : Nat, j ≠ 2 → f j = V 82 j) := ⟨_, c0o, by rw [if_neg gw0, if_pos (k3_i gw0 gw1)]; exact mvk _ 0⟩
    obtain ⟨fc3, c2⟩ : ∃ f, M3 106 = .inl (cI, 5, .inl f) := ⟨_, c2o⟩
    obtain ⟨fc4, c3⟩ : ∃ f, M3 107 = .inl (cI, 64, .inl f) := ⟨_, c3o⟩
    have hM3 : M3 = pl ad cB cI cJ (va_up (va_up (va_up (va_up (va_up (va_up (va_up A 49 fb2) 63 (if h = 50 then fb4 else A 63)) 79 (if h = 66 then fb4 else A 79)) 65 (if h = 50 then fb5 else A 65)) 81 (if h = 66 then fb5 else A 81)) 106 fc3) 107 fc4) (va_up (va_up (va_up (va_up (va_up V 47 (tvN [0, 0, wb1_1])) 46 (tvN [0, wb3_1, wb3_2, wb3_3, wb3_4, wb3_5, wb3_6, wb3_7, wb3_8])) 59 (if h = 50 then tv2 (nI nl) (V 59 2) wb6 else V 59)) 75 (if h = 66 then tv2 (nI nl) (V 75 2) wb6 else V 75)) 82 mvc) (va_up R 47 wb1_0) (va_up L 127 g) := by
      refine pl_eq (A := (va_up (va_up (va_up (va_up (va_up A 49 fb2) 63 (if h = 50 then fb4 else A 63)) 79 (if h = 66 then fb4 else A 79)) 65 (if h = 50 then fb5 else A 65)) 81 (if h = 66 then fb5 else A 81))) (V := (va_up (va_up (va_up (va_up V 47 (tvN [0, 0, wb1_1])) 46 (tvN [0, wb3_1, wb3_2, wb3_3, wb3_4, wb3_5, wb3_6, wb3_7, wb3_8])) 59 (if h = 50 then tv2 (nI nl) (V 59 2) wb6 else V 59)) 75 (if h = 66 then tv2 (nI nl) (V 75 2) wb6 else V 75))) (R := (va_up R 47 wb1_0)) (L := (va_up L 127 g)) [82, 100, 106, 107] (fun q hq => fr3 q (by rintro rfl; exact absurd (by decide) hq) (by rintro rfl; exact absurd (by decide) hq) (by rintro rfl; exact absurd (by decide) hq) (by rintro rfl; exact absurd (by decide) hq)) (fun q hq => ⟨((va_up_ne _ _ (nm hq (by decide : (107 : Nat) ∈ _))).trans (va_up_ne _ _ (nm hq (by decide : (106 : Nat) ∈ _)))), (va_up_ne _ _ (nm hq (by decide : (82 : Nat) ∈ _))), rfl, rfl⟩) (fun q hq => ?_)
      simp only [List.mem_cons, List.not_mem_nil, or_false] at hq
      rcases hq with rfl | rfl | rfl | rfl <;> first | exact c0 | exact c1o | exact c2 | exact c3
    exact ⟨(va_up (va_up (va_up (va_up (va_up (va_up (va_up A 49 fb2) 63 (if h = 50 then fb4 else A 63)) 79 (if h = 66 then fb4 else A 79)) 65 (if h = 50 then fb5 else A 65)) 81 (if h = 66 then fb5 else A 81)) 106 fc3) 107 fc4), (va_up (va_up (va_up (va_up (va_up V 47 (tvN [0, 0, wb1_1])) 46 (tvN [0, wb3_1, wb3_2, wb3_3, wb3_4, wb3_5, wb3_6, wb3_7, wb3_8])) 59 (if h = 50 then tv2 (nI nl) (V 59 2) wb6 else V 59)) 75 (if h = 66 then tv2 (nI nl) (V 75 2) wb6 else V 75)) 82 mvc), (va_up R 47 wb1_0), (va_up L 127 g), hM3, rfl, hmv.1, fun _ => hrc.trans (Eq.trans (by rw [if_neg gw0, if_pos (k3_i gw0 gw1), ← s1]; exact (eq_best n15 n14 n13 n16 hF n11 hT hC hP hQ hL hz hW hl9 n5 n6 n1 n2 rfl).symm) hr1.symm), INV_cg I (fun q hq => ((va_up_ne _ _ (nm hq (by decide : (107 : Nat) ∈ _))).trans ((va_up_ne _ _ (nm hq (by decide : (106 : Nat) ∈ _))).trans ((va_up_ne _ _ (nm hq (by decide : (81 : Nat) ∈ _))).trans ((va_up_ne _ _ (nm hq (by decide : (65 : Nat) ∈ _))).trans ((va_up_ne _ _ (nm hq (by decide : (79 : Nat) ∈ _))).trans ((va_up_ne _ _ (nm hq (by decide : (63 : Nat) ∈ _))).trans (va_up_ne _ _ (nm hq (by decide : (49 : Nat) ∈ _)))))))))) (fun q hq => ((va_up_ne _ _ (nm hq (by decide : (82 : Nat) ∈ _))).trans ((va_up_ne _ _ (nm hq (by decide : (75 : Nat) ∈ _))).trans ((va_up_ne _ _ (nm hq (by decide : (59 : Nat) ∈ _))).trans ((va_up_ne _ _ (nm hq (by decide : (46 : Nat) ∈ _))).trans (va_up_ne _ _ (nm hq (by decide : (47 : Nat) ∈ _)))))))) (fun q hq => (va_up_ne _ _ (nm hq (by decide : (47 : Nat) ∈ _)))) (by first | exact ⟨rfl, rfl⟩ | (rcases hh with rfl | rfl <;> first | exact ⟨rfl, rfl⟩ | exact ⟨n12.symm, rfl⟩)) (by first | exact ⟨rfl, rfl⟩ | (rcases hh with rfl | rfl <;> first | exact ⟨rfl, rfl⟩ | exact ⟨n12.symm, rfl⟩)) hmv.2⟩
end
