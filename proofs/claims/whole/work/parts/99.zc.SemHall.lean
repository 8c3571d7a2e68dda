/-! what hall does to both sides -/
noncomputable section
set_option maxHeartbeats 4000000 in
set_option maxRecDepth 100000 in
theorem sem_hall (l : Launch) (hlt : l.stackTraces = false) (D : va_G) (cB cI cJ : ClassId) (ad : Nat → Nat) (hI : ipI ad 128) {A V : Nat → Nat → Int32} {R : Nat → Nat} {L : Nat → Nat → Int64} (I : INV A V R) (x : Int32) : CF l D cB cI cJ ad A V R L yX12_hall wsX12_hall [.ref (ad 0), .int x] yX13_hall wsX13_hall [.ref (ad 82), .int x] ∨ CX l D cB cI cJ ad A V R L yX12_hall wsX12_hall [.ref (ad 0), .int x] yX13_hall wsX13_hall [.ref (ad 82), .int x] "java/lang/IllegalArgumentException" 1 := by
  obtain ⟨h, nt, nc, np, nq, nl, na, nk, ln, ⟨hh, r0, r4, q33⟩, ⟨t1, t2, t3, t4, t5⟩, ⟨n1, n2, n3, n4, n5, n6, n7, n8, n9, n10, n11, n12, n13, n14, n15, n16, n17⟩, ⟨hT, hC, hP, hQ, hF, wP, wC, wT, wQ⟩, ⟨s1, hL, hoL⟩, ⟨l1, l2, l3, hA, hoA, l6, l7, l8, hS2, h3⟩, hMi, hFt, hCr⟩ := id I
  by_cases gw : x < 0 ∨ V 1 1 < x
  · refine Or.inr ⟨_, _, (x_X12_hallA l D cB cI cJ ad 128 (pl ad cB cI cJ A V R L) hlt 0 1 h (116 - h) 3 4 7 14 17 24 31 44 46 (V 0 8) (V 0 9) (V 1 1) (V 1 2) (V 1 3) (V 1 4) (V 1 5) (V 1 6) (R 1) x (by omega) (by omega) (pl_po r0) rfl gw), by decide, by decide, ⟨_, _, _, (c_X13_hallA l D cB cI cJ ad 128 (pl ad cB cI cJ A V R L) hI 82 ln (V 82) x (by omega) rfl t2 (by rw [← t1]; exact gw)), by decide, by decide, fun r3 M3 hp3 => ?_⟩⟩
    obtain ⟨hrc, c0, fr3⟩ := hp3
    obtain ⟨mvc, c0, hmv⟩ : ∃ f : Nat → Int32, M3 82 = .inr (12, modF ad 82 f) ∧ (f 2 = 1 ∧ ∀ j : Nat, j ≠ 2 → f j = V 82 j) := ⟨_, c0, mvk _ 1⟩
    have hM3 : M3 = pl ad cB cI cJ A (va_up V 82 mvc) R L := by
      refine pl_eq (A := A) (V := V) (R := R) (L := L) [82] (fun q hq => fr3 q (by rintro rfl; exact absurd (by decide) hq)) (fun q hq => ⟨rfl, (va_up_ne _ _ (nm hq (by decide : (82 : Nat) ∈ _))), rfl, rfl⟩) (fun q hq => ?_)
      simp only [List.mem_cons, List.not_mem_nil, or_false] at hq
      rcases hq with rfl <;> first | exact c0
    exact ⟨A, (va_up V 82 mvc), R, L, hM3, rfl, hmv.1, fun q => absurd q (by decide), INV_cg I (fun q hq => rfl) (fun q hq => (va_up_ne _ _ (nm hq (by decide : (82 : Nat) ∈ _)))) (fun q hq => rfl) (by first | exact ⟨rfl, rfl⟩ | (rcases hh with rfl | rfl <;> first | exact ⟨rfl, rfl⟩ | exact ⟨n12.symm, rfl⟩)) (by first | exact ⟨rfl, rfl⟩ | (rcases hh with rfl | rfl <;> first | exact ⟨rfl, rfl⟩ | exact ⟨n12.symm, rfl⟩)) hmv.2⟩
  · obtain ⟨en, hen, rfl⟩ : ∃ en : Nat, en ≤ ln ∧ x = nI en := by
      obtain ⟨j, hj, rfl⟩ := nI_of (fun q => gw (Or.inl q))
      have g1 : nI j ≤ nI ln := by rw [← t1]; exact Int32.not_lt.mp (fun q => gw (Or.inr q))
      exact ⟨j, (nI_leI hj (by omega)).mp g1, rfl⟩
    obtain ⟨RD, hRD⟩ : ∃ RD : RS, RD = rdR en (A 2) (A (116 - h + 2)) (A (116 - h + 4)) (A (116 - h + 6)) (A (116 - h + 8)) := ⟨_, rfl⟩
    have hRD' : rlS en (A 105) 700 (0, 0, (fun _ => 0), 0, [], A (116 - h + 2), A (116 - h + 4), A (116 - h + 6), A (116 - h + 8)) = RD := by rw [hRD]; exact (bq_rdR t4 en _ _ _ _).symm
    by_cases hok : RD.1 = 0
    · have hw : wfS en RD := by
        rw [hRD] at hok ⊢
        exact wf_read (by omega) hok
      obtain ⟨fr, lo_, post, hM, h1, h2, hp⟩ := cls_hallG (l := l) (D := D) (cB := cB) (cI := cI) (cJ := cJ) hI (L := L) hh r0 t1 t3 hen hRD hok
      refine Or.inl ⟨fr, lo_, post, hM, h1, h2, fun r1 M1 q1 => ?_⟩
      obtain ⟨hr1, vt, w9, hvt, hM1⟩ := hp r1 M1 q1
      refine ⟨_, _, _, _, hM1, rfl, fun g => ?_⟩
      obtain ⟨fr3, lo3, post3, hM3, h13, h23, hp3⟩ := ref_hallG (l := l) (D := D) (cB := cB) (cI := cI) (cJ := cJ) hI (A := (va_up (va_up (va_up (va_up (va_up (va_up (va_up (va_up (va_up (va_up (va_up A 52 (if h = 50 then A 52 else RD.2.2.2.2.2.1)) 68 (if h = 66 then A 68 else RD.2.2.2.2.2.1)) 54 (if h = 50 then A 54 else RD.2.2.2.2.2.2.1)) 70 (if h = 66 then A 70 else RD.2.2.2.2.2.2.1)) 56 (if h = 50 then A 56 else RD.2.2.2.2.2.2.2.1)) 72 (if h = 66 then A 72 else RD.2.2.2.2.2.2.2.1)) 58 (if h = 50 then A 58 else RD.2.2.2.2.2.2.2.2)) 74 (if h = 66 then A 74 else RD.2.2.2.2.2.2.2.2)) 61 (if h = 50 then A 61 else (layC RD.2.2.2.2.1 (A (116 - h + 11))))) 77 (if h = 66 then A 77 else (layC RD.2.2.2.2.1 (A (116 - h + 11))))) 6 (bgS (A 6) RD.2.2.2.2.2.2.2.1 (RD.2.2.1 7).toNatClampNeg))) (V := (va_up (va_up (va_up (va_up (va_up (va_up (va_up (va_up (va_up (va_up V 50 (if h = 50 then V 50 else RD.2.2.1)) 59 (if h = 50 then V 59 else tvR (nI RD.2.2.2.2.1.length) RD.2.2.2.1 (V (116 - h + 9) 5))) 66 (if h = 66 then V 66 else RD.2.2.1)) 75 (if h = 66 then V 75 else tvR (nI RD.2.2.2.2.1.length) RD.2.2.2.1 (V (116 - h + 9) 5))) 1 vt) 3 (upd (V 3) 2 RD.1)) 0 (upd (upd (V 0) 8 0) 9 (-1))) 7 (upd (upd (V 7) 1 0) 3 0)) 4 (upd (V 4) 2 0)) 31 (upd (upd (V 31) 2 0) 6 0))) (R := (va_up (va_up (va_up (va_up R 1 w9) 3 (116 - h)) 0 (116 - h)) 4 (116 - h))) (L := va_up L 127 g) n5 n6 n7 n8 n13 n14 n15 n16 t2 t3 t5 hen hRD' hok
      refine ⟨fr3, lo3, post3, hM3, h13, h23, fun r3 M3 q3 => ?_⟩
      obtain ⟨hr3, a0, a1, a2, a3, dn9, toldG, ownG, pocketsG, bearsG, ownerG, limitG, holdsG, costG, boardG, kindG, heavyG, unsureG, wideG, valueG, hotG, placeG, postToG, priceG, mv, hQ9, hmv, hM3'⟩ := hp3 r3 M3 q3
      refine ⟨_, _, _, _, hM3', rfl, hmv.1, fun _ => hr3.trans hr1.symm, ?_⟩
      rcases hh with rfl | rfl
      · exact INV_hallG (k := 66) (Or.inr rfl) hw (by omega) hQ9 rfl rfl rfl rfl hvt rfl rfl rfl rfl rfl rfl rfl rfl hmv rfl rfl rfl rfl rfl rfl rfl rfl rfl rfl rfl rfl rfl rfl rfl rfl rfl rfl rfl rfl rfl rfl rfl rfl rfl t4 t5 hoA h3
      · exact INV_hallG (k := 50) (Or.inl rfl) hw (by omega) hQ9 rfl rfl rfl rfl hvt rfl rfl rfl rfl rfl rfl rfl rfl hmv rfl rfl rfl rfl rfl rfl rfl rfl rfl rfl rfl rfl rfl rfl rfl rfl rfl rfl rfl rfl rfl rfl rfl rfl rfl t4 t5 hoA h3
    · obtain ⟨fr, lo_, post, hM, h1, h2, hp⟩ := cls_hallB (l := l) (D := D) (cB := cB) (cI := cI) (cJ := cJ) hI (L := L) hh r0 t1 t3 hen hRD hok
      refine Or.inl ⟨fr, lo_, post, hM, h1, h2, fun r1 M1 q1 => ?_⟩
      obtain ⟨hr1, vt, w9, hvt, hM1⟩ := hp r1 M1 q1
      refine ⟨_, _, _, _, hM1, rfl, fun g => ?_⟩
      obtain ⟨fr3, lo3, post3, hM3, h13, h23, hp3⟩ := ref_hallB (l := l) (D := D) (cB := cB) (cI := cI) (cJ := cJ) hI (A := (va_up (va_up (va_up (va_up (va_up (va_up (va_up (va_up (va_up (va_up (va_up A 52 (if h = 50 then A 52 else RD.2.2.2.2.2.1)) 68 (if h = 66 then A 68 else RD.2.2.2.2.2.1)) 54 (if h = 50 then A 54 else RD.2.2.2.2.2.2.1)) 70 (if h = 66 then A 70 else RD.2.2.2.2.2.2.1)) 56 (if h = 50 then A 56 else RD.2.2.2.2.2.2.2.1)) 72 (if h = 66 then A 72 else RD.2.2.2.2.2.2.2.1)) 58 (if h = 50 then A 58 else RD.2.2.2.2.2.2.2.2)) 74 (if h = 66 then A 74 else RD.2.2.2.2.2.2.2.2)) 61 (if h = 50 then A 61 else (layC RD.2.2.2.2.1 (A (116 - h + 11))))) 77 (if h = 66 then A 77 else (layC RD.2.2.2.2.1 (A (116 - h + 11))))) 13 (tset 3 (A 13) 0 (tat 3 (A 13) 0 + 1)))) (V := (va_up (va_up (va_up (va_up (va_up (va_up (va_up V 50 (if h = 50 then V 50 else RD.2.2.1)) 59 (if h = 50 then V 59 else tvR (nI RD.2.2.2.2.1.length) RD.2.2.2.1 (V (116 - h + 9) 5))) 66 (if h = 66 then V 66 else RD.2.2.1)) 75 (if h = 66 then V 75 else tvR (nI RD.2.2.2.2.1.length) RD.2.2.2.1 (V (116 - h + 9) 5))) 1 vt) 3 (upd (V 3) 2 RD.1)) 0 (upd (V 0) 9 (nI (pX en (A 2) RD.2.1))))) (R := (va_up (va_up R 1 w9) 3 (116 - h))) (L := va_up L 127 g) n5 n6 n7 n8 n13 n14 n15 n16 t2 t3 t5 hen hRD' hok
      refine ⟨fr3, lo3, post3, hM3, h13, h23, fun r3 M3 q3 => ?_⟩
      obtain ⟨hr3, csR, toldG, ownG, pocketsG, bearsG, ownerG, limitG, holdsG, costG, boardG, kindG, heavyG, unsureG, wideG, valueG, hotG, placeG, postToG, priceG, mv, ⟨o1, o2, o3, o4, o5, o6, o7, o8, o9, o10, o11, o12, o13, o14, o15, o16, o17, o18⟩, ⟨y2, y24, y33, y36, y37, y38, y45, y46, y53, y56, y57, y58, y59⟩, hM3'⟩ := hp3 r3 M3 q3
      refine ⟨_, _, _, _, hM3', rfl, y2, fun _ => hr3.trans hr1.symm, ?_⟩
      have hp9 : nI (pX en (A 2) RD.2.1) = mv 33 := (congrArg nI (bq_pX t4 en RD.2.1)).trans y33.symm
      have hmm : ∀ j : Nat, j ∈ [36, 37, 38, 45, 46, 53, 56, 57, 58, 59] → mv j = V 82 j := by
        intro j hj
        simp only [List.mem_cons, List.not_mem_nil, or_false] at hj
        rcases hj with rfl | rfl | rfl | rfl | rfl | rfl | rfl | rfl | rfl | rfl <;> assumption
      rcases hh with rfl | rfl
      · refine INV_hallB (h := 50) I r0 (Or.inl rfl) rfl rfl rfl rfl rfl rfl rfl (fun q hq => ?_) (fun q hq => ?_) (fun q hq => ?_) rfl hp9 hvt y24 hmm o1 o2 o3 o4 o5 o6 o7 o8 o9 o10 o11 o12 o13 o14 o15 o16 o17 o18 (layM_lo _ _) (rl3_bad h3)
        all_goals (simp only [List.mem_cons, List.not_mem_nil, or_false] at hq)
        · rcases hq with rfl | rfl | rfl | rfl | rfl | rfl | rfl | rfl | rfl | rfl | rfl | rfl | rfl | rfl | rfl | rfl | rfl | rfl | rfl | rfl | rfl | rfl | rfl | rfl | rfl <;> rfl
        · rcases hq with rfl | rfl | rfl | rfl | rfl <;> rfl
        · rcases hq with rfl | rfl | rfl
          · rfl
          · rfl
          · rfl
      · refine INV_hallB (h := 66) I r0 (Or.inr rfl) rfl rfl rfl rfl rfl rfl rfl (fun q hq => ?_) (fun q hq => ?_) (fun q hq => ?_) rfl hp9 hvt y24 hmm o1 o2 o3 o4 o5 o6 o7 o8 o9 o10 o11 o12 o13 o14 o15 o16 o17 o18 (layM_lo _ _) (rl3_bad h3)
        all_goals (simp only [List.mem_cons, List.not_mem_nil, or_false] at hq)
        · rcases hq with rfl | rfl | rfl | rfl | rfl | rfl | rfl | rfl | rfl | rfl | rfl | rfl | rfl | rfl | rfl | rfl | rfl | rfl | rfl | rfl | rfl | rfl | rfl | rfl | rfl <;> rfl
        · rcases hq with rfl | rfl | rfl | rfl | rfl <;> rfl
        · rcases hq with rfl | rfl | rfl
          · rfl
          · rfl
          · rfl
end
