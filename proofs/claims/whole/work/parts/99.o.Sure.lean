/-! what each call does to both sides: sure -/
noncomputable section
abbrev RFl (l : Launch) (D : va_G) (cB cI cJ : ClassId) (ad : Nat → Nat) (A V : Nat → Nat → Int32) (R : Nat → Nat) (L : Nat → Nat → Int64) (y3 : MethodName) (ws3 : List Cond) (As3 : List Value) (kc : Int32) (r1 : Int64) : Prop :=
  ∃ (fr lo : Nat) (post : Int64 → (Nat → va_E) → Prop), cWl l D cB cI cJ ad 128 (pl ad cB cI cJ A V R L) y3 ws3 fr lo As3 post ∧ fr ≤ 60 ∧ lo ≤ 2000 ∧ ∀ (r : Int64) (M : Nat → va_E), post r M → ∃ (A' V' : Nat → Nat → Int32) (R' : Nat → Nat) (L' : Nat → Nat → Int64), M = pl ad cB cI cJ A' V' R' L' ∧ L' 127 = L 127 ∧ V' 82 2 = kc ∧ (kc = 0 → r = r1) ∧ INV A' V' R'
abbrev CFl (l : Launch) (D : va_G) (cB cI cJ : ClassId) (ad : Nat → Nat) (A V : Nat → Nat → Int32) (R : Nat → Nat) (L : Nat → Nat → Int64) (y1 : MethodName) (ws1 : List Cond) (As1 : List Value) (y3 : MethodName) (ws3 : List Cond) (As3 : List Value) : Prop :=
  ∃ (fr lo : Nat) (post : Int64 → (Nat → va_E) → Prop), cWl l D cB cI cJ ad 128 (pl ad cB cI cJ A V R L) y1 ws1 fr lo As1 post ∧ fr ≤ 60 ∧ lo ≤ 1300 ∧ ∀ (r : Int64) (M : Nat → va_E), post r M → ∃ (A' V' : Nat → Nat → Int32) (R' : Nat → Nat) (L' : Nat → Nat → Int64), M = pl ad cB cI cJ A' V' R' L' ∧ L' 127 = L 127 ∧ ∀ g : Nat → Int64, RFl l D cB cI cJ ad A' V' R' (va_up L' 127 g) y3 ws3 As3 0 r
abbrev CXl (l : Launch) (D : va_G) (cB cI cJ : ClassId) (ad : Nat → Nat) (A V : Nat → Nat → Int32) (R : Nat → Nat) (L : Nat → Nat → Int64) (y1 : MethodName) (ws1 : List Cond) (As1 : List Value) (y3 : MethodName) (ws3 : List Cond) (As3 : List Value) (E0 : String) (kc : Int32) : Prop :=
  ∃ fr lo : Nat, cX l D cB cI cJ ad 128 (pl ad cB cI cJ A V R L) y1 ws1 fr lo As1 E0 ∧ fr ≤ 60 ∧ lo ≤ 1300 ∧ RFl l D cB cI cJ ad A V R L y3 ws3 As3 kc 0
set_option maxHeartbeats 4000000 in
set_option maxRecDepth 100000 in
theorem sem_sure (l : Launch) (hlt : l.stackTraces = false) (D : va_G) (cB cI cJ : ClassId) (ad : Nat → Nat) (hI : ipI ad 128) {A V : Nat → Nat → Int32} {R : Nat → Nat} {L : Nat → Nat → Int64} (I : INV A V R) (x y : Int32) : CFl l D cB cI cJ ad A V R L yX12_sure wsX12_sure [.ref (ad 0), .int x, .int y] yX13_sure wsX13_sure [.ref (ad 82), .int x, .int y] ∨ CXl l D cB cI cJ ad A V R L yX12_sure wsX12_sure [.ref (ad 0), .int x, .int y] yX13_sure wsX13_sure [.ref (ad 82), .int x, .int y] "java/util/NoSuchElementException" 1 := by
  obtain ⟨h, nt, nc, np, nq, nl, na, nk, ln, ⟨hh, r0, r4, q33⟩, ⟨t1, t2, t3, t4, t5⟩, ⟨n1, n2, n3, n4, n5, n6, n7, n8, n9, n10, n11, n12, n13, n14, n15, n16, n17⟩, ⟨hT, hC, hP, hQ, hF, wP, wC, wT, wQ⟩, ⟨s1, hL, hoL⟩, ⟨l1, l2, l3, hA, hoA, l6, l7, l8, hS2, h3⟩, hMi, hFt, hCr⟩ := id I
  have hh2 : 116 - h = 50 ∨ 116 - h = 66 := by omega
  have hz := wf_hz wT hT
  have hW := wf_wt wT n15
  have hl9 := wf_li wC
  obtain ⟨uN, hN, hu, hw9, hwu⟩ := wf_un wT hT
  rcases rng (x := x) n2 (by omega) with ⟨cx, hcx, ex⟩ | ⟨gbx, nox⟩
  · obtain ⟨gx0, gx1⟩ := rng_in n2 (by omega) hcx ex
    by_cases gw : y < 0 ∨ 5 ≤ y
    · refine Or.inr ⟨_, _, (x_X12_sureB l D cB cI cJ ad 128 (pl ad cB cI cJ A V R L) hlt 0 1 h (116 - h) 3 4 7 14 17 24 31 44 46 (V 0 8) (V 0 9) (V h) x y (by omega) (by omega) (pl_po r0) (ph_0 hh) gx0 gx1 gw), by decide, by decide, ⟨_, _, _, (c_X13_sure l D cB cI cJ ad 128 (pl ad cB cI cJ A V R L) hI 82 nt nc np nq (V 82) (A 85) (A 90) (A 94) (A 95) (A 96) (A 97) (A 99) (A 100) (L 114) (L 115) uN x y (by omega) (by omega) (by omega) (by omega) (by omega) (by omega) (by omega) (by omega) (by omega) (by omega) (by omega) rfl rfl rfl rfl rfl rfl rfl rfl rfl rfl rfl n5 n13 n6 n14 n7 n15 n8 n16 hu), by decide, by decide, fun r3 M3 hp3 => ?_⟩⟩
      obtain ⟨v0__, v1__, hrc, c0o, c1o, c2o, fr3⟩ := hp3
      obtain ⟨mvc, c2, hmv⟩ : ∃ f : Nat → Int32, M3 82 = .inr (12, modF ad 82 f) ∧ (f 2 = 1 ∧ ∀ j : Nat, j ≠ 2 → f j = V 82 j) := ⟨_, c2o, by unfold s_X13_sure_2_1; rw [if_neg (cs_in n6 (by omega) hcx ex), if_pos (isIn_o (k := 4) (by decide) (by decide) gw)]; exact mv1 _ 1⟩
      obtain ⟨fc1, c0⟩ : ∃ f, M3 114 = .inl (cJ, 220, .inr (.inl f)) := ⟨_, c0o⟩
      obtain ⟨fc2, c1⟩ : ∃ f, M3 115 = .inl (cJ, 220, .inr (.inl f)) := ⟨_, c1o⟩
      have hM3 : M3 = pl ad cB cI cJ A (va_up V 82 mvc) R (va_up (va_up L 114 fc1) 115 fc2) := by
        refine pl_eq (A := A) (V := V) (R := R) (L := L) [114, 115, 82] (fun q hq => fr3 q (by rintro rfl; exact absurd (by decide) hq) (by rintro rfl; exact absurd (by decide) hq) (by rintro rfl; exact absurd (by decide) hq)) (fun q hq => ⟨rfl, (va_up_ne _ _ (nm hq (by decide : (82 : Nat) ∈ _))), rfl, ((va_up_ne _ _ (nm hq (by decide : (115 : Nat) ∈ _))).trans (va_up_ne _ _ (nm hq (by decide : (114 : Nat) ∈ _))))⟩) (fun q hq => ?_)
        simp only [List.mem_cons, List.not_mem_nil, or_false] at hq
        rcases hq with rfl | rfl | rfl <;> first | exact c0 | exact c1 | exact c2
      exact ⟨A, (va_up V 82 mvc), R, (va_up (va_up L 114 fc1) 115 fc2), hM3, rfl, hmv.1, fun q => absurd q (by decide), INV_cg I (fun q hq => rfl) (fun q hq => (va_up_ne _ _ (nm hq (by decide : (82 : Nat) ∈ _)))) (fun q hq => rfl) (by first | exact ⟨rfl, rfl⟩ | (rcases hh with rfl | rfl <;> first | exact ⟨rfl, rfl⟩ | exact ⟨n12.symm, rfl⟩)) (by first | exact ⟨rfl, rfl⟩ | (rcases hh with rfl | rfl <;> first | exact ⟨rfl, rfl⟩ | exact ⟨n12.symm, rfl⟩)) hmv.2⟩
    · obtain ⟨gw0, gw1⟩ := rg2 gw
      have hi : ¬ s_X13_isIn y.toInt64 0 4 = 0 := isIn_k (k := 4) (by decide) (by decide) gw0 gw1
      have E2 : s_X13_sure_2_1 (V 82) (A 85) x y = upd (V 82) 2 0 := by
        unfold s_X13_sure_2_1
        rw [if_neg (cs_in n6 (by omega) hcx ex), if_neg hi]
        split <;> split <;> (try split) <;> rfl
      refine Or.inl ⟨_, _, _, (c_X12_sure l D cB cI cJ ad 128 (pl ad cB cI cJ A V R L) hI 0 1 h (116 - h) 3 4 7 14 17 24 31 44 46 (V 0 8) (V 0 9) (R 44) nt nc (V 44 2) (V 44 3) (V 44 4) (V 44 5) (V 44 6) (V 4 2) (L 44 0) (L 44 1) (V h) (A (h + 4)) (A (h + 6)) (A 6) (L 45) x y (by omega) (by omega) (by omega) (by omega) (by omega) (by omega) (by omega) (by omega) (by omega) (by omega) (by omega) (pl_po r0) rfl rfl (pl_g r4) rfl rfl (ph_0 hh) (ph_5 hh) (ph_6 hh) (ph_3 hh) (ph_4 hh) n3 n15 (wf_wt wT n15) (by omega) (by omega) (by omega) gx0 gx1 gw0 gw1), by decide, by decide, fun r1 M1 hp1 => ?_⟩
      obtain ⟨hr1, b0o, b1o, fr1⟩ := hp1
      obtain ⟨fb1, b0⟩ : ∃ f, M1 45 = .inl (cJ, 217, .inr (.inl f)) := ⟨_, b0o⟩
      obtain ⟨wb2_0, wb2_1, wb2_2, wb2_3, wb2_4, wb2_5, wb2_6, wb2_7, b1⟩ : ∃ x0 x1 x2 x3 x4 x5 x6 x7, M1 44 = .inr (6, scaleF ad 44 x0 x1 x2 x3 x4 x5 x6 x7) := ⟨_, _, _, _, _, _, _, _, b1o⟩
      have hM1 : M1 = pl ad cB cI cJ A (va_up V 44 (tvN [0, 0, wb2_1, wb2_2, wb2_3, wb2_4, wb2_5])) (va_up R 44 wb2_0) (va_up (va_up L 45 fb1) 44 (tvL wb2_6 wb2_7)) := by
        refine pl_eq (A := A) (V := V) (R := R) (L := L) [45, 44] (fun q hq => fr1 q (by rintro rfl; exact absurd (by decide) hq) (by rintro rfl; exact absurd (by decide) hq)) (fun q hq => ⟨rfl, (va_up_ne _ _ (nm hq (by decide : (44 : Nat) ∈ _))), (va_up_ne _ _ (nm hq (by decide : (44 : Nat) ∈ _))), ((va_up_ne _ _ (nm hq (by decide : (44 : Nat) ∈ _))).trans (va_up_ne _ _ (nm hq (by decide : (45 : Nat) ∈ _))))⟩) (fun q hq => ?_)
        simp only [List.mem_cons, List.not_mem_nil, or_false] at hq
        rcases hq with rfl | rfl <;> first | exact b0 | exact b1
      refine ⟨A, (va_up V 44 (tvN [0, 0, wb2_1, wb2_2, wb2_3, wb2_4, wb2_5])), (va_up R 44 wb2_0), (va_up (va_up L 45 fb1) 44 (tvL wb2_6 wb2_7)), hM1, rfl, fun g => ⟨_, _, _, (c_X13_sure l D cB cI cJ ad 128 (pl ad cB cI cJ A (va_up V 44 (tvN [0, 0, wb2_1, wb2_2, wb2_3, wb2_4, wb2_5])) (va_up R 44 wb2_0) (va_up (va_up (va_up L 45 fb1) 44 (tvL wb2_6 wb2_7)) 127 g)) hI 82 nt nc np nq (V 82) (A 85) (A 90) (A 94) (A 95) (A 96) (A 97) (A 99) (A 100) (L 114) (L 115) uN x y (by omega) (by omega) (by omega) (by omega) (by omega) (by omega) (by omega) (by omega) (by omega) (by omega) (by omega) rfl rfl rfl rfl rfl rfl rfl rfl rfl rfl rfl n5 n13 n6 n14 n7 n15 n8 n16 hu), by decide, by decide, fun r3 M3 hp3 => ?_⟩⟩
      obtain ⟨v0__, v1__, hrc, c0o, c1o, c2o, fr3⟩ := hp3
      obtain ⟨mvc, c2, hmv⟩ : ∃ f : Nat → Int32, M3 82 = .inr (12, modF ad 82 f) ∧ (f 2 = 0 ∧ ∀ j : Nat, j ≠ 2 → f j = V 82 j) := ⟨_, c2o, by rw [E2]; exact mv0 _⟩
      obtain ⟨fc1, c0⟩ : ∃ f, M3 114 = .inl (cJ, 220, .inr (.inl f)) := ⟨_, c0o⟩
      obtain ⟨fc2, c1⟩ : ∃ f, M3 115 = .inl (cJ, 220, .inr (.inl f)) := ⟨_, c1o⟩
      have hM3 : M3 = pl ad cB cI cJ A (va_up (va_up V 44 (tvN [0, 0, wb2_1, wb2_2, wb2_3, wb2_4, wb2_5])) 82 mvc) (va_up R 44 wb2_0) (va_up (va_up (va_up (va_up (va_up L 45 fb1) 44 (tvL wb2_6 wb2_7)) 127 g) 114 fc1) 115 fc2) := by
        refine pl_eq (A := A) (V := (va_up V 44 (tvN [0, 0, wb2_1, wb2_2, wb2_3, wb2_4, wb2_5]))) (R := (va_up R 44 wb2_0)) (L := (va_up (va_up (va_up L 45 fb1) 44 (tvL wb2_6 wb2_7)) 127 g)) [114, 115, 82] (fun q hq => fr3 q (by rintro rfl; exact absurd (by decide) hq) (by rintro rfl; exact absurd (by decide) hq) (by rintro rfl; exact absurd (by decide) hq)) (fun q hq => ⟨rfl, (va_up_ne _ _ (nm hq (by decide : (82 : Nat) ∈ _))), rfl, ((va_up_ne _ _ (nm hq (by decide : (115 : Nat) ∈ _))).trans (va_up_ne _ _ (nm hq (by decide : (114 : Nat) ∈ _))))⟩) (fun q hq => ?_)
        simp only [List.mem_cons, List.not_mem_nil, or_false] at hq
        rcases hq with rfl | rfl | rfl <;> first | exact c0 | exact c1 | exact c2
      exact ⟨A, (va_up (va_up V 44 (tvN [0, 0, wb2_1, wb2_2, wb2_3, wb2_4, wb2_5])) 82 mvc), (va_up R 44 wb2_0), (va_up (va_up (va_up (va_up (va_up L 45 fb1) 44 (tvL wb2_6 wb2_7)) 127 g) 114 fc1) 115 fc2), hM3, rfl, hmv.1, fun _ => hrc.trans (Eq.trans (by rw [ex]; exact eq_sure n15 n14 hT hC hL hW hl9 n6 hcx hu (sm4 gw0 gw1)) hr1.symm), INV_cg I (fun q hq => rfl) (fun q hq => ((va_up_ne _ _ (nm hq (by decide : (82 : Nat) ∈ _))).trans (va_up_ne _ _ (nm hq (by decide : (44 : Nat) ∈ _))))) (fun q hq => (va_up_ne _ _ (nm hq (by decide : (44 : Nat) ∈ _)))) (by first | exact ⟨rfl, rfl⟩ | (rcases hh with rfl | rfl <;> first | exact ⟨rfl, rfl⟩ | exact ⟨n12.symm, rfl⟩)) (by first | exact ⟨rfl, rfl⟩ | (rcases hh with rfl | rfl <;> first | exact ⟨rfl, rfl⟩ | exact ⟨n12.symm, rfl⟩)) hmv.2⟩
  · refine Or.inr ⟨_, _, (x_X12_sureA l D cB cI cJ ad 128 (pl ad cB cI cJ A V R L) hlt 0 1 h (116 - h) 3 4 7 14 17 24 31 44 46 (V 0 8) (V 0 9) (V h) x y (by omega) (by omega) (pl_po r0) (ph_0 hh) gbx), by decide, by decide, ⟨_, _, _, (c_X13_sure l D cB cI cJ ad 128 (pl ad cB cI cJ A V R L) hI 82 nt nc np nq (V 82) (A 85) (A 90) (A 94) (A 95) (A 96) (A 97) (A 99) (A 100) (L 114) (L 115) uN x y (by omega) (by omega) (by omega) (by omega) (by omega) (by omega) (by omega) (by omega) (by omega) (by omega) (by omega) rfl rfl rfl rfl rfl rfl rfl rfl rfl rfl rfl n5 n13 n6 n14 n7 n15 n8 n16 hu), by decide, by decide, fun r3 M3 hp3 => ?_⟩⟩
    obtain ⟨v0__, v1__, hrc, c0o, c1o, c2o, fr3⟩ := hp3
    obtain ⟨mvc, c2, hmv⟩ : ∃ f : Nat → Int32, M3 82 = .inr (12, modF ad 82 f) ∧ (f 2 = 1 ∧ ∀ j : Nat, j ≠ 2 → f j = V 82 j) := ⟨_, c2o, by unfold s_X13_sure_2_1; rw [if_pos (cs_out n6 (by omega) nox)]; exact mv1 _ 1⟩
    obtain ⟨fc1, c0⟩ : ∃ f, M3 114 = .inl (cJ, 220, .inr (.inl f)) := ⟨_, c0o⟩
    obtain ⟨fc2, c1⟩ : ∃ f, M3 115 = .inl (cJ, 220, .inr (.inl f)) := ⟨_, c1o⟩
    have hM3 : M3 = pl ad cB cI cJ A (va_up V 82 mvc) R (va_up (va_up L 114 fc1) 115 fc2) := by
      refine pl_eq (A := A) (V := V) (R := R) (L := L) [114, 115, 82] (fun q hq => fr3 q (by rintro rfl; exact absurd (by decide) hq) (by rintro rfl; exact absurd (by decide) hq) (by rintro rfl; exact absurd (by decide) hq)) (fun q hq => ⟨rfl, (va_up_ne _ _ (nm hq (by decide : (82 : Nat) ∈ _))), rfl, ((va_up_ne _ _ (nm hq (by decide : (115 : Nat) ∈ _))).trans (va_up_ne _ _ (nm hq (by decide : (114 : Nat) ∈ _))))⟩) (fun q hq => ?_)
      simp only [List.mem_cons, List.not_mem_nil, or_false] at hq
      rcases hq with rfl | rfl | rfl <;> first | exact c0 | exact c1 | exact c2
    exact ⟨A, (va_up V 82 mvc), R, (va_up (va_up L 114 fc1) 115 fc2), hM3, rfl, hmv.1, fun q => absurd q (by decide), INV_cg I (fun q hq => rfl) (fun q hq => (va_up_ne _ _ (nm hq (by decide : (82 : Nat) ∈ _)))) (fun q hq => rfl) (by first | exact ⟨rfl, rfl⟩ | (rcases hh with rfl | rfl <;> first | exact ⟨rfl, rfl⟩ | exact ⟨n12.symm, rfl⟩)) (by first | exact ⟨rfl, rfl⟩ | (rcases hh with rfl | rfl <;> first | exact ⟨rfl, rfl⟩ | exact ⟨n12.symm, rfl⟩)) hmv.2⟩
end
