/-! what each call does to both sides: counter, sure -/
noncomputable section
theorem INV_cg2 {A V A' V' : Nat → Nat → Int32} {R R' : Nat → Nat} (I : INV A V R) (hA : ∀ q : Nat, q ∉ scrA → q ≠ 100 → A' q = A q) (h100 : ∀ nt : Nat, A 85 2 = nI nt → nt ≤ 12 → ∀ t : Nat, t < nt → A' 100 t = A 100 t) (hV : ∀ q : Nat, q ∉ scrV → V' q = V q) (hR : ∀ q : Nat, q ∉ [1, 3, 44, 47] → R' q = R q) (h59 : V' 59 1 = V 59 1 ∧ V' 59 2 = V 59 2) (h75 : V' 75 1 = V 75 1 ∧ V' 75 2 = V 75 2) (h82 : ∀ j : Nat, j ≠ 2 → V' 82 j = V 82 j) : INV A' V' R' := by
  have I1 : INV (va_up A' 100 (A 100)) V' R' := INV_cg I (fun q hq => by
    by_cases c : q = 100
    · subst c; exact va_up_self _ _ _
    · rw [va_up_ne _ _ c]; exact hA q hq c) hV hR h59 h75 h82
  have I2 := INV_100 I1 (A' 100) (fun nt e h t ht => by
    rw [va_up_self]
    rw [va_up_ne _ _ (show (85 : Nat) ≠ 100 by decide), hA 85 (by decide) (by decide)] at e
    exact h100 nt e h t ht)
  have e : va_up (va_up A' 100 (A 100)) 100 (A' 100) = A' := funext fun q => by
    by_cases c : q = 100
    · subst c; exact va_up_self _ _ _
    · rw [va_up_ne _ _ c, va_up_ne _ _ c]
  rw [e] at I2
  exact I2
theorem k2_o {z : Int32} (h : z < 0 ∨ 2 ≤ z) : (if z < 0 then (1 : Int32) else if z ≤ 1 then 2 else 1) = 1 := by
  by_cases q : z < 0
  · rw [if_pos q]
  · rw [if_neg q, if_neg (fun w => absurd (Int32.le_trans (h.resolve_left q) w) (by decide))]
theorem k2_i {z : Int32} (h0 : ¬ z < 0) (h1 : z < 2) : z ≤ 1 := by
  obtain ⟨j, hj, rfl⟩ := nI_of h0
  have := (nI_ltI (b := 2) hj (by decide)).mp h1
  exact nI_le (show j ≤ 1 by omega) (by decide)
theorem g200 {y : Int32} (gp : y < 0 ∨ 200 < y) : y < 0 ∨ nI (200 + 1) ≤ y := by
  rcases gp with q | q
  · exact Or.inl q
  · by_cases c : y < 0
    · exact Or.inl c
    · obtain ⟨j, hj, rfl⟩ := nI_of c
      exact Or.inr (nI_le (show 201 ≤ j from (nI_ltI (a := 200) (by decide) hj).mp q) hj)
theorem l200 {y : Int32} (gp : ¬ (y < 0 ∨ 200 < y)) : ∃ k : Nat, k ≤ 200 ∧ y = nI k := by
  obtain ⟨j, hj, rfl⟩ := nI_of (fun q => gp (Or.inl q))
  exact ⟨j, (nI_leI hj (b := 200) (by decide)).mp (Int32.not_lt.mp (fun q => gp (Or.inr q))), rfl⟩
theorem i200 {k : Nat} (h : k ≤ 200) : ¬ s_X13_isIn (nI k).toInt64 0 200 = 0 := isIn_k (k := 200) (by decide) (by decide) (nI_pos (by omega)) (nI_lt (by omega) (by decide))
set_option maxHeartbeats 4000000 in
set_option maxRecDepth 100000 in
theorem sem_counter (l : Launch) (hlt : l.stackTraces = false) (D : va_G) (cB cI cJ : ClassId) (ad : Nat → Nat) (hI : ipI ad 128) {A V : Nat → Nat → Int32} {R : Nat → Nat} {L : Nat → Nat → Int64} (I : INV A V R) (x y z : Int32) : CF l D cB cI cJ ad A V R L yX12_counter wsX12_counter [.ref (ad 0), .int x, .int y, .int z] yX13_counter wsX13_counter [.ref (ad 82), .int x, .int y, .int z] ∨ CX l D cB cI cJ ad A V R L yX12_counter wsX12_counter [.ref (ad 0), .int x, .int y, .int z] yX13_counter wsX13_counter [.ref (ad 82), .int x, .int y, .int z] "java/util/NoSuchElementException" 1 ∨ CX l D cB cI cJ ad A V R L yX12_counter wsX12_counter [.ref (ad 0), .int x, .int y, .int z] yX13_counter wsX13_counter [.ref (ad 82), .int x, .int y, .int z] "java/lang/IllegalArgumentException" 2 := by
  obtain ⟨h, nt, nc, np, nq, nl, na, nk, ln, ⟨hh, r0, r4, q33⟩, ⟨t1, t2, t3, t4, t5⟩, ⟨n1, n2, n3, n4, n5, n6, n7, n8, n9, n10, n11, n12, n13, n14, n15, n16, n17⟩, ⟨hT, hC, hP, hQ, hF, wP, wC, wT, wQ⟩, ⟨s1, hL, hoL⟩, ⟨l1, l2, l3, hA, hoA, l6, l7, l8, hS2, h3⟩, hMi, hFt, hCr⟩ := id I
  have hh2 : 116 - h = 50 ∨ 116 - h = 66 := by omega
  have hz := wf_hz wT hT
  have hW := wf_wt wT n15
  have hl9 := wf_li wC
  by_cases gw : z < 0 ∨ 2 ≤ z
  · refine Or.inr (Or.inl ⟨_, _, (x_X12_counterA l D cB cI cJ ad 128 (pl ad cB cI cJ A V R L) hlt 0 1 h (116 - h) 3 4 7 14 17 24 31 44 46 (V 0 8) (V 0 9) x y z (by omega) (pl_po r0) gw), by decide, by decide, ⟨_, _, _, (c_X13_counterN l D cB cI cJ ad 128 (pl ad cB cI cJ A V R L) hI 82 (V 82) x y z (by omega) rfl (gw.imp id Or.inl)), by decide, by decide, fun r3 M3 hp3 => ?_⟩⟩)
    obtain ⟨hrc, c0o, fr3⟩ := hp3
    obtain ⟨mvc, c0, hmv⟩ : ∃ f : Nat → Int32, M3 82 = .inr (12, modF ad 82 f) ∧ (f 2 = 1 ∧ ∀ j : Nat, j ≠ 2 → f j = V 82 j) := ⟨_, c0o, by rw [k2_o gw]; exact mv1 _ 1⟩
    have hM3 : M3 = pl ad cB cI cJ A (va_up V 82 mvc) R L := by
      refine pl_eq (A := A) (V := V) (R := R) (L := L) [82] (fun q hq => fr3 q (by rintro rfl; exact absurd (by decide) hq)) (fun q hq => ⟨rfl, (va_up_ne _ _ (nm hq (by decide : (82 : Nat) ∈ _))), rfl, rfl⟩) (fun q hq => ?_)
      simp only [List.mem_cons, List.not_mem_nil, or_false] at hq
      rcases hq with rfl <;> first | exact c0
    exact ⟨A, (va_up V 82 mvc), R, L, hM3, rfl, hmv.1, fun q => absurd q (by decide), INV_cg I (fun q hq => rfl) (fun q hq => (va_up_ne _ _ (nm hq (by decide : (82 : Nat) ∈ _)))) (fun q hq => rfl) (by first | exact ⟨rfl, rfl⟩ | (rcases hh with rfl | rfl <;> first | exact ⟨rfl, rfl⟩ | exact ⟨n12.symm, rfl⟩)) (by first | exact ⟨rfl, rfl⟩ | (rcases hh with rfl | rfl <;> first | exact ⟨rfl, rfl⟩ | exact ⟨n12.symm, rfl⟩)) hmv.2⟩
  · obtain ⟨gw0, gw1⟩ := rg2 gw
    by_cases gp : y < 0 ∨ 200 < y
    · refine Or.inr (Or.inr ⟨_, _, (x_X12_counterB l D cB cI cJ ad 128 (pl ad cB cI cJ A V R L) hlt 0 1 h (116 - h) 3 4 7 14 17 24 31 44 46 (V 0 8) (V 0 9) x y z (by omega) (pl_po r0) gw0 gw1 gp), by decide, by decide, ⟨_, _, _, (c_X13_counterN l D cB cI cJ ad 128 (pl ad cB cI cJ A V R L) hI 82 (V 82) x y z (by omega) rfl (Or.inr (Or.inr (isIn_o (k := 200) (by decide) (by decide) (g200 gp))))), by decide, by decide, fun r3 M3 hp3 => ?_⟩⟩)
      obtain ⟨hrc, c0o, fr3⟩ := hp3
      obtain ⟨mvc, c0, hmv⟩ : ∃ f : Nat → Int32, M3 82 = .inr (12, modF ad 82 f) ∧ (f 2 = 2 ∧ ∀ j : Nat, j ≠ 2 → f j = V 82 j) := ⟨_, c0o, by rw [if_neg gw0, if_pos (k2_i gw0 gw1)]; exact mv1 _ 2⟩
      have hM3 : M3 = pl ad cB cI cJ A (va_up V 82 mvc) R L := by
        refine pl_eq (A := A) (V := V) (R := R) (L := L) [82] (fun q hq => fr3 q (by rintro rfl; exact absurd (by decide) hq)) (fun q hq => ⟨rfl, (va_up_ne _ _ (nm hq (by decide : (82 : Nat) ∈ _))), rfl, rfl⟩) (fun q hq => ?_)
        simp only [List.mem_cons, List.not_mem_nil, or_false] at hq
        rcases hq with rfl <;> first | exact c0
      exact ⟨A, (va_up V 82 mvc), R, L, hM3, rfl, hmv.1, fun q => absurd q (by decide), INV_cg I (fun q hq => rfl) (fun q hq => (va_up_ne _ _ (nm hq (by decide : (82 : Nat) ∈ _)))) (fun q hq => rfl) (by first | exact ⟨rfl, rfl⟩ | (rcases hh with rfl | rfl <;> first | exact ⟨rfl, rfl⟩ | exact ⟨n12.symm, rfl⟩)) (by first | exact ⟨rfl, rfl⟩ | (rcases hh with rfl | rfl <;> first | exact ⟨rfl, rfl⟩ | exact ⟨n12.symm, rfl⟩)) hmv.2⟩
    · obtain ⟨ni, hni, rfl⟩ := l200 gp
      have hi := i200 hni
      have hz1 := k2_i gw0 gw1
      rcases Nat.eq_zero_or_pos nt with h0t | h0t
      · refine Or.inl ⟨_, _, _, (c_X12_counterT l D cB cI cJ ad 128 (pl ad cB cI cJ A V R L) hI 0 1 h (116 - h) 3 4 7 14 17 24 31 44 46 (V 0 8) (V 0 9) 47 (R 47) nt nc np nq (V 4 2) (V 47 2) (V 46 1) (V 46 2) (V 46 3) (V 46 4) (V 46 5) (V 46 6) (V 46 7) (V 46 8) ni (V h) (A (h + 2)) (A (h + 4)) (A (h + 6)) (A (h + 8)) (A 6) (A 49) x z (by omega) (by omega) (by omega) (by omega) (by omega) (by omega) (by omega) (by omega) (by omega) (by omega) (by omega) (by omega) (by omega) (by omega) (by omega) (by omega) (by omega) (pl_po r0) rfl rfl rfl rfl (pl_g r4) rfl rfl (ph_0 hh) (ph_5 hh) (ph_6 hh) (ph_1 hh) (ph_2 hh) (ph_3 hh) (ph_4 hh) (ph_7 hh) (ph_8 hh) n3 n15 n2 n14 n1 n13 n4 n16 (by omega) (by omega) (by omega) (by omega) (by omega) (by omega) (by omega) hni gw0 gw1 h0t), by decide, by decide, fun r1 M1 hp1 => ?_⟩
        obtain ⟨hr1, b0o, b1o, b2o, fr1⟩ := hp1
        obtain ⟨wb1_1, wb1_2, wb1_3, wb1_4, wb1_5, wb1_6, wb1_7, wb1_8, b0⟩ : ∃ x1 x2 x3 x4 x5 x6 x7 x8, M1 46 = .inr (10, trialF ad 46 47 x1 x2 x3 x4 x5 x6 x7 x8) := ⟨_, _, _, _, _, _, _, _, b0o⟩
        obtain ⟨wb2_0, wb2_1, b1⟩ : ∃ x0 x1, M1 47 = .inr (7, standF ad 47 x0 x1) := ⟨_, _, b1o⟩
        obtain ⟨fb3, b2⟩ : ∃ f, M1 49 = .inl (cI, 12, .inl f) := ⟨_, b2o⟩
        have hM1 : M1 = pl ad cB cI cJ (va_up A 49 fb3) (va_up (va_up V 46 (tvN [0, wb1_1, wb1_2, wb1_3, wb1_4, wb1_5, wb1_6, wb1_7, wb1_8])) 47 (tvN [0, 0, wb2_1])) (va_up R 47 wb2_0) L := by
          refine pl_eq (A := A) (V := V) (R := R) (L := L) [46, 47, 49] (fun q hq => fr1 q (by rintro rfl; exact absurd (by decide) hq) (by rintro rfl; exact absurd (by decide) hq) (by rintro rfl; exact absurd (by decide) hq)) (fun q hq => ⟨(va_up_ne _ _ (nm hq (by decide : (49 : Nat) ∈ _))), ((va_up_ne _ _ (nm hq (by decide : (47 : Nat) ∈ _))).trans (va_up_ne _ _ (nm hq (by decide : (46 : Nat) ∈ _)))), (va_up_ne _ _ (nm hq (by decide : (47 : Nat) ∈ _))), rfl⟩) (fun q hq => ?_)
          simp only [List.mem_cons, List.not_mem_nil, or_false] at hq
          rcases hq with rfl | rfl | rfl <;> first | exact b0 | exact b1 | exact b2
        refine ⟨(va_up A 49 fb3), (va_up (va_up V 46 (tvN [0, wb1_1, wb1_2, wb1_3, wb1_4, wb1_5, wb1_6, wb1_7, wb1_8])) 47 (tvN [0, 0, wb2_1])), (va_up R 47 wb2_0), L, hM1, rfl, fun g => ⟨_, _, _, (c_X13_counterT l D cB cI cJ ad 128 (pl ad cB cI cJ (va_up A 49 fb3) (va_up (va_up V 46 (tvN [0, wb1_1, wb1_2, wb1_3, wb1_4, wb1_5, wb1_6, wb1_7, wb1_8])) 47 (tvN [0, 0, wb2_1])) (va_up R 47 wb2_0) (va_up L 127 g)) hI 82 nt nc np nq (V 82) (A 85) (A 100) (A 111) ni x z (by omega) (by omega) (by omega) (by omega) rfl rfl rfl rfl n5 n13 n6 n14 n7 n15 n8 n16 hni h0t), by decide, by decide, fun r3 M3 hp3 => ?_⟩⟩
        obtain ⟨hrc, c0o, c1o, c2o, fr3⟩ := hp3
        obtain ⟨mvc, c2, hmv⟩ : ∃ f : Nat → Int32, M3 82 = .inr (12, modF ad 82 f) ∧ (f 2 = 0 ∧ ∀ j : Nat, j ≠ 2 → f j = V 82 j) := ⟨_, c2o, by unfold s_X13_counterT_2_1; rw [if_neg gw0, if_pos hz1, if_neg hi]; split <;> split <;> exact mv0 _⟩
        obtain ⟨fc1, c0, hf9⟩ : ∃ f : Nat → Int32, M3 100 = .inl (cI, 24, .inl f) ∧ ∀ t : Nat, t < nt → f t = A 100 t := ⟨_, c0o, fun t q => absurd q (by omega)⟩
        obtain ⟨fc2, c1⟩ : ∃ f, M3 111 = .inl (cI, 12, .inl f) := ⟨_, c1o⟩
        have hM3 : M3 = pl ad cB cI cJ (va_up (va_up (va_up A 49 fb3) 100 fc1) 111 fc2) (va_up (va_up (va_up V 46 (tvN [0, wb1_1, wb1_2, wb1_3, wb1_4, wb1_5, wb1_6, wb1_7, wb1_8])) 47 (tvN [0, 0, wb2_1])) 82 mvc) (va_up R 47 wb2_0) (va_up L 127 g) := by
          refine pl_eq (A := (va_up A 49 fb3)) (V := (va_up (va_up V 46 (tvN [0, wb1_1, wb1_2, wb1_3, wb1_4, wb1_5, wb1_6, wb1_7, wb1_8])) 47 (tvN [0, 0, wb2_1]))) (R := (va_up R 47 wb2_0)) (L := (va_up L 127 g)) [100, 111, 82] (fun q hq => fr3 q (by rintro rfl; exact absurd (by decide) hq) (by rintro rfl; exact absurd (by decide) hq) (by rintro rfl; exact absurd (by decide) hq)) (fun q hq => ⟨((va_up_ne _ _ (nm hq (by decide : (111 : Nat) ∈ _))).trans (va_up_ne _ _ (nm hq (by decide : (100 : Nat) ∈ _)))), (va_up_ne _ _ (nm hq (by decide : (82 : Nat) ∈ _))), rfl, rfl⟩) (fun q hq => ?_)
          simp only [List.mem_cons, List.not_mem_nil, or_false] at hq
          rcases hq with rfl | rfl | rfl <;> first | exact c0 | exact c1 | exact c2
        exact ⟨(va_up (va_up (va_up A 49 fb3) 100 fc1) 111 fc2), (va_up (va_up (va_up V 46 (tvN [0, wb1_1, wb1_2, wb1_3, wb1_4, wb1_5, wb1_6, wb1_7, wb1_8])) 47 (tvN [0, 0, wb2_1])) 82 mvc), (va_up R 47 wb2_0), (va_up L 127 g), hM3, rfl, hmv.1, fun _ => hrc.trans (Eq.trans (by unfold s_X13_counterT s_X12_counterT; rw [if_neg gw0, if_pos hz1, if_neg hi]; split <;> rfl) hr1.symm), INV_cg2 I (fun q hq h9 => ((va_up_ne _ _ (nm hq (by decide : (111 : Nat) ∈ _))).trans ((va_up_ne _ _ h9).trans (va_up_ne _ _ (nm hq (by decide : (49 : Nat) ∈ _)))))) (fun n9 e9 _ t9 q9 => hf9 t9 (by have := (nI_eq (by omega) (by omega)).mp (n7.symm.trans e9); omega)) (fun q hq => ((va_up_ne _ _ (nm hq (by decide : (82 : Nat) ∈ _))).trans ((va_up_ne _ _ (nm hq (by decide : (47 : Nat) ∈ _))).trans (va_up_ne _ _ (nm hq (by decide : (46 : Nat) ∈ _)))))) (fun q hq => (va_up_ne _ _ (nm hq (by decide : (47 : Nat) ∈ _)))) (by first | exact ⟨rfl, rfl⟩ | (rcases hh with rfl | rfl <;> first | exact ⟨rfl, rfl⟩ | exact ⟨n12.symm, rfl⟩)) (by first | exact ⟨rfl, rfl⟩ | (rcases hh with rfl | rfl <;> first | exact ⟨rfl, rfl⟩ | exact ⟨n12.symm, rfl⟩)) hmv.2⟩
      · rcases Nat.eq_zero_or_pos nc with h0c | h0c
        · refine Or.inl ⟨_, _, _, (c_X12_counterC l D cB cI cJ ad 128 (pl ad cB cI cJ A V R L) hI 0 1 h (116 - h) 3 4 7 14 17 24 31 44 46 (V 0 8) (V 0 9) 47 (R 47) nt nc np nq (V 4 2) (V 47 2) (V 46 1) (V 46 2) (V 46 3) (V 46 4) (V 46 5) (V 46 6) (V 46 7) (V 46 8) ni (V h) (A (h + 2)) (A (h + 4)) (A (h + 6)) (A (h + 8)) (A 6) (A 49) x z (by omega) (by omega) (by omega) (by omega) (by omega) (by omega) (by omega) (by omega) (by omega) (by omega) (by omega) (by omega) (by omega) (by omega) (by omega) (by omega) (by omega) (pl_po r0) rfl rfl rfl rfl (pl_g r4) rfl rfl (ph_0 hh) (ph_5 hh) (ph_6 hh) (ph_1 hh) (ph_2 hh) (ph_3 hh) (ph_4 hh) (ph_7 hh) (ph_8 hh) n3 n15 n2 n14 n1 n13 n4 n16 (by omega) (by omega) (by omega) (by omega) (by omega) (by omega) (by omega) hni gw0 gw1 h0c), by decide, by decide, fun r1 M1 hp1 => ?_⟩
          obtain ⟨hr1, b0o, b1o, b2o, fr1⟩ := hp1
          obtain ⟨wb1_1, wb1_2, wb1_3, wb1_4, wb1_5, wb1_6, wb1_7, wb1_8, b0⟩ : ∃ x1 x2 x3 x4 x5 x6 x7 x8, M1 46 = .inr (10, trialF ad 46 47 x1 x2 x3 x4 x5 x6 x7 x8) := ⟨_, _, _, _, _, _, _, _, b0o⟩
          obtain ⟨wb2_0, wb2_1, b1⟩ : ∃ x0 x1, M1 47 = .inr (7, standF ad 47 x0 x1) := ⟨_, _, b1o⟩
          obtain ⟨fb3, b2⟩ : ∃ f, M1 49 = .inl (cI, 12, .inl f) := ⟨_, b2o⟩
          have hM1 : M1 = pl ad cB cI cJ (va_up A 49 fb3) (va_up (va_up V 46 (tvN [0, wb1_1, wb1_2, wb1_3, wb1_4, wb1_5, wb1_6, wb1_7, wb1_8])) 47 (tvN [0, 0, wb2_1])) (va_up R 47 wb2_0) L := by
            refine pl_eq (A := A) (V := V) (R := R) (L := L) [46, 47, 49] (fun q hq => fr1 q (by rintro rfl; exact absurd (by decide) hq) (by rintro rfl; exact absurd (by decide) hq) (by rintro rfl; exact absurd (by decide) hq)) (fun q hq => ⟨(va_up_ne _ _ (nm hq (by decide : (49 : Nat) ∈ _))), ((va_up_ne _ _ (nm hq (by decide : (47 : Nat) ∈ _))).trans (va_up_ne _ _ (nm hq (by decide : (46 : Nat) ∈ _)))), (va_up_ne _ _ (nm hq (by decide : (47 : Nat) ∈ _))), rfl⟩) (fun q hq => ?_)
            simp only [List.mem_cons, List.not_mem_nil, or_false] at hq
            rcases hq with rfl | rfl | rfl <;> first | exact b0 | exact b1 | exact b2
          refine ⟨(va_up A 49 fb3), (va_up (va_up V 46 (tvN [0, wb1_1, wb1_2, wb1_3, wb1_4, wb1_5, wb1_6, wb1_7, wb1_8])) 47 (tvN [0, 0, wb2_1])), (va_up R 47 wb2_0), L, hM1, rfl, fun g => ⟨_, _, _, (c_X13_counterC l D cB cI cJ ad 128 (pl ad cB cI cJ (va_up A 49 fb3) (va_up (va_up V 46 (tvN [0, wb1_1, wb1_2, wb1_3, wb1_4, wb1_5, wb1_6, wb1_7, wb1_8])) 47 (tvN [0, 0, wb2_1])) (va_up R 47 wb2_0) (va_up L 127 g)) hI 82 nt nc np nq (V 82) (A 85) (A 100) (A 111) ni x z (by omega) (by omega) (by omega) (by omega) rfl rfl rfl rfl n5 n13 n6 n14 n7 n15 n8 n16 hni h0c), by decide, by decide, fun r3 M3 hp3 => ?_⟩⟩
          obtain ⟨hrc, c0o, c1o, c2o, fr3⟩ := hp3
          obtain ⟨mvc, c2, hmv⟩ : ∃ f : Nat → Int32, M3 82 = .inr (12, modF ad 82 f) ∧ (f 2 = 0 ∧ ∀ j : Nat, j ≠ 2 → f j = V 82 j) := ⟨_, c2o, by unfold s_X13_counterC_2_1; rw [if_neg gw0, if_pos hz1, if_neg hi]; split <;> (try split) <;> (try split) <;> exact mv0 _⟩
          obtain ⟨fc1, c0, hf9⟩ : ∃ f : Nat → Int32, M3 100 = .inl (cI, 24, .inl f) ∧ ∀ t : Nat, t < nt → f t = A 100 t := ⟨_, c0o, fun t q => by unfold s_X13_counterC_0_f; rw [if_neg gw0, if_pos hz1, if_neg hi]; split <;> (try split) <;> (try split) <;> exact ct_wasC t q⟩
          obtain ⟨fc2, c1⟩ : ∃ f, M3 111 = .inl (cI, 12, .inl f) := ⟨_, c1o⟩
          have hM3 : M3 = pl ad cB cI cJ (va_up (va_up (va_up A 49 fb3) 100 fc1) 111 fc2) (va_up (va_up (va_up V 46 (tvN [0, wb1_1, wb1_2, wb1_3, wb1_4, wb1_5, wb1_6, wb1_7, wb1_8])) 47 (tvN [0, 0, wb2_1])) 82 mvc) (va_up R 47 wb2_0) (va_up L 127 g) := by
            refine pl_eq (A := (va_up A 49 fb3)) (V := (va_up (va_up V 46 (tvN [0, wb1_1, wb1_2, wb1_3, wb1_4, wb1_5, wb1_6, wb1_7, wb1_8])) 47 (tvN [0, 0, wb2_1]))) (R := (va_up R 47 wb2_0)) (L := (va_up L 127 g)) [100, 111, 82] (fun q hq => fr3 q (by rintro rfl; exact absurd (by decide) hq) (by rintro rfl; exact absurd (by decide) hq) (by rintro rfl; exact absurd (by decide) hq)) (fun q hq => ⟨((va_up_ne _ _ (nm hq (by decide : (111 : Nat) ∈ _))).trans (va_up_ne _ _ (nm hq (by decide : (100 : Nat) ∈ _)))), (va_up_ne _ _ (nm hq (by decide : (82 : Nat) ∈ _))), rfl, rfl⟩) (fun q hq => ?_)
            simp only [List.mem_cons, List.not_mem_nil, or_false] at hq
            rcases hq with rfl | rfl | rfl <;> first | exact c0 | exact c1 | exact c2
          exact ⟨(va_up (va_up (va_up A 49 fb3) 100 fc1) 111 fc2), (va_up (va_up (va_up V 46 (tvN [0, wb1_1, wb1_2, wb1_3, wb1_4, wb1_5, wb1_6, wb1_7, wb1_8])) 47 (tvN [0, 0, wb2_1])) 82 mvc), (va_up R 47 wb2_0), (va_up L 127 g), hM3, rfl, hmv.1, fun _ => hrc.trans (Eq.trans (by unfold s_X13_counterC s_X12_counterC; rw [if_neg gw0, if_pos hz1, if_neg hi]; split <;> (try split) <;> (try split) <;> rfl) hr1.symm), INV_cg2 I (fun q hq h9 => ((va_up_ne _ _ (nm hq (by decide : (111 : Nat) ∈ _))).trans ((va_up_ne _ _ h9).trans (va_up_ne _ _ (nm hq (by decide : (49 : Nat) ∈ _)))))) (fun n9 e9 _ t9 q9 => hf9 t9 (by have := (nI_eq (by omega) (by omega)).mp (n7.symm.trans e9); omega)) (fun q hq => ((va_up_ne _ _ (nm hq (by decide : (82 : Nat) ∈ _))).trans ((va_up_ne _ _ (nm hq (by decide : (47 : Nat) ∈ _))).trans (va_up_ne _ _ (nm hq (by decide : (46 : Nat) ∈ _)))))) (fun q hq => (va_up_ne _ _ (nm hq (by decide : (47 : Nat) ∈ _)))) (by first | exact ⟨rfl, rfl⟩ | (rcases hh with rfl | rfl <;> first | exact ⟨rfl, rfl⟩ | exact ⟨n12.symm, rfl⟩)) (by first | exact ⟨rfl, rfl⟩ | (rcases hh with rfl | rfl <;> first | exact ⟨rfl, rfl⟩ | exact ⟨n12.symm, rfl⟩)) hmv.2⟩
        · have E9 := eq_ct (x := x) (op := V 4 2) n15 n14 n13 n16 h0t h0c hT hC hP hQ hL hz n5 n6 n7 n1 n2 n3 hoL ni
          refine Or.inl ⟨_, _, _, (c_X12_counter l D cB cI cJ ad 128 (pl ad cB cI cJ A V R L) hI 0 1 h (116 - h) 3 4 7 14 17 24 31 44 46 (V 0 8) (V 0 9) 47 (R 47) nt nc np nq (V 4 2) (V 47 2) (V 46 1) (V 46 2) (V 46 3) (V 46 4) (V 46 5) (V 46 6) (V 46 7) (V 46 8) ni (V h) (A (h + 2)) (A (h + 4)) (A (h + 6)) (A (h + 8)) (A 6) (A 49) x z (by omega) (by omega) (by omega) (by omega) (by omega) (by omega) (by omega) (by omega) (by omega) (by omega) (by omega) (by omega) (by omega) (by omega) (by omega) (by omega) (by omega) (pl_po r0) rfl rfl rfl rfl (pl_g r4) rfl rfl (ph_0 hh) (ph_5 hh) (ph_6 hh) (ph_1 hh) (ph_2 hh) (ph_3 hh) (ph_4 hh) (ph_7 hh) (ph_8 hh) n3 n15 n2 n14 n1 n13 n4 n16 (by omega) (by omega) (by omega) (by omega) (by omega) (by omega) (by omega) hni gw0 gw1 h0t h0c), by decide, by decide, fun r1 M1 hp1 => ?_⟩
          obtain ⟨hr1, b0o, b1o, b2o, fr1⟩ := hp1
          obtain ⟨wb1_1, wb1_2, wb1_3, wb1_4, wb1_5, wb1_6, wb1_7, wb1_8, b0⟩ : ∃ x1 x2 x3 x4 x5 x6 x7 x8, M1 46 = .inr (10, trialF ad 46 47 x1 x2 x3 x4 x5 x6 x7 x8) := ⟨_, _, _, _, _, _, _, _, b0o⟩
          obtain ⟨wb2_0, wb2_1, b1⟩ : ∃ x0 x1, M1 47 = .inr (7, standF ad 47 x0 x1) := ⟨_, _, b1o⟩
          obtain ⟨fb3, b2⟩ : ∃ f, M1 49 = .inl (cI, 12, .inl f) := ⟨_, b2o⟩
          have hM1 : M1 = pl ad cB cI cJ (va_up A 49 fb3) (va_up (va_up V 46 (tvN [0, wb1_1, wb1_2, wb1_3, wb1_4, wb1_5, wb1_6, wb1_7, wb1_8])) 47 (tvN [0, 0, wb2_1])) (va_up R 47 wb2_0) L := by
            refine pl_eq (A := A) (V := V) (R := R) (L := L) [46, 47, 49] (fun q hq => fr1 q (by rintro rfl; exact absurd (by decide) hq) (by rintro rfl; exact absurd (by decide) hq) (by rintro rfl; exact absurd (by decide) hq)) (fun q hq => ⟨(va_up_ne _ _ (nm hq (by decide : (49 : Nat) ∈ _))), ((va_up_ne _ _ (nm hq (by decide : (47 : Nat) ∈ _))).trans (va_up_ne _ _ (nm hq (by decide : (46 : Nat) ∈ _)))), (va_up_ne _ _ (nm hq (by decide : (47 : Nat) ∈ _))), rfl⟩) (fun q hq => ?_)
            simp only [List.mem_cons, List.not_mem_nil, or_false] at hq
            rcases hq with rfl | rfl | rfl <;> first | exact b0 | exact b1 | exact b2
          refine ⟨(va_up A 49 fb3), (va_up (va_up V 46 (tvN [0, wb1_1, wb1_2, wb1_3, wb1_4, wb1_5, wb1_6, wb1_7, wb1_8])) 47 (tvN [0, 0, wb2_1])), (va_up R 47 wb2_0), L, hM1, rfl, fun g => ⟨_, _, _, (c_X13_counter l D cB cI cJ ad 128 (pl ad cB cI cJ (va_up A 49 fb3) (va_up (va_up V 46 (tvN [0, wb1_1, wb1_2, wb1_3, wb1_4, wb1_5, wb1_6, wb1_7, wb1_8])) 47 (tvN [0, 0, wb2_1])) (va_up R 47 wb2_0) (va_up L 127 g)) hI 82 nt nc np nq (V 82) (A 85) (A 87) (A 88) (A 90) (A 91) (A 93) (A 94) (A 95) (A 97) (A 99) (A 100) (A 101) (A 102) (A 111) ni x z (by omega) (by omega) (by omega) (by omega) (by omega) (by omega) (by omega) (by omega) (by omega) (by omega) (by omega) (by omega) (by omega) (by omega) (by omega) rfl rfl rfl rfl rfl rfl rfl rfl rfl rfl rfl rfl rfl rfl rfl n5 n13 n6 n14 n7 n15 n8 n16 hni h0t h0c), by decide, by decide, fun r3 M3 hp3 => ?_⟩⟩
          obtain ⟨hrc, c0o, c1o, c2o, fr3⟩ := hp3
          obtain ⟨mvc, c2, hmv⟩ : ∃ f : Nat → Int32, M3 82 = .inr (12, modF ad 82 f) ∧ (f 2 = 0 ∧ ∀ j : Nat, j ≠ 2 → f j = V 82 j) := ⟨_, c2o, by unfold s_X13_counter_2_1; rw [if_neg gw0, if_pos hz1, if_neg hi]; split <;> exact mv0 _⟩
          obtain ⟨fc1, c0, hf9⟩ : ∃ f : Nat → Int32, M3 100 = .inl (cI, 24, .inl f) ∧ ∀ t : Nat, t < nt → f t = A 100 t := ⟨_, c0o, fun t q => by unfold s_X13_counter_0_f; rw [if_neg gw0, if_pos hz1, if_neg hi]; split <;> exact ct_was t q⟩
          obtain ⟨fc2, c1⟩ : ∃ f, M3 111 = .inl (cI, 12, .inl f) := ⟨_, c1o⟩
          have hM3 : M3 = pl ad cB cI cJ (va_up (va_up (va_up A 49 fb3) 100 fc1) 111 fc2) (va_up (va_up (va_up V 46 (tvN [0, wb1_1, wb1_2, wb1_3, wb1_4, wb1_5, wb1_6, wb1_7, wb1_8])) 47 (tvN [0, 0, wb2_1])) 82 mvc) (va_up R 47 wb2_0) (va_up L 127 g) := by
            refine pl_eq (A := (va_up A 49 fb3)) (V := (va_up (va_up V 46 (tvN [0, wb1_1, wb1_2, wb1_3, wb1_4, wb1_5, wb1_6, wb1_7, wb1_8])) 47 (tvN [0, 0, wb2_1]))) (R := (va_up R 47 wb2_0)) (L := (va_up L 127 g)) [100, 111, 82] (fun q hq => fr3 q (by rintro rfl; exact absurd (by decide) hq) (by rintro rfl; exact absurd (by decide) hq) (by rintro rfl; exact absurd (by decide) hq)) (fun q hq => ⟨((va_up_ne _ _ (nm hq (by decide : (111 : Nat) ∈ _))).trans (va_up_ne _ _ (nm hq (by decide : (100 : Nat) ∈ _)))), (va_up_ne _ _ (nm hq (by decide : (82 : Nat) ∈ _))), rfl, rfl⟩) (fun q hq => ?_)
            simp only [List.mem_cons, List.not_mem_nil, or_false] at hq
            rcases hq with rfl | rfl | rfl <;> first | exact c0 | exact c1 | exact c2
          exact ⟨(va_up (va_up (va_up A 49 fb3) 100 fc1) 111 fc2), (va_up (va_up (va_up V 46 (tvN [0, wb1_1, wb1_2, wb1_3, wb1_4, wb1_5, wb1_6, wb1_7, wb1_8])) 47 (tvN [0, 0, wb2_1])) 82 mvc), (va_up R 47 wb2_0), (va_up L 127 g), hM3, rfl, hmv.1, fun _ => hrc.trans (Eq.trans (by unfold s_X13_counter s_X12_counter; rw [if_neg gw0, if_pos hz1, if_neg hi, ← E9.2.2.1, ← E9.2.1]) hr1.symm), INV_cg2 I (fun q hq h9 => ((va_up_ne _ _ (nm hq (by decide : (111 : Nat) ∈ _))).trans ((va_up_ne _ _ h9).trans (va_up_ne _ _ (nm hq (by decide : (49 : Nat) ∈ _)))))) (fun n9 e9 _ t9 q9 => hf9 t9 (by have := (nI_eq (by omega) (by omega)).mp (n7.symm.trans e9); omega)) (fun q hq => ((va_up_ne _ _ (nm hq (by decide : (82 : Nat) ∈ _))).trans ((va_up_ne _ _ (nm hq (by decide : (47 : Nat) ∈ _))).trans (va_up_ne _ _ (nm hq (by decide : (46 : Nat) ∈ _)))))) (fun q hq => (va_up_ne _ _ (nm hq (by decide : (47 : Nat) ∈ _)))) (by first | exact ⟨rfl, rfl⟩ | (rcases hh with rfl | rfl <;> first | exact ⟨rfl, rfl⟩ | exact ⟨n12.symm, rfl⟩)) (by first | exact ⟨rfl, rfl⟩ | (rcases hh with rfl | rfl <;> first | exact ⟨rfl, rfl⟩ | exact ⟨n12.symm, rfl⟩)) hmv.2⟩
end
