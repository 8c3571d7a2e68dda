/-! what each call does to both sides: two, wear, fate, carrier, weigh, fits, best, counter, opened -/
noncomputable section
theorem wf_bo {nc np : Nat} {cf ow li ho co bo : Nat → Int32} (h : wfC nc np cf) (hC : rlC nc cf ow li ho co bo) : ∀ c : Nat, c < nc → bo c = 0 ∨ bo c = 1 := fun c hc => by
  obtain ⟨-, -, -, -, k, e, hk⟩ := h c hc
  obtain ⟨-, -, -, -, e2⟩ := hC c hc
  rw [e2, e]
  rcases Nat.lt_or_ge k 1 with q | q
  · left; rw [show k = 0 by omega]; rfl
  · right; rw [show k = 1 by omega]; rfl
theorem wf_ht {nt nc : Nat} {tf ki he un wi va ht : Nat → Int32} (h : wfT nt nc tf) (hT : rlT nt tf ki he un wi va ht) : ∀ t : Nat, t < nt → ∃ k : Nat, k ≤ 9 ∧ ht t = nI k := fun t q => by
  obtain ⟨-, -, -, -, k, e, hk, -⟩ := h t q
  obtain ⟨-, -, -, -, -, e2⟩ := hT t q
  exact ⟨k, hk, e2.trans e⟩
theorem wf_be {np : Nat} {pf own po be : Nat → Int32} (h : wfP np pf) (hP : rlP np pf own po be) {p : Nat} (hp : p < np) : ∃ k : Nat, k ≤ 30 ∧ be p = nI k := by
  obtain ⟨-, -, k, e, hk⟩ := h p hp
  obtain ⟨-, -, e2⟩ := hP p hp
  exact ⟨k, hk, e2.trans e⟩
theorem wf_un {nt nc : Nat} {tf ki he un wi va ht : Nat → Int32} (h : wfT nt nc tf) (hT : rlT nt tf ki he un wi va ht) : ∃ uN hN : Nat → Nat, (∀ t : Nat, t < nt → un t = nI (uN t) ∧ uN t ≤ 9) ∧ (∀ t : Nat, t < nt → he t = nI (hN t) ∧ hN t ≤ 60) ∧ ∀ t : Nat, t < nt → he t = nI (hN t) ∧ uN t ≤ hN t ∧ hN t ≤ 60 := by
  refine ⟨fun t => (un t).toNatClampNeg, fun t => (he t).toNatClampNeg, fun t q => ?_, fun t q => ?_, fun t q => ?_⟩
  all_goals
    obtain ⟨⟨w, u, e1, e2, h1, h2, h3⟩, -⟩ := h t q
    obtain ⟨-, e3, e4, -⟩ := hT t q
    simp only [e3, e4, e1, e2, nI_clamp (show w < 2 ^ 31 by omega), nI_clamp (show u < 2 ^ 31 by omega)]
    first | exact ⟨trivial, h3⟩ | exact ⟨trivial, h2⟩ | exact ⟨trivial, h1, h2⟩
/-- a number asked in a small range: both sides' tests -/
theorem isIn_k {y : Int32} {b : Int64} {k : Nat} (hb : b = (nI k).toInt64) (hk : k < 1000) (h0 : ¬ y < 0) (h1 : y < nI (k + 1)) : ¬ s_X13_isIn y.toInt64 0 b = 0 := by
  obtain ⟨j, hj, rfl⟩ := nI_of h0
  have hj2 : j < k + 1 := (nI_ltI hj (by omega)).mp h1
  unfold s_X13_isIn
  subst hb
  rw [if_neg (show ¬ (nI j).toInt64 < 0 from fun q => h0 ((Int64.lt_iff_toInt_lt.mp q |> fun z => by rw [Int32.toInt_toInt64] at z; exact Int32.lt_iff_toInt_lt.mpr z))), if_neg (show ¬ (nI k).toInt64 < (nI j).toInt64 from fun q => by
    have z := Int64.lt_iff_toInt_lt.mp q
    rw [Int32.toInt_toInt64, Int32.toInt_toInt64, nI_toInt (by omega), nI_toInt hj] at z
    omega)]
  decide
theorem isIn_o {y : Int32} {b : Int64} {k : Nat} (hb : b = (nI k).toInt64) (hk : k < 1000) (h : y < 0 ∨ nI (k + 1) ≤ y) : s_X13_isIn y.toInt64 0 b = 0 := by
  unfold s_X13_isIn
  subst hb
  rcases h with h | h
  · rw [if_pos (show y.toInt64 < 0 from Int64.lt_iff_toInt_lt.mpr (by rw [Int32.toInt_toInt64]; exact Int32.lt_iff_toInt_lt.mp h))]
  · have z := Int32.le_iff_toInt_le.mp h
    rw [nI_toInt (by omega)] at z
    by_cases c : y.toInt64 < 0
    · rw [if_pos c]
    · rw [if_neg c, if_pos (show (nI k).toInt64 < y.toInt64 from Int64.lt_iff_toInt_lt.mpr (by rw [Int32.toInt_toInt64, Int32.toInt_toInt64, nI_toInt (by omega)]; omega))]
theorem sm2 {y : Int32} (h0 : ¬ y < 0) (h1 : y < 3) : y = 0 ∨ y = 1 ∨ y = 2 := by
  obtain ⟨j, hj, rfl⟩ := nI_of h0
  have := (nI_ltI (b := 3) hj (by decide)).mp h1
  rcases (show j = 0 ∨ j = 1 ∨ j = 2 by omega) with rfl | rfl | rfl
  · exact Or.inl rfl
  · exact Or.inr (Or.inl rfl)
  · exact Or.inr (Or.inr rfl)
theorem sm4 {y : Int32} (h0 : ¬ y < 0) (h1 : y < 5) : y = 0 ∨ y = 1 ∨ y = 2 ∨ y = 3 ∨ y = 4 := by
  obtain ⟨j, hj, rfl⟩ := nI_of h0
  have := (nI_ltI (b := 5) hj (by decide)).mp h1
  rcases (show j = 0 ∨ j = 1 ∨ j = 2 ∨ j = 3 ∨ j = 4 by omega) with rfl | rfl | rfl | rfl | rfl
  · exact Or.inl rfl
  · exact Or.inr (Or.inl rfl)
  · exact Or.inr (Or.inr (Or.inl rfl))
  · exact Or.inr (Or.inr (Or.inr (Or.inl rfl)))
  · exact Or.inr (Or.inr (Or.inr (Or.inr rfl)))
set_option maxHeartbeats 4000000 in
set_option maxRecDepth 100000 in
theorem sem_two (l : Launch) (hlt : l.stackTraces = false) (D : va_G) (cB cI cJ : ClassId) (ad : Nat → Nat) (hI : ipI ad 128) {A V : Nat → Nat → Int32} {R : Nat → Nat} {L : Nat → Nat → Int64} (I : INV A V R) (x y : Int32) : CF l D cB cI cJ ad A V R L yX12_two wsX12_two [.ref (ad 0), .int x, .int y] yX13_two wsX13_two [.ref (ad 82), .int x, .int y] ∨ CX l D cB cI cJ ad A V R L yX12_two wsX12_two [.ref (ad 0), .int x, .int y] yX13_two wsX13_two [.ref (ad 82), .int x, .int y] "java/util/NoSuchElementException" 1 ∨ CX l D cB cI cJ ad A V R L yX12_two wsX12_two [.ref (ad 0), .int x, .int y] yX13_two wsX13_two [.ref (ad 82), .int x, .int y] "java/lang/IllegalArgumentException" 2 := by
  obtain ⟨h, nt, nc, np, nq, nl, na, nk, ln, ⟨hh, r0, r4, q33⟩, ⟨t1, t2, t3, t4, t5⟩, ⟨n1, n2, n3, n4, n5, n6, n7, n8, n9, n10, n11, n12, n13, n14, n15, n16, n17⟩, ⟨hT, hC, hP, hQ, hF, wP, wC, wT, wQ⟩, ⟨s1, hL, hoL⟩, ⟨l1, l2, l3, hA, hoA, l6, l7, l8, hS2, h3⟩, hMi, hFt, hCr⟩ := id I
  have hh2 : 116 - h = 50 ∨ 116 - h = 66 := by omega
  have hz := wf_hz wT hT
  have hW := wf_wt wT n15
  have hl9 := wf_li wC
  rcases rng (x := x) n2 (by omega) with ⟨cx, hcx, ex⟩ | ⟨gbx, nox⟩
  · obtain ⟨gx0, gx1⟩ := rng_in n2 (by omega) hcx ex
    rcases rng (x := y) n2 (by omega) with ⟨cy, hcy, ey⟩ | ⟨gby, noy⟩
    · obtain ⟨gy0, gy1⟩ := rng_in n2 (by omega) hcy ey
      by_cases gxy : x = y
      · refine Or.inr (Or.inr ⟨_, _, (x_X12_twoC l D cB cI cJ ad 128 (pl ad cB cI cJ A V R L) hlt 0 1 h (116 - h) 3 4 7 14 17 24 31 44 46 (V 0 8) (V 0 9) (V h) x y (by omega) (by omega) (pl_po r0) (ph_0 hh) gx0 gx1 gy0 gy1 gxy), by decide, by decide, ⟨_, _, _, (c_X13_two l D cB cI cJ ad 128 (pl ad cB cI cJ A V R L) hI 82 nt nc np nq (V 82) (A 85) (A 90) (A 91) (A 93) (A 94) (A 95) (A 97) (A 99) (A 100) (2 ^ nt) x y (by omega) (by omega) (by omega) (by omega) (by omega) (by omega) (by omega) (by omega) (by omega) (by omega) rfl rfl rfl rfl rfl rfl rfl rfl rfl rfl n5 n13 n6 n14 n7 n15 n8 n16 (by rw [n7]; exact shl_n nt n15) (Nat.pow_le_pow_right (by decide) n15)), by decide, by decide, fun r3 M3 hp3 => ?_⟩⟩)
        obtain ⟨hrc, c0, fr3⟩ := hp3
        obtain ⟨mvc, c0, hmv⟩ : ∃ f : Nat → Int32, M3 82 = .inr (12, modF ad 82 f) ∧ (f 2 = 2 ∧ ∀ j : Nat, j ≠ 2 → f j = V 82 j) := ⟨_, c0, by unfold s_X13_two_0_1; rw [if_neg (cs_in n6 (by omega) hcx ex), if_neg (cs_in n6 (by omega) hcy ey), if_pos gxy]; exact mv1 _ 2⟩
        have hM3 : M3 = pl ad cB cI cJ A (va_up V 82 mvc) R L := by
          refine pl_eq (A := A) (V := V) (R := R) (L := L) [82] (fun q hq => fr3 q (by rintro rfl; exact absurd (by decide) hq)) (fun q hq => ⟨rfl, (va_up_ne _ _ (nm hq (by decide : (82 : Nat) ∈ _))), rfl, rfl⟩) (fun q hq => ?_)
          simp only [List.mem_cons, List.not_mem_nil, or_false] at hq
          rcases hq with rfl <;> first | exact c0
        exact ⟨A, (va_up V 82 mvc), R, L, hM3, rfl, hmv.1, fun q => absurd q (by decide), INV_cg I (fun q hq => rfl) (fun q hq => (va_up_ne _ _ (nm hq (by decide : (82 : Nat) ∈ _)))) (fun q hq => rfl) (by first | exact ⟨rfl, rfl⟩ | (rcases hh with rfl | rfl <;> first | exact ⟨rfl, rfl⟩ | exact ⟨n12.symm, rfl⟩)) (by first | exact ⟨rfl, rfl⟩ | (rcases hh with rfl | rfl <;> first | exact ⟨rfl, rfl⟩ | exact ⟨n12.symm, rfl⟩)) hmv.2⟩
      · have E1 : s_X13_two nt (A 85) (A 90) (A 91) (A 93) (A 94) (A 95) (A 97) (A 99) (A 100) (2 ^ nt) x y = s_X12_two nt (A (h + 4)) (A (h + 6)) (A 6) x y := by
          unfold s_X13_two
          rw [if_neg (cs_in n6 (by omega) hcx ex), if_neg (cs_in n6 (by omega) hcy ey), if_neg gxy, ex, ey]
          exact eq_two n15 n14 hT hC hL (wf_bo wC hC) hcx hcy (fun q => gxy (by rw [ex, ey, q])) rfl
        refine Or.inl ⟨_, _, _, cR_W (c_X12_two l D cB cI cJ ad 128 (pl ad cB cI cJ A V R L) 0 1 h (116 - h) 3 4 7 14 17 24 31 44 46 (V 0 8) (V 0 9) nt (V 4 2) (V h) (A (h + 4)) (A (h + 6)) (A 6) x y (by omega) (by omega) (by omega) (by omega) (by omega) (by omega) (by omega) (by omega) (by omega) (by omega) (pl_po r0) rfl (pl_g r4) rfl rfl (ph_0 hh) (ph_5 hh) (ph_6 hh) (ph_3 hh) (ph_4 hh) n3 n15 gx0 gx1 gy0 gy1 gxy), by decide, by decide, fun r1 M1 hp1 => ?_⟩
        obtain ⟨hr1, rfl⟩ := hp1
        refine ⟨A, V, R, L, rfl, rfl, fun g => ⟨_, _, _, (c_X13_two l D cB cI cJ ad 128 (pl ad cB cI cJ A V R (va_up L 127 g)) hI 82 nt nc np nq (V 82) (A 85) (A 90) (A 91) (A 93) (A 94) (A 95) (A 97) (A 99) (A 100) (2 ^ nt) x y (by omega) (by omega) (by omega) (by omega) (by omega) (by omega) (by omega) (by omega) (by omega) (by omega) rfl rfl rfl rfl rfl rfl rfl rfl rfl rfl n5 n13 n6 n14 n7 n15 n8 n16 (by rw [n7]; exact shl_n nt n15) (Nat.pow_le_pow_right (by decide) n15)), by decide, by decide, fun r3 M3 hp3 => ?_⟩⟩
        obtain ⟨hrc, c0, fr3⟩ := hp3
        obtain ⟨mvc, c0, hmv⟩ : ∃ f : Nat → Int32, M3 82 = .inr (12, modF ad 82 f) ∧ (f 2 = 0 ∧ ∀ j : Nat, j ≠ 2 → f j = V 82 j) := ⟨_, c0, by unfold s_X13_two_0_1; rw [if_neg (cs_in n6 (by omega) hcx ex), if_neg (cs_in n6 (by omega) hcy ey), if_neg gxy]; exact mv0 _⟩
        have hM3 : M3 = pl ad cB cI cJ A (va_up V 82 mvc) R (va_up L 127 g) := by
          refine pl_eq (A := A) (V := V) (R := R) (L := (va_up L 127 g)) [82] (fun q hq => fr3 q (by rintro rfl; exact absurd (by decide) hq)) (fun q hq => ⟨rfl, (va_up_ne _ _ (nm hq (by decide : (82 : Nat) ∈ _))), rfl, rfl⟩) (fun q hq => ?_)
          simp only [List.mem_cons, List.not_mem_nil, or_false] at hq
          rcases hq with rfl <;> first | exact c0
        exact ⟨A, (va_up V 82 mvc), R, (va_up L 127 g), hM3, rfl, hmv.1, fun _ => hrc.trans (E1.trans hr1.symm), INV_cg I (fun q hq => rfl) (fun q hq => (va_up_ne _ _ (nm hq (by decide : (82 : Nat) ∈ _)))) (fun q hq => rfl) (by first | exact ⟨rfl, rfl⟩ | (rcases hh with rfl | rfl <;> first | exact ⟨rfl, rfl⟩ | exact ⟨n12.symm, rfl⟩)) (by first | exact ⟨rfl, rfl⟩ | (rcases hh with rfl | rfl <;> first | exact ⟨rfl, rfl⟩ | exact ⟨n12.symm, rfl⟩)) hmv.2⟩
    · refine Or.inr (Or.inl ⟨_, _, (x_X12_twoB l D cB cI cJ ad 128 (pl ad cB cI cJ A V R L) hlt 0 1 h (116 - h) 3 4 7 14 17 24 31 44 46 (V 0 8) (V 0 9) (V h) x y (by omega) (by omega) (pl_po r0) (ph_0 hh) gx0 gx1 gby), by decide, by decide, ⟨_, _, _, (c_X13_two l D cB cI cJ ad 128 (pl ad cB cI cJ A V R L) hI 82 nt nc np nq (V 82) (A 85) (A 90) (A 91) (A 93) (A 94) (A 95) (A 97) (A 99) (A 100) (2 ^ nt) x y (by omega) (by omega) (by omega) (by omega) (by omega) (by omega) (by omega) (by omega) (by omega) (by omega) rfl rfl rfl rfl rfl rfl rfl rfl rfl rfl n5 n13 n6 n14 n7 n15 n8 n16 (by rw [n7]; exact shl_n nt n15) (Nat.pow_le_pow_right (by decide) n15)), by decide, by decide, fun r3 M3 hp3 => ?_⟩⟩)
      obtain ⟨hrc, c0, fr3⟩ := hp3
      obtain ⟨mvc, c0, hmv⟩ : ∃ f : Nat → Int32, M3 82 = .inr (12, modF ad 82 f) ∧ (f 2 = 1 ∧ ∀ j : Nat, j ≠ 2 → f j = V 82 j) := ⟨_, c0, by unfold s_X13_two_0_1; rw [if_neg (cs_in n6 (by omega) hcx ex), if_pos (cs_out n6 (by omega) noy)]; exact mv1 _ 1⟩
      have hM3 : M3 = pl ad cB cI cJ A (va_up V 82 mvc) R L := by
        refine pl_eq (A := A) (V := V) (R := R) (L := L) [82] (fun q hq => fr3 q (by rintro rfl; exact absurd (by decide) hq)) (fun q hq => ⟨rfl, (va_up_ne _ _ (nm hq (by decide : (82 : Nat) ∈ _))), rfl, rfl⟩) (fun q hq => ?_)
        simp only [List.mem_cons, List.not_mem_nil, or_false] at hq
        rcases hq with rfl <;> first | exact c0
      exact ⟨A, (va_up V 82 mvc), R, L, hM3, rfl, hmv.1, fun q => absurd q (by decide), INV_cg I (fun q hq => rfl) (fun q hq => (va_up_ne _ _ (nm hq (by decide : (82 : Nat) ∈ _)))) (fun q hq => rfl) (by first | exact ⟨rfl, rfl⟩ | (rcases hh with rfl | rfl <;> first | exact ⟨rfl, rfl⟩ | exact ⟨n12.symm, rfl⟩)) (by first | exact ⟨rfl, rfl⟩ | (rcases hh with rfl | rfl <;> first | exact ⟨rfl, rfl⟩ | exact ⟨n12.symm, rfl⟩)) hmv.2⟩
  · refine Or.inr (Or.inl ⟨_, _, (x_X12_twoA l D cB cI cJ ad 128 (pl ad cB cI cJ A V R L) hlt 0 1 h (116 - h) 3 4 7 14 17 24 31 44 46 (V 0 8) (V 0 9) (V h) x y (by omega) (by omega) (pl_po r0) (ph_0 hh) gbx), by decide, by decide, ⟨_, _, _, (c_X13_two l D cB cI cJ ad 128 (pl ad cB cI cJ A V R L) hI 82 nt nc np nq (V 82) (A 85) (A 90) (A 91) (A 93) (A 94) (A 95) (A 97) (A 99) (A 100) (2 ^ nt) x y (by omega) (by omega) (by omega) (by omega) (by omega) (by omega) (by omega) (by omega) (by omega) (by omega) rfl rfl rfl rfl rfl rfl rfl rfl rfl rfl n5 n13 n6 n14 n7 n15 n8 n16 (by rw [n7]; exact shl_n nt n15) (Nat.pow_le_pow_right (by decide) n15)), by decide, by decide, fun r3 M3 hp3 => ?_⟩⟩)
    obtain ⟨hrc, c0, fr3⟩ := hp3
    obtain ⟨mvc, c0, hmv⟩ : ∃ f : Nat → Int32, M3 82 = .inr (12, modF ad 82 f) ∧ (f 2 = 1 ∧ ∀ j : Nat, j ≠ 2 → f j = V 82 j) := ⟨_, c0, by unfold s_X13_two_0_1; rw [if_pos (cs_out n6 (by omega) nox)]; exact mv1 _ 1⟩
    have hM3 : M3 = pl ad cB cI cJ A (va_up V 82 mvc) R L := by
      refine pl_eq (A := A) (V := V) (R := R) (L := L) [82] (fun q hq => fr3 q (by rintro rfl; exact absurd (by decide) hq)) (fun q hq => ⟨rfl, (va_up_ne _ _ (nm hq (by decide : (82 : Nat) ∈ _))), rfl, rfl⟩) (fun q hq => ?_)
      simp only [List.mem_cons, List.not_mem_nil, or_false] at hq
      rcases hq with rfl <;> first | exact c0
    exact ⟨A, (va_up V 82 mvc), R, L, hM3, rfl, hmv.1, fun q => absurd q (by decide), INV_cg I (fun q hq => rfl) (fun q hq => (va_up_ne _ _ (nm hq (by decide : (82 : Nat) ∈ _)))) (fun q hq => rfl) (by first | exact ⟨rfl, rfl⟩ | (rcases hh with rfl | rfl <;> first | exact ⟨rfl, rfl⟩ | exact ⟨n12.symm, rfl⟩)) (by first | exact ⟨rfl, rfl⟩ | (rcases hh with rfl | rfl <;> first | exact ⟨rfl, rfl⟩ | exact ⟨n12.symm, rfl⟩)) hmv.2⟩
set_option maxHeartbeats 4000000 in
set_option maxRecDepth 100000 in
theorem sem_wear (l : Launch) (hlt : l.stackTraces = false) (D : va_G) (cB cI cJ : ClassId) (ad : Nat → Nat) (hI : ipI ad 128) {A V : Nat → Nat → Int32} {R : Nat → Nat} {L : Nat → Nat → Int64} (I : INV A V R) (x y z : Int32) : CF l D cB cI cJ ad A V R L yX12_wear wsX12_wear [.ref (ad 0), .int x, .int y, .int z] yX13_wear wsX13_wear [.ref (ad 82), .int x, .int y, .int z] ∨ CX l D cB cI cJ ad A V R L yX12_wear wsX12_wear [.ref (ad 0), .int x, .int y, .int z] yX13_wear wsX13_wear [.ref (ad 82), .int x, .int y, .int z] "java/util/NoSuchElementException" 1 ∨ CX l D cB cI cJ ad A V R L yX12_wear wsX12_wear [.ref (ad 0), .int x, .int y, .int z] yX13_wear wsX13_wear [.ref (ad 82), .int x, .int y, .int z] "java/lang/IllegalArgumentException" 2 := by
  obtain ⟨h, nt, nc, np, nq, nl, na, nk, ln, ⟨hh, r0, r4, q33⟩, ⟨t1, t2, t3, t4, t5⟩, ⟨n1, n2, n3, n4, n5, n6, n7, n8, n9, n10, n11, n12, n13, n14, n15, n16, n17⟩, ⟨hT, hC, hP, hQ, hF, wP, wC, wT, wQ⟩, ⟨s1, hL, hoL⟩, ⟨l1, l2, l3, hA, hoA, l6, l7, l8, hS2, h3⟩, hMi, hFt, hCr⟩ := id I
  have hh2 : 116 - h = 50 ∨ 116 - h = 66 := by omega
  have hz := wf_hz wT hT
  have hW := wf_wt wT n15
  have hl9 := wf_li wC
  rcases rng (x := x) n1 (by omega) with ⟨cx, hcx, ex⟩ | ⟨gbx, nox⟩
  · obtain ⟨gx0, gx1⟩ := rng_in n1 (by omega) hcx ex
    by_cases gp : y < 0 ∨ 200 < y
    · have hi : s_X13_isIn y.toInt64 0 200 = 0 := isIn_o (k := 200) (by decide) (by decide) (gp.imp id (fun q => by rcases Int32.lt_or_le y 0 with q9 | q9 <;> first | exact absurd (Int32.lt_trans q q9) (by decide) | (obtain ⟨j, hj, rfl⟩ := nI_of (Int32.not_lt.mpr q9); exact nI_le (show 201 ≤ j from (nI_ltI (a := 200) (by decide) hj).mp q) hj)))
      refine Or.inr (Or.inr ⟨_, _, (x_X12_wearB l D cB cI cJ ad 128 (pl ad cB cI cJ A V R L) hlt 0 1 h (116 - h) 3 4 7 14 17 24 31 44 46 (V 0 8) (V 0 9) (V h) x y z (by omega) (by omega) (pl_po r0) (ph_0 hh) gx0 gx1 gp), by decide, by decide, ⟨_, _, _, (c_X13_wear l D cB cI cJ ad 128 (pl ad cB cI cJ A V R L) hI 82 nt nc np nq (V 82) (A 85) (A 88) (A 89) (A 94) (A 95) (A 97) (A 99) (A 100) (2 ^ nt) x y z (by omega) (by omega) (by omega) (by omega) (by omega) (by omega) (by omega) (by omega) (by omega) rfl rfl rfl rfl rfl rfl rfl rfl rfl n5 n13 n6 n14 n7 n15 n8 n16 (by rw [n7]; exact shl_n nt n15) (Nat.pow_le_pow_right (by decide) n15)), by decide, by decide, fun r3 M3 hp3 => ?_⟩⟩)
      obtain ⟨hrc, c0, fr3⟩ := hp3
      obtain ⟨mvc, c0, hmv⟩ : ∃ f : Nat → Int32, M3 82 = .inr (12, modF ad 82 f) ∧ (f 2 = 2 ∧ ∀ j : Nat, j ≠ 2 → f j = V 82 j) := ⟨_, c0, by unfold s_X13_wear_0_1; rw [if_neg (pe_in n5 (by omega) hcx ex), if_pos hi]; exact mv1 _ 2⟩
      have hM3 : M3 = pl ad cB cI cJ A (va_up V 82 mvc) R L := by
        refine pl_eq (A := A) (V := V) (R := R) (L := L) [82] (fun q hq => fr3 q (by rintro rfl; exact absurd (by decide) hq)) (fun q hq => ⟨rfl, (va_up_ne _ _ (nm hq (by decide : (82 : Nat) ∈ _))), rfl, rfl⟩) (fun q hq => ?_)
        simp only [List.mem_cons, List.not_mem_nil, or_false] at hq
        rcases hq with rfl <;> first | exact c0
      exact ⟨A, (va_up V 82 mvc), R, L, hM3, rfl, hmv.1, fun q => absurd q (by decide), INV_cg I (fun q hq => rfl) (fun q hq => (va_up_ne _ _ (nm hq (by decide : (82 : Nat) ∈ _)))) (fun q hq => rfl) (by first | exact ⟨rfl, rfl⟩ | (rcases hh with rfl | rfl <;> first | exact ⟨rfl, rfl⟩ | exact ⟨n12.symm, rfl⟩)) (by first | exact ⟨rfl, rfl⟩ | (rcases hh with rfl | rfl <;> first | exact ⟨rfl, rfl⟩ | exact ⟨n12.symm, rfl⟩)) hmv.2⟩
    · have gp0 : ¬ y < 0 := fun q => gp (Or.inl q)
      have gp1 : y ≤ 200 := Int32.not_lt.mp (fun q => gp (Or.inr q))
      have hi : ¬ s_X13_isIn y.toInt64 0 200 = 0 := isIn_k (k := 200) (by decide) (by decide) gp0 (Int32.lt_of_le_of_lt gp1 (by decide))
      have E1 : s_X13_wear nt (A 85) (A 88) (A 89) (A 94) (A 95) (A 97) (A 99) (A 100) (2 ^ nt) x y z = s_X12_wear nt nc (A (h + 2)) (A (h + 4)) (A (h + 6)) (A 6) x y z := by
        rw [ex]
        exact eq_wear n15 n14 n13 hT hC hP hL hz n5 n6 (wf_ht wT hT) (wf_be wP hP hcx) hcx rfl hi
      have E2 : s_X13_wear_0_1 nt (V 82) (A 85) (A 88) (A 89) (A 94) (A 95) (A 97) (A 99) (A 100) (2 ^ nt) x y z = upd (V 82) 2 0 := by
        unfold s_X13_wear_0_1
        rw [if_neg (pe_in n5 (by omega) hcx ex), if_neg hi]
        split
        · rfl
        · split <;> rfl
      refine Or.inl ⟨_, _, _, cR_W (c_X12_wear l D cB cI cJ ad 128 (pl ad cB cI cJ A V R L) 0 1 h (116 - h) 3 4 7 14 17 24 31 44 46 (V 0 8) (V 0 9) nt nc (V 31 1) (V 31 2) (V 31 6) (V 4 2) (V h) (A (h + 2)) (A (h + 4)) (A (h + 6)) (A 6) x y z (by omega) (by omega) (by omega) (by omega) (by omega) (by omega) (by omega) (by omega) (by omega) (by omega) (by omega) (by omega) (pl_po r0) rfl (pl_g r4) rfl rfl (ph_0 hh) (ph_5 hh) (ph_6 hh) (ph_3 hh) (ph_4 hh) (ph_1 hh) (ph_2 hh) n3 n15 n2 n14 gx0 gx1 gp0 gp1), by decide, by decide, fun r1 M1 hp1 => ?_⟩
      obtain ⟨hr1, rfl⟩ := hp1
      refine ⟨A, V, R, L, rfl, rfl, fun g => ⟨_, _, _, (c_X13_wear l D cB cI cJ ad 128 (pl ad cB cI cJ A V R (va_up L 127 g)) hI 82 nt nc np nq (V 82) (A 85) (A 88) (A 89) (A 94) (A 95) (A 97) (A 99) (A 100) (2 ^ nt) x y z (by omega) (by omega) (by omega) (by omega) (by omega) (by omega) (by omega) (by omega) (by omega) rfl rfl rfl rfl rfl rfl rfl rfl rfl n5 n13 n6 n14 n7 n15 n8 n16 (by rw [n7]; exact shl_n nt n15) (Nat.pow_le_pow_right (by decide) n15)), by decide, by decide, fun r3 M3 hp3 => ?_⟩⟩
      obtain ⟨hrc, c0, fr3⟩ := hp3
      obtain ⟨mvc, c0, hmv⟩ : ∃ f : Nat → Int32, M3 82 = .inr (12, modF ad 82 f) ∧ (f 2 = 0 ∧ ∀ j : Nat, j ≠ 2 → f j = V 82 j) := ⟨_, c0, by rw [E2]; exact mv0 _⟩
      have hM3 : M3 = pl ad cB cI cJ A (va_up V 82 mvc) R (va_up L 127 g) := by
        refine pl_eq (A := A) (V := V) (R := R) (L := (va_up L 127 g)) [82] (fun q hq => fr3 q (by rintro rfl; exact absurd (by decide) hq)) (fun q hq => ⟨rfl, (va_up_ne _ _ (nm hq (by decide : (82 : Nat) ∈ _))), rfl, rfl⟩) (fun q hq => ?_)
        simp only [List.mem_cons, List.not_mem_nil, or_false] at hq
        rcases hq with rfl <;> first | exact c0
      exact ⟨A, (va_up V 82 mvc), R, (va_up L 127 g), hM3, rfl, hmv.1, fun _ => hrc.trans (E1.trans hr1.symm), INV_cg I (fun q hq => rfl) (fun q hq => (va_up_ne _ _ (nm hq (by decide : (82 : Nat) ∈ _)))) (fun q hq => rfl) (by first | exact ⟨rfl, rfl⟩ | (rcases hh with rfl | rfl <;> first | exact ⟨rfl, rfl⟩ | exact ⟨n12.symm, rfl⟩)) (by first | exact ⟨rfl, rfl⟩ | (rcases hh with rfl | rfl <;> first | exact ⟨rfl, rfl⟩ | exact ⟨n12.symm, rfl⟩)) hmv.2⟩
  · refine Or.inr (Or.inl ⟨_, _, (x_X12_wearA l D cB cI cJ ad 128 (pl ad cB cI cJ A V R L) hlt 0 1 h (116 - h) 3 4 7 14 17 24 31 44 46 (V 0 8) (V 0 9) (V h) x y z (by omega) (by omega) (pl_po r0) (ph_0 hh) gbx), by decide, by decide, ⟨_, _, _, (c_X13_wear l D cB cI cJ ad 128 (pl ad cB cI cJ A V R L) hI 82 nt nc np nq (V 82) (A 85) (A 88) (A 89) (A 94) (A 95) (A 97) (A 99) (A 100) (2 ^ nt) x y z (by omega) (by omega) (by omega) (by omega) (by omega) (by omega) (by omega) (by omega) (by omega) rfl rfl rfl rfl rfl rfl rfl rfl rfl n5 n13 n6 n14 n7 n15 n8 n16 (by rw [n7]; exact shl_n nt n15) (Nat.pow_le_pow_right (by decide) n15)), by decide, by decide, fun r3 M3 hp3 => ?_⟩⟩)
    obtain ⟨hrc, c0, fr3⟩ := hp3
    obtain ⟨mvc, c0, hmv⟩ : ∃ f : Nat → Int32, M3 82 = .inr (12, modF ad 82 f) ∧ (f 2 = 1 ∧ ∀ j : Nat, j ≠ 2 → f j = V 82 j) := ⟨_, c0, by unfold s_X13_wear_0_1; rw [if_pos (pe_out n5 (by omega) nox)]; exact mv1 _ 1⟩
    have hM3 : M3 = pl ad cB cI cJ A (va_up V 82 mvc) R L := by
      refine pl_eq (A := A) (V := V) (R := R) (L := L) [82] (fun q hq => fr3 q (by rintro rfl; exact absurd (by decide) hq)) (fun q hq => ⟨rfl, (va_up_ne _ _ (nm hq (by decide : (82 : Nat) ∈ _))), rfl, rfl⟩) (fun q hq => ?_)
      simp only [List.mem_cons, List.not_mem_nil, or_false] at hq
      rcases hq with rfl <;> first | exact c0
    exact ⟨A, (va_up V 82 mvc), R, L, hM3, rfl, hmv.1, fun q => absurd q (by decide), INV_cg I (fun q hq => rfl) (fun q hq => (va_up_ne _ _ (nm hq (by decide : (82 : Nat) ∈ _)))) (fun q hq => rfl) (by first | exact ⟨rfl, rfl⟩ | (rcases hh with rfl | rfl <;> first | exact ⟨rfl, rfl⟩ | exact ⟨n12.symm, rfl⟩)) (by first | exact ⟨rfl, rfl⟩ | (rcases hh with rfl | rfl <;> first | exact ⟨rfl, rfl⟩ | exact ⟨n12.symm, rfl⟩)) hmv.2⟩
set_option maxHeartbeats 4000000 in
set_option maxRecDepth 100000 in
theorem sem_fate (l : Launch) (hlt : l.stackTraces = false) (D : va_G) (cB cI cJ : ClassId) (ad : Nat → Nat) (hI : ipI ad 128) {A V : Nat → Nat → Int32} {R : Nat → Nat} {L : Nat → Nat → Int64} (I : INV A V R) (x : Int32) : CF l D cB cI cJ ad A V R L yX12_fate wsX12_fate [.ref (ad 0), .int x] yX13_fate wsX13_fate [.ref (ad 82), .int x] ∨ CX l D cB cI cJ ad A V R L yX12_fate wsX12_fate [.ref (ad 0), .int x] yX13_fate wsX13_fate [.ref (ad 82), .int x] "java/util/NoSuchElementException" 1 := by
  obtain ⟨h, nt, nc, np, nq, nl, na, nk, ln, ⟨hh, r0, r4, q33⟩, ⟨t1, t2, t3, t4, t5⟩, ⟨n1, n2, n3, n4, n5, n6, n7, n8, n9, n10, n11, n12, n13, n14, n15, n16, n17⟩, ⟨hT, hC, hP, hQ, hF, wP, wC, wT, wQ⟩, ⟨s1, hL, hoL⟩, ⟨l1, l2, l3, hA, hoA, l6, l7, l8, hS2, h3⟩, hMi, hFt, hCr⟩ := id I
  have hh2 : 116 - h = 50 ∨ 116 - h = 66 := by omega
  have hz := wf_hz wT hT
  have hW := wf_wt wT n15
  have hl9 := wf_li wC
  rcases rng (x := x) n3 (by omega) with ⟨cx, hcx, ex⟩ | ⟨gbx, nox⟩
  · obtain ⟨gx0, gx1⟩ := rng_in n3 (by omega) hcx ex
    by_cases gf : s_X3_hasFateOf (V 31 1) (V 31 2) x = 0
    · have E2 : s_X13_fate_0_1 (V 82) (A 85) x = upd (upd (V 82) 2 0) 2 1 := by
        unfold s_X13_fate_0_1
        rw [if_neg (th_in n7 (by omega) hcx ex)]
        rcases hFt with ⟨f1, f2⟩ | ⟨f1, f2, f3, f4⟩
        · rw [if_pos f2]
        · rw [if_neg f2, f3]
          unfold s_X3_hasFateOf at gf
          rw [if_neg f1] at gf
          by_cases c : ((V 31 1 >>> (x &&& 31)) &&& 1) = 0
          · rw [if_neg (fun q => absurd (c.symm.trans q) (by decide))]
          · rw [if_neg c] at gf
            exact absurd gf (by decide)
      refine Or.inr ⟨_, _, (x_X12_fateB l D cB cI cJ ad 128 (pl ad cB cI cJ A V R L) hlt 0 1 h (116 - h) 3 4 7 14 17 24 31 44 46 (V 0 8) (V 0 9) (V 31 1) (V 31 2) (V 31 6) (V h) x (by omega) (by omega) (by omega) (pl_po r0) rfl (ph_0 hh) gx0 gx1 gf), by decide, by decide, ⟨_, _, _, (c_X13_fate l D cB cI cJ ad 128 (pl ad cB cI cJ A V R L) hI 82 nt nc np nq (V 82) (A 85) (A 112) x (by omega) (by omega) (by omega) rfl rfl rfl n5 n13 n6 n14 n7 n15 n8 n16), by decide, by decide, fun r3 M3 hp3 => ?_⟩⟩
      obtain ⟨hrc, c0, fr3⟩ := hp3
      obtain ⟨mvc, c0, hmv⟩ : ∃ f : Nat → Int32, M3 82 = .inr (12, modF ad 82 f) ∧ (f 2 = 1 ∧ ∀ j : Nat, j ≠ 2 → f j = V 82 j) := ⟨_, c0, by rw [E2]; exact mv1 _ 1⟩
      have hM3 : M3 = pl ad cB cI cJ A (va_up V 82 mvc) R L := by
        refine pl_eq (A := A) (V := V) (R := R) (L := L) [82] (fun q hq => fr3 q (by rintro rfl; exact absurd (by decide) hq)) (fun q hq => ⟨rfl, (va_up_ne _ _ (nm hq (by decide : (82 : Nat) ∈ _))), rfl, rfl⟩) (fun q hq => ?_)
        simp only [List.mem_cons, List.not_mem_nil, or_false] at hq
        rcases hq with rfl <;> first | exact c0
      exact ⟨A, (va_up V 82 mvc), R, L, hM3, rfl, hmv.1, fun q => absurd q (by decide), INV_cg I (fun q hq => rfl) (fun q hq => (va_up_ne _ _ (nm hq (by decide : (82 : Nat) ∈ _)))) (fun q hq => rfl) (by first | exact ⟨rfl, rfl⟩ | (rcases hh with rfl | rfl <;> first | exact ⟨rfl, rfl⟩ | exact ⟨n12.symm, rfl⟩)) (by first | exact ⟨rfl, rfl⟩ | (rcases hh with rfl | rfl <;> first | exact ⟨rfl, rfl⟩ | exact ⟨n12.symm, rfl⟩)) hmv.2⟩
    · have E0 : (¬ V 82 45 = -1) ∧ ((V 82 46 >>> (x &&& 31)) &&& 1) = 1 ∧ ∀ t : Nat, t < nt → A 112 t = A 33 t := by
        rcases hFt with ⟨f1, f2⟩ | ⟨f1, f2, f3, f4⟩
        · exact absurd (by unfold s_X3_hasFateOf; rw [if_pos f1]) gf
        · refine ⟨f2, ?_, f4⟩
          rw [f3]
          refine (b01 _).resolve_left (fun q => gf ?_)
          unfold s_X3_hasFateOf
          rw [if_neg f1, if_pos q]
      have E2 : s_X13_fate_0_1 (V 82) (A 85) x = upd (V 82) 2 0 := by
        unfold s_X13_fate_0_1
        rw [if_neg (th_in n7 (by omega) hcx ex), if_neg E0.1, if_pos E0.2.1]
      have E1 : s_X13_fate (V 82) (A 85) (A 112) x = s_X12_fate (A 33) x := by
        unfold s_X13_fate s_X12_fate
        rw [if_neg (th_in n7 (by omega) hcx ex), if_neg E0.1, if_pos E0.2.1, ex, nI_clamp (by omega), E0.2.2 cx hcx, tat_in (by omega) (by decide)]
      refine Or.inl ⟨_, _, _, cR_W (c_X12_fate l D cB cI cJ ad 128 (pl ad cB cI cJ A V R L) 0 1 h (116 - h) 3 4 7 14 17 24 31 44 46 (V 0 8) (V 0 9) (V 31 1) (V 31 2) (V 31 6) (V h) (A 33) x (by omega) (by omega) (by omega) (by omega) (by omega) (pl_po r0) rfl (ph_0 hh) rfl rfl gx0 gx1 gf), by decide, by decide, fun r1 M1 hp1 => ?_⟩
      obtain ⟨hr1, rfl⟩ := hp1
      refine ⟨A, V, R, L, rfl, rfl, fun g => ⟨_, _, _, (c_X13_fate l D cB cI cJ ad 128 (pl ad cB cI cJ A V R (va_up L 127 g)) hI 82 nt nc np nq (V 82) (A 85) (A 112) x (by omega) (by omega) (by omega) rfl rfl rfl n5 n13 n6 n14 n7 n15 n8 n16), by decide, by decide, fun r3 M3 hp3 => ?_⟩⟩
      obtain ⟨hrc, c0, fr3⟩ := hp3
      obtain ⟨mvc, c0, hmv⟩ : ∃ f : Nat → Int32, M3 82 = .inr (12, modF ad 82 f) ∧ (f 2 = 0 ∧ ∀ j : Nat, j ≠ 2 → f j = V 82 j) := ⟨_, c0, by rw [E2]; exact mv0 _⟩
      have hM3 : M3 = pl ad cB cI cJ A (va_up V 82 mvc) R (va_up L 127 g) := by
        refine pl_eq (A := A) (V := V) (R := R) (L := (va_up L 127 g)) [82] (fun q hq => fr3 q (by rintro rfl; exact absurd (by decide) hq)) (fun q hq => ⟨rfl, (va_up_ne _ _ (nm hq (by decide : (82 : Nat) ∈ _))), rfl, rfl⟩) (fun q hq => ?_)
        simp only [List.mem_cons, List.not_mem_nil, or_false] at hq
        rcases hq with rfl <;> first | exact c0
      exact ⟨A, (va_up V 82 mvc), R, (va_up L 127 g), hM3, rfl, hmv.1, fun _ => hrc.trans (E1.trans hr1.symm), INV_cg I (fun q hq => rfl) (fun q hq => (va_up_ne _ _ (nm hq (by decide : (82 : Nat) ∈ _)))) (fun q hq => rfl) (by first | exact ⟨rfl, rfl⟩ | (rcases hh with rfl | rfl <;> first | exact ⟨rfl, rfl⟩ | exact ⟨n12.symm, rfl⟩)) (by first | exact ⟨rfl, rfl⟩ | (rcases hh with rfl | rfl <;> first | exact ⟨rfl, rfl⟩ | exact ⟨n12.symm, rfl⟩)) hmv.2⟩
  · refine Or.inr ⟨_, _, (x_X12_fateA l D cB cI cJ ad 128 (pl ad cB cI cJ A V R L) hlt 0 1 h (116 - h) 3 4 7 14 17 24 31 44 46 (V 0 8) (V 0 9) (V h) x (by omega) (by omega) (pl_po r0) (ph_0 hh) gbx), by decide, by decide, ⟨_, _, _, (c_X13_fate l D cB cI cJ ad 128 (pl ad cB cI cJ A V R L) hI 82 nt nc np nq (V 82) (A 85) (A 112) x (by omega) (by omega) (by omega) rfl rfl rfl n5 n13 n6 n14 n7 n15 n8 n16), by decide, by decide, fun r3 M3 hp3 => ?_⟩⟩
    obtain ⟨hrc, c0, fr3⟩ := hp3
    obtain ⟨mvc, c0, hmv⟩ : ∃ f : Nat → Int32, M3 82 = .inr (12, modF ad 82 f) ∧ (f 2 = 1 ∧ ∀ j : Nat, j ≠ 2 → f j = V 82 j) := ⟨_, c0, by unfold s_X13_fate_0_1; rw [if_pos (th_out n7 (by omega) nox)]; exact mv1 _ 1⟩
    have hM3 : M3 = pl ad cB cI cJ A (va_up V 82 mvc) R L := by
      refine pl_eq (A := A) (V := V) (R := R) (L := L) [82] (fun q hq => fr3 q (by rintro rfl; exact absurd (by decide) hq)) (fun q hq => ⟨rfl, (va_up_ne _ _ (nm hq (by decide : (82 : Nat) ∈ _))), rfl, rfl⟩) (fun q hq => ?_)
      simp only [List.mem_cons, List.not_mem_nil, or_false] at hq
      rcases hq with rfl <;> first | exact c0
    exact ⟨A, (va_up V 82 mvc), R, L, hM3, rfl, hmv.1, fun q => absurd q (by decide), INV_cg I (fun q hq => rfl) (fun q hq => (va_up_ne _ _ (nm hq (by decide : (82 : Nat) ∈ _)))) (fun q hq => rfl) (by first | exact ⟨rfl, rfl⟩ | (rcases hh with rfl | rfl <;> first | exact ⟨rfl, rfl⟩ | exact ⟨n12.symm, rfl⟩)) (by first | exact ⟨rfl, rfl⟩ | (rcases hh with rfl | rfl <;> first | exact ⟨rfl, rfl⟩ | exact ⟨n12.symm, rfl⟩)) hmv.2⟩
set_option maxHeartbeats 4000000 in
set_option maxRecDepth 100000 in
theorem sem_carrier (l : Launch) (hlt : l.stackTraces = false) (D : va_G) (cB cI cJ : ClassId) (ad : Nat → Nat) (hI : ipI ad 128) {A V : Nat → Nat → Int32} {R : Nat → Nat} {L : Nat → Nat → Int64} (I : INV A V R) (x : Int32) : CF l D cB cI cJ ad A V R L yX12_carrier wsX12_carrier [.ref (ad 0), .int x] yX13_carrier wsX13_carrier [.ref (ad 82), .int x] ∨ CX l D cB cI cJ ad A V R L yX12_carrier wsX12_carrier [.ref (ad 0), .int x] yX13_carrier wsX13_carrier [.ref (ad 82), .int x] "java/util/NoSuchElementException" 1 := by
  obtain ⟨h, nt, nc, np, nq, nl, na, nk, ln, ⟨hh, r0, r4, q33⟩, ⟨t1, t2, t3, t4, t5⟩, ⟨n1, n2, n3, n4, n5, n6, n7, n8, n9, n10, n11, n12, n13, n14, n15, n16, n17⟩, ⟨hT, hC, hP, hQ, hF, wP, wC, wT, wQ⟩, ⟨s1, hL, hoL⟩, ⟨l1, l2, l3, hA, hoA, l6, l7, l8, hS2, h3⟩, hMi, hFt, hCr⟩ := id I
  have hh2 : 116 - h = 50 ∨ 116 - h = 66 := by omega
  have hz := wf_hz wT hT
  have hW := wf_wt wT n15
  have hl9 := wf_li wC
  obtain ⟨hc1, hc2⟩ := hCr
  rcases rng (x := x) n2 (by omega) with ⟨cx, hcx, ex⟩ | ⟨gbx, nox⟩
  · obtain ⟨gx0, gx1⟩ := rng_in n2 (by omega) hcx ex
    by_cases gck : V 31 6 = 0
    · refine Or.inr ⟨_, _, (x_X12_carrierB l D cB cI cJ ad 128 (pl ad cB cI cJ A V R L) hlt 0 1 h (116 - h) 3 4 7 14 17 24 31 44 46 (V 0 8) (V 0 9) (V 31 1) (V 31 2) (V 31 6) (V h) x (by omega) (by omega) (by omega) (pl_po r0) rfl (ph_0 hh) gx0 gx1 gck), by decide, by decide, ⟨_, _, _, (c_X13_carrier l D cB cI cJ ad 128 (pl ad cB cI cJ A V R L) hI 82 nt nc np nq (V 82) (A 85) (A 116) x (by omega) (by omega) (by omega) rfl rfl rfl n5 n13 n6 n14 n7 n15 n8 n16), by decide, by decide, fun r3 M3 hp3 => ?_⟩⟩
      obtain ⟨hrc, c0, fr3⟩ := hp3
      obtain ⟨mvc, c0, hmv⟩ : ∃ f : Nat → Int32, M3 82 = .inr (12, modF ad 82 f) ∧ (f 2 = 1 ∧ ∀ j : Nat, j ≠ 2 → f j = V 82 j) := ⟨_, c0, by unfold s_X13_carrier_0_1; rw [if_neg (cs_in n6 (by omega) hcx ex), if_pos (hc1.trans gck)]; exact mv1 _ 1⟩
      have hM3 : M3 = pl ad cB cI cJ A (va_up V 82 mvc) R L := by
        refine pl_eq (A := A) (V := V) (R := R) (L := L) [82] (fun q hq => fr3 q (by rintro rfl; exact absurd (by decide) hq)) (fun q hq => ⟨rfl, (va_up_ne _ _ (nm hq (by decide : (82 : Nat) ∈ _))), rfl, rfl⟩) (fun q hq => ?_)
        simp only [List.mem_cons, List.not_mem_nil, or_false] at hq
        rcases hq with rfl <;> first | exact c0
      exact ⟨A, (va_up V 82 mvc), R, L, hM3, rfl, hmv.1, fun q => absurd q (by decide), INV_cg I (fun q hq => rfl) (fun q hq => (va_up_ne _ _ (nm hq (by decide : (82 : Nat) ∈ _)))) (fun q hq => rfl) (by first | exact ⟨rfl, rfl⟩ | (rcases hh with rfl | rfl <;> first | exact ⟨rfl, rfl⟩ | exact ⟨n12.symm, rfl⟩)) (by first | exact ⟨rfl, rfl⟩ | (rcases hh with rfl | rfl <;> first | exact ⟨rfl, rfl⟩ | exact ⟨n12.symm, rfl⟩)) hmv.2⟩
    · have E1 : s_X13_carrier (V 82) (A 85) (A 116) x = s_X12_carrier (A 39) x := by
        unfold s_X13_carrier s_X12_carrier
        rw [if_neg (cs_in n6 (by omega) hcx ex), if_neg (by rw [hc1]; exact gck), ex, nI_clamp (by omega), (hc2.resolve_left gck) cx hcx, tat_in (by omega) (by decide)]
      refine Or.inl ⟨_, _, _, cR_W (c_X12_carrier l D cB cI cJ ad 128 (pl ad cB cI cJ A V R L) 0 1 h (116 - h) 3 4 7 14 17 24 31 44 46 (V 0 8) (V 0 9) (V 31 1) (V 31 2) (V 31 6) (V h) (A 39) x (by omega) (by omega) (by omega) (by omega) (by omega) (pl_po r0) rfl (ph_0 hh) rfl rfl gx0 gx1 gck), by decide, by decide, fun r1 M1 hp1 => ?_⟩
      obtain ⟨hr1, rfl⟩ := hp1
      refine ⟨A, V, R, L, rfl, rfl, fun g => ⟨_, _, _, (c_X13_carrier l D cB cI cJ ad 128 (pl ad cB cI cJ A V R (va_up L 127 g)) hI 82 nt nc np nq (V 82) (A 85) (A 116) x (by omega) (by omega) (by omega) rfl rfl rfl n5 n13 n6 n14 n7 n15 n8 n16), by decide, by decide, fun r3 M3 hp3 => ?_⟩⟩
      obtain ⟨hrc, c0, fr3⟩ := hp3
      obtain ⟨mvc, c0, hmv⟩ : ∃ f : Nat → Int32, M3 82 = .inr (12, modF ad 82 f) ∧ (f 2 = 0 ∧ ∀ j : Nat, j ≠ 2 → f j = V 82 j) := ⟨_, c0, by unfold s_X13_carrier_0_1; rw [if_neg (cs_in n6 (by omega) hcx ex), if_neg (by rw [hc1]; exact gck)]; exact mv0 _⟩
      have hM3 : M3 = pl ad cB cI cJ A (va_up V 82 mvc) R (va_up L 127 g) := by
        refine pl_eq (A := A) (V := V) (R := R) (L := (va_up L 127 g)) [82] (fun q hq => fr3 q (by rintro rfl; exact absurd (by decide) hq)) (fun q hq => ⟨rfl, (va_up_ne _ _ (nm hq (by decide : (82 : Nat) ∈ _))), rfl, rfl⟩) (fun q hq => ?_)
        simp only [List.mem_cons, List.not_mem_nil, or_false] at hq
        rcases hq with rfl <;> first | exact c0
      exact ⟨A, (va_up V 82 mvc), R, (va_up L 127 g), hM3, rfl, hmv.1, fun _ => hrc.trans (E1.trans hr1.symm), INV_cg I (fun q hq => rfl) (fun q hq => (va_up_ne _ _ (nm hq (by decide : (82 : Nat) ∈ _)))) (fun q hq => rfl) (by first | exact ⟨rfl, rfl⟩ | (rcases hh with rfl | rfl <;> first | exact ⟨rfl, rfl⟩ | exact ⟨n12.symm, rfl⟩)) (by first | exact ⟨rfl, rfl⟩ | (rcases hh with rfl | rfl <;> first | exact ⟨rfl, rfl⟩ | exact ⟨n12.symm, rfl⟩)) hmv.2⟩
  · refine Or.inr ⟨_, _, (x_X12_carrierA l D cB cI cJ ad 128 (pl ad cB cI cJ A V R L) hlt 0 1 h (116 - h) 3 4 7 14 17 24 31 44 46 (V 0 8) (V 0 9) (V h) x (by omega) (by omega) (pl_po r0) (ph_0 hh) gbx), by decide, by decide, ⟨_, _, _, (c_X13_carrier l D cB cI cJ ad 128 (pl ad cB cI cJ A V R L) hI 82 nt nc np nq (V 82) (A 85) (A 116) x (by omega) (by omega) (by omega) rfl rfl rfl n5 n13 n6 n14 n7 n15 n8 n16), by decide, by decide, fun r3 M3 hp3 => ?_⟩⟩
    obtain ⟨hrc, c0, fr3⟩ := hp3
    obtain ⟨mvc, c0, hmv⟩ : ∃ f : Nat → Int32, M3 82 = .inr (12, modF ad 82 f) ∧ (f 2 = 1 ∧ ∀ j : Nat, j ≠ 2 → f j = V 82 j) := ⟨_, c0, by unfold s_X13_carrier_0_1; rw [if_pos (cs_out n6 (by omega) nox)]; exact mv1 _ 1⟩
    have hM3 : M3 = pl ad cB cI cJ A (va_up V 82 mvc) R L := by
      refine pl_eq (A := A) (V := V) (R := R) (L := L) [82] (fun q hq => fr3 q (by rintro rfl; exact absurd (by decide) hq)) (fun q hq => ⟨rfl, (va_up_ne _ _ (nm hq (by decide : (82 : Nat) ∈ _))), rfl, rfl⟩) (fun q hq => ?_)
      simp only [List.mem_cons, List.not_mem_nil, or_false] at hq
      rcases hq with rfl <;> first | exact c0
    exact ⟨A, (va_up V 82 mvc), R, L, hM3, rfl, hmv.1, fun q => absurd q (by decide), INV_cg I (fun q hq => rfl) (fun q hq => (va_up_ne _ _ (nm hq (by decide : (82 : Nat) ∈ _)))) (fun q hq => rfl) (by first | exact ⟨rfl, rfl⟩ | (rcases hh with rfl | rfl <;> first | exact ⟨rfl, rfl⟩ | exact ⟨n12.symm, rfl⟩)) (by first | exact ⟨rfl, rfl⟩ | (rcases hh with rfl | rfl <;> first | exact ⟨rfl, rfl⟩ | exact ⟨n12.symm, rfl⟩)) hmv.2⟩
end
