/-! what each call does to both sides -/
noncomputable section
def tv2 (a b c : Int32) : Nat → Int32 := fun k => if k = 1 then a else if k = 2 then b else c
def tvN (q : List Int32) : Nat → Int32 := fun k => q.getD k 0
def tvL (a b : Int64) : Nat → Int64 := fun k => if k = 0 then a else b
theorem nm {q k : Nat} {ks : List Nat} (hq : q ∉ ks) (hk : k ∈ ks) : q ≠ k := fun e => hq (by rw [e]; exact hk)
theorem mv0 (v : Nat → Int32) : (upd v 2 0) 2 = 0 ∧ ∀ j : Nat, j ≠ 2 → (upd v 2 0) j = v j := ⟨rfl, fun _ h => if_neg h⟩
theorem mv1 (v : Nat → Int32) (k : Int32) : (upd (upd v 2 0) 2 k) 2 = k ∧ ∀ j : Nat, j ≠ 2 → (upd (upd v 2 0) 2 k) j = v j := ⟨rfl, fun j h => (show upd (upd v 2 0) 2 k j = upd v 2 0 j from if_neg h).trans (if_neg h)⟩
theorem mvk (v : Nat → Int32) (k : Int32) : (upd v 2 k) 2 = k ∧ ∀ j : Nat, j ≠ 2 → (upd v 2 k) j = v j := ⟨rfl, fun _ h => if_neg h⟩
theorem cR_W {l : Launch} {D : va_G} {cB cI cJ : ClassId} {ad : Nat → Nat} {n : Nat} {M : Nat → va_E} {y : MethodName} {ws : List Cond} {fr lo : Nat} {As : List Value} {r : Int32} (hM : cR l D cB cI cJ ad n M y ws fr lo As r) : cWi l D cB cI cJ ad n M y ws fr lo As (fun r' M' => r' = r ∧ M' = M) := by
  intro p e ha hc hk s m args below hf happ hP hK
  obtain ⟨n9, oc, h1, h2, h3, ⟨r9, e1, e2, e3⟩, L9, h5, h6⟩ := hM p e ha hc hk s m args below hf happ hP hK
  refine ⟨n9, oc, h1, h2, h3, ⟨⟨r9, M, e1, ⟨e2, rfl⟩, ?_⟩, ?_⟩, L9, h5, fun q hq => (h6 q hq).elim⟩
  · show va_P D vwCl (ip ad n M) _
    rw [e3]
    exact hP.2.1
  · exact ⟨by rw [e3]; exact Nat.le_refl _, fun q _ _ => by rw [e3]⟩
abbrev RF (l : Launch) (D : va_G) (cB cI cJ : ClassId) (ad : Nat → Nat) (A V : Nat → Nat → Int32) (R : Nat → Nat) (L : Nat → Nat → Int64) (y3 : MethodName) (ws3 : List Cond) (As3 : List Value) (kc r1 : Int32) : Prop :=
  ∃ (fr lo : Nat) (post : Int32 → (Nat → va_E) → Prop), cWi l D cB cI cJ ad 128 (pl ad cB cI cJ A V R L) y3 ws3 fr lo As3 post ∧ fr ≤ 60 ∧ lo ≤ 2000 ∧ ∀ (r : Int32) (M : Nat → va_E), post r M → ∃ (A' V' : Nat → Nat → Int32) (R' : Nat → Nat) (L' : Nat → Nat → Int64), M = pl ad cB cI cJ A' V' R' L' ∧ L' 127 = L 127 ∧ V' 82 2 = kc ∧ (kc = 0 → r = r1) ∧ INV A' V' R'
abbrev CF (l : Launch) (D : va_G) (cB cI cJ : ClassId) (ad : Nat → Nat) (A V : Nat → Nat → Int32) (R : Nat → Nat) (L : Nat → Nat → Int64) (y1 : MethodName) (ws1 : List Cond) (As1 : List Value) (y3 : MethodName) (ws3 : List Cond) (As3 : List Value) : Prop :=
  ∃ (fr lo : Nat) (post : Int32 → (Nat → va_E) → Prop), cWi l D cB cI cJ ad 128 (pl ad cB cI cJ A V R L) y1 ws1 fr lo As1 post ∧ fr ≤ 60 ∧ lo ≤ 1300 ∧ ∀ (r : Int32) (M : Nat → va_E), post r M → ∃ (A' V' : Nat → Nat → Int32) (R' : Nat → Nat) (L' : Nat → Nat → Int64), M = pl ad cB cI cJ A' V' R' L' ∧ L' 127 = L 127 ∧ ∀ g : Nat → Int64, RF l D cB cI cJ ad A' V' R' (va_up L' 127 g) y3 ws3 As3 0 r
abbrev CX (l : Launch) (D : va_G) (cB cI cJ : ClassId) (ad : Nat → Nat) (A V : Nat → Nat → Int32) (R : Nat → Nat) (L : Nat → Nat → Int64) (y1 : MethodName) (ws1 : List Cond) (As1 : List Value) (y3 : MethodName) (ws3 : List Cond) (As3 : List Value) (E0 : String) (kc : Int32) : Prop :=
  ∃ fr lo : Nat, cX l D cB cI cJ ad 128 (pl ad cB cI cJ A V R L) y1 ws1 fr lo As1 E0 ∧ fr ≤ 60 ∧ lo ≤ 1300 ∧ RF l D cB cI cJ ad A V R L y3 ws3 As3 kc 0
theorem rg2 {y : Int32} {k : Int32} (h : ¬ (y < 0 ∨ k ≤ y)) : ¬ y < 0 ∧ y < k := ⟨fun q => h (Or.inl q), Int32.not_le.mp (fun q => h (Or.inr q))⟩
set_option maxHeartbeats 4000000 in
set_option maxRecDepth 100000 in
theorem sem_fault (l : Launch) (hlt : l.stackTraces = false) (D : va_G) (cB cI cJ : ClassId) (ad : Nat → Nat) (hI : ipI ad 128) {A V : Nat → Nat → Int32} {R : Nat → Nat} {L : Nat → Nat → Int64} (I : INV A V R) : CF l D cB cI cJ ad A V R L yX12_fault wsX12_fault [.ref (ad 0)] yX13_fault wsX13_fault [.ref (ad 82)] := by
  obtain ⟨h, nt, nc, np, nq, nl, na, nk, ln, ⟨hh, r0, r4, q33⟩, ⟨t1, t2, t3, t4, t5⟩, ⟨n1, n2, n3, n4, n5, n6, n7, n8, n9, n10, n11, n12, n13, n14, n15, n16, n17⟩, ⟨hT, hC, hP, hQ, hF, wP, wC, wT, wQ⟩, ⟨s1, hL, hoL⟩, ⟨l1, l2, l3, hA, hoA, l6, l7, l8, hS2, h3⟩, hMi, hFt, hCr⟩ := id I
  have hh2 : 116 - h = 50 ∨ 116 - h = 66 := by omega
  have hz := wf_hz wT hT
  have hW := wf_wt wT n15
  have hl9 := wf_li wC
  refine ⟨_, _, _, cR_W (c_X12_fault l D cB cI cJ ad 128 (pl ad cB cI cJ A V R L) 0 1 h (116 - h) 3 4 7 14 17 24 31 44 46 (V 0 8) (V 0 9) (by omega) (pl_po r0)), by decide, by decide, fun r1 M1 hp1 => ?_⟩
  obtain ⟨hr1, rfl⟩ := hp1
  refine ⟨A, V, R, L, rfl, rfl, fun g => ⟨_, _, _, (c_X13_fault l D cB cI cJ ad 128 (pl ad cB cI cJ A V R (va_up L 127 g)) hI 82 (V 82) (by omega) rfl), by decide, by decide, fun r3 M3 hp3 => ?_⟩⟩
  obtain ⟨hrc, c0, fr3⟩ := hp3
  obtain ⟨mvc, c0, hmv⟩ : ∃ f : Nat → Int32, M3 82 = .inr (12, modF ad 82 f) ∧ (f 2 = 0 ∧ ∀ j : Nat, j ≠ 2 → f j = V 82 j) := ⟨_, c0, mv0 _⟩
  have hM3 : M3 = pl ad cB cI cJ A (va_up V 82 mvc) R (va_up L 127 g) := by
    refine pl_eq (A := A) (V := V) (R := R) (L := (va_up L 127 g)) [82] (fun q hq => fr3 q (by rintro rfl; exact absurd (by decide) hq)) (fun q hq => ⟨rfl, (va_up_ne _ _ (nm hq (by decide : (82 : Nat) ∈ _))), rfl, rfl⟩) (fun q hq => ?_)
    simp only [List.mem_cons, List.not_mem_nil, or_false] at hq
    rcases hq with rfl <;> first | exact c0
  exact ⟨A, (va_up V 82 mvc), R, (va_up L 127 g), hM3, rfl, hmv.1, fun _ => hrc.trans (q33.symm.trans hr1.symm), INV_cg I (fun q hq => rfl) (fun q hq => (va_up_ne _ _ (nm hq (by decide : (82 : Nat) ∈ _)))) (fun q hq => rfl) (by first | exact ⟨rfl, rfl⟩ | (rcases hh with rfl | rfl <;> first | exact ⟨rfl, rfl⟩ | exact ⟨n12.symm, rfl⟩)) (by first | exact ⟨rfl, rfl⟩ | (rcases hh with rfl | rfl <;> first | exact ⟨rfl, rfl⟩ | exact ⟨n12.symm, rfl⟩)) hmv.2⟩
set_option maxHeartbeats 4000000 in
set_option maxRecDepth 100000 in
theorem sem_count (l : Launch) (hlt : l.stackTraces = false) (D : va_G) (cB cI cJ : ClassId) (ad : Nat → Nat) (hI : ipI ad 128) {A V : Nat → Nat → Int32} {R : Nat → Nat} {L : Nat → Nat → Int64} (I : INV A V R) (x : Int32) : CF l D cB cI cJ ad A V R L yX12_count wsX12_count [.ref (ad 0), .int x] yX13_count wsX13_count [.ref (ad 82), .int x] ∨ CX l D cB cI cJ ad A V R L yX12_count wsX12_count [.ref (ad 0), .int x] yX13_count wsX13_count [.ref (ad 82), .int x] "java/util/NoSuchElementException" 1 := by
  obtain ⟨h, nt, nc, np, nq, nl, na, nk, ln, ⟨hh, r0, r4, q33⟩, ⟨t1, t2, t3, t4, t5⟩, ⟨n1, n2, n3, n4, n5, n6, n7, n8, n9, n10, n11, n12, n13, n14, n15, n16, n17⟩, ⟨hT, hC, hP, hQ, hF, wP, wC, wT, wQ⟩, ⟨s1, hL, hoL⟩, ⟨l1, l2, l3, hA, hoA, l6, l7, l8, hS2, h3⟩, hMi, hFt, hCr⟩ := id I
  have hh2 : 116 - h = 50 ∨ 116 - h = 66 := by omega
  have hz := wf_hz wT hT
  have hW := wf_wt wT n15
  have hl9 := wf_li wC
  by_cases gw : x < 0 ∨ 13 ≤ x
  · refine Or.inr ⟨_, _, (x_X12_countA l D cB cI cJ ad 128 (pl ad cB cI cJ A V R L) hlt 0 1 h (116 - h) 3 4 7 14 17 24 31 44 46 (V 0 8) (V 0 9) x (by omega) (pl_po r0) gw), by decide, by decide, ⟨_, _, _, (c_X13_count l D cB cI cJ ad 128 (pl ad cB cI cJ A V R L) hI 82 nt nc np nq (V 82) (A 85) (A 104) x (by omega) (by omega) (by omega) rfl rfl rfl n5 n13 n6 n14 n7 n15 n8 n16), by decide, by decide, fun r3 M3 hp3 => ?_⟩⟩
    obtain ⟨hrc, c0, fr3⟩ := hp3
    obtain ⟨mvc, c0, hmv⟩ : ∃ f : Nat → Int32, M3 82 = .inr (12, modF ad 82 f) ∧ (f 2 = 1 ∧ ∀ j : Nat, j ≠ 2 → f j = V 82 j) := ⟨_, c0, by rw [no_count gw]; exact mv1 _ 1⟩
    have hM3 : M3 = pl ad cB cI cJ A (va_up V 82 mvc) R L := by
      refine pl_eq (A := A) (V := V) (R := R) (L := L) [82] (fun q hq => fr3 q (by rintro rfl; exact absurd (by decide) hq)) (fun q hq => ⟨rfl, (va_up_ne _ _ (nm hq (by decide : (82 : Nat) ∈ _))), rfl, rfl⟩) (fun q hq => ?_)
      simp only [List.mem_cons, List.not_mem_nil, or_false] at hq
      rcases hq with rfl <;> first | exact c0
    exact ⟨A, (va_up V 82 mvc), R, L, hM3, rfl, hmv.1, fun q => absurd q (by decide), INV_cg I (fun q hq => rfl) (fun q hq => (va_up_ne _ _ (nm hq (by decide : (82 : Nat) ∈ _)))) (fun q hq => rfl) (by first | exact ⟨rfl, rfl⟩ | (rcases hh with rfl | rfl <;> first | exact ⟨rfl, rfl⟩ | exact ⟨n12.symm, rfl⟩)) (by first | exact ⟨rfl, rfl⟩ | (rcases hh with rfl | rfl <;> first | exact ⟨rfl, rfl⟩ | exact ⟨n12.symm, rfl⟩)) hmv.2⟩
  · obtain ⟨gw0, gw1⟩ := rg2 gw
    obtain ⟨E1, E2⟩ := eq_count (n5.trans n1.symm) (n6.trans n2.symm) (n7.trans n3.symm) (n8.trans n4.symm) n9 n10 s1 (l2.trans l1.symm) (l7.trans l6.symm) (t2.trans t1.symm) h3 gw0 gw1
    refine Or.inl ⟨_, _, _, cR_W (c_X12_count l D cB cI cJ ad 128 (pl ad cB cI cJ A V R L) 0 1 h (116 - h) 3 4 7 14 17 24 31 44 46 (V 0 8) (V 0 9) (V 1 1) (V 1 2) (V 1 3) (V 1 4) (V 1 5) (V 1 6) (V 4 2) (V 7 1) (V 7 3) (R 1) (V h) (A 13) x (by omega) (by omega) (by omega) (by omega) (by omega) (by omega) (by omega) (pl_po r0) (ph_0 hh) (pl_g r4) rfl rfl rfl rfl gw0 gw1), by decide, by decide, fun r1 M1 hp1 => ?_⟩
    obtain ⟨hr1, rfl⟩ := hp1
    refine ⟨A, V, R, L, rfl, rfl, fun g => ⟨_, _, _, (c_X13_count l D cB cI cJ ad 128 (pl ad cB cI cJ A V R (va_up L 127 g)) hI 82 nt nc np nq (V 82) (A 85) (A 104) x (by omega) (by omega) (by omega) rfl rfl rfl n5 n13 n6 n14 n7 n15 n8 n16), by decide, by decide, fun r3 M3 hp3 => ?_⟩⟩
    obtain ⟨hrc, c0, fr3⟩ := hp3
    obtain ⟨mvc, c0, hmv⟩ : ∃ f : Nat → Int32, M3 82 = .inr (12, modF ad 82 f) ∧ (f 2 = 0 ∧ ∀ j : Nat, j ≠ 2 → f j = V 82 j) := ⟨_, c0, by rw [E2]; exact mv0 _⟩
    have hM3 : M3 = pl ad cB cI cJ A (va_up V 82 mvc) R (va_up L 127 g) := by
      refine pl_eq (A := A) (V := V) (R := R) (L := (va_up L 127 g)) [82] (fun q hq => fr3 q (by rintro rfl; exact absurd (by decide) hq)) (fun q hq => ⟨rfl, (va_up_ne _ _ (nm hq (by decide : (82 : Nat) ∈ _))), rfl, rfl⟩) (fun q hq => ?_)
      simp only [List.mem_cons, List.not_mem_nil, or_false] at hq
      rcases hq with rfl <;> first | exact c0
    exact ⟨A, (va_up V 82 mvc), R, (va_up L 127 g), hM3, rfl, hmv.1, fun _ => hrc.trans (E1.trans hr1.symm), INV_cg I (fun q hq => rfl) (fun q hq => (va_up_ne _ _ (nm hq (by decide : (82 : Nat) ∈ _)))) (fun q hq => rfl) (by first | exact ⟨rfl, rfl⟩ | (rcases hh with rfl | rfl <;> first | exact ⟨rfl, rfl⟩ | exact ⟨n12.symm, rfl⟩)) (by first | exact ⟨rfl, rfl⟩ | (rcases hh with rfl | rfl <;> first | exact ⟨rfl, rfl⟩ | exact ⟨n12.symm, rfl⟩)) hmv.2⟩
set_option maxHeartbeats 4000000 in
set_option maxRecDepth 100000 in
theorem sem_person (l : Launch) (hlt : l.stackTraces = false) (D : va_G) (cB cI cJ : ClassId) (ad : Nat → Nat) (hI : ipI ad 128) {A V : Nat → Nat → Int32} {R : Nat → Nat} {L : Nat → Nat → Int64} (I : INV A V R) (x y : Int32) : CF l D cB cI cJ ad A V R L yX12_person wsX12_person [.ref (ad 0), .int x, .int y] yX13_person wsX13_person [.ref (ad 82), .int x, .int y] ∨ CX l D cB cI cJ ad A V R L yX12_person wsX12_person [.ref (ad 0), .int x, .int y] yX13_person wsX13_person [.ref (ad 82), .int x, .int y] "java/util/NoSuchElementException" 1 := by
  obtain ⟨h, nt, nc, np, nq, nl, na, nk, ln, ⟨hh, r0, r4, q33⟩, ⟨t1, t2, t3, t4, t5⟩, ⟨n1, n2, n3, n4, n5, n6, n7, n8, n9, n10, n11, n12, n13, n14, n15, n16, n17⟩, ⟨hT, hC, hP, hQ, hF, wP, wC, wT, wQ⟩, ⟨s1, hL, hoL⟩, ⟨l1, l2, l3, hA, hoA, l6, l7, l8, hS2, h3⟩, hMi, hFt, hCr⟩ := id I
  have hh2 : 116 - h = 50 ∨ 116 - h = 66 := by omega
  have hz := wf_hz wT hT
  have hW := wf_wt wT n15
  have hl9 := wf_li wC
  rcases rng (x := x) n1 (by omega) with ⟨cx, hcx, ex⟩ | ⟨gbx, nox⟩
  · obtain ⟨gx0, gx1⟩ := rng_in n1 (by omega) hcx ex
    by_cases gw : y < 0 ∨ 6 ≤ y
    · refine Or.inr ⟨_, _, (x_X12_personB l D cB cI cJ ad 128 (pl ad cB cI cJ A V R L) hlt 0 1 h (116 - h) 3 4 7 14 17 24 31 44 46 (V 0 8) (V 0 9) (V h) x y (by omega) (by omega) (pl_po r0) (ph_0 hh) gx0 gx1 gw), by decide, by decide, ⟨_, _, _, (c_X13_person l D cB cI cJ ad 128 (pl ad cB cI cJ A V R L) hI 82 nt nc np nq (V 82) (A 85) (A 86) (A 87) (A 88) (A 89) (A 94) (A 95) (A 97) (A 99) (A 100) x y (by omega) (by omega) (by omega) (by omega) (by omega) (by omega) (by omega) (by omega) (by omega) (by omega) (by omega) rfl rfl rfl rfl rfl rfl rfl rfl rfl rfl rfl n5 n13 n6 n14 n7 n15 n8 n16), by decide, by decide, fun r3 M3 hp3 => ?_⟩⟩
      obtain ⟨hrc, c0, fr3⟩ := hp3
      obtain ⟨mvc, c0, hmv⟩ : ∃ f : Nat → Int32, M3 82 = .inr (12, modF ad 82 f) ∧ (f 2 = 1 ∧ ∀ j : Nat, j ≠ 2 → f j = V 82 j) := ⟨_, c0, by rw [no_person n5 n13 (Or.inr gw)]; exact mv1 _ 1⟩
      have hM3 : M3 = pl ad cB cI cJ A (va_up V 82 mvc) R L := by
        refine pl_eq (A := A) (V := V) (R := R) (L := L) [82] (fun q hq => fr3 q (by rintro rfl; exact absurd (by decide) hq)) (fun q hq => ⟨rfl, (va_up_ne _ _ (nm hq (by decide : (82 : Nat) ∈ _))), rfl, rfl⟩) (fun q hq => ?_)
        simp only [List.mem_cons, List.not_mem_nil, or_false] at hq
        rcases hq with rfl <;> first | exact c0
      exact ⟨A, (va_up V 82 mvc), R, L, hM3, rfl, hmv.1, fun q => absurd q (by decide), INV_cg I (fun q hq => rfl) (fun q hq => (va_up_ne _ _ (nm hq (by decide : (82 : Nat) ∈ _)))) (fun q hq => rfl) (by first | exact ⟨rfl, rfl⟩ | (rcases hh with rfl | rfl <;> first | exact ⟨rfl, rfl⟩ | exact ⟨n12.symm, rfl⟩)) (by first | exact ⟨rfl, rfl⟩ | (rcases hh with rfl | rfl <;> first | exact ⟨rfl, rfl⟩ | exact ⟨n12.symm, rfl⟩)) hmv.2⟩
    · obtain ⟨gw0, gw1⟩ := rg2 gw
      obtain ⟨E1, E2⟩ := eq_person n15 n14 n13 hT hC hP hL hz n5 n6 hcx ex gw0 gw1
      refine Or.inl ⟨_, _, _, cR_W (c_X12_person l D cB cI cJ ad 128 (pl ad cB cI cJ A V R L) 0 1 h (116 - h) 3 4 7 14 17 24 31 44 46 (V 0 8) (V 0 9) nt nc (V 4 2) (V h) (A (h + 2)) (A (h + 4)) (A (h + 6)) (A 6) x y (by omega) (by omega) (by omega) (by omega) (by omega) (by omega) (by omega) (by omega) (by omega) (by omega) (by omega) (pl_po r0) (pl_g r4) rfl rfl (ph_0 hh) (ph_5 hh) (ph_6 hh) (ph_3 hh) (ph_4 hh) (ph_1 hh) (ph_2 hh) n3 n15 n2 n14 gx0 gx1 gw0 gw1), by decide, by decide, fun r1 M1 hp1 => ?_⟩
      obtain ⟨hr1, rfl⟩ := hp1
      refine ⟨A, V, R, L, rfl, rfl, fun g => ⟨_, _, _, (c_X13_person l D cB cI cJ ad 128 (pl ad cB cI cJ A V R (va_up L 127 g)) hI 82 nt nc np nq (V 82) (A 85) (A 86) (A 87) (A 88) (A 89) (A 94) (A 95) (A 97) (A 99) (A 100) x y (by omega) (by omega) (by omega) (by omega) (by omega) (by omega) (by omega) (by omega) (by omega) (by omega) (by omega) rfl rfl rfl rfl rfl rfl rfl rfl rfl rfl rfl n5 n13 n6 n14 n7 n15 n8 n16), by decide, by decide, fun r3 M3 hp3 => ?_⟩⟩
      obtain ⟨hrc, c0, fr3⟩ := hp3
      obtain ⟨mvc, c0, hmv⟩ : ∃ f : Nat → Int32, M3 82 = .inr (12, modF ad 82 f) ∧ (f 2 = 0 ∧ ∀ j : Nat, j ≠ 2 → f j = V 82 j) := ⟨_, c0, by rw [E2]; exact mv0 _⟩
      have hM3 : M3 = pl ad cB cI cJ A (va_up V 82 mvc) R (va_up L 127 g) := by
        refine pl_eq (A := A) (V := V) (R := R) (L := (va_up L 127 g)) [82] (fun q hq => fr3 q (by rintro rfl; exact absurd (by decide) hq)) (fun q hq => ⟨rfl, (va_up_ne _ _ (nm hq (by decide : (82 : Nat) ∈ _))), rfl, rfl⟩) (fun q hq => ?_)
        simp only [List.mem_cons, List.not_mem_nil, or_false] at hq
        rcases hq with rfl <;> first | exact c0
      exact ⟨A, (va_up V 82 mvc), R, (va_up L 127 g), hM3, rfl, hmv.1, fun _ => hrc.trans (E1.trans hr1.symm), INV_cg I (fun q hq => rfl) (fun q hq => (va_up_ne _ _ (nm hq (by decide : (82 : Nat) ∈ _)))) (fun q hq => rfl) (by first | exact ⟨rfl, rfl⟩ | (rcases hh with rfl | rfl <;> first | exact ⟨rfl, rfl⟩ | exact ⟨n12.symm, rfl⟩)) (by first | exact ⟨rfl, rfl⟩ | (rcases hh with rfl | rfl <;> first | exact ⟨rfl, rfl⟩ | exact ⟨n12.symm, rfl⟩)) hmv.2⟩
  · refine Or.inr ⟨_, _, (x_X12_personA l D cB cI cJ ad 128 (pl ad cB cI cJ A V R L) hlt 0 1 h (116 - h) 3 4 7 14 17 24 31 44 46 (V 0 8) (V 0 9) (V h) x y (by omega) (by omega) (pl_po r0) (ph_0 hh) gbx), by decide, by decide, ⟨_, _, _, (c_X13_person l D cB cI cJ ad 128 (pl ad cB cI cJ A V R L) hI 82 nt nc np nq (V 82) (A 85) (A 86) (A 87) (A 88) (A 89) (A 94) (A 95) (A 97) (A 99) (A 100) x y (by omega) (by omega) (by omega) (by omega) (by omega) (by omega) (by omega) (by omega) (by omega) (by omega) (by omega) rfl rfl rfl rfl rfl rfl rfl rfl rfl rfl rfl n5 n13 n6 n14 n7 n15 n8 n16), by decide, by decide, fun r3 M3 hp3 => ?_⟩⟩
    obtain ⟨hrc, c0, fr3⟩ := hp3
    obtain ⟨mvc, c0, hmv⟩ : ∃ f : Nat → Int32, M3 82 = .inr (12, modF ad 82 f) ∧ (f 2 = 1 ∧ ∀ j : Nat, j ≠ 2 → f j = V 82 j) := ⟨_, c0, by rw [no_person n5 n13 (Or.inl nox)]; exact mv1 _ 1⟩
    have hM3 : M3 = pl ad cB cI cJ A (va_up V 82 mvc) R L := by
      refine pl_eq (A := A) (V := V) (R := R) (L := L) [82] (fun q hq => fr3 q (by rintro rfl; exact absurd (by decide) hq)) (fun q hq => ⟨rfl, (va_up_ne _ _ (nm hq (by decide : (82 : Nat) ∈ _))), rfl, rfl⟩) (fun q hq => ?_)
      simp only [List.mem_cons, List.not_mem_nil, or_false] at hq
      rcases hq with rfl <;> first | exact c0
    exact ⟨A, (va_up V 82 mvc), R, L, hM3, rfl, hmv.1, fun q => absurd q (by decide), INV_cg I (fun q hq => rfl) (fun q hq => (va_up_ne _ _ (nm hq (by decide : (82 : Nat) ∈ _)))) (fun q hq => rfl) (by first | exact ⟨rfl, rfl⟩ | (rcases hh with rfl | rfl <;> first | exact ⟨rfl, rfl⟩ | exact ⟨n12.symm, rfl⟩)) (by first | exact ⟨rfl, rfl⟩ | (rcases hh with rfl | rfl <;> first | exact ⟨rfl, rfl⟩ | exact ⟨n12.symm, rfl⟩)) hmv.2⟩
set_option maxHeartbeats 4000000 in
set_option maxRecDepth 100000 in
theorem sem_thing (l : Launch) (hlt : l.stackTraces = false) (D : va_G) (cB cI cJ : ClassId) (ad : Nat → Nat) (hI : ipI ad 128) {A V : Nat → Nat → Int32} {R : Nat → Nat} {L : Nat → Nat → Int64} (I : INV A V R) (x y : Int32) : CF l D cB cI cJ ad A V R L yX12_thing wsX12_thing [.ref (ad 0), .int x, .int y] yX13_thing wsX13_thing [.ref (ad 82), .int x, .int y] ∨ CX l D cB cI cJ ad A V R L yX12_thing wsX12_thing [.ref (ad 0), .int x, .int y] yX13_thing wsX13_thing [.ref (ad 82), .int x, .int y] "java/util/NoSuchElementException" 1 := by
  obtain ⟨h, nt, nc, np, nq, nl, na, nk, ln, ⟨hh, r0, r4, q33⟩, ⟨t1, t2, t3, t4, t5⟩, ⟨n1, n2, n3, n4, n5, n6, n7, n8, n9, n10, n11, n12, n13, n14, n15, n16, n17⟩, ⟨hT, hC, hP, hQ, hF, wP, wC, wT, wQ⟩, ⟨s1, hL, hoL⟩, ⟨l1, l2, l3, hA, hoA, l6, l7, l8, hS2, h3⟩, hMi, hFt, hCr⟩ := id I
  have hh2 : 116 - h = 50 ∨ 116 - h = 66 := by omega
  have hz := wf_hz wT hT
  have hW := wf_wt wT n15
  have hl9 := wf_li wC
  rcases rng (x := x) n3 (by omega) with ⟨cx, hcx, ex⟩ | ⟨gbx, nox⟩
  · obtain ⟨gx0, gx1⟩ := rng_in n3 (by omega) hcx ex
    by_cases gw : y < 0 ∨ 8 ≤ y
    · refine Or.inr ⟨_, _, (x_X12_thingB l D cB cI cJ ad 128 (pl ad cB cI cJ A V R L) hlt 0 1 h (116 - h) 3 4 7 14 17 24 31 44 46 (V 0 8) (V 0 9) (V h) x y (by omega) (by omega) (pl_po r0) (ph_0 hh) gx0 gx1 gw), by decide, by decide, ⟨_, _, _, (c_X13_thing l D cB cI cJ ad 128 (pl ad cB cI cJ A V R L) hI 82 nt nc np nq (V 82) (A 85) (A 94) (A 95) (A 96) (A 97) (A 98) (A 99) (A 100) (A 101) (A 102) x y (by omega) (by omega) (by omega) (by omega) (by omega) (by omega) (by omega) (by omega) (by omega) (by omega) (by omega) rfl rfl rfl rfl rfl rfl rfl rfl rfl rfl rfl n5 n13 n6 n14 n7 n15 n8 n16), by decide, by decide, fun r3 M3 hp3 => ?_⟩⟩
      obtain ⟨hrc, c0, fr3⟩ := hp3
      obtain ⟨mvc, c0, hmv⟩ : ∃ f : Nat → Int32, M3 82 = .inr (12, modF ad 82 f) ∧ (f 2 = 1 ∧ ∀ j : Nat, j ≠ 2 → f j = V 82 j) := ⟨_, c0, by rw [no_thing n7 n15 (Or.inr gw)]; exact mv1 _ 1⟩
      have hM3 : M3 = pl ad cB cI cJ A (va_up V 82 mvc) R L := by
        refine pl_eq (A := A) (V := V) (R := R) (L := L) [82] (fun q hq => fr3 q (by rintro rfl; exact absurd (by decide) hq)) (fun q hq => ⟨rfl, (va_up_ne _ _ (nm hq (by decide : (82 : Nat) ∈ _))), rfl, rfl⟩) (fun q hq => ?_)
        simp only [List.mem_cons, List.not_mem_nil, or_false] at hq
        rcases hq with rfl <;> first | exact c0
      exact ⟨A, (va_up V 82 mvc), R, L, hM3, rfl, hmv.1, fun q => absurd q (by decide), INV_cg I (fun q hq => rfl) (fun q hq => (va_up_ne _ _ (nm hq (by decide : (82 : Nat) ∈ _)))) (fun q hq => rfl) (by first | exact ⟨rfl, rfl⟩ | (rcases hh with rfl | rfl <;> first | exact ⟨rfl, rfl⟩ | exact ⟨n12.symm, rfl⟩)) (by first | exact ⟨rfl, rfl⟩ | (rcases hh with rfl | rfl <;> first | exact ⟨rfl, rfl⟩ | exact ⟨n12.symm, rfl⟩)) hmv.2⟩
    · obtain ⟨gw0, gw1⟩ := rg2 gw
      obtain ⟨E1, E2⟩ := eq_thing n15 n16 hT hQ hL n7 hcx ex gw0 gw1
      refine Or.inl ⟨_, _, _, cR_W (c_X12_thing l D cB cI cJ ad 128 (pl ad cB cI cJ A V R L) 0 1 h (116 - h) 3 4 7 14 17 24 31 44 46 (V 0 8) (V 0 9) nq nt (V 4 2) (V h) (A (h + 6)) (A (h + 8)) (A 6) x y (by omega) (by omega) (by omega) (by omega) (by omega) (by omega) (by omega) (by omega) (by omega) (pl_po r0) (pl_g r4) rfl rfl (ph_0 hh) (ph_5 hh) (ph_6 hh) (ph_7 hh) (ph_8 hh) n4 n16 gx0 gx1 gw0 gw1), by decide, by decide, fun r1 M1 hp1 => ?_⟩
      obtain ⟨hr1, rfl⟩ := hp1
      refine ⟨A, V, R, L, rfl, rfl, fun g => ⟨_, _, _, (c_X13_thing l D cB cI cJ ad 128 (pl ad cB cI cJ A V R (va_up L 127 g)) hI 82 nt nc np nq (V 82) (A 85) (A 94) (A 95) (A 96) (A 97) (A 98) (A 99) (A 100) (A 101) (A 102) x y (by omega) (by omega) (by omega) (by omega) (by omega) (by omega) (by omega) (by omega) (by omega) (by omega) (by omega) rfl rfl rfl rfl rfl rfl rfl rfl rfl rfl rfl n5 n13 n6 n14 n7 n15 n8 n16), by decide, by decide, fun r3 M3 hp3 => ?_⟩⟩
      obtain ⟨hrc, c0, fr3⟩ := hp3
      obtain ⟨mvc, c0, hmv⟩ : ∃ f : Nat → Int32, M3 82 = .inr (12, modF ad 82 f) ∧ (f 2 = 0 ∧ ∀ j : Nat, j ≠ 2 → f j = V 82 j) := ⟨_, c0, by rw [E2]; exact mv0 _⟩
      have hM3 : M3 = pl ad cB cI cJ A (va_up V 82 mvc) R (va_up L 127 g) := by
        refine pl_eq (A := A) (V := V) (R := R) (L := (va_up L 127 g)) [82] (fun q hq => fr3 q (by rintro rfl; exact absurd (by decide) hq)) (fun q hq => ⟨rfl, (va_up_ne _ _ (nm hq (by decide : (82 : Nat) ∈ _))), rfl, rfl⟩) (fun q hq => ?_)
        simp only [List.mem_cons, List.not_mem_nil, or_false] at hq
        rcases hq with rfl <;> first | exact c0
      exact ⟨A, (va_up V 82 mvc), R, (va_up L 127 g), hM3, rfl, hmv.1, fun _ => hrc.trans (E1.trans hr1.symm), INV_cg I (fun q hq => rfl) (fun q hq => (va_up_ne _ _ (nm hq (by decide : (82 : Nat) ∈ _)))) (fun q hq => rfl) (by first | exact ⟨rfl, rfl⟩ | (rcases hh with rfl | rfl <;> first | exact ⟨rfl, rfl⟩ | exact ⟨n12.symm, rfl⟩)) (by first | exact ⟨rfl, rfl⟩ | (rcases hh with rfl | rfl <;> first | exact ⟨rfl, rfl⟩ | exact ⟨n12.symm, rfl⟩)) hmv.2⟩
  · refine Or.inr ⟨_, _, (x_X12_thingA l D cB cI cJ ad 128 (pl ad cB cI cJ A V R L) hlt 0 1 h (116 - h) 3 4 7 14 17 24 31 44 46 (V 0 8) (V 0 9) (V h) x y (by omega) (by omega) (pl_po r0) (ph_0 hh) gbx), by decide, by decide, ⟨_, _, _, (c_X13_thing l D cB cI cJ ad 128 (pl ad cB cI cJ A V R L) hI 82 nt nc np nq (V 82) (A 85) (A 94) (A 95) (A 96) (A 97) (A 98) (A 99) (A 100) (A 101) (A 102) x y (by omega) (by omega) (by omega) (by omega) (by omega) (by omega) (by omega) (by omega) (by omega) (by omega) (by omega) rfl rfl rfl rfl rfl rfl rfl rfl rfl rfl rfl n5 n13 n6 n14 n7 n15 n8 n16), by decide, by decide, fun r3 M3 hp3 => ?_⟩⟩
    obtain ⟨hrc, c0, fr3⟩ := hp3
    obtain ⟨mvc, c0, hmv⟩ : ∃ f : Nat → Int32, M3 82 = .inr (12, modF ad 82 f) ∧ (f 2 = 1 ∧ ∀ j : Nat, j ≠ 2 → f j = V 82 j) := ⟨_, c0, by rw [no_thing n7 n15 (Or.inl nox)]; exact mv1 _ 1⟩
    have hM3 : M3 = pl ad cB cI cJ A (va_up V 82 mvc) R L := by
      refine pl_eq (A := A) (V := V) (R := R) (L := L) [82] (fun q hq => fr3 q (by rintro rfl; exact absurd (by decide) hq)) (fun q hq => ⟨rfl, (va_up_ne _ _ (nm hq (by decide : (82 : Nat) ∈ _))), rfl, rfl⟩) (fun q hq => ?_)
      simp only [List.mem_cons, List.not_mem_nil, or_false] at hq
      rcases hq with rfl <;> first | exact c0
    exact ⟨A, (va_up V 82 mvc), R, L, hM3, rfl, hmv.1, fun q => absurd q (by decide), INV_cg I (fun q hq => rfl) (fun q hq => (va_up_ne _ _ (nm hq (by decide : (82 : Nat) ∈ _)))) (fun q hq => rfl) (by first | exact ⟨rfl, rfl⟩ | (rcases hh with rfl | rfl <;> first | exact ⟨rfl, rfl⟩ | exact ⟨n12.symm, rfl⟩)) (by first | exact ⟨rfl, rfl⟩ | (rcases hh with rfl | rfl <;> first | exact ⟨rfl, rfl⟩ | exact ⟨n12.symm, rfl⟩)) hmv.2⟩
set_option maxHeartbeats 4000000 in
set_option maxRecDepth 100000 in
theorem sem_box (l : Launch) (hlt : l.stackTraces = false) (D : va_G) (cB cI cJ : ClassId) (ad : Nat → Nat) (hI : ipI ad 128) {A V : Nat → Nat → Int32} {R : Nat → Nat} {L : Nat → Nat → Int64} (I : INV A V R) (x y : Int32) : CF l D cB cI cJ ad A V R L yX12_box wsX12_box [.ref (ad 0), .int x, .int y] yX13_box wsX13_box [.ref (ad 82), .int x, .int y] ∨ CX l D cB cI cJ ad A V R L yX12_box wsX12_box [.ref (ad 0), .int x, .int y] yX13_box wsX13_box [.ref (ad 82), .int x, .int y] "java/util/NoSuchElementException" 1 := by
  obtain ⟨h, nt, nc, np, nq, nl, na, nk, ln, ⟨hh, r0, r4, q33⟩, ⟨t1, t2, t3, t4, t5⟩, ⟨n1, n2, n3, n4, n5, n6, n7, n8, n9, n10, n11, n12, n13, n14, n15, n16, n17⟩, ⟨hT, hC, hP, hQ, hF, wP, wC, wT, wQ⟩, ⟨s1, hL, hoL⟩, ⟨l1, l2, l3, hA, hoA, l6, l7, l8, hS2, h3⟩, hMi, hFt, hCr⟩ := id I
  have hh2 : 116 - h = 50 ∨ 116 - h = 66 := by omega
  have hz := wf_hz wT hT
  have hW := wf_wt wT n15
  have hl9 := wf_li wC
  rcases rng (x := x) n2 (by omega) with ⟨cx, hcx, ex⟩ | ⟨gbx, nox⟩
  · obtain ⟨gx0, gx1⟩ := rng_in n2 (by omega) hcx ex
    by_cases gw : y < 0 ∨ 10 ≤ y
    · refine Or.inr ⟨_, _, (x_X12_boxB l D cB cI cJ ad 128 (pl ad cB cI cJ A V R L) hlt 0 1 h (116 - h) 3 4 7 14 17 24 31 44 46 (V 0 8) (V 0 9) (V h) x y (by omega) (by omega) (pl_po r0) (ph_0 hh) gx0 gx1 gw), by decide, by decide, ⟨_, _, _, (c_X13_box l D cB cI cJ ad 128 (pl ad cB cI cJ A V R L) hI 82 nt nc np nq (V 82) (A 85) (A 89) (A 90) (A 91) (A 92) (A 93) (A 94) (A 95) (A 97) (A 99) (A 100) (A 103) (A 106) (A 107) nl x y (by omega) (by omega) (by omega) (by omega) (by omega) (by omega) (by omega) (by omega) (by omega) (by omega) (by omega) (by omega) (by omega) (by omega) (by omega) rfl rfl rfl rfl rfl rfl rfl rfl rfl rfl rfl rfl rfl rfl rfl n5 n13 n6 n14 n7 n15 n8 n16 n11 n17 (rF_ok hF) (rF_m hF)), by decide, by decide, fun r3 M3 hp3 => ?_⟩⟩
      obtain ⟨v0__, v1__, hrc, c0, c1, c2, fr3⟩ := hp3
      obtain ⟨mvc, c2, hmv⟩ : ∃ f : Nat → Int32, M3 82 = .inr (12, modF ad 82 f) ∧ (f 2 = 1 ∧ ∀ j : Nat, j ≠ 2 → f j = V 82 j) := ⟨_, c2, by rw [no_box n6 n14 (Or.inr gw)]; exact mv1 _ 1⟩
      obtain ⟨fc1, c0⟩ : ∃ f, M3 106 = .inl (cI, 5, .inl f) := ⟨_, c0⟩
      obtain ⟨fc2, c1⟩ : ∃ f, M3 107 = .inl (cI, 64, .inl f) := ⟨_, c1⟩
      have hM3 : M3 = pl ad cB cI cJ (va_up (va_up A 106 fc1) 107 fc2) (va_up V 82 mvc) R L := by
        refine pl_eq (A := A) (V := V) (R := R) (L := L) [106, 107, 82] (fun q hq => fr3 q (by rintro rfl; exact absurd (by decide) hq) (by rintro rfl; exact absurd (by decide) hq) (by rintro rfl; exact absurd (by decide) hq)) (fun q hq => ⟨((va_up_ne _ _ (nm hq (by decide : (107 : Nat) ∈ _))).trans (va_up_ne _ _ (nm hq (by decide : (106 : Nat) ∈ _)))), (va_up_ne _ _ (nm hq (by decide : (82 : Nat) ∈ _))), rfl, rfl⟩) (fun q hq => ?_)
        simp only [List.mem_cons, List.not_mem_nil, or_false] at hq
        rcases hq with rfl | rfl | rfl <;> first | exact c0 | exact c1 | exact c2
      exact ⟨(va_up (va_up A 106 fc1) 107 fc2), (va_up V 82 mvc), R, L, hM3, rfl, hmv.1, fun q => absurd q (by decide), INV_cg I (fun q hq => ((va_up_ne _ _ (nm hq (by decide : (107 : Nat) ∈ _))).trans (va_up_ne _ _ (nm hq (by decide : (106 : Nat) ∈ _))))) (fun q hq => (va_up_ne _ _ (nm hq (by decide : (82 : Nat) ∈ _)))) (fun q hq => rfl) (by first | exact ⟨rfl, rfl⟩ | (rcases hh with rfl | rfl <;> first | exact ⟨rfl, rfl⟩ | exact ⟨n12.symm, rfl⟩)) (by first | exact ⟨rfl, rfl⟩ | (rcases hh with rfl | rfl <;> first | exact ⟨rfl, rfl⟩ | exact ⟨n12.symm, rfl⟩)) hmv.2⟩
    · obtain ⟨gw0, gw1⟩ := rg2 gw
      obtain ⟨E1, E2⟩ := eq_box (nq := nq) (mv := V 82) (qf := A (h + 8)) (pt := A 101) (pr := A 102) hF n11 n15 n14 hT hC hL hW hl9 n6 hcx ex gw0 gw1
      refine Or.inl ⟨_, _, _, (c_X12_box l D cB cI cJ ad 128 (pl ad cB cI cJ A V R L) hI 0 1 h (116 - h) 3 4 7 14 17 24 31 44 46 (V 0 8) (V 0 9) nl nt (V 4 2) (V (h + 9) 2) (V (h + 9) 5) (V h) (A (h + 4)) (A (h + 6)) (A (h + 11)) (A (h + 13)) (A (h + 15)) (A 6) x y (by omega) (by omega) (by omega) (by omega) (by omega) (by omega) (by omega) (by omega) (by omega) (by omega) (by omega) (by omega) (by omega) (by omega) (by omega) (by omega) (pl_po r0) (pl_g r4) (ph_0 hh) (ph_3 hh) (ph_4 hh) (ph_5 hh) (ph_6 hh) (pl_rule hh n12) (ph_10 hh) (ph_11 hh) (ph_12 hh) (ph_13 hh) (ph_14 hh) (ph_15 hh) rfl rfl n3 n15 n17 (rF_c hF) (by omega) (by omega) gx0 gx1 gw0 gw1), by decide, by decide, fun r1 M1 hp1 => ?_⟩
      obtain ⟨v0__, v1__, v2__, hr1, b0, b1, b2, fr1⟩ := hp1
      obtain ⟨wb1, b0⟩ : ∃ f, M1 (h + 9) = .inr (5, ruleF ad (h + 9) (nI nl) (V (h + 9) 2) f) := ⟨_, b0⟩
      obtain ⟨fb2, b1⟩ : ∃ f, M1 (h + 13) = .inl (cI, 5, .inl f) := ⟨_, b1⟩
      obtain ⟨fb3, b2⟩ : ∃ f, M1 (h + 15) = .inl (cI, 31, .inl f) := ⟨_, b2⟩
      have hM1 : M1 = pl ad cB cI cJ (va_up (va_up (va_up (va_up A 63 (if h = 50 then fb2 else A 63)) 79 (if h = 66 then fb2 else A 79)) 65 (if h = 50 then fb3 else A 65)) 81 (if h = 66 then fb3 else A 81)) (va_up (va_up V 59 (if h = 50 then tv2 (nI nl) (V 59 2) wb1 else V 59)) 75 (if h = 66 then tv2 (nI nl) (V 75 2) wb1 else V 75)) R L := by
        refine pl_eq (A := A) (V := V) (R := R) (L := L) [59, 75, 63, 79, 65, 81] (fun q hq => fr1 q (by rintro rfl; rcases hh with rfl | rfl <;> exact absurd (by decide) hq) (by rintro rfl; rcases hh with rfl | rfl <;> exact absurd (by decide) hq) (by rintro rfl; rcases hh with rfl | rfl <;> exact absurd (by decide) hq)) (fun q hq => ⟨((va_up_ne _ _ (nm hq (by decide : (81 : Nat) ∈ _))).trans ((va_up_ne _ _ (nm hq (by decide : (65 : Nat) ∈ _))).trans ((va_up_ne _ _ (nm hq (by decide : (79 : Nat) ∈ _))).trans (va_up_ne _ _ (nm hq (by decide : (63 : Nat) ∈ _)))))), ((va_up_ne _ _ (nm hq (by decide : (75 : Nat) ∈ _))).trans (va_up_ne _ _ (nm hq (by decide : (59 : Nat) ∈ _)))), rfl, rfl⟩) (fun q hq => ?_)
        simp only [List.mem_cons, List.not_mem_nil, or_false] at hq
        rcases hh with rfl | rfl <;> rcases hq with rfl | rfl | rfl | rfl | rfl | rfl <;> first | exact b0 | exact b1 | exact b2 | exact fr1 _ (by decide) (by decide) (by decide)
      refine ⟨(va_up (va_up (va_up (va_up A 63 (if h = 50 then fb2 else A 63)) 79 (if h = 66 then fb2 else A 79)) 65 (if h = 50 then fb3 else A 65)) 81 (if h = 66 then fb3 else A 81)), (va_up (va_up V 59 (if h = 50 then tv2 (nI nl) (V 59 2) wb1 else V 59)) 75 (if h = 66 then tv2 (nI nl) (V 75 2) wb1 else V 75)), R, L, hM1, rfl, fun g => ⟨_, _, _, (c_X13_box l D cB cI cJ ad 128 (pl ad cB cI cJ (va_up (va_up (va_up (va_up A 63 (if h = 50 then fb2 else A 63)) 79 (if h = 66 then fb2 else A 79)) 65 (if h = 50 then fb3 else A 65)) 81 (if h = 66 then fb3 else A 81)) (va_up (va_up V 59 (if h = 50 then tv2 (nI nl) (V 59 2) wb1 else V 59)) 75 (if h = 66 then tv2 (nI nl) (V 75 2) wb1 else V 75)) R (va_up L 127 g)) hI 82 nt nc np nq (V 82) (A 85) (A 89) (A 90) (A 91) (A 92) (A 93) (A 94) (A 95) (A 97) (A 99) (A 100) (A 103) (A 106) (A 107) nl x y (by omega) (by omega) (by omega) (by omega) (by omega) (by omega) (by omega) (by omega) (by omega) (by omega) (by omega) (by omega) (by omega) (by omega) (by omega) rfl rfl rfl rfl rfl rfl rfl rfl rfl rfl rfl rfl rfl rfl rfl n5 n13 n6 n14 n7 n15 n8 n16 n11 n17 (rF_ok hF) (rF_m hF)), by decide, by decide, fun r3 M3 hp3 => ?_⟩⟩
      obtain ⟨v0__, v1__, hrc, c0, c1, c2, fr3⟩ := hp3
      obtain ⟨mvc, c2, hmv⟩ : ∃ f : Nat → Int32, M3 82 = .inr (12, modF ad 82 f) ∧ (f 2 = 0 ∧ ∀ j : Nat, j ≠ 2 → f j = V 82 j) := ⟨_, c2, by rw [E2]; exact mv0 _⟩
      obtain ⟨fc1, c0⟩ : ∃ f, M3 106 = .inl (cI, 5, .inl f) := ⟨_, c0⟩
      obtain ⟨fc2, c1⟩ : ∃ f, M3 107 = .inl (cI, 64, .inl f) := ⟨_, c1⟩
      have hM3 : M3 = pl ad cB cI cJ (va_up (va_up (va_up (va_up (va_up (va_up A 63 (if h = 50 then fb2 else A 63)) 79 (if h = 66 then fb2 else A 79)) 65 (if h = 50 then fb3 else A 65)) 81 (if h = 66 then fb3 else A 81)) 106 fc1) 107 fc2) (va_up (va_up (va_up V 59 (if h = 50 then tv2 (nI nl) (V 59 2) wb1 else V 59)) 75 (if h = 66 then tv2 (nI nl) (V 75 2) wb1 else V 75)) 82 mvc) R (va_up L 127 g) := by
        refine pl_eq (A := (va_up (va_up (va_up (va_up A 63 (if h = 50 then fb2 else A 63)) 79 (if h = 66 then fb2 else A 79)) 65 (if h = 50 then fb3 else A 65)) 81 (if h = 66 then fb3 else A 81))) (V := (va_up (va_up V 59 (if h = 50 then tv2 (nI nl) (V 59 2) wb1 else V 59)) 75 (if h = 66 then tv2 (nI nl) (V 75 2) wb1 else V 75))) (R := R) (L := (va_up L 127 g)) [106, 107, 82] (fun q hq => fr3 q (by rintro rfl; exact absurd (by decide) hq) (by rintro rfl; exact absurd (by decide) hq) (by rintro rfl; exact absurd (by decide) hq)) (fun q hq => ⟨((va_up_ne _ _ (nm hq (by decide : (107 : Nat) ∈ _))).trans (va_up_ne _ _ (nm hq (by decide : (106 : Nat) ∈ _)))), (va_up_ne _ _ (nm hq (by decide : (82 : Nat) ∈ _))), rfl, rfl⟩) (fun q hq => ?_)
        simp only [List.mem_cons, List.not_mem_nil, or_false] at hq
        rcases hq with rfl | rfl | rfl <;> first | exact c0 | exact c1 | exact c2
      exact ⟨(va_up (va_up (va_up (va_up (va_up (va_up A 63 (if h = 50 then fb2 else A 63)) 79 (if h = 66 then fb2 else A 79)) 65 (if h = 50 then fb3 else A 65)) 81 (if h = 66 then fb3 else A 81)) 106 fc1) 107 fc2), (va_up (va_up (va_up V 59 (if h = 50 then tv2 (nI nl) (V 59 2) wb1 else V 59)) 75 (if h = 66 then tv2 (nI nl) (V 75 2) wb1 else V 75)) 82 mvc), R, (va_up L 127 g), hM3, rfl, hmv.1, fun _ => hrc.trans (E1.trans hr1.symm), INV_cg I (fun q hq => ((va_up_ne _ _ (nm hq (by decide : (107 : Nat) ∈ _))).trans ((va_up_ne _ _ (nm hq (by decide : (106 : Nat) ∈ _))).trans ((va_up_ne _ _ (nm hq (by decide : (81 : Nat) ∈ _))).trans ((va_up_ne _ _ (nm hq (by decide : (65 : Nat) ∈ _))).trans ((va_up_ne _ _ (nm hq (by decide : (79 : Nat) ∈ _))).trans (va_up_ne _ _ (nm hq (by decide : (63 : Nat) ∈ _))))))))) (fun q hq => ((va_up_ne _ _ (nm hq (by decide : (82 : Nat) ∈ _))).trans ((va_up_ne _ _ (nm hq (by decide : (75 : Nat) ∈ _))).trans (va_up_ne _ _ (nm hq (by decide : (59 : Nat) ∈ _)))))) (fun q hq => rfl) (by first | exact ⟨rfl, rfl⟩ | (rcases hh with rfl | rfl <;> first | exact ⟨rfl, rfl⟩ | exact ⟨n12.symm, rfl⟩)) (by first | exact ⟨rfl, rfl⟩ | (rcases hh with rfl | rfl <;> first | exact ⟨rfl, rfl⟩ | exact ⟨n12.symm, rfl⟩)) hmv.2⟩
  · refine Or.inr ⟨_, _, (x_X12_boxA l D cB cI cJ ad 128 (pl ad cB cI cJ A V R L) hlt 0 1 h (116 - h) 3 4 7 14 17 24 31 44 46 (V 0 8) (V 0 9) (V h) x y (by omega) (by omega) (pl_po r0) (ph_0 hh) gbx), by decide, by decide, ⟨_, _, _, (c_X13_box l D cB cI cJ ad 128 (pl ad cB cI cJ A V R L) hI 82 nt nc np nq (V 82) (A 85) (A 89) (A 90) (A 91) (A 92) (A 93) (A 94) (A 95) (A 97) (A 99) (A 100) (A 103) (A 106) (A 107) nl x y (by omega) (by omega) (by omega) (by omega) (by omega) (by omega) (by omega) (by omega) (by omega) (by omega) (by omega) (by omega) (by omega) (by omega) (by omega) rfl rfl rfl rfl rfl rfl rfl rfl rfl rfl rfl rfl rfl rfl rfl n5 n13 n6 n14 n7 n15 n8 n16 n11 n17 (rF_ok hF) (rF_m hF)), by decide, by decide, fun r3 M3 hp3 => ?_⟩⟩
    obtain ⟨v0__, v1__, hrc, c0, c1, c2, fr3⟩ := hp3
    obtain ⟨mvc, c2, hmv⟩ : ∃ f : Nat → Int32, M3 82 = .inr (12, modF ad 82 f) ∧ (f 2 = 1 ∧ ∀ j : Nat, j ≠ 2 → f j = V 82 j) := ⟨_, c2, by rw [no_box n6 n14 (Or.inl nox)]; exact mv1 _ 1⟩
    obtain ⟨fc1, c0⟩ : ∃ f, M3 106 = .inl (cI, 5, .inl f) := ⟨_, c0⟩
    obtain ⟨fc2, c1⟩ : ∃ f, M3 107 = .inl (cI, 64, .inl f) := ⟨_, c1⟩
    have hM3 : M3 = pl ad cB cI cJ (va_up (va_up A 106 fc1) 107 fc2) (va_up V 82 mvc) R L := by
      refine pl_eq (A := A) (V := V) (R := R) (L := L) [106, 107, 82] (fun q hq => fr3 q (by rintro rfl; exact absurd (by decide) hq) (by rintro rfl; exact absurd (by decide) hq) (by rintro rfl; exact absurd (by decide) hq)) (fun q hq => ⟨((va_up_ne _ _ (nm hq (by decide : (107 : Nat) ∈ _))).trans (va_up_ne _ _ (nm hq (by decide : (106 : Nat) ∈ _)))), (va_up_ne _ _ (nm hq (by decide : (82 : Nat) ∈ _))), rfl, rfl⟩) (fun q hq => ?_)
      simp only [List.mem_cons, List.not_mem_nil, or_false] at hq
      rcases hq with rfl | rfl | rfl <;> first | exact c0 | exact c1 | exact c2
    exact ⟨(va_up (va_up A 106 fc1) 107 fc2), (va_up V 82 mvc), R, L, hM3, rfl, hmv.1, fun q => absurd q (by decide), INV_cg I (fun q hq => ((va_up_ne _ _ (nm hq (by decide : (107 : Nat) ∈ _))).trans (va_up_ne _ _ (nm hq (by decide : (106 : Nat) ∈ _))))) (fun q hq => (va_up_ne _ _ (nm hq (by decide : (82 : Nat) ∈ _)))) (fun q hq => rfl) (by first | exact ⟨rfl, rfl⟩ | (rcases hh with rfl | rfl <;> first | exact ⟨rfl, rfl⟩ | exact ⟨n12.symm, rfl⟩)) (by first | exact ⟨rfl, rfl⟩ | (rcases hh with rfl | rfl <;> first | exact ⟨rfl, rfl⟩ | exact ⟨n12.symm, rfl⟩)) hmv.2⟩
set_option maxHeartbeats 4000000 in
set_option maxRecDepth 100000 in
theorem sem_look (l : Launch) (hlt : l.stackTraces = false) (D : va_G) (cB cI cJ : ClassId) (ad : Nat → Nat) (hI : ipI ad 128) {A V : Nat → Nat → Int32} {R : Nat → Nat} {L : Nat → Nat → Int64} (I : INV A V R) (x y : Int32) : CF l D cB cI cJ ad A V R L yX12_look wsX12_look [.ref (ad 0), .int x, .int y] yX13_look wsX13_look [.ref (ad 82), .int x, .int y] ∨ CX l D cB cI cJ ad A V R L yX12_look wsX12_look [.ref (ad 0), .int x, .int y] yX13_look wsX13_look [.ref (ad 82), .int x, .int y] "java/util/NoSuchElementException" 1 := by
  obtain ⟨h, nt, nc, np, nq, nl, na, nk, ln, ⟨hh, r0, r4, q33⟩, ⟨t1, t2, t3, t4, t5⟩, ⟨n1, n2, n3, n4, n5, n6, n7, n8, n9, n10, n11, n12, n13, n14, n15, n16, n17⟩, ⟨hT, hC, hP, hQ, hF, wP, wC, wT, wQ⟩, ⟨s1, hL, hoL⟩, ⟨l1, l2, l3, hA, hoA, l6, l7, l8, hS2, h3⟩, hMi, hFt, hCr⟩ := id I
  have hh2 : 116 - h = 50 ∨ 116 - h = 66 := by omega
  have hz := wf_hz wT hT
  have hW := wf_wt wT n15
  have hl9 := wf_li wC
  rcases rng (x := x) n2 (by omega) with ⟨cx, hcx, ex⟩ | ⟨gbx, nox⟩
  · obtain ⟨gx0, gx1⟩ := rng_in n2 (by omega) hcx ex
    by_cases gw : y < 0 ∨ 2 ≤ y
    · refine Or.inr ⟨_, _, (x_X12_lookB l D cB cI cJ ad 128 (pl ad cB cI cJ A V R L) hlt 0 1 h (116 - h) 3 4 7 14 17 24 31 44 46 (V 0 8) (V 0 9) (V h) x y (by omega) (by omega) (pl_po r0) (ph_0 hh) gx0 gx1 gw), by decide, by decide, ⟨_, _, _, (c_X13_look l D cB cI cJ ad 128 (pl ad cB cI cJ A V R L) hI 82 nt nc np nq (V 82) (A 85) (A 90) (A 93) (A 94) (A 95) (A 97) (A 99) (A 100) (A 103) (A 106) (A 107) nl x y (by omega) (by omega) (by omega) (by omega) (by omega) (by omega) (by omega) (by omega) (by omega) (by omega) (by omega) (by omega) rfl rfl rfl rfl rfl rfl rfl rfl rfl rfl rfl rfl n5 n13 n6 n14 n7 n15 n8 n16 n11 n17 (rF_ok hF) (rF_m hF)), by decide, by decide, fun r3 M3 hp3 => ?_⟩⟩
      obtain ⟨v0__, v1__, hrc, c0, c1, c2, fr3⟩ := hp3
      obtain ⟨mvc, c2, hmv⟩ : ∃ f : Nat → Int32, M3 82 = .inr (12, modF ad 82 f) ∧ (f 2 = 1 ∧ ∀ j : Nat, j ≠ 2 → f j = V 82 j) := ⟨_, c2, by rw [no_look n6 n14 (Or.inr gw)]; exact mv1 _ 1⟩
      obtain ⟨fc1, c0⟩ : ∃ f, M3 106 = .inl (cI, 5, .inl f) := ⟨_, c0⟩
      obtain ⟨fc2, c1⟩ : ∃ f, M3 107 = .inl (cI, 64, .inl f) := ⟨_, c1⟩
      have hM3 : M3 = pl ad cB cI cJ (va_up (va_up A 106 fc1) 107 fc2) (va_up V 82 mvc) R L := by
        refine pl_eq (A := A) (V := V) (R := R) (L := L) [106, 107, 82] (fun q hq => fr3 q (by rintro rfl; exact absurd (by decide) hq) (by rintro rfl; exact absurd (by decide) hq) (by rintro rfl; exact absurd (by decide) hq)) (fun q hq => ⟨((va_up_ne _ _ (nm hq (by decide : (107 : Nat) ∈ _))).trans (va_up_ne _ _ (nm hq (by decide : (106 : Nat) ∈ _)))), (va_up_ne _ _ (nm hq (by decide : (82 : Nat) ∈ _))), rfl, rfl⟩) (fun q hq => ?_)
        simp only [List.mem_cons, List.not_mem_nil, or_false] at hq
        rcases hq with rfl | rfl | rfl <;> first | exact c0 | exact c1 | exact c2
      exact ⟨(va_up (va_up A 106 fc1) 107 fc2), (va_up V 82 mvc), R, L, hM3, rfl, hmv.1, fun q => absurd q (by decide), INV_cg I (fun q hq => ((va_up_ne _ _ (nm hq (by decide : (107 : Nat) ∈ _))).trans (va_up_ne _ _ (nm hq (by decide : (106 : Nat) ∈ _))))) (fun q hq => (va_up_ne _ _ (nm hq (by decide : (82 : Nat) ∈ _)))) (fun q hq => rfl) (by first | exact ⟨rfl, rfl⟩ | (rcases hh with rfl | rfl <;> first | exact ⟨rfl, rfl⟩ | exact ⟨n12.symm, rfl⟩)) (by first | exact ⟨rfl, rfl⟩ | (rcases hh with rfl | rfl <;> first | exact ⟨rfl, rfl⟩ | exact ⟨n12.symm, rfl⟩)) hmv.2⟩
    · obtain ⟨gw0, gw1⟩ := rg2 gw
      obtain ⟨E1, E2⟩ := eq_look (nq := nq) (mv := V 82) (qf := A (h + 8)) (pt := A 101) (pr := A 102) hF n11 n15 n14 hT hC hL hW hl9 n6 n9 n10 hcx ex gw0 gw1
      refine Or.inl ⟨_, _, _, (c_X12_look l D cB cI cJ ad 128 (pl ad cB cI cJ A V R L) hI 0 1 h (116 - h) 3 4 7 14 17 24 31 44 46 (V 0 8) (V 0 9) nl nt (V 4 2) (V (h + 9) 2) (V (h + 9) 5) (V h) (A (h + 4)) (A (h + 6)) (A (h + 11)) (A (h + 13)) (A (h + 15)) (A 6) x y (by omega) (by omega) (by omega) (by omega) (by omega) (by omega) (by omega) (by omega) (by omega) (by omega) (by omega) (by omega) (by omega) (by omega) (by omega) (by omega) (pl_po r0) (pl_g r4) (ph_0 hh) (ph_3 hh) (ph_4 hh) (ph_5 hh) (ph_6 hh) (pl_rule hh n12) (ph_10 hh) (ph_11 hh) (ph_12 hh) (ph_13 hh) (ph_14 hh) (ph_15 hh) rfl rfl n3 n15 n17 (rF_c hF) (by omega) (by omega) gx0 gx1 gw0 gw1), by decide, by decide, fun r1 M1 hp1 => ?_⟩
      obtain ⟨v0__, v1__, v2__, hr1, b0, b1, b2, fr1⟩ := hp1
      obtain ⟨fb1, b0⟩ : ∃ f, M1 (h + 13) = .inl (cI, 5, .inl f) := ⟨_, b0⟩
      obtain ⟨fb2, b1⟩ : ∃ f, M1 (h + 15) = .inl (cI, 31, .inl f) := ⟨_, b1⟩
      obtain ⟨wb3, b2⟩ : ∃ f, M1 (h + 9) = .inr (5, ruleF ad (h + 9) (nI nl) (V (h + 9) 2) f) := ⟨_, b2⟩
      have hM1 : M1 = pl ad cB cI cJ (va_up (va_up (va_up (va_up A 63 (if h = 50 then fb1 else A 63)) 79 (if h = 66 then fb1 else A 79)) 65 (if h = 50 then fb2 else A 65)) 81 (if h = 66 then fb2 else A 81)) (va_up (va_up V 59 (if h = 50 then tv2 (nI nl) (V 59 2) wb3 else V 59)) 75 (if h = 66 then tv2 (nI nl) (V 75 2) wb3 else V 75)) R L := by
        refine pl_eq (A := A) (V := V) (R := R) (L := L) [63, 79, 65, 81, 59, 75] (fun q hq => fr1 q (by rintro rfl; rcases hh with rfl | rfl <;> exact absurd (by decide) hq) (by rintro rfl; rcases hh with rfl | rfl <;> exact absurd (by decide) hq) (by rintro rfl; rcases hh with rfl | rfl <;> exact absurd (by decide) hq)) (fun q hq => ⟨((va_up_ne _ _ (nm hq (by decide : (81 : Nat) ∈ _))).trans ((va_up_ne _ _ (nm hq (by decide : (65 : Nat) ∈ _))).trans ((va_up_ne _ _ (nm hq (by decide : (79 : Nat) ∈ _))).trans (va_up_ne _ _ (nm hq (by decide : (63 : Nat) ∈ _)))))), ((va_up_ne _ _ (nm hq (by decide : (75 : Nat) ∈ _))).trans (va_up_ne _ _ (nm hq (by decide : (59 : Nat) ∈ _)))), rfl, rfl⟩) (fun q hq => ?_)
        simp only [List.mem_cons, List.not_mem_nil, or_false] at hq
        rcases hh with rfl | rfl <;> rcases hq with rfl | rfl | rfl | rfl | rfl | rfl <;> first | exact b0 | exact b1 | exact b2 | exact fr1 _ (by decide) (by decide) (by decide)
      refine ⟨(va_up (va_up (va_up (va_up A 63 (if h = 50 then fb1 else A 63)) 79 (if h = 66 then fb1 else A 79)) 65 (if h = 50 then fb2 else A 65)) 81 (if h = 66 then fb2 else A 81)), (va_up (va_up V 59 (if h = 50 then tv2 (nI nl) (V 59 2) wb3 else V 59)) 75 (if h = 66 then tv2 (nI nl) (V 75 2) wb3 else V 75)), R, L, hM1, rfl, fun g => ⟨_, _, _, (c_X13_look l D cB cI cJ ad 128 (pl ad cB cI cJ (va_up (va_up (va_up (va_up A 63 (if h = 50 then fb1 else A 63)) 79 (if h = 66 then fb1 else A 79)) 65 (if h = 50 then fb2 else A 65)) 81 (if h = 66 then fb2 else A 81)) (va_up (va_up V 59 (if h = 50 then tv2 (nI nl) (V 59 2) wb3 else V 59)) 75 (if h = 66 then tv2 (nI nl) (V 75 2) wb3 else V 75)) R (va_up L 127 g)) hI 82 nt nc np nq (V 82) (A 85) (A 90) (A 93) (A 94) (A 95) (A 97) (A 99) (A 100) (A 103) (A 106) (A 107) nl x y (by omega) (by omega) (by omega) (by omega) (by omega) (by omega) (by omega) (by omega) (by omega) (by omega) (by omega) (by omega) rfl rfl rfl rfl rfl rfl rfl rfl rfl rfl rfl rfl n5 n13 n6 n14 n7 n15 n8 n16 n11 n17 (rF_ok hF) (rF_m hF)), by decide, by decide, fun r3 M3 hp3 => ?_⟩⟩
      obtain ⟨v0__, v1__, hrc, c0, c1, c2, fr3⟩ := hp3
      obtain ⟨mvc, c2, hmv⟩ : ∃ f : Nat → Int32, M3 82 = .inr (12, modF ad 82 f) ∧ (f 2 = 0 ∧ ∀ j : Nat, j ≠ 2 → f j = V 82 j) := ⟨_, c2, by rw [E2]; exact mv0 _⟩
      obtain ⟨fc1, c0⟩ : ∃ f, M3 106 = .inl (cI, 5, .inl f) := ⟨_, c0⟩
      obtain ⟨fc2, c1⟩ : ∃ f, M3 107 = .inl (cI, 64, .inl f) := ⟨_, c1⟩
      have hM3 : M3 = pl ad cB cI cJ (va_up (va_up (va_up (va_up (va_up (va_up A 63 (if h = 50 then fb1 else A 63)) 79 (if h = 66 then fb1 else A 79)) 65 (if h = 50 then fb2 else A 65)) 81 (if h = 66 then fb2 else A 81)) 106 fc1) 107 fc2) (va_up (va_up (va_up V 59 (if h = 50 then tv2 (nI nl) (V 59 2) wb3 else V 59)) 75 (if h = 66 then tv2 (nI nl) (V 75 2) wb3 else V 75)) 82 mvc) R (va_up L 127 g) := by
        refine pl_eq (A := (va_up (va_up (va_up (va_up A 63 (if h = 50 then fb1 else A 63)) 79 (if h = 66 then fb1 else A 79)) 65 (if h = 50 then fb2 else A 65)) 81 (if h = 66 then fb2 else A 81))) (V := (va_up (va_up V 59 (if h = 50 then tv2 (nI nl) (V 59 2) wb3 else V 59)) 75 (if h = 66 then tv2 (nI nl) (V 75 2) wb3 else V 75))) (R := R) (L := (va_up L 127 g)) [106, 107, 82] (fun q hq => fr3 q (by rintro rfl; exact absurd (by decide) hq) (by rintro rfl; exact absurd (by decide) hq) (by rintro rfl; exact absurd (by decide) hq)) (fun q hq => ⟨((va_up_ne _ _ (nm hq (by decide : (107 : Nat) ∈ _))).trans (va_up_ne _ _ (nm hq (by decide : (106 : Nat) ∈ _)))), (va_up_ne _ _ (nm hq (by decide : (82 : Nat) ∈ _))), rfl, rfl⟩) (fun q hq => ?_)
        simp only [List.mem_cons, List.not_mem_nil, or_false] at hq
        rcases hq with rfl | rfl | rfl <;> first | exact c0 | exact c1 | exact c2
      exact ⟨(va_up (va_up (va_up (va_up (va_up (va_up A 63 (if h = 50 then fb1 else A 63)) 79 (if h = 66 then fb1 else A 79)) 65 (if h = 50 then fb2 else A 65)) 81 (if h = 66 then fb2 else A 81)) 106 fc1) 107 fc2), (va_up (va_up (va_up V 59 (if h = 50 then tv2 (nI nl) (V 59 2) wb3 else V 59)) 75 (if h = 66 then tv2 (nI nl) (V 75 2) wb3 else V 75)) 82 mvc), R, (va_up L 127 g), hM3, rfl, hmv.1, fun _ => hrc.trans (E1.trans hr1.symm), INV_cg I (fun q hq => ((va_up_ne _ _ (nm hq (by decide : (107 : Nat) ∈ _))).trans ((va_up_ne _ _ (nm hq (by decide : (106 : Nat) ∈ _))).trans ((va_up_ne _ _ (nm hq (by decide : (81 : Nat) ∈ _))).trans ((va_up_ne _ _ (nm hq (by decide : (65 : Nat) ∈ _))).trans ((va_up_ne _ _ (nm hq (by decide : (79 : Nat) ∈ _))).trans (va_up_ne _ _ (nm hq (by decide : (63 : Nat) ∈ _))))))))) (fun q hq => ((va_up_ne _ _ (nm hq (by decide : (82 : Nat) ∈ _))).trans ((va_up_ne _ _ (nm hq (by decide : (75 : Nat) ∈ _))).trans (va_up_ne _ _ (nm hq (by decide : (59 : Nat) ∈ _)))))) (fun q hq => rfl) (by first | exact ⟨rfl, rfl⟩ | (rcases hh with rfl | rfl <;> first | exact ⟨rfl, rfl⟩ | exact ⟨n12.symm, rfl⟩)) (by first | exact ⟨rfl, rfl⟩ | (rcases hh with rfl | rfl <;> first | exact ⟨rfl, rfl⟩ | exact ⟨n12.symm, rfl⟩)) hmv.2⟩
  · refine Or.inr ⟨_, _, (x_X12_lookA l D cB cI cJ ad 128 (pl ad cB cI cJ A V R L) hlt 0 1 h (116 - h) 3 4 7 14 17 24 31 44 46 (V 0 8) (V 0 9) (V h) x y (by omega) (by omega) (pl_po r0) (ph_0 hh) gbx), by decide, by decide, ⟨_, _, _, (c_X13_look l D cB cI cJ ad 128 (pl ad cB cI cJ A V R L) hI 82 nt nc np nq (V 82) (A 85) (A 90) (A 93) (A 94) (A 95) (A 97) (A 99) (A 100) (A 103) (A 106) (A 107) nl x y (by omega) (by omega) (by omega) (by omega) (by omega) (by omega) (by omega) (by omega) (by omega) (by omega) (by omega) (by omega) rfl rfl rfl rfl rfl rfl rfl rfl rfl rfl rfl rfl n5 n13 n6 n14 n7 n15 n8 n16 n11 n17 (rF_ok hF) (rF_m hF)), by decide, by decide, fun r3 M3 hp3 => ?_⟩⟩
    obtain ⟨v0__, v1__, hrc, c0, c1, c2, fr3⟩ := hp3
    obtain ⟨mvc, c2, hmv⟩ : ∃ f : Nat → Int32, M3 82 = .inr (12, modF ad 82 f) ∧ (f 2 = 1 ∧ ∀ j : Nat, j ≠ 2 → f j = V 82 j) := ⟨_, c2, by rw [no_look n6 n14 (Or.inl nox)]; exact mv1 _ 1⟩
    obtain ⟨fc1, c0⟩ : ∃ f, M3 106 = .inl (cI, 5, .inl f) := ⟨_, c0⟩
    obtain ⟨fc2, c1⟩ : ∃ f, M3 107 = .inl (cI, 64, .inl f) := ⟨_, c1⟩
    have hM3 : M3 = pl ad cB cI cJ (va_up (va_up A 106 fc1) 107 fc2) (va_up V 82 mvc) R L := by
      refine pl_eq (A := A) (V := V) (R := R) (L := L) [106, 107, 82] (fun q hq => fr3 q (by rintro rfl; exact absurd (by decide) hq) (by rintro rfl; exact absurd (by decide) hq) (by rintro rfl; exact absurd (by decide) hq)) (fun q hq => ⟨((va_up_ne _ _ (nm hq (by decide : (107 : Nat) ∈ _))).trans (va_up_ne _ _ (nm hq (by decide : (106 : Nat) ∈ _)))), (va_up_ne _ _ (nm hq (by decide : (82 : Nat) ∈ _))), rfl, rfl⟩) (fun q hq => ?_)
      simp only [List.mem_cons, List.not_mem_nil, or_false] at hq
      rcases hq with rfl | rfl | rfl <;> first | exact c0 | exact c1 | exact c2
    exact ⟨(va_up (va_up A 106 fc1) 107 fc2), (va_up V 82 mvc), R, L, hM3, rfl, hmv.1, fun q => absurd q (by decide), INV_cg I (fun q hq => ((va_up_ne _ _ (nm hq (by decide : (107 : Nat) ∈ _))).trans (va_up_ne _ _ (nm hq (by decide : (106 : Nat) ∈ _))))) (fun q hq => (va_up_ne _ _ (nm hq (by decide : (82 : Nat) ∈ _)))) (fun q hq => rfl) (by first | exact ⟨rfl, rfl⟩ | (rcases hh with rfl | rfl <;> first | exact ⟨rfl, rfl⟩ | exact ⟨n12.symm, rfl⟩)) (by first | exact ⟨rfl, rfl⟩ | (rcases hh with rfl | rfl <;> first | exact ⟨rfl, rfl⟩ | exact ⟨n12.symm, rfl⟩)) hmv.2⟩
set_option maxHeartbeats 4000000 in
set_option maxRecDepth 100000 in
theorem sem_may (l : Launch) (hlt : l.stackTraces = false) (D : va_G) (cB cI cJ : ClassId) (ad : Nat → Nat) (hI : ipI ad 128) {A V : Nat → Nat → Int32} {R : Nat → Nat} {L : Nat → Nat → Int64} (I : INV A V R) (x y : Int32) : CF l D cB cI cJ ad A V R L yX12_may wsX12_may [.ref (ad 0), .int x, .int y] yX13_may wsX13_may [.ref (ad 82), .int x, .int y] ∨ CX l D cB cI cJ ad A V R L yX12_may wsX12_may [.ref (ad 0), .int x, .int y] yX13_may wsX13_may [.ref (ad 82), .int x, .int y] "java/util/NoSuchElementException" 1 := by
  obtain ⟨h, nt, nc, np, nq, nl, na, nk, ln, ⟨hh, r0, r4, q33⟩, ⟨t1, t2, t3, t4, t5⟩, ⟨n1, n2, n3, n4, n5, n6, n7, n8, n9, n10, n11, n12, n13, n14, n15, n16, n17⟩, ⟨hT, hC, hP, hQ, hF, wP, wC, wT, wQ⟩, ⟨s1, hL, hoL⟩, ⟨l1, l2, l3, hA, hoA, l6, l7, l8, hS2, h3⟩, hMi, hFt, hCr⟩ := id I
  have hh2 : 116 - h = 50 ∨ 116 - h = 66 := by omega
  have hz := wf_hz wT hT
  have hW := wf_wt wT n15
  have hl9 := wf_li wC
  rcases rng (x := x) n3 (by omega) with ⟨cx, hcx, ex⟩ | ⟨gbx, nox⟩
  · obtain ⟨gx0, gx1⟩ := rng_in n3 (by omega) hcx ex
    have E1 : s_X13_may nt nq (A 85) (A 87) (A 88) (A 91) (A 93) (A 94) (A 95) (A 97) (A 99) (A 100) (A 101) (A 102) x y = s_X12_may nt nq (V h) (A (h + 2)) (A (h + 4)) (A (h + 6)) (A (h + 8)) (A 6) x y := by
      unfold s_X13_may
      rw [if_neg (th_in n7 (by omega) hcx ex), ex]
      exact eq_may n15 n14 n13 n16 hT hC hP hQ hL hz n5 n6 n1 n2 hcx
    refine Or.inl ⟨_, _, _, cR_W (c_X12_may l D cB cI cJ ad 128 (pl ad cB cI cJ A V R L) 0 1 h (116 - h) 3 4 7 14 17 24 31 44 46 (V 0 8) (V 0 9) nt nc np nq (V 4 2) (V h) (A (h + 2)) (A (h + 4)) (A (h + 6)) (A (h + 8)) (A 6) x y (by omega) (by omega) (by omega) (by omega) (by omega) (by omega) (by omega) (by omega) (by omega) (by omega) (by omega) (by omega) (by omega) (pl_po r0) (pl_g r4) rfl rfl (ph_0 hh) (ph_5 hh) (ph_6 hh) (ph_1 hh) (ph_2 hh) (ph_3 hh) (ph_4 hh) (ph_7 hh) (ph_8 hh) n3 n15 n2 n14 n1 n13 n4 n16 gx0 gx1), by decide, by decide, fun r1 M1 hp1 => ?_⟩
    obtain ⟨hr1, rfl⟩ := hp1
    refine ⟨A, V, R, L, rfl, rfl, fun g => ⟨_, _, _, (c_X13_may l D cB cI cJ ad 128 (pl ad cB cI cJ A V R (va_up L 127 g)) hI 82 nt nc np nq (V 82) (A 85) (A 87) (A 88) (A 91) (A 93) (A 94) (A 95) (A 97) (A 99) (A 100) (A 101) (A 102) x y (by omega) (by omega) (by omega) (by omega) (by omega) (by omega) (by omega) (by omega) (by omega) (by omega) (by omega) (by omega) (by omega) rfl rfl rfl rfl rfl rfl rfl rfl rfl rfl rfl rfl rfl n5 n13 n6 n14 n7 n15 n8 n16), by decide, by decide, fun r3 M3 hp3 => ?_⟩⟩
    obtain ⟨hrc, c0, fr3⟩ := hp3
    obtain ⟨mvc, c0, hmv⟩ : ∃ f : Nat → Int32, M3 82 = .inr (12, modF ad 82 f) ∧ (f 2 = 0 ∧ ∀ j : Nat, j ≠ 2 → f j = V 82 j) := ⟨_, c0, by unfold s_X13_may_0_1; rw [if_neg (th_in n7 (by omega) hcx ex)]; exact mv0 _⟩
    have hM3 : M3 = pl ad cB cI cJ A (va_up V 82 mvc) R (va_up L 127 g) := by
      refine pl_eq (A := A) (V := V) (R := R) (L := (va_up L 127 g)) [82] (fun q hq => fr3 q (by rintro rfl; exact absurd (by decide) hq)) (fun q hq => ⟨rfl, (va_up_ne _ _ (nm hq (by decide : (82 : Nat) ∈ _))), rfl, rfl⟩) (fun q hq => ?_)
      simp only [List.mem_cons, List.not_mem_nil, or_false] at hq
      rcases hq with rfl <;> first | exact c0
    exact ⟨A, (va_up V 82 mvc), R, (va_up L 127 g), hM3, rfl, hmv.1, fun _ => hrc.trans (E1.trans hr1.symm), INV_cg I (fun q hq => rfl) (fun q hq => (va_up_ne _ _ (nm hq (by decide : (82 : Nat) ∈ _)))) (fun q hq => rfl) (by first | exact ⟨rfl, rfl⟩ | (rcases hh with rfl | rfl <;> first | exact ⟨rfl, rfl⟩ | exact ⟨n12.symm, rfl⟩)) (by first | exact ⟨rfl, rfl⟩ | (rcases hh with rfl | rfl <;> first | exact ⟨rfl, rfl⟩ | exact ⟨n12.symm, rfl⟩)) hmv.2⟩
  · refine Or.inr ⟨_, _, (x_X12_mayA l D cB cI cJ ad 128 (pl ad cB cI cJ A V R L) hlt 0 1 h (116 - h) 3 4 7 14 17 24 31 44 46 (V 0 8) (V 0 9) (V h) x y (by omega) (by omega) (pl_po r0) (ph_0 hh) gbx), by decide, by decide, ⟨_, _, _, (c_X13_may l D cB cI cJ ad 128 (pl ad cB cI cJ A V R L) hI 82 nt nc np nq (V 82) (A 85) (A 87) (A 88) (A 91) (A 93) (A 94) (A 95) (A 97) (A 99) (A 100) (A 101) (A 102) x y (by omega) (by omega) (by omega) (by omega) (by omega) (by omega) (by omega) (by omega) (by omega) (by omega) (by omega) (by omega) (by omega) rfl rfl rfl rfl rfl rfl rfl rfl rfl rfl rfl rfl rfl n5 n13 n6 n14 n7 n15 n8 n16), by decide, by decide, fun r3 M3 hp3 => ?_⟩⟩
    obtain ⟨hrc, c0, fr3⟩ := hp3
    obtain ⟨mvc, c0, hmv⟩ : ∃ f : Nat → Int32, M3 82 = .inr (12, modF ad 82 f) ∧ (f 2 = 1 ∧ ∀ j : Nat, j ≠ 2 → f j = V 82 j) := ⟨_, c0, by unfold s_X13_may_0_1; rw [if_pos (th_out n7 (by omega) nox)]; exact mv1 _ 1⟩
    have hM3 : M3 = pl ad cB cI cJ A (va_up V 82 mvc) R L := by
      refine pl_eq (A := A) (V := V) (R := R) (L := L) [82] (fun q hq => fr3 q (by rintro rfl; exact absurd (by decide) hq)) (fun q hq => ⟨rfl, (va_up_ne _ _ (nm hq (by decide : (82 : Nat) ∈ _))), rfl, rfl⟩) (fun q hq => ?_)
      simp only [List.mem_cons, List.not_mem_nil, or_false] at hq
      rcases hq with rfl <;> first | exact c0
    exact ⟨A, (va_up V 82 mvc), R, L, hM3, rfl, hmv.1, fun q => absurd q (by decide), INV_cg I (fun q hq => rfl) (fun q hq => (va_up_ne _ _ (nm hq (by decide : (82 : Nat) ∈ _)))) (fun q hq => rfl) (by first | exact ⟨rfl, rfl⟩ | (rcases hh with rfl | rfl <;> first | exact ⟨rfl, rfl⟩ | exact ⟨n12.symm, rfl⟩)) (by first | exact ⟨rfl, rfl⟩ | (rcases hh with rfl | rfl <;> first | exact ⟨rfl, rfl⟩ | exact ⟨n12.symm, rfl⟩)) hmv.2⟩
set_option maxHeartbeats 4000000 in
set_option maxRecDepth 100000 in
theorem sem_lost (l : Launch) (hlt : l.stackTraces = false) (D : va_G) (cB cI cJ : ClassId) (ad : Nat → Nat) (hI : ipI ad 128) {A V : Nat → Nat → Int32} {R : Nat → Nat} {L : Nat → Nat → Int64} (I : INV A V R) (x : Int32) : CF l D cB cI cJ ad A V R L yX12_lost wsX12_lost [.ref (ad 0), .int x] yX13_lost wsX13_lost [.ref (ad 82), .int x] ∨ CX l D cB cI cJ ad A V R L yX12_lost wsX12_lost [.ref (ad 0), .int x] yX13_lost wsX13_lost [.ref (ad 82), .int x] "java/util/NoSuchElementException" 1 := by
  obtain ⟨h, nt, nc, np, nq, nl, na, nk, ln, ⟨hh, r0, r4, q33⟩, ⟨t1, t2, t3, t4, t5⟩, ⟨n1, n2, n3, n4, n5, n6, n7, n8, n9, n10, n11, n12, n13, n14, n15, n16, n17⟩, ⟨hT, hC, hP, hQ, hF, wP, wC, wT, wQ⟩, ⟨s1, hL, hoL⟩, ⟨l1, l2, l3, hA, hoA, l6, l7, l8, hS2, h3⟩, hMi, hFt, hCr⟩ := id I
  have hh2 : 116 - h = 50 ∨ 116 - h = 66 := by omega
  have hz := wf_hz wT hT
  have hW := wf_wt wT n15
  have hl9 := wf_li wC
  rcases rng (x := x) n2 (by omega) with ⟨cx, hcx, ex⟩ | ⟨gbx, nox⟩
  · obtain ⟨gx0, gx1⟩ := rng_in n2 (by omega) hcx ex
    have E1 : s_X13_lost nt np (A 85) (A 89) (A 94) (A 100) x = s_X12_lost nt nc np (A (h + 4)) (A (h + 6)) (A 6) x := by
      unfold s_X13_lost
      rw [if_neg (cs_in n6 (by omega) hcx ex)]
      exact eq_lost n15 n14 hT hC hL n6
    refine Or.inl ⟨_, _, _, cR_W (c_X12_lost l D cB cI cJ ad 128 (pl ad cB cI cJ A V R L) 0 1 h (116 - h) 3 4 7 14 17 24 31 44 46 (V 0 8) (V 0 9) nt nc np (V 4 2) (V h) (A (h + 4)) (A (h + 6)) (A 6) x (by omega) (by omega) (by omega) (by omega) (by omega) (by omega) (by omega) (by omega) (by omega) (pl_po r0) (pl_g r4) rfl rfl (ph_0 hh) (ph_5 hh) (ph_6 hh) (ph_3 hh) (ph_4 hh) n3 n15 n2 n14 n1 n13 gx0 gx1), by decide, by decide, fun r1 M1 hp1 => ?_⟩
    obtain ⟨hr1, rfl⟩ := hp1
    refine ⟨A, V, R, L, rfl, rfl, fun g => ⟨_, _, _, (c_X13_lost l D cB cI cJ ad 128 (pl ad cB cI cJ A V R (va_up L 127 g)) hI 82 nt nc np nq (V 82) (A 85) (A 89) (A 94) (A 100) x (by omega) (by omega) (by omega) (by omega) (by omega) rfl rfl rfl rfl rfl n5 n13 n6 n14 n7 n15 n8 n16), by decide, by decide, fun r3 M3 hp3 => ?_⟩⟩
    obtain ⟨hrc, c0, fr3⟩ := hp3
    obtain ⟨mvc, c0, hmv⟩ : ∃ f : Nat → Int32, M3 82 = .inr (12, modF ad 82 f) ∧ (f 2 = 0 ∧ ∀ j : Nat, j ≠ 2 → f j = V 82 j) := ⟨_, c0, by unfold s_X13_lost_0_1; rw [if_neg (cs_in n6 (by omega) hcx ex)]; exact mv0 _⟩
    have hM3 : M3 = pl ad cB cI cJ A (va_up V 82 mvc) R (va_up L 127 g) := by
      refine pl_eq (A := A) (V := V) (R := R) (L := (va_up L 127 g)) [82] (fun q hq => fr3 q (by rintro rfl; exact absurd (by decide) hq)) (fun q hq => ⟨rfl, (va_up_ne _ _ (nm hq (by decide : (82 : Nat) ∈ _))), rfl, rfl⟩) (fun q hq => ?_)
      simp only [List.mem_cons, List.not_mem_nil, or_false] at hq
      rcases hq with rfl <;> first | exact c0
    exact ⟨A, (va_up V 82 mvc), R, (va_up L 127 g), hM3, rfl, hmv.1, fun _ => hrc.trans (E1.trans hr1.symm), INV_cg I (fun q hq => rfl) (fun q hq => (va_up_ne _ _ (nm hq (by decide : (82 : Nat) ∈ _)))) (fun q hq => rfl) (by first | exact ⟨rfl, rfl⟩ | (rcases hh with rfl | rfl <;> first | exact ⟨rfl, rfl⟩ | exact ⟨n12.symm, rfl⟩)) (by first | exact ⟨rfl, rfl⟩ | (rcases hh with rfl | rfl <;> first | exact ⟨rfl, rfl⟩ | exact ⟨n12.symm, rfl⟩)) hmv.2⟩
  · refine Or.inr ⟨_, _, (x_X12_lostA l D cB cI cJ ad 128 (pl ad cB cI cJ A V R L) hlt 0 1 h (116 - h) 3 4 7 14 17 24 31 44 46 (V 0 8) (V 0 9) (V h) x (by omega) (by omega) (pl_po r0) (ph_0 hh) gbx), by decide, by decide, ⟨_, _, _, (c_X13_lost l D cB cI cJ ad 128 (pl ad cB cI cJ A V R L) hI 82 nt nc np nq (V 82) (A 85) (A 89) (A 94) (A 100) x (by omega) (by omega) (by omega) (by omega) (by omega) rfl rfl rfl rfl rfl n5 n13 n6 n14 n7 n15 n8 n16), by decide, by decide, fun r3 M3 hp3 => ?_⟩⟩
    obtain ⟨hrc, c0, fr3⟩ := hp3
    obtain ⟨mvc, c0, hmv⟩ : ∃ f : Nat → Int32, M3 82 = .inr (12, modF ad 82 f) ∧ (f 2 = 1 ∧ ∀ j : Nat, j ≠ 2 → f j = V 82 j) := ⟨_, c0, by unfold s_X13_lost_0_1; rw [if_pos (cs_out n6 (by omega) nox)]; exact mv1 _ 1⟩
    have hM3 : M3 = pl ad cB cI cJ A (va_up V 82 mvc) R L := by
      refine pl_eq (A := A) (V := V) (R := R) (L := L) [82] (fun q hq => fr3 q (by rintro rfl; exact absurd (by decide) hq)) (fun q hq => ⟨rfl, (va_up_ne _ _ (nm hq (by decide : (82 : Nat) ∈ _))), rfl, rfl⟩) (fun q hq => ?_)
      simp only [List.mem_cons, List.not_mem_nil, or_false] at hq
      rcases hq with rfl <;> first | exact c0
    exact ⟨A, (va_up V 82 mvc), R, L, hM3, rfl, hmv.1, fun q => absurd q (by decide), INV_cg I (fun q hq => rfl) (fun q hq => (va_up_ne _ _ (nm hq (by decide : (82 : Nat) ∈ _)))) (fun q hq => rfl) (by first | exact ⟨rfl, rfl⟩ | (rcases hh with rfl | rfl <;> first | exact ⟨rfl, rfl⟩ | exact ⟨n12.symm, rfl⟩)) (by first | exact ⟨rfl, rfl⟩ | (rcases hh with rfl | rfl <;> first | exact ⟨rfl, rfl⟩ | exact ⟨n12.symm, rfl⟩)) hmv.2⟩
set_option maxHeartbeats 4000000 in
set_option maxRecDepth 100000 in
theorem sem_bill (l : Launch) (hlt : l.stackTraces = false) (D : va_G) (cB cI cJ : ClassId) (ad : Nat → Nat) (hI : ipI ad 128) {A V : Nat → Nat → Int32} {R : Nat → Nat} {L : Nat → Nat → Int64} (I : INV A V R) : CF l D cB cI cJ ad A V R L yX12_bill wsX12_bill [.ref (ad 0)] yX13_bill wsX13_bill [.ref (ad 82)] := by
  obtain ⟨h, nt, nc, np, nq, nl, na, nk, ln, ⟨hh, r0, r4, q33⟩, ⟨t1, t2, t3, t4, t5⟩, ⟨n1, n2, n3, n4, n5, n6, n7, n8, n9, n10, n11, n12, n13, n14, n15, n16, n17⟩, ⟨hT, hC, hP, hQ, hF, wP, wC, wT, wQ⟩, ⟨s1, hL, hoL⟩, ⟨l1, l2, l3, hA, hoA, l6, l7, l8, hS2, h3⟩, hMi, hFt, hCr⟩ := id I
  have hh2 : 116 - h = 50 ∨ 116 - h = 66 := by omega
  have hz := wf_hz wT hT
  have hW := wf_wt wT n15
  have hl9 := wf_li wC
  have E1 : s_X13_bill nt nc nq (V 82) (A 85) (A 90) (A 92) (A 93) (A 94) (A 95) (A 97) (A 98) (A 99) (A 100) (A 101) (A 102) (A 103) nl = s_X12_bill nl nt nc nq (V 4 2) (V (h + 9) 2) (A (h + 4)) (A (h + 6)) (A (h + 8)) (A (h + 11)) (A 6) := by
    unfold s_X13_bill
    rw [eq_bill hF n11 n15 n14 n16 hT hC hQ hL hW hl9, show (upd (V 82) 2 0) 36 = V 82 36 from rfl, s1]
  refine ⟨_, _, _, (c_X12_bill l D cB cI cJ ad 128 (pl ad cB cI cJ A V R L) hI 0 1 h (116 - h) 3 4 7 14 17 24 31 44 46 (V 0 8) (V 0 9) nl nt nc nq (V 4 2) (V (h + 9) 2) (V (h + 9) 5) (V h) (A (h + 4)) (A (h + 6)) (A (h + 8)) (A (h + 11)) (A (h + 13)) (A (h + 15)) (A 6) (by omega) (by omega) (by omega) (by omega) (by omega) (by omega) (by omega) (by omega) (by omega) (by omega) (by omega) (by omega) (by omega) (by omega) (by omega) (by omega) (by omega) (by omega) (pl_po r0) (pl_g r4) (ph_0 hh) (ph_3 hh) (ph_4 hh) (ph_5 hh) (ph_6 hh) (pl_rule hh n12) (ph_10 hh) (ph_11 hh) (ph_12 hh) (ph_13 hh) (ph_14 hh) (ph_15 hh) rfl rfl (ph_7 hh) (ph_8 hh) n3 n15 n2 n14 n4 n16 n17 (rF_c hF) (by omega)), by decide, by decide, fun r1 M1 hp1 => ?_⟩
  obtain ⟨v0__, v1__, v2__, hr1, b0, b1, b2, fr1⟩ := hp1
  obtain ⟨fb1, b0⟩ : ∃ f, M1 (h + 13) = .inl (cI, 5, .inl f) := ⟨_, b0⟩
  obtain ⟨fb2, b1⟩ : ∃ f, M1 (h + 15) = .inl (cI, 31, .inl f) := ⟨_, b1⟩
  obtain ⟨wb3, b2⟩ : ∃ f, M1 (h + 9) = .inr (5, ruleF ad (h + 9) (nI nl) (V (h + 9) 2) f) := ⟨_, b2⟩
  have hM1 : M1 = pl ad cB cI cJ (va_up (va_up (va_up (va_up A 63 (if h = 50 then fb1 else A 63)) 79 (if h = 66 then fb1 else A 79)) 65 (if h = 50 then fb2 else A 65)) 81 (if h = 66 then fb2 else A 81)) (va_up (va_up V 59 (if h = 50 then tv2 (nI nl) (V 59 2) wb3 else V 59)) 75 (if h = 66 then tv2 (nI nl) (V 75 2) wb3 else V 75)) R L := by
    refine pl_eq (A := A) (V := V) (R := R) (L := L) [63, 79, 65, 81, 59, 75] (fun q hq => fr1 q (by rintro rfl; rcases hh with rfl | rfl <;> exact absurd (by decide) hq) (by rintro rfl; rcases hh with rfl | rfl <;> exact absurd (by decide) hq) (by rintro rfl; rcases hh with rfl | rfl <;> exact absurd (by decide) hq)) (fun q hq => ⟨((va_up_ne _ _ (nm hq (by decide : (81 : Nat) ∈ _))).trans ((va_up_ne _ _ (nm hq (by decide : (65 : Nat) ∈ _))).trans ((va_up_ne _ _ (nm hq (by decide : (79 : Nat) ∈ _))).trans (va_up_ne _ _ (nm hq (by decide : (63 : Nat) ∈ _)))))), ((va_up_ne _ _ (nm hq (by decide : (75 : Nat) ∈ _))).trans (va_up_ne _ _ (nm hq (by decide : (59 : Nat) ∈ _)))), rfl, rfl⟩) (fun q hq => ?_)
    simp only [List.mem_cons, List.not_mem_nil, or_false] at hq
    rcases hh with rfl | rfl <;> rcases hq with rfl | rfl | rfl | rfl | rfl | rfl <;> first | exact b0 | exact b1 | exact b2 | exact fr1 _ (by decide) (by decide) (by decide)
  refine ⟨(va_up (va_up (va_up (va_up A 63 (if h = 50 then fb1 else A 63)) 79 (if h = 66 then fb1 else A 79)) 65 (if h = 50 then fb2 else A 65)) 81 (if h = 66 then fb2 else A 81)), (va_up (va_up V 59 (if h = 50 then tv2 (nI nl) (V 59 2) wb3 else V 59)) 75 (if h = 66 then tv2 (nI nl) (V 75 2) wb3 else V 75)), R, L, hM1, rfl, fun g => ⟨_, _, _, (c_X13_bill l D cB cI cJ ad 128 (pl ad cB cI cJ (va_up (va_up (va_up (va_up A 63 (if h = 50 then fb1 else A 63)) 79 (if h = 66 then fb1 else A 79)) 65 (if h = 50 then fb2 else A 65)) 81 (if h = 66 then fb2 else A 81)) (va_up (va_up V 59 (if h = 50 then tv2 (nI nl) (V 59 2) wb3 else V 59)) 75 (if h = 66 then tv2 (nI nl) (V 75 2) wb3 else V 75)) R (va_up L 127 g)) hI 82 nt nc np nq (V 82) (A 85) (A 90) (A 92) (A 93) (A 94) (A 95) (A 97) (A 98) (A 99) (A 100) (A 101) (A 102) (A 103) (A 106) (A 107) nl (by omega) (by omega) (by omega) (by omega) (by omega) (by omega) (by omega) (by omega) (by omega) (by omega) (by omega) (by omega) (by omega) (by omega) (by omega) (by omega) rfl rfl rfl rfl rfl rfl rfl rfl rfl rfl rfl rfl rfl rfl rfl rfl n5 n13 n6 n14 n7 n15 n8 n16 n11 n17 (rF_ok hF) (rF_m hF)), by decide, by decide, fun r3 M3 hp3 => ?_⟩⟩
  obtain ⟨v0__, v1__, hrc, c0, c1, c2, fr3⟩ := hp3
  obtain ⟨mvc, c0, hmv⟩ : ∃ f : Nat → Int32, M3 82 = .inr (12, modF ad 82 f) ∧ (f 2 = 0 ∧ ∀ j : Nat, j ≠ 2 → f j = V 82 j) := ⟨_, c0, mv0 _⟩
  obtain ⟨fc2, c1⟩ : ∃ f, M3 106 = .inl (cI, 5, .inl f) := ⟨_, c1⟩
  obtain ⟨fc3, c2⟩ : ∃ f, M3 107 = .inl (cI, 64, .inl f) := ⟨_, c2⟩
  have hM3 : M3 = pl ad cB cI cJ (va_up (va_up (va_up (va_up (va_up (va_up A 63 (if h = 50 then fb1 else A 63)) 79 (if h = 66 then fb1 else A 79)) 65 (if h = 50 then fb2 else A 65)) 81 (if h = 66 then fb2 else A 81)) 106 fc2) 107 fc3) (va_up (va_up (va_up V 59 (if h = 50 then tv2 (nI nl) (V 59 2) wb3 else V 59)) 75 (if h = 66 then tv2 (nI nl) (V 75 2) wb3 else V 75)) 82 mvc) R (va_up L 127 g) := by
    refine pl_eq (A := (va_up (va_up (va_up (va_up A 63 (if h = 50 then fb1 else A 63)) 79 (if h = 66 then fb1 else A 79)) 65 (if h = 50 then fb2 else A 65)) 81 (if h = 66 then fb2 else A 81))) (V := (va_up (va_up V 59 (if h = 50 then tv2 (nI nl) (V 59 2) wb3 else V 59)) 75 (if h = 66 then tv2 (nI nl) (V 75 2) wb3 else V 75))) (R := R) (L := (va_up L 127 g)) [82, 106, 107] (fun q hq => fr3 q (by rintro rfl; exact absurd (by decide) hq) (by rintro rfl; exact absurd (by decide) hq) (by rintro rfl; exact absurd (by decide) hq)) (fun q hq => ⟨((va_up_ne _ _ (nm hq (by decide : (107 : Nat) ∈ _))).trans (va_up_ne _ _ (nm hq (by decide : (106 : Nat) ∈ _)))), (va_up_ne _ _ (nm hq (by decide : (82 : Nat) ∈ _))), rfl, rfl⟩) (fun q hq => ?_)
    simp only [List.mem_cons, List.not_mem_nil, or_false] at hq
    rcases hq with rfl | rfl | rfl <;> first | exact c0 | exact c1 | exact c2
  exact ⟨(va_up (va_up (va_up (va_up (va_up (va_up A 63 (if h = 50 then fb1 else A 63)) 79 (if h = 66 then fb1 else A 79)) 65 (if h = 50 then fb2 else A 65)) 81 (if h = 66 then fb2 else A 81)) 106 fc2) 107 fc3), (va_up (va_up (va_up V 59 (if h = 50 then tv2 (nI nl) (V 59 2) wb3 else V 59)) 75 (if h = 66 then tv2 (nI nl) (V 75 2) wb3 else V 75)) 82 mvc), R, (va_up L 127 g), hM3, rfl, hmv.1, fun _ => hrc.trans (E1.trans hr1.symm), INV_cg I (fun q hq => ((va_up_ne _ _ (nm hq (by decide : (107 : Nat) ∈ _))).trans ((va_up_ne _ _ (nm hq (by decide : (106 : Nat) ∈ _))).trans ((va_up_ne _ _ (nm hq (by decide : (81 : Nat) ∈ _))).trans ((va_up_ne _ _ (nm hq (by decide : (65 : Nat) ∈ _))).trans ((va_up_ne _ _ (nm hq (by decide : (79 : Nat) ∈ _))).trans (va_up_ne _ _ (nm hq (by decide : (63 : Nat) ∈ _))))))))) (fun q hq => ((va_up_ne _ _ (nm hq (by decide : (82 : Nat) ∈ _))).trans ((va_up_ne _ _ (nm hq (by decide : (75 : Nat) ∈ _))).trans (va_up_ne _ _ (nm hq (by decide : (59 : Nat) ∈ _)))))) (fun q hq => rfl) (by first | exact ⟨rfl, rfl⟩ | (rcases hh with rfl | rfl <;> first | exact ⟨rfl, rfl⟩ | exact ⟨n12.symm, rfl⟩)) (by first | exact ⟨rfl, rfl⟩ | (rcases hh with rfl | rfl <;> first | exact ⟨rfl, rfl⟩ | exact ⟨n12.symm, rfl⟩)) hmv.2⟩
set_option maxHeartbeats 4000000 in
set_option maxRecDepth 100000 in
theorem sem_lawful (l : Launch) (hlt : l.stackTraces = false) (D : va_G) (cB cI cJ : ClassId) (ad : Nat → Nat) (hI : ipI ad 128) {A V : Nat → Nat → Int32} {R : Nat → Nat} {L : Nat → Nat → Int64} (I : INV A V R) : CF l D cB cI cJ ad A V R L yX12_lawful wsX12_lawful [.ref (ad 0)] yX13_lawful wsX13_lawful [.ref (ad 82)] := by
  obtain ⟨h, nt, nc, np, nq, nl, na, nk, ln, ⟨hh, r0, r4, q33⟩, ⟨t1, t2, t3, t4, t5⟩, ⟨n1, n2, n3, n4, n5, n6, n7, n8, n9, n10, n11, n12, n13, n14, n15, n16, n17⟩, ⟨hT, hC, hP, hQ, hF, wP, wC, wT, wQ⟩, ⟨s1, hL, hoL⟩, ⟨l1, l2, l3, hA, hoA, l6, l7, l8, hS2, h3⟩, hMi, hFt, hCr⟩ := id I
  have hh2 : 116 - h = 50 ∨ 116 - h = 66 := by omega
  have hz := wf_hz wT hT
  have hW := wf_wt wT n15
  have hl9 := wf_li wC
  refine ⟨_, _, _, cR_W (c_X12_lawful l D cB cI cJ ad 128 (pl ad cB cI cJ A V R L) 0 1 h (116 - h) 3 4 7 14 17 24 31 44 46 (V 0 8) (V 0 9) nt nc (V 4 2) (V h) (A (h + 4)) (A (h + 6)) (A 6) (by omega) (by omega) (by omega) (by omega) (by omega) (by omega) (by omega) (by omega) (by omega) (pl_po r0) (pl_g r4) rfl rfl (ph_0 hh) (ph_5 hh) (ph_6 hh) (ph_3 hh) (ph_4 hh) n3 n15 n2 n14), by decide, by decide, fun r1 M1 hp1 => ?_⟩
  obtain ⟨hr1, rfl⟩ := hp1
  refine ⟨A, V, R, L, rfl, rfl, fun g => ⟨_, _, _, (c_X13_lawful l D cB cI cJ ad 128 (pl ad cB cI cJ A V R (va_up L 127 g)) hI 82 nt nc np nq (V 82) (A 85) (A 90) (A 94) (A 95) (A 97) (A 99) (A 100) (by omega) (by omega) (by omega) (by omega) (by omega) (by omega) (by omega) (by omega) rfl rfl rfl rfl rfl rfl rfl rfl n5 n13 n6 n14 n7 n15 n8 n16), by decide, by decide, fun r3 M3 hp3 => ?_⟩⟩
  obtain ⟨hrc, c0, fr3⟩ := hp3
  obtain ⟨mvc, c0, hmv⟩ : ∃ f : Nat → Int32, M3 82 = .inr (12, modF ad 82 f) ∧ (f 2 = 0 ∧ ∀ j : Nat, j ≠ 2 → f j = V 82 j) := ⟨_, c0, mv0 _⟩
  have hM3 : M3 = pl ad cB cI cJ A (va_up V 82 mvc) R (va_up L 127 g) := by
    refine pl_eq (A := A) (V := V) (R := R) (L := (va_up L 127 g)) [82] (fun q hq => fr3 q (by rintro rfl; exact absurd (by decide) hq)) (fun q hq => ⟨rfl, (va_up_ne _ _ (nm hq (by decide : (82 : Nat) ∈ _))), rfl, rfl⟩) (fun q hq => ?_)
    simp only [List.mem_cons, List.not_mem_nil, or_false] at hq
    rcases hq with rfl <;> first | exact c0
  exact ⟨A, (va_up V 82 mvc), R, (va_up L 127 g), hM3, rfl, hmv.1, fun _ => hrc.trans ((eq_lawful n15 n14 hT hC hL).trans hr1.symm), INV_cg I (fun q hq => rfl) (fun q hq => (va_up_ne _ _ (nm hq (by decide : (82 : Nat) ∈ _)))) (fun q hq => rfl) (by first | exact ⟨rfl, rfl⟩ | (rcases hh with rfl | rfl <;> first | exact ⟨rfl, rfl⟩ | exact ⟨n12.symm, rfl⟩)) (by first | exact ⟨rfl, rfl⟩ | (rcases hh with rfl | rfl <;> first | exact ⟨rfl, rfl⟩ | exact ⟨n12.symm, rfl⟩)) hmv.2⟩
set_option maxHeartbeats 4000000 in
set_option maxRecDepth 100000 in
theorem sem_safe (l : Launch) (hlt : l.stackTraces = false) (D : va_G) (cB cI cJ : ClassId) (ad : Nat → Nat) (hI : ipI ad 128) {A V : Nat → Nat → Int32} {R : Nat → Nat} {L : Nat → Nat → Int64} (I : INV A V R) : CF l D cB cI cJ ad A V R L yX12_safe wsX12_safe [.ref (ad 0)] yX13_safe wsX13_safe [.ref (ad 82)] := by
  obtain ⟨h, nt, nc, np, nq, nl, na, nk, ln, ⟨hh, r0, r4, q33⟩, ⟨t1, t2, t3, t4, t5⟩, ⟨n1, n2, n3, n4, n5, n6, n7, n8, n9, n10, n11, n12, n13, n14, n15, n16, n17⟩, ⟨hT, hC, hP, hQ, hF, wP, wC, wT, wQ⟩, ⟨s1, hL, hoL⟩, ⟨l1, l2, l3, hA, hoA, l6, l7, l8, hS2, h3⟩, hMi, hFt, hCr⟩ := id I
  have hh2 : 116 - h = 50 ∨ 116 - h = 66 := by omega
  have hz := wf_hz wT hT
  have hW := wf_wt wT n15
  have hl9 := wf_li wC
  refine ⟨_, _, _, cR_W (c_X12_safe l D cB cI cJ ad 128 (pl ad cB cI cJ A V R L) 0 1 h (116 - h) 3 4 7 14 17 24 31 44 46 (V 0 8) (V 0 9) nt nc np (V 4 2) (V h) (A (h + 4)) (A (h + 6)) (A 6) (by omega) (by omega) (by omega) (by omega) (by omega) (by omega) (by omega) (by omega) (by omega) (pl_po r0) (pl_g r4) rfl rfl (ph_0 hh) (ph_5 hh) (ph_6 hh) (ph_3 hh) (ph_4 hh) n3 n15 n2 n14 n1 n13), by decide, by decide, fun r1 M1 hp1 => ?_⟩
  obtain ⟨hr1, rfl⟩ := hp1
  refine ⟨A, V, R, L, rfl, rfl, fun g => ⟨_, _, _, (c_X13_safe l D cB cI cJ ad 128 (pl ad cB cI cJ A V R (va_up L 127 g)) hI 82 nt nc np nq (V 82) (A 85) (A 89) (A 94) (A 100) (by omega) (by omega) (by omega) (by omega) (by omega) rfl rfl rfl rfl rfl n5 n13 n6 n14 n7 n15 n8 n16), by decide, by decide, fun r3 M3 hp3 => ?_⟩⟩
  obtain ⟨hrc, c0, fr3⟩ := hp3
  obtain ⟨mvc, c0, hmv⟩ : ∃ f : Nat → Int32, M3 82 = .inr (12, modF ad 82 f) ∧ (f 2 = 0 ∧ ∀ j : Nat, j ≠ 2 → f j = V 82 j) := ⟨_, c0, mv0 _⟩
  have hM3 : M3 = pl ad cB cI cJ A (va_up V 82 mvc) R (va_up L 127 g) := by
    refine pl_eq (A := A) (V := V) (R := R) (L := (va_up L 127 g)) [82] (fun q hq => fr3 q (by rintro rfl; exact absurd (by decide) hq)) (fun q hq => ⟨rfl, (va_up_ne _ _ (nm hq (by decide : (82 : Nat) ∈ _))), rfl, rfl⟩) (fun q hq => ?_)
    simp only [List.mem_cons, List.not_mem_nil, or_false] at hq
    rcases hq with rfl <;> first | exact c0
  exact ⟨A, (va_up V 82 mvc), R, (va_up L 127 g), hM3, rfl, hmv.1, fun _ => hrc.trans ((eq_safe n15 n14 hT hC hL n6).trans hr1.symm), INV_cg I (fun q hq => rfl) (fun q hq => (va_up_ne _ _ (nm hq (by decide : (82 : Nat) ∈ _)))) (fun q hq => rfl) (by first | exact ⟨rfl, rfl⟩ | (rcases hh with rfl | rfl <;> first | exact ⟨rfl, rfl⟩ | exact ⟨n12.symm, rfl⟩)) (by first | exact ⟨rfl, rfl⟩ | (rcases hh with rfl | rfl <;> first | exact ⟨rfl, rfl⟩ | exact ⟨n12.symm, rfl⟩)) hmv.2⟩
end
