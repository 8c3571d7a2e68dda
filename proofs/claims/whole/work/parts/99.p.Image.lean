/-! what each call does to both sides: image -/
noncomputable section
def imA : List Nat := [16, 19, 21, 23, 120, 121, 122, 123, 124, 125, 126]
theorem INV_im {A V A' V' : Nat → Nat → Int32} {R R' : Nat → Nat} (I : INV A V R) (hA : ∀ q : Nat, q ∉ imA → A' q = A q) (hV : ∀ q : Nat, q ∉ [0, 14, 17, 82] → V' q = V q) (hR : ∀ q : Nat, q ∉ [14] → R' q = R q) (h09 : V' 0 9 = V 0 9) (h82 : ∀ j : Nat, j ∉ [2, 56, 57, 58, 59] → V' 82 j = V 82 j) (H : ∀ h nt na nk : Nat, R 4 = h → nt ≤ 12 → iS A V nt → iL A V nt na nk → iM A' V' R' h nt) : INV A' V' R' := by
  obtain ⟨h, nt, nc, np, nq, nl, na, nk, ln, ⟨hh, r0, r4, q33⟩, ⟨t1, t2, t3, t4, t5⟩, ⟨n1, n2, n3, n4, n5, n6, n7, n8, n9, n10, n11, n12, n13, n14, n15, n16, n17⟩, ⟨hT, hC, hP, hQ, hF, wP, wC, wT, wQ⟩, hS, hL, -, hf, ⟨c1, c2⟩⟩ := I
  have hM := H h nt na nk r4 n15 hS hL
  obtain ⟨s1, s2, s3⟩ := hS
  obtain ⟨l1, l2, l3, l4, l5, l6, l7, l8, l9, l10⟩ := hL
  have v1 := hV 1 (by decide)
  have v4 := hV 4 (by decide)
  have v7 := hV 7 (by decide)
  have v31 := hV 31 (by decide)
  have e0 := hR 0 (by decide)
  have e4 := hR 4 (by decide)
  have a2 := hA 2 (by decide)
  have a6 := hA 6 (by decide)
  have a9 := hA 9 (by decide)
  have a11 := hA 11 (by decide)
  have a13 := hA 13 (by decide)
  have a33 := hA 33 (by decide)
  have a39 := hA 39 (by decide)
  have a85 := hA 85 (by decide)
  have a86 := hA 86 (by decide)
  have a87 := hA 87 (by decide)
  have a88 := hA 88 (by decide)
  have a89 := hA 89 (by decide)
  have a90 := hA 90 (by decide)
  have a91 := hA 91 (by decide)
  have a92 := hA 92 (by decide)
  have a93 := hA 93 (by decide)
  have a94 := hA 94 (by decide)
  have a95 := hA 95 (by decide)
  have a96 := hA 96 (by decide)
  have a97 := hA 97 (by decide)
  have a98 := hA 98 (by decide)
  have a99 := hA 99 (by decide)
  have a100 := hA 100 (by decide)
  have a101 := hA 101 (by decide)
  have a102 := hA 102 (by decide)
  have a103 := hA 103 (by decide)
  have a104 := hA 104 (by decide)
  have a105 := hA 105 (by decide)
  have a108 := hA 108 (by decide)
  have a109 := hA 109 (by decide)
  have a110 := hA 110 (by decide)
  have a112 := hA 112 (by decide)
  have a116 := hA 116 (by decide)
  have a118 := hA 118 (by decide)
  have a119 := hA 119 (by decide)
  have j (k : Nat) (hk : k ∉ [2, 56, 57, 58, 59]) := h82 k hk
  rcases hh with rfl | rfl
  · have vh := hV 50 (by decide)
    have vr := hV 59 (by decide)
    have b2 := hA 52 (by decide)
    have b4 := hA 54 (by decide)
    have b6 := hA 56 (by decide)
    have b8 := hA 58 (by decide)
    have b11 := hA 61 (by decide)
    refine ⟨50, nt, nc, np, nq, nl, na, nk, ln, ⟨Or.inl rfl, by rw [e0]; exact r0, by rw [e4]; exact r4, by rw [h09, j 33 (by decide)]; exact q33⟩, ⟨by rw [v1]; exact t1, by rw [j 24 (by decide)]; exact t2, t3, by rw [a2, a105]; exact t4, by rw [a105]; exact t5⟩, ⟨by rw [vh]; exact n1, by rw [vh]; exact n2, by rw [vh]; exact n3, by rw [vh]; exact n4, by rw [a85]; exact n5, by rw [a85]; exact n6, by rw [a85]; exact n7, by rw [a85]; exact n8, by rw [a85, vh]; exact n9, by rw [a85, vh]; exact n10, by rw [a85]; exact n11, (show V' 59 1 = nI nl by rw [vr]; exact n12), n13, n14, n15, n16, n17⟩, ⟨?_, ?_, ?_, ?_, ?_, ?_, ?_, ?_, ?_⟩, ⟨by rw [j 36 (by decide), v4]; exact s1, by rw [a6, a100]; exact s2, by rw [a100]; exact s3⟩, ⟨by rw [v7]; exact l1, by rw [j 37 (by decide)]; exact l2, l3, by rw [a9, a108, a109, a110]; exact l4, by rw [a108]; exact l5, by rw [v7]; exact l6, by rw [j 38 (by decide)]; exact l7, l8, by rw [a11, a118, a119]; exact l9, by rw [a104, a13]; exact l10⟩, hM, ?_, ⟨by rw [j 53 (by decide), v31]; exact c1, by rw [v31, a116, a39]; exact c2⟩⟩
    · show rlT nt (A' 56) _ _ _ _ _ _; rw [b6, a94, a95, a96, a97, a98, a99]; exact hT
    · show rlC nc (A' 54) _ _ _ _ _; rw [b4, a89, a90, a91, a92, a93]; exact hC
    · show rlP np (A' 52) _ _ _; rw [b2, a86, a87, a88]; exact hP
    · show rlQ nq (A' 58) _ _; rw [b8, a101, a102]; exact hQ
    · show rlF nl (V' 59 2) (A' 61) _; rw [vr, b11, a103]; exact hF
    · show wfP np (A' 52); rw [b2]; exact wP
    · show wfC nc np (A' 54); rw [b4]; exact wC
    · show wfT nt nc (A' 56); rw [b6]; exact wT
    · show wfQ nq (A' 58); rw [b8]; exact wQ
    · unfold iF
      rw [v31, j 45 (by decide), j 46 (by decide), a112, a33]
      exact hf
  · have vh := hV 66 (by decide)
    have vr := hV 75 (by decide)
    have b2 := hA 68 (by decide)
    have b4 := hA 70 (by decide)
    have b6 := hA 72 (by decide)
    have b8 := hA 74 (by decide)
    have b11 := hA 77 (by decide)
    refine ⟨66, nt, nc, np, nq, nl, na, nk, ln, ⟨Or.inr rfl, by rw [e0]; exact r0, by rw [e4]; exact r4, by rw [h09, j 33 (by decide)]; exact q33⟩, ⟨by rw [v1]; exact t1, by rw [j 24 (by decide)]; exact t2, t3, by rw [a2, a105]; exact t4, by rw [a105]; exact t5⟩, ⟨by rw [vh]; exact n1, by rw [vh]; exact n2, by rw [vh]; exact n3, by rw [vh]; exact n4, by rw [a85]; exact n5, by rw [a85]; exact n6, by rw [a85]; exact n7, by rw [a85]; exact n8, by rw [a85, vh]; exact n9, by rw [a85, vh]; exact n10, by rw [a85]; exact n11, (show V' 75 1 = nI nl by rw [vr]; exact n12), n13, n14, n15, n16, n17⟩, ⟨?_, ?_, ?_, ?_, ?_, ?_, ?_, ?_, ?_⟩, ⟨by rw [j 36 (by decide), v4]; exact s1, by rw [a6, a100]; exact s2, by rw [a100]; exact s3⟩, ⟨by rw [v7]; exact l1, by rw [j 37 (by decide)]; exact l2, l3, by rw [a9, a108, a109, a110]; exact l4, by rw [a108]; exact l5, by rw [v7]; exact l6, by rw [j 38 (by decide)]; exact l7, l8, by rw [a11, a118, a119]; exact l9, by rw [a104, a13]; exact l10⟩, hM, ?_, ⟨by rw [j 53 (by decide), v31]; exact c1, by rw [v31, a116, a39]; exact c2⟩⟩
    · show rlT nt (A' 72) _ _ _ _ _ _; rw [b6, a94, a95, a96, a97, a98, a99]; exact hT
    · show rlC nc (A' 70) _ _ _ _ _; rw [b4, a89, a90, a91, a92, a93]; exact hC
    · show rlP np (A' 68) _ _ _; rw [b2, a86, a87, a88]; exact hP
    · show rlQ nq (A' 74) _ _; rw [b8, a101, a102]; exact hQ
    · show rlF nl (V' 75 2) (A' 77) _; rw [vr, b11, a103]; exact hF
    · show wfP np (A' 68); rw [b2]; exact wP
    · show wfC nc np (A' 70); rw [b4]; exact wC
    · show wfT nt nc (A' 72); rw [b6]; exact wT
    · show wfQ nq (A' 74); rw [b8]; exact wQ
    · unfold iF
      rw [v31, j 45 (by decide), j 46 (by decide), a112, a33]
      exact hf
abbrev CV (l : Launch) (D : va_G) (cB cI cJ : ClassId) (ad : Nat → Nat) (A V : Nat → Nat → Int32) (R : Nat → Nat) (L : Nat → Nat → Int64) (y1 : MethodName) (ws1 : List Cond) (As1 : List Value) (y3 : MethodName) (ws3 : List Cond) (As3 : List Value) : Prop :=
  ∃ (fr lo : Nat) (post : (Nat → va_E) → Prop), cWv l D cB cI cJ ad 128 (pl ad cB cI cJ A V R L) y1 ws1 fr lo As1 post ∧ fr ≤ 60 ∧ lo ≤ 1300 ∧ ∀ M : Nat → va_E, post M → ∃ (A1 V1 : Nat → Nat → Int32) (R1 : Nat → Nat) (L1 : Nat → Nat → Int64), M = pl ad cB cI cJ A1 V1 R1 L1 ∧ L1 127 = L 127 ∧
    ∃ (fr3 lo3 : Nat) (post3 : (Nat → va_E) → Prop), cWv l D cB cI cJ ad 128 (pl ad cB cI cJ A1 V1 R1 L1) y3 ws3 fr3 lo3 As3 post3 ∧ fr3 ≤ 60 ∧ lo3 ≤ 2000 ∧ ∀ M3 : Nat → va_E, post3 M3 → ∃ (A3 V3 : Nat → Nat → Int32) (R3 : Nat → Nat) (L3 : Nat → Nat → Int64), M3 = pl ad cB cI cJ A3 V3 R3 L3 ∧ L3 127 = L1 127 ∧ INV A3 V3 R3
set_option maxHeartbeats 4000000 in
set_option maxRecDepth 100000 in
theorem sem_image (l : Launch) (hlt : l.stackTraces = false) (D : va_G) (cB cI cJ : ClassId) (ad : Nat → Nat) (hI : ipI ad 128) {A V : Nat → Nat → Int32} {R : Nat → Nat} {L : Nat → Nat → Int64} (I : INV A V R) : CV l D cB cI cJ ad A V R L yX12_image wsX12_image [.ref (ad 0)] yX13_image wsX13_image [.ref (ad 82)] := by
  obtain ⟨h, nt, nc, np, nq, nl, na, nk, ln, ⟨hh, r0, r4, q33⟩, ⟨t1, t2, t3, t4, t5⟩, ⟨n1, n2, n3, n4, n5, n6, n7, n8, n9, n10, n11, n12, n13, n14, n15, n16, n17⟩, ⟨hT, hC, hP, hQ, hF, wP, wC, wT, wQ⟩, ⟨s1, hL, hoL⟩, ⟨l1, l2, l3, hA, hoA, l6, l7, l8, hS2, h3⟩, hMi, hFt, hCr⟩ := id I
  have hh2 : 116 - h = 50 ∨ 116 - h = 66 := by omega
  have hz := wf_hz wT hT
  have hW := wf_wt wT n15
  have hl9 := wf_li wC
  clear hh2 hz hW hl9
  refine ⟨_, _, _, (c_X12_image l D cB cI cJ ad 128 (pl ad cB cI cJ A V R L) hI 0 1 h (116 - h) 3 4 7 14 17 24 31 44 46 (V 0 8) (V 0 9) (R 14) (R 4) (V 7 1) (V 7 3) (V 17 1) (V 17 3) (V 4 2) (V 14 2) (A 9) (A 11) (A 13) (A 19) (A 21) (A 23) (A 6) (A 16) (by omega) (by omega) (by omega) (by omega) (by omega) (by omega) (by omega) (by omega) (by omega) (by omega) (by omega) (by omega) (by omega) (by omega) (by omega) (by omega) (by omega) (by omega) (by omega) (by omega) (by omega) (pl_po r0) rfl rfl rfl rfl rfl rfl rfl rfl rfl rfl rfl rfl rfl rfl rfl rfl rfl rfl rfl rfl (by omega) (by omega) (by omega) (by omega) (by omega) (by omega) (by omega) (by omega) (by omega) (by omega) (by omega) (by omega)), by decide, by decide, fun M1 hp1 => ?_⟩
  obtain ⟨b0, b1, b2, b3, b4, b5, b6, fr1⟩ := hp1
  have hM1 : M1 = pl ad cB cI cJ (va_up (va_up (va_up (va_up A 16 (fun q => tat 12 (A 6) (nI q))) 19 (fun q => tat 120 (A 9) (nI q))) 21 (fun q => tat 12 (A 11) (nI q))) 23 (fun q => tat 3 (A 13) (nI q))) (va_up (va_up (va_up V 14 (upd (V 14) 2 (V 4 2))) 17 (upd (upd (V 17) 1 (V 7 1)) 3 (V 7 3))) 0 (upd (V 0) 8 1)) (va_up R 14 (R 4)) L := by
    refine pl_eq (A := A) (V := V) (R := R) (L := L) [14, 16, 19, 21, 17, 23, 0] (fun q hq => fr1 q (by rintro rfl; exact absurd (by decide) hq) (by rintro rfl; exact absurd (by decide) hq) (by rintro rfl; exact absurd (by decide) hq) (by rintro rfl; exact absurd (by decide) hq) (by rintro rfl; exact absurd (by decide) hq) (by rintro rfl; exact absurd (by decide) hq) (by rintro rfl; exact absurd (by decide) hq)) (fun q hq => ⟨((va_up_ne _ _ (nm hq (by decide : (23 : Nat) ∈ _))).trans ((va_up_ne _ _ (nm hq (by decide : (21 : Nat) ∈ _))).trans ((va_up_ne _ _ (nm hq (by decide : (19 : Nat) ∈ _))).trans (va_up_ne _ _ (nm hq (by decide : (16 : Nat) ∈ _)))))), ((va_up_ne _ _ (nm hq (by decide : (0 : Nat) ∈ _))).trans ((va_up_ne _ _ (nm hq (by decide : (17 : Nat) ∈ _))).trans (va_up_ne _ _ (nm hq (by decide : (14 : Nat) ∈ _))))), (va_up_ne _ _ (nm hq (by decide : (14 : Nat) ∈ _))), rfl⟩) (fun q hq => ?_)
    simp only [List.mem_cons, List.not_mem_nil, or_false] at hq
    rcases hq with rfl | rfl | rfl | rfl | rfl | rfl | rfl <;> first | exact b0 | exact b1 | exact b2 | exact b3 | exact b4 | exact b5 | (refine b6.trans ?_; subst r0; rfl)
  refine ⟨(va_up (va_up (va_up (va_up A 16 (fun q => tat 12 (A 6) (nI q))) 19 (fun q => tat 120 (A 9) (nI q))) 21 (fun q => tat 12 (A 11) (nI q))) 23 (fun q => tat 3 (A 13) (nI q))), (va_up (va_up (va_up V 14 (upd (V 14) 2 (V 4 2))) 17 (upd (upd (V 17) 1 (V 7 1)) 3 (V 7 3))) 0 (upd (V 0) 8 1)), (va_up R 14 (R 4)), L, hM1, rfl, _, _, _, (c_X13_image l D cB cI cJ ad 128 (pl ad cB cI cJ (va_up (va_up (va_up (va_up A 16 (fun q => tat 12 (A 6) (nI q))) 19 (fun q => tat 120 (A 9) (nI q))) 21 (fun q => tat 12 (A 11) (nI q))) 23 (fun q => tat 3 (A 13) (nI q))) (va_up (va_up (va_up V 14 (upd (V 14) 2 (V 4 2))) 17 (upd (upd (V 17) 1 (V 7 1)) 3 (V 7 3))) 0 (upd (V 0) 8 1)) (va_up R 14 (R 4)) L) hI 82 (V 82) (A 100) (A 104) (A 108) (A 109) (A 110) (A 118) (A 119) (A 120) (A 121) (A 122) (A 123) (A 124) (A 125) (A 126) (by omega) (by omega) (by omega) (by omega) (by omega) (by omega) (by omega) (by omega) (by omega) (by omega) (by omega) (by omega) (by omega) (by omega) (by omega) rfl rfl rfl rfl rfl rfl rfl rfl rfl rfl rfl rfl rfl rfl rfl), by decide, by decide, fun M3 hp3 => ?_⟩
  obtain ⟨c0, c1, c2, c3, c4, c5, c6, c7, fr3⟩ := hp3
  have hM3 : M3 = pl ad cB cI cJ (va_up (va_up (va_up (va_up (va_up (va_up (va_up (va_up (va_up (va_up (va_up A 16 (fun q => tat 12 (A 6) (nI q))) 19 (fun q => tat 120 (A 9) (nI q))) 21 (fun q => tat 12 (A 11) (nI q))) 23 (fun q => tat 3 (A 13) (nI q))) 120 (A 100)) 121 (A 108)) 122 (A 109)) 123 (A 110)) 124 (A 118)) 125 (A 119)) 126 (A 104)) (va_up (va_up (va_up (va_up V 14 (upd (V 14) 2 (V 4 2))) 17 (upd (upd (V 17) 1 (V 7 1)) 3 (V 7 3))) 0 (upd (V 0) 8 1)) 82 (upd (upd (upd (upd (upd (V 82) 2 0) 56 1) 57 ((V 82) 36)) 58 ((V 82) 37)) 59 ((V 82) 38))) (va_up R 14 (R 4)) L := by
    refine pl_eq (A := (va_up (va_up (va_up (va_up A 16 (fun q => tat 12 (A 6) (nI q))) 19 (fun q => tat 120 (A 9) (nI q))) 21 (fun q => tat 12 (A 11) (nI q))) 23 (fun q => tat 3 (A 13) (nI q)))) (V := (va_up (va_up (va_up V 14 (upd (V 14) 2 (V 4 2))) 17 (upd (upd (V 17) 1 (V 7 1)) 3 (V 7 3))) 0 (upd (V 0) 8 1))) (R := (va_up R 14 (R 4))) (L := L) [82, 120, 121, 122, 123, 124, 125, 126] (fun q hq => fr3 q (by rintro rfl; exact absurd (by decide) hq) (by rintro rfl; exact absurd (by decide) hq) (by rintro rfl; exact absurd (by decide) hq) (by rintro rfl; exact absurd (by decide) hq) (by rintro rfl; exact absurd (by decide) hq) (by rintro rfl; exact absurd (by decide) hq) (by rintro rfl; exact absurd (by decide) hq) (by rintro rfl; exact absurd (by decide) hq)) (fun q hq => ⟨((va_up_ne _ _ (nm hq (by decide : (126 : Nat) ∈ _))).trans ((va_up_ne _ _ (nm hq (by decide : (125 : Nat) ∈ _))).trans ((va_up_ne _ _ (nm hq (by decide : (124 : Nat) ∈ _))).trans ((va_up_ne _ _ (nm hq (by decide : (123 : Nat) ∈ _))).trans ((va_up_ne _ _ (nm hq (by decide : (122 : Nat) ∈ _))).trans ((va_up_ne _ _ (nm hq (by decide : (121 : Nat) ∈ _))).trans (va_up_ne _ _ (nm hq (by decide : (120 : Nat) ∈ _))))))))), (va_up_ne _ _ (nm hq (by decide : (82 : Nat) ∈ _))), rfl, rfl⟩) (fun q hq => ?_)
    simp only [List.mem_cons, List.not_mem_nil, or_false] at hq
    rcases hq with rfl | rfl | rfl | rfl | rfl | rfl | rfl | rfl <;> first | exact c0 | exact c1 | exact c2 | exact c3 | exact c4 | exact c5 | exact c6 | exact c7
  refine ⟨(va_up (va_up (va_up (va_up (va_up (va_up (va_up (va_up (va_up (va_up (va_up A 16 (fun q => tat 12 (A 6) (nI q))) 19 (fun q => tat 120 (A 9) (nI q))) 21 (fun q => tat 12 (A 11) (nI q))) 23 (fun q => tat 3 (A 13) (nI q))) 120 (A 100)) 121 (A 108)) 122 (A 109)) 123 (A 110)) 124 (A 118)) 125 (A 119)) 126 (A 104)), (va_up (va_up (va_up (va_up V 14 (upd (V 14) 2 (V 4 2))) 17 (upd (upd (V 17) 1 (V 7 1)) 3 (V 7 3))) 0 (upd (V 0) 8 1)) 82 (upd (upd (upd (upd (upd (V 82) 2 0) 56 1) 57 ((V 82) 36)) 58 ((V 82) 37)) 59 ((V 82) 38))), (va_up R 14 (R 4)), L, hM3, rfl, ?_⟩
  refine INV_im I (fun q hq => ((va_up_ne _ _ (nm hq (by decide : (126 : Nat) ∈ _))).trans ((va_up_ne _ _ (nm hq (by decide : (125 : Nat) ∈ _))).trans ((va_up_ne _ _ (nm hq (by decide : (124 : Nat) ∈ _))).trans ((va_up_ne _ _ (nm hq (by decide : (123 : Nat) ∈ _))).trans ((va_up_ne _ _ (nm hq (by decide : (122 : Nat) ∈ _))).trans ((va_up_ne _ _ (nm hq (by decide : (121 : Nat) ∈ _))).trans ((va_up_ne _ _ (nm hq (by decide : (120 : Nat) ∈ _))).trans ((va_up_ne _ _ (nm hq (by decide : (23 : Nat) ∈ _))).trans ((va_up_ne _ _ (nm hq (by decide : (21 : Nat) ∈ _))).trans ((va_up_ne _ _ (nm hq (by decide : (19 : Nat) ∈ _))).trans (va_up_ne _ _ (nm hq (by decide : (16 : Nat) ∈ _)))))))))))))) (fun q hq => ((va_up_ne _ _ (nm hq (by decide : (82 : Nat) ∈ _))).trans ((va_up_ne _ _ (nm hq (by decide : (0 : Nat) ∈ _))).trans ((va_up_ne _ _ (nm hq (by decide : (17 : Nat) ∈ _))).trans (va_up_ne _ _ (nm hq (by decide : (14 : Nat) ∈ _))))))) (fun q hq => (va_up_ne _ _ (nm hq (by decide : (14 : Nat) ∈ _)))) rfl (fun q hq => ?_) (fun h9 nt9 na9 nk9 e4 n15 hS hL => ?_)
  · exact (if_neg (nm hq (by decide))).trans ((if_neg (nm hq (by decide))).trans ((if_neg (nm hq (by decide))).trans ((if_neg (nm hq (by decide))).trans (if_neg (nm hq (by decide))))))
  · obtain ⟨y1, y2, y3⟩ := hS
    obtain ⟨l1, l2, l3, l4, l5, l6, l7, l8, l9, l10⟩ := hL
    exact ⟨rfl, Or.inr ⟨na9, nk9, e4, y1, cpPl n15 y2, y3, l1, l2, l3, cpA l3 l4, l5, l6, l7, l8, cpSn l8 l9, cp3 l10⟩⟩
end
