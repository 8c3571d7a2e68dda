/-! fates and carriers change: what holds between calls goes on -/
noncomputable section
def fcA : List Nat := [26, 28, 30, 35, 37, 41, 43, 49, 63, 65, 79, 81, 106, 107, 111, 113, 117, 33, 39, 112, 116]
def fcV : List Nat := [24, 31, 44, 46, 47, 59, 75, 82]
theorem INV_fc {A V A' V' : Nat → Nat → Int32} {R R' : Nat → Nat} (I : INV A V R) (hA : ∀ q : Nat, q ∉ fcA → A' q = A q) (hV : ∀ q : Nat, q ∉ fcV → V' q = V q) (hR : ∀ q : Nat, q ∉ [1, 3, 44, 47] → R' q = R q) (h59 : V' 59 1 = V 59 1 ∧ V' 59 2 = V 59 2) (h75 : V' 75 1 = V 75 1 ∧ V' 75 2 = V 75 2) (h82 : ∀ j : Nat, j ∉ [2, 45, 46, 47, 48, 53] → V' 82 j = V 82 j) (H : ∀ nt nc : Nat, A 85 2 = nI nt → nt ≤ 12 → A 85 1 = nI nc → nc ≤ 5 → iF A V nt → iC A V nc → iF A' V' nt ∧ iC A' V' nc) : INV A' V' R' := by
  obtain ⟨h, nt, nc, np, nq, nl, na, nk, ln, ⟨hh, r0, r4, q33⟩, ⟨t1, t2, t3, t4, t5⟩, ⟨n1, n2, n3, n4, n5, n6, n7, n8, n9, n10, n11, n12, n13, n14, n15, n16, n17⟩, ⟨hT, hC, hP, hQ, hF, wP, wC, wT, wQ⟩, ⟨s1, s2, s3⟩, ⟨l1, l2, l3, l4, l5, l6, l7, l8, l9, l10⟩, ⟨m1, m2⟩, hf, hc⟩ := I
  obtain ⟨hf, hc⟩ := H nt nc n7 n15 n6 n14 hf hc
  have v0 := hV 0 (by decide)
  have v1 := hV 1 (by decide)
  have v4 := hV 4 (by decide)
  have v7 := hV 7 (by decide)
  have v14 := hV 14 (by decide)
  have v17 := hV 17 (by decide)
  have e0 := hR 0 (by decide)
  have e4 := hR 4 (by decide)
  have e14 := hR 14 (by decide)
  have a2 := hA 2 (by decide)
  have a6 := hA 6 (by decide)
  have a9 := hA 9 (by decide)
  have a11 := hA 11 (by decide)
  have a13 := hA 13 (by decide)
  have a16 := hA 16 (by decide)
  have a19 := hA 19 (by decide)
  have a21 := hA 21 (by decide)
  have a23 := hA 23 (by decide)
  have a85 := hA 85 (by decide)
  have a86 := hA 86 (by decide)
  have a87 := hA 87 (by decide)
  have a88 := hA 88 (by decide)
  have a89 := hA 89 (by decide)
  have a90 := hA 90 (by decide)
  have a91 := hA 91 (by decide)
  have a92 := hA 92 (by decide)
  have a93 := hA 93 (by decide)
  have a94 := hA 94 (by decide)
  have a95 := hA 95 (by decide)
  have a96 := hA 96 (by decide)
  have a97 := hA 97 (by decide)
  have a98 := hA 98 (by decide)
  have a99 := hA 99 (by decide)
  have a100 := hA 100 (by decide)
  have a101 := hA 101 (by decide)
  have a102 := hA 102 (by decide)
  have a103 := hA 103 (by decide)
  have a104 := hA 104 (by decide)
  have a105 := hA 105 (by decide)
  have a108 := hA 108 (by decide)
  have a109 := hA 109 (by decide)
  have a110 := hA 110 (by decide)
  have a118 := hA 118 (by decide)
  have a119 := hA 119 (by decide)
  have a120 := hA 120 (by decide)
  have a121 := hA 121 (by decide)
  have a122 := hA 122 (by decide)
  have a123 := hA 123 (by decide)
  have a124 := hA 124 (by decide)
  have a125 := hA 125 (by decide)
  have a126 := hA 126 (by decide)
  have j (k : Nat) (hk : k ∉ [2, 45, 46, 47, 48, 53]) := h82 k hk
  rcases hh with rfl | rfl
  · have vh := hV 50 (by decide)
    have vr : V' 59 1 = V 59 1 ∧ V' 59 2 = V 59 2 := h59
    have b2 := hA 52 (by decide)
    have b4 := hA 54 (by decide)
    have b6 := hA 56 (by decide)
    have b8 := hA 58 (by decide)
    have b11 := hA 61 (by decide)
    refine ⟨50, nt, nc, np, nq, nl, na, nk, ln, ⟨Or.inl rfl, by rw [e0]; exact r0, by rw [e4]; exact r4, by rw [v0, j 33 (by decide)]; exact q33⟩, ⟨by rw [v1]; exact t1, by rw [j 24 (by decide)]; exact t2, t3, by rw [a2, a105]; exact t4, by rw [a105]; exact t5⟩, ⟨by rw [vh]; exact n1, by rw [vh]; exact n2, by rw [vh]; exact n3, by rw [vh]; exact n4, by rw [a85]; exact n5, by rw [a85]; exact n6, by rw [a85]; exact n7, by rw [a85]; exact n8, by rw [a85, vh]; exact n9, by rw [a85, vh]; exact n10, by rw [a85]; exact n11, vr.1.trans n12, n13, n14, n15, n16, n17⟩, ⟨?_, ?_, ?_, ?_, ?_, ?_, ?_, ?_, ?_⟩, ⟨by rw [j 36 (by decide), v4]; exact s1, by rw [a6, a100]; exact s2, by rw [a100]; exact s3⟩, ⟨by rw [v7]; exact l1, by rw [j 37 (by decide)]; exact l2, l3, by rw [a9, a108, a109, a110]; exact l4, by rw [a108]; exact l5, by rw [v7]; exact l6, by rw [j 38 (by decide)]; exact l7, l8, by rw [a11, a118, a119]; exact l9, by rw [a104, a13]; exact l10⟩, ⟨by rw [j 56 (by decide), v0]; exact m1, ?_⟩, hf, hc⟩
    · show rlT nt (A' 56) _ _ _ _ _ _; rw [b6, a94, a95, a96, a97, a98, a99]; exact hT
    · show rlC nc (A' 54) _ _ _ _ _; rw [b4, a89, a90, a91, a92, a93]; exact hC
    · show rlP np (A' 52) _ _ _; rw [b2, a86, a87, a88]; exact hP
    · show rlQ nq (A' 58) _ _; rw [b8, a101, a102]; exact hQ
    · show rlF nl (V' 59 2) (A' 61) _; rw [vr.2, b11, a103]; exact hF
    · show wfP np (A' 52); rw [b2]; exact wP
    · show wfC nc np (A' 54); rw [b4]; exact wC
    · show wfT nt nc (A' 56); rw [b6]; exact wT
    · show wfQ nq (A' 58); rw [b8]; exact wQ
    · rw [v0]
      refine m2.imp id (fun ⟨ia, ik, x1, x2, x3, x4, x5, x6, x7, x8, x9, x10, x11, x12, x13, x14⟩ => ⟨ia, ik, by rw [e14]; exact x1, by rw [j 57 (by decide), v14]; exact x2, by rw [a16, a120]; exact x3, by rw [a120]; exact x4, by rw [v17]; exact x5, by rw [j 58 (by decide)]; exact x6, x7, by rw [a19, a121, a122, a123]; exact x8, by rw [a121]; exact x9, by rw [v17]; exact x10, by rw [j 59 (by decide)]; exact x11, x12, by rw [a21, a124, a125]; exact x13, by rw [a126, a23]; exact x14⟩)
  · have vh := hV 66 (by decide)
    have vr : V' 75 1 = V 75 1 ∧ V' 75 2 = V 75 2 := h75
    have b2 := hA 68 (by decide)
    have b4 := hA 70 (by decide)
    have b6 := hA 72 (by decide)
    have b8 := hA 74 (by decide)
    have b11 := hA 77 (by decide)
    refine ⟨66, nt, nc, np, nq, nl, na, nk, ln, ⟨Or.inr rfl, by rw [e0]; exact r0, by rw [e4]; exact r4, by rw [v0, j 33 (by decide)]; exact q33⟩, ⟨by rw [v1]; exact t1, by rw [j 24 (by decide)]; exact t2, t3, by rw [a2, a105]; exact t4, by rw [a105]; exact t5⟩, ⟨by rw [vh]; exact n1, by rw [vh]; exact n2, by rw [vh]; exact n3, by rw [vh]; exact n4, by rw [a85]; exact n5, by rw [a85]; exact n6, by rw [a85]; exact n7, by rw [a85]; exact n8, by rw [a85, vh]; exact n9, by rw [a85, vh]; exact n10, by rw [a85]; exact n11, vr.1.trans n12, n13, n14, n15, n16, n17⟩, ⟨?_, ?_, ?_, ?_, ?_, ?_, ?_, ?_, ?_⟩, ⟨by rw [j 36 (by decide), v4]; exact s1, by rw [a6, a100]; exact s2, by rw [a100]; exact s3⟩, ⟨by rw [v7]; exact l1, by rw [j 37 (by decide)]; exact l2, l3, by rw [a9, a108, a109, a110]; exact l4, by rw [a108]; exact l5, by rw [v7]; exact l6, by rw [j 38 (by decide)]; exact l7, l8, by rw [a11, a118, a119]; exact l9, by rw [a104, a13]; exact l10⟩, ⟨by rw [j 56 (by decide), v0]; exact m1, ?_⟩, hf, hc⟩
    · show rlT nt (A' 72) _ _ _ _ _ _; rw [b6, a94, a95, a96, a97, a98, a99]; exact hT
    · show rlC nc (A' 70) _ _ _ _ _; rw [b4, a89, a90, a91, a92, a93]; exact hC
    · show rlP np (A' 68) _ _ _; rw [b2, a86, a87, a88]; exact hP
    · show rlQ nq (A' 74) _ _; rw [b8, a101, a102]; exact hQ
    · show rlF nl (V' 75 2) (A' 77) _; rw [vr.2, b11, a103]; exact hF
    · show wfP np (A' 68); rw [b2]; exact wP
    · show wfC nc np (A' 70); rw [b4]; exact wC
    · show wfT nt nc (A' 72); rw [b6]; exact wT
    · show wfQ nq (A' 74); rw [b8]; exact wQ
    · rw [v0]
      refine m2.imp id (fun ⟨ia, ik, x1, x2, x3, x4, x5, x6, x7, x8, x9, x10, x11, x12, x13, x14⟩ => ⟨ia, ik, by rw [e14]; exact x1, by rw [j 57 (by decide), v14]; exact x2, by rw [a16, a120]; exact x3, by rw [a120]; exact x4, by rw [v17]; exact x5, by rw [j 58 (by decide)]; exact x6, x7, by rw [a19, a121, a122, a123]; exact x8, by rw [a121]; exact x9, by rw [v17]; exact x10, by rw [j 59 (by decide)]; exact x11, x12, by rw [a21, a124, a125]; exact x13, by rw [a126, a23]; exact x14⟩)
end
