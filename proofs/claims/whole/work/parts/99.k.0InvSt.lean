/-! the standing and the log change: what holds between calls goes on -/
noncomputable section
def stA : List Nat := [6, 9, 11, 13, 100, 104, 108, 109, 110, 118, 119]
theorem INV_st {A V A' V' : Nat → Nat → Int32} {R R' : Nat → Nat} (I : INV A V R) (hA : ∀ q : Nat, q ∉ stA → A' q = A q) (hV : ∀ q : Nat, q ∉ [4, 7, 82] → V' q = V q) (hR : ∀ q : Nat, q ∉ [1, 3, 44, 47] → R' q = R q) (h82 : ∀ j : Nat, j ∉ [2, 36, 37, 38] → V' 82 j = V 82 j) (H : ∀ nt : Nat, A 85 2 = nI nt → nt ≤ 12 → iS A' V' nt ∧ ∃ na nk : Nat, iL A' V' nt na nk) : INV A' V' R' := by
  obtain ⟨h, nt, nc, np, nq, nl, na0, nk0, ln, ⟨hh, r0, r4, q33⟩, ⟨t1, t2, t3, t4, t5⟩, ⟨n1, n2, n3, n4, n5, n6, n7, n8, n9, n10, n11, n12, n13, n14, n15, n16, n17⟩, ⟨hT, hC, hP, hQ, hF, wP, wC, wT, wQ⟩, -, -, ⟨m1, m2⟩, hf, ⟨c1, c2⟩⟩ := I
  obtain ⟨hS, na, nk, hL⟩ := H nt n7 n15
  have v0 := hV 0 (by decide)
  have v1 := hV 1 (by decide)
  have v14 := hV 14 (by decide)
  have v17 := hV 17 (by decide)
  have v31 := hV 31 (by decide)
  have e0 := hR 0 (by decide)
  have e4 := hR 4 (by decide)
  have e14 := hR 14 (by decide)
  have a2 := hA 2 (by decide)
  have a16 := hA 16 (by decide)
  have a19 := hA 19 (by decide)
  have a21 := hA 21 (by decide)
  have a23 := hA 23 (by decide)
  have a33 := hA 33 (by decide)
  have a39 := hA 39 (by decide)
  have a85 := hA 85 (by decide)
  have a86 := hA 86 (by decide)
  have a87 := hA 87 (by decide)
  have a88 := hA 88 (by decide)
  have a89 := hA 89 (by decide)
  have a90 := hA 90 (by decide)
  have a91 := hA 91 (by decide)
  have a92 := hA 92 (by decide)
  have a93 := hA 93 (by decide)
  have a94 := hA 94 (by decide)
  have a95 := hA 95 (by decide)
  have a96 := hA 96 (by decide)
  have a97 := hA 97 (by decide)
  have a98 := hA 98 (by decide)
  have a99 := hA 99 (by decide)
  have a101 := hA 101 (by decide)
  have a102 := hA 102 (by decide)
  have a103 := hA 103 (by decide)
  have a105 := hA 105 (by decide)
  have a112 := hA 112 (by decide)
  have a116 := hA 116 (by decide)
  have a120 := hA 120 (by decide)
  have a121 := hA 121 (by decide)
  have a122 := hA 122 (by decide)
  have a123 := hA 123 (by decide)
  have a124 := hA 124 (by decide)
  have a125 := hA 125 (by decide)
  have a126 := hA 126 (by decide)
  have j (k : Nat) (hk : k ∉ [2, 36, 37, 38]) := h82 k hk
  rcases hh with rfl | rfl
  · have vh := hV 50 (by decide)
    have vr := hV 59 (by decide)
    have b2 := hA 52 (by decide)
    have b4 := hA 54 (by decide)
    have b6 := hA 56 (by decide)
    have b8 := hA 58 (by decide)
    have b11 := hA 61 (by decide)
    refine ⟨50, nt, nc, np, nq, nl, na, nk, ln, ⟨Or.inl rfl, by rw [e0]; exact r0, by rw [e4]; exact r4, by rw [v0, j 33 (by decide)]; exact q33⟩, ⟨by rw [v1]; exact t1, by rw [j 24 (by decide)]; exact t2, t3, by rw [a2, a105]; exact t4, by rw [a105]; exact t5⟩, ⟨by rw [vh]; exact n1, by rw [vh]; exact n2, by rw [vh]; exact n3, by rw [vh]; exact n4, by rw [a85]; exact n5, by rw [a85]; exact n6, by rw [a85]; exact n7, by rw [a85]; exact n8, by rw [a85, vh]; exact n9, by rw [a85, vh]; exact n10, by rw [a85]; exact n11, (show V' 59 1 = nI nl by rw [vr]; exact n12), n13, n14, n15, n16, n17⟩, ⟨?_, ?_, ?_, ?_, ?_, ?_, ?_, ?_, ?_⟩, hS, hL, ⟨by rw [j 56 (by decide), v0]; exact m1, ?_⟩, ?_, ⟨by rw [j 53 (by decide), v31]; exact c1, by rw [v31, a116, a39]; exact c2⟩⟩
    · show rlT nt (A' 56) _ _ _ _ _ _; rw [b6, a94, a95, a96, a97, a98, a99]; exact hT
    · show rlC nc (A' 54) _ _ _ _ _; rw [b4, a89, a90, a91, a92, a93]; exact hC
    · show rlP np (A' 52) _ _ _; rw [b2, a86, a87, a88]; exact hP
    · show rlQ nq (A' 58) _ _; rw [b8, a101, a102]; exact hQ
    · show rlF nl (V' 59 2) (A' 61) _; rw [vr, b11, a103]; exact hF
    · show wfP np (A' 52); rw [b2]; exact wP
    · show wfC nc np (A' 54); rw [b4]; exact wC
    · show wfT nt nc (A' 56); rw [b6]; exact wT
    · show wfQ nq (A' 58); rw [b8]; exact wQ
    · rw [v0]
      refine m2.imp id (fun ⟨ia, ik, x1, x2, x3, x4, x5, x6, x7, x8, x9, x10, x11, x12, x13, x14⟩ => ⟨ia, ik, by rw [e14]; exact x1, by rw [j 57 (by decide), v14]; exact x2, by rw [a16, a120]; exact x3, by rw [a120]; exact x4, by rw [v17]; exact x5, by rw [j 58 (by decide)]; exact x6, x7, by rw [a19, a121, a122, a123]; exact x8, by rw [a121]; exact x9, by rw [v17]; exact x10, by rw [j 59 (by decide)]; exact x11, x12, by rw [a21, a124, a125]; exact x13, by rw [a126, a23]; exact x14⟩)
    · unfold iF
      rw [v31, j 45 (by decide), j 46 (by decide), a112, a33]
      exact hf
  · have vh := hV 66 (by decide)
    have vr := hV 75 (by decide)
    have b2 := hA 68 (by decide)
    have b4 := hA 70 (by decide)
    have b6 := hA 72 (by decide)
    have b8 := hA 74 (by decide)
    have b11 := hA 77 (by decide)
    refine ⟨66, nt, nc, np, nq, nl, na, nk, ln, ⟨Or.inr rfl, by rw [e0]; exact r0, by rw [e4]; exact r4, by rw [v0, j 33 (by decide)]; exact q33⟩, ⟨by rw [v1]; exact t1, by rw [j 24 (by decide)]; exact t2, t3, by rw [a2, a105]; exact t4, by rw [a105]; exact t5⟩, ⟨by rw [vh]; exact n1, by rw [vh]; exact n2, by rw [vh]; exact n3, by rw [vh]; exact n4, by rw [a85]; exact n5, by rw [a85]; exact n6, by rw [a85]; exact n7, by rw [a85]; exact n8, by rw [a85, vh]; exact n9, by rw [a85, vh]; exact n10, by rw [a85]; exact n11, (show V' 75 1 = nI nl by rw [vr]; exact n12), n13, n14, n15, n16, n17⟩, ⟨?_, ?_, ?_, ?_, ?_, ?_, ?_, ?_, ?_⟩, hS, hL, ⟨by rw [j 56 (by decide), v0]; exact m1, ?_⟩, ?_, ⟨by rw [j 53 (by decide), v31]; exact c1, by rw [v31, a116, a39]; exact c2⟩⟩
    · show rlT nt (A' 72) _ _ _ _ _ _; rw [b6, a94, a95, a96, a97, a98, a99]; exact hT
    · show rlC nc (A' 70) _ _ _ _ _; rw [b4, a89, a90, a91, a92, a93]; exact hC
    · show rlP np (A' 68) _ _ _; rw [b2, a86, a87, a88]; exact hP
    · show rlQ nq (A' 74) _ _; rw [b8, a101, a102]; exact hQ
    · show rlF nl (V' 75 2) (A' 77) _; rw [vr, b11, a103]; exact hF
    · show wfP np (A' 68); rw [b2]; exact wP
    · show wfC nc np (A' 70); rw [b4]; exact wC
    · show wfT nt nc (A' 72); rw [b6]; exact wT
    · show wfQ nq (A' 74); rw [b8]; exact wQ
    · rw [v0]
      refine m2.imp id (fun ⟨ia, ik, x1, x2, x3, x4, x5, x6, x7, x8, x9, x10, x11, x12, x13, x14⟩ => ⟨ia, ik, by rw [e14]; exact x1, by rw [j 57 (by decide), v14]; exact x2, by rw [a16, a120]; exact x3, by rw [a120]; exact x4, by rw [v17]; exact x5, by rw [j 58 (by decide)]; exact x6, x7, by rw [a19, a121, a122, a123]; exact x8, by rw [a121]; exact x9, by rw [v17]; exact x10, by rw [j 59 (by decide)]; exact x11, x12, by rw [a21, a124, a125]; exact x13, by rw [a126, a23]; exact x14⟩)
    · unfold iF
      rw [v31, j 45 (by decide), j 46 (by decide), a112, a33]
      exact hf
end
