/-! a bad text is left: what holds between two calls holds still -/
noncomputable section
theorem rl3_bad {st tf : Nat → Int32} (h : rl3 st tf) : rl3 (upd st 0 (st 0 + 1)) (tset 3 tf 0 (tat 3 tf 0 + 1)) := by
  have e1 : tat 3 tf 0 = tf 0 := tat_in (j := 0) (by decide) (by decide)
  have e2 : ∀ v : Int32, tset 3 tf 0 v = upd tf 0 v := fun v => tset_in (j := 0) (by decide) (by decide)
  rw [e1, e2, ← h 0 (by decide)]
  intro i hi
  by_cases c : i = 0
  · rw [c]; rfl
  · rw [show upd st 0 _ i = st i from if_neg c, show upd tf 0 _ i = tf i from if_neg c]
    exact h i hi
theorem layM_lo (cs : List Int32) (f : Nat → Int32) : lo 700 f (layM cs f) := fun q hq => if_neg (fun z => by omega)
theorem INV_hallB {A V A' V' : Nat → Nat → Int32} {R R' : Nat → Nat} {h : Nat} (I : INV A V R) (rh : R 0 = h) (hh : h = 50 ∨ h = 66)
    (b2 : A' (h + 2) = A (h + 2)) (b4 : A' (h + 4) = A (h + 4)) (b6 : A' (h + 6) = A (h + 6)) (b8 : A' (h + 8) = A (h + 8)) (b11 : A' (h + 11) = A (h + 11)) (vh : V' h = V h) (vr : V' (h + 9) = V (h + 9))
    (hA : ∀ q : Nat, q ∈ [2, 6, 9, 11, 16, 19, 21, 23, 33, 39, 105, 108, 109, 110, 112, 116, 118, 119, 120, 121, 122, 123, 124, 125, 126] → A' q = A q) (hV : ∀ q : Nat, q ∈ [4, 7, 14, 17, 31] → V' q = V q) (hR : ∀ q : Nat, q ∈ [0, 4, 14] → R' q = R q)
    (v08 : V' 0 8 = V 0 8) (v09 : V' 0 9 = V' 82 33) (v11 : V' 1 1 = 0) (m24 : V' 82 24 = 0) (hm : ∀ j : Nat, j ∈ [36, 37, 38, 45, 46, 53, 56, 57, 58, 59] → V' 82 j = V 82 j)
    (l85 : lo 7 (A 85) (A' 85)) (l86 : lo 4 (A 86) (A' 86)) (l87 : lo 4 (A 87) (A' 87)) (l88 : lo 4 (A 88) (A' 88)) (l89 : lo 5 (A 89) (A' 89)) (l90 : lo 5 (A 90) (A' 90)) (l91 : lo 5 (A 91) (A' 91)) (l92 : lo 5 (A 92) (A' 92)) (l93 : lo 5 (A 93) (A' 93)) (l94 : lo 12 (A 94) (A' 94)) (l95 : lo 12 (A 95) (A' 95)) (l96 : lo 12 (A 96) (A' 96)) (l97 : lo 12 (A 97) (A' 97)) (l98 : lo 12 (A 98) (A' 98)) (l99 : lo 12 (A 99) (A' 99)) (l100 : lo 12 (A 100) (A' 100)) (l101 : lo 6 (A 101) (A' 101)) (l102 : lo 6 (A 102) (A' 102)) (l103 : lo 700 (A 103) (A' 103)) (h9 : rl3 (A' 104) (A' 13)) : INV A' V' R' := by
  obtain ⟨h0, nt, nc, np, nq, nl, na, nk, ln, ⟨-, r0, r4, q33⟩, ⟨t1, t2, t3, t4, t5⟩, ⟨n1, n2, n3, n4, n5, n6, n7, n8, n9, n10, n11, n12, n13, n14, n15, n16, n17⟩, ⟨hT, hC, hP, hQ, hF, wP, wC, wT, wQ⟩, ⟨s1, s2, s3⟩, ⟨l1, l2, l3, l4, l5, l6, l7, l8, l9, l10⟩, ⟨m1, m2⟩, hf, ⟨c1, c2⟩⟩ := I
  obtain rfl : h0 = h := r0.symm.trans rh
  have a (q : Nat) (hq : q ∈ [2, 6, 9, 11, 16, 19, 21, 23, 33, 39, 105, 108, 109, 110, 112, 116, 118, 119, 120, 121, 122, 123, 124, 125, 126]) := hA q hq
  have v (q : Nat) (hq : q ∈ [4, 7, 14, 17, 31]) := hV q hq
  have j (q : Nat) (hq : q ∈ [36, 37, 38, 45, 46, 53, 56, 57, 58, 59]) := hm q hq
  refine ⟨h0, nt, nc, np, nq, nl, na, nk, 0, ⟨hh, (hR 0 (by decide)).trans r0, (hR 4 (by decide)).trans r4, v09⟩, ⟨v11, m24, by omega, by rw [a 2 (by decide), a 105 (by decide)]; exact t4, by rw [a 105 (by decide)]; exact t5⟩, ⟨by rw [vh]; exact n1, by rw [vh]; exact n2, by rw [vh]; exact n3, by rw [vh]; exact n4, (l85 0 (by decide)).trans n5, (l85 1 (by decide)).trans n6, (l85 2 (by decide)).trans n7, (l85 3 (by decide)).trans n8, by rw [vh]; exact (l85 4 (by decide)).trans n9, by rw [vh]; exact (l85 5 (by decide)).trans n10, (l85 6 (by decide)).trans n11, by rw [vr]; exact n12, n13, n14, n15, n16, n17⟩, ⟨?_, ?_, ?_, ?_, ?_, by rw [b2]; exact wP, by rw [b4]; exact wC, by rw [b6]; exact wT, by rw [b8]; exact wQ⟩, ⟨by rw [j 36 (by decide), v 4 (by decide)]; exact s1, fun t ht => ?_, fun t ht => ?_⟩, ⟨by rw [v 7 (by decide)]; exact l1, (j 37 (by decide)).trans l2, l3, by rw [a 9 (by decide), a 108 (by decide), a 109 (by decide), a 110 (by decide)]; exact l4, by rw [a 108 (by decide)]; exact l5, by rw [v 7 (by decide)]; exact l6, (j 38 (by decide)).trans l7, l8, by rw [a 11 (by decide), a 118 (by decide), a 119 (by decide)]; exact l9, h9⟩, ⟨by rw [j 56 (by decide), v08]; exact m1, ?_⟩, ?_, ⟨by rw [j 53 (by decide), v 31 (by decide)]; exact c1, by rw [v 31 (by decide), a 116 (by decide), a 39 (by decide)]; exact c2⟩⟩
  · rw [b6]
    intro t ht
    rw [l94 t (by omega), l95 t (by omega), l96 t (by omega), l97 t (by omega), l98 t (by omega), l99 t (by omega)]
    exact hT t ht
  · rw [b4]
    intro t ht
    rw [l89 t (by omega), l90 t (by omega), l91 t (by omega), l92 t (by omega), l93 t (by omega)]
    exact hC t ht
  · rw [b2]
    intro t ht
    rw [l86 t (by omega), l87 t (by omega), l88 t (by omega)]
    exact hP t ht
  · rw [b8]
    intro t ht
    rw [l101 t (by omega), l102 t (by omega)]
    exact hQ t ht
  · rw [b11, vr]
    obtain ⟨cs, e1, e2, e3, e4, e5⟩ := hF
    exact ⟨cs, e1, e2, e3, e4, fun t ht => (l103 t (by omega)).trans (e5 t ht)⟩
  · rw [l100 t (by omega), a 6 (by decide)]
    exact s2 t ht
  · rw [l100 t (by omega)]
    exact s3 t ht
  · rw [v08]
    refine m2.imp id (fun ⟨ia, ik, x1, x2, x3, x4, x5, x6, x7, x8, x9, x10, x11, x12, x13, x14⟩ => ⟨ia, ik, (hR 14 (by decide)).trans x1, by rw [j 57 (by decide), v 14 (by decide)]; exact x2, by rw [a 16 (by decide), a 120 (by decide)]; exact x3, by rw [a 120 (by decide)]; exact x4, by rw [v 17 (by decide)]; exact x5, (j 58 (by decide)).trans x6, x7, by rw [a 19 (by decide), a 121 (by decide), a 122 (by decide), a 123 (by decide)]; exact x8, by rw [a 121 (by decide)]; exact x9, by rw [v 17 (by decide)]; exact x10, (j 59 (by decide)).trans x11, x12, by rw [a 21 (by decide), a 124 (by decide), a 125 (by decide)]; exact x13, by rw [a 126 (by decide), a 23 (by decide)]; exact x14⟩)
  · unfold iF
    rw [v 31 (by decide), j 45 (by decide), j 46 (by decide), a 112 (by decide), a 33 (by decide)]
    exact hf
end
