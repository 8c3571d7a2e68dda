/-! the pool that both stand in: the class's cells, the reference's, the cell of the answer -/
noncomputable section
def cellL (ad : Nat → Nat) (cB cI cJ : ClassId) (a v : Nat → Int32) (r : Nat) (lg : Nat → Int64) : List va_E := [
  .inr (11, poF ad 0 1 r (116 - r) 3 4 7 14 17 (v 8) (v 9) 24 31 44 46),
  .inr (9, tapeF ad 1 (v 1) (v 2) (v 3) (v 4) (v 5) (v 6) r),
  .inl (cB, 700, .inl a),
  .inr (4, [.ref (ad 1), .ref (ad r), .int (v 2)]),
  .inr (7, standF ad 4 r (v 2)),
  .inr (8, [.int 1, .ref (ad 6)]),
  .inl (cI, 12, .inl a),
  .inr (1, logF ad 7 (v 1) (v 3)),
  .inr (8, [.int 3, .ref (ad 9)]),
  .inl (cI, 120, .inl a),
  .inr (8, [.int 2, .ref (ad 11)]),
  .inl (cI, 12, .inl a),
  .inr (8, [.int 1, .ref (ad 13)]),
  .inl (cI, 3, .inl a),
  .inr (7, standF ad 14 r (v 2)),
  .inr (8, [.int 1, .ref (ad 16)]),
  .inl (cI, 12, .inl a),
  .inr (1, logF ad 17 (v 1) (v 3)),
  .inr (8, [.int 3, .ref (ad 19)]),
  .inl (cI, 120, .inl a),
  .inr (8, [.int 2, .ref (ad 21)]),
  .inl (cI, 12, .inl a),
  .inr (8, [.int 1, .ref (ad 23)]),
  .inl (cI, 3, .inl a),
  .inr (2, packF ad 24),
  .inr (8, [.int 1, .ref (ad 26)]),
  .inl (cI, 8, .inl a),
  .inr (8, [.int 1, .ref (ad 28)]),
  .inl (cI, 256, .inl a),
  .inr (8, [.int 1, .ref (ad 30)]),
  .inl (cI, 256, .inl a),
  .inr (3, plansF ad 31 (v 1) (v 2) (v 6)),
  .inr (8, [.int 1, .ref (ad 33)]),
  .inl (cI, 12, .inl a),
  .inr (8, [.int 1, .ref (ad 35)]),
  .inl (cI, 12, .inl a),
  .inr (8, [.int 1, .ref (ad 37)]),
  .inl (cI, 12, .inl a),
  .inr (8, [.int 1, .ref (ad 39)]),
  .inl (cI, 5, .inl a),
  .inr (8, [.int 1, .ref (ad 41)]),
  .inl (cI, 5, .inl a),
  .inr (8, [.int 1, .ref (ad 43)]),
  .inl (cI, 5, .inl a),
  .inr (6, scaleF ad 44 r (v 2) (v 3) (v 4) (v 5) (v 6) (lg 0) (lg 1)),
  .inl (cJ, 217, .inr (.inl lg)),
  .inr (10, trialF ad 46 47 (v 1) (v 2) (v 3) (v 4) (v 5) (v 6) (v 7) (v 8)),
  .inr (7, standF ad 47 r (v 2)),
  .inr (8, [.int 1, .ref (ad 49)]),
  .inl (cI, 12, .inl a),
  .inr (0, hallF ad 50 v),
  .inr (8, [.int 3, .ref (ad 52)]),
  .inl (cI, 12, .inl a),
  .inr (8, [.int 5, .ref (ad 54)]),
  .inl (cI, 25, .inl a),
  .inr (8, [.int 7, .ref (ad 56)]),
  .inl (cI, 84, .inl a),
  .inr (8, [.int 2, .ref (ad 58)]),
  .inl (cI, 12, .inl a),
  .inr (5, ruleF ad 59 (v 1) (v 2) (v 5)),
  .inr (8, [.int 1, .ref (ad 61)]),
  .inl (cI, 700, .inl a),
  .inr (8, [.int 1, .ref (ad 63)]),
  .inl (cI, 5, .inl a),
  .inr (8, [.int 1, .ref (ad 65)]),
  .inl (cI, 31, .inl a),
  .inr (0, hallF ad 66 v),
  .inr (8, [.int 3, .ref (ad 68)]),
  .inl (cI, 12, .inl a),
  .inr (8, [.int 5, .ref (ad 70)]),
  .inl (cI, 25, .inl a),
  .inr (8, [.int 7, .ref (ad 72)]),
  .inl (cI, 84, .inl a),
  .inr (8, [.int 2, .ref (ad 74)]),
  .inl (cI, 12, .inl a),
  .inr (5, ruleF ad 75 (v 1) (v 2) (v 5)),
  .inr (8, [.int 1, .ref (ad 77)]),
  .inl (cI, 700, .inl a),
  .inr (8, [.int 1, .ref (ad 79)]),
  .inl (cI, 5, .inl a),
  .inr (8, [.int 1, .ref (ad 81)]),
  .inl (cI, 31, .inl a),
  .inr (12, modF ad 82 v),
  .inl (ad 5000, 6, .inr (.inr (.inr (.inr (txF ad kdI))))),
  .inl (ad 5000, 5, .inr (.inr (.inr (.inr (txF ad vlI))))),
  .inl (cI, 14, .inl a),
  .inl (cI, 8, .inl a),
  .inl (cI, 8, .inl a),
  .inl (cI, 8, .inl a),
  .inl (cI, 10, .inl a),
  .inl (cI, 10, .inl a),
  .inl (cI, 10, .inl a),
  .inl (cI, 10, .inl a),
  .inl (cI, 10, .inl a),
  .inl (cI, 24, .inl a),
  .inl (cI, 24, .inl a),
  .inl (cI, 24, .inl a),
  .inl (cI, 24, .inl a),
  .inl (cI, 24, .inl a),
  .inl (cI, 24, .inl a),
  .inl (cI, 24, .inl a),
  .inl (cI, 12, .inl a),
  .inl (cI, 12, .inl a),
  .inl (cI, 1400, .inl a),
  .inl (cI, 3, .inl a),
  .inl (cI, 700, .inl a),
  .inl (cI, 5, .inl a),
  .inl (cI, 64, .inl a),
  .inl (cI, 40, .inl a),
  .inl (cI, 40, .inl a),
  .inl (cI, 40, .inl a),
  .inl (cI, 12, .inl a),
  .inl (cI, 12, .inl a),
  .inl (cI, 12, .inl a),
  .inl (cJ, 220, .inr (.inl lg)),
  .inl (cJ, 220, .inr (.inl lg)),
  .inl (cI, 5, .inl a),
  .inl (cI, 4, .inl a),
  .inl (cI, 6, .inl a),
  .inl (cI, 6, .inl a),
  .inl (cI, 24, .inl a),
  .inl (cI, 40, .inl a),
  .inl (cI, 40, .inl a),
  .inl (cI, 40, .inl a),
  .inl (cI, 6, .inl a),
  .inl (cI, 6, .inl a),
  .inl (cI, 3, .inl a),
  .inl (cJ, 1, .inr (.inl lg))]
def pl (ad : Nat → Nat) (cB cI cJ : ClassId) (A V : Nat → Nat → Int32) (R : Nat → Nat) (L : Nat → Nat → Int64) : Nat → va_E := fun q => (cellL ad cB cI cJ (A q) (V q) (R q) (L q)).getD q (.inr (0, []))
theorem pl_eq {ad : Nat → Nat} {cB cI cJ : ClassId} {A V A' V' : Nat → Nat → Int32} {R R' : Nat → Nat} {L L' : Nat → Nat → Int64} {M' : Nat → va_E} (ks : List Nat) (hf : ∀ q : Nat, q ∉ ks → M' q = pl ad cB cI cJ A V R L q) (h4 : ∀ q : Nat, q ∉ ks → A' q = A q ∧ V' q = V q ∧ R' q = R q ∧ L' q = L q) (hk : ∀ q : Nat, q ∈ ks → M' q = pl ad cB cI cJ A' V' R' L' q) : M' = pl ad cB cI cJ A' V' R' L' := funext fun q => by
  by_cases c : q ∈ ks
  · exact hk q c
  · rw [hf q c]
    obtain ⟨e1, e2, e3, e4⟩ := h4 q c
    unfold pl
    rw [e1, e2, e3, e4]
theorem ph_0 {ad : Nat → Nat} {cB cI cJ : ClassId} {A V : Nat → Nat → Int32} {R : Nat → Nat} {L : Nat → Nat → Int64} {h : Nat} (hh : h = 50 ∨ h = 66) : pl ad cB cI cJ A V R L h = .inr (0, hallF ad h (V h)) := by
  rcases hh with rfl | rfl <;> rfl
theorem ph_1 {ad : Nat → Nat} {cB cI cJ : ClassId} {A V : Nat → Nat → Int32} {R : Nat → Nat} {L : Nat → Nat → Int64} {h : Nat} (hh : h = 50 ∨ h = 66) : pl ad cB cI cJ A V R L (h + 1) = .inr (8, [.int 3, .ref (ad (h + 2))]) := by
  rcases hh with rfl | rfl <;> rfl
theorem ph_2 {ad : Nat → Nat} {cB cI cJ : ClassId} {A V : Nat → Nat → Int32} {R : Nat → Nat} {L : Nat → Nat → Int64} {h : Nat} (hh : h = 50 ∨ h = 66) : pl ad cB cI cJ A V R L (h + 2) = .inl (cI, 12, .inl (A (h + 2))) := by
  rcases hh with rfl | rfl <;> rfl
theorem ph_3 {ad : Nat → Nat} {cB cI cJ : ClassId} {A V : Nat → Nat → Int32} {R : Nat → Nat} {L : Nat → Nat → Int64} {h : Nat} (hh : h = 50 ∨ h = 66) : pl ad cB cI cJ A V R L (h + 3) = .inr (8, [.int 5, .ref (ad (h + 4))]) := by
  rcases hh with rfl | rfl <;> rfl
theorem ph_4 {ad : Nat → Nat} {cB cI cJ : ClassId} {A V : Nat → Nat → Int32} {R : Nat → Nat} {L : Nat → Nat → Int64} {h : Nat} (hh : h = 50 ∨ h = 66) : pl ad cB cI cJ A V R L (h + 4) = .inl (cI, 25, .inl (A (h + 4))) := by
  rcases hh with rfl | rfl <;> rfl
theorem ph_5 {ad : Nat → Nat} {cB cI cJ : ClassId} {A V : Nat → Nat → Int32} {R : Nat → Nat} {L : Nat → Nat → Int64} {h : Nat} (hh : h = 50 ∨ h = 66) : pl ad cB cI cJ A V R L (h + 5) = .inr (8, [.int 7, .ref (ad (h + 6))]) := by
  rcases hh with rfl | rfl <;> rfl
theorem ph_6 {ad : Nat → Nat} {cB cI cJ : ClassId} {A V : Nat → Nat → Int32} {R : Nat → Nat} {L : Nat → Nat → Int64} {h : Nat} (hh : h = 50 ∨ h = 66) : pl ad cB cI cJ A V R L (h + 6) = .inl (cI, 84, .inl (A (h + 6))) := by
  rcases hh with rfl | rfl <;> rfl
theorem ph_7 {ad : Nat → Nat} {cB cI cJ : ClassId} {A V : Nat → Nat → Int32} {R : Nat → Nat} {L : Nat → Nat → Int64} {h : Nat} (hh : h = 50 ∨ h = 66) : pl ad cB cI cJ A V R L (h + 7) = .inr (8, [.int 2, .ref (ad (h + 8))]) := by
  rcases hh with rfl | rfl <;> rfl
theorem ph_8 {ad : Nat → Nat} {cB cI cJ : ClassId} {A V : Nat → Nat → Int32} {R : Nat → Nat} {L : Nat → Nat → Int64} {h : Nat} (hh : h = 50 ∨ h = 66) : pl ad cB cI cJ A V R L (h + 8) = .inl (cI, 12, .inl (A (h + 8))) := by
  rcases hh with rfl | rfl <;> rfl
theorem ph_9 {ad : Nat → Nat} {cB cI cJ : ClassId} {A V : Nat → Nat → Int32} {R : Nat → Nat} {L : Nat → Nat → Int64} {h : Nat} (hh : h = 50 ∨ h = 66) : pl ad cB cI cJ A V R L (h + 9) = .inr (5, ruleF ad (h + 9) (V (h + 9) 1) (V (h + 9) 2) (V (h + 9) 5)) := by
  rcases hh with rfl | rfl <;> rfl
theorem ph_10 {ad : Nat → Nat} {cB cI cJ : ClassId} {A V : Nat → Nat → Int32} {R : Nat → Nat} {L : Nat → Nat → Int64} {h : Nat} (hh : h = 50 ∨ h = 66) : pl ad cB cI cJ A V R L (h + 10) = .inr (8, [.int 1, .ref (ad (h + 9 + 2))]) := by
  rcases hh with rfl | rfl <;> rfl
theorem ph_11 {ad : Nat → Nat} {cB cI cJ : ClassId} {A V : Nat → Nat → Int32} {R : Nat → Nat} {L : Nat → Nat → Int64} {h : Nat} (hh : h = 50 ∨ h = 66) : pl ad cB cI cJ A V R L (h + 11) = .inl (cI, 700, .inl (A (h + 11))) := by
  rcases hh with rfl | rfl <;> rfl
theorem ph_12 {ad : Nat → Nat} {cB cI cJ : ClassId} {A V : Nat → Nat → Int32} {R : Nat → Nat} {L : Nat → Nat → Int64} {h : Nat} (hh : h = 50 ∨ h = 66) : pl ad cB cI cJ A V R L (h + 12) = .inr (8, [.int 1, .ref (ad (h + 9 + 4))]) := by
  rcases hh with rfl | rfl <;> rfl
theorem ph_13 {ad : Nat → Nat} {cB cI cJ : ClassId} {A V : Nat → Nat → Int32} {R : Nat → Nat} {L : Nat → Nat → Int64} {h : Nat} (hh : h = 50 ∨ h = 66) : pl ad cB cI cJ A V R L (h + 13) = .inl (cI, 5, .inl (A (h + 13))) := by
  rcases hh with rfl | rfl <;> rfl
theorem ph_14 {ad : Nat → Nat} {cB cI cJ : ClassId} {A V : Nat → Nat → Int32} {R : Nat → Nat} {L : Nat → Nat → Int64} {h : Nat} (hh : h = 50 ∨ h = 66) : pl ad cB cI cJ A V R L (h + 14) = .inr (8, [.int 1, .ref (ad (h + 9 + 6))]) := by
  rcases hh with rfl | rfl <;> rfl
theorem ph_15 {ad : Nat → Nat} {cB cI cJ : ClassId} {A V : Nat → Nat → Int32} {R : Nat → Nat} {L : Nat → Nat → Int64} {h : Nat} (hh : h = 50 ∨ h = 66) : pl ad cB cI cJ A V R L (h + 15) = .inl (cI, 31, .inl (A (h + 15))) := by
  rcases hh with rfl | rfl <;> rfl
theorem pl_po {ad : Nat → Nat} {cB cI cJ : ClassId} {A V : Nat → Nat → Int32} {R : Nat → Nat} {L : Nat → Nat → Int64} {h : Nat} (e : R 0 = h) : pl ad cB cI cJ A V R L 0 = .inr (11, poF ad 0 1 h (116 - h) 3 4 7 14 17 (V 0 8) (V 0 9) 24 31 44 46) := by
  subst e; rfl
theorem pl_g {ad : Nat → Nat} {cB cI cJ : ClassId} {A V : Nat → Nat → Int32} {R : Nat → Nat} {L : Nat → Nat → Int64} {h : Nat} (e : R 4 = h) : pl ad cB cI cJ A V R L 4 = .inr (7, standF ad 4 h (V 4 2)) := by
  subst e; rfl
theorem pl_g2 {ad : Nat → Nat} {cB cI cJ : ClassId} {A V : Nat → Nat → Int32} {R : Nat → Nat} {L : Nat → Nat → Int64} {h : Nat} (e : R 14 = h) : pl ad cB cI cJ A V R L 14 = .inr (7, standF ad 14 h (V 14 2)) := by
  subst e; rfl
theorem pl_rule {ad : Nat → Nat} {cB cI cJ : ClassId} {A V : Nat → Nat → Int32} {R : Nat → Nat} {L : Nat → Nat → Int64} {h : Nat} {nl : Nat} (hh : h = 50 ∨ h = 66) (e : V (h + 9) 1 = nI nl) : pl ad cB cI cJ A V R L (h + 9) = .inr (5, ruleF ad (h + 9) (nI nl) (V (h + 9) 2) (V (h + 9) 5)) := by
  rw [← e]; exact ph_9 hh
theorem pl_log {ad : Nat → Nat} {cB cI cJ : ClassId} {A V : Nat → Nat → Int32} {R : Nat → Nat} {L : Nat → Nat → Int64} {h : Nat} {nk : Nat} (e : V 7 3 = nI nk) : pl ad cB cI cJ A V R L 7 = .inr (1, logF ad 7 (V 7 1) (nI nk)) := by
  rw [← e]; rfl
theorem pl_ta {ad : Nat → Nat} {cB cI cJ : ClassId} {A V : Nat → Nat → Int32} {R : Nat → Nat} {L : Nat → Nat → Int64} {h : Nat} {nl : Nat} (e : V 1 1 = nI nl) : pl ad cB cI cJ A V R L 1 = .inr (9, tapeF ad 1 (nI nl) (V 1 2) (V 1 3) (V 1 4) (V 1 5) (V 1 6) (R 1)) := by
  rw [← e]; rfl
/-! what holds of both sides between two calls -/
def i0 (V : Nat → Nat → Int32) (R : Nat → Nat) (h : Nat) : Prop := (h = 50 ∨ h = 66) ∧ R 0 = h ∧ R 4 = h ∧ V 0 9 = V 82 33
def iT (A V : Nat → Nat → Int32) (ln : Nat) : Prop := V 1 1 = nI ln ∧ V 82 24 = nI ln ∧ ln ≤ 700 ∧ bqR (A 2) (A 105) ∧ bOK (A 105)
def iN (A V : Nat → Nat → Int32) (h nt nc np nq nl : Nat) : Prop := V h 5 = nI np ∧ V h 6 = nI nc ∧ V h 7 = nI nt ∧ V h 8 = nI nq ∧ A 85 0 = nI np ∧ A 85 1 = nI nc ∧ A 85 2 = nI nt ∧ A 85 3 = nI nq ∧ A 85 4 = V h 10 ∧ A 85 5 = V h 11 ∧ A 85 6 = nI nl ∧ V (h + 9) 1 = nI nl ∧ np ≤ 4 ∧ nc ≤ 5 ∧ nt ≤ 12 ∧ nq ≤ 6 ∧ nl ≤ 700
def iR (A V : Nat → Nat → Int32) (h nt nc np nq nl : Nat) : Prop := rlT nt (A (h + 6)) (A 94) (A 95) (A 96) (A 97) (A 98) (A 99) ∧ rlC nc (A (h + 4)) (A 89) (A 90) (A 91) (A 92) (A 93) ∧ rlP np (A (h + 2)) (A 86) (A 87) (A 88) ∧ rlQ nq (A (h + 8)) (A 101) (A 102) ∧ rlF nl (V (h + 9) 2) (A (h + 11)) (A 103) ∧ wfP np (A (h + 2)) ∧ wfC nc np (A (h + 4)) ∧ wfT nt nc (A (h + 6)) ∧ wfQ nq (A (h + 8))
def iS (A V : Nat → Nat → Int32) (nt : Nat) : Prop := V 82 36 = V 4 2 ∧ rlL nt (A 6) (A 100) ∧ okL nt (A 100)
def iL (A V : Nat → Nat → Int32) (nt na nk : Nat) : Prop := V 7 1 = nI na ∧ V 82 37 = nI na ∧ na ≤ 40 ∧ rlA nt na (A 9) (A 108) (A 109) (A 110) ∧ okA (A 108) ∧ V 7 3 = nI nk ∧ V 82 38 = nI nk ∧ nk ≤ 6 ∧ rlS2 nk (A 11) (A 118) (A 119) ∧ rl3 (A 104) (A 13)
def iM (A V : Nat → Nat → Int32) (R : Nat → Nat) (h nt : Nat) : Prop := V 82 56 = V 0 8 ∧ (V 0 8 = 0 ∨ ∃ na nk : Nat, R 14 = h ∧ V 82 57 = V 14 2 ∧ rlL nt (A 16) (A 120) ∧ okL nt (A 120) ∧ V 17 1 = nI na ∧ V 82 58 = nI na ∧ na ≤ 40 ∧ rlA nt na (A 19) (A 121) (A 122) (A 123) ∧ okA (A 121) ∧ V 17 3 = nI nk ∧ V 82 59 = nI nk ∧ nk ≤ 6 ∧ rlS2 nk (A 21) (A 124) (A 125) ∧ rl3 (A 126) (A 23))
def iF (A V : Nat → Nat → Int32) (nt : Nat) : Prop := (V 31 2 = 0 ∧ V 82 45 = -1) ∨ (¬ V 31 2 = 0 ∧ ¬ V 82 45 = -1 ∧ V 82 46 = V 31 1 ∧ ∀ t : Nat, t < nt → A 112 t = A 33 t)
def iC (A V : Nat → Nat → Int32) (nc : Nat) : Prop := V 82 53 = V 31 6 ∧ (V 31 6 = 0 ∨ ∀ c : Nat, c < nc → A 116 c = A 39 c)
def INV (A V : Nat → Nat → Int32) (R : Nat → Nat) : Prop := ∃ h nt nc np nq nl na nk ln : Nat, i0 V R h ∧ iT A V ln ∧ iN A V h nt nc np nq nl ∧ iR A V h nt nc np nq nl ∧ iS A V nt ∧ iL A V nt na nk ∧ iM A V R h nt ∧ iF A V nt ∧ iC A V nc
end
