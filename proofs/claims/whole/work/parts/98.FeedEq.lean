/-! feed: both tapes take the same bytes -/
noncomputable section
def apB (x : Int32) (t : Nat) : Int32 := vp_nar .byte ((x.toUInt32 >>> ((apS t).toUInt32 &&& Int32.toUInt32 31)).toInt32.toInt8.toInt32)
def apQ (x : Int32) (L : Nat) (bf : Nat → Int32) : Nat → (Nat → Int32)
  | 0 => bf
  | t + 1 => upd (apQ x L bf t) (L + t) (apB x t)
theorem apP_eq (x : Int32) (L : Nat) (bf : Nat → Int32) : ∀ t : Nat, L + t ≤ 700 → apP x (nI L) bf t = (nI (L + t), apQ x L bf t)
  | 0, _ => rfl
  | t + 1, h => by
    have e := apP_eq x L bf t (by omega)
    rw [apP, e]
    have h1 : ¬ (nI (L + t), apQ x L bf t).1 < 0 := nI_pos (n := L + t) (by omega)
    have h2 : ¬ (700 : Int32) ≤ (nI (L + t), apQ x L bf t).1 := nI_ge (a := L + t) (b := 700) (by omega) (by decide)
    rw [if_neg h1, if_neg h2]
    show (nI (L + t) + 1, upd (apQ x L bf t) (nI (L + t)).toNatClampNeg (apB x t)) = _
    rw [nI_1, nI_clamp (by omega)]
    rfl
theorem bt_255 : ∀ i : Nat, i < 32 → bt 255 i = decide (i < 8) := by decide +kernel
theorem bt_ush (x : Int32) (k : UInt32) (n i : Nat) (hk : (k.toBitVec % 32#32).toNat = n) : bt ((x.toUInt32 >>> k).toInt32) i = bt x (n + i) := by
  unfold bt
  show ((x.toUInt32 >>> k).toBitVec).getLsbD i = _
  rw [UInt32.toBitVec_shiftRight]
  show (x.toBitVec >>> (k.toBitVec % 32#32).toNat).getLsbD i = _
  rw [hk, BitVec.getLsbD_ushiftRight]
theorem bt_i8 (y : Int32) {i : Nat} (hi : i < 8) : bt y.toInt8.toInt32 i = bt y i := by
  unfold bt
  rw [Int8.toBitVec_toInt32, Int32.toBitVec_toInt8, BitVec.getLsbD_signExtend, BitVec.getLsbD_signExtend]
  simp [hi, show i < 32 by omega]
theorem nar_b (y : Int32) : vp_nar .byte y = y.toInt8.toInt32 := rfl
theorem ap_k : ∀ t : Nat, t < 4 → (((apS t).toUInt32 &&& Int32.toUInt32 31).toBitVec % 32#32).toNat = 24 - 8 * t := by decide +kernel
theorem apB_eq (x : Int32) (t : Nat) (ht : t < 4) : apB x t &&& 255 = (x >>> (nI (24 - 8 * t) &&& 31)) &&& 255 := b_ext (fun i hi => by
  rw [b_and, b_and, bt_255 i hi]
  by_cases h : i < 8
  · rw [decide_eq_true h, Bool.and_true, Bool.and_true, b_sshr (24 - 8 * t) (by omega) x hi, if_pos (by omega)]
    unfold apB
    rw [nar_b, bt_i8 _ h, bt_i8 _ h, bt_ush x _ (24 - 8 * t) i (ap_k t ht)]
  · rw [decide_eq_false h, Bool.and_false, Bool.and_false])
theorem i255 (v : Int32) : (v &&& 255) &&& 255 = v &&& 255 := by rw [Int32.and_assoc, Int32.and_self]
theorem fdB_0 (x y z x4 x5 : Int32) : fdB x y z x4 x5 0 = (x >>> (nI (24 - 8 * 0) &&& 31)) &&& 255 := by
  unfold fdB
  rw [if_neg (show ¬ (4 : Int32) ≤ nI 0 by decide), show (24 - (8 * (nI 0 - nI 0 / 4 * 4)) : Int32) = nI (24 - 8 * 0) by decide +kernel]
theorem fdB_1 (x y z x4 x5 : Int32) : fdB x y z x4 x5 1 = (x >>> (nI (24 - 8 * 1) &&& 31)) &&& 255 := by
  unfold fdB
  rw [if_neg (show ¬ (4 : Int32) ≤ nI 1 by decide), show (24 - (8 * (nI 1 - nI 1 / 4 * 4)) : Int32) = nI (24 - 8 * 1) by decide +kernel]
theorem fdB_2 (x y z x4 x5 : Int32) : fdB x y z x4 x5 2 = (x >>> (nI (24 - 8 * 2) &&& 31)) &&& 255 := by
  unfold fdB
  rw [if_neg (show ¬ (4 : Int32) ≤ nI 2 by decide), show (24 - (8 * (nI 2 - nI 2 / 4 * 4)) : Int32) = nI (24 - 8 * 2) by decide +kernel]
theorem fdB_3 (x y z x4 x5 : Int32) : fdB x y z x4 x5 3 = (x >>> (nI (24 - 8 * 3) &&& 31)) &&& 255 := by
  unfold fdB
  rw [if_neg (show ¬ (4 : Int32) ≤ nI 3 by decide), show (24 - (8 * (nI 3 - nI 3 / 4 * 4)) : Int32) = nI (24 - 8 * 3) by decide +kernel]
theorem fdB_4 (x y z x4 x5 : Int32) : fdB x y z x4 x5 4 = (y >>> (nI (24 - 8 * 0) &&& 31)) &&& 255 := by
  unfold fdB
  rw [if_pos (show (4 : Int32) ≤ nI 4 by decide), if_neg (show ¬ (8 : Int32) ≤ nI 4 by decide), show (24 - (8 * (nI 4 - nI 4 / 4 * 4)) : Int32) = nI (24 - 8 * 0) by decide +kernel]
theorem fdB_5 (x y z x4 x5 : Int32) : fdB x y z x4 x5 5 = (y >>> (nI (24 - 8 * 1) &&& 31)) &&& 255 := by
  unfold fdB
  rw [if_pos (show (4 : Int32) ≤ nI 5 by decide), if_neg (show ¬ (8 : Int32) ≤ nI 5 by decide), show (24 - (8 * (nI 5 - nI 5 / 4 * 4)) : Int32) = nI (24 - 8 * 1) by decide +kernel]
theorem fdB_6 (x y z x4 x5 : Int32) : fdB x y z x4 x5 6 = (y >>> (nI (24 - 8 * 2) &&& 31)) &&& 255 := by
  unfold fdB
  rw [if_pos (show (4 : Int32) ≤ nI 6 by decide), if_neg (show ¬ (8 : Int32) ≤ nI 6 by decide), show (24 - (8 * (nI 6 - nI 6 / 4 * 4)) : Int32) = nI (24 - 8 * 2) by decide +kernel]
theorem fdB_7 (x y z x4 x5 : Int32) : fdB x y z x4 x5 7 = (y >>> (nI (24 - 8 * 3) &&& 31)) &&& 255 := by
  unfold fdB
  rw [if_pos (show (4 : Int32) ≤ nI 7 by decide), if_neg (show ¬ (8 : Int32) ≤ nI 7 by decide), show (24 - (8 * (nI 7 - nI 7 / 4 * 4)) : Int32) = nI (24 - 8 * 3) by decide +kernel]
theorem fdB_8 (x y z x4 x5 : Int32) : fdB x y z x4 x5 8 = (z >>> (nI (24 - 8 * 0) &&& 31)) &&& 255 := by
  unfold fdB
  rw [if_pos (show (4 : Int32) ≤ nI 8 by decide), if_pos (show (8 : Int32) ≤ nI 8 by decide), if_neg (show ¬ (12 : Int32) ≤ nI 8 by decide), show (24 - (8 * (nI 8 - nI 8 / 4 * 4)) : Int32) = nI (24 - 8 * 0) by decide +kernel]
theorem fdB_9 (x y z x4 x5 : Int32) : fdB x y z x4 x5 9 = (z >>> (nI (24 - 8 * 1) &&& 31)) &&& 255 := by
  unfold fdB
  rw [if_pos (show (4 : Int32) ≤ nI 9 by decide), if_pos (show (8 : Int32) ≤ nI 9 by decide), if_neg (show ¬ (12 : Int32) ≤ nI 9 by decide), show (24 - (8 * (nI 9 - nI 9 / 4 * 4)) : Int32) = nI (24 - 8 * 1) by decide +kernel]
theorem fdB_10 (x y z x4 x5 : Int32) : fdB x y z x4 x5 10 = (z >>> (nI (24 - 8 * 2) &&& 31)) &&& 255 := by
  unfold fdB
  rw [if_pos (show (4 : Int32) ≤ nI 10 by decide), if_pos (show (8 : Int32) ≤ nI 10 by decide), if_neg (show ¬ (12 : Int32) ≤ nI 10 by decide), show (24 - (8 * (nI 10 - nI 10 / 4 * 4)) : Int32) = nI (24 - 8 * 2) by decide +kernel]
theorem fdB_11 (x y z x4 x5 : Int32) : fdB x y z x4 x5 11 = (z >>> (nI (24 - 8 * 3) &&& 31)) &&& 255 := by
  unfold fdB
  rw [if_pos (show (4 : Int32) ≤ nI 11 by decide), if_pos (show (8 : Int32) ≤ nI 11 by decide), if_neg (show ¬ (12 : Int32) ≤ nI 11 by decide), show (24 - (8 * (nI 11 - nI 11 / 4 * 4)) : Int32) = nI (24 - 8 * 3) by decide +kernel]
theorem fdB_12 (x y z x4 x5 : Int32) : fdB x y z x4 x5 12 = (x4 >>> (nI (24 - 8 * 0) &&& 31)) &&& 255 := by
  unfold fdB
  rw [if_pos (show (4 : Int32) ≤ nI 12 by decide), if_pos (show (8 : Int32) ≤ nI 12 by decide), if_pos (show (12 : Int32) ≤ nI 12 by decide), if_neg (show ¬ (16 : Int32) ≤ nI 12 by decide), show (24 - (8 * (nI 12 - nI 12 / 4 * 4)) : Int32) = nI (24 - 8 * 0) by decide +kernel]
theorem fdB_13 (x y z x4 x5 : Int32) : fdB x y z x4 x5 13 = (x4 >>> (nI (24 - 8 * 1) &&& 31)) &&& 255 := by
  unfold fdB
  rw [if_pos (show (4 : Int32) ≤ nI 13 by decide), if_pos (show (8 : Int32) ≤ nI 13 by decide), if_pos (show (12 : Int32) ≤ nI 13 by decide), if_neg (show ¬ (16 : Int32) ≤ nI 13 by decide), show (24 - (8 * (nI 13 - nI 13 / 4 * 4)) : Int32) = nI (24 - 8 * 1) by decide +kernel]
theorem fdB_14 (x y z x4 x5 : Int32) : fdB x y z x4 x5 14 = (x4 >>> (nI (24 - 8 * 2) &&& 31)) &&& 255 := by
  unfold fdB
  rw [if_pos (show (4 : Int32) ≤ nI 14 by decide), if_pos (show (8 : Int32) ≤ nI 14 by decide), if_pos (show (12 : Int32) ≤ nI 14 by decide), if_neg (show ¬ (16 : Int32) ≤ nI 14 by decide), show (24 - (8 * (nI 14 - nI 14 / 4 * 4)) : Int32) = nI (24 - 8 * 2) by decide +kernel]
theorem fdB_15 (x y z x4 x5 : Int32) : fdB x y z x4 x5 15 = (x4 >>> (nI (24 - 8 * 3) &&& 31)) &&& 255 := by
  unfold fdB
  rw [if_pos (show (4 : Int32) ≤ nI 15 by decide), if_pos (show (8 : Int32) ≤ nI 15 by decide), if_pos (show (12 : Int32) ≤ nI 15 by decide), if_neg (show ¬ (16 : Int32) ≤ nI 15 by decide), show (24 - (8 * (nI 15 - nI 15 / 4 * 4)) : Int32) = nI (24 - 8 * 3) by decide +kernel]
theorem fdB_16 (x y z x4 x5 : Int32) : fdB x y z x4 x5 16 = (x5 >>> (nI (24 - 8 * 0) &&& 31)) &&& 255 := by
  unfold fdB
  rw [if_pos (show (4 : Int32) ≤ nI 16 by decide), if_pos (show (8 : Int32) ≤ nI 16 by decide), if_pos (show (12 : Int32) ≤ nI 16 by decide), if_pos (show (16 : Int32) ≤ nI 16 by decide), show (24 - (8 * (nI 16 - nI 16 / 4 * 4)) : Int32) = nI (24 - 8 * 0) by decide +kernel]
theorem fdB_17 (x y z x4 x5 : Int32) : fdB x y z x4 x5 17 = (x5 >>> (nI (24 - 8 * 1) &&& 31)) &&& 255 := by
  unfold fdB
  rw [if_pos (show (4 : Int32) ≤ nI 17 by decide), if_pos (show (8 : Int32) ≤ nI 17 by decide), if_pos (show (12 : Int32) ≤ nI 17 by decide), if_pos (show (16 : Int32) ≤ nI 17 by decide), show (24 - (8 * (nI 17 - nI 17 / 4 * 4)) : Int32) = nI (24 - 8 * 1) by decide +kernel]
theorem fdB_18 (x y z x4 x5 : Int32) : fdB x y z x4 x5 18 = (x5 >>> (nI (24 - 8 * 2) &&& 31)) &&& 255 := by
  unfold fdB
  rw [if_pos (show (4 : Int32) ≤ nI 18 by decide), if_pos (show (8 : Int32) ≤ nI 18 by decide), if_pos (show (12 : Int32) ≤ nI 18 by decide), if_pos (show (16 : Int32) ≤ nI 18 by decide), show (24 - (8 * (nI 18 - nI 18 / 4 * 4)) : Int32) = nI (24 - 8 * 2) by decide +kernel]
theorem fdB_19 (x y z x4 x5 : Int32) : fdB x y z x4 x5 19 = (x5 >>> (nI (24 - 8 * 3) &&& 31)) &&& 255 := by
  unfold fdB
  rw [if_pos (show (4 : Int32) ≤ nI 19 by decide), if_pos (show (8 : Int32) ≤ nI 19 by decide), if_pos (show (12 : Int32) ≤ nI 19 by decide), if_pos (show (16 : Int32) ≤ nI 19 by decide), show (24 - (8 * (nI 19 - nI 19 / 4 * 4)) : Int32) = nI (24 - 8 * 3) by decide +kernel]
def bqR (f g : Nat → Int32) : Prop := ∀ i : Nat, i < 700 → f i &&& 255 = g i &&& 255
theorem bq_upd {f g : Nat → Int32} (h : bqR f g) (k : Nat) {a b : Int32} (e : a &&& 255 = b &&& 255) : bqR (upd f k a) (upd g k b) := fun i hi => by
  by_cases c : i = k
  · rw [show upd f k a i = a from if_pos c, show upd g k b i = b from if_pos c]; exact e
  · rw [show upd f k a i = f i from if_neg c, show upd g k b i = g i from if_neg c]; exact h i hi
theorem fd_rel {f g : Nat → Int32} (L : Nat) (x y z x4 x5 : Int32) (h : bqR f g) : bqR (apQ x5 (L + 16) (apQ x4 (L + 12) (apQ z (L + 8) (apQ y (L + 4) (apQ x L f 4) 4) 4) 4) 4) (fdS g L x y z x4 x5 20) := by
  have h0 := bq_upd h (L + 0) (show apB x 0 &&& 255 = fdB x y z x4 x5 0 &&& 255 by rw [fdB_0, i255]; exact apB_eq x 0 (by decide))
  have h1 := bq_upd h0 (L + 1) (show apB x 1 &&& 255 = fdB x y z x4 x5 1 &&& 255 by rw [fdB_1, i255]; exact apB_eq x 1 (by decide))
  have h2 := bq_upd h1 (L + 2) (show apB x 2 &&& 255 = fdB x y z x4 x5 2 &&& 255 by rw [fdB_2, i255]; exact apB_eq x 2 (by decide))
  have h3 := bq_upd h2 (L + 3) (show apB x 3 &&& 255 = fdB x y z x4 x5 3 &&& 255 by rw [fdB_3, i255]; exact apB_eq x 3 (by decide))
  have h4 := bq_upd h3 (L + 4) (show apB y 0 &&& 255 = fdB x y z x4 x5 4 &&& 255 by rw [fdB_4, i255]; exact apB_eq y 0 (by decide))
  have h5 := bq_upd h4 (L + 5) (show apB y 1 &&& 255 = fdB x y z x4 x5 5 &&& 255 by rw [fdB_5, i255]; exact apB_eq y 1 (by decide))
  have h6 := bq_upd h5 (L + 6) (show apB y 2 &&& 255 = fdB x y z x4 x5 6 &&& 255 by rw [fdB_6, i255]; exact apB_eq y 2 (by decide))
  have h7 := bq_upd h6 (L + 7) (show apB y 3 &&& 255 = fdB x y z x4 x5 7 &&& 255 by rw [fdB_7, i255]; exact apB_eq y 3 (by decide))
  have h8 := bq_upd h7 (L + 8) (show apB z 0 &&& 255 = fdB x y z x4 x5 8 &&& 255 by rw [fdB_8, i255]; exact apB_eq z 0 (by decide))
  have h9 := bq_upd h8 (L + 9) (show apB z 1 &&& 255 = fdB x y z x4 x5 9 &&& 255 by rw [fdB_9, i255]; exact apB_eq z 1 (by decide))
  have h10 := bq_upd h9 (L + 10) (show apB z 2 &&& 255 = fdB x y z x4 x5 10 &&& 255 by rw [fdB_10, i255]; exact apB_eq z 2 (by decide))
  have h11 := bq_upd h10 (L + 11) (show apB z 3 &&& 255 = fdB x y z x4 x5 11 &&& 255 by rw [fdB_11, i255]; exact apB_eq z 3 (by decide))
  have h12 := bq_upd h11 (L + 12) (show apB x4 0 &&& 255 = fdB x y z x4 x5 12 &&& 255 by rw [fdB_12, i255]; exact apB_eq x4 0 (by decide))
  have h13 := bq_upd h12 (L + 13) (show apB x4 1 &&& 255 = fdB x y z x4 x5 13 &&& 255 by rw [fdB_13, i255]; exact apB_eq x4 1 (by decide))
  have h14 := bq_upd h13 (L + 14) (show apB x4 2 &&& 255 = fdB x y z x4 x5 14 &&& 255 by rw [fdB_14, i255]; exact apB_eq x4 2 (by decide))
  have h15 := bq_upd h14 (L + 15) (show apB x4 3 &&& 255 = fdB x y z x4 x5 15 &&& 255 by rw [fdB_15, i255]; exact apB_eq x4 3 (by decide))
  have h16 := bq_upd h15 (L + 16) (show apB x5 0 &&& 255 = fdB x y z x4 x5 16 &&& 255 by rw [fdB_16, i255]; exact apB_eq x5 0 (by decide))
  have h17 := bq_upd h16 (L + 17) (show apB x5 1 &&& 255 = fdB x y z x4 x5 17 &&& 255 by rw [fdB_17, i255]; exact apB_eq x5 1 (by decide))
  have h18 := bq_upd h17 (L + 18) (show apB x5 2 &&& 255 = fdB x y z x4 x5 18 &&& 255 by rw [fdB_18, i255]; exact apB_eq x5 2 (by decide))
  have h19 := bq_upd h18 (L + 19) (show apB x5 3 &&& 255 = fdB x y z x4 x5 19 &&& 255 by rw [fdB_19, i255]; exact apB_eq x5 3 (by decide))
  exact h19
theorem fd_bOK {g : Nat → Int32} (h : bOK g) (L : Nat) (x y z x4 x5 : Int32) : ∀ t : Nat, bOK (fdS g L x y z x4 x5 t)
  | 0 => h
  | t + 1 => fun q => by
    rw [fdS]
    by_cases c : q = L + t
    · rw [show upd (fdS g L x y z x4 x5 t) (L + t) (fdB x y z x4 x5 t) q = fdB x y z x4 x5 t from if_pos c]; exact i255 _
    · rw [show upd (fdS g L x y z x4 x5 t) (L + t) (fdB x y z x4 x5 t) q = fdS g L x y z x4 x5 t q from if_neg c]; exact fd_bOK h L x y z x4 x5 t q
theorem ap5 (bf : Nat → Int32) (L : Nat) (x y z x4 x5 : Int32) (h : L + 20 ≤ 700) : apP x5 ((apP x4 ((apP z ((apP y ((apP x (nI L) bf 4).1) ((apP x (nI L) bf 4).2) 4).1) ((apP y ((apP x (nI L) bf 4).1) ((apP x (nI L) bf 4).2) 4).2) 4).1) ((apP z ((apP y ((apP x (nI L) bf 4).1) ((apP x (nI L) bf 4).2) 4).1) ((apP y ((apP x (nI L) bf 4).1) ((apP x (nI L) bf 4).2) 4).2) 4).2) 4).1) ((apP x4 ((apP z ((apP y ((apP x (nI L) bf 4).1) ((apP x (nI L) bf 4).2) 4).1) ((apP y ((apP x (nI L) bf 4).1) ((apP x (nI L) bf 4).2) 4).2) 4).1) ((apP z ((apP y ((apP x (nI L) bf 4).1) ((apP x (nI L) bf 4).2) 4).1) ((apP y ((apP x (nI L) bf 4).1) ((apP x (nI L) bf 4).2) 4).2) 4).2) 4).2) 4 = (nI (L + 20), apQ x5 (L + 16) (apQ x4 (L + 12) (apQ z (L + 8) (apQ y (L + 4) (apQ x L bf 4) 4) 4) 4) 4) := by
  rw [apP_eq x L bf 4 (by omega)]
  show apP x5 (apP x4 (apP z (apP y (nI (L + 4)) (apQ x L bf 4) 4).1 (apP y (nI (L + 4)) (apQ x L bf 4) 4).2 4).1 (apP z (apP y (nI (L + 4)) (apQ x L bf 4) 4).1 (apP y (nI (L + 4)) (apQ x L bf 4) 4).2 4).2 4).1 (apP x4 (apP z (apP y (nI (L + 4)) (apQ x L bf 4) 4).1 (apP y (nI (L + 4)) (apQ x L bf 4) 4).2 4).1 (apP z (apP y (nI (L + 4)) (apQ x L bf 4) 4).1 (apP y (nI (L + 4)) (apQ x L bf 4) 4).2 4).2 4).2 4 = _
  rw [apP_eq y (L + 4) _ 4 (by omega)]
  show apP x5 (apP x4 (apP z (nI (L + 8)) (apQ y (L + 4) (apQ x L bf 4) 4) 4).1 (apP z (nI (L + 8)) (apQ y (L + 4) (apQ x L bf 4) 4) 4).2 4).1 (apP x4 (apP z (nI (L + 8)) (apQ y (L + 4) (apQ x L bf 4) 4) 4).1 (apP z (nI (L + 8)) (apQ y (L + 4) (apQ x L bf 4) 4) 4).2 4).2 4 = _
  rw [apP_eq z (L + 8) _ 4 (by omega)]
  show apP x5 (apP x4 (nI (L + 12)) (apQ z (L + 8) (apQ y (L + 4) (apQ x L bf 4) 4) 4) 4).1 (apP x4 (nI (L + 12)) (apQ z (L + 8) (apQ y (L + 4) (apQ x L bf 4) 4) 4) 4).2 4 = _
  rw [apP_eq x4 (L + 12) _ 4 (by omega)]
  show apP x5 (nI (L + 16)) _ 4 = _
  rw [apP_eq x5 (L + 16) _ 4 (by omega)]
/-- feed, in both: the answer, the length, the bytes -/
theorem eq_feed {L : Nat} (bf tp : Nat → Int32) (x y z x4 x5 : Int32) (h : L + 20 ≤ 700) (hb : bqR bf tp) (ho : bOK tp) : s_X12_feed (nI L) bf x y z x4 x5 = nI (L + 20) ∧ s_X12_feed_0_1 (nI L) bf x y z x4 x5 = nI (L + 20) ∧ bqR (s_X12_feed_1_f (nI L) bf x y z x4 x5) (fdS tp L x y z x4 x5 20) ∧ bOK (fdS tp L x y z x4 x5 20) := by
  have c : nI L ≤ 680 := nI_le (a := L) (b := 680) (by omega) (by decide)
  refine ⟨?_, ?_, ?_, fd_bOK ho L x y z x4 x5 20⟩
  · unfold s_X12_feed; rw [if_pos c, ap5 bf L x y z x4 x5 h]
  · unfold s_X12_feed_0_1; rw [if_pos c, ap5 bf L x y z x4 x5 h]
  · unfold s_X12_feed_1_f; rw [if_pos c, ap5 bf L x y z x4 x5 h]; exact fd_rel L x y z x4 x5 hb
theorem no_feed {L : Nat} (bf : Nat → Int32) (x y z x4 x5 : Int32) (h : ¬ L + 20 ≤ 700) (h7 : L ≤ 700) : s_X12_feed (nI L) bf x y z x4 x5 = -1 ∧ s_X12_feed_0_1 (nI L) bf x y z x4 x5 = nI L ∧ s_X12_feed_1_f (nI L) bf x y z x4 x5 = bf := by
  have c : ¬ nI L ≤ 680 := nI_ge (a := 680) (b := L) (by omega) (by omega)
  refine ⟨?_, ?_, ?_⟩
  · unfold s_X12_feed; rw [if_neg c]
  · unfold s_X12_feed_0_1; rw [if_neg c]
  · unfold s_X12_feed_1_f; rw [if_neg c]
end
