/-! PoundsOverModel: what is asked of a token -/
noncomputable section
theorem pX_nX {en : Nat} {bf : Nat → Int32} {x : Nat} (hx : x ≤ en) (he : en ≤ 700) : x ≤ pX en bf x ∧ pX en bf x ≤ en ∧ pX en bf x ≤ nX en bf x ∧ (¬ kX en bf x = 0 → pX en bf x < nX en bf x) := by
  have h1 : pX en bf x ≤ en := by rw [pX_d]; exact skS_le (bf := bf) he 701 x hx
  have h0 : x ≤ pX en bf x := by rw [pX_d]; exact skS_ge (en := en) (bf := bf) 701 x
  refine ⟨h0, h1, ?_⟩
  by_cases h2 : s_X9_byteAt (nI en) bf (nI (pX en bf x)) = -1
  · have h3 := tk_end h2
    exact ⟨by rw [h3.2]; exact Nat.le_refl _, fun q => absurd h3.1 q⟩
  · have h3 := bA_lt he (by omega) h2
    have h4 := (rgS_le (bf := bf) (le := s_X9_isLetter (s_X9_byteAt (nI en) bf (nI (pX en bf x)))) (di := s_X9_isDigit (s_X9_byteAt (nI en) bf (nI (pX en bf x)))) he 701 (pX en bf x + 1) (by omega)).1
    have h5 : nX en bf x = rgS en bf (s_X9_isLetter (s_X9_byteAt (nI en) bf (nI (pX en bf x)))) (s_X9_isDigit (s_X9_byteAt (nI en) bf (nI (pX en bf x)))) 701 (pX en bf x + 1) := by rw [nX_d]; unfold avN; rw [if_neg h2]
    rw [← h5] at h4
    exact ⟨by omega, fun _ => by omega⟩
/-- the reference's place in the text is one -/
def mI (en : Nat) (mv : Nat → Int32) : Prop := mv 26 = nI en ∧ (∃ x : Nat, x ≤ en ∧ mv 25 = nI x) ∧ ∃ pb ps : Nat, mv 29 = nI pb ∧ mv 30 = nI ps ∧ pb ≤ ps ∧ ps ≤ en ∧ (mv 27 = 3 → pb < en)
def mS (en : Nat) (bf mv : Nat → Int32) : Nat → Int32 := mvS en bf mv (mv 25).toNatClampNeg
theorem mI_S {en : Nat} {bf mv : Nat → Int32} (h : mI en mv) (he : en ≤ 700) : mI en (mS en bf mv) := by
  obtain ⟨k26, ⟨x, hx, k25⟩, -⟩ := h
  have e : mS en bf mv = mvS en bf mv x := by rw [mS, k25, nI_clamp (by omega)]
  rw [e]
  obtain ⟨h1, h2, h3, h4⟩ := pX_nX (bf := bf) hx he
  have h5 := nX_le (bf := bf) hx he
  refine ⟨k26, ⟨_, h5, rfl⟩, _, _, rfl, rfl, h3, h5, fun q => ?_⟩
  have h6 : ¬ kX en bf x = 0 := fun q0 => by
    have q' : mkT (kX en bf x) = 3 := q
    rw [q0] at q'
    exact absurd q' (by decide)
  have := h4 h6
  omega
theorem mI_up {en : Nat} {mv : Nat → Int32} {j : Nat} {v : Int32} (h : mI en mv) (hj : j < 25 ∨ j = 28 ∨ 30 < j) : mI en (upd mv j v) := by
  have e : ∀ i : Nat, i ≠ j → upd mv j v i = mv i := fun i hi => if_neg hi
  obtain ⟨a, ⟨x, b1, b2⟩, pb, ps, c1, c2, c3, c4, c5⟩ := h
  exact ⟨by rw [e 26 (by omega)]; exact a, ⟨x, b1, by rw [e 25 (by omega)]; exact b2⟩, pb, ps, by rw [e 29 (by omega)]; exact c1, by rw [e 30 (by omega)]; exact c2, c3, c4, fun q => c5 (by rw [e 27 (by omega)] at q; exact q)⟩
theorem mI_wrong {en : Nat} {mv : Nat → Int32} {x : Int32} (h : mI en mv) : mI en (s_X13_wrong_0_1 mv x) := by
  unfold s_X13_wrong_0_1
  split
  · exact mI_up (mI_up h (by decide)) (by decide)
  · exact h
def mtS (bf : Nat → Int32) (b : Int32) (i : Nat) : Nat → Nat → Int32
  | 0, _ => 1
  | r + 1, k => if (wBy.getD i []).getD k 0 = bf (b + nI k).toNatClampNeg then mtS bf b i r (k + 1) else 0
/-- whether the token is the word of number i -/
def isW (mv bf : Nat → Int32) (i : Nat) : Int32 := if mv 31 = 0 then (if mv 27 = 1 then (if nI (wLn.getD i 0) = mv 30 - mv 29 then mtS bf (mv 29) i (wLn.getD i 0) 0 else 0) else 0) else 0
theorem mtS_01 (bf : Nat → Int32) (b : Int32) (i : Nat) : ∀ r k : Nat, mtS bf b i r k = 0 ∨ mtS bf b i r k = 1
  | 0, _ => Or.inr rfl
  | r + 1, k => by
    rw [mtS]
    split
    · exact mtS_01 bf b i r (k + 1)
    · exact Or.inl rfl
theorem isW_01 (mv bf : Nat → Int32) (i : Nat) : isW mv bf i = 0 ∨ isW mv bf i = 1 := by
  unfold isW
  (repeat' split) <;> first | exact mtS_01 _ _ _ _ _ | exact Or.inl rfl
theorem nb01 {v : Int32} (h : v = 0 ∨ v = 1) : narrow .boolean (.int v) = .int v := by
  rcases h with h | h <;> rw [h] <;> rfl
def txF (ad : Nat → Nat) (ws : List Nat) : Nat → Option Nat := fun j => some (ad (2000 + ws.getD j 0))
theorem c_X13_step (l : Launch) (D : va_G) (cB cI cJ : ClassId) (ad : Nat → Nat) (n : Nat) (M : Nat → va_E) (hI : ipI ad n) (mb en : Nat) (mv tapeF : Nat → Int32) (h_mb : mb < n) (h_mb_23 : mb + 23 < n) (m_mb : M mb = .inr (12, modF ad mb mv)) (m_mb_23 : M (mb + 23) = .inl (cI, 700, .inl tapeF)) (hMI : mI en mv) (hen : en ≤ 700) (hT : bOK tapeF) : cWv l D cB cI cJ ad n M yX13_stepOn wsX13_stepOn 1 21 [.ref (ad mb)] (fun M' => M' mb = .inr (12, modF ad mb (mS en tapeF mv)) ∧ ∀ q : Nat, q ≠ mb → M' q = M q) := by
  obtain ⟨k26, ⟨x, hxe, k25⟩, -⟩ := hMI
  have h := c_X13_stepOn l D cB cI cJ ad n M hI mb mv tapeF en x h_mb h_mb_23 m_mb m_mb_23 k26 hen hT hxe k25
  have e : mS en tapeF mv = mvS en tapeF mv x := by rw [mS, k25, nI_clamp (by omega)]
  rw [e]
  exact h
set_option maxRecDepth 20000 in
theorem fX13_is_222 : FL wsX13_is RX13 222 12 31 := ⟨RX13, TX13, 67, rfl, by decide +kernel, by decide, by decide +kernel⟩
set_option maxRecDepth 20000 in
theorem fX13_is_99 : FL wsX13_is RX13 99 12 23 := ⟨RX13, TX13, 67, rfl, by decide +kernel, by decide, by decide +kernel⟩
set_option maxRecDepth 20000 in
theorem fX13_is_193 : FL wsX13_is RX13 193 12 29 := ⟨RX13, TX13, 67, rfl, by decide +kernel, by decide, by decide +kernel⟩
set_option maxRecDepth 20000 in
theorem fX13_is_196 : FL wsX13_is RX13 196 12 27 := ⟨RX13, TX13, 67, rfl, by decide +kernel, by decide, by decide +kernel⟩
set_option maxRecDepth 20000 in
theorem fX13_is_219 : FL wsX13_is RX13 219 12 30 := ⟨RX13, TX13, 67, rfl, by decide +kernel, by decide, by decide +kernel⟩
set_option maxHeartbeats 2000000 in
set_option maxRecDepth 100000 in
theorem c_X13_is (l : Launch) (D : va_G) (cB cI cJ : ClassId) (ad : Nat → Nat) (n : Nat) (M : Nat → va_E) (mb : Nat) (mv : Nat → Int32) (tapeF : Nat → Int32) (en : Nat) (i : Nat) (h_mb : mb < n) (h_mb_23 : mb + 23 < n) (m_mb : M mb = .inr (12, modF ad mb mv)) (m_mb_23 : M (mb + 23) = .inl (cI, 700, .inl tapeF)) (hMI : mI en mv) (hen : en ≤ 700) (hi : i < 20) : cR l D cB cI cJ ad n M yX13_is wsX13_is 4 85 [.ref (ad mb), .ref (ad (2000 + i))] (isW mv tapeF i) := by
  refine q_body (cc := cX13_is) (maxL := 4) (ret := (some .boolean)) (by decide) rfl (Nat.le_of_ble_eq_true rfl) ?_
  intro p e s m args below meth c ls X hr hlocks hK hP hl
  obtain ⟨hx, hb, hml, hown, hts⟩ := id X
  have hS : va_S (ipA ad n) s.heap s.heap [] := va_S.rf
  have hl : lv_has ls 4 [(0, .ref (ad mb)), (1, .ref (ad (2000 + i)))] := hl
  obtain ⟨k26, ⟨xa, hxa, k25⟩, pb, ps, k29, k30, hps1, hps2, hps3⟩ := id hMI
  refine lv_aload_n hx hb dX13_is_0 rfl (lv_at hl 0 rfl) ?_
  refine q_get (v := .int (mv 31)) (fs := modF ad mb mv) X hK hP fX13_is_222 h_mb m_mb rfl dX13_is_1 ?_
  refine lv_if_ne (tgt := 35) hx hb dX13_is_4 (by decide) (fun c_4 => ?_) (fun c_4 => ?_)
  · skip
    refine lv_iconst (v := 0) hx hb dX13_is_35 (by decide) ?_
    refine lv_istore_n (lv' := [(2, .int 0), (0, .ref (ad mb)), (1, .ref (ad (2000 + i)))]) hx hb dX13_is_36 rfl hl (by decide) rfl (fun ls hl => ?_)
    refine lv_iconst (v := 0) hx hb dX13_is_37 (by decide) ?_
    refine lv_istore_n (lv' := [(3, .int 0), (2, .int 0), (0, .ref (ad mb)), (1, .ref (ad (2000 + i)))]) hx hb dX13_is_38 rfl hl (by decide) rfl (fun ls hl => ?_)
    have loop_39 : ∀ (fuel : Nat) (t : Nat) (s9 : Int32) (x3 : Int32), wLn.getD i 0 - t < fuel → (t ≤ wLn.getD i 0) → (s9 = 0 ∨ (s9 = 1 ∧ nI (wLn.getD i 0) = mv 30 - mv 29)) → ((if s9 = 0 then 0 else mtS tapeF (mv 29) i (wLn.getD i 0 - t) t) = isW mv tapeF i) → x3 = nI t → ∀ (ls : Array Slot), lv_has ls 4 [(0, .ref (ad mb)), (1, .ref (ad (2000 + i))), (2, .int s9), (3, .int x3)] → W p l e (rmOf 4 85) s m args below meth c s.heap [] 0 0 (MQ below (vp_Si (fun r9 => r9 = isW mv tapeF i)) args s 0 0 (fun _ => False)) (F0 m 39 ls []) := by
      intro fuel
      induction fuel with
      | zero =>
        intro t s9 x3 hz
        exact absurd hz (Nat.not_lt_zero _)
      | succ fuel ih_39 =>
        intro t s9 x3 hz_39 ht hs9 he e3 ls hl
        subst e3
        skip
        refine lv_iload_n hx hb dX13_is_39 rfl (lv_at hl 2 rfl) ?_
        refine lv_if_eq (tgt := 82) hx hb dX13_is_40 (by decide) (fun c_40 => ?_) (fun c_40 => ?_)
        · skip
          refine lv_iload_n hx hb dX13_is_82 rfl (lv_at hl 2 rfl) ?_
          exact q_zret X hr hlocks (nb01 (by rcases hs9 with h | h; exact Or.inl h; exact Or.inr h.1)) (by first | (rw [← he, if_pos c_40]; exact c_40) | (rw [← he, if_neg c_40, h9, Nat.sub_self, mtS]; exact (hs9.resolve_left c_40).1)) dX13_is_83
        · skip
          refine lv_iload_n hx hb dX13_is_43 rfl (lv_at hl 3 rfl) ?_
          refine lv_aload_n hx hb dX13_is_44 rfl (lv_at hl 1 rfl) ?_
          refine q_rdT (i := i) (As := []) (rest := [.int (nI t)]) (c_J0_length_8abf5 l D cB cI cJ ad n M i   hi) X hK hP hS hl.1 rfl gX13_is_J0_length_8abf5 yd_J0_length_8abf5 ⟨Nat.le_of_ble_eq_true rfl, Nat.le_of_ble_eq_true rfl⟩ (by first | omega | assumption | exact fwS_lt .. | exact wX_lt ..) rfl rfl (Nat.le_of_ble_eq_true rfl) ⟨Nat.zero_le _, Nat.zero_le _⟩ dX13_is_45 ?_
          refine lv_icmp_ge (tgt := 82) hx hb dX13_is_48 (by decide) (fun c_48 => ?_) (fun c_48 => ?_)
          · skip
            have h9 : t = wLn.getD i 0 := eq_of_le c_48 (by have := w_ln i hi; omega) ht
            refine lv_iload_n hx hb dX13_is_82 rfl (lv_at hl 2 rfl) ?_
            exact q_zret X hr hlocks (nb01 (by rcases hs9 with h | h; exact Or.inl h; exact Or.inr h.1)) (by first | (rw [← he, if_pos c_40]; exact c_40) | (rw [← he, if_neg c_40, h9, Nat.sub_self, mtS]; exact (hs9.resolve_left c_40).1)) dX13_is_83
          · skip
            have h9 : t < wLn.getD i 0 := lt_of_nlt c_48 (by have := w_ln i hi; omega) ht; obtain ⟨e1, e2⟩ := hs9.resolve_left c_40
            refine lv_aload_n hx hb dX13_is_51 rfl (lv_at hl 1 rfl) ?_
            refine lv_iload_n hx hb dX13_is_52 rfl (lv_at hl 3 rfl) ?_
            refine q_rdT (i := i) (As := [.int (nI t)]) (rest := []) (c_J0_charAt_5068e l D cB cI cJ ad n M i t   hi (by first | assumption | (apply mI_S <;> (repeat' (first | assumption | apply mI_S | apply mI_wrong | apply mI_nn | apply mI_rn | apply mI_one))) | (apply mI_wrong; repeat' (first | assumption | apply mI_S | apply mI_wrong | apply mI_nn | apply mI_rn | apply mI_one)) | (apply mI_nn; repeat' (first | assumption | apply mI_S | apply mI_wrong | apply mI_nn | apply mI_rn | apply mI_one)) | (apply mI_rn <;> (repeat' (first | assumption | apply mI_S | apply mI_wrong | apply mI_nn | apply mI_rn | apply mI_one))) | (apply mI_one; repeat' (first | assumption | apply mI_S | apply mI_wrong | apply mI_nn | apply mI_rn | apply mI_one)) | omega)) X hK hP hS hl.1 rfl gX13_is_J0_charAt_5068e yd_J0_charAt_5068e ⟨Nat.le_of_ble_eq_true rfl, Nat.le_of_ble_eq_true rfl⟩ (by first | omega | assumption | exact fwS_lt .. | exact wX_lt ..) rfl rfl (Nat.le_of_ble_eq_true rfl) ⟨Nat.zero_le _, Nat.zero_le _⟩ dX13_is_53 ?_
            refine lv_aload_n hx hb dX13_is_56 rfl (lv_at hl 0 rfl) ?_
            refine q_get (v := .ref (ad (mb + 23))) (fs := modF ad mb mv) X hK hP fX13_is_99 h_mb m_mb rfl dX13_is_57 ?_
            refine lv_aload_n hx hb dX13_is_60 rfl (lv_at hl 0 rfl) ?_
            refine q_get (v := .int (mv 29)) (fs := modF ad mb mv) X hK hP fX13_is_193 h_mb m_mb rfl dX13_is_61 ?_
            refine lv_iload_n hx hb dX13_is_64 rfl (lv_at hl 3 rfl) ?_
            refine lv_iadd hx hb dX13_is_65 ?_
            refine q_iald (f := tapeF) (k := 700) X hK hP h_mb_23 m_mb_23 (by rw [k29, nI_add]; rw [k29, k30, pk_sub hps1] at e2; have e3 := (nI_eq (by have := w_ln i hi; omega) (by omega)).mp e2; exact vp_in_nI (by omega) (by decide)) dX13_is_66 ?_
            refine lv_icmp_ne (tgt := 74) hx hb dX13_is_67 (by decide) (fun c_67 => ?_) (fun c_67 => ?_)
            · skip
              refine lv_iconst (v := 0) hx hb dX13_is_74 (by decide) ?_
              refine lv_istore_n (lv' := [(2, .int 0), (0, .ref (ad mb)), (1, .ref (ad (2000 + i))), (3, .int (nI t))]) hx hb dX13_is_75 rfl hl (by decide) rfl (fun ls hl => ?_)
              refine lv_iinc (v := ((nI t) + 1)) (lv' := [(3, .int ((nI t) + 1)), (2, .int 0), (0, .ref (ad mb)), (1, .ref (ad (2000 + i)))]) hx hb dX13_is_76 hl (k := 3) rfl rfl (by decide) rfl (fun ls hl => ?_)
              refine lv_goto (tgt := 39) hx hb dX13_is_79 (by decide) ?_
              exact ih_39 (t + 1) 0 ((nI t) + 1) (by omega) (by omega) (by first | exact Or.inl rfl | exact Or.inr ⟨rfl, e2⟩) (by first | (rw [← he, if_neg (show ¬ (1 : Int32) = 0 by decide), if_neg c_40, show wLn.getD i 0 - t = (wLn.getD i 0 - (t + 1)) + 1 by omega, mtS, if_pos c_67]; done) | (rw [← he, if_pos (show (0 : Int32) = 0 from rfl), if_neg c_40, show wLn.getD i 0 - t = (wLn.getD i 0 - (t + 1)) + 1 by omega, mtS, if_neg c_67]; done)) (by exact nI_1 _) ls (lv_sub hl [2, 3, 1, 0] rfl)
            · skip
              refine lv_iconst (v := 1) hx hb dX13_is_70 (by decide) ?_
              refine lv_goto (tgt := 75) hx hb dX13_is_71 (by decide) ?_
              refine lv_istore_n (lv' := [(2, .int 1), (0, .ref (ad mb)), (1, .ref (ad (2000 + i))), (3, .int (nI t))]) hx hb dX13_is_75 rfl hl (by decide) rfl (fun ls hl => ?_)
              refine lv_iinc (v := ((nI t) + 1)) (lv' := [(3, .int ((nI t) + 1)), (2, .int 1), (0, .ref (ad mb)), (1, .ref (ad (2000 + i)))]) hx hb dX13_is_76 hl (k := 3) rfl rfl (by decide) rfl (fun ls hl => ?_)
              refine lv_goto (tgt := 39) hx hb dX13_is_79 (by decide) ?_
              exact ih_39 (t + 1) 1 ((nI t) + 1) (by omega) (by omega) (by first | exact Or.inl rfl | exact Or.inr ⟨rfl, e2⟩) (by first | (rw [← he, if_neg (show ¬ (1 : Int32) = 0 by decide), if_neg c_40, show wLn.getD i 0 - t = (wLn.getD i 0 - (t + 1)) + 1 by omega, mtS, if_pos c_67]; done) | (rw [← he, if_pos (show (0 : Int32) = 0 from rfl), if_neg c_40, show wLn.getD i 0 - t = (wLn.getD i 0 - (t + 1)) + 1 by omega, mtS, if_neg c_67]; done)) (by exact nI_1 _) ls (lv_sub hl [2, 3, 1, 0] rfl)
    exact loop_39 (9) 0 0 0 (by have := w_ln i hi; omega) (by exact Nat.zero_le _) (by first | exact Or.inl rfl | exact Or.inr ⟨rfl, c_28⟩) (by first | (rw [if_pos rfl, isW, if_neg c_4]; done) | (rw [if_pos rfl, isW, if_pos c_4, if_neg c_12]; done) | (rw [if_pos rfl, isW, if_pos c_4, if_pos c_12, if_neg c_28]; done) | (rw [if_neg (by decide), isW, if_pos c_4, if_pos c_12, if_pos c_28]; rfl)) (by rfl) ls (lv_sub hl [2, 3, 1, 0] rfl)
  · skip
    refine lv_aload_n hx hb dX13_is_7 rfl (lv_at hl 0 rfl) ?_
    refine q_get (v := .int (mv 27)) (fs := modF ad mb mv) X hK hP fX13_is_196 h_mb m_mb rfl dX13_is_8 ?_
    refine lv_iconst (v := 1) hx hb dX13_is_11 (by decide) ?_
    refine lv_icmp_ne (tgt := 35) hx hb dX13_is_12 (by decide) (fun c_12 => ?_) (fun c_12 => ?_)
    · skip
      refine lv_iconst (v := 0) hx hb dX13_is_35 (by decide) ?_
      refine lv_istore_n (lv' := [(2, .int 0), (0, .ref (ad mb)), (1, .ref (ad (2000 + i)))]) hx hb dX13_is_36 rfl hl (by decide) rfl (fun ls hl => ?_)
      refine lv_iconst (v := 0) hx hb dX13_is_37 (by decide) ?_
      refine lv_istore_n (lv' := [(3, .int 0), (2, .int 0), (0, .ref (ad mb)), (1, .ref (ad (2000 + i)))]) hx hb dX13_is_38 rfl hl (by decide) rfl (fun ls hl => ?_)
      have loop_39 : ∀ (fuel : Nat) (t : Nat) (s9 : Int32) (x3 : Int32), wLn.getD i 0 - t < fuel → (t ≤ wLn.getD i 0) → (s9 = 0 ∨ (s9 = 1 ∧ nI (wLn.getD i 0) = mv 30 - mv 29)) → ((if s9 = 0 then 0 else mtS tapeF (mv 29) i (wLn.getD i 0 - t) t) = isW mv tapeF i) → x3 = nI t → ∀ (ls : Array Slot), lv_has ls 4 [(0, .ref (ad mb)), (1, .ref (ad (2000 + i))), (2, .int s9), (3, .int x3)] → W p l e (rmOf 4 85) s m args below meth c s.heap [] 0 0 (MQ below (vp_Si (fun r9 => r9 = isW mv tapeF i)) args s 0 0 (fun _ => False)) (F0 m 39 ls []) := by
        intro fuel
        induction fuel with
        | zero =>
          intro t s9 x3 hz
          exact absurd hz (Nat.not_lt_zero _)
        | succ fuel ih_39 =>
          intro t s9 x3 hz_39 ht hs9 he e3 ls hl
          subst e3
          skip
          refine lv_iload_n hx hb dX13_is_39 rfl (lv_at hl 2 rfl) ?_
          refine lv_if_eq (tgt := 82) hx hb dX13_is_40 (by decide) (fun c_40 => ?_) (fun c_40 => ?_)
          · skip
            refine lv_iload_n hx hb dX13_is_82 rfl (lv_at hl 2 rfl) ?_
            exact q_zret X hr hlocks (nb01 (by rcases hs9 with h | h; exact Or.inl h; exact Or.inr h.1)) (by first | (rw [← he, if_pos c_40]; exact c_40) | (rw [← he, if_neg c_40, h9, Nat.sub_self, mtS]; exact (hs9.resolve_left c_40).1)) dX13_is_83
          · skip
            refine lv_iload_n hx hb dX13_is_43 rfl (lv_at hl 3 rfl) ?_
            refine lv_aload_n hx hb dX13_is_44 rfl (lv_at hl 1 rfl) ?_
            refine q_rdT (i := i) (As := []) (rest := [.int (nI t)]) (c_J0_length_8abf5 l D cB cI cJ ad n M i   hi) X hK hP hS hl.1 rfl gX13_is_J0_length_8abf5 yd_J0_length_8abf5 ⟨Nat.le_of_ble_eq_true rfl, Nat.le_of_ble_eq_true rfl⟩ (by first | omega | assumption | exact fwS_lt .. | exact wX_lt ..) rfl rfl (Nat.le_of_ble_eq_true rfl) ⟨Nat.zero_le _, Nat.zero_le _⟩ dX13_is_45 ?_
            refine lv_icmp_ge (tgt := 82) hx hb dX13_is_48 (by decide) (fun c_48 => ?_) (fun c_48 => ?_)
            · skip
              have h9 : t = wLn.getD i 0 := eq_of_le c_48 (by have := w_ln i hi; omega) ht
              refine lv_iload_n hx hb dX13_is_82 rfl (lv_at hl 2 rfl) ?_
              exact q_zret X hr hlocks (nb01 (by rcases hs9 with h | h; exact Or.inl h; exact Or.inr h.1)) (by first | (rw [← he, if_pos c_40]; exact c_40) | (rw [← he, if_neg c_40, h9, Nat.sub_self, mtS]; exact (hs9.resolve_left c_40).1)) dX13_is_83
            · skip
              have h9 : t < wLn.getD i 0 := lt_of_nlt c_48 (by have := w_ln i hi; omega) ht; obtain ⟨e1, e2⟩ := hs9.resolve_left c_40
              refine lv_aload_n hx hb dX13_is_51 rfl (lv_at hl 1 rfl) ?_
              refine lv_iload_n hx hb dX13_is_52 rfl (lv_at hl 3 rfl) ?_
              refine q_rdT (i := i) (As := [.int (nI t)]) (rest := []) (c_J0_charAt_5068e l D cB cI cJ ad n M i t   hi (by first | assumption | (apply mI_S <;> (repeat' (first | assumption | apply mI_S | apply mI_wrong | apply mI_nn | apply mI_rn | apply mI_one))) | (apply mI_wrong; repeat' (first | assumption | apply mI_S | apply mI_wrong | apply mI_nn | apply mI_rn | apply mI_one)) | (apply mI_nn; repeat' (first | assumption | apply mI_S | apply mI_wrong | apply mI_nn | apply mI_rn | apply mI_one)) | (apply mI_rn <;> (repeat' (first | assumption | apply mI_S | apply mI_wrong | apply mI_nn | apply mI_rn | apply mI_one))) | (apply mI_one; repeat' (first | assumption | apply mI_S | apply mI_wrong | apply mI_nn | apply mI_rn | apply mI_one)) | omega)) X hK hP hS hl.1 rfl gX13_is_J0_charAt_5068e yd_J0_charAt_5068e ⟨Nat.le_of_ble_eq_true rfl, Nat.le_of_ble_eq_true rfl⟩ (by first | omega | assumption | exact fwS_lt .. | exact wX_lt ..) rfl rfl (Nat.le_of_ble_eq_true rfl) ⟨Nat.zero_le _, Nat.zero_le _⟩ dX13_is_53 ?_
              refine lv_aload_n hx hb dX13_is_56 rfl (lv_at hl 0 rfl) ?_
              refine q_get (v := .ref (ad (mb + 23))) (fs := modF ad mb mv) X hK hP fX13_is_99 h_mb m_mb rfl dX13_is_57 ?_
              refine lv_aload_n hx hb dX13_is_60 rfl (lv_at hl 0 rfl) ?_
              refine q_get (v := .int (mv 29)) (fs := modF ad mb mv) X hK hP fX13_is_193 h_mb m_mb rfl dX13_is_61 ?_
              refine lv_iload_n hx hb dX13_is_64 rfl (lv_at hl 3 rfl) ?_
              refine lv_iadd hx hb dX13_is_65 ?_
              refine q_iald (f := tapeF) (k := 700) X hK hP h_mb_23 m_mb_23 (by rw [k29, nI_add]; rw [k29, k30, pk_sub hps1] at e2; have e3 := (nI_eq (by have := w_ln i hi; omega) (by omega)).mp e2; exact vp_in_nI (by omega) (by decide)) dX13_is_66 ?_
              refine lv_icmp_ne (tgt := 74) hx hb dX13_is_67 (by decide) (fun c_67 => ?_) (fun c_67 => ?_)
              · skip
                refine lv_iconst (v := 0) hx hb dX13_is_74 (by decide) ?_
                refine lv_istore_n (lv' := [(2, .int 0), (0, .ref (ad mb)), (1, .ref (ad (2000 + i))), (3, .int (nI t))]) hx hb dX13_is_75 rfl hl (by decide) rfl (fun ls hl => ?_)
                refine lv_iinc (v := ((nI t) + 1)) (lv' := [(3, .int ((nI t) + 1)), (2, .int 0), (0, .ref (ad mb)), (1, .ref (ad (2000 + i)))]) hx hb dX13_is_76 hl (k := 3) rfl rfl (by decide) rfl (fun ls hl => ?_)
                refine lv_goto (tgt := 39) hx hb dX13_is_79 (by decide) ?_
                exact ih_39 (t + 1) 0 ((nI t) + 1) (by omega) (by omega) (by first | exact Or.inl rfl | exact Or.inr ⟨rfl, e2⟩) (by first | (rw [← he, if_neg (show ¬ (1 : Int32) = 0 by decide), if_neg c_40, show wLn.getD i 0 - t = (wLn.getD i 0 - (t + 1)) + 1 by omega, mtS, if_pos c_67]; done) | (rw [← he, if_pos (show (0 : Int32) = 0 from rfl), if_neg c_40, show wLn.getD i 0 - t = (wLn.getD i 0 - (t + 1)) + 1 by omega, mtS, if_neg c_67]; done)) (by exact nI_1 _) ls (lv_sub hl [2, 3, 1, 0] rfl)
              · skip
                refine lv_iconst (v := 1) hx hb dX13_is_70 (by decide) ?_
                refine lv_goto (tgt := 75) hx hb dX13_is_71 (by decide) ?_
                refine lv_istore_n (lv' := [(2, .int 1), (0, .ref (ad mb)), (1, .ref (ad (2000 + i))), (3, .int (nI t))]) hx hb dX13_is_75 rfl hl (by decide) rfl (fun ls hl => ?_)
                refine lv_iinc (v := ((nI t) + 1)) (lv' := [(3, .int ((nI t) + 1)), (2, .int 1), (0, .ref (ad mb)), (1, .ref (ad (2000 + i)))]) hx hb dX13_is_76 hl (k := 3) rfl rfl (by decide) rfl (fun ls hl => ?_)
                refine lv_goto (tgt := 39) hx hb dX13_is_79 (by decide) ?_
                exact ih_39 (t + 1) 1 ((nI t) + 1) (by omega) (by omega) (by first | exact Or.inl rfl | exact Or.inr ⟨rfl, e2⟩) (by first | (rw [← he, if_neg (show ¬ (1 : Int32) = 0 by decide), if_neg c_40, show wLn.getD i 0 - t = (wLn.getD i 0 - (t + 1)) + 1 by omega, mtS, if_pos c_67]; done) | (rw [← he, if_pos (show (0 : Int32) = 0 from rfl), if_neg c_40, show wLn.getD i 0 - t = (wLn.getD i 0 - (t + 1)) + 1 by omega, mtS, if_neg c_67]; done)) (by exact nI_1 _) ls (lv_sub hl [2, 3, 1, 0] rfl)
      exact loop_39 (9) 0 0 0 (by have := w_ln i hi; omega) (by exact Nat.zero_le _) (by first | exact Or.inl rfl | exact Or.inr ⟨rfl, c_28⟩) (by first | (rw [if_pos rfl, isW, if_neg c_4]; done) | (rw [if_pos rfl, isW, if_pos c_4, if_neg c_12]; done) | (rw [if_pos rfl, isW, if_pos c_4, if_pos c_12, if_neg c_28]; done) | (rw [if_neg (by decide), isW, if_pos c_4, if_pos c_12, if_pos c_28]; rfl)) (by rfl) ls (lv_sub hl [2, 3, 1, 0] rfl)
    · skip
      refine lv_aload_n hx hb dX13_is_15 rfl (lv_at hl 1 rfl) ?_
      refine q_rdT (i := i) (As := []) (rest := []) (c_J0_length_8abf5 l D cB cI cJ ad n M i   hi) X hK hP hS hl.1 rfl gX13_is_J0_length_8abf5 yd_J0_length_8abf5 ⟨Nat.le_of_ble_eq_true rfl, Nat.le_of_ble_eq_true rfl⟩ (by first | omega | assumption | exact fwS_lt .. | exact wX_lt ..) rfl rfl (Nat.le_of_ble_eq_true rfl) ⟨Nat.zero_le _, Nat.zero_le _⟩ dX13_is_16 ?_
      refine lv_aload_n hx hb dX13_is_19 rfl (lv_at hl 0 rfl) ?_
      refine q_get (v := .int (mv 30)) (fs := modF ad mb mv) X hK hP fX13_is_219 h_mb m_mb rfl dX13_is_20 ?_
      refine lv_aload_n hx hb dX13_is_23 rfl (lv_at hl 0 rfl) ?_
      refine q_get (v := .int (mv 29)) (fs := modF ad mb mv) X hK hP fX13_is_193 h_mb m_mb rfl dX13_is_24 ?_
      refine lv_isub hx hb dX13_is_27 ?_
      refine lv_icmp_ne (tgt := 35) hx hb dX13_is_28 (by decide) (fun c_28 => ?_) (fun c_28 => ?_)
      · skip
        refine lv_iconst (v := 0) hx hb dX13_is_35 (by decide) ?_
        refine lv_istore_n (lv' := [(2, .int 0), (0, .ref (ad mb)), (1, .ref (ad (2000 + i)))]) hx hb dX13_is_36 rfl hl (by decide) rfl (fun ls hl => ?_)
        refine lv_iconst (v := 0) hx hb dX13_is_37 (by decide) ?_
        refine lv_istore_n (lv' := [(3, .int 0), (2, .int 0), (0, .ref (ad mb)), (1, .ref (ad (2000 + i)))]) hx hb dX13_is_38 rfl hl (by decide) rfl (fun ls hl => ?_)
        have loop_39 : ∀ (fuel : Nat) (t : Nat) (s9 : Int32) (x3 : Int32), wLn.getD i 0 - t < fuel → (t ≤ wLn.getD i 0) → (s9 = 0 ∨ (s9 = 1 ∧ nI (wLn.getD i 0) = mv 30 - mv 29)) → ((if s9 = 0 then 0 else mtS tapeF (mv 29) i (wLn.getD i 0 - t) t) = isW mv tapeF i) → x3 = nI t → ∀ (ls : Array Slot), lv_has ls 4 [(0, .ref (ad mb)), (1, .ref (ad (2000 + i))), (2, .int s9), (3, .int x3)] → W p l e (rmOf 4 85) s m args below meth c s.heap [] 0 0 (MQ below (vp_Si (fun r9 => r9 = isW mv tapeF i)) args s 0 0 (fun _ => False)) (F0 m 39 ls []) := by
          intro fuel
          induction fuel with
          | zero =>
            intro t s9 x3 hz
            exact absurd hz (Nat.not_lt_zero _)
          | succ fuel ih_39 =>
            intro t s9 x3 hz_39 ht hs9 he e3 ls hl
            subst e3
            skip
            refine lv_iload_n hx hb dX13_is_39 rfl (lv_at hl 2 rfl) ?_
            refine lv_if_eq (tgt := 82) hx hb dX13_is_40 (by decide) (fun c_40 => ?_) (fun c_40 => ?_)
            · skip
              refine lv_iload_n hx hb dX13_is_82 rfl (lv_at hl 2 rfl) ?_
              exact q_zret X hr hlocks (nb01 (by rcases hs9 with h | h; exact Or.inl h; exact Or.inr h.1)) (by first | (rw [← he, if_pos c_40]; exact c_40) | (rw [← he, if_neg c_40, h9, Nat.sub_self, mtS]; exact (hs9.resolve_left c_40).1)) dX13_is_83
            · skip
              refine lv_iload_n hx hb dX13_is_43 rfl (lv_at hl 3 rfl) ?_
              refine lv_aload_n hx hb dX13_is_44 rfl (lv_at hl 1 rfl) ?_
              refine q_rdT (i := i) (As := []) (rest := [.int (nI t)]) (c_J0_length_8abf5 l D cB cI cJ ad n M i   hi) X hK hP hS hl.1 rfl gX13_is_J0_length_8abf5 yd_J0_length_8abf5 ⟨Nat.le_of_ble_eq_true rfl, Nat.le_of_ble_eq_true rfl⟩ (by first | omega | assumption | exact fwS_lt .. | exact wX_lt ..) rfl rfl (Nat.le_of_ble_eq_true rfl) ⟨Nat.zero_le _, Nat.zero_le _⟩ dX13_is_45 ?_
              refine lv_icmp_ge (tgt := 82) hx hb dX13_is_48 (by decide) (fun c_48 => ?_) (fun c_48 => ?_)
              · skip
                have h9 : t = wLn.getD i 0 := eq_of_le c_48 (by have := w_ln i hi; omega) ht
                refine lv_iload_n hx hb dX13_is_82 rfl (lv_at hl 2 rfl) ?_
                exact q_zret X hr hlocks (nb01 (by rcases hs9 with h | h; exact Or.inl h; exact Or.inr h.1)) (by first | (rw [← he, if_pos c_40]; exact c_40) | (rw [← he, if_neg c_40, h9, Nat.sub_self, mtS]; exact (hs9.resolve_left c_40).1)) dX13_is_83
              · skip
                have h9 : t < wLn.getD i 0 := lt_of_nlt c_48 (by have := w_ln i hi; omega) ht; obtain ⟨e1, e2⟩ := hs9.resolve_left c_40
                refine lv_aload_n hx hb dX13_is_51 rfl (lv_at hl 1 rfl) ?_
                refine lv_iload_n hx hb dX13_is_52 rfl (lv_at hl 3 rfl) ?_
                refine q_rdT (i := i) (As := [.int (nI t)]) (rest := []) (c_J0_charAt_5068e l D cB cI cJ ad n M i t   hi (by first | assumption | (apply mI_S <;> (repeat' (first | assumption | apply mI_S | apply mI_wrong | apply mI_nn | apply mI_rn | apply mI_one))) | (apply mI_wrong; repeat' (first | assumption | apply mI_S | apply mI_wrong | apply mI_nn | apply mI_rn | apply mI_one)) | (apply mI_nn; repeat' (first | assumption | apply mI_S | apply mI_wrong | apply mI_nn | apply mI_rn | apply mI_one)) | (apply mI_rn <;> (repeat' (first | assumption | apply mI_S | apply mI_wrong | apply mI_nn | apply mI_rn | apply mI_one))) | (apply mI_one; repeat' (first | assumption | apply mI_S | apply mI_wrong | apply mI_nn | apply mI_rn | apply mI_one)) | omega)) X hK hP hS hl.1 rfl gX13_is_J0_charAt_5068e yd_J0_charAt_5068e ⟨Nat.le_of_ble_eq_true rfl, Nat.le_of_ble_eq_true rfl⟩ (by first | omega | assumption | exact fwS_lt .. | exact wX_lt ..) rfl rfl (Nat.le_of_ble_eq_true rfl) ⟨Nat.zero_le _, Nat.zero_le _⟩ dX13_is_53 ?_
                refine lv_aload_n hx hb dX13_is_56 rfl (lv_at hl 0 rfl) ?_
                refine q_get (v := .ref (ad (mb + 23))) (fs := modF ad mb mv) X hK hP fX13_is_99 h_mb m_mb rfl dX13_is_57 ?_
                refine lv_aload_n hx hb dX13_is_60 rfl (lv_at hl 0 rfl) ?_
                refine q_get (v := .int (mv 29)) (fs := modF ad mb mv) X hK hP fX13_is_193 h_mb m_mb rfl dX13_is_61 ?_
                refine lv_iload_n hx hb dX13_is_64 rfl (lv_at hl 3 rfl) ?_
                refine lv_iadd hx hb dX13_is_65 ?_
                refine q_iald (f := tapeF) (k := 700) X hK hP h_mb_23 m_mb_23 (by rw [k29, nI_add]; rw [k29, k30, pk_sub hps1] at e2; have e3 := (nI_eq (by have := w_ln i hi; omega) (by omega)).mp e2; exact vp_in_nI (by omega) (by decide)) dX13_is_66 ?_
                refine lv_icmp_ne (tgt := 74) hx hb dX13_is_67 (by decide) (fun c_67 => ?_) (fun c_67 => ?_)
                · skip
                  refine lv_iconst (v := 0) hx hb dX13_is_74 (by decide) ?_
                  refine lv_istore_n (lv' := [(2, .int 0), (0, .ref (ad mb)), (1, .ref (ad (2000 + i))), (3, .int (nI t))]) hx hb dX13_is_75 rfl hl (by decide) rfl (fun ls hl => ?_)
                  refine lv_iinc (v := ((nI t) + 1)) (lv' := [(3, .int ((nI t) + 1)), (2, .int 0), (0, .ref (ad mb)), (1, .ref (ad (2000 + i)))]) hx hb dX13_is_76 hl (k := 3) rfl rfl (by decide) rfl (fun ls hl => ?_)
                  refine lv_goto (tgt := 39) hx hb dX13_is_79 (by decide) ?_
                  exact ih_39 (t + 1) 0 ((nI t) + 1) (by omega) (by omega) (by first | exact Or.inl rfl | exact Or.inr ⟨rfl, e2⟩) (by first | (rw [← he, if_neg (show ¬ (1 : Int32) = 0 by decide), if_neg c_40, show wLn.getD i 0 - t = (wLn.getD i 0 - (t + 1)) + 1 by omega, mtS, if_pos c_67]; done) | (rw [← he, if_pos (show (0 : Int32) = 0 from rfl), if_neg c_40, show wLn.getD i 0 - t = (wLn.getD i 0 - (t + 1)) + 1 by omega, mtS, if_neg c_67]; done)) (by exact nI_1 _) ls (lv_sub hl [2, 3, 1, 0] rfl)
                · skip
                  refine lv_iconst (v := 1) hx hb dX13_is_70 (by decide) ?_
                  refine lv_goto (tgt := 75) hx hb dX13_is_71 (by decide) ?_
                  refine lv_istore_n (lv' := [(2, .int 1), (0, .ref (ad mb)), (1, .ref (ad (2000 + i))), (3, .int (nI t))]) hx hb dX13_is_75 rfl hl (by decide) rfl (fun ls hl => ?_)
                  refine lv_iinc (v := ((nI t) + 1)) (lv' := [(3, .int ((nI t) + 1)), (2, .int 1), (0, .ref (ad mb)), (1, .ref (ad (2000 + i)))]) hx hb dX13_is_76 hl (k := 3) rfl rfl (by decide) rfl (fun ls hl => ?_)
                  refine lv_goto (tgt := 39) hx hb dX13_is_79 (by decide) ?_
                  exact ih_39 (t + 1) 1 ((nI t) + 1) (by omega) (by omega) (by first | exact Or.inl rfl | exact Or.inr ⟨rfl, e2⟩) (by first | (rw [← he, if_neg (show ¬ (1 : Int32) = 0 by decide), if_neg c_40, show wLn.getD i 0 - t = (wLn.getD i 0 - (t + 1)) + 1 by omega, mtS, if_pos c_67]; done) | (rw [← he, if_pos (show (0 : Int32) = 0 from rfl), if_neg c_40, show wLn.getD i 0 - t = (wLn.getD i 0 - (t + 1)) + 1 by omega, mtS, if_neg c_67]; done)) (by exact nI_1 _) ls (lv_sub hl [2, 3, 1, 0] rfl)
        exact loop_39 (9) 0 0 0 (by have := w_ln i hi; omega) (by exact Nat.zero_le _) (by first | exact Or.inl rfl | exact Or.inr ⟨rfl, c_28⟩) (by first | (rw [if_pos rfl, isW, if_neg c_4]; done) | (rw [if_pos rfl, isW, if_pos c_4, if_neg c_12]; done) | (rw [if_pos rfl, isW, if_pos c_4, if_pos c_12, if_neg c_28]; done) | (rw [if_neg (by decide), isW, if_pos c_4, if_pos c_12, if_pos c_28]; rfl)) (by rfl) ls (lv_sub hl [2, 3, 1, 0] rfl)
      · skip
        refine lv_iconst (v := 1) hx hb dX13_is_31 (by decide) ?_
        refine lv_goto (tgt := 36) hx hb dX13_is_32 (by decide) ?_
        refine lv_istore_n (lv' := [(2, .int 1), (0, .ref (ad mb)), (1, .ref (ad (2000 + i)))]) hx hb dX13_is_36 rfl hl (by decide) rfl (fun ls hl => ?_)
        refine lv_iconst (v := 0) hx hb dX13_is_37 (by decide) ?_
        refine lv_istore_n (lv' := [(3, .int 0), (2, .int 1), (0, .ref (ad mb)), (1, .ref (ad (2000 + i)))]) hx hb dX13_is_38 rfl hl (by decide) rfl (fun ls hl => ?_)
        have loop_39 : ∀ (fuel : Nat) (t : Nat) (s9 : Int32) (x3 : Int32), wLn.getD i 0 - t < fuel → (t ≤ wLn.getD i 0) → (s9 = 0 ∨ (s9 = 1 ∧ nI (wLn.getD i 0) = mv 30 - mv 29)) → ((if s9 = 0 then 0 else mtS tapeF (mv 29) i (wLn.getD i 0 - t) t) = isW mv tapeF i) → x3 = nI t → ∀ (ls : Array Slot), lv_has ls 4 [(0, .ref (ad mb)), (1, .ref (ad (2000 + i))), (2, .int s9), (3, .int x3)] → W p l e (rmOf 4 85) s m args below meth c s.heap [] 0 0 (MQ below (vp_Si (fun r9 => r9 = isW mv tapeF i)) args s 0 0 (fun _ => False)) (F0 m 39 ls []) := by
          intro fuel
          induction fuel with
          | zero =>
            intro t s9 x3 hz
            exact absurd hz (Nat.not_lt_zero _)
          | succ fuel ih_39 =>
            intro t s9 x3 hz_39 ht hs9 he e3 ls hl
            subst e3
            skip
            refine lv_iload_n hx hb dX13_is_39 rfl (lv_at hl 2 rfl) ?_
            refine lv_if_eq (tgt := 82) hx hb dX13_is_40 (by decide) (fun c_40 => ?_) (fun c_40 => ?_)
            · skip
              refine lv_iload_n hx hb dX13_is_82 rfl (lv_at hl 2 rfl) ?_
              exact q_zret X hr hlocks (nb01 (by rcases hs9 with h | h; exact Or.inl h; exact Or.inr h.1)) (by first | (rw [← he, if_pos c_40]; exact c_40) | (rw [← he, if_neg c_40, h9, Nat.sub_self, mtS]; exact (hs9.resolve_left c_40).1)) dX13_is_83
            · skip
              refine lv_iload_n hx hb dX13_is_43 rfl (lv_at hl 3 rfl) ?_
              refine lv_aload_n hx hb dX13_is_44 rfl (lv_at hl 1 rfl) ?_
              refine q_rdT (i := i) (As := []) (rest := [.int (nI t)]) (c_J0_length_8abf5 l D cB cI cJ ad n M i   hi) X hK hP hS hl.1 rfl gX13_is_J0_length_8abf5 yd_J0_length_8abf5 ⟨Nat.le_of_ble_eq_true rfl, Nat.le_of_ble_eq_true rfl⟩ (by first | omega | assumption | exact fwS_lt .. | exact wX_lt ..) rfl rfl (Nat.le_of_ble_eq_true rfl) ⟨Nat.zero_le _, Nat.zero_le _⟩ dX13_is_45 ?_
              refine lv_icmp_ge (tgt := 82) hx hb dX13_is_48 (by decide) (fun c_48 => ?_) (fun c_48 => ?_)
              · skip
                have h9 : t = wLn.getD i 0 := eq_of_le c_48 (by have := w_ln i hi; omega) ht
                refine lv_iload_n hx hb dX13_is_82 rfl (lv_at hl 2 rfl) ?_
                exact q_zret X hr hlocks (nb01 (by rcases hs9 with h | h; exact Or.inl h; exact Or.inr h.1)) (by first | (rw [← he, if_pos c_40]; exact c_40) | (rw [← he, if_neg c_40, h9, Nat.sub_self, mtS]; exact (hs9.resolve_left c_40).1)) dX13_is_83
              · skip
                have h9 : t < wLn.getD i 0 := lt_of_nlt c_48 (by have := w_ln i hi; omega) ht; obtain ⟨e1, e2⟩ := hs9.resolve_left c_40
                refine lv_aload_n hx hb dX13_is_51 rfl (lv_at hl 1 rfl) ?_
                refine lv_iload_n hx hb dX13_is_52 rfl (lv_at hl 3 rfl) ?_
                refine q_rdT (i := i) (As := [.int (nI t)]) (rest := []) (c_J0_charAt_5068e l D cB cI cJ ad n M i t   hi (by first | assumption | (apply mI_S <;> (repeat' (first | assumption | apply mI_S | apply mI_wrong | apply mI_nn | apply mI_rn | apply mI_one))) | (apply mI_wrong; repeat' (first | assumption | apply mI_S | apply mI_wrong | apply mI_nn | apply mI_rn | apply mI_one)) | (apply mI_nn; repeat' (first | assumption | apply mI_S | apply mI_wrong | apply mI_nn | apply mI_rn | apply mI_one)) | (apply mI_rn <;> (repeat' (first | assumption | apply mI_S | apply mI_wrong | apply mI_nn | apply mI_rn | apply mI_one))) | (apply mI_one; repeat' (first | assumption | apply mI_S | apply mI_wrong | apply mI_nn | apply mI_rn | apply mI_one)) | omega)) X hK hP hS hl.1 rfl gX13_is_J0_charAt_5068e yd_J0_charAt_5068e ⟨Nat.le_of_ble_eq_true rfl, Nat.le_of_ble_eq_true rfl⟩ (by first | omega | assumption | exact fwS_lt .. | exact wX_lt ..) rfl rfl (Nat.le_of_ble_eq_true rfl) ⟨Nat.zero_le _, Nat.zero_le _⟩ dX13_is_53 ?_
                refine lv_aload_n hx hb dX13_is_56 rfl (lv_at hl 0 rfl) ?_
                refine q_get (v := .ref (ad (mb + 23))) (fs := modF ad mb mv) X hK hP fX13_is_99 h_mb m_mb rfl dX13_is_57 ?_
                refine lv_aload_n hx hb dX13_is_60 rfl (lv_at hl 0 rfl) ?_
                refine q_get (v := .int (mv 29)) (fs := modF ad mb mv) X hK hP fX13_is_193 h_mb m_mb rfl dX13_is_61 ?_
                refine lv_iload_n hx hb dX13_is_64 rfl (lv_at hl 3 rfl) ?_
                refine lv_iadd hx hb dX13_is_65 ?_
                refine q_iald (f := tapeF) (k := 700) X hK hP h_mb_23 m_mb_23 (by rw [k29, nI_add]; rw [k29, k30, pk_sub hps1] at e2; have e3 := (nI_eq (by have := w_ln i hi; omega) (by omega)).mp e2; exact vp_in_nI (by omega) (by decide)) dX13_is_66 ?_
                refine lv_icmp_ne (tgt := 74) hx hb dX13_is_67 (by decide) (fun c_67 => ?_) (fun c_67 => ?_)
                · skip
                  refine lv_iconst (v := 0) hx hb dX13_is_74 (by decide) ?_
                  refine lv_istore_n (lv' := [(2, .int 0), (0, .ref (ad mb)), (1, .ref (ad (2000 + i))), (3, .int (nI t))]) hx hb dX13_is_75 rfl hl (by decide) rfl (fun ls hl => ?_)
                  refine lv_iinc (v := ((nI t) + 1)) (lv' := [(3, .int ((nI t) + 1)), (2, .int 0), (0, .ref (ad mb)), (1, .ref (ad (2000 + i)))]) hx hb dX13_is_76 hl (k := 3) rfl rfl (by decide) rfl (fun ls hl => ?_)
                  refine lv_goto (tgt := 39) hx hb dX13_is_79 (by decide) ?_
                  exact ih_39 (t + 1) 0 ((nI t) + 1) (by omega) (by omega) (by first | exact Or.inl rfl | exact Or.inr ⟨rfl, e2⟩) (by first | (rw [← he, if_neg (show ¬ (1 : Int32) = 0 by decide), if_neg c_40, show wLn.getD i 0 - t = (wLn.getD i 0 - (t + 1)) + 1 by omega, mtS, if_pos c_67]; done) | (rw [← he, if_pos (show (0 : Int32) = 0 from rfl), if_neg c_40, show wLn.getD i 0 - t = (wLn.getD i 0 - (t + 1)) + 1 by omega, mtS, if_neg c_67]; done)) (by exact nI_1 _) ls (lv_sub hl [2, 3, 1, 0] rfl)
                · skip
                  refine lv_iconst (v := 1) hx hb dX13_is_70 (by decide) ?_
                  refine lv_goto (tgt := 75) hx hb dX13_is_71 (by decide) ?_
                  refine lv_istore_n (lv' := [(2, .int 1), (0, .ref (ad mb)), (1, .ref (ad (2000 + i))), (3, .int (nI t))]) hx hb dX13_is_75 rfl hl (by decide) rfl (fun ls hl => ?_)
                  refine lv_iinc (v := ((nI t) + 1)) (lv' := [(3, .int ((nI t) + 1)), (2, .int 1), (0, .ref (ad mb)), (1, .ref (ad (2000 + i)))]) hx hb dX13_is_76 hl (k := 3) rfl rfl (by decide) rfl (fun ls hl => ?_)
                  refine lv_goto (tgt := 39) hx hb dX13_is_79 (by decide) ?_
                  exact ih_39 (t + 1) 1 ((nI t) + 1) (by omega) (by omega) (by first | exact Or.inl rfl | exact Or.inr ⟨rfl, e2⟩) (by first | (rw [← he, if_neg (show ¬ (1 : Int32) = 0 by decide), if_neg c_40, show wLn.getD i 0 - t = (wLn.getD i 0 - (t + 1)) + 1 by omega, mtS, if_pos c_67]; done) | (rw [← he, if_pos (show (0 : Int32) = 0 from rfl), if_neg c_40, show wLn.getD i 0 - t = (wLn.getD i 0 - (t + 1)) + 1 by omega, mtS, if_neg c_67]; done)) (by exact nI_1 _) ls (lv_sub hl [2, 3, 1, 0] rfl)
        exact loop_39 (9) 0 1 0 (by have := w_ln i hi; omega) (by exact Nat.zero_le _) (by first | exact Or.inl rfl | exact Or.inr ⟨rfl, c_28⟩) (by first | (rw [if_pos rfl, isW, if_neg c_4]; done) | (rw [if_pos rfl, isW, if_pos c_4, if_neg c_12]; done) | (rw [if_pos rfl, isW, if_pos c_4, if_pos c_12, if_neg c_28]; done) | (rw [if_neg (by decide), isW, if_pos c_4, if_pos c_12, if_pos c_28]; rfl)) (by rfl) ls (lv_sub hl [2, 3, 1, 0] rfl)
set_option maxRecDepth 20000 in
theorem fX13_isMarked_222 : FL wsX13_isMarked RX13 222 12 31 := ⟨RX13, TX13, 67, rfl, by decide +kernel, by decide, by decide +kernel⟩
set_option maxRecDepth 20000 in
theorem fX13_isMarked_196 : FL wsX13_isMarked RX13 196 12 27 := ⟨RX13, TX13, 67, rfl, by decide +kernel, by decide, by decide +kernel⟩
set_option maxRecDepth 20000 in
theorem fX13_isMarked_99 : FL wsX13_isMarked RX13 99 12 23 := ⟨RX13, TX13, 67, rfl, by decide +kernel, by decide, by decide +kernel⟩
set_option maxRecDepth 20000 in
theorem fX13_isMarked_193 : FL wsX13_isMarked RX13 193 12 29 := ⟨RX13, TX13, 67, rfl, by decide +kernel, by decide, by decide +kernel⟩
def s_X13_isMarked (mv : Nat → Int32) (tapeF : Nat → Int32) (z : Int32) : Int32 := if (mv 31) = 0 then if (mv 27) = 3 then if (tapeF (mv 29).toNatClampNeg) = z then 1 else 0 else 0 else 0
set_option maxHeartbeats 2000000 in
set_option maxRecDepth 100000 in
theorem c_X13_isMarked (l : Launch) (D : va_G) (cB cI cJ : ClassId) (ad : Nat → Nat) (n : Nat) (M : Nat → va_E) (mb : Nat) (mv : Nat → Int32) (tapeF : Nat → Int32) (en : Nat) (z : Int32) (h_mb : mb < n) (h_mb_23 : mb + 23 < n) (m_mb : M mb = .inr (12, modF ad mb mv)) (m_mb_23 : M (mb + 23) = .inl (cI, 700, .inl tapeF)) (hMI : mI en mv) (hen : en ≤ 700) : cR l D cB cI cJ ad n M yX13_isMarked wsX13_isMarked 0 0 [.ref (ad mb), .int z] (s_X13_isMarked mv tapeF z) := by
  refine q_body (cc := cX13_isMarked) (maxL := 2) (ret := (some .boolean)) (by decide) rfl (Nat.le_of_ble_eq_true rfl) ?_
  intro p e s m args below meth c ls X hr hlocks hK hP hl
  obtain ⟨hx, hb, hml, hown, hts⟩ := id X
  have hS : va_S (ipA ad n) s.heap s.heap [] := va_S.rf
  have hl : lv_has ls 2 [(0, .ref (ad mb)), (1, .int z)] := hl
  obtain ⟨k26, ⟨xa, hxa, k25⟩, pb, ps, k29, k30, hps1, hps2, hps3⟩ := id hMI
  refine lv_aload_n hx hb dX13_isMarked_0 rfl (lv_at hl 0 rfl) ?_
  refine q_get (v := .int (mv 31)) (fs := modF ad mb mv) X hK hP fX13_isMarked_222 h_mb m_mb rfl dX13_isMarked_1 ?_
  refine lv_if_ne (tgt := 32) hx hb dX13_isMarked_4 (by decide) (fun c_4 => ?_) (fun c_4 => ?_)
  · skip
    refine lv_iconst (v := 0) hx hb dX13_isMarked_32 (by decide) ?_
    exact q_zret X hr hlocks (rfl) (by rw [s_X13_isMarked, if_neg c_4]) dX13_isMarked_33
  · skip
    refine lv_aload_n hx hb dX13_isMarked_7 rfl (lv_at hl 0 rfl) ?_
    refine q_get (v := .int (mv 27)) (fs := modF ad mb mv) X hK hP fX13_isMarked_196 h_mb m_mb rfl dX13_isMarked_8 ?_
    refine lv_iconst (v := 3) hx hb dX13_isMarked_11 (by decide) ?_
    refine lv_icmp_ne (tgt := 32) hx hb dX13_isMarked_12 (by decide) (fun c_12 => ?_) (fun c_12 => ?_)
    · skip
      refine lv_iconst (v := 0) hx hb dX13_isMarked_32 (by decide) ?_
      exact q_zret X hr hlocks (rfl) (by rw [s_X13_isMarked, if_pos c_4, if_neg c_12]) dX13_isMarked_33
    · skip
      refine lv_aload_n hx hb dX13_isMarked_15 rfl (lv_at hl 0 rfl) ?_
      refine q_get (v := .ref (ad (mb + 23))) (fs := modF ad mb mv) X hK hP fX13_isMarked_99 h_mb m_mb rfl dX13_isMarked_16 ?_
      refine lv_aload_n hx hb dX13_isMarked_19 rfl (lv_at hl 0 rfl) ?_
      refine q_get (v := .int (mv 29)) (fs := modF ad mb mv) X hK hP fX13_isMarked_193 h_mb m_mb rfl dX13_isMarked_20 ?_
      refine q_iald (f := tapeF) (k := 700) X hK hP h_mb_23 m_mb_23 (by rw [k29]; exact vp_in_nI (by have := hps3 c_12; omega) (by decide)) dX13_isMarked_23 ?_
      refine lv_iload_n hx hb dX13_isMarked_24 rfl (lv_at hl 1 rfl) ?_
      refine lv_icmp_ne (tgt := 32) hx hb dX13_isMarked_25 (by decide) (fun c_25 => ?_) (fun c_25 => ?_)
      · skip
        refine lv_iconst (v := 0) hx hb dX13_isMarked_32 (by decide) ?_
        exact q_zret X hr hlocks (rfl) (by rw [s_X13_isMarked, if_pos c_4, if_pos c_12, if_neg c_25]) dX13_isMarked_33
      · skip
        refine lv_iconst (v := 1) hx hb dX13_isMarked_28 (by decide) ?_
        refine lv_goto (tgt := 33) hx hb dX13_isMarked_29 (by decide) ?_
        exact q_zret X hr hlocks (rfl) (by rw [s_X13_isMarked, if_pos c_4, if_pos c_12, if_pos c_25]) dX13_isMarked_33
set_option maxRecDepth 20000 in
theorem fX13_mark_222 : FL wsX13_mark RX13 222 12 31 := ⟨RX13, TX13, 67, rfl, by decide +kernel, by decide, by decide +kernel⟩
theorem yd_X13_stepOn : YD yX13_stepOn 0 := ⟨by decide +kernel, by decide +kernel, by decide +kernel⟩
theorem yd_X13_isMarked : YD yX13_isMarked 1 := ⟨by decide +kernel, by decide +kernel, by decide +kernel⟩
theorem yd_X13_wrong : YD yX13_wrong 1 := ⟨by decide +kernel, by decide +kernel, by decide +kernel⟩
def s_X13_mark_0_1 (mv : Nat → Int32) (tapeF : Nat → Int32) (en : Nat) (z : Int32) : Nat → Int32 := if (mv 31) = 0 then if (s_X13_isMarked mv tapeF z) = 0 then if ((s_X13_wrong_0_1 mv 1) 31) = 0 then (mS en tapeF (s_X13_wrong_0_1 mv 1)) else (s_X13_wrong_0_1 mv 1) else if (mv 31) = 0 then (mS en tapeF mv) else mv else if (mv 31) = 0 then (mS en tapeF mv) else mv
set_option maxHeartbeats 2000000 in
set_option maxRecDepth 100000 in
theorem c_X13_mark (l : Launch) (D : va_G) (cB cI cJ : ClassId) (ad : Nat → Nat) (n : Nat) (M : Nat → va_E) (hI : ipI ad n) (mb : Nat) (mv : Nat → Int32) (tapeF : Nat → Int32) (en : Nat) (z : Int32) (h_mb : mb < n) (h_mb_23 : mb + 23 < n) (m_mb : M mb = .inr (12, modF ad mb mv)) (m_mb_23 : M (mb + 23) = .inl (cI, 700, .inl tapeF)) (hMI : mI en mv) (hen : en ≤ 700) (hT : bOK tapeF) : cWv l D cB cI cJ ad n M yX13_mark wsX13_mark 2 42 [.ref (ad mb), .int z] (fun M' => M' mb = .inr (12, modF ad mb (s_X13_mark_0_1 mv tapeF en z)) ∧ ∀ q : Nat, q ≠ mb → M' q = M q) := by
  refine q_body (cc := cX13_mark) (maxL := 2) (ret := none) (by decide) rfl (Nat.le_of_ble_eq_true rfl) ?_
  intro p e s m args below meth c ls X hr hlocks hK hP hl
  obtain ⟨hx, hb, hml, hown, hts⟩ := id X
  have hS : va_S (ipA ad n) s.heap s.heap [] := va_S.rf
  have hl : lv_has ls 2 [(0, .ref (ad mb)), (1, .int z)] := hl
  refine lv_aload_n hx hb dX13_mark_0 rfl (lv_at hl 0 rfl) ?_
  refine q_get (v := .int (mv 31)) (fs := modF ad mb mv) X hK hP fX13_mark_222 h_mb m_mb rfl dX13_mark_1 ?_
  refine lv_if_ne (tgt := 20) hx hb dX13_mark_4 (by decide) (fun c_4 => ?_) (fun c_4 => ?_)
  · skip
    refine lv_aload_n hx hb dX13_mark_20 rfl (lv_at hl 0 rfl) ?_
    refine q_get (v := .int (mv 31)) (fs := modF ad mb mv) X hK hP fX13_mark_222 h_mb m_mb rfl dX13_mark_21 ?_
    refine lv_if_ne (tgt := 31) hx hb dX13_mark_24 (by decide) (fun c_24 => ?_) (fun c_24 => ?_)
    · skip
      exact q_wvret X hr hlocks hP hS ⟨(by rw [s_X13_mark_0_1, if_neg c_4, if_neg c_24]; exact m_mb), (fun q n0 => rfl)⟩ dX13_mark_31
    · skip
      refine lv_aload_n hx hb dX13_mark_27 rfl (lv_at hl 0 rfl) ?_
      refine q_wrVv (As := []) (rest := []) (c_X13_step l D cB cI cJ ad n M hI mb en mv tapeF h_mb h_mb_23 m_mb m_mb_23 hMI hen hT) X hK hP hS hl.1 rfl gX13_mark_X13_stepOn yd_X13_stepOn ⟨Nat.le_of_ble_eq_true rfl, Nat.le_of_ble_eq_true rfl⟩ h_mb m_mb (ci := 12) rfl rfl (Nat.le_of_ble_eq_true rfl) ⟨Nat.zero_le _, Nat.zero_le _⟩ dX13_mark_28 (fun M2 H locs hp1 hP hS => ?_)
      obtain ⟨g4, fr5⟩ := hp1
      exact q_wvret X hr hlocks hP hS ⟨(by rw [s_X13_mark_0_1, if_neg c_4, if_pos c_24]; exact g4), (fun q n0 => (fr5 q n0))⟩ dX13_mark_31
  · skip
    refine lv_aload_n hx hb dX13_mark_7 rfl (lv_at hl 0 rfl) ?_
    refine lv_iload_n hx hb dX13_mark_8 rfl (lv_at hl 1 rfl) ?_
    refine q_rdV (As := [.int z]) (rest := []) (c_X13_isMarked l D cB cI cJ ad n M mb mv tapeF en z h_mb h_mb_23 m_mb m_mb_23 hMI hen) X hK hP hS hl.1 rfl gX13_mark_X13_isMarked yd_X13_isMarked ⟨Nat.le_of_ble_eq_true rfl, Nat.le_of_ble_eq_true rfl⟩ h_mb m_mb (ci := 12) rfl rfl (Nat.le_of_ble_eq_true rfl) ⟨Nat.zero_le _, Nat.zero_le _⟩ dX13_mark_9 ?_
    refine lv_if_ne (tgt := 20) hx hb dX13_mark_12 (by decide) (fun c_12 => ?_) (fun c_12 => ?_)
    · skip
      refine lv_aload_n hx hb dX13_mark_20 rfl (lv_at hl 0 rfl) ?_
      refine q_get (v := .int (mv 31)) (fs := modF ad mb mv) X hK hP fX13_mark_222 h_mb m_mb rfl dX13_mark_21 ?_
      refine lv_if_ne (tgt := 31) hx hb dX13_mark_24 (by decide) (fun c_24 => ?_) (fun c_24 => ?_)
      · skip
        exact q_wvret X hr hlocks hP hS ⟨(by rw [s_X13_mark_0_1, if_pos c_4, if_neg c_12, if_neg c_24]; exact m_mb), (fun q n0 => rfl)⟩ dX13_mark_31
      · skip
        refine lv_aload_n hx hb dX13_mark_27 rfl (lv_at hl 0 rfl) ?_
        refine q_wrVv (As := []) (rest := []) (c_X13_step l D cB cI cJ ad n M hI mb en mv tapeF h_mb h_mb_23 m_mb m_mb_23 hMI hen hT) X hK hP hS hl.1 rfl gX13_mark_X13_stepOn yd_X13_stepOn ⟨Nat.le_of_ble_eq_true rfl, Nat.le_of_ble_eq_true rfl⟩ h_mb m_mb (ci := 12) rfl rfl (Nat.le_of_ble_eq_true rfl) ⟨Nat.zero_le _, Nat.zero_le _⟩ dX13_mark_28 (fun M7 H locs hp6 hP hS => ?_)
        obtain ⟨g9, fr10⟩ := hp6
        exact q_wvret X hr hlocks hP hS ⟨(by rw [s_X13_mark_0_1, if_pos c_4, if_neg c_12, if_pos c_24]; exact g9), (fun q n0 => (fr10 q n0))⟩ dX13_mark_31
    · skip
      refine lv_aload_n hx hb dX13_mark_15 rfl (lv_at hl 0 rfl) ?_
      refine lv_iconst (v := 1) hx hb dX13_mark_16 (by decide) ?_
      refine q_wrVv (As := [.int 1]) (rest := []) (c_X13_wrong l D cB cI cJ ad n M hI mb mv 1 h_mb m_mb ) X hK hP hS hl.1 rfl gX13_mark_X13_wrong yd_X13_wrong ⟨Nat.le_of_ble_eq_true rfl, Nat.le_of_ble_eq_true rfl⟩ h_mb m_mb (ci := 12) rfl rfl (Nat.le_of_ble_eq_true rfl) ⟨Nat.zero_le _, Nat.zero_le _⟩ dX13_mark_17 (fun M12 H locs hp11 hP hS => ?_)
      obtain ⟨g14, fr15⟩ := hp11
      refine lv_aload_n hx hb dX13_mark_20 rfl (lv_at hl 0 rfl) ?_
      refine q_get (v := .int ((s_X13_wrong_0_1 mv 1) 31)) (fs := modF ad mb (s_X13_wrong_0_1 mv 1)) X hK hP fX13_mark_222 h_mb g14 rfl dX13_mark_21 ?_
      refine lv_if_ne (tgt := 31) hx hb dX13_mark_24 (by decide) (fun c_24 => ?_) (fun c_24 => ?_)
      · skip
        exact q_wvret X hr hlocks hP hS ⟨(by rw [s_X13_mark_0_1, if_pos c_4, if_pos c_12, if_neg c_24]; exact g14), (fun q n0 => (fr15 q n0))⟩ dX13_mark_31
      · skip
        refine lv_aload_n hx hb dX13_mark_27 rfl (lv_at hl 0 rfl) ?_
        refine q_wrVv (As := []) (rest := []) (c_X13_step l D cB cI cJ ad n M12 hI mb en (s_X13_wrong_0_1 mv 1) tapeF h_mb h_mb_23 g14 ((fr15 (mb + 23) (by omega)).trans m_mb_23) (by first | assumption | (apply mI_S <;> (repeat' (first | assumption | apply mI_S | apply mI_wrong | apply mI_nn | apply mI_rn | apply mI_one))) | (apply mI_wrong; repeat' (first | assumption | apply mI_S | apply mI_wrong | apply mI_nn | apply mI_rn | apply mI_one)) | (apply mI_nn; repeat' (first | assumption | apply mI_S | apply mI_wrong | apply mI_nn | apply mI_rn | apply mI_one)) | (apply mI_rn <;> (repeat' (first | assumption | apply mI_S | apply mI_wrong | apply mI_nn | apply mI_rn | apply mI_one))) | (apply mI_one; repeat' (first | assumption | apply mI_S | apply mI_wrong | apply mI_nn | apply mI_rn | apply mI_one)) | omega) hen hT) X hK hP hS hl.1 rfl gX13_mark_X13_stepOn yd_X13_stepOn ⟨Nat.le_of_ble_eq_true rfl, Nat.le_of_ble_eq_true rfl⟩ h_mb g14 (ci := 12) rfl rfl (Nat.le_of_ble_eq_true rfl) ⟨Nat.zero_le _, Nat.zero_le _⟩ dX13_mark_28 (fun M17 H locs hp16 hP hS => ?_)
        obtain ⟨g19, fr20⟩ := hp16
        exact q_wvret X hr hlocks hP hS ⟨(by rw [s_X13_mark_0_1, if_pos c_4, if_pos c_12, if_pos c_24]; exact g19), (fun q n0 => ((fr20 q n0).trans (fr15 q n0)))⟩ dX13_mark_31
set_option maxRecDepth 20000 in
theorem fX13_numberNow_222 : FL wsX13_numberNow RX13 222 12 31 := ⟨RX13, TX13, 67, rfl, by decide +kernel, by decide, by decide +kernel⟩
set_option maxRecDepth 20000 in
theorem fX13_numberNow_196 : FL wsX13_numberNow RX13 196 12 27 := ⟨RX13, TX13, 67, rfl, by decide +kernel, by decide, by decide +kernel⟩
set_option maxRecDepth 20000 in
theorem fX13_numberNow_219 : FL wsX13_numberNow RX13 219 12 30 := ⟨RX13, TX13, 67, rfl, by decide +kernel, by decide, by decide +kernel⟩
set_option maxRecDepth 20000 in
theorem fX13_numberNow_193 : FL wsX13_numberNow RX13 193 12 29 := ⟨RX13, TX13, 67, rfl, by decide +kernel, by decide, by decide +kernel⟩
set_option maxRecDepth 20000 in
theorem fX13_numberNow_206 : FL wsX13_numberNow RX13 206 12 28 := ⟨RX13, TX13, 67, rfl, by decide +kernel, by decide, by decide +kernel⟩
def s_X13_numberNow (mv : Nat → Int32) (z1 : Int32) (z2 : Int32) : Int32 := if (mv 31) = 0 then if (mv 27) = 2 then if 4 < ((mv 30) - (mv 29)) then if ((s_X13_wrong_0_1 mv 2) 31) = 0 then ((s_X13_wrong_0_1 mv 2) 28) else 0 else if (mv 28) < z1 then if ((s_X13_wrong_0_1 mv 2) 31) = 0 then ((s_X13_wrong_0_1 mv 2) 28) else 0 else if (mv 28) ≤ z2 then if (mv 31) = 0 then (mv 28) else 0 else if ((s_X13_wrong_0_1 mv 2) 31) = 0 then ((s_X13_wrong_0_1 mv 2) 28) else 0 else if ((s_X13_wrong_0_1 mv 1) 31) = 0 then ((s_X13_wrong_0_1 mv 1) 28) else 0 else 0
def s_X13_numberNow_0_1 (mv : Nat → Int32) (z1 : Int32) (z2 : Int32) : Nat → Int32 := if (mv 31) = 0 then if (mv 27) = 2 then if 4 < ((mv 30) - (mv 29)) then if ((s_X13_wrong_0_1 mv 2) 31) = 0 then (s_X13_wrong_0_1 mv 2) else (s_X13_wrong_0_1 mv 2) else if (mv 28) < z1 then if ((s_X13_wrong_0_1 mv 2) 31) = 0 then (s_X13_wrong_0_1 mv 2) else (s_X13_wrong_0_1 mv 2) else if (mv 28) ≤ z2 then if (mv 31) = 0 then mv else mv else if ((s_X13_wrong_0_1 mv 2) 31) = 0 then (s_X13_wrong_0_1 mv 2) else (s_X13_wrong_0_1 mv 2) else if ((s_X13_wrong_0_1 mv 1) 31) = 0 then (s_X13_wrong_0_1 mv 1) else (s_X13_wrong_0_1 mv 1) else mv
set_option maxHeartbeats 2000000 in
set_option maxRecDepth 100000 in
theorem c_X13_numberNow (l : Launch) (D : va_G) (cB cI cJ : ClassId) (ad : Nat → Nat) (n : Nat) (M : Nat → va_E) (hI : ipI ad n) (mb : Nat) (mv : Nat → Int32) (en : Nat) (z1 : Int32) (z2 : Int32) (h_mb : mb < n) (m_mb : M mb = .inr (12, modF ad mb mv))  : cWi l D cB cI cJ ad n M yX13_numberNow wsX13_numberNow 1 21 [.ref (ad mb), .int z1, .int z2] (fun r M' => r = s_X13_numberNow mv z1 z2 ∧ M' mb = .inr (12, modF ad mb (s_X13_numberNow_0_1 mv z1 z2)) ∧ ∀ q : Nat, q ≠ mb → M' q = M q) := by
  refine q_body (cc := cX13_numberNow) (maxL := 3) (ret := (some .int)) (by decide) rfl (Nat.le_of_ble_eq_true rfl) ?_
  intro p e s m args below meth c ls X hr hlocks hK hP hl
  obtain ⟨hx, hb, hml, hown, hts⟩ := id X
  have hS : va_S (ipA ad n) s.heap s.heap [] := va_S.rf
  have hl : lv_has ls 3 [(0, .ref (ad mb)), (1, .int z1), (2, .int z2)] := hl
  refine lv_aload_n hx hb dX13_numberNow_0 rfl (lv_at hl 0 rfl) ?_
  refine q_get (v := .int (mv 31)) (fs := modF ad mb mv) X hK hP fX13_numberNow_222 h_mb m_mb rfl dX13_numberNow_1 ?_
  refine lv_if_eq (tgt := 9) hx hb dX13_numberNow_4 (by decide) (fun c_4 => ?_) (fun c_4 => ?_)
  · skip
    refine lv_aload_n hx hb dX13_numberNow_9 rfl (lv_at hl 0 rfl) ?_
    refine q_get (v := .int (mv 27)) (fs := modF ad mb mv) X hK hP fX13_numberNow_196 h_mb m_mb rfl dX13_numberNow_10 ?_
    refine lv_iconst (v := 2) hx hb dX13_numberNow_13 (by decide) ?_
    refine lv_icmp_eq (tgt := 25) hx hb dX13_numberNow_14 (by decide) (fun c_14 => ?_) (fun c_14 => ?_)
    · skip
      refine lv_aload_n hx hb dX13_numberNow_25 rfl (lv_at hl 0 rfl) ?_
      refine q_get (v := .int (mv 30)) (fs := modF ad mb mv) X hK hP fX13_numberNow_219 h_mb m_mb rfl dX13_numberNow_26 ?_
      refine lv_aload_n hx hb dX13_numberNow_29 rfl (lv_at hl 0 rfl) ?_
      refine q_get (v := .int (mv 29)) (fs := modF ad mb mv) X hK hP fX13_numberNow_193 h_mb m_mb rfl dX13_numberNow_30 ?_
      refine lv_isub hx hb dX13_numberNow_33 ?_
      refine lv_iconst (v := 4) hx hb dX13_numberNow_34 (by decide) ?_
      refine lv_icmp_gt (tgt := 54) hx hb dX13_numberNow_35 (by decide) (fun c_35 => ?_) (fun c_35 => ?_)
      · skip
        refine lv_aload_n hx hb dX13_numberNow_54 rfl (lv_at hl 0 rfl) ?_
        refine lv_iconst (v := 2) hx hb dX13_numberNow_55 (by decide) ?_
        refine q_wrVv (As := [.int 2]) (rest := []) (c_X13_wrong l D cB cI cJ ad n M hI mb mv 2 h_mb m_mb ) X hK hP hS hl.1 rfl gX13_numberNow_X13_wrong yd_X13_wrong ⟨Nat.le_of_ble_eq_true rfl, Nat.le_of_ble_eq_true rfl⟩ h_mb m_mb (ci := 12) rfl rfl (Nat.le_of_ble_eq_true rfl) ⟨Nat.zero_le _, Nat.zero_le _⟩ dX13_numberNow_56 (fun M2 H locs hp1 hP hS => ?_)
        obtain ⟨g4, fr5⟩ := hp1
        refine lv_aload_n hx hb dX13_numberNow_59 rfl (lv_at hl 0 rfl) ?_
        refine q_get (v := .int ((s_X13_wrong_0_1 mv 2) 31)) (fs := modF ad mb (s_X13_wrong_0_1 mv 2)) X hK hP fX13_numberNow_222 h_mb g4 rfl dX13_numberNow_60 ?_
        refine lv_if_ne (tgt := 73) hx hb dX13_numberNow_63 (by decide) (fun c_63 => ?_) (fun c_63 => ?_)
        · skip
          refine lv_iconst (v := 0) hx hb dX13_numberNow_73 (by decide) ?_
          exact q_wzret X hr hlocks hP hS (rfl) ⟨(by rw [s_X13_numberNow, if_pos c_4, if_pos c_14, if_pos c_35, if_neg c_63]), (by rw [s_X13_numberNow_0_1, if_pos c_4, if_pos c_14, if_pos c_35, if_neg c_63]; exact g4), (fun q n0 => (fr5 q n0))⟩ dX13_numberNow_74
        · skip
          refine lv_aload_n hx hb dX13_numberNow_66 rfl (lv_at hl 0 rfl) ?_
          refine q_get (v := .int ((s_X13_wrong_0_1 mv 2) 28)) (fs := modF ad mb (s_X13_wrong_0_1 mv 2)) X hK hP fX13_numberNow_206 h_mb g4 rfl dX13_numberNow_67 ?_
          refine lv_goto (tgt := 74) hx hb dX13_numberNow_70 (by decide) ?_
          exact q_wzret X hr hlocks hP hS (rfl) ⟨(by rw [s_X13_numberNow, if_pos c_4, if_pos c_14, if_pos c_35, if_pos c_63]), (by rw [s_X13_numberNow_0_1, if_pos c_4, if_pos c_14, if_pos c_35, if_pos c_63]; exact g4), (fun q n0 => (fr5 q n0))⟩ dX13_numberNow_74
      · skip
        refine lv_aload_n hx hb dX13_numberNow_38 rfl (lv_at hl 0 rfl) ?_
        refine q_get (v := .int (mv 28)) (fs := modF ad mb mv) X hK hP fX13_numberNow_206 h_mb m_mb rfl dX13_numberNow_39 ?_
        refine lv_iload_n hx hb dX13_numberNow_42 rfl (lv_at hl 1 rfl) ?_
        refine lv_icmp_lt (tgt := 54) hx hb dX13_numberNow_43 (by decide) (fun c_43 => ?_) (fun c_43 => ?_)
        · skip
          refine lv_aload_n hx hb dX13_numberNow_54 rfl (lv_at hl 0 rfl) ?_
          refine lv_iconst (v := 2) hx hb dX13_numberNow_55 (by decide) ?_
          refine q_wrVv (As := [.int 2]) (rest := []) (c_X13_wrong l D cB cI cJ ad n M hI mb mv 2 h_mb m_mb ) X hK hP hS hl.1 rfl gX13_numberNow_X13_wrong yd_X13_wrong ⟨Nat.le_of_ble_eq_true rfl, Nat.le_of_ble_eq_true rfl⟩ h_mb m_mb (ci := 12) rfl rfl (Nat.le_of_ble_eq_true rfl) ⟨Nat.zero_le _, Nat.zero_le _⟩ dX13_numberNow_56 (fun M7 H locs hp6 hP hS => ?_)
          obtain ⟨g9, fr10⟩ := hp6
          refine lv_aload_n hx hb dX13_numberNow_59 rfl (lv_at hl 0 rfl) ?_
          refine q_get (v := .int ((s_X13_wrong_0_1 mv 2) 31)) (fs := modF ad mb (s_X13_wrong_0_1 mv 2)) X hK hP fX13_numberNow_222 h_mb g9 rfl dX13_numberNow_60 ?_
          refine lv_if_ne (tgt := 73) hx hb dX13_numberNow_63 (by decide) (fun c_63 => ?_) (fun c_63 => ?_)
          · skip
            refine lv_iconst (v := 0) hx hb dX13_numberNow_73 (by decide) ?_
            exact q_wzret X hr hlocks hP hS (rfl) ⟨(by rw [s_X13_numberNow, if_pos c_4, if_pos c_14, if_neg c_35, if_pos c_43, if_neg c_63]), (by rw [s_X13_numberNow_0_1, if_pos c_4, if_pos c_14, if_neg c_35, if_pos c_43, if_neg c_63]; exact g9), (fun q n0 => (fr10 q n0))⟩ dX13_numberNow_74
          · skip
            refine lv_aload_n hx hb dX13_numberNow_66 rfl (lv_at hl 0 rfl) ?_
            refine q_get (v := .int ((s_X13_wrong_0_1 mv 2) 28)) (fs := modF ad mb (s_X13_wrong_0_1 mv 2)) X hK hP fX13_numberNow_206 h_mb g9 rfl dX13_numberNow_67 ?_
            refine lv_goto (tgt := 74) hx hb dX13_numberNow_70 (by decide) ?_
            exact q_wzret X hr hlocks hP hS (rfl) ⟨(by rw [s_X13_numberNow, if_pos c_4, if_pos c_14, if_neg c_35, if_pos c_43, if_pos c_63]), (by rw [s_X13_numberNow_0_1, if_pos c_4, if_pos c_14, if_neg c_35, if_pos c_43, if_pos c_63]; exact g9), (fun q n0 => (fr10 q n0))⟩ dX13_numberNow_74
        · skip
          refine lv_aload_n hx hb dX13_numberNow_46 rfl (lv_at hl 0 rfl) ?_
          refine q_get (v := .int (mv 28)) (fs := modF ad mb mv) X hK hP fX13_numberNow_206 h_mb m_mb rfl dX13_numberNow_47 ?_
          refine lv_iload_n hx hb dX13_numberNow_50 rfl (lv_at hl 2 rfl) ?_
          refine lv_icmp_le (tgt := 59) hx hb dX13_numberNow_51 (by decide) (fun c_51 => ?_) (fun c_51 => ?_)
          · skip
            refine lv_aload_n hx hb dX13_numberNow_59 rfl (lv_at hl 0 rfl) ?_
            refine q_get (v := .int (mv 31)) (fs := modF ad mb mv) X hK hP fX13_numberNow_222 h_mb m_mb rfl dX13_numberNow_60 ?_
            refine lv_if_ne (tgt := 73) hx hb dX13_numberNow_63 (by decide) (fun c_63 => ?_) (fun c_63 => ?_)
            · skip
              refine lv_iconst (v := 0) hx hb dX13_numberNow_73 (by decide) ?_
              exact q_wzret X hr hlocks hP hS (rfl) ⟨(by rw [s_X13_numberNow, if_pos c_4, if_pos c_14, if_neg c_35, if_neg c_43, if_pos c_51, if_neg c_63]), (by rw [s_X13_numberNow_0_1, if_pos c_4, if_pos c_14, if_neg c_35, if_neg c_43, if_pos c_51, if_neg c_63]; exact m_mb), (fun q n0 => rfl)⟩ dX13_numberNow_74
            · skip
              refine lv_aload_n hx hb dX13_numberNow_66 rfl (lv_at hl 0 rfl) ?_
              refine q_get (v := .int (mv 28)) (fs := modF ad mb mv) X hK hP fX13_numberNow_206 h_mb m_mb rfl dX13_numberNow_67 ?_
              refine lv_goto (tgt := 74) hx hb dX13_numberNow_70 (by decide) ?_
              exact q_wzret X hr hlocks hP hS (rfl) ⟨(by rw [s_X13_numberNow, if_pos c_4, if_pos c_14, if_neg c_35, if_neg c_43, if_pos c_51, if_pos c_63]), (by rw [s_X13_numberNow_0_1, if_pos c_4, if_pos c_14, if_neg c_35, if_neg c_43, if_pos c_51, if_pos c_63]; exact m_mb), (fun q n0 => rfl)⟩ dX13_numberNow_74
          · skip
            refine lv_aload_n hx hb dX13_numberNow_54 rfl (lv_at hl 0 rfl) ?_
            refine lv_iconst (v := 2) hx hb dX13_numberNow_55 (by decide) ?_
            refine q_wrVv (As := [.int 2]) (rest := []) (c_X13_wrong l D cB cI cJ ad n M hI mb mv 2 h_mb m_mb ) X hK hP hS hl.1 rfl gX13_numberNow_X13_wrong yd_X13_wrong ⟨Nat.le_of_ble_eq_true rfl, Nat.le_of_ble_eq_true rfl⟩ h_mb m_mb (ci := 12) rfl rfl (Nat.le_of_ble_eq_true rfl) ⟨Nat.zero_le _, Nat.zero_le _⟩ dX13_numberNow_56 (fun M12 H locs hp11 hP hS => ?_)
            obtain ⟨g14, fr15⟩ := hp11
            refine lv_aload_n hx hb dX13_numberNow_59 rfl (lv_at hl 0 rfl) ?_
            refine q_get (v := .int ((s_X13_wrong_0_1 mv 2) 31)) (fs := modF ad mb (s_X13_wrong_0_1 mv 2)) X hK hP fX13_numberNow_222 h_mb g14 rfl dX13_numberNow_60 ?_
            refine lv_if_ne (tgt := 73) hx hb dX13_numberNow_63 (by decide) (fun c_63 => ?_) (fun c_63 => ?_)
            · skip
              refine lv_iconst (v := 0) hx hb dX13_numberNow_73 (by decide) ?_
              exact q_wzret X hr hlocks hP hS (rfl) ⟨(by rw [s_X13_numberNow, if_pos c_4, if_pos c_14, if_neg c_35, if_neg c_43, if_neg c_51, if_neg c_63]), (by rw [s_X13_numberNow_0_1, if_pos c_4, if_pos c_14, if_neg c_35, if_neg c_43, if_neg c_51, if_neg c_63]; exact g14), (fun q n0 => (fr15 q n0))⟩ dX13_numberNow_74
            · skip
              refine lv_aload_n hx hb dX13_numberNow_66 rfl (lv_at hl 0 rfl) ?_
              refine q_get (v := .int ((s_X13_wrong_0_1 mv 2) 28)) (fs := modF ad mb (s_X13_wrong_0_1 mv 2)) X hK hP fX13_numberNow_206 h_mb g14 rfl dX13_numberNow_67 ?_
              refine lv_goto (tgt := 74) hx hb dX13_numberNow_70 (by decide) ?_
              exact q_wzret X hr hlocks hP hS (rfl) ⟨(by rw [s_X13_numberNow, if_pos c_4, if_pos c_14, if_neg c_35, if_neg c_43, if_neg c_51, if_pos c_63]), (by rw [s_X13_numberNow_0_1, if_pos c_4, if_pos c_14, if_neg c_35, if_neg c_43, if_neg c_51, if_pos c_63]; exact g14), (fun q n0 => (fr15 q n0))⟩ dX13_numberNow_74
    · skip
      refine lv_aload_n hx hb dX13_numberNow_17 rfl (lv_at hl 0 rfl) ?_
      refine lv_iconst (v := 1) hx hb dX13_numberNow_18 (by decide) ?_
      refine q_wrVv (As := [.int 1]) (rest := []) (c_X13_wrong l D cB cI cJ ad n M hI mb mv 1 h_mb m_mb ) X hK hP hS hl.1 rfl gX13_numberNow_X13_wrong yd_X13_wrong ⟨Nat.le_of_ble_eq_true rfl, Nat.le_of_ble_eq_true rfl⟩ h_mb m_mb (ci := 12) rfl rfl (Nat.le_of_ble_eq_true rfl) ⟨Nat.zero_le _, Nat.zero_le _⟩ dX13_numberNow_19 (fun M17 H locs hp16 hP hS => ?_)
      obtain ⟨g19, fr20⟩ := hp16
      refine lv_goto (tgt := 59) hx hb dX13_numberNow_22 (by decide) ?_
      refine lv_aload_n hx hb dX13_numberNow_59 rfl (lv_at hl 0 rfl) ?_
      refine q_get (v := .int ((s_X13_wrong_0_1 mv 1) 31)) (fs := modF ad mb (s_X13_wrong_0_1 mv 1)) X hK hP fX13_numberNow_222 h_mb g19 rfl dX13_numberNow_60 ?_
      refine lv_if_ne (tgt := 73) hx hb dX13_numberNow_63 (by decide) (fun c_63 => ?_) (fun c_63 => ?_)
      · skip
        refine lv_iconst (v := 0) hx hb dX13_numberNow_73 (by decide) ?_
        exact q_wzret X hr hlocks hP hS (rfl) ⟨(by rw [s_X13_numberNow, if_pos c_4, if_neg c_14, if_neg c_63]), (by rw [s_X13_numberNow_0_1, if_pos c_4, if_neg c_14, if_neg c_63]; exact g19), (fun q n0 => (fr20 q n0))⟩ dX13_numberNow_74
      · skip
        refine lv_aload_n hx hb dX13_numberNow_66 rfl (lv_at hl 0 rfl) ?_
        refine q_get (v := .int ((s_X13_wrong_0_1 mv 1) 28)) (fs := modF ad mb (s_X13_wrong_0_1 mv 1)) X hK hP fX13_numberNow_206 h_mb g19 rfl dX13_numberNow_67 ?_
        refine lv_goto (tgt := 74) hx hb dX13_numberNow_70 (by decide) ?_
        exact q_wzret X hr hlocks hP hS (rfl) ⟨(by rw [s_X13_numberNow, if_pos c_4, if_neg c_14, if_pos c_63]), (by rw [s_X13_numberNow_0_1, if_pos c_4, if_neg c_14, if_pos c_63]; exact g19), (fun q n0 => (fr20 q n0))⟩ dX13_numberNow_74
  · skip
    refine lv_iconst (v := 0) hx hb dX13_numberNow_7 (by decide) ?_
    exact q_wzret X hr hlocks hP hS (rfl) ⟨(by rw [s_X13_numberNow, if_neg c_4]), (by rw [s_X13_numberNow_0_1, if_neg c_4]; exact m_mb), (fun q n0 => rfl)⟩ dX13_numberNow_8
theorem mI_nn {en : Nat} {mv : Nat → Int32} {z1 z2 : Int32} (h : mI en mv) : mI en (s_X13_numberNow_0_1 mv z1 z2) := by
  unfold s_X13_numberNow_0_1
  (repeat' split) <;> first | exact h | exact mI_wrong h
theorem yd_X13_numberNow : YD yX13_numberNow 2 := ⟨by decide +kernel, by decide +kernel, by decide +kernel⟩
set_option maxRecDepth 20000 in
theorem fX13_readNumber_222 : FL wsX13_readNumber RX13 222 12 31 := ⟨RX13, TX13, 67, rfl, by decide +kernel, by decide, by decide +kernel⟩
def s_X13_readNumber (mv : Nat → Int32) (z1 : Int32) (z2 : Int32) : Int32 := if ((s_X13_numberNow_0_1 mv z1 z2) 31) = 0 then (s_X13_numberNow mv z1 z2) else (s_X13_numberNow mv z1 z2)
def s_X13_readNumber_0_1 (mv : Nat → Int32) (tapeF : Nat → Int32) (en : Nat) (z1 : Int32) (z2 : Int32) : Nat → Int32 := if ((s_X13_numberNow_0_1 mv z1 z2) 31) = 0 then (mS en tapeF (s_X13_numberNow_0_1 mv z1 z2)) else (s_X13_numberNow_0_1 mv z1 z2)
set_option maxHeartbeats 2000000 in
set_option maxRecDepth 100000 in
theorem c_X13_readNumber (l : Launch) (D : va_G) (cB cI cJ : ClassId) (ad : Nat → Nat) (n : Nat) (M : Nat → va_E) (hI : ipI ad n) (mb : Nat) (mv : Nat → Int32) (tapeF : Nat → Int32) (en : Nat) (z1 : Int32) (z2 : Int32) (h_mb : mb < n) (h_mb_23 : mb + 23 < n) (m_mb : M mb = .inr (12, modF ad mb mv)) (m_mb_23 : M (mb + 23) = .inl (cI, 700, .inl tapeF)) (hMI : mI en mv) (hen : en ≤ 700) (hT : bOK tapeF) : cWi l D cB cI cJ ad n M yX13_readNumber wsX13_readNumber 2 43 [.ref (ad mb), .int z1, .int z2] (fun r M' => r = s_X13_readNumber mv z1 z2 ∧ M' mb = .inr (12, modF ad mb (s_X13_readNumber_0_1 mv tapeF en z1 z2)) ∧ ∀ q : Nat, q ≠ mb → M' q = M q) := by
  refine q_body (cc := cX13_readNumber) (maxL := 4) (ret := (some .int)) (by decide) rfl (Nat.le_of_ble_eq_true rfl) ?_
  intro p e s m args below meth c ls X hr hlocks hK hP hl
  obtain ⟨hx, hb, hml, hown, hts⟩ := id X
  have hS : va_S (ipA ad n) s.heap s.heap [] := va_S.rf
  have hl : lv_has ls 4 [(0, .ref (ad mb)), (1, .int z1), (2, .int z2)] := hl
  refine lv_aload_n hx hb dX13_readNumber_0 rfl (lv_at hl 0 rfl) ?_
  refine lv_iload_n hx hb dX13_readNumber_1 rfl (lv_at hl 1 rfl) ?_
  refine lv_iload_n hx hb dX13_readNumber_2 rfl (lv_at hl 2 rfl) ?_
  refine q_wrVi (As := [.int z1, .int z2]) (rest := []) (c_X13_numberNow l D cB cI cJ ad n M hI mb mv en z1 z2 h_mb m_mb ) X hK hP hS hl.1 rfl gX13_readNumber_X13_numberNow yd_X13_numberNow ⟨Nat.le_of_ble_eq_true rfl, Nat.le_of_ble_eq_true rfl⟩ h_mb m_mb (ci := 12) rfl rfl (Nat.le_of_ble_eq_true rfl) ⟨Nat.zero_le _, Nat.zero_le _⟩ dX13_readNumber_3 (fun r3 M2 H locs hp1 hP hS => ?_)
  obtain ⟨rfl, g4, fr5⟩ := hp1
  refine lv_istore_n (lv' := [(3, .int (s_X13_numberNow mv z1 z2)), (0, .ref (ad mb)), (1, .int z1), (2, .int z2)]) hx hb dX13_readNumber_6 rfl hl (by decide) rfl (fun ls hl => ?_)
  refine lv_aload_n hx hb dX13_readNumber_7 rfl (lv_at hl 1 rfl) ?_
  refine q_get (v := .int ((s_X13_numberNow_0_1 mv z1 z2) 31)) (fs := modF ad mb (s_X13_numberNow_0_1 mv z1 z2)) X hK hP fX13_readNumber_222 h_mb g4 rfl dX13_readNumber_8 ?_
  refine lv_if_ne (tgt := 18) hx hb dX13_readNumber_11 (by decide) (fun c_11 => ?_) (fun c_11 => ?_)
  · skip
    refine lv_iload_n hx hb dX13_readNumber_18 rfl (lv_at hl 0 rfl) ?_
    exact q_wzret X hr hlocks hP hS (rfl) ⟨(by rw [s_X13_readNumber, if_neg c_11]), (by rw [s_X13_readNumber_0_1, if_neg c_11]; exact g4), (fun q n0 => (fr5 q n0))⟩ dX13_readNumber_19
  · skip
    refine lv_aload_n hx hb dX13_readNumber_14 rfl (lv_at hl 1 rfl) ?_
    refine q_wrVv (As := []) (rest := []) (c_X13_step l D cB cI cJ ad n M2 hI mb en (s_X13_numberNow_0_1 mv z1 z2) tapeF h_mb h_mb_23 g4 ((fr5 (mb + 23) (by omega)).trans m_mb_23) (by first | assumption | (apply mI_S <;> (repeat' (first | assumption | apply mI_S | apply mI_wrong | apply mI_nn | apply mI_rn | apply mI_one))) | (apply mI_wrong; repeat' (first | assumption | apply mI_S | apply mI_wrong | apply mI_nn | apply mI_rn | apply mI_one)) | (apply mI_nn; repeat' (first | assumption | apply mI_S | apply mI_wrong | apply mI_nn | apply mI_rn | apply mI_one)) | (apply mI_rn <;> (repeat' (first | assumption | apply mI_S | apply mI_wrong | apply mI_nn | apply mI_rn | apply mI_one))) | (apply mI_one; repeat' (first | assumption | apply mI_S | apply mI_wrong | apply mI_nn | apply mI_rn | apply mI_one)) | omega) hen hT) X hK hP hS hl.1 rfl gX13_readNumber_X13_stepOn yd_X13_stepOn ⟨Nat.le_of_ble_eq_true rfl, Nat.le_of_ble_eq_true rfl⟩ h_mb g4 (ci := 12) rfl rfl (Nat.le_of_ble_eq_true rfl) ⟨Nat.zero_le _, Nat.zero_le _⟩ dX13_readNumber_15 (fun M7 H locs hp6 hP hS => ?_)
    obtain ⟨g9, fr10⟩ := hp6
    refine lv_iload_n hx hb dX13_readNumber_18 rfl (lv_at hl 0 rfl) ?_
    exact q_wzret X hr hlocks hP hS (rfl) ⟨(by rw [s_X13_readNumber, if_pos c_11]), (by rw [s_X13_readNumber_0_1, if_pos c_11]; exact g9), (fun q n0 => ((fr10 q n0).trans (fr5 q n0)))⟩ dX13_readNumber_19
theorem mI_rn {en : Nat} {bf mv : Nat → Int32} {z1 z2 : Int32} (h : mI en mv) (he : en ≤ 700) : mI en (s_X13_readNumber_0_1 mv bf en z1 z2) := by
  unfold s_X13_readNumber_0_1
  (repeat' split) <;> first | exact mI_nn h | exact mI_S (mI_nn h) he
set_option maxRecDepth 20000 in
theorem fX13_oneOf_222 : FL wsX13_oneOf RX13 222 12 31 := ⟨RX13, TX13, 67, rfl, by decide +kernel, by decide, by decide +kernel⟩
def s_X13_oneOf (mv : Nat → Int32) (z : Int32) : Int32 := if ((s_X13_numberNow_0_1 mv 0 9999) 31) = 0 then if (s_X13_numberNow mv 0 9999) < z then if ((s_X13_numberNow_0_1 mv 0 9999) 31) = 0 then (s_X13_numberNow mv 0 9999) else 0 else if ((s_X13_wrong_0_1 (s_X13_numberNow_0_1 mv 0 9999) 3) 31) = 0 then (s_X13_numberNow mv 0 9999) else 0 else if ((s_X13_numberNow_0_1 mv 0 9999) 31) = 0 then (s_X13_numberNow mv 0 9999) else 0
def s_X13_oneOf_0_1 (mv : Nat → Int32) (z : Int32) : Nat → Int32 := if ((s_X13_numberNow_0_1 mv 0 9999) 31) = 0 then if (s_X13_numberNow mv 0 9999) < z then if ((s_X13_numberNow_0_1 mv 0 9999) 31) = 0 then (s_X13_numberNow_0_1 mv 0 9999) else (s_X13_numberNow_0_1 mv 0 9999) else if ((s_X13_wrong_0_1 (s_X13_numberNow_0_1 mv 0 9999) 3) 31) = 0 then (s_X13_wrong_0_1 (s_X13_numberNow_0_1 mv 0 9999) 3) else (s_X13_wrong_0_1 (s_X13_numberNow_0_1 mv 0 9999) 3) else if ((s_X13_numberNow_0_1 mv 0 9999) 31) = 0 then (s_X13_numberNow_0_1 mv 0 9999) else (s_X13_numberNow_0_1 mv 0 9999)
set_option maxHeartbeats 2000000 in
set_option maxRecDepth 100000 in
theorem c_X13_oneOf (l : Launch) (D : va_G) (cB cI cJ : ClassId) (ad : Nat → Nat) (n : Nat) (M : Nat → va_E) (hI : ipI ad n) (mb : Nat) (mv : Nat → Int32) (en : Nat) (z : Int32) (h_mb : mb < n) (m_mb : M mb = .inr (12, modF ad mb mv))  : cWi l D cB cI cJ ad n M yX13_oneOf wsX13_oneOf 2 43 [.ref (ad mb), .int z] (fun r M' => r = s_X13_oneOf mv z ∧ M' mb = .inr (12, modF ad mb (s_X13_oneOf_0_1 mv z)) ∧ ∀ q : Nat, q ≠ mb → M' q = M q) := by
  refine q_body (cc := cX13_oneOf) (maxL := 3) (ret := (some .int)) (by decide) rfl (Nat.le_of_ble_eq_true rfl) ?_
  intro p e s m args below meth c ls X hr hlocks hK hP hl
  obtain ⟨hx, hb, hml, hown, hts⟩ := id X
  have hS : va_S (ipA ad n) s.heap s.heap [] := va_S.rf
  have hl : lv_has ls 3 [(0, .ref (ad mb)), (1, .int z)] := hl
  refine lv_aload_n hx hb dX13_oneOf_0 rfl (lv_at hl 0 rfl) ?_
  refine lv_iconst (v := 0) hx hb dX13_oneOf_1 (by decide) ?_
  refine lv_sipush (v := 9999) hx hb dX13_oneOf_2 (by decide) ?_
  refine q_wrVi (As := [.int 0, .int 9999]) (rest := []) (c_X13_numberNow l D cB cI cJ ad n M hI mb mv en 0 9999 h_mb m_mb ) X hK hP hS hl.1 rfl gX13_oneOf_X13_numberNow yd_X13_numberNow ⟨Nat.le_of_ble_eq_true rfl, Nat.le_of_ble_eq_true rfl⟩ h_mb m_mb (ci := 12) rfl rfl (Nat.le_of_ble_eq_true rfl) ⟨Nat.zero_le _, Nat.zero_le _⟩ dX13_oneOf_5 (fun r3 M2 H locs hp1 hP hS => ?_)
  obtain ⟨rfl, g4, fr5⟩ := hp1
  refine lv_istore_n (lv' := [(2, .int (s_X13_numberNow mv 0 9999)), (0, .ref (ad mb)), (1, .int z)]) hx hb dX13_oneOf_8 rfl hl (by decide) rfl (fun ls hl => ?_)
  refine lv_aload_n hx hb dX13_oneOf_9 rfl (lv_at hl 1 rfl) ?_
  refine q_get (v := .int ((s_X13_numberNow_0_1 mv 0 9999) 31)) (fs := modF ad mb (s_X13_numberNow_0_1 mv 0 9999)) X hK hP fX13_oneOf_222 h_mb g4 rfl dX13_oneOf_10 ?_
  refine lv_if_ne (tgt := 26) hx hb dX13_oneOf_13 (by decide) (fun c_13 => ?_) (fun c_13 => ?_)
  · skip
    refine lv_aload_n hx hb dX13_oneOf_26 rfl (lv_at hl 1 rfl) ?_
    refine q_get (v := .int ((s_X13_numberNow_0_1 mv 0 9999) 31)) (fs := modF ad mb (s_X13_numberNow_0_1 mv 0 9999)) X hK hP fX13_oneOf_222 h_mb g4 rfl dX13_oneOf_27 ?_
    refine lv_if_ne (tgt := 37) hx hb dX13_oneOf_30 (by decide) (fun c_30 => ?_) (fun c_30 => ?_)
    · skip
      refine lv_iconst (v := 0) hx hb dX13_oneOf_37 (by decide) ?_
      exact q_wzret X hr hlocks hP hS (rfl) ⟨(by rw [s_X13_oneOf, if_neg c_13, if_neg c_30]), (by rw [s_X13_oneOf_0_1, if_neg c_13, if_neg c_30]; exact g4), (fun q n0 => (fr5 q n0))⟩ dX13_oneOf_38
    · skip
      refine lv_iload_n hx hb dX13_oneOf_33 rfl (lv_at hl 0 rfl) ?_
      refine lv_goto (tgt := 38) hx hb dX13_oneOf_34 (by decide) ?_
      exact q_wzret X hr hlocks hP hS (rfl) ⟨(by rw [s_X13_oneOf, if_neg c_13, if_pos c_30]), (by rw [s_X13_oneOf_0_1, if_neg c_13, if_pos c_30]; exact g4), (fun q n0 => (fr5 q n0))⟩ dX13_oneOf_38
  · skip
    refine lv_iload_n hx hb dX13_oneOf_16 rfl (lv_at hl 0 rfl) ?_
    refine lv_iload_n hx hb dX13_oneOf_17 rfl (lv_at hl 2 rfl) ?_
    refine lv_icmp_lt (tgt := 26) hx hb dX13_oneOf_18 (by decide) (fun c_18 => ?_) (fun c_18 => ?_)
    · skip
      refine lv_aload_n hx hb dX13_oneOf_26 rfl (lv_at hl 1 rfl) ?_
      refine q_get (v := .int ((s_X13_numberNow_0_1 mv 0 9999) 31)) (fs := modF ad mb (s_X13_numberNow_0_1 mv 0 9999)) X hK hP fX13_oneOf_222 h_mb g4 rfl dX13_oneOf_27 ?_
      refine lv_if_ne (tgt := 37) hx hb dX13_oneOf_30 (by decide) (fun c_30 => ?_) (fun c_30 => ?_)
      · skip
        refine lv_iconst (v := 0) hx hb dX13_oneOf_37 (by decide) ?_
        exact q_wzret X hr hlocks hP hS (rfl) ⟨(by rw [s_X13_oneOf, if_pos c_13, if_pos c_18, if_neg c_30]), (by rw [s_X13_oneOf_0_1, if_pos c_13, if_pos c_18, if_neg c_30]; exact g4), (fun q n0 => (fr5 q n0))⟩ dX13_oneOf_38
      · skip
        refine lv_iload_n hx hb dX13_oneOf_33 rfl (lv_at hl 0 rfl) ?_
        refine lv_goto (tgt := 38) hx hb dX13_oneOf_34 (by decide) ?_
        exact q_wzret X hr hlocks hP hS (rfl) ⟨(by rw [s_X13_oneOf, if_pos c_13, if_pos c_18, if_pos c_30]), (by rw [s_X13_oneOf_0_1, if_pos c_13, if_pos c_18, if_pos c_30]; exact g4), (fun q n0 => (fr5 q n0))⟩ dX13_oneOf_38
    · skip
      refine lv_aload_n hx hb dX13_oneOf_21 rfl (lv_at hl 1 rfl) ?_
      refine lv_iconst (v := 3) hx hb dX13_oneOf_22 (by decide) ?_
      refine q_wrVv (As := [.int 3]) (rest := []) (c_X13_wrong l D cB cI cJ ad n M2 hI mb (s_X13_numberNow_0_1 mv 0 9999) 3 h_mb g4 ) X hK hP hS hl.1 rfl gX13_oneOf_X13_wrong yd_X13_wrong ⟨Nat.le_of_ble_eq_true rfl, Nat.le_of_ble_eq_true rfl⟩ h_mb g4 (ci := 12) rfl rfl (Nat.le_of_ble_eq_true rfl) ⟨Nat.zero_le _, Nat.zero_le _⟩ dX13_oneOf_23 (fun M7 H locs hp6 hP hS => ?_)
      obtain ⟨g9, fr10⟩ := hp6
      refine lv_aload_n hx hb dX13_oneOf_26 rfl (lv_at hl 1 rfl) ?_
      refine q_get (v := .int ((s_X13_wrong_0_1 (s_X13_numberNow_0_1 mv 0 9999) 3) 31)) (fs := modF ad mb (s_X13_wrong_0_1 (s_X13_numberNow_0_1 mv 0 9999) 3)) X hK hP fX13_oneOf_222 h_mb g9 rfl dX13_oneOf_27 ?_
      refine lv_if_ne (tgt := 37) hx hb dX13_oneOf_30 (by decide) (fun c_30 => ?_) (fun c_30 => ?_)
      · skip
        refine lv_iconst (v := 0) hx hb dX13_oneOf_37 (by decide) ?_
        exact q_wzret X hr hlocks hP hS (rfl) ⟨(by rw [s_X13_oneOf, if_pos c_13, if_neg c_18, if_neg c_30]), (by rw [s_X13_oneOf_0_1, if_pos c_13, if_neg c_18, if_neg c_30]; exact g9), (fun q n0 => ((fr10 q n0).trans (fr5 q n0)))⟩ dX13_oneOf_38
      · skip
        refine lv_iload_n hx hb dX13_oneOf_33 rfl (lv_at hl 0 rfl) ?_
        refine lv_goto (tgt := 38) hx hb dX13_oneOf_34 (by decide) ?_
        exact q_wzret X hr hlocks hP hS (rfl) ⟨(by rw [s_X13_oneOf, if_pos c_13, if_neg c_18, if_pos c_30]), (by rw [s_X13_oneOf_0_1, if_pos c_13, if_neg c_18, if_pos c_30]; exact g9), (fun q n0 => ((fr10 q n0).trans (fr5 q n0)))⟩ dX13_oneOf_38
theorem mI_one {en : Nat} {mv : Nat → Int32} {z : Int32} (h : mI en mv) : mI en (s_X13_oneOf_0_1 mv z) := by
  unfold s_X13_oneOf_0_1
  (repeat' split) <;> first | exact mI_nn h | exact mI_wrong (mI_nn h)
set_option maxRecDepth 20000 in
theorem fX13_lay_222 : FL wsX13_lay RX13 222 12 31 := ⟨RX13, TX13, 67, rfl, by decide +kernel, by decide, by decide +kernel⟩
set_option maxRecDepth 20000 in
theorem fX13_lay_93 : FL wsX13_lay RX13 93 12 21 := ⟨RX13, TX13, 67, rfl, by decide +kernel, by decide, by decide +kernel⟩
set_option maxRecDepth 20000 in
theorem fX13_lay_40 : FL wsX13_lay RX13 40 12 3 := ⟨RX13, TX13, 67, rfl, by decide +kernel, by decide, by decide +kernel⟩
def s_X13_lay_0_f (mv : Nat → Int32) (toldF : Nat → Int32) : Nat → Int32 := if (mv 31) = 0 then (upd toldF 13 ((toldF 13) + 1)) else toldF
def s_X13_lay_1_f (mv : Nat → Int32) (toldF : Nat → Int32) (signsF : Nat → Int32) (z : Int32) : Nat → Int32 := if (mv 31) = 0 then (upd signsF (700 + (toldF 13)).toNatClampNeg z) else signsF
set_option maxHeartbeats 2000000 in
set_option maxRecDepth 100000 in
theorem c_X13_lay (l : Launch) (D : va_G) (cB cI cJ : ClassId) (ad : Nat → Nat) (n : Nat) (M : Nat → va_E) (hI : ipI ad n) (mb : Nat) (nt : Nat) (nc : Nat) (np : Nat) (nq : Nat) (mv : Nat → Int32) (toldF : Nat → Int32) (signsF : Nat → Int32) (en : Nat) (z : Int32) (h_mb : mb < n) (h_mb_3 : mb + 3 < n) (h_mb_21 : mb + 21 < n) (m_mb : M mb = .inr (12, modF ad mb mv)) (m_mb_3 : M (mb + 3) = .inl (cI, 14, .inl toldF)) (m_mb_21 : M (mb + 21) = .inl (cI, 1400, .inl signsF)) (k0 : toldF 0 = nI np) (hnp : np ≤ 4) (k1 : toldF 1 = nI nc) (hnc : nc ≤ 5) (k2 : toldF 2 = nI nt) (hnt : nt ≤ 12) (k3 : toldF 3 = nI nq) (hnq : nq ≤ 6) (h13 : mv 31 = 0 → ∃ k : Nat, k < 700 ∧ toldF 13 = nI k) : cWv l D cB cI cJ ad n M yX13_lay wsX13_lay 0 0 [.ref (ad mb), .int z] (fun M' => M' (mb + 3) = .inl (cI, 14, .inl (s_X13_lay_0_f mv toldF)) ∧ M' (mb + 21) = .inl (cI, 1400, .inl (s_X13_lay_1_f mv toldF signsF z)) ∧ ∀ q : Nat, q ≠ mb + 3 → q ≠ mb + 21 → M' q = M q) := by
  refine q_body (cc := cX13_lay) (maxL := 2) (ret := none) (by decide) rfl (Nat.le_of_ble_eq_true rfl) ?_
  intro p e s m args below meth c ls X hr hlocks hK hP hl
  obtain ⟨hx, hb, hml, hown, hts⟩ := id X
  have hS : va_S (ipA ad n) s.heap s.heap [] := va_S.rf
  have hl : lv_has ls 2 [(0, .ref (ad mb)), (1, .int z)] := hl
  refine lv_aload_n hx hb dX13_lay_0 rfl (lv_at hl 0 rfl) ?_
  refine q_get (v := .int (mv 31)) (fs := modF ad mb mv) X hK hP fX13_lay_222 h_mb m_mb rfl dX13_lay_1 ?_
  refine lv_if_eq (tgt := 8) hx hb dX13_lay_4 (by decide) (fun c_4 => ?_) (fun c_4 => ?_)
  · skip
    refine lv_aload_n hx hb dX13_lay_8 rfl (lv_at hl 0 rfl) ?_
    refine q_get (v := .ref (ad (mb + 21))) (fs := modF ad mb mv) X hK hP fX13_lay_93 h_mb m_mb rfl dX13_lay_9 ?_
    refine lv_sipush (v := 700) hx hb dX13_lay_12 (by decide) ?_
    refine lv_aload_n hx hb dX13_lay_15 rfl (lv_at hl 0 rfl) ?_
    refine q_get (v := .ref (ad (mb + 3))) (fs := modF ad mb mv) X hK hP fX13_lay_40 h_mb m_mb rfl dX13_lay_16 ?_
    refine lv_bipush (v := 13) hx hb dX13_lay_19 (by decide) ?_
    refine q_ialdN (f := toldF) (k := 14) X hK hP 13 h_mb_3 m_mb_3 (by decide) (by decide) dX13_lay_21 ?_
    refine lv_iadd hx hb dX13_lay_22 ?_
    refine lv_iload_n hx hb dX13_lay_23 rfl (lv_at hl 1 rfl) ?_
    refine q_iast (f := signsF) (k := 1400) X hK hI hP hS h_mb_21 m_mb_21 (by obtain ⟨k, hk, e⟩ := h13 c_4; rw [e, show (700 : Int32) = nI 700 from rfl, nI_add]; exact vp_in_nI (by omega) (by decide)) dX13_lay_24 (fun H locs hP hS => ?_)
    refine lv_aload_n hx hb dX13_lay_25 rfl (lv_at hl 0 rfl) ?_
    refine q_get (v := .ref (ad (mb + 3))) (fs := modF ad mb mv) X hK hP fX13_lay_40 h_mb ((va_up_ne M (.inl (cI, 1400, .inl (upd signsF (700 + (toldF 13)).toNatClampNeg z))) (show mb ≠ mb + 21 by omega)).trans m_mb) rfl dX13_lay_26 ?_
    refine lv_bipush (v := 13) hx hb dX13_lay_29 (by decide) ?_
    refine lv_dup2_11 hx hb dX13_lay_31 rfl rfl ?_
    refine q_ialdN (f := toldF) (k := 14) X hK hP 13 h_mb_3 ((va_up_ne M (.inl (cI, 1400, .inl (upd signsF (700 + (toldF 13)).toNatClampNeg z))) (show mb + 3 ≠ mb + 21 by omega)).trans m_mb_3) (by decide) (by decide) dX13_lay_32 ?_
    refine lv_iconst (v := 1) hx hb dX13_lay_33 (by decide) ?_
    refine lv_iadd hx hb dX13_lay_34 ?_
    refine q_iastN (f := toldF) (k := 14) X hK hI hP hS 13 h_mb_3 ((va_up_ne M (.inl (cI, 1400, .inl (upd signsF (700 + (toldF 13)).toNatClampNeg z))) (show mb + 3 ≠ mb + 21 by omega)).trans m_mb_3) (by decide) (by decide) dX13_lay_35 (fun H locs hP hS => ?_)
    exact q_wvret X hr hlocks hP hS ⟨(by rw [s_X13_lay_0_f, if_pos c_4]; exact (va_up_self (va_up M (mb + 21) (.inl (cI, 1400, .inl (upd signsF (700 + (toldF 13)).toNatClampNeg z)))) (mb + 3) (.inl (cI, 14, .inl (upd toldF 13 ((toldF 13) + 1)))))), (by rw [s_X13_lay_1_f, if_pos c_4]; exact ((va_up_ne (va_up M (mb + 21) (.inl (cI, 1400, .inl (upd signsF (700 + (toldF 13)).toNatClampNeg z)))) (.inl (cI, 14, .inl (upd toldF 13 ((toldF 13) + 1)))) (show mb + 21 ≠ mb + 3 by omega)).trans (va_up_self M (mb + 21) (.inl (cI, 1400, .inl (upd signsF (700 + (toldF 13)).toNatClampNeg z)))))), (fun q n0 n1 => ((va_up_ne _ _ n0).trans (va_up_ne _ _ n1)))⟩ dX13_lay_36
  · skip
    exact q_wvret X hr hlocks hP hS ⟨(by rw [s_X13_lay_0_f, if_neg c_4]; exact m_mb_3), (by rw [s_X13_lay_1_f, if_neg c_4]; exact m_mb_21), (fun q n0 n1 => rfl)⟩ dX13_lay_7
set_option maxRecDepth 20000 in
theorem fX13_another_40 : FL wsX13_another RX13 40 12 3 := ⟨RX13, TX13, 67, rfl, by decide +kernel, by decide, by decide +kernel⟩
set_option maxRecDepth 20000 in
theorem fX13_another_222 : FL wsX13_another RX13 222 12 31 := ⟨RX13, TX13, 67, rfl, by decide +kernel, by decide, by decide +kernel⟩
def s_X13_another (mv : Nat → Int32) (toldF : Nat → Int32) (x : Int32) (y : Int32) : Int32 := if (toldF (7 + x).toNatClampNeg) = y then if ((s_X13_wrong_0_1 mv 2) 31) = 0 then (y + (toldF (7 + x).toNatClampNeg)) else (-1) else if (mv 31) = 0 then (y + (toldF (7 + x).toNatClampNeg)) else (-1)
def s_X13_another_0_1 (mv : Nat → Int32) (toldF : Nat → Int32) (tapeF : Nat → Int32) (en : Nat) (x : Int32) (y : Int32) : Nat → Int32 := if (toldF (7 + x).toNatClampNeg) = y then if ((s_X13_wrong_0_1 mv 2) 31) = 0 then (mS en tapeF (s_X13_wrong_0_1 mv 2)) else (s_X13_wrong_0_1 mv 2) else if (mv 31) = 0 then (mS en tapeF mv) else mv
set_option maxHeartbeats 2000000 in
set_option maxRecDepth 100000 in
theorem c_X13_another (l : Launch) (D : va_G) (cB cI cJ : ClassId) (ad : Nat → Nat) (n : Nat) (M : Nat → va_E) (hI : ipI ad n) (mb : Nat) (nt : Nat) (nc : Nat) (np : Nat) (nq : Nat) (mv : Nat → Int32) (toldF : Nat → Int32) (tapeF : Nat → Int32) (en : Nat) (x : Int32) (y : Int32) (h_mb : mb < n) (h_mb_3 : mb + 3 < n) (h_mb_23 : mb + 23 < n) (m_mb : M mb = .inr (12, modF ad mb mv)) (m_mb_3 : M (mb + 3) = .inl (cI, 14, .inl toldF)) (m_mb_23 : M (mb + 23) = .inl (cI, 700, .inl tapeF)) (k0 : toldF 0 = nI np) (hnp : np ≤ 4) (k1 : toldF 1 = nI nc) (hnc : nc ≤ 5) (k2 : toldF 2 = nI nt) (hnt : nt ≤ 12) (k3 : toldF 3 = nI nq) (hnq : nq ≤ 6) (hMI : mI en mv) (hen : en ≤ 700) (vw : vp_in (7 + x) 14) (hT : bOK tapeF) : cWi l D cB cI cJ ad n M yX13_another wsX13_another 2 42 [.ref (ad mb), .int x, .int y] (fun r M' => r = s_X13_another mv toldF x y ∧ M' mb = .inr (12, modF ad mb (s_X13_another_0_1 mv toldF tapeF en x y)) ∧ ∀ q : Nat, q ≠ mb → M' q = M q) := by
  refine q_body (cc := cX13_another) (maxL := 4) (ret := (some .int)) (by decide) rfl (Nat.le_of_ble_eq_true rfl) ?_
  intro p e s m args below meth c ls X hr hlocks hK hP hl
  obtain ⟨hx, hb, hml, hown, hts⟩ := id X
  have hS : va_S (ipA ad n) s.heap s.heap [] := va_S.rf
  have hl : lv_has ls 4 [(0, .ref (ad mb)), (1, .int x), (2, .int y)] := hl
  refine lv_aload_n hx hb dX13_another_0 rfl (lv_at hl 0 rfl) ?_
  refine q_get (v := .ref (ad (mb + 3))) (fs := modF ad mb mv) X hK hP fX13_another_40 h_mb m_mb rfl dX13_another_1 ?_
  refine lv_bipush (v := 7) hx hb dX13_another_4 (by decide) ?_
  refine lv_iload_n hx hb dX13_another_6 rfl (lv_at hl 1 rfl) ?_
  refine lv_iadd hx hb dX13_another_7 ?_
  refine q_iald (f := toldF) (k := 14) X hK hP h_mb_3 m_mb_3 (vw) dX13_another_8 ?_
  refine lv_istore_n (lv' := [(3, .int (toldF (7 + x).toNatClampNeg)), (0, .ref (ad mb)), (1, .int x), (2, .int y)]) hx hb dX13_another_9 rfl hl (by decide) rfl (fun ls hl => ?_)
  refine lv_iload_n hx hb dX13_another_10 rfl (lv_at hl 0 rfl) ?_
  refine lv_iload_n hx hb dX13_another_11 rfl (lv_at hl 3 rfl) ?_
  refine lv_icmp_ne (tgt := 20) hx hb dX13_another_12 (by decide) (fun c_12 => ?_) (fun c_12 => ?_)
  · skip
    refine lv_aload_n hx hb dX13_another_20 rfl (lv_at hl 1 rfl) ?_
    refine q_get (v := .int (mv 31)) (fs := modF ad mb mv) X hK hP fX13_another_222 h_mb m_mb rfl dX13_another_21 ?_
    refine lv_if_eq (tgt := 29) hx hb dX13_another_24 (by decide) (fun c_24 => ?_) (fun c_24 => ?_)
    · skip
      refine lv_aload_n hx hb dX13_another_29 rfl (lv_at hl 1 rfl) ?_
      refine q_wrVv (As := []) (rest := []) (c_X13_step l D cB cI cJ ad n M hI mb en mv tapeF h_mb h_mb_23 m_mb m_mb_23 hMI hen hT) X hK hP hS hl.1 rfl gX13_another_X13_stepOn yd_X13_stepOn ⟨Nat.le_of_ble_eq_true rfl, Nat.le_of_ble_eq_true rfl⟩ h_mb m_mb (ci := 12) rfl rfl (Nat.le_of_ble_eq_true rfl) ⟨Nat.zero_le _, Nat.zero_le _⟩ dX13_another_30 (fun M2 H locs hp1 hP hS => ?_)
      obtain ⟨g4, fr5⟩ := hp1
      refine lv_iload_n hx hb dX13_another_33 rfl (lv_at hl 3 rfl) ?_
      refine lv_iload_n hx hb dX13_another_34 rfl (lv_at hl 0 rfl) ?_
      refine lv_iadd hx hb dX13_another_35 ?_
      exact q_wzret X hr hlocks hP hS (rfl) ⟨(by rw [s_X13_another, if_neg c_12, if_pos c_24]), (by rw [s_X13_another_0_1, if_neg c_12, if_pos c_24]; exact g4), (fun q n0 => (fr5 q n0))⟩ dX13_another_36
    · skip
      refine lv_iconst (v := (-1)) hx hb dX13_another_27 (by decide) ?_
      exact q_wzret X hr hlocks hP hS (rfl) ⟨(by rw [s_X13_another, if_neg c_12, if_neg c_24]), (by rw [s_X13_another_0_1, if_neg c_12, if_neg c_24]; exact m_mb), (fun q n0 => rfl)⟩ dX13_another_28
  · skip
    refine lv_aload_n hx hb dX13_another_15 rfl (lv_at hl 1 rfl) ?_
    refine lv_iconst (v := 2) hx hb dX13_another_16 (by decide) ?_
    refine q_wrVv (As := [.int 2]) (rest := []) (c_X13_wrong l D cB cI cJ ad n M hI mb mv 2 h_mb m_mb ) X hK hP hS hl.1 rfl gX13_another_X13_wrong yd_X13_wrong ⟨Nat.le_of_ble_eq_true rfl, Nat.le_of_ble_eq_true rfl⟩ h_mb m_mb (ci := 12) rfl rfl (Nat.le_of_ble_eq_true rfl) ⟨Nat.zero_le _, Nat.zero_le _⟩ dX13_another_17 (fun M7 H locs hp6 hP hS => ?_)
    obtain ⟨g9, fr10⟩ := hp6
    refine lv_aload_n hx hb dX13_another_20 rfl (lv_at hl 1 rfl) ?_
    refine q_get (v := .int ((s_X13_wrong_0_1 mv 2) 31)) (fs := modF ad mb (s_X13_wrong_0_1 mv 2)) X hK hP fX13_another_222 h_mb g9 rfl dX13_another_21 ?_
    refine lv_if_eq (tgt := 29) hx hb dX13_another_24 (by decide) (fun c_24 => ?_) (fun c_24 => ?_)
    · skip
      refine lv_aload_n hx hb dX13_another_29 rfl (lv_at hl 1 rfl) ?_
      refine q_wrVv (As := []) (rest := []) (c_X13_step l D cB cI cJ ad n M7 hI mb en (s_X13_wrong_0_1 mv 2) tapeF h_mb h_mb_23 g9 ((fr10 (mb + 23) (by omega)).trans m_mb_23) (by first | assumption | (apply mI_S <;> (repeat' (first | assumption | apply mI_S | apply mI_wrong | apply mI_nn | apply mI_rn | apply mI_one))) | (apply mI_wrong; repeat' (first | assumption | apply mI_S | apply mI_wrong | apply mI_nn | apply mI_rn | apply mI_one)) | (apply mI_nn; repeat' (first | assumption | apply mI_S | apply mI_wrong | apply mI_nn | apply mI_rn | apply mI_one)) | (apply mI_rn <;> (repeat' (first | assumption | apply mI_S | apply mI_wrong | apply mI_nn | apply mI_rn | apply mI_one))) | (apply mI_one; repeat' (first | assumption | apply mI_S | apply mI_wrong | apply mI_nn | apply mI_rn | apply mI_one)) | omega) hen hT) X hK hP hS hl.1 rfl gX13_another_X13_stepOn yd_X13_stepOn ⟨Nat.le_of_ble_eq_true rfl, Nat.le_of_ble_eq_true rfl⟩ h_mb g9 (ci := 12) rfl rfl (Nat.le_of_ble_eq_true rfl) ⟨Nat.zero_le _, Nat.zero_le _⟩ dX13_another_30 (fun M12 H locs hp11 hP hS => ?_)
      obtain ⟨g14, fr15⟩ := hp11
      refine lv_iload_n hx hb dX13_another_33 rfl (lv_at hl 3 rfl) ?_
      refine lv_iload_n hx hb dX13_another_34 rfl (lv_at hl 0 rfl) ?_
      refine lv_iadd hx hb dX13_another_35 ?_
      exact q_wzret X hr hlocks hP hS (rfl) ⟨(by rw [s_X13_another, if_pos c_12, if_pos c_24]), (by rw [s_X13_another_0_1, if_pos c_12, if_pos c_24]; exact g14), (fun q n0 => ((fr15 q n0).trans (fr10 q n0)))⟩ dX13_another_36
    · skip
      refine lv_iconst (v := (-1)) hx hb dX13_another_27 (by decide) ?_
      exact q_wzret X hr hlocks hP hS (rfl) ⟨(by rw [s_X13_another, if_pos c_12, if_neg c_24]), (by rw [s_X13_another_0_1, if_pos c_12, if_neg c_24]; exact g9), (fun q n0 => (fr10 q n0))⟩ dX13_another_28
end
