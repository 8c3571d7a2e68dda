/-! PoundsOverModel: feed, the greatest common measure, halves *-/
noncomputable section
theorem lNt {n : Nat} (h : n < 2 ^ 63) : (lN n).toInt = (n : Int) := lg_ofNat_toInt h
theorem lN_z {b : Nat} (hb : b < 2 ^ 63) : lN b = 0 ↔ b = 0 := by
  constructor
  · intro h
    have h1 := congrArg Int64.toInt h
    rw [lNt hb] at h1
    have h2 : (0 : Int64).toInt = 0 := by decide
    omega
  · intro h; rw [h]; rfl
theorem pkl_rem {a d : Nat} (ha : a < 2 ^ 62) (h0 : 0 < d) (hd : d < 2 ^ 62) : lN a - lN a / lN d * lN d = lN (a % d) := by
  have hq : lN a / lN d = lN (a / d) := by
    apply Int64.toInt_inj.mp
    have hle := Nat.div_le_self a d
    rw [Int64.toInt_div, lNt (by omega), lNt (by omega), lNt (by omega)]
    have e : (a : Int).tdiv (d : Int) = ((a / d : Nat) : Int) := rfl
    rw [e]
    clear e
    generalize a / d = q at hle ⊢
    exact Int.bmod_eq_of_le (by omega) (by omega)
  rw [hq, lN_mul, lN_sub (Nat.div_mul_le_self a d)]
  exact congrArg lN (by have := Nat.div_add_mod' a d; omega)
def fdB (x y z x4 x5 : Int32) (t : Nat) : Int32 := ((if 4 ≤ nI t then (if 8 ≤ nI t then (if 12 ≤ nI t then (if 16 ≤ nI t then x5 else x4) else z) else y) else x) >>> ((24 - (8 * (nI t - nI t / 4 * 4))) &&& 31)) &&& 255
def fdS (f : Nat → Int32) (nl : Nat) (x y z x4 x5 : Int32) : Nat → (Nat → Int32)
  | 0 => f
  | t + 1 => upd (fdS f nl x y z x4 x5 t) (nl + t) (fdB x y z x4 x5 t)
def thF (h9 : Nat) (f : Nat → Int32) (t : Nat) : Nat → Int32 := fun q => if q < t then f (h9 + q) else f q
theorem thF_0 (h9 : Nat) (f : Nat → Int32) : thF h9 f 0 = f := by funext q; exact if_neg (Nat.not_lt_zero q)
theorem thF_s (h9 : Nat) (f : Nat → Int32) {t : Nat} (ht : t < h9) : upd (thF h9 f t) t (thF h9 f t (h9 + t)) = thF h9 f (t + 1) := by
  funext q
  simp only [upd, thF]
  (repeat' split) <;> first | rfl | (exfalso; omega) | (subst_vars; rfl)
set_option maxHeartbeats 2000000 in
set_option maxRecDepth 100000 in
theorem c_X13_common (l : Launch) (D : va_G) (cB cI cJ : ClassId) (ad : Nat → Nat) (n : Nat) (M : Nat → va_E) (a b : Nat)   (ha : a < 2 ^ 62) (hb2 : b < 2 ^ 62) : cRl l D cB cI cJ ad n M yX13_common wsX13_common 0 0 [.long (lN a), .long (lN b)] (lN (Nat.gcd a b)) := by
  refine q_body (cc := cX13_common) (maxL := 10) (ret := (some .long)) (by decide) rfl (Nat.le_of_ble_eq_true rfl) ?_
  intro p e s m args below meth c ls X hr hlocks hK hP hl
  obtain ⟨hx, hb, hml, hown, hts⟩ := id X
  have hS : va_S (ipA ad n) s.heap s.heap [] := va_S.rf
  have hl : lv_has ls 10 [(0, .long (lN a)), (2, .long (lN b))] := hl
  refine lv_lload_n hx hb dX13_common_0 rfl (lv_at hl 0 rfl) ?_
  refine lv_lstore (lv' := [(4, .long (lN a)), (0, .long (lN a)), (2, .long (lN b))]) hx hb dX13_common_1 hl (by decide) rfl (fun ls hl => ?_)
  refine lv_lload_n hx hb dX13_common_3 rfl (lv_at hl 2 rfl) ?_
  refine lv_lstore (lv' := [(6, .long (lN b)), (4, .long (lN a)), (0, .long (lN a)), (2, .long (lN b))]) hx hb dX13_common_4 hl (by decide) rfl (fun ls hl => ?_)
  have loop_6 : ∀ (fuel : Nat) (a1 b1 : Nat) (x4 : Int64) (x6 : Int64), b1 < fuel → (a1 < 2 ^ 62) → (b1 < 2 ^ 62) → (Nat.gcd a1 b1 = Nat.gcd a b) → x4 = lN a1 → x6 = lN b1 → ∀ (ls : Array Slot), lv_has ls 10 [(4, .long x4), (6, .long x6)] → W p l e (rmOf 0 0) s m args below meth c s.heap [] 0 0 (MQ below (vp_Sl (fun r9 => r9 = lN (Nat.gcd a b))) args s 0 0 (fun _ => False)) (F0 m 6 ls []) := by
    intro fuel
    induction fuel with
    | zero =>
      intro a1 b1 x4 x6 hz
      exact absurd hz (Nat.not_lt_zero _)
    | succ fuel ih_6 =>
      intro a1 b1 x4 x6 hz_6 ha1 hb1 he e4 e6 ls hl
      subst e4
      subst e6
      skip
      refine lv_lload hx hb dX13_common_6 (lv_at hl 1 rfl) ?_
      refine lv_lconst (v := 0) hx hb dX13_common_8 (by decide) ?_
      refine q_lcmp_eq (tgt := 31) hx hb dX13_common_9 dX13_common_10 (by decide) (fun c_10 => ?_) (fun c_10 => ?_)
      · skip
        have hz1 : b1 = 0 := (lN_z (by omega)).mp c_10
        refine lv_lload hx hb dX13_common_31 (lv_at hl 0 rfl) ?_
        exact q_lret X hr hlocks (by rw [← he, hz1, Nat.gcd_zero_right]) dX13_common_33
      · skip
        have hp1 : 0 < b1 := Nat.pos_of_ne_zero (fun q => c_10 ((lN_z (by omega)).mpr q))
        refine lv_lload hx hb dX13_common_13 (lv_at hl 0 rfl) ?_
        refine lv_lload hx hb dX13_common_15 (lv_at hl 1 rfl) ?_
        refine lv_lrem hx hb dX13_common_17 (c_10) ?_
        refine lv_lstore (lv' := [(8, .long ((lN a1) - (lN a1) / (lN b1) * (lN b1))), (4, .long (lN a1)), (6, .long (lN b1))]) hx hb dX13_common_18 hl (by decide) rfl (fun ls hl => ?_)
        refine lv_lload hx hb dX13_common_20 (lv_at hl 2 rfl) ?_
        refine lv_lstore (lv' := [(4, .long (lN b1)), (8, .long ((lN a1) - (lN a1) / (lN b1) * (lN b1))), (6, .long (lN b1))]) hx hb dX13_common_22 hl (by decide) rfl (fun ls hl => ?_)
        refine lv_lload hx hb dX13_common_24 (lv_at hl 1 rfl) ?_
        refine lv_lstore (lv' := [(6, .long ((lN a1) - (lN a1) / (lN b1) * (lN b1))), (4, .long (lN b1)), (8, .long ((lN a1) - (lN a1) / (lN b1) * (lN b1)))]) hx hb dX13_common_26 hl (by decide) rfl (fun ls hl => ?_)
        refine lv_goto (tgt := 6) hx hb dX13_common_28 (by decide) ?_
        exact ih_6 b1 (a1 % b1) (lN b1) ((lN a1) - (lN a1) / (lN b1) * (lN b1)) (by have := Nat.mod_lt a1 hp1; omega) (by exact hb1) (by have := Nat.mod_lt a1 hp1; omega) (by rw [← he, Nat.gcd_comm b1, ← Nat.gcd_rec, Nat.gcd_comm]) (by rfl) (by exact pkl_rem ha1 hp1 hb1) ls (lv_sub hl [1, 0] rfl)
  exact loop_6 (b + 1) a b (lN a) (lN b) (by omega) (by exact ha) (by exact hb2) (by rfl) (by rfl) (by rfl) ls (lv_sub hl [1, 0] rfl)
set_option maxRecDepth 20000 in
theorem fX13_feed_173 : FL wsX13_feed RX13 173 12 2 := ⟨RX13, TX13, 67, rfl, by decide +kernel, by decide, by decide +kernel⟩
set_option maxRecDepth 20000 in
theorem fX13_feed_180 : FL wsX13_feed RX13 180 12 24 := ⟨RX13, TX13, 67, rfl, by decide +kernel, by decide, by decide +kernel⟩
set_option maxRecDepth 20000 in
theorem fX13_feed_99 : FL wsX13_feed RX13 99 12 23 := ⟨RX13, TX13, 67, rfl, by decide +kernel, by decide, by decide +kernel⟩
theorem fw_12_24 : FW 12 24 .int := ⟨RX13, TX13, 67, tyX13, rfl, tyX13_ok, nmX13, by decide, rfl, by decide +kernel⟩
set_option maxHeartbeats 2000000 in
set_option maxRecDepth 100000 in
theorem c_X13_feed (l : Launch) (D : va_G) (cB cI cJ : ClassId) (ad : Nat → Nat) (n : Nat) (M : Nat → va_E) (hI : ipI ad n) (mb : Nat) (mv : Nat → Int32) (tapeF : Nat → Int32) (fl : Nat) (x : Int32) (y : Int32) (z : Int32) (x4 : Int32) (x5 : Int32) (h_mb : mb < n) (h_mb_23 : mb + 23 < n) (m_mb : M mb = .inr (12, modF ad mb mv)) (m_mb_23 : M (mb + 23) = .inl (cI, 700, .inl tapeF)) (k24 : mv 24 = nI fl) (hnl : fl + 20 ≤ 700) : cWi l D cB cI cJ ad n M yX13_feed wsX13_feed 0 0 [.ref (ad mb), .int x, .int y, .int z, .int x4, .int x5] (fun r M' => r = nI (fl + 20) ∧ M' (mb + 23) = .inl (cI, 700, .inl (fdS tapeF fl x y z x4 x5 20)) ∧ M' mb = .inr (12, modF ad mb (upd (upd mv 2 0) 24 (nI (fl + 20)))) ∧ ∀ q : Nat, q ≠ mb + 23 → q ≠ mb → M' q = M q) := by
  refine q_body (cc := cX13_feed) (maxL := 8) (ret := (some .int)) (by decide) rfl (Nat.le_of_ble_eq_true rfl) ?_
  intro p e s m args below meth c ls X hr hlocks hK hP hl
  obtain ⟨hx, hb, hml, hown, hts⟩ := id X
  have hS : va_S (ipA ad n) s.heap s.heap [] := va_S.rf
  have hl : lv_has ls 8 [(0, .ref (ad mb)), (1, .int x), (2, .int y), (3, .int z), (4, .int x4), (5, .int x5)] := hl
  refine lv_aload_n hx hb dX13_feed_0 rfl (lv_at hl 0 rfl) ?_
  refine lv_iconst (v := 0) hx hb dX13_feed_1 (by decide) ?_
  refine q_put (fs := modF ad mb mv) (fs' := modF ad mb (upd mv 2 0)) X hK hI hP hS fX13_feed_173 fw_12_2 h_mb m_mb rfl rfl (Nat.le_of_ble_eq_true rfl) rfl dX13_feed_2 (fun H locs hP hS => ?_)
  refine lv_aload_n hx hb dX13_feed_5 rfl (lv_at hl 0 rfl) ?_
  refine q_get (v := .int (mv 24)) (fs := modF ad mb (upd mv 2 0)) X hK hP fX13_feed_180 h_mb (va_up_self M mb (.inr (12, modF ad mb (upd mv 2 0)))) rfl dX13_feed_6 ?_
  refine lv_bipush (v := 20) hx hb dX13_feed_9 (by decide) ?_
  refine lv_iadd hx hb dX13_feed_11 ?_
  refine lv_sipush (v := 700) hx hb dX13_feed_12 (by decide) ?_
  refine lv_icmp_le (tgt := 20) hx hb dX13_feed_15 (by decide) (fun c_15 => ?_) (fun c_15 => ?_)
  · skip
    refine lv_iconst (v := 0) hx hb dX13_feed_20 (by decide) ?_
    refine lv_istore (lv' := [(6, .int 0), (0, .ref (ad mb)), (1, .int x), (2, .int y), (3, .int z), (4, .int x4), (5, .int x5)]) hx hb dX13_feed_21 hl (by decide) rfl (fun ls hl => ?_)
    have loop_23 : ∀ (fuel : Nat) (t : Nat) (x6 : Int32), 20 - t < fuel → (t ≤ 20) → x6 = nI t → ∀ (ML23 : Nat → va_E) (H : Heap) (locs : List Loc), ML23 (mb + 23) = .inl (cI, 700, .inl (fdS tapeF fl x y z x4 x5 t)) → ML23 mb = .inr (12, modF ad mb (upd (upd mv 2 0) 24 (nI (fl + t)))) → (∀ q : Nat, q ≠ mb + 23 → q ≠ mb → ML23 q = M q) → va_P D vwCl (ip ad n ML23) H → va_S (ipA ad n) s.heap H locs → ∀ (ls : Array Slot), lv_has ls 8 [(0, .ref (ad mb)), (1, .int x), (2, .int y), (3, .int z), (4, .int x4), (5, .int x5), (6, .int x6)] → W p l e (rmOf 0 0) s m args below meth c H locs 0 0 (MQ below (va_Qi (fun r M' => r = nI (fl + 20) ∧ M' (mb + 23) = .inl (cI, 700, .inl (fdS tapeF fl x y z x4 x5 20)) ∧ M' mb = .inr (12, modF ad mb (upd (upd mv 2 0) 24 (nI (fl + 20)))) ∧ ∀ q : Nat, q ≠ mb + 23 → q ≠ mb → M' q = M q) (fun M' t => va_P D vwCl (ip ad n M') t.heap) (ipA ad n)) args s 0 0 (ipA ad n)) (F0 m 23 ls []) := by
      intro fuel
      induction fuel with
      | zero =>
        intro t x6 hz
        exact absurd hz (Nat.not_lt_zero _)
      | succ fuel ih_23 =>
        intro t x6 hz_23 ht e6 ML23 H locs mL23_0 mL23_1 fL23 hP hS ls hl
        subst e6
        skip
        refine lv_iload hx hb dX13_feed_23 (lv_at hl 6 rfl) ?_
        refine lv_bipush (v := 20) hx hb dX13_feed_25 (by decide) ?_
        refine lv_icmp_ge (tgt := 120) hx hb dX13_feed_27 (by decide) (fun c_27 => ?_) (fun c_27 => ?_)
        · skip
          have h9 := eq_of_le (k := 20) c_27 (by decide) ht
          refine lv_aload_n hx hb dX13_feed_120 rfl (lv_at hl 0 rfl) ?_
          refine q_get (v := .int (nI (fl + t))) (fs := modF ad mb (upd (upd mv 2 0) 24 (nI (fl + t)))) X hK hP fX13_feed_180 h_mb mL23_1 rfl dX13_feed_121 ?_
          exact q_wzret X hr hlocks hP hS (rfl) ⟨(by rw [h9]), (by subst h9; exact mL23_0), (by subst h9; exact mL23_1), (fun q n0 n1 => (fL23 q n0 n1))⟩ dX13_feed_124
        · skip
          have h9 := lt_of_nlt (k := 20) c_27 (by decide) ht
          refine lv_iload hx hb dX13_feed_30 (lv_at hl 6 rfl) ?_
          refine lv_iconst (v := 4) hx hb dX13_feed_32 (by decide) ?_
          refine lv_icmp_ge (tgt := 40) hx hb dX13_feed_33 (by decide) (fun c_33 => ?_) (fun c_33 => ?_)
          · skip
            refine lv_iload hx hb dX13_feed_40 (lv_at hl 6 rfl) ?_
            refine lv_bipush (v := 8) hx hb dX13_feed_42 (by decide) ?_
            refine lv_icmp_ge (tgt := 51) hx hb dX13_feed_44 (by decide) (fun c_44 => ?_) (fun c_44 => ?_)
            · skip
              refine lv_iload hx hb dX13_feed_51 (lv_at hl 6 rfl) ?_
              refine lv_bipush (v := 12) hx hb dX13_feed_53 (by decide) ?_
              refine lv_icmp_ge (tgt := 62) hx hb dX13_feed_55 (by decide) (fun c_55 => ?_) (fun c_55 => ?_)
              · skip
                refine lv_iload hx hb dX13_feed_62 (lv_at hl 6 rfl) ?_
                refine lv_bipush (v := 16) hx hb dX13_feed_64 (by decide) ?_
                refine lv_icmp_ge (tgt := 74) hx hb dX13_feed_66 (by decide) (fun c_66 => ?_) (fun c_66 => ?_)
                · skip
                  refine lv_iload hx hb dX13_feed_74 (lv_at hl 5 rfl) ?_
                  refine lv_istore (lv' := [(7, .int x5), (0, .ref (ad mb)), (1, .int x), (2, .int y), (3, .int z), (4, .int x4), (5, .int x5), (6, .int (nI t))]) hx hb dX13_feed_76 hl (by decide) rfl (fun ls hl => ?_)
                  refine lv_aload_n hx hb dX13_feed_78 rfl (lv_at hl 1 rfl) ?_
                  refine q_get (v := .ref (ad (mb + 23))) (fs := modF ad mb (upd (upd mv 2 0) 24 (nI (fl + t)))) X hK hP fX13_feed_99 h_mb mL23_1 rfl dX13_feed_79 ?_
                  refine lv_aload_n hx hb dX13_feed_82 rfl (lv_at hl 1 rfl) ?_
                  refine q_get (v := .int (nI (fl + t))) (fs := modF ad mb (upd (upd mv 2 0) 24 (nI (fl + t)))) X hK hP fX13_feed_180 h_mb mL23_1 rfl dX13_feed_83 ?_
                  refine lv_iload hx hb dX13_feed_86 (lv_at hl 0 rfl) ?_
                  refine lv_bipush (v := 24) hx hb dX13_feed_88 (by decide) ?_
                  refine lv_bipush (v := 8) hx hb dX13_feed_90 (by decide) ?_
                  refine lv_iload hx hb dX13_feed_92 (lv_at hl 7 rfl) ?_
                  refine lv_iconst (v := 4) hx hb dX13_feed_94 (by decide) ?_
                  refine lv_irem hx hb dX13_feed_95 (by decide) ?_
                  refine lv_imul hx hb dX13_feed_96 ?_
                  refine lv_isub hx hb dX13_feed_97 ?_
                  refine lv_ishr hx hb dX13_feed_98 ?_
                  refine lv_sipush (v := 255) hx hb dX13_feed_99 (by decide) ?_
                  refine lv_iand hx hb dX13_feed_102 ?_
                  refine q_iastN (f := (fdS tapeF fl x y z x4 x5 t)) (k := 700) X hK hI hP hS (fl + t) h_mb_23 mL23_0 (by omega) (by decide) dX13_feed_103 (fun H locs hP hS => ?_)
                  refine lv_aload_n hx hb dX13_feed_104 rfl (lv_at hl 1 rfl) ?_
                  refine lv_dup hx hb dX13_feed_105 rfl ?_
                  refine q_get (v := .int (nI (fl + t))) (fs := modF ad mb (upd (upd mv 2 0) 24 (nI (fl + t)))) X hK hP fX13_feed_180 h_mb ((va_up_ne ML23 (.inl (cI, 700, .inl (upd (fdS tapeF fl x y z x4 x5 t) (fl + t) ((x5 >>> ((24 - (8 * ((nI t) - (nI t) / 4 * 4))) &&& 31)) &&& 255)))) (show mb ≠ mb + 23 by omega)).trans mL23_1) rfl dX13_feed_106 ?_
                  refine lv_iconst (v := 1) hx hb dX13_feed_109 (by decide) ?_
                  refine lv_iadd hx hb dX13_feed_110 ?_
                  refine q_put (fs := modF ad mb (upd (upd mv 2 0) 24 (nI (fl + t)))) (fs' := modF ad mb (upd (upd (upd mv 2 0) 24 (nI (fl + t))) 24 ((nI (fl + t)) + 1))) X hK hI hP hS fX13_feed_180 fw_12_24 h_mb ((va_up_ne ML23 (.inl (cI, 700, .inl (upd (fdS tapeF fl x y z x4 x5 t) (fl + t) ((x5 >>> ((24 - (8 * ((nI t) - (nI t) / 4 * 4))) &&& 31)) &&& 255)))) (show mb ≠ mb + 23 by omega)).trans mL23_1) rfl rfl (Nat.le_of_ble_eq_true rfl) rfl dX13_feed_111 (fun H locs hP hS => ?_)
                  refine lv_iinc (v := ((nI t) + 1)) (lv' := [(6, .int ((nI t) + 1)), (7, .int x5), (0, .ref (ad mb)), (1, .int x), (2, .int y), (3, .int z), (4, .int x4), (5, .int x5)]) hx hb dX13_feed_114 hl (k := 7) rfl rfl (by decide) rfl (fun ls hl => ?_)
                  refine lv_goto (tgt := 23) hx hb dX13_feed_117 (by decide) ?_
                  exact ih_23 (t + 1) ((nI t) + 1) (by omega) (by omega) (by exact nI_1 _) _ _ _ (by refine ((va_up_ne (va_up ML23 (mb + 23) (.inl (cI, 700, .inl (upd (fdS tapeF fl x y z x4 x5 t) (fl + t) ((x5 >>> ((24 - (8 * ((nI t) - (nI t) / 4 * 4))) &&& 31)) &&& 255))))) (.inr (12, modF ad mb (upd (upd (upd mv 2 0) 24 (nI (fl + t))) 24 ((nI (fl + t)) + 1)))) (show mb + 23 ≠ mb by omega)).trans (va_up_self ML23 (mb + 23) (.inl (cI, 700, .inl (upd (fdS tapeF fl x y z x4 x5 t) (fl + t) ((x5 >>> ((24 - (8 * ((nI t) - (nI t) / 4 * 4))) &&& 31)) &&& 255)))))).trans ?_; rw [fdS, fdB]; first | (rw [if_neg c_33]; done) | (rw [if_pos c_33, if_neg c_44]; done) | (rw [if_pos c_33, if_pos c_44, if_neg c_55]; done) | (rw [if_pos c_33, if_pos c_44, if_pos c_55, if_neg c_66]; done) | (rw [if_pos c_33, if_pos c_44, if_pos c_55, if_pos c_66]; done)) (by exact (va_up_self (va_up ML23 (mb + 23) (.inl (cI, 700, .inl (upd (fdS tapeF fl x y z x4 x5 t) (fl + t) ((x5 >>> ((24 - (8 * ((nI t) - (nI t) / 4 * 4))) &&& 31)) &&& 255))))) mb (.inr (12, modF ad mb (upd (upd (upd mv 2 0) 24 (nI (fl + t))) 24 ((nI (fl + t)) + 1))))).trans (modC (by funext j9; simp only [upd] <;> (repeat' split) <;> first | rfl | (exfalso; omega) | exact nI_1 _))) (fun q n0 n1 => ((va_up_ne _ _ n1).trans ((va_up_ne _ _ n0).trans (fL23 q n0 n1)))) hP hS ls (lv_sub hl [2, 3, 4, 5, 6, 7, 0] rfl)
                · skip
                  refine lv_iload hx hb dX13_feed_69 (lv_at hl 4 rfl) ?_
                  refine lv_goto (tgt := 76) hx hb dX13_feed_71 (by decide) ?_
                  refine lv_istore (lv' := [(7, .int x4), (0, .ref (ad mb)), (1, .int x), (2, .int y), (3, .int z), (4, .int x4), (5, .int x5), (6, .int (nI t))]) hx hb dX13_feed_76 hl (by decide) rfl (fun ls hl => ?_)
                  refine lv_aload_n hx hb dX13_feed_78 rfl (lv_at hl 1 rfl) ?_
                  refine q_get (v := .ref (ad (mb + 23))) (fs := modF ad mb (upd (upd mv 2 0) 24 (nI (fl + t)))) X hK hP fX13_feed_99 h_mb mL23_1 rfl dX13_feed_79 ?_
                  refine lv_aload_n hx hb dX13_feed_82 rfl (lv_at hl 1 rfl) ?_
                  refine q_get (v := .int (nI (fl + t))) (fs := modF ad mb (upd (upd mv 2 0) 24 (nI (fl + t)))) X hK hP fX13_feed_180 h_mb mL23_1 rfl dX13_feed_83 ?_
                  refine lv_iload hx hb dX13_feed_86 (lv_at hl 0 rfl) ?_
                  refine lv_bipush (v := 24) hx hb dX13_feed_88 (by decide) ?_
                  refine lv_bipush (v := 8) hx hb dX13_feed_90 (by decide) ?_
                  refine lv_iload hx hb dX13_feed_92 (lv_at hl 7 rfl) ?_
                  refine lv_iconst (v := 4) hx hb dX13_feed_94 (by decide) ?_
                  refine lv_irem hx hb dX13_feed_95 (by decide) ?_
                  refine lv_imul hx hb dX13_feed_96 ?_
                  refine lv_isub hx hb dX13_feed_97 ?_
                  refine lv_ishr hx hb dX13_feed_98 ?_
                  refine lv_sipush (v := 255) hx hb dX13_feed_99 (by decide) ?_
                  refine lv_iand hx hb dX13_feed_102 ?_
                  refine q_iastN (f := (fdS tapeF fl x y z x4 x5 t)) (k := 700) X hK hI hP hS (fl + t) h_mb_23 mL23_0 (by omega) (by decide) dX13_feed_103 (fun H locs hP hS => ?_)
                  refine lv_aload_n hx hb dX13_feed_104 rfl (lv_at hl 1 rfl) ?_
                  refine lv_dup hx hb dX13_feed_105 rfl ?_
                  refine q_get (v := .int (nI (fl + t))) (fs := modF ad mb (upd (upd mv 2 0) 24 (nI (fl + t)))) X hK hP fX13_feed_180 h_mb ((va_up_ne ML23 (.inl (cI, 700, .inl (upd (fdS tapeF fl x y z x4 x5 t) (fl + t) ((x4 >>> ((24 - (8 * ((nI t) - (nI t) / 4 * 4))) &&& 31)) &&& 255)))) (show mb ≠ mb + 23 by omega)).trans mL23_1) rfl dX13_feed_106 ?_
                  refine lv_iconst (v := 1) hx hb dX13_feed_109 (by decide) ?_
                  refine lv_iadd hx hb dX13_feed_110 ?_
                  refine q_put (fs := modF ad mb (upd (upd mv 2 0) 24 (nI (fl + t)))) (fs' := modF ad mb (upd (upd (upd mv 2 0) 24 (nI (fl + t))) 24 ((nI (fl + t)) + 1))) X hK hI hP hS fX13_feed_180 fw_12_24 h_mb ((va_up_ne ML23 (.inl (cI, 700, .inl (upd (fdS tapeF fl x y z x4 x5 t) (fl + t) ((x4 >>> ((24 - (8 * ((nI t) - (nI t) / 4 * 4))) &&& 31)) &&& 255)))) (show mb ≠ mb + 23 by omega)).trans mL23_1) rfl rfl (Nat.le_of_ble_eq_true rfl) rfl dX13_feed_111 (fun H locs hP hS => ?_)
                  refine lv_iinc (v := ((nI t) + 1)) (lv' := [(6, .int ((nI t) + 1)), (7, .int x4), (0, .ref (ad mb)), (1, .int x), (2, .int y), (3, .int z), (4, .int x4), (5, .int x5)]) hx hb dX13_feed_114 hl (k := 7) rfl rfl (by decide) rfl (fun ls hl => ?_)
                  refine lv_goto (tgt := 23) hx hb dX13_feed_117 (by decide) ?_
                  exact ih_23 (t + 1) ((nI t) + 1) (by omega) (by omega) (by exact nI_1 _) _ _ _ (by refine ((va_up_ne (va_up ML23 (mb + 23) (.inl (cI, 700, .inl (upd (fdS tapeF fl x y z x4 x5 t) (fl + t) ((x4 >>> ((24 - (8 * ((nI t) - (nI t) / 4 * 4))) &&& 31)) &&& 255))))) (.inr (12, modF ad mb (upd (upd (upd mv 2 0) 24 (nI (fl + t))) 24 ((nI (fl + t)) + 1)))) (show mb + 23 ≠ mb by omega)).trans (va_up_self ML23 (mb + 23) (.inl (cI, 700, .inl (upd (fdS tapeF fl x y z x4 x5 t) (fl + t) ((x4 >>> ((24 - (8 * ((nI t) - (nI t) / 4 * 4))) &&& 31)) &&& 255)))))).trans ?_; rw [fdS, fdB]; first | (rw [if_neg c_33]; done) | (rw [if_pos c_33, if_neg c_44]; done) | (rw [if_pos c_33, if_pos c_44, if_neg c_55]; done) | (rw [if_pos c_33, if_pos c_44, if_pos c_55, if_neg c_66]; done) | (rw [if_pos c_33, if_pos c_44, if_pos c_55, if_pos c_66]; done)) (by exact (va_up_self (va_up ML23 (mb + 23) (.inl (cI, 700, .inl (upd (fdS tapeF fl x y z x4 x5 t) (fl + t) ((x4 >>> ((24 - (8 * ((nI t) - (nI t) / 4 * 4))) &&& 31)) &&& 255))))) mb (.inr (12, modF ad mb (upd (upd (upd mv 2 0) 24 (nI (fl + t))) 24 ((nI (fl + t)) + 1))))).trans (modC (by funext j9; simp only [upd] <;> (repeat' split) <;> first | rfl | (exfalso; omega) | exact nI_1 _))) (fun q n0 n1 => ((va_up_ne _ _ n1).trans ((va_up_ne _ _ n0).trans (fL23 q n0 n1)))) hP hS ls (lv_sub hl [2, 3, 4, 5, 6, 7, 0] rfl)
              · skip
                refine lv_iload_n hx hb dX13_feed_58 rfl (lv_at hl 3 rfl) ?_
                refine lv_goto (tgt := 76) hx hb dX13_feed_59 (by decide) ?_
                refine lv_istore (lv' := [(7, .int z), (0, .ref (ad mb)), (1, .int x), (2, .int y), (3, .int z), (4, .int x4), (5, .int x5), (6, .int (nI t))]) hx hb dX13_feed_76 hl (by decide) rfl (fun ls hl => ?_)
                refine lv_aload_n hx hb dX13_feed_78 rfl (lv_at hl 1 rfl) ?_
                refine q_get (v := .ref (ad (mb + 23))) (fs := modF ad mb (upd (upd mv 2 0) 24 (nI (fl + t)))) X hK hP fX13_feed_99 h_mb mL23_1 rfl dX13_feed_79 ?_
                refine lv_aload_n hx hb dX13_feed_82 rfl (lv_at hl 1 rfl) ?_
                refine q_get (v := .int (nI (fl + t))) (fs := modF ad mb (upd (upd mv 2 0) 24 (nI (fl + t)))) X hK hP fX13_feed_180 h_mb mL23_1 rfl dX13_feed_83 ?_
                refine lv_iload hx hb dX13_feed_86 (lv_at hl 0 rfl) ?_
                refine lv_bipush (v := 24) hx hb dX13_feed_88 (by decide) ?_
                refine lv_bipush (v := 8) hx hb dX13_feed_90 (by decide) ?_
                refine lv_iload hx hb dX13_feed_92 (lv_at hl 7 rfl) ?_
                refine lv_iconst (v := 4) hx hb dX13_feed_94 (by decide) ?_
                refine lv_irem hx hb dX13_feed_95 (by decide) ?_
                refine lv_imul hx hb dX13_feed_96 ?_
                refine lv_isub hx hb dX13_feed_97 ?_
                refine lv_ishr hx hb dX13_feed_98 ?_
                refine lv_sipush (v := 255) hx hb dX13_feed_99 (by decide) ?_
                refine lv_iand hx hb dX13_feed_102 ?_
                refine q_iastN (f := (fdS tapeF fl x y z x4 x5 t)) (k := 700) X hK hI hP hS (fl + t) h_mb_23 mL23_0 (by omega) (by decide) dX13_feed_103 (fun H locs hP hS => ?_)
                refine lv_aload_n hx hb dX13_feed_104 rfl (lv_at hl 1 rfl) ?_
                refine lv_dup hx hb dX13_feed_105 rfl ?_
                refine q_get (v := .int (nI (fl + t))) (fs := modF ad mb (upd (upd mv 2 0) 24 (nI (fl + t)))) X hK hP fX13_feed_180 h_mb ((va_up_ne ML23 (.inl (cI, 700, .inl (upd (fdS tapeF fl x y z x4 x5 t) (fl + t) ((z >>> ((24 - (8 * ((nI t) - (nI t) / 4 * 4))) &&& 31)) &&& 255)))) (show mb ≠ mb + 23 by omega)).trans mL23_1) rfl dX13_feed_106 ?_
                refine lv_iconst (v := 1) hx hb dX13_feed_109 (by decide) ?_
                refine lv_iadd hx hb dX13_feed_110 ?_
                refine q_put (fs := modF ad mb (upd (upd mv 2 0) 24 (nI (fl + t)))) (fs' := modF ad mb (upd (upd (upd mv 2 0) 24 (nI (fl + t))) 24 ((nI (fl + t)) + 1))) X hK hI hP hS fX13_feed_180 fw_12_24 h_mb ((va_up_ne ML23 (.inl (cI, 700, .inl (upd (fdS tapeF fl x y z x4 x5 t) (fl + t) ((z >>> ((24 - (8 * ((nI t) - (nI t) / 4 * 4))) &&& 31)) &&& 255)))) (show mb ≠ mb + 23 by omega)).trans mL23_1) rfl rfl (Nat.le_of_ble_eq_true rfl) rfl dX13_feed_111 (fun H locs hP hS => ?_)
                refine lv_iinc (v := ((nI t) + 1)) (lv' := [(6, .int ((nI t) + 1)), (7, .int z), (0, .ref (ad mb)), (1, .int x), (2, .int y), (3, .int z), (4, .int x4), (5, .int x5)]) hx hb dX13_feed_114 hl (k := 7) rfl rfl (by decide) rfl (fun ls hl => ?_)
                refine lv_goto (tgt := 23) hx hb dX13_feed_117 (by decide) ?_
                exact ih_23 (t + 1) ((nI t) + 1) (by omega) (by omega) (by exact nI_1 _) _ _ _ (by refine ((va_up_ne (va_up ML23 (mb + 23) (.inl (cI, 700, .inl (upd (fdS tapeF fl x y z x4 x5 t) (fl + t) ((z >>> ((24 - (8 * ((nI t) - (nI t) / 4 * 4))) &&& 31)) &&& 255))))) (.inr (12, modF ad mb (upd (upd (upd mv 2 0) 24 (nI (fl + t))) 24 ((nI (fl + t)) + 1)))) (show mb + 23 ≠ mb by omega)).trans (va_up_self ML23 (mb + 23) (.inl (cI, 700, .inl (upd (fdS tapeF fl x y z x4 x5 t) (fl + t) ((z >>> ((24 - (8 * ((nI t) - (nI t) / 4 * 4))) &&& 31)) &&& 255)))))).trans ?_; rw [fdS, fdB]; first | (rw [if_neg c_33]; done) | (rw [if_pos c_33, if_neg c_44]; done) | (rw [if_pos c_33, if_pos c_44, if_neg c_55]; done) | (rw [if_pos c_33, if_pos c_44, if_pos c_55, if_neg c_66]; done) | (rw [if_pos c_33, if_pos c_44, if_pos c_55, if_pos c_66]; done)) (by exact (va_up_self (va_up ML23 (mb + 23) (.inl (cI, 700, .inl (upd (fdS tapeF fl x y z x4 x5 t) (fl + t) ((z >>> ((24 - (8 * ((nI t) - (nI t) / 4 * 4))) &&& 31)) &&& 255))))) mb (.inr (12, modF ad mb (upd (upd (upd mv 2 0) 24 (nI (fl + t))) 24 ((nI (fl + t)) + 1))))).trans (modC (by funext j9; simp only [upd] <;> (repeat' split) <;> first | rfl | (exfalso; omega) | exact nI_1 _))) (fun q n0 n1 => ((va_up_ne _ _ n1).trans ((va_up_ne _ _ n0).trans (fL23 q n0 n1)))) hP hS ls (lv_sub hl [2, 3, 4, 5, 6, 7, 0] rfl)
            · skip
              refine lv_iload_n hx hb dX13_feed_47 rfl (lv_at hl 2 rfl) ?_
              refine lv_goto (tgt := 76) hx hb dX13_feed_48 (by decide) ?_
              refine lv_istore (lv' := [(7, .int y), (0, .ref (ad mb)), (1, .int x), (2, .int y), (3, .int z), (4, .int x4), (5, .int x5), (6, .int (nI t))]) hx hb dX13_feed_76 hl (by decide) rfl (fun ls hl => ?_)
              refine lv_aload_n hx hb dX13_feed_78 rfl (lv_at hl 1 rfl) ?_
              refine q_get (v := .ref (ad (mb + 23))) (fs := modF ad mb (upd (upd mv 2 0) 24 (nI (fl + t)))) X hK hP fX13_feed_99 h_mb mL23_1 rfl dX13_feed_79 ?_
              refine lv_aload_n hx hb dX13_feed_82 rfl (lv_at hl 1 rfl) ?_
              refine q_get (v := .int (nI (fl + t))) (fs := modF ad mb (upd (upd mv 2 0) 24 (nI (fl + t)))) X hK hP fX13_feed_180 h_mb mL23_1 rfl dX13_feed_83 ?_
              refine lv_iload hx hb dX13_feed_86 (lv_at hl 0 rfl) ?_
              refine lv_bipush (v := 24) hx hb dX13_feed_88 (by decide) ?_
              refine lv_bipush (v := 8) hx hb dX13_feed_90 (by decide) ?_
              refine lv_iload hx hb dX13_feed_92 (lv_at hl 7 rfl) ?_
              refine lv_iconst (v := 4) hx hb dX13_feed_94 (by decide) ?_
              refine lv_irem hx hb dX13_feed_95 (by decide) ?_
              refine lv_imul hx hb dX13_feed_96 ?_
              refine lv_isub hx hb dX13_feed_97 ?_
              refine lv_ishr hx hb dX13_feed_98 ?_
              refine lv_sipush (v := 255) hx hb dX13_feed_99 (by decide) ?_
              refine lv_iand hx hb dX13_feed_102 ?_
              refine q_iastN (f := (fdS tapeF fl x y z x4 x5 t)) (k := 700) X hK hI hP hS (fl + t) h_mb_23 mL23_0 (by omega) (by decide) dX13_feed_103 (fun H locs hP hS => ?_)
              refine lv_aload_n hx hb dX13_feed_104 rfl (lv_at hl 1 rfl) ?_
              refine lv_dup hx hb dX13_feed_105 rfl ?_
              refine q_get (v := .int (nI (fl + t))) (fs := modF ad mb (upd (upd mv 2 0) 24 (nI (fl + t)))) X hK hP fX13_feed_180 h_mb ((va_up_ne ML23 (.inl (cI, 700, .inl (upd (fdS tapeF fl x y z x4 x5 t) (fl + t) ((y >>> ((24 - (8 * ((nI t) - (nI t) / 4 * 4))) &&& 31)) &&& 255)))) (show mb ≠ mb + 23 by omega)).trans mL23_1) rfl dX13_feed_106 ?_
              refine lv_iconst (v := 1) hx hb dX13_feed_109 (by decide) ?_
              refine lv_iadd hx hb dX13_feed_110 ?_
              refine q_put (fs := modF ad mb (upd (upd mv 2 0) 24 (nI (fl + t)))) (fs' := modF ad mb (upd (upd (upd mv 2 0) 24 (nI (fl + t))) 24 ((nI (fl + t)) + 1))) X hK hI hP hS fX13_feed_180 fw_12_24 h_mb ((va_up_ne ML23 (.inl (cI, 700, .inl (upd (fdS tapeF fl x y z x4 x5 t) (fl + t) ((y >>> ((24 - (8 * ((nI t) - (nI t) / 4 * 4))) &&& 31)) &&& 255)))) (show mb ≠ mb + 23 by omega)).trans mL23_1) rfl rfl (Nat.le_of_ble_eq_true rfl) rfl dX13_feed_111 (fun H locs hP hS => ?_)
              refine lv_iinc (v := ((nI t) + 1)) (lv' := [(6, .int ((nI t) + 1)), (7, .int y), (0, .ref (ad mb)), (1, .int x), (2, .int y), (3, .int z), (4, .int x4), (5, .int x5)]) hx hb dX13_feed_114 hl (k := 7) rfl rfl (by decide) rfl (fun ls hl => ?_)
              refine lv_goto (tgt := 23) hx hb dX13_feed_117 (by decide) ?_
              exact ih_23 (t + 1) ((nI t) + 1) (by omega) (by omega) (by exact nI_1 _) _ _ _ (by refine ((va_up_ne (va_up ML23 (mb + 23) (.inl (cI, 700, .inl (upd (fdS tapeF fl x y z x4 x5 t) (fl + t) ((y >>> ((24 - (8 * ((nI t) - (nI t) / 4 * 4))) &&& 31)) &&& 255))))) (.inr (12, modF ad mb (upd (upd (upd mv 2 0) 24 (nI (fl + t))) 24 ((nI (fl + t)) + 1)))) (show mb + 23 ≠ mb by omega)).trans (va_up_self ML23 (mb + 23) (.inl (cI, 700, .inl (upd (fdS tapeF fl x y z x4 x5 t) (fl + t) ((y >>> ((24 - (8 * ((nI t) - (nI t) / 4 * 4))) &&& 31)) &&& 255)))))).trans ?_; rw [fdS, fdB]; first | (rw [if_neg c_33]; done) | (rw [if_pos c_33, if_neg c_44]; done) | (rw [if_pos c_33, if_pos c_44, if_neg c_55]; done) | (rw [if_pos c_33, if_pos c_44, if_pos c_55, if_neg c_66]; done) | (rw [if_pos c_33, if_pos c_44, if_pos c_55, if_pos c_66]; done)) (by exact (va_up_self (va_up ML23 (mb + 23) (.inl (cI, 700, .inl (upd (fdS tapeF fl x y z x4 x5 t) (fl + t) ((y >>> ((24 - (8 * ((nI t) - (nI t) / 4 * 4))) &&& 31)) &&& 255))))) mb (.inr (12, modF ad mb (upd (upd (upd mv 2 0) 24 (nI (fl + t))) 24 ((nI (fl + t)) + 1))))).trans (modC (by funext j9; simp only [upd] <;> (repeat' split) <;> first | rfl | (exfalso; omega) | exact nI_1 _))) (fun q n0 n1 => ((va_up_ne _ _ n1).trans ((va_up_ne _ _ n0).trans (fL23 q n0 n1)))) hP hS ls (lv_sub hl [2, 3, 4, 5, 6, 7, 0] rfl)
          · skip
            refine lv_iload_n hx hb dX13_feed_36 rfl (lv_at hl 1 rfl) ?_
            refine lv_goto (tgt := 76) hx hb dX13_feed_37 (by decide) ?_
            refine lv_istore (lv' := [(7, .int x), (0, .ref (ad mb)), (1, .int x), (2, .int y), (3, .int z), (4, .int x4), (5, .int x5), (6, .int (nI t))]) hx hb dX13_feed_76 hl (by decide) rfl (fun ls hl => ?_)
            refine lv_aload_n hx hb dX13_feed_78 rfl (lv_at hl 1 rfl) ?_
            refine q_get (v := .ref (ad (mb + 23))) (fs := modF ad mb (upd (upd mv 2 0) 24 (nI (fl + t)))) X hK hP fX13_feed_99 h_mb mL23_1 rfl dX13_feed_79 ?_
            refine lv_aload_n hx hb dX13_feed_82 rfl (lv_at hl 1 rfl) ?_
            refine q_get (v := .int (nI (fl + t))) (fs := modF ad mb (upd (upd mv 2 0) 24 (nI (fl + t)))) X hK hP fX13_feed_180 h_mb mL23_1 rfl dX13_feed_83 ?_
            refine lv_iload hx hb dX13_feed_86 (lv_at hl 0 rfl) ?_
            refine lv_bipush (v := 24) hx hb dX13_feed_88 (by decide) ?_
            refine lv_bipush (v := 8) hx hb dX13_feed_90 (by decide) ?_
            refine lv_iload hx hb dX13_feed_92 (lv_at hl 7 rfl) ?_
            refine lv_iconst (v := 4) hx hb dX13_feed_94 (by decide) ?_
            refine lv_irem hx hb dX13_feed_95 (by decide) ?_
            refine lv_imul hx hb dX13_feed_96 ?_
            refine lv_isub hx hb dX13_feed_97 ?_
            refine lv_ishr hx hb dX13_feed_98 ?_
            refine lv_sipush (v := 255) hx hb dX13_feed_99 (by decide) ?_
            refine lv_iand hx hb dX13_feed_102 ?_
            refine q_iastN (f := (fdS tapeF fl x y z x4 x5 t)) (k := 700) X hK hI hP hS (fl + t) h_mb_23 mL23_0 (by omega) (by decide) dX13_feed_103 (fun H locs hP hS => ?_)
            refine lv_aload_n hx hb dX13_feed_104 rfl (lv_at hl 1 rfl) ?_
            refine lv_dup hx hb dX13_feed_105 rfl ?_
            refine q_get (v := .int (nI (fl + t))) (fs := modF ad mb (upd (upd mv 2 0) 24 (nI (fl + t)))) X hK hP fX13_feed_180 h_mb ((va_up_ne ML23 (.inl (cI, 700, .inl (upd (fdS tapeF fl x y z x4 x5 t) (fl + t) ((x >>> ((24 - (8 * ((nI t) - (nI t) / 4 * 4))) &&& 31)) &&& 255)))) (show mb ≠ mb + 23 by omega)).trans mL23_1) rfl dX13_feed_106 ?_
            refine lv_iconst (v := 1) hx hb dX13_feed_109 (by decide) ?_
            refine lv_iadd hx hb dX13_feed_110 ?_
            refine q_put (fs := modF ad mb (upd (upd mv 2 0) 24 (nI (fl + t)))) (fs' := modF ad mb (upd (upd (upd mv 2 0) 24 (nI (fl + t))) 24 ((nI (fl + t)) + 1))) X hK hI hP hS fX13_feed_180 fw_12_24 h_mb ((va_up_ne ML23 (.inl (cI, 700, .inl (upd (fdS tapeF fl x y z x4 x5 t) (fl + t) ((x >>> ((24 - (8 * ((nI t) - (nI t) / 4 * 4))) &&& 31)) &&& 255)))) (show mb ≠ mb + 23 by omega)).trans mL23_1) rfl rfl (Nat.le_of_ble_eq_true rfl) rfl dX13_feed_111 (fun H locs hP hS => ?_)
            refine lv_iinc (v := ((nI t) + 1)) (lv' := [(6, .int ((nI t) + 1)), (7, .int x), (0, .ref (ad mb)), (1, .int x), (2, .int y), (3, .int z), (4, .int x4), (5, .int x5)]) hx hb dX13_feed_114 hl (k := 7) rfl rfl (by decide) rfl (fun ls hl => ?_)
            refine lv_goto (tgt := 23) hx hb dX13_feed_117 (by decide) ?_
            exact ih_23 (t + 1) ((nI t) + 1) (by omega) (by omega) (by exact nI_1 _) _ _ _ (by refine ((va_up_ne (va_up ML23 (mb + 23) (.inl (cI, 700, .inl (upd (fdS tapeF fl x y z x4 x5 t) (fl + t) ((x >>> ((24 - (8 * ((nI t) - (nI t) / 4 * 4))) &&& 31)) &&& 255))))) (.inr (12, modF ad mb (upd (upd (upd mv 2 0) 24 (nI (fl + t))) 24 ((nI (fl + t)) + 1)))) (show mb + 23 ≠ mb by omega)).trans (va_up_self ML23 (mb + 23) (.inl (cI, 700, .inl (upd (fdS tapeF fl x y z x4 x5 t) (fl + t) ((x >>> ((24 - (8 * ((nI t) - (nI t) / 4 * 4))) &&& 31)) &&& 255)))))).trans ?_; rw [fdS, fdB]; first | (rw [if_neg c_33]; done) | (rw [if_pos c_33, if_neg c_44]; done) | (rw [if_pos c_33, if_pos c_44, if_neg c_55]; done) | (rw [if_pos c_33, if_pos c_44, if_pos c_55, if_neg c_66]; done) | (rw [if_pos c_33, if_pos c_44, if_pos c_55, if_pos c_66]; done)) (by exact (va_up_self (va_up ML23 (mb + 23) (.inl (cI, 700, .inl (upd (fdS tapeF fl x y z x4 x5 t) (fl + t) ((x >>> ((24 - (8 * ((nI t) - (nI t) / 4 * 4))) &&& 31)) &&& 255))))) mb (.inr (12, modF ad mb (upd (upd (upd mv 2 0) 24 (nI (fl + t))) 24 ((nI (fl + t)) + 1))))).trans (modC (by funext j9; simp only [upd] <;> (repeat' split) <;> first | rfl | (exfalso; omega) | exact nI_1 _))) (fun q n0 n1 => ((va_up_ne _ _ n1).trans ((va_up_ne _ _ n0).trans (fL23 q n0 n1)))) hP hS ls (lv_sub hl [2, 3, 4, 5, 6, 7, 0] rfl)
    exact loop_23 (21) 0 0 (by omega) (by omega) (by rfl) _ _ _ ((va_up_ne M (.inr (12, modF ad mb (upd mv 2 0))) (show mb + 23 ≠ mb by omega)).trans m_mb_23) (by exact (va_up_self M mb (.inr (12, modF ad mb (upd mv 2 0)))).trans (modC (by funext j9; simp only [upd] <;> (repeat' split) <;> first | rfl | (exfalso; omega) | (subst_vars; exact k24)))) (fun q n0 n1 => (va_up_ne _ _ n1)) hP hS ls (lv_sub hl [1, 2, 3, 4, 5, 6, 0] rfl)
  · exact absurd (by rw [k24, show (20 : Int32) = nI 20 from rfl, nI_add]; exact nI_le (b := 700) hnl (by decide)) c_15
set_option maxHeartbeats 2000000 in
set_option maxRecDepth 100000 in
theorem c_X13_feedN (l : Launch) (D : va_G) (cB cI cJ : ClassId) (ad : Nat → Nat) (n : Nat) (M : Nat → va_E) (hI : ipI ad n) (mb nl : Nat) (mv : Nat → Int32) (x y z x4 x5 : Int32) (h_mb : mb < n) (m_mb : M mb = .inr (12, modF ad mb mv)) (k24 : mv 24 = nI nl) (hnl : ¬ nl + 20 ≤ 700) (hnl2 : nl ≤ 700) : cWi l D cB cI cJ ad n M yX13_feed wsX13_feed 0 0 [.ref (ad mb), .int x, .int y, .int z, .int x4, .int x5] (fun r M' => r = (-1) ∧ M' mb = .inr (12, modF ad mb (upd mv 2 0)) ∧ ∀ q : Nat, q ≠ mb → M' q = M q) := by
  refine q_body (cc := cX13_feed) (maxL := 8) (ret := (some .int)) (by decide) rfl (Nat.le_of_ble_eq_true rfl) ?_
  intro p e s m args below meth c ls X hr hlocks hK hP hl
  obtain ⟨hx, hb, hml, hown, hts⟩ := id X
  have hS : va_S (ipA ad n) s.heap s.heap [] := va_S.rf
  have hl : lv_has ls 8 [(0, .ref (ad mb)), (1, .int x), (2, .int y), (3, .int z), (4, .int x4), (5, .int x5)] := hl
  refine lv_aload_n hx hb dX13_feed_0 rfl (lv_at hl 0 rfl) ?_
  refine lv_iconst (v := 0) hx hb dX13_feed_1 (by decide) ?_
  refine q_put (fs := modF ad mb mv) (fs' := modF ad mb (upd mv 2 0)) X hK hI hP hS fX13_feed_173 fw_12_2 h_mb m_mb rfl rfl (Nat.le_of_ble_eq_true rfl) rfl dX13_feed_2 (fun H locs hP hS => ?_)
  refine lv_aload_n hx hb dX13_feed_5 rfl (lv_at hl 0 rfl) ?_
  refine q_get (v := .int (mv 24)) (fs := modF ad mb (upd mv 2 0)) X hK hP fX13_feed_180 h_mb (va_up_self M mb (.inr (12, modF ad mb (upd mv 2 0)))) rfl dX13_feed_6 ?_
  refine lv_bipush (v := 20) hx hb dX13_feed_9 (by decide) ?_
  refine lv_iadd hx hb dX13_feed_11 ?_
  refine lv_sipush (v := 700) hx hb dX13_feed_12 (by decide) ?_
  refine lv_icmp_le (tgt := 20) hx hb dX13_feed_15 (by decide) (fun c_15 => ?_) (fun c_15 => ?_)
  · exact absurd ((nI_leI (b := 700) (by omega) (by decide)).mp (by rw [k24, show (20 : Int32) = nI 20 from rfl, nI_add] at c_15; exact c_15)) hnl
  · skip
    refine lv_iconst (v := (-1)) hx hb dX13_feed_18 (by decide) ?_
    exact q_wzret X hr hlocks hP hS (rfl) ⟨(by rfl), (va_up_self M mb (.inr (12, modF ad mb (upd mv 2 0)))), (fun q n0 => (va_up_ne _ _ n0))⟩ dX13_feed_19
set_option maxHeartbeats 2000000 in
set_option maxRecDepth 100000 in
theorem c_X13_takeHalf (l : Launch) (D : va_G) (cB cI cJ : ClassId) (ad : Nat → Nat) (n : Nat) (M : Nat → va_E) (hI : ipI ad n) (i9 k9 h9 : Nat) (f : Nat → Int32) (h_i9 : i9 < n) (m_i9 : M i9 = .inl (cI, k9, .inl f)) (hk9 : k9 = 2 * h9) (hh9 : h9 ≤ 1000) : cWv l D cB cI cJ ad n M yX13_takeHalf wsX13_takeHalf 0 0 [.ref (ad i9)] (fun M' => M' i9 = .inl (cI, k9, .inl (thF h9 f h9)) ∧ ∀ q : Nat, q ≠ i9 → M' q = M q) := by
  refine q_body (cc := cX13_takeHalf) (maxL := 2) (ret := none) (by decide) rfl (Nat.le_of_ble_eq_true rfl) ?_
  intro p e s m args below meth c ls X hr hlocks hK hP hl
  obtain ⟨hx, hb, hml, hown, hts⟩ := id X
  have hS : va_S (ipA ad n) s.heap s.heap [] := va_S.rf
  have hl : lv_has ls 2 [(0, .ref (ad i9))] := hl
  have hd9 : nI k9 / 2 = nI h9 := by rw [show (2 : Int32) = nI 2 from rfl, pk_div (by omega) (by decide) (by decide), hk9]; congr 1; omega
  refine lv_iconst (v := 0) hx hb dX13_takeHalf_0 (by decide) ?_
  refine lv_istore_n (lv' := [(1, .int 0), (0, .ref (ad i9))]) hx hb dX13_takeHalf_1 rfl hl (by decide) rfl (fun ls hl => ?_)
  have loop_2 : ∀ (fuel : Nat) (t : Nat) (x1 : Int32), h9 - t < fuel → (t ≤ h9) → x1 = nI t → ∀ (ML2 : Nat → va_E) (H : Heap) (locs : List Loc), ML2 i9 = .inl (cI, k9, .inl (thF h9 f t)) → (∀ q : Nat, q ≠ i9 → ML2 q = M q) → va_P D vwCl (ip ad n ML2) H → va_S (ipA ad n) s.heap H locs → ∀ (ls : Array Slot), lv_has ls 2 [(0, .ref (ad i9)), (1, .int x1)] → W p l e (rmOf 0 0) s m args below meth c H locs 0 0 (MQ below (va_Qv (fun M' => M' i9 = .inl (cI, k9, .inl (thF h9 f h9)) ∧ ∀ q : Nat, q ≠ i9 → M' q = M q) (fun M' t => va_P D vwCl (ip ad n M') t.heap) (ipA ad n)) args s 0 0 (ipA ad n)) (F0 m 2 ls []) := by
    intro fuel
    induction fuel with
    | zero =>
      intro t x1 hz
      exact absurd hz (Nat.not_lt_zero _)
    | succ fuel ih_2 =>
      intro t x1 hz_2 ht e1 ML2 H locs mL2_0 fL2 hP hS ls hl
      subst e1
      skip
      refine lv_iload_n hx hb dX13_takeHalf_2 rfl (lv_at hl 1 rfl) ?_
      refine lv_aload_n hx hb dX13_takeHalf_3 rfl (lv_at hl 0 rfl) ?_
      refine q_alen (f := (thF h9 f t)) (k := k9) (v := (nI k9)) X hK hP h_i9 mL2_0 rfl dX13_takeHalf_4 ?_
      refine lv_iconst (v := 2) hx hb dX13_takeHalf_5 (by decide) ?_
      refine lv_idiv hx hb dX13_takeHalf_6 (by decide) ?_
      refine lv_icmp_ge (tgt := 27) hx hb dX13_takeHalf_7 (by decide) (fun c_7 => ?_) (fun c_7 => ?_)
      · skip
        rw [hd9] at c_7; have h8 : t = h9 := eq_of_le c_7 (by omega) ht
        exact q_wvret X hr hlocks hP hS ⟨(by subst h8; exact mL2_0), (fun q n0 => (fL2 q n0))⟩ dX13_takeHalf_27
      · skip
        rw [hd9] at c_7; have h8 := lt_of_nlt c_7 (by omega) ht
        refine lv_aload_n hx hb dX13_takeHalf_10 rfl (lv_at hl 0 rfl) ?_
        refine lv_iload_n hx hb dX13_takeHalf_11 rfl (lv_at hl 1 rfl) ?_
        refine lv_aload_n hx hb dX13_takeHalf_12 rfl (lv_at hl 0 rfl) ?_
        refine lv_aload_n hx hb dX13_takeHalf_13 rfl (lv_at hl 0 rfl) ?_
        refine q_alen (f := (thF h9 f t)) (k := k9) (v := (nI k9)) X hK hP h_i9 mL2_0 rfl dX13_takeHalf_14 ?_
        refine lv_iconst (v := 2) hx hb dX13_takeHalf_15 (by decide) ?_
        refine lv_idiv hx hb dX13_takeHalf_16 (by decide) ?_
        refine lv_iload_n hx hb dX13_takeHalf_17 rfl (lv_at hl 1 rfl) ?_
        refine lv_iadd hx hb dX13_takeHalf_18 ?_
        refine q_iald (f := (thF h9 f t)) (k := k9) X hK hP h_i9 mL2_0 (by rw [hd9, nI_add]; exact vp_in_nI (by omega) (by omega)) dX13_takeHalf_19 ?_
        refine q_iastN (f := (thF h9 f t)) (k := k9) X hK hI hP hS t h_i9 mL2_0 (by omega) (by omega) dX13_takeHalf_20 (fun H locs hP hS => ?_)
        refine lv_iinc (v := ((nI t) + 1)) (lv' := [(1, .int ((nI t) + 1)), (0, .ref (ad i9))]) hx hb dX13_takeHalf_21 hl (k := 1) rfl rfl (by decide) rfl (fun ls hl => ?_)
        refine lv_goto (tgt := 2) hx hb dX13_takeHalf_24 (by decide) ?_
        exact ih_2 (t + 1) ((nI t) + 1) (by omega) (by omega) (by exact nI_1 _) _ _ _ (by refine (va_up_self ML2 i9 (.inl (cI, k9, .inl (upd (thF h9 f t) t ((thF h9 f t) (((nI k9) / 2) + (nI t)).toNatClampNeg))))).trans ?_; rw [hd9, nI_add, nI_clamp (by omega), thF_s h9 f h8]) (fun q n0 => ((va_up_ne _ _ n0).trans (fL2 q n0))) hP hS ls (lv_sub hl [1, 0] rfl)
  exact loop_2 (h9 + 1) 0 0 (by omega) (by omega) (by rfl) _ _ _ (by rw [thF_0]; exact m_i9) (fun q n0 => rfl) hP hS ls (lv_sub hl [1, 0] rfl)
end
