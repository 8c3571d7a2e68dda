/-! PoundsOver$Standing -/
def taS (plf : Nat → Int32) (p : Int32) : Nat → Int32
  | 0 => 0
  | t + 1 => if tat 12 plf (nI t) = p then taS plf p t ||| (1 <<< (nI t &&& 31)) else taS plf p t
/-- the first place from c on, of r, of which ov is above 0; -1 if none is -/
def loS (ov : Nat → Int32) : Nat → Nat → Int32
  | 0, _ => -1
  | r + 1, c => if ov c ≤ 0 then loS ov r (c + 1) else nI c
def hsS (nt : Nat) (cf plf : Nat → Int32) (p lost : Int32) : Nat → Int32
  | 0 => taS plf (10 + p) nt
  | c + 1 => if nI c = lost then hsS nt cf plf p lost c else if tat 25 cf (nI c * 5 + 0) = p then hsS nt cf plf p lost c ||| taS plf (nI c) nt else hsS nt cf plf p lost c
def noShS (has : Int32 → Int32 → Int32) (lost : Int32) : Nat → Int32
  | 0 => 0
  | p + 1 => if has (nI p) (-1) = 0 then noShS has lost p else if has (nI p) lost = 0 then noShS has lost p ||| (1 <<< (nI p &&& 31)) else noShS has lost p
/-- a total: the fees of the cases and what it cost to open them; then what was posted, thrown away -/
def tcS (fee cost : Nat → Int32) (op : Int32) : Nat → Int32
  | 0 => 0
  | c + 1 => if (op >>> (nI c &&& 31)) &&& 1 = 0 then tcS fee cost op c + fee c else tcS fee cost op c + fee c + cost c
def ttS (pl price value : Nat → Int32) (a : Int32) : Nat → Int32
  | 0 => a
  | t + 1 => if pl t = 21 then ttS pl price value a t + price t else if pl t = 20 then ttS pl price value a t + value t else ttS pl price value a t
/-- the first case from c on, of r, with a glass and nothing soft -/
def lwS (bits : Nat → Int32) (has : Int32 → Int32 → Int32) : Nat → Nat → Int32
  | 0, _ => 0
  | r + 1, c => if has (bits c) 3 = 0 then lwS bits has r (c + 1) else if has (bits c) 1 = 0 then (if has (bits c) 5 = 0 then 10 + nI c else lwS bits has r (c + 1)) else lwS bits has r (c + 1)
def bgS (plf tf : Nat → Int32) : Nat → Nat → Int32
  | 0 => plf
  | t + 1 => tset 12 (bgS plf tf t) (nI t) (tat 84 tf (nI t * 7 + 5))
theorem hk01 (nt : Nat) (tf : Nat → Int32) (b k : Int32) : narrow .boolean (.int (hkS nt tf b k)) = .int (hkS nt tf b k) := by
  unfold hkS
  split <;> rfl
def bcI (x : Int32) : Int32 := ((((((((x - ((((x : Int32).toUInt32 >>> ((1 : Int32).toUInt32 &&& Int32.toUInt32 31)).toInt32) &&& 1431655765)) &&& 858993459) + (((((x - ((((x : Int32).toUInt32 >>> ((1 : Int32).toUInt32 &&& Int32.toUInt32 31)).toInt32) &&& 1431655765)) : Int32).toUInt32 >>> ((2 : Int32).toUInt32 &&& Int32.toUInt32 31)).toInt32) &&& 858993459)) + ((((((x - ((((x : Int32).toUInt32 >>> ((1 : Int32).toUInt32 &&& Int32.toUInt32 31)).toInt32) &&& 1431655765)) &&& 858993459) + (((((x - ((((x : Int32).toUInt32 >>> ((1 : Int32).toUInt32 &&& Int32.toUInt32 31)).toInt32) &&& 1431655765)) : Int32).toUInt32 >>> ((2 : Int32).toUInt32 &&& Int32.toUInt32 31)).toInt32) &&& 858993459)) : Int32).toUInt32 >>> ((4 : Int32).toUInt32 &&& Int32.toUInt32 31)).toInt32)) &&& 252645135) + ((((((((x - ((((x : Int32).toUInt32 >>> ((1 : Int32).toUInt32 &&& Int32.toUInt32 31)).toInt32) &&& 1431655765)) &&& 858993459) + (((((x - ((((x : Int32).toUInt32 >>> ((1 : Int32).toUInt32 &&& Int32.toUInt32 31)).toInt32) &&& 1431655765)) : Int32).toUInt32 >>> ((2 : Int32).toUInt32 &&& Int32.toUInt32 31)).toInt32) &&& 858993459)) + ((((((x - ((((x : Int32).toUInt32 >>> ((1 : Int32).toUInt32 &&& Int32.toUInt32 31)).toInt32) &&& 1431655765)) &&& 858993459) + (((((x - ((((x : Int32).toUInt32 >>> ((1 : Int32).toUInt32 &&& Int32.toUInt32 31)).toInt32) &&& 1431655765)) : Int32).toUInt32 >>> ((2 : Int32).toUInt32 &&& Int32.toUInt32 31)).toInt32) &&& 858993459)) : Int32).toUInt32 >>> ((4 : Int32).toUInt32 &&& Int32.toUInt32 31)).toInt32)) &&& 252645135) : Int32).toUInt32 >>> ((8 : Int32).toUInt32 &&& Int32.toUInt32 31)).toInt32)) + (((((((((x - ((((x : Int32).toUInt32 >>> ((1 : Int32).toUInt32 &&& Int32.toUInt32 31)).toInt32) &&& 1431655765)) &&& 858993459) + (((((x - ((((x : Int32).toUInt32 >>> ((1 : Int32).toUInt32 &&& Int32.toUInt32 31)).toInt32) &&& 1431655765)) : Int32).toUInt32 >>> ((2 : Int32).toUInt32 &&& Int32.toUInt32 31)).toInt32) &&& 858993459)) + ((((((x - ((((x : Int32).toUInt32 >>> ((1 : Int32).toUInt32 &&& Int32.toUInt32 31)).toInt32) &&& 1431655765)) &&& 858993459) + (((((x - ((((x : Int32).toUInt32 >>> ((1 : Int32).toUInt32 &&& Int32.toUInt32 31)).toInt32) &&& 1431655765)) : Int32).toUInt32 >>> ((2 : Int32).toUInt32 &&& Int32.toUInt32 31)).toInt32) &&& 858993459)) : Int32).toUInt32 >>> ((4 : Int32).toUInt32 &&& Int32.toUInt32 31)).toInt32)) &&& 252645135) + ((((((((x - ((((x : Int32).toUInt32 >>> ((1 : Int32).toUInt32 &&& Int32.toUInt32 31)).toInt32) &&& 1431655765)) &&& 858993459) + (((((x - ((((x : Int32).toUInt32 >>> ((1 : Int32).toUInt32 &&& Int32.toUInt32 31)).toInt32) &&& 1431655765)) : Int32).toUInt32 >>> ((2 : Int32).toUInt32 &&& Int32.toUInt32 31)).toInt32) &&& 858993459)) + ((((((x - ((((x : Int32).toUInt32 >>> ((1 : Int32).toUInt32 &&& Int32.toUInt32 31)).toInt32) &&& 1431655765)) &&& 858993459) + (((((x - ((((x : Int32).toUInt32 >>> ((1 : Int32).toUInt32 &&& Int32.toUInt32 31)).toInt32) &&& 1431655765)) : Int32).toUInt32 >>> ((2 : Int32).toUInt32 &&& Int32.toUInt32 31)).toInt32) &&& 858993459)) : Int32).toUInt32 >>> ((4 : Int32).toUInt32 &&& Int32.toUInt32 31)).toInt32)) &&& 252645135) : Int32).toUInt32 >>> ((8 : Int32).toUInt32 &&& Int32.toUInt32 31)).toInt32)) : Int32).toUInt32 >>> ((16 : Int32).toUInt32 &&& Int32.toUInt32 31)).toInt32)) &&& 63)
set_option maxHeartbeats 4000000 in
set_option maxRecDepth 100000 in
theorem c_J6_bitCount_0f7a4 (l : Launch) (D : va_G) (cB cI cJ : ClassId) (ad : Nat → Nat) (n : Nat) (M : Nat → va_E) (x : Int32)    : cR l D cB cI cJ ad n M yJ6_bitCount_0f7a4 wsJ6_bitCount_0f7a4 0 0 [.int x] (bcI x) := by
  refine q_body (cc := cJ6_bitCount_0f7a4) (maxL := 1) (ret := (some .int)) (by decide) rfl (Nat.le_of_ble_eq_true rfl) ?_
  intro p e s m args below meth c ls X hr hlocks hK hP hl
  obtain ⟨hx, hb, hml, hown, hts⟩ := id X
  have hS : va_S (ipA ad n) s.heap s.heap [] := va_S.rf
  have hl : lv_has ls 1 [(0, .int x)] := hl
  refine lv_iload_n hx hb dJ6_bitCount_0f7a4_0 rfl (lv_at hl 0 rfl) ?_
  refine lv_iload_n hx hb dJ6_bitCount_0f7a4_1 rfl (lv_at hl 0 rfl) ?_
  refine lv_iconst (v := 1) hx hb dJ6_bitCount_0f7a4_2 (by decide) ?_
  refine lv_iushr hx hb dJ6_bitCount_0f7a4_3 rfl ?_
  refine lv_ldcw (v := 1431655765) hx hb hown (hts _ (by decide +kernel)) dJ6_bitCount_0f7a4_4 ?_
  refine lv_iand hx hb dJ6_bitCount_0f7a4_7 ?_
  refine lv_isub hx hb dJ6_bitCount_0f7a4_8 ?_
  refine lv_istore_n (lv' := [(0, .int (x - ((((x : Int32).toUInt32 >>> ((1 : Int32).toUInt32 &&& Int32.toUInt32 31)).toInt32) &&& 1431655765)))]) hx hb dJ6_bitCount_0f7a4_9 rfl hl (by decide) rfl (fun ls hl => ?_)
  refine lv_iload_n hx hb dJ6_bitCount_0f7a4_10 rfl (lv_at hl 0 rfl) ?_
  refine lv_ldcw (v := 858993459) hx hb hown (hts _ (by decide +kernel)) dJ6_bitCount_0f7a4_11 ?_
  refine lv_iand hx hb dJ6_bitCount_0f7a4_14 ?_
  refine lv_iload_n hx hb dJ6_bitCount_0f7a4_15 rfl (lv_at hl 0 rfl) ?_
  refine lv_iconst (v := 2) hx hb dJ6_bitCount_0f7a4_16 (by decide) ?_
  refine lv_iushr hx hb dJ6_bitCount_0f7a4_17 rfl ?_
  refine lv_ldcw (v := 858993459) hx hb hown (hts _ (by decide +kernel)) dJ6_bitCount_0f7a4_18 ?_
  refine lv_iand hx hb dJ6_bitCount_0f7a4_21 ?_
  refine lv_iadd hx hb dJ6_bitCount_0f7a4_22 ?_
  refine lv_istore_n (lv' := [(0, .int (((x - ((((x : Int32).toUInt32 >>> ((1 : Int32).toUInt32 &&& Int32.toUInt32 31)).toInt32) &&& 1431655765)) &&& 858993459) + (((((x - ((((x : Int32).toUInt32 >>> ((1 : Int32).toUInt32 &&& Int32.toUInt32 31)).toInt32) &&& 1431655765)) : Int32).toUInt32 >>> ((2 : Int32).toUInt32 &&& Int32.toUInt32 31)).toInt32) &&& 858993459)))]) hx hb dJ6_bitCount_0f7a4_23 rfl hl (by decide) rfl (fun ls hl => ?_)
  refine lv_iload_n hx hb dJ6_bitCount_0f7a4_24 rfl (lv_at hl 0 rfl) ?_
  refine lv_iload_n hx hb dJ6_bitCount_0f7a4_25 rfl (lv_at hl 0 rfl) ?_
  refine lv_iconst (v := 4) hx hb dJ6_bitCount_0f7a4_26 (by decide) ?_
  refine lv_iushr hx hb dJ6_bitCount_0f7a4_27 rfl ?_
  refine lv_iadd hx hb dJ6_bitCount_0f7a4_28 ?_
  refine lv_ldcw (v := 252645135) hx hb hown (hts _ (by decide +kernel)) dJ6_bitCount_0f7a4_29 ?_
  refine lv_iand hx hb dJ6_bitCount_0f7a4_32 ?_
  refine lv_istore_n (lv' := [(0, .int (((((x - ((((x : Int32).toUInt32 >>> ((1 : Int32).toUInt32 &&& Int32.toUInt32 31)).toInt32) &&& 1431655765)) &&& 858993459) + (((((x - ((((x : Int32).toUInt32 >>> ((1 : Int32).toUInt32 &&& Int32.toUInt32 31)).toInt32) &&& 1431655765)) : Int32).toUInt32 >>> ((2 : Int32).toUInt32 &&& Int32.toUInt32 31)).toInt32) &&& 858993459)) + ((((((x - ((((x : Int32).toUInt32 >>> ((1 : Int32).toUInt32 &&& Int32.toUInt32 31)).toInt32) &&& 1431655765)) &&& 858993459) + (((((x - ((((x : Int32).toUInt32 >>> ((1 : Int32).toUInt32 &&& Int32.toUInt32 31)).toInt32) &&& 1431655765)) : Int32).toUInt32 >>> ((2 : Int32).toUInt32 &&& Int32.toUInt32 31)).toInt32) &&& 858993459)) : Int32).toUInt32 >>> ((4 : Int32).toUInt32 &&& Int32.toUInt32 31)).toInt32)) &&& 252645135))]) hx hb dJ6_bitCount_0f7a4_33 rfl hl (by decide) rfl (fun ls hl => ?_)
  refine lv_iload_n hx hb dJ6_bitCount_0f7a4_34 rfl (lv_at hl 0 rfl) ?_
  refine lv_iload_n hx hb dJ6_bitCount_0f7a4_35 rfl (lv_at hl 0 rfl) ?_
  refine lv_bipush (v := 8) hx hb dJ6_bitCount_0f7a4_36 (by decide) ?_
  refine lv_iushr hx hb dJ6_bitCount_0f7a4_38 rfl ?_
  refine lv_iadd hx hb dJ6_bitCount_0f7a4_39 ?_
  refine lv_istore_n (lv' := [(0, .int ((((((x - ((((x : Int32).toUInt32 >>> ((1 : Int32).toUInt32 &&& Int32.toUInt32 31)).toInt32) &&& 1431655765)) &&& 858993459) + (((((x - ((((x : Int32).toUInt32 >>> ((1 : Int32).toUInt32 &&& Int32.toUInt32 31)).toInt32) &&& 1431655765)) : Int32).toUInt32 >>> ((2 : Int32).toUInt32 &&& Int32.toUInt32 31)).toInt32) &&& 858993459)) + ((((((x - ((((x : Int32).toUInt32 >>> ((1 : Int32).toUInt32 &&& Int32.toUInt32 31)).toInt32) &&& 1431655765)) &&& 858993459) + (((((x - ((((x : Int32).toUInt32 >>> ((1 : Int32).toUInt32 &&& Int32.toUInt32 31)).toInt32) &&& 1431655765)) : Int32).toUInt32 >>> ((2 : Int32).toUInt32 &&& Int32.toUInt32 31)).toInt32) &&& 858993459)) : Int32).toUInt32 >>> ((4 : Int32).toUInt32 &&& Int32.toUInt32 31)).toInt32)) &&& 252645135) + ((((((((x - ((((x : Int32).toUInt32 >>> ((1 : Int32).toUInt32 &&& Int32.toUInt32 31)).toInt32) &&& 1431655765)) &&& 858993459) + (((((x - ((((x : Int32).toUInt32 >>> ((1 : Int32).toUInt32 &&& Int32.toUInt32 31)).toInt32) &&& 1431655765)) : Int32).toUInt32 >>> ((2 : Int32).toUInt32 &&& Int32.toUInt32 31)).toInt32) &&& 858993459)) + ((((((x - ((((x : Int32).toUInt32 >>> ((1 : Int32).toUInt32 &&& Int32.toUInt32 31)).toInt32) &&& 1431655765)) &&& 858993459) + (((((x - ((((x : Int32).toUInt32 >>> ((1 : Int32).toUInt32 &&& Int32.toUInt32 31)).toInt32) &&& 1431655765)) : Int32).toUInt32 >>> ((2 : Int32).toUInt32 &&& Int32.toUInt32 31)).toInt32) &&& 858993459)) : Int32).toUInt32 >>> ((4 : Int32).toUInt32 &&& Int32.toUInt32 31)).toInt32)) &&& 252645135) : Int32).toUInt32 >>> ((8 : Int32).toUInt32 &&& Int32.toUInt32 31)).toInt32)))]) hx hb dJ6_bitCount_0f7a4_40 rfl hl (by decide) rfl (fun ls hl => ?_)
  refine lv_iload_n hx hb dJ6_bitCount_0f7a4_41 rfl (lv_at hl 0 rfl) ?_
  refine lv_iload_n hx hb dJ6_bitCount_0f7a4_42 rfl (lv_at hl 0 rfl) ?_
  refine lv_bipush (v := 16) hx hb dJ6_bitCount_0f7a4_43 (by decide) ?_
  refine lv_iushr hx hb dJ6_bitCount_0f7a4_45 rfl ?_
  refine lv_iadd hx hb dJ6_bitCount_0f7a4_46 ?_
  refine lv_istore_n (lv' := [(0, .int (((((((x - ((((x : Int32).toUInt32 >>> ((1 : Int32).toUInt32 &&& Int32.toUInt32 31)).toInt32) &&& 1431655765)) &&& 858993459) + (((((x - ((((x : Int32).toUInt32 >>> ((1 : Int32).toUInt32 &&& Int32.toUInt32 31)).toInt32) &&& 1431655765)) : Int32).toUInt32 >>> ((2 : Int32).toUInt32 &&& Int32.toUInt32 31)).toInt32) &&& 858993459)) + ((((((x - ((((x : Int32).toUInt32 >>> ((1 : Int32).toUInt32 &&& Int32.toUInt32 31)).toInt32) &&& 1431655765)) &&& 858993459) + (((((x - ((((x : Int32).toUInt32 >>> ((1 : Int32).toUInt32 &&& Int32.toUInt32 31)).toInt32) &&& 1431655765)) : Int32).toUInt32 >>> ((2 : Int32).toUInt32 &&& Int32.toUInt32 31)).toInt32) &&& 858993459)) : Int32).toUInt32 >>> ((4 : Int32).toUInt32 &&& Int32.toUInt32 31)).toInt32)) &&& 252645135) + ((((((((x - ((((x : Int32).toUInt32 >>> ((1 : Int32).toUInt32 &&& Int32.toUInt32 31)).toInt32) &&& 1431655765)) &&& 858993459) + (((((x - ((((x : Int32).toUInt32 >>> ((1 : Int32).toUInt32 &&& Int32.toUInt32 31)).toInt32) &&& 1431655765)) : Int32).toUInt32 >>> ((2 : Int32).toUInt32 &&& Int32.toUInt32 31)).toInt32) &&& 858993459)) + ((((((x - ((((x : Int32).toUInt32 >>> ((1 : Int32).toUInt32 &&& Int32.toUInt32 31)).toInt32) &&& 1431655765)) &&& 858993459) + (((((x - ((((x : Int32).toUInt32 >>> ((1 : Int32).toUInt32 &&& Int32.toUInt32 31)).toInt32) &&& 1431655765)) : Int32).toUInt32 >>> ((2 : Int32).toUInt32 &&& Int32.toUInt32 31)).toInt32) &&& 858993459)) : Int32).toUInt32 >>> ((4 : Int32).toUInt32 &&& Int32.toUInt32 31)).toInt32)) &&& 252645135) : Int32).toUInt32 >>> ((8 : Int32).toUInt32 &&& Int32.toUInt32 31)).toInt32)) + (((((((((x - ((((x : Int32).toUInt32 >>> ((1 : Int32).toUInt32 &&& Int32.toUInt32 31)).toInt32) &&& 1431655765)) &&& 858993459) + (((((x - ((((x : Int32).toUInt32 >>> ((1 : Int32).toUInt32 &&& Int32.toUInt32 31)).toInt32) &&& 1431655765)) : Int32).toUInt32 >>> ((2 : Int32).toUInt32 &&& Int32.toUInt32 31)).toInt32) &&& 858993459)) + ((((((x - ((((x : Int32).toUInt32 >>> ((1 : Int32).toUInt32 &&& Int32.toUInt32 31)).toInt32) &&& 1431655765)) &&& 858993459) + (((((x - ((((x : Int32).toUInt32 >>> ((1 : Int32).toUInt32 &&& Int32.toUInt32 31)).toInt32) &&& 1431655765)) : Int32).toUInt32 >>> ((2 : Int32).toUInt32 &&& Int32.toUInt32 31)).toInt32) &&& 858993459)) : Int32).toUInt32 >>> ((4 : Int32).toUInt32 &&& Int32.toUInt32 31)).toInt32)) &&& 252645135) + ((((((((x - ((((x : Int32).toUInt32 >>> ((1 : Int32).toUInt32 &&& Int32.toUInt32 31)).toInt32) &&& 1431655765)) &&& 858993459) + (((((x - ((((x : Int32).toUInt32 >>> ((1 : Int32).toUInt32 &&& Int32.toUInt32 31)).toInt32) &&& 1431655765)) : Int32).toUInt32 >>> ((2 : Int32).toUInt32 &&& Int32.toUInt32 31)).toInt32) &&& 858993459)) + ((((((x - ((((x : Int32).toUInt32 >>> ((1 : Int32).toUInt32 &&& Int32.toUInt32 31)).toInt32) &&& 1431655765)) &&& 858993459) + (((((x - ((((x : Int32).toUInt32 >>> ((1 : Int32).toUInt32 &&& Int32.toUInt32 31)).toInt32) &&& 1431655765)) : Int32).toUInt32 >>> ((2 : Int32).toUInt32 &&& Int32.toUInt32 31)).toInt32) &&& 858993459)) : Int32).toUInt32 >>> ((4 : Int32).toUInt32 &&& Int32.toUInt32 31)).toInt32)) &&& 252645135) : Int32).toUInt32 >>> ((8 : Int32).toUInt32 &&& Int32.toUInt32 31)).toInt32)) : Int32).toUInt32 >>> ((16 : Int32).toUInt32 &&& Int32.toUInt32 31)).toInt32)))]) hx hb dJ6_bitCount_0f7a4_47 rfl hl (by decide) rfl (fun ls hl => ?_)
  refine lv_iload_n hx hb dJ6_bitCount_0f7a4_48 rfl (lv_at hl 0 rfl) ?_
  refine lv_bipush (v := 63) hx hb dJ6_bitCount_0f7a4_49 (by decide) ?_
  refine lv_iand hx hb dJ6_bitCount_0f7a4_51 ?_
  exact q_iret hb hx hr hlocks (by rfl) dJ6_bitCount_0f7a4_52
set_option maxRecDepth 20000 in
theorem fX7_placeOf_14 : FL wsX7_placeOf RX7 14 7 1 := ⟨RX7, TX7, 3, rfl, by decide +kernel, by decide, by decide +kernel⟩
set_option maxHeartbeats 4000000 in
set_option maxRecDepth 100000 in
theorem c_X7_placeOf (l : Launch) (D : va_G) (cB cI cJ : ClassId) (ad : Nat → Nat) (n : Nat) (M : Nat → va_E) (g h : Nat) (op : Int32) (plf : Nat → Int32) (x : Int32) (h_g : g < n) (h_g_1 : g + 1 < n) (h_g_2 : g + 2 < n) (m_g : M g = .inr (7, standF ad g h op)) (m_g_1 : M (g + 1) = .inr (8, [.int 1, .ref (ad (g + 2))])) (m_g_2 : M (g + 2) = .inl (cI, 12, .inl plf))  : cR l D cB cI cJ ad n M yX7_placeOf wsX7_placeOf 1 21 [.ref (ad g), .int x] (tat 12 plf x) := by
  refine q_body (cc := cX7_placeOf) (maxL := 2) (ret := (some .int)) (by decide) rfl (Nat.le_of_ble_eq_true rfl) ?_
  intro p e s m args below meth c ls X hr hlocks hK hP hl
  obtain ⟨hx, hb, hml, hown, hts⟩ := id X
  have hS : va_S (ipA ad n) s.heap s.heap [] := va_S.rf
  have hl : lv_has ls 2 [(0, .ref (ad g)), (1, .int x)] := hl
  refine lv_aload_n hx hb dX7_placeOf_0 rfl (lv_at hl 0 rfl) ?_
  refine q_get (v := .ref (ad (g + 1))) (fs := standF ad g h op) X hK hP fX7_placeOf_14 h_g m_g rfl dX7_placeOf_1 ?_
  refine lv_iload_n hx hb dX7_placeOf_4 rfl (lv_at hl 1 rfl) ?_
  refine q_rdV (As := [.int x]) (rest := []) (c_X8_at l D cB cI cJ ad n M (g + 1) (g + 2) 12 1 plf x h_g_1 h_g_2 m_g_1 m_g_2 (by decide)) X hK hP hS hl.1 rfl gX7_placeOf_X8_at yd_X8_at ⟨Nat.le_of_ble_eq_true rfl, Nat.le_of_ble_eq_true rfl⟩ h_g_1 m_g_1 (ci := 8) rfl rfl (Nat.le_of_ble_eq_true rfl) ⟨Nat.zero_le _, Nat.zero_le _⟩ dX7_placeOf_5 ?_
  exact q_iret hb hx hr hlocks (by rfl) dX7_placeOf_8
set_option maxRecDepth 20000 in
theorem fX7_thingsAt_20 : FL wsX7_thingsAt RX7 20 7 0 := ⟨RX7, TX7, 3, rfl, by decide +kernel, by decide, by decide +kernel⟩
set_option maxRecDepth 20000 in
theorem fX7_thingsAt_28 : FL wsX7_thingsAt RX7 28 0 7 := ⟨RX0, TX0, 12, rfl, by decide +kernel, by decide, by decide +kernel⟩
set_option maxRecDepth 20000 in
theorem fX7_thingsAt_14 : FL wsX7_thingsAt RX7 14 7 1 := ⟨RX7, TX7, 3, rfl, by decide +kernel, by decide, by decide +kernel⟩
set_option maxHeartbeats 4000000 in
set_option maxRecDepth 100000 in
theorem c_X7_thingsAt (l : Launch) (D : va_G) (cB cI cJ : ClassId) (ad : Nat → Nat) (n : Nat) (M : Nat → va_E) (g h nt : Nat) (op : Int32) (hv plf : Nat → Int32) (x : Int32) (h_g : g < n) (h_g_1 : g + 1 < n) (h_g_2 : g + 2 < n) (h_h : h < n) (m_g : M g = .inr (7, standF ad g h op)) (m_g_1 : M (g + 1) = .inr (8, [.int 1, .ref (ad (g + 2))])) (m_g_2 : M (g + 2) = .inl (cI, 12, .inl plf)) (m_h : M h = .inr (0, hallF ad h hv)) (h7 : hv 7 = nI nt) (hnt : nt ≤ 12) : cR l D cB cI cJ ad n M yX7_thingsAt wsX7_thingsAt 1 21 [.ref (ad g), .int x] (taS plf x nt) := by
  refine q_body (cc := cX7_thingsAt) (maxL := 4) (ret := (some .int)) (by decide) rfl (Nat.le_of_ble_eq_true rfl) ?_
  intro p e s m args below meth c ls X hr hlocks hK hP hl
  obtain ⟨hx, hb, hml, hown, hts⟩ := id X
  have hS : va_S (ipA ad n) s.heap s.heap [] := va_S.rf
  have hl : lv_has ls 4 [(0, .ref (ad g)), (1, .int x)] := hl
  refine lv_iconst (v := 0) hx hb dX7_thingsAt_0 (by decide) ?_
  refine lv_istore_n (lv' := [(2, .int 0), (0, .ref (ad g)), (1, .int x)]) hx hb dX7_thingsAt_1 rfl hl (by decide) rfl (fun ls hl => ?_)
  refine lv_iconst (v := 0) hx hb dX7_thingsAt_2 (by decide) ?_
  refine lv_istore_n (lv' := [(3, .int 0), (2, .int 0), (0, .ref (ad g)), (1, .int x)]) hx hb dX7_thingsAt_3 rfl hl (by decide) rfl (fun ls hl => ?_)
  have loop_4 : ∀ (fuel : Nat) (t : Nat) (x2 : Int32) (x3 : Int32), nt - t < fuel → (t ≤ nt) → x2 = taS plf x t → x3 = nI t → ∀ (ls : Array Slot), lv_has ls 4 [(0, .ref (ad g)), (1, .int x), (2, .int x2), (3, .int x3)] → W p l e (rmOf 1 21) s m args below meth c s.heap [] 0 0 (MQ below (vp_Si (fun r9 => r9 = taS plf x nt)) args s 0 0 (fun _ => False)) (F0 m 4 ls []) := by
    intro fuel
    induction fuel with
    | zero =>
      intro t x2 x3 hz
      exact absurd hz (Nat.not_lt_zero _)
    | succ fuel ih_4 =>
      intro t x2 x3 hz_4 h_t e2 e3 ls hl
      subst e2
      subst e3
      skip
      refine lv_iload_n hx hb dX7_thingsAt_4 rfl (lv_at hl 3 rfl) ?_
      refine lv_aload_n hx hb dX7_thingsAt_5 rfl (lv_at hl 0 rfl) ?_
      refine q_get (v := .ref (ad h)) (fs := standF ad g h op) X hK hP fX7_thingsAt_20 h_g m_g rfl dX7_thingsAt_6 ?_
      refine q_get (v := .int (hv 7)) (fs := hallF ad h hv) X hK hP fX7_thingsAt_28 h_h m_h rfl dX7_thingsAt_9 ?_
      refine lv_icmp_ge (tgt := 39) hx hb dX7_thingsAt_12 (by decide) (fun c_12 => ?_) (fun c_12 => ?_)
      · skip
        refine lv_iload_n hx hb dX7_thingsAt_39 rfl (lv_at hl 2 rfl) ?_
        exact q_iret hb hx hr hlocks (by rw [h7] at c_12; have h9 : t = nt := eq_of_le c_12 (by omega) h_t; rw [h9]) dX7_thingsAt_40
      · skip
        refine lv_aload_n hx hb dX7_thingsAt_15 rfl (lv_at hl 0 rfl) ?_
        refine q_get (v := .ref (ad (g + 1))) (fs := standF ad g h op) X hK hP fX7_thingsAt_14 h_g m_g rfl dX7_thingsAt_16 ?_
        refine lv_iload_n hx hb dX7_thingsAt_19 rfl (lv_at hl 3 rfl) ?_
        refine q_rdV (As := [.int (nI t)]) (rest := []) (c_X8_at l D cB cI cJ ad n M (g + 1) (g + 2) 12 1 plf (nI t) h_g_1 h_g_2 m_g_1 m_g_2 (by decide)) X hK hP hS hl.1 rfl gX7_thingsAt_X8_at yd_X8_at ⟨Nat.le_of_ble_eq_true rfl, Nat.le_of_ble_eq_true rfl⟩ h_g_1 m_g_1 (ci := 8) rfl rfl (Nat.le_of_ble_eq_true rfl) ⟨Nat.zero_le _, Nat.zero_le _⟩ dX7_thingsAt_20 ?_
        refine lv_iload_n hx hb dX7_thingsAt_23 rfl (lv_at hl 1 rfl) ?_
        refine lv_icmp_ne (tgt := 33) hx hb dX7_thingsAt_24 (by decide) (fun c_24 => ?_) (fun c_24 => ?_)
        · skip
          refine lv_iinc (v := ((nI t) + 1)) (lv' := [(3, .int ((nI t) + 1)), (0, .ref (ad g)), (1, .int x), (2, .int (taS plf x t))]) hx hb dX7_thingsAt_33 hl (k := 3) rfl rfl (by decide) rfl (fun ls hl => ?_)
          refine lv_goto (tgt := 4) hx hb dX7_thingsAt_36 (by decide) ?_
          exact ih_4 (t + 1) (taS plf x t) ((nI t) + 1) (by rw [h7] at c_12; have h9_ := lt_of_nlt c_12 (by omega) h_t; omega) (by rw [h7] at c_12; have h9_ := lt_of_nlt c_12 (by omega) h_t; omega) (by first | rw [taS, if_pos c_24] | rw [taS, if_neg c_24]) (by first | rfl | exact nI_0.symm | exact nI_1 _) ls (lv_sub hl [1, 2, 3, 0] rfl)
        · skip
          refine lv_iload_n hx hb dX7_thingsAt_27 rfl (lv_at hl 2 rfl) ?_
          refine lv_iconst (v := 1) hx hb dX7_thingsAt_28 (by decide) ?_
          refine lv_iload_n hx hb dX7_thingsAt_29 rfl (lv_at hl 3 rfl) ?_
          refine lv_ishl hx hb dX7_thingsAt_30 ?_
          refine lv_ior hx hb dX7_thingsAt_31 ?_
          refine lv_istore_n (lv' := [(2, .int ((taS plf x t) ||| (1 <<< ((nI t) &&& 31)))), (0, .ref (ad g)), (1, .int x), (3, .int (nI t))]) hx hb dX7_thingsAt_32 rfl hl (by decide) rfl (fun ls hl => ?_)
          refine lv_iinc (v := ((nI t) + 1)) (lv' := [(3, .int ((nI t) + 1)), (2, .int ((taS plf x t) ||| (1 <<< ((nI t) &&& 31)))), (0, .ref (ad g)), (1, .int x)]) hx hb dX7_thingsAt_33 hl (k := 3) rfl rfl (by decide) rfl (fun ls hl => ?_)
          refine lv_goto (tgt := 4) hx hb dX7_thingsAt_36 (by decide) ?_
          exact ih_4 (t + 1) ((taS plf x t) ||| (1 <<< ((nI t) &&& 31))) ((nI t) + 1) (by rw [h7] at c_12; have h9_ := lt_of_nlt c_12 (by omega) h_t; omega) (by rw [h7] at c_12; have h9_ := lt_of_nlt c_12 (by omega) h_t; omega) (by first | rw [taS, if_pos c_24] | rw [taS, if_neg c_24]) (by first | rfl | exact nI_0.symm | exact nI_1 _) ls (lv_sub hl [2, 3, 1, 0] rfl)
  exact loop_4 (nt + 1) 0 0 0 (by omega) (by omega) (by first | rfl | exact nI_0.symm | exact nI_1 _) (by first | rfl | exact nI_0.symm | exact nI_1 _) ls (lv_sub hl [2, 3, 1, 0] rfl)
set_option maxRecDepth 20000 in
theorem fX7_weightIn_20 : FL wsX7_weightIn RX7 20 7 0 := ⟨RX7, TX7, 3, rfl, by decide +kernel, by decide, by decide +kernel⟩
theorem yd_X7_thingsAt : YD yX7_thingsAt 1 := ⟨by decide +kernel, by decide +kernel, by decide +kernel⟩
def wiS (nt : Nat) (tf : Nat → Int32) (plf : Nat → Int32) (x : Int32) : Int32 := (smS tf (taS plf x nt) 1 nt)
set_option maxHeartbeats 4000000 in
set_option maxRecDepth 100000 in
theorem c_X7_weightIn (l : Launch) (D : va_G) (cB cI cJ : ClassId) (ad : Nat → Nat) (n : Nat) (M : Nat → va_E) (g h nt : Nat) (op : Int32) (hv tf plf : Nat → Int32) (x : Int32) (h_g : g < n) (h_g_1 : g + 1 < n) (h_g_2 : g + 2 < n) (h_h : h < n) (h_h_5 : h + 5 < n) (h_h_6 : h + 6 < n) (m_g : M g = .inr (7, standF ad g h op)) (m_g_1 : M (g + 1) = .inr (8, [.int 1, .ref (ad (g + 2))])) (m_g_2 : M (g + 2) = .inl (cI, 12, .inl plf)) (m_h : M h = .inr (0, hallF ad h hv)) (m_h_5 : M (h + 5) = .inr (8, [.int 7, .ref (ad (h + 6))])) (m_h_6 : M (h + 6) = .inl (cI, 84, .inl tf)) (h7 : hv 7 = nI nt) (hnt : nt ≤ 12) : cR l D cB cI cJ ad n M yX7_weightIn wsX7_weightIn 2 47 [.ref (ad g), .int x] (wiS nt tf plf x) := by
  refine q_body (cc := cX7_weightIn) (maxL := 2) (ret := (some .int)) (by decide) rfl (Nat.le_of_ble_eq_true rfl) ?_
  intro p e s m args below meth c ls X hr hlocks hK hP hl
  obtain ⟨hx, hb, hml, hown, hts⟩ := id X
  have hS : va_S (ipA ad n) s.heap s.heap [] := va_S.rf
  have hl : lv_has ls 2 [(0, .ref (ad g)), (1, .int x)] := hl
  refine lv_aload_n hx hb dX7_weightIn_0 rfl (lv_at hl 0 rfl) ?_
  refine q_get (v := .ref (ad h)) (fs := standF ad g h op) X hK hP fX7_weightIn_20 h_g m_g rfl dX7_weightIn_1 ?_
  refine lv_aload_n hx hb dX7_weightIn_4 rfl (lv_at hl 0 rfl) ?_
  refine lv_iload_n hx hb dX7_weightIn_5 rfl (lv_at hl 1 rfl) ?_
  refine q_rdV (As := [.int x]) (rest := [.ref (ad h)]) (c_X7_thingsAt l D cB cI cJ ad n M g h nt op hv plf x h_g h_g_1 h_g_2 h_h m_g m_g_1 m_g_2 m_h h7 hnt) X hK hP hS hl.1 rfl gX7_weightIn_X7_thingsAt yd_X7_thingsAt ⟨Nat.le_of_ble_eq_true rfl, Nat.le_of_ble_eq_true rfl⟩ h_g m_g (ci := 7) rfl rfl (Nat.le_of_ble_eq_true rfl) ⟨Nat.zero_le _, Nat.zero_le _⟩ dX7_weightIn_6 ?_
  refine lv_iconst (v := 1) hx hb dX7_weightIn_9 (by decide) ?_
  refine q_rdV (As := [.int (taS plf x nt), .int 1]) (rest := []) (c_X0_sumOf l D cB cI cJ ad n M h nt hv tf (taS plf x nt) 1 h_h h_h_5 h_h_6 m_h m_h_5 m_h_6 h7 hnt) X hK hP hS hl.1 rfl gX7_weightIn_X0_sumOf yd_X0_sumOf ⟨Nat.le_of_ble_eq_true rfl, Nat.le_of_ble_eq_true rfl⟩ h_h m_h (ci := 0) rfl rfl (Nat.le_of_ble_eq_true rfl) ⟨Nat.zero_le _, Nat.zero_le _⟩ dX7_weightIn_10 ?_
  exact q_iret hb hx hr hlocks (by rfl) dX7_weightIn_13
set_option maxRecDepth 20000 in
theorem fX7_sizesIn_20 : FL wsX7_sizesIn RX7 20 7 0 := ⟨RX7, TX7, 3, rfl, by decide +kernel, by decide, by decide +kernel⟩
def siS (nt : Nat) (tf : Nat → Int32) (plf : Nat → Int32) (x : Int32) : Int32 := (smS tf (taS plf x nt) 3 nt)
set_option maxHeartbeats 4000000 in
set_option maxRecDepth 100000 in
theorem c_X7_sizesIn (l : Launch) (D : va_G) (cB cI cJ : ClassId) (ad : Nat → Nat) (n : Nat) (M : Nat → va_E) (g h nt : Nat) (op : Int32) (hv tf plf : Nat → Int32) (x : Int32) (h_g : g < n) (h_g_1 : g + 1 < n) (h_g_2 : g + 2 < n) (h_h : h < n) (h_h_5 : h + 5 < n) (h_h_6 : h + 6 < n) (m_g : M g = .inr (7, standF ad g h op)) (m_g_1 : M (g + 1) = .inr (8, [.int 1, .ref (ad (g + 2))])) (m_g_2 : M (g + 2) = .inl (cI, 12, .inl plf)) (m_h : M h = .inr (0, hallF ad h hv)) (m_h_5 : M (h + 5) = .inr (8, [.int 7, .ref (ad (h + 6))])) (m_h_6 : M (h + 6) = .inl (cI, 84, .inl tf)) (h7 : hv 7 = nI nt) (hnt : nt ≤ 12) : cR l D cB cI cJ ad n M yX7_sizesIn wsX7_sizesIn 2 47 [.ref (ad g), .int x] (siS nt tf plf x) := by
  refine q_body (cc := cX7_sizesIn) (maxL := 2) (ret := (some .int)) (by decide) rfl (Nat.le_of_ble_eq_true rfl) ?_
  intro p e s m args below meth c ls X hr hlocks hK hP hl
  obtain ⟨hx, hb, hml, hown, hts⟩ := id X
  have hS : va_S (ipA ad n) s.heap s.heap [] := va_S.rf
  have hl : lv_has ls 2 [(0, .ref (ad g)), (1, .int x)] := hl
  refine lv_aload_n hx hb dX7_sizesIn_0 rfl (lv_at hl 0 rfl) ?_
  refine q_get (v := .ref (ad h)) (fs := standF ad g h op) X hK hP fX7_sizesIn_20 h_g m_g rfl dX7_sizesIn_1 ?_
  refine lv_aload_n hx hb dX7_sizesIn_4 rfl (lv_at hl 0 rfl) ?_
  refine lv_iload_n hx hb dX7_sizesIn_5 rfl (lv_at hl 1 rfl) ?_
  refine q_rdV (As := [.int x]) (rest := [.ref (ad h)]) (c_X7_thingsAt l D cB cI cJ ad n M g h nt op hv plf x h_g h_g_1 h_g_2 h_h m_g m_g_1 m_g_2 m_h h7 hnt) X hK hP hS hl.1 rfl gX7_sizesIn_X7_thingsAt yd_X7_thingsAt ⟨Nat.le_of_ble_eq_true rfl, Nat.le_of_ble_eq_true rfl⟩ h_g m_g (ci := 7) rfl rfl (Nat.le_of_ble_eq_true rfl) ⟨Nat.zero_le _, Nat.zero_le _⟩ dX7_sizesIn_6 ?_
  refine lv_iconst (v := 3) hx hb dX7_sizesIn_9 (by decide) ?_
  refine q_rdV (As := [.int (taS plf x nt), .int 3]) (rest := []) (c_X0_sumOf l D cB cI cJ ad n M h nt hv tf (taS plf x nt) 3 h_h h_h_5 h_h_6 m_h m_h_5 m_h_6 h7 hnt) X hK hP hS hl.1 rfl gX7_sizesIn_X0_sumOf yd_X0_sumOf ⟨Nat.le_of_ble_eq_true rfl, Nat.le_of_ble_eq_true rfl⟩ h_h m_h (ci := 0) rfl rfl (Nat.le_of_ble_eq_true rfl) ⟨Nat.zero_le _, Nat.zero_le _⟩ dX7_sizesIn_10 ?_
  exact q_iret hb hx hr hlocks (by rfl) dX7_sizesIn_13
theorem yd_X7_weightIn : YD yX7_weightIn 1 := ⟨by decide +kernel, by decide +kernel, by decide +kernel⟩
set_option maxRecDepth 20000 in
theorem fX7_overIn_20 : FL wsX7_overIn RX7 20 7 0 := ⟨RX7, TX7, 3, rfl, by decide +kernel, by decide, by decide +kernel⟩
set_option maxRecDepth 20000 in
theorem fX7_overIn_59 : FL wsX7_overIn RX7 59 0 1 := ⟨RX0, TX0, 12, rfl, by decide +kernel, by decide, by decide +kernel⟩
def ovS (nt : Nat) (cf : Nat → Int32) (tf : Nat → Int32) (plf : Nat → Int32) (x : Int32) : Int32 := (imax 0 ((wiS nt tf plf x) - (tat 25 cf (x * 5 + 1))))
set_option maxHeartbeats 4000000 in
set_option maxRecDepth 100000 in
theorem c_X7_overIn (l : Launch) (D : va_G) (cB cI cJ : ClassId) (ad : Nat → Nat) (n : Nat) (M : Nat → va_E) (g h nt : Nat) (op : Int32) (hv cf tf plf : Nat → Int32) (x : Int32) (h_g : g < n) (h_g_1 : g + 1 < n) (h_g_2 : g + 2 < n) (h_h : h < n) (h_h_5 : h + 5 < n) (h_h_6 : h + 6 < n) (h_h_3 : h + 3 < n) (h_h_4 : h + 4 < n) (m_g : M g = .inr (7, standF ad g h op)) (m_g_1 : M (g + 1) = .inr (8, [.int 1, .ref (ad (g + 2))])) (m_g_2 : M (g + 2) = .inl (cI, 12, .inl plf)) (m_h : M h = .inr (0, hallF ad h hv)) (m_h_5 : M (h + 5) = .inr (8, [.int 7, .ref (ad (h + 6))])) (m_h_6 : M (h + 6) = .inl (cI, 84, .inl tf)) (m_h_3 : M (h + 3) = .inr (8, [.int 5, .ref (ad (h + 4))])) (m_h_4 : M (h + 4) = .inl (cI, 25, .inl cf)) (h7 : hv 7 = nI nt) (hnt : nt ≤ 12) : cR l D cB cI cJ ad n M yX7_overIn wsX7_overIn 3 68 [.ref (ad g), .int x] (ovS nt cf tf plf x) := by
  refine q_body (cc := cX7_overIn) (maxL := 2) (ret := (some .int)) (by decide) rfl (Nat.le_of_ble_eq_true rfl) ?_
  intro p e s m args below meth c ls X hr hlocks hK hP hl
  obtain ⟨hx, hb, hml, hown, hts⟩ := id X
  have hS : va_S (ipA ad n) s.heap s.heap [] := va_S.rf
  have hl : lv_has ls 2 [(0, .ref (ad g)), (1, .int x)] := hl
  refine lv_iconst (v := 0) hx hb dX7_overIn_0 (by decide) ?_
  refine lv_aload_n hx hb dX7_overIn_1 rfl (lv_at hl 0 rfl) ?_
  refine lv_iload_n hx hb dX7_overIn_2 rfl (lv_at hl 1 rfl) ?_
  refine q_rdV (As := [.int x]) (rest := [.int 0]) (c_X7_weightIn l D cB cI cJ ad n M g h nt op hv tf plf x h_g h_g_1 h_g_2 h_h h_h_5 h_h_6 m_g m_g_1 m_g_2 m_h m_h_5 m_h_6 h7 hnt) X hK hP hS hl.1 rfl gX7_overIn_X7_weightIn yd_X7_weightIn ⟨Nat.le_of_ble_eq_true rfl, Nat.le_of_ble_eq_true rfl⟩ h_g m_g (ci := 7) rfl rfl (Nat.le_of_ble_eq_true rfl) ⟨Nat.zero_le _, Nat.zero_le _⟩ dX7_overIn_3 ?_
  refine lv_aload_n hx hb dX7_overIn_6 rfl (lv_at hl 0 rfl) ?_
  refine q_get (v := .ref (ad h)) (fs := standF ad g h op) X hK hP fX7_overIn_20 h_g m_g rfl dX7_overIn_7 ?_
  refine q_get (v := .ref (ad (h + 3))) (fs := hallF ad h hv) X hK hP fX7_overIn_59 h_h m_h rfl dX7_overIn_10 ?_
  refine lv_iload_n hx hb dX7_overIn_13 rfl (lv_at hl 1 rfl) ?_
  refine lv_iconst (v := 1) hx hb dX7_overIn_14 (by decide) ?_
  refine q_rdV (As := [.int x, .int 1]) (rest := [.int (wiS nt tf plf x), .int 0]) (c_X8_at_ l D cB cI cJ ad n M (h + 3) (h + 4) 25 5 cf x 1 h_h_3 h_h_4 m_h_3 m_h_4 (by decide)) X hK hP hS hl.1 rfl gX7_overIn_X8_at_ yd_X8_at_ ⟨Nat.le_of_ble_eq_true rfl, Nat.le_of_ble_eq_true rfl⟩ h_h_3 m_h_3 (ci := 8) rfl rfl (Nat.le_of_ble_eq_true rfl) ⟨Nat.zero_le _, Nat.zero_le _⟩ dX7_overIn_15 ?_
  refine lv_isub hx hb dX7_overIn_18 ?_
  refine q_max X hl.1 (by decide +kernel) (by decide +kernel) (by decide +kernel) (by decide +kernel) ⟨Nat.le_of_ble_eq_true rfl, Nat.le_of_ble_eq_true rfl⟩ (Nat.le_of_ble_eq_true rfl) ⟨Nat.zero_le _, Nat.zero_le _⟩ dX7_overIn_19 ?_
  exact q_iret hb hx hr hlocks (by rfl) dX7_overIn_22
set_option maxRecDepth 20000 in
theorem fX7_leastOver_20 : FL wsX7_leastOver RX7 20 7 0 := ⟨RX7, TX7, 3, rfl, by decide +kernel, by decide, by decide +kernel⟩
set_option maxRecDepth 20000 in
theorem fX7_leastOver_85 : FL wsX7_leastOver RX7 85 0 6 := ⟨RX0, TX0, 12, rfl, by decide +kernel, by decide, by decide +kernel⟩
theorem yd_X7_overIn : YD yX7_overIn 1 := ⟨by decide +kernel, by decide +kernel, by decide +kernel⟩
set_option maxHeartbeats 4000000 in
set_option maxRecDepth 100000 in
theorem c_X7_leastOver (l : Launch) (D : va_G) (cB cI cJ : ClassId) (ad : Nat → Nat) (n : Nat) (M : Nat → va_E) (g h nt nc : Nat) (op : Int32) (hv cf tf plf : Nat → Int32) (h_g : g < n) (h_g_1 : g + 1 < n) (h_g_2 : g + 2 < n) (h_h : h < n) (h_h_5 : h + 5 < n) (h_h_6 : h + 6 < n) (h_h_3 : h + 3 < n) (h_h_4 : h + 4 < n) (m_g : M g = .inr (7, standF ad g h op)) (m_g_1 : M (g + 1) = .inr (8, [.int 1, .ref (ad (g + 2))])) (m_g_2 : M (g + 2) = .inl (cI, 12, .inl plf)) (m_h : M h = .inr (0, hallF ad h hv)) (m_h_5 : M (h + 5) = .inr (8, [.int 7, .ref (ad (h + 6))])) (m_h_6 : M (h + 6) = .inl (cI, 84, .inl tf)) (m_h_3 : M (h + 3) = .inr (8, [.int 5, .ref (ad (h + 4))])) (m_h_4 : M (h + 4) = .inl (cI, 25, .inl cf)) (h7 : hv 7 = nI nt) (hnt : nt ≤ 12) (h6 : hv 6 = nI nc) (hnc : nc ≤ 5) : cR l D cB cI cJ ad n M yX7_leastOver wsX7_leastOver 4 89 [.ref (ad g)] (loS (fun c => ovS nt cf tf plf (nI c)) nc 0) := by
  refine q_body (cc := cX7_leastOver) (maxL := 2) (ret := (some .int)) (by decide) rfl (Nat.le_of_ble_eq_true rfl) ?_
  intro p e s m args below meth c ls X hr hlocks hK hP hl
  obtain ⟨hx, hb, hml, hown, hts⟩ := id X
  have hS : va_S (ipA ad n) s.heap s.heap [] := va_S.rf
  have hl : lv_has ls 2 [(0, .ref (ad g))] := hl
  refine lv_iconst (v := 0) hx hb dX7_leastOver_0 (by decide) ?_
  refine lv_istore_n (lv' := [(1, .int 0), (0, .ref (ad g))]) hx hb dX7_leastOver_1 rfl hl (by decide) rfl (fun ls hl => ?_)
  have loop_2 : ∀ (fuel : Nat) (t : Nat) (x1 : Int32), nc - t < fuel → (t ≤ nc) → (loS (fun c => ovS nt cf tf plf (nI c)) (nc - t) t = loS (fun c => ovS nt cf tf plf (nI c)) nc 0) → x1 = nI t → ∀ (ls : Array Slot), lv_has ls 2 [(0, .ref (ad g)), (1, .int x1)] → W p l e (rmOf 4 89) s m args below meth c s.heap [] 0 0 (MQ below (vp_Si (fun r9 => r9 = loS (fun c => ovS nt cf tf plf (nI c)) nc 0)) args s 0 0 (fun _ => False)) (F0 m 2 ls []) := by
    intro fuel
    induction fuel with
    | zero =>
      intro t x1 hz
      exact absurd hz (Nat.not_lt_zero _)
    | succ fuel ih_2 =>
      intro t x1 hz_2 h_t hr9 e1 ls hl
      subst e1
      skip
      refine lv_iload_n hx hb dX7_leastOver_2 rfl (lv_at hl 1 rfl) ?_
      refine lv_aload_n hx hb dX7_leastOver_3 rfl (lv_at hl 0 rfl) ?_
      refine q_get (v := .ref (ad h)) (fs := standF ad g h op) X hK hP fX7_leastOver_20 h_g m_g rfl dX7_leastOver_4 ?_
      refine q_get (v := .int (hv 6)) (fs := hallF ad h hv) X hK hP fX7_leastOver_85 h_h m_h rfl dX7_leastOver_7 ?_
      refine lv_icmp_ge (tgt := 29) hx hb dX7_leastOver_10 (by decide) (fun c_10 => ?_) (fun c_10 => ?_)
      · skip
        refine lv_iconst (v := (-1)) hx hb dX7_leastOver_29 (by decide) ?_
        exact q_iret hb hx hr hlocks (by rw [h6] at c_10; have h9 : t = nc := eq_of_le c_10 (by omega) h_t; rw [← hr9, h9, Nat.sub_self]; try rfl) dX7_leastOver_30
      · skip
        refine lv_aload_n hx hb dX7_leastOver_13 rfl (lv_at hl 0 rfl) ?_
        refine lv_iload_n hx hb dX7_leastOver_14 rfl (lv_at hl 1 rfl) ?_
        refine q_rdV (As := [.int (nI t)]) (rest := []) (c_X7_overIn l D cB cI cJ ad n M g h nt op hv cf tf plf (nI t) h_g h_g_1 h_g_2 h_h h_h_5 h_h_6 h_h_3 h_h_4 m_g m_g_1 m_g_2 m_h m_h_5 m_h_6 m_h_3 m_h_4 h7 hnt) X hK hP hS hl.1 rfl gX7_leastOver_X7_overIn yd_X7_overIn ⟨Nat.le_of_ble_eq_true rfl, Nat.le_of_ble_eq_true rfl⟩ h_g m_g (ci := 7) rfl rfl (Nat.le_of_ble_eq_true rfl) ⟨Nat.zero_le _, Nat.zero_le _⟩ dX7_leastOver_15 ?_
        refine lv_if_le (tgt := 23) hx hb dX7_leastOver_18 (by decide) (fun c_18 => ?_) (fun c_18 => ?_)
        · skip
          refine lv_iinc (v := ((nI t) + 1)) (lv' := [(1, .int ((nI t) + 1)), (0, .ref (ad g))]) hx hb dX7_leastOver_23 hl (k := 1) rfl rfl (by decide) rfl (fun ls hl => ?_)
          refine lv_goto (tgt := 2) hx hb dX7_leastOver_26 (by decide) ?_
          exact ih_2 (t + 1) ((nI t) + 1) (by rw [h6] at c_10; have h9_ := lt_of_nlt c_10 (by omega) h_t; omega) (by rw [h6] at c_10; have h9_ := lt_of_nlt c_10 (by omega) h_t; omega) (by rw [h6] at c_10; have h9 : t < nc := lt_of_nlt c_10 (by omega) h_t; rw [← hr9, show nc - t = (nc - (t + 1)) + 1 by omega, loS, if_pos c_18]) (by first | rfl | exact nI_0.symm | exact nI_1 _) ls (lv_sub hl [1, 0] rfl)
        · skip
          refine lv_iload_n hx hb dX7_leastOver_21 rfl (lv_at hl 1 rfl) ?_
          exact q_iret hb hx hr hlocks (by rw [h6] at c_10; have h9 : t < nc := lt_of_nlt c_10 (by omega) h_t; rw [← hr9, show nc - t = (nc - (t + 1)) + 1 by omega, loS, if_neg c_18]) dX7_leastOver_22
  exact loop_2 (nc + 1) 0 0 (by omega) (by omega) (by rfl) (by first | rfl | exact nI_0.symm | exact nI_1 _) ls (lv_sub hl [1, 0] rfl)
set_option maxRecDepth 20000 in
theorem fX7_heatOn_20 : FL wsX7_heatOn RX7 20 7 0 := ⟨RX7, TX7, 3, rfl, by decide +kernel, by decide, by decide +kernel⟩
def heS (nt : Nat) (tf : Nat → Int32) (plf : Nat → Int32) (x : Int32) : Int32 := (smS tf (taS plf (10 + x) nt) 6 nt)
set_option maxHeartbeats 4000000 in
set_option maxRecDepth 100000 in
theorem c_X7_heatOn (l : Launch) (D : va_G) (cB cI cJ : ClassId) (ad : Nat → Nat) (n : Nat) (M : Nat → va_E) (g h nt : Nat) (op : Int32) (hv tf plf : Nat → Int32) (x : Int32) (h_g : g < n) (h_g_1 : g + 1 < n) (h_g_2 : g + 2 < n) (h_h : h < n) (h_h_5 : h + 5 < n) (h_h_6 : h + 6 < n) (m_g : M g = .inr (7, standF ad g h op)) (m_g_1 : M (g + 1) = .inr (8, [.int 1, .ref (ad (g + 2))])) (m_g_2 : M (g + 2) = .inl (cI, 12, .inl plf)) (m_h : M h = .inr (0, hallF ad h hv)) (m_h_5 : M (h + 5) = .inr (8, [.int 7, .ref (ad (h + 6))])) (m_h_6 : M (h + 6) = .inl (cI, 84, .inl tf)) (h7 : hv 7 = nI nt) (hnt : nt ≤ 12) : cR l D cB cI cJ ad n M yX7_heatOn wsX7_heatOn 2 47 [.ref (ad g), .int x] (heS nt tf plf x) := by
  refine q_body (cc := cX7_heatOn) (maxL := 2) (ret := (some .int)) (by decide) rfl (Nat.le_of_ble_eq_true rfl) ?_
  intro p e s m args below meth c ls X hr hlocks hK hP hl
  obtain ⟨hx, hb, hml, hown, hts⟩ := id X
  have hS : va_S (ipA ad n) s.heap s.heap [] := va_S.rf
  have hl : lv_has ls 2 [(0, .ref (ad g)), (1, .int x)] := hl
  refine lv_aload_n hx hb dX7_heatOn_0 rfl (lv_at hl 0 rfl) ?_
  refine q_get (v := .ref (ad h)) (fs := standF ad g h op) X hK hP fX7_heatOn_20 h_g m_g rfl dX7_heatOn_1 ?_
  refine lv_aload_n hx hb dX7_heatOn_4 rfl (lv_at hl 0 rfl) ?_
  refine lv_bipush (v := 10) hx hb dX7_heatOn_5 (by decide) ?_
  refine lv_iload_n hx hb dX7_heatOn_7 rfl (lv_at hl 1 rfl) ?_
  refine lv_iadd hx hb dX7_heatOn_8 ?_
  refine q_rdV (As := [.int (10 + x)]) (rest := [.ref (ad h)]) (c_X7_thingsAt l D cB cI cJ ad n M g h nt op hv plf (10 + x) h_g h_g_1 h_g_2 h_h m_g m_g_1 m_g_2 m_h h7 hnt) X hK hP hS hl.1 rfl gX7_heatOn_X7_thingsAt yd_X7_thingsAt ⟨Nat.le_of_ble_eq_true rfl, Nat.le_of_ble_eq_true rfl⟩ h_g m_g (ci := 7) rfl rfl (Nat.le_of_ble_eq_true rfl) ⟨Nat.zero_le _, Nat.zero_le _⟩ dX7_heatOn_9 ?_
  refine lv_bipush (v := 6) hx hb dX7_heatOn_12 (by decide) ?_
  refine q_rdV (As := [.int (taS plf (10 + x) nt), .int 6]) (rest := []) (c_X0_sumOf l D cB cI cJ ad n M h nt hv tf (taS plf (10 + x) nt) 6 h_h h_h_5 h_h_6 m_h m_h_5 m_h_6 h7 hnt) X hK hP hS hl.1 rfl gX7_heatOn_X0_sumOf yd_X0_sumOf ⟨Nat.le_of_ble_eq_true rfl, Nat.le_of_ble_eq_true rfl⟩ h_h m_h (ci := 0) rfl rfl (Nat.le_of_ble_eq_true rfl) ⟨Nat.zero_le _, Nat.zero_le _⟩ dX7_heatOn_14 ?_
  exact q_iret hb hx hr hlocks (by rfl) dX7_heatOn_17
set_option maxRecDepth 20000 in
theorem fX7_sizesOn_20 : FL wsX7_sizesOn RX7 20 7 0 := ⟨RX7, TX7, 3, rfl, by decide +kernel, by decide, by decide +kernel⟩
def soS (nt : Nat) (tf : Nat → Int32) (plf : Nat → Int32) (x : Int32) : Int32 := (smS tf ((taS plf (10 + x) nt) &&& ((okS tf 1 nt) ^^^ (-1))) 3 nt)
set_option maxHeartbeats 4000000 in
set_option maxRecDepth 100000 in
theorem c_X7_sizesOn (l : Launch) (D : va_G) (cB cI cJ : ClassId) (ad : Nat → Nat) (n : Nat) (M : Nat → va_E) (g h nt : Nat) (op : Int32) (hv tf plf : Nat → Int32) (x : Int32) (h_g : g < n) (h_g_1 : g + 1 < n) (h_g_2 : g + 2 < n) (h_h : h < n) (h_h_5 : h + 5 < n) (h_h_6 : h + 6 < n) (m_g : M g = .inr (7, standF ad g h op)) (m_g_1 : M (g + 1) = .inr (8, [.int 1, .ref (ad (g + 2))])) (m_g_2 : M (g + 2) = .inl (cI, 12, .inl plf)) (m_h : M h = .inr (0, hallF ad h hv)) (m_h_5 : M (h + 5) = .inr (8, [.int 7, .ref (ad (h + 6))])) (m_h_6 : M (h + 6) = .inl (cI, 84, .inl tf)) (h7 : hv 7 = nI nt) (hnt : nt ≤ 12) : cR l D cB cI cJ ad n M yX7_sizesOn wsX7_sizesOn 2 47 [.ref (ad g), .int x] (soS nt tf plf x) := by
  refine q_body (cc := cX7_sizesOn) (maxL := 2) (ret := (some .int)) (by decide) rfl (Nat.le_of_ble_eq_true rfl) ?_
  intro p e s m args below meth c ls X hr hlocks hK hP hl
  obtain ⟨hx, hb, hml, hown, hts⟩ := id X
  have hS : va_S (ipA ad n) s.heap s.heap [] := va_S.rf
  have hl : lv_has ls 2 [(0, .ref (ad g)), (1, .int x)] := hl
  refine lv_aload_n hx hb dX7_sizesOn_0 rfl (lv_at hl 0 rfl) ?_
  refine q_get (v := .ref (ad h)) (fs := standF ad g h op) X hK hP fX7_sizesOn_20 h_g m_g rfl dX7_sizesOn_1 ?_
  refine lv_aload_n hx hb dX7_sizesOn_4 rfl (lv_at hl 0 rfl) ?_
  refine lv_bipush (v := 10) hx hb dX7_sizesOn_5 (by decide) ?_
  refine lv_iload_n hx hb dX7_sizesOn_7 rfl (lv_at hl 1 rfl) ?_
  refine lv_iadd hx hb dX7_sizesOn_8 ?_
  refine q_rdV (As := [.int (10 + x)]) (rest := [.ref (ad h)]) (c_X7_thingsAt l D cB cI cJ ad n M g h nt op hv plf (10 + x) h_g h_g_1 h_g_2 h_h m_g m_g_1 m_g_2 m_h h7 hnt) X hK hP hS hl.1 rfl gX7_sizesOn_X7_thingsAt yd_X7_thingsAt ⟨Nat.le_of_ble_eq_true rfl, Nat.le_of_ble_eq_true rfl⟩ h_g m_g (ci := 7) rfl rfl (Nat.le_of_ble_eq_true rfl) ⟨Nat.zero_le _, Nat.zero_le _⟩ dX7_sizesOn_9 ?_
  refine lv_aload_n hx hb dX7_sizesOn_12 rfl (lv_at hl 0 rfl) ?_
  refine q_get (v := .ref (ad h)) (fs := standF ad g h op) X hK hP fX7_sizesOn_20 h_g m_g rfl dX7_sizesOn_13 ?_
  refine lv_iconst (v := 1) hx hb dX7_sizesOn_16 (by decide) ?_
  refine q_rdV (As := [.int 1]) (rest := [.int (taS plf (10 + x) nt), .ref (ad h)]) (c_X0_ofKind l D cB cI cJ ad n M h nt hv tf 1 h_h h_h_5 h_h_6 m_h m_h_5 m_h_6 h7 hnt) X hK hP hS hl.1 rfl gX7_sizesOn_X0_ofKind yd_X0_ofKind ⟨Nat.le_of_ble_eq_true rfl, Nat.le_of_ble_eq_true rfl⟩ h_h m_h (ci := 0) rfl rfl (Nat.le_of_ble_eq_true rfl) ⟨Nat.zero_le _, Nat.zero_le _⟩ dX7_sizesOn_17 ?_
  refine lv_iconst (v := (-1)) hx hb dX7_sizesOn_20 (by decide) ?_
  refine lv_ixor hx hb dX7_sizesOn_21 ?_
  refine lv_iand hx hb dX7_sizesOn_22 ?_
  refine lv_iconst (v := 3) hx hb dX7_sizesOn_23 (by decide) ?_
  refine q_rdV (As := [.int ((taS plf (10 + x) nt) &&& ((okS tf 1 nt) ^^^ (-1))), .int 3]) (rest := []) (c_X0_sumOf l D cB cI cJ ad n M h nt hv tf ((taS plf (10 + x) nt) &&& ((okS tf 1 nt) ^^^ (-1))) 3 h_h h_h_5 h_h_6 m_h m_h_5 m_h_6 h7 hnt) X hK hP hS hl.1 rfl gX7_sizesOn_X0_sumOf yd_X0_sumOf ⟨Nat.le_of_ble_eq_true rfl, Nat.le_of_ble_eq_true rfl⟩ h_h m_h (ci := 0) rfl rfl (Nat.le_of_ble_eq_true rfl) ⟨Nat.zero_le _, Nat.zero_le _⟩ dX7_sizesOn_24 ?_
  exact q_iret hb hx hr hlocks (by rfl) dX7_sizesOn_27
set_option maxRecDepth 20000 in
theorem fX7_hasShirt_20 : FL wsX7_hasShirt RX7 20 7 0 := ⟨RX7, TX7, 3, rfl, by decide +kernel, by decide, by decide +kernel⟩
set_option maxRecDepth 20000 in
theorem fX7_hasShirt_85 : FL wsX7_hasShirt RX7 85 0 6 := ⟨RX0, TX0, 12, rfl, by decide +kernel, by decide, by decide +kernel⟩
theorem yd_X0_hasKind : YD yX0_hasKind 2 := ⟨by decide +kernel, by decide +kernel, by decide +kernel⟩
set_option maxRecDepth 20000 in
theorem fX7_hasShirt_59 : FL wsX7_hasShirt RX7 59 0 1 := ⟨RX0, TX0, 12, rfl, by decide +kernel, by decide, by decide +kernel⟩
set_option maxHeartbeats 4000000 in
set_option maxRecDepth 100000 in
theorem c_X7_hasShirt (l : Launch) (D : va_G) (cB cI cJ : ClassId) (ad : Nat → Nat) (n : Nat) (M : Nat → va_E) (g h nt nc : Nat) (op : Int32) (hv cf tf plf : Nat → Int32) (x lost : Int32) (h_g : g < n) (h_g_1 : g + 1 < n) (h_g_2 : g + 2 < n) (h_h : h < n) (h_h_5 : h + 5 < n) (h_h_6 : h + 6 < n) (h_h_3 : h + 3 < n) (h_h_4 : h + 4 < n) (m_g : M g = .inr (7, standF ad g h op)) (m_g_1 : M (g + 1) = .inr (8, [.int 1, .ref (ad (g + 2))])) (m_g_2 : M (g + 2) = .inl (cI, 12, .inl plf)) (m_h : M h = .inr (0, hallF ad h hv)) (m_h_5 : M (h + 5) = .inr (8, [.int 7, .ref (ad (h + 6))])) (m_h_6 : M (h + 6) = .inl (cI, 84, .inl tf)) (m_h_3 : M (h + 3) = .inr (8, [.int 5, .ref (ad (h + 4))])) (m_h_4 : M (h + 4) = .inl (cI, 25, .inl cf)) (h7 : hv 7 = nI nt) (hnt : nt ≤ 12) (h6 : hv 6 = nI nc) (hnc : nc ≤ 5) : cR l D cB cI cJ ad n M yX7_hasShirt wsX7_hasShirt 3 68 [.ref (ad g), .int x, .int lost] (hkS nt tf (hsS nt cf plf x lost nc) 5) := by
  refine q_body (cc := cX7_hasShirt) (maxL := 5) (ret := (some .boolean)) (by decide) rfl (Nat.le_of_ble_eq_true rfl) ?_
  intro p e s m args below meth c ls X hr hlocks hK hP hl
  obtain ⟨hx, hb, hml, hown, hts⟩ := id X
  have hS : va_S (ipA ad n) s.heap s.heap [] := va_S.rf
  have hl : lv_has ls 5 [(0, .ref (ad g)), (1, .int x), (2, .int lost)] := hl
  refine lv_aload_n hx hb dX7_hasShirt_0 rfl (lv_at hl 0 rfl) ?_
  refine lv_bipush (v := 10) hx hb dX7_hasShirt_1 (by decide) ?_
  refine lv_iload_n hx hb dX7_hasShirt_3 rfl (lv_at hl 1 rfl) ?_
  refine lv_iadd hx hb dX7_hasShirt_4 ?_
  refine q_rdV (As := [.int (10 + x)]) (rest := []) (c_X7_thingsAt l D cB cI cJ ad n M g h nt op hv plf (10 + x) h_g h_g_1 h_g_2 h_h m_g m_g_1 m_g_2 m_h h7 hnt) X hK hP hS hl.1 rfl gX7_hasShirt_X7_thingsAt yd_X7_thingsAt ⟨Nat.le_of_ble_eq_true rfl, Nat.le_of_ble_eq_true rfl⟩ h_g m_g (ci := 7) rfl rfl (Nat.le_of_ble_eq_true rfl) ⟨Nat.zero_le _, Nat.zero_le _⟩ dX7_hasShirt_5 ?_
  refine lv_istore_n (lv' := [(3, .int (taS plf (10 + x) nt)), (0, .ref (ad g)), (1, .int x), (2, .int lost)]) hx hb dX7_hasShirt_8 rfl hl (by decide) rfl (fun ls hl => ?_)
  refine lv_iconst (v := 0) hx hb dX7_hasShirt_9 (by decide) ?_
  refine lv_istore (lv' := [(4, .int 0), (3, .int (taS plf (10 + x) nt)), (0, .ref (ad g)), (1, .int x), (2, .int lost)]) hx hb dX7_hasShirt_10 hl (by decide) rfl (fun ls hl => ?_)
  have loop_12 : ∀ (fuel : Nat) (t : Nat) (x3 : Int32) (x4 : Int32), nc - t < fuel → (t ≤ nc) → x3 = hsS nt cf plf x lost t → x4 = nI t → ∀ (ls : Array Slot), lv_has ls 5 [(0, .ref (ad g)), (1, .int x), (2, .int lost), (3, .int x3), (4, .int x4)] → W p l e (rmOf 3 68) s m args below meth c s.heap [] 0 0 (MQ below (vp_Si (fun r9 => r9 = hkS nt tf (hsS nt cf plf x lost nc) 5)) args s 0 0 (fun _ => False)) (F0 m 12 ls []) := by
    intro fuel
    induction fuel with
    | zero =>
      intro t x3 x4 hz
      exact absurd hz (Nat.not_lt_zero _)
    | succ fuel ih_12 =>
      intro t x3 x4 hz_12 h_t e3 e4 ls hl
      subst e3
      subst e4
      skip
      refine lv_iload hx hb dX7_hasShirt_12 (lv_at hl 4 rfl) ?_
      refine lv_aload_n hx hb dX7_hasShirt_14 rfl (lv_at hl 0 rfl) ?_
      refine q_get (v := .ref (ad h)) (fs := standF ad g h op) X hK hP fX7_hasShirt_20 h_g m_g rfl dX7_hasShirt_15 ?_
      refine q_get (v := .int (hv 6)) (fs := hallF ad h hv) X hK hP fX7_hasShirt_85 h_h m_h rfl dX7_hasShirt_18 ?_
      refine lv_icmp_ge (tgt := 62) hx hb dX7_hasShirt_21 (by decide) (fun c_21 => ?_) (fun c_21 => ?_)
      · skip
        refine lv_aload_n hx hb dX7_hasShirt_62 rfl (lv_at hl 0 rfl) ?_
        refine q_get (v := .ref (ad h)) (fs := standF ad g h op) X hK hP fX7_hasShirt_20 h_g m_g rfl dX7_hasShirt_63 ?_
        refine lv_iload_n hx hb dX7_hasShirt_66 rfl (lv_at hl 3 rfl) ?_
        refine lv_iconst (v := 5) hx hb dX7_hasShirt_67 (by decide) ?_
        refine q_rdV (As := [.int (hsS nt cf plf x lost t), .int 5]) (rest := []) (c_X0_hasKind l D cB cI cJ ad n M h nt hv tf (hsS nt cf plf x lost t) 5 h_h h_h_5 h_h_6 m_h m_h_5 m_h_6 h7 hnt) X hK hP hS hl.1 rfl gX7_hasShirt_X0_hasKind yd_X0_hasKind ⟨Nat.le_of_ble_eq_true rfl, Nat.le_of_ble_eq_true rfl⟩ h_h m_h (ci := 0) rfl rfl (Nat.le_of_ble_eq_true rfl) ⟨Nat.zero_le _, Nat.zero_le _⟩ dX7_hasShirt_68 ?_
        exact q_zret X hr hlocks (hk01 _ _ _ _) (by rw [h6] at c_21; have h9 : t = nc := eq_of_le c_21 (by omega) h_t; rw [h9]) dX7_hasShirt_71
      · skip
        refine lv_iload hx hb dX7_hasShirt_24 (lv_at hl 4 rfl) ?_
        refine lv_iload_n hx hb dX7_hasShirt_26 rfl (lv_at hl 2 rfl) ?_
        refine lv_icmp_eq (tgt := 56) hx hb dX7_hasShirt_27 (by decide) (fun c_27 => ?_) (fun c_27 => ?_)
        · skip
          refine lv_iinc (v := ((nI t) + 1)) (lv' := [(4, .int ((nI t) + 1)), (0, .ref (ad g)), (1, .int x), (2, .int lost), (3, .int (hsS nt cf plf x lost t))]) hx hb dX7_hasShirt_56 hl (k := 4) rfl rfl (by decide) rfl (fun ls hl => ?_)
          refine lv_goto (tgt := 12) hx hb dX7_hasShirt_59 (by decide) ?_
          exact ih_12 (t + 1) (hsS nt cf plf x lost t) ((nI t) + 1) (by rw [h6] at c_21; have h9_ := lt_of_nlt c_21 (by omega) h_t; omega) (by rw [h6] at c_21; have h9_ := lt_of_nlt c_21 (by omega) h_t; omega) (by first | rw [hsS, if_pos c_27] | rw [hsS, if_neg c_27, if_pos {c44}] | rw [hsS, if_neg c_27, if_neg {c44}]) (by first | rfl | exact nI_0.symm | exact nI_1 _) ls (lv_sub hl [1, 2, 3, 4, 0] rfl)
        · skip
          refine lv_aload_n hx hb dX7_hasShirt_30 rfl (lv_at hl 0 rfl) ?_
          refine q_get (v := .ref (ad h)) (fs := standF ad g h op) X hK hP fX7_hasShirt_20 h_g m_g rfl dX7_hasShirt_31 ?_
          refine q_get (v := .ref (ad (h + 3))) (fs := hallF ad h hv) X hK hP fX7_hasShirt_59 h_h m_h rfl dX7_hasShirt_34 ?_
          refine lv_iload hx hb dX7_hasShirt_37 (lv_at hl 4 rfl) ?_
          refine lv_iconst (v := 0) hx hb dX7_hasShirt_39 (by decide) ?_
          refine q_rdV (As := [.int (nI t), .int 0]) (rest := []) (c_X8_at_ l D cB cI cJ ad n M (h + 3) (h + 4) 25 5 cf (nI t) 0 h_h_3 h_h_4 m_h_3 m_h_4 (by decide)) X hK hP hS hl.1 rfl gX7_hasShirt_X8_at_ yd_X8_at_ ⟨Nat.le_of_ble_eq_true rfl, Nat.le_of_ble_eq_true rfl⟩ h_h_3 m_h_3 (ci := 8) rfl rfl (Nat.le_of_ble_eq_true rfl) ⟨Nat.zero_le _, Nat.zero_le _⟩ dX7_hasShirt_40 ?_
          refine lv_iload_n hx hb dX7_hasShirt_43 rfl (lv_at hl 1 rfl) ?_
          refine lv_icmp_ne (tgt := 56) hx hb dX7_hasShirt_44 (by decide) (fun c_44 => ?_) (fun c_44 => ?_)
          · skip
            refine lv_iinc (v := ((nI t) + 1)) (lv' := [(4, .int ((nI t) + 1)), (0, .ref (ad g)), (1, .int x), (2, .int lost), (3, .int (hsS nt cf plf x lost t))]) hx hb dX7_hasShirt_56 hl (k := 4) rfl rfl (by decide) rfl (fun ls hl => ?_)
            refine lv_goto (tgt := 12) hx hb dX7_hasShirt_59 (by decide) ?_
            exact ih_12 (t + 1) (hsS nt cf plf x lost t) ((nI t) + 1) (by rw [h6] at c_21; have h9_ := lt_of_nlt c_21 (by omega) h_t; omega) (by rw [h6] at c_21; have h9_ := lt_of_nlt c_21 (by omega) h_t; omega) (by first | rw [hsS, if_pos c_27] | rw [hsS, if_neg c_27, if_pos c_44] | rw [hsS, if_neg c_27, if_neg c_44]) (by first | rfl | exact nI_0.symm | exact nI_1 _) ls (lv_sub hl [1, 2, 3, 4, 0] rfl)
          · skip
            refine lv_iload_n hx hb dX7_hasShirt_47 rfl (lv_at hl 3 rfl) ?_
            refine lv_aload_n hx hb dX7_hasShirt_48 rfl (lv_at hl 0 rfl) ?_
            refine lv_iload hx hb dX7_hasShirt_49 (lv_at hl 4 rfl) ?_
            refine q_rdV (As := [.int (nI t)]) (rest := [.int (hsS nt cf plf x lost t)]) (c_X7_thingsAt l D cB cI cJ ad n M g h nt op hv plf (nI t) h_g h_g_1 h_g_2 h_h m_g m_g_1 m_g_2 m_h h7 hnt) X hK hP hS hl.1 rfl gX7_hasShirt_X7_thingsAt yd_X7_thingsAt ⟨Nat.le_of_ble_eq_true rfl, Nat.le_of_ble_eq_true rfl⟩ h_g m_g (ci := 7) rfl rfl (Nat.le_of_ble_eq_true rfl) ⟨Nat.zero_le _, Nat.zero_le _⟩ dX7_hasShirt_51 ?_
            refine lv_ior hx hb dX7_hasShirt_54 ?_
            refine lv_istore_n (lv' := [(3, .int ((hsS nt cf plf x lost t) ||| (taS plf (nI t) nt))), (0, .ref (ad g)), (1, .int x), (2, .int lost), (4, .int (nI t))]) hx hb dX7_hasShirt_55 rfl hl (by decide) rfl (fun ls hl => ?_)
            refine lv_iinc (v := ((nI t) + 1)) (lv' := [(4, .int ((nI t) + 1)), (3, .int ((hsS nt cf plf x lost t) ||| (taS plf (nI t) nt))), (0, .ref (ad g)), (1, .int x), (2, .int lost)]) hx hb dX7_hasShirt_56 hl (k := 4) rfl rfl (by decide) rfl (fun ls hl => ?_)
            refine lv_goto (tgt := 12) hx hb dX7_hasShirt_59 (by decide) ?_
            exact ih_12 (t + 1) ((hsS nt cf plf x lost t) ||| (taS plf (nI t) nt)) ((nI t) + 1) (by rw [h6] at c_21; have h9_ := lt_of_nlt c_21 (by omega) h_t; omega) (by rw [h6] at c_21; have h9_ := lt_of_nlt c_21 (by omega) h_t; omega) (by first | rw [hsS, if_pos c_27] | rw [hsS, if_neg c_27, if_pos c_44] | rw [hsS, if_neg c_27, if_neg c_44]) (by first | rfl | exact nI_0.symm | exact nI_1 _) ls (lv_sub hl [2, 3, 4, 1, 0] rfl)
  exact loop_12 (nc + 1) 0 (taS plf (10 + x) nt) 0 (by omega) (by omega) (by rfl) (by first | rfl | exact nI_0.symm | exact nI_1 _) ls (lv_sub hl [2, 3, 4, 1, 0] rfl)
set_option maxRecDepth 20000 in
theorem fX7_withoutShirtIfLost_20 : FL wsX7_withoutShirtIfLost RX7 20 7 0 := ⟨RX7, TX7, 3, rfl, by decide +kernel, by decide, by decide +kernel⟩
set_option maxRecDepth 20000 in
theorem fX7_withoutShirtIfLost_98 : FL wsX7_withoutShirtIfLost RX7 98 0 5 := ⟨RX0, TX0, 12, rfl, by decide +kernel, by decide, by decide +kernel⟩
theorem yd_X7_hasShirt : YD yX7_hasShirt 2 := ⟨by decide +kernel, by decide +kernel, by decide +kernel⟩
set_option maxHeartbeats 4000000 in
set_option maxRecDepth 100000 in
theorem c_X7_withoutShirtIfLost (l : Launch) (D : va_G) (cB cI cJ : ClassId) (ad : Nat → Nat) (n : Nat) (M : Nat → va_E) (g h nt nc np : Nat) (op : Int32) (hv cf tf plf : Nat → Int32) (lost : Int32) (h_g : g < n) (h_g_1 : g + 1 < n) (h_g_2 : g + 2 < n) (h_h : h < n) (h_h_5 : h + 5 < n) (h_h_6 : h + 6 < n) (h_h_3 : h + 3 < n) (h_h_4 : h + 4 < n) (m_g : M g = .inr (7, standF ad g h op)) (m_g_1 : M (g + 1) = .inr (8, [.int 1, .ref (ad (g + 2))])) (m_g_2 : M (g + 2) = .inl (cI, 12, .inl plf)) (m_h : M h = .inr (0, hallF ad h hv)) (m_h_5 : M (h + 5) = .inr (8, [.int 7, .ref (ad (h + 6))])) (m_h_6 : M (h + 6) = .inl (cI, 84, .inl tf)) (m_h_3 : M (h + 3) = .inr (8, [.int 5, .ref (ad (h + 4))])) (m_h_4 : M (h + 4) = .inl (cI, 25, .inl cf)) (h7 : hv 7 = nI nt) (hnt : nt ≤ 12) (h6 : hv 6 = nI nc) (hnc : nc ≤ 5) (h5 : hv 5 = nI np) (hnp : np ≤ 4) : cR l D cB cI cJ ad n M yX7_withoutShirtIfLost wsX7_withoutShirtIfLost 4 92 [.ref (ad g), .int lost] (noShS (fun x lo => hkS nt tf (hsS nt cf plf x lo nc) 5) lost np) := by
  refine q_body (cc := cX7_withoutShirtIfLost) (maxL := 4) (ret := (some .int)) (by decide) rfl (Nat.le_of_ble_eq_true rfl) ?_
  intro p e s m args below meth c ls X hr hlocks hK hP hl
  obtain ⟨hx, hb, hml, hown, hts⟩ := id X
  have hS : va_S (ipA ad n) s.heap s.heap [] := va_S.rf
  have hl : lv_has ls 4 [(0, .ref (ad g)), (1, .int lost)] := hl
  refine lv_iconst (v := 0) hx hb dX7_withoutShirtIfLost_0 (by decide) ?_
  refine lv_istore_n (lv' := [(2, .int 0), (0, .ref (ad g)), (1, .int lost)]) hx hb dX7_withoutShirtIfLost_1 rfl hl (by decide) rfl (fun ls hl => ?_)
  refine lv_iconst (v := 0) hx hb dX7_withoutShirtIfLost_2 (by decide) ?_
  refine lv_istore_n (lv' := [(3, .int 0), (2, .int 0), (0, .ref (ad g)), (1, .int lost)]) hx hb dX7_withoutShirtIfLost_3 rfl hl (by decide) rfl (fun ls hl => ?_)
  have loop_4 : ∀ (fuel : Nat) (t : Nat) (x2 : Int32) (x3 : Int32), np - t < fuel → (t ≤ np) → x2 = noShS (fun x lo => hkS nt tf (hsS nt cf plf x lo nc) 5) lost t → x3 = nI t → ∀ (ls : Array Slot), lv_has ls 4 [(0, .ref (ad g)), (1, .int lost), (2, .int x2), (3, .int x3)] → W p l e (rmOf 4 92) s m args below meth c s.heap [] 0 0 (MQ below (vp_Si (fun r9 => r9 = noShS (fun x lo => hkS nt tf (hsS nt cf plf x lo nc) 5) lost np)) args s 0 0 (fun _ => False)) (F0 m 4 ls []) := by
    intro fuel
    induction fuel with
    | zero =>
      intro t x2 x3 hz
      exact absurd hz (Nat.not_lt_zero _)
    | succ fuel ih_4 =>
      intro t x2 x3 hz_4 h_t e2 e3 ls hl
      subst e2
      subst e3
      skip
      refine lv_iload_n hx hb dX7_withoutShirtIfLost_4 rfl (lv_at hl 3 rfl) ?_
      refine lv_aload_n hx hb dX7_withoutShirtIfLost_5 rfl (lv_at hl 0 rfl) ?_
      refine q_get (v := .ref (ad h)) (fs := standF ad g h op) X hK hP fX7_withoutShirtIfLost_20 h_g m_g rfl dX7_withoutShirtIfLost_6 ?_
      refine q_get (v := .int (hv 5)) (fs := hallF ad h hv) X hK hP fX7_withoutShirtIfLost_98 h_h m_h rfl dX7_withoutShirtIfLost_9 ?_
      refine lv_icmp_ge (tgt := 45) hx hb dX7_withoutShirtIfLost_12 (by decide) (fun c_12 => ?_) (fun c_12 => ?_)
      · skip
        refine lv_iload_n hx hb dX7_withoutShirtIfLost_45 rfl (lv_at hl 2 rfl) ?_
        exact q_iret hb hx hr hlocks (by rw [h5] at c_12; have h9 : t = np := eq_of_le c_12 (by omega) h_t; rw [h9]) dX7_withoutShirtIfLost_46
      · skip
        refine lv_aload_n hx hb dX7_withoutShirtIfLost_15 rfl (lv_at hl 0 rfl) ?_
        refine lv_iload_n hx hb dX7_withoutShirtIfLost_16 rfl (lv_at hl 3 rfl) ?_
        refine lv_iconst (v := (-1)) hx hb dX7_withoutShirtIfLost_17 (by decide) ?_
        refine q_rdV (As := [.int (nI t), .int (-1)]) (rest := []) (c_X7_hasShirt l D cB cI cJ ad n M g h nt nc op hv cf tf plf (nI t) (-1) h_g h_g_1 h_g_2 h_h h_h_5 h_h_6 h_h_3 h_h_4 m_g m_g_1 m_g_2 m_h m_h_5 m_h_6 m_h_3 m_h_4 h7 hnt h6 hnc) X hK hP hS hl.1 rfl gX7_withoutShirtIfLost_X7_hasShirt yd_X7_hasShirt ⟨Nat.le_of_ble_eq_true rfl, Nat.le_of_ble_eq_true rfl⟩ h_g m_g (ci := 7) rfl rfl (Nat.le_of_ble_eq_true rfl) ⟨Nat.zero_le _, Nat.zero_le _⟩ dX7_withoutShirtIfLost_18 ?_
        refine lv_if_eq (tgt := 39) hx hb dX7_withoutShirtIfLost_21 (by decide) (fun c_21 => ?_) (fun c_21 => ?_)
        · skip
          refine lv_iinc (v := ((nI t) + 1)) (lv' := [(3, .int ((nI t) + 1)), (0, .ref (ad g)), (1, .int lost), (2, .int (noShS (fun x lo => hkS nt tf (hsS nt cf plf x lo nc) 5) lost t))]) hx hb dX7_withoutShirtIfLost_39 hl (k := 3) rfl rfl (by decide) rfl (fun ls hl => ?_)
          refine lv_goto (tgt := 4) hx hb dX7_withoutShirtIfLost_42 (by decide) ?_
          exact ih_4 (t + 1) (noShS (fun x lo => hkS nt tf (hsS nt cf plf x lo nc) 5) lost t) ((nI t) + 1) (by rw [h5] at c_12; have h9_ := lt_of_nlt c_12 (by omega) h_t; omega) (by rw [h5] at c_12; have h9_ := lt_of_nlt c_12 (by omega) h_t; omega) (by first | rw [noShS, if_pos c_21] | rw [noShS, if_neg c_21, if_pos {c30}] | rw [noShS, if_neg c_21, if_neg {c30}]) (by first | rfl | exact nI_0.symm | exact nI_1 _) ls (lv_sub hl [1, 2, 3, 0] rfl)
        · skip
          refine lv_aload_n hx hb dX7_withoutShirtIfLost_24 rfl (lv_at hl 0 rfl) ?_
          refine lv_iload_n hx hb dX7_withoutShirtIfLost_25 rfl (lv_at hl 3 rfl) ?_
          refine lv_iload_n hx hb dX7_withoutShirtIfLost_26 rfl (lv_at hl 1 rfl) ?_
          refine q_rdV (As := [.int (nI t), .int lost]) (rest := []) (c_X7_hasShirt l D cB cI cJ ad n M g h nt nc op hv cf tf plf (nI t) lost h_g h_g_1 h_g_2 h_h h_h_5 h_h_6 h_h_3 h_h_4 m_g m_g_1 m_g_2 m_h m_h_5 m_h_6 m_h_3 m_h_4 h7 hnt h6 hnc) X hK hP hS hl.1 rfl gX7_withoutShirtIfLost_X7_hasShirt yd_X7_hasShirt ⟨Nat.le_of_ble_eq_true rfl, Nat.le_of_ble_eq_true rfl⟩ h_g m_g (ci := 7) rfl rfl (Nat.le_of_ble_eq_true rfl) ⟨Nat.zero_le _, Nat.zero_le _⟩ dX7_withoutShirtIfLost_27 ?_
          refine lv_if_ne (tgt := 39) hx hb dX7_withoutShirtIfLost_30 (by decide) (fun c_30 => ?_) (fun c_30 => ?_)
          · skip
            refine lv_iinc (v := ((nI t) + 1)) (lv' := [(3, .int ((nI t) + 1)), (0, .ref (ad g)), (1, .int lost), (2, .int (noShS (fun x lo => hkS nt tf (hsS nt cf plf x lo nc) 5) lost t))]) hx hb dX7_withoutShirtIfLost_39 hl (k := 3) rfl rfl (by decide) rfl (fun ls hl => ?_)
            refine lv_goto (tgt := 4) hx hb dX7_withoutShirtIfLost_42 (by decide) ?_
            exact ih_4 (t + 1) (noShS (fun x lo => hkS nt tf (hsS nt cf plf x lo nc) 5) lost t) ((nI t) + 1) (by rw [h5] at c_12; have h9_ := lt_of_nlt c_12 (by omega) h_t; omega) (by rw [h5] at c_12; have h9_ := lt_of_nlt c_12 (by omega) h_t; omega) (by first | rw [noShS, if_pos c_21] | rw [noShS, if_neg c_21, if_pos c_30] | rw [noShS, if_neg c_21, if_neg c_30]) (by first | rfl | exact nI_0.symm | exact nI_1 _) ls (lv_sub hl [1, 2, 3, 0] rfl)
          · skip
            refine lv_iload_n hx hb dX7_withoutShirtIfLost_33 rfl (lv_at hl 2 rfl) ?_
            refine lv_iconst (v := 1) hx hb dX7_withoutShirtIfLost_34 (by decide) ?_
            refine lv_iload_n hx hb dX7_withoutShirtIfLost_35 rfl (lv_at hl 3 rfl) ?_
            refine lv_ishl hx hb dX7_withoutShirtIfLost_36 ?_
            refine lv_ior hx hb dX7_withoutShirtIfLost_37 ?_
            refine lv_istore_n (lv' := [(2, .int ((noShS (fun x lo => hkS nt tf (hsS nt cf plf x lo nc) 5) lost t) ||| (1 <<< ((nI t) &&& 31)))), (0, .ref (ad g)), (1, .int lost), (3, .int (nI t))]) hx hb dX7_withoutShirtIfLost_38 rfl hl (by decide) rfl (fun ls hl => ?_)
            refine lv_iinc (v := ((nI t) + 1)) (lv' := [(3, .int ((nI t) + 1)), (2, .int ((noShS (fun x lo => hkS nt tf (hsS nt cf plf x lo nc) 5) lost t) ||| (1 <<< ((nI t) &&& 31)))), (0, .ref (ad g)), (1, .int lost)]) hx hb dX7_withoutShirtIfLost_39 hl (k := 3) rfl rfl (by decide) rfl (fun ls hl => ?_)
            refine lv_goto (tgt := 4) hx hb dX7_withoutShirtIfLost_42 (by decide) ?_
            exact ih_4 (t + 1) ((noShS (fun x lo => hkS nt tf (hsS nt cf plf x lo nc) 5) lost t) ||| (1 <<< ((nI t) &&& 31))) ((nI t) + 1) (by rw [h5] at c_12; have h9_ := lt_of_nlt c_12 (by omega) h_t; omega) (by rw [h5] at c_12; have h9_ := lt_of_nlt c_12 (by omega) h_t; omega) (by first | rw [noShS, if_pos c_21] | rw [noShS, if_neg c_21, if_pos c_30] | rw [noShS, if_neg c_21, if_neg c_30]) (by first | rfl | exact nI_0.symm | exact nI_1 _) ls (lv_sub hl [2, 3, 1, 0] rfl)
  exact loop_4 (np + 1) 0 0 0 (by omega) (by omega) (by first | rfl | exact nI_0.symm | exact nI_1 _) (by first | rfl | exact nI_0.symm | exact nI_1 _) ls (lv_sub hl [2, 3, 1, 0] rfl)
set_option maxRecDepth 20000 in
theorem fX7_mayComeInto_20 : FL wsX7_mayComeInto RX7 20 7 0 := ⟨RX7, TX7, 3, rfl, by decide +kernel, by decide, by decide +kernel⟩
set_option maxRecDepth 20000 in
theorem fX7_mayComeInto_85 : FL wsX7_mayComeInto RX7 85 0 6 := ⟨RX0, TX0, 12, rfl, by decide +kernel, by decide, by decide +kernel⟩
set_option maxRecDepth 20000 in
theorem fX7_mayComeInto_33 : FL wsX7_mayComeInto RX7 33 0 2 := ⟨RX0, TX0, 12, rfl, by decide +kernel, by decide, by decide +kernel⟩
set_option maxRecDepth 20000 in
theorem fX7_mayComeInto_59 : FL wsX7_mayComeInto RX7 59 0 1 := ⟨RX0, TX0, 12, rfl, by decide +kernel, by decide, by decide +kernel⟩
def miS (nt : Nat) (hv : Nat → Int32) (cf : Nat → Int32) (tf : Nat → Int32) (plf : Nat → Int32) (x : Int32) (y : Int32) : Int32 := if y < 0 then 0 else if y < (hv 6) then if (tat 84 tf (x * 7 + 0)) = 2 then if (tat 25 cf (y * 5 + 4)) = 0 then if (tat 25 cf (y * 5 + 2)) < ((smS tf (taS plf y nt) 3 nt) + (tat 84 tf (x * 7 + 3))) then 0 else 1 else 0 else if (tat 25 cf (y * 5 + 2)) < ((smS tf (taS plf y nt) 3 nt) + (tat 84 tf (x * 7 + 3))) then 0 else 1 else 0
set_option maxHeartbeats 4000000 in
set_option maxRecDepth 100000 in
theorem c_X7_mayComeInto (l : Launch) (D : va_G) (cB cI cJ : ClassId) (ad : Nat → Nat) (n : Nat) (M : Nat → va_E) (g h nt nc : Nat) (op : Int32) (hv cf tf plf : Nat → Int32) (x y : Int32) (h_g : g < n) (h_g_1 : g + 1 < n) (h_g_2 : g + 2 < n) (h_h : h < n) (h_h_5 : h + 5 < n) (h_h_6 : h + 6 < n) (h_h_3 : h + 3 < n) (h_h_4 : h + 4 < n) (m_g : M g = .inr (7, standF ad g h op)) (m_g_1 : M (g + 1) = .inr (8, [.int 1, .ref (ad (g + 2))])) (m_g_2 : M (g + 2) = .inl (cI, 12, .inl plf)) (m_h : M h = .inr (0, hallF ad h hv)) (m_h_5 : M (h + 5) = .inr (8, [.int 7, .ref (ad (h + 6))])) (m_h_6 : M (h + 6) = .inl (cI, 84, .inl tf)) (m_h_3 : M (h + 3) = .inr (8, [.int 5, .ref (ad (h + 4))])) (m_h_4 : M (h + 4) = .inl (cI, 25, .inl cf)) (h7 : hv 7 = nI nt) (hnt : nt ≤ 12) (h6 : hv 6 = nI nc) (hnc : nc ≤ 5) : cR l D cB cI cJ ad n M yX7_mayComeInto wsX7_mayComeInto 2 47 [.ref (ad g), .int x, .int y] (miS nt hv cf tf plf x y) := by
  refine q_body (cc := cX7_mayComeInto) (maxL := 5) (ret := (some .boolean)) (by decide) rfl (Nat.le_of_ble_eq_true rfl) ?_
  intro p e s m args below meth c ls X hr hlocks hK hP hl
  obtain ⟨hx, hb, hml, hown, hts⟩ := id X
  have hS : va_S (ipA ad n) s.heap s.heap [] := va_S.rf
  have hl : lv_has ls 5 [(0, .ref (ad g)), (1, .int x), (2, .int y)] := hl
  refine lv_iload_n hx hb dX7_mayComeInto_0 rfl (lv_at hl 2 rfl) ?_
  refine lv_if_lt (tgt := 15) hx hb dX7_mayComeInto_1 (by decide) (fun c_1 => ?_) (fun c_1 => ?_)
  · skip
    refine lv_iconst (v := 0) hx hb dX7_mayComeInto_15 (by decide) ?_
    exact q_zret X hr hlocks (rfl) (by rw [miS, if_pos c_1]) dX7_mayComeInto_16
  · skip
    refine lv_iload_n hx hb dX7_mayComeInto_4 rfl (lv_at hl 2 rfl) ?_
    refine lv_aload_n hx hb dX7_mayComeInto_5 rfl (lv_at hl 0 rfl) ?_
    refine q_get (v := .ref (ad h)) (fs := standF ad g h op) X hK hP fX7_mayComeInto_20 h_g m_g rfl dX7_mayComeInto_6 ?_
    refine q_get (v := .int (hv 6)) (fs := hallF ad h hv) X hK hP fX7_mayComeInto_85 h_h m_h rfl dX7_mayComeInto_9 ?_
    refine lv_icmp_lt (tgt := 17) hx hb dX7_mayComeInto_12 (by decide) (fun c_12 => ?_) (fun c_12 => ?_)
    · skip
      refine lv_aload_n hx hb dX7_mayComeInto_17 rfl (lv_at hl 0 rfl) ?_
      refine q_get (v := .ref (ad h)) (fs := standF ad g h op) X hK hP fX7_mayComeInto_20 h_g m_g rfl dX7_mayComeInto_18 ?_
      refine q_get (v := .ref (ad (h + 5))) (fs := hallF ad h hv) X hK hP fX7_mayComeInto_33 h_h m_h rfl dX7_mayComeInto_21 ?_
      refine lv_iload_n hx hb dX7_mayComeInto_24 rfl (lv_at hl 1 rfl) ?_
      refine lv_iconst (v := 0) hx hb dX7_mayComeInto_25 (by decide) ?_
      refine q_rdV (As := [.int x, .int 0]) (rest := []) (c_X8_at_ l D cB cI cJ ad n M (h + 5) (h + 6) 84 7 tf x 0 h_h_5 h_h_6 m_h_5 m_h_6 (by decide)) X hK hP hS hl.1 rfl gX7_mayComeInto_X8_at_ yd_X8_at_ ⟨Nat.le_of_ble_eq_true rfl, Nat.le_of_ble_eq_true rfl⟩ h_h_5 m_h_5 (ci := 8) rfl rfl (Nat.le_of_ble_eq_true rfl) ⟨Nat.zero_le _, Nat.zero_le _⟩ dX7_mayComeInto_26 ?_
      refine lv_iconst (v := 2) hx hb dX7_mayComeInto_29 (by decide) ?_
      refine lv_icmp_ne (tgt := 52) hx hb dX7_mayComeInto_30 (by decide) (fun c_30 => ?_) (fun c_30 => ?_)
      · skip
        refine lv_iconst (v := 0) hx hb dX7_mayComeInto_52 (by decide) ?_
        refine lv_istore_n (lv' := [(3, .int 0), (0, .ref (ad g)), (1, .int x), (2, .int y)]) hx hb dX7_mayComeInto_53 rfl hl (by decide) rfl (fun ls hl => ?_)
        refine lv_aload_n hx hb dX7_mayComeInto_54 rfl (lv_at hl 1 rfl) ?_
        refine q_get (v := .ref (ad h)) (fs := standF ad g h op) X hK hP fX7_mayComeInto_20 h_g m_g rfl dX7_mayComeInto_55 ?_
        refine lv_aload_n hx hb dX7_mayComeInto_58 rfl (lv_at hl 1 rfl) ?_
        refine lv_iload_n hx hb dX7_mayComeInto_59 rfl (lv_at hl 3 rfl) ?_
        refine q_rdV (As := [.int y]) (rest := [.ref (ad h)]) (c_X7_thingsAt l D cB cI cJ ad n M g h nt op hv plf y h_g h_g_1 h_g_2 h_h m_g m_g_1 m_g_2 m_h h7 hnt) X hK hP hS hl.1 rfl gX7_mayComeInto_X7_thingsAt yd_X7_thingsAt ⟨Nat.le_of_ble_eq_true rfl, Nat.le_of_ble_eq_true rfl⟩ h_g m_g (ci := 7) rfl rfl (Nat.le_of_ble_eq_true rfl) ⟨Nat.zero_le _, Nat.zero_le _⟩ dX7_mayComeInto_60 ?_
        refine lv_iconst (v := 3) hx hb dX7_mayComeInto_63 (by decide) ?_
        refine q_rdV (As := [.int (taS plf y nt), .int 3]) (rest := []) (c_X0_sumOf l D cB cI cJ ad n M h nt hv tf (taS plf y nt) 3 h_h h_h_5 h_h_6 m_h m_h_5 m_h_6 h7 hnt) X hK hP hS hl.1 rfl gX7_mayComeInto_X0_sumOf yd_X0_sumOf ⟨Nat.le_of_ble_eq_true rfl, Nat.le_of_ble_eq_true rfl⟩ h_h m_h (ci := 0) rfl rfl (Nat.le_of_ble_eq_true rfl) ⟨Nat.zero_le _, Nat.zero_le _⟩ dX7_mayComeInto_64 ?_
        refine lv_aload_n hx hb dX7_mayComeInto_67 rfl (lv_at hl 1 rfl) ?_
        refine q_get (v := .ref (ad h)) (fs := standF ad g h op) X hK hP fX7_mayComeInto_20 h_g m_g rfl dX7_mayComeInto_68 ?_
        refine q_get (v := .ref (ad (h + 5))) (fs := hallF ad h hv) X hK hP fX7_mayComeInto_33 h_h m_h rfl dX7_mayComeInto_71 ?_
        refine lv_iload_n hx hb dX7_mayComeInto_74 rfl (lv_at hl 2 rfl) ?_
        refine lv_iconst (v := 3) hx hb dX7_mayComeInto_75 (by decide) ?_
        refine q_rdV (As := [.int x, .int 3]) (rest := [.int (smS tf (taS plf y nt) 3 nt)]) (c_X8_at_ l D cB cI cJ ad n M (h + 5) (h + 6) 84 7 tf x 3 h_h_5 h_h_6 m_h_5 m_h_6 (by decide)) X hK hP hS hl.1 rfl gX7_mayComeInto_X8_at_ yd_X8_at_ ⟨Nat.le_of_ble_eq_true rfl, Nat.le_of_ble_eq_true rfl⟩ h_h_5 m_h_5 (ci := 8) rfl rfl (Nat.le_of_ble_eq_true rfl) ⟨Nat.zero_le _, Nat.zero_le _⟩ dX7_mayComeInto_76 ?_
        refine lv_iadd hx hb dX7_mayComeInto_79 ?_
        refine lv_istore (lv' := [(4, .int ((smS tf (taS plf y nt) 3 nt) + (tat 84 tf (x * 7 + 3)))), (3, .int 0), (0, .ref (ad g)), (1, .int x), (2, .int y)]) hx hb dX7_mayComeInto_80 hl (by decide) rfl (fun ls hl => ?_)
        refine lv_iload_n hx hb dX7_mayComeInto_82 rfl (lv_at hl 1 rfl) ?_
        refine lv_if_ne (tgt := 107) hx hb dX7_mayComeInto_83 (by decide) (fun c_83 => ?_) (fun c_83 => ?_)
        · exact absurd c_83 (by decide)
        · clear c_83
          refine lv_iload hx hb dX7_mayComeInto_86 (lv_at hl 0 rfl) ?_
          refine lv_aload_n hx hb dX7_mayComeInto_88 rfl (lv_at hl 2 rfl) ?_
          refine q_get (v := .ref (ad h)) (fs := standF ad g h op) X hK hP fX7_mayComeInto_20 h_g m_g rfl dX7_mayComeInto_89 ?_
          refine q_get (v := .ref (ad (h + 3))) (fs := hallF ad h hv) X hK hP fX7_mayComeInto_59 h_h m_h rfl dX7_mayComeInto_92 ?_
          refine lv_iload_n hx hb dX7_mayComeInto_95 rfl (lv_at hl 4 rfl) ?_
          refine lv_iconst (v := 2) hx hb dX7_mayComeInto_96 (by decide) ?_
          refine q_rdV (As := [.int y, .int 2]) (rest := [.int ((smS tf (taS plf y nt) 3 nt) + (tat 84 tf (x * 7 + 3)))]) (c_X8_at_ l D cB cI cJ ad n M (h + 3) (h + 4) 25 5 cf y 2 h_h_3 h_h_4 m_h_3 m_h_4 (by decide)) X hK hP hS hl.1 rfl gX7_mayComeInto_X8_at_ yd_X8_at_ ⟨Nat.le_of_ble_eq_true rfl, Nat.le_of_ble_eq_true rfl⟩ h_h_3 m_h_3 (ci := 8) rfl rfl (Nat.le_of_ble_eq_true rfl) ⟨Nat.zero_le _, Nat.zero_le _⟩ dX7_mayComeInto_97 ?_
          refine lv_icmp_gt (tgt := 107) hx hb dX7_mayComeInto_100 (by decide) (fun c_100 => ?_) (fun c_100 => ?_)
          · skip
            refine lv_iconst (v := 0) hx hb dX7_mayComeInto_107 (by decide) ?_
            exact q_zret X hr hlocks (rfl) (by rw [miS, if_neg c_1, if_pos c_12, if_neg c_30, if_pos c_100]) dX7_mayComeInto_108
          · skip
            refine lv_iconst (v := 1) hx hb dX7_mayComeInto_103 (by decide) ?_
            refine lv_goto (tgt := 108) hx hb dX7_mayComeInto_104 (by decide) ?_
            exact q_zret X hr hlocks (rfl) (by rw [miS, if_neg c_1, if_pos c_12, if_neg c_30, if_neg c_100]) dX7_mayComeInto_108
      · skip
        refine lv_aload_n hx hb dX7_mayComeInto_33 rfl (lv_at hl 0 rfl) ?_
        refine q_get (v := .ref (ad h)) (fs := standF ad g h op) X hK hP fX7_mayComeInto_20 h_g m_g rfl dX7_mayComeInto_34 ?_
        refine q_get (v := .ref (ad (h + 3))) (fs := hallF ad h hv) X hK hP fX7_mayComeInto_59 h_h m_h rfl dX7_mayComeInto_37 ?_
        refine lv_iload_n hx hb dX7_mayComeInto_40 rfl (lv_at hl 2 rfl) ?_
        refine lv_iconst (v := 4) hx hb dX7_mayComeInto_41 (by decide) ?_
        refine q_rdV (As := [.int y, .int 4]) (rest := []) (c_X8_at_ l D cB cI cJ ad n M (h + 3) (h + 4) 25 5 cf y 4 h_h_3 h_h_4 m_h_3 m_h_4 (by decide)) X hK hP hS hl.1 rfl gX7_mayComeInto_X8_at_ yd_X8_at_ ⟨Nat.le_of_ble_eq_true rfl, Nat.le_of_ble_eq_true rfl⟩ h_h_3 m_h_3 (ci := 8) rfl rfl (Nat.le_of_ble_eq_true rfl) ⟨Nat.zero_le _, Nat.zero_le _⟩ dX7_mayComeInto_42 ?_
        refine lv_if_eq (tgt := 52) hx hb dX7_mayComeInto_45 (by decide) (fun c_45 => ?_) (fun c_45 => ?_)
        · skip
          refine lv_iconst (v := 0) hx hb dX7_mayComeInto_52 (by decide) ?_
          refine lv_istore_n (lv' := [(3, .int 0), (0, .ref (ad g)), (1, .int x), (2, .int y)]) hx hb dX7_mayComeInto_53 rfl hl (by decide) rfl (fun ls hl => ?_)
          refine lv_aload_n hx hb dX7_mayComeInto_54 rfl (lv_at hl 1 rfl) ?_
          refine q_get (v := .ref (ad h)) (fs := standF ad g h op) X hK hP fX7_mayComeInto_20 h_g m_g rfl dX7_mayComeInto_55 ?_
          refine lv_aload_n hx hb dX7_mayComeInto_58 rfl (lv_at hl 1 rfl) ?_
          refine lv_iload_n hx hb dX7_mayComeInto_59 rfl (lv_at hl 3 rfl) ?_
          refine q_rdV (As := [.int y]) (rest := [.ref (ad h)]) (c_X7_thingsAt l D cB cI cJ ad n M g h nt op hv plf y h_g h_g_1 h_g_2 h_h m_g m_g_1 m_g_2 m_h h7 hnt) X hK hP hS hl.1 rfl gX7_mayComeInto_X7_thingsAt yd_X7_thingsAt ⟨Nat.le_of_ble_eq_true rfl, Nat.le_of_ble_eq_true rfl⟩ h_g m_g (ci := 7) rfl rfl (Nat.le_of_ble_eq_true rfl) ⟨Nat.zero_le _, Nat.zero_le _⟩ dX7_mayComeInto_60 ?_
          refine lv_iconst (v := 3) hx hb dX7_mayComeInto_63 (by decide) ?_
          refine q_rdV (As := [.int (taS plf y nt), .int 3]) (rest := []) (c_X0_sumOf l D cB cI cJ ad n M h nt hv tf (taS plf y nt) 3 h_h h_h_5 h_h_6 m_h m_h_5 m_h_6 h7 hnt) X hK hP hS hl.1 rfl gX7_mayComeInto_X0_sumOf yd_X0_sumOf ⟨Nat.le_of_ble_eq_true rfl, Nat.le_of_ble_eq_true rfl⟩ h_h m_h (ci := 0) rfl rfl (Nat.le_of_ble_eq_true rfl) ⟨Nat.zero_le _, Nat.zero_le _⟩ dX7_mayComeInto_64 ?_
          refine lv_aload_n hx hb dX7_mayComeInto_67 rfl (lv_at hl 1 rfl) ?_
          refine q_get (v := .ref (ad h)) (fs := standF ad g h op) X hK hP fX7_mayComeInto_20 h_g m_g rfl dX7_mayComeInto_68 ?_
          refine q_get (v := .ref (ad (h + 5))) (fs := hallF ad h hv) X hK hP fX7_mayComeInto_33 h_h m_h rfl dX7_mayComeInto_71 ?_
          refine lv_iload_n hx hb dX7_mayComeInto_74 rfl (lv_at hl 2 rfl) ?_
          refine lv_iconst (v := 3) hx hb dX7_mayComeInto_75 (by decide) ?_
          refine q_rdV (As := [.int x, .int 3]) (rest := [.int (smS tf (taS plf y nt) 3 nt)]) (c_X8_at_ l D cB cI cJ ad n M (h + 5) (h + 6) 84 7 tf x 3 h_h_5 h_h_6 m_h_5 m_h_6 (by decide)) X hK hP hS hl.1 rfl gX7_mayComeInto_X8_at_ yd_X8_at_ ⟨Nat.le_of_ble_eq_true rfl, Nat.le_of_ble_eq_true rfl⟩ h_h_5 m_h_5 (ci := 8) rfl rfl (Nat.le_of_ble_eq_true rfl) ⟨Nat.zero_le _, Nat.zero_le _⟩ dX7_mayComeInto_76 ?_
          refine lv_iadd hx hb dX7_mayComeInto_79 ?_
          refine lv_istore (lv' := [(4, .int ((smS tf (taS plf y nt) 3 nt) + (tat 84 tf (x * 7 + 3)))), (3, .int 0), (0, .ref (ad g)), (1, .int x), (2, .int y)]) hx hb dX7_mayComeInto_80 hl (by decide) rfl (fun ls hl => ?_)
          refine lv_iload_n hx hb dX7_mayComeInto_82 rfl (lv_at hl 1 rfl) ?_
          refine lv_if_ne (tgt := 107) hx hb dX7_mayComeInto_83 (by decide) (fun c_83 => ?_) (fun c_83 => ?_)
          · exact absurd c_83 (by decide)
          · clear c_83
            refine lv_iload hx hb dX7_mayComeInto_86 (lv_at hl 0 rfl) ?_
            refine lv_aload_n hx hb dX7_mayComeInto_88 rfl (lv_at hl 2 rfl) ?_
            refine q_get (v := .ref (ad h)) (fs := standF ad g h op) X hK hP fX7_mayComeInto_20 h_g m_g rfl dX7_mayComeInto_89 ?_
            refine q_get (v := .ref (ad (h + 3))) (fs := hallF ad h hv) X hK hP fX7_mayComeInto_59 h_h m_h rfl dX7_mayComeInto_92 ?_
            refine lv_iload_n hx hb dX7_mayComeInto_95 rfl (lv_at hl 4 rfl) ?_
            refine lv_iconst (v := 2) hx hb dX7_mayComeInto_96 (by decide) ?_
            refine q_rdV (As := [.int y, .int 2]) (rest := [.int ((smS tf (taS plf y nt) 3 nt) + (tat 84 tf (x * 7 + 3)))]) (c_X8_at_ l D cB cI cJ ad n M (h + 3) (h + 4) 25 5 cf y 2 h_h_3 h_h_4 m_h_3 m_h_4 (by decide)) X hK hP hS hl.1 rfl gX7_mayComeInto_X8_at_ yd_X8_at_ ⟨Nat.le_of_ble_eq_true rfl, Nat.le_of_ble_eq_true rfl⟩ h_h_3 m_h_3 (ci := 8) rfl rfl (Nat.le_of_ble_eq_true rfl) ⟨Nat.zero_le _, Nat.zero_le _⟩ dX7_mayComeInto_97 ?_
            refine lv_icmp_gt (tgt := 107) hx hb dX7_mayComeInto_100 (by decide) (fun c_100 => ?_) (fun c_100 => ?_)
            · skip
              refine lv_iconst (v := 0) hx hb dX7_mayComeInto_107 (by decide) ?_
              exact q_zret X hr hlocks (rfl) (by rw [miS, if_neg c_1, if_pos c_12, if_pos c_30, if_pos c_45, if_pos c_100]) dX7_mayComeInto_108
            · skip
              refine lv_iconst (v := 1) hx hb dX7_mayComeInto_103 (by decide) ?_
              refine lv_goto (tgt := 108) hx hb dX7_mayComeInto_104 (by decide) ?_
              exact q_zret X hr hlocks (rfl) (by rw [miS, if_neg c_1, if_pos c_12, if_pos c_30, if_pos c_45, if_neg c_100]) dX7_mayComeInto_108
        · skip
          refine lv_iconst (v := 1) hx hb dX7_mayComeInto_48 (by decide) ?_
          refine lv_goto (tgt := 53) hx hb dX7_mayComeInto_49 (by decide) ?_
          refine lv_istore_n (lv' := [(3, .int 1), (0, .ref (ad g)), (1, .int x), (2, .int y)]) hx hb dX7_mayComeInto_53 rfl hl (by decide) rfl (fun ls hl => ?_)
          refine lv_aload_n hx hb dX7_mayComeInto_54 rfl (lv_at hl 1 rfl) ?_
          refine q_get (v := .ref (ad h)) (fs := standF ad g h op) X hK hP fX7_mayComeInto_20 h_g m_g rfl dX7_mayComeInto_55 ?_
          refine lv_aload_n hx hb dX7_mayComeInto_58 rfl (lv_at hl 1 rfl) ?_
          refine lv_iload_n hx hb dX7_mayComeInto_59 rfl (lv_at hl 3 rfl) ?_
          refine q_rdV (As := [.int y]) (rest := [.ref (ad h)]) (c_X7_thingsAt l D cB cI cJ ad n M g h nt op hv plf y h_g h_g_1 h_g_2 h_h m_g m_g_1 m_g_2 m_h h7 hnt) X hK hP hS hl.1 rfl gX7_mayComeInto_X7_thingsAt yd_X7_thingsAt ⟨Nat.le_of_ble_eq_true rfl, Nat.le_of_ble_eq_true rfl⟩ h_g m_g (ci := 7) rfl rfl (Nat.le_of_ble_eq_true rfl) ⟨Nat.zero_le _, Nat.zero_le _⟩ dX7_mayComeInto_60 ?_
          refine lv_iconst (v := 3) hx hb dX7_mayComeInto_63 (by decide) ?_
          refine q_rdV (As := [.int (taS plf y nt), .int 3]) (rest := []) (c_X0_sumOf l D cB cI cJ ad n M h nt hv tf (taS plf y nt) 3 h_h h_h_5 h_h_6 m_h m_h_5 m_h_6 h7 hnt) X hK hP hS hl.1 rfl gX7_mayComeInto_X0_sumOf yd_X0_sumOf ⟨Nat.le_of_ble_eq_true rfl, Nat.le_of_ble_eq_true rfl⟩ h_h m_h (ci := 0) rfl rfl (Nat.le_of_ble_eq_true rfl) ⟨Nat.zero_le _, Nat.zero_le _⟩ dX7_mayComeInto_64 ?_
          refine lv_aload_n hx hb dX7_mayComeInto_67 rfl (lv_at hl 1 rfl) ?_
          refine q_get (v := .ref (ad h)) (fs := standF ad g h op) X hK hP fX7_mayComeInto_20 h_g m_g rfl dX7_mayComeInto_68 ?_
          refine q_get (v := .ref (ad (h + 5))) (fs := hallF ad h hv) X hK hP fX7_mayComeInto_33 h_h m_h rfl dX7_mayComeInto_71 ?_
          refine lv_iload_n hx hb dX7_mayComeInto_74 rfl (lv_at hl 2 rfl) ?_
          refine lv_iconst (v := 3) hx hb dX7_mayComeInto_75 (by decide) ?_
          refine q_rdV (As := [.int x, .int 3]) (rest := [.int (smS tf (taS plf y nt) 3 nt)]) (c_X8_at_ l D cB cI cJ ad n M (h + 5) (h + 6) 84 7 tf x 3 h_h_5 h_h_6 m_h_5 m_h_6 (by decide)) X hK hP hS hl.1 rfl gX7_mayComeInto_X8_at_ yd_X8_at_ ⟨Nat.le_of_ble_eq_true rfl, Nat.le_of_ble_eq_true rfl⟩ h_h_5 m_h_5 (ci := 8) rfl rfl (Nat.le_of_ble_eq_true rfl) ⟨Nat.zero_le _, Nat.zero_le _⟩ dX7_mayComeInto_76 ?_
          refine lv_iadd hx hb dX7_mayComeInto_79 ?_
          refine lv_istore (lv' := [(4, .int ((smS tf (taS plf y nt) 3 nt) + (tat 84 tf (x * 7 + 3)))), (3, .int 1), (0, .ref (ad g)), (1, .int x), (2, .int y)]) hx hb dX7_mayComeInto_80 hl (by decide) rfl (fun ls hl => ?_)
          refine lv_iload_n hx hb dX7_mayComeInto_82 rfl (lv_at hl 1 rfl) ?_
          refine lv_if_ne (tgt := 107) hx hb dX7_mayComeInto_83 (by decide) (fun c_83 => ?_) (fun c_83 => ?_)
          · clear c_83
            refine lv_iconst (v := 0) hx hb dX7_mayComeInto_107 (by decide) ?_
            exact q_zret X hr hlocks (rfl) (by rw [miS, if_neg c_1, if_pos c_12, if_pos c_30, if_neg c_45]) dX7_mayComeInto_108
          · exact absurd c_83 (by decide)
    · skip
      refine lv_iconst (v := 0) hx hb dX7_mayComeInto_15 (by decide) ?_
      exact q_zret X hr hlocks (rfl) (by rw [miS, if_neg c_1, if_neg c_12]) dX7_mayComeInto_16
set_option maxRecDepth 20000 in
theorem fX7_mayComeOn_20 : FL wsX7_mayComeOn RX7 20 7 0 := ⟨RX7, TX7, 3, rfl, by decide +kernel, by decide, by decide +kernel⟩
set_option maxRecDepth 20000 in
theorem fX7_mayComeOn_98 : FL wsX7_mayComeOn RX7 98 0 5 := ⟨RX0, TX0, 12, rfl, by decide +kernel, by decide, by decide +kernel⟩
set_option maxRecDepth 20000 in
theorem fX7_mayComeOn_33 : FL wsX7_mayComeOn RX7 33 0 2 := ⟨RX0, TX0, 12, rfl, by decide +kernel, by decide, by decide +kernel⟩
set_option maxRecDepth 20000 in
theorem fX7_mayComeOn_113 : FL wsX7_mayComeOn RX7 113 0 0 := ⟨RX0, TX0, 12, rfl, by decide +kernel, by decide, by decide +kernel⟩
def moS (nt : Nat) (hv : Nat → Int32) (pf : Nat → Int32) (tf : Nat → Int32) (plf : Nat → Int32) (x : Int32) (y : Int32) : Int32 := if y < 0 then 0 else if y < (hv 5) then if (tat 84 tf (x * 7 + 0)) = 1 then if (tat 12 pf (y * 3 + 2)) < ((smS tf (taS plf (10 + y) nt) 6 nt) + (tat 84 tf (x * 7 + 6))) then 0 else 1 else if 2 < (tat 84 tf (x * 7 + 3)) then 0 else if (tat 12 pf (y * 3 + 1)) < ((smS tf ((taS plf (10 + y) nt) &&& ((okS tf 1 nt) ^^^ (-1))) 3 nt) + (tat 84 tf (x * 7 + 3))) then 0 else 1 else 0
set_option maxHeartbeats 4000000 in
set_option maxRecDepth 100000 in
theorem c_X7_mayComeOn (l : Launch) (D : va_G) (cB cI cJ : ClassId) (ad : Nat → Nat) (n : Nat) (M : Nat → va_E) (g h nt np : Nat) (op : Int32) (hv pf tf plf : Nat → Int32) (x y : Int32) (h_g : g < n) (h_g_1 : g + 1 < n) (h_g_2 : g + 2 < n) (h_h : h < n) (h_h_5 : h + 5 < n) (h_h_6 : h + 6 < n) (h_h_1 : h + 1 < n) (h_h_2 : h + 2 < n) (m_g : M g = .inr (7, standF ad g h op)) (m_g_1 : M (g + 1) = .inr (8, [.int 1, .ref (ad (g + 2))])) (m_g_2 : M (g + 2) = .inl (cI, 12, .inl plf)) (m_h : M h = .inr (0, hallF ad h hv)) (m_h_5 : M (h + 5) = .inr (8, [.int 7, .ref (ad (h + 6))])) (m_h_6 : M (h + 6) = .inl (cI, 84, .inl tf)) (m_h_1 : M (h + 1) = .inr (8, [.int 3, .ref (ad (h + 2))])) (m_h_2 : M (h + 2) = .inl (cI, 12, .inl pf)) (h7 : hv 7 = nI nt) (hnt : nt ≤ 12) (h5 : hv 5 = nI np) (hnp : np ≤ 4) : cR l D cB cI cJ ad n M yX7_mayComeOn wsX7_mayComeOn 2 47 [.ref (ad g), .int x, .int y] (moS nt hv pf tf plf x y) := by
  refine q_body (cc := cX7_mayComeOn) (maxL := 6) (ret := (some .boolean)) (by decide) rfl (Nat.le_of_ble_eq_true rfl) ?_
  intro p e s m args below meth c ls X hr hlocks hK hP hl
  obtain ⟨hx, hb, hml, hown, hts⟩ := id X
  have hS : va_S (ipA ad n) s.heap s.heap [] := va_S.rf
  have hl : lv_has ls 6 [(0, .ref (ad g)), (1, .int x), (2, .int y)] := hl
  refine lv_iload_n hx hb dX7_mayComeOn_0 rfl (lv_at hl 2 rfl) ?_
  refine lv_if_lt (tgt := 15) hx hb dX7_mayComeOn_1 (by decide) (fun c_1 => ?_) (fun c_1 => ?_)
  · skip
    refine lv_iconst (v := 0) hx hb dX7_mayComeOn_15 (by decide) ?_
    exact q_zret X hr hlocks (rfl) (by rw [moS, if_pos c_1]) dX7_mayComeOn_16
  · skip
    refine lv_iload_n hx hb dX7_mayComeOn_4 rfl (lv_at hl 2 rfl) ?_
    refine lv_aload_n hx hb dX7_mayComeOn_5 rfl (lv_at hl 0 rfl) ?_
    refine q_get (v := .ref (ad h)) (fs := standF ad g h op) X hK hP fX7_mayComeOn_20 h_g m_g rfl dX7_mayComeOn_6 ?_
    refine q_get (v := .int (hv 5)) (fs := hallF ad h hv) X hK hP fX7_mayComeOn_98 h_h m_h rfl dX7_mayComeOn_9 ?_
    refine lv_icmp_lt (tgt := 17) hx hb dX7_mayComeOn_12 (by decide) (fun c_12 => ?_) (fun c_12 => ?_)
    · skip
      refine lv_aload_n hx hb dX7_mayComeOn_17 rfl (lv_at hl 0 rfl) ?_
      refine lv_bipush (v := 10) hx hb dX7_mayComeOn_18 (by decide) ?_
      refine lv_iload_n hx hb dX7_mayComeOn_20 rfl (lv_at hl 2 rfl) ?_
      refine lv_iadd hx hb dX7_mayComeOn_21 ?_
      refine q_rdV (As := [.int (10 + y)]) (rest := []) (c_X7_thingsAt l D cB cI cJ ad n M g h nt op hv plf (10 + y) h_g h_g_1 h_g_2 h_h m_g m_g_1 m_g_2 m_h h7 hnt) X hK hP hS hl.1 rfl gX7_mayComeOn_X7_thingsAt yd_X7_thingsAt ⟨Nat.le_of_ble_eq_true rfl, Nat.le_of_ble_eq_true rfl⟩ h_g m_g (ci := 7) rfl rfl (Nat.le_of_ble_eq_true rfl) ⟨Nat.zero_le _, Nat.zero_le _⟩ dX7_mayComeOn_22 ?_
      refine lv_istore_n (lv' := [(3, .int (taS plf (10 + y) nt)), (0, .ref (ad g)), (1, .int x), (2, .int y)]) hx hb dX7_mayComeOn_25 rfl hl (by decide) rfl (fun ls hl => ?_)
      refine lv_aload_n hx hb dX7_mayComeOn_26 rfl (lv_at hl 1 rfl) ?_
      refine q_get (v := .ref (ad h)) (fs := standF ad g h op) X hK hP fX7_mayComeOn_20 h_g m_g rfl dX7_mayComeOn_27 ?_
      refine q_get (v := .ref (ad (h + 5))) (fs := hallF ad h hv) X hK hP fX7_mayComeOn_33 h_h m_h rfl dX7_mayComeOn_30 ?_
      refine lv_iload_n hx hb dX7_mayComeOn_33 rfl (lv_at hl 2 rfl) ?_
      refine lv_iconst (v := 0) hx hb dX7_mayComeOn_34 (by decide) ?_
      refine q_rdV (As := [.int x, .int 0]) (rest := []) (c_X8_at_ l D cB cI cJ ad n M (h + 5) (h + 6) 84 7 tf x 0 h_h_5 h_h_6 m_h_5 m_h_6 (by decide)) X hK hP hS hl.1 rfl gX7_mayComeOn_X8_at_ yd_X8_at_ ⟨Nat.le_of_ble_eq_true rfl, Nat.le_of_ble_eq_true rfl⟩ h_h_5 m_h_5 (ci := 8) rfl rfl (Nat.le_of_ble_eq_true rfl) ⟨Nat.zero_le _, Nat.zero_le _⟩ dX7_mayComeOn_35 ?_
      refine lv_iconst (v := 1) hx hb dX7_mayComeOn_38 (by decide) ?_
      refine lv_icmp_ne (tgt := 87) hx hb dX7_mayComeOn_39 (by decide) (fun c_39 => ?_) (fun c_39 => ?_)
      · skip
        refine lv_aload_n hx hb dX7_mayComeOn_87 rfl (lv_at hl 1 rfl) ?_
        refine q_get (v := .ref (ad h)) (fs := standF ad g h op) X hK hP fX7_mayComeOn_20 h_g m_g rfl dX7_mayComeOn_88 ?_
        refine q_get (v := .ref (ad (h + 5))) (fs := hallF ad h hv) X hK hP fX7_mayComeOn_33 h_h m_h rfl dX7_mayComeOn_91 ?_
        refine lv_iload_n hx hb dX7_mayComeOn_94 rfl (lv_at hl 2 rfl) ?_
        refine lv_iconst (v := 3) hx hb dX7_mayComeOn_95 (by decide) ?_
        refine q_rdV (As := [.int x, .int 3]) (rest := []) (c_X8_at_ l D cB cI cJ ad n M (h + 5) (h + 6) 84 7 tf x 3 h_h_5 h_h_6 m_h_5 m_h_6 (by decide)) X hK hP hS hl.1 rfl gX7_mayComeOn_X8_at_ yd_X8_at_ ⟨Nat.le_of_ble_eq_true rfl, Nat.le_of_ble_eq_true rfl⟩ h_h_5 m_h_5 (ci := 8) rfl rfl (Nat.le_of_ble_eq_true rfl) ⟨Nat.zero_le _, Nat.zero_le _⟩ dX7_mayComeOn_96 ?_
        refine lv_istore (lv' := [(4, .int (tat 84 tf (x * 7 + 3))), (3, .int (taS plf (10 + y) nt)), (0, .ref (ad g)), (1, .int x), (2, .int y)]) hx hb dX7_mayComeOn_99 hl (by decide) rfl (fun ls hl => ?_)
        refine lv_aload_n hx hb dX7_mayComeOn_101 rfl (lv_at hl 2 rfl) ?_
        refine q_get (v := .ref (ad h)) (fs := standF ad g h op) X hK hP fX7_mayComeOn_20 h_g m_g rfl dX7_mayComeOn_102 ?_
        refine lv_iload_n hx hb dX7_mayComeOn_105 rfl (lv_at hl 1 rfl) ?_
        refine lv_aload_n hx hb dX7_mayComeOn_106 rfl (lv_at hl 2 rfl) ?_
        refine q_get (v := .ref (ad h)) (fs := standF ad g h op) X hK hP fX7_mayComeOn_20 h_g m_g rfl dX7_mayComeOn_107 ?_
        refine lv_iconst (v := 1) hx hb dX7_mayComeOn_110 (by decide) ?_
        refine q_rdV (As := [.int 1]) (rest := [.int (taS plf (10 + y) nt), .ref (ad h)]) (c_X0_ofKind l D cB cI cJ ad n M h nt hv tf 1 h_h h_h_5 h_h_6 m_h m_h_5 m_h_6 h7 hnt) X hK hP hS hl.1 rfl gX7_mayComeOn_X0_ofKind yd_X0_ofKind ⟨Nat.le_of_ble_eq_true rfl, Nat.le_of_ble_eq_true rfl⟩ h_h m_h (ci := 0) rfl rfl (Nat.le_of_ble_eq_true rfl) ⟨Nat.zero_le _, Nat.zero_le _⟩ dX7_mayComeOn_111 ?_
        refine lv_iconst (v := (-1)) hx hb dX7_mayComeOn_114 (by decide) ?_
        refine lv_ixor hx hb dX7_mayComeOn_115 ?_
        refine lv_iand hx hb dX7_mayComeOn_116 ?_
        refine lv_iconst (v := 3) hx hb dX7_mayComeOn_117 (by decide) ?_
        refine q_rdV (As := [.int ((taS plf (10 + y) nt) &&& ((okS tf 1 nt) ^^^ (-1))), .int 3]) (rest := []) (c_X0_sumOf l D cB cI cJ ad n M h nt hv tf ((taS plf (10 + y) nt) &&& ((okS tf 1 nt) ^^^ (-1))) 3 h_h h_h_5 h_h_6 m_h m_h_5 m_h_6 h7 hnt) X hK hP hS hl.1 rfl gX7_mayComeOn_X0_sumOf yd_X0_sumOf ⟨Nat.le_of_ble_eq_true rfl, Nat.le_of_ble_eq_true rfl⟩ h_h m_h (ci := 0) rfl rfl (Nat.le_of_ble_eq_true rfl) ⟨Nat.zero_le _, Nat.zero_le _⟩ dX7_mayComeOn_118 ?_
        refine lv_iload hx hb dX7_mayComeOn_121 (lv_at hl 0 rfl) ?_
        refine lv_iadd hx hb dX7_mayComeOn_123 ?_
        refine lv_istore (lv' := [(5, .int ((smS tf ((taS plf (10 + y) nt) &&& ((okS tf 1 nt) ^^^ (-1))) 3 nt) + (tat 84 tf (x * 7 + 3)))), (4, .int (tat 84 tf (x * 7 + 3))), (3, .int (taS plf (10 + y) nt)), (0, .ref (ad g)), (1, .int x), (2, .int y)]) hx hb dX7_mayComeOn_124 hl (by decide) rfl (fun ls hl => ?_)
        refine lv_iload hx hb dX7_mayComeOn_126 (lv_at hl 1 rfl) ?_
        refine lv_iconst (v := 2) hx hb dX7_mayComeOn_128 (by decide) ?_
        refine lv_icmp_gt (tgt := 153) hx hb dX7_mayComeOn_129 (by decide) (fun c_129 => ?_) (fun c_129 => ?_)
        · skip
          refine lv_iconst (v := 0) hx hb dX7_mayComeOn_153 (by decide) ?_
          exact q_zret X hr hlocks (rfl) (by rw [moS, if_neg c_1, if_pos c_12, if_neg c_39, if_pos c_129]) dX7_mayComeOn_154
        · skip
          refine lv_iload hx hb dX7_mayComeOn_132 (lv_at hl 0 rfl) ?_
          refine lv_aload_n hx hb dX7_mayComeOn_134 rfl (lv_at hl 3 rfl) ?_
          refine q_get (v := .ref (ad h)) (fs := standF ad g h op) X hK hP fX7_mayComeOn_20 h_g m_g rfl dX7_mayComeOn_135 ?_
          refine q_get (v := .ref (ad (h + 1))) (fs := hallF ad h hv) X hK hP fX7_mayComeOn_113 h_h m_h rfl dX7_mayComeOn_138 ?_
          refine lv_iload_n hx hb dX7_mayComeOn_141 rfl (lv_at hl 5 rfl) ?_
          refine lv_iconst (v := 1) hx hb dX7_mayComeOn_142 (by decide) ?_
          refine q_rdV (As := [.int y, .int 1]) (rest := [.int ((smS tf ((taS plf (10 + y) nt) &&& ((okS tf 1 nt) ^^^ (-1))) 3 nt) + (tat 84 tf (x * 7 + 3)))]) (c_X8_at_ l D cB cI cJ ad n M (h + 1) (h + 2) 12 3 pf y 1 h_h_1 h_h_2 m_h_1 m_h_2 (by decide)) X hK hP hS hl.1 rfl gX7_mayComeOn_X8_at_ yd_X8_at_ ⟨Nat.le_of_ble_eq_true rfl, Nat.le_of_ble_eq_true rfl⟩ h_h_1 m_h_1 (ci := 8) rfl rfl (Nat.le_of_ble_eq_true rfl) ⟨Nat.zero_le _, Nat.zero_le _⟩ dX7_mayComeOn_143 ?_
          refine lv_icmp_gt (tgt := 153) hx hb dX7_mayComeOn_146 (by decide) (fun c_146 => ?_) (fun c_146 => ?_)
          · skip
            refine lv_iconst (v := 0) hx hb dX7_mayComeOn_153 (by decide) ?_
            exact q_zret X hr hlocks (rfl) (by rw [moS, if_neg c_1, if_pos c_12, if_neg c_39, if_neg c_129, if_pos c_146]) dX7_mayComeOn_154
          · skip
            refine lv_iconst (v := 1) hx hb dX7_mayComeOn_149 (by decide) ?_
            refine lv_goto (tgt := 154) hx hb dX7_mayComeOn_150 (by decide) ?_
            exact q_zret X hr hlocks (rfl) (by rw [moS, if_neg c_1, if_pos c_12, if_neg c_39, if_neg c_129, if_neg c_146]) dX7_mayComeOn_154
      · skip
        refine lv_aload_n hx hb dX7_mayComeOn_42 rfl (lv_at hl 1 rfl) ?_
        refine q_get (v := .ref (ad h)) (fs := standF ad g h op) X hK hP fX7_mayComeOn_20 h_g m_g rfl dX7_mayComeOn_43 ?_
        refine lv_iload_n hx hb dX7_mayComeOn_46 rfl (lv_at hl 0 rfl) ?_
        refine lv_bipush (v := 6) hx hb dX7_mayComeOn_47 (by decide) ?_
        refine q_rdV (As := [.int (taS plf (10 + y) nt), .int 6]) (rest := []) (c_X0_sumOf l D cB cI cJ ad n M h nt hv tf (taS plf (10 + y) nt) 6 h_h h_h_5 h_h_6 m_h m_h_5 m_h_6 h7 hnt) X hK hP hS hl.1 rfl gX7_mayComeOn_X0_sumOf yd_X0_sumOf ⟨Nat.le_of_ble_eq_true rfl, Nat.le_of_ble_eq_true rfl⟩ h_h m_h (ci := 0) rfl rfl (Nat.le_of_ble_eq_true rfl) ⟨Nat.zero_le _, Nat.zero_le _⟩ dX7_mayComeOn_49 ?_
        refine lv_aload_n hx hb dX7_mayComeOn_52 rfl (lv_at hl 1 rfl) ?_
        refine q_get (v := .ref (ad h)) (fs := standF ad g h op) X hK hP fX7_mayComeOn_20 h_g m_g rfl dX7_mayComeOn_53 ?_
        refine q_get (v := .ref (ad (h + 5))) (fs := hallF ad h hv) X hK hP fX7_mayComeOn_33 h_h m_h rfl dX7_mayComeOn_56 ?_
        refine lv_iload_n hx hb dX7_mayComeOn_59 rfl (lv_at hl 2 rfl) ?_
        refine lv_bipush (v := 6) hx hb dX7_mayComeOn_60 (by decide) ?_
        refine q_rdV (As := [.int x, .int 6]) (rest := [.int (smS tf (taS plf (10 + y) nt) 6 nt)]) (c_X8_at_ l D cB cI cJ ad n M (h + 5) (h + 6) 84 7 tf x 6 h_h_5 h_h_6 m_h_5 m_h_6 (by decide)) X hK hP hS hl.1 rfl gX7_mayComeOn_X8_at_ yd_X8_at_ ⟨Nat.le_of_ble_eq_true rfl, Nat.le_of_ble_eq_true rfl⟩ h_h_5 m_h_5 (ci := 8) rfl rfl (Nat.le_of_ble_eq_true rfl) ⟨Nat.zero_le _, Nat.zero_le _⟩ dX7_mayComeOn_62 ?_
        refine lv_iadd hx hb dX7_mayComeOn_65 ?_
        refine lv_aload_n hx hb dX7_mayComeOn_66 rfl (lv_at hl 1 rfl) ?_
        refine q_get (v := .ref (ad h)) (fs := standF ad g h op) X hK hP fX7_mayComeOn_20 h_g m_g rfl dX7_mayComeOn_67 ?_
        refine q_get (v := .ref (ad (h + 1))) (fs := hallF ad h hv) X hK hP fX7_mayComeOn_113 h_h m_h rfl dX7_mayComeOn_70 ?_
        refine lv_iload_n hx hb dX7_mayComeOn_73 rfl (lv_at hl 3 rfl) ?_
        refine lv_iconst (v := 2) hx hb dX7_mayComeOn_74 (by decide) ?_
        refine q_rdV (As := [.int y, .int 2]) (rest := [.int ((smS tf (taS plf (10 + y) nt) 6 nt) + (tat 84 tf (x * 7 + 6)))]) (c_X8_at_ l D cB cI cJ ad n M (h + 1) (h + 2) 12 3 pf y 2 h_h_1 h_h_2 m_h_1 m_h_2 (by decide)) X hK hP hS hl.1 rfl gX7_mayComeOn_X8_at_ yd_X8_at_ ⟨Nat.le_of_ble_eq_true rfl, Nat.le_of_ble_eq_true rfl⟩ h_h_1 m_h_1 (ci := 8) rfl rfl (Nat.le_of_ble_eq_true rfl) ⟨Nat.zero_le _, Nat.zero_le _⟩ dX7_mayComeOn_75 ?_
        refine lv_icmp_gt (tgt := 85) hx hb dX7_mayComeOn_78 (by decide) (fun c_78 => ?_) (fun c_78 => ?_)
        · skip
          refine lv_iconst (v := 0) hx hb dX7_mayComeOn_85 (by decide) ?_
          exact q_zret X hr hlocks (rfl) (by rw [moS, if_neg c_1, if_pos c_12, if_pos c_39, if_pos c_78]) dX7_mayComeOn_86
        · skip
          refine lv_iconst (v := 1) hx hb dX7_mayComeOn_81 (by decide) ?_
          refine lv_goto (tgt := 86) hx hb dX7_mayComeOn_82 (by decide) ?_
          exact q_zret X hr hlocks (rfl) (by rw [moS, if_neg c_1, if_pos c_12, if_pos c_39, if_neg c_78]) dX7_mayComeOn_86
    · skip
      refine lv_iconst (v := 0) hx hb dX7_mayComeOn_15 (by decide) ?_
      exact q_zret X hr hlocks (rfl) (by rw [moS, if_neg c_1, if_neg c_12]) dX7_mayComeOn_16
set_option maxRecDepth 20000 in
theorem fX7_mayCome_14 : FL wsX7_mayCome RX7 14 7 1 := ⟨RX7, TX7, 3, rfl, by decide +kernel, by decide, by decide +kernel⟩
set_option maxRecDepth 20000 in
theorem fX7_mayCome_20 : FL wsX7_mayCome RX7 20 7 0 := ⟨RX7, TX7, 3, rfl, by decide +kernel, by decide, by decide +kernel⟩
theorem yd_X0_priceOf : YD yX0_priceOf 1 := ⟨by decide +kernel, by decide +kernel, by decide +kernel⟩
set_option maxRecDepth 20000 in
theorem fX7_mayCome_33 : FL wsX7_mayCome RX7 33 0 2 := ⟨RX0, TX0, 12, rfl, by decide +kernel, by decide, by decide +kernel⟩
theorem yd_X7_mayComeInto : YD yX7_mayComeInto 2 := ⟨by decide +kernel, by decide +kernel, by decide +kernel⟩
theorem yd_X7_mayComeOn : YD yX7_mayComeOn 2 := ⟨by decide +kernel, by decide +kernel, by decide +kernel⟩
def mcS (nt : Nat) (nq : Nat) (hv : Nat → Int32) (pf : Nat → Int32) (cf : Nat → Int32) (tf : Nat → Int32) (qf : Nat → Int32) (plf : Nat → Int32) (x : Int32) (y : Int32) : Int32 := if (tat 12 plf x) = y then 0 else if (tat 12 plf x) < 20 then if y = 20 then 1 else if y = 21 then if (prS qf (tat 84 tf (x * 7 + 1)) nq 0) = (-1) then 0 else 1 else if y = 22 then if (tat 84 tf (x * 7 + 0)) = 4 then 1 else 0 else if (miS nt hv cf tf plf x y) = 0 then if (moS nt hv pf tf plf x (y - 10)) = 0 then 0 else 1 else 1 else 0
set_option maxHeartbeats 4000000 in
set_option maxRecDepth 100000 in
theorem c_X7_mayCome (l : Launch) (D : va_G) (cB cI cJ : ClassId) (ad : Nat → Nat) (n : Nat) (M : Nat → va_E) (g h nt nc np nq : Nat) (op : Int32) (hv pf cf tf qf plf : Nat → Int32) (x y : Int32) (h_g : g < n) (h_g_1 : g + 1 < n) (h_g_2 : g + 2 < n) (h_h : h < n) (h_h_5 : h + 5 < n) (h_h_6 : h + 6 < n) (h_h_1 : h + 1 < n) (h_h_2 : h + 2 < n) (h_h_3 : h + 3 < n) (h_h_4 : h + 4 < n) (h_h_7 : h + 7 < n) (h_h_8 : h + 8 < n) (m_g : M g = .inr (7, standF ad g h op)) (m_g_1 : M (g + 1) = .inr (8, [.int 1, .ref (ad (g + 2))])) (m_g_2 : M (g + 2) = .inl (cI, 12, .inl plf)) (m_h : M h = .inr (0, hallF ad h hv)) (m_h_5 : M (h + 5) = .inr (8, [.int 7, .ref (ad (h + 6))])) (m_h_6 : M (h + 6) = .inl (cI, 84, .inl tf)) (m_h_1 : M (h + 1) = .inr (8, [.int 3, .ref (ad (h + 2))])) (m_h_2 : M (h + 2) = .inl (cI, 12, .inl pf)) (m_h_3 : M (h + 3) = .inr (8, [.int 5, .ref (ad (h + 4))])) (m_h_4 : M (h + 4) = .inl (cI, 25, .inl cf)) (m_h_7 : M (h + 7) = .inr (8, [.int 2, .ref (ad (h + 8))])) (m_h_8 : M (h + 8) = .inl (cI, 12, .inl qf)) (h7 : hv 7 = nI nt) (hnt : nt ≤ 12) (h6 : hv 6 = nI nc) (hnc : nc ≤ 5) (h5 : hv 5 = nI np) (hnp : np ≤ 4) (h8 : hv 8 = nI nq) (hnq : nq ≤ 6) : cR l D cB cI cJ ad n M yX7_mayCome wsX7_mayCome 3 72 [.ref (ad g), .int x, .int y] (mcS nt nq hv pf cf tf qf plf x y) := by
  refine q_body (cc := cX7_mayCome) (maxL := 4) (ret := (some .boolean)) (by decide) rfl (Nat.le_of_ble_eq_true rfl) ?_
  intro p e s m args below meth c ls X hr hlocks hK hP hl
  obtain ⟨hx, hb, hml, hown, hts⟩ := id X
  have hS : va_S (ipA ad n) s.heap s.heap [] := va_S.rf
  have hl : lv_has ls 4 [(0, .ref (ad g)), (1, .int x), (2, .int y)] := hl
  refine lv_aload_n hx hb dX7_mayCome_0 rfl (lv_at hl 0 rfl) ?_
  refine q_get (v := .ref (ad (g + 1))) (fs := standF ad g h op) X hK hP fX7_mayCome_14 h_g m_g rfl dX7_mayCome_1 ?_
  refine lv_iload_n hx hb dX7_mayCome_4 rfl (lv_at hl 1 rfl) ?_
  refine q_rdV (As := [.int x]) (rest := []) (c_X8_at l D cB cI cJ ad n M (g + 1) (g + 2) 12 1 plf x h_g_1 h_g_2 m_g_1 m_g_2 (by decide)) X hK hP hS hl.1 rfl gX7_mayCome_X8_at yd_X8_at ⟨Nat.le_of_ble_eq_true rfl, Nat.le_of_ble_eq_true rfl⟩ h_g_1 m_g_1 (ci := 8) rfl rfl (Nat.le_of_ble_eq_true rfl) ⟨Nat.zero_le _, Nat.zero_le _⟩ dX7_mayCome_5 ?_
  refine lv_istore_n (lv' := [(3, .int (tat 12 plf x)), (0, .ref (ad g)), (1, .int x), (2, .int y)]) hx hb dX7_mayCome_8 rfl hl (by decide) rfl (fun ls hl => ?_)
  refine lv_iload_n hx hb dX7_mayCome_9 rfl (lv_at hl 0 rfl) ?_
  refine lv_iload_n hx hb dX7_mayCome_10 rfl (lv_at hl 3 rfl) ?_
  refine lv_icmp_eq (tgt := 20) hx hb dX7_mayCome_11 (by decide) (fun c_11 => ?_) (fun c_11 => ?_)
  · skip
    refine lv_iconst (v := 0) hx hb dX7_mayCome_20 (by decide) ?_
    exact q_zret X hr hlocks (rfl) (by rw [mcS, if_pos c_11]) dX7_mayCome_21
  · skip
    refine lv_iload_n hx hb dX7_mayCome_14 rfl (lv_at hl 0 rfl) ?_
    refine lv_bipush (v := 20) hx hb dX7_mayCome_15 (by decide) ?_
    refine lv_icmp_lt (tgt := 22) hx hb dX7_mayCome_17 (by decide) (fun c_17 => ?_) (fun c_17 => ?_)
    · skip
      refine lv_iload_n hx hb dX7_mayCome_22 rfl (lv_at hl 3 rfl) ?_
      by_cases c_23_0 : y = 20
      · refine lv_tableIn (off := 25) (tgt := 48) hx hb dX7_mayCome_23 (by rw [c_23_0]; decide) (by rw [c_23_0]; decide) (by rw [c_23_0]; decide) (by decide) ?_
        refine lv_iconst (v := 1) hx hb dX7_mayCome_48 (by decide) ?_
        exact q_zret X hr hlocks (rfl) (by rw [mcS, if_neg c_11, if_pos c_17, if_pos c_23_0]) dX7_mayCome_49
      by_cases c_23_1 : y = 21
      · refine lv_tableIn (off := 27) (tgt := 50) hx hb dX7_mayCome_23 (by rw [c_23_1]; decide) (by rw [c_23_1]; decide) (by rw [c_23_1]; decide) (by decide) ?_
        refine lv_aload_n hx hb dX7_mayCome_50 rfl (lv_at hl 1 rfl) ?_
        refine q_get (v := .ref (ad h)) (fs := standF ad g h op) X hK hP fX7_mayCome_20 h_g m_g rfl dX7_mayCome_51 ?_
        refine lv_iload_n hx hb dX7_mayCome_54 rfl (lv_at hl 2 rfl) ?_
        refine q_rdV (As := [.int x]) (rest := []) (c_X0_priceOf l D cB cI cJ ad n M h nq hv tf qf x h_h h_h_5 h_h_6 h_h_7 h_h_8 m_h m_h_5 m_h_6 m_h_7 m_h_8 h8 hnq) X hK hP hS hl.1 rfl gX7_mayCome_X0_priceOf yd_X0_priceOf ⟨Nat.le_of_ble_eq_true rfl, Nat.le_of_ble_eq_true rfl⟩ h_h m_h (ci := 0) rfl rfl (Nat.le_of_ble_eq_true rfl) ⟨Nat.zero_le _, Nat.zero_le _⟩ dX7_mayCome_55 ?_
        refine lv_iconst (v := (-1)) hx hb dX7_mayCome_58 (by decide) ?_
        refine lv_icmp_eq (tgt := 66) hx hb dX7_mayCome_59 (by decide) (fun c_59 => ?_) (fun c_59 => ?_)
        · skip
          refine lv_iconst (v := 0) hx hb dX7_mayCome_66 (by decide) ?_
          exact q_zret X hr hlocks (rfl) (by rw [mcS, if_neg c_11, if_pos c_17, if_neg c_23_0, if_pos c_23_1, if_pos c_59]) dX7_mayCome_67
        · skip
          refine lv_iconst (v := 1) hx hb dX7_mayCome_62 (by decide) ?_
          refine lv_goto (tgt := 67) hx hb dX7_mayCome_63 (by decide) ?_
          exact q_zret X hr hlocks (rfl) (by rw [mcS, if_neg c_11, if_pos c_17, if_neg c_23_0, if_pos c_23_1, if_neg c_59]) dX7_mayCome_67
      by_cases c_23_2 : y = 22
      · refine lv_tableIn (off := 45) (tgt := 68) hx hb dX7_mayCome_23 (by rw [c_23_2]; decide) (by rw [c_23_2]; decide) (by rw [c_23_2]; decide) (by decide) ?_
        refine lv_aload_n hx hb dX7_mayCome_68 rfl (lv_at hl 1 rfl) ?_
        refine q_get (v := .ref (ad h)) (fs := standF ad g h op) X hK hP fX7_mayCome_20 h_g m_g rfl dX7_mayCome_69 ?_
        refine q_get (v := .ref (ad (h + 5))) (fs := hallF ad h hv) X hK hP fX7_mayCome_33 h_h m_h rfl dX7_mayCome_72 ?_
        refine lv_iload_n hx hb dX7_mayCome_75 rfl (lv_at hl 2 rfl) ?_
        refine lv_iconst (v := 0) hx hb dX7_mayCome_76 (by decide) ?_
        refine q_rdV (As := [.int x, .int 0]) (rest := []) (c_X8_at_ l D cB cI cJ ad n M (h + 5) (h + 6) 84 7 tf x 0 h_h_5 h_h_6 m_h_5 m_h_6 (by decide)) X hK hP hS hl.1 rfl gX7_mayCome_X8_at_ yd_X8_at_ ⟨Nat.le_of_ble_eq_true rfl, Nat.le_of_ble_eq_true rfl⟩ h_h_5 m_h_5 (ci := 8) rfl rfl (Nat.le_of_ble_eq_true rfl) ⟨Nat.zero_le _, Nat.zero_le _⟩ dX7_mayCome_77 ?_
        refine lv_iconst (v := 4) hx hb dX7_mayCome_80 (by decide) ?_
        refine lv_icmp_ne (tgt := 88) hx hb dX7_mayCome_81 (by decide) (fun c_81 => ?_) (fun c_81 => ?_)
        · skip
          refine lv_iconst (v := 0) hx hb dX7_mayCome_88 (by decide) ?_
          exact q_zret X hr hlocks (rfl) (by rw [mcS, if_neg c_11, if_pos c_17, if_neg c_23_0, if_neg c_23_1, if_pos c_23_2, if_neg c_81]) dX7_mayCome_89
        · skip
          refine lv_iconst (v := 1) hx hb dX7_mayCome_84 (by decide) ?_
          refine lv_goto (tgt := 89) hx hb dX7_mayCome_85 (by decide) ?_
          exact q_zret X hr hlocks (rfl) (by rw [mcS, if_neg c_11, if_pos c_17, if_neg c_23_0, if_neg c_23_1, if_pos c_23_2, if_pos c_81]) dX7_mayCome_89
      have n_0 := lv_neT (a := 20) c_23_0 (by decide); have n_1 := lv_neT (a := 21) c_23_1 (by decide); have n_2 := lv_neT (a := 22) c_23_2 (by decide)
      refine lv_tableOut (tgt := 90) hx hb dX7_mayCome_23 (by omega) (by decide) ?_
      refine lv_aload_n hx hb dX7_mayCome_90 rfl (lv_at hl 1 rfl) ?_
      refine lv_iload_n hx hb dX7_mayCome_91 rfl (lv_at hl 2 rfl) ?_
      refine lv_iload_n hx hb dX7_mayCome_92 rfl (lv_at hl 3 rfl) ?_
      refine q_rdV (As := [.int x, .int y]) (rest := []) (c_X7_mayComeInto l D cB cI cJ ad n M g h nt nc op hv cf tf plf x y h_g h_g_1 h_g_2 h_h h_h_5 h_h_6 h_h_3 h_h_4 m_g m_g_1 m_g_2 m_h m_h_5 m_h_6 m_h_3 m_h_4 h7 hnt h6 hnc) X hK hP hS hl.1 rfl gX7_mayCome_X7_mayComeInto yd_X7_mayComeInto ⟨Nat.le_of_ble_eq_true rfl, Nat.le_of_ble_eq_true rfl⟩ h_g m_g (ci := 7) rfl rfl (Nat.le_of_ble_eq_true rfl) ⟨Nat.zero_le _, Nat.zero_le _⟩ dX7_mayCome_93 ?_
      refine lv_if_ne (tgt := 111) hx hb dX7_mayCome_96 (by decide) (fun c_96 => ?_) (fun c_96 => ?_)
      · skip
        refine lv_iconst (v := 1) hx hb dX7_mayCome_111 (by decide) ?_
        refine lv_goto (tgt := 116) hx hb dX7_mayCome_112 (by decide) ?_
        exact q_zret X hr hlocks (rfl) (by rw [mcS, if_neg c_11, if_pos c_17, if_neg c_23_0, if_neg c_23_1, if_neg c_23_2, if_neg c_96]) dX7_mayCome_116
      · skip
        refine lv_aload_n hx hb dX7_mayCome_99 rfl (lv_at hl 1 rfl) ?_
        refine lv_iload_n hx hb dX7_mayCome_100 rfl (lv_at hl 2 rfl) ?_
        refine lv_iload_n hx hb dX7_mayCome_101 rfl (lv_at hl 3 rfl) ?_
        refine lv_bipush (v := 10) hx hb dX7_mayCome_102 (by decide) ?_
        refine lv_isub hx hb dX7_mayCome_104 ?_
        refine q_rdV (As := [.int x, .int (y - 10)]) (rest := []) (c_X7_mayComeOn l D cB cI cJ ad n M g h nt np op hv pf tf plf x (y - 10) h_g h_g_1 h_g_2 h_h h_h_5 h_h_6 h_h_1 h_h_2 m_g m_g_1 m_g_2 m_h m_h_5 m_h_6 m_h_1 m_h_2 h7 hnt h5 hnp) X hK hP hS hl.1 rfl gX7_mayCome_X7_mayComeOn yd_X7_mayComeOn ⟨Nat.le_of_ble_eq_true rfl, Nat.le_of_ble_eq_true rfl⟩ h_g m_g (ci := 7) rfl rfl (Nat.le_of_ble_eq_true rfl) ⟨Nat.zero_le _, Nat.zero_le _⟩ dX7_mayCome_105 ?_
        refine lv_if_eq (tgt := 115) hx hb dX7_mayCome_108 (by decide) (fun c_108 => ?_) (fun c_108 => ?_)
        · skip
          refine lv_iconst (v := 0) hx hb dX7_mayCome_115 (by decide) ?_
          exact q_zret X hr hlocks (rfl) (by rw [mcS, if_neg c_11, if_pos c_17, if_neg c_23_0, if_neg c_23_1, if_neg c_23_2, if_pos c_96, if_pos c_108]) dX7_mayCome_116
        · skip
          refine lv_iconst (v := 1) hx hb dX7_mayCome_111 (by decide) ?_
          refine lv_goto (tgt := 116) hx hb dX7_mayCome_112 (by decide) ?_
          exact q_zret X hr hlocks (rfl) (by rw [mcS, if_neg c_11, if_pos c_17, if_neg c_23_0, if_neg c_23_1, if_neg c_23_2, if_pos c_96, if_neg c_108]) dX7_mayCome_116
    · skip
      refine lv_iconst (v := 0) hx hb dX7_mayCome_20 (by decide) ?_
      exact q_zret X hr hlocks (rfl) (by rw [mcS, if_neg c_11, if_neg c_17]) dX7_mayCome_21
theorem yd_X7_leastOver : YD yX7_leastOver 0 := ⟨by decide +kernel, by decide +kernel, by decide +kernel⟩
set_option maxRecDepth 20000 in
theorem fX7_law_20 : FL wsX7_law RX7 20 7 0 := ⟨RX7, TX7, 3, rfl, by decide +kernel, by decide, by decide +kernel⟩
set_option maxRecDepth 20000 in
theorem fX7_law_85 : FL wsX7_law RX7 85 0 6 := ⟨RX0, TX0, 12, rfl, by decide +kernel, by decide, by decide +kernel⟩
set_option maxHeartbeats 4000000 in
set_option maxRecDepth 100000 in
theorem c_X7_law (l : Launch) (D : va_G) (cB cI cJ : ClassId) (ad : Nat → Nat) (n : Nat) (M : Nat → va_E) (g h nt nc : Nat) (op : Int32) (hv cf tf plf : Nat → Int32) (h_g : g < n) (h_g_1 : g + 1 < n) (h_g_2 : g + 2 < n) (h_h : h < n) (h_h_5 : h + 5 < n) (h_h_6 : h + 6 < n) (h_h_3 : h + 3 < n) (h_h_4 : h + 4 < n) (m_g : M g = .inr (7, standF ad g h op)) (m_g_1 : M (g + 1) = .inr (8, [.int 1, .ref (ad (g + 2))])) (m_g_2 : M (g + 2) = .inl (cI, 12, .inl plf)) (m_h : M h = .inr (0, hallF ad h hv)) (m_h_5 : M (h + 5) = .inr (8, [.int 7, .ref (ad (h + 6))])) (m_h_6 : M (h + 6) = .inl (cI, 84, .inl tf)) (m_h_3 : M (h + 3) = .inr (8, [.int 5, .ref (ad (h + 4))])) (m_h_4 : M (h + 4) = .inl (cI, 25, .inl cf)) (h7 : hv 7 = nI nt) (hnt : nt ≤ 12) (h6 : hv 6 = nI nc) (hnc : nc ≤ 5) : cR l D cB cI cJ ad n M yX7_law wsX7_law 5 110 [.ref (ad g)] (if loS (fun c => ovS nt cf tf plf (nI c)) nc 0 = -1 then lwS (fun c => taS plf (nI c) nt) (fun b k => hkS nt tf b k) nc 0 else 20 + loS (fun c => ovS nt cf tf plf (nI c)) nc 0) := by
  refine q_body (cc := cX7_law) (maxL := 4) (ret := (some .int)) (by decide) rfl (Nat.le_of_ble_eq_true rfl) ?_
  intro p e s m args below meth c ls X hr hlocks hK hP hl
  obtain ⟨hx, hb, hml, hown, hts⟩ := id X
  have hS : va_S (ipA ad n) s.heap s.heap [] := va_S.rf
  have hl : lv_has ls 4 [(0, .ref (ad g))] := hl
  refine lv_aload_n hx hb dX7_law_0 rfl (lv_at hl 0 rfl) ?_
  refine q_rdV (As := []) (rest := []) (c_X7_leastOver l D cB cI cJ ad n M g h nt nc op hv cf tf plf h_g h_g_1 h_g_2 h_h h_h_5 h_h_6 h_h_3 h_h_4 m_g m_g_1 m_g_2 m_h m_h_5 m_h_6 m_h_3 m_h_4 h7 hnt h6 hnc) X hK hP hS hl.1 rfl gX7_law_X7_leastOver yd_X7_leastOver ⟨Nat.le_of_ble_eq_true rfl, Nat.le_of_ble_eq_true rfl⟩ h_g m_g (ci := 7) rfl rfl (Nat.le_of_ble_eq_true rfl) ⟨Nat.zero_le _, Nat.zero_le _⟩ dX7_law_1 ?_
  refine lv_istore_n (lv' := [(1, .int (loS (fun c => ovS nt cf tf plf (nI c)) nc 0)), (0, .ref (ad g))]) hx hb dX7_law_4 rfl hl (by decide) rfl (fun ls hl => ?_)
  refine lv_iload_n hx hb dX7_law_5 rfl (lv_at hl 0 rfl) ?_
  refine lv_iconst (v := (-1)) hx hb dX7_law_6 (by decide) ?_
  refine lv_icmp_eq (tgt := 15) hx hb dX7_law_7 (by decide) (fun c_7 => ?_) (fun c_7 => ?_)
  · skip
    refine lv_iconst (v := 0) hx hb dX7_law_15 (by decide) ?_
    refine lv_istore_n (lv' := [(2, .int 0), (1, .int (loS (fun c => ovS nt cf tf plf (nI c)) nc 0)), (0, .ref (ad g))]) hx hb dX7_law_16 rfl hl (by decide) rfl (fun ls hl => ?_)
    have loop_17 : ∀ (fuel : Nat) (t : Nat) (x2 : Int32), nc - t < fuel → (t ≤ nc) → (lwS (fun c => taS plf (nI c) nt) (fun b k => hkS nt tf b k) (nc - t) t = lwS (fun c => taS plf (nI c) nt) (fun b k => hkS nt tf b k) nc 0) → x2 = nI t → ∀ (ls : Array Slot), lv_has ls 4 [(0, .ref (ad g)), (2, .int x2)] → W p l e (rmOf 5 110) s m args below meth c s.heap [] 0 0 (MQ below (vp_Si (fun r9 => r9 = (if loS (fun c => ovS nt cf tf plf (nI c)) nc 0 = -1 then lwS (fun c => taS plf (nI c) nt) (fun b k => hkS nt tf b k) nc 0 else 20 + loS (fun c => ovS nt cf tf plf (nI c)) nc 0))) args s 0 0 (fun _ => False)) (F0 m 17 ls []) := by
      intro fuel
      induction fuel with
      | zero =>
        intro t x2 hz
        exact absurd hz (Nat.not_lt_zero _)
      | succ fuel ih_17 =>
        intro t x2 hz_17 h_t hr9 e2 ls hl
        subst e2
        skip
        refine lv_iload_n hx hb dX7_law_17 rfl (lv_at hl 1 rfl) ?_
        refine lv_aload_n hx hb dX7_law_18 rfl (lv_at hl 0 rfl) ?_
        refine q_get (v := .ref (ad h)) (fs := standF ad g h op) X hK hP fX7_law_20 h_g m_g rfl dX7_law_19 ?_
        refine q_get (v := .int (hv 6)) (fs := hallF ad h hv) X hK hP fX7_law_85 h_h m_h rfl dX7_law_22 ?_
        refine lv_icmp_ge (tgt := 81) hx hb dX7_law_25 (by decide) (fun c_25 => ?_) (fun c_25 => ?_)
        · skip
          refine lv_iconst (v := 0) hx hb dX7_law_81 (by decide) ?_
          exact q_iret hb hx hr hlocks (by rw [h6] at c_25; have h9 : t = nc := eq_of_le c_25 (by omega) h_t; rw [if_pos c_7, ← hr9, h9, Nat.sub_self]; try rfl) dX7_law_82
        · skip
          refine lv_aload_n hx hb dX7_law_28 rfl (lv_at hl 0 rfl) ?_
          refine lv_iload_n hx hb dX7_law_29 rfl (lv_at hl 1 rfl) ?_
          refine q_rdV (As := [.int (nI t)]) (rest := []) (c_X7_thingsAt l D cB cI cJ ad n M g h nt op hv plf (nI t) h_g h_g_1 h_g_2 h_h m_g m_g_1 m_g_2 m_h h7 hnt) X hK hP hS hl.1 rfl gX7_law_X7_thingsAt yd_X7_thingsAt ⟨Nat.le_of_ble_eq_true rfl, Nat.le_of_ble_eq_true rfl⟩ h_g m_g (ci := 7) rfl rfl (Nat.le_of_ble_eq_true rfl) ⟨Nat.zero_le _, Nat.zero_le _⟩ dX7_law_30 ?_
          refine lv_istore_n (lv' := [(3, .int (taS plf (nI t) nt)), (0, .ref (ad g)), (2, .int (nI t))]) hx hb dX7_law_33 rfl hl (by decide) rfl (fun ls hl => ?_)
          refine lv_aload_n hx hb dX7_law_34 rfl (lv_at hl 1 rfl) ?_
          refine q_get (v := .ref (ad h)) (fs := standF ad g h op) X hK hP fX7_law_20 h_g m_g rfl dX7_law_35 ?_
          refine lv_iload_n hx hb dX7_law_38 rfl (lv_at hl 0 rfl) ?_
          refine lv_iconst (v := 3) hx hb dX7_law_39 (by decide) ?_
          refine q_rdV (As := [.int (taS plf (nI t) nt), .int 3]) (rest := []) (c_X0_hasKind l D cB cI cJ ad n M h nt hv tf (taS plf (nI t) nt) 3 h_h h_h_5 h_h_6 m_h m_h_5 m_h_6 h7 hnt) X hK hP hS hl.1 rfl gX7_law_X0_hasKind yd_X0_hasKind ⟨Nat.le_of_ble_eq_true rfl, Nat.le_of_ble_eq_true rfl⟩ h_h m_h (ci := 0) rfl rfl (Nat.le_of_ble_eq_true rfl) ⟨Nat.zero_le _, Nat.zero_le _⟩ dX7_law_40 ?_
          refine lv_if_eq (tgt := 75) hx hb dX7_law_43 (by decide) (fun c_43 => ?_) (fun c_43 => ?_)
          · skip
            refine lv_iinc (v := ((nI t) + 1)) (lv' := [(2, .int ((nI t) + 1)), (3, .int (taS plf (nI t) nt)), (0, .ref (ad g))]) hx hb dX7_law_75 hl (k := 2) rfl rfl (by decide) rfl (fun ls hl => ?_)
            refine lv_goto (tgt := 17) hx hb dX7_law_78 (by decide) ?_
            exact ih_17 (t + 1) ((nI t) + 1) (by rw [h6] at c_25; have h9_ := lt_of_nlt c_25 (by omega) h_t; omega) (by rw [h6] at c_25; have h9_ := lt_of_nlt c_25 (by omega) h_t; omega) (by rw [h6] at c_25; have h9 : t < nc := lt_of_nlt c_25 (by omega) h_t; rw [← hr9, show nc - t = (nc - (t + 1)) + 1 by omega, lwS]; first | rw [if_pos c_43] | rw [if_neg c_43, if_neg {c55}] | rw [if_neg c_43, if_pos {c55}, if_neg {c67}]) (by first | rfl | exact nI_0.symm | exact nI_1 _) ls (lv_sub hl [2, 0] rfl)
          · skip
            refine lv_aload_n hx hb dX7_law_46 rfl (lv_at hl 1 rfl) ?_
            refine q_get (v := .ref (ad h)) (fs := standF ad g h op) X hK hP fX7_law_20 h_g m_g rfl dX7_law_47 ?_
            refine lv_iload_n hx hb dX7_law_50 rfl (lv_at hl 0 rfl) ?_
            refine lv_iconst (v := 1) hx hb dX7_law_51 (by decide) ?_
            refine q_rdV (As := [.int (taS plf (nI t) nt), .int 1]) (rest := []) (c_X0_hasKind l D cB cI cJ ad n M h nt hv tf (taS plf (nI t) nt) 1 h_h h_h_5 h_h_6 m_h m_h_5 m_h_6 h7 hnt) X hK hP hS hl.1 rfl gX7_law_X0_hasKind yd_X0_hasKind ⟨Nat.le_of_ble_eq_true rfl, Nat.le_of_ble_eq_true rfl⟩ h_h m_h (ci := 0) rfl rfl (Nat.le_of_ble_eq_true rfl) ⟨Nat.zero_le _, Nat.zero_le _⟩ dX7_law_52 ?_
            refine lv_if_ne (tgt := 75) hx hb dX7_law_55 (by decide) (fun c_55 => ?_) (fun c_55 => ?_)
            · skip
              refine lv_iinc (v := ((nI t) + 1)) (lv' := [(2, .int ((nI t) + 1)), (3, .int (taS plf (nI t) nt)), (0, .ref (ad g))]) hx hb dX7_law_75 hl (k := 2) rfl rfl (by decide) rfl (fun ls hl => ?_)
              refine lv_goto (tgt := 17) hx hb dX7_law_78 (by decide) ?_
              exact ih_17 (t + 1) ((nI t) + 1) (by rw [h6] at c_25; have h9_ := lt_of_nlt c_25 (by omega) h_t; omega) (by rw [h6] at c_25; have h9_ := lt_of_nlt c_25 (by omega) h_t; omega) (by rw [h6] at c_25; have h9 : t < nc := lt_of_nlt c_25 (by omega) h_t; rw [← hr9, show nc - t = (nc - (t + 1)) + 1 by omega, lwS]; first | rw [if_pos c_43] | rw [if_neg c_43, if_neg c_55] | rw [if_neg c_43, if_pos c_55, if_neg {c67}]) (by first | rfl | exact nI_0.symm | exact nI_1 _) ls (lv_sub hl [2, 0] rfl)
            · skip
              refine lv_aload_n hx hb dX7_law_58 rfl (lv_at hl 1 rfl) ?_
              refine q_get (v := .ref (ad h)) (fs := standF ad g h op) X hK hP fX7_law_20 h_g m_g rfl dX7_law_59 ?_
              refine lv_iload_n hx hb dX7_law_62 rfl (lv_at hl 0 rfl) ?_
              refine lv_iconst (v := 5) hx hb dX7_law_63 (by decide) ?_
              refine q_rdV (As := [.int (taS plf (nI t) nt), .int 5]) (rest := []) (c_X0_hasKind l D cB cI cJ ad n M h nt hv tf (taS plf (nI t) nt) 5 h_h h_h_5 h_h_6 m_h m_h_5 m_h_6 h7 hnt) X hK hP hS hl.1 rfl gX7_law_X0_hasKind yd_X0_hasKind ⟨Nat.le_of_ble_eq_true rfl, Nat.le_of_ble_eq_true rfl⟩ h_h m_h (ci := 0) rfl rfl (Nat.le_of_ble_eq_true rfl) ⟨Nat.zero_le _, Nat.zero_le _⟩ dX7_law_64 ?_
              refine lv_if_ne (tgt := 75) hx hb dX7_law_67 (by decide) (fun c_67 => ?_) (fun c_67 => ?_)
              · skip
                refine lv_iinc (v := ((nI t) + 1)) (lv' := [(2, .int ((nI t) + 1)), (3, .int (taS plf (nI t) nt)), (0, .ref (ad g))]) hx hb dX7_law_75 hl (k := 2) rfl rfl (by decide) rfl (fun ls hl => ?_)
                refine lv_goto (tgt := 17) hx hb dX7_law_78 (by decide) ?_
                exact ih_17 (t + 1) ((nI t) + 1) (by rw [h6] at c_25; have h9_ := lt_of_nlt c_25 (by omega) h_t; omega) (by rw [h6] at c_25; have h9_ := lt_of_nlt c_25 (by omega) h_t; omega) (by rw [h6] at c_25; have h9 : t < nc := lt_of_nlt c_25 (by omega) h_t; rw [← hr9, show nc - t = (nc - (t + 1)) + 1 by omega, lwS]; first | rw [if_pos c_43] | rw [if_neg c_43, if_neg c_55] | rw [if_neg c_43, if_pos c_55, if_neg c_67]) (by first | rfl | exact nI_0.symm | exact nI_1 _) ls (lv_sub hl [2, 0] rfl)
              · skip
                refine lv_bipush (v := 10) hx hb dX7_law_70 (by decide) ?_
                refine lv_iload_n hx hb dX7_law_72 rfl (lv_at hl 2 rfl) ?_
                refine lv_iadd hx hb dX7_law_73 ?_
                exact q_iret hb hx hr hlocks (by rw [h6] at c_25; have h9 : t < nc := lt_of_nlt c_25 (by omega) h_t; rw [if_pos c_7, ← hr9, show nc - t = (nc - (t + 1)) + 1 by omega, lwS, if_neg c_43, if_pos c_55, if_pos c_67]) dX7_law_74
    exact loop_17 (nc + 1) 0 0 (by omega) (by omega) (by rfl) (by first | rfl | exact nI_0.symm | exact nI_1 _) ls (lv_sub hl [2, 0] rfl)
  · skip
    refine lv_bipush (v := 20) hx hb dX7_law_10 (by decide) ?_
    refine lv_iload_n hx hb dX7_law_12 rfl (lv_at hl 0 rfl) ?_
    refine lv_iadd hx hb dX7_law_13 ?_
    exact q_iret hb hx hr hlocks (by rw [if_neg c_7]) dX7_law_14
set_option maxRecDepth 20000 in
theorem fX7_feeWith_20 : FL wsX7_feeWith RX7 20 7 0 := ⟨RX7, TX7, 3, rfl, by decide +kernel, by decide, by decide +kernel⟩
set_option maxRecDepth 20000 in
theorem fX7_feeWith_70 : FL wsX7_feeWith RX7 70 0 4 := ⟨RX0, TX0, 12, rfl, by decide +kernel, by decide, by decide +kernel⟩
set_option maxRecDepth 20000 in
theorem fX7_feeWith_59 : FL wsX7_feeWith RX7 59 0 1 := ⟨RX0, TX0, 12, rfl, by decide +kernel, by decide, by decide +kernel⟩
theorem yd_J6_bitCount_0f7a4 : YD yJ6_bitCount_0f7a4 1 := ⟨by decide +kernel, by decide +kernel, by decide +kernel⟩
theorem yd_X5_feeFor : YD yX5_feeFor 4 := ⟨by decide +kernel, by decide +kernel, by decide +kernel⟩
set_option maxHeartbeats 4000000 in
set_option maxRecDepth 100000 in
theorem c_X7_feeWith (l : Launch) (D : va_G) (cB cI cJ : ClassId) (ad : Nat → Nat) (n : Nat) (M : Nat → va_E) (hI : ipI ad n) (g h nl nt : Nat) (op td hg : Int32) (hv cf tf rf vf sf : Nat → Int32) (x b : Int32) (h_g : g < n) (h_h : h < n) (h_h_3 : h + 3 < n) (h_h_4 : h + 4 < n) (h_h_5 : h + 5 < n) (h_h_6 : h + 6 < n) (h_h_9 : h + 9 < n) (h_h_10 : h + 10 < n) (h_h_11 : h + 11 < n) (h_h_12 : h + 12 < n) (h_h_13 : h + 13 < n) (h_h_14 : h + 14 < n) (h_h_15 : h + 15 < n) (m_g : M g = .inr (7, standF ad g h op)) (m_h : M h = .inr (0, hallF ad h hv)) (m_h_3 : M (h + 3) = .inr (8, [.int 5, .ref (ad (h + 4))])) (m_h_4 : M (h + 4) = .inl (cI, 25, .inl cf)) (m_h_5 : M (h + 5) = .inr (8, [.int 7, .ref (ad (h + 6))])) (m_h_6 : M (h + 6) = .inl (cI, 84, .inl tf)) (m_h_9 : M (h + 9) = .inr (5, ruleF ad (h + 9) (nI nl) td hg)) (m_h_10 : M (h + 10) = .inr (8, [.int 1, .ref (ad (h + 9 + 2))])) (m_h_11 : M (h + 11) = .inl (cI, 700, .inl rf)) (m_h_12 : M (h + 12) = .inr (8, [.int 1, .ref (ad (h + 9 + 4))])) (m_h_13 : M (h + 13) = .inl (cI, 5, .inl vf)) (m_h_14 : M (h + 14) = .inr (8, [.int 1, .ref (ad (h + 9 + 6))])) (m_h_15 : M (h + 15) = .inl (cI, 31, .inl sf)) (h7 : hv 7 = nI nt) (hnt : nt ≤ 12) (hnl : nl ≤ 700) (hOK : ruleOK nl rf td) : cWi l D cB cI cJ ad n M yX7_feeWith wsX7_feeWith 3 69 [.ref (ad g), .int x, .int b] (fun r M' => ∃ (vf2 sf2 : Nat → Int32) (hg2 : Int32), r = feeS nl rf td (smS tf b 1 nt) (tat 25 cf (x * 5 + 1)) (bcI b) (tat 25 cf (x * 5 + 4)) ∧ M' (h + 13) = .inl (cI, 5, .inl vf2) ∧ M' (h + 15) = .inl (cI, 31, .inl sf2) ∧ M' (h + 9) = .inr (5, ruleF ad (h + 9) (nI nl) td hg2) ∧ ∀ q : Nat, q ≠ h + 13 → q ≠ h + 15 → q ≠ h + 9 → M' q = M q) := by
  refine q_body (cc := cX7_feeWith) (maxL := 3) (ret := (some .int)) (by decide) rfl (Nat.le_of_ble_eq_true rfl) ?_
  intro p e s m args below meth c ls X hr hlocks hK hP hl
  obtain ⟨hx, hb, hml, hown, hts⟩ := id X
  have hS : va_S (ipA ad n) s.heap s.heap [] := va_S.rf
  have hl : lv_has ls 3 [(0, .ref (ad g)), (1, .int x), (2, .int b)] := hl
  refine lv_aload_n hx hb dX7_feeWith_0 rfl (lv_at hl 0 rfl) ?_
  refine q_get (v := .ref (ad h)) (fs := standF ad g h op) X hK hP fX7_feeWith_20 h_g m_g rfl dX7_feeWith_1 ?_
  refine q_get (v := .ref (ad (h + 9))) (fs := hallF ad h hv) X hK hP fX7_feeWith_70 h_h m_h rfl dX7_feeWith_4 ?_
  refine lv_aload_n hx hb dX7_feeWith_7 rfl (lv_at hl 0 rfl) ?_
  refine q_get (v := .ref (ad h)) (fs := standF ad g h op) X hK hP fX7_feeWith_20 h_g m_g rfl dX7_feeWith_8 ?_
  refine lv_iload_n hx hb dX7_feeWith_11 rfl (lv_at hl 2 rfl) ?_
  refine lv_iconst (v := 1) hx hb dX7_feeWith_12 (by decide) ?_
  refine q_rdV (As := [.int b, .int 1]) (rest := [.ref (ad (h + 9))]) (c_X0_sumOf l D cB cI cJ ad n M h nt hv tf b 1 h_h h_h_5 h_h_6 m_h m_h_5 m_h_6 h7 hnt) X hK hP hS hl.1 rfl gX7_feeWith_X0_sumOf yd_X0_sumOf ⟨Nat.le_of_ble_eq_true rfl, Nat.le_of_ble_eq_true rfl⟩ h_h m_h (ci := 0) rfl rfl (Nat.le_of_ble_eq_true rfl) ⟨Nat.zero_le _, Nat.zero_le _⟩ dX7_feeWith_13 ?_
  refine lv_aload_n hx hb dX7_feeWith_16 rfl (lv_at hl 0 rfl) ?_
  refine q_get (v := .ref (ad h)) (fs := standF ad g h op) X hK hP fX7_feeWith_20 h_g m_g rfl dX7_feeWith_17 ?_
  refine q_get (v := .ref (ad (h + 3))) (fs := hallF ad h hv) X hK hP fX7_feeWith_59 h_h m_h rfl dX7_feeWith_20 ?_
  refine lv_iload_n hx hb dX7_feeWith_23 rfl (lv_at hl 1 rfl) ?_
  refine lv_iconst (v := 1) hx hb dX7_feeWith_24 (by decide) ?_
  refine q_rdV (As := [.int x, .int 1]) (rest := [.int (smS tf b 1 nt), .ref (ad (h + 9))]) (c_X8_at_ l D cB cI cJ ad n M (h + 3) (h + 4) 25 5 cf x 1 h_h_3 h_h_4 m_h_3 m_h_4 (by decide)) X hK hP hS hl.1 rfl gX7_feeWith_X8_at_ yd_X8_at_ ⟨Nat.le_of_ble_eq_true rfl, Nat.le_of_ble_eq_true rfl⟩ h_h_3 m_h_3 (ci := 8) rfl rfl (Nat.le_of_ble_eq_true rfl) ⟨Nat.zero_le _, Nat.zero_le _⟩ dX7_feeWith_25 ?_
  refine lv_iload_n hx hb dX7_feeWith_28 rfl (lv_at hl 2 rfl) ?_
  refine q_rdS (As := [.int b]) (rest := [.int (tat 25 cf (x * 5 + 1)), .int (smS tf b 1 nt), .ref (ad (h + 9))]) (c_J6_bitCount_0f7a4 l D cB cI cJ ad n M b   ) X hK hP hS hl.1 rfl gX7_feeWith_J6_bitCount_0f7a4 yd_J6_bitCount_0f7a4 ⟨Nat.le_of_ble_eq_true rfl, Nat.le_of_ble_eq_true rfl⟩ rfl (Nat.le_of_ble_eq_true rfl) ⟨Nat.zero_le _, Nat.zero_le _⟩ dX7_feeWith_29 ?_
  refine lv_aload_n hx hb dX7_feeWith_32 rfl (lv_at hl 0 rfl) ?_
  refine q_get (v := .ref (ad h)) (fs := standF ad g h op) X hK hP fX7_feeWith_20 h_g m_g rfl dX7_feeWith_33 ?_
  refine q_get (v := .ref (ad (h + 3))) (fs := hallF ad h hv) X hK hP fX7_feeWith_59 h_h m_h rfl dX7_feeWith_36 ?_
  refine lv_iload_n hx hb dX7_feeWith_39 rfl (lv_at hl 1 rfl) ?_
  refine lv_iconst (v := 4) hx hb dX7_feeWith_40 (by decide) ?_
  refine q_rdV (As := [.int x, .int 4]) (rest := [.int (bcI b), .int (tat 25 cf (x * 5 + 1)), .int (smS tf b 1 nt), .ref (ad (h + 9))]) (c_X8_at_ l D cB cI cJ ad n M (h + 3) (h + 4) 25 5 cf x 4 h_h_3 h_h_4 m_h_3 m_h_4 (by decide)) X hK hP hS hl.1 rfl gX7_feeWith_X8_at_ yd_X8_at_ ⟨Nat.le_of_ble_eq_true rfl, Nat.le_of_ble_eq_true rfl⟩ h_h_3 m_h_3 (ci := 8) rfl rfl (Nat.le_of_ble_eq_true rfl) ⟨Nat.zero_le _, Nat.zero_le _⟩ dX7_feeWith_41 ?_
  refine q_wrVi (As := [.int (smS tf b 1 nt), .int (tat 25 cf (x * 5 + 1)), .int (bcI b), .int (tat 25 cf (x * 5 + 4))]) (rest := []) (c_X5_feeFor l D cB cI cJ ad n M hI (h + 9) nl td hg (smS tf b 1 nt) (tat 25 cf (x * 5 + 1)) (bcI b) (tat 25 cf (x * 5 + 4)) rf vf sf h_h_9 h_h_10 h_h_11 h_h_12 h_h_13 h_h_14 h_h_15 m_h_9 m_h_10 m_h_11 m_h_12 m_h_13 m_h_14 m_h_15 hnl hOK) X hK hP hS hl.1 rfl gX7_feeWith_X5_feeFor yd_X5_feeFor ⟨Nat.le_of_ble_eq_true rfl, Nat.le_of_ble_eq_true rfl⟩ h_h_9 m_h_9 (ci := 5) rfl rfl (Nat.le_of_ble_eq_true rfl) ⟨Nat.zero_le _, Nat.zero_le _⟩ dX7_feeWith_44 (fun r3 M2 H locs hp1 hP hS => ?_)
  obtain ⟨vf2_4, sf2_5, hg2_6, rfl, g7, g8, g9, fr10⟩ := hp1
  exact q_wzret X hr hlocks hP hS (rfl) ⟨_, _, _, (by rfl), g7, g8, g9, (fun q n0 n1 n2 => (fr10 q n0 n1 n2))⟩ dX7_feeWith_47
theorem yd_X7_feeWith : YD yX7_feeWith 2 := ⟨by decide +kernel, by decide +kernel, by decide +kernel⟩
set_option maxHeartbeats 4000000 in
set_option maxRecDepth 100000 in
theorem c_X7_feeOf (l : Launch) (D : va_G) (cB cI cJ : ClassId) (ad : Nat → Nat) (n : Nat) (M : Nat → va_E) (hI : ipI ad n) (g h nl nt : Nat) (op td hg : Int32) (hv cf tf rf vf sf plf : Nat → Int32) (x : Int32) (h_g : g < n) (h_h : h < n) (h_h_3 : h + 3 < n) (h_h_4 : h + 4 < n) (h_h_5 : h + 5 < n) (h_h_6 : h + 6 < n) (h_h_9 : h + 9 < n) (h_h_10 : h + 10 < n) (h_h_11 : h + 11 < n) (h_h_12 : h + 12 < n) (h_h_13 : h + 13 < n) (h_h_14 : h + 14 < n) (h_h_15 : h + 15 < n) (h_g_1 : g + 1 < n) (h_g_2 : g + 2 < n) (m_g : M g = .inr (7, standF ad g h op)) (m_h : M h = .inr (0, hallF ad h hv)) (m_h_3 : M (h + 3) = .inr (8, [.int 5, .ref (ad (h + 4))])) (m_h_4 : M (h + 4) = .inl (cI, 25, .inl cf)) (m_h_5 : M (h + 5) = .inr (8, [.int 7, .ref (ad (h + 6))])) (m_h_6 : M (h + 6) = .inl (cI, 84, .inl tf)) (m_h_9 : M (h + 9) = .inr (5, ruleF ad (h + 9) (nI nl) td hg)) (m_h_10 : M (h + 10) = .inr (8, [.int 1, .ref (ad (h + 9 + 2))])) (m_h_11 : M (h + 11) = .inl (cI, 700, .inl rf)) (m_h_12 : M (h + 12) = .inr (8, [.int 1, .ref (ad (h + 9 + 4))])) (m_h_13 : M (h + 13) = .inl (cI, 5, .inl vf)) (m_h_14 : M (h + 14) = .inr (8, [.int 1, .ref (ad (h + 9 + 6))])) (m_h_15 : M (h + 15) = .inl (cI, 31, .inl sf)) (m_g_1 : M (g + 1) = .inr (8, [.int 1, .ref (ad (g + 2))])) (m_g_2 : M (g + 2) = .inl (cI, 12, .inl plf)) (h7 : hv 7 = nI nt) (hnt : nt ≤ 12) (hnl : nl ≤ 700) (hOK : ruleOK nl rf td) : cWi l D cB cI cJ ad n M yX7_feeOf wsX7_feeOf 4 91 [.ref (ad g), .int x] (fun r M' => ∃ (vf2 sf2 : Nat → Int32) (hg2 : Int32), r = feeS nl rf td (smS tf (taS plf x nt) 1 nt) (tat 25 cf (x * 5 + 1)) (bcI (taS plf x nt)) (tat 25 cf (x * 5 + 4)) ∧ M' (h + 13) = .inl (cI, 5, .inl vf2) ∧ M' (h + 15) = .inl (cI, 31, .inl sf2) ∧ M' (h + 9) = .inr (5, ruleF ad (h + 9) (nI nl) td hg2) ∧ ∀ q : Nat, q ≠ h + 13 → q ≠ h + 15 → q ≠ h + 9 → M' q = M q) := by
  refine q_body (cc := cX7_feeOf) (maxL := 2) (ret := (some .int)) (by decide) rfl (Nat.le_of_ble_eq_true rfl) ?_
  intro p e s m args below meth c ls X hr hlocks hK hP hl
  obtain ⟨hx, hb, hml, hown, hts⟩ := id X
  have hS : va_S (ipA ad n) s.heap s.heap [] := va_S.rf
  have hl : lv_has ls 2 [(0, .ref (ad g)), (1, .int x)] := hl
  refine lv_aload_n hx hb dX7_feeOf_0 rfl (lv_at hl 0 rfl) ?_
  refine lv_iload_n hx hb dX7_feeOf_1 rfl (lv_at hl 1 rfl) ?_
  refine lv_aload_n hx hb dX7_feeOf_2 rfl (lv_at hl 0 rfl) ?_
  refine lv_iload_n hx hb dX7_feeOf_3 rfl (lv_at hl 1 rfl) ?_
  refine q_rdV (As := [.int x]) (rest := [.int x, .ref (ad g)]) (c_X7_thingsAt l D cB cI cJ ad n M g h nt op hv plf x h_g h_g_1 h_g_2 h_h m_g m_g_1 m_g_2 m_h h7 hnt) X hK hP hS hl.1 rfl gX7_feeOf_X7_thingsAt yd_X7_thingsAt ⟨Nat.le_of_ble_eq_true rfl, Nat.le_of_ble_eq_true rfl⟩ h_g m_g (ci := 7) rfl rfl (Nat.le_of_ble_eq_true rfl) ⟨Nat.zero_le _, Nat.zero_le _⟩ dX7_feeOf_4 ?_
  refine q_wrVi (As := [.int x, .int (taS plf x nt)]) (rest := []) (c_X7_feeWith l D cB cI cJ ad n M hI g h nl nt op td hg hv cf tf rf vf sf x (taS plf x nt) h_g h_h h_h_3 h_h_4 h_h_5 h_h_6 h_h_9 h_h_10 h_h_11 h_h_12 h_h_13 h_h_14 h_h_15 m_g m_h m_h_3 m_h_4 m_h_5 m_h_6 m_h_9 m_h_10 m_h_11 m_h_12 m_h_13 m_h_14 m_h_15 h7 hnt hnl hOK) X hK hP hS hl.1 rfl gX7_feeOf_X7_feeWith yd_X7_feeWith ⟨Nat.le_of_ble_eq_true rfl, Nat.le_of_ble_eq_true rfl⟩ h_g m_g (ci := 7) rfl rfl (Nat.le_of_ble_eq_true rfl) ⟨Nat.zero_le _, Nat.zero_le _⟩ dX7_feeOf_7 (fun r3 M2 H locs hp1 hP hS => ?_)
  obtain ⟨vf2_4, sf2_5, hg2_6, rfl, g7, g8, g9, fr10⟩ := hp1
  exact q_wzret X hr hlocks hP hS (rfl) ⟨_, _, _, (by rfl), g7, g8, g9, (fun q n0 n1 n2 => (fr10 q n0 n1 n2))⟩ dX7_feeOf_10
set_option maxRecDepth 20000 in
theorem fX7_total_20 : FL wsX7_total RX7 20 7 0 := ⟨RX7, TX7, 3, rfl, by decide +kernel, by decide, by decide +kernel⟩
set_option maxRecDepth 20000 in
theorem fX7_total_85 : FL wsX7_total RX7 85 0 6 := ⟨RX0, TX0, 12, rfl, by decide +kernel, by decide, by decide +kernel⟩
set_option maxRecDepth 20000 in
theorem fX7_total_28 : FL wsX7_total RX7 28 0 7 := ⟨RX0, TX0, 12, rfl, by decide +kernel, by decide, by decide +kernel⟩
set_option maxRecDepth 20000 in
theorem fX7_total_14 : FL wsX7_total RX7 14 7 1 := ⟨RX7, TX7, 3, rfl, by decide +kernel, by decide, by decide +kernel⟩
set_option maxRecDepth 20000 in
theorem fX7_total_33 : FL wsX7_total RX7 33 0 2 := ⟨RX0, TX0, 12, rfl, by decide +kernel, by decide, by decide +kernel⟩
set_option maxRecDepth 20000 in
theorem fX7_total_24 : FL wsX7_total RX7 24 7 2 := ⟨RX7, TX7, 3, rfl, by decide +kernel, by decide, by decide +kernel⟩
set_option maxRecDepth 20000 in
theorem fX7_total_59 : FL wsX7_total RX7 59 0 1 := ⟨RX0, TX0, 12, rfl, by decide +kernel, by decide, by decide +kernel⟩
set_option maxHeartbeats 4000000 in
set_option maxRecDepth 100000 in
theorem c_X7_total (l : Launch) (D : va_G) (cB cI cJ : ClassId) (ad : Nat → Nat) (n : Nat) (M : Nat → va_E) (hI : ipI ad n) (g h nl nt nc nq : Nat) (op td hg : Int32) (hv cf tf qf rf vf sf plf : Nat → Int32) (h_g : g < n) (h_h : h < n) (h_h_3 : h + 3 < n) (h_h_4 : h + 4 < n) (h_h_5 : h + 5 < n) (h_h_6 : h + 6 < n) (h_h_9 : h + 9 < n) (h_h_10 : h + 10 < n) (h_h_11 : h + 11 < n) (h_h_12 : h + 12 < n) (h_h_13 : h + 13 < n) (h_h_14 : h + 14 < n) (h_h_15 : h + 15 < n) (h_g_1 : g + 1 < n) (h_g_2 : g + 2 < n) (h_h_7 : h + 7 < n) (h_h_8 : h + 8 < n) (m_g : M g = .inr (7, standF ad g h op)) (m_h : M h = .inr (0, hallF ad h hv)) (m_h_3 : M (h + 3) = .inr (8, [.int 5, .ref (ad (h + 4))])) (m_h_4 : M (h + 4) = .inl (cI, 25, .inl cf)) (m_h_5 : M (h + 5) = .inr (8, [.int 7, .ref (ad (h + 6))])) (m_h_6 : M (h + 6) = .inl (cI, 84, .inl tf)) (m_h_9 : M (h + 9) = .inr (5, ruleF ad (h + 9) (nI nl) td hg)) (m_h_10 : M (h + 10) = .inr (8, [.int 1, .ref (ad (h + 9 + 2))])) (m_h_11 : M (h + 11) = .inl (cI, 700, .inl rf)) (m_h_12 : M (h + 12) = .inr (8, [.int 1, .ref (ad (h + 9 + 4))])) (m_h_13 : M (h + 13) = .inl (cI, 5, .inl vf)) (m_h_14 : M (h + 14) = .inr (8, [.int 1, .ref (ad (h + 9 + 6))])) (m_h_15 : M (h + 15) = .inl (cI, 31, .inl sf)) (m_g_1 : M (g + 1) = .inr (8, [.int 1, .ref (ad (g + 2))])) (m_g_2 : M (g + 2) = .inl (cI, 12, .inl plf)) (m_h_7 : M (h + 7) = .inr (8, [.int 2, .ref (ad (h + 8))])) (m_h_8 : M (h + 8) = .inl (cI, 12, .inl qf)) (h7 : hv 7 = nI nt) (hnt : nt ≤ 12) (h6 : hv 6 = nI nc) (hnc : nc ≤ 5) (h8 : hv 8 = nI nq) (hnq : nq ≤ 6) (hnl : nl ≤ 700) (hOK : ruleOK nl rf td) (hgh : g + 2 < h ∨ h + 15 < g) : cWi l D cB cI cJ ad n M yX7_total wsX7_total 4 91 [.ref (ad g)] (fun r M' => ∃ (vf2 sf2 : Nat → Int32) (hg2 : Int32), r = ttS (fun t => tat 12 plf (nI t)) (fun t => prS qf (tat 84 tf (nI t * 7 + 1)) nq 0) (fun t => tat 84 tf (nI t * 7 + 4)) (tcS (fun c => feeS nl rf td (smS tf (taS plf (nI c) nt) 1 nt) (tat 25 cf (nI c * 5 + 1)) (bcI (taS plf (nI c) nt)) (tat 25 cf (nI c * 5 + 4))) (fun c => tat 25 cf (nI c * 5 + 3)) op nc) nt ∧ M' (h + 13) = .inl (cI, 5, .inl vf2) ∧ M' (h + 15) = .inl (cI, 31, .inl sf2) ∧ M' (h + 9) = .inr (5, ruleF ad (h + 9) (nI nl) td hg2) ∧ ∀ q : Nat, q ≠ h + 13 → q ≠ h + 15 → q ≠ h + 9 → M' q = M q) := by
  refine q_body (cc := cX7_total) (maxL := 3) (ret := (some .int)) (by decide) rfl (Nat.le_of_ble_eq_true rfl) ?_
  intro p e s m args below meth c ls X hr hlocks hK hP hl
  obtain ⟨hx, hb, hml, hown, hts⟩ := id X
  have hS : va_S (ipA ad n) s.heap s.heap [] := va_S.rf
  have hl : lv_has ls 3 [(0, .ref (ad g))] := hl
  refine lv_iconst (v := 0) hx hb dX7_total_0 (by decide) ?_
  refine lv_istore_n (lv' := [(1, .int 0), (0, .ref (ad g))]) hx hb dX7_total_1 rfl hl (by decide) rfl (fun ls hl => ?_)
  refine lv_iconst (v := 0) hx hb dX7_total_2 (by decide) ?_
  refine lv_istore_n (lv' := [(2, .int 0), (1, .int 0), (0, .ref (ad g))]) hx hb dX7_total_3 rfl hl (by decide) rfl (fun ls hl => ?_)
  have loop_4 : ∀ (fuel : Nat) (t : Nat) (vf3 sf3 : Nat → Int32) (hg3 : Int32) (x1 : Int32) (x2 : Int32), nc - t < fuel → (t ≤ nc) → x1 = tcS (fun c => feeS nl rf td (smS tf (taS plf (nI c) nt) 1 nt) (tat 25 cf (nI c * 5 + 1)) (bcI (taS plf (nI c) nt)) (tat 25 cf (nI c * 5 + 4))) (fun c => tat 25 cf (nI c * 5 + 3)) op t → x2 = nI t → ∀ (ML4 : Nat → va_E) (H : Heap) (locs : List Loc), ML4 (h + 13) = .inl (cI, 5, .inl vf3) → ML4 (h + 15) = .inl (cI, 31, .inl sf3) → ML4 (h + 9) = .inr (5, ruleF ad (h + 9) (nI nl) td hg3) → (∀ q : Nat, q ≠ h + 13 → q ≠ h + 15 → q ≠ h + 9 → ML4 q = M q) → va_P D vwCl (ip ad n ML4) H → va_S (ipA ad n) s.heap H locs → ∀ (ls : Array Slot), lv_has ls 3 [(0, .ref (ad g)), (1, .int x1), (2, .int x2)] → W p l e (rmOf 4 91) s m args below meth c H locs 0 0 (MQ below (va_Qi (fun r M' => ∃ (vf2 sf2 : Nat → Int32) (hg2 : Int32), r = ttS (fun t => tat 12 plf (nI t)) (fun t => prS qf (tat 84 tf (nI t * 7 + 1)) nq 0) (fun t => tat 84 tf (nI t * 7 + 4)) (tcS (fun c => feeS nl rf td (smS tf (taS plf (nI c) nt) 1 nt) (tat 25 cf (nI c * 5 + 1)) (bcI (taS plf (nI c) nt)) (tat 25 cf (nI c * 5 + 4))) (fun c => tat 25 cf (nI c * 5 + 3)) op nc) nt ∧ M' (h + 13) = .inl (cI, 5, .inl vf2) ∧ M' (h + 15) = .inl (cI, 31, .inl sf2) ∧ M' (h + 9) = .inr (5, ruleF ad (h + 9) (nI nl) td hg2) ∧ ∀ q : Nat, q ≠ h + 13 → q ≠ h + 15 → q ≠ h + 9 → M' q = M q) (fun M' t => va_P D vwCl (ip ad n M') t.heap) (ipA ad n)) args s 0 0 (ipA ad n)) (F0 m 4 ls []) := by
    intro fuel
    induction fuel with
    | zero =>
      intro t vf3 sf3 hg3 x1 x2 hz
      exact absurd hz (Nat.not_lt_zero _)
    | succ fuel ih_4 =>
      intro t vf3 sf3 hg3 x1 x2 hz_4 h_t e1 e2 ML4 H locs mL4_0 mL4_1 mL4_2 fL4 hP hS ls hl
      subst e1
      subst e2
      skip
      refine lv_iload_n hx hb dX7_total_4 rfl (lv_at hl 2 rfl) ?_
      refine lv_aload_n hx hb dX7_total_5 rfl (lv_at hl 0 rfl) ?_
      refine q_get (v := .ref (ad h)) (fs := standF ad g h op) X hK hP fX7_total_20 h_g ((fL4 g (by omega) (by omega) (by omega)).trans m_g) rfl dX7_total_6 ?_
      refine q_get (v := .int (hv 6)) (fs := hallF ad h hv) X hK hP fX7_total_85 h_h ((fL4 h (by omega) (by omega) (by omega)).trans m_h) rfl dX7_total_9 ?_
      refine lv_icmp_ge (tgt := 60) hx hb dX7_total_12 (by decide) (fun c_12 => ?_) (fun c_12 => ?_)
      · skip
        refine lv_iconst (v := 0) hx hb dX7_total_60 (by decide) ?_
        refine lv_istore_n (lv' := [(2, .int 0), (0, .ref (ad g)), (1, .int (tcS (fun c => feeS nl rf td (smS tf (taS plf (nI c) nt) 1 nt) (tat 25 cf (nI c * 5 + 1)) (bcI (taS plf (nI c) nt)) (tat 25 cf (nI c * 5 + 4))) (fun c => tat 25 cf (nI c * 5 + 3)) op t))]) hx hb dX7_total_61 rfl hl (by decide) rfl (fun ls hl => ?_)
        have loop_62 : ∀ (fuel : Nat) (t : Nat) (vf3 sf3 : Nat → Int32) (hg3 : Int32) (x1 : Int32) (x2 : Int32), nt - t < fuel → (t ≤ nt) → x1 = ttS (fun t => tat 12 plf (nI t)) (fun t => prS qf (tat 84 tf (nI t * 7 + 1)) nq 0) (fun t => tat 84 tf (nI t * 7 + 4)) (tcS (fun c => feeS nl rf td (smS tf (taS plf (nI c) nt) 1 nt) (tat 25 cf (nI c * 5 + 1)) (bcI (taS plf (nI c) nt)) (tat 25 cf (nI c * 5 + 4))) (fun c => tat 25 cf (nI c * 5 + 3)) op nc) t → x2 = nI t → ∀ (ML62 : Nat → va_E) (H : Heap) (locs : List Loc), ML62 (h + 13) = .inl (cI, 5, .inl vf3) → ML62 (h + 15) = .inl (cI, 31, .inl sf3) → ML62 (h + 9) = .inr (5, ruleF ad (h + 9) (nI nl) td hg3) → (∀ q : Nat, q ≠ h + 13 → q ≠ h + 15 → q ≠ h + 9 → ML62 q = M q) → va_P D vwCl (ip ad n ML62) H → va_S (ipA ad n) s.heap H locs → ∀ (ls : Array Slot), lv_has ls 3 [(0, .ref (ad g)), (1, .int x1), (2, .int x2)] → W p l e (rmOf 4 91) s m args below meth c H locs 0 0 (MQ below (va_Qi (fun r M' => ∃ (vf2 sf2 : Nat → Int32) (hg2 : Int32), r = ttS (fun t => tat 12 plf (nI t)) (fun t => prS qf (tat 84 tf (nI t * 7 + 1)) nq 0) (fun t => tat 84 tf (nI t * 7 + 4)) (tcS (fun c => feeS nl rf td (smS tf (taS plf (nI c) nt) 1 nt) (tat 25 cf (nI c * 5 + 1)) (bcI (taS plf (nI c) nt)) (tat 25 cf (nI c * 5 + 4))) (fun c => tat 25 cf (nI c * 5 + 3)) op nc) nt ∧ M' (h + 13) = .inl (cI, 5, .inl vf2) ∧ M' (h + 15) = .inl (cI, 31, .inl sf2) ∧ M' (h + 9) = .inr (5, ruleF ad (h + 9) (nI nl) td hg2) ∧ ∀ q : Nat, q ≠ h + 13 → q ≠ h + 15 → q ≠ h + 9 → M' q = M q) (fun M' t => va_P D vwCl (ip ad n M') t.heap) (ipA ad n)) args s 0 0 (ipA ad n)) (F0 m 62 ls []) := by
          intro fuel
          induction fuel with
          | zero =>
            intro t vf3 sf3 hg3 x1 x2 hz
            exact absurd hz (Nat.not_lt_zero _)
          | succ fuel ih_62 =>
            intro t vf3 sf3 hg3 x1 x2 hz_62 h_t e1 e2 ML62 H locs mL62_0 mL62_1 mL62_2 fL62 hP hS ls hl
            subst e1
            subst e2
            skip
            refine lv_iload_n hx hb dX7_total_62 rfl (lv_at hl 2 rfl) ?_
            refine lv_aload_n hx hb dX7_total_63 rfl (lv_at hl 0 rfl) ?_
            refine q_get (v := .ref (ad h)) (fs := standF ad g h op) X hK hP fX7_total_20 h_g ((fL62 g (by omega) (by omega) (by omega)).trans m_g) rfl dX7_total_64 ?_
            refine q_get (v := .int (hv 7)) (fs := hallF ad h hv) X hK hP fX7_total_28 h_h ((fL62 h (by omega) (by omega) (by omega)).trans m_h) rfl dX7_total_67 ?_
            refine lv_icmp_ge (tgt := 134) hx hb dX7_total_70 (by decide) (fun c_70 => ?_) (fun c_70 => ?_)
            · skip
              refine lv_iload_n hx hb dX7_total_134 rfl (lv_at hl 1 rfl) ?_
              exact q_wzret X hr hlocks hP hS (rfl) ⟨_, _, _, (by rw [h7] at c_70; have h9 : t = nt := eq_of_le c_70 (by omega) h_t; rw [h9]), mL62_0, mL62_1, mL62_2, (fun q n0 n1 n2 => (fL62 q n0 n1 n2))⟩ dX7_total_135
            · skip
              refine lv_aload_n hx hb dX7_total_73 rfl (lv_at hl 0 rfl) ?_
              refine q_get (v := .ref (ad (g + 1))) (fs := standF ad g h op) X hK hP fX7_total_14 h_g ((fL62 g (by omega) (by omega) (by omega)).trans m_g) rfl dX7_total_74 ?_
              refine lv_iload_n hx hb dX7_total_77 rfl (lv_at hl 2 rfl) ?_
              refine q_rdV (As := [.int (nI t)]) (rest := []) (c_X8_at l D cB cI cJ ad n ML62 (g + 1) (g + 2) 12 1 plf (nI t) h_g_1 h_g_2 ((fL62 (g + 1) (by omega) (by omega) (by omega)).trans m_g_1) ((fL62 (g + 2) (by omega) (by omega) (by omega)).trans m_g_2) (by decide)) X hK hP hS hl.1 rfl gX7_total_X8_at yd_X8_at ⟨Nat.le_of_ble_eq_true rfl, Nat.le_of_ble_eq_true rfl⟩ h_g_1 ((fL62 (g + 1) (by omega) (by omega) (by omega)).trans m_g_1) (ci := 8) rfl rfl (Nat.le_of_ble_eq_true rfl) ⟨Nat.zero_le _, Nat.zero_le _⟩ dX7_total_78 ?_
              refine lv_bipush (v := 21) hx hb dX7_total_81 (by decide) ?_
              refine lv_icmp_ne (tgt := 100) hx hb dX7_total_83 (by decide) (fun c_83 => ?_) (fun c_83 => ?_)
              · skip
                refine lv_aload_n hx hb dX7_total_100 rfl (lv_at hl 0 rfl) ?_
                refine q_get (v := .ref (ad (g + 1))) (fs := standF ad g h op) X hK hP fX7_total_14 h_g ((fL62 g (by omega) (by omega) (by omega)).trans m_g) rfl dX7_total_101 ?_
                refine lv_iload_n hx hb dX7_total_104 rfl (lv_at hl 2 rfl) ?_
                refine q_rdV (As := [.int (nI t)]) (rest := []) (c_X8_at l D cB cI cJ ad n ML62 (g + 1) (g + 2) 12 1 plf (nI t) h_g_1 h_g_2 ((fL62 (g + 1) (by omega) (by omega) (by omega)).trans m_g_1) ((fL62 (g + 2) (by omega) (by omega) (by omega)).trans m_g_2) (by decide)) X hK hP hS hl.1 rfl gX7_total_X8_at yd_X8_at ⟨Nat.le_of_ble_eq_true rfl, Nat.le_of_ble_eq_true rfl⟩ h_g_1 ((fL62 (g + 1) (by omega) (by omega) (by omega)).trans m_g_1) (ci := 8) rfl rfl (Nat.le_of_ble_eq_true rfl) ⟨Nat.zero_le _, Nat.zero_le _⟩ dX7_total_105 ?_
                refine lv_bipush (v := 20) hx hb dX7_total_108 (by decide) ?_
                refine lv_icmp_ne (tgt := 128) hx hb dX7_total_110 (by decide) (fun c_110 => ?_) (fun c_110 => ?_)
                · skip
                  refine lv_iinc (v := ((nI t) + 1)) (lv' := [(2, .int ((nI t) + 1)), (0, .ref (ad g)), (1, .int (ttS (fun t => tat 12 plf (nI t)) (fun t => prS qf (tat 84 tf (nI t * 7 + 1)) nq 0) (fun t => tat 84 tf (nI t * 7 + 4)) (tcS (fun c => feeS nl rf td (smS tf (taS plf (nI c) nt) 1 nt) (tat 25 cf (nI c * 5 + 1)) (bcI (taS plf (nI c) nt)) (tat 25 cf (nI c * 5 + 4))) (fun c => tat 25 cf (nI c * 5 + 3)) op nc) t))]) hx hb dX7_total_128 hl (k := 2) rfl rfl (by decide) rfl (fun ls hl => ?_)
                  refine lv_goto (tgt := 62) hx hb dX7_total_131 (by decide) ?_
                  exact ih_62 (t + 1) vf3 sf3 hg3 (ttS (fun t => tat 12 plf (nI t)) (fun t => prS qf (tat 84 tf (nI t * 7 + 1)) nq 0) (fun t => tat 84 tf (nI t * 7 + 4)) (tcS (fun c => feeS nl rf td (smS tf (taS plf (nI c) nt) 1 nt) (tat 25 cf (nI c * 5 + 1)) (bcI (taS plf (nI c) nt)) (tat 25 cf (nI c * 5 + 4))) (fun c => tat 25 cf (nI c * 5 + 3)) op nc) t) ((nI t) + 1) (by rw [h7] at c_70; have h9_ := lt_of_nlt c_70 (by omega) h_t; omega) (by rw [h7] at c_70; have h9_ := lt_of_nlt c_70 (by omega) h_t; omega) (by first | rw [ttS, if_pos c_83] | rw [ttS, if_neg c_83, if_pos c_110] | rw [ttS, if_neg c_83, if_neg c_110]) (by first | rfl | exact nI_0.symm | exact nI_1 _) _ _ _ mL62_0 mL62_1 mL62_2 (fun q n0 n1 n2 => (fL62 q n0 n1 n2)) hP hS ls (lv_sub hl [1, 2, 0] rfl)
                · skip
                  refine lv_iload_n hx hb dX7_total_113 rfl (lv_at hl 1 rfl) ?_
                  refine lv_aload_n hx hb dX7_total_114 rfl (lv_at hl 0 rfl) ?_
                  refine q_get (v := .ref (ad h)) (fs := standF ad g h op) X hK hP fX7_total_20 h_g ((fL62 g (by omega) (by omega) (by omega)).trans m_g) rfl dX7_total_115 ?_
                  refine q_get (v := .ref (ad (h + 5))) (fs := hallF ad h hv) X hK hP fX7_total_33 h_h ((fL62 h (by omega) (by omega) (by omega)).trans m_h) rfl dX7_total_118 ?_
                  refine lv_iload_n hx hb dX7_total_121 rfl (lv_at hl 2 rfl) ?_
                  refine lv_iconst (v := 4) hx hb dX7_total_122 (by decide) ?_
                  refine q_rdV (As := [.int (nI t), .int 4]) (rest := [.int (ttS (fun t => tat 12 plf (nI t)) (fun t => prS qf (tat 84 tf (nI t * 7 + 1)) nq 0) (fun t => tat 84 tf (nI t * 7 + 4)) (tcS (fun c => feeS nl rf td (smS tf (taS plf (nI c) nt) 1 nt) (tat 25 cf (nI c * 5 + 1)) (bcI (taS plf (nI c) nt)) (tat 25 cf (nI c * 5 + 4))) (fun c => tat 25 cf (nI c * 5 + 3)) op nc) t)]) (c_X8_at_ l D cB cI cJ ad n ML62 (h + 5) (h + 6) 84 7 tf (nI t) 4 h_h_5 h_h_6 ((fL62 (h + 5) (by omega) (by omega) (by omega)).trans m_h_5) ((fL62 (h + 6) (by omega) (by omega) (by omega)).trans m_h_6) (by decide)) X hK hP hS hl.1 rfl gX7_total_X8_at_ yd_X8_at_ ⟨Nat.le_of_ble_eq_true rfl, Nat.le_of_ble_eq_true rfl⟩ h_h_5 ((fL62 (h + 5) (by omega) (by omega) (by omega)).trans m_h_5) (ci := 8) rfl rfl (Nat.le_of_ble_eq_true rfl) ⟨Nat.zero_le _, Nat.zero_le _⟩ dX7_total_123 ?_
                  refine lv_iadd hx hb dX7_total_126 ?_
                  refine lv_istore_n (lv' := [(1, .int ((ttS (fun t => tat 12 plf (nI t)) (fun t => prS qf (tat 84 tf (nI t * 7 + 1)) nq 0) (fun t => tat 84 tf (nI t * 7 + 4)) (tcS (fun c => feeS nl rf td (smS tf (taS plf (nI c) nt) 1 nt) (tat 25 cf (nI c * 5 + 1)) (bcI (taS plf (nI c) nt)) (tat 25 cf (nI c * 5 + 4))) (fun c => tat 25 cf (nI c * 5 + 3)) op nc) t) + (tat 84 tf ((nI t) * 7 + 4)))), (0, .ref (ad g)), (2, .int (nI t))]) hx hb dX7_total_127 rfl hl (by decide) rfl (fun ls hl => ?_)
                  refine lv_iinc (v := ((nI t) + 1)) (lv' := [(2, .int ((nI t) + 1)), (1, .int ((ttS (fun t => tat 12 plf (nI t)) (fun t => prS qf (tat 84 tf (nI t * 7 + 1)) nq 0) (fun t => tat 84 tf (nI t * 7 + 4)) (tcS (fun c => feeS nl rf td (smS tf (taS plf (nI c) nt) 1 nt) (tat 25 cf (nI c * 5 + 1)) (bcI (taS plf (nI c) nt)) (tat 25 cf (nI c * 5 + 4))) (fun c => tat 25 cf (nI c * 5 + 3)) op nc) t) + (tat 84 tf ((nI t) * 7 + 4)))), (0, .ref (ad g))]) hx hb dX7_total_128 hl (k := 2) rfl rfl (by decide) rfl (fun ls hl => ?_)
                  refine lv_goto (tgt := 62) hx hb dX7_total_131 (by decide) ?_
                  exact ih_62 (t + 1) vf3 sf3 hg3 ((ttS (fun t => tat 12 plf (nI t)) (fun t => prS qf (tat 84 tf (nI t * 7 + 1)) nq 0) (fun t => tat 84 tf (nI t * 7 + 4)) (tcS (fun c => feeS nl rf td (smS tf (taS plf (nI c) nt) 1 nt) (tat 25 cf (nI c * 5 + 1)) (bcI (taS plf (nI c) nt)) (tat 25 cf (nI c * 5 + 4))) (fun c => tat 25 cf (nI c * 5 + 3)) op nc) t) + (tat 84 tf ((nI t) * 7 + 4))) ((nI t) + 1) (by rw [h7] at c_70; have h9_ := lt_of_nlt c_70 (by omega) h_t; omega) (by rw [h7] at c_70; have h9_ := lt_of_nlt c_70 (by omega) h_t; omega) (by first | rw [ttS, if_pos c_83] | rw [ttS, if_neg c_83, if_pos c_110] | rw [ttS, if_neg c_83, if_neg c_110]) (by first | rfl | exact nI_0.symm | exact nI_1 _) _ _ _ mL62_0 mL62_1 mL62_2 (fun q n0 n1 n2 => (fL62 q n0 n1 n2)) hP hS ls (lv_sub hl [2, 1, 0] rfl)
              · skip
                refine lv_iload_n hx hb dX7_total_86 rfl (lv_at hl 1 rfl) ?_
                refine lv_aload_n hx hb dX7_total_87 rfl (lv_at hl 0 rfl) ?_
                refine q_get (v := .ref (ad h)) (fs := standF ad g h op) X hK hP fX7_total_20 h_g ((fL62 g (by omega) (by omega) (by omega)).trans m_g) rfl dX7_total_88 ?_
                refine lv_iload_n hx hb dX7_total_91 rfl (lv_at hl 2 rfl) ?_
                refine q_rdV (As := [.int (nI t)]) (rest := [.int (ttS (fun t => tat 12 plf (nI t)) (fun t => prS qf (tat 84 tf (nI t * 7 + 1)) nq 0) (fun t => tat 84 tf (nI t * 7 + 4)) (tcS (fun c => feeS nl rf td (smS tf (taS plf (nI c) nt) 1 nt) (tat 25 cf (nI c * 5 + 1)) (bcI (taS plf (nI c) nt)) (tat 25 cf (nI c * 5 + 4))) (fun c => tat 25 cf (nI c * 5 + 3)) op nc) t)]) (c_X0_priceOf l D cB cI cJ ad n ML62 h nq hv tf qf (nI t) h_h h_h_5 h_h_6 h_h_7 h_h_8 ((fL62 h (by omega) (by omega) (by omega)).trans m_h) ((fL62 (h + 5) (by omega) (by omega) (by omega)).trans m_h_5) ((fL62 (h + 6) (by omega) (by omega) (by omega)).trans m_h_6) ((fL62 (h + 7) (by omega) (by omega) (by omega)).trans m_h_7) ((fL62 (h + 8) (by omega) (by omega) (by omega)).trans m_h_8) h8 hnq) X hK hP hS hl.1 rfl gX7_total_X0_priceOf yd_X0_priceOf ⟨Nat.le_of_ble_eq_true rfl, Nat.le_of_ble_eq_true rfl⟩ h_h ((fL62 h (by omega) (by omega) (by omega)).trans m_h) (ci := 0) rfl rfl (Nat.le_of_ble_eq_true rfl) ⟨Nat.zero_le _, Nat.zero_le _⟩ dX7_total_92 ?_
                refine lv_iadd hx hb dX7_total_95 ?_
                refine lv_istore_n (lv' := [(1, .int ((ttS (fun t => tat 12 plf (nI t)) (fun t => prS qf (tat 84 tf (nI t * 7 + 1)) nq 0) (fun t => tat 84 tf (nI t * 7 + 4)) (tcS (fun c => feeS nl rf td (smS tf (taS plf (nI c) nt) 1 nt) (tat 25 cf (nI c * 5 + 1)) (bcI (taS plf (nI c) nt)) (tat 25 cf (nI c * 5 + 4))) (fun c => tat 25 cf (nI c * 5 + 3)) op nc) t) + (prS qf (tat 84 tf ((nI t) * 7 + 1)) nq 0))), (0, .ref (ad g)), (2, .int (nI t))]) hx hb dX7_total_96 rfl hl (by decide) rfl (fun ls hl => ?_)
                refine lv_goto (tgt := 128) hx hb dX7_total_97 (by decide) ?_
                refine lv_iinc (v := ((nI t) + 1)) (lv' := [(2, .int ((nI t) + 1)), (1, .int ((ttS (fun t => tat 12 plf (nI t)) (fun t => prS qf (tat 84 tf (nI t * 7 + 1)) nq 0) (fun t => tat 84 tf (nI t * 7 + 4)) (tcS (fun c => feeS nl rf td (smS tf (taS plf (nI c) nt) 1 nt) (tat 25 cf (nI c * 5 + 1)) (bcI (taS plf (nI c) nt)) (tat 25 cf (nI c * 5 + 4))) (fun c => tat 25 cf (nI c * 5 + 3)) op nc) t) + (prS qf (tat 84 tf ((nI t) * 7 + 1)) nq 0))), (0, .ref (ad g))]) hx hb dX7_total_128 hl (k := 2) rfl rfl (by decide) rfl (fun ls hl => ?_)
                refine lv_goto (tgt := 62) hx hb dX7_total_131 (by decide) ?_
                exact ih_62 (t + 1) vf3 sf3 hg3 ((ttS (fun t => tat 12 plf (nI t)) (fun t => prS qf (tat 84 tf (nI t * 7 + 1)) nq 0) (fun t => tat 84 tf (nI t * 7 + 4)) (tcS (fun c => feeS nl rf td (smS tf (taS plf (nI c) nt) 1 nt) (tat 25 cf (nI c * 5 + 1)) (bcI (taS plf (nI c) nt)) (tat 25 cf (nI c * 5 + 4))) (fun c => tat 25 cf (nI c * 5 + 3)) op nc) t) + (prS qf (tat 84 tf ((nI t) * 7 + 1)) nq 0)) ((nI t) + 1) (by rw [h7] at c_70; have h9_ := lt_of_nlt c_70 (by omega) h_t; omega) (by rw [h7] at c_70; have h9_ := lt_of_nlt c_70 (by omega) h_t; omega) (by first | rw [ttS, if_pos c_83] | rw [ttS, if_neg c_83, if_pos {c110}] | rw [ttS, if_neg c_83, if_neg {c110}]) (by first | rfl | exact nI_0.symm | exact nI_1 _) _ _ _ mL62_0 mL62_1 mL62_2 (fun q n0 n1 n2 => (fL62 q n0 n1 n2)) hP hS ls (lv_sub hl [2, 1, 0] rfl)
        exact loop_62 (nt + 1) 0 vf3 sf3 hg3 (tcS (fun c => feeS nl rf td (smS tf (taS plf (nI c) nt) 1 nt) (tat 25 cf (nI c * 5 + 1)) (bcI (taS plf (nI c) nt)) (tat 25 cf (nI c * 5 + 4))) (fun c => tat 25 cf (nI c * 5 + 3)) op t) 0 (by omega) (by omega) (by rw [h6] at c_12; have h9 : t = nc := eq_of_le c_12 (by omega) h_t; rw [h9]; try rfl) (by first | rfl | exact nI_0.symm | exact nI_1 _) _ _ _ mL4_0 mL4_1 mL4_2 (fun q n0 n1 n2 => (fL4 q n0 n1 n2)) hP hS ls (lv_sub hl [1, 2, 0] rfl)
      · skip
        refine lv_iload_n hx hb dX7_total_15 rfl (lv_at hl 1 rfl) ?_
        refine lv_aload_n hx hb dX7_total_16 rfl (lv_at hl 0 rfl) ?_
        refine lv_iload_n hx hb dX7_total_17 rfl (lv_at hl 2 rfl) ?_
        refine lv_aload_n hx hb dX7_total_18 rfl (lv_at hl 0 rfl) ?_
        refine lv_iload_n hx hb dX7_total_19 rfl (lv_at hl 2 rfl) ?_
        refine q_rdV (As := [.int (nI t)]) (rest := [.int (nI t), .ref (ad g), .int (tcS (fun c => feeS nl rf td (smS tf (taS plf (nI c) nt) 1 nt) (tat 25 cf (nI c * 5 + 1)) (bcI (taS plf (nI c) nt)) (tat 25 cf (nI c * 5 + 4))) (fun c => tat 25 cf (nI c * 5 + 3)) op t)]) (c_X7_thingsAt l D cB cI cJ ad n ML4 g h nt op hv plf (nI t) h_g h_g_1 h_g_2 h_h ((fL4 g (by omega) (by omega) (by omega)).trans m_g) ((fL4 (g + 1) (by omega) (by omega) (by omega)).trans m_g_1) ((fL4 (g + 2) (by omega) (by omega) (by omega)).trans m_g_2) ((fL4 h (by omega) (by omega) (by omega)).trans m_h) h7 hnt) X hK hP hS hl.1 rfl gX7_total_X7_thingsAt yd_X7_thingsAt ⟨Nat.le_of_ble_eq_true rfl, Nat.le_of_ble_eq_true rfl⟩ h_g ((fL4 g (by omega) (by omega) (by omega)).trans m_g) (ci := 7) rfl rfl (Nat.le_of_ble_eq_true rfl) ⟨Nat.zero_le _, Nat.zero_le _⟩ dX7_total_20 ?_
        refine q_wrVi (As := [.int (nI t), .int (taS plf (nI t) nt)]) (rest := [.int (tcS (fun c => feeS nl rf td (smS tf (taS plf (nI c) nt) 1 nt) (tat 25 cf (nI c * 5 + 1)) (bcI (taS plf (nI c) nt)) (tat 25 cf (nI c * 5 + 4))) (fun c => tat 25 cf (nI c * 5 + 3)) op t)]) (c_X7_feeWith l D cB cI cJ ad n ML4 hI g h nl nt op td hg3 hv cf tf rf vf3 sf3 (nI t) (taS plf (nI t) nt) h_g h_h h_h_3 h_h_4 h_h_5 h_h_6 h_h_9 h_h_10 h_h_11 h_h_12 h_h_13 h_h_14 h_h_15 ((fL4 g (by omega) (by omega) (by omega)).trans m_g) ((fL4 h (by omega) (by omega) (by omega)).trans m_h) ((fL4 (h + 3) (by omega) (by omega) (by omega)).trans m_h_3) ((fL4 (h + 4) (by omega) (by omega) (by omega)).trans m_h_4) ((fL4 (h + 5) (by omega) (by omega) (by omega)).trans m_h_5) ((fL4 (h + 6) (by omega) (by omega) (by omega)).trans m_h_6) mL4_2 ((fL4 (h + 10) (by omega) (by omega) (by omega)).trans m_h_10) ((fL4 (h + 11) (by omega) (by omega) (by omega)).trans m_h_11) ((fL4 (h + 12) (by omega) (by omega) (by omega)).trans m_h_12) mL4_0 ((fL4 (h + 14) (by omega) (by omega) (by omega)).trans m_h_14) mL4_1 h7 hnt hnl hOK) X hK hP hS hl.1 rfl gX7_total_X7_feeWith yd_X7_feeWith ⟨Nat.le_of_ble_eq_true rfl, Nat.le_of_ble_eq_true rfl⟩ h_g ((fL4 g (by omega) (by omega) (by omega)).trans m_g) (ci := 7) rfl rfl (Nat.le_of_ble_eq_true rfl) ⟨Nat.zero_le _, Nat.zero_le _⟩ dX7_total_23 (fun r3 M2 H locs hp1 hP hS => ?_)
        obtain ⟨vf2_4, sf2_5, hg2_6, rfl, g7, g8, g9, fr10⟩ := hp1
        refine lv_iadd hx hb dX7_total_26 ?_
        refine lv_istore_n (lv' := [(1, .int ((tcS (fun c => feeS nl rf td (smS tf (taS plf (nI c) nt) 1 nt) (tat 25 cf (nI c * 5 + 1)) (bcI (taS plf (nI c) nt)) (tat 25 cf (nI c * 5 + 4))) (fun c => tat 25 cf (nI c * 5 + 3)) op t) + (feeS nl rf td (smS tf (taS plf (nI t) nt) 1 nt) (tat 25 cf ((nI t) * 5 + 1)) (bcI (taS plf (nI t) nt)) (tat 25 cf ((nI t) * 5 + 4))))), (0, .ref (ad g)), (2, .int (nI t))]) hx hb dX7_total_27 rfl hl (by decide) rfl (fun ls hl => ?_)
        refine lv_aload_n hx hb dX7_total_28 rfl (lv_at hl 1 rfl) ?_
        refine q_get (v := .int op) (fs := standF ad g h op) X hK hP fX7_total_24 h_g ((fr10 g (by omega) (by omega) (by omega)).trans ((fL4 g (by omega) (by omega) (by omega)).trans m_g)) rfl dX7_total_29 ?_
        refine lv_iload_n hx hb dX7_total_32 rfl (lv_at hl 2 rfl) ?_
        refine lv_ishr hx hb dX7_total_33 ?_
        refine lv_iconst (v := 1) hx hb dX7_total_34 (by decide) ?_
        refine lv_iand hx hb dX7_total_35 ?_
        refine lv_if_eq (tgt := 54) hx hb dX7_total_36 (by decide) (fun c_36 => ?_) (fun c_36 => ?_)
        · skip
          refine lv_iinc (v := ((nI t) + 1)) (lv' := [(2, .int ((nI t) + 1)), (1, .int ((tcS (fun c => feeS nl rf td (smS tf (taS plf (nI c) nt) 1 nt) (tat 25 cf (nI c * 5 + 1)) (bcI (taS plf (nI c) nt)) (tat 25 cf (nI c * 5 + 4))) (fun c => tat 25 cf (nI c * 5 + 3)) op t) + (feeS nl rf td (smS tf (taS plf (nI t) nt) 1 nt) (tat 25 cf ((nI t) * 5 + 1)) (bcI (taS plf (nI t) nt)) (tat 25 cf ((nI t) * 5 + 4))))), (0, .ref (ad g))]) hx hb dX7_total_54 hl (k := 2) rfl rfl (by decide) rfl (fun ls hl => ?_)
          refine lv_goto (tgt := 4) hx hb dX7_total_57 (by decide) ?_
          exact ih_4 (t + 1) vf2_4 sf2_5 hg2_6 ((tcS (fun c => feeS nl rf td (smS tf (taS plf (nI c) nt) 1 nt) (tat 25 cf (nI c * 5 + 1)) (bcI (taS plf (nI c) nt)) (tat 25 cf (nI c * 5 + 4))) (fun c => tat 25 cf (nI c * 5 + 3)) op t) + (feeS nl rf td (smS tf (taS plf (nI t) nt) 1 nt) (tat 25 cf ((nI t) * 5 + 1)) (bcI (taS plf (nI t) nt)) (tat 25 cf ((nI t) * 5 + 4)))) ((nI t) + 1) (by rw [h6] at c_12; have h9_ := lt_of_nlt c_12 (by omega) h_t; omega) (by rw [h6] at c_12; have h9_ := lt_of_nlt c_12 (by omega) h_t; omega) (by first | rw [tcS, if_pos c_36] | rw [tcS, if_neg c_36]) (by first | rfl | exact nI_0.symm | exact nI_1 _) _ _ _ g7 g8 g9 (fun q n0 n1 n2 => ((fr10 q n0 n1 n2).trans (fL4 q n0 n1 n2))) hP hS ls (lv_sub hl [2, 1, 0] rfl)
        · skip
          refine lv_iload_n hx hb dX7_total_39 rfl (lv_at hl 0 rfl) ?_
          refine lv_aload_n hx hb dX7_total_40 rfl (lv_at hl 1 rfl) ?_
          refine q_get (v := .ref (ad h)) (fs := standF ad g h op) X hK hP fX7_total_20 h_g ((fr10 g (by omega) (by omega) (by omega)).trans ((fL4 g (by omega) (by omega) (by omega)).trans m_g)) rfl dX7_total_41 ?_
          refine q_get (v := .ref (ad (h + 3))) (fs := hallF ad h hv) X hK hP fX7_total_59 h_h ((fr10 h (by omega) (by omega) (by omega)).trans ((fL4 h (by omega) (by omega) (by omega)).trans m_h)) rfl dX7_total_44 ?_
          refine lv_iload_n hx hb dX7_total_47 rfl (lv_at hl 2 rfl) ?_
          refine lv_iconst (v := 3) hx hb dX7_total_48 (by decide) ?_
          refine q_rdV (As := [.int (nI t), .int 3]) (rest := [.int ((tcS (fun c => feeS nl rf td (smS tf (taS plf (nI c) nt) 1 nt) (tat 25 cf (nI c * 5 + 1)) (bcI (taS plf (nI c) nt)) (tat 25 cf (nI c * 5 + 4))) (fun c => tat 25 cf (nI c * 5 + 3)) op t) + (feeS nl rf td (smS tf (taS plf (nI t) nt) 1 nt) (tat 25 cf ((nI t) * 5 + 1)) (bcI (taS plf (nI t) nt)) (tat 25 cf ((nI t) * 5 + 4))))]) (c_X8_at_ l D cB cI cJ ad n M2 (h + 3) (h + 4) 25 5 cf (nI t) 3 h_h_3 h_h_4 ((fr10 (h + 3) (by omega) (by omega) (by omega)).trans ((fL4 (h + 3) (by omega) (by omega) (by omega)).trans m_h_3)) ((fr10 (h + 4) (by omega) (by omega) (by omega)).trans ((fL4 (h + 4) (by omega) (by omega) (by omega)).trans m_h_4)) (by decide)) X hK hP hS hl.1 rfl gX7_total_X8_at_ yd_X8_at_ ⟨Nat.le_of_ble_eq_true rfl, Nat.le_of_ble_eq_true rfl⟩ h_h_3 ((fr10 (h + 3) (by omega) (by omega) (by omega)).trans ((fL4 (h + 3) (by omega) (by omega) (by omega)).trans m_h_3)) (ci := 8) rfl rfl (Nat.le_of_ble_eq_true rfl) ⟨Nat.zero_le _, Nat.zero_le _⟩ dX7_total_49 ?_
          refine lv_iadd hx hb dX7_total_52 ?_
          refine lv_istore_n (lv' := [(1, .int (((tcS (fun c => feeS nl rf td (smS tf (taS plf (nI c) nt) 1 nt) (tat 25 cf (nI c * 5 + 1)) (bcI (taS plf (nI c) nt)) (tat 25 cf (nI c * 5 + 4))) (fun c => tat 25 cf (nI c * 5 + 3)) op t) + (feeS nl rf td (smS tf (taS plf (nI t) nt) 1 nt) (tat 25 cf ((nI t) * 5 + 1)) (bcI (taS plf (nI t) nt)) (tat 25 cf ((nI t) * 5 + 4)))) + (tat 25 cf ((nI t) * 5 + 3)))), (0, .ref (ad g)), (2, .int (nI t))]) hx hb dX7_total_53 rfl hl (by decide) rfl (fun ls hl => ?_)
          refine lv_iinc (v := ((nI t) + 1)) (lv' := [(2, .int ((nI t) + 1)), (1, .int (((tcS (fun c => feeS nl rf td (smS tf (taS plf (nI c) nt) 1 nt) (tat 25 cf (nI c * 5 + 1)) (bcI (taS plf (nI c) nt)) (tat 25 cf (nI c * 5 + 4))) (fun c => tat 25 cf (nI c * 5 + 3)) op t) + (feeS nl rf td (smS tf (taS plf (nI t) nt) 1 nt) (tat 25 cf ((nI t) * 5 + 1)) (bcI (taS plf (nI t) nt)) (tat 25 cf ((nI t) * 5 + 4)))) + (tat 25 cf ((nI t) * 5 + 3)))), (0, .ref (ad g))]) hx hb dX7_total_54 hl (k := 2) rfl rfl (by decide) rfl (fun ls hl => ?_)
          refine lv_goto (tgt := 4) hx hb dX7_total_57 (by decide) ?_
          exact ih_4 (t + 1) vf2_4 sf2_5 hg2_6 (((tcS (fun c => feeS nl rf td (smS tf (taS plf (nI c) nt) 1 nt) (tat 25 cf (nI c * 5 + 1)) (bcI (taS plf (nI c) nt)) (tat 25 cf (nI c * 5 + 4))) (fun c => tat 25 cf (nI c * 5 + 3)) op t) + (feeS nl rf td (smS tf (taS plf (nI t) nt) 1 nt) (tat 25 cf ((nI t) * 5 + 1)) (bcI (taS plf (nI t) nt)) (tat 25 cf ((nI t) * 5 + 4)))) + (tat 25 cf ((nI t) * 5 + 3))) ((nI t) + 1) (by rw [h6] at c_12; have h9_ := lt_of_nlt c_12 (by omega) h_t; omega) (by rw [h6] at c_12; have h9_ := lt_of_nlt c_12 (by omega) h_t; omega) (by first | rw [tcS, if_pos c_36] | rw [tcS, if_neg c_36]) (by first | rfl | exact nI_0.symm | exact nI_1 _) _ _ _ g7 g8 g9 (fun q n0 n1 n2 => ((fr10 q n0 n1 n2).trans (fL4 q n0 n1 n2))) hP hS ls (lv_sub hl [2, 1, 0] rfl)
  exact loop_4 (nc + 1) 0 vf sf hg 0 0 (by omega) (by omega) (by first | rfl | exact nI_0.symm | exact nI_1 _) (by first | rfl | exact nI_0.symm | exact nI_1 _) _ _ _ m_h_13 m_h_15 m_h_9 (fun q n0 n1 n2 => rfl) hP hS ls (lv_sub hl [2, 1, 0] rfl)
set_option maxRecDepth 20000 in
theorem fX7_openIfCase_20 : FL wsX7_openIfCase RX7 20 7 0 := ⟨RX7, TX7, 3, rfl, by decide +kernel, by decide, by decide +kernel⟩
set_option maxRecDepth 20000 in
theorem fX7_openIfCase_85 : FL wsX7_openIfCase RX7 85 0 6 := ⟨RX0, TX0, 12, rfl, by decide +kernel, by decide, by decide +kernel⟩
set_option maxRecDepth 20000 in
theorem fX7_openIfCase_24 : FL wsX7_openIfCase RX7 24 7 2 := ⟨RX7, TX7, 3, rfl, by decide +kernel, by decide, by decide +kernel⟩
theorem fw_7_2 : FW 7 2 .int := ⟨RX7, TX7, 3, tyX7, rfl, tyX7_ok, nmX7, by decide, rfl, by decide +kernel⟩
def oiS_0_2 (op : Int32) (hv : Nat → Int32) (x : Int32) : Int32 := if x < 0 then op else if (hv 6) ≤ x then op else (op ||| (1 <<< (x &&& 31)))
set_option maxHeartbeats 4000000 in
set_option maxRecDepth 100000 in
theorem c_X7_openIfCase (l : Launch) (D : va_G) (cB cI cJ : ClassId) (ad : Nat → Nat) (n : Nat) (M : Nat → va_E) (hI : ipI ad n) (g h nc : Nat) (op : Int32) (hv : Nat → Int32) (x : Int32) (h_g : g < n) (h_h : h < n) (m_g : M g = .inr (7, standF ad g h op)) (m_h : M h = .inr (0, hallF ad h hv)) (h6 : hv 6 = nI nc) (hnc : nc ≤ 5) : cWv l D cB cI cJ ad n M yX7_openIfCase wsX7_openIfCase 0 0 [.ref (ad g), .int x] (fun M' => M' g = .inr (7, standF ad g h (oiS_0_2 op hv x)) ∧ ∀ q : Nat, q ≠ g → M' q = M q) := by
  refine q_body (cc := cX7_openIfCase) (maxL := 2) (ret := none) (by decide) rfl (Nat.le_of_ble_eq_true rfl) ?_
  intro p e s m args below meth c ls X hr hlocks hK hP hl
  obtain ⟨hx, hb, hml, hown, hts⟩ := id X
  have hS : va_S (ipA ad n) s.heap s.heap [] := va_S.rf
  have hl : lv_has ls 2 [(0, .ref (ad g)), (1, .int x)] := hl
  refine lv_iload_n hx hb dX7_openIfCase_0 rfl (lv_at hl 1 rfl) ?_
  refine lv_if_lt (tgt := 27) hx hb dX7_openIfCase_1 (by decide) (fun c_1 => ?_) (fun c_1 => ?_)
  · skip
    exact q_wvret X hr hlocks hP hS ⟨(by rw [oiS_0_2, if_pos c_1]; exact m_g), (fun q n0 => rfl)⟩ dX7_openIfCase_27
  · skip
    refine lv_iload_n hx hb dX7_openIfCase_4 rfl (lv_at hl 1 rfl) ?_
    refine lv_aload_n hx hb dX7_openIfCase_5 rfl (lv_at hl 0 rfl) ?_
    refine q_get (v := .ref (ad h)) (fs := standF ad g h op) X hK hP fX7_openIfCase_20 h_g m_g rfl dX7_openIfCase_6 ?_
    refine q_get (v := .int (hv 6)) (fs := hallF ad h hv) X hK hP fX7_openIfCase_85 h_h m_h rfl dX7_openIfCase_9 ?_
    refine lv_icmp_ge (tgt := 27) hx hb dX7_openIfCase_12 (by decide) (fun c_12 => ?_) (fun c_12 => ?_)
    · skip
      exact q_wvret X hr hlocks hP hS ⟨(by rw [oiS_0_2, if_neg c_1, if_pos c_12]; exact m_g), (fun q n0 => rfl)⟩ dX7_openIfCase_27
    · skip
      refine lv_aload_n hx hb dX7_openIfCase_15 rfl (lv_at hl 0 rfl) ?_
      refine lv_dup hx hb dX7_openIfCase_16 rfl ?_
      refine q_get (v := .int op) (fs := standF ad g h op) X hK hP fX7_openIfCase_24 h_g m_g rfl dX7_openIfCase_17 ?_
      refine lv_iconst (v := 1) hx hb dX7_openIfCase_20 (by decide) ?_
      refine lv_iload_n hx hb dX7_openIfCase_21 rfl (lv_at hl 1 rfl) ?_
      refine lv_ishl hx hb dX7_openIfCase_22 ?_
      refine lv_ior hx hb dX7_openIfCase_23 ?_
      refine q_put (fs := standF ad g h op) (fs' := standF ad g h (op ||| (1 <<< (x &&& 31)))) X hK hI hP hS fX7_openIfCase_24 fw_7_2 h_g m_g rfl rfl (Nat.le_of_ble_eq_true rfl) rfl dX7_openIfCase_24 (fun H locs hP hS => ?_)
      exact q_wvret X hr hlocks hP hS ⟨(by rw [oiS_0_2, if_neg c_1, if_neg c_12]; exact (va_up_self M g (.inr (7, standF ad g h (op ||| (1 <<< (x &&& 31))))))), (fun q n0 => (va_up_ne _ _ n0))⟩ dX7_openIfCase_27
set_option maxRecDepth 20000 in
theorem fX7_bring_14 : FL wsX7_bring RX7 14 7 1 := ⟨RX7, TX7, 3, rfl, by decide +kernel, by decide, by decide +kernel⟩
theorem yd_X7_openIfCase : YD yX7_openIfCase 1 := ⟨by decide +kernel, by decide +kernel, by decide +kernel⟩
set_option maxHeartbeats 4000000 in
set_option maxRecDepth 100000 in
theorem c_X7_bring (l : Launch) (D : va_G) (cB cI cJ : ClassId) (ad : Nat → Nat) (n : Nat) (M : Nat → va_E) (hI : ipI ad n) (g h nc : Nat) (op : Int32) (hv plf : Nat → Int32) (x y : Int32) (h_g : g < n) (h_g_1 : g + 1 < n) (h_g_2 : g + 2 < n) (h_h : h < n) (m_g : M g = .inr (7, standF ad g h op)) (m_g_1 : M (g + 1) = .inr (8, [.int 1, .ref (ad (g + 2))])) (m_g_2 : M (g + 2) = .inl (cI, 12, .inl plf)) (m_h : M h = .inr (0, hallF ad h hv)) (h6 : hv 6 = nI nc) (hnc : nc ≤ 5) (hgh : g + 2 < h ∨ h + 15 < g) : cWv l D cB cI cJ ad n M yX7_bring wsX7_bring 1 22 [.ref (ad g), .int x, .int y] (fun M' => M' g = .inr (7, standF ad g h (oiS_0_2 (oiS_0_2 op hv (tat 12 plf x)) hv y)) ∧ M' (g + 2) = .inl (cI, 12, .inl (tset 12 plf x y)) ∧ ∀ q : Nat, q ≠ g → q ≠ g + 2 → M' q = M q) := by
  refine q_body (cc := cX7_bring) (maxL := 3) (ret := none) (by decide) rfl (Nat.le_of_ble_eq_true rfl) ?_
  intro p e s m args below meth c ls X hr hlocks hK hP hl
  obtain ⟨hx, hb, hml, hown, hts⟩ := id X
  have hS : va_S (ipA ad n) s.heap s.heap [] := va_S.rf
  have hl : lv_has ls 3 [(0, .ref (ad g)), (1, .int x), (2, .int y)] := hl
  refine lv_aload_n hx hb dX7_bring_0 rfl (lv_at hl 0 rfl) ?_
  refine lv_aload_n hx hb dX7_bring_1 rfl (lv_at hl 0 rfl) ?_
  refine q_get (v := .ref (ad (g + 1))) (fs := standF ad g h op) X hK hP fX7_bring_14 h_g m_g rfl dX7_bring_2 ?_
  refine lv_iload_n hx hb dX7_bring_5 rfl (lv_at hl 1 rfl) ?_
  refine q_rdV (As := [.int x]) (rest := [.ref (ad g)]) (c_X8_at l D cB cI cJ ad n M (g + 1) (g + 2) 12 1 plf x h_g_1 h_g_2 m_g_1 m_g_2 (by decide)) X hK hP hS hl.1 rfl gX7_bring_X8_at yd_X8_at ⟨Nat.le_of_ble_eq_true rfl, Nat.le_of_ble_eq_true rfl⟩ h_g_1 m_g_1 (ci := 8) rfl rfl (Nat.le_of_ble_eq_true rfl) ⟨Nat.zero_le _, Nat.zero_le _⟩ dX7_bring_6 ?_
  refine q_wrVv (As := [.int (tat 12 plf x)]) (rest := []) (c_X7_openIfCase l D cB cI cJ ad n M hI g h nc op hv (tat 12 plf x) h_g h_h m_g m_h h6 hnc) X hK hP hS hl.1 rfl gX7_bring_X7_openIfCase yd_X7_openIfCase ⟨Nat.le_of_ble_eq_true rfl, Nat.le_of_ble_eq_true rfl⟩ h_g m_g (ci := 7) rfl rfl (Nat.le_of_ble_eq_true rfl) ⟨Nat.zero_le _, Nat.zero_le _⟩ dX7_bring_9 (fun M2 H locs hp1 hP hS => ?_)
  obtain ⟨g4, fr5⟩ := hp1
  refine lv_aload_n hx hb dX7_bring_12 rfl (lv_at hl 0 rfl) ?_
  refine lv_iload_n hx hb dX7_bring_13 rfl (lv_at hl 2 rfl) ?_
  refine q_wrVv (As := [.int y]) (rest := []) (c_X7_openIfCase l D cB cI cJ ad n M2 hI g h nc (oiS_0_2 op hv (tat 12 plf x)) hv y h_g h_h g4 ((fr5 h (by omega)).trans m_h) h6 hnc) X hK hP hS hl.1 rfl gX7_bring_X7_openIfCase yd_X7_openIfCase ⟨Nat.le_of_ble_eq_true rfl, Nat.le_of_ble_eq_true rfl⟩ h_g g4 (ci := 7) rfl rfl (Nat.le_of_ble_eq_true rfl) ⟨Nat.zero_le _, Nat.zero_le _⟩ dX7_bring_14 (fun M7 H locs hp6 hP hS => ?_)
  obtain ⟨g9, fr10⟩ := hp6
  refine lv_aload_n hx hb dX7_bring_17 rfl (lv_at hl 0 rfl) ?_
  refine q_get (v := .ref (ad (g + 1))) (fs := standF ad g h (oiS_0_2 (oiS_0_2 op hv (tat 12 plf x)) hv y)) X hK hP fX7_bring_14 h_g g9 rfl dX7_bring_18 ?_
  refine lv_iload_n hx hb dX7_bring_21 rfl (lv_at hl 1 rfl) ?_
  refine lv_iload_n hx hb dX7_bring_22 rfl (lv_at hl 2 rfl) ?_
  refine q_wrVv (As := [.int x, .int y]) (rest := []) (c_X8_set l D cB cI cJ ad n M7 hI (g + 1) (g + 2) 12 1 plf x y h_g_1 h_g_2 ((fr10 (g + 1) (by omega)).trans ((fr5 (g + 1) (by omega)).trans m_g_1)) ((fr10 (g + 2) (by omega)).trans ((fr5 (g + 2) (by omega)).trans m_g_2)) (by decide)) X hK hP hS hl.1 rfl gX7_bring_X8_set yd_X8_set ⟨Nat.le_of_ble_eq_true rfl, Nat.le_of_ble_eq_true rfl⟩ h_g_1 ((fr10 (g + 1) (by omega)).trans ((fr5 (g + 1) (by omega)).trans m_g_1)) (ci := 8) rfl rfl (Nat.le_of_ble_eq_true rfl) ⟨Nat.zero_le _, Nat.zero_le _⟩ dX7_bring_23 (fun M12 H locs hp11 hP hS => ?_)
  obtain ⟨g14, fr15⟩ := hp11
  exact q_wvret X hr hlocks hP hS ⟨((fr15 g (by omega)).trans g9), g14, (fun q n0 n1 => ((fr15 q n1).trans ((fr10 q n0).trans (fr5 q n0))))⟩ dX7_bring_26
set_option maxRecDepth 20000 in
theorem fX7_takeBack_14 : FL wsX7_takeBack RX7 14 7 1 := ⟨RX7, TX7, 3, rfl, by decide +kernel, by decide, by decide +kernel⟩
set_option maxRecDepth 20000 in
theorem fX7_takeBack_24 : FL wsX7_takeBack RX7 24 7 2 := ⟨RX7, TX7, 3, rfl, by decide +kernel, by decide, by decide +kernel⟩
set_option maxHeartbeats 4000000 in
set_option maxRecDepth 100000 in
theorem c_X7_takeBack (l : Launch) (D : va_G) (cB cI cJ : ClassId) (ad : Nat → Nat) (n : Nat) (M : Nat → va_E) (hI : ipI ad n) (g h : Nat) (op : Int32) (plf : Nat → Int32) (x y o2 : Int32) (h_g : g < n) (h_g_1 : g + 1 < n) (h_g_2 : g + 2 < n) (m_g : M g = .inr (7, standF ad g h op)) (m_g_1 : M (g + 1) = .inr (8, [.int 1, .ref (ad (g + 2))])) (m_g_2 : M (g + 2) = .inl (cI, 12, .inl plf))  : cWv l D cB cI cJ ad n M yX7_takeBack wsX7_takeBack 1 22 [.ref (ad g), .int x, .int y, .int o2] (fun M' => M' g = .inr (7, standF ad g h o2) ∧ M' (g + 2) = .inl (cI, 12, .inl (tset 12 plf x y)) ∧ ∀ q : Nat, q ≠ g → q ≠ g + 2 → M' q = M q) := by
  refine q_body (cc := cX7_takeBack) (maxL := 4) (ret := none) (by decide) rfl (Nat.le_of_ble_eq_true rfl) ?_
  intro p e s m args below meth c ls X hr hlocks hK hP hl
  obtain ⟨hx, hb, hml, hown, hts⟩ := id X
  have hS : va_S (ipA ad n) s.heap s.heap [] := va_S.rf
  have hl : lv_has ls 4 [(0, .ref (ad g)), (1, .int x), (2, .int y), (3, .int o2)] := hl
  refine lv_aload_n hx hb dX7_takeBack_0 rfl (lv_at hl 0 rfl) ?_
  refine q_get (v := .ref (ad (g + 1))) (fs := standF ad g h op) X hK hP fX7_takeBack_14 h_g m_g rfl dX7_takeBack_1 ?_
  refine lv_iload_n hx hb dX7_takeBack_4 rfl (lv_at hl 1 rfl) ?_
  refine lv_iload_n hx hb dX7_takeBack_5 rfl (lv_at hl 2 rfl) ?_
  refine q_wrVv (As := [.int x, .int y]) (rest := []) (c_X8_set l D cB cI cJ ad n M hI (g + 1) (g + 2) 12 1 plf x y h_g_1 h_g_2 m_g_1 m_g_2 (by decide)) X hK hP hS hl.1 rfl gX7_takeBack_X8_set yd_X8_set ⟨Nat.le_of_ble_eq_true rfl, Nat.le_of_ble_eq_true rfl⟩ h_g_1 m_g_1 (ci := 8) rfl rfl (Nat.le_of_ble_eq_true rfl) ⟨Nat.zero_le _, Nat.zero_le _⟩ dX7_takeBack_6 (fun M2 H locs hp1 hP hS => ?_)
  obtain ⟨g4, fr5⟩ := hp1
  refine lv_aload_n hx hb dX7_takeBack_9 rfl (lv_at hl 0 rfl) ?_
  refine lv_iload_n hx hb dX7_takeBack_10 rfl (lv_at hl 3 rfl) ?_
  refine q_put (fs := standF ad g h op) (fs' := standF ad g h o2) X hK hI hP hS fX7_takeBack_24 fw_7_2 h_g ((fr5 g (by omega)).trans m_g) rfl rfl (Nat.le_of_ble_eq_true rfl) rfl dX7_takeBack_11 (fun H locs hP hS => ?_)
  exact q_wvret X hr hlocks hP hS ⟨(va_up_self M2 g (.inr (7, standF ad g h o2))), ((va_up_ne M2 (.inr (7, standF ad g h o2)) (show g + 2 ≠ g by omega)).trans g4), (fun q n0 n1 => ((va_up_ne _ _ n0).trans (fr5 q n1)))⟩ dX7_takeBack_14
set_option maxRecDepth 20000 in
theorem fX7_become_20 : FL wsX7_become RX7 20 7 0 := ⟨RX7, TX7, 3, rfl, by decide +kernel, by decide, by decide +kernel⟩
theorem fw_7_0 : FW 7 0 (.object "PoundsOver$Hall") := ⟨RX7, TX7, 3, tyX7, rfl, tyX7_ok, nmX7, by decide, rfl, by decide +kernel⟩
set_option maxRecDepth 20000 in
theorem fX7_become_14 : FL wsX7_become RX7 14 7 1 := ⟨RX7, TX7, 3, rfl, by decide +kernel, by decide, by decide +kernel⟩
theorem yd_X8_become : YD yX8_become 1 := ⟨by decide +kernel, by decide +kernel, by decide +kernel⟩
set_option maxRecDepth 20000 in
theorem fX7_become_24 : FL wsX7_become RX7 24 7 2 := ⟨RX7, TX7, 3, rfl, by decide +kernel, by decide, by decide +kernel⟩
set_option maxHeartbeats 4000000 in
set_option maxRecDepth 100000 in
theorem c_X7_become (l : Launch) (D : va_G) (cB cI cJ : ClassId) (ad : Nat → Nat) (n : Nat) (M : Nat → va_E) (hI : ipI ad n) (g g2 h h2 : Nat) (op op2 : Int32) (plf plf2 : Nat → Int32) (h_g : g < n) (h_g_1 : g + 1 < n) (h_g_2 : g + 2 < n) (h_g2 : g2 < n) (h_g2_1 : g2 + 1 < n) (h_g2_2 : g2 + 2 < n) (m_g : M g = .inr (7, standF ad g h op)) (m_g_1 : M (g + 1) = .inr (8, [.int 1, .ref (ad (g + 2))])) (m_g_2 : M (g + 2) = .inl (cI, 12, .inl plf)) (m_g2 : M g2 = .inr (7, standF ad g2 h2 op2)) (m_g2_1 : M (g2 + 1) = .inr (8, [.int 1, .ref (ad (g2 + 2))])) (m_g2_2 : M (g2 + 2) = .inl (cI, 12, .inl plf2)) (hgg : g + 2 < g2 ∨ g2 + 2 < g) : cWv l D cB cI cJ ad n M yX7_become wsX7_become 2 43 [.ref (ad g), .ref (ad g2)] (fun M' => M' g = .inr (7, standF ad g h2 op2) ∧ M' (g + 2) = .inl (cI, 12, .inl (fun q => tat 12 plf2 (nI q))) ∧ ∀ q : Nat, q ≠ g → q ≠ g + 2 → M' q = M q) := by
  refine q_body (cc := cX7_become) (maxL := 2) (ret := none) (by decide) rfl (Nat.le_of_ble_eq_true rfl) ?_
  intro p e s m args below meth c ls X hr hlocks hK hP hl
  obtain ⟨hx, hb, hml, hown, hts⟩ := id X
  have hS : va_S (ipA ad n) s.heap s.heap [] := va_S.rf
  have hl : lv_has ls 2 [(0, .ref (ad g)), (1, .ref (ad g2))] := hl
  refine lv_aload_n hx hb dX7_become_0 rfl (lv_at hl 0 rfl) ?_
  refine lv_aload_n hx hb dX7_become_1 rfl (lv_at hl 1 rfl) ?_
  refine q_get (v := .ref (ad h2)) (fs := standF ad g2 h2 op2) X hK hP fX7_become_20 h_g2 m_g2 rfl dX7_become_2 ?_
  refine q_put (fs := standF ad g h op) (fs' := standF ad g h2 op) X hK hI hP hS fX7_become_20 fw_7_0 h_g m_g rfl rfl (Nat.le_of_ble_eq_true rfl) rfl dX7_become_5 (fun H locs hP hS => ?_)
  refine lv_aload_n hx hb dX7_become_8 rfl (lv_at hl 0 rfl) ?_
  refine q_get (v := .ref (ad (g + 1))) (fs := standF ad g h2 op) X hK hP fX7_become_14 h_g (va_up_self M g (.inr (7, standF ad g h2 op))) rfl dX7_become_9 ?_
  refine lv_aload_n hx hb dX7_become_12 rfl (lv_at hl 1 rfl) ?_
  refine q_get (v := .ref (ad (g2 + 1))) (fs := standF ad g2 h2 op2) X hK hP fX7_become_14 h_g2 ((va_up_ne M (.inr (7, standF ad g h2 op)) (show g2 ≠ g by omega)).trans m_g2) rfl dX7_become_13 ?_
  refine q_wrVv (As := [.ref (ad (g2 + 1))]) (rest := []) (c_X8_become l D cB cI cJ ad n (va_up M g (.inr (7, standF ad g h2 op))) hI (g + 1) (g + 2) 12 (g2 + 1) (g2 + 2) 12 1 1 plf plf2 h_g_1 h_g_2 h_g2_1 h_g2_2 ((va_up_ne M (.inr (7, standF ad g h2 op)) (show g + 1 ≠ g by omega)).trans m_g_1) ((va_up_ne M (.inr (7, standF ad g h2 op)) (show g + 2 ≠ g by omega)).trans m_g_2) ((va_up_ne M (.inr (7, standF ad g h2 op)) (show g2 + 1 ≠ g by omega)).trans m_g2_1) ((va_up_ne M (.inr (7, standF ad g h2 op)) (show g2 + 2 ≠ g by omega)).trans m_g2_2) (by decide) (by decide) (by first | assumption | omega | exact vp_in_nI (by omega) (by decide) | exact vp_in_iff.mpr (by decide))) X hK hP hS hl.1 rfl gX7_become_X8_become yd_X8_become ⟨Nat.le_of_ble_eq_true rfl, Nat.le_of_ble_eq_true rfl⟩ h_g_1 ((va_up_ne M (.inr (7, standF ad g h2 op)) (show g + 1 ≠ g by omega)).trans m_g_1) (ci := 8) rfl rfl (Nat.le_of_ble_eq_true rfl) ⟨Nat.zero_le _, Nat.zero_le _⟩ dX7_become_16 (fun M4 H locs hp3 hP hS => ?_)
  obtain ⟨g6, fr7⟩ := hp3
  refine lv_aload_n hx hb dX7_become_19 rfl (lv_at hl 0 rfl) ?_
  refine lv_aload_n hx hb dX7_become_20 rfl (lv_at hl 1 rfl) ?_
  refine q_get (v := .int op2) (fs := standF ad g2 h2 op2) X hK hP fX7_become_24 h_g2 ((fr7 g2 (by omega)).trans ((va_up_ne M (.inr (7, standF ad g h2 op)) (show g2 ≠ g by omega)).trans m_g2)) rfl dX7_become_21 ?_
  refine q_put (fs := standF ad g h2 op) (fs' := standF ad g h2 op2) X hK hI hP hS fX7_become_24 fw_7_2 h_g ((fr7 g (by omega)).trans (va_up_self M g (.inr (7, standF ad g h2 op)))) rfl rfl (Nat.le_of_ble_eq_true rfl) rfl dX7_become_24 (fun H locs hP hS => ?_)
  exact q_wvret X hr hlocks hP hS ⟨(va_up_self M4 g (.inr (7, standF ad g h2 op2))), ((va_up_ne M4 (.inr (7, standF ad g h2 op2)) (show g + 2 ≠ g by omega)).trans g6), (fun q n0 n1 => ((va_up_ne _ _ n0).trans ((fr7 q n1).trans (va_up_ne _ _ n0))))⟩ dX7_become_27
set_option maxRecDepth 20000 in
theorem fX7_begin_20 : FL wsX7_begin RX7 20 7 0 := ⟨RX7, TX7, 3, rfl, by decide +kernel, by decide, by decide +kernel⟩
set_option maxRecDepth 20000 in
theorem fX7_begin_24 : FL wsX7_begin RX7 24 7 2 := ⟨RX7, TX7, 3, rfl, by decide +kernel, by decide, by decide +kernel⟩
set_option maxRecDepth 20000 in
theorem fX7_begin_28 : FL wsX7_begin RX7 28 0 7 := ⟨RX0, TX0, 12, rfl, by decide +kernel, by decide, by decide +kernel⟩
set_option maxRecDepth 20000 in
theorem fX7_begin_14 : FL wsX7_begin RX7 14 7 1 := ⟨RX7, TX7, 3, rfl, by decide +kernel, by decide, by decide +kernel⟩
set_option maxRecDepth 20000 in
theorem fX7_begin_33 : FL wsX7_begin RX7 33 0 2 := ⟨RX0, TX0, 12, rfl, by decide +kernel, by decide, by decide +kernel⟩
set_option maxHeartbeats 4000000 in
set_option maxRecDepth 100000 in
theorem c_X7_begin (l : Launch) (D : va_G) (cB cI cJ : ClassId) (ad : Nat → Nat) (n : Nat) (M : Nat → va_E) (hI : ipI ad n) (g h h2 nt : Nat) (op : Int32) (hv tf plf : Nat → Int32) (h_g : g < n) (h_g_1 : g + 1 < n) (h_g_2 : g + 2 < n) (h_h2 : h2 < n) (h_h2_5 : h2 + 5 < n) (h_h2_6 : h2 + 6 < n) (m_g : M g = .inr (7, standF ad g h op)) (m_g_1 : M (g + 1) = .inr (8, [.int 1, .ref (ad (g + 2))])) (m_g_2 : M (g + 2) = .inl (cI, 12, .inl plf)) (m_h2 : M h2 = .inr (0, hallF ad h2 hv)) (m_h2_5 : M (h2 + 5) = .inr (8, [.int 7, .ref (ad (h2 + 6))])) (m_h2_6 : M (h2 + 6) = .inl (cI, 84, .inl tf)) (h7 : hv 7 = nI nt) (hnt : nt ≤ 12) (hgh : g + 2 < h2 ∨ h2 + 15 < g) : cWv l D cB cI cJ ad n M yX7_begin wsX7_begin 1 23 [.ref (ad g), .ref (ad h2)] (fun M' => M' g = .inr (7, standF ad g h2 0) ∧ M' (g + 2) = .inl (cI, 12, .inl (bgS plf tf nt)) ∧ ∀ q : Nat, q ≠ g → q ≠ g + 2 → M' q = M q) := by
  refine q_body (cc := cX7_begin) (maxL := 3) (ret := none) (by decide) rfl (Nat.le_of_ble_eq_true rfl) ?_
  intro p e s m args below meth c ls X hr hlocks hK hP hl
  obtain ⟨hx, hb, hml, hown, hts⟩ := id X
  have hS : va_S (ipA ad n) s.heap s.heap [] := va_S.rf
  have hl : lv_has ls 3 [(0, .ref (ad g)), (1, .ref (ad h2))] := hl
  refine lv_aload_n hx hb dX7_begin_0 rfl (lv_at hl 0 rfl) ?_
  refine lv_aload_n hx hb dX7_begin_1 rfl (lv_at hl 1 rfl) ?_
  refine q_put (fs := standF ad g h op) (fs' := standF ad g h2 op) X hK hI hP hS fX7_begin_20 fw_7_0 h_g m_g rfl rfl (Nat.le_of_ble_eq_true rfl) rfl dX7_begin_2 (fun H locs hP hS => ?_)
  refine lv_aload_n hx hb dX7_begin_5 rfl (lv_at hl 0 rfl) ?_
  refine lv_iconst (v := 0) hx hb dX7_begin_6 (by decide) ?_
  refine q_put (fs := standF ad g h2 op) (fs' := standF ad g h2 0) X hK hI hP hS fX7_begin_24 fw_7_2 h_g (va_up_self M g (.inr (7, standF ad g h2 op))) rfl rfl (Nat.le_of_ble_eq_true rfl) rfl dX7_begin_7 (fun H locs hP hS => ?_)
  refine lv_iconst (v := 0) hx hb dX7_begin_10 (by decide) ?_
  refine lv_istore_n (lv' := [(2, .int 0), (0, .ref (ad g)), (1, .ref (ad h2))]) hx hb dX7_begin_11 rfl hl (by decide) rfl (fun ls hl => ?_)
  have loop_12 : ∀ (fuel : Nat) (t : Nat) (x2 : Int32), nt - t < fuel → (t ≤ nt) → x2 = nI t → ∀ (ML12 : Nat → va_E) (H : Heap) (locs : List Loc), ML12 g = .inr (7, standF ad g h2 0) → ML12 (g + 2) = .inl (cI, 12, .inl (bgS plf tf t)) → (∀ q : Nat, q ≠ g → q ≠ g + 2 → ML12 q = M q) → va_P D vwCl (ip ad n ML12) H → va_S (ipA ad n) s.heap H locs → ∀ (ls : Array Slot), lv_has ls 3 [(0, .ref (ad g)), (1, .ref (ad h2)), (2, .int x2)] → W p l e (rmOf 1 23) s m args below meth c H locs 0 0 (MQ below (va_Qv (fun M' => M' g = .inr (7, standF ad g h2 0) ∧ M' (g + 2) = .inl (cI, 12, .inl (bgS plf tf nt)) ∧ ∀ q : Nat, q ≠ g → q ≠ g + 2 → M' q = M q) (fun M' t => va_P D vwCl (ip ad n M') t.heap) (ipA ad n)) args s 0 0 (ipA ad n)) (F0 m 12 ls []) := by
    intro fuel
    induction fuel with
    | zero =>
      intro t x2 hz
      exact absurd hz (Nat.not_lt_zero _)
    | succ fuel ih_12 =>
      intro t x2 hz_12 h_t e2 ML12 H locs mL12_0 mL12_1 fL12 hP hS ls hl
      subst e2
      skip
      refine lv_iload_n hx hb dX7_begin_12 rfl (lv_at hl 2 rfl) ?_
      refine lv_aload_n hx hb dX7_begin_13 rfl (lv_at hl 1 rfl) ?_
      refine q_get (v := .int (hv 7)) (fs := hallF ad h2 hv) X hK hP fX7_begin_28 h_h2 ((fL12 h2 (by omega) (by omega)).trans m_h2) rfl dX7_begin_14 ?_
      refine lv_icmp_ge (tgt := 43) hx hb dX7_begin_17 (by decide) (fun c_17 => ?_) (fun c_17 => ?_)
      · skip
        exact q_wvret X hr hlocks hP hS ⟨mL12_0, (by rw [h7] at c_17; have h9 : t = nt := eq_of_le c_17 (by omega) h_t; subst h9; exact mL12_1), (fun q n0 n1 => (fL12 q n0 n1))⟩ dX7_begin_43
      · skip
        refine lv_aload_n hx hb dX7_begin_20 rfl (lv_at hl 0 rfl) ?_
        refine q_get (v := .ref (ad (g + 1))) (fs := standF ad g h2 0) X hK hP fX7_begin_14 h_g mL12_0 rfl dX7_begin_21 ?_
        refine lv_iload_n hx hb dX7_begin_24 rfl (lv_at hl 2 rfl) ?_
        refine lv_aload_n hx hb dX7_begin_25 rfl (lv_at hl 1 rfl) ?_
        refine q_get (v := .ref (ad (h2 + 5))) (fs := hallF ad h2 hv) X hK hP fX7_begin_33 h_h2 ((fL12 h2 (by omega) (by omega)).trans m_h2) rfl dX7_begin_26 ?_
        refine lv_iload_n hx hb dX7_begin_29 rfl (lv_at hl 2 rfl) ?_
        refine lv_iconst (v := 5) hx hb dX7_begin_30 (by decide) ?_
        refine q_rdV (As := [.int (nI t), .int 5]) (rest := [.int (nI t), .ref (ad (g + 1))]) (c_X8_at_ l D cB cI cJ ad n ML12 (h2 + 5) (h2 + 6) 84 7 tf (nI t) 5 h_h2_5 h_h2_6 ((fL12 (h2 + 5) (by omega) (by omega)).trans m_h2_5) ((fL12 (h2 + 6) (by omega) (by omega)).trans m_h2_6) (by decide)) X hK hP hS hl.1 rfl gX7_begin_X8_at_ yd_X8_at_ ⟨Nat.le_of_ble_eq_true rfl, Nat.le_of_ble_eq_true rfl⟩ h_h2_5 ((fL12 (h2 + 5) (by omega) (by omega)).trans m_h2_5) (ci := 8) rfl rfl (Nat.le_of_ble_eq_true rfl) ⟨Nat.zero_le _, Nat.zero_le _⟩ dX7_begin_31 ?_
        refine q_wrVv (As := [.int (nI t), .int (tat 84 tf ((nI t) * 7 + 5))]) (rest := []) (c_X8_set l D cB cI cJ ad n ML12 hI (g + 1) (g + 2) 12 1 (bgS plf tf t) (nI t) (tat 84 tf ((nI t) * 7 + 5)) h_g_1 h_g_2 ((fL12 (g + 1) (by omega) (by omega)).trans m_g_1) mL12_1 (by decide)) X hK hP hS hl.1 rfl gX7_begin_X8_set yd_X8_set ⟨Nat.le_of_ble_eq_true rfl, Nat.le_of_ble_eq_true rfl⟩ h_g_1 ((fL12 (g + 1) (by omega) (by omega)).trans m_g_1) (ci := 8) rfl rfl (Nat.le_of_ble_eq_true rfl) ⟨Nat.zero_le _, Nat.zero_le _⟩ dX7_begin_34 (fun M6 H locs hp5 hP hS => ?_)
        obtain ⟨g8, fr9⟩ := hp5
        refine lv_iinc (v := ((nI t) + 1)) (lv' := [(2, .int ((nI t) + 1)), (0, .ref (ad g)), (1, .ref (ad h2))]) hx hb dX7_begin_37 hl (k := 2) rfl rfl (by decide) rfl (fun ls hl => ?_)
        refine lv_goto (tgt := 12) hx hb dX7_begin_40 (by decide) ?_
        exact ih_12 (t + 1) ((nI t) + 1) (by rw [h7] at c_17; have h9_ := lt_of_nlt c_17 (by omega) h_t; omega) (by rw [h7] at c_17; have h9_ := lt_of_nlt c_17 (by omega) h_t; omega) (by first | rfl | exact nI_0.symm | exact nI_1 _) _ _ _ ((fr9 g (by omega)).trans mL12_0) g8 (fun q n0 n1 => ((fr9 q n1).trans (fL12 q n0 n1))) hP hS ls (lv_sub hl [1, 2, 0] rfl)
  exact loop_12 (nt + 1) 0 0 (by omega) (by omega) (by first | rfl | exact nI_0.symm | exact nI_1 _) _ _ _ (va_up_self (va_up M g (.inr (7, standF ad g h2 op))) g (.inr (7, standF ad g h2 0))) ((va_up_ne (va_up M g (.inr (7, standF ad g h2 op))) (.inr (7, standF ad g h2 0)) (show g + 2 ≠ g by omega)).trans ((va_up_ne M (.inr (7, standF ad g h2 op)) (show g + 2 ≠ g by omega)).trans m_g_2)) (fun q n0 n1 => ((va_up_ne _ _ n0).trans (va_up_ne _ _ n0))) hP hS ls (lv_sub hl [1, 2, 0] rfl)
