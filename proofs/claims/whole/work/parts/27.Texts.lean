/-! java.lang.String: length, charAt of a word's text -/
set_option maxHeartbeats 4000000 in
set_option maxRecDepth 100000 in
theorem c_J3_checkN (l : Launch) (D : va_G) (cB cI cJ : ClassId) (ad : Nat → Nat) (n : Nat) (M : Nat → va_E) (k ln : Nat)   (hkl : k < ln) (hln : ln < 2 ^ 30) : cR l D cB cI cJ ad n M yJ3_checkIndex_8e157 wsJ3_checkIndex_8e157 0 0 [.int (nI k), .int (nI ln), .null] (nI k) := by
  refine q_body (cc := cJ3_checkIndex_8e157) (maxL := 3) (ret := (some .int)) (by decide) rfl (Nat.le_of_ble_eq_true rfl) ?_
  intro p e s m args below meth c ls X hr hlocks hK hP hl
  obtain ⟨hx, hb, hml, hown, hts⟩ := id X
  have hS : va_S (ipA ad n) s.heap s.heap [] := va_S.rf
  have hl : lv_has ls 3 [(0, .int (nI k)), (1, .int (nI ln)), (2, .null)] := hl
  refine lv_iload_n hx hb dJ3_checkIndex_8e157_0 rfl (lv_at hl 0 rfl) ?_
  refine lv_if_lt (tgt := 9) hx hb dJ3_checkIndex_8e157_1 (by decide) (fun c_1 => ?_) (fun c_1 => ?_)
  · exact absurd c_1 (nI_pos (by omega))
  · skip
    refine lv_iload_n hx hb dJ3_checkIndex_8e157_4 rfl (lv_at hl 0 rfl) ?_
    refine lv_iload_n hx hb dJ3_checkIndex_8e157_5 rfl (lv_at hl 1 rfl) ?_
    refine lv_icmp_lt (tgt := 16) hx hb dJ3_checkIndex_8e157_6 (by decide) (fun c_6 => ?_) (fun c_6 => ?_)
    · skip
      refine lv_iload_n hx hb dJ3_checkIndex_8e157_16 rfl (lv_at hl 0 rfl) ?_
      exact q_iret hb hx hr hlocks (by rfl) dJ3_checkIndex_8e157_17
    · exact absurd (nI_lt hkl (by omega)) c_6
set_option maxHeartbeats 4000000 in
set_option maxRecDepth 100000 in
theorem c_J3_checkR (l : Launch) (D : va_G) (cB cI cJ : ClassId) (ad : Nat → Nat) (n : Nat) (M : Nat → va_E) (k ln t : Nat)   (hkl : k < ln) (hln : ln < 2 ^ 30) : cR l D cB cI cJ ad n M yJ3_checkIndex_8e157 wsJ3_checkIndex_8e157 0 0 [.int (nI k), .int (nI ln), .ref t] (nI k) := by
  refine q_body (cc := cJ3_checkIndex_8e157) (maxL := 3) (ret := (some .int)) (by decide) rfl (Nat.le_of_ble_eq_true rfl) ?_
  intro p e s m args below meth c ls X hr hlocks hK hP hl
  obtain ⟨hx, hb, hml, hown, hts⟩ := id X
  have hS : va_S (ipA ad n) s.heap s.heap [] := va_S.rf
  have hl : lv_has ls 3 [(0, .int (nI k)), (1, .int (nI ln)), (2, .ref t)] := hl
  refine lv_iload_n hx hb dJ3_checkIndex_8e157_0 rfl (lv_at hl 0 rfl) ?_
  refine lv_if_lt (tgt := 9) hx hb dJ3_checkIndex_8e157_1 (by decide) (fun c_1 => ?_) (fun c_1 => ?_)
  · exact absurd c_1 (nI_pos (by omega))
  · skip
    refine lv_iload_n hx hb dJ3_checkIndex_8e157_4 rfl (lv_at hl 0 rfl) ?_
    refine lv_iload_n hx hb dJ3_checkIndex_8e157_5 rfl (lv_at hl 1 rfl) ?_
    refine lv_icmp_lt (tgt := 16) hx hb dJ3_checkIndex_8e157_6 (by decide) (fun c_6 => ?_) (fun c_6 => ?_)
    · skip
      refine lv_iload_n hx hb dJ3_checkIndex_8e157_16 rfl (lv_at hl 0 rfl) ?_
      exact q_iret hb hx hr hlocks (by rfl) dJ3_checkIndex_8e157_17
    · exact absurd (nI_lt hkl (by omega)) c_6
theorem yd_J3_checkIndex_8e157 : YD yJ3_checkIndex_8e157 3 := ⟨by decide +kernel, by decide +kernel, by decide +kernel⟩
set_option maxHeartbeats 4000000 in
set_option maxRecDepth 100000 in
theorem c_J0_checkIndex_df160 (l : Launch) (D : va_G) (cB cI cJ : ClassId) (ad : Nat → Nat) (n : Nat) (M : Nat → va_E) (k ln : Nat)   (hkl : k < ln) (hln : ln < 2 ^ 30) : cRv l D cB cI cJ ad n M yJ0_checkIndex_df160 wsJ0_checkIndex_df160 1 22 [.int (nI k), .int (nI ln)]  := by
  refine q_body (cc := cJ0_checkIndex_df160) (maxL := 2) (ret := none) (by decide) rfl (Nat.le_of_ble_eq_true rfl) ?_
  intro p e s m args below meth c ls X hr hlocks hK hP hl
  obtain ⟨hx, hb, hml, hown, hts⟩ := id X
  have hS : va_S (ipA ad n) s.heap s.heap [] := va_S.rf
  have hl : lv_has ls 2 [(0, .int (nI k)), (1, .int (nI ln))] := hl
  refine lv_iload_n hx hb dJ0_checkIndex_df160_0 rfl (lv_at hl 0 rfl) ?_
  refine lv_iload_n hx hb dJ0_checkIndex_df160_1 rfl (lv_at hl 1 rfl) ?_
  refine q_gsF X hK hS (by decide +kernel) dJ0_checkIndex_df160_2 ?_ (fun tF => ?_)
  · skip
    refine q_rdS (As := [.int (nI k), .int (nI ln), .null]) (rest := []) (c_J3_checkN l D cB cI cJ ad n M k ln   hkl hln) X hK hP hS hl.1 rfl gJ0_checkIndex_df160_J3_checkIndex_8e157 yd_J3_checkIndex_8e157 ⟨Nat.le_of_ble_eq_true rfl, Nat.le_of_ble_eq_true rfl⟩ rfl (Nat.le_of_ble_eq_true rfl) ⟨Nat.zero_le _, Nat.zero_le _⟩ dJ0_checkIndex_df160_5 ?_
    refine lv_pop hx hb dJ0_checkIndex_df160_8 rfl ?_
    exact q_vret X hr hlocks dJ0_checkIndex_df160_9
  · skip
    refine q_rdS (As := [.int (nI k), .int (nI ln), .ref tF]) (rest := []) (c_J3_checkR l D cB cI cJ ad n M k ln tF   hkl hln) X hK hP hS hl.1 rfl gJ0_checkIndex_df160_J3_checkIndex_8e157 yd_J3_checkIndex_8e157 ⟨Nat.le_of_ble_eq_true rfl, Nat.le_of_ble_eq_true rfl⟩ rfl (Nat.le_of_ble_eq_true rfl) ⟨Nat.zero_le _, Nat.zero_le _⟩ dJ0_checkIndex_df160_5 ?_
    refine lv_pop hx hb dJ0_checkIndex_df160_8 rfl ?_
    exact q_vret X hr hlocks dJ0_checkIndex_df160_9
theorem yd_J0_checkIndex_df160 : YD yJ0_checkIndex_df160 2 := ⟨by decide +kernel, by decide +kernel, by decide +kernel⟩
set_option maxHeartbeats 4000000 in
set_option maxRecDepth 100000 in
theorem c_J1_charAt_3b067 (l : Launch) (D : va_G) (cB cI cJ : ClassId) (ad : Nat → Nat) (n : Nat) (M : Nat → va_E) (i k : Nat)   (hi : i < 20) (hk : k < wLn.getD i 0) : cR l D cB cI cJ ad n M yJ1_charAt_3b067 wsJ1_charAt_3b067 2 43 [.ref (ad (3000 + i)), .int (nI k)] ((wBy.getD i []).getD k 0) := by
  refine q_body (cc := cJ1_charAt_3b067) (maxL := 2) (ret := (some .char)) (by decide) rfl (Nat.le_of_ble_eq_true rfl) ?_
  intro p e s m args below meth c ls X hr hlocks hK hP hl
  obtain ⟨hx, hb, hml, hown, hts⟩ := id X
  have hS : va_S (ipA ad n) s.heap s.heap [] := va_S.rf
  have hl : lv_has ls 2 [(0, .ref (ad (3000 + i))), (1, .int (nI k))] := hl
  refine lv_iload_n hx hb dJ1_charAt_3b067_0 rfl (lv_at hl 1 rfl) ?_
  refine lv_aload_n hx hb dJ1_charAt_3b067_1 rfl (lv_at hl 0 rfl) ?_
  refine q_strL (i := i) X hK hS (by first | omega | assumption | exact fwS_lt ..) dJ1_charAt_3b067_2 ?_
  refine q_rdSv (As := [.int (nI k), .int (nI (wLn.getD i 0))]) (rest := []) (c_J0_checkIndex_df160 l D cB cI cJ ad n M k (wLn.getD i 0)   (by first | assumption | (have := w_ln i hi; omega)) (by first | assumption | (have := w_ln i hi; omega))) X hK hP hS hl.1 rfl gJ1_charAt_3b067_J0_checkIndex_df160 yd_J0_checkIndex_df160 ⟨Nat.le_of_ble_eq_true rfl, Nat.le_of_ble_eq_true rfl⟩ rfl (Nat.le_of_ble_eq_true rfl) ⟨Nat.zero_le _, Nat.zero_le _⟩ dJ1_charAt_3b067_3 ?_
  refine lv_aload_n hx hb dJ1_charAt_3b067_6 rfl (lv_at hl 0 rfl) ?_
  refine lv_iload_n hx hb dJ1_charAt_3b067_7 rfl (lv_at hl 1 rfl) ?_
  refine q_strB (i := i) (k := k) X hK hS (by first | omega | assumption | exact fwS_lt ..) (by assumption) dJ1_charAt_3b067_8 ?_
  refine lv_sipush (v := 255) hx hb dJ1_charAt_3b067_9 (by decide) ?_
  refine lv_iand hx hb dJ1_charAt_3b067_12 ?_
  refine lv_i2c hx hb dJ1_charAt_3b067_13 rfl ?_
  exact q_zret X hr hlocks (pk_nc _) (by exact w_by i hi k hk) dJ1_charAt_3b067_14
set_option maxHeartbeats 4000000 in
set_option maxRecDepth 100000 in
theorem c_J0_coder_7d493 (l : Launch) (D : va_G) (cB cI cJ : ClassId) (ad : Nat → Nat) (n : Nat) (M : Nat → va_E) (i : Nat)   (hi : i < 20) : cR l D cB cI cJ ad n M yJ0_coder_7d493 wsJ0_coder_7d493 0 0 [.ref (ad (2000 + i))] 0 := by
  refine q_body (cc := cJ0_coder_7d493) (maxL := 1) (ret := (some .byte)) (by decide) rfl (Nat.le_of_ble_eq_true rfl) ?_
  intro p e s m args below meth c ls X hr hlocks hK hP hl
  obtain ⟨hx, hb, hml, hown, hts⟩ := id X
  have hS : va_S (ipA ad n) s.heap s.heap [] := va_S.rf
  have hl : lv_has ls 1 [(0, .ref (ad (2000 + i)))] := hl
  refine q_gsC X hK hS (by decide +kernel) dJ0_coder_7d493_0 ?_
  refine lv_if_eq (tgt := 13) hx hb dJ0_coder_7d493_3 (by decide) (fun c_3 => ?_) (fun c_3 => ?_)
  · exact absurd c_3 (by decide)
  · clear c_3
    refine lv_aload_n hx hb dJ0_coder_7d493_6 rfl (lv_at hl 0 rfl) ?_
    refine q_strC (i := i) X hK hS (by first | omega | assumption | exact fwS_lt ..) (by decide +kernel) dJ0_coder_7d493_7 ?_
    refine lv_goto (tgt := 14) hx hb dJ0_coder_7d493_10 (by decide) ?_
    exact q_zret X hr hlocks (rfl) (by rfl) dJ0_coder_7d493_14
set_option maxHeartbeats 4000000 in
set_option maxRecDepth 100000 in
theorem c_J0_isLatin1_aae02 (l : Launch) (D : va_G) (cB cI cJ : ClassId) (ad : Nat → Nat) (n : Nat) (M : Nat → va_E) (i : Nat)   (hi : i < 20) : cR l D cB cI cJ ad n M yJ0_isLatin1_aae02 wsJ0_isLatin1_aae02 0 0 [.ref (ad (2000 + i))] 1 := by
  refine q_body (cc := cJ0_isLatin1_aae02) (maxL := 1) (ret := (some .boolean)) (by decide) rfl (Nat.le_of_ble_eq_true rfl) ?_
  intro p e s m args below meth c ls X hr hlocks hK hP hl
  obtain ⟨hx, hb, hml, hown, hts⟩ := id X
  have hS : va_S (ipA ad n) s.heap s.heap [] := va_S.rf
  have hl : lv_has ls 1 [(0, .ref (ad (2000 + i)))] := hl
  refine q_gsC X hK hS (by decide +kernel) dJ0_isLatin1_aae02_0 ?_
  refine lv_if_eq (tgt := 17) hx hb dJ0_isLatin1_aae02_3 (by decide) (fun c_3 => ?_) (fun c_3 => ?_)
  · exact absurd c_3 (by decide)
  · clear c_3
    refine lv_aload_n hx hb dJ0_isLatin1_aae02_6 rfl (lv_at hl 0 rfl) ?_
    refine q_strC (i := i) X hK hS (by first | omega | assumption | exact fwS_lt ..) (by decide +kernel) dJ0_isLatin1_aae02_7 ?_
    refine lv_if_ne (tgt := 17) hx hb dJ0_isLatin1_aae02_10 (by decide) (fun c_10 => ?_) (fun c_10 => ?_)
    · exact absurd c_10 (by decide)
    · clear c_10
      refine lv_iconst (v := 1) hx hb dJ0_isLatin1_aae02_13 (by decide) ?_
      refine lv_goto (tgt := 18) hx hb dJ0_isLatin1_aae02_14 (by decide) ?_
      exact q_zret X hr hlocks (rfl) (by rfl) dJ0_isLatin1_aae02_18
theorem yd_J0_coder_7d493 : YD yJ0_coder_7d493 0 := ⟨by decide +kernel, by decide +kernel, by decide +kernel⟩
set_option maxHeartbeats 4000000 in
set_option maxRecDepth 100000 in
theorem c_J0_length_8abf5 (l : Launch) (D : va_G) (cB cI cJ : ClassId) (ad : Nat → Nat) (n : Nat) (M : Nat → va_E) (i : Nat)   (hi : i < 20) : cR l D cB cI cJ ad n M yJ0_length_8abf5 wsJ0_length_8abf5 1 20 [.ref (ad (2000 + i))] (nI (wLn.getD i 0)) := by
  refine q_body (cc := cJ0_length_8abf5) (maxL := 1) (ret := (some .int)) (by decide) rfl (Nat.le_of_ble_eq_true rfl) ?_
  intro p e s m args below meth c ls X hr hlocks hK hP hl
  obtain ⟨hx, hb, hml, hown, hts⟩ := id X
  have hS : va_S (ipA ad n) s.heap s.heap [] := va_S.rf
  have hl : lv_has ls 1 [(0, .ref (ad (2000 + i)))] := hl
  refine lv_aload_n hx hb dJ0_length_8abf5_0 rfl (lv_at hl 0 rfl) ?_
  refine q_strV (i := i) X hK hS (by first | omega | assumption | exact fwS_lt ..) (by decide +kernel) dJ0_length_8abf5_1 ?_
  refine q_strL (i := i) X hK hS (by first | omega | assumption | exact fwS_lt ..) dJ0_length_8abf5_4 ?_
  refine lv_aload_n hx hb dJ0_length_8abf5_5 rfl (lv_at hl 0 rfl) ?_
  refine q_rdT (i := i) (As := []) (rest := [.int (nI (wLn.getD i 0))]) (c_J0_coder_7d493 l D cB cI cJ ad n M i   hi) X hK hP hS hl.1 rfl gJ0_length_8abf5_J0_coder_7d493 yd_J0_coder_7d493 ⟨Nat.le_of_ble_eq_true rfl, Nat.le_of_ble_eq_true rfl⟩ (by first | omega | assumption | exact fwS_lt ..) rfl rfl (Nat.le_of_ble_eq_true rfl) ⟨Nat.zero_le _, Nat.zero_le _⟩ dJ0_length_8abf5_6 ?_
  refine lv_ishr hx hb dJ0_length_8abf5_9 ?_
  exact q_iret hb hx hr hlocks (by exact w_sh i hi) dJ0_length_8abf5_10
theorem yd_J0_isLatin1_aae02 : YD yJ0_isLatin1_aae02 0 := ⟨by decide +kernel, by decide +kernel, by decide +kernel⟩
theorem yd_J1_charAt_3b067 : YD yJ1_charAt_3b067 2 := ⟨by decide +kernel, by decide +kernel, by decide +kernel⟩
set_option maxHeartbeats 4000000 in
set_option maxRecDepth 100000 in
theorem c_J0_charAt_5068e (l : Launch) (D : va_G) (cB cI cJ : ClassId) (ad : Nat → Nat) (n : Nat) (M : Nat → va_E) (i k : Nat)   (hi : i < 20) (hk : k < wLn.getD i 0) : cR l D cB cI cJ ad n M yJ0_charAt_5068e wsJ0_charAt_5068e 3 64 [.ref (ad (2000 + i)), .int (nI k)] ((wBy.getD i []).getD k 0) := by
  refine q_body (cc := cJ0_charAt_5068e) (maxL := 2) (ret := (some .char)) (by decide) rfl (Nat.le_of_ble_eq_true rfl) ?_
  intro p e s m args below meth c ls X hr hlocks hK hP hl
  obtain ⟨hx, hb, hml, hown, hts⟩ := id X
  have hS : va_S (ipA ad n) s.heap s.heap [] := va_S.rf
  have hl : lv_has ls 2 [(0, .ref (ad (2000 + i))), (1, .int (nI k))] := hl
  refine lv_aload_n hx hb dJ0_charAt_5068e_0 rfl (lv_at hl 0 rfl) ?_
  refine q_rdT (i := i) (As := []) (rest := []) (c_J0_isLatin1_aae02 l D cB cI cJ ad n M i   hi) X hK hP hS hl.1 rfl gJ0_charAt_5068e_J0_isLatin1_aae02 yd_J0_isLatin1_aae02 ⟨Nat.le_of_ble_eq_true rfl, Nat.le_of_ble_eq_true rfl⟩ (by first | omega | assumption | exact fwS_lt ..) rfl rfl (Nat.le_of_ble_eq_true rfl) ⟨Nat.zero_le _, Nat.zero_le _⟩ dJ0_charAt_5068e_1 ?_
  refine lv_if_eq (tgt := 16) hx hb dJ0_charAt_5068e_4 (by decide) (fun c_4 => ?_) (fun c_4 => ?_)
  · exact absurd c_4 (by decide)
  · clear c_4
    refine lv_aload_n hx hb dJ0_charAt_5068e_7 rfl (lv_at hl 0 rfl) ?_
    refine q_strV (i := i) X hK hS (by first | omega | assumption | exact fwS_lt ..) (by decide +kernel) dJ0_charAt_5068e_8 ?_
    refine lv_iload_n hx hb dJ0_charAt_5068e_11 rfl (lv_at hl 1 rfl) ?_
    refine q_rdS (As := [.ref (ad (3000 + i)), .int (nI k)]) (rest := []) (c_J1_charAt_3b067 l D cB cI cJ ad n M i k   hi hk) X hK hP hS hl.1 rfl gJ0_charAt_5068e_J1_charAt_3b067 yd_J1_charAt_3b067 ⟨Nat.le_of_ble_eq_true rfl, Nat.le_of_ble_eq_true rfl⟩ rfl (Nat.le_of_ble_eq_true rfl) ⟨Nat.zero_le _, Nat.zero_le _⟩ dJ0_charAt_5068e_12 ?_
    exact q_zret X hr hlocks (w_nc hi hk) (by rfl) dJ0_charAt_5068e_15
