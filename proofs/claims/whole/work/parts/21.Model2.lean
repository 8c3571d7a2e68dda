/-! PoundsOverModel: what is looked up, shifted, seen -/
theorem vp_lt {x : Int32} {N : Nat} (h : vp_in x N) : x.toNatClampNeg < N := Nat.not_le.mp fun q => h (Or.inr q)
theorem vp_of {x : Int32} {k N : Nat} (h : x = nI k) (hk : k < N) (hN : N < 2 ^ 31) : vp_in x N := by rw [h]; exact vp_in_nI hk hN
theorem vp_pred {x : Int32} {k N : Nat} (h : x = nI k) (h0 : ¬ x = 0) (hk : k ≤ N) (hN : N < 2 ^ 31) : vp_in (x - 1) N := by
  subst h
  cases k with
  | zero => exact absurd nI_0 h0
  | succ k => rw [nI_pred]; exact vp_in_nI (by omega) hN
theorem vp_ne {x : Int32} {k N : Nat} (h : x = nI k) (h0 : ¬ x = nI N) (hk : k ≤ N) (hN : N < 2 ^ 31) : vp_in x N := by
  subst h
  exact vp_in_nI (Nat.lt_of_le_of_ne hk (fun q => h0 (by rw [q]))) hN
theorem vp_12 {f : Nat → Int32} {nt : Nat} {x : Int32} (k2 : f 2 = nI nt) (hnt : nt ≤ 12) (h : ¬ s_X13_isIn x.toInt64 0 ((f 2 - 1).toInt64) = 0) : vp_in x 12 := isIn_vp k2 hnt (by decide) h
set_option maxRecDepth 20000 in
theorem fX13_mayBe_84 : FL wsX13_mayBe RX13 84 12 18 := ⟨RX13, TX13, 67, rfl, by decide +kernel, by decide, by decide +kernel⟩
theorem yd_X13_isCase : YD yX13_isCase 1 := ⟨by decide +kernel, by decide +kernel, by decide +kernel⟩
theorem yd_X13_isPerson : YD yX13_isPerson 1 := ⟨by decide +kernel, by decide +kernel, by decide +kernel⟩
set_option maxRecDepth 20000 in
theorem fX13_mayBe_66 : FL wsX13_mayBe RX13 66 12 12 := ⟨RX13, TX13, 67, rfl, by decide +kernel, by decide, by decide +kernel⟩
theorem yd_X13_priceOf : YD yX13_priceOf 1 := ⟨by decide +kernel, by decide +kernel, by decide +kernel⟩
set_option maxRecDepth 20000 in
theorem fX13_mayBe_75 : FL wsX13_mayBe RX13 75 12 15 := ⟨RX13, TX13, 67, rfl, by decide +kernel, by decide, by decide +kernel⟩
set_option maxRecDepth 20000 in
theorem fX13_mayBe_47 : FL wsX13_mayBe RX13 47 12 5 := ⟨RX13, TX13, 67, rfl, by decide +kernel, by decide, by decide +kernel⟩
set_option maxRecDepth 20000 in
theorem fX13_mayBe_81 : FL wsX13_mayBe RX13 81 12 17 := ⟨RX13, TX13, 67, rfl, by decide +kernel, by decide, by decide +kernel⟩
set_option maxRecDepth 20000 in
theorem fX13_mayBe_50 : FL wsX13_mayBe RX13 50 12 6 := ⟨RX13, TX13, 67, rfl, by decide +kernel, by decide, by decide +kernel⟩
set_option maxRecDepth 20000 in
theorem fX13_mayBe_58 : FL wsX13_mayBe RX13 58 12 9 := ⟨RX13, TX13, 67, rfl, by decide +kernel, by decide, by decide +kernel⟩
set_option maxRecDepth 20000 in
theorem fX13_mayBe_64 : FL wsX13_mayBe RX13 64 12 11 := ⟨RX13, TX13, 67, rfl, by decide +kernel, by decide, by decide +kernel⟩
def s_X13_mayBe (nt : Nat) (nq : Nat) (toldF : Nat → Int32) (pocketsF : Nat → Int32) (bearsF : Nat → Int32) (holdsF : Nat → Int32) (boardF : Nat → Int32) (kindF : Nat → Int32) (heavyF : Nat → Int32) (wideF : Nat → Int32) (hotF : Nat → Int32) (placeF : Nat → Int32) (postToF : Nat → Int32) (priceF : Nat → Int32) (x : Int32) (y : Int32) : Int32 := if (placeF x.toNatClampNeg) = y then 0 else if (placeF x.toNatClampNeg) < 20 then if (s_X13_isCase toldF y) = 0 then if (s_X13_isPerson toldF (y - 10)) = 0 then if y = 20 then 1 else if y = 21 then if (s_X13_priceOf nq heavyF postToF priceF x) = (-1) then if y = 22 then if (kindF x.toNatClampNeg) = 4 then 1 else 0 else 0 else 1 else if y = 22 then if (kindF x.toNatClampNeg) = 4 then 1 else 0 else 0 else if (kindF x.toNatClampNeg) = 1 then if (bearsF (y - 10).toNatClampNeg) < ((s_X13_sumAt nt kindF heavyF wideF hotF placeF y 3) + (hotF x.toNatClampNeg)) then 0 else 1 else if 2 < (wideF x.toNatClampNeg) then 0 else if (pocketsF (y - 10).toNatClampNeg) < ((s_X13_sumAt nt kindF heavyF wideF hotF placeF y 4) + (wideF x.toNatClampNeg)) then 0 else 1 else if (holdsF y.toNatClampNeg) < ((s_X13_sumAt nt kindF heavyF wideF hotF placeF y 2) + (wideF x.toNatClampNeg)) then 0 else if (kindF x.toNatClampNeg) = 2 then if (boardF y.toNatClampNeg) = 0 then 1 else 0 else 1 else 0
set_option maxHeartbeats 4000000 in
set_option maxRecDepth 100000 in
theorem c_X13_mayBe (l : Launch) (D : va_G) (cB cI cJ : ClassId) (ad : Nat → Nat) (n : Nat) (M : Nat → va_E) (mb : Nat) (nt : Nat) (nc : Nat) (np : Nat) (nq : Nat) (mv : Nat → Int32) (toldF : Nat → Int32) (pocketsF : Nat → Int32) (bearsF : Nat → Int32) (holdsF : Nat → Int32) (boardF : Nat → Int32) (kindF : Nat → Int32) (heavyF : Nat → Int32) (wideF : Nat → Int32) (hotF : Nat → Int32) (placeF : Nat → Int32) (postToF : Nat → Int32) (priceF : Nat → Int32) (x : Int32) (y : Int32) (h_mb : mb < n) (h_mb_3 : mb + 3 < n) (h_mb_5 : mb + 5 < n) (h_mb_6 : mb + 6 < n) (h_mb_9 : mb + 9 < n) (h_mb_11 : mb + 11 < n) (h_mb_12 : mb + 12 < n) (h_mb_13 : mb + 13 < n) (h_mb_15 : mb + 15 < n) (h_mb_17 : mb + 17 < n) (h_mb_18 : mb + 18 < n) (h_mb_19 : mb + 19 < n) (h_mb_20 : mb + 20 < n) (m_mb : M mb = .inr (12, modF ad mb mv)) (m_mb_3 : M (mb + 3) = .inl (cI, 14, .inl toldF)) (m_mb_5 : M (mb + 5) = .inl (cI, 8, .inl pocketsF)) (m_mb_6 : M (mb + 6) = .inl (cI, 8, .inl bearsF)) (m_mb_9 : M (mb + 9) = .inl (cI, 10, .inl holdsF)) (m_mb_11 : M (mb + 11) = .inl (cI, 10, .inl boardF)) (m_mb_12 : M (mb + 12) = .inl (cI, 24, .inl kindF)) (m_mb_13 : M (mb + 13) = .inl (cI, 24, .inl heavyF)) (m_mb_15 : M (mb + 15) = .inl (cI, 24, .inl wideF)) (m_mb_17 : M (mb + 17) = .inl (cI, 24, .inl hotF)) (m_mb_18 : M (mb + 18) = .inl (cI, 24, .inl placeF)) (m_mb_19 : M (mb + 19) = .inl (cI, 12, .inl postToF)) (m_mb_20 : M (mb + 20) = .inl (cI, 12, .inl priceF)) (k0 : toldF 0 = nI np) (hnp : np ≤ 4) (k1 : toldF 1 = nI nc) (hnc : nc ≤ 5) (k2 : toldF 2 = nI nt) (hnt : nt ≤ 12) (k3 : toldF 3 = nI nq) (hnq : nq ≤ 6) (vx : vp_in x 24) : cR l D cB cI cJ ad n M yX13_mayBe wsX13_mayBe 2 46 [.ref (ad mb), .int x, .int y] (s_X13_mayBe nt nq toldF pocketsF bearsF holdsF boardF kindF heavyF wideF hotF placeF postToF priceF x y) := by
  refine q_body (cc := cX13_mayBe) (maxL := 3) (ret := (some .boolean)) (by decide) rfl (Nat.le_of_ble_eq_true rfl) ?_
  intro p e s m args below meth c ls X hr hlocks hK hP hl
  obtain ⟨hx, hb, hml, hown, hts⟩ := id X
  have hS : va_S (ipA ad n) s.heap s.heap [] := va_S.rf
  have hl : lv_has ls 3 [(0, .ref (ad mb)), (1, .int x), (2, .int y)] := hl
  refine lv_aload_n hx hb dX13_mayBe_0 rfl (lv_at hl 0 rfl) ?_
  refine q_get (v := .ref (ad (mb + 18))) (fs := modF ad mb mv) X hK hP fX13_mayBe_84 h_mb m_mb rfl dX13_mayBe_1 ?_
  refine lv_iload_n hx hb dX13_mayBe_4 rfl (lv_at hl 1 rfl) ?_
  refine q_iald (f := placeF) (k := 24) X hK hP h_mb_18 m_mb_18 (by assumption) dX13_mayBe_5 ?_
  refine lv_iload_n hx hb dX13_mayBe_6 rfl (lv_at hl 2 rfl) ?_
  refine lv_icmp_eq (tgt := 21) hx hb dX13_mayBe_7 (by decide) (fun c_7 => ?_) (fun c_7 => ?_)
  · skip
    refine lv_iconst (v := 0) hx hb dX13_mayBe_21 (by decide) ?_
    exact q_zret X hr hlocks (rfl) (by rw [s_X13_mayBe, if_pos c_7]) dX13_mayBe_22
  · skip
    refine lv_aload_n hx hb dX13_mayBe_10 rfl (lv_at hl 0 rfl) ?_
    refine q_get (v := .ref (ad (mb + 18))) (fs := modF ad mb mv) X hK hP fX13_mayBe_84 h_mb m_mb rfl dX13_mayBe_11 ?_
    refine lv_iload_n hx hb dX13_mayBe_14 rfl (lv_at hl 1 rfl) ?_
    refine q_iald (f := placeF) (k := 24) X hK hP h_mb_18 m_mb_18 (by assumption) dX13_mayBe_15 ?_
    refine lv_bipush (v := 20) hx hb dX13_mayBe_16 (by decide) ?_
    refine lv_icmp_lt (tgt := 23) hx hb dX13_mayBe_18 (by decide) (fun c_18 => ?_) (fun c_18 => ?_)
    · skip
      refine lv_aload_n hx hb dX13_mayBe_23 rfl (lv_at hl 0 rfl) ?_
      refine lv_iload_n hx hb dX13_mayBe_24 rfl (lv_at hl 2 rfl) ?_
      refine q_rdV (As := [.int y]) (rest := []) (c_X13_isCase l D cB cI cJ ad n M mb nt nc np nq mv toldF y h_mb h_mb_3 m_mb m_mb_3 k0 hnp k1 hnc k2 hnt k3 hnq) X hK hP hS hl.1 rfl gX13_mayBe_X13_isCase yd_X13_isCase ⟨Nat.le_of_ble_eq_true rfl, Nat.le_of_ble_eq_true rfl⟩ h_mb m_mb (ci := 12) rfl rfl (Nat.le_of_ble_eq_true rfl) ⟨Nat.zero_le _, Nat.zero_le _⟩ dX13_mayBe_25 ?_
      refine lv_if_eq (tgt := 78) hx hb dX13_mayBe_28 (by decide) (fun c_28 => ?_) (fun c_28 => ?_)
      · skip
        refine lv_aload_n hx hb dX13_mayBe_78 rfl (lv_at hl 0 rfl) ?_
        refine lv_iload_n hx hb dX13_mayBe_79 rfl (lv_at hl 2 rfl) ?_
        refine lv_bipush (v := 10) hx hb dX13_mayBe_80 (by decide) ?_
        refine lv_isub hx hb dX13_mayBe_82 ?_
        refine q_rdV (As := [.int (y - 10)]) (rest := []) (c_X13_isPerson l D cB cI cJ ad n M mb nt nc np nq mv toldF (y - 10) h_mb h_mb_3 m_mb m_mb_3 k0 hnp k1 hnc k2 hnt k3 hnq) X hK hP hS hl.1 rfl gX13_mayBe_X13_isPerson yd_X13_isPerson ⟨Nat.le_of_ble_eq_true rfl, Nat.le_of_ble_eq_true rfl⟩ h_mb m_mb (ci := 12) rfl rfl (Nat.le_of_ble_eq_true rfl) ⟨Nat.zero_le _, Nat.zero_le _⟩ dX13_mayBe_83 ?_
        refine lv_if_eq (tgt := 171) hx hb dX13_mayBe_86 (by decide) (fun c_86 => ?_) (fun c_86 => ?_)
        · skip
          refine lv_iload_n hx hb dX13_mayBe_171 rfl (lv_at hl 2 rfl) ?_
          refine lv_bipush (v := 20) hx hb dX13_mayBe_172 (by decide) ?_
          refine lv_icmp_eq (tgt := 208) hx hb dX13_mayBe_174 (by decide) (fun c_174 => ?_) (fun c_174 => ?_)
          · skip
            refine lv_iconst (v := 1) hx hb dX13_mayBe_208 (by decide) ?_
            refine lv_goto (tgt := 213) hx hb dX13_mayBe_209 (by decide) ?_
            exact q_zret X hr hlocks (rfl) (by rw [s_X13_mayBe, if_neg c_7, if_pos c_18, if_pos c_28, if_pos c_86, if_pos c_174]) dX13_mayBe_213
          · skip
            refine lv_iload_n hx hb dX13_mayBe_177 rfl (lv_at hl 2 rfl) ?_
            refine lv_bipush (v := 21) hx hb dX13_mayBe_178 (by decide) ?_
            refine lv_icmp_ne (tgt := 192) hx hb dX13_mayBe_180 (by decide) (fun c_180 => ?_) (fun c_180 => ?_)
            · skip
              refine lv_iload_n hx hb dX13_mayBe_192 rfl (lv_at hl 2 rfl) ?_
              refine lv_bipush (v := 22) hx hb dX13_mayBe_193 (by decide) ?_
              refine lv_icmp_ne (tgt := 212) hx hb dX13_mayBe_195 (by decide) (fun c_195 => ?_) (fun c_195 => ?_)
              · skip
                refine lv_iconst (v := 0) hx hb dX13_mayBe_212 (by decide) ?_
                exact q_zret X hr hlocks (rfl) (by rw [s_X13_mayBe, if_neg c_7, if_pos c_18, if_pos c_28, if_pos c_86, if_neg c_174, if_neg c_180, if_neg c_195]) dX13_mayBe_213
              · skip
                refine lv_aload_n hx hb dX13_mayBe_198 rfl (lv_at hl 0 rfl) ?_
                refine q_get (v := .ref (ad (mb + 12))) (fs := modF ad mb mv) X hK hP fX13_mayBe_66 h_mb m_mb rfl dX13_mayBe_199 ?_
                refine lv_iload_n hx hb dX13_mayBe_202 rfl (lv_at hl 1 rfl) ?_
                refine q_iald (f := kindF) (k := 24) X hK hP h_mb_12 m_mb_12 (by assumption) dX13_mayBe_203 ?_
                refine lv_iconst (v := 4) hx hb dX13_mayBe_204 (by decide) ?_
                refine lv_icmp_ne (tgt := 212) hx hb dX13_mayBe_205 (by decide) (fun c_205 => ?_) (fun c_205 => ?_)
                · skip
                  refine lv_iconst (v := 0) hx hb dX13_mayBe_212 (by decide) ?_
                  exact q_zret X hr hlocks (rfl) (by rw [s_X13_mayBe, if_neg c_7, if_pos c_18, if_pos c_28, if_pos c_86, if_neg c_174, if_neg c_180, if_pos c_195, if_neg c_205]) dX13_mayBe_213
                · skip
                  refine lv_iconst (v := 1) hx hb dX13_mayBe_208 (by decide) ?_
                  refine lv_goto (tgt := 213) hx hb dX13_mayBe_209 (by decide) ?_
                  exact q_zret X hr hlocks (rfl) (by rw [s_X13_mayBe, if_neg c_7, if_pos c_18, if_pos c_28, if_pos c_86, if_neg c_174, if_neg c_180, if_pos c_195, if_pos c_205]) dX13_mayBe_213
            · skip
              refine lv_aload_n hx hb dX13_mayBe_183 rfl (lv_at hl 0 rfl) ?_
              refine lv_iload_n hx hb dX13_mayBe_184 rfl (lv_at hl 1 rfl) ?_
              refine q_rdV (As := [.int x]) (rest := []) (c_X13_priceOf l D cB cI cJ ad n M mb nt nc np nq mv toldF heavyF postToF priceF x h_mb h_mb_3 h_mb_13 h_mb_19 h_mb_20 m_mb m_mb_3 m_mb_13 m_mb_19 m_mb_20 k0 hnp k1 hnc k2 hnt k3 hnq vx) X hK hP hS hl.1 rfl gX13_mayBe_X13_priceOf yd_X13_priceOf ⟨Nat.le_of_ble_eq_true rfl, Nat.le_of_ble_eq_true rfl⟩ h_mb m_mb (ci := 12) rfl rfl (Nat.le_of_ble_eq_true rfl) ⟨Nat.zero_le _, Nat.zero_le _⟩ dX13_mayBe_185 ?_
              refine lv_iconst (v := (-1)) hx hb dX13_mayBe_188 (by decide) ?_
              refine lv_icmp_ne (tgt := 208) hx hb dX13_mayBe_189 (by decide) (fun c_189 => ?_) (fun c_189 => ?_)
              · skip
                refine lv_iconst (v := 1) hx hb dX13_mayBe_208 (by decide) ?_
                refine lv_goto (tgt := 213) hx hb dX13_mayBe_209 (by decide) ?_
                exact q_zret X hr hlocks (rfl) (by rw [s_X13_mayBe, if_neg c_7, if_pos c_18, if_pos c_28, if_pos c_86, if_neg c_174, if_pos c_180, if_neg c_189]) dX13_mayBe_213
              · skip
                refine lv_iload_n hx hb dX13_mayBe_192 rfl (lv_at hl 2 rfl) ?_
                refine lv_bipush (v := 22) hx hb dX13_mayBe_193 (by decide) ?_
                refine lv_icmp_ne (tgt := 212) hx hb dX13_mayBe_195 (by decide) (fun c_195 => ?_) (fun c_195 => ?_)
                · skip
                  refine lv_iconst (v := 0) hx hb dX13_mayBe_212 (by decide) ?_
                  exact q_zret X hr hlocks (rfl) (by rw [s_X13_mayBe, if_neg c_7, if_pos c_18, if_pos c_28, if_pos c_86, if_neg c_174, if_pos c_180, if_pos c_189, if_neg c_195]) dX13_mayBe_213
                · skip
                  refine lv_aload_n hx hb dX13_mayBe_198 rfl (lv_at hl 0 rfl) ?_
                  refine q_get (v := .ref (ad (mb + 12))) (fs := modF ad mb mv) X hK hP fX13_mayBe_66 h_mb m_mb rfl dX13_mayBe_199 ?_
                  refine lv_iload_n hx hb dX13_mayBe_202 rfl (lv_at hl 1 rfl) ?_
                  refine q_iald (f := kindF) (k := 24) X hK hP h_mb_12 m_mb_12 (by assumption) dX13_mayBe_203 ?_
                  refine lv_iconst (v := 4) hx hb dX13_mayBe_204 (by decide) ?_
                  refine lv_icmp_ne (tgt := 212) hx hb dX13_mayBe_205 (by decide) (fun c_205 => ?_) (fun c_205 => ?_)
                  · skip
                    refine lv_iconst (v := 0) hx hb dX13_mayBe_212 (by decide) ?_
                    exact q_zret X hr hlocks (rfl) (by rw [s_X13_mayBe, if_neg c_7, if_pos c_18, if_pos c_28, if_pos c_86, if_neg c_174, if_pos c_180, if_pos c_189, if_pos c_195, if_neg c_205]) dX13_mayBe_213
                  · skip
                    refine lv_iconst (v := 1) hx hb dX13_mayBe_208 (by decide) ?_
                    refine lv_goto (tgt := 213) hx hb dX13_mayBe_209 (by decide) ?_
                    exact q_zret X hr hlocks (rfl) (by rw [s_X13_mayBe, if_neg c_7, if_pos c_18, if_pos c_28, if_pos c_86, if_neg c_174, if_pos c_180, if_pos c_189, if_pos c_195, if_pos c_205]) dX13_mayBe_213
        · skip
          have hv_86 := isPerson_vp k0 hnp c_86
          refine lv_aload_n hx hb dX13_mayBe_89 rfl (lv_at hl 0 rfl) ?_
          refine q_get (v := .ref (ad (mb + 12))) (fs := modF ad mb mv) X hK hP fX13_mayBe_66 h_mb m_mb rfl dX13_mayBe_90 ?_
          refine lv_iload_n hx hb dX13_mayBe_93 rfl (lv_at hl 1 rfl) ?_
          refine q_iald (f := kindF) (k := 24) X hK hP h_mb_12 m_mb_12 (by assumption) dX13_mayBe_94 ?_
          refine lv_iconst (v := 1) hx hb dX13_mayBe_95 (by decide) ?_
          refine lv_icmp_ne (tgt := 130) hx hb dX13_mayBe_96 (by decide) (fun c_96 => ?_) (fun c_96 => ?_)
          · skip
            refine lv_aload_n hx hb dX13_mayBe_130 rfl (lv_at hl 0 rfl) ?_
            refine q_get (v := .ref (ad (mb + 15))) (fs := modF ad mb mv) X hK hP fX13_mayBe_75 h_mb m_mb rfl dX13_mayBe_131 ?_
            refine lv_iload_n hx hb dX13_mayBe_134 rfl (lv_at hl 1 rfl) ?_
            refine q_iald (f := wideF) (k := 24) X hK hP h_mb_15 m_mb_15 (by assumption) dX13_mayBe_135 ?_
            refine lv_iconst (v := 2) hx hb dX13_mayBe_136 (by decide) ?_
            refine lv_icmp_gt (tgt := 169) hx hb dX13_mayBe_137 (by decide) (fun c_137 => ?_) (fun c_137 => ?_)
            · skip
              refine lv_iconst (v := 0) hx hb dX13_mayBe_169 (by decide) ?_
              exact q_zret X hr hlocks (rfl) (by rw [s_X13_mayBe, if_neg c_7, if_pos c_18, if_pos c_28, if_neg c_86, if_neg c_96, if_pos c_137]) dX13_mayBe_170
            · skip
              refine lv_aload_n hx hb dX13_mayBe_140 rfl (lv_at hl 0 rfl) ?_
              refine lv_iload_n hx hb dX13_mayBe_141 rfl (lv_at hl 2 rfl) ?_
              refine lv_iconst (v := 4) hx hb dX13_mayBe_142 (by decide) ?_
              refine q_rdV (As := [.int y, .int 4]) (rest := []) (c_X13_sumAt l D cB cI cJ ad n M mb nt nc np nq mv toldF kindF heavyF wideF hotF placeF y 4 h_mb h_mb_3 h_mb_12 h_mb_13 h_mb_15 h_mb_17 h_mb_18 m_mb m_mb_3 m_mb_12 m_mb_13 m_mb_15 m_mb_17 m_mb_18 k0 hnp k1 hnc k2 hnt k3 hnq) X hK hP hS hl.1 rfl gX13_mayBe_X13_sumAt yd_X13_sumAt ⟨Nat.le_of_ble_eq_true rfl, Nat.le_of_ble_eq_true rfl⟩ h_mb m_mb (ci := 12) rfl rfl (Nat.le_of_ble_eq_true rfl) ⟨Nat.zero_le _, Nat.zero_le _⟩ dX13_mayBe_143 ?_
              refine lv_aload_n hx hb dX13_mayBe_146 rfl (lv_at hl 0 rfl) ?_
              refine q_get (v := .ref (ad (mb + 15))) (fs := modF ad mb mv) X hK hP fX13_mayBe_75 h_mb m_mb rfl dX13_mayBe_147 ?_
              refine lv_iload_n hx hb dX13_mayBe_150 rfl (lv_at hl 1 rfl) ?_
              refine q_iald (f := wideF) (k := 24) X hK hP h_mb_15 m_mb_15 (by assumption) dX13_mayBe_151 ?_
              refine lv_iadd hx hb dX13_mayBe_152 ?_
              refine lv_aload_n hx hb dX13_mayBe_153 rfl (lv_at hl 0 rfl) ?_
              refine q_get (v := .ref (ad (mb + 5))) (fs := modF ad mb mv) X hK hP fX13_mayBe_47 h_mb m_mb rfl dX13_mayBe_154 ?_
              refine lv_iload_n hx hb dX13_mayBe_157 rfl (lv_at hl 2 rfl) ?_
              refine lv_bipush (v := 10) hx hb dX13_mayBe_158 (by decide) ?_
              refine lv_isub hx hb dX13_mayBe_160 ?_
              refine q_iald (f := pocketsF) (k := 8) X hK hP h_mb_5 m_mb_5 (by assumption) dX13_mayBe_161 ?_
              refine lv_icmp_gt (tgt := 169) hx hb dX13_mayBe_162 (by decide) (fun c_162 => ?_) (fun c_162 => ?_)
              · skip
                refine lv_iconst (v := 0) hx hb dX13_mayBe_169 (by decide) ?_
                exact q_zret X hr hlocks (rfl) (by rw [s_X13_mayBe, if_neg c_7, if_pos c_18, if_pos c_28, if_neg c_86, if_neg c_96, if_neg c_137, if_pos c_162]) dX13_mayBe_170
              · skip
                refine lv_iconst (v := 1) hx hb dX13_mayBe_165 (by decide) ?_
                refine lv_goto (tgt := 170) hx hb dX13_mayBe_166 (by decide) ?_
                exact q_zret X hr hlocks (rfl) (by rw [s_X13_mayBe, if_neg c_7, if_pos c_18, if_pos c_28, if_neg c_86, if_neg c_96, if_neg c_137, if_neg c_162]) dX13_mayBe_170
          · skip
            refine lv_aload_n hx hb dX13_mayBe_99 rfl (lv_at hl 0 rfl) ?_
            refine lv_iload_n hx hb dX13_mayBe_100 rfl (lv_at hl 2 rfl) ?_
            refine lv_iconst (v := 3) hx hb dX13_mayBe_101 (by decide) ?_
            refine q_rdV (As := [.int y, .int 3]) (rest := []) (c_X13_sumAt l D cB cI cJ ad n M mb nt nc np nq mv toldF kindF heavyF wideF hotF placeF y 3 h_mb h_mb_3 h_mb_12 h_mb_13 h_mb_15 h_mb_17 h_mb_18 m_mb m_mb_3 m_mb_12 m_mb_13 m_mb_15 m_mb_17 m_mb_18 k0 hnp k1 hnc k2 hnt k3 hnq) X hK hP hS hl.1 rfl gX13_mayBe_X13_sumAt yd_X13_sumAt ⟨Nat.le_of_ble_eq_true rfl, Nat.le_of_ble_eq_true rfl⟩ h_mb m_mb (ci := 12) rfl rfl (Nat.le_of_ble_eq_true rfl) ⟨Nat.zero_le _, Nat.zero_le _⟩ dX13_mayBe_102 ?_
            refine lv_aload_n hx hb dX13_mayBe_105 rfl (lv_at hl 0 rfl) ?_
            refine q_get (v := .ref (ad (mb + 17))) (fs := modF ad mb mv) X hK hP fX13_mayBe_81 h_mb m_mb rfl dX13_mayBe_106 ?_
            refine lv_iload_n hx hb dX13_mayBe_109 rfl (lv_at hl 1 rfl) ?_
            refine q_iald (f := hotF) (k := 24) X hK hP h_mb_17 m_mb_17 (by assumption) dX13_mayBe_110 ?_
            refine lv_iadd hx hb dX13_mayBe_111 ?_
            refine lv_aload_n hx hb dX13_mayBe_112 rfl (lv_at hl 0 rfl) ?_
            refine q_get (v := .ref (ad (mb + 6))) (fs := modF ad mb mv) X hK hP fX13_mayBe_50 h_mb m_mb rfl dX13_mayBe_113 ?_
            refine lv_iload_n hx hb dX13_mayBe_116 rfl (lv_at hl 2 rfl) ?_
            refine lv_bipush (v := 10) hx hb dX13_mayBe_117 (by decide) ?_
            refine lv_isub hx hb dX13_mayBe_119 ?_
            refine q_iald (f := bearsF) (k := 8) X hK hP h_mb_6 m_mb_6 (by assumption) dX13_mayBe_120 ?_
            refine lv_icmp_gt (tgt := 128) hx hb dX13_mayBe_121 (by decide) (fun c_121 => ?_) (fun c_121 => ?_)
            · skip
              refine lv_iconst (v := 0) hx hb dX13_mayBe_128 (by decide) ?_
              exact q_zret X hr hlocks (rfl) (by rw [s_X13_mayBe, if_neg c_7, if_pos c_18, if_pos c_28, if_neg c_86, if_pos c_96, if_pos c_121]) dX13_mayBe_129
            · skip
              refine lv_iconst (v := 1) hx hb dX13_mayBe_124 (by decide) ?_
              refine lv_goto (tgt := 129) hx hb dX13_mayBe_125 (by decide) ?_
              exact q_zret X hr hlocks (rfl) (by rw [s_X13_mayBe, if_neg c_7, if_pos c_18, if_pos c_28, if_neg c_86, if_pos c_96, if_neg c_121]) dX13_mayBe_129
      · skip
        have hv_28 := isCase_vp k1 hnc c_28
        refine lv_aload_n hx hb dX13_mayBe_31 rfl (lv_at hl 0 rfl) ?_
        refine lv_iload_n hx hb dX13_mayBe_32 rfl (lv_at hl 2 rfl) ?_
        refine lv_iconst (v := 2) hx hb dX13_mayBe_33 (by decide) ?_
        refine q_rdV (As := [.int y, .int 2]) (rest := []) (c_X13_sumAt l D cB cI cJ ad n M mb nt nc np nq mv toldF kindF heavyF wideF hotF placeF y 2 h_mb h_mb_3 h_mb_12 h_mb_13 h_mb_15 h_mb_17 h_mb_18 m_mb m_mb_3 m_mb_12 m_mb_13 m_mb_15 m_mb_17 m_mb_18 k0 hnp k1 hnc k2 hnt k3 hnq) X hK hP hS hl.1 rfl gX13_mayBe_X13_sumAt yd_X13_sumAt ⟨Nat.le_of_ble_eq_true rfl, Nat.le_of_ble_eq_true rfl⟩ h_mb m_mb (ci := 12) rfl rfl (Nat.le_of_ble_eq_true rfl) ⟨Nat.zero_le _, Nat.zero_le _⟩ dX13_mayBe_34 ?_
        refine lv_aload_n hx hb dX13_mayBe_37 rfl (lv_at hl 0 rfl) ?_
        refine q_get (v := .ref (ad (mb + 15))) (fs := modF ad mb mv) X hK hP fX13_mayBe_75 h_mb m_mb rfl dX13_mayBe_38 ?_
        refine lv_iload_n hx hb dX13_mayBe_41 rfl (lv_at hl 1 rfl) ?_
        refine q_iald (f := wideF) (k := 24) X hK hP h_mb_15 m_mb_15 (by assumption) dX13_mayBe_42 ?_
        refine lv_iadd hx hb dX13_mayBe_43 ?_
        refine lv_aload_n hx hb dX13_mayBe_44 rfl (lv_at hl 0 rfl) ?_
        refine q_get (v := .ref (ad (mb + 9))) (fs := modF ad mb mv) X hK hP fX13_mayBe_58 h_mb m_mb rfl dX13_mayBe_45 ?_
        refine lv_iload_n hx hb dX13_mayBe_48 rfl (lv_at hl 2 rfl) ?_
        refine q_iald (f := holdsF) (k := 10) X hK hP h_mb_9 m_mb_9 (by assumption) dX13_mayBe_49 ?_
        refine lv_icmp_gt (tgt := 76) hx hb dX13_mayBe_50 (by decide) (fun c_50 => ?_) (fun c_50 => ?_)
        · skip
          refine lv_iconst (v := 0) hx hb dX13_mayBe_76 (by decide) ?_
          exact q_zret X hr hlocks (rfl) (by rw [s_X13_mayBe, if_neg c_7, if_pos c_18, if_neg c_28, if_pos c_50]) dX13_mayBe_77
        · skip
          refine lv_aload_n hx hb dX13_mayBe_53 rfl (lv_at hl 0 rfl) ?_
          refine q_get (v := .ref (ad (mb + 12))) (fs := modF ad mb mv) X hK hP fX13_mayBe_66 h_mb m_mb rfl dX13_mayBe_54 ?_
          refine lv_iload_n hx hb dX13_mayBe_57 rfl (lv_at hl 1 rfl) ?_
          refine q_iald (f := kindF) (k := 24) X hK hP h_mb_12 m_mb_12 (by assumption) dX13_mayBe_58 ?_
          refine lv_iconst (v := 2) hx hb dX13_mayBe_59 (by decide) ?_
          refine lv_icmp_ne (tgt := 72) hx hb dX13_mayBe_60 (by decide) (fun c_60 => ?_) (fun c_60 => ?_)
          · skip
            refine lv_iconst (v := 1) hx hb dX13_mayBe_72 (by decide) ?_
            refine lv_goto (tgt := 77) hx hb dX13_mayBe_73 (by decide) ?_
            exact q_zret X hr hlocks (rfl) (by rw [s_X13_mayBe, if_neg c_7, if_pos c_18, if_neg c_28, if_neg c_50, if_neg c_60]) dX13_mayBe_77
          · skip
            refine lv_aload_n hx hb dX13_mayBe_63 rfl (lv_at hl 0 rfl) ?_
            refine q_get (v := .ref (ad (mb + 11))) (fs := modF ad mb mv) X hK hP fX13_mayBe_64 h_mb m_mb rfl dX13_mayBe_64 ?_
            refine lv_iload_n hx hb dX13_mayBe_67 rfl (lv_at hl 2 rfl) ?_
            refine q_iald (f := boardF) (k := 10) X hK hP h_mb_11 m_mb_11 (by assumption) dX13_mayBe_68 ?_
            refine lv_if_ne (tgt := 76) hx hb dX13_mayBe_69 (by decide) (fun c_69 => ?_) (fun c_69 => ?_)
            · skip
              refine lv_iconst (v := 0) hx hb dX13_mayBe_76 (by decide) ?_
              exact q_zret X hr hlocks (rfl) (by rw [s_X13_mayBe, if_neg c_7, if_pos c_18, if_neg c_28, if_neg c_50, if_pos c_60, if_neg c_69]) dX13_mayBe_77
            · skip
              refine lv_iconst (v := 1) hx hb dX13_mayBe_72 (by decide) ?_
              refine lv_goto (tgt := 77) hx hb dX13_mayBe_73 (by decide) ?_
              exact q_zret X hr hlocks (rfl) (by rw [s_X13_mayBe, if_neg c_7, if_pos c_18, if_neg c_28, if_neg c_50, if_pos c_60, if_pos c_69]) dX13_mayBe_77
    · skip
      refine lv_iconst (v := 0) hx hb dX13_mayBe_21 (by decide) ?_
      exact q_zret X hr hlocks (rfl) (by rw [s_X13_mayBe, if_neg c_7, if_neg c_18]) dX13_mayBe_22
set_option maxRecDepth 20000 in
theorem fX13_hasShirt_40 : FL wsX13_hasShirt RX13 40 12 3 := ⟨RX13, TX13, 67, rfl, by decide +kernel, by decide, by decide +kernel⟩
set_option maxRecDepth 20000 in
theorem fX13_hasShirt_66 : FL wsX13_hasShirt RX13 66 12 12 := ⟨RX13, TX13, 67, rfl, by decide +kernel, by decide, by decide +kernel⟩
set_option maxRecDepth 20000 in
theorem fX13_hasShirt_84 : FL wsX13_hasShirt RX13 84 12 18 := ⟨RX13, TX13, 67, rfl, by decide +kernel, by decide, by decide +kernel⟩
set_option maxRecDepth 20000 in
theorem fX13_hasShirt_53 : FL wsX13_hasShirt RX13 53 12 7 := ⟨RX13, TX13, 67, rfl, by decide +kernel, by decide, by decide +kernel⟩
def s_X13_hasShirt_2 (toldF : Nat → Int32) (ownerF : Nat → Int32) (kindF : Nat → Int32) (placeF : Nat → Int32) (x : Int32) (y : Int32) : Nat → Nat → Int32
  | 0, _ => 0
  | r + 1, t2 => if (kindF t2) = 5 then if (placeF t2) = (10 + x) then 1 else if (s_X13_isCase toldF (placeF t2)) = 0 then s_X13_hasShirt_2 toldF ownerF kindF placeF x y r (t2 + 1) else if (placeF t2) = y then s_X13_hasShirt_2 toldF ownerF kindF placeF x y r (t2 + 1) else if (ownerF (placeF t2).toNatClampNeg) = x then 1 else s_X13_hasShirt_2 toldF ownerF kindF placeF x y r (t2 + 1) else s_X13_hasShirt_2 toldF ownerF kindF placeF x y r (t2 + 1)
def s_X13_hasShirt (nt : Nat) (toldF : Nat → Int32) (ownerF : Nat → Int32) (kindF : Nat → Int32) (placeF : Nat → Int32) (x : Int32) (y : Int32) : Int32 := (s_X13_hasShirt_2 toldF ownerF kindF placeF x y nt 0)
set_option maxHeartbeats 4000000 in
set_option maxRecDepth 100000 in
theorem c_X13_hasShirt (l : Launch) (D : va_G) (cB cI cJ : ClassId) (ad : Nat → Nat) (n : Nat) (M : Nat → va_E) (mb : Nat) (nt : Nat) (nc : Nat) (np : Nat) (nq : Nat) (mv : Nat → Int32) (toldF : Nat → Int32) (ownerF : Nat → Int32) (kindF : Nat → Int32) (placeF : Nat → Int32) (x : Int32) (y : Int32) (h_mb : mb < n) (h_mb_3 : mb + 3 < n) (h_mb_7 : mb + 7 < n) (h_mb_12 : mb + 12 < n) (h_mb_18 : mb + 18 < n) (m_mb : M mb = .inr (12, modF ad mb mv)) (m_mb_3 : M (mb + 3) = .inl (cI, 14, .inl toldF)) (m_mb_7 : M (mb + 7) = .inl (cI, 10, .inl ownerF)) (m_mb_12 : M (mb + 12) = .inl (cI, 24, .inl kindF)) (m_mb_18 : M (mb + 18) = .inl (cI, 24, .inl placeF)) (k0 : toldF 0 = nI np) (hnp : np ≤ 4) (k1 : toldF 1 = nI nc) (hnc : nc ≤ 5) (k2 : toldF 2 = nI nt) (hnt : nt ≤ 12) (k3 : toldF 3 = nI nq) (hnq : nq ≤ 6) : cR l D cB cI cJ ad n M yX13_hasShirt wsX13_hasShirt 2 46 [.ref (ad mb), .int x, .int y] (s_X13_hasShirt nt toldF ownerF kindF placeF x y) := by
  refine q_body (cc := cX13_hasShirt) (maxL := 4) (ret := (some .boolean)) (by decide) rfl (Nat.le_of_ble_eq_true rfl) ?_
  intro p e s m args below meth c ls X hr hlocks hK hP hl
  obtain ⟨hx, hb, hml, hown, hts⟩ := id X
  have hS : va_S (ipA ad n) s.heap s.heap [] := va_S.rf
  have hl : lv_has ls 4 [(0, .ref (ad mb)), (1, .int x), (2, .int y)] := hl
  refine lv_iconst (v := 0) hx hb dX13_hasShirt_0 (by decide) ?_
  refine lv_istore_n (lv' := [(3, .int 0), (0, .ref (ad mb)), (1, .int x), (2, .int y)]) hx hb dX13_hasShirt_1 rfl hl (by decide) rfl (fun ls hl => ?_)
  have loop_2 : ∀ (fuel : Nat) (t2 : Nat), nt - (t2) < fuel → t2 ≤ nt → s_X13_hasShirt_2 toldF ownerF kindF placeF x y (nt - (t2)) t2 = s_X13_hasShirt nt toldF ownerF kindF placeF x y → ∀ (ls : Array Slot), lv_has ls 4 [(3, .int (nI t2)), (0, .ref (ad mb)), (1, .int x), (2, .int y)] → W p l e (rmOf 2 46) s m args below meth c s.heap [] 0 0 (MQ below (vp_Si (fun r9 => r9 = s_X13_hasShirt nt toldF ownerF kindF placeF x y)) args s 0 0 (fun _ => False)) (F0 m 2 ls []) := by
    intro fuel
    induction fuel with
    | zero =>
      intro t2 hz
      exact absurd hz (Nat.not_lt_zero _)
    | succ fuel ih_2 =>
      intro t2 hz_2 h_t2 hB_2 ls hl
      skip
      refine lv_iload_n hx hb dX13_hasShirt_2 rfl (lv_at hl 0 rfl) ?_
      refine lv_aload_n hx hb dX13_hasShirt_3 rfl (lv_at hl 1 rfl) ?_
      refine q_get (v := .ref (ad (mb + 3))) (fs := modF ad mb mv) X hK hP fX13_hasShirt_40 h_mb m_mb rfl dX13_hasShirt_4 ?_
      refine lv_iconst (v := 2) hx hb dX13_hasShirt_7 (by decide) ?_
      refine q_ialdN (f := toldF) (k := 14) X hK hP 2 h_mb_3 m_mb_3 (by decide) (by decide) dX13_hasShirt_8 ?_
      refine lv_icmp_ge (tgt := 84) hx hb dX13_hasShirt_9 (by decide) (fun c_9 => ?_) (fun c_9 => ?_)
      · rw [k2] at c_9
        have h9_2 : t2 = nt := eq_of_le (t := t2) (k := nt) c_9 (by omega) h_t2
        subst t2
        refine lv_iconst (v := 0) hx hb dX13_hasShirt_84 (by decide) ?_
        exact q_zret X hr hlocks (rfl) (by rw [← hB_2, Nat.sub_self, s_X13_hasShirt_2]) dX13_hasShirt_85
      · rw [k2] at c_9
        have h9_2 : t2 < nt := lt_of_nlt (t := t2) (k := nt) c_9 (by omega) h_t2
        refine lv_aload_n hx hb dX13_hasShirt_12 rfl (lv_at hl 1 rfl) ?_
        refine q_get (v := .ref (ad (mb + 12))) (fs := modF ad mb mv) X hK hP fX13_hasShirt_66 h_mb m_mb rfl dX13_hasShirt_13 ?_
        refine lv_iload_n hx hb dX13_hasShirt_16 rfl (lv_at hl 0 rfl) ?_
        refine q_ialdN (f := kindF) (k := 24) X hK hP t2 h_mb_12 m_mb_12 (by omega) (by decide) dX13_hasShirt_17 ?_
        refine lv_iconst (v := 5) hx hb dX13_hasShirt_18 (by decide) ?_
        refine lv_icmp_eq (tgt := 25) hx hb dX13_hasShirt_19 (by decide) (fun c_19 => ?_) (fun c_19 => ?_)
        · skip
          refine lv_aload_n hx hb dX13_hasShirt_25 rfl (lv_at hl 1 rfl) ?_
          refine q_get (v := .ref (ad (mb + 18))) (fs := modF ad mb mv) X hK hP fX13_hasShirt_84 h_mb m_mb rfl dX13_hasShirt_26 ?_
          refine lv_iload_n hx hb dX13_hasShirt_29 rfl (lv_at hl 0 rfl) ?_
          refine q_ialdN (f := placeF) (k := 24) X hK hP t2 h_mb_18 m_mb_18 (by omega) (by decide) dX13_hasShirt_30 ?_
          refine lv_bipush (v := 10) hx hb dX13_hasShirt_31 (by decide) ?_
          refine lv_iload_n hx hb dX13_hasShirt_33 rfl (lv_at hl 2 rfl) ?_
          refine lv_iadd hx hb dX13_hasShirt_34 ?_
          refine lv_icmp_eq (tgt := 76) hx hb dX13_hasShirt_35 (by decide) (fun c_35 => ?_) (fun c_35 => ?_)
          · skip
            refine lv_iconst (v := 1) hx hb dX13_hasShirt_76 (by decide) ?_
            exact q_zret X hr hlocks (rfl) (by rw [← hB_2, show nt - t2 = (nt - (t2 + 1)) + 1 by omega, s_X13_hasShirt_2, if_pos c_19, if_pos c_35]) dX13_hasShirt_77
          · skip
            refine lv_aload_n hx hb dX13_hasShirt_38 rfl (lv_at hl 1 rfl) ?_
            refine lv_aload_n hx hb dX13_hasShirt_39 rfl (lv_at hl 1 rfl) ?_
            refine q_get (v := .ref (ad (mb + 18))) (fs := modF ad mb mv) X hK hP fX13_hasShirt_84 h_mb m_mb rfl dX13_hasShirt_40 ?_
            refine lv_iload_n hx hb dX13_hasShirt_43 rfl (lv_at hl 0 rfl) ?_
            refine q_ialdN (f := placeF) (k := 24) X hK hP t2 h_mb_18 m_mb_18 (by omega) (by decide) dX13_hasShirt_44 ?_
            refine q_rdV (As := [.int (placeF t2)]) (rest := []) (c_X13_isCase l D cB cI cJ ad n M mb nt nc np nq mv toldF (placeF t2) h_mb h_mb_3 m_mb m_mb_3 k0 hnp k1 hnc k2 hnt k3 hnq) X hK hP hS hl.1 rfl gX13_hasShirt_X13_isCase yd_X13_isCase ⟨Nat.le_of_ble_eq_true rfl, Nat.le_of_ble_eq_true rfl⟩ h_mb m_mb (ci := 12) rfl rfl (Nat.le_of_ble_eq_true rfl) ⟨Nat.zero_le _, Nat.zero_le _⟩ dX13_hasShirt_45 ?_
            refine lv_if_eq (tgt := 78) hx hb dX13_hasShirt_48 (by decide) (fun c_48 => ?_) (fun c_48 => ?_)
            · skip
              refine lv_iinc (v := ((nI t2) + 1)) (lv' := [(3, .int ((nI t2) + 1)), (0, .ref (ad mb)), (1, .int x), (2, .int y)]) hx hb dX13_hasShirt_78 hl (k := 0) rfl rfl (by decide) rfl (fun ls hl => ?_)
              refine lv_goto (tgt := 2) hx hb dX13_hasShirt_81 (by decide) ?_
              exact ih_2 (t2 + 1)  (by omega) (by omega) (by rw [← hB_2, show nt - (t2) = (nt - (t2 + 1)) + 1 by omega, s_X13_hasShirt_2, if_pos c_19, if_neg c_35, if_pos c_48]) ls (by rw [(show nI (t2 + 1) = nI t2 + 1 by exact nI_succ _)]; exact lv_sub hl [0, 1, 2, 3] rfl)
            · skip
              have hv_48 := isCase_vp k1 hnc c_48
              refine lv_aload_n hx hb dX13_hasShirt_51 rfl (lv_at hl 1 rfl) ?_
              refine q_get (v := .ref (ad (mb + 18))) (fs := modF ad mb mv) X hK hP fX13_hasShirt_84 h_mb m_mb rfl dX13_hasShirt_52 ?_
              refine lv_iload_n hx hb dX13_hasShirt_55 rfl (lv_at hl 0 rfl) ?_
              refine q_ialdN (f := placeF) (k := 24) X hK hP t2 h_mb_18 m_mb_18 (by omega) (by decide) dX13_hasShirt_56 ?_
              refine lv_iload_n hx hb dX13_hasShirt_57 rfl (lv_at hl 3 rfl) ?_
              refine lv_icmp_eq (tgt := 78) hx hb dX13_hasShirt_58 (by decide) (fun c_58 => ?_) (fun c_58 => ?_)
              · skip
                refine lv_iinc (v := ((nI t2) + 1)) (lv' := [(3, .int ((nI t2) + 1)), (0, .ref (ad mb)), (1, .int x), (2, .int y)]) hx hb dX13_hasShirt_78 hl (k := 0) rfl rfl (by decide) rfl (fun ls hl => ?_)
                refine lv_goto (tgt := 2) hx hb dX13_hasShirt_81 (by decide) ?_
                exact ih_2 (t2 + 1)  (by omega) (by omega) (by rw [← hB_2, show nt - (t2) = (nt - (t2 + 1)) + 1 by omega, s_X13_hasShirt_2, if_pos c_19, if_neg c_35, if_neg c_48, if_pos c_58]) ls (by rw [(show nI (t2 + 1) = nI t2 + 1 by exact nI_succ _)]; exact lv_sub hl [0, 1, 2, 3] rfl)
              · skip
                refine lv_aload_n hx hb dX13_hasShirt_61 rfl (lv_at hl 1 rfl) ?_
                refine q_get (v := .ref (ad (mb + 7))) (fs := modF ad mb mv) X hK hP fX13_hasShirt_53 h_mb m_mb rfl dX13_hasShirt_62 ?_
                refine lv_aload_n hx hb dX13_hasShirt_65 rfl (lv_at hl 1 rfl) ?_
                refine q_get (v := .ref (ad (mb + 18))) (fs := modF ad mb mv) X hK hP fX13_hasShirt_84 h_mb m_mb rfl dX13_hasShirt_66 ?_
                refine lv_iload_n hx hb dX13_hasShirt_69 rfl (lv_at hl 0 rfl) ?_
                refine q_ialdN (f := placeF) (k := 24) X hK hP t2 h_mb_18 m_mb_18 (by omega) (by decide) dX13_hasShirt_70 ?_
                refine q_iald (f := ownerF) (k := 10) X hK hP h_mb_7 m_mb_7 (by assumption) dX13_hasShirt_71 ?_
                refine lv_iload_n hx hb dX13_hasShirt_72 rfl (lv_at hl 2 rfl) ?_
                refine lv_icmp_ne (tgt := 78) hx hb dX13_hasShirt_73 (by decide) (fun c_73 => ?_) (fun c_73 => ?_)
                · skip
                  refine lv_iinc (v := ((nI t2) + 1)) (lv' := [(3, .int ((nI t2) + 1)), (0, .ref (ad mb)), (1, .int x), (2, .int y)]) hx hb dX13_hasShirt_78 hl (k := 0) rfl rfl (by decide) rfl (fun ls hl => ?_)
                  refine lv_goto (tgt := 2) hx hb dX13_hasShirt_81 (by decide) ?_
                  exact ih_2 (t2 + 1)  (by omega) (by omega) (by rw [← hB_2, show nt - (t2) = (nt - (t2 + 1)) + 1 by omega, s_X13_hasShirt_2, if_pos c_19, if_neg c_35, if_neg c_48, if_neg c_58, if_neg c_73]) ls (by rw [(show nI (t2 + 1) = nI t2 + 1 by exact nI_succ _)]; exact lv_sub hl [0, 1, 2, 3] rfl)
                · skip
                  refine lv_iconst (v := 1) hx hb dX13_hasShirt_76 (by decide) ?_
                  exact q_zret X hr hlocks (rfl) (by rw [← hB_2, show nt - t2 = (nt - (t2 + 1)) + 1 by omega, s_X13_hasShirt_2, if_pos c_19, if_neg c_35, if_neg c_48, if_neg c_58, if_pos c_73]) dX13_hasShirt_77
        · skip
          refine lv_goto (tgt := 78) hx hb dX13_hasShirt_22 (by decide) ?_
          refine lv_iinc (v := ((nI t2) + 1)) (lv' := [(3, .int ((nI t2) + 1)), (0, .ref (ad mb)), (1, .int x), (2, .int y)]) hx hb dX13_hasShirt_78 hl (k := 0) rfl rfl (by decide) rfl (fun ls hl => ?_)
          refine lv_goto (tgt := 2) hx hb dX13_hasShirt_81 (by decide) ?_
          exact ih_2 (t2 + 1)  (by omega) (by omega) (by rw [← hB_2, show nt - (t2) = (nt - (t2 + 1)) + 1 by omega, s_X13_hasShirt_2, if_neg c_19]) ls (by rw [(show nI (t2 + 1) = nI t2 + 1 by exact nI_succ _)]; exact lv_sub hl [0, 1, 2, 3] rfl)
  exact loop_2 (nt + 1) 0  (by omega) (by omega) (by rw [s_X13_hasShirt] <;> rfl) ls (lv_sub hl [0, 1, 2, 3] rfl)
set_option maxRecDepth 20000 in
theorem fX13_put_84 : FL wsX13_put RX13 84 12 18 := ⟨RX13, TX13, 67, rfl, by decide +kernel, by decide, by decide +kernel⟩
set_option maxRecDepth 20000 in
theorem fX13_put_331 : FL wsX13_put RX13 331 12 36 := ⟨RX13, TX13, 67, rfl, by decide +kernel, by decide, by decide +kernel⟩
theorem fw_12_36 : FW 12 36 .int := ⟨RX13, TX13, 67, tyX13, rfl, tyX13_ok, nmX13, by decide, rfl, by decide +kernel⟩
def s_X13_put_0_1 (mv : Nat → Int32) (toldF : Nat → Int32) (placeF : Nat → Int32) (x : Int32) (y : Int32) : Nat → Int32 := if (s_X13_isCase toldF (placeF x.toNatClampNeg)) = 0 then if (s_X13_isCase toldF y) = 0 then mv else (upd mv 36 ((mv 36) ||| (1 <<< (y &&& 31)))) else if (s_X13_isCase toldF y) = 0 then (upd mv 36 ((mv 36) ||| (1 <<< ((placeF x.toNatClampNeg) &&& 31)))) else (upd (upd mv 36 ((mv 36) ||| (1 <<< ((placeF x.toNatClampNeg) &&& 31)))) 36 (((mv 36) ||| (1 <<< ((placeF x.toNatClampNeg) &&& 31))) ||| (1 <<< (y &&& 31))))
set_option maxHeartbeats 4000000 in
set_option maxRecDepth 100000 in
theorem c_X13_put (l : Launch) (D : va_G) (cB cI cJ : ClassId) (ad : Nat → Nat) (n : Nat) (M : Nat → va_E) (hI : ipI ad n) (mb : Nat) (nt : Nat) (nc : Nat) (np : Nat) (nq : Nat) (mv : Nat → Int32) (toldF : Nat → Int32) (placeF : Nat → Int32) (x : Int32) (y : Int32) (h_mb : mb < n) (h_mb_3 : mb + 3 < n) (h_mb_18 : mb + 18 < n) (m_mb : M mb = .inr (12, modF ad mb mv)) (m_mb_3 : M (mb + 3) = .inl (cI, 14, .inl toldF)) (m_mb_18 : M (mb + 18) = .inl (cI, 24, .inl placeF)) (k0 : toldF 0 = nI np) (hnp : np ≤ 4) (k1 : toldF 1 = nI nc) (hnc : nc ≤ 5) (k2 : toldF 2 = nI nt) (hnt : nt ≤ 12) (k3 : toldF 3 = nI nq) (hnq : nq ≤ 6) (vx : vp_in x 24) : cWv l D cB cI cJ ad n M yX13_put wsX13_put 2 46 [.ref (ad mb), .int x, .int y] (fun M' => M' mb = .inr (12, modF ad mb (s_X13_put_0_1 mv toldF placeF x y)) ∧ M' (mb + 18) = .inl (cI, 24, .inl (upd placeF x.toNatClampNeg y)) ∧ ∀ q : Nat, q ≠ mb → q ≠ mb + 18 → M' q = M q) := by
  refine q_body (cc := cX13_put) (maxL := 3) (ret := none) (by decide) rfl (Nat.le_of_ble_eq_true rfl) ?_
  intro p e s m args below meth c ls X hr hlocks hK hP hl
  obtain ⟨hx, hb, hml, hown, hts⟩ := id X
  have hS : va_S (ipA ad n) s.heap s.heap [] := va_S.rf
  have hl : lv_has ls 3 [(0, .ref (ad mb)), (1, .int x), (2, .int y)] := hl
  refine lv_aload_n hx hb dX13_put_0 rfl (lv_at hl 0 rfl) ?_
  refine lv_aload_n hx hb dX13_put_1 rfl (lv_at hl 0 rfl) ?_
  refine q_get (v := .ref (ad (mb + 18))) (fs := modF ad mb mv) X hK hP fX13_put_84 h_mb m_mb rfl dX13_put_2 ?_
  refine lv_iload_n hx hb dX13_put_5 rfl (lv_at hl 1 rfl) ?_
  refine q_iald (f := placeF) (k := 24) X hK hP h_mb_18 m_mb_18 (by assumption) dX13_put_6 ?_
  refine q_rdV (As := [.int (placeF x.toNatClampNeg)]) (rest := []) (c_X13_isCase l D cB cI cJ ad n M mb nt nc np nq mv toldF (placeF x.toNatClampNeg) h_mb h_mb_3 m_mb m_mb_3 k0 hnp k1 hnc k2 hnt k3 hnq) X hK hP hS hl.1 rfl gX13_put_X13_isCase yd_X13_isCase ⟨Nat.le_of_ble_eq_true rfl, Nat.le_of_ble_eq_true rfl⟩ h_mb m_mb (ci := 12) rfl rfl (Nat.le_of_ble_eq_true rfl) ⟨Nat.zero_le _, Nat.zero_le _⟩ dX13_put_7 ?_
  refine lv_if_eq (tgt := 30) hx hb dX13_put_10 (by decide) (fun c_10 => ?_) (fun c_10 => ?_)
  · skip
    refine lv_aload_n hx hb dX13_put_30 rfl (lv_at hl 0 rfl) ?_
    refine lv_iload_n hx hb dX13_put_31 rfl (lv_at hl 2 rfl) ?_
    refine q_rdV (As := [.int y]) (rest := []) (c_X13_isCase l D cB cI cJ ad n M mb nt nc np nq mv toldF y h_mb h_mb_3 m_mb m_mb_3 k0 hnp k1 hnc k2 hnt k3 hnq) X hK hP hS hl.1 rfl gX13_put_X13_isCase yd_X13_isCase ⟨Nat.le_of_ble_eq_true rfl, Nat.le_of_ble_eq_true rfl⟩ h_mb m_mb (ci := 12) rfl rfl (Nat.le_of_ble_eq_true rfl) ⟨Nat.zero_le _, Nat.zero_le _⟩ dX13_put_32 ?_
    refine lv_if_eq (tgt := 50) hx hb dX13_put_35 (by decide) (fun c_35 => ?_) (fun c_35 => ?_)
    · skip
      refine lv_aload_n hx hb dX13_put_50 rfl (lv_at hl 0 rfl) ?_
      refine q_get (v := .ref (ad (mb + 18))) (fs := modF ad mb mv) X hK hP fX13_put_84 h_mb m_mb rfl dX13_put_51 ?_
      refine lv_iload_n hx hb dX13_put_54 rfl (lv_at hl 1 rfl) ?_
      refine lv_iload_n hx hb dX13_put_55 rfl (lv_at hl 2 rfl) ?_
      refine q_iast (f := placeF) (k := 24) X hK hI hP hS h_mb_18 m_mb_18 (by assumption) dX13_put_56 (fun H locs hP hS => ?_)
      exact q_wvret X hr hlocks hP hS ⟨(by rw [s_X13_put_0_1, if_pos c_10, if_pos c_35]; exact ((va_up_ne M (.inl (cI, 24, .inl (upd placeF x.toNatClampNeg y))) (show mb ≠ mb + 18 by omega)).trans m_mb)), (va_up_self M (mb + 18) (.inl (cI, 24, .inl (upd placeF x.toNatClampNeg y)))), (fun q n0 n1 => (va_up_ne _ _ n1))⟩ dX13_put_57
    · skip
      have hv_35 := isCase_vp k1 hnc c_35
      refine lv_aload_n hx hb dX13_put_38 rfl (lv_at hl 0 rfl) ?_
      refine lv_dup hx hb dX13_put_39 rfl ?_
      refine q_get (v := .int (mv 36)) (fs := modF ad mb mv) X hK hP fX13_put_331 h_mb m_mb rfl dX13_put_40 ?_
      refine lv_iconst (v := 1) hx hb dX13_put_43 (by decide) ?_
      refine lv_iload_n hx hb dX13_put_44 rfl (lv_at hl 2 rfl) ?_
      refine lv_ishl hx hb dX13_put_45 ?_
      refine lv_ior hx hb dX13_put_46 ?_
      refine q_put (fs := modF ad mb mv) (fs' := modF ad mb (upd mv 36 ((mv 36) ||| (1 <<< (y &&& 31))))) X hK hI hP hS fX13_put_331 fw_12_36 h_mb m_mb rfl rfl (Nat.le_of_ble_eq_true rfl) rfl dX13_put_47 (fun H locs hP hS => ?_)
      refine lv_aload_n hx hb dX13_put_50 rfl (lv_at hl 0 rfl) ?_
      refine q_get (v := .ref (ad (mb + 18))) (fs := modF ad mb (upd mv 36 ((mv 36) ||| (1 <<< (y &&& 31))))) X hK hP fX13_put_84 h_mb (va_up_self M mb (.inr (12, modF ad mb (upd mv 36 ((mv 36) ||| (1 <<< (y &&& 31))))))) rfl dX13_put_51 ?_
      refine lv_iload_n hx hb dX13_put_54 rfl (lv_at hl 1 rfl) ?_
      refine lv_iload_n hx hb dX13_put_55 rfl (lv_at hl 2 rfl) ?_
      refine q_iast (f := placeF) (k := 24) X hK hI hP hS h_mb_18 ((va_up_ne M (.inr (12, modF ad mb (upd mv 36 ((mv 36) ||| (1 <<< (y &&& 31)))))) (show mb + 18 ≠ mb by omega)).trans m_mb_18) (by assumption) dX13_put_56 (fun H locs hP hS => ?_)
      exact q_wvret X hr hlocks hP hS ⟨(by rw [s_X13_put_0_1, if_pos c_10, if_neg c_35]; exact ((va_up_ne (va_up M mb (.inr (12, modF ad mb (upd mv 36 ((mv 36) ||| (1 <<< (y &&& 31))))))) (.inl (cI, 24, .inl (upd placeF x.toNatClampNeg y))) (show mb ≠ mb + 18 by omega)).trans (va_up_self M mb (.inr (12, modF ad mb (upd mv 36 ((mv 36) ||| (1 <<< (y &&& 31))))))))), (va_up_self (va_up M mb (.inr (12, modF ad mb (upd mv 36 ((mv 36) ||| (1 <<< (y &&& 31))))))) (mb + 18) (.inl (cI, 24, .inl (upd placeF x.toNatClampNeg y)))), (fun q n0 n1 => ((va_up_ne _ _ n1).trans (va_up_ne _ _ n0)))⟩ dX13_put_57
  · skip
    have hv_10 := isCase_vp k1 hnc c_10
    refine lv_aload_n hx hb dX13_put_13 rfl (lv_at hl 0 rfl) ?_
    refine lv_dup hx hb dX13_put_14 rfl ?_
    refine q_get (v := .int (mv 36)) (fs := modF ad mb mv) X hK hP fX13_put_331 h_mb m_mb rfl dX13_put_15 ?_
    refine lv_iconst (v := 1) hx hb dX13_put_18 (by decide) ?_
    refine lv_aload_n hx hb dX13_put_19 rfl (lv_at hl 0 rfl) ?_
    refine q_get (v := .ref (ad (mb + 18))) (fs := modF ad mb mv) X hK hP fX13_put_84 h_mb m_mb rfl dX13_put_20 ?_
    refine lv_iload_n hx hb dX13_put_23 rfl (lv_at hl 1 rfl) ?_
    refine q_iald (f := placeF) (k := 24) X hK hP h_mb_18 m_mb_18 (by assumption) dX13_put_24 ?_
    refine lv_ishl hx hb dX13_put_25 ?_
    refine lv_ior hx hb dX13_put_26 ?_
    refine q_put (fs := modF ad mb mv) (fs' := modF ad mb (upd mv 36 ((mv 36) ||| (1 <<< ((placeF x.toNatClampNeg) &&& 31))))) X hK hI hP hS fX13_put_331 fw_12_36 h_mb m_mb rfl rfl (Nat.le_of_ble_eq_true rfl) rfl dX13_put_27 (fun H locs hP hS => ?_)
    refine lv_aload_n hx hb dX13_put_30 rfl (lv_at hl 0 rfl) ?_
    refine lv_iload_n hx hb dX13_put_31 rfl (lv_at hl 2 rfl) ?_
    refine q_rdV (As := [.int y]) (rest := []) (c_X13_isCase l D cB cI cJ ad n (va_up M mb (.inr (12, modF ad mb (upd mv 36 ((mv 36) ||| (1 <<< ((placeF x.toNatClampNeg) &&& 31))))))) mb nt nc np nq (upd mv 36 ((mv 36) ||| (1 <<< ((placeF x.toNatClampNeg) &&& 31)))) toldF y h_mb h_mb_3 (va_up_self M mb (.inr (12, modF ad mb (upd mv 36 ((mv 36) ||| (1 <<< ((placeF x.toNatClampNeg) &&& 31))))))) ((va_up_ne M (.inr (12, modF ad mb (upd mv 36 ((mv 36) ||| (1 <<< ((placeF x.toNatClampNeg) &&& 31)))))) (show mb + 3 ≠ mb by omega)).trans m_mb_3) k0 hnp k1 hnc k2 hnt k3 hnq) X hK hP hS hl.1 rfl gX13_put_X13_isCase yd_X13_isCase ⟨Nat.le_of_ble_eq_true rfl, Nat.le_of_ble_eq_true rfl⟩ h_mb (va_up_self M mb (.inr (12, modF ad mb (upd mv 36 ((mv 36) ||| (1 <<< ((placeF x.toNatClampNeg) &&& 31))))))) (ci := 12) rfl rfl (Nat.le_of_ble_eq_true rfl) ⟨Nat.zero_le _, Nat.zero_le _⟩ dX13_put_32 ?_
    refine lv_if_eq (tgt := 50) hx hb dX13_put_35 (by decide) (fun c_35 => ?_) (fun c_35 => ?_)
    · skip
      refine lv_aload_n hx hb dX13_put_50 rfl (lv_at hl 0 rfl) ?_
      refine q_get (v := .ref (ad (mb + 18))) (fs := modF ad mb (upd mv 36 ((mv 36) ||| (1 <<< ((placeF x.toNatClampNeg) &&& 31))))) X hK hP fX13_put_84 h_mb (va_up_self M mb (.inr (12, modF ad mb (upd mv 36 ((mv 36) ||| (1 <<< ((placeF x.toNatClampNeg) &&& 31))))))) rfl dX13_put_51 ?_
      refine lv_iload_n hx hb dX13_put_54 rfl (lv_at hl 1 rfl) ?_
      refine lv_iload_n hx hb dX13_put_55 rfl (lv_at hl 2 rfl) ?_
      refine q_iast (f := placeF) (k := 24) X hK hI hP hS h_mb_18 ((va_up_ne M (.inr (12, modF ad mb (upd mv 36 ((mv 36) ||| (1 <<< ((placeF x.toNatClampNeg) &&& 31)))))) (show mb + 18 ≠ mb by omega)).trans m_mb_18) (by assumption) dX13_put_56 (fun H locs hP hS => ?_)
      exact q_wvret X hr hlocks hP hS ⟨(by rw [s_X13_put_0_1, if_neg c_10, if_pos c_35]; exact ((va_up_ne (va_up M mb (.inr (12, modF ad mb (upd mv 36 ((mv 36) ||| (1 <<< ((placeF x.toNatClampNeg) &&& 31))))))) (.inl (cI, 24, .inl (upd placeF x.toNatClampNeg y))) (show mb ≠ mb + 18 by omega)).trans (va_up_self M mb (.inr (12, modF ad mb (upd mv 36 ((mv 36) ||| (1 <<< ((placeF x.toNatClampNeg) &&& 31))))))))), (va_up_self (va_up M mb (.inr (12, modF ad mb (upd mv 36 ((mv 36) ||| (1 <<< ((placeF x.toNatClampNeg) &&& 31))))))) (mb + 18) (.inl (cI, 24, .inl (upd placeF x.toNatClampNeg y)))), (fun q n0 n1 => ((va_up_ne _ _ n1).trans (va_up_ne _ _ n0)))⟩ dX13_put_57
    · skip
      have hv_35 := isCase_vp k1 hnc c_35
      refine lv_aload_n hx hb dX13_put_38 rfl (lv_at hl 0 rfl) ?_
      refine lv_dup hx hb dX13_put_39 rfl ?_
      refine q_get (v := .int ((mv 36) ||| (1 <<< ((placeF x.toNatClampNeg) &&& 31)))) (fs := modF ad mb (upd mv 36 ((mv 36) ||| (1 <<< ((placeF x.toNatClampNeg) &&& 31))))) X hK hP fX13_put_331 h_mb (va_up_self M mb (.inr (12, modF ad mb (upd mv 36 ((mv 36) ||| (1 <<< ((placeF x.toNatClampNeg) &&& 31))))))) rfl dX13_put_40 ?_
      refine lv_iconst (v := 1) hx hb dX13_put_43 (by decide) ?_
      refine lv_iload_n hx hb dX13_put_44 rfl (lv_at hl 2 rfl) ?_
      refine lv_ishl hx hb dX13_put_45 ?_
      refine lv_ior hx hb dX13_put_46 ?_
      refine q_put (fs := modF ad mb (upd mv 36 ((mv 36) ||| (1 <<< ((placeF x.toNatClampNeg) &&& 31))))) (fs' := modF ad mb (upd (upd mv 36 ((mv 36) ||| (1 <<< ((placeF x.toNatClampNeg) &&& 31)))) 36 (((mv 36) ||| (1 <<< ((placeF x.toNatClampNeg) &&& 31))) ||| (1 <<< (y &&& 31))))) X hK hI hP hS fX13_put_331 fw_12_36 h_mb (va_up_self M mb (.inr (12, modF ad mb (upd mv 36 ((mv 36) ||| (1 <<< ((placeF x.toNatClampNeg) &&& 31))))))) rfl rfl (Nat.le_of_ble_eq_true rfl) rfl dX13_put_47 (fun H locs hP hS => ?_)
      refine lv_aload_n hx hb dX13_put_50 rfl (lv_at hl 0 rfl) ?_
      refine q_get (v := .ref (ad (mb + 18))) (fs := modF ad mb (upd (upd mv 36 ((mv 36) ||| (1 <<< ((placeF x.toNatClampNeg) &&& 31)))) 36 (((mv 36) ||| (1 <<< ((placeF x.toNatClampNeg) &&& 31))) ||| (1 <<< (y &&& 31))))) X hK hP fX13_put_84 h_mb (va_up_self (va_up M mb (.inr (12, modF ad mb (upd mv 36 ((mv 36) ||| (1 <<< ((placeF x.toNatClampNeg) &&& 31))))))) mb (.inr (12, modF ad mb (upd (upd mv 36 ((mv 36) ||| (1 <<< ((placeF x.toNatClampNeg) &&& 31)))) 36 (((mv 36) ||| (1 <<< ((placeF x.toNatClampNeg) &&& 31))) ||| (1 <<< (y &&& 31))))))) rfl dX13_put_51 ?_
      refine lv_iload_n hx hb dX13_put_54 rfl (lv_at hl 1 rfl) ?_
      refine lv_iload_n hx hb dX13_put_55 rfl (lv_at hl 2 rfl) ?_
      refine q_iast (f := placeF) (k := 24) X hK hI hP hS h_mb_18 ((va_up_ne (va_up M mb (.inr (12, modF ad mb (upd mv 36 ((mv 36) ||| (1 <<< ((placeF x.toNatClampNeg) &&& 31))))))) (.inr (12, modF ad mb (upd (upd mv 36 ((mv 36) ||| (1 <<< ((placeF x.toNatClampNeg) &&& 31)))) 36 (((mv 36) ||| (1 <<< ((placeF x.toNatClampNeg) &&& 31))) ||| (1 <<< (y &&& 31)))))) (show mb + 18 ≠ mb by omega)).trans ((va_up_ne M (.inr (12, modF ad mb (upd mv 36 ((mv 36) ||| (1 <<< ((placeF x.toNatClampNeg) &&& 31)))))) (show mb + 18 ≠ mb by omega)).trans m_mb_18)) (by assumption) dX13_put_56 (fun H locs hP hS => ?_)
      exact q_wvret X hr hlocks hP hS ⟨(by rw [s_X13_put_0_1, if_neg c_10, if_neg c_35]; exact ((va_up_ne (va_up (va_up M mb (.inr (12, modF ad mb (upd mv 36 ((mv 36) ||| (1 <<< ((placeF x.toNatClampNeg) &&& 31))))))) mb (.inr (12, modF ad mb (upd (upd mv 36 ((mv 36) ||| (1 <<< ((placeF x.toNatClampNeg) &&& 31)))) 36 (((mv 36) ||| (1 <<< ((placeF x.toNatClampNeg) &&& 31))) ||| (1 <<< (y &&& 31))))))) (.inl (cI, 24, .inl (upd placeF x.toNatClampNeg y))) (show mb ≠ mb + 18 by omega)).trans (va_up_self (va_up M mb (.inr (12, modF ad mb (upd mv 36 ((mv 36) ||| (1 <<< ((placeF x.toNatClampNeg) &&& 31))))))) mb (.inr (12, modF ad mb (upd (upd mv 36 ((mv 36) ||| (1 <<< ((placeF x.toNatClampNeg) &&& 31)))) 36 (((mv 36) ||| (1 <<< ((placeF x.toNatClampNeg) &&& 31))) ||| (1 <<< (y &&& 31))))))))), (va_up_self (va_up (va_up M mb (.inr (12, modF ad mb (upd mv 36 ((mv 36) ||| (1 <<< ((placeF x.toNatClampNeg) &&& 31))))))) mb (.inr (12, modF ad mb (upd (upd mv 36 ((mv 36) ||| (1 <<< ((placeF x.toNatClampNeg) &&& 31)))) 36 (((mv 36) ||| (1 <<< ((placeF x.toNatClampNeg) &&& 31))) ||| (1 <<< (y &&& 31))))))) (mb + 18) (.inl (cI, 24, .inl (upd placeF x.toNatClampNeg y)))), (fun q n0 n1 => ((va_up_ne _ _ n1).trans ((va_up_ne _ _ n0).trans (va_up_ne _ _ n0))))⟩ dX13_put_57
set_option maxRecDepth 20000 in
theorem fX13_may_173 : FL wsX13_may RX13 173 12 2 := ⟨RX13, TX13, 67, rfl, by decide +kernel, by decide, by decide +kernel⟩
theorem yd_X13_isThing : YD yX13_isThing 1 := ⟨by decide +kernel, by decide +kernel, by decide +kernel⟩
theorem yd_X13_mayBe : YD yX13_mayBe 2 := ⟨by decide +kernel, by decide +kernel, by decide +kernel⟩
def s_X13_may (nt : Nat) (nq : Nat) (toldF : Nat → Int32) (pocketsF : Nat → Int32) (bearsF : Nat → Int32) (holdsF : Nat → Int32) (boardF : Nat → Int32) (kindF : Nat → Int32) (heavyF : Nat → Int32) (wideF : Nat → Int32) (hotF : Nat → Int32) (placeF : Nat → Int32) (postToF : Nat → Int32) (priceF : Nat → Int32) (x : Int32) (y : Int32) : Int32 := if (s_X13_isThing toldF x) = 0 then 0 else (s_X13_mayBe nt nq toldF pocketsF bearsF holdsF boardF kindF heavyF wideF hotF placeF postToF priceF x y)
def s_X13_may_0_1 (mv : Nat → Int32) (toldF : Nat → Int32) (x : Int32) : Nat → Int32 := if (s_X13_isThing toldF x) = 0 then (upd (upd mv 2 0) 2 1) else (upd mv 2 0)
set_option maxHeartbeats 4000000 in
set_option maxRecDepth 100000 in
theorem c_X13_may (l : Launch) (D : va_G) (cB cI cJ : ClassId) (ad : Nat → Nat) (n : Nat) (M : Nat → va_E) (hI : ipI ad n) (mb : Nat) (nt : Nat) (nc : Nat) (np : Nat) (nq : Nat) (mv : Nat → Int32) (toldF : Nat → Int32) (pocketsF : Nat → Int32) (bearsF : Nat → Int32) (holdsF : Nat → Int32) (boardF : Nat → Int32) (kindF : Nat → Int32) (heavyF : Nat → Int32) (wideF : Nat → Int32) (hotF : Nat → Int32) (placeF : Nat → Int32) (postToF : Nat → Int32) (priceF : Nat → Int32) (x : Int32) (y : Int32) (h_mb : mb < n) (h_mb_3 : mb + 3 < n) (h_mb_5 : mb + 5 < n) (h_mb_6 : mb + 6 < n) (h_mb_9 : mb + 9 < n) (h_mb_11 : mb + 11 < n) (h_mb_12 : mb + 12 < n) (h_mb_13 : mb + 13 < n) (h_mb_15 : mb + 15 < n) (h_mb_17 : mb + 17 < n) (h_mb_18 : mb + 18 < n) (h_mb_19 : mb + 19 < n) (h_mb_20 : mb + 20 < n) (m_mb : M mb = .inr (12, modF ad mb mv)) (m_mb_3 : M (mb + 3) = .inl (cI, 14, .inl toldF)) (m_mb_5 : M (mb + 5) = .inl (cI, 8, .inl pocketsF)) (m_mb_6 : M (mb + 6) = .inl (cI, 8, .inl bearsF)) (m_mb_9 : M (mb + 9) = .inl (cI, 10, .inl holdsF)) (m_mb_11 : M (mb + 11) = .inl (cI, 10, .inl boardF)) (m_mb_12 : M (mb + 12) = .inl (cI, 24, .inl kindF)) (m_mb_13 : M (mb + 13) = .inl (cI, 24, .inl heavyF)) (m_mb_15 : M (mb + 15) = .inl (cI, 24, .inl wideF)) (m_mb_17 : M (mb + 17) = .inl (cI, 24, .inl hotF)) (m_mb_18 : M (mb + 18) = .inl (cI, 24, .inl placeF)) (m_mb_19 : M (mb + 19) = .inl (cI, 12, .inl postToF)) (m_mb_20 : M (mb + 20) = .inl (cI, 12, .inl priceF)) (k0 : toldF 0 = nI np) (hnp : np ≤ 4) (k1 : toldF 1 = nI nc) (hnc : nc ≤ 5) (k2 : toldF 2 = nI nt) (hnt : nt ≤ 12) (k3 : toldF 3 = nI nq) (hnq : nq ≤ 6) : cWi l D cB cI cJ ad n M yX13_may wsX13_may 3 68 [.ref (ad mb), .int x, .int y] (fun r M' => r = s_X13_may nt nq toldF pocketsF bearsF holdsF boardF kindF heavyF wideF hotF placeF postToF priceF x y ∧ M' mb = .inr (12, modF ad mb (s_X13_may_0_1 mv toldF x)) ∧ ∀ q : Nat, q ≠ mb → M' q = M q) := by
  refine q_body (cc := cX13_may) (maxL := 3) (ret := (some .boolean)) (by decide) rfl (Nat.le_of_ble_eq_true rfl) ?_
  intro p e s m args below meth c ls X hr hlocks hK hP hl
  obtain ⟨hx, hb, hml, hown, hts⟩ := id X
  have hS : va_S (ipA ad n) s.heap s.heap [] := va_S.rf
  have hl : lv_has ls 3 [(0, .ref (ad mb)), (1, .int x), (2, .int y)] := hl
  refine lv_aload_n hx hb dX13_may_0 rfl (lv_at hl 0 rfl) ?_
  refine lv_iconst (v := 0) hx hb dX13_may_1 (by decide) ?_
  refine q_put (fs := modF ad mb mv) (fs' := modF ad mb (upd mv 2 0)) X hK hI hP hS fX13_may_173 fw_12_2 h_mb m_mb rfl rfl (Nat.le_of_ble_eq_true rfl) rfl dX13_may_2 (fun H locs hP hS => ?_)
  refine lv_aload_n hx hb dX13_may_5 rfl (lv_at hl 0 rfl) ?_
  refine lv_iload_n hx hb dX13_may_6 rfl (lv_at hl 1 rfl) ?_
  refine q_rdV (As := [.int x]) (rest := []) (c_X13_isThing l D cB cI cJ ad n (va_up M mb (.inr (12, modF ad mb (upd mv 2 0)))) mb nt nc np nq (upd mv 2 0) toldF x h_mb h_mb_3 (va_up_self M mb (.inr (12, modF ad mb (upd mv 2 0)))) ((va_up_ne M (.inr (12, modF ad mb (upd mv 2 0))) (show mb + 3 ≠ mb by omega)).trans m_mb_3) k0 hnp k1 hnc k2 hnt k3 hnq) X hK hP hS hl.1 rfl gX13_may_X13_isThing yd_X13_isThing ⟨Nat.le_of_ble_eq_true rfl, Nat.le_of_ble_eq_true rfl⟩ h_mb (va_up_self M mb (.inr (12, modF ad mb (upd mv 2 0)))) (ci := 12) rfl rfl (Nat.le_of_ble_eq_true rfl) ⟨Nat.zero_le _, Nat.zero_le _⟩ dX13_may_7 ?_
  refine lv_if_ne (tgt := 20) hx hb dX13_may_10 (by decide) (fun c_10 => ?_) (fun c_10 => ?_)
  · skip
    have hv_10 := isThing_vp k2 hnt c_10
    refine lv_aload_n hx hb dX13_may_20 rfl (lv_at hl 0 rfl) ?_
    refine lv_iload_n hx hb dX13_may_21 rfl (lv_at hl 1 rfl) ?_
    refine lv_iload_n hx hb dX13_may_22 rfl (lv_at hl 2 rfl) ?_
    refine q_rdV (As := [.int x, .int y]) (rest := []) (c_X13_mayBe l D cB cI cJ ad n (va_up M mb (.inr (12, modF ad mb (upd mv 2 0)))) mb nt nc np nq (upd mv 2 0) toldF pocketsF bearsF holdsF boardF kindF heavyF wideF hotF placeF postToF priceF x y h_mb h_mb_3 h_mb_5 h_mb_6 h_mb_9 h_mb_11 h_mb_12 h_mb_13 h_mb_15 h_mb_17 h_mb_18 h_mb_19 h_mb_20 (va_up_self M mb (.inr (12, modF ad mb (upd mv 2 0)))) ((va_up_ne M (.inr (12, modF ad mb (upd mv 2 0))) (show mb + 3 ≠ mb by omega)).trans m_mb_3) ((va_up_ne M (.inr (12, modF ad mb (upd mv 2 0))) (show mb + 5 ≠ mb by omega)).trans m_mb_5) ((va_up_ne M (.inr (12, modF ad mb (upd mv 2 0))) (show mb + 6 ≠ mb by omega)).trans m_mb_6) ((va_up_ne M (.inr (12, modF ad mb (upd mv 2 0))) (show mb + 9 ≠ mb by omega)).trans m_mb_9) ((va_up_ne M (.inr (12, modF ad mb (upd mv 2 0))) (show mb + 11 ≠ mb by omega)).trans m_mb_11) ((va_up_ne M (.inr (12, modF ad mb (upd mv 2 0))) (show mb + 12 ≠ mb by omega)).trans m_mb_12) ((va_up_ne M (.inr (12, modF ad mb (upd mv 2 0))) (show mb + 13 ≠ mb by omega)).trans m_mb_13) ((va_up_ne M (.inr (12, modF ad mb (upd mv 2 0))) (show mb + 15 ≠ mb by omega)).trans m_mb_15) ((va_up_ne M (.inr (12, modF ad mb (upd mv 2 0))) (show mb + 17 ≠ mb by omega)).trans m_mb_17) ((va_up_ne M (.inr (12, modF ad mb (upd mv 2 0))) (show mb + 18 ≠ mb by omega)).trans m_mb_18) ((va_up_ne M (.inr (12, modF ad mb (upd mv 2 0))) (show mb + 19 ≠ mb by omega)).trans m_mb_19) ((va_up_ne M (.inr (12, modF ad mb (upd mv 2 0))) (show mb + 20 ≠ mb by omega)).trans m_mb_20) k0 hnp k1 hnc k2 hnt k3 hnq (by first | assumption | omega | exact vp_in_nI (by omega) (by decide) | exact vp_in_iff.mpr (by decide))) X hK hP hS hl.1 rfl gX13_may_X13_mayBe yd_X13_mayBe ⟨Nat.le_of_ble_eq_true rfl, Nat.le_of_ble_eq_true rfl⟩ h_mb (va_up_self M mb (.inr (12, modF ad mb (upd mv 2 0)))) (ci := 12) rfl rfl (Nat.le_of_ble_eq_true rfl) ⟨Nat.zero_le _, Nat.zero_le _⟩ dX13_may_23 ?_
    exact q_wzret X hr hlocks hP hS (by unfold s_X13_mayBe; (repeat' split) <;> rfl) ⟨(by rw [s_X13_may, if_neg c_10]), (by rw [s_X13_may_0_1, if_neg c_10]; exact (va_up_self M mb (.inr (12, modF ad mb (upd mv 2 0))))), (fun q n0 => (va_up_ne _ _ n0))⟩ dX13_may_26
  · skip
    refine lv_aload_n hx hb dX13_may_13 rfl (lv_at hl 0 rfl) ?_
    refine lv_iconst (v := 1) hx hb dX13_may_14 (by decide) ?_
    refine q_put (fs := modF ad mb (upd mv 2 0)) (fs' := modF ad mb (upd (upd mv 2 0) 2 1)) X hK hI hP hS fX13_may_173 fw_12_2 h_mb (va_up_self M mb (.inr (12, modF ad mb (upd mv 2 0)))) rfl rfl (Nat.le_of_ble_eq_true rfl) rfl dX13_may_15 (fun H locs hP hS => ?_)
    refine lv_iconst (v := 0) hx hb dX13_may_18 (by decide) ?_
    exact q_wzret X hr hlocks hP hS (rfl) ⟨(by rw [s_X13_may, if_pos c_10]), (by rw [s_X13_may_0_1, if_pos c_10]; exact (va_up_self (va_up M mb (.inr (12, modF ad mb (upd mv 2 0)))) mb (.inr (12, modF ad mb (upd (upd mv 2 0) 2 1))))), (fun q n0 => ((va_up_ne _ _ n0).trans (va_up_ne _ _ n0)))⟩ dX13_may_19
set_option maxRecDepth 20000 in
theorem fX13_person_173 : FL wsX13_person RX13 173 12 2 := ⟨RX13, TX13, 67, rfl, by decide +kernel, by decide, by decide +kernel⟩
set_option maxRecDepth 20000 in
theorem fX13_person_44 : FL wsX13_person RX13 44 12 4 := ⟨RX13, TX13, 67, rfl, by decide +kernel, by decide, by decide +kernel⟩
set_option maxRecDepth 20000 in
theorem fX13_person_47 : FL wsX13_person RX13 47 12 5 := ⟨RX13, TX13, 67, rfl, by decide +kernel, by decide, by decide +kernel⟩
set_option maxRecDepth 20000 in
theorem fX13_person_50 : FL wsX13_person RX13 50 12 6 := ⟨RX13, TX13, 67, rfl, by decide +kernel, by decide, by decide +kernel⟩
theorem yd_X13_hasShirt : YD yX13_hasShirt 2 := ⟨by decide +kernel, by decide +kernel, by decide +kernel⟩
theorem yd_X13_fail : YD yX13_fail 1 := ⟨by decide +kernel, by decide +kernel, by decide +kernel⟩
def s_X13_person (nt : Nat) (toldF : Nat → Int32) (ownF : Nat → Int32) (pocketsF : Nat → Int32) (bearsF : Nat → Int32) (ownerF : Nat → Int32) (kindF : Nat → Int32) (heavyF : Nat → Int32) (wideF : Nat → Int32) (hotF : Nat → Int32) (placeF : Nat → Int32) (x : Int32) (y : Int32) : Int32 := if (s_X13_isPerson toldF x) = 0 then (s_X13_fail) else if y = 0 then (ownF x.toNatClampNeg) else if y = 1 then (pocketsF x.toNatClampNeg) else if y = 2 then (bearsF x.toNatClampNeg) else if y = 3 then (s_X13_sumAt nt kindF heavyF wideF hotF placeF (10 + x) 3) else if y = 4 then (s_X13_sumAt nt kindF heavyF wideF hotF placeF (10 + x) 4) else if y = 5 then if (s_X13_hasShirt nt toldF ownerF kindF placeF x (-1)) = 0 then 0 else 1 else (s_X13_fail)
def s_X13_person_0_1 (nt : Nat) (mv : Nat → Int32) (toldF : Nat → Int32) (ownerF : Nat → Int32) (kindF : Nat → Int32) (placeF : Nat → Int32) (x : Int32) (y : Int32) : Nat → Int32 := if (s_X13_isPerson toldF x) = 0 then (upd (upd mv 2 0) 2 1) else if y = 0 then (upd mv 2 0) else if y = 1 then (upd mv 2 0) else if y = 2 then (upd mv 2 0) else if y = 3 then (upd mv 2 0) else if y = 4 then (upd mv 2 0) else if y = 5 then if (s_X13_hasShirt nt toldF ownerF kindF placeF x (-1)) = 0 then (upd mv 2 0) else (upd mv 2 0) else (upd (upd mv 2 0) 2 1)
set_option maxHeartbeats 4000000 in
set_option maxRecDepth 100000 in
theorem c_X13_person (l : Launch) (D : va_G) (cB cI cJ : ClassId) (ad : Nat → Nat) (n : Nat) (M : Nat → va_E) (hI : ipI ad n) (mb : Nat) (nt : Nat) (nc : Nat) (np : Nat) (nq : Nat) (mv : Nat → Int32) (toldF : Nat → Int32) (ownF : Nat → Int32) (pocketsF : Nat → Int32) (bearsF : Nat → Int32) (ownerF : Nat → Int32) (kindF : Nat → Int32) (heavyF : Nat → Int32) (wideF : Nat → Int32) (hotF : Nat → Int32) (placeF : Nat → Int32) (x : Int32) (y : Int32) (h_mb : mb < n) (h_mb_3 : mb + 3 < n) (h_mb_4 : mb + 4 < n) (h_mb_5 : mb + 5 < n) (h_mb_6 : mb + 6 < n) (h_mb_7 : mb + 7 < n) (h_mb_12 : mb + 12 < n) (h_mb_13 : mb + 13 < n) (h_mb_15 : mb + 15 < n) (h_mb_17 : mb + 17 < n) (h_mb_18 : mb + 18 < n) (m_mb : M mb = .inr (12, modF ad mb mv)) (m_mb_3 : M (mb + 3) = .inl (cI, 14, .inl toldF)) (m_mb_4 : M (mb + 4) = .inl (cI, 8, .inl ownF)) (m_mb_5 : M (mb + 5) = .inl (cI, 8, .inl pocketsF)) (m_mb_6 : M (mb + 6) = .inl (cI, 8, .inl bearsF)) (m_mb_7 : M (mb + 7) = .inl (cI, 10, .inl ownerF)) (m_mb_12 : M (mb + 12) = .inl (cI, 24, .inl kindF)) (m_mb_13 : M (mb + 13) = .inl (cI, 24, .inl heavyF)) (m_mb_15 : M (mb + 15) = .inl (cI, 24, .inl wideF)) (m_mb_17 : M (mb + 17) = .inl (cI, 24, .inl hotF)) (m_mb_18 : M (mb + 18) = .inl (cI, 24, .inl placeF)) (k0 : toldF 0 = nI np) (hnp : np ≤ 4) (k1 : toldF 1 = nI nc) (hnc : nc ≤ 5) (k2 : toldF 2 = nI nt) (hnt : nt ≤ 12) (k3 : toldF 3 = nI nq) (hnq : nq ≤ 6) : cWi l D cB cI cJ ad n M yX13_person wsX13_person 3 69 [.ref (ad mb), .int x, .int y] (fun r M' => r = s_X13_person nt toldF ownF pocketsF bearsF ownerF kindF heavyF wideF hotF placeF x y ∧ M' mb = .inr (12, modF ad mb (s_X13_person_0_1 nt mv toldF ownerF kindF placeF x y)) ∧ ∀ q : Nat, q ≠ mb → M' q = M q) := by
  refine q_body (cc := cX13_person) (maxL := 3) (ret := (some .int)) (by decide) rfl (Nat.le_of_ble_eq_true rfl) ?_
  intro p e s m args below meth c ls X hr hlocks hK hP hl
  obtain ⟨hx, hb, hml, hown, hts⟩ := id X
  have hS : va_S (ipA ad n) s.heap s.heap [] := va_S.rf
  have hl : lv_has ls 3 [(0, .ref (ad mb)), (1, .int x), (2, .int y)] := hl
  refine lv_aload_n hx hb dX13_person_0 rfl (lv_at hl 0 rfl) ?_
  refine lv_iconst (v := 0) hx hb dX13_person_1 (by decide) ?_
  refine q_put (fs := modF ad mb mv) (fs' := modF ad mb (upd mv 2 0)) X hK hI hP hS fX13_person_173 fw_12_2 h_mb m_mb rfl rfl (Nat.le_of_ble_eq_true rfl) rfl dX13_person_2 (fun H locs hP hS => ?_)
  refine lv_aload_n hx hb dX13_person_5 rfl (lv_at hl 0 rfl) ?_
  refine lv_iload_n hx hb dX13_person_6 rfl (lv_at hl 1 rfl) ?_
  refine q_rdV (As := [.int x]) (rest := []) (c_X13_isPerson l D cB cI cJ ad n (va_up M mb (.inr (12, modF ad mb (upd mv 2 0)))) mb nt nc np nq (upd mv 2 0) toldF x h_mb h_mb_3 (va_up_self M mb (.inr (12, modF ad mb (upd mv 2 0)))) ((va_up_ne M (.inr (12, modF ad mb (upd mv 2 0))) (show mb + 3 ≠ mb by omega)).trans m_mb_3) k0 hnp k1 hnc k2 hnt k3 hnq) X hK hP hS hl.1 rfl gX13_person_X13_isPerson yd_X13_isPerson ⟨Nat.le_of_ble_eq_true rfl, Nat.le_of_ble_eq_true rfl⟩ h_mb (va_up_self M mb (.inr (12, modF ad mb (upd mv 2 0)))) (ci := 12) rfl rfl (Nat.le_of_ble_eq_true rfl) ⟨Nat.zero_le _, Nat.zero_le _⟩ dX13_person_7 ?_
  refine lv_if_ne (tgt := 19) hx hb dX13_person_10 (by decide) (fun c_10 => ?_) (fun c_10 => ?_)
  · skip
    have hv_10 := isPerson_vp k0 hnp c_10
    refine lv_iload_n hx hb dX13_person_19 rfl (lv_at hl 2 rfl) ?_
    by_cases c_20_0 : y = 0
    · refine lv_tableIn (off := 40) (tgt := 60) hx hb dX13_person_20 (by rw [c_20_0]; decide) (by rw [c_20_0]; decide) (by rw [c_20_0]; decide) (by decide) ?_
      refine lv_aload_n hx hb dX13_person_60 rfl (lv_at hl 0 rfl) ?_
      refine q_get (v := .ref (ad (mb + 4))) (fs := modF ad mb (upd mv 2 0)) X hK hP fX13_person_44 h_mb (va_up_self M mb (.inr (12, modF ad mb (upd mv 2 0)))) rfl dX13_person_61 ?_
      refine lv_iload_n hx hb dX13_person_64 rfl (lv_at hl 1 rfl) ?_
      refine q_iald (f := ownF) (k := 8) X hK hP h_mb_4 ((va_up_ne M (.inr (12, modF ad mb (upd mv 2 0))) (show mb + 4 ≠ mb by omega)).trans m_mb_4) (by assumption) dX13_person_65 ?_
      exact q_wzret X hr hlocks hP hS (rfl) ⟨(by rw [s_X13_person, if_neg c_10, if_pos c_20_0]), (by rw [s_X13_person_0_1, if_neg c_10, if_pos c_20_0]; exact (va_up_self M mb (.inr (12, modF ad mb (upd mv 2 0))))), (fun q n0 => (va_up_ne _ _ n0))⟩ dX13_person_66
    by_cases c_20_1 : y = 1
    · refine lv_tableIn (off := 47) (tgt := 67) hx hb dX13_person_20 (by rw [c_20_1]; decide) (by rw [c_20_1]; decide) (by rw [c_20_1]; decide) (by decide) ?_
      refine lv_aload_n hx hb dX13_person_67 rfl (lv_at hl 0 rfl) ?_
      refine q_get (v := .ref (ad (mb + 5))) (fs := modF ad mb (upd mv 2 0)) X hK hP fX13_person_47 h_mb (va_up_self M mb (.inr (12, modF ad mb (upd mv 2 0)))) rfl dX13_person_68 ?_
      refine lv_iload_n hx hb dX13_person_71 rfl (lv_at hl 1 rfl) ?_
      refine q_iald (f := pocketsF) (k := 8) X hK hP h_mb_5 ((va_up_ne M (.inr (12, modF ad mb (upd mv 2 0))) (show mb + 5 ≠ mb by omega)).trans m_mb_5) (by assumption) dX13_person_72 ?_
      exact q_wzret X hr hlocks hP hS (rfl) ⟨(by rw [s_X13_person, if_neg c_10, if_neg c_20_0, if_pos c_20_1]), (by rw [s_X13_person_0_1, if_neg c_10, if_neg c_20_0, if_pos c_20_1]; exact (va_up_self M mb (.inr (12, modF ad mb (upd mv 2 0))))), (fun q n0 => (va_up_ne _ _ n0))⟩ dX13_person_73
    by_cases c_20_2 : y = 2
    · refine lv_tableIn (off := 54) (tgt := 74) hx hb dX13_person_20 (by rw [c_20_2]; decide) (by rw [c_20_2]; decide) (by rw [c_20_2]; decide) (by decide) ?_
      refine lv_aload_n hx hb dX13_person_74 rfl (lv_at hl 0 rfl) ?_
      refine q_get (v := .ref (ad (mb + 6))) (fs := modF ad mb (upd mv 2 0)) X hK hP fX13_person_50 h_mb (va_up_self M mb (.inr (12, modF ad mb (upd mv 2 0)))) rfl dX13_person_75 ?_
      refine lv_iload_n hx hb dX13_person_78 rfl (lv_at hl 1 rfl) ?_
      refine q_iald (f := bearsF) (k := 8) X hK hP h_mb_6 ((va_up_ne M (.inr (12, modF ad mb (upd mv 2 0))) (show mb + 6 ≠ mb by omega)).trans m_mb_6) (by assumption) dX13_person_79 ?_
      exact q_wzret X hr hlocks hP hS (rfl) ⟨(by rw [s_X13_person, if_neg c_10, if_neg c_20_0, if_neg c_20_1, if_pos c_20_2]), (by rw [s_X13_person_0_1, if_neg c_10, if_neg c_20_0, if_neg c_20_1, if_pos c_20_2]; exact (va_up_self M mb (.inr (12, modF ad mb (upd mv 2 0))))), (fun q n0 => (va_up_ne _ _ n0))⟩ dX13_person_80
    by_cases c_20_3 : y = 3
    · refine lv_tableIn (off := 61) (tgt := 81) hx hb dX13_person_20 (by rw [c_20_3]; decide) (by rw [c_20_3]; decide) (by rw [c_20_3]; decide) (by decide) ?_
      refine lv_aload_n hx hb dX13_person_81 rfl (lv_at hl 0 rfl) ?_
      refine lv_bipush (v := 10) hx hb dX13_person_82 (by decide) ?_
      refine lv_iload_n hx hb dX13_person_84 rfl (lv_at hl 1 rfl) ?_
      refine lv_iadd hx hb dX13_person_85 ?_
      refine lv_iconst (v := 3) hx hb dX13_person_86 (by decide) ?_
      refine q_rdV (As := [.int (10 + x), .int 3]) (rest := []) (c_X13_sumAt l D cB cI cJ ad n (va_up M mb (.inr (12, modF ad mb (upd mv 2 0)))) mb nt nc np nq (upd mv 2 0) toldF kindF heavyF wideF hotF placeF (10 + x) 3 h_mb h_mb_3 h_mb_12 h_mb_13 h_mb_15 h_mb_17 h_mb_18 (va_up_self M mb (.inr (12, modF ad mb (upd mv 2 0)))) ((va_up_ne M (.inr (12, modF ad mb (upd mv 2 0))) (show mb + 3 ≠ mb by omega)).trans m_mb_3) ((va_up_ne M (.inr (12, modF ad mb (upd mv 2 0))) (show mb + 12 ≠ mb by omega)).trans m_mb_12) ((va_up_ne M (.inr (12, modF ad mb (upd mv 2 0))) (show mb + 13 ≠ mb by omega)).trans m_mb_13) ((va_up_ne M (.inr (12, modF ad mb (upd mv 2 0))) (show mb + 15 ≠ mb by omega)).trans m_mb_15) ((va_up_ne M (.inr (12, modF ad mb (upd mv 2 0))) (show mb + 17 ≠ mb by omega)).trans m_mb_17) ((va_up_ne M (.inr (12, modF ad mb (upd mv 2 0))) (show mb + 18 ≠ mb by omega)).trans m_mb_18) k0 hnp k1 hnc k2 hnt k3 hnq) X hK hP hS hl.1 rfl gX13_person_X13_sumAt yd_X13_sumAt ⟨Nat.le_of_ble_eq_true rfl, Nat.le_of_ble_eq_true rfl⟩ h_mb (va_up_self M mb (.inr (12, modF ad mb (upd mv 2 0)))) (ci := 12) rfl rfl (Nat.le_of_ble_eq_true rfl) ⟨Nat.zero_le _, Nat.zero_le _⟩ dX13_person_87 ?_
      exact q_wzret X hr hlocks hP hS (rfl) ⟨(by rw [s_X13_person, if_neg c_10, if_neg c_20_0, if_neg c_20_1, if_neg c_20_2, if_pos c_20_3]), (by rw [s_X13_person_0_1, if_neg c_10, if_neg c_20_0, if_neg c_20_1, if_neg c_20_2, if_pos c_20_3]; exact (va_up_self M mb (.inr (12, modF ad mb (upd mv 2 0))))), (fun q n0 => (va_up_ne _ _ n0))⟩ dX13_person_90
    by_cases c_20_4 : y = 4
    · refine lv_tableIn (off := 71) (tgt := 91) hx hb dX13_person_20 (by rw [c_20_4]; decide) (by rw [c_20_4]; decide) (by rw [c_20_4]; decide) (by decide) ?_
      refine lv_aload_n hx hb dX13_person_91 rfl (lv_at hl 0 rfl) ?_
      refine lv_bipush (v := 10) hx hb dX13_person_92 (by decide) ?_
      refine lv_iload_n hx hb dX13_person_94 rfl (lv_at hl 1 rfl) ?_
      refine lv_iadd hx hb dX13_person_95 ?_
      refine lv_iconst (v := 4) hx hb dX13_person_96 (by decide) ?_
      refine q_rdV (As := [.int (10 + x), .int 4]) (rest := []) (c_X13_sumAt l D cB cI cJ ad n (va_up M mb (.inr (12, modF ad mb (upd mv 2 0)))) mb nt nc np nq (upd mv 2 0) toldF kindF heavyF wideF hotF placeF (10 + x) 4 h_mb h_mb_3 h_mb_12 h_mb_13 h_mb_15 h_mb_17 h_mb_18 (va_up_self M mb (.inr (12, modF ad mb (upd mv 2 0)))) ((va_up_ne M (.inr (12, modF ad mb (upd mv 2 0))) (show mb + 3 ≠ mb by omega)).trans m_mb_3) ((va_up_ne M (.inr (12, modF ad mb (upd mv 2 0))) (show mb + 12 ≠ mb by omega)).trans m_mb_12) ((va_up_ne M (.inr (12, modF ad mb (upd mv 2 0))) (show mb + 13 ≠ mb by omega)).trans m_mb_13) ((va_up_ne M (.inr (12, modF ad mb (upd mv 2 0))) (show mb + 15 ≠ mb by omega)).trans m_mb_15) ((va_up_ne M (.inr (12, modF ad mb (upd mv 2 0))) (show mb + 17 ≠ mb by omega)).trans m_mb_17) ((va_up_ne M (.inr (12, modF ad mb (upd mv 2 0))) (show mb + 18 ≠ mb by omega)).trans m_mb_18) k0 hnp k1 hnc k2 hnt k3 hnq) X hK hP hS hl.1 rfl gX13_person_X13_sumAt yd_X13_sumAt ⟨Nat.le_of_ble_eq_true rfl, Nat.le_of_ble_eq_true rfl⟩ h_mb (va_up_self M mb (.inr (12, modF ad mb (upd mv 2 0)))) (ci := 12) rfl rfl (Nat.le_of_ble_eq_true rfl) ⟨Nat.zero_le _, Nat.zero_le _⟩ dX13_person_97 ?_
      exact q_wzret X hr hlocks hP hS (rfl) ⟨(by rw [s_X13_person, if_neg c_10, if_neg c_20_0, if_neg c_20_1, if_neg c_20_2, if_neg c_20_3, if_pos c_20_4]), (by rw [s_X13_person_0_1, if_neg c_10, if_neg c_20_0, if_neg c_20_1, if_neg c_20_2, if_neg c_20_3, if_pos c_20_4]; exact (va_up_self M mb (.inr (12, modF ad mb (upd mv 2 0))))), (fun q n0 => (va_up_ne _ _ n0))⟩ dX13_person_100
    by_cases c_20_5 : y = 5
    · refine lv_tableIn (off := 81) (tgt := 101) hx hb dX13_person_20 (by rw [c_20_5]; decide) (by rw [c_20_5]; decide) (by rw [c_20_5]; decide) (by decide) ?_
      refine lv_aload_n hx hb dX13_person_101 rfl (lv_at hl 0 rfl) ?_
      refine lv_iload_n hx hb dX13_person_102 rfl (lv_at hl 1 rfl) ?_
      refine lv_iconst (v := (-1)) hx hb dX13_person_103 (by decide) ?_
      refine q_rdV (As := [.int x, .int (-1)]) (rest := []) (c_X13_hasShirt l D cB cI cJ ad n (va_up M mb (.inr (12, modF ad mb (upd mv 2 0)))) mb nt nc np nq (upd mv 2 0) toldF ownerF kindF placeF x (-1) h_mb h_mb_3 h_mb_7 h_mb_12 h_mb_18 (va_up_self M mb (.inr (12, modF ad mb (upd mv 2 0)))) ((va_up_ne M (.inr (12, modF ad mb (upd mv 2 0))) (show mb + 3 ≠ mb by omega)).trans m_mb_3) ((va_up_ne M (.inr (12, modF ad mb (upd mv 2 0))) (show mb + 7 ≠ mb by omega)).trans m_mb_7) ((va_up_ne M (.inr (12, modF ad mb (upd mv 2 0))) (show mb + 12 ≠ mb by omega)).trans m_mb_12) ((va_up_ne M (.inr (12, modF ad mb (upd mv 2 0))) (show mb + 18 ≠ mb by omega)).trans m_mb_18) k0 hnp k1 hnc k2 hnt k3 hnq) X hK hP hS hl.1 rfl gX13_person_X13_hasShirt yd_X13_hasShirt ⟨Nat.le_of_ble_eq_true rfl, Nat.le_of_ble_eq_true rfl⟩ h_mb (va_up_self M mb (.inr (12, modF ad mb (upd mv 2 0)))) (ci := 12) rfl rfl (Nat.le_of_ble_eq_true rfl) ⟨Nat.zero_le _, Nat.zero_le _⟩ dX13_person_104 ?_
      refine lv_if_eq (tgt := 114) hx hb dX13_person_107 (by decide) (fun c_107 => ?_) (fun c_107 => ?_)
      · skip
        refine lv_iconst (v := 0) hx hb dX13_person_114 (by decide) ?_
        exact q_wzret X hr hlocks hP hS (rfl) ⟨(by rw [s_X13_person, if_neg c_10, if_neg c_20_0, if_neg c_20_1, if_neg c_20_2, if_neg c_20_3, if_neg c_20_4, if_pos c_20_5, if_pos c_107]), (by rw [s_X13_person_0_1, if_neg c_10, if_neg c_20_0, if_neg c_20_1, if_neg c_20_2, if_neg c_20_3, if_neg c_20_4, if_pos c_20_5, if_pos c_107]; exact (va_up_self M mb (.inr (12, modF ad mb (upd mv 2 0))))), (fun q n0 => (va_up_ne _ _ n0))⟩ dX13_person_115
      · skip
        refine lv_iconst (v := 1) hx hb dX13_person_110 (by decide) ?_
        refine lv_goto (tgt := 115) hx hb dX13_person_111 (by decide) ?_
        exact q_wzret X hr hlocks hP hS (rfl) ⟨(by rw [s_X13_person, if_neg c_10, if_neg c_20_0, if_neg c_20_1, if_neg c_20_2, if_neg c_20_3, if_neg c_20_4, if_pos c_20_5, if_neg c_107]), (by rw [s_X13_person_0_1, if_neg c_10, if_neg c_20_0, if_neg c_20_1, if_neg c_20_2, if_neg c_20_3, if_neg c_20_4, if_pos c_20_5, if_neg c_107]; exact (va_up_self M mb (.inr (12, modF ad mb (upd mv 2 0))))), (fun q n0 => (va_up_ne _ _ n0))⟩ dX13_person_115
    have n_0 := lv_neT (a := 0) c_20_0 (by decide); have n_1 := lv_neT (a := 1) c_20_1 (by decide); have n_2 := lv_neT (a := 2) c_20_2 (by decide); have n_3 := lv_neT (a := 3) c_20_3 (by decide); have n_4 := lv_neT (a := 4) c_20_4 (by decide); have n_5 := lv_neT (a := 5) c_20_5 (by decide)
    refine lv_tableOut (tgt := 116) hx hb dX13_person_20 (by omega) (by decide) ?_
    refine lv_aload_n hx hb dX13_person_116 rfl (lv_at hl 0 rfl) ?_
    refine lv_iconst (v := 1) hx hb dX13_person_117 (by decide) ?_
    refine q_wrVi (As := [.int 1]) (rest := []) (c_X13_fail l D cB cI cJ ad n (va_up M mb (.inr (12, modF ad mb (upd mv 2 0)))) hI mb (upd mv 2 0) 1 h_mb (va_up_self M mb (.inr (12, modF ad mb (upd mv 2 0)))) ) X hK hP hS hl.1 rfl gX13_person_X13_fail yd_X13_fail ⟨Nat.le_of_ble_eq_true rfl, Nat.le_of_ble_eq_true rfl⟩ h_mb (va_up_self M mb (.inr (12, modF ad mb (upd mv 2 0)))) (ci := 12) rfl rfl (Nat.le_of_ble_eq_true rfl) ⟨Nat.zero_le _, Nat.zero_le _⟩ dX13_person_118 (fun r5 M4 H locs hp3 hP hS => ?_)
    obtain ⟨rfl, g6, fr7⟩ := hp3
    exact q_wzret X hr hlocks hP hS (rfl) ⟨(by rw [s_X13_person, if_neg c_10, if_neg c_20_0, if_neg c_20_1, if_neg c_20_2, if_neg c_20_3, if_neg c_20_4, if_neg c_20_5]), (by rw [s_X13_person_0_1, if_neg c_10, if_neg c_20_0, if_neg c_20_1, if_neg c_20_2, if_neg c_20_3, if_neg c_20_4, if_neg c_20_5]; exact g6), (fun q n0 => ((fr7 q n0).trans (va_up_ne _ _ n0)))⟩ dX13_person_121
  · skip
    refine lv_aload_n hx hb dX13_person_13 rfl (lv_at hl 0 rfl) ?_
    refine lv_iconst (v := 1) hx hb dX13_person_14 (by decide) ?_
    refine q_wrVi (As := [.int 1]) (rest := []) (c_X13_fail l D cB cI cJ ad n (va_up M mb (.inr (12, modF ad mb (upd mv 2 0)))) hI mb (upd mv 2 0) 1 h_mb (va_up_self M mb (.inr (12, modF ad mb (upd mv 2 0)))) ) X hK hP hS hl.1 rfl gX13_person_X13_fail yd_X13_fail ⟨Nat.le_of_ble_eq_true rfl, Nat.le_of_ble_eq_true rfl⟩ h_mb (va_up_self M mb (.inr (12, modF ad mb (upd mv 2 0)))) (ci := 12) rfl rfl (Nat.le_of_ble_eq_true rfl) ⟨Nat.zero_le _, Nat.zero_le _⟩ dX13_person_15 (fun r10 M9 H locs hp8 hP hS => ?_)
    obtain ⟨rfl, g11, fr12⟩ := hp8
    exact q_wzret X hr hlocks hP hS (rfl) ⟨(by rw [s_X13_person, if_pos c_10]), (by rw [s_X13_person_0_1, if_pos c_10]; exact g11), (fun q n0 => ((fr12 q n0).trans (va_up_ne _ _ n0)))⟩ dX13_person_18
set_option maxRecDepth 20000 in
theorem fX13_thing_173 : FL wsX13_thing RX13 173 12 2 := ⟨RX13, TX13, 67, rfl, by decide +kernel, by decide, by decide +kernel⟩
set_option maxRecDepth 20000 in
theorem fX13_thing_66 : FL wsX13_thing RX13 66 12 12 := ⟨RX13, TX13, 67, rfl, by decide +kernel, by decide, by decide +kernel⟩
set_option maxRecDepth 20000 in
theorem fX13_thing_69 : FL wsX13_thing RX13 69 12 13 := ⟨RX13, TX13, 67, rfl, by decide +kernel, by decide, by decide +kernel⟩
set_option maxRecDepth 20000 in
theorem fX13_thing_72 : FL wsX13_thing RX13 72 12 14 := ⟨RX13, TX13, 67, rfl, by decide +kernel, by decide, by decide +kernel⟩
set_option maxRecDepth 20000 in
theorem fX13_thing_75 : FL wsX13_thing RX13 75 12 15 := ⟨RX13, TX13, 67, rfl, by decide +kernel, by decide, by decide +kernel⟩
set_option maxRecDepth 20000 in
theorem fX13_thing_78 : FL wsX13_thing RX13 78 12 16 := ⟨RX13, TX13, 67, rfl, by decide +kernel, by decide, by decide +kernel⟩
set_option maxRecDepth 20000 in
theorem fX13_thing_84 : FL wsX13_thing RX13 84 12 18 := ⟨RX13, TX13, 67, rfl, by decide +kernel, by decide, by decide +kernel⟩
set_option maxRecDepth 20000 in
theorem fX13_thing_81 : FL wsX13_thing RX13 81 12 17 := ⟨RX13, TX13, 67, rfl, by decide +kernel, by decide, by decide +kernel⟩
def s_X13_thing (nq : Nat) (toldF : Nat → Int32) (kindF : Nat → Int32) (heavyF : Nat → Int32) (unsureF : Nat → Int32) (wideF : Nat → Int32) (valueF : Nat → Int32) (hotF : Nat → Int32) (placeF : Nat → Int32) (postToF : Nat → Int32) (priceF : Nat → Int32) (x : Int32) (y : Int32) : Int32 := if (s_X13_isThing toldF x) = 0 then (s_X13_fail) else if y = 0 then (kindF x.toNatClampNeg) else if y = 1 then (heavyF x.toNatClampNeg) else if y = 2 then (unsureF x.toNatClampNeg) else if y = 3 then (wideF x.toNatClampNeg) else if y = 4 then (valueF x.toNatClampNeg) else if y = 5 then (placeF x.toNatClampNeg) else if y = 6 then (hotF x.toNatClampNeg) else if y = 7 then (s_X13_priceOf nq heavyF postToF priceF x) else (s_X13_fail)
def s_X13_thing_0_1 (mv : Nat → Int32) (toldF : Nat → Int32) (x : Int32) (y : Int32) : Nat → Int32 := if (s_X13_isThing toldF x) = 0 then (upd (upd mv 2 0) 2 1) else if y = 0 then (upd mv 2 0) else if y = 1 then (upd mv 2 0) else if y = 2 then (upd mv 2 0) else if y = 3 then (upd mv 2 0) else if y = 4 then (upd mv 2 0) else if y = 5 then (upd mv 2 0) else if y = 6 then (upd mv 2 0) else if y = 7 then (upd mv 2 0) else (upd (upd mv 2 0) 2 1)
set_option maxHeartbeats 4000000 in
set_option maxRecDepth 100000 in
theorem c_X13_thing (l : Launch) (D : va_G) (cB cI cJ : ClassId) (ad : Nat → Nat) (n : Nat) (M : Nat → va_E) (hI : ipI ad n) (mb : Nat) (nt : Nat) (nc : Nat) (np : Nat) (nq : Nat) (mv : Nat → Int32) (toldF : Nat → Int32) (kindF : Nat → Int32) (heavyF : Nat → Int32) (unsureF : Nat → Int32) (wideF : Nat → Int32) (valueF : Nat → Int32) (hotF : Nat → Int32) (placeF : Nat → Int32) (postToF : Nat → Int32) (priceF : Nat → Int32) (x : Int32) (y : Int32) (h_mb : mb < n) (h_mb_3 : mb + 3 < n) (h_mb_12 : mb + 12 < n) (h_mb_13 : mb + 13 < n) (h_mb_14 : mb + 14 < n) (h_mb_15 : mb + 15 < n) (h_mb_16 : mb + 16 < n) (h_mb_17 : mb + 17 < n) (h_mb_18 : mb + 18 < n) (h_mb_19 : mb + 19 < n) (h_mb_20 : mb + 20 < n) (m_mb : M mb = .inr (12, modF ad mb mv)) (m_mb_3 : M (mb + 3) = .inl (cI, 14, .inl toldF)) (m_mb_12 : M (mb + 12) = .inl (cI, 24, .inl kindF)) (m_mb_13 : M (mb + 13) = .inl (cI, 24, .inl heavyF)) (m_mb_14 : M (mb + 14) = .inl (cI, 24, .inl unsureF)) (m_mb_15 : M (mb + 15) = .inl (cI, 24, .inl wideF)) (m_mb_16 : M (mb + 16) = .inl (cI, 24, .inl valueF)) (m_mb_17 : M (mb + 17) = .inl (cI, 24, .inl hotF)) (m_mb_18 : M (mb + 18) = .inl (cI, 24, .inl placeF)) (m_mb_19 : M (mb + 19) = .inl (cI, 12, .inl postToF)) (m_mb_20 : M (mb + 20) = .inl (cI, 12, .inl priceF)) (k0 : toldF 0 = nI np) (hnp : np ≤ 4) (k1 : toldF 1 = nI nc) (hnc : nc ≤ 5) (k2 : toldF 2 = nI nt) (hnt : nt ≤ 12) (k3 : toldF 3 = nI nq) (hnq : nq ≤ 6) : cWi l D cB cI cJ ad n M yX13_thing wsX13_thing 2 46 [.ref (ad mb), .int x, .int y] (fun r M' => r = s_X13_thing nq toldF kindF heavyF unsureF wideF valueF hotF placeF postToF priceF x y ∧ M' mb = .inr (12, modF ad mb (s_X13_thing_0_1 mv toldF x y)) ∧ ∀ q : Nat, q ≠ mb → M' q = M q) := by
  refine q_body (cc := cX13_thing) (maxL := 3) (ret := (some .int)) (by decide) rfl (Nat.le_of_ble_eq_true rfl) ?_
  intro p e s m args below meth c ls X hr hlocks hK hP hl
  obtain ⟨hx, hb, hml, hown, hts⟩ := id X
  have hS : va_S (ipA ad n) s.heap s.heap [] := va_S.rf
  have hl : lv_has ls 3 [(0, .ref (ad mb)), (1, .int x), (2, .int y)] := hl
  refine lv_aload_n hx hb dX13_thing_0 rfl (lv_at hl 0 rfl) ?_
  refine lv_iconst (v := 0) hx hb dX13_thing_1 (by decide) ?_
  refine q_put (fs := modF ad mb mv) (fs' := modF ad mb (upd mv 2 0)) X hK hI hP hS fX13_thing_173 fw_12_2 h_mb m_mb rfl rfl (Nat.le_of_ble_eq_true rfl) rfl dX13_thing_2 (fun H locs hP hS => ?_)
  refine lv_aload_n hx hb dX13_thing_5 rfl (lv_at hl 0 rfl) ?_
  refine lv_iload_n hx hb dX13_thing_6 rfl (lv_at hl 1 rfl) ?_
  refine q_rdV (As := [.int x]) (rest := []) (c_X13_isThing l D cB cI cJ ad n (va_up M mb (.inr (12, modF ad mb (upd mv 2 0)))) mb nt nc np nq (upd mv 2 0) toldF x h_mb h_mb_3 (va_up_self M mb (.inr (12, modF ad mb (upd mv 2 0)))) ((va_up_ne M (.inr (12, modF ad mb (upd mv 2 0))) (show mb + 3 ≠ mb by omega)).trans m_mb_3) k0 hnp k1 hnc k2 hnt k3 hnq) X hK hP hS hl.1 rfl gX13_thing_X13_isThing yd_X13_isThing ⟨Nat.le_of_ble_eq_true rfl, Nat.le_of_ble_eq_true rfl⟩ h_mb (va_up_self M mb (.inr (12, modF ad mb (upd mv 2 0)))) (ci := 12) rfl rfl (Nat.le_of_ble_eq_true rfl) ⟨Nat.zero_le _, Nat.zero_le _⟩ dX13_thing_7 ?_
  refine lv_if_ne (tgt := 19) hx hb dX13_thing_10 (by decide) (fun c_10 => ?_) (fun c_10 => ?_)
  · skip
    have hv_10 := isThing_vp k2 hnt c_10
    refine lv_iload_n hx hb dX13_thing_19 rfl (lv_at hl 2 rfl) ?_
    by_cases c_20_0 : y = 0
    · refine lv_tableIn (off := 48) (tgt := 68) hx hb dX13_thing_20 (by rw [c_20_0]; decide) (by rw [c_20_0]; decide) (by rw [c_20_0]; decide) (by decide) ?_
      refine lv_aload_n hx hb dX13_thing_68 rfl (lv_at hl 0 rfl) ?_
      refine q_get (v := .ref (ad (mb + 12))) (fs := modF ad mb (upd mv 2 0)) X hK hP fX13_thing_66 h_mb (va_up_self M mb (.inr (12, modF ad mb (upd mv 2 0)))) rfl dX13_thing_69 ?_
      refine lv_iload_n hx hb dX13_thing_72 rfl (lv_at hl 1 rfl) ?_
      refine q_iald (f := kindF) (k := 24) X hK hP h_mb_12 ((va_up_ne M (.inr (12, modF ad mb (upd mv 2 0))) (show mb + 12 ≠ mb by omega)).trans m_mb_12) (by assumption) dX13_thing_73 ?_
      exact q_wzret X hr hlocks hP hS (rfl) ⟨(by rw [s_X13_thing, if_neg c_10, if_pos c_20_0]), (by rw [s_X13_thing_0_1, if_neg c_10, if_pos c_20_0]; exact (va_up_self M mb (.inr (12, modF ad mb (upd mv 2 0))))), (fun q n0 => (va_up_ne _ _ n0))⟩ dX13_thing_74
    by_cases c_20_1 : y = 1
    · refine lv_tableIn (off := 55) (tgt := 75) hx hb dX13_thing_20 (by rw [c_20_1]; decide) (by rw [c_20_1]; decide) (by rw [c_20_1]; decide) (by decide) ?_
      refine lv_aload_n hx hb dX13_thing_75 rfl (lv_at hl 0 rfl) ?_
      refine q_get (v := .ref (ad (mb + 13))) (fs := modF ad mb (upd mv 2 0)) X hK hP fX13_thing_69 h_mb (va_up_self M mb (.inr (12, modF ad mb (upd mv 2 0)))) rfl dX13_thing_76 ?_
      refine lv_iload_n hx hb dX13_thing_79 rfl (lv_at hl 1 rfl) ?_
      refine q_iald (f := heavyF) (k := 24) X hK hP h_mb_13 ((va_up_ne M (.inr (12, modF ad mb (upd mv 2 0))) (show mb + 13 ≠ mb by omega)).trans m_mb_13) (by assumption) dX13_thing_80 ?_
      exact q_wzret X hr hlocks hP hS (rfl) ⟨(by rw [s_X13_thing, if_neg c_10, if_neg c_20_0, if_pos c_20_1]), (by rw [s_X13_thing_0_1, if_neg c_10, if_neg c_20_0, if_pos c_20_1]; exact (va_up_self M mb (.inr (12, modF ad mb (upd mv 2 0))))), (fun q n0 => (va_up_ne _ _ n0))⟩ dX13_thing_81
    by_cases c_20_2 : y = 2
    · refine lv_tableIn (off := 62) (tgt := 82) hx hb dX13_thing_20 (by rw [c_20_2]; decide) (by rw [c_20_2]; decide) (by rw [c_20_2]; decide) (by decide) ?_
      refine lv_aload_n hx hb dX13_thing_82 rfl (lv_at hl 0 rfl) ?_
      refine q_get (v := .ref (ad (mb + 14))) (fs := modF ad mb (upd mv 2 0)) X hK hP fX13_thing_72 h_mb (va_up_self M mb (.inr (12, modF ad mb (upd mv 2 0)))) rfl dX13_thing_83 ?_
      refine lv_iload_n hx hb dX13_thing_86 rfl (lv_at hl 1 rfl) ?_
      refine q_iald (f := unsureF) (k := 24) X hK hP h_mb_14 ((va_up_ne M (.inr (12, modF ad mb (upd mv 2 0))) (show mb + 14 ≠ mb by omega)).trans m_mb_14) (by assumption) dX13_thing_87 ?_
      exact q_wzret X hr hlocks hP hS (rfl) ⟨(by rw [s_X13_thing, if_neg c_10, if_neg c_20_0, if_neg c_20_1, if_pos c_20_2]), (by rw [s_X13_thing_0_1, if_neg c_10, if_neg c_20_0, if_neg c_20_1, if_pos c_20_2]; exact (va_up_self M mb (.inr (12, modF ad mb (upd mv 2 0))))), (fun q n0 => (va_up_ne _ _ n0))⟩ dX13_thing_88
    by_cases c_20_3 : y = 3
    · refine lv_tableIn (off := 69) (tgt := 89) hx hb dX13_thing_20 (by rw [c_20_3]; decide) (by rw [c_20_3]; decide) (by rw [c_20_3]; decide) (by decide) ?_
      refine lv_aload_n hx hb dX13_thing_89 rfl (lv_at hl 0 rfl) ?_
      refine q_get (v := .ref (ad (mb + 15))) (fs := modF ad mb (upd mv 2 0)) X hK hP fX13_thing_75 h_mb (va_up_self M mb (.inr (12, modF ad mb (upd mv 2 0)))) rfl dX13_thing_90 ?_
      refine lv_iload_n hx hb dX13_thing_93 rfl (lv_at hl 1 rfl) ?_
      refine q_iald (f := wideF) (k := 24) X hK hP h_mb_15 ((va_up_ne M (.inr (12, modF ad mb (upd mv 2 0))) (show mb + 15 ≠ mb by omega)).trans m_mb_15) (by assumption) dX13_thing_94 ?_
      exact q_wzret X hr hlocks hP hS (rfl) ⟨(by rw [s_X13_thing, if_neg c_10, if_neg c_20_0, if_neg c_20_1, if_neg c_20_2, if_pos c_20_3]), (by rw [s_X13_thing_0_1, if_neg c_10, if_neg c_20_0, if_neg c_20_1, if_neg c_20_2, if_pos c_20_3]; exact (va_up_self M mb (.inr (12, modF ad mb (upd mv 2 0))))), (fun q n0 => (va_up_ne _ _ n0))⟩ dX13_thing_95
    by_cases c_20_4 : y = 4
    · refine lv_tableIn (off := 76) (tgt := 96) hx hb dX13_thing_20 (by rw [c_20_4]; decide) (by rw [c_20_4]; decide) (by rw [c_20_4]; decide) (by decide) ?_
      refine lv_aload_n hx hb dX13_thing_96 rfl (lv_at hl 0 rfl) ?_
      refine q_get (v := .ref (ad (mb + 16))) (fs := modF ad mb (upd mv 2 0)) X hK hP fX13_thing_78 h_mb (va_up_self M mb (.inr (12, modF ad mb (upd mv 2 0)))) rfl dX13_thing_97 ?_
      refine lv_iload_n hx hb dX13_thing_100 rfl (lv_at hl 1 rfl) ?_
      refine q_iald (f := valueF) (k := 24) X hK hP h_mb_16 ((va_up_ne M (.inr (12, modF ad mb (upd mv 2 0))) (show mb + 16 ≠ mb by omega)).trans m_mb_16) (by assumption) dX13_thing_101 ?_
      exact q_wzret X hr hlocks hP hS (rfl) ⟨(by rw [s_X13_thing, if_neg c_10, if_neg c_20_0, if_neg c_20_1, if_neg c_20_2, if_neg c_20_3, if_pos c_20_4]), (by rw [s_X13_thing_0_1, if_neg c_10, if_neg c_20_0, if_neg c_20_1, if_neg c_20_2, if_neg c_20_3, if_pos c_20_4]; exact (va_up_self M mb (.inr (12, modF ad mb (upd mv 2 0))))), (fun q n0 => (va_up_ne _ _ n0))⟩ dX13_thing_102
    by_cases c_20_5 : y = 5
    · refine lv_tableIn (off := 83) (tgt := 103) hx hb dX13_thing_20 (by rw [c_20_5]; decide) (by rw [c_20_5]; decide) (by rw [c_20_5]; decide) (by decide) ?_
      refine lv_aload_n hx hb dX13_thing_103 rfl (lv_at hl 0 rfl) ?_
      refine q_get (v := .ref (ad (mb + 18))) (fs := modF ad mb (upd mv 2 0)) X hK hP fX13_thing_84 h_mb (va_up_self M mb (.inr (12, modF ad mb (upd mv 2 0)))) rfl dX13_thing_104 ?_
      refine lv_iload_n hx hb dX13_thing_107 rfl (lv_at hl 1 rfl) ?_
      refine q_iald (f := placeF) (k := 24) X hK hP h_mb_18 ((va_up_ne M (.inr (12, modF ad mb (upd mv 2 0))) (show mb + 18 ≠ mb by omega)).trans m_mb_18) (by assumption) dX13_thing_108 ?_
      exact q_wzret X hr hlocks hP hS (rfl) ⟨(by rw [s_X13_thing, if_neg c_10, if_neg c_20_0, if_neg c_20_1, if_neg c_20_2, if_neg c_20_3, if_neg c_20_4, if_pos c_20_5]), (by rw [s_X13_thing_0_1, if_neg c_10, if_neg c_20_0, if_neg c_20_1, if_neg c_20_2, if_neg c_20_3, if_neg c_20_4, if_pos c_20_5]; exact (va_up_self M mb (.inr (12, modF ad mb (upd mv 2 0))))), (fun q n0 => (va_up_ne _ _ n0))⟩ dX13_thing_109
    by_cases c_20_6 : y = 6
    · refine lv_tableIn (off := 90) (tgt := 110) hx hb dX13_thing_20 (by rw [c_20_6]; decide) (by rw [c_20_6]; decide) (by rw [c_20_6]; decide) (by decide) ?_
      refine lv_aload_n hx hb dX13_thing_110 rfl (lv_at hl 0 rfl) ?_
      refine q_get (v := .ref (ad (mb + 17))) (fs := modF ad mb (upd mv 2 0)) X hK hP fX13_thing_81 h_mb (va_up_self M mb (.inr (12, modF ad mb (upd mv 2 0)))) rfl dX13_thing_111 ?_
      refine lv_iload_n hx hb dX13_thing_114 rfl (lv_at hl 1 rfl) ?_
      refine q_iald (f := hotF) (k := 24) X hK hP h_mb_17 ((va_up_ne M (.inr (12, modF ad mb (upd mv 2 0))) (show mb + 17 ≠ mb by omega)).trans m_mb_17) (by assumption) dX13_thing_115 ?_
      exact q_wzret X hr hlocks hP hS (rfl) ⟨(by rw [s_X13_thing, if_neg c_10, if_neg c_20_0, if_neg c_20_1, if_neg c_20_2, if_neg c_20_3, if_neg c_20_4, if_neg c_20_5, if_pos c_20_6]), (by rw [s_X13_thing_0_1, if_neg c_10, if_neg c_20_0, if_neg c_20_1, if_neg c_20_2, if_neg c_20_3, if_neg c_20_4, if_neg c_20_5, if_pos c_20_6]; exact (va_up_self M mb (.inr (12, modF ad mb (upd mv 2 0))))), (fun q n0 => (va_up_ne _ _ n0))⟩ dX13_thing_116
    by_cases c_20_7 : y = 7
    · refine lv_tableIn (off := 97) (tgt := 117) hx hb dX13_thing_20 (by rw [c_20_7]; decide) (by rw [c_20_7]; decide) (by rw [c_20_7]; decide) (by decide) ?_
      refine lv_aload_n hx hb dX13_thing_117 rfl (lv_at hl 0 rfl) ?_
      refine lv_iload_n hx hb dX13_thing_118 rfl (lv_at hl 1 rfl) ?_
      refine q_rdV (As := [.int x]) (rest := []) (c_X13_priceOf l D cB cI cJ ad n (va_up M mb (.inr (12, modF ad mb (upd mv 2 0)))) mb nt nc np nq (upd mv 2 0) toldF heavyF postToF priceF x h_mb h_mb_3 h_mb_13 h_mb_19 h_mb_20 (va_up_self M mb (.inr (12, modF ad mb (upd mv 2 0)))) ((va_up_ne M (.inr (12, modF ad mb (upd mv 2 0))) (show mb + 3 ≠ mb by omega)).trans m_mb_3) ((va_up_ne M (.inr (12, modF ad mb (upd mv 2 0))) (show mb + 13 ≠ mb by omega)).trans m_mb_13) ((va_up_ne M (.inr (12, modF ad mb (upd mv 2 0))) (show mb + 19 ≠ mb by omega)).trans m_mb_19) ((va_up_ne M (.inr (12, modF ad mb (upd mv 2 0))) (show mb + 20 ≠ mb by omega)).trans m_mb_20) k0 hnp k1 hnc k2 hnt k3 hnq (by first | assumption | omega | exact vp_in_nI (by omega) (by decide) | exact vp_in_iff.mpr (by decide))) X hK hP hS hl.1 rfl gX13_thing_X13_priceOf yd_X13_priceOf ⟨Nat.le_of_ble_eq_true rfl, Nat.le_of_ble_eq_true rfl⟩ h_mb (va_up_self M mb (.inr (12, modF ad mb (upd mv 2 0)))) (ci := 12) rfl rfl (Nat.le_of_ble_eq_true rfl) ⟨Nat.zero_le _, Nat.zero_le _⟩ dX13_thing_119 ?_
      exact q_wzret X hr hlocks hP hS (rfl) ⟨(by rw [s_X13_thing, if_neg c_10, if_neg c_20_0, if_neg c_20_1, if_neg c_20_2, if_neg c_20_3, if_neg c_20_4, if_neg c_20_5, if_neg c_20_6, if_pos c_20_7]), (by rw [s_X13_thing_0_1, if_neg c_10, if_neg c_20_0, if_neg c_20_1, if_neg c_20_2, if_neg c_20_3, if_neg c_20_4, if_neg c_20_5, if_neg c_20_6, if_pos c_20_7]; exact (va_up_self M mb (.inr (12, modF ad mb (upd mv 2 0))))), (fun q n0 => (va_up_ne _ _ n0))⟩ dX13_thing_122
    have n_0 := lv_neT (a := 0) c_20_0 (by decide); have n_1 := lv_neT (a := 1) c_20_1 (by decide); have n_2 := lv_neT (a := 2) c_20_2 (by decide); have n_3 := lv_neT (a := 3) c_20_3 (by decide); have n_4 := lv_neT (a := 4) c_20_4 (by decide); have n_5 := lv_neT (a := 5) c_20_5 (by decide); have n_6 := lv_neT (a := 6) c_20_6 (by decide); have n_7 := lv_neT (a := 7) c_20_7 (by decide)
    refine lv_tableOut (tgt := 123) hx hb dX13_thing_20 (by omega) (by decide) ?_
    refine lv_aload_n hx hb dX13_thing_123 rfl (lv_at hl 0 rfl) ?_
    refine lv_iconst (v := 1) hx hb dX13_thing_124 (by decide) ?_
    refine q_wrVi (As := [.int 1]) (rest := []) (c_X13_fail l D cB cI cJ ad n (va_up M mb (.inr (12, modF ad mb (upd mv 2 0)))) hI mb (upd mv 2 0) 1 h_mb (va_up_self M mb (.inr (12, modF ad mb (upd mv 2 0)))) ) X hK hP hS hl.1 rfl gX13_thing_X13_fail yd_X13_fail ⟨Nat.le_of_ble_eq_true rfl, Nat.le_of_ble_eq_true rfl⟩ h_mb (va_up_self M mb (.inr (12, modF ad mb (upd mv 2 0)))) (ci := 12) rfl rfl (Nat.le_of_ble_eq_true rfl) ⟨Nat.zero_le _, Nat.zero_le _⟩ dX13_thing_125 (fun r5 M4 H locs hp3 hP hS => ?_)
    obtain ⟨rfl, g6, fr7⟩ := hp3
    exact q_wzret X hr hlocks hP hS (rfl) ⟨(by rw [s_X13_thing, if_neg c_10, if_neg c_20_0, if_neg c_20_1, if_neg c_20_2, if_neg c_20_3, if_neg c_20_4, if_neg c_20_5, if_neg c_20_6, if_neg c_20_7]), (by rw [s_X13_thing_0_1, if_neg c_10, if_neg c_20_0, if_neg c_20_1, if_neg c_20_2, if_neg c_20_3, if_neg c_20_4, if_neg c_20_5, if_neg c_20_6, if_neg c_20_7]; exact g6), (fun q n0 => ((fr7 q n0).trans (va_up_ne _ _ n0)))⟩ dX13_thing_128
  · skip
    refine lv_aload_n hx hb dX13_thing_13 rfl (lv_at hl 0 rfl) ?_
    refine lv_iconst (v := 1) hx hb dX13_thing_14 (by decide) ?_
    refine q_wrVi (As := [.int 1]) (rest := []) (c_X13_fail l D cB cI cJ ad n (va_up M mb (.inr (12, modF ad mb (upd mv 2 0)))) hI mb (upd mv 2 0) 1 h_mb (va_up_self M mb (.inr (12, modF ad mb (upd mv 2 0)))) ) X hK hP hS hl.1 rfl gX13_thing_X13_fail yd_X13_fail ⟨Nat.le_of_ble_eq_true rfl, Nat.le_of_ble_eq_true rfl⟩ h_mb (va_up_self M mb (.inr (12, modF ad mb (upd mv 2 0)))) (ci := 12) rfl rfl (Nat.le_of_ble_eq_true rfl) ⟨Nat.zero_le _, Nat.zero_le _⟩ dX13_thing_15 (fun r10 M9 H locs hp8 hP hS => ?_)
    obtain ⟨rfl, g11, fr12⟩ := hp8
    exact q_wzret X hr hlocks hP hS (rfl) ⟨(by rw [s_X13_thing, if_pos c_10]), (by rw [s_X13_thing_0_1, if_pos c_10]; exact g11), (fun q n0 => ((fr12 q n0).trans (va_up_ne _ _ n0)))⟩ dX13_thing_18
set_option maxRecDepth 20000 in
theorem fX13_lostBy_40 : FL wsX13_lostBy RX13 40 12 3 := ⟨RX13, TX13, 67, rfl, by decide +kernel, by decide, by decide +kernel⟩
def s_X13_lostBy_4s (nt : Nat) (toldF : Nat → Int32) (ownerF : Nat → Int32) (kindF : Nat → Int32) (placeF : Nat → Int32) (x : Int32) (t4 : Nat) (x4_2 : Int32) : Int32 := if (s_X13_hasShirt nt toldF ownerF kindF placeF (nI t4) (-1)) = 0 then (x4_2 ||| 0) else if (s_X13_hasShirt nt toldF ownerF kindF placeF (nI t4) x) = 0 then (x4_2 ||| (1 <<< ((nI t4) &&& 31))) else (x4_2 ||| 0)
def s_X13_lostBy_4 (nt : Nat) (toldF : Nat → Int32) (ownerF : Nat → Int32) (kindF : Nat → Int32) (placeF : Nat → Int32) (x : Int32) (z0 : Int32) : Nat → Int32
  | 0 => z0
  | t + 1 => s_X13_lostBy_4s nt toldF ownerF kindF placeF x t (s_X13_lostBy_4 nt toldF ownerF kindF placeF x z0 t)
def s_X13_lostBy (nt : Nat) (np : Nat) (toldF : Nat → Int32) (ownerF : Nat → Int32) (kindF : Nat → Int32) (placeF : Nat → Int32) (x : Int32) : Int32 := (s_X13_lostBy_4 nt toldF ownerF kindF placeF x 0 np)
set_option maxHeartbeats 4000000 in
set_option maxRecDepth 100000 in
theorem c_X13_lostBy (l : Launch) (D : va_G) (cB cI cJ : ClassId) (ad : Nat → Nat) (n : Nat) (M : Nat → va_E) (mb : Nat) (nt : Nat) (nc : Nat) (np : Nat) (nq : Nat) (mv : Nat → Int32) (toldF : Nat → Int32) (ownerF : Nat → Int32) (kindF : Nat → Int32) (placeF : Nat → Int32) (x : Int32) (h_mb : mb < n) (h_mb_3 : mb + 3 < n) (h_mb_7 : mb + 7 < n) (h_mb_12 : mb + 12 < n) (h_mb_18 : mb + 18 < n) (m_mb : M mb = .inr (12, modF ad mb mv)) (m_mb_3 : M (mb + 3) = .inl (cI, 14, .inl toldF)) (m_mb_7 : M (mb + 7) = .inl (cI, 10, .inl ownerF)) (m_mb_12 : M (mb + 12) = .inl (cI, 24, .inl kindF)) (m_mb_18 : M (mb + 18) = .inl (cI, 24, .inl placeF)) (k0 : toldF 0 = nI np) (hnp : np ≤ 4) (k1 : toldF 1 = nI nc) (hnc : nc ≤ 5) (k2 : toldF 2 = nI nt) (hnt : nt ≤ 12) (k3 : toldF 3 = nI nq) (hnq : nq ≤ 6) : cR l D cB cI cJ ad n M yX13_lostBy wsX13_lostBy 3 69 [.ref (ad mb), .int x] (s_X13_lostBy nt np toldF ownerF kindF placeF x) := by
  refine q_body (cc := cX13_lostBy) (maxL := 4) (ret := (some .int)) (by decide) rfl (Nat.le_of_ble_eq_true rfl) ?_
  intro p e s m args below meth c ls X hr hlocks hK hP hl
  obtain ⟨hx, hb, hml, hown, hts⟩ := id X
  have hS : va_S (ipA ad n) s.heap s.heap [] := va_S.rf
  have hl : lv_has ls 4 [(0, .ref (ad mb)), (1, .int x)] := hl
  refine lv_iconst (v := 0) hx hb dX13_lostBy_0 (by decide) ?_
  refine lv_istore_n (lv' := [(2, .int 0), (0, .ref (ad mb)), (1, .int x)]) hx hb dX13_lostBy_1 rfl hl (by decide) rfl (fun ls hl => ?_)
  refine lv_iconst (v := 0) hx hb dX13_lostBy_2 (by decide) ?_
  refine lv_istore_n (lv' := [(3, .int 0), (2, .int 0), (0, .ref (ad mb)), (1, .int x)]) hx hb dX13_lostBy_3 rfl hl (by decide) rfl (fun ls hl => ?_)
  have loop_4 : ∀ (fuel : Nat) (t4 : Nat) (x4_2 : Int32), np - (t4) < fuel → t4 ≤ np → x4_2 = (s_X13_lostBy_4 nt toldF ownerF kindF placeF x 0 t4) → ∀ (ls : Array Slot), lv_has ls 4 [(3, .int (nI t4)), (2, .int x4_2), (0, .ref (ad mb)), (1, .int x)] → W p l e (rmOf 3 69) s m args below meth c s.heap [] 0 0 (MQ below (vp_Si (fun r9 => r9 = s_X13_lostBy nt np toldF ownerF kindF placeF x)) args s 0 0 (fun _ => False)) (F0 m 4 ls []) := by
    intro fuel
    induction fuel with
    | zero =>
      intro t4 x4_2 hz
      exact absurd hz (Nat.not_lt_zero _)
    | succ fuel ih_4 =>
      intro t4 x4_2 hz_4 h_t4 e_x4_2 ls hl
      skip
      refine lv_iload_n hx hb dX13_lostBy_4 rfl (lv_at hl 0 rfl) ?_
      refine lv_aload_n hx hb dX13_lostBy_5 rfl (lv_at hl 2 rfl) ?_
      refine q_get (v := .ref (ad (mb + 3))) (fs := modF ad mb mv) X hK hP fX13_lostBy_40 h_mb m_mb rfl dX13_lostBy_6 ?_
      refine lv_iconst (v := 0) hx hb dX13_lostBy_9 (by decide) ?_
      refine q_ialdN (f := toldF) (k := 14) X hK hP 0 h_mb_3 m_mb_3 (by decide) (by decide) dX13_lostBy_10 ?_
      refine lv_icmp_ge (tgt := 48) hx hb dX13_lostBy_11 (by decide) (fun c_11 => ?_) (fun c_11 => ?_)
      · rw [k0] at c_11
        have h9_4 : t4 = np := eq_of_le (t := t4) (k := np) c_11 (by omega) h_t4
        subst t4
        subst e_x4_2
        refine lv_iload_n hx hb dX13_lostBy_48 rfl (lv_at hl 1 rfl) ?_
        exact q_iret hb hx hr hlocks (by rfl) dX13_lostBy_49
      · rw [k0] at c_11
        have h9_4 : t4 < np := lt_of_nlt (t := t4) (k := np) c_11 (by omega) h_t4
        refine lv_iload_n hx hb dX13_lostBy_14 rfl (lv_at hl 1 rfl) ?_
        refine lv_aload_n hx hb dX13_lostBy_15 rfl (lv_at hl 2 rfl) ?_
        refine lv_iload_n hx hb dX13_lostBy_16 rfl (lv_at hl 0 rfl) ?_
        refine lv_iconst (v := (-1)) hx hb dX13_lostBy_17 (by decide) ?_
        refine q_rdV (As := [.int (nI t4), .int (-1)]) (rest := [.int x4_2]) (c_X13_hasShirt l D cB cI cJ ad n M mb nt nc np nq mv toldF ownerF kindF placeF (nI t4) (-1) h_mb h_mb_3 h_mb_7 h_mb_12 h_mb_18 m_mb m_mb_3 m_mb_7 m_mb_12 m_mb_18 k0 hnp k1 hnc k2 hnt k3 hnq) X hK hP hS hl.1 rfl gX13_lostBy_X13_hasShirt yd_X13_hasShirt ⟨Nat.le_of_ble_eq_true rfl, Nat.le_of_ble_eq_true rfl⟩ h_mb m_mb (ci := 12) rfl rfl (Nat.le_of_ble_eq_true rfl) ⟨Nat.zero_le _, Nat.zero_le _⟩ dX13_lostBy_18 ?_
        refine lv_if_eq (tgt := 39) hx hb dX13_lostBy_21 (by decide) (fun c_21 => ?_) (fun c_21 => ?_)
        · skip
          refine lv_iconst (v := 0) hx hb dX13_lostBy_39 (by decide) ?_
          refine lv_ior hx hb dX13_lostBy_40 ?_
          refine lv_istore_n (lv' := [(2, .int (x4_2 ||| 0)), (3, .int (nI t4)), (0, .ref (ad mb)), (1, .int x)]) hx hb dX13_lostBy_41 rfl hl (by decide) rfl (fun ls hl => ?_)
          refine lv_iinc (v := ((nI t4) + 1)) (lv' := [(3, .int ((nI t4) + 1)), (2, .int (x4_2 ||| 0)), (0, .ref (ad mb)), (1, .int x)]) hx hb dX13_lostBy_42 hl (k := 1) rfl rfl (by decide) rfl (fun ls hl => ?_)
          refine lv_goto (tgt := 4) hx hb dX13_lostBy_45 (by decide) ?_
          exact ih_4 (t4 + 1) (x4_2 ||| 0) (by omega) (by omega) (by rw [s_X13_lostBy_4, ← e_x4_2, s_X13_lostBy_4s, if_pos c_21]) ls (by rw [(show nI (t4 + 1) = nI t4 + 1 by exact nI_succ _)]; exact lv_sub hl [0, 1, 2, 3] rfl)
        · skip
          refine lv_aload_n hx hb dX13_lostBy_24 rfl (lv_at hl 2 rfl) ?_
          refine lv_iload_n hx hb dX13_lostBy_25 rfl (lv_at hl 0 rfl) ?_
          refine lv_iload_n hx hb dX13_lostBy_26 rfl (lv_at hl 3 rfl) ?_
          refine q_rdV (As := [.int (nI t4), .int x]) (rest := [.int x4_2]) (c_X13_hasShirt l D cB cI cJ ad n M mb nt nc np nq mv toldF ownerF kindF placeF (nI t4) x h_mb h_mb_3 h_mb_7 h_mb_12 h_mb_18 m_mb m_mb_3 m_mb_7 m_mb_12 m_mb_18 k0 hnp k1 hnc k2 hnt k3 hnq) X hK hP hS hl.1 rfl gX13_lostBy_X13_hasShirt yd_X13_hasShirt ⟨Nat.le_of_ble_eq_true rfl, Nat.le_of_ble_eq_true rfl⟩ h_mb m_mb (ci := 12) rfl rfl (Nat.le_of_ble_eq_true rfl) ⟨Nat.zero_le _, Nat.zero_le _⟩ dX13_lostBy_27 ?_
          refine lv_if_ne (tgt := 39) hx hb dX13_lostBy_30 (by decide) (fun c_30 => ?_) (fun c_30 => ?_)
          · skip
            refine lv_iconst (v := 0) hx hb dX13_lostBy_39 (by decide) ?_
            refine lv_ior hx hb dX13_lostBy_40 ?_
            refine lv_istore_n (lv' := [(2, .int (x4_2 ||| 0)), (3, .int (nI t4)), (0, .ref (ad mb)), (1, .int x)]) hx hb dX13_lostBy_41 rfl hl (by decide) rfl (fun ls hl => ?_)
            refine lv_iinc (v := ((nI t4) + 1)) (lv' := [(3, .int ((nI t4) + 1)), (2, .int (x4_2 ||| 0)), (0, .ref (ad mb)), (1, .int x)]) hx hb dX13_lostBy_42 hl (k := 1) rfl rfl (by decide) rfl (fun ls hl => ?_)
            refine lv_goto (tgt := 4) hx hb dX13_lostBy_45 (by decide) ?_
            exact ih_4 (t4 + 1) (x4_2 ||| 0) (by omega) (by omega) (by rw [s_X13_lostBy_4, ← e_x4_2, s_X13_lostBy_4s, if_neg c_21, if_neg c_30]) ls (by rw [(show nI (t4 + 1) = nI t4 + 1 by exact nI_succ _)]; exact lv_sub hl [0, 1, 2, 3] rfl)
          · skip
            refine lv_iconst (v := 1) hx hb dX13_lostBy_33 (by decide) ?_
            refine lv_iload_n hx hb dX13_lostBy_34 rfl (lv_at hl 0 rfl) ?_
            refine lv_ishl hx hb dX13_lostBy_35 ?_
            refine lv_goto (tgt := 40) hx hb dX13_lostBy_36 (by decide) ?_
            refine lv_ior hx hb dX13_lostBy_40 ?_
            refine lv_istore_n (lv' := [(2, .int (x4_2 ||| (1 <<< ((nI t4) &&& 31)))), (3, .int (nI t4)), (0, .ref (ad mb)), (1, .int x)]) hx hb dX13_lostBy_41 rfl hl (by decide) rfl (fun ls hl => ?_)
            refine lv_iinc (v := ((nI t4) + 1)) (lv' := [(3, .int ((nI t4) + 1)), (2, .int (x4_2 ||| (1 <<< ((nI t4) &&& 31)))), (0, .ref (ad mb)), (1, .int x)]) hx hb dX13_lostBy_42 hl (k := 1) rfl rfl (by decide) rfl (fun ls hl => ?_)
            refine lv_goto (tgt := 4) hx hb dX13_lostBy_45 (by decide) ?_
            exact ih_4 (t4 + 1) (x4_2 ||| (1 <<< ((nI t4) &&& 31))) (by omega) (by omega) (by rw [s_X13_lostBy_4, ← e_x4_2, s_X13_lostBy_4s, if_neg c_21, if_pos c_30]) ls (by rw [(show nI (t4 + 1) = nI t4 + 1 by exact nI_succ _)]; exact lv_sub hl [0, 1, 2, 3] rfl)
  exact loop_4 (np + 1) 0 0 (by omega) (by omega) (by rfl) ls (lv_sub hl [0, 1, 2, 3] rfl)
set_option maxRecDepth 20000 in
theorem fX13_lost_173 : FL wsX13_lost RX13 173 12 2 := ⟨RX13, TX13, 67, rfl, by decide +kernel, by decide, by decide +kernel⟩
theorem yd_X13_lostBy : YD yX13_lostBy 1 := ⟨by decide +kernel, by decide +kernel, by decide +kernel⟩
def s_X13_lost (nt : Nat) (np : Nat) (toldF : Nat → Int32) (ownerF : Nat → Int32) (kindF : Nat → Int32) (placeF : Nat → Int32) (x : Int32) : Int32 := if (s_X13_isCase toldF x) = 0 then (s_X13_fail) else (s_X13_lostBy nt np toldF ownerF kindF placeF x)
def s_X13_lost_0_1 (mv : Nat → Int32) (toldF : Nat → Int32) (x : Int32) : Nat → Int32 := if (s_X13_isCase toldF x) = 0 then (upd (upd mv 2 0) 2 1) else (upd mv 2 0)
set_option maxHeartbeats 4000000 in
set_option maxRecDepth 100000 in
theorem c_X13_lost (l : Launch) (D : va_G) (cB cI cJ : ClassId) (ad : Nat → Nat) (n : Nat) (M : Nat → va_E) (hI : ipI ad n) (mb : Nat) (nt : Nat) (nc : Nat) (np : Nat) (nq : Nat) (mv : Nat → Int32) (toldF : Nat → Int32) (ownerF : Nat → Int32) (kindF : Nat → Int32) (placeF : Nat → Int32) (x : Int32) (h_mb : mb < n) (h_mb_3 : mb + 3 < n) (h_mb_7 : mb + 7 < n) (h_mb_12 : mb + 12 < n) (h_mb_18 : mb + 18 < n) (m_mb : M mb = .inr (12, modF ad mb mv)) (m_mb_3 : M (mb + 3) = .inl (cI, 14, .inl toldF)) (m_mb_7 : M (mb + 7) = .inl (cI, 10, .inl ownerF)) (m_mb_12 : M (mb + 12) = .inl (cI, 24, .inl kindF)) (m_mb_18 : M (mb + 18) = .inl (cI, 24, .inl placeF)) (k0 : toldF 0 = nI np) (hnp : np ≤ 4) (k1 : toldF 1 = nI nc) (hnc : nc ≤ 5) (k2 : toldF 2 = nI nt) (hnt : nt ≤ 12) (k3 : toldF 3 = nI nq) (hnq : nq ≤ 6) : cWi l D cB cI cJ ad n M yX13_lost wsX13_lost 4 92 [.ref (ad mb), .int x] (fun r M' => r = s_X13_lost nt np toldF ownerF kindF placeF x ∧ M' mb = .inr (12, modF ad mb (s_X13_lost_0_1 mv toldF x)) ∧ ∀ q : Nat, q ≠ mb → M' q = M q) := by
  refine q_body (cc := cX13_lost) (maxL := 2) (ret := (some .int)) (by decide) rfl (Nat.le_of_ble_eq_true rfl) ?_
  intro p e s m args below meth c ls X hr hlocks hK hP hl
  obtain ⟨hx, hb, hml, hown, hts⟩ := id X
  have hS : va_S (ipA ad n) s.heap s.heap [] := va_S.rf
  have hl : lv_has ls 2 [(0, .ref (ad mb)), (1, .int x)] := hl
  refine lv_aload_n hx hb dX13_lost_0 rfl (lv_at hl 0 rfl) ?_
  refine lv_iconst (v := 0) hx hb dX13_lost_1 (by decide) ?_
  refine q_put (fs := modF ad mb mv) (fs' := modF ad mb (upd mv 2 0)) X hK hI hP hS fX13_lost_173 fw_12_2 h_mb m_mb rfl rfl (Nat.le_of_ble_eq_true rfl) rfl dX13_lost_2 (fun H locs hP hS => ?_)
  refine lv_aload_n hx hb dX13_lost_5 rfl (lv_at hl 0 rfl) ?_
  refine lv_iload_n hx hb dX13_lost_6 rfl (lv_at hl 1 rfl) ?_
  refine q_rdV (As := [.int x]) (rest := []) (c_X13_isCase l D cB cI cJ ad n (va_up M mb (.inr (12, modF ad mb (upd mv 2 0)))) mb nt nc np nq (upd mv 2 0) toldF x h_mb h_mb_3 (va_up_self M mb (.inr (12, modF ad mb (upd mv 2 0)))) ((va_up_ne M (.inr (12, modF ad mb (upd mv 2 0))) (show mb + 3 ≠ mb by omega)).trans m_mb_3) k0 hnp k1 hnc k2 hnt k3 hnq) X hK hP hS hl.1 rfl gX13_lost_X13_isCase yd_X13_isCase ⟨Nat.le_of_ble_eq_true rfl, Nat.le_of_ble_eq_true rfl⟩ h_mb (va_up_self M mb (.inr (12, modF ad mb (upd mv 2 0)))) (ci := 12) rfl rfl (Nat.le_of_ble_eq_true rfl) ⟨Nat.zero_le _, Nat.zero_le _⟩ dX13_lost_7 ?_
  refine lv_if_eq (tgt := 21) hx hb dX13_lost_10 (by decide) (fun c_10 => ?_) (fun c_10 => ?_)
  · skip
    refine lv_aload_n hx hb dX13_lost_21 rfl (lv_at hl 0 rfl) ?_
    refine lv_iconst (v := 1) hx hb dX13_lost_22 (by decide) ?_
    refine q_wrVi (As := [.int 1]) (rest := []) (c_X13_fail l D cB cI cJ ad n (va_up M mb (.inr (12, modF ad mb (upd mv 2 0)))) hI mb (upd mv 2 0) 1 h_mb (va_up_self M mb (.inr (12, modF ad mb (upd mv 2 0)))) ) X hK hP hS hl.1 rfl gX13_lost_X13_fail yd_X13_fail ⟨Nat.le_of_ble_eq_true rfl, Nat.le_of_ble_eq_true rfl⟩ h_mb (va_up_self M mb (.inr (12, modF ad mb (upd mv 2 0)))) (ci := 12) rfl rfl (Nat.le_of_ble_eq_true rfl) ⟨Nat.zero_le _, Nat.zero_le _⟩ dX13_lost_23 (fun r5 M4 H locs hp3 hP hS => ?_)
    obtain ⟨rfl, g6, fr7⟩ := hp3
    exact q_wzret X hr hlocks hP hS (rfl) ⟨(by rw [s_X13_lost, if_pos c_10]), (by rw [s_X13_lost_0_1, if_pos c_10]; exact g6), (fun q n0 => ((fr7 q n0).trans (va_up_ne _ _ n0)))⟩ dX13_lost_26
  · skip
    have hv_10 := isCase_vp k1 hnc c_10
    refine lv_aload_n hx hb dX13_lost_13 rfl (lv_at hl 0 rfl) ?_
    refine lv_iload_n hx hb dX13_lost_14 rfl (lv_at hl 1 rfl) ?_
    refine q_rdV (As := [.int x]) (rest := []) (c_X13_lostBy l D cB cI cJ ad n (va_up M mb (.inr (12, modF ad mb (upd mv 2 0)))) mb nt nc np nq (upd mv 2 0) toldF ownerF kindF placeF x h_mb h_mb_3 h_mb_7 h_mb_12 h_mb_18 (va_up_self M mb (.inr (12, modF ad mb (upd mv 2 0)))) ((va_up_ne M (.inr (12, modF ad mb (upd mv 2 0))) (show mb + 3 ≠ mb by omega)).trans m_mb_3) ((va_up_ne M (.inr (12, modF ad mb (upd mv 2 0))) (show mb + 7 ≠ mb by omega)).trans m_mb_7) ((va_up_ne M (.inr (12, modF ad mb (upd mv 2 0))) (show mb + 12 ≠ mb by omega)).trans m_mb_12) ((va_up_ne M (.inr (12, modF ad mb (upd mv 2 0))) (show mb + 18 ≠ mb by omega)).trans m_mb_18) k0 hnp k1 hnc k2 hnt k3 hnq) X hK hP hS hl.1 rfl gX13_lost_X13_lostBy yd_X13_lostBy ⟨Nat.le_of_ble_eq_true rfl, Nat.le_of_ble_eq_true rfl⟩ h_mb (va_up_self M mb (.inr (12, modF ad mb (upd mv 2 0)))) (ci := 12) rfl rfl (Nat.le_of_ble_eq_true rfl) ⟨Nat.zero_le _, Nat.zero_le _⟩ dX13_lost_15 ?_
    refine lv_goto (tgt := 26) hx hb dX13_lost_18 (by decide) ?_
    exact q_wzret X hr hlocks hP hS (rfl) ⟨(by rw [s_X13_lost, if_neg c_10]), (by rw [s_X13_lost_0_1, if_neg c_10]; exact (va_up_self M mb (.inr (12, modF ad mb (upd mv 2 0))))), (fun q n0 => (va_up_ne _ _ n0))⟩ dX13_lost_26
set_option maxRecDepth 20000 in
theorem fX13_safe_173 : FL wsX13_safe RX13 173 12 2 := ⟨RX13, TX13, 67, rfl, by decide +kernel, by decide, by decide +kernel⟩
set_option maxRecDepth 20000 in
theorem fX13_safe_40 : FL wsX13_safe RX13 40 12 3 := ⟨RX13, TX13, 67, rfl, by decide +kernel, by decide, by decide +kernel⟩
def s_X13_safe_9s (nt : Nat) (np : Nat) (toldF : Nat → Int32) (ownerF : Nat → Int32) (kindF : Nat → Int32) (placeF : Nat → Int32) (t9 : Nat) (x9_1 : Int32) : Int32 := if (s_X13_lostBy nt np toldF ownerF kindF placeF (nI t9)) = 0 then (x9_1 ||| (1 <<< ((nI t9) &&& 31))) else (x9_1 ||| 0)
def s_X13_safe_9 (nt : Nat) (np : Nat) (toldF : Nat → Int32) (ownerF : Nat → Int32) (kindF : Nat → Int32) (placeF : Nat → Int32) (z0 : Int32) : Nat → Int32
  | 0 => z0
  | t + 1 => s_X13_safe_9s nt np toldF ownerF kindF placeF t (s_X13_safe_9 nt np toldF ownerF kindF placeF z0 t)
def s_X13_safe (nt : Nat) (nc : Nat) (np : Nat) (toldF : Nat → Int32) (ownerF : Nat → Int32) (kindF : Nat → Int32) (placeF : Nat → Int32) : Int32 := (s_X13_safe_9 nt np toldF ownerF kindF placeF 0 nc)
set_option maxHeartbeats 4000000 in
set_option maxRecDepth 100000 in
theorem c_X13_safe (l : Launch) (D : va_G) (cB cI cJ : ClassId) (ad : Nat → Nat) (n : Nat) (M : Nat → va_E) (hI : ipI ad n) (mb : Nat) (nt : Nat) (nc : Nat) (np : Nat) (nq : Nat) (mv : Nat → Int32) (toldF : Nat → Int32) (ownerF : Nat → Int32) (kindF : Nat → Int32) (placeF : Nat → Int32) (h_mb : mb < n) (h_mb_3 : mb + 3 < n) (h_mb_7 : mb + 7 < n) (h_mb_12 : mb + 12 < n) (h_mb_18 : mb + 18 < n) (m_mb : M mb = .inr (12, modF ad mb mv)) (m_mb_3 : M (mb + 3) = .inl (cI, 14, .inl toldF)) (m_mb_7 : M (mb + 7) = .inl (cI, 10, .inl ownerF)) (m_mb_12 : M (mb + 12) = .inl (cI, 24, .inl kindF)) (m_mb_18 : M (mb + 18) = .inl (cI, 24, .inl placeF)) (k0 : toldF 0 = nI np) (hnp : np ≤ 4) (k1 : toldF 1 = nI nc) (hnc : nc ≤ 5) (k2 : toldF 2 = nI nt) (hnt : nt ≤ 12) (k3 : toldF 3 = nI nq) (hnq : nq ≤ 6) : cWi l D cB cI cJ ad n M yX13_safe wsX13_safe 4 92 [.ref (ad mb)] (fun r M' => r = s_X13_safe nt nc np toldF ownerF kindF placeF ∧ M' mb = .inr (12, modF ad mb (upd mv 2 0)) ∧ ∀ q : Nat, q ≠ mb → M' q = M q) := by
  refine q_body (cc := cX13_safe) (maxL := 3) (ret := (some .int)) (by decide) rfl (Nat.le_of_ble_eq_true rfl) ?_
  intro p e s m args below meth c ls X hr hlocks hK hP hl
  obtain ⟨hx, hb, hml, hown, hts⟩ := id X
  have hS : va_S (ipA ad n) s.heap s.heap [] := va_S.rf
  have hl : lv_has ls 3 [(0, .ref (ad mb))] := hl
  refine lv_aload_n hx hb dX13_safe_0 rfl (lv_at hl 0 rfl) ?_
  refine lv_iconst (v := 0) hx hb dX13_safe_1 (by decide) ?_
  refine q_put (fs := modF ad mb mv) (fs' := modF ad mb (upd mv 2 0)) X hK hI hP hS fX13_safe_173 fw_12_2 h_mb m_mb rfl rfl (Nat.le_of_ble_eq_true rfl) rfl dX13_safe_2 (fun H locs hP hS => ?_)
  refine lv_iconst (v := 0) hx hb dX13_safe_5 (by decide) ?_
  refine lv_istore_n (lv' := [(1, .int 0), (0, .ref (ad mb))]) hx hb dX13_safe_6 rfl hl (by decide) rfl (fun ls hl => ?_)
  refine lv_iconst (v := 0) hx hb dX13_safe_7 (by decide) ?_
  refine lv_istore_n (lv' := [(2, .int 0), (1, .int 0), (0, .ref (ad mb))]) hx hb dX13_safe_8 rfl hl (by decide) rfl (fun ls hl => ?_)
  have loop_9 : ∀ (fuel : Nat) (t9 : Nat) (x9_1 : Int32), nc - (t9) < fuel → t9 ≤ nc → x9_1 = (s_X13_safe_9 nt np toldF ownerF kindF placeF 0 t9) → ∀ (ML9 : Nat → va_E) (H : Heap) (locs : List Loc), (∀ q : Nat, ML9 q = va_up M mb (.inr (12, modF ad mb (upd mv 2 0))) q) → va_P D vwCl (ip ad n ML9) H → va_S (ipA ad n) s.heap H locs → ∀ (ls : Array Slot), lv_has ls 3 [(2, .int (nI t9)), (1, .int x9_1), (0, .ref (ad mb))] → W p l e (rmOf 4 92) s m args below meth c H locs 0 0 (MQ below (va_Qi (fun r M' => r = s_X13_safe nt nc np toldF ownerF kindF placeF ∧ M' mb = .inr (12, modF ad mb (upd mv 2 0)) ∧ ∀ q : Nat, q ≠ mb → M' q = M q) (fun M' t => va_P D vwCl (ip ad n M') t.heap) (ipA ad n)) args s 0 0 (ipA ad n)) (F0 m 9 ls []) := by
    intro fuel
    induction fuel with
    | zero =>
      intro t9 x9_1 hz
      exact absurd hz (Nat.not_lt_zero _)
    | succ fuel ih_9 =>
      intro t9 x9_1 hz_9 h_t9 e_x9_1 ML9 H locs fL9 hP hS ls hl
      skip
      refine lv_iload_n hx hb dX13_safe_9 rfl (lv_at hl 0 rfl) ?_
      refine lv_aload_n hx hb dX13_safe_10 rfl (lv_at hl 2 rfl) ?_
      refine q_get (v := .ref (ad (mb + 3))) (fs := modF ad mb (upd mv 2 0)) X hK hP fX13_safe_40 h_mb ((fL9 mb ).trans (va_up_self M mb (.inr (12, modF ad mb (upd mv 2 0))))) rfl dX13_safe_11 ?_
      refine lv_iconst (v := 1) hx hb dX13_safe_14 (by decide) ?_
      refine q_ialdN (f := toldF) (k := 14) X hK hP 1 h_mb_3 ((fL9 (mb + 3) ).trans ((va_up_ne M (.inr (12, modF ad mb (upd mv 2 0))) (show mb + 3 ≠ mb by omega)).trans m_mb_3)) (by decide) (by decide) dX13_safe_15 ?_
      refine lv_icmp_ge (tgt := 43) hx hb dX13_safe_16 (by decide) (fun c_16 => ?_) (fun c_16 => ?_)
      · rw [k1] at c_16
        have h9_9 : t9 = nc := eq_of_le (t := t9) (k := nc) c_16 (by omega) h_t9
        subst t9
        subst e_x9_1
        refine lv_iload_n hx hb dX13_safe_43 rfl (lv_at hl 1 rfl) ?_
        exact q_wzret X hr hlocks hP hS (rfl) ⟨(by rfl), ((fL9 mb ).trans (va_up_self M mb (.inr (12, modF ad mb (upd mv 2 0))))), (fun q n0 => ((fL9 q).trans (va_up_ne _ _ n0)))⟩ dX13_safe_44
      · rw [k1] at c_16
        have h9_9 : t9 < nc := lt_of_nlt (t := t9) (k := nc) c_16 (by omega) h_t9
        refine lv_iload_n hx hb dX13_safe_19 rfl (lv_at hl 1 rfl) ?_
        refine lv_aload_n hx hb dX13_safe_20 rfl (lv_at hl 2 rfl) ?_
        refine lv_iload_n hx hb dX13_safe_21 rfl (lv_at hl 0 rfl) ?_
        refine q_rdV (As := [.int (nI t9)]) (rest := [.int x9_1]) (c_X13_lostBy l D cB cI cJ ad n ML9 mb nt nc np nq (upd mv 2 0) toldF ownerF kindF placeF (nI t9) h_mb h_mb_3 h_mb_7 h_mb_12 h_mb_18 ((fL9 mb ).trans (va_up_self M mb (.inr (12, modF ad mb (upd mv 2 0))))) ((fL9 (mb + 3) ).trans ((va_up_ne M (.inr (12, modF ad mb (upd mv 2 0))) (show mb + 3 ≠ mb by omega)).trans m_mb_3)) ((fL9 (mb + 7) ).trans ((va_up_ne M (.inr (12, modF ad mb (upd mv 2 0))) (show mb + 7 ≠ mb by omega)).trans m_mb_7)) ((fL9 (mb + 12) ).trans ((va_up_ne M (.inr (12, modF ad mb (upd mv 2 0))) (show mb + 12 ≠ mb by omega)).trans m_mb_12)) ((fL9 (mb + 18) ).trans ((va_up_ne M (.inr (12, modF ad mb (upd mv 2 0))) (show mb + 18 ≠ mb by omega)).trans m_mb_18)) k0 hnp k1 hnc k2 hnt k3 hnq) X hK hP hS hl.1 rfl gX13_safe_X13_lostBy yd_X13_lostBy ⟨Nat.le_of_ble_eq_true rfl, Nat.le_of_ble_eq_true rfl⟩ h_mb ((fL9 mb ).trans (va_up_self M mb (.inr (12, modF ad mb (upd mv 2 0))))) (ci := 12) rfl rfl (Nat.le_of_ble_eq_true rfl) ⟨Nat.zero_le _, Nat.zero_le _⟩ dX13_safe_22 ?_
        refine lv_if_ne (tgt := 34) hx hb dX13_safe_25 (by decide) (fun c_25 => ?_) (fun c_25 => ?_)
        · skip
          refine lv_iconst (v := 0) hx hb dX13_safe_34 (by decide) ?_
          refine lv_ior hx hb dX13_safe_35 ?_
          refine lv_istore_n (lv' := [(1, .int (x9_1 ||| 0)), (2, .int (nI t9)), (0, .ref (ad mb))]) hx hb dX13_safe_36 rfl hl (by decide) rfl (fun ls hl => ?_)
          refine lv_iinc (v := ((nI t9) + 1)) (lv' := [(2, .int ((nI t9) + 1)), (1, .int (x9_1 ||| 0)), (0, .ref (ad mb))]) hx hb dX13_safe_37 hl (k := 1) rfl rfl (by decide) rfl (fun ls hl => ?_)
          refine lv_goto (tgt := 9) hx hb dX13_safe_40 (by decide) ?_
          exact ih_9 (t9 + 1) (x9_1 ||| 0) (by omega) (by omega) (by rw [s_X13_safe_9, ← e_x9_1, s_X13_safe_9s, if_neg c_25]) _ _ _ (fun q => (fL9 q)) hP hS ls (by rw [(show nI (t9 + 1) = nI t9 + 1 by exact nI_succ _)]; exact lv_sub hl [0, 1, 2] rfl)
        · skip
          refine lv_iconst (v := 1) hx hb dX13_safe_28 (by decide) ?_
          refine lv_iload_n hx hb dX13_safe_29 rfl (lv_at hl 0 rfl) ?_
          refine lv_ishl hx hb dX13_safe_30 ?_
          refine lv_goto (tgt := 35) hx hb dX13_safe_31 (by decide) ?_
          refine lv_ior hx hb dX13_safe_35 ?_
          refine lv_istore_n (lv' := [(1, .int (x9_1 ||| (1 <<< ((nI t9) &&& 31)))), (2, .int (nI t9)), (0, .ref (ad mb))]) hx hb dX13_safe_36 rfl hl (by decide) rfl (fun ls hl => ?_)
          refine lv_iinc (v := ((nI t9) + 1)) (lv' := [(2, .int ((nI t9) + 1)), (1, .int (x9_1 ||| (1 <<< ((nI t9) &&& 31)))), (0, .ref (ad mb))]) hx hb dX13_safe_37 hl (k := 1) rfl rfl (by decide) rfl (fun ls hl => ?_)
          refine lv_goto (tgt := 9) hx hb dX13_safe_40 (by decide) ?_
          exact ih_9 (t9 + 1) (x9_1 ||| (1 <<< ((nI t9) &&& 31))) (by omega) (by omega) (by rw [s_X13_safe_9, ← e_x9_1, s_X13_safe_9s, if_pos c_25]) _ _ _ (fun q => (fL9 q)) hP hS ls (by rw [(show nI (t9 + 1) = nI t9 + 1 by exact nI_succ _)]; exact lv_sub hl [0, 1, 2] rfl)
  exact loop_9 (nc + 1) 0 0 (by omega) (by omega) (by rfl) _ _ _ (fun q => rfl) hP hS ls (lv_sub hl [0, 1, 2] rfl)
set_option maxRecDepth 20000 in
theorem fX13_isAsSeen_337 : FL wsX13_isAsSeen RX13 337 12 38 := ⟨RX13, TX13, 67, rfl, by decide +kernel, by decide, by decide +kernel⟩
set_option maxRecDepth 20000 in
theorem fX13_isAsSeen_146 : FL wsX13_isAsSeen RX13 146 12 54 := ⟨RX13, TX13, 67, rfl, by decide +kernel, by decide, by decide +kernel⟩
set_option maxRecDepth 20000 in
theorem fX13_isAsSeen_149 : FL wsX13_isAsSeen RX13 149 12 55 := ⟨RX13, TX13, 67, rfl, by decide +kernel, by decide, by decide +kernel⟩
def s_X13_isAsSeen_2 (nt : Nat) (kindF : Nat → Int32) (heavyF : Nat → Int32) (wideF : Nat → Int32) (hotF : Nat → Int32) (placeF : Nat → Int32) (seenCaseF : Nat → Int32) (seenWeightF : Nat → Int32) : Nat → Nat → Int32
  | 0, _ => 1
  | r + 1, t2 => if (s_X13_sumAt nt kindF heavyF wideF hotF placeF (seenCaseF t2) 1) = (seenWeightF t2) then s_X13_isAsSeen_2 nt kindF heavyF wideF hotF placeF seenCaseF seenWeightF r (t2 + 1) else 0
def s_X13_isAsSeen (nt : Nat) (kindF : Nat → Int32) (heavyF : Nat → Int32) (wideF : Nat → Int32) (hotF : Nat → Int32) (placeF : Nat → Int32) (seenCaseF : Nat → Int32) (seenWeightF : Nat → Int32) (ns : Nat) : Int32 := (s_X13_isAsSeen_2 nt kindF heavyF wideF hotF placeF seenCaseF seenWeightF ns 0)
set_option maxHeartbeats 4000000 in
set_option maxRecDepth 100000 in
theorem c_X13_isAsSeen (l : Launch) (D : va_G) (cB cI cJ : ClassId) (ad : Nat → Nat) (n : Nat) (M : Nat → va_E) (mb : Nat) (nt : Nat) (nc : Nat) (np : Nat) (nq : Nat) (mv : Nat → Int32) (toldF : Nat → Int32) (kindF : Nat → Int32) (heavyF : Nat → Int32) (wideF : Nat → Int32) (hotF : Nat → Int32) (placeF : Nat → Int32) (seenCaseF : Nat → Int32) (seenWeightF : Nat → Int32) (ns : Nat) (h_mb : mb < n) (h_mb_3 : mb + 3 < n) (h_mb_12 : mb + 12 < n) (h_mb_13 : mb + 13 < n) (h_mb_15 : mb + 15 < n) (h_mb_17 : mb + 17 < n) (h_mb_18 : mb + 18 < n) (h_mb_36 : mb + 36 < n) (h_mb_37 : mb + 37 < n) (m_mb : M mb = .inr (12, modF ad mb mv)) (m_mb_3 : M (mb + 3) = .inl (cI, 14, .inl toldF)) (m_mb_12 : M (mb + 12) = .inl (cI, 24, .inl kindF)) (m_mb_13 : M (mb + 13) = .inl (cI, 24, .inl heavyF)) (m_mb_15 : M (mb + 15) = .inl (cI, 24, .inl wideF)) (m_mb_17 : M (mb + 17) = .inl (cI, 24, .inl hotF)) (m_mb_18 : M (mb + 18) = .inl (cI, 24, .inl placeF)) (m_mb_36 : M (mb + 36) = .inl (cI, 6, .inl seenCaseF)) (m_mb_37 : M (mb + 37) = .inl (cI, 6, .inl seenWeightF)) (k0 : toldF 0 = nI np) (hnp : np ≤ 4) (k1 : toldF 1 = nI nc) (hnc : nc ≤ 5) (k2 : toldF 2 = nI nt) (hnt : nt ≤ 12) (k3 : toldF 3 = nI nq) (hnq : nq ≤ 6) (ks : mv 38 = nI ns) (hns : ns ≤ 6) : cR l D cB cI cJ ad n M yX13_isAsSeen wsX13_isAsSeen 1 25 [.ref (ad mb)] (s_X13_isAsSeen nt kindF heavyF wideF hotF placeF seenCaseF seenWeightF ns) := by
  refine q_body (cc := cX13_isAsSeen) (maxL := 2) (ret := (some .boolean)) (by decide) rfl (Nat.le_of_ble_eq_true rfl) ?_
  intro p e s m args below meth c ls X hr hlocks hK hP hl
  obtain ⟨hx, hb, hml, hown, hts⟩ := id X
  have hS : va_S (ipA ad n) s.heap s.heap [] := va_S.rf
  have hl : lv_has ls 2 [(0, .ref (ad mb))] := hl
  refine lv_iconst (v := 0) hx hb dX13_isAsSeen_0 (by decide) ?_
  refine lv_istore_n (lv' := [(1, .int 0), (0, .ref (ad mb))]) hx hb dX13_isAsSeen_1 rfl hl (by decide) rfl (fun ls hl => ?_)
  have loop_2 : ∀ (fuel : Nat) (t2 : Nat), ns - (t2) < fuel → t2 ≤ ns → s_X13_isAsSeen_2 nt kindF heavyF wideF hotF placeF seenCaseF seenWeightF (ns - (t2)) t2 = s_X13_isAsSeen nt kindF heavyF wideF hotF placeF seenCaseF seenWeightF ns → ∀ (ls : Array Slot), lv_has ls 2 [(1, .int (nI t2)), (0, .ref (ad mb))] → W p l e (rmOf 1 25) s m args below meth c s.heap [] 0 0 (MQ below (vp_Si (fun r9 => r9 = s_X13_isAsSeen nt kindF heavyF wideF hotF placeF seenCaseF seenWeightF ns)) args s 0 0 (fun _ => False)) (F0 m 2 ls []) := by
    intro fuel
    induction fuel with
    | zero =>
      intro t2 hz
      exact absurd hz (Nat.not_lt_zero _)
    | succ fuel ih_2 =>
      intro t2 hz_2 h_t2 hB_2 ls hl
      skip
      refine lv_iload_n hx hb dX13_isAsSeen_2 rfl (lv_at hl 0 rfl) ?_
      refine lv_aload_n hx hb dX13_isAsSeen_3 rfl (lv_at hl 1 rfl) ?_
      refine q_get (v := .int (mv 38)) (fs := modF ad mb mv) X hK hP fX13_isAsSeen_337 h_mb m_mb rfl dX13_isAsSeen_4 ?_
      refine lv_icmp_ge (tgt := 38) hx hb dX13_isAsSeen_7 (by decide) (fun c_7 => ?_) (fun c_7 => ?_)
      · rw [ks] at c_7
        have h9_2 : t2 = ns := eq_of_le (t := t2) (k := ns) c_7 (by omega) h_t2
        subst t2
        refine lv_iconst (v := 1) hx hb dX13_isAsSeen_38 (by decide) ?_
        exact q_zret X hr hlocks (rfl) (by rw [← hB_2, Nat.sub_self, s_X13_isAsSeen_2]) dX13_isAsSeen_39
      · rw [ks] at c_7
        have h9_2 : t2 < ns := lt_of_nlt (t := t2) (k := ns) c_7 (by omega) h_t2
        refine lv_aload_n hx hb dX13_isAsSeen_10 rfl (lv_at hl 1 rfl) ?_
        refine lv_aload_n hx hb dX13_isAsSeen_11 rfl (lv_at hl 1 rfl) ?_
        refine q_get (v := .ref (ad (mb + 36))) (fs := modF ad mb mv) X hK hP fX13_isAsSeen_146 h_mb m_mb rfl dX13_isAsSeen_12 ?_
        refine lv_iload_n hx hb dX13_isAsSeen_15 rfl (lv_at hl 0 rfl) ?_
        refine q_ialdN (f := seenCaseF) (k := 6) X hK hP t2 h_mb_36 m_mb_36 (by omega) (by decide) dX13_isAsSeen_16 ?_
        refine lv_iconst (v := 1) hx hb dX13_isAsSeen_17 (by decide) ?_
        refine q_rdV (As := [.int (seenCaseF t2), .int 1]) (rest := []) (c_X13_sumAt l D cB cI cJ ad n M mb nt nc np nq mv toldF kindF heavyF wideF hotF placeF (seenCaseF t2) 1 h_mb h_mb_3 h_mb_12 h_mb_13 h_mb_15 h_mb_17 h_mb_18 m_mb m_mb_3 m_mb_12 m_mb_13 m_mb_15 m_mb_17 m_mb_18 k0 hnp k1 hnc k2 hnt k3 hnq) X hK hP hS hl.1 rfl gX13_isAsSeen_X13_sumAt yd_X13_sumAt ⟨Nat.le_of_ble_eq_true rfl, Nat.le_of_ble_eq_true rfl⟩ h_mb m_mb (ci := 12) rfl rfl (Nat.le_of_ble_eq_true rfl) ⟨Nat.zero_le _, Nat.zero_le _⟩ dX13_isAsSeen_18 ?_
        refine lv_aload_n hx hb dX13_isAsSeen_21 rfl (lv_at hl 1 rfl) ?_
        refine q_get (v := .ref (ad (mb + 37))) (fs := modF ad mb mv) X hK hP fX13_isAsSeen_149 h_mb m_mb rfl dX13_isAsSeen_22 ?_
        refine lv_iload_n hx hb dX13_isAsSeen_25 rfl (lv_at hl 0 rfl) ?_
        refine q_ialdN (f := seenWeightF) (k := 6) X hK hP t2 h_mb_37 m_mb_37 (by omega) (by decide) dX13_isAsSeen_26 ?_
        refine lv_icmp_eq (tgt := 32) hx hb dX13_isAsSeen_27 (by decide) (fun c_27 => ?_) (fun c_27 => ?_)
        · skip
          refine lv_iinc (v := ((nI t2) + 1)) (lv' := [(1, .int ((nI t2) + 1)), (0, .ref (ad mb))]) hx hb dX13_isAsSeen_32 hl (k := 0) rfl rfl (by decide) rfl (fun ls hl => ?_)
          refine lv_goto (tgt := 2) hx hb dX13_isAsSeen_35 (by decide) ?_
          exact ih_2 (t2 + 1)  (by omega) (by omega) (by rw [← hB_2, show ns - (t2) = (ns - (t2 + 1)) + 1 by omega, s_X13_isAsSeen_2, if_pos c_27]) ls (by rw [(show nI (t2 + 1) = nI t2 + 1 by exact nI_succ _)]; exact lv_sub hl [0, 1] rfl)
        · skip
          refine lv_iconst (v := 0) hx hb dX13_isAsSeen_30 (by decide) ?_
          exact q_zret X hr hlocks (rfl) (by rw [← hB_2, show ns - t2 = (ns - (t2 + 1)) + 1 by omega, s_X13_isAsSeen_2, if_neg c_27]) dX13_isAsSeen_31
  exact loop_2 (ns + 1) 0  (by omega) (by omega) (by rw [s_X13_isAsSeen] <;> rfl) ls (lv_sub hl [0, 1] rfl)
set_option maxRecDepth 20000 in
theorem fX13_carrier_173 : FL wsX13_carrier RX13 173 12 2 := ⟨RX13, TX13, 67, rfl, by decide +kernel, by decide, by decide +kernel⟩
set_option maxRecDepth 20000 in
theorem fX13_carrier_340 : FL wsX13_carrier RX13 340 12 53 := ⟨RX13, TX13, 67, rfl, by decide +kernel, by decide, by decide +kernel⟩
set_option maxRecDepth 20000 in
theorem fX13_carrier_140 : FL wsX13_carrier RX13 140 12 51 := ⟨RX13, TX13, 67, rfl, by decide +kernel, by decide, by decide +kernel⟩
def s_X13_carrier (mv : Nat → Int32) (toldF : Nat → Int32) (carrierOfF : Nat → Int32) (x : Int32) : Int32 := if (s_X13_isCase toldF x) = 0 then (s_X13_fail) else if (mv 53) = 0 then (s_X13_fail) else (carrierOfF x.toNatClampNeg)
def s_X13_carrier_0_1 (mv : Nat → Int32) (toldF : Nat → Int32) (x : Int32) : Nat → Int32 := if (s_X13_isCase toldF x) = 0 then (upd (upd mv 2 0) 2 1) else if (mv 53) = 0 then (upd (upd mv 2 0) 2 1) else (upd mv 2 0)
set_option maxHeartbeats 4000000 in
set_option maxRecDepth 100000 in
theorem c_X13_carrier (l : Launch) (D : va_G) (cB cI cJ : ClassId) (ad : Nat → Nat) (n : Nat) (M : Nat → va_E) (hI : ipI ad n) (mb : Nat) (nt : Nat) (nc : Nat) (np : Nat) (nq : Nat) (mv : Nat → Int32) (toldF : Nat → Int32) (carrierOfF : Nat → Int32) (x : Int32) (h_mb : mb < n) (h_mb_3 : mb + 3 < n) (h_mb_34 : mb + 34 < n) (m_mb : M mb = .inr (12, modF ad mb mv)) (m_mb_3 : M (mb + 3) = .inl (cI, 14, .inl toldF)) (m_mb_34 : M (mb + 34) = .inl (cI, 5, .inl carrierOfF)) (k0 : toldF 0 = nI np) (hnp : np ≤ 4) (k1 : toldF 1 = nI nc) (hnc : nc ≤ 5) (k2 : toldF 2 = nI nt) (hnt : nt ≤ 12) (k3 : toldF 3 = nI nq) (hnq : nq ≤ 6) : cWi l D cB cI cJ ad n M yX13_carrier wsX13_carrier 2 46 [.ref (ad mb), .int x] (fun r M' => r = s_X13_carrier mv toldF carrierOfF x ∧ M' mb = .inr (12, modF ad mb (s_X13_carrier_0_1 mv toldF x)) ∧ ∀ q : Nat, q ≠ mb → M' q = M q) := by
  refine q_body (cc := cX13_carrier) (maxL := 2) (ret := (some .int)) (by decide) rfl (Nat.le_of_ble_eq_true rfl) ?_
  intro p e s m args below meth c ls X hr hlocks hK hP hl
  obtain ⟨hx, hb, hml, hown, hts⟩ := id X
  have hS : va_S (ipA ad n) s.heap s.heap [] := va_S.rf
  have hl : lv_has ls 2 [(0, .ref (ad mb)), (1, .int x)] := hl
  refine lv_aload_n hx hb dX13_carrier_0 rfl (lv_at hl 0 rfl) ?_
  refine lv_iconst (v := 0) hx hb dX13_carrier_1 (by decide) ?_
  refine q_put (fs := modF ad mb mv) (fs' := modF ad mb (upd mv 2 0)) X hK hI hP hS fX13_carrier_173 fw_12_2 h_mb m_mb rfl rfl (Nat.le_of_ble_eq_true rfl) rfl dX13_carrier_2 (fun H locs hP hS => ?_)
  refine lv_aload_n hx hb dX13_carrier_5 rfl (lv_at hl 0 rfl) ?_
  refine lv_iload_n hx hb dX13_carrier_6 rfl (lv_at hl 1 rfl) ?_
  refine q_rdV (As := [.int x]) (rest := []) (c_X13_isCase l D cB cI cJ ad n (va_up M mb (.inr (12, modF ad mb (upd mv 2 0)))) mb nt nc np nq (upd mv 2 0) toldF x h_mb h_mb_3 (va_up_self M mb (.inr (12, modF ad mb (upd mv 2 0)))) ((va_up_ne M (.inr (12, modF ad mb (upd mv 2 0))) (show mb + 3 ≠ mb by omega)).trans m_mb_3) k0 hnp k1 hnc k2 hnt k3 hnq) X hK hP hS hl.1 rfl gX13_carrier_X13_isCase yd_X13_isCase ⟨Nat.le_of_ble_eq_true rfl, Nat.le_of_ble_eq_true rfl⟩ h_mb (va_up_self M mb (.inr (12, modF ad mb (upd mv 2 0)))) (ci := 12) rfl rfl (Nat.le_of_ble_eq_true rfl) ⟨Nat.zero_le _, Nat.zero_le _⟩ dX13_carrier_7 ?_
  refine lv_if_eq (tgt := 29) hx hb dX13_carrier_10 (by decide) (fun c_10 => ?_) (fun c_10 => ?_)
  · skip
    refine lv_aload_n hx hb dX13_carrier_29 rfl (lv_at hl 0 rfl) ?_
    refine lv_iconst (v := 1) hx hb dX13_carrier_30 (by decide) ?_
    refine q_wrVi (As := [.int 1]) (rest := []) (c_X13_fail l D cB cI cJ ad n (va_up M mb (.inr (12, modF ad mb (upd mv 2 0)))) hI mb (upd mv 2 0) 1 h_mb (va_up_self M mb (.inr (12, modF ad mb (upd mv 2 0)))) ) X hK hP hS hl.1 rfl gX13_carrier_X13_fail yd_X13_fail ⟨Nat.le_of_ble_eq_true rfl, Nat.le_of_ble_eq_true rfl⟩ h_mb (va_up_self M mb (.inr (12, modF ad mb (upd mv 2 0)))) (ci := 12) rfl rfl (Nat.le_of_ble_eq_true rfl) ⟨Nat.zero_le _, Nat.zero_le _⟩ dX13_carrier_31 (fun r5 M4 H locs hp3 hP hS => ?_)
    obtain ⟨rfl, g6, fr7⟩ := hp3
    exact q_wzret X hr hlocks hP hS (rfl) ⟨(by rw [s_X13_carrier, if_pos c_10]), (by rw [s_X13_carrier_0_1, if_pos c_10]; exact g6), (fun q n0 => ((fr7 q n0).trans (va_up_ne _ _ n0)))⟩ dX13_carrier_34
  · skip
    have hv_10 := isCase_vp k1 hnc c_10
    refine lv_aload_n hx hb dX13_carrier_13 rfl (lv_at hl 0 rfl) ?_
    refine q_get (v := .int (mv 53)) (fs := modF ad mb (upd mv 2 0)) X hK hP fX13_carrier_340 h_mb (va_up_self M mb (.inr (12, modF ad mb (upd mv 2 0)))) rfl dX13_carrier_14 ?_
    refine lv_if_eq (tgt := 29) hx hb dX13_carrier_17 (by decide) (fun c_17 => ?_) (fun c_17 => ?_)
    · skip
      refine lv_aload_n hx hb dX13_carrier_29 rfl (lv_at hl 0 rfl) ?_
      refine lv_iconst (v := 1) hx hb dX13_carrier_30 (by decide) ?_
      refine q_wrVi (As := [.int 1]) (rest := []) (c_X13_fail l D cB cI cJ ad n (va_up M mb (.inr (12, modF ad mb (upd mv 2 0)))) hI mb (upd mv 2 0) 1 h_mb (va_up_self M mb (.inr (12, modF ad mb (upd mv 2 0)))) ) X hK hP hS hl.1 rfl gX13_carrier_X13_fail yd_X13_fail ⟨Nat.le_of_ble_eq_true rfl, Nat.le_of_ble_eq_true rfl⟩ h_mb (va_up_self M mb (.inr (12, modF ad mb (upd mv 2 0)))) (ci := 12) rfl rfl (Nat.le_of_ble_eq_true rfl) ⟨Nat.zero_le _, Nat.zero_le _⟩ dX13_carrier_31 (fun r10 M9 H locs hp8 hP hS => ?_)
      obtain ⟨rfl, g11, fr12⟩ := hp8
      exact q_wzret X hr hlocks hP hS (rfl) ⟨(by rw [s_X13_carrier, if_neg c_10, if_pos c_17]), (by rw [s_X13_carrier_0_1, if_neg c_10, if_pos c_17]; exact g11), (fun q n0 => ((fr12 q n0).trans (va_up_ne _ _ n0)))⟩ dX13_carrier_34
    · skip
      refine lv_aload_n hx hb dX13_carrier_20 rfl (lv_at hl 0 rfl) ?_
      refine q_get (v := .ref (ad (mb + 34))) (fs := modF ad mb (upd mv 2 0)) X hK hP fX13_carrier_140 h_mb (va_up_self M mb (.inr (12, modF ad mb (upd mv 2 0)))) rfl dX13_carrier_21 ?_
      refine lv_iload_n hx hb dX13_carrier_24 rfl (lv_at hl 1 rfl) ?_
      refine q_iald (f := carrierOfF) (k := 5) X hK hP h_mb_34 ((va_up_ne M (.inr (12, modF ad mb (upd mv 2 0))) (show mb + 34 ≠ mb by omega)).trans m_mb_34) (isIn_vp k1 hnc (by decide) c_10) dX13_carrier_25 ?_
      refine lv_goto (tgt := 34) hx hb dX13_carrier_26 (by decide) ?_
      exact q_wzret X hr hlocks hP hS (rfl) ⟨(by rw [s_X13_carrier, if_neg c_10, if_neg c_17]), (by rw [s_X13_carrier_0_1, if_neg c_10, if_neg c_17]; exact (va_up_self M mb (.inr (12, modF ad mb (upd mv 2 0))))), (fun q n0 => (va_up_ne _ _ n0))⟩ dX13_carrier_34
set_option maxRecDepth 20000 in
theorem fX13_forget_173 : FL wsX13_forget RX13 173 12 2 := ⟨RX13, TX13, 67, rfl, by decide +kernel, by decide, by decide +kernel⟩
set_option maxRecDepth 20000 in
theorem fX13_forget_337 : FL wsX13_forget RX13 337 12 38 := ⟨RX13, TX13, 67, rfl, by decide +kernel, by decide, by decide +kernel⟩
theorem fw_12_38 : FW 12 38 .int := ⟨RX13, TX13, 67, tyX13, rfl, tyX13_ok, nmX13, by decide, rfl, by decide +kernel⟩
def s_X13_forget (mv : Nat → Int32) : Int32 := if (mv 38) = 0 then (-1) else ((mv 38) - 1)
def s_X13_forget_0_1 (mv : Nat → Int32) : Nat → Int32 := if (mv 38) = 0 then (upd mv 2 0) else (upd (upd mv 2 0) 38 ((mv 38) - 1))
set_option maxHeartbeats 4000000 in
set_option maxRecDepth 100000 in
theorem c_X13_forget (l : Launch) (D : va_G) (cB cI cJ : ClassId) (ad : Nat → Nat) (n : Nat) (M : Nat → va_E) (hI : ipI ad n) (mb : Nat) (mv : Nat → Int32) (h_mb : mb < n) (m_mb : M mb = .inr (12, modF ad mb mv))  : cWi l D cB cI cJ ad n M yX13_forget wsX13_forget 0 0 [.ref (ad mb)] (fun r M' => r = s_X13_forget mv ∧ M' mb = .inr (12, modF ad mb (s_X13_forget_0_1 mv)) ∧ ∀ q : Nat, q ≠ mb → M' q = M q) := by
  refine q_body (cc := cX13_forget) (maxL := 1) (ret := (some .int)) (by decide) rfl (Nat.le_of_ble_eq_true rfl) ?_
  intro p e s m args below meth c ls X hr hlocks hK hP hl
  obtain ⟨hx, hb, hml, hown, hts⟩ := id X
  have hS : va_S (ipA ad n) s.heap s.heap [] := va_S.rf
  have hl : lv_has ls 1 [(0, .ref (ad mb))] := hl
  refine lv_aload_n hx hb dX13_forget_0 rfl (lv_at hl 0 rfl) ?_
  refine lv_iconst (v := 0) hx hb dX13_forget_1 (by decide) ?_
  refine q_put (fs := modF ad mb mv) (fs' := modF ad mb (upd mv 2 0)) X hK hI hP hS fX13_forget_173 fw_12_2 h_mb m_mb rfl rfl (Nat.le_of_ble_eq_true rfl) rfl dX13_forget_2 (fun H locs hP hS => ?_)
  refine lv_aload_n hx hb dX13_forget_5 rfl (lv_at hl 0 rfl) ?_
  refine q_get (v := .int (mv 38)) (fs := modF ad mb (upd mv 2 0)) X hK hP fX13_forget_337 h_mb (va_up_self M mb (.inr (12, modF ad mb (upd mv 2 0)))) rfl dX13_forget_6 ?_
  refine lv_if_ne (tgt := 14) hx hb dX13_forget_9 (by decide) (fun c_9 => ?_) (fun c_9 => ?_)
  · skip
    refine lv_aload_n hx hb dX13_forget_14 rfl (lv_at hl 0 rfl) ?_
    refine lv_dup hx hb dX13_forget_15 rfl ?_
    refine q_get (v := .int (mv 38)) (fs := modF ad mb (upd mv 2 0)) X hK hP fX13_forget_337 h_mb (va_up_self M mb (.inr (12, modF ad mb (upd mv 2 0)))) rfl dX13_forget_16 ?_
    refine lv_iconst (v := 1) hx hb dX13_forget_19 (by decide) ?_
    refine lv_isub hx hb dX13_forget_20 ?_
    refine q_put (fs := modF ad mb (upd mv 2 0)) (fs' := modF ad mb (upd (upd mv 2 0) 38 ((mv 38) - 1))) X hK hI hP hS fX13_forget_337 fw_12_38 h_mb (va_up_self M mb (.inr (12, modF ad mb (upd mv 2 0)))) rfl rfl (Nat.le_of_ble_eq_true rfl) rfl dX13_forget_21 (fun H locs hP hS => ?_)
    refine lv_aload_n hx hb dX13_forget_24 rfl (lv_at hl 0 rfl) ?_
    refine q_get (v := .int ((mv 38) - 1)) (fs := modF ad mb (upd (upd mv 2 0) 38 ((mv 38) - 1))) X hK hP fX13_forget_337 h_mb (va_up_self (va_up M mb (.inr (12, modF ad mb (upd mv 2 0)))) mb (.inr (12, modF ad mb (upd (upd mv 2 0) 38 ((mv 38) - 1))))) rfl dX13_forget_25 ?_
    exact q_wzret X hr hlocks hP hS (rfl) ⟨(by rw [s_X13_forget, if_neg c_9]), (by rw [s_X13_forget_0_1, if_neg c_9]; exact (va_up_self (va_up M mb (.inr (12, modF ad mb (upd mv 2 0)))) mb (.inr (12, modF ad mb (upd (upd mv 2 0) 38 ((mv 38) - 1)))))), (fun q n0 => ((va_up_ne _ _ n0).trans (va_up_ne _ _ n0)))⟩ dX13_forget_28
  · skip
    refine lv_iconst (v := (-1)) hx hb dX13_forget_12 (by decide) ?_
    exact q_wzret X hr hlocks hP hS (rfl) ⟨(by rw [s_X13_forget, if_pos c_9]), (by rw [s_X13_forget_0_1, if_pos c_9]; exact (va_up_self M mb (.inr (12, modF ad mb (upd mv 2 0))))), (fun q n0 => (va_up_ne _ _ n0))⟩ dX13_forget_13
set_option maxRecDepth 20000 in
theorem fX13_see_173 : FL wsX13_see RX13 173 12 2 := ⟨RX13, TX13, 67, rfl, by decide +kernel, by decide, by decide +kernel⟩
set_option maxRecDepth 20000 in
theorem fX13_see_337 : FL wsX13_see RX13 337 12 38 := ⟨RX13, TX13, 67, rfl, by decide +kernel, by decide, by decide +kernel⟩
theorem yd_X13_refuse : YD yX13_refuse 1 := ⟨by decide +kernel, by decide +kernel, by decide +kernel⟩
set_option maxRecDepth 20000 in
theorem fX13_see_146 : FL wsX13_see RX13 146 12 54 := ⟨RX13, TX13, 67, rfl, by decide +kernel, by decide, by decide +kernel⟩
set_option maxRecDepth 20000 in
theorem fX13_see_149 : FL wsX13_see RX13 149 12 55 := ⟨RX13, TX13, 67, rfl, by decide +kernel, by decide, by decide +kernel⟩
def s_X13_see (mv : Nat → Int32) (toldF : Nat → Int32) (x : Int32) (y : Int32) : Int32 := if (s_X13_isCase toldF x) = 0 then (s_X13_fail) else if (mv 38) = 6 then (s_X13_refuse) else if (s_X13_isIn y.toInt64 0 999) = 0 then (s_X13_refuse) else ((mv 38) + 1)
def s_X13_see_0_f (mv : Nat → Int32) (toldF : Nat → Int32) (statusF : Nat → Int32) (x : Int32) (y : Int32) : Nat → Int32 := if (s_X13_isCase toldF x) = 0 then statusF else if (mv 38) = 6 then (upd statusF (2 : Int32).toNatClampNeg ((statusF (2 : Int32).toNatClampNeg) + 1)) else if (s_X13_isIn y.toInt64 0 999) = 0 then (upd statusF (2 : Int32).toNatClampNeg ((statusF (2 : Int32).toNatClampNeg) + 1)) else statusF
def s_X13_see_1_f (mv : Nat → Int32) (toldF : Nat → Int32) (seenCaseF : Nat → Int32) (x : Int32) (y : Int32) : Nat → Int32 := if (s_X13_isCase toldF x) = 0 then seenCaseF else if (mv 38) = 6 then seenCaseF else if (s_X13_isIn y.toInt64 0 999) = 0 then seenCaseF else (upd seenCaseF (mv 38).toNatClampNeg x)
def s_X13_see_2_f (mv : Nat → Int32) (toldF : Nat → Int32) (seenWeightF : Nat → Int32) (x : Int32) (y : Int32) : Nat → Int32 := if (s_X13_isCase toldF x) = 0 then seenWeightF else if (mv 38) = 6 then seenWeightF else if (s_X13_isIn y.toInt64 0 999) = 0 then seenWeightF else (upd seenWeightF (mv 38).toNatClampNeg y)
def s_X13_see_3_1 (mv : Nat → Int32) (toldF : Nat → Int32) (x : Int32) (y : Int32) : Nat → Int32 := if (s_X13_isCase toldF x) = 0 then (upd (upd mv 2 0) 2 1) else if (mv 38) = 6 then (upd mv 2 0) else if (s_X13_isIn y.toInt64 0 999) = 0 then (upd mv 2 0) else (upd (upd mv 2 0) 38 ((mv 38) + 1))
set_option maxHeartbeats 4000000 in
set_option maxRecDepth 100000 in
theorem c_X13_see (l : Launch) (D : va_G) (cB cI cJ : ClassId) (ad : Nat → Nat) (n : Nat) (M : Nat → va_E) (hI : ipI ad n) (mb : Nat) (nt : Nat) (nc : Nat) (np : Nat) (nq : Nat) (mv : Nat → Int32) (toldF : Nat → Int32) (statusF : Nat → Int32) (seenCaseF : Nat → Int32) (seenWeightF : Nat → Int32) (ns : Nat) (x : Int32) (y : Int32) (h_mb : mb < n) (h_mb_3 : mb + 3 < n) (h_mb_22 : mb + 22 < n) (h_mb_36 : mb + 36 < n) (h_mb_37 : mb + 37 < n) (m_mb : M mb = .inr (12, modF ad mb mv)) (m_mb_3 : M (mb + 3) = .inl (cI, 14, .inl toldF)) (m_mb_22 : M (mb + 22) = .inl (cI, 3, .inl statusF)) (m_mb_36 : M (mb + 36) = .inl (cI, 6, .inl seenCaseF)) (m_mb_37 : M (mb + 37) = .inl (cI, 6, .inl seenWeightF)) (k0 : toldF 0 = nI np) (hnp : np ≤ 4) (k1 : toldF 1 = nI nc) (hnc : nc ≤ 5) (k2 : toldF 2 = nI nt) (hnt : nt ≤ 12) (k3 : toldF 3 = nI nq) (hnq : nq ≤ 6) (ks : mv 38 = nI ns) (hns : ns ≤ 6) : cWi l D cB cI cJ ad n M yX13_see wsX13_see 2 46 [.ref (ad mb), .int x, .int y] (fun r M' => r = s_X13_see mv toldF x y ∧ M' (mb + 22) = .inl (cI, 3, .inl (s_X13_see_0_f mv toldF statusF x y)) ∧ M' (mb + 36) = .inl (cI, 6, .inl (s_X13_see_1_f mv toldF seenCaseF x y)) ∧ M' (mb + 37) = .inl (cI, 6, .inl (s_X13_see_2_f mv toldF seenWeightF x y)) ∧ M' mb = .inr (12, modF ad mb (s_X13_see_3_1 mv toldF x y)) ∧ ∀ q : Nat, q ≠ mb + 22 → q ≠ mb + 36 → q ≠ mb + 37 → q ≠ mb → M' q = M q) := by
  refine q_body (cc := cX13_see) (maxL := 3) (ret := (some .int)) (by decide) rfl (Nat.le_of_ble_eq_true rfl) ?_
  intro p e s m args below meth c ls X hr hlocks hK hP hl
  obtain ⟨hx, hb, hml, hown, hts⟩ := id X
  have hS : va_S (ipA ad n) s.heap s.heap [] := va_S.rf
  have hl : lv_has ls 3 [(0, .ref (ad mb)), (1, .int x), (2, .int y)] := hl
  refine lv_aload_n hx hb dX13_see_0 rfl (lv_at hl 0 rfl) ?_
  refine lv_iconst (v := 0) hx hb dX13_see_1 (by decide) ?_
  refine q_put (fs := modF ad mb mv) (fs' := modF ad mb (upd mv 2 0)) X hK hI hP hS fX13_see_173 fw_12_2 h_mb m_mb rfl rfl (Nat.le_of_ble_eq_true rfl) rfl dX13_see_2 (fun H locs hP hS => ?_)
  refine lv_aload_n hx hb dX13_see_5 rfl (lv_at hl 0 rfl) ?_
  refine lv_iload_n hx hb dX13_see_6 rfl (lv_at hl 1 rfl) ?_
  refine q_rdV (As := [.int x]) (rest := []) (c_X13_isCase l D cB cI cJ ad n (va_up M mb (.inr (12, modF ad mb (upd mv 2 0)))) mb nt nc np nq (upd mv 2 0) toldF x h_mb h_mb_3 (va_up_self M mb (.inr (12, modF ad mb (upd mv 2 0)))) ((va_up_ne M (.inr (12, modF ad mb (upd mv 2 0))) (show mb + 3 ≠ mb by omega)).trans m_mb_3) k0 hnp k1 hnc k2 hnt k3 hnq) X hK hP hS hl.1 rfl gX13_see_X13_isCase yd_X13_isCase ⟨Nat.le_of_ble_eq_true rfl, Nat.le_of_ble_eq_true rfl⟩ h_mb (va_up_self M mb (.inr (12, modF ad mb (upd mv 2 0)))) (ci := 12) rfl rfl (Nat.le_of_ble_eq_true rfl) ⟨Nat.zero_le _, Nat.zero_le _⟩ dX13_see_7 ?_
  refine lv_if_ne (tgt := 19) hx hb dX13_see_10 (by decide) (fun c_10 => ?_) (fun c_10 => ?_)
  · skip
    have hv_10 := isCase_vp k1 hnc c_10
    refine lv_aload_n hx hb dX13_see_19 rfl (lv_at hl 0 rfl) ?_
    refine q_get (v := .int (mv 38)) (fs := modF ad mb (upd mv 2 0)) X hK hP fX13_see_337 h_mb (va_up_self M mb (.inr (12, modF ad mb (upd mv 2 0)))) rfl dX13_see_20 ?_
    refine lv_bipush (v := 6) hx hb dX13_see_23 (by decide) ?_
    refine lv_icmp_eq (tgt := 40) hx hb dX13_see_25 (by decide) (fun c_25 => ?_) (fun c_25 => ?_)
    · skip
      refine lv_aload_n hx hb dX13_see_40 rfl (lv_at hl 0 rfl) ?_
      refine lv_iconst (v := 2) hx hb dX13_see_41 (by decide) ?_
      refine q_wrVi (As := [.int 2]) (rest := []) (c_X13_refuse l D cB cI cJ ad n (va_up M mb (.inr (12, modF ad mb (upd mv 2 0)))) hI mb (upd mv 2 0) statusF 2 h_mb h_mb_22 (va_up_self M mb (.inr (12, modF ad mb (upd mv 2 0)))) ((va_up_ne M (.inr (12, modF ad mb (upd mv 2 0))) (show mb + 22 ≠ mb by omega)).trans m_mb_22) (by first | assumption | omega | exact vp_in_nI (by omega) (by decide) | exact vp_in_iff.mpr (by decide))) X hK hP hS hl.1 rfl gX13_see_X13_refuse yd_X13_refuse ⟨Nat.le_of_ble_eq_true rfl, Nat.le_of_ble_eq_true rfl⟩ h_mb (va_up_self M mb (.inr (12, modF ad mb (upd mv 2 0)))) (ci := 12) rfl rfl (Nat.le_of_ble_eq_true rfl) ⟨Nat.zero_le _, Nat.zero_le _⟩ dX13_see_42 (fun r5 M4 H locs hp3 hP hS => ?_)
      obtain ⟨rfl, g6, fr7⟩ := hp3
      exact q_wzret X hr hlocks hP hS (rfl) ⟨(by rw [s_X13_see, if_neg c_10, if_pos c_25]), (by rw [s_X13_see_0_f, if_neg c_10, if_pos c_25]; exact g6), (by rw [s_X13_see_1_f, if_neg c_10, if_pos c_25]; exact ((fr7 (mb + 36) (by omega)).trans ((va_up_ne M (.inr (12, modF ad mb (upd mv 2 0))) (show mb + 36 ≠ mb by omega)).trans m_mb_36))), (by rw [s_X13_see_2_f, if_neg c_10, if_pos c_25]; exact ((fr7 (mb + 37) (by omega)).trans ((va_up_ne M (.inr (12, modF ad mb (upd mv 2 0))) (show mb + 37 ≠ mb by omega)).trans m_mb_37))), (by rw [s_X13_see_3_1, if_neg c_10, if_pos c_25]; exact ((fr7 mb (by omega)).trans (va_up_self M mb (.inr (12, modF ad mb (upd mv 2 0)))))), (fun q n0 n1 n2 n3 => ((fr7 q n0).trans (va_up_ne _ _ n3)))⟩ dX13_see_45
    · skip
      refine lv_iload_n hx hb dX13_see_28 rfl (lv_at hl 2 rfl) ?_
      refine lv_i2l hx hb dX13_see_29 rfl ?_
      refine lv_lconst (v := 0) hx hb dX13_see_30 (by decide) ?_
      refine lv_ldc2 (v := 999) hx hb hown (hts _ (by decide +kernel)) dX13_see_31 ?_
      refine q_rdS (As := [.long y.toInt64, .long 0, .long 999]) (rest := []) (c_X13_isIn l D cB cI cJ ad n (va_up M mb (.inr (12, modF ad mb (upd mv 2 0)))) y.toInt64 0 999   ) X hK hP hS hl.1 rfl gX13_see_X13_isIn yd_X13_isIn ⟨Nat.le_of_ble_eq_true rfl, Nat.le_of_ble_eq_true rfl⟩ rfl (Nat.le_of_ble_eq_true rfl) ⟨Nat.zero_le _, Nat.zero_le _⟩ dX13_see_34 ?_
      refine lv_if_ne (tgt := 46) hx hb dX13_see_37 (by decide) (fun c_37 => ?_) (fun c_37 => ?_)
      · skip
        refine lv_aload_n hx hb dX13_see_46 rfl (lv_at hl 0 rfl) ?_
        refine q_get (v := .ref (ad (mb + 36))) (fs := modF ad mb (upd mv 2 0)) X hK hP fX13_see_146 h_mb (va_up_self M mb (.inr (12, modF ad mb (upd mv 2 0)))) rfl dX13_see_47 ?_
        refine lv_aload_n hx hb dX13_see_50 rfl (lv_at hl 0 rfl) ?_
        refine q_get (v := .int (mv 38)) (fs := modF ad mb (upd mv 2 0)) X hK hP fX13_see_337 h_mb (va_up_self M mb (.inr (12, modF ad mb (upd mv 2 0)))) rfl dX13_see_51 ?_
        refine lv_iload_n hx hb dX13_see_54 rfl (lv_at hl 1 rfl) ?_
        refine q_iast (f := seenCaseF) (k := 6) X hK hI hP hS h_mb_36 ((va_up_ne M (.inr (12, modF ad mb (upd mv 2 0))) (show mb + 36 ≠ mb by omega)).trans m_mb_36) (vp_ne ks c_25 hns (by decide)) dX13_see_55 (fun H locs hP hS => ?_)
        refine lv_aload_n hx hb dX13_see_56 rfl (lv_at hl 0 rfl) ?_
        refine q_get (v := .ref (ad (mb + 37))) (fs := modF ad mb (upd mv 2 0)) X hK hP fX13_see_149 h_mb ((va_up_ne (va_up M mb (.inr (12, modF ad mb (upd mv 2 0)))) (.inl (cI, 6, .inl (upd seenCaseF (mv 38).toNatClampNeg x))) (show mb ≠ mb + 36 by omega)).trans (va_up_self M mb (.inr (12, modF ad mb (upd mv 2 0))))) rfl dX13_see_57 ?_
        refine lv_aload_n hx hb dX13_see_60 rfl (lv_at hl 0 rfl) ?_
        refine q_get (v := .int (mv 38)) (fs := modF ad mb (upd mv 2 0)) X hK hP fX13_see_337 h_mb ((va_up_ne (va_up M mb (.inr (12, modF ad mb (upd mv 2 0)))) (.inl (cI, 6, .inl (upd seenCaseF (mv 38).toNatClampNeg x))) (show mb ≠ mb + 36 by omega)).trans (va_up_self M mb (.inr (12, modF ad mb (upd mv 2 0))))) rfl dX13_see_61 ?_
        refine lv_iload_n hx hb dX13_see_64 rfl (lv_at hl 2 rfl) ?_
        refine q_iast (f := seenWeightF) (k := 6) X hK hI hP hS h_mb_37 ((va_up_ne (va_up M mb (.inr (12, modF ad mb (upd mv 2 0)))) (.inl (cI, 6, .inl (upd seenCaseF (mv 38).toNatClampNeg x))) (show mb + 37 ≠ mb + 36 by omega)).trans ((va_up_ne M (.inr (12, modF ad mb (upd mv 2 0))) (show mb + 37 ≠ mb by omega)).trans m_mb_37)) (vp_ne ks c_25 hns (by decide)) dX13_see_65 (fun H locs hP hS => ?_)
        refine lv_aload_n hx hb dX13_see_66 rfl (lv_at hl 0 rfl) ?_
        refine lv_dup hx hb dX13_see_67 rfl ?_
        refine q_get (v := .int (mv 38)) (fs := modF ad mb (upd mv 2 0)) X hK hP fX13_see_337 h_mb ((va_up_ne (va_up (va_up M mb (.inr (12, modF ad mb (upd mv 2 0)))) (mb + 36) (.inl (cI, 6, .inl (upd seenCaseF (mv 38).toNatClampNeg x)))) (.inl (cI, 6, .inl (upd seenWeightF (mv 38).toNatClampNeg y))) (show mb ≠ mb + 37 by omega)).trans ((va_up_ne (va_up M mb (.inr (12, modF ad mb (upd mv 2 0)))) (.inl (cI, 6, .inl (upd seenCaseF (mv 38).toNatClampNeg x))) (show mb ≠ mb + 36 by omega)).trans (va_up_self M mb (.inr (12, modF ad mb (upd mv 2 0)))))) rfl dX13_see_68 ?_
        refine lv_iconst (v := 1) hx hb dX13_see_71 (by decide) ?_
        refine lv_iadd hx hb dX13_see_72 ?_
        refine q_put (fs := modF ad mb (upd mv 2 0)) (fs' := modF ad mb (upd (upd mv 2 0) 38 ((mv 38) + 1))) X hK hI hP hS fX13_see_337 fw_12_38 h_mb ((va_up_ne (va_up (va_up M mb (.inr (12, modF ad mb (upd mv 2 0)))) (mb + 36) (.inl (cI, 6, .inl (upd seenCaseF (mv 38).toNatClampNeg x)))) (.inl (cI, 6, .inl (upd seenWeightF (mv 38).toNatClampNeg y))) (show mb ≠ mb + 37 by omega)).trans ((va_up_ne (va_up M mb (.inr (12, modF ad mb (upd mv 2 0)))) (.inl (cI, 6, .inl (upd seenCaseF (mv 38).toNatClampNeg x))) (show mb ≠ mb + 36 by omega)).trans (va_up_self M mb (.inr (12, modF ad mb (upd mv 2 0)))))) rfl rfl (Nat.le_of_ble_eq_true rfl) rfl dX13_see_73 (fun H locs hP hS => ?_)
        refine lv_aload_n hx hb dX13_see_76 rfl (lv_at hl 0 rfl) ?_
        refine q_get (v := .int ((mv 38) + 1)) (fs := modF ad mb (upd (upd mv 2 0) 38 ((mv 38) + 1))) X hK hP fX13_see_337 h_mb (va_up_self (va_up (va_up (va_up M mb (.inr (12, modF ad mb (upd mv 2 0)))) (mb + 36) (.inl (cI, 6, .inl (upd seenCaseF (mv 38).toNatClampNeg x)))) (mb + 37) (.inl (cI, 6, .inl (upd seenWeightF (mv 38).toNatClampNeg y)))) mb (.inr (12, modF ad mb (upd (upd mv 2 0) 38 ((mv 38) + 1))))) rfl dX13_see_77 ?_
        exact q_wzret X hr hlocks hP hS (rfl) ⟨(by rw [s_X13_see, if_neg c_10, if_neg c_25, if_neg c_37]), (by rw [s_X13_see_0_f, if_neg c_10, if_neg c_25, if_neg c_37]; exact ((va_up_ne (va_up (va_up (va_up M mb (.inr (12, modF ad mb (upd mv 2 0)))) (mb + 36) (.inl (cI, 6, .inl (upd seenCaseF (mv 38).toNatClampNeg x)))) (mb + 37) (.inl (cI, 6, .inl (upd seenWeightF (mv 38).toNatClampNeg y)))) (.inr (12, modF ad mb (upd (upd mv 2 0) 38 ((mv 38) + 1)))) (show mb + 22 ≠ mb by omega)).trans ((va_up_ne (va_up (va_up M mb (.inr (12, modF ad mb (upd mv 2 0)))) (mb + 36) (.inl (cI, 6, .inl (upd seenCaseF (mv 38).toNatClampNeg x)))) (.inl (cI, 6, .inl (upd seenWeightF (mv 38).toNatClampNeg y))) (show mb + 22 ≠ mb + 37 by omega)).trans ((va_up_ne (va_up M mb (.inr (12, modF ad mb (upd mv 2 0)))) (.inl (cI, 6, .inl (upd seenCaseF (mv 38).toNatClampNeg x))) (show mb + 22 ≠ mb + 36 by omega)).trans ((va_up_ne M (.inr (12, modF ad mb (upd mv 2 0))) (show mb + 22 ≠ mb by omega)).trans m_mb_22))))), (by rw [s_X13_see_1_f, if_neg c_10, if_neg c_25, if_neg c_37]; exact ((va_up_ne (va_up (va_up (va_up M mb (.inr (12, modF ad mb (upd mv 2 0)))) (mb + 36) (.inl (cI, 6, .inl (upd seenCaseF (mv 38).toNatClampNeg x)))) (mb + 37) (.inl (cI, 6, .inl (upd seenWeightF (mv 38).toNatClampNeg y)))) (.inr (12, modF ad mb (upd (upd mv 2 0) 38 ((mv 38) + 1)))) (show mb + 36 ≠ mb by omega)).trans ((va_up_ne (va_up (va_up M mb (.inr (12, modF ad mb (upd mv 2 0)))) (mb + 36) (.inl (cI, 6, .inl (upd seenCaseF (mv 38).toNatClampNeg x)))) (.inl (cI, 6, .inl (upd seenWeightF (mv 38).toNatClampNeg y))) (show mb + 36 ≠ mb + 37 by omega)).trans (va_up_self (va_up M mb (.inr (12, modF ad mb (upd mv 2 0)))) (mb + 36) (.inl (cI, 6, .inl (upd seenCaseF (mv 38).toNatClampNeg x))))))), (by rw [s_X13_see_2_f, if_neg c_10, if_neg c_25, if_neg c_37]; exact ((va_up_ne (va_up (va_up (va_up M mb (.inr (12, modF ad mb (upd mv 2 0)))) (mb + 36) (.inl (cI, 6, .inl (upd seenCaseF (mv 38).toNatClampNeg x)))) (mb + 37) (.inl (cI, 6, .inl (upd seenWeightF (mv 38).toNatClampNeg y)))) (.inr (12, modF ad mb (upd (upd mv 2 0) 38 ((mv 38) + 1)))) (show mb + 37 ≠ mb by omega)).trans (va_up_self (va_up (va_up M mb (.inr (12, modF ad mb (upd mv 2 0)))) (mb + 36) (.inl (cI, 6, .inl (upd seenCaseF (mv 38).toNatClampNeg x)))) (mb + 37) (.inl (cI, 6, .inl (upd seenWeightF (mv 38).toNatClampNeg y)))))), (by rw [s_X13_see_3_1, if_neg c_10, if_neg c_25, if_neg c_37]; exact (va_up_self (va_up (va_up (va_up M mb (.inr (12, modF ad mb (upd mv 2 0)))) (mb + 36) (.inl (cI, 6, .inl (upd seenCaseF (mv 38).toNatClampNeg x)))) (mb + 37) (.inl (cI, 6, .inl (upd seenWeightF (mv 38).toNatClampNeg y)))) mb (.inr (12, modF ad mb (upd (upd mv 2 0) 38 ((mv 38) + 1)))))), (fun q n0 n1 n2 n3 => ((va_up_ne _ _ n3).trans ((va_up_ne _ _ n2).trans ((va_up_ne _ _ n1).trans (va_up_ne _ _ n3)))))⟩ dX13_see_80
      · skip
        refine lv_aload_n hx hb dX13_see_40 rfl (lv_at hl 0 rfl) ?_
        refine lv_iconst (v := 2) hx hb dX13_see_41 (by decide) ?_
        refine q_wrVi (As := [.int 2]) (rest := []) (c_X13_refuse l D cB cI cJ ad n (va_up M mb (.inr (12, modF ad mb (upd mv 2 0)))) hI mb (upd mv 2 0) statusF 2 h_mb h_mb_22 (va_up_self M mb (.inr (12, modF ad mb (upd mv 2 0)))) ((va_up_ne M (.inr (12, modF ad mb (upd mv 2 0))) (show mb + 22 ≠ mb by omega)).trans m_mb_22) (by first | assumption | omega | exact vp_in_nI (by omega) (by decide) | exact vp_in_iff.mpr (by decide))) X hK hP hS hl.1 rfl gX13_see_X13_refuse yd_X13_refuse ⟨Nat.le_of_ble_eq_true rfl, Nat.le_of_ble_eq_true rfl⟩ h_mb (va_up_self M mb (.inr (12, modF ad mb (upd mv 2 0)))) (ci := 12) rfl rfl (Nat.le_of_ble_eq_true rfl) ⟨Nat.zero_le _, Nat.zero_le _⟩ dX13_see_42 (fun r16 M15 H locs hp14 hP hS => ?_)
        obtain ⟨rfl, g17, fr18⟩ := hp14
        exact q_wzret X hr hlocks hP hS (rfl) ⟨(by rw [s_X13_see, if_neg c_10, if_neg c_25, if_pos c_37]), (by rw [s_X13_see_0_f, if_neg c_10, if_neg c_25, if_pos c_37]; exact g17), (by rw [s_X13_see_1_f, if_neg c_10, if_neg c_25, if_pos c_37]; exact ((fr18 (mb + 36) (by omega)).trans ((va_up_ne M (.inr (12, modF ad mb (upd mv 2 0))) (show mb + 36 ≠ mb by omega)).trans m_mb_36))), (by rw [s_X13_see_2_f, if_neg c_10, if_neg c_25, if_pos c_37]; exact ((fr18 (mb + 37) (by omega)).trans ((va_up_ne M (.inr (12, modF ad mb (upd mv 2 0))) (show mb + 37 ≠ mb by omega)).trans m_mb_37))), (by rw [s_X13_see_3_1, if_neg c_10, if_neg c_25, if_pos c_37]; exact ((fr18 mb (by omega)).trans (va_up_self M mb (.inr (12, modF ad mb (upd mv 2 0)))))), (fun q n0 n1 n2 n3 => ((fr18 q n0).trans (va_up_ne _ _ n3)))⟩ dX13_see_45
  · skip
    refine lv_aload_n hx hb dX13_see_13 rfl (lv_at hl 0 rfl) ?_
    refine lv_iconst (v := 1) hx hb dX13_see_14 (by decide) ?_
    refine q_wrVi (As := [.int 1]) (rest := []) (c_X13_fail l D cB cI cJ ad n (va_up M mb (.inr (12, modF ad mb (upd mv 2 0)))) hI mb (upd mv 2 0) 1 h_mb (va_up_self M mb (.inr (12, modF ad mb (upd mv 2 0)))) ) X hK hP hS hl.1 rfl gX13_see_X13_fail yd_X13_fail ⟨Nat.le_of_ble_eq_true rfl, Nat.le_of_ble_eq_true rfl⟩ h_mb (va_up_self M mb (.inr (12, modF ad mb (upd mv 2 0)))) (ci := 12) rfl rfl (Nat.le_of_ble_eq_true rfl) ⟨Nat.zero_le _, Nat.zero_le _⟩ dX13_see_15 (fun r21 M20 H locs hp19 hP hS => ?_)
    obtain ⟨rfl, g22, fr23⟩ := hp19
    exact q_wzret X hr hlocks hP hS (rfl) ⟨(by rw [s_X13_see, if_pos c_10]), (by rw [s_X13_see_0_f, if_pos c_10]; exact ((fr23 (mb + 22) (by omega)).trans ((va_up_ne M (.inr (12, modF ad mb (upd mv 2 0))) (show mb + 22 ≠ mb by omega)).trans m_mb_22))), (by rw [s_X13_see_1_f, if_pos c_10]; exact ((fr23 (mb + 36) (by omega)).trans ((va_up_ne M (.inr (12, modF ad mb (upd mv 2 0))) (show mb + 36 ≠ mb by omega)).trans m_mb_36))), (by rw [s_X13_see_2_f, if_pos c_10]; exact ((fr23 (mb + 37) (by omega)).trans ((va_up_ne M (.inr (12, modF ad mb (upd mv 2 0))) (show mb + 37 ≠ mb by omega)).trans m_mb_37))), (by rw [s_X13_see_3_1, if_pos c_10]; exact g22), (fun q n0 n1 n2 n3 => ((fr23 q n3).trans (va_up_ne _ _ n3)))⟩ dX13_see_18
set_option maxRecDepth 20000 in
theorem fX13_fate_173 : FL wsX13_fate RX13 173 12 2 := ⟨RX13, TX13, 67, rfl, by decide +kernel, by decide, by decide +kernel⟩
set_option maxRecDepth 20000 in
theorem fX13_fate_130 : FL wsX13_fate RX13 130 12 45 := ⟨RX13, TX13, 67, rfl, by decide +kernel, by decide, by decide +kernel⟩
set_option maxRecDepth 20000 in
theorem fX13_fate_435 : FL wsX13_fate RX13 435 12 46 := ⟨RX13, TX13, 67, rfl, by decide +kernel, by decide, by decide +kernel⟩
set_option maxRecDepth 20000 in
theorem fX13_fate_124 : FL wsX13_fate RX13 124 12 43 := ⟨RX13, TX13, 67, rfl, by decide +kernel, by decide, by decide +kernel⟩
def s_X13_fate (mv : Nat → Int32) (toldF : Nat → Int32) (fateF : Nat → Int32) (x : Int32) : Int32 := if (s_X13_isThing toldF x) = 0 then (s_X13_fail) else if (mv 45) = (-1) then (s_X13_fail) else if (((mv 46) >>> (x &&& 31)) &&& 1) = 1 then (fateF x.toNatClampNeg) else (s_X13_fail)
def s_X13_fate_0_1 (mv : Nat → Int32) (toldF : Nat → Int32) (x : Int32) : Nat → Int32 := if (s_X13_isThing toldF x) = 0 then (upd (upd mv 2 0) 2 1) else if (mv 45) = (-1) then (upd (upd mv 2 0) 2 1) else if (((mv 46) >>> (x &&& 31)) &&& 1) = 1 then (upd mv 2 0) else (upd (upd mv 2 0) 2 1)
set_option maxHeartbeats 4000000 in
set_option maxRecDepth 100000 in
theorem c_X13_fate (l : Launch) (D : va_G) (cB cI cJ : ClassId) (ad : Nat → Nat) (n : Nat) (M : Nat → va_E) (hI : ipI ad n) (mb : Nat) (nt : Nat) (nc : Nat) (np : Nat) (nq : Nat) (mv : Nat → Int32) (toldF : Nat → Int32) (fateF : Nat → Int32) (x : Int32) (h_mb : mb < n) (h_mb_3 : mb + 3 < n) (h_mb_30 : mb + 30 < n) (m_mb : M mb = .inr (12, modF ad mb mv)) (m_mb_3 : M (mb + 3) = .inl (cI, 14, .inl toldF)) (m_mb_30 : M (mb + 30) = .inl (cI, 12, .inl fateF)) (k0 : toldF 0 = nI np) (hnp : np ≤ 4) (k1 : toldF 1 = nI nc) (hnc : nc ≤ 5) (k2 : toldF 2 = nI nt) (hnt : nt ≤ 12) (k3 : toldF 3 = nI nq) (hnq : nq ≤ 6) : cWi l D cB cI cJ ad n M yX13_fate wsX13_fate 2 46 [.ref (ad mb), .int x] (fun r M' => r = s_X13_fate mv toldF fateF x ∧ M' mb = .inr (12, modF ad mb (s_X13_fate_0_1 mv toldF x)) ∧ ∀ q : Nat, q ≠ mb → M' q = M q) := by
  refine q_body (cc := cX13_fate) (maxL := 2) (ret := (some .int)) (by decide) rfl (Nat.le_of_ble_eq_true rfl) ?_
  intro p e s m args below meth c ls X hr hlocks hK hP hl
  obtain ⟨hx, hb, hml, hown, hts⟩ := id X
  have hS : va_S (ipA ad n) s.heap s.heap [] := va_S.rf
  have hl : lv_has ls 2 [(0, .ref (ad mb)), (1, .int x)] := hl
  refine lv_aload_n hx hb dX13_fate_0 rfl (lv_at hl 0 rfl) ?_
  refine lv_iconst (v := 0) hx hb dX13_fate_1 (by decide) ?_
  refine q_put (fs := modF ad mb mv) (fs' := modF ad mb (upd mv 2 0)) X hK hI hP hS fX13_fate_173 fw_12_2 h_mb m_mb rfl rfl (Nat.le_of_ble_eq_true rfl) rfl dX13_fate_2 (fun H locs hP hS => ?_)
  refine lv_aload_n hx hb dX13_fate_5 rfl (lv_at hl 0 rfl) ?_
  refine lv_iload_n hx hb dX13_fate_6 rfl (lv_at hl 1 rfl) ?_
  refine q_rdV (As := [.int x]) (rest := []) (c_X13_isThing l D cB cI cJ ad n (va_up M mb (.inr (12, modF ad mb (upd mv 2 0)))) mb nt nc np nq (upd mv 2 0) toldF x h_mb h_mb_3 (va_up_self M mb (.inr (12, modF ad mb (upd mv 2 0)))) ((va_up_ne M (.inr (12, modF ad mb (upd mv 2 0))) (show mb + 3 ≠ mb by omega)).trans m_mb_3) k0 hnp k1 hnc k2 hnt k3 hnq) X hK hP hS hl.1 rfl gX13_fate_X13_isThing yd_X13_isThing ⟨Nat.le_of_ble_eq_true rfl, Nat.le_of_ble_eq_true rfl⟩ h_mb (va_up_self M mb (.inr (12, modF ad mb (upd mv 2 0)))) (ci := 12) rfl rfl (Nat.le_of_ble_eq_true rfl) ⟨Nat.zero_le _, Nat.zero_le _⟩ dX13_fate_7 ?_
  refine lv_if_eq (tgt := 42) hx hb dX13_fate_10 (by decide) (fun c_10 => ?_) (fun c_10 => ?_)
  · skip
    refine lv_aload_n hx hb dX13_fate_42 rfl (lv_at hl 0 rfl) ?_
    refine lv_iconst (v := 1) hx hb dX13_fate_43 (by decide) ?_
    refine q_wrVi (As := [.int 1]) (rest := []) (c_X13_fail l D cB cI cJ ad n (va_up M mb (.inr (12, modF ad mb (upd mv 2 0)))) hI mb (upd mv 2 0) 1 h_mb (va_up_self M mb (.inr (12, modF ad mb (upd mv 2 0)))) ) X hK hP hS hl.1 rfl gX13_fate_X13_fail yd_X13_fail ⟨Nat.le_of_ble_eq_true rfl, Nat.le_of_ble_eq_true rfl⟩ h_mb (va_up_self M mb (.inr (12, modF ad mb (upd mv 2 0)))) (ci := 12) rfl rfl (Nat.le_of_ble_eq_true rfl) ⟨Nat.zero_le _, Nat.zero_le _⟩ dX13_fate_44 (fun r5 M4 H locs hp3 hP hS => ?_)
    obtain ⟨rfl, g6, fr7⟩ := hp3
    exact q_wzret X hr hlocks hP hS (rfl) ⟨(by rw [s_X13_fate, if_pos c_10]), (by rw [s_X13_fate_0_1, if_pos c_10]; exact g6), (fun q n0 => ((fr7 q n0).trans (va_up_ne _ _ n0)))⟩ dX13_fate_47
  · skip
    have hv_10 := isThing_vp k2 hnt c_10
    refine lv_aload_n hx hb dX13_fate_13 rfl (lv_at hl 0 rfl) ?_
    refine q_get (v := .int (mv 45)) (fs := modF ad mb (upd mv 2 0)) X hK hP fX13_fate_130 h_mb (va_up_self M mb (.inr (12, modF ad mb (upd mv 2 0)))) rfl dX13_fate_14 ?_
    refine lv_iconst (v := (-1)) hx hb dX13_fate_17 (by decide) ?_
    refine lv_icmp_eq (tgt := 42) hx hb dX13_fate_18 (by decide) (fun c_18 => ?_) (fun c_18 => ?_)
    · skip
      refine lv_aload_n hx hb dX13_fate_42 rfl (lv_at hl 0 rfl) ?_
      refine lv_iconst (v := 1) hx hb dX13_fate_43 (by decide) ?_
      refine q_wrVi (As := [.int 1]) (rest := []) (c_X13_fail l D cB cI cJ ad n (va_up M mb (.inr (12, modF ad mb (upd mv 2 0)))) hI mb (upd mv 2 0) 1 h_mb (va_up_self M mb (.inr (12, modF ad mb (upd mv 2 0)))) ) X hK hP hS hl.1 rfl gX13_fate_X13_fail yd_X13_fail ⟨Nat.le_of_ble_eq_true rfl, Nat.le_of_ble_eq_true rfl⟩ h_mb (va_up_self M mb (.inr (12, modF ad mb (upd mv 2 0)))) (ci := 12) rfl rfl (Nat.le_of_ble_eq_true rfl) ⟨Nat.zero_le _, Nat.zero_le _⟩ dX13_fate_44 (fun r10 M9 H locs hp8 hP hS => ?_)
      obtain ⟨rfl, g11, fr12⟩ := hp8
      exact q_wzret X hr hlocks hP hS (rfl) ⟨(by rw [s_X13_fate, if_neg c_10, if_pos c_18]), (by rw [s_X13_fate_0_1, if_neg c_10, if_pos c_18]; exact g11), (fun q n0 => ((fr12 q n0).trans (va_up_ne _ _ n0)))⟩ dX13_fate_47
    · skip
      refine lv_aload_n hx hb dX13_fate_21 rfl (lv_at hl 0 rfl) ?_
      refine q_get (v := .int (mv 46)) (fs := modF ad mb (upd mv 2 0)) X hK hP fX13_fate_435 h_mb (va_up_self M mb (.inr (12, modF ad mb (upd mv 2 0)))) rfl dX13_fate_22 ?_
      refine lv_iload_n hx hb dX13_fate_25 rfl (lv_at hl 1 rfl) ?_
      refine lv_ishr hx hb dX13_fate_26 ?_
      refine lv_iconst (v := 1) hx hb dX13_fate_27 (by decide) ?_
      refine lv_iand hx hb dX13_fate_28 ?_
      refine lv_iconst (v := 1) hx hb dX13_fate_29 (by decide) ?_
      refine lv_icmp_ne (tgt := 42) hx hb dX13_fate_30 (by decide) (fun c_30 => ?_) (fun c_30 => ?_)
      · skip
        refine lv_aload_n hx hb dX13_fate_42 rfl (lv_at hl 0 rfl) ?_
        refine lv_iconst (v := 1) hx hb dX13_fate_43 (by decide) ?_
        refine q_wrVi (As := [.int 1]) (rest := []) (c_X13_fail l D cB cI cJ ad n (va_up M mb (.inr (12, modF ad mb (upd mv 2 0)))) hI mb (upd mv 2 0) 1 h_mb (va_up_self M mb (.inr (12, modF ad mb (upd mv 2 0)))) ) X hK hP hS hl.1 rfl gX13_fate_X13_fail yd_X13_fail ⟨Nat.le_of_ble_eq_true rfl, Nat.le_of_ble_eq_true rfl⟩ h_mb (va_up_self M mb (.inr (12, modF ad mb (upd mv 2 0)))) (ci := 12) rfl rfl (Nat.le_of_ble_eq_true rfl) ⟨Nat.zero_le _, Nat.zero_le _⟩ dX13_fate_44 (fun r15 M14 H locs hp13 hP hS => ?_)
        obtain ⟨rfl, g16, fr17⟩ := hp13
        exact q_wzret X hr hlocks hP hS (rfl) ⟨(by rw [s_X13_fate, if_neg c_10, if_neg c_18, if_neg c_30]), (by rw [s_X13_fate_0_1, if_neg c_10, if_neg c_18, if_neg c_30]; exact g16), (fun q n0 => ((fr17 q n0).trans (va_up_ne _ _ n0)))⟩ dX13_fate_47
      · skip
        refine lv_aload_n hx hb dX13_fate_33 rfl (lv_at hl 0 rfl) ?_
        refine q_get (v := .ref (ad (mb + 30))) (fs := modF ad mb (upd mv 2 0)) X hK hP fX13_fate_124 h_mb (va_up_self M mb (.inr (12, modF ad mb (upd mv 2 0)))) rfl dX13_fate_34 ?_
        refine lv_iload_n hx hb dX13_fate_37 rfl (lv_at hl 1 rfl) ?_
        refine q_iald (f := fateF) (k := 12) X hK hP h_mb_30 ((va_up_ne M (.inr (12, modF ad mb (upd mv 2 0))) (show mb + 30 ≠ mb by omega)).trans m_mb_30) (vp_12 k2 hnt c_10) dX13_fate_38 ?_
        refine lv_goto (tgt := 47) hx hb dX13_fate_39 (by decide) ?_
        exact q_wzret X hr hlocks hP hS (rfl) ⟨(by rw [s_X13_fate, if_neg c_10, if_neg c_18, if_pos c_30]), (by rw [s_X13_fate_0_1, if_neg c_10, if_neg c_18, if_pos c_30]; exact (va_up_self M mb (.inr (12, modF ad mb (upd mv 2 0))))), (fun q n0 => (va_up_ne _ _ n0))⟩ dX13_fate_47
set_option maxRecDepth 20000 in
theorem fX13_fault_173 : FL wsX13_fault RX13 173 12 2 := ⟨RX13, TX13, 67, rfl, by decide +kernel, by decide, by decide +kernel⟩
set_option maxRecDepth 20000 in
theorem fX13_fault_102 : FL wsX13_fault RX13 102 12 33 := ⟨RX13, TX13, 67, rfl, by decide +kernel, by decide, by decide +kernel⟩
def s_X13_fault (mv : Nat → Int32) : Int32 := (mv 33)
set_option maxHeartbeats 4000000 in
set_option maxRecDepth 100000 in
theorem c_X13_fault (l : Launch) (D : va_G) (cB cI cJ : ClassId) (ad : Nat → Nat) (n : Nat) (M : Nat → va_E) (hI : ipI ad n) (mb : Nat) (mv : Nat → Int32) (h_mb : mb < n) (m_mb : M mb = .inr (12, modF ad mb mv))  : cWi l D cB cI cJ ad n M yX13_fault wsX13_fault 0 0 [.ref (ad mb)] (fun r M' => r = s_X13_fault mv ∧ M' mb = .inr (12, modF ad mb (upd mv 2 0)) ∧ ∀ q : Nat, q ≠ mb → M' q = M q) := by
  refine q_body (cc := cX13_fault) (maxL := 1) (ret := (some .int)) (by decide) rfl (Nat.le_of_ble_eq_true rfl) ?_
  intro p e s m args below meth c ls X hr hlocks hK hP hl
  obtain ⟨hx, hb, hml, hown, hts⟩ := id X
  have hS : va_S (ipA ad n) s.heap s.heap [] := va_S.rf
  have hl : lv_has ls 1 [(0, .ref (ad mb))] := hl
  refine lv_aload_n hx hb dX13_fault_0 rfl (lv_at hl 0 rfl) ?_
  refine lv_iconst (v := 0) hx hb dX13_fault_1 (by decide) ?_
  refine q_put (fs := modF ad mb mv) (fs' := modF ad mb (upd mv 2 0)) X hK hI hP hS fX13_fault_173 fw_12_2 h_mb m_mb rfl rfl (Nat.le_of_ble_eq_true rfl) rfl dX13_fault_2 (fun H locs hP hS => ?_)
  refine lv_aload_n hx hb dX13_fault_5 rfl (lv_at hl 0 rfl) ?_
  refine q_get (v := .int (mv 33)) (fs := modF ad mb (upd mv 2 0)) X hK hP fX13_fault_102 h_mb (va_up_self M mb (.inr (12, modF ad mb (upd mv 2 0)))) rfl dX13_fault_6 ?_
  exact q_wzret X hr hlocks hP hS (rfl) ⟨(by rfl), (va_up_self M mb (.inr (12, modF ad mb (upd mv 2 0)))), (fun q n0 => (va_up_ne _ _ n0))⟩ dX13_fault_9
set_option maxRecDepth 20000 in
theorem fX13_lawful_173 : FL wsX13_lawful RX13 173 12 2 := ⟨RX13, TX13, 67, rfl, by decide +kernel, by decide, by decide +kernel⟩
set_option maxRecDepth 20000 in
theorem fX13_lawful_40 : FL wsX13_lawful RX13 40 12 3 := ⟨RX13, TX13, 67, rfl, by decide +kernel, by decide, by decide +kernel⟩
set_option maxRecDepth 20000 in
theorem fX13_lawful_84 : FL wsX13_lawful RX13 84 12 18 := ⟨RX13, TX13, 67, rfl, by decide +kernel, by decide, by decide +kernel⟩
set_option maxRecDepth 20000 in
theorem fX13_lawful_66 : FL wsX13_lawful RX13 66 12 12 := ⟨RX13, TX13, 67, rfl, by decide +kernel, by decide, by decide +kernel⟩
def s_X13_lawful_55s (kindF : Nat → Int32) (placeF : Nat → Int32) (t38 : Nat) (t55 : Nat) (x55_3 : Int32) (x55_2 : Int32) : Int32 × Int32 := if (placeF t55) = (nI t38) then if x55_2 = 0 then if (kindF t55) = 3 then if x55_3 = 0 then if (kindF t55) = 1 then (1, 1) else if (kindF t55) = 5 then (1, 1) else (0, 1) else (1, 1) else if x55_3 = 0 then if (kindF t55) = 1 then (1, 0) else if (kindF t55) = 5 then (1, 0) else (0, 0) else (1, 0) else if x55_3 = 0 then if (kindF t55) = 1 then (1, 1) else if (kindF t55) = 5 then (1, 1) else (0, 1) else (1, 1) else (x55_3, x55_2)
def s_X13_lawful_55 (kindF : Nat → Int32) (placeF : Nat → Int32) (t38 : Nat) (z0 : Int32) (z1 : Int32) : Nat → Int32 × Int32
  | 0 => (z0, z1)
  | t + 1 => s_X13_lawful_55s kindF placeF t38 t ((s_X13_lawful_55 kindF placeF t38 z0 z1 t).1) ((s_X13_lawful_55 kindF placeF t38 z0 z1 t).2)
def s_X13_lawful_38 (nt : Nat) (kindF : Nat → Int32) (placeF : Nat → Int32) : Nat → Nat → Int32
  | 0, _ => 0
  | r + 1, t38 => if ((s_X13_lawful_55 kindF placeF t38 0 0 nt).2) = 0 then s_X13_lawful_38 nt kindF placeF r (t38 + 1) else if ((s_X13_lawful_55 kindF placeF t38 0 0 nt).1) = 0 then (10 + (nI t38)) else s_X13_lawful_38 nt kindF placeF r (t38 + 1)
def s_X13_lawful_7 (nt : Nat) (nc : Nat) (limitF : Nat → Int32) (kindF : Nat → Int32) (heavyF : Nat → Int32) (wideF : Nat → Int32) (hotF : Nat → Int32) (placeF : Nat → Int32) : Nat → Nat → Int32
  | 0, _ => (s_X13_lawful_38 nt kindF placeF nc 0)
  | r + 1, t7 => if (s_X13_overOf nt limitF kindF heavyF wideF hotF placeF (nI t7)) ≤ 0 then s_X13_lawful_7 nt nc limitF kindF heavyF wideF hotF placeF r (t7 + 1) else (20 + (nI t7))
def s_X13_lawful (nt : Nat) (nc : Nat) (limitF : Nat → Int32) (kindF : Nat → Int32) (heavyF : Nat → Int32) (wideF : Nat → Int32) (hotF : Nat → Int32) (placeF : Nat → Int32) : Int32 := (s_X13_lawful_7 nt nc limitF kindF heavyF wideF hotF placeF nc 0)
set_option maxHeartbeats 4000000 in
set_option maxRecDepth 100000 in
theorem c_X13_lawful (l : Launch) (D : va_G) (cB cI cJ : ClassId) (ad : Nat → Nat) (n : Nat) (M : Nat → va_E) (hI : ipI ad n) (mb : Nat) (nt : Nat) (nc : Nat) (np : Nat) (nq : Nat) (mv : Nat → Int32) (toldF : Nat → Int32) (limitF : Nat → Int32) (kindF : Nat → Int32) (heavyF : Nat → Int32) (wideF : Nat → Int32) (hotF : Nat → Int32) (placeF : Nat → Int32) (h_mb : mb < n) (h_mb_3 : mb + 3 < n) (h_mb_8 : mb + 8 < n) (h_mb_12 : mb + 12 < n) (h_mb_13 : mb + 13 < n) (h_mb_15 : mb + 15 < n) (h_mb_17 : mb + 17 < n) (h_mb_18 : mb + 18 < n) (m_mb : M mb = .inr (12, modF ad mb mv)) (m_mb_3 : M (mb + 3) = .inl (cI, 14, .inl toldF)) (m_mb_8 : M (mb + 8) = .inl (cI, 10, .inl limitF)) (m_mb_12 : M (mb + 12) = .inl (cI, 24, .inl kindF)) (m_mb_13 : M (mb + 13) = .inl (cI, 24, .inl heavyF)) (m_mb_15 : M (mb + 15) = .inl (cI, 24, .inl wideF)) (m_mb_17 : M (mb + 17) = .inl (cI, 24, .inl hotF)) (m_mb_18 : M (mb + 18) = .inl (cI, 24, .inl placeF)) (k0 : toldF 0 = nI np) (hnp : np ≤ 4) (k1 : toldF 1 = nI nc) (hnc : nc ≤ 5) (k2 : toldF 2 = nI nt) (hnt : nt ≤ 12) (k3 : toldF 3 = nI nq) (hnq : nq ≤ 6) : cWi l D cB cI cJ ad n M yX13_lawful wsX13_lawful 2 46 [.ref (ad mb)] (fun r M' => r = s_X13_lawful nt nc limitF kindF heavyF wideF hotF placeF ∧ M' mb = .inr (12, modF ad mb (upd mv 2 0)) ∧ ∀ q : Nat, q ≠ mb → M' q = M q) := by
  refine q_body (cc := cX13_lawful) (maxL := 5) (ret := (some .int)) (by decide) rfl (Nat.le_of_ble_eq_true rfl) ?_
  intro p e s m args below meth c ls X hr hlocks hK hP hl
  obtain ⟨hx, hb, hml, hown, hts⟩ := id X
  have hS : va_S (ipA ad n) s.heap s.heap [] := va_S.rf
  have hl : lv_has ls 5 [(0, .ref (ad mb))] := hl
  refine lv_aload_n hx hb dX13_lawful_0 rfl (lv_at hl 0 rfl) ?_
  refine lv_iconst (v := 0) hx hb dX13_lawful_1 (by decide) ?_
  refine q_put (fs := modF ad mb mv) (fs' := modF ad mb (upd mv 2 0)) X hK hI hP hS fX13_lawful_173 fw_12_2 h_mb m_mb rfl rfl (Nat.le_of_ble_eq_true rfl) rfl dX13_lawful_2 (fun H locs hP hS => ?_)
  refine lv_iconst (v := 0) hx hb dX13_lawful_5 (by decide) ?_
  refine lv_istore_n (lv' := [(1, .int 0), (0, .ref (ad mb))]) hx hb dX13_lawful_6 rfl hl (by decide) rfl (fun ls hl => ?_)
  have loop_7 : ∀ (fuel : Nat) (t7 : Nat), nc - (t7) < fuel → t7 ≤ nc → s_X13_lawful_7 nt nc limitF kindF heavyF wideF hotF placeF (nc - (t7)) t7 = s_X13_lawful nt nc limitF kindF heavyF wideF hotF placeF → ∀ (ML7 : Nat → va_E) (H : Heap) (locs : List Loc), (∀ q : Nat, ML7 q = va_up M mb (.inr (12, modF ad mb (upd mv 2 0))) q) → va_P D vwCl (ip ad n ML7) H → va_S (ipA ad n) s.heap H locs → ∀ (ls : Array Slot), lv_has ls 5 [(1, .int (nI t7)), (0, .ref (ad mb))] → W p l e (rmOf 2 46) s m args below meth c H locs 0 0 (MQ below (va_Qi (fun r M' => r = s_X13_lawful nt nc limitF kindF heavyF wideF hotF placeF ∧ M' mb = .inr (12, modF ad mb (upd mv 2 0)) ∧ ∀ q : Nat, q ≠ mb → M' q = M q) (fun M' t => va_P D vwCl (ip ad n M') t.heap) (ipA ad n)) args s 0 0 (ipA ad n)) (F0 m 7 ls []) := by
    intro fuel
    induction fuel with
    | zero =>
      intro t7 hz
      exact absurd hz (Nat.not_lt_zero _)
    | succ fuel ih_7 =>
      intro t7 hz_7 h_t7 hB_7 ML7 H locs fL7 hP hS ls hl
      skip
      refine lv_iload_n hx hb dX13_lawful_7 rfl (lv_at hl 0 rfl) ?_
      refine lv_aload_n hx hb dX13_lawful_8 rfl (lv_at hl 1 rfl) ?_
      refine q_get (v := .ref (ad (mb + 3))) (fs := modF ad mb (upd mv 2 0)) X hK hP fX13_lawful_40 h_mb ((fL7 mb ).trans (va_up_self M mb (.inr (12, modF ad mb (upd mv 2 0))))) rfl dX13_lawful_9 ?_
      refine lv_iconst (v := 1) hx hb dX13_lawful_12 (by decide) ?_
      refine q_ialdN (f := toldF) (k := 14) X hK hP 1 h_mb_3 ((fL7 (mb + 3) ).trans ((va_up_ne M (.inr (12, modF ad mb (upd mv 2 0))) (show mb + 3 ≠ mb by omega)).trans m_mb_3)) (by decide) (by decide) dX13_lawful_13 ?_
      refine lv_icmp_ge (tgt := 36) hx hb dX13_lawful_14 (by decide) (fun c_14 => ?_) (fun c_14 => ?_)
      · rw [k1] at c_14
        have h9_7 : t7 = nc := eq_of_le (t := t7) (k := nc) c_14 (by omega) h_t7
        subst t7
        refine lv_iconst (v := 0) hx hb dX13_lawful_36 (by decide) ?_
        refine lv_istore_n (lv' := [(1, .int 0), (0, .ref (ad mb))]) hx hb dX13_lawful_37 rfl hl (by decide) rfl (fun ls hl => ?_)
        have loop_38 : ∀ (fuel : Nat) (t38 : Nat), nc - (t38) < fuel → t38 ≤ nc → s_X13_lawful_38 nt kindF placeF (nc - (t38)) t38 = s_X13_lawful nt nc limitF kindF heavyF wideF hotF placeF → ∀ (ML38 : Nat → va_E) (H : Heap) (locs : List Loc), (∀ q : Nat, ML38 q = ML7 q) → va_P D vwCl (ip ad n ML38) H → va_S (ipA ad n) s.heap H locs → ∀ (ls : Array Slot), lv_has ls 5 [(1, .int (nI t38)), (0, .ref (ad mb))] → W p l e (rmOf 2 46) s m args below meth c H locs 0 0 (MQ below (va_Qi (fun r M' => r = s_X13_lawful nt nc limitF kindF heavyF wideF hotF placeF ∧ M' mb = .inr (12, modF ad mb (upd mv 2 0)) ∧ ∀ q : Nat, q ≠ mb → M' q = M q) (fun M' t => va_P D vwCl (ip ad n M') t.heap) (ipA ad n)) args s 0 0 (ipA ad n)) (F0 m 38 ls []) := by
          intro fuel
          induction fuel with
          | zero =>
            intro t38 hz
            exact absurd hz (Nat.not_lt_zero _)
          | succ fuel ih_38 =>
            intro t38 hz_38 h_t38 hB_38 ML38 H locs fL38 hP hS ls hl
            skip
            refine lv_iload_n hx hb dX13_lawful_38 rfl (lv_at hl 0 rfl) ?_
            refine lv_aload_n hx hb dX13_lawful_39 rfl (lv_at hl 1 rfl) ?_
            refine q_get (v := .ref (ad (mb + 3))) (fs := modF ad mb (upd mv 2 0)) X hK hP fX13_lawful_40 h_mb ((fL38 mb ).trans ((fL7 mb ).trans (va_up_self M mb (.inr (12, modF ad mb (upd mv 2 0)))))) rfl dX13_lawful_40 ?_
            refine lv_iconst (v := 1) hx hb dX13_lawful_43 (by decide) ?_
            refine q_ialdN (f := toldF) (k := 14) X hK hP 1 h_mb_3 ((fL38 (mb + 3) ).trans ((fL7 (mb + 3) ).trans ((va_up_ne M (.inr (12, modF ad mb (upd mv 2 0))) (show mb + 3 ≠ mb by omega)).trans m_mb_3))) (by decide) (by decide) dX13_lawful_44 ?_
            refine lv_icmp_ge (tgt := 158) hx hb dX13_lawful_45 (by decide) (fun c_45 => ?_) (fun c_45 => ?_)
            · rw [k1] at c_45
              have h9_38 : t38 = nc := eq_of_le (t := t38) (k := nc) c_45 (by omega) h_t38
              subst t38
              refine lv_iconst (v := 0) hx hb dX13_lawful_158 (by decide) ?_
              exact q_wzret X hr hlocks hP hS (rfl) ⟨(by rw [← hB_38, Nat.sub_self, s_X13_lawful_38]), ((fL38 mb ).trans ((fL7 mb ).trans (va_up_self M mb (.inr (12, modF ad mb (upd mv 2 0)))))), (fun q n0 => ((fL38 q).trans ((fL7 q).trans (va_up_ne _ _ n0))))⟩ dX13_lawful_159
            · rw [k1] at c_45
              have h9_38 : t38 < nc := lt_of_nlt (t := t38) (k := nc) c_45 (by omega) h_t38
              refine lv_iconst (v := 0) hx hb dX13_lawful_48 (by decide) ?_
              refine lv_istore_n (lv' := [(2, .int 0), (1, .int (nI t38)), (0, .ref (ad mb))]) hx hb dX13_lawful_49 rfl hl (by decide) rfl (fun ls hl => ?_)
              refine lv_iconst (v := 0) hx hb dX13_lawful_50 (by decide) ?_
              refine lv_istore_n (lv' := [(3, .int 0), (2, .int 0), (1, .int (nI t38)), (0, .ref (ad mb))]) hx hb dX13_lawful_51 rfl hl (by decide) rfl (fun ls hl => ?_)
              refine lv_iconst (v := 0) hx hb dX13_lawful_52 (by decide) ?_
              refine lv_istore (lv' := [(4, .int 0), (3, .int 0), (2, .int 0), (1, .int (nI t38)), (0, .ref (ad mb))]) hx hb dX13_lawful_53 hl (by decide) rfl (fun ls hl => ?_)
              have loop_55 : ∀ (fuel : Nat) (t55 : Nat) (x55_3 : Int32) (x55_2 : Int32), nt - (t55) < fuel → t55 ≤ nt → x55_3 = (s_X13_lawful_55 kindF placeF t38 0 0 t55).1 → x55_2 = (s_X13_lawful_55 kindF placeF t38 0 0 t55).2 → ∀ (ML55 : Nat → va_E) (H : Heap) (locs : List Loc), (∀ q : Nat, ML55 q = ML38 q) → va_P D vwCl (ip ad n ML55) H → va_S (ipA ad n) s.heap H locs → ∀ (ls : Array Slot), lv_has ls 5 [(4, .int (nI t55)), (3, .int x55_3), (2, .int x55_2), (1, .int (nI t38)), (0, .ref (ad mb))] → W p l e (rmOf 2 46) s m args below meth c H locs 0 0 (MQ below (va_Qi (fun r M' => r = s_X13_lawful nt nc limitF kindF heavyF wideF hotF placeF ∧ M' mb = .inr (12, modF ad mb (upd mv 2 0)) ∧ ∀ q : Nat, q ≠ mb → M' q = M q) (fun M' t => va_P D vwCl (ip ad n M') t.heap) (ipA ad n)) args s 0 0 (ipA ad n)) (F0 m 55 ls []) := by
                intro fuel
                induction fuel with
                | zero =>
                  intro t55 x55_3 x55_2 hz
                  exact absurd hz (Nat.not_lt_zero _)
                | succ fuel ih_55 =>
                  intro t55 x55_3 x55_2 hz_55 h_t55 e_x55_3 e_x55_2 ML55 H locs fL55 hP hS ls hl
                  skip
                  refine lv_iload hx hb dX13_lawful_55 (lv_at hl 0 rfl) ?_
                  refine lv_aload_n hx hb dX13_lawful_57 rfl (lv_at hl 4 rfl) ?_
                  refine q_get (v := .ref (ad (mb + 3))) (fs := modF ad mb (upd mv 2 0)) X hK hP fX13_lawful_40 h_mb ((fL55 mb ).trans ((fL38 mb ).trans ((fL7 mb ).trans (va_up_self M mb (.inr (12, modF ad mb (upd mv 2 0))))))) rfl dX13_lawful_58 ?_
                  refine lv_iconst (v := 2) hx hb dX13_lawful_61 (by decide) ?_
                  refine q_ialdN (f := toldF) (k := 14) X hK hP 2 h_mb_3 ((fL55 (mb + 3) ).trans ((fL38 (mb + 3) ).trans ((fL7 (mb + 3) ).trans ((va_up_ne M (.inr (12, modF ad mb (upd mv 2 0))) (show mb + 3 ≠ mb by omega)).trans m_mb_3)))) (by decide) (by decide) dX13_lawful_62 ?_
                  refine lv_icmp_ge (tgt := 139) hx hb dX13_lawful_63 (by decide) (fun c_63 => ?_) (fun c_63 => ?_)
                  · rw [k2] at c_63
                    have h9_55 : t55 = nt := eq_of_le (t := t55) (k := nt) c_63 (by omega) h_t55
                    subst t55
                    subst e_x55_3
                    subst e_x55_2
                    refine lv_iload_n hx hb dX13_lawful_139 rfl (lv_at hl 2 rfl) ?_
                    refine lv_if_eq (tgt := 152) hx hb dX13_lawful_140 (by decide) (fun c_140 => ?_) (fun c_140 => ?_)
                    · skip
                      refine lv_iinc (v := ((nI t38) + 1)) (lv' := [(1, .int ((nI t38) + 1)), (4, .int (nI nt)), (3, .int ((s_X13_lawful_55 kindF placeF t38 0 0 nt).1)), (2, .int ((s_X13_lawful_55 kindF placeF t38 0 0 nt).2)), (0, .ref (ad mb))]) hx hb dX13_lawful_152 hl (k := 3) rfl rfl (by decide) rfl (fun ls hl => ?_)
                      refine lv_goto (tgt := 38) hx hb dX13_lawful_155 (by decide) ?_
                      exact ih_38 (t38 + 1)  (by omega) (by omega) (by rw [← hB_38, show nc - (t38) = (nc - (t38 + 1)) + 1 by omega, s_X13_lawful_38, if_pos c_140]) _ _ _ (fun q => ((fL55 q).trans (fL38 q))) hP hS ls (by rw [(show nI (t38 + 1) = nI t38 + 1 by exact nI_succ _)]; exact lv_sub hl [0, 4] rfl)
                    · skip
                      refine lv_iload_n hx hb dX13_lawful_143 rfl (lv_at hl 1 rfl) ?_
                      refine lv_if_ne (tgt := 152) hx hb dX13_lawful_144 (by decide) (fun c_144 => ?_) (fun c_144 => ?_)
                      · skip
                        refine lv_iinc (v := ((nI t38) + 1)) (lv' := [(1, .int ((nI t38) + 1)), (4, .int (nI nt)), (3, .int ((s_X13_lawful_55 kindF placeF t38 0 0 nt).1)), (2, .int ((s_X13_lawful_55 kindF placeF t38 0 0 nt).2)), (0, .ref (ad mb))]) hx hb dX13_lawful_152 hl (k := 3) rfl rfl (by decide) rfl (fun ls hl => ?_)
                        refine lv_goto (tgt := 38) hx hb dX13_lawful_155 (by decide) ?_
                        exact ih_38 (t38 + 1)  (by omega) (by omega) (by rw [← hB_38, show nc - (t38) = (nc - (t38 + 1)) + 1 by omega, s_X13_lawful_38, if_neg c_140, if_neg c_144]) _ _ _ (fun q => ((fL55 q).trans (fL38 q))) hP hS ls (by rw [(show nI (t38 + 1) = nI t38 + 1 by exact nI_succ _)]; exact lv_sub hl [0, 4] rfl)
                      · skip
                        refine lv_bipush (v := 10) hx hb dX13_lawful_147 (by decide) ?_
                        refine lv_iload_n hx hb dX13_lawful_149 rfl (lv_at hl 3 rfl) ?_
                        refine lv_iadd hx hb dX13_lawful_150 ?_
                        exact q_wzret X hr hlocks hP hS (rfl) ⟨(by rw [← hB_38, show nc - t38 = (nc - (t38 + 1)) + 1 by omega, s_X13_lawful_38, if_neg c_140, if_pos c_144]), ((fL55 mb ).trans ((fL38 mb ).trans ((fL7 mb ).trans (va_up_self M mb (.inr (12, modF ad mb (upd mv 2 0))))))), (fun q n0 => ((fL55 q).trans ((fL38 q).trans ((fL7 q).trans (va_up_ne _ _ n0)))))⟩ dX13_lawful_151
                  · rw [k2] at c_63
                    have h9_55 : t55 < nt := lt_of_nlt (t := t55) (k := nt) c_63 (by omega) h_t55
                    refine lv_aload_n hx hb dX13_lawful_66 rfl (lv_at hl 4 rfl) ?_
                    refine q_get (v := .ref (ad (mb + 18))) (fs := modF ad mb (upd mv 2 0)) X hK hP fX13_lawful_84 h_mb ((fL55 mb ).trans ((fL38 mb ).trans ((fL7 mb ).trans (va_up_self M mb (.inr (12, modF ad mb (upd mv 2 0))))))) rfl dX13_lawful_67 ?_
                    refine lv_iload hx hb dX13_lawful_70 (lv_at hl 0 rfl) ?_
                    refine q_ialdN (f := placeF) (k := 24) X hK hP t55 h_mb_18 ((fL55 (mb + 18) ).trans ((fL38 (mb + 18) ).trans ((fL7 (mb + 18) ).trans ((va_up_ne M (.inr (12, modF ad mb (upd mv 2 0))) (show mb + 18 ≠ mb by omega)).trans m_mb_18)))) (by omega) (by decide) dX13_lawful_72 ?_
                    refine lv_iload_n hx hb dX13_lawful_73 rfl (lv_at hl 3 rfl) ?_
                    refine lv_icmp_eq (tgt := 80) hx hb dX13_lawful_74 (by decide) (fun c_74 => ?_) (fun c_74 => ?_)
                    · skip
                      refine lv_iload_n hx hb dX13_lawful_80 rfl (lv_at hl 2 rfl) ?_
                      refine lv_if_ne (tgt := 95) hx hb dX13_lawful_81 (by decide) (fun c_81 => ?_) (fun c_81 => ?_)
                      · skip
                        refine lv_iconst (v := 1) hx hb dX13_lawful_95 (by decide) ?_
                        refine lv_goto (tgt := 100) hx hb dX13_lawful_96 (by decide) ?_
                        refine lv_istore_n (lv' := [(2, .int 1), (4, .int (nI t55)), (3, .int x55_3), (1, .int (nI t38)), (0, .ref (ad mb))]) hx hb dX13_lawful_100 rfl hl (by decide) rfl (fun ls hl => ?_)
                        refine lv_iload_n hx hb dX13_lawful_101 rfl (lv_at hl 2 rfl) ?_
                        refine lv_if_ne (tgt := 127) hx hb dX13_lawful_102 (by decide) (fun c_102 => ?_) (fun c_102 => ?_)
                        · skip
                          refine lv_iconst (v := 1) hx hb dX13_lawful_127 (by decide) ?_
                          refine lv_goto (tgt := 132) hx hb dX13_lawful_128 (by decide) ?_
                          refine lv_istore_n (lv' := [(3, .int 1), (2, .int 1), (4, .int (nI t55)), (1, .int (nI t38)), (0, .ref (ad mb))]) hx hb dX13_lawful_132 rfl hl (by decide) rfl (fun ls hl => ?_)
                          refine lv_iinc (v := ((nI t55) + 1)) (lv' := [(4, .int ((nI t55) + 1)), (3, .int 1), (2, .int 1), (1, .int (nI t38)), (0, .ref (ad mb))]) hx hb dX13_lawful_133 hl (k := 2) rfl rfl (by decide) rfl (fun ls hl => ?_)
                          refine lv_goto (tgt := 55) hx hb dX13_lawful_136 (by decide) ?_
                          exact ih_55 (t55 + 1) 1 1 (by omega) (by omega) (by rw [s_X13_lawful_55, ← e_x55_3, ← e_x55_2, s_X13_lawful_55s, if_pos c_74, if_neg c_81, if_neg c_102]) (by rw [s_X13_lawful_55, ← e_x55_3, ← e_x55_2, s_X13_lawful_55s, if_pos c_74, if_neg c_81, if_neg c_102]) _ _ _ (fun q => (fL55 q)) hP hS ls (by rw [(show nI (t55 + 1) = nI t55 + 1 by exact nI_succ _)]; exact lv_sub hl [0, 1, 2, 3, 4] rfl)
                        · skip
                          refine lv_aload_n hx hb dX13_lawful_105 rfl (lv_at hl 4 rfl) ?_
                          refine q_get (v := .ref (ad (mb + 12))) (fs := modF ad mb (upd mv 2 0)) X hK hP fX13_lawful_66 h_mb ((fL55 mb ).trans ((fL38 mb ).trans ((fL7 mb ).trans (va_up_self M mb (.inr (12, modF ad mb (upd mv 2 0))))))) rfl dX13_lawful_106 ?_
                          refine lv_iload hx hb dX13_lawful_109 (lv_at hl 1 rfl) ?_
                          refine q_ialdN (f := kindF) (k := 24) X hK hP t55 h_mb_12 ((fL55 (mb + 12) ).trans ((fL38 (mb + 12) ).trans ((fL7 (mb + 12) ).trans ((va_up_ne M (.inr (12, modF ad mb (upd mv 2 0))) (show mb + 12 ≠ mb by omega)).trans m_mb_12)))) (by omega) (by decide) dX13_lawful_111 ?_
                          refine lv_iconst (v := 1) hx hb dX13_lawful_112 (by decide) ?_
                          refine lv_icmp_eq (tgt := 127) hx hb dX13_lawful_113 (by decide) (fun c_113 => ?_) (fun c_113 => ?_)
                          · skip
                            refine lv_iconst (v := 1) hx hb dX13_lawful_127 (by decide) ?_
                            refine lv_goto (tgt := 132) hx hb dX13_lawful_128 (by decide) ?_
                            refine lv_istore_n (lv' := [(3, .int 1), (2, .int 1), (4, .int (nI t55)), (1, .int (nI t38)), (0, .ref (ad mb))]) hx hb dX13_lawful_132 rfl hl (by decide) rfl (fun ls hl => ?_)
                            refine lv_iinc (v := ((nI t55) + 1)) (lv' := [(4, .int ((nI t55) + 1)), (3, .int 1), (2, .int 1), (1, .int (nI t38)), (0, .ref (ad mb))]) hx hb dX13_lawful_133 hl (k := 2) rfl rfl (by decide) rfl (fun ls hl => ?_)
                            refine lv_goto (tgt := 55) hx hb dX13_lawful_136 (by decide) ?_
                            exact ih_55 (t55 + 1) 1 1 (by omega) (by omega) (by rw [s_X13_lawful_55, ← e_x55_3, ← e_x55_2, s_X13_lawful_55s, if_pos c_74, if_neg c_81, if_pos c_102, if_pos c_113]) (by rw [s_X13_lawful_55, ← e_x55_3, ← e_x55_2, s_X13_lawful_55s, if_pos c_74, if_neg c_81, if_pos c_102, if_pos c_113]) _ _ _ (fun q => (fL55 q)) hP hS ls (by rw [(show nI (t55 + 1) = nI t55 + 1 by exact nI_succ _)]; exact lv_sub hl [0, 1, 2, 3, 4] rfl)
                          · skip
                            refine lv_aload_n hx hb dX13_lawful_116 rfl (lv_at hl 4 rfl) ?_
                            refine q_get (v := .ref (ad (mb + 12))) (fs := modF ad mb (upd mv 2 0)) X hK hP fX13_lawful_66 h_mb ((fL55 mb ).trans ((fL38 mb ).trans ((fL7 mb ).trans (va_up_self M mb (.inr (12, modF ad mb (upd mv 2 0))))))) rfl dX13_lawful_117 ?_
                            refine lv_iload hx hb dX13_lawful_120 (lv_at hl 1 rfl) ?_
                            refine q_ialdN (f := kindF) (k := 24) X hK hP t55 h_mb_12 ((fL55 (mb + 12) ).trans ((fL38 (mb + 12) ).trans ((fL7 (mb + 12) ).trans ((va_up_ne M (.inr (12, modF ad mb (upd mv 2 0))) (show mb + 12 ≠ mb by omega)).trans m_mb_12)))) (by omega) (by decide) dX13_lawful_122 ?_
                            refine lv_iconst (v := 5) hx hb dX13_lawful_123 (by decide) ?_
                            refine lv_icmp_ne (tgt := 131) hx hb dX13_lawful_124 (by decide) (fun c_124 => ?_) (fun c_124 => ?_)
                            · skip
                              refine lv_iconst (v := 0) hx hb dX13_lawful_131 (by decide) ?_
                              refine lv_istore_n (lv' := [(3, .int 0), (2, .int 1), (4, .int (nI t55)), (1, .int (nI t38)), (0, .ref (ad mb))]) hx hb dX13_lawful_132 rfl hl (by decide) rfl (fun ls hl => ?_)
                              refine lv_iinc (v := ((nI t55) + 1)) (lv' := [(4, .int ((nI t55) + 1)), (3, .int 0), (2, .int 1), (1, .int (nI t38)), (0, .ref (ad mb))]) hx hb dX13_lawful_133 hl (k := 2) rfl rfl (by decide) rfl (fun ls hl => ?_)
                              refine lv_goto (tgt := 55) hx hb dX13_lawful_136 (by decide) ?_
                              exact ih_55 (t55 + 1) 0 1 (by omega) (by omega) (by rw [s_X13_lawful_55, ← e_x55_3, ← e_x55_2, s_X13_lawful_55s, if_pos c_74, if_neg c_81, if_pos c_102, if_neg c_113, if_neg c_124]) (by rw [s_X13_lawful_55, ← e_x55_3, ← e_x55_2, s_X13_lawful_55s, if_pos c_74, if_neg c_81, if_pos c_102, if_neg c_113, if_neg c_124]) _ _ _ (fun q => (fL55 q)) hP hS ls (by rw [(show nI (t55 + 1) = nI t55 + 1 by exact nI_succ _)]; exact lv_sub hl [0, 1, 2, 3, 4] rfl)
                            · skip
                              refine lv_iconst (v := 1) hx hb dX13_lawful_127 (by decide) ?_
                              refine lv_goto (tgt := 132) hx hb dX13_lawful_128 (by decide) ?_
                              refine lv_istore_n (lv' := [(3, .int 1), (2, .int 1), (4, .int (nI t55)), (1, .int (nI t38)), (0, .ref (ad mb))]) hx hb dX13_lawful_132 rfl hl (by decide) rfl (fun ls hl => ?_)
                              refine lv_iinc (v := ((nI t55) + 1)) (lv' := [(4, .int ((nI t55) + 1)), (3, .int 1), (2, .int 1), (1, .int (nI t38)), (0, .ref (ad mb))]) hx hb dX13_lawful_133 hl (k := 2) rfl rfl (by decide) rfl (fun ls hl => ?_)
                              refine lv_goto (tgt := 55) hx hb dX13_lawful_136 (by decide) ?_
                              exact ih_55 (t55 + 1) 1 1 (by omega) (by omega) (by rw [s_X13_lawful_55, ← e_x55_3, ← e_x55_2, s_X13_lawful_55s, if_pos c_74, if_neg c_81, if_pos c_102, if_neg c_113, if_pos c_124]) (by rw [s_X13_lawful_55, ← e_x55_3, ← e_x55_2, s_X13_lawful_55s, if_pos c_74, if_neg c_81, if_pos c_102, if_neg c_113, if_pos c_124]) _ _ _ (fun q => (fL55 q)) hP hS ls (by rw [(show nI (t55 + 1) = nI t55 + 1 by exact nI_succ _)]; exact lv_sub hl [0, 1, 2, 3, 4] rfl)
                      · skip
                        refine lv_aload_n hx hb dX13_lawful_84 rfl (lv_at hl 4 rfl) ?_
                        refine q_get (v := .ref (ad (mb + 12))) (fs := modF ad mb (upd mv 2 0)) X hK hP fX13_lawful_66 h_mb ((fL55 mb ).trans ((fL38 mb ).trans ((fL7 mb ).trans (va_up_self M mb (.inr (12, modF ad mb (upd mv 2 0))))))) rfl dX13_lawful_85 ?_
                        refine lv_iload hx hb dX13_lawful_88 (lv_at hl 0 rfl) ?_
                        refine q_ialdN (f := kindF) (k := 24) X hK hP t55 h_mb_12 ((fL55 (mb + 12) ).trans ((fL38 (mb + 12) ).trans ((fL7 (mb + 12) ).trans ((va_up_ne M (.inr (12, modF ad mb (upd mv 2 0))) (show mb + 12 ≠ mb by omega)).trans m_mb_12)))) (by omega) (by decide) dX13_lawful_90 ?_
                        refine lv_iconst (v := 3) hx hb dX13_lawful_91 (by decide) ?_
                        refine lv_icmp_ne (tgt := 99) hx hb dX13_lawful_92 (by decide) (fun c_92 => ?_) (fun c_92 => ?_)
                        · skip
                          refine lv_iconst (v := 0) hx hb dX13_lawful_99 (by decide) ?_
                          refine lv_istore_n (lv' := [(2, .int 0), (4, .int (nI t55)), (3, .int x55_3), (1, .int (nI t38)), (0, .ref (ad mb))]) hx hb dX13_lawful_100 rfl hl (by decide) rfl (fun ls hl => ?_)
                          refine lv_iload_n hx hb dX13_lawful_101 rfl (lv_at hl 2 rfl) ?_
                          refine lv_if_ne (tgt := 127) hx hb dX13_lawful_102 (by decide) (fun c_102 => ?_) (fun c_102 => ?_)
                          · skip
                            refine lv_iconst (v := 1) hx hb dX13_lawful_127 (by decide) ?_
                            refine lv_goto (tgt := 132) hx hb dX13_lawful_128 (by decide) ?_
                            refine lv_istore_n (lv' := [(3, .int 1), (2, .int 0), (4, .int (nI t55)), (1, .int (nI t38)), (0, .ref (ad mb))]) hx hb dX13_lawful_132 rfl hl (by decide) rfl (fun ls hl => ?_)
                            refine lv_iinc (v := ((nI t55) + 1)) (lv' := [(4, .int ((nI t55) + 1)), (3, .int 1), (2, .int 0), (1, .int (nI t38)), (0, .ref (ad mb))]) hx hb dX13_lawful_133 hl (k := 2) rfl rfl (by decide) rfl (fun ls hl => ?_)
                            refine lv_goto (tgt := 55) hx hb dX13_lawful_136 (by decide) ?_
                            exact ih_55 (t55 + 1) 1 0 (by omega) (by omega) (by rw [s_X13_lawful_55, ← e_x55_3, ← e_x55_2, s_X13_lawful_55s, if_pos c_74, if_pos c_81, if_neg c_92, if_neg c_102]) (by rw [s_X13_lawful_55, ← e_x55_3, ← e_x55_2, s_X13_lawful_55s, if_pos c_74, if_pos c_81, if_neg c_92, if_neg c_102]) _ _ _ (fun q => (fL55 q)) hP hS ls (by rw [(show nI (t55 + 1) = nI t55 + 1 by exact nI_succ _)]; exact lv_sub hl [0, 1, 2, 3, 4] rfl)
                          · skip
                            refine lv_aload_n hx hb dX13_lawful_105 rfl (lv_at hl 4 rfl) ?_
                            refine q_get (v := .ref (ad (mb + 12))) (fs := modF ad mb (upd mv 2 0)) X hK hP fX13_lawful_66 h_mb ((fL55 mb ).trans ((fL38 mb ).trans ((fL7 mb ).trans (va_up_self M mb (.inr (12, modF ad mb (upd mv 2 0))))))) rfl dX13_lawful_106 ?_
                            refine lv_iload hx hb dX13_lawful_109 (lv_at hl 1 rfl) ?_
                            refine q_ialdN (f := kindF) (k := 24) X hK hP t55 h_mb_12 ((fL55 (mb + 12) ).trans ((fL38 (mb + 12) ).trans ((fL7 (mb + 12) ).trans ((va_up_ne M (.inr (12, modF ad mb (upd mv 2 0))) (show mb + 12 ≠ mb by omega)).trans m_mb_12)))) (by omega) (by decide) dX13_lawful_111 ?_
                            refine lv_iconst (v := 1) hx hb dX13_lawful_112 (by decide) ?_
                            refine lv_icmp_eq (tgt := 127) hx hb dX13_lawful_113 (by decide) (fun c_113 => ?_) (fun c_113 => ?_)
                            · skip
                              refine lv_iconst (v := 1) hx hb dX13_lawful_127 (by decide) ?_
                              refine lv_goto (tgt := 132) hx hb dX13_lawful_128 (by decide) ?_
                              refine lv_istore_n (lv' := [(3, .int 1), (2, .int 0), (4, .int (nI t55)), (1, .int (nI t38)), (0, .ref (ad mb))]) hx hb dX13_lawful_132 rfl hl (by decide) rfl (fun ls hl => ?_)
                              refine lv_iinc (v := ((nI t55) + 1)) (lv' := [(4, .int ((nI t55) + 1)), (3, .int 1), (2, .int 0), (1, .int (nI t38)), (0, .ref (ad mb))]) hx hb dX13_lawful_133 hl (k := 2) rfl rfl (by decide) rfl (fun ls hl => ?_)
                              refine lv_goto (tgt := 55) hx hb dX13_lawful_136 (by decide) ?_
                              exact ih_55 (t55 + 1) 1 0 (by omega) (by omega) (by rw [s_X13_lawful_55, ← e_x55_3, ← e_x55_2, s_X13_lawful_55s, if_pos c_74, if_pos c_81, if_neg c_92, if_pos c_102, if_pos c_113]) (by rw [s_X13_lawful_55, ← e_x55_3, ← e_x55_2, s_X13_lawful_55s, if_pos c_74, if_pos c_81, if_neg c_92, if_pos c_102, if_pos c_113]) _ _ _ (fun q => (fL55 q)) hP hS ls (by rw [(show nI (t55 + 1) = nI t55 + 1 by exact nI_succ _)]; exact lv_sub hl [0, 1, 2, 3, 4] rfl)
                            · skip
                              refine lv_aload_n hx hb dX13_lawful_116 rfl (lv_at hl 4 rfl) ?_
                              refine q_get (v := .ref (ad (mb + 12))) (fs := modF ad mb (upd mv 2 0)) X hK hP fX13_lawful_66 h_mb ((fL55 mb ).trans ((fL38 mb ).trans ((fL7 mb ).trans (va_up_self M mb (.inr (12, modF ad mb (upd mv 2 0))))))) rfl dX13_lawful_117 ?_
                              refine lv_iload hx hb dX13_lawful_120 (lv_at hl 1 rfl) ?_
                              refine q_ialdN (f := kindF) (k := 24) X hK hP t55 h_mb_12 ((fL55 (mb + 12) ).trans ((fL38 (mb + 12) ).trans ((fL7 (mb + 12) ).trans ((va_up_ne M (.inr (12, modF ad mb (upd mv 2 0))) (show mb + 12 ≠ mb by omega)).trans m_mb_12)))) (by omega) (by decide) dX13_lawful_122 ?_
                              refine lv_iconst (v := 5) hx hb dX13_lawful_123 (by decide) ?_
                              refine lv_icmp_ne (tgt := 131) hx hb dX13_lawful_124 (by decide) (fun c_124 => ?_) (fun c_124 => ?_)
                              · skip
                                refine lv_iconst (v := 0) hx hb dX13_lawful_131 (by decide) ?_
                                refine lv_istore_n (lv' := [(3, .int 0), (2, .int 0), (4, .int (nI t55)), (1, .int (nI t38)), (0, .ref (ad mb))]) hx hb dX13_lawful_132 rfl hl (by decide) rfl (fun ls hl => ?_)
                                refine lv_iinc (v := ((nI t55) + 1)) (lv' := [(4, .int ((nI t55) + 1)), (3, .int 0), (2, .int 0), (1, .int (nI t38)), (0, .ref (ad mb))]) hx hb dX13_lawful_133 hl (k := 2) rfl rfl (by decide) rfl (fun ls hl => ?_)
                                refine lv_goto (tgt := 55) hx hb dX13_lawful_136 (by decide) ?_
                                exact ih_55 (t55 + 1) 0 0 (by omega) (by omega) (by rw [s_X13_lawful_55, ← e_x55_3, ← e_x55_2, s_X13_lawful_55s, if_pos c_74, if_pos c_81, if_neg c_92, if_pos c_102, if_neg c_113, if_neg c_124]) (by rw [s_X13_lawful_55, ← e_x55_3, ← e_x55_2, s_X13_lawful_55s, if_pos c_74, if_pos c_81, if_neg c_92, if_pos c_102, if_neg c_113, if_neg c_124]) _ _ _ (fun q => (fL55 q)) hP hS ls (by rw [(show nI (t55 + 1) = nI t55 + 1 by exact nI_succ _)]; exact lv_sub hl [0, 1, 2, 3, 4] rfl)
                              · skip
                                refine lv_iconst (v := 1) hx hb dX13_lawful_127 (by decide) ?_
                                refine lv_goto (tgt := 132) hx hb dX13_lawful_128 (by decide) ?_
                                refine lv_istore_n (lv' := [(3, .int 1), (2, .int 0), (4, .int (nI t55)), (1, .int (nI t38)), (0, .ref (ad mb))]) hx hb dX13_lawful_132 rfl hl (by decide) rfl (fun ls hl => ?_)
                                refine lv_iinc (v := ((nI t55) + 1)) (lv' := [(4, .int ((nI t55) + 1)), (3, .int 1), (2, .int 0), (1, .int (nI t38)), (0, .ref (ad mb))]) hx hb dX13_lawful_133 hl (k := 2) rfl rfl (by decide) rfl (fun ls hl => ?_)
                                refine lv_goto (tgt := 55) hx hb dX13_lawful_136 (by decide) ?_
                                exact ih_55 (t55 + 1) 1 0 (by omega) (by omega) (by rw [s_X13_lawful_55, ← e_x55_3, ← e_x55_2, s_X13_lawful_55s, if_pos c_74, if_pos c_81, if_neg c_92, if_pos c_102, if_neg c_113, if_pos c_124]) (by rw [s_X13_lawful_55, ← e_x55_3, ← e_x55_2, s_X13_lawful_55s, if_pos c_74, if_pos c_81, if_neg c_92, if_pos c_102, if_neg c_113, if_pos c_124]) _ _ _ (fun q => (fL55 q)) hP hS ls (by rw [(show nI (t55 + 1) = nI t55 + 1 by exact nI_succ _)]; exact lv_sub hl [0, 1, 2, 3, 4] rfl)
                        · skip
                          refine lv_iconst (v := 1) hx hb dX13_lawful_95 (by decide) ?_
                          refine lv_goto (tgt := 100) hx hb dX13_lawful_96 (by decide) ?_
                          refine lv_istore_n (lv' := [(2, .int 1), (4, .int (nI t55)), (3, .int x55_3), (1, .int (nI t38)), (0, .ref (ad mb))]) hx hb dX13_lawful_100 rfl hl (by decide) rfl (fun ls hl => ?_)
                          refine lv_iload_n hx hb dX13_lawful_101 rfl (lv_at hl 2 rfl) ?_
                          refine lv_if_ne (tgt := 127) hx hb dX13_lawful_102 (by decide) (fun c_102 => ?_) (fun c_102 => ?_)
                          · skip
                            refine lv_iconst (v := 1) hx hb dX13_lawful_127 (by decide) ?_
                            refine lv_goto (tgt := 132) hx hb dX13_lawful_128 (by decide) ?_
                            refine lv_istore_n (lv' := [(3, .int 1), (2, .int 1), (4, .int (nI t55)), (1, .int (nI t38)), (0, .ref (ad mb))]) hx hb dX13_lawful_132 rfl hl (by decide) rfl (fun ls hl => ?_)
                            refine lv_iinc (v := ((nI t55) + 1)) (lv' := [(4, .int ((nI t55) + 1)), (3, .int 1), (2, .int 1), (1, .int (nI t38)), (0, .ref (ad mb))]) hx hb dX13_lawful_133 hl (k := 2) rfl rfl (by decide) rfl (fun ls hl => ?_)
                            refine lv_goto (tgt := 55) hx hb dX13_lawful_136 (by decide) ?_
                            exact ih_55 (t55 + 1) 1 1 (by omega) (by omega) (by rw [s_X13_lawful_55, ← e_x55_3, ← e_x55_2, s_X13_lawful_55s, if_pos c_74, if_pos c_81, if_pos c_92, if_neg c_102]) (by rw [s_X13_lawful_55, ← e_x55_3, ← e_x55_2, s_X13_lawful_55s, if_pos c_74, if_pos c_81, if_pos c_92, if_neg c_102]) _ _ _ (fun q => (fL55 q)) hP hS ls (by rw [(show nI (t55 + 1) = nI t55 + 1 by exact nI_succ _)]; exact lv_sub hl [0, 1, 2, 3, 4] rfl)
                          · skip
                            refine lv_aload_n hx hb dX13_lawful_105 rfl (lv_at hl 4 rfl) ?_
                            refine q_get (v := .ref (ad (mb + 12))) (fs := modF ad mb (upd mv 2 0)) X hK hP fX13_lawful_66 h_mb ((fL55 mb ).trans ((fL38 mb ).trans ((fL7 mb ).trans (va_up_self M mb (.inr (12, modF ad mb (upd mv 2 0))))))) rfl dX13_lawful_106 ?_
                            refine lv_iload hx hb dX13_lawful_109 (lv_at hl 1 rfl) ?_
                            refine q_ialdN (f := kindF) (k := 24) X hK hP t55 h_mb_12 ((fL55 (mb + 12) ).trans ((fL38 (mb + 12) ).trans ((fL7 (mb + 12) ).trans ((va_up_ne M (.inr (12, modF ad mb (upd mv 2 0))) (show mb + 12 ≠ mb by omega)).trans m_mb_12)))) (by omega) (by decide) dX13_lawful_111 ?_
                            refine lv_iconst (v := 1) hx hb dX13_lawful_112 (by decide) ?_
                            refine lv_icmp_eq (tgt := 127) hx hb dX13_lawful_113 (by decide) (fun c_113 => ?_) (fun c_113 => ?_)
                            · skip
                              refine lv_iconst (v := 1) hx hb dX13_lawful_127 (by decide) ?_
                              refine lv_goto (tgt := 132) hx hb dX13_lawful_128 (by decide) ?_
                              refine lv_istore_n (lv' := [(3, .int 1), (2, .int 1), (4, .int (nI t55)), (1, .int (nI t38)), (0, .ref (ad mb))]) hx hb dX13_lawful_132 rfl hl (by decide) rfl (fun ls hl => ?_)
                              refine lv_iinc (v := ((nI t55) + 1)) (lv' := [(4, .int ((nI t55) + 1)), (3, .int 1), (2, .int 1), (1, .int (nI t38)), (0, .ref (ad mb))]) hx hb dX13_lawful_133 hl (k := 2) rfl rfl (by decide) rfl (fun ls hl => ?_)
                              refine lv_goto (tgt := 55) hx hb dX13_lawful_136 (by decide) ?_
                              exact ih_55 (t55 + 1) 1 1 (by omega) (by omega) (by rw [s_X13_lawful_55, ← e_x55_3, ← e_x55_2, s_X13_lawful_55s, if_pos c_74, if_pos c_81, if_pos c_92, if_pos c_102, if_pos c_113]) (by rw [s_X13_lawful_55, ← e_x55_3, ← e_x55_2, s_X13_lawful_55s, if_pos c_74, if_pos c_81, if_pos c_92, if_pos c_102, if_pos c_113]) _ _ _ (fun q => (fL55 q)) hP hS ls (by rw [(show nI (t55 + 1) = nI t55 + 1 by exact nI_succ _)]; exact lv_sub hl [0, 1, 2, 3, 4] rfl)
                            · skip
                              refine lv_aload_n hx hb dX13_lawful_116 rfl (lv_at hl 4 rfl) ?_
                              refine q_get (v := .ref (ad (mb + 12))) (fs := modF ad mb (upd mv 2 0)) X hK hP fX13_lawful_66 h_mb ((fL55 mb ).trans ((fL38 mb ).trans ((fL7 mb ).trans (va_up_self M mb (.inr (12, modF ad mb (upd mv 2 0))))))) rfl dX13_lawful_117 ?_
                              refine lv_iload hx hb dX13_lawful_120 (lv_at hl 1 rfl) ?_
                              refine q_ialdN (f := kindF) (k := 24) X hK hP t55 h_mb_12 ((fL55 (mb + 12) ).trans ((fL38 (mb + 12) ).trans ((fL7 (mb + 12) ).trans ((va_up_ne M (.inr (12, modF ad mb (upd mv 2 0))) (show mb + 12 ≠ mb by omega)).trans m_mb_12)))) (by omega) (by decide) dX13_lawful_122 ?_
                              refine lv_iconst (v := 5) hx hb dX13_lawful_123 (by decide) ?_
                              refine lv_icmp_ne (tgt := 131) hx hb dX13_lawful_124 (by decide) (fun c_124 => ?_) (fun c_124 => ?_)
                              · skip
                                refine lv_iconst (v := 0) hx hb dX13_lawful_131 (by decide) ?_
                                refine lv_istore_n (lv' := [(3, .int 0), (2, .int 1), (4, .int (nI t55)), (1, .int (nI t38)), (0, .ref (ad mb))]) hx hb dX13_lawful_132 rfl hl (by decide) rfl (fun ls hl => ?_)
                                refine lv_iinc (v := ((nI t55) + 1)) (lv' := [(4, .int ((nI t55) + 1)), (3, .int 0), (2, .int 1), (1, .int (nI t38)), (0, .ref (ad mb))]) hx hb dX13_lawful_133 hl (k := 2) rfl rfl (by decide) rfl (fun ls hl => ?_)
                                refine lv_goto (tgt := 55) hx hb dX13_lawful_136 (by decide) ?_
                                exact ih_55 (t55 + 1) 0 1 (by omega) (by omega) (by rw [s_X13_lawful_55, ← e_x55_3, ← e_x55_2, s_X13_lawful_55s, if_pos c_74, if_pos c_81, if_pos c_92, if_pos c_102, if_neg c_113, if_neg c_124]) (by rw [s_X13_lawful_55, ← e_x55_3, ← e_x55_2, s_X13_lawful_55s, if_pos c_74, if_pos c_81, if_pos c_92, if_pos c_102, if_neg c_113, if_neg c_124]) _ _ _ (fun q => (fL55 q)) hP hS ls (by rw [(show nI (t55 + 1) = nI t55 + 1 by exact nI_succ _)]; exact lv_sub hl [0, 1, 2, 3, 4] rfl)
                              · skip
                                refine lv_iconst (v := 1) hx hb dX13_lawful_127 (by decide) ?_
                                refine lv_goto (tgt := 132) hx hb dX13_lawful_128 (by decide) ?_
                                refine lv_istore_n (lv' := [(3, .int 1), (2, .int 1), (4, .int (nI t55)), (1, .int (nI t38)), (0, .ref (ad mb))]) hx hb dX13_lawful_132 rfl hl (by decide) rfl (fun ls hl => ?_)
                                refine lv_iinc (v := ((nI t55) + 1)) (lv' := [(4, .int ((nI t55) + 1)), (3, .int 1), (2, .int 1), (1, .int (nI t38)), (0, .ref (ad mb))]) hx hb dX13_lawful_133 hl (k := 2) rfl rfl (by decide) rfl (fun ls hl => ?_)
                                refine lv_goto (tgt := 55) hx hb dX13_lawful_136 (by decide) ?_
                                exact ih_55 (t55 + 1) 1 1 (by omega) (by omega) (by rw [s_X13_lawful_55, ← e_x55_3, ← e_x55_2, s_X13_lawful_55s, if_pos c_74, if_pos c_81, if_pos c_92, if_pos c_102, if_neg c_113, if_pos c_124]) (by rw [s_X13_lawful_55, ← e_x55_3, ← e_x55_2, s_X13_lawful_55s, if_pos c_74, if_pos c_81, if_pos c_92, if_pos c_102, if_neg c_113, if_pos c_124]) _ _ _ (fun q => (fL55 q)) hP hS ls (by rw [(show nI (t55 + 1) = nI t55 + 1 by exact nI_succ _)]; exact lv_sub hl [0, 1, 2, 3, 4] rfl)
                    · skip
                      refine lv_goto (tgt := 133) hx hb dX13_lawful_77 (by decide) ?_
                      refine lv_iinc (v := ((nI t55) + 1)) (lv' := [(4, .int ((nI t55) + 1)), (3, .int x55_3), (2, .int x55_2), (1, .int (nI t38)), (0, .ref (ad mb))]) hx hb dX13_lawful_133 hl (k := 0) rfl rfl (by decide) rfl (fun ls hl => ?_)
                      refine lv_goto (tgt := 55) hx hb dX13_lawful_136 (by decide) ?_
                      exact ih_55 (t55 + 1) x55_3 x55_2 (by omega) (by omega) (by rw [s_X13_lawful_55, ← e_x55_3, ← e_x55_2, s_X13_lawful_55s, if_neg c_74]) (by rw [s_X13_lawful_55, ← e_x55_3, ← e_x55_2, s_X13_lawful_55s, if_neg c_74]) _ _ _ (fun q => (fL55 q)) hP hS ls (by rw [(show nI (t55 + 1) = nI t55 + 1 by exact nI_succ _)]; exact lv_sub hl [0, 1, 2, 3, 4] rfl)
              exact loop_55 (nt + 1) 0 0 0 (by omega) (by omega) (by rfl) (by rfl) _ _ _ (fun q => rfl) hP hS ls (lv_sub hl [0, 1, 2, 3, 4] rfl)
        exact loop_38 (nc + 1) 0  (by omega) (by omega) (by rw [← hB_7, Nat.sub_self, s_X13_lawful_7] <;> rfl) _ _ _ (fun q => rfl) hP hS ls (lv_sub hl [0, 1] rfl)
      · rw [k1] at c_14
        have h9_7 : t7 < nc := lt_of_nlt (t := t7) (k := nc) c_14 (by omega) h_t7
        refine lv_aload_n hx hb dX13_lawful_17 rfl (lv_at hl 1 rfl) ?_
        refine lv_iload_n hx hb dX13_lawful_18 rfl (lv_at hl 0 rfl) ?_
        refine q_rdV (As := [.int (nI t7)]) (rest := []) (c_X13_overOf l D cB cI cJ ad n ML7 mb nt nc np nq (upd mv 2 0) toldF limitF kindF heavyF wideF hotF placeF (nI t7) h_mb h_mb_3 h_mb_8 h_mb_12 h_mb_13 h_mb_15 h_mb_17 h_mb_18 ((fL7 mb ).trans (va_up_self M mb (.inr (12, modF ad mb (upd mv 2 0))))) ((fL7 (mb + 3) ).trans ((va_up_ne M (.inr (12, modF ad mb (upd mv 2 0))) (show mb + 3 ≠ mb by omega)).trans m_mb_3)) ((fL7 (mb + 8) ).trans ((va_up_ne M (.inr (12, modF ad mb (upd mv 2 0))) (show mb + 8 ≠ mb by omega)).trans m_mb_8)) ((fL7 (mb + 12) ).trans ((va_up_ne M (.inr (12, modF ad mb (upd mv 2 0))) (show mb + 12 ≠ mb by omega)).trans m_mb_12)) ((fL7 (mb + 13) ).trans ((va_up_ne M (.inr (12, modF ad mb (upd mv 2 0))) (show mb + 13 ≠ mb by omega)).trans m_mb_13)) ((fL7 (mb + 15) ).trans ((va_up_ne M (.inr (12, modF ad mb (upd mv 2 0))) (show mb + 15 ≠ mb by omega)).trans m_mb_15)) ((fL7 (mb + 17) ).trans ((va_up_ne M (.inr (12, modF ad mb (upd mv 2 0))) (show mb + 17 ≠ mb by omega)).trans m_mb_17)) ((fL7 (mb + 18) ).trans ((va_up_ne M (.inr (12, modF ad mb (upd mv 2 0))) (show mb + 18 ≠ mb by omega)).trans m_mb_18)) k0 hnp k1 hnc k2 hnt k3 hnq (by first | assumption | omega | exact vp_in_nI (by omega) (by decide) | exact vp_in_iff.mpr (by decide))) X hK hP hS hl.1 rfl gX13_lawful_X13_overOf yd_X13_overOf ⟨Nat.le_of_ble_eq_true rfl, Nat.le_of_ble_eq_true rfl⟩ h_mb ((fL7 mb ).trans (va_up_self M mb (.inr (12, modF ad mb (upd mv 2 0))))) (ci := 12) rfl rfl (Nat.le_of_ble_eq_true rfl) ⟨Nat.zero_le _, Nat.zero_le _⟩ dX13_lawful_19 ?_
        refine lv_if_le (tgt := 30) hx hb dX13_lawful_22 (by decide) (fun c_22 => ?_) (fun c_22 => ?_)
        · skip
          refine lv_iinc (v := ((nI t7) + 1)) (lv' := [(1, .int ((nI t7) + 1)), (0, .ref (ad mb))]) hx hb dX13_lawful_30 hl (k := 0) rfl rfl (by decide) rfl (fun ls hl => ?_)
          refine lv_goto (tgt := 7) hx hb dX13_lawful_33 (by decide) ?_
          exact ih_7 (t7 + 1)  (by omega) (by omega) (by rw [← hB_7, show nc - (t7) = (nc - (t7 + 1)) + 1 by omega, s_X13_lawful_7, if_pos c_22]) _ _ _ (fun q => (fL7 q)) hP hS ls (by rw [(show nI (t7 + 1) = nI t7 + 1 by exact nI_succ _)]; exact lv_sub hl [0, 1] rfl)
        · skip
          refine lv_bipush (v := 20) hx hb dX13_lawful_25 (by decide) ?_
          refine lv_iload_n hx hb dX13_lawful_27 rfl (lv_at hl 0 rfl) ?_
          refine lv_iadd hx hb dX13_lawful_28 ?_
          exact q_wzret X hr hlocks hP hS (rfl) ⟨(by rw [← hB_7, show nc - t7 = (nc - (t7 + 1)) + 1 by omega, s_X13_lawful_7, if_neg c_22]), ((fL7 mb ).trans (va_up_self M mb (.inr (12, modF ad mb (upd mv 2 0))))), (fun q n0 => ((fL7 q).trans (va_up_ne _ _ n0)))⟩ dX13_lawful_29
  exact loop_7 (nc + 1) 0  (by omega) (by omega) (by rw [s_X13_lawful] <;> rfl) _ _ _ (fun q => rfl) hP hS ls (lv_sub hl [0, 1] rfl)
