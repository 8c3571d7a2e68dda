/-! PoundsOverModel: the rule's text at every depth -/
noncomputable section
theorem mOr_eta (en : Nat) (bf : Nat → Int32) (E : Nat → List Int32 → Int32 × Nat × List Int32) (x : Nat) (cs : List Int32) : eLoop en bf (opO en bf) (mAnd en bf E) 700 ((mAnd en bf E x cs).1, (mAnd en bf E x cs).2.1, (mAnd en bf E x cs).2.2) = mOr en bf E x cs := rfl
theorem mOr_bad {en : Nat} {bf : Nat → Int32} {E : Nat → List Int32 → Int32 × Nat × List Int32} {x : Nat} {cs : List Int32} (h2 : ¬ kX en bf x = 2) (h1 : ¬ kX en bf x = 1) (h4 : ¬ kX en bf x = 40) : eLoop en bf (opO en bf) (mAnd en bf E) 700 (1, x, cs) = mOr en bf E x cs := (eLoop_bad (show ¬ (1 : Int32) = 0 by decide) 700).trans (mOr_no h2 h1 h4).symm
set_option maxRecDepth 20000 in
theorem fX13_readExpression_196 : FL wsX13_readExpression RX13 196 12 27 := ⟨RX13, TX13, 67, rfl, by decide +kernel, by decide, by decide +kernel⟩
theorem yd_X13_readAnd : YD yX13_readAnd 1 := ⟨by decide +kernel, by decide +kernel, by decide +kernel⟩
set_option maxHeartbeats 2000000 in
set_option maxRecDepth 100000 in
theorem c_X13_readExpression (l : Launch) (D : va_G) (cB cI cJ : ClassId) (ad : Nat → Nat) (n : Nat) (M : Nat → va_E) (hI : ipI ad n) (mb en x : Nat) (mv tapeF : Nat → Int32) (nu : Int32) (to0 s0 : Nat → Int32) (cs : List Int32) (fE lE : Nat) (E : Nat → List Int32 → Int32 × Nat × List Int32) (dp : Int32) (h_mb : mb < n) (h_mb_23 : mb + 23 < n) (h_mb_3 : mb + 3 < n) (h_mb_21 : mb + 21 < n) (h_mb_2 : mb + 2 < n) (m_mb : M mb = .inr (12, modF ad mb (mR en tapeF mv x 0 nu))) (m_mb_23 : M (mb + 23) = .inl (cI, 700, .inl tapeF)) (m_mb_3 : M (mb + 3) = .inl (cI, 14, .inl (tdC to0 cs))) (m_mb_21 : M (mb + 21) = .inl (cI, 1400, .inl (layM cs s0))) (m_mb_2 : M (mb + 2) = .inl (ad 5000, 5, .inr (.inr (.inr (.inr (txF ad vlI)))))) (hxe : x ≤ en) (hen : en ≤ 700) (hT : bOK tapeF) (k26 : mv 26 = nI en) (hx0 : 0 < x) (hcx : cs.length ≤ x) (hEB : eB en E) (hfE : 10 ≤ fE) (hlE : 200 ≤ lE) (hE : mCon l D cB cI cJ ad n yX13_readExpression wsX13_readExpression fE lE mb en mv tapeF to0 s0 (dp + 1) E) (hdp : ¬ dp = 6) : cWv l D cB cI cJ ad n M yX13_readExpression wsX13_readExpression (fE + 7) (lE + 210) [.ref (ad mb), .int dp] (fun M' => ∃ (v0 : Int32), M' mb = .inr (12, modF ad mb (mR en tapeF mv (mOr en tapeF E x cs).2.1 (mOr en tapeF E x cs).1 v0)) ∧ M' (mb + 3) = .inl (cI, 14, .inl (tdC to0 (mOr en tapeF E x cs).2.2)) ∧ M' (mb + 21) = .inl (cI, 1400, .inl (layM (mOr en tapeF E x cs).2.2 s0)) ∧ ∀ q : Nat, q ≠ mb → q ≠ mb + 3 → q ≠ mb + 21 → M' q = M q) := by
  refine q_body (cc := cX13_readExpression) (maxL := 3) (ret := none) (by decide) rfl (Nat.le_of_ble_eq_true rfl) ?_
  intro p e s m args below meth c ls X hr hlocks hK hP hl
  obtain ⟨hx, hb, hml, hown, hts⟩ := id X
  have hS : va_S (ipA ad n) s.heap s.heap [] := va_S.rf
  have hl : lv_has ls 3 [(0, .ref (ad mb)), (1, .int dp)] := hl
  have hSB : eB en (mAnd en tapeF E) := mAnd_B hen hEB
  refine lv_aload_n hx hb dX13_readExpression_0 rfl (lv_at hl 0 rfl) ?_
  refine q_get (v := .int 0) (fs := modF ad mb (mR en tapeF mv x 0 nu)) X hK hP fX13_readExpression_222 h_mb m_mb rfl dX13_readExpression_1 ?_
  refine lv_if_eq (tgt := 8) hx hb dX13_readExpression_4 (by decide) (fun c_4 => ?_) (fun c_4 => ?_)
  · clear c_4
    refine lv_aload_n hx hb dX13_readExpression_8 rfl (lv_at hl 0 rfl) ?_
    refine q_get (v := .int (mkT (kX en tapeF x))) (fs := modF ad mb (mR en tapeF mv x 0 nu)) X hK hP fX13_readExpression_196 h_mb m_mb rfl dX13_readExpression_9 ?_
    refine lv_iconst (v := 2) hx hb dX13_readExpression_12 (by decide) ?_
    refine lv_icmp_eq (tgt := 33) hx hb dX13_readExpression_13 (by decide) (fun c_13 => ?_) (fun c_13 => ?_)
    · skip
      refine lv_iconst (v := 1) hx hb dX13_readExpression_33 (by decide) ?_
      refine lv_goto (tgt := 38) hx hb dX13_readExpression_34 (by decide) ?_
      refine lv_istore_n (lv' := [(2, .int 1), (0, .ref (ad mb)), (1, .int dp)]) hx hb dX13_readExpression_38 rfl hl (by decide) rfl (fun ls hl => ?_)
      refine lv_iload_n hx hb dX13_readExpression_39 rfl (lv_at hl 0 rfl) ?_
      refine lv_if_ne (tgt := 51) hx hb dX13_readExpression_40 (by decide) (fun c_40 => ?_) (fun c_40 => ?_)
      · clear c_40
        refine lv_iload_n hx hb dX13_readExpression_51 rfl (lv_at hl 2 rfl) ?_
        refine lv_bipush (v := 6) hx hb dX13_readExpression_52 (by decide) ?_
        refine lv_icmp_ne (tgt := 62) hx hb dX13_readExpression_54 (by decide) (fun c_54 => ?_) (fun c_54 => ?_)
        · skip
          refine lv_aload_n hx hb dX13_readExpression_62 rfl (lv_at hl 1 rfl) ?_
          refine lv_iload_n hx hb dX13_readExpression_63 rfl (lv_at hl 2 rfl) ?_
          refine q_wrVv (As := [.int dp]) (rest := []) (c_X13_readAnd l D cB cI cJ ad n M hI mb en x mv tapeF nu to0 s0 cs fE lE E dp h_mb h_mb_23 h_mb_3 h_mb_21 h_mb_2 m_mb m_mb_23 m_mb_3 m_mb_21 m_mb_2 hxe hen hT k26 hx0 hcx hEB hfE hlE hE) X hK hP hS hl.1 rfl gX13_readExpression_X13_readAnd yd_X13_readAnd ⟨by show fE + 6 + 1 ≤ fE + 7; omega, by show 8 + (2 + 11) + (lE + 180) ≤ lE + 210; omega⟩ h_mb m_mb (ci := 12) rfl rfl (Nat.le_of_ble_eq_true rfl) ⟨Nat.zero_le _, Nat.zero_le _⟩ dX13_readExpression_64 (fun M2 H locs hp1 hP hS => ?_)
          obtain ⟨v0_4, g5, g6, g7, fr8⟩ := hp1
          have loop_67 : ∀ (fuel : Nat) (k : Nat) (r3 : Int32 × Nat × List Int32) (nu1 : Int32), en + 1 - r3.2.1 < fuel → (r3.2.1 ≤ en) → (0 < r3.2.1) → (r3.2.2.length ≤ r3.2.1) → (en < k + r3.2.1) → (eLoop en tapeF (opO en tapeF) (mAnd en tapeF E) k r3 = mOr en tapeF E x cs) → ∀ (ML67 : Nat → va_E) (H : Heap) (locs : List Loc), ML67 mb = .inr (12, modF ad mb (mR en tapeF mv r3.2.1 r3.1 nu1)) → ML67 (mb + 3) = .inl (cI, 14, .inl (tdC to0 r3.2.2)) → ML67 (mb + 21) = .inl (cI, 1400, .inl (layM r3.2.2 s0)) → (∀ q : Nat, q ≠ mb → q ≠ mb + 3 → q ≠ mb + 21 → ML67 q = M q) → va_P D vwCl (ip ad n ML67) H → va_S (ipA ad n) s.heap H locs → ∀ (ls : Array Slot), lv_has ls 3 [(0, .ref (ad mb)), (1, .int dp)] → W p l e (rmOf (fE + 7) (lE + 210)) s m args below meth c H locs 0 0 (MQ below (va_Qv (fun M' => ∃ (v0 : Int32), M' mb = .inr (12, modF ad mb (mR en tapeF mv (mOr en tapeF E x cs).2.1 (mOr en tapeF E x cs).1 v0)) ∧ M' (mb + 3) = .inl (cI, 14, .inl (tdC to0 (mOr en tapeF E x cs).2.2)) ∧ M' (mb + 21) = .inl (cI, 1400, .inl (layM (mOr en tapeF E x cs).2.2 s0)) ∧ ∀ q : Nat, q ≠ mb → q ≠ mb + 3 → q ≠ mb + 21 → M' q = M q) (fun M' t => va_P D vwCl (ip ad n M') t.heap) (ipA ad n)) args s 0 0 (ipA ad n)) (F0 m 67 ls []) := by
            intro fuel
            induction fuel with
            | zero =>
              intro k r3 nu1 hz
              exact absurd hz (Nat.not_lt_zero _)
            | succ fuel ih_67 =>
              intro k r3 nu1 hz_67 hx3 hx4 hc3 hk9 he ML67 H locs mL67_0 mL67_1 mL67_2 fL67 hP hS ls hl
              skip
              refine lv_aload_n hx hb dX13_readExpression_67 rfl (lv_at hl 0 rfl) ?_
              refine q_ldcwS (i := 13) (tx := "or") X hK (by decide +kernel) dX13_readExpression_68 ?_
              refine q_rdV (As := [.ref (ad (2000 + 13))]) (rest := []) (c_X13_isR l D cB cI cJ ad n ML67 mb en r3.2.1 mv tapeF nu1 13 r3.1 h_mb h_mb_23 mL67_0 ((fL67 (mb + 23) (by omega) (by omega) (by omega)).trans m_mb_23) (by first | assumption | omega | exact vp_in_nI (by omega) (by decide) | exact vp_in_iff.mpr (by decide)) hen hT k26 (by decide) (by decide)) X hK hP hS hl.1 rfl gX13_readExpression_X13_is yd_X13_is ⟨by show 4 + 1 ≤ fE + 7; omega, by show 8 + (4 + 11) + (85) ≤ lE + 210; omega⟩ h_mb mL67_0 (ci := 12) rfl rfl (Nat.le_of_ble_eq_true rfl) ⟨Nat.zero_le _, Nat.zero_le _⟩ dX13_readExpression_71 ?_
              refine lv_if_eq (tgt := 95) hx hb dX13_readExpression_74 (by decide) (fun c_74 => ?_) (fun c_74 => ?_)
              · skip
                have hfin : r3 = mOr en tapeF E x cs := (Classical.byCases (fun q9 : r3.1 = 0 => (eLoop_op (by rw [opO, if_neg (wdR_n c_74 q9)]) k).symm.trans he) (fun q9 => (eLoop_bad q9 k).symm.trans he))
                exact q_wvret X hr hlocks hP hS ⟨nu1, (by rw [← hfin]; exact mL67_0), (by rw [← hfin]; exact mL67_1), (by rw [← hfin]; exact mL67_2), (fun q n0 n1 n2 => (fL67 q n0 n1 n2))⟩ dX13_readExpression_95
              · skip
                obtain ⟨hf0, hkz⟩ := wdR_1 c_74; have hop : opO en tapeF r3.2.1 = (-10) := (by rw [opO, if_pos hkz]); have hop0 : ¬ opO en tapeF r3.2.1 = 0 := (by rw [hop]; decide); have hgt := opO_B (bf := tapeF) hen r3.2.1 hx3 hop0; have hle := nX_le (bf := tapeF) hx3 hen; have hbd := hSB (nX en tapeF r3.2.1) r3.2.2 hle; obtain ⟨k8, hk8⟩ : ∃ k8, k = k8 + 1 := ⟨k - 1, by omega⟩
                have g9 : ML67 mb = .inr (12, modF ad mb (mR en tapeF mv r3.2.1 0 nu1)) := by refine mL67_0.trans (modC (by rw [hf0]))
                refine lv_aload_n hx hb dX13_readExpression_77 rfl (lv_at hl 0 rfl) ?_
                refine q_wrVv (As := []) (rest := []) (c_X13_stepR l D cB cI cJ ad n ML67 hI mb en r3.2.1 mv tapeF nu1 h_mb h_mb_23 g9 ((fL67 (mb + 23) (by omega) (by omega) (by omega)).trans m_mb_23) (by first | assumption | omega | exact vp_in_nI (by omega) (by decide) | exact vp_in_iff.mpr (by decide)) hen hT k26) X hK hP hS hl.1 rfl gX13_readExpression_X13_stepOn yd_X13_stepOn ⟨by show 1 + 1 ≤ fE + 7; omega, by show 8 + (2 + 11) + (21) ≤ lE + 210; omega⟩ h_mb g9 (ci := 12) rfl rfl (Nat.le_of_ble_eq_true rfl) ⟨Nat.zero_le _, Nat.zero_le _⟩ dX13_readExpression_78 (fun M11 H locs hp10 hP hS => ?_)
                obtain ⟨g13, fr14⟩ := hp10
                refine lv_aload_n hx hb dX13_readExpression_81 rfl (lv_at hl 0 rfl) ?_
                refine lv_iload_n hx hb dX13_readExpression_82 rfl (lv_at hl 1 rfl) ?_
                refine q_wrVv (As := [.int dp]) (rest := []) (c_X13_readAnd l D cB cI cJ ad n M11 hI mb en (nX en tapeF r3.2.1) mv tapeF (mnX en tapeF r3.2.1 nu1) to0 s0 r3.2.2 fE lE E dp h_mb h_mb_23 h_mb_3 h_mb_21 h_mb_2 g13 ((fr14 (mb + 23) (by omega)).trans ((fL67 (mb + 23) (by omega) (by omega) (by omega)).trans m_mb_23)) ((fr14 (mb + 3) (by omega)).trans mL67_1) ((fr14 (mb + 21) (by omega)).trans mL67_2) ((fr14 (mb + 2) (by omega)).trans ((fL67 (mb + 2) (by omega) (by omega) (by omega)).trans m_mb_2)) (by omega) hen hT k26 (by omega) (by omega) hEB hfE hlE hE) X hK hP hS hl.1 rfl gX13_readExpression_X13_readAnd yd_X13_readAnd ⟨by show fE + 6 + 1 ≤ fE + 7; omega, by show 8 + (2 + 11) + (lE + 180) ≤ lE + 210; omega⟩ h_mb g13 (ci := 12) rfl rfl (Nat.le_of_ble_eq_true rfl) ⟨Nat.zero_le _, Nat.zero_le _⟩ dX13_readExpression_83 (fun M16 H locs hp15 hP hS => ?_)
                obtain ⟨v0_18, g19, g20, g21, fr22⟩ := hp15
                refine lv_aload_n hx hb dX13_readExpression_86 rfl (lv_at hl 0 rfl) ?_
                refine lv_bipush (v := (-27)) hx hb dX13_readExpression_87 (by decide) ?_
                refine q_wrVv (As := [.int (-27)]) (rest := []) (c_X13_layR l D cB cI cJ ad n M16 hI mb en ((mAnd en tapeF E (nX en tapeF r3.2.1) r3.2.2).2.1) mv tapeF v0_18 ((mAnd en tapeF E (nX en tapeF r3.2.1) r3.2.2).1) (-27) (-10) to0 s0 ((mAnd en tapeF E (nX en tapeF r3.2.1) r3.2.2).2.2) h_mb h_mb_3 h_mb_21 g19 g20 g21 (by omega) (by decide)) X hK hP hS hl.1 rfl gX13_readExpression_X13_lay yd_X13_lay ⟨by show 0 + 1 ≤ fE + 7; omega, by show 8 + (2 + 11) + (0) ≤ lE + 210; omega⟩ h_mb g19 (ci := 12) rfl rfl (Nat.le_of_ble_eq_true rfl) ⟨Nat.zero_le _, Nat.zero_le _⟩ dX13_readExpression_89 (fun M24 H locs hp23 hP hS => ?_)
                obtain ⟨g26, g27, fr28⟩ := hp23
                refine lv_goto (tgt := 67) hx hb dX13_readExpression_92 (by decide) ?_
                exact ih_67 k8 (eIf (mAnd en tapeF E (nX en tapeF r3.2.1) r3.2.2) (opO en tapeF r3.2.1)) v0_18 (by rw [eIf_x]; omega) (by rw [eIf_x]; exact hbd.2.1) (by rw [eIf_x]; omega) (by have := eIf_len (mAnd en tapeF E (nX en tapeF r3.2.1) r3.2.2) (opO en tapeF r3.2.1); rw [eIf_x]; omega) (by rw [eIf_x]; omega) (by rw [← he, hk8, eLoop_on hf0 hop0]) _ _ _ (by rw [eIf_x, eIf_1]; exact ((fr28 mb (by omega) (by omega)).trans g19)) (by rw [eIf_c, hop]; exact g26) (by rw [eIf_c, hop]; exact g27) (fun q n0 n1 n2 => ((fr28 q n1 n2).trans ((fr22 q n0 n1 n2).trans ((fr14 q n0).trans (fL67 q n0 n1 n2))))) hP hS ls (lv_sub hl [0, 1] rfl)
          exact loop_67 (en + 2) 700 (((mAnd en tapeF E x cs).1), ((mAnd en tapeF E x cs).2.1), ((mAnd en tapeF E x cs).2.2)) v0_4 (by omega) (by show ((mAnd en tapeF E x cs).2.1) ≤ en; have := hSB x cs hxe; omega) (by show 0 < ((mAnd en tapeF E x cs).2.1); have := hSB x cs hxe; omega) (by show (((mAnd en tapeF E x cs).2.2)).length ≤ ((mAnd en tapeF E x cs).2.1); have := hSB x cs hxe; omega) (by show en < 700 + ((mAnd en tapeF E x cs).2.1); have := hSB x cs hxe; omega) (by first | exact mOr_bad (fun q => c_13 ((mkT_2 _).mpr q)) (fun q => c_21 ((mkT_1 _).mpr q)) (mkR_n c_30 rfl) | exact mOr_eta _ _ _ _ _) _ _ _ g5 g6 g7 (fun q n0 n1 n2 => (fr8 q n0 n1 n2)) hP hS ls (lv_sub hl [1, 2] rfl)
        · exact absurd c_54 hdp
      · exact absurd c_40 (by decide)
    · skip
      refine lv_aload_n hx hb dX13_readExpression_16 rfl (lv_at hl 0 rfl) ?_
      refine q_get (v := .int (mkT (kX en tapeF x))) (fs := modF ad mb (mR en tapeF mv x 0 nu)) X hK hP fX13_readExpression_196 h_mb m_mb rfl dX13_readExpression_17 ?_
      refine lv_iconst (v := 1) hx hb dX13_readExpression_20 (by decide) ?_
      refine lv_icmp_eq (tgt := 33) hx hb dX13_readExpression_21 (by decide) (fun c_21 => ?_) (fun c_21 => ?_)
      · skip
        refine lv_iconst (v := 1) hx hb dX13_readExpression_33 (by decide) ?_
        refine lv_goto (tgt := 38) hx hb dX13_readExpression_34 (by decide) ?_
        refine lv_istore_n (lv' := [(2, .int 1), (0, .ref (ad mb)), (1, .int dp)]) hx hb dX13_readExpression_38 rfl hl (by decide) rfl (fun ls hl => ?_)
        refine lv_iload_n hx hb dX13_readExpression_39 rfl (lv_at hl 0 rfl) ?_
        refine lv_if_ne (tgt := 51) hx hb dX13_readExpression_40 (by decide) (fun c_40 => ?_) (fun c_40 => ?_)
        · clear c_40
          refine lv_iload_n hx hb dX13_readExpression_51 rfl (lv_at hl 2 rfl) ?_
          refine lv_bipush (v := 6) hx hb dX13_readExpression_52 (by decide) ?_
          refine lv_icmp_ne (tgt := 62) hx hb dX13_readExpression_54 (by decide) (fun c_54 => ?_) (fun c_54 => ?_)
          · skip
            refine lv_aload_n hx hb dX13_readExpression_62 rfl (lv_at hl 1 rfl) ?_
            refine lv_iload_n hx hb dX13_readExpression_63 rfl (lv_at hl 2 rfl) ?_
            refine q_wrVv (As := [.int dp]) (rest := []) (c_X13_readAnd l D cB cI cJ ad n M hI mb en x mv tapeF nu to0 s0 cs fE lE E dp h_mb h_mb_23 h_mb_3 h_mb_21 h_mb_2 m_mb m_mb_23 m_mb_3 m_mb_21 m_mb_2 hxe hen hT k26 hx0 hcx hEB hfE hlE hE) X hK hP hS hl.1 rfl gX13_readExpression_X13_readAnd yd_X13_readAnd ⟨by show fE + 6 + 1 ≤ fE + 7; omega, by show 8 + (2 + 11) + (lE + 180) ≤ lE + 210; omega⟩ h_mb m_mb (ci := 12) rfl rfl (Nat.le_of_ble_eq_true rfl) ⟨Nat.zero_le _, Nat.zero_le _⟩ dX13_readExpression_64 (fun M30 H locs hp29 hP hS => ?_)
            obtain ⟨v0_32, g33, g34, g35, fr36⟩ := hp29
            have loop_67 : ∀ (fuel : Nat) (k : Nat) (r3 : Int32 × Nat × List Int32) (nu1 : Int32), en + 1 - r3.2.1 < fuel → (r3.2.1 ≤ en) → (0 < r3.2.1) → (r3.2.2.length ≤ r3.2.1) → (en < k + r3.2.1) → (eLoop en tapeF (opO en tapeF) (mAnd en tapeF E) k r3 = mOr en tapeF E x cs) → ∀ (ML67 : Nat → va_E) (H : Heap) (locs : List Loc), ML67 mb = .inr (12, modF ad mb (mR en tapeF mv r3.2.1 r3.1 nu1)) → ML67 (mb + 3) = .inl (cI, 14, .inl (tdC to0 r3.2.2)) → ML67 (mb + 21) = .inl (cI, 1400, .inl (layM r3.2.2 s0)) → (∀ q : Nat, q ≠ mb → q ≠ mb + 3 → q ≠ mb + 21 → ML67 q = M q) → va_P D vwCl (ip ad n ML67) H → va_S (ipA ad n) s.heap H locs → ∀ (ls : Array Slot), lv_has ls 3 [(0, .ref (ad mb)), (1, .int dp)] → W p l e (rmOf (fE + 7) (lE + 210)) s m args below meth c H locs 0 0 (MQ below (va_Qv (fun M' => ∃ (v0 : Int32), M' mb = .inr (12, modF ad mb (mR en tapeF mv (mOr en tapeF E x cs).2.1 (mOr en tapeF E x cs).1 v0)) ∧ M' (mb + 3) = .inl (cI, 14, .inl (tdC to0 (mOr en tapeF E x cs).2.2)) ∧ M' (mb + 21) = .inl (cI, 1400, .inl (layM (mOr en tapeF E x cs).2.2 s0)) ∧ ∀ q : Nat, q ≠ mb → q ≠ mb + 3 → q ≠ mb + 21 → M' q = M q) (fun M' t => va_P D vwCl (ip ad n M') t.heap) (ipA ad n)) args s 0 0 (ipA ad n)) (F0 m 67 ls []) := by
              intro fuel
              induction fuel with
              | zero =>
                intro k r3 nu1 hz
                exact absurd hz (Nat.not_lt_zero _)
              | succ fuel ih_67 =>
                intro k r3 nu1 hz_67 hx3 hx4 hc3 hk9 he ML67 H locs mL67_0 mL67_1 mL67_2 fL67 hP hS ls hl
                skip
                refine lv_aload_n hx hb dX13_readExpression_67 rfl (lv_at hl 0 rfl) ?_
                refine q_ldcwS (i := 13) (tx := "or") X hK (by decide +kernel) dX13_readExpression_68 ?_
                refine q_rdV (As := [.ref (ad (2000 + 13))]) (rest := []) (c_X13_isR l D cB cI cJ ad n ML67 mb en r3.2.1 mv tapeF nu1 13 r3.1 h_mb h_mb_23 mL67_0 ((fL67 (mb + 23) (by omega) (by omega) (by omega)).trans m_mb_23) (by first | assumption | omega | exact vp_in_nI (by omega) (by decide) | exact vp_in_iff.mpr (by decide)) hen hT k26 (by decide) (by decide)) X hK hP hS hl.1 rfl gX13_readExpression_X13_is yd_X13_is ⟨by show 4 + 1 ≤ fE + 7; omega, by show 8 + (4 + 11) + (85) ≤ lE + 210; omega⟩ h_mb mL67_0 (ci := 12) rfl rfl (Nat.le_of_ble_eq_true rfl) ⟨Nat.zero_le _, Nat.zero_le _⟩ dX13_readExpression_71 ?_
                refine lv_if_eq (tgt := 95) hx hb dX13_readExpression_74 (by decide) (fun c_74 => ?_) (fun c_74 => ?_)
                · skip
                  have hfin : r3 = mOr en tapeF E x cs := (Classical.byCases (fun q9 : r3.1 = 0 => (eLoop_op (by rw [opO, if_neg (wdR_n c_74 q9)]) k).symm.trans he) (fun q9 => (eLoop_bad q9 k).symm.trans he))
                  exact q_wvret X hr hlocks hP hS ⟨nu1, (by rw [← hfin]; exact mL67_0), (by rw [← hfin]; exact mL67_1), (by rw [← hfin]; exact mL67_2), (fun q n0 n1 n2 => (fL67 q n0 n1 n2))⟩ dX13_readExpression_95
                · skip
                  obtain ⟨hf0, hkz⟩ := wdR_1 c_74; have hop : opO en tapeF r3.2.1 = (-10) := (by rw [opO, if_pos hkz]); have hop0 : ¬ opO en tapeF r3.2.1 = 0 := (by rw [hop]; decide); have hgt := opO_B (bf := tapeF) hen r3.2.1 hx3 hop0; have hle := nX_le (bf := tapeF) hx3 hen; have hbd := hSB (nX en tapeF r3.2.1) r3.2.2 hle; obtain ⟨k8, hk8⟩ : ∃ k8, k = k8 + 1 := ⟨k - 1, by omega⟩
                  have g37 : ML67 mb = .inr (12, modF ad mb (mR en tapeF mv r3.2.1 0 nu1)) := by refine mL67_0.trans (modC (by rw [hf0]))
                  refine lv_aload_n hx hb dX13_readExpression_77 rfl (lv_at hl 0 rfl) ?_
                  refine q_wrVv (As := []) (rest := []) (c_X13_stepR l D cB cI cJ ad n ML67 hI mb en r3.2.1 mv tapeF nu1 h_mb h_mb_23 g37 ((fL67 (mb + 23) (by omega) (by omega) (by omega)).trans m_mb_23) (by first | assumption | omega | exact vp_in_nI (by omega) (by decide) | exact vp_in_iff.mpr (by decide)) hen hT k26) X hK hP hS hl.1 rfl gX13_readExpression_X13_stepOn yd_X13_stepOn ⟨by show 1 + 1 ≤ fE + 7; omega, by show 8 + (2 + 11) + (21) ≤ lE + 210; omega⟩ h_mb g37 (ci := 12) rfl rfl (Nat.le_of_ble_eq_true rfl) ⟨Nat.zero_le _, Nat.zero_le _⟩ dX13_readExpression_78 (fun M39 H locs hp38 hP hS => ?_)
                  obtain ⟨g41, fr42⟩ := hp38
                  refine lv_aload_n hx hb dX13_readExpression_81 rfl (lv_at hl 0 rfl) ?_
                  refine lv_iload_n hx hb dX13_readExpression_82 rfl (lv_at hl 1 rfl) ?_
                  refine q_wrVv (As := [.int dp]) (rest := []) (c_X13_readAnd l D cB cI cJ ad n M39 hI mb en (nX en tapeF r3.2.1) mv tapeF (mnX en tapeF r3.2.1 nu1) to0 s0 r3.2.2 fE lE E dp h_mb h_mb_23 h_mb_3 h_mb_21 h_mb_2 g41 ((fr42 (mb + 23) (by omega)).trans ((fL67 (mb + 23) (by omega) (by omega) (by omega)).trans m_mb_23)) ((fr42 (mb + 3) (by omega)).trans mL67_1) ((fr42 (mb + 21) (by omega)).trans mL67_2) ((fr42 (mb + 2) (by omega)).trans ((fL67 (mb + 2) (by omega) (by omega) (by omega)).trans m_mb_2)) (by omega) hen hT k26 (by omega) (by omega) hEB hfE hlE hE) X hK hP hS hl.1 rfl gX13_readExpression_X13_readAnd yd_X13_readAnd ⟨by show fE + 6 + 1 ≤ fE + 7; omega, by show 8 + (2 + 11) + (lE + 180) ≤ lE + 210; omega⟩ h_mb g41 (ci := 12) rfl rfl (Nat.le_of_ble_eq_true rfl) ⟨Nat.zero_le _, Nat.zero_le _⟩ dX13_readExpression_83 (fun M44 H locs hp43 hP hS => ?_)
                  obtain ⟨v0_46, g47, g48, g49, fr50⟩ := hp43
                  refine lv_aload_n hx hb dX13_readExpression_86 rfl (lv_at hl 0 rfl) ?_
                  refine lv_bipush (v := (-27)) hx hb dX13_readExpression_87 (by decide) ?_
                  refine q_wrVv (As := [.int (-27)]) (rest := []) (c_X13_layR l D cB cI cJ ad n M44 hI mb en ((mAnd en tapeF E (nX en tapeF r3.2.1) r3.2.2).2.1) mv tapeF v0_46 ((mAnd en tapeF E (nX en tapeF r3.2.1) r3.2.2).1) (-27) (-10) to0 s0 ((mAnd en tapeF E (nX en tapeF r3.2.1) r3.2.2).2.2) h_mb h_mb_3 h_mb_21 g47 g48 g49 (by omega) (by decide)) X hK hP hS hl.1 rfl gX13_readExpression_X13_lay yd_X13_lay ⟨by show 0 + 1 ≤ fE + 7; omega, by show 8 + (2 + 11) + (0) ≤ lE + 210; omega⟩ h_mb g47 (ci := 12) rfl rfl (Nat.le_of_ble_eq_true rfl) ⟨Nat.zero_le _, Nat.zero_le _⟩ dX13_readExpression_89 (fun M52 H locs hp51 hP hS => ?_)
                  obtain ⟨g54, g55, fr56⟩ := hp51
                  refine lv_goto (tgt := 67) hx hb dX13_readExpression_92 (by decide) ?_
                  exact ih_67 k8 (eIf (mAnd en tapeF E (nX en tapeF r3.2.1) r3.2.2) (opO en tapeF r3.2.1)) v0_46 (by rw [eIf_x]; omega) (by rw [eIf_x]; exact hbd.2.1) (by rw [eIf_x]; omega) (by have := eIf_len (mAnd en tapeF E (nX en tapeF r3.2.1) r3.2.2) (opO en tapeF r3.2.1); rw [eIf_x]; omega) (by rw [eIf_x]; omega) (by rw [← he, hk8, eLoop_on hf0 hop0]) _ _ _ (by rw [eIf_x, eIf_1]; exact ((fr56 mb (by omega) (by omega)).trans g47)) (by rw [eIf_c, hop]; exact g54) (by rw [eIf_c, hop]; exact g55) (fun q n0 n1 n2 => ((fr56 q n1 n2).trans ((fr50 q n0 n1 n2).trans ((fr42 q n0).trans (fL67 q n0 n1 n2))))) hP hS ls (lv_sub hl [0, 1] rfl)
            exact loop_67 (en + 2) 700 (((mAnd en tapeF E x cs).1), ((mAnd en tapeF E x cs).2.1), ((mAnd en tapeF E x cs).2.2)) v0_32 (by omega) (by show ((mAnd en tapeF E x cs).2.1) ≤ en; have := hSB x cs hxe; omega) (by show 0 < ((mAnd en tapeF E x cs).2.1); have := hSB x cs hxe; omega) (by show (((mAnd en tapeF E x cs).2.2)).length ≤ ((mAnd en tapeF E x cs).2.1); have := hSB x cs hxe; omega) (by show en < 700 + ((mAnd en tapeF E x cs).2.1); have := hSB x cs hxe; omega) (by first | exact mOr_bad (fun q => c_13 ((mkT_2 _).mpr q)) (fun q => c_21 ((mkT_1 _).mpr q)) (mkR_n c_30 rfl) | exact mOr_eta _ _ _ _ _) _ _ _ g33 g34 g35 (fun q n0 n1 n2 => (fr36 q n0 n1 n2)) hP hS ls (lv_sub hl [1, 2] rfl)
          · exact absurd c_54 hdp
        · exact absurd c_40 (by decide)
      · skip
        refine lv_aload_n hx hb dX13_readExpression_24 rfl (lv_at hl 0 rfl) ?_
        refine lv_bipush (v := 40) hx hb dX13_readExpression_25 (by decide) ?_
        refine q_rdV (As := [.int 40]) (rest := []) (c_X13_isMarkedR l D cB cI cJ ad n M mb en x mv tapeF nu 0 40 h_mb h_mb_23 m_mb m_mb_23 hxe hen hT k26 (by decide)) X hK hP hS hl.1 rfl gX13_readExpression_X13_isMarked yd_X13_isMarked ⟨by show 0 + 1 ≤ fE + 7; omega, by show 8 + (2 + 11) + (0) ≤ lE + 210; omega⟩ h_mb m_mb (ci := 12) rfl rfl (Nat.le_of_ble_eq_true rfl) ⟨Nat.zero_le _, Nat.zero_le _⟩ dX13_readExpression_27 ?_
        refine lv_if_eq (tgt := 37) hx hb dX13_readExpression_30 (by decide) (fun c_30 => ?_) (fun c_30 => ?_)
        · skip
          refine lv_iconst (v := 0) hx hb dX13_readExpression_37 (by decide) ?_
          refine lv_istore_n (lv' := [(2, .int 0), (0, .ref (ad mb)), (1, .int dp)]) hx hb dX13_readExpression_38 rfl hl (by decide) rfl (fun ls hl => ?_)
          refine lv_iload_n hx hb dX13_readExpression_39 rfl (lv_at hl 0 rfl) ?_
          refine lv_if_ne (tgt := 51) hx hb dX13_readExpression_40 (by decide) (fun c_40 => ?_) (fun c_40 => ?_)
          · exact absurd c_40 (by decide)
          · clear c_40
            refine lv_aload_n hx hb dX13_readExpression_43 rfl (lv_at hl 1 rfl) ?_
            refine lv_iconst (v := 1) hx hb dX13_readExpression_44 (by decide) ?_
            refine q_wrVv (As := [.int 1]) (rest := []) (c_X13_wrongR l D cB cI cJ ad n M hI mb en x mv tapeF nu 1 h_mb m_mb hxe hen hT k26 (by decide)) X hK hP hS hl.1 rfl gX13_readExpression_X13_wrong yd_X13_wrong ⟨by show 0 + 1 ≤ fE + 7; omega, by show 8 + (2 + 11) + (0) ≤ lE + 210; omega⟩ h_mb m_mb (ci := 12) rfl rfl (Nat.le_of_ble_eq_true rfl) ⟨Nat.zero_le _, Nat.zero_le _⟩ dX13_readExpression_45 (fun M58 H locs hp57 hP hS => ?_)
            obtain ⟨g60, fr61⟩ := hp57
            refine lv_goto (tgt := 62) hx hb dX13_readExpression_48 (by decide) ?_
            refine lv_aload_n hx hb dX13_readExpression_62 rfl (lv_at hl 1 rfl) ?_
            refine lv_iload_n hx hb dX13_readExpression_63 rfl (lv_at hl 2 rfl) ?_
            refine q_wrVv (As := [.int dp]) (rest := []) (c_X13_readAndB l D cB cI cJ ad n M58 hI mb en x mv tapeF nu 1 dp h_mb h_mb_23 g60 ((fr61 (mb + 23) (by omega)).trans m_mb_23) hxe hen hT k26 (by decide)) X hK hP hS hl.1 rfl gX13_readExpression_X13_readAnd yd_X13_readAnd ⟨by show 6 + 1 ≤ fE + 7; omega, by show 8 + (2 + 11) + (131) ≤ lE + 210; omega⟩ h_mb g60 (ci := 12) rfl rfl (Nat.le_of_ble_eq_true rfl) ⟨Nat.zero_le _, Nat.zero_le _⟩ dX13_readExpression_64 (fun M63 H locs hp62 hP hS => ?_)
            have fr65 := hp62
            have loop_67 : ∀ (fuel : Nat) (k : Nat) (r3 : Int32 × Nat × List Int32) (nu1 : Int32), en + 1 - r3.2.1 < fuel → (r3.2.1 ≤ en) → (0 < r3.2.1) → (r3.2.2.length ≤ r3.2.1) → (en < k + r3.2.1) → (eLoop en tapeF (opO en tapeF) (mAnd en tapeF E) k r3 = mOr en tapeF E x cs) → ∀ (ML67 : Nat → va_E) (H : Heap) (locs : List Loc), ML67 mb = .inr (12, modF ad mb (mR en tapeF mv r3.2.1 r3.1 nu1)) → ML67 (mb + 3) = .inl (cI, 14, .inl (tdC to0 r3.2.2)) → ML67 (mb + 21) = .inl (cI, 1400, .inl (layM r3.2.2 s0)) → (∀ q : Nat, q ≠ mb → q ≠ mb + 3 → q ≠ mb + 21 → ML67 q = M q) → va_P D vwCl (ip ad n ML67) H → va_S (ipA ad n) s.heap H locs → ∀ (ls : Array Slot), lv_has ls 3 [(0, .ref (ad mb)), (1, .int dp)] → W p l e (rmOf (fE + 7) (lE + 210)) s m args below meth c H locs 0 0 (MQ below (va_Qv (fun M' => ∃ (v0 : Int32), M' mb = .inr (12, modF ad mb (mR en tapeF mv (mOr en tapeF E x cs).2.1 (mOr en tapeF E x cs).1 v0)) ∧ M' (mb + 3) = .inl (cI, 14, .inl (tdC to0 (mOr en tapeF E x cs).2.2)) ∧ M' (mb + 21) = .inl (cI, 1400, .inl (layM (mOr en tapeF E x cs).2.2 s0)) ∧ ∀ q : Nat, q ≠ mb → q ≠ mb + 3 → q ≠ mb + 21 → M' q = M q) (fun M' t => va_P D vwCl (ip ad n M') t.heap) (ipA ad n)) args s 0 0 (ipA ad n)) (F0 m 67 ls []) := by
              intro fuel
              induction fuel with
              | zero =>
                intro k r3 nu1 hz
                exact absurd hz (Nat.not_lt_zero _)
              | succ fuel ih_67 =>
                intro k r3 nu1 hz_67 hx3 hx4 hc3 hk9 he ML67 H locs mL67_0 mL67_1 mL67_2 fL67 hP hS ls hl
                skip
                refine lv_aload_n hx hb dX13_readExpression_67 rfl (lv_at hl 0 rfl) ?_
                refine q_ldcwS (i := 13) (tx := "or") X hK (by decide +kernel) dX13_readExpression_68 ?_
                refine q_rdV (As := [.ref (ad (2000 + 13))]) (rest := []) (c_X13_isR l D cB cI cJ ad n ML67 mb en r3.2.1 mv tapeF nu1 13 r3.1 h_mb h_mb_23 mL67_0 ((fL67 (mb + 23) (by omega) (by omega) (by omega)).trans m_mb_23) (by first | assumption | omega | exact vp_in_nI (by omega) (by decide) | exact vp_in_iff.mpr (by decide)) hen hT k26 (by decide) (by decide)) X hK hP hS hl.1 rfl gX13_readExpression_X13_is yd_X13_is ⟨by show 4 + 1 ≤ fE + 7; omega, by show 8 + (4 + 11) + (85) ≤ lE + 210; omega⟩ h_mb mL67_0 (ci := 12) rfl rfl (Nat.le_of_ble_eq_true rfl) ⟨Nat.zero_le _, Nat.zero_le _⟩ dX13_readExpression_71 ?_
                refine lv_if_eq (tgt := 95) hx hb dX13_readExpression_74 (by decide) (fun c_74 => ?_) (fun c_74 => ?_)
                · skip
                  have hfin : r3 = mOr en tapeF E x cs := (Classical.byCases (fun q9 : r3.1 = 0 => (eLoop_op (by rw [opO, if_neg (wdR_n c_74 q9)]) k).symm.trans he) (fun q9 => (eLoop_bad q9 k).symm.trans he))
                  exact q_wvret X hr hlocks hP hS ⟨nu1, (by rw [← hfin]; exact mL67_0), (by rw [← hfin]; exact mL67_1), (by rw [← hfin]; exact mL67_2), (fun q n0 n1 n2 => (fL67 q n0 n1 n2))⟩ dX13_readExpression_95
                · skip
                  obtain ⟨hf0, hkz⟩ := wdR_1 c_74; have hop : opO en tapeF r3.2.1 = (-10) := (by rw [opO, if_pos hkz]); have hop0 : ¬ opO en tapeF r3.2.1 = 0 := (by rw [hop]; decide); have hgt := opO_B (bf := tapeF) hen r3.2.1 hx3 hop0; have hle := nX_le (bf := tapeF) hx3 hen; have hbd := hSB (nX en tapeF r3.2.1) r3.2.2 hle; obtain ⟨k8, hk8⟩ : ∃ k8, k = k8 + 1 := ⟨k - 1, by omega⟩
                  have g66 : ML67 mb = .inr (12, modF ad mb (mR en tapeF mv r3.2.1 0 nu1)) := by refine mL67_0.trans (modC (by rw [hf0]))
                  refine lv_aload_n hx hb dX13_readExpression_77 rfl (lv_at hl 0 rfl) ?_
                  refine q_wrVv (As := []) (rest := []) (c_X13_stepR l D cB cI cJ ad n ML67 hI mb en r3.2.1 mv tapeF nu1 h_mb h_mb_23 g66 ((fL67 (mb + 23) (by omega) (by omega) (by omega)).trans m_mb_23) (by first | assumption | omega | exact vp_in_nI (by omega) (by decide) | exact vp_in_iff.mpr (by decide)) hen hT k26) X hK hP hS hl.1 rfl gX13_readExpression_X13_stepOn yd_X13_stepOn ⟨by show 1 + 1 ≤ fE + 7; omega, by show 8 + (2 + 11) + (21) ≤ lE + 210; omega⟩ h_mb g66 (ci := 12) rfl rfl (Nat.le_of_ble_eq_true rfl) ⟨Nat.zero_le _, Nat.zero_le _⟩ dX13_readExpression_78 (fun M68 H locs hp67 hP hS => ?_)
                  obtain ⟨g70, fr71⟩ := hp67
                  refine lv_aload_n hx hb dX13_readExpression_81 rfl (lv_at hl 0 rfl) ?_
                  refine lv_iload_n hx hb dX13_readExpression_82 rfl (lv_at hl 1 rfl) ?_
                  refine q_wrVv (As := [.int dp]) (rest := []) (c_X13_readAnd l D cB cI cJ ad n M68 hI mb en (nX en tapeF r3.2.1) mv tapeF (mnX en tapeF r3.2.1 nu1) to0 s0 r3.2.2 fE lE E dp h_mb h_mb_23 h_mb_3 h_mb_21 h_mb_2 g70 ((fr71 (mb + 23) (by omega)).trans ((fL67 (mb + 23) (by omega) (by omega) (by omega)).trans m_mb_23)) ((fr71 (mb + 3) (by omega)).trans mL67_1) ((fr71 (mb + 21) (by omega)).trans mL67_2) ((fr71 (mb + 2) (by omega)).trans ((fL67 (mb + 2) (by omega) (by omega) (by omega)).trans m_mb_2)) (by omega) hen hT k26 (by omega) (by omega) hEB hfE hlE hE) X hK hP hS hl.1 rfl gX13_readExpression_X13_readAnd yd_X13_readAnd ⟨by show fE + 6 + 1 ≤ fE + 7; omega, by show 8 + (2 + 11) + (lE + 180) ≤ lE + 210; omega⟩ h_mb g70 (ci := 12) rfl rfl (Nat.le_of_ble_eq_true rfl) ⟨Nat.zero_le _, Nat.zero_le _⟩ dX13_readExpression_83 (fun M73 H locs hp72 hP hS => ?_)
                  obtain ⟨v0_75, g76, g77, g78, fr79⟩ := hp72
                  refine lv_aload_n hx hb dX13_readExpression_86 rfl (lv_at hl 0 rfl) ?_
                  refine lv_bipush (v := (-27)) hx hb dX13_readExpression_87 (by decide) ?_
                  refine q_wrVv (As := [.int (-27)]) (rest := []) (c_X13_layR l D cB cI cJ ad n M73 hI mb en ((mAnd en tapeF E (nX en tapeF r3.2.1) r3.2.2).2.1) mv tapeF v0_75 ((mAnd en tapeF E (nX en tapeF r3.2.1) r3.2.2).1) (-27) (-10) to0 s0 ((mAnd en tapeF E (nX en tapeF r3.2.1) r3.2.2).2.2) h_mb h_mb_3 h_mb_21 g76 g77 g78 (by omega) (by decide)) X hK hP hS hl.1 rfl gX13_readExpression_X13_lay yd_X13_lay ⟨by show 0 + 1 ≤ fE + 7; omega, by show 8 + (2 + 11) + (0) ≤ lE + 210; omega⟩ h_mb g76 (ci := 12) rfl rfl (Nat.le_of_ble_eq_true rfl) ⟨Nat.zero_le _, Nat.zero_le _⟩ dX13_readExpression_89 (fun M81 H locs hp80 hP hS => ?_)
                  obtain ⟨g83, g84, fr85⟩ := hp80
                  refine lv_goto (tgt := 67) hx hb dX13_readExpression_92 (by decide) ?_
                  exact ih_67 k8 (eIf (mAnd en tapeF E (nX en tapeF r3.2.1) r3.2.2) (opO en tapeF r3.2.1)) v0_75 (by rw [eIf_x]; omega) (by rw [eIf_x]; exact hbd.2.1) (by rw [eIf_x]; omega) (by have := eIf_len (mAnd en tapeF E (nX en tapeF r3.2.1) r3.2.2) (opO en tapeF r3.2.1); rw [eIf_x]; omega) (by rw [eIf_x]; omega) (by rw [← he, hk8, eLoop_on hf0 hop0]) _ _ _ (by rw [eIf_x, eIf_1]; exact ((fr85 mb (by omega) (by omega)).trans g76)) (by rw [eIf_c, hop]; exact g83) (by rw [eIf_c, hop]; exact g84) (fun q n0 n1 n2 => ((fr85 q n1 n2).trans ((fr79 q n0 n1 n2).trans ((fr71 q n0).trans (fL67 q n0 n1 n2))))) hP hS ls (lv_sub hl [0, 1] rfl)
            exact loop_67 (en + 2) 700 (1, x, cs) nu (by omega) (by show x ≤ en; have := hSB x cs hxe; omega) (by show 0 < x; have := hSB x cs hxe; omega) (by show (cs).length ≤ x; have := hSB x cs hxe; omega) (by show en < 700 + x; have := hSB x cs hxe; omega) (by first | exact mOr_bad (fun q => c_13 ((mkT_2 _).mpr q)) (fun q => c_21 ((mkT_1 _).mpr q)) (mkR_n c_30 rfl) | exact mOr_eta _ _ _ _ _) _ _ _ ((fr65 mb ).trans g60) ((fr65 (mb + 3) ).trans ((fr61 (mb + 3) (by omega)).trans m_mb_3)) ((fr65 (mb + 21) ).trans ((fr61 (mb + 21) (by omega)).trans m_mb_21)) (fun q n0 n1 n2 => ((fr65 q).trans (fr61 q n0))) hP hS ls (lv_sub hl [1, 2] rfl)
        · skip
          refine lv_iconst (v := 1) hx hb dX13_readExpression_33 (by decide) ?_
          refine lv_goto (tgt := 38) hx hb dX13_readExpression_34 (by decide) ?_
          refine lv_istore_n (lv' := [(2, .int 1), (0, .ref (ad mb)), (1, .int dp)]) hx hb dX13_readExpression_38 rfl hl (by decide) rfl (fun ls hl => ?_)
          refine lv_iload_n hx hb dX13_readExpression_39 rfl (lv_at hl 0 rfl) ?_
          refine lv_if_ne (tgt := 51) hx hb dX13_readExpression_40 (by decide) (fun c_40 => ?_) (fun c_40 => ?_)
          · clear c_40
            refine lv_iload_n hx hb dX13_readExpression_51 rfl (lv_at hl 2 rfl) ?_
            refine lv_bipush (v := 6) hx hb dX13_readExpression_52 (by decide) ?_
            refine lv_icmp_ne (tgt := 62) hx hb dX13_readExpression_54 (by decide) (fun c_54 => ?_) (fun c_54 => ?_)
            · skip
              refine lv_aload_n hx hb dX13_readExpression_62 rfl (lv_at hl 1 rfl) ?_
              refine lv_iload_n hx hb dX13_readExpression_63 rfl (lv_at hl 2 rfl) ?_
              refine q_wrVv (As := [.int dp]) (rest := []) (c_X13_readAnd l D cB cI cJ ad n M hI mb en x mv tapeF nu to0 s0 cs fE lE E dp h_mb h_mb_23 h_mb_3 h_mb_21 h_mb_2 m_mb m_mb_23 m_mb_3 m_mb_21 m_mb_2 hxe hen hT k26 hx0 hcx hEB hfE hlE hE) X hK hP hS hl.1 rfl gX13_readExpression_X13_readAnd yd_X13_readAnd ⟨by show fE + 6 + 1 ≤ fE + 7; omega, by show 8 + (2 + 11) + (lE + 180) ≤ lE + 210; omega⟩ h_mb m_mb (ci := 12) rfl rfl (Nat.le_of_ble_eq_true rfl) ⟨Nat.zero_le _, Nat.zero_le _⟩ dX13_readExpression_64 (fun M87 H locs hp86 hP hS => ?_)
              obtain ⟨v0_89, g90, g91, g92, fr93⟩ := hp86
              have loop_67 : ∀ (fuel : Nat) (k : Nat) (r3 : Int32 × Nat × List Int32) (nu1 : Int32), en + 1 - r3.2.1 < fuel → (r3.2.1 ≤ en) → (0 < r3.2.1) → (r3.2.2.length ≤ r3.2.1) → (en < k + r3.2.1) → (eLoop en tapeF (opO en tapeF) (mAnd en tapeF E) k r3 = mOr en tapeF E x cs) → ∀ (ML67 : Nat → va_E) (H : Heap) (locs : List Loc), ML67 mb = .inr (12, modF ad mb (mR en tapeF mv r3.2.1 r3.1 nu1)) → ML67 (mb + 3) = .inl (cI, 14, .inl (tdC to0 r3.2.2)) → ML67 (mb + 21) = .inl (cI, 1400, .inl (layM r3.2.2 s0)) → (∀ q : Nat, q ≠ mb → q ≠ mb + 3 → q ≠ mb + 21 → ML67 q = M q) → va_P D vwCl (ip ad n ML67) H → va_S (ipA ad n) s.heap H locs → ∀ (ls : Array Slot), lv_has ls 3 [(0, .ref (ad mb)), (1, .int dp)] → W p l e (rmOf (fE + 7) (lE + 210)) s m args below meth c H locs 0 0 (MQ below (va_Qv (fun M' => ∃ (v0 : Int32), M' mb = .inr (12, modF ad mb (mR en tapeF mv (mOr en tapeF E x cs).2.1 (mOr en tapeF E x cs).1 v0)) ∧ M' (mb + 3) = .inl (cI, 14, .inl (tdC to0 (mOr en tapeF E x cs).2.2)) ∧ M' (mb + 21) = .inl (cI, 1400, .inl (layM (mOr en tapeF E x cs).2.2 s0)) ∧ ∀ q : Nat, q ≠ mb → q ≠ mb + 3 → q ≠ mb + 21 → M' q = M q) (fun M' t => va_P D vwCl (ip ad n M') t.heap) (ipA ad n)) args s 0 0 (ipA ad n)) (F0 m 67 ls []) := by
                intro fuel
                induction fuel with
                | zero =>
                  intro k r3 nu1 hz
                  exact absurd hz (Nat.not_lt_zero _)
                | succ fuel ih_67 =>
                  intro k r3 nu1 hz_67 hx3 hx4 hc3 hk9 he ML67 H locs mL67_0 mL67_1 mL67_2 fL67 hP hS ls hl
                  skip
                  refine lv_aload_n hx hb dX13_readExpression_67 rfl (lv_at hl 0 rfl) ?_
                  refine q_ldcwS (i := 13) (tx := "or") X hK (by decide +kernel) dX13_readExpression_68 ?_
                  refine q_rdV (As := [.ref (ad (2000 + 13))]) (rest := []) (c_X13_isR l D cB cI cJ ad n ML67 mb en r3.2.1 mv tapeF nu1 13 r3.1 h_mb h_mb_23 mL67_0 ((fL67 (mb + 23) (by omega) (by omega) (by omega)).trans m_mb_23) (by first | assumption | omega | exact vp_in_nI (by omega) (by decide) | exact vp_in_iff.mpr (by decide)) hen hT k26 (by decide) (by decide)) X hK hP hS hl.1 rfl gX13_readExpression_X13_is yd_X13_is ⟨by show 4 + 1 ≤ fE + 7; omega, by show 8 + (4 + 11) + (85) ≤ lE + 210; omega⟩ h_mb mL67_0 (ci := 12) rfl rfl (Nat.le_of_ble_eq_true rfl) ⟨Nat.zero_le _, Nat.zero_le _⟩ dX13_readExpression_71 ?_
                  refine lv_if_eq (tgt := 95) hx hb dX13_readExpression_74 (by decide) (fun c_74 => ?_) (fun c_74 => ?_)
                  · skip
                    have hfin : r3 = mOr en tapeF E x cs := (Classical.byCases (fun q9 : r3.1 = 0 => (eLoop_op (by rw [opO, if_neg (wdR_n c_74 q9)]) k).symm.trans he) (fun q9 => (eLoop_bad q9 k).symm.trans he))
                    exact q_wvret X hr hlocks hP hS ⟨nu1, (by rw [← hfin]; exact mL67_0), (by rw [← hfin]; exact mL67_1), (by rw [← hfin]; exact mL67_2), (fun q n0 n1 n2 => (fL67 q n0 n1 n2))⟩ dX13_readExpression_95
                  · skip
                    obtain ⟨hf0, hkz⟩ := wdR_1 c_74; have hop : opO en tapeF r3.2.1 = (-10) := (by rw [opO, if_pos hkz]); have hop0 : ¬ opO en tapeF r3.2.1 = 0 := (by rw [hop]; decide); have hgt := opO_B (bf := tapeF) hen r3.2.1 hx3 hop0; have hle := nX_le (bf := tapeF) hx3 hen; have hbd := hSB (nX en tapeF r3.2.1) r3.2.2 hle; obtain ⟨k8, hk8⟩ : ∃ k8, k = k8 + 1 := ⟨k - 1, by omega⟩
                    have g94 : ML67 mb = .inr (12, modF ad mb (mR en tapeF mv r3.2.1 0 nu1)) := by refine mL67_0.trans (modC (by rw [hf0]))
                    refine lv_aload_n hx hb dX13_readExpression_77 rfl (lv_at hl 0 rfl) ?_
                    refine q_wrVv (As := []) (rest := []) (c_X13_stepR l D cB cI cJ ad n ML67 hI mb en r3.2.1 mv tapeF nu1 h_mb h_mb_23 g94 ((fL67 (mb + 23) (by omega) (by omega) (by omega)).trans m_mb_23) (by first | assumption | omega | exact vp_in_nI (by omega) (by decide) | exact vp_in_iff.mpr (by decide)) hen hT k26) X hK hP hS hl.1 rfl gX13_readExpression_X13_stepOn yd_X13_stepOn ⟨by show 1 + 1 ≤ fE + 7; omega, by show 8 + (2 + 11) + (21) ≤ lE + 210; omega⟩ h_mb g94 (ci := 12) rfl rfl (Nat.le_of_ble_eq_true rfl) ⟨Nat.zero_le _, Nat.zero_le _⟩ dX13_readExpression_78 (fun M96 H locs hp95 hP hS => ?_)
                    obtain ⟨g98, fr99⟩ := hp95
                    refine lv_aload_n hx hb dX13_readExpression_81 rfl (lv_at hl 0 rfl) ?_
                    refine lv_iload_n hx hb dX13_readExpression_82 rfl (lv_at hl 1 rfl) ?_
                    refine q_wrVv (As := [.int dp]) (rest := []) (c_X13_readAnd l D cB cI cJ ad n M96 hI mb en (nX en tapeF r3.2.1) mv tapeF (mnX en tapeF r3.2.1 nu1) to0 s0 r3.2.2 fE lE E dp h_mb h_mb_23 h_mb_3 h_mb_21 h_mb_2 g98 ((fr99 (mb + 23) (by omega)).trans ((fL67 (mb + 23) (by omega) (by omega) (by omega)).trans m_mb_23)) ((fr99 (mb + 3) (by omega)).trans mL67_1) ((fr99 (mb + 21) (by omega)).trans mL67_2) ((fr99 (mb + 2) (by omega)).trans ((fL67 (mb + 2) (by omega) (by omega) (by omega)).trans m_mb_2)) (by omega) hen hT k26 (by omega) (by omega) hEB hfE hlE hE) X hK hP hS hl.1 rfl gX13_readExpression_X13_readAnd yd_X13_readAnd ⟨by show fE + 6 + 1 ≤ fE + 7; omega, by show 8 + (2 + 11) + (lE + 180) ≤ lE + 210; omega⟩ h_mb g98 (ci := 12) rfl rfl (Nat.le_of_ble_eq_true rfl) ⟨Nat.zero_le _, Nat.zero_le _⟩ dX13_readExpression_83 (fun M101 H locs hp100 hP hS => ?_)
                    obtain ⟨v0_103, g104, g105, g106, fr107⟩ := hp100
                    refine lv_aload_n hx hb dX13_readExpression_86 rfl (lv_at hl 0 rfl) ?_
                    refine lv_bipush (v := (-27)) hx hb dX13_readExpression_87 (by decide) ?_
                    refine q_wrVv (As := [.int (-27)]) (rest := []) (c_X13_layR l D cB cI cJ ad n M101 hI mb en ((mAnd en tapeF E (nX en tapeF r3.2.1) r3.2.2).2.1) mv tapeF v0_103 ((mAnd en tapeF E (nX en tapeF r3.2.1) r3.2.2).1) (-27) (-10) to0 s0 ((mAnd en tapeF E (nX en tapeF r3.2.1) r3.2.2).2.2) h_mb h_mb_3 h_mb_21 g104 g105 g106 (by omega) (by decide)) X hK hP hS hl.1 rfl gX13_readExpression_X13_lay yd_X13_lay ⟨by show 0 + 1 ≤ fE + 7; omega, by show 8 + (2 + 11) + (0) ≤ lE + 210; omega⟩ h_mb g104 (ci := 12) rfl rfl (Nat.le_of_ble_eq_true rfl) ⟨Nat.zero_le _, Nat.zero_le _⟩ dX13_readExpression_89 (fun M109 H locs hp108 hP hS => ?_)
                    obtain ⟨g111, g112, fr113⟩ := hp108
                    refine lv_goto (tgt := 67) hx hb dX13_readExpression_92 (by decide) ?_
                    exact ih_67 k8 (eIf (mAnd en tapeF E (nX en tapeF r3.2.1) r3.2.2) (opO en tapeF r3.2.1)) v0_103 (by rw [eIf_x]; omega) (by rw [eIf_x]; exact hbd.2.1) (by rw [eIf_x]; omega) (by have := eIf_len (mAnd en tapeF E (nX en tapeF r3.2.1) r3.2.2) (opO en tapeF r3.2.1); rw [eIf_x]; omega) (by rw [eIf_x]; omega) (by rw [← he, hk8, eLoop_on hf0 hop0]) _ _ _ (by rw [eIf_x, eIf_1]; exact ((fr113 mb (by omega) (by omega)).trans g104)) (by rw [eIf_c, hop]; exact g111) (by rw [eIf_c, hop]; exact g112) (fun q n0 n1 n2 => ((fr113 q n1 n2).trans ((fr107 q n0 n1 n2).trans ((fr99 q n0).trans (fL67 q n0 n1 n2))))) hP hS ls (lv_sub hl [0, 1] rfl)
              exact loop_67 (en + 2) 700 (((mAnd en tapeF E x cs).1), ((mAnd en tapeF E x cs).2.1), ((mAnd en tapeF E x cs).2.2)) v0_89 (by omega) (by show ((mAnd en tapeF E x cs).2.1) ≤ en; have := hSB x cs hxe; omega) (by show 0 < ((mAnd en tapeF E x cs).2.1); have := hSB x cs hxe; omega) (by show (((mAnd en tapeF E x cs).2.2)).length ≤ ((mAnd en tapeF E x cs).2.1); have := hSB x cs hxe; omega) (by show en < 700 + ((mAnd en tapeF E x cs).2.1); have := hSB x cs hxe; omega) (by first | exact mOr_bad (fun q => c_13 ((mkT_2 _).mpr q)) (fun q => c_21 ((mkT_1 _).mpr q)) (mkR_n c_30 rfl) | exact mOr_eta _ _ _ _ _) _ _ _ g90 g91 g92 (fun q n0 n1 n2 => (fr93 q n0 n1 n2)) hP hS ls (lv_sub hl [1, 2] rfl)
            · exact absurd c_54 hdp
          · exact absurd c_40 (by decide)
  · exact absurd c_4 (by decide)
set_option maxHeartbeats 2000000 in
set_option maxRecDepth 100000 in
theorem c_X13_readExpressionZ (l : Launch) (D : va_G) (cB cI cJ : ClassId) (ad : Nat → Nat) (n : Nat) (M : Nat → va_E) (hI : ipI ad n) (mb en x : Nat) (mv tapeF : Nat → Int32) (nu : Int32) (to0 s0 : Nat → Int32) (cs : List Int32) (dp : Int32) (h_mb : mb < n) (h_mb_23 : mb + 23 < n) (h_mb_3 : mb + 3 < n) (h_mb_21 : mb + 21 < n) (h_mb_2 : mb + 2 < n) (m_mb : M mb = .inr (12, modF ad mb (mR en tapeF mv x 0 nu))) (m_mb_23 : M (mb + 23) = .inl (cI, 700, .inl tapeF)) (m_mb_3 : M (mb + 3) = .inl (cI, 14, .inl (tdC to0 cs))) (m_mb_21 : M (mb + 21) = .inl (cI, 1400, .inl (layM cs s0))) (m_mb_2 : M (mb + 2) = .inl (ad 5000, 5, .inr (.inr (.inr (.inr (txF ad vlI)))))) (hxe : x ≤ en) (hen : en ≤ 700) (hT : bOK tapeF) (k26 : mv 26 = nI en) (hx0 : 0 < x) (hcx : cs.length ≤ x) (hdp : dp = 6) : cWv l D cB cI cJ ad n M yX13_readExpression wsX13_readExpression 16 400 [.ref (ad mb), .int dp] (fun M' => ∃ (v0 : Int32), M' mb = .inr (12, modF ad mb (mR en tapeF mv (mE en tapeF 0 x cs).2.1 (mE en tapeF 0 x cs).1 v0)) ∧ M' (mb + 3) = .inl (cI, 14, .inl (tdC to0 (mE en tapeF 0 x cs).2.2)) ∧ M' (mb + 21) = .inl (cI, 1400, .inl (layM (mE en tapeF 0 x cs).2.2 s0)) ∧ ∀ q : Nat, q ≠ mb → q ≠ mb + 3 → q ≠ mb + 21 → M' q = M q) := by
  refine q_body (cc := cX13_readExpression) (maxL := 3) (ret := none) (by decide) rfl (Nat.le_of_ble_eq_true rfl) ?_
  intro p e s m args below meth c ls X hr hlocks hK hP hl
  obtain ⟨hx, hb, hml, hown, hts⟩ := id X
  have hS : va_S (ipA ad n) s.heap s.heap [] := va_S.rf
  have hl : lv_has ls 3 [(0, .ref (ad mb)), (1, .int dp)] := hl
  refine lv_aload_n hx hb dX13_readExpression_0 rfl (lv_at hl 0 rfl) ?_
  refine q_get (v := .int 0) (fs := modF ad mb (mR en tapeF mv x 0 nu)) X hK hP fX13_readExpression_222 h_mb m_mb rfl dX13_readExpression_1 ?_
  refine lv_if_eq (tgt := 8) hx hb dX13_readExpression_4 (by decide) (fun c_4 => ?_) (fun c_4 => ?_)
  · clear c_4
    refine lv_aload_n hx hb dX13_readExpression_8 rfl (lv_at hl 0 rfl) ?_
    refine q_get (v := .int (mkT (kX en tapeF x))) (fs := modF ad mb (mR en tapeF mv x 0 nu)) X hK hP fX13_readExpression_196 h_mb m_mb rfl dX13_readExpression_9 ?_
    refine lv_iconst (v := 2) hx hb dX13_readExpression_12 (by decide) ?_
    refine lv_icmp_eq (tgt := 33) hx hb dX13_readExpression_13 (by decide) (fun c_13 => ?_) (fun c_13 => ?_)
    · skip
      refine lv_iconst (v := 1) hx hb dX13_readExpression_33 (by decide) ?_
      refine lv_goto (tgt := 38) hx hb dX13_readExpression_34 (by decide) ?_
      refine lv_istore_n (lv' := [(2, .int 1), (0, .ref (ad mb)), (1, .int dp)]) hx hb dX13_readExpression_38 rfl hl (by decide) rfl (fun ls hl => ?_)
      refine lv_iload_n hx hb dX13_readExpression_39 rfl (lv_at hl 0 rfl) ?_
      refine lv_if_ne (tgt := 51) hx hb dX13_readExpression_40 (by decide) (fun c_40 => ?_) (fun c_40 => ?_)
      · clear c_40
        refine lv_iload_n hx hb dX13_readExpression_51 rfl (lv_at hl 2 rfl) ?_
        refine lv_bipush (v := 6) hx hb dX13_readExpression_52 (by decide) ?_
        refine lv_icmp_ne (tgt := 62) hx hb dX13_readExpression_54 (by decide) (fun c_54 => ?_) (fun c_54 => ?_)
        · exact absurd hdp c_54
        · skip
          refine lv_aload_n hx hb dX13_readExpression_57 rfl (lv_at hl 1 rfl) ?_
          refine lv_iconst (v := 2) hx hb dX13_readExpression_58 (by decide) ?_
          refine q_wrVv (As := [.int 2]) (rest := []) (c_X13_wrongR l D cB cI cJ ad n M hI mb en x mv tapeF nu 2 h_mb m_mb hxe hen hT k26 (by decide)) X hK hP hS hl.1 rfl gX13_readExpression_X13_wrong yd_X13_wrong ⟨by show 0 + 1 ≤ 16; omega, by show 8 + (2 + 11) + (0) ≤ 400; omega⟩ h_mb m_mb (ci := 12) rfl rfl (Nat.le_of_ble_eq_true rfl) ⟨Nat.zero_le _, Nat.zero_le _⟩ dX13_readExpression_59 (fun M2 H locs hp1 hP hS => ?_)
          obtain ⟨g4, fr5⟩ := hp1
          refine lv_aload_n hx hb dX13_readExpression_62 rfl (lv_at hl 1 rfl) ?_
          refine lv_iload_n hx hb dX13_readExpression_63 rfl (lv_at hl 2 rfl) ?_
          refine q_wrVv (As := [.int dp]) (rest := []) (c_X13_readAndB l D cB cI cJ ad n M2 hI mb en x mv tapeF nu 2 dp h_mb h_mb_23 g4 ((fr5 (mb + 23) (by omega)).trans m_mb_23) hxe hen hT k26 (by decide)) X hK hP hS hl.1 rfl gX13_readExpression_X13_readAnd yd_X13_readAnd ⟨by show 6 + 1 ≤ 16; omega, by show 8 + (2 + 11) + (131) ≤ 400; omega⟩ h_mb g4 (ci := 12) rfl rfl (Nat.le_of_ble_eq_true rfl) ⟨Nat.zero_le _, Nat.zero_le _⟩ dX13_readExpression_64 (fun M7 H locs hp6 hP hS => ?_)
          have fr9 := hp6
          refine lv_aload_n hx hb dX13_readExpression_67 rfl (lv_at hl 1 rfl) ?_
          refine q_ldcwS (i := 13) (tx := "or") X hK (by decide +kernel) dX13_readExpression_68 ?_
          refine q_rdV (As := [.ref (ad (2000 + 13))]) (rest := []) (c_X13_isR l D cB cI cJ ad n M7 mb en x mv tapeF nu 13 2 h_mb h_mb_23 ((fr9 mb ).trans g4) ((fr9 (mb + 23) ).trans ((fr5 (mb + 23) (by omega)).trans m_mb_23)) hxe hen hT k26 (by decide) (by decide)) X hK hP hS hl.1 rfl gX13_readExpression_X13_is yd_X13_is ⟨by show 4 + 1 ≤ 16; omega, by show 8 + (4 + 11) + (85) ≤ 400; omega⟩ h_mb ((fr9 mb ).trans g4) (ci := 12) rfl rfl (Nat.le_of_ble_eq_true rfl) ⟨Nat.zero_le _, Nat.zero_le _⟩ dX13_readExpression_71 ?_
          refine lv_if_eq (tgt := 95) hx hb dX13_readExpression_74 (by decide) (fun c_74 => ?_) (fun c_74 => ?_)
          · skip
            exact q_wvret X hr hlocks hP hS ⟨nu, (by refine ((fr9 mb ).trans g4).trans ?_; first | (rw [mE, if_pos ((mkT_2 _).mp c_13)]; done) | (rw [mE, if_neg (fun q => c_13 ((mkT_2 _).mpr q)), if_pos ((mkT_1 _).mp c_21)]; done) | (rw [mE, if_neg (fun q => c_13 ((mkT_2 _).mpr q)), if_neg (fun q => c_21 ((mkT_1 _).mpr q)), if_pos (mkR_1 c_30).2]; done) | (rw [mE, if_neg (fun q => c_13 ((mkT_2 _).mpr q)), if_neg (fun q => c_21 ((mkT_1 _).mpr q)), if_neg (mkR_n c_30 rfl)]; done)), (by refine ((fr9 (mb + 3) ).trans ((fr5 (mb + 3) (by omega)).trans m_mb_3)).trans ?_; first | (rw [mE, if_pos ((mkT_2 _).mp c_13)]; done) | (rw [mE, if_neg (fun q => c_13 ((mkT_2 _).mpr q)), if_pos ((mkT_1 _).mp c_21)]; done) | (rw [mE, if_neg (fun q => c_13 ((mkT_2 _).mpr q)), if_neg (fun q => c_21 ((mkT_1 _).mpr q)), if_pos (mkR_1 c_30).2]; done) | (rw [mE, if_neg (fun q => c_13 ((mkT_2 _).mpr q)), if_neg (fun q => c_21 ((mkT_1 _).mpr q)), if_neg (mkR_n c_30 rfl)]; done)), (by refine ((fr9 (mb + 21) ).trans ((fr5 (mb + 21) (by omega)).trans m_mb_21)).trans ?_; first | (rw [mE, if_pos ((mkT_2 _).mp c_13)]; done) | (rw [mE, if_neg (fun q => c_13 ((mkT_2 _).mpr q)), if_pos ((mkT_1 _).mp c_21)]; done) | (rw [mE, if_neg (fun q => c_13 ((mkT_2 _).mpr q)), if_neg (fun q => c_21 ((mkT_1 _).mpr q)), if_pos (mkR_1 c_30).2]; done) | (rw [mE, if_neg (fun q => c_13 ((mkT_2 _).mpr q)), if_neg (fun q => c_21 ((mkT_1 _).mpr q)), if_neg (mkR_n c_30 rfl)]; done)), (fun q n0 n1 n2 => ((fr9 q).trans (fr5 q n0)))⟩ dX13_readExpression_95
          · exact absurd (wdR_0 (by decide)) c_74
      · exact absurd c_40 (by decide)
    · skip
      refine lv_aload_n hx hb dX13_readExpression_16 rfl (lv_at hl 0 rfl) ?_
      refine q_get (v := .int (mkT (kX en tapeF x))) (fs := modF ad mb (mR en tapeF mv x 0 nu)) X hK hP fX13_readExpression_196 h_mb m_mb rfl dX13_readExpression_17 ?_
      refine lv_iconst (v := 1) hx hb dX13_readExpression_20 (by decide) ?_
      refine lv_icmp_eq (tgt := 33) hx hb dX13_readExpression_21 (by decide) (fun c_21 => ?_) (fun c_21 => ?_)
      · skip
        refine lv_iconst (v := 1) hx hb dX13_readExpression_33 (by decide) ?_
        refine lv_goto (tgt := 38) hx hb dX13_readExpression_34 (by decide) ?_
        refine lv_istore_n (lv' := [(2, .int 1), (0, .ref (ad mb)), (1, .int dp)]) hx hb dX13_readExpression_38 rfl hl (by decide) rfl (fun ls hl => ?_)
        refine lv_iload_n hx hb dX13_readExpression_39 rfl (lv_at hl 0 rfl) ?_
        refine lv_if_ne (tgt := 51) hx hb dX13_readExpression_40 (by decide) (fun c_40 => ?_) (fun c_40 => ?_)
        · clear c_40
          refine lv_iload_n hx hb dX13_readExpression_51 rfl (lv_at hl 2 rfl) ?_
          refine lv_bipush (v := 6) hx hb dX13_readExpression_52 (by decide) ?_
          refine lv_icmp_ne (tgt := 62) hx hb dX13_readExpression_54 (by decide) (fun c_54 => ?_) (fun c_54 => ?_)
          · exact absurd hdp c_54
          · skip
            refine lv_aload_n hx hb dX13_readExpression_57 rfl (lv_at hl 1 rfl) ?_
            refine lv_iconst (v := 2) hx hb dX13_readExpression_58 (by decide) ?_
            refine q_wrVv (As := [.int 2]) (rest := []) (c_X13_wrongR l D cB cI cJ ad n M hI mb en x mv tapeF nu 2 h_mb m_mb hxe hen hT k26 (by decide)) X hK hP hS hl.1 rfl gX13_readExpression_X13_wrong yd_X13_wrong ⟨by show 0 + 1 ≤ 16; omega, by show 8 + (2 + 11) + (0) ≤ 400; omega⟩ h_mb m_mb (ci := 12) rfl rfl (Nat.le_of_ble_eq_true rfl) ⟨Nat.zero_le _, Nat.zero_le _⟩ dX13_readExpression_59 (fun M11 H locs hp10 hP hS => ?_)
            obtain ⟨g13, fr14⟩ := hp10
            refine lv_aload_n hx hb dX13_readExpression_62 rfl (lv_at hl 1 rfl) ?_
            refine lv_iload_n hx hb dX13_readExpression_63 rfl (lv_at hl 2 rfl) ?_
            refine q_wrVv (As := [.int dp]) (rest := []) (c_X13_readAndB l D cB cI cJ ad n M11 hI mb en x mv tapeF nu 2 dp h_mb h_mb_23 g13 ((fr14 (mb + 23) (by omega)).trans m_mb_23) hxe hen hT k26 (by decide)) X hK hP hS hl.1 rfl gX13_readExpression_X13_readAnd yd_X13_readAnd ⟨by show 6 + 1 ≤ 16; omega, by show 8 + (2 + 11) + (131) ≤ 400; omega⟩ h_mb g13 (ci := 12) rfl rfl (Nat.le_of_ble_eq_true rfl) ⟨Nat.zero_le _, Nat.zero_le _⟩ dX13_readExpression_64 (fun M16 H locs hp15 hP hS => ?_)
            have fr18 := hp15
            refine lv_aload_n hx hb dX13_readExpression_67 rfl (lv_at hl 1 rfl) ?_
            refine q_ldcwS (i := 13) (tx := "or") X hK (by decide +kernel) dX13_readExpression_68 ?_
            refine q_rdV (As := [.ref (ad (2000 + 13))]) (rest := []) (c_X13_isR l D cB cI cJ ad n M16 mb en x mv tapeF nu 13 2 h_mb h_mb_23 ((fr18 mb ).trans g13) ((fr18 (mb + 23) ).trans ((fr14 (mb + 23) (by omega)).trans m_mb_23)) hxe hen hT k26 (by decide) (by decide)) X hK hP hS hl.1 rfl gX13_readExpression_X13_is yd_X13_is ⟨by show 4 + 1 ≤ 16; omega, by show 8 + (4 + 11) + (85) ≤ 400; omega⟩ h_mb ((fr18 mb ).trans g13) (ci := 12) rfl rfl (Nat.le_of_ble_eq_true rfl) ⟨Nat.zero_le _, Nat.zero_le _⟩ dX13_readExpression_71 ?_
            refine lv_if_eq (tgt := 95) hx hb dX13_readExpression_74 (by decide) (fun c_74 => ?_) (fun c_74 => ?_)
            · skip
              exact q_wvret X hr hlocks hP hS ⟨nu, (by refine ((fr18 mb ).trans g13).trans ?_; first | (rw [mE, if_pos ((mkT_2 _).mp c_13)]; done) | (rw [mE, if_neg (fun q => c_13 ((mkT_2 _).mpr q)), if_pos ((mkT_1 _).mp c_21)]; done) | (rw [mE, if_neg (fun q => c_13 ((mkT_2 _).mpr q)), if_neg (fun q => c_21 ((mkT_1 _).mpr q)), if_pos (mkR_1 c_30).2]; done) | (rw [mE, if_neg (fun q => c_13 ((mkT_2 _).mpr q)), if_neg (fun q => c_21 ((mkT_1 _).mpr q)), if_neg (mkR_n c_30 rfl)]; done)), (by refine ((fr18 (mb + 3) ).trans ((fr14 (mb + 3) (by omega)).trans m_mb_3)).trans ?_; first | (rw [mE, if_pos ((mkT_2 _).mp c_13)]; done) | (rw [mE, if_neg (fun q => c_13 ((mkT_2 _).mpr q)), if_pos ((mkT_1 _).mp c_21)]; done) | (rw [mE, if_neg (fun q => c_13 ((mkT_2 _).mpr q)), if_neg (fun q => c_21 ((mkT_1 _).mpr q)), if_pos (mkR_1 c_30).2]; done) | (rw [mE, if_neg (fun q => c_13 ((mkT_2 _).mpr q)), if_neg (fun q => c_21 ((mkT_1 _).mpr q)), if_neg (mkR_n c_30 rfl)]; done)), (by refine ((fr18 (mb + 21) ).trans ((fr14 (mb + 21) (by omega)).trans m_mb_21)).trans ?_; first | (rw [mE, if_pos ((mkT_2 _).mp c_13)]; done) | (rw [mE, if_neg (fun q => c_13 ((mkT_2 _).mpr q)), if_pos ((mkT_1 _).mp c_21)]; done) | (rw [mE, if_neg (fun q => c_13 ((mkT_2 _).mpr q)), if_neg (fun q => c_21 ((mkT_1 _).mpr q)), if_pos (mkR_1 c_30).2]; done) | (rw [mE, if_neg (fun q => c_13 ((mkT_2 _).mpr q)), if_neg (fun q => c_21 ((mkT_1 _).mpr q)), if_neg (mkR_n c_30 rfl)]; done)), (fun q n0 n1 n2 => ((fr18 q).trans (fr14 q n0)))⟩ dX13_readExpression_95
            · exact absurd (wdR_0 (by decide)) c_74
        · exact absurd c_40 (by decide)
      · skip
        refine lv_aload_n hx hb dX13_readExpression_24 rfl (lv_at hl 0 rfl) ?_
        refine lv_bipush (v := 40) hx hb dX13_readExpression_25 (by decide) ?_
        refine q_rdV (As := [.int 40]) (rest := []) (c_X13_isMarkedR l D cB cI cJ ad n M mb en x mv tapeF nu 0 40 h_mb h_mb_23 m_mb m_mb_23 hxe hen hT k26 (by decide)) X hK hP hS hl.1 rfl gX13_readExpression_X13_isMarked yd_X13_isMarked ⟨by show 0 + 1 ≤ 16; omega, by show 8 + (2 + 11) + (0) ≤ 400; omega⟩ h_mb m_mb (ci := 12) rfl rfl (Nat.le_of_ble_eq_true rfl) ⟨Nat.zero_le _, Nat.zero_le _⟩ dX13_readExpression_27 ?_
        refine lv_if_eq (tgt := 37) hx hb dX13_readExpression_30 (by decide) (fun c_30 => ?_) (fun c_30 => ?_)
        · skip
          refine lv_iconst (v := 0) hx hb dX13_readExpression_37 (by decide) ?_
          refine lv_istore_n (lv' := [(2, .int 0), (0, .ref (ad mb)), (1, .int dp)]) hx hb dX13_readExpression_38 rfl hl (by decide) rfl (fun ls hl => ?_)
          refine lv_iload_n hx hb dX13_readExpression_39 rfl (lv_at hl 0 rfl) ?_
          refine lv_if_ne (tgt := 51) hx hb dX13_readExpression_40 (by decide) (fun c_40 => ?_) (fun c_40 => ?_)
          · exact absurd c_40 (by decide)
          · clear c_40
            refine lv_aload_n hx hb dX13_readExpression_43 rfl (lv_at hl 1 rfl) ?_
            refine lv_iconst (v := 1) hx hb dX13_readExpression_44 (by decide) ?_
            refine q_wrVv (As := [.int 1]) (rest := []) (c_X13_wrongR l D cB cI cJ ad n M hI mb en x mv tapeF nu 1 h_mb m_mb hxe hen hT k26 (by decide)) X hK hP hS hl.1 rfl gX13_readExpression_X13_wrong yd_X13_wrong ⟨by show 0 + 1 ≤ 16; omega, by show 8 + (2 + 11) + (0) ≤ 400; omega⟩ h_mb m_mb (ci := 12) rfl rfl (Nat.le_of_ble_eq_true rfl) ⟨Nat.zero_le _, Nat.zero_le _⟩ dX13_readExpression_45 (fun M20 H locs hp19 hP hS => ?_)
            obtain ⟨g22, fr23⟩ := hp19
            refine lv_goto (tgt := 62) hx hb dX13_readExpression_48 (by decide) ?_
            refine lv_aload_n hx hb dX13_readExpression_62 rfl (lv_at hl 1 rfl) ?_
            refine lv_iload_n hx hb dX13_readExpression_63 rfl (lv_at hl 2 rfl) ?_
            refine q_wrVv (As := [.int dp]) (rest := []) (c_X13_readAndB l D cB cI cJ ad n M20 hI mb en x mv tapeF nu 1 dp h_mb h_mb_23 g22 ((fr23 (mb + 23) (by omega)).trans m_mb_23) hxe hen hT k26 (by decide)) X hK hP hS hl.1 rfl gX13_readExpression_X13_readAnd yd_X13_readAnd ⟨by show 6 + 1 ≤ 16; omega, by show 8 + (2 + 11) + (131) ≤ 400; omega⟩ h_mb g22 (ci := 12) rfl rfl (Nat.le_of_ble_eq_true rfl) ⟨Nat.zero_le _, Nat.zero_le _⟩ dX13_readExpression_64 (fun M25 H locs hp24 hP hS => ?_)
            have fr27 := hp24
            refine lv_aload_n hx hb dX13_readExpression_67 rfl (lv_at hl 1 rfl) ?_
            refine q_ldcwS (i := 13) (tx := "or") X hK (by decide +kernel) dX13_readExpression_68 ?_
            refine q_rdV (As := [.ref (ad (2000 + 13))]) (rest := []) (c_X13_isR l D cB cI cJ ad n M25 mb en x mv tapeF nu 13 1 h_mb h_mb_23 ((fr27 mb ).trans g22) ((fr27 (mb + 23) ).trans ((fr23 (mb + 23) (by omega)).trans m_mb_23)) hxe hen hT k26 (by decide) (by decide)) X hK hP hS hl.1 rfl gX13_readExpression_X13_is yd_X13_is ⟨by show 4 + 1 ≤ 16; omega, by show 8 + (4 + 11) + (85) ≤ 400; omega⟩ h_mb ((fr27 mb ).trans g22) (ci := 12) rfl rfl (Nat.le_of_ble_eq_true rfl) ⟨Nat.zero_le _, Nat.zero_le _⟩ dX13_readExpression_71 ?_
            refine lv_if_eq (tgt := 95) hx hb dX13_readExpression_74 (by decide) (fun c_74 => ?_) (fun c_74 => ?_)
            · skip
              exact q_wvret X hr hlocks hP hS ⟨nu, (by refine ((fr27 mb ).trans g22).trans ?_; first | (rw [mE, if_pos ((mkT_2 _).mp c_13)]; done) | (rw [mE, if_neg (fun q => c_13 ((mkT_2 _).mpr q)), if_pos ((mkT_1 _).mp c_21)]; done) | (rw [mE, if_neg (fun q => c_13 ((mkT_2 _).mpr q)), if_neg (fun q => c_21 ((mkT_1 _).mpr q)), if_pos (mkR_1 c_30).2]; done) | (rw [mE, if_neg (fun q => c_13 ((mkT_2 _).mpr q)), if_neg (fun q => c_21 ((mkT_1 _).mpr q)), if_neg (mkR_n c_30 rfl)]; done)), (by refine ((fr27 (mb + 3) ).trans ((fr23 (mb + 3) (by omega)).trans m_mb_3)).trans ?_; first | (rw [mE, if_pos ((mkT_2 _).mp c_13)]; done) | (rw [mE, if_neg (fun q => c_13 ((mkT_2 _).mpr q)), if_pos ((mkT_1 _).mp c_21)]; done) | (rw [mE, if_neg (fun q => c_13 ((mkT_2 _).mpr q)), if_neg (fun q => c_21 ((mkT_1 _).mpr q)), if_pos (mkR_1 c_30).2]; done) | (rw [mE, if_neg (fun q => c_13 ((mkT_2 _).mpr q)), if_neg (fun q => c_21 ((mkT_1 _).mpr q)), if_neg (mkR_n c_30 rfl)]; done)), (by refine ((fr27 (mb + 21) ).trans ((fr23 (mb + 21) (by omega)).trans m_mb_21)).trans ?_; first | (rw [mE, if_pos ((mkT_2 _).mp c_13)]; done) | (rw [mE, if_neg (fun q => c_13 ((mkT_2 _).mpr q)), if_pos ((mkT_1 _).mp c_21)]; done) | (rw [mE, if_neg (fun q => c_13 ((mkT_2 _).mpr q)), if_neg (fun q => c_21 ((mkT_1 _).mpr q)), if_pos (mkR_1 c_30).2]; done) | (rw [mE, if_neg (fun q => c_13 ((mkT_2 _).mpr q)), if_neg (fun q => c_21 ((mkT_1 _).mpr q)), if_neg (mkR_n c_30 rfl)]; done)), (fun q n0 n1 n2 => ((fr27 q).trans (fr23 q n0)))⟩ dX13_readExpression_95
            · exact absurd (wdR_0 (by decide)) c_74
        · skip
          refine lv_iconst (v := 1) hx hb dX13_readExpression_33 (by decide) ?_
          refine lv_goto (tgt := 38) hx hb dX13_readExpression_34 (by decide) ?_
          refine lv_istore_n (lv' := [(2, .int 1), (0, .ref (ad mb)), (1, .int dp)]) hx hb dX13_readExpression_38 rfl hl (by decide) rfl (fun ls hl => ?_)
          refine lv_iload_n hx hb dX13_readExpression_39 rfl (lv_at hl 0 rfl) ?_
          refine lv_if_ne (tgt := 51) hx hb dX13_readExpression_40 (by decide) (fun c_40 => ?_) (fun c_40 => ?_)
          · clear c_40
            refine lv_iload_n hx hb dX13_readExpression_51 rfl (lv_at hl 2 rfl) ?_
            refine lv_bipush (v := 6) hx hb dX13_readExpression_52 (by decide) ?_
            refine lv_icmp_ne (tgt := 62) hx hb dX13_readExpression_54 (by decide) (fun c_54 => ?_) (fun c_54 => ?_)
            · exact absurd hdp c_54
            · skip
              refine lv_aload_n hx hb dX13_readExpression_57 rfl (lv_at hl 1 rfl) ?_
              refine lv_iconst (v := 2) hx hb dX13_readExpression_58 (by decide) ?_
              refine q_wrVv (As := [.int 2]) (rest := []) (c_X13_wrongR l D cB cI cJ ad n M hI mb en x mv tapeF nu 2 h_mb m_mb hxe hen hT k26 (by decide)) X hK hP hS hl.1 rfl gX13_readExpression_X13_wrong yd_X13_wrong ⟨by show 0 + 1 ≤ 16; omega, by show 8 + (2 + 11) + (0) ≤ 400; omega⟩ h_mb m_mb (ci := 12) rfl rfl (Nat.le_of_ble_eq_true rfl) ⟨Nat.zero_le _, Nat.zero_le _⟩ dX13_readExpression_59 (fun M29 H locs hp28 hP hS => ?_)
              obtain ⟨g31, fr32⟩ := hp28
              refine lv_aload_n hx hb dX13_readExpression_62 rfl (lv_at hl 1 rfl) ?_
              refine lv_iload_n hx hb dX13_readExpression_63 rfl (lv_at hl 2 rfl) ?_
              refine q_wrVv (As := [.int dp]) (rest := []) (c_X13_readAndB l D cB cI cJ ad n M29 hI mb en x mv tapeF nu 2 dp h_mb h_mb_23 g31 ((fr32 (mb + 23) (by omega)).trans m_mb_23) hxe hen hT k26 (by decide)) X hK hP hS hl.1 rfl gX13_readExpression_X13_readAnd yd_X13_readAnd ⟨by show 6 + 1 ≤ 16; omega, by show 8 + (2 + 11) + (131) ≤ 400; omega⟩ h_mb g31 (ci := 12) rfl rfl (Nat.le_of_ble_eq_true rfl) ⟨Nat.zero_le _, Nat.zero_le _⟩ dX13_readExpression_64 (fun M34 H locs hp33 hP hS => ?_)
              have fr36 := hp33
              refine lv_aload_n hx hb dX13_readExpression_67 rfl (lv_at hl 1 rfl) ?_
              refine q_ldcwS (i := 13) (tx := "or") X hK (by decide +kernel) dX13_readExpression_68 ?_
              refine q_rdV (As := [.ref (ad (2000 + 13))]) (rest := []) (c_X13_isR l D cB cI cJ ad n M34 mb en x mv tapeF nu 13 2 h_mb h_mb_23 ((fr36 mb ).trans g31) ((fr36 (mb + 23) ).trans ((fr32 (mb + 23) (by omega)).trans m_mb_23)) hxe hen hT k26 (by decide) (by decide)) X hK hP hS hl.1 rfl gX13_readExpression_X13_is yd_X13_is ⟨by show 4 + 1 ≤ 16; omega, by show 8 + (4 + 11) + (85) ≤ 400; omega⟩ h_mb ((fr36 mb ).trans g31) (ci := 12) rfl rfl (Nat.le_of_ble_eq_true rfl) ⟨Nat.zero_le _, Nat.zero_le _⟩ dX13_readExpression_71 ?_
              refine lv_if_eq (tgt := 95) hx hb dX13_readExpression_74 (by decide) (fun c_74 => ?_) (fun c_74 => ?_)
              · skip
                exact q_wvret X hr hlocks hP hS ⟨nu, (by refine ((fr36 mb ).trans g31).trans ?_; first | (rw [mE, if_pos ((mkT_2 _).mp c_13)]; done) | (rw [mE, if_neg (fun q => c_13 ((mkT_2 _).mpr q)), if_pos ((mkT_1 _).mp c_21)]; done) | (rw [mE, if_neg (fun q => c_13 ((mkT_2 _).mpr q)), if_neg (fun q => c_21 ((mkT_1 _).mpr q)), if_pos (mkR_1 c_30).2]; done) | (rw [mE, if_neg (fun q => c_13 ((mkT_2 _).mpr q)), if_neg (fun q => c_21 ((mkT_1 _).mpr q)), if_neg (mkR_n c_30 rfl)]; done)), (by refine ((fr36 (mb + 3) ).trans ((fr32 (mb + 3) (by omega)).trans m_mb_3)).trans ?_; first | (rw [mE, if_pos ((mkT_2 _).mp c_13)]; done) | (rw [mE, if_neg (fun q => c_13 ((mkT_2 _).mpr q)), if_pos ((mkT_1 _).mp c_21)]; done) | (rw [mE, if_neg (fun q => c_13 ((mkT_2 _).mpr q)), if_neg (fun q => c_21 ((mkT_1 _).mpr q)), if_pos (mkR_1 c_30).2]; done) | (rw [mE, if_neg (fun q => c_13 ((mkT_2 _).mpr q)), if_neg (fun q => c_21 ((mkT_1 _).mpr q)), if_neg (mkR_n c_30 rfl)]; done)), (by refine ((fr36 (mb + 21) ).trans ((fr32 (mb + 21) (by omega)).trans m_mb_21)).trans ?_; first | (rw [mE, if_pos ((mkT_2 _).mp c_13)]; done) | (rw [mE, if_neg (fun q => c_13 ((mkT_2 _).mpr q)), if_pos ((mkT_1 _).mp c_21)]; done) | (rw [mE, if_neg (fun q => c_13 ((mkT_2 _).mpr q)), if_neg (fun q => c_21 ((mkT_1 _).mpr q)), if_pos (mkR_1 c_30).2]; done) | (rw [mE, if_neg (fun q => c_13 ((mkT_2 _).mpr q)), if_neg (fun q => c_21 ((mkT_1 _).mpr q)), if_neg (mkR_n c_30 rfl)]; done)), (fun q n0 n1 n2 => ((fr36 q).trans (fr32 q n0)))⟩ dX13_readExpression_95
              · exact absurd (wdR_0 (by decide)) c_74
          · exact absurd c_40 (by decide)
  · exact absurd c_4 (by decide)
theorem mC_Z {l : Launch} {D : va_G} {cB cI cJ : ClassId} {ad : Nat → Nat} {n : Nat} {mb en : Nat} {mv tapeF to0 s0 : Nat → Int32} {dp : Int32} (hdp : dp = 6) : mCon l D cB cI cJ ad n yX13_readExpression wsX13_readExpression 16 400 mb en mv tapeF to0 s0 dp (mE en tapeF 0) :=
  fun M hI x nu cs h_mb h_mb_23 h_mb_3 h_mb_21 h_mb_2 m_mb m_mb_23 m_mb_3 m_mb_21 m_mb_2 hxe hen hT k26 hx0 hcx => c_X13_readExpressionZ l D cB cI cJ ad n M hI mb en x mv tapeF nu to0 s0 cs dp h_mb h_mb_23 h_mb_3 h_mb_21 h_mb_2 m_mb m_mb_23 m_mb_3 m_mb_21 m_mb_2 hxe hen hT k26 hx0 hcx hdp
theorem mC_S {l : Launch} {D : va_G} {cB cI cJ : ClassId} {ad : Nat → Nat} {n : Nat} {mb en : Nat} {mv tapeF to0 s0 : Nat → Int32} {dp : Int32} {fE lE d : Nat} (he : en ≤ 700) (hdp : ¬ dp = 6) (hfE : 10 ≤ fE) (hlE : 200 ≤ lE) (hE : mCon l D cB cI cJ ad n yX13_readExpression wsX13_readExpression fE lE mb en mv tapeF to0 s0 (dp + 1) (mE en tapeF d)) : mCon l D cB cI cJ ad n yX13_readExpression wsX13_readExpression (fE + 7) (lE + 210) mb en mv tapeF to0 s0 dp (mE en tapeF (d + 1)) :=
  fun M hI x nu cs h_mb h_mb_23 h_mb_3 h_mb_21 h_mb_2 m_mb m_mb_23 m_mb_3 m_mb_21 m_mb_2 hxe hen hT k26 hx0 hcx => c_X13_readExpression l D cB cI cJ ad n M hI mb en x mv tapeF nu to0 s0 cs fE lE (mE en tapeF d) dp h_mb h_mb_23 h_mb_3 h_mb_21 h_mb_2 m_mb m_mb_23 m_mb_3 m_mb_21 m_mb_2 hxe hen hT k26 hx0 hcx (mE_B he d) hfE hlE hE hdp
theorem mC_6 {l : Launch} {D : va_G} {cB cI cJ : ClassId} {ad : Nat → Nat} {n : Nat} {mb en : Nat} {mv tapeF to0 s0 : Nat → Int32} (he : en ≤ 700) : mCon l D cB cI cJ ad n yX13_readExpression wsX13_readExpression 58 1660 mb en mv tapeF to0 s0 0 (mE en tapeF 6) :=
  mC_S (fE := 51) (lE := 1450) he (by decide) (by decide) (by decide) (mC_S (fE := 44) (lE := 1240) he (by decide) (by decide) (by decide) (mC_S (fE := 37) (lE := 1030) he (by decide) (by decide) (by decide) (mC_S (fE := 30) (lE := 820) he (by decide) (by decide) (by decide) (mC_S (fE := 23) (lE := 610) he (by decide) (by decide) (by decide) (mC_S (fE := 16) (lE := 400) he (by decide) (by decide) (by decide) (mC_Z (by decide)))))))
end
