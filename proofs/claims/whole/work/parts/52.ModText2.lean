/-! PoundsOverModel: the rule's text, further *-/
noncomputable section
def mRp (f : Int32) (cs : List Int32) (j : Nat) : List Int32 := if f = 0 then eRep cs j else cs
theorem mRp_0 (f : Int32) (cs : List Int32) : mRp f cs 0 = cs := by unfold mRp; split <;> rfl
theorem mRp_s (f : Int32) (cs : List Int32) (j : Nat) : eA f (mRp f cs j) (-12) = mRp f cs (j + 1) := by
  unfold mRp eA
  split <;> rfl
theorem mRp_len (f : Int32) (cs : List Int32) (j : Nat) : (mRp f cs j).length ≤ cs.length + j := by
  unfold mRp
  split
  · rw [eRep_len]; omega
  · omega
theorem mOr_no {en : Nat} {bf : Nat → Int32} {E : Nat → List Int32 → Int32 × Nat × List Int32} {x : Nat} {cs : List Int32} (h2 : ¬ kX en bf x = 2) (h1 : ¬ kX en bf x = 1) (h4 : ¬ kX en bf x = 40) : mOr en bf E x cs = (1, x, cs) := by
  have hw : ¬ wX en bf x = 15 := fun q => h1 (wX_k (by rw [q]; decide))
  have hp : ePart en bf E x cs = (1, x, cs) := by unfold ePart; rw [if_neg h1, if_neg h2, if_neg h4]
  have b : ∀ (op : Nat → Int32) (S : Nat → List Int32 → Int32 × Nat × List Int32) (k : Nat), eLoop en bf op S k (1, x, cs) = (1, x, cs) := fun op S k => eLoop_bad (show ¬ (1 : Int32) = 0 by decide) k
  have hx : eNotX en bf 6 x = x := by rw [eNotX, if_neg hw]
  have ht : eTest en bf E x cs = (1, x, cs) := by unfold eTest eSum eProd; rw [hp, b, b, b]
  have hn : mNot en bf E x cs = (1, x, cs) := by
    unfold mNot
    rw [hx, if_neg hw, ht]
    rfl
  unfold mOr mAnd
  rw [hn, b, b]
theorem eNotX_stop {en : Nat} {bf : Nat → Int32} {x : Nat} (h : ¬ wX en bf x = 15) : ∀ k : Nat, eNotX en bf k x = x
  | 0 => rfl
  | k + 1 => by rw [eNotX, if_neg h]
theorem eNotN_stop {en : Nat} {bf : Nat → Int32} {x : Nat} (h : ¬ wX en bf x = 15) : ∀ k : Nat, eNotN en bf k x = 0
  | 0 => rfl
  | k + 1 => by rw [eNotN, if_neg h]
set_option maxRecDepth 20000 in
theorem fX13_readNot_222 : FL wsX13_readNot RX13 222 12 31 := ⟨RX13, TX13, 67, rfl, by decide +kernel, by decide, by decide +kernel⟩
set_option maxHeartbeats 2000000 in
set_option maxRecDepth 100000 in
theorem c_X13_readNot (l : Launch) (D : va_G) (cB cI cJ : ClassId) (ad : Nat → Nat) (n : Nat) (M : Nat → va_E) (hI : ipI ad n) (mb en x : Nat) (mv tapeF : Nat → Int32) (nu : Int32) (to0 s0 : Nat → Int32) (cs : List Int32) (fE lE : Nat) (E : Nat → List Int32 → Int32 × Nat × List Int32) (dp : Int32) (h_mb : mb < n) (h_mb_23 : mb + 23 < n) (h_mb_3 : mb + 3 < n) (h_mb_21 : mb + 21 < n) (h_mb_2 : mb + 2 < n) (m_mb : M mb = .inr (12, modF ad mb (mR en tapeF mv x 0 nu))) (m_mb_23 : M (mb + 23) = .inl (cI, 700, .inl tapeF)) (m_mb_3 : M (mb + 3) = .inl (cI, 14, .inl (tdC to0 cs))) (m_mb_21 : M (mb + 21) = .inl (cI, 1400, .inl (layM cs s0))) (m_mb_2 : M (mb + 2) = .inl (ad 5000, 5, .inr (.inr (.inr (.inr (txF ad vlI)))))) (hxe : x ≤ en) (hen : en ≤ 700) (hT : bOK tapeF) (k26 : mv 26 = nI en) (hx0 : 0 < x) (hcx : cs.length ≤ x) (hEB : eB en E) (hfE : 10 ≤ fE) (hlE : 200 ≤ lE) (hE : mCon l D cB cI cJ ad n yX13_readExpression wsX13_readExpression fE lE mb en mv tapeF to0 s0 (dp + 1) E) : cWv l D cB cI cJ ad n M yX13_readNot wsX13_readNot (fE + 5) (lE + 150) [.ref (ad mb), .int dp] (fun M' => ∃ (v0 : Int32), M' mb = .inr (12, modF ad mb (mR en tapeF mv (mNot en tapeF E x cs).2.1 (mNot en tapeF E x cs).1 v0)) ∧ M' (mb + 3) = .inl (cI, 14, .inl (tdC to0 (mNot en tapeF E x cs).2.2)) ∧ M' (mb + 21) = .inl (cI, 1400, .inl (layM (mNot en tapeF E x cs).2.2 s0)) ∧ ∀ q : Nat, q ≠ mb → q ≠ mb + 3 → q ≠ mb + 21 → M' q = M q) := by
  refine q_body (cc := cX13_readNot) (maxL := 4) (ret := none) (by decide) rfl (Nat.le_of_ble_eq_true rfl) ?_
  intro p e s m args below meth c ls X hr hlocks hK hP hl
  obtain ⟨hx, hb, hml, hown, hts⟩ := id X
  have hS : va_S (ipA ad n) s.heap s.heap [] := va_S.rf
  have hl : lv_has ls 4 [(0, .ref (ad mb)), (1, .int dp)] := hl
  have hSB : eB en (eSum en tapeF E) := eSum_B hen hEB
  have hTB : eB en (eTest en tapeF E) := eTest_B hen hEB
  have hbX := eNotX_B (bf := tapeF) hen 6 x hxe
  have hb1 := hSB (eNotX en tapeF 6 x) cs hbX.2
  have hbT := hTB (eNotX en tapeF 6 x) cs hbX.2
  have hn6 : eNotN en tapeF 6 x ≤ 6 := eNotN_le 6 x
  refine lv_iconst (v := 0) hx hb dX13_readNot_0 (by decide) ?_
  refine lv_istore_n (lv' := [(2, .int 0), (0, .ref (ad mb)), (1, .int dp)]) hx hb dX13_readNot_1 rfl hl (by decide) rfl (fun ls hl => ?_)
  have loop_2 : ∀ (fuel : Nat) (k x1 : Nat) (f1 nu1 : Int32) (x2 : Int32), 8 - k < fuel → (x1 ≤ en) → (x ≤ x1) → ((f1 = 0 ∧ k ≤ 6 ∧ eNotX en tapeF (6 - k) x1 = (eNotX en tapeF 6 x) ∧ k + eNotN en tapeF (6 - k) x1 = eNotN en tapeF 6 x) ∨ (f1 = 2 ∧ k = 7 ∧ x1 = (eNotX en tapeF 6 x) ∧ wX en tapeF x1 = 15)) → x2 = nI k → ∀ (ML2 : Nat → va_E) (H : Heap) (locs : List Loc), ML2 mb = .inr (12, modF ad mb (mR en tapeF mv x1 f1 nu1)) → ML2 (mb + 3) = .inl (cI, 14, .inl (tdC to0 cs)) → ML2 (mb + 21) = .inl (cI, 1400, .inl (layM cs s0)) → (∀ q : Nat, q ≠ mb → q ≠ mb + 3 → q ≠ mb + 21 → ML2 q = M q) → va_P D vwCl (ip ad n ML2) H → va_S (ipA ad n) s.heap H locs → ∀ (ls : Array Slot), lv_has ls 4 [(0, .ref (ad mb)), (1, .int dp), (2, .int x2)] → W p l e (rmOf (fE + 5) (lE + 150)) s m args below meth c H locs 0 0 (MQ below (va_Qv (fun M' => ∃ (v0 : Int32), M' mb = .inr (12, modF ad mb (mR en tapeF mv (mNot en tapeF E x cs).2.1 (mNot en tapeF E x cs).1 v0)) ∧ M' (mb + 3) = .inl (cI, 14, .inl (tdC to0 (mNot en tapeF E x cs).2.2)) ∧ M' (mb + 21) = .inl (cI, 1400, .inl (layM (mNot en tapeF E x cs).2.2 s0)) ∧ ∀ q : Nat, q ≠ mb → q ≠ mb + 3 → q ≠ mb + 21 → M' q = M q) (fun M' t => va_P D vwCl (ip ad n M') t.heap) (ipA ad n)) args s 0 0 (ipA ad n)) (F0 m 2 ls []) := by
    intro fuel
    induction fuel with
    | zero =>
      intro k x1 f1 nu1 x2 hz
      exact absurd hz (Nat.not_lt_zero _)
    | succ fuel ih_2 =>
      intro k x1 f1 nu1 x2 hz_2 hx1 hx2 hi9 e2 ML2 H locs mL2_0 mL2_1 mL2_2 fL2 hP hS ls hl
      subst e2
      skip
      refine lv_aload_n hx hb dX13_readNot_2 rfl (lv_at hl 0 rfl) ?_
      refine q_ldcwS (i := 15) (tx := "not") X hK (by decide +kernel) dX13_readNot_3 ?_
      refine q_rdV (As := [.ref (ad (2000 + 15))]) (rest := []) (c_X13_isR l D cB cI cJ ad n ML2 mb en x1 mv tapeF nu1 15 f1 h_mb h_mb_23 mL2_0 ((fL2 (mb + 23) (by omega) (by omega) (by omega)).trans m_mb_23) (by first | assumption | omega | exact vp_in_nI (by omega) (by decide) | exact vp_in_iff.mpr (by decide)) hen hT k26 (by decide) (by decide)) X hK hP hS hl.1 rfl gX13_readNot_X13_is yd_X13_is ⟨by show 4 + 1 ≤ fE + 5; omega, by show 8 + (4 + 11) + (85) ≤ lE + 150; omega⟩ h_mb mL2_0 (ci := 12) rfl rfl (Nat.le_of_ble_eq_true rfl) ⟨Nat.zero_le _, Nat.zero_le _⟩ dX13_readNot_6 ?_
      refine lv_if_eq (tgt := 40) hx hb dX13_readNot_9 (by decide) (fun c_9 => ?_) (fun c_9 => ?_)
      · skip
        by_cases s_40 : f1 = 0
        · skip
          obtain ⟨-, hk6, hi3, hi4⟩ := hi9.resolve_right (fun q => absurd (s_40.symm.trans q.1) (by decide)); have hw9 := wdR_n c_9 s_40; have hx9 : x1 = (eNotX en tapeF 6 x) := (by rw [← hi3]; exact (eNotX_stop hw9 _).symm); have hk9 : k = eNotN en tapeF 6 x := (by rw [← hi4, eNotN_stop hw9]; rfl); rw [hx9] at hw9; have hlT : ∀ j9 : Nat, j9 < k → (mRp (eTest en tapeF E (eNotX en tapeF 6 x) cs).1 (eTest en tapeF E (eNotX en tapeF 6 x) cs).2.2 j9).length < 700 := (fun j9 h => by have := mRp_len (eTest en tapeF E (eNotX en tapeF 6 x) cs).1 (eTest en tapeF E (eNotX en tapeF 6 x) cs).2.2 j9; omega); have hqT : mNot en tapeF E x cs = ((eTest en tapeF E (eNotX en tapeF 6 x) cs).1, (eTest en tapeF E (eNotX en tapeF 6 x) cs).2.1, mRp (eTest en tapeF E (eNotX en tapeF 6 x) cs).1 (eTest en tapeF E (eNotX en tapeF 6 x) cs).2.2 k) := (by rw [mNot, if_neg hw9, hk9]; rfl)
          have g1 : ML2 mb = .inr (12, modF ad mb (mR en tapeF mv (eNotX en tapeF 6 x) 0 nu1)) := by refine mL2_0.trans (modC (by rw [s_40, hx9]))
          refine lv_aload_n hx hb dX13_readNot_40 rfl (lv_at hl 0 rfl) ?_
          refine lv_iload_n hx hb dX13_readNot_41 rfl (lv_at hl 1 rfl) ?_
          refine q_wrVv (As := [.int dp]) (rest := []) (c_X13_readSum l D cB cI cJ ad n ML2 hI mb en (eNotX en tapeF 6 x) mv tapeF nu1 to0 s0 cs fE lE E dp h_mb h_mb_23 h_mb_3 h_mb_21 h_mb_2 g1 ((fL2 (mb + 23) (by omega) (by omega) (by omega)).trans m_mb_23) mL2_1 mL2_2 ((fL2 (mb + 2) (by omega) (by omega) (by omega)).trans m_mb_2) (by omega) hen hT k26 (by omega) (by omega) hEB hfE hlE hE) X hK hP hS hl.1 rfl gX13_readNot_X13_readSum yd_X13_readSum ⟨by show fE + 3 + 1 ≤ fE + 5; omega, by show 8 + (3 + 11) + (lE + 90) ≤ lE + 150; omega⟩ h_mb g1 (ci := 12) rfl rfl (Nat.le_of_ble_eq_true rfl) ⟨Nat.zero_le _, Nat.zero_le _⟩ dX13_readNot_42 (fun M3 H locs hp2 hP hS => ?_)
          obtain ⟨v0_5, g6, g7, g8, fr9⟩ := hp2
          refine lv_aload_n hx hb dX13_readNot_45 rfl (lv_at hl 0 rfl) ?_
          refine lv_bipush (v := 60) hx hb dX13_readNot_46 (by decide) ?_
          refine q_rdV (As := [.int 60]) (rest := []) (c_X13_isMarkedR l D cB cI cJ ad n M3 mb en ((eSum en tapeF E (eNotX en tapeF 6 x) cs).2.1) mv tapeF v0_5 ((eSum en tapeF E (eNotX en tapeF 6 x) cs).1) 60 h_mb h_mb_23 g6 ((fr9 (mb + 23) (by omega) (by omega) (by omega)).trans ((fL2 (mb + 23) (by omega) (by omega) (by omega)).trans m_mb_23)) (by first | assumption | exact hb1.2.1) hen hT k26 (by decide)) X hK hP hS hl.1 rfl gX13_readNot_X13_isMarked yd_X13_isMarked ⟨by show 0 + 1 ≤ fE + 5; omega, by show 8 + (2 + 11) + (0) ≤ lE + 150; omega⟩ h_mb g6 (ci := 12) rfl rfl (Nat.le_of_ble_eq_true rfl) ⟨Nat.zero_le _, Nat.zero_le _⟩ dX13_readNot_48 ?_
          refine lv_if_ne (tgt := 63) hx hb dX13_readNot_51 (by decide) (fun c_51 => ?_) (fun c_51 => ?_)
          · skip
            obtain ⟨hf0, hkz⟩ := mkR_1 c_51; have hop : opT en tapeF (eSum en tapeF E (eNotX en tapeF 6 x) cs).2.1 = (-13) := (by rw [opT, if_pos hkz]); have hop0 : ¬ opT en tapeF (eSum en tapeF E (eNotX en tapeF 6 x) cs).2.1 = 0 := (by rw [hop]; decide); have hgt := opT_B (bf := tapeF) hen (eSum en tapeF E (eNotX en tapeF 6 x) cs).2.1 hb1.2.1 hop0; have hle := nX_le (bf := tapeF) hb1.2.1 hen; have hbd := hSB (nX en tapeF (eSum en tapeF E (eNotX en tapeF 6 x) cs).2.1) (eSum en tapeF E (eNotX en tapeF 6 x) cs).2.2 hle; have hTE : (eTest en tapeF E (eNotX en tapeF 6 x) cs) = eIf (eSum en tapeF E (nX en tapeF (eSum en tapeF E (eNotX en tapeF 6 x) cs).2.1) (eSum en tapeF E (eNotX en tapeF 6 x) cs).2.2) (opT en tapeF (eSum en tapeF E (eNotX en tapeF 6 x) cs).2.1) := (by rw [eTest, eLoop_on hf0 hop0]; rfl)
            have g10 : M3 mb = .inr (12, modF ad mb (mR en tapeF mv (eSum en tapeF E (eNotX en tapeF 6 x) cs).2.1 0 v0_5)) := by refine g6.trans (modC (by rw [hf0]))
            refine lv_aload_n hx hb dX13_readNot_63 rfl (lv_at hl 0 rfl) ?_
            refine lv_bipush (v := 60) hx hb dX13_readNot_64 (by decide) ?_
            refine q_rdV (As := [.int 60]) (rest := []) (c_X13_isMarkedR l D cB cI cJ ad n M3 mb en ((eSum en tapeF E (eNotX en tapeF 6 x) cs).2.1) mv tapeF v0_5 0 60 h_mb h_mb_23 g10 ((fr9 (mb + 23) (by omega) (by omega) (by omega)).trans ((fL2 (mb + 23) (by omega) (by omega) (by omega)).trans m_mb_23)) (by first | assumption | exact hb1.2.1) hen hT k26 (by decide)) X hK hP hS hl.1 rfl gX13_readNot_X13_isMarked yd_X13_isMarked ⟨by show 0 + 1 ≤ fE + 5; omega, by show 8 + (2 + 11) + (0) ≤ lE + 150; omega⟩ h_mb g10 (ci := 12) rfl rfl (Nat.le_of_ble_eq_true rfl) ⟨Nat.zero_le _, Nat.zero_le _⟩ dX13_readNot_66 ?_
            refine lv_if_eq (tgt := 77) hx hb dX13_readNot_69 (by decide) (fun c_69 => ?_) (fun c_69 => ?_)
            · exact absurd c_69 (by rw [mkR, if_pos rfl, if_pos hkz]; decide)
            · skip
              refine lv_bipush (v := (-24)) hx hb dX13_readNot_72 (by decide) ?_
              refine lv_goto (tgt := 79) hx hb dX13_readNot_74 (by decide) ?_
              refine lv_istore_n (lv' := [(3, .int (-24)), (0, .ref (ad mb)), (1, .int dp), (2, .int (nI k))]) hx hb dX13_readNot_79 rfl hl (by decide) rfl (fun ls hl => ?_)
              refine lv_aload_n hx hb dX13_readNot_80 rfl (lv_at hl 1 rfl) ?_
              refine q_wrVv (As := []) (rest := []) (c_X13_stepR l D cB cI cJ ad n M3 hI mb en ((eSum en tapeF E (eNotX en tapeF 6 x) cs).2.1) mv tapeF v0_5 h_mb h_mb_23 g10 ((fr9 (mb + 23) (by omega) (by omega) (by omega)).trans ((fL2 (mb + 23) (by omega) (by omega) (by omega)).trans m_mb_23)) (by first | assumption | exact hb1.2.1) hen hT k26) X hK hP hS hl.1 rfl gX13_readNot_X13_stepOn yd_X13_stepOn ⟨by show 1 + 1 ≤ fE + 5; omega, by show 8 + (2 + 11) + (21) ≤ lE + 150; omega⟩ h_mb g10 (ci := 12) rfl rfl (Nat.le_of_ble_eq_true rfl) ⟨Nat.zero_le _, Nat.zero_le _⟩ dX13_readNot_81 (fun M12 H locs hp11 hP hS => ?_)
              obtain ⟨g14, fr15⟩ := hp11
              refine lv_aload_n hx hb dX13_readNot_84 rfl (lv_at hl 1 rfl) ?_
              refine lv_iload_n hx hb dX13_readNot_85 rfl (lv_at hl 2 rfl) ?_
              refine q_wrVv (As := [.int dp]) (rest := []) (c_X13_readSum l D cB cI cJ ad n M12 hI mb en (nX en tapeF ((eSum en tapeF E (eNotX en tapeF 6 x) cs).2.1)) mv tapeF (mnX en tapeF ((eSum en tapeF E (eNotX en tapeF 6 x) cs).2.1) v0_5) to0 s0 ((eSum en tapeF E (eNotX en tapeF 6 x) cs).2.2) fE lE E dp h_mb h_mb_23 h_mb_3 h_mb_21 h_mb_2 g14 ((fr15 (mb + 23) (by omega)).trans ((fr9 (mb + 23) (by omega) (by omega) (by omega)).trans ((fL2 (mb + 23) (by omega) (by omega) (by omega)).trans m_mb_23))) ((fr15 (mb + 3) (by omega)).trans g7) ((fr15 (mb + 21) (by omega)).trans g8) ((fr15 (mb + 2) (by omega)).trans ((fr9 (mb + 2) (by omega) (by omega) (by omega)).trans ((fL2 (mb + 2) (by omega) (by omega) (by omega)).trans m_mb_2))) (by omega) hen hT k26 (by omega) (by omega) hEB hfE hlE hE) X hK hP hS hl.1 rfl gX13_readNot_X13_readSum yd_X13_readSum ⟨by show fE + 3 + 1 ≤ fE + 5; omega, by show 8 + (3 + 11) + (lE + 90) ≤ lE + 150; omega⟩ h_mb g14 (ci := 12) rfl rfl (Nat.le_of_ble_eq_true rfl) ⟨Nat.zero_le _, Nat.zero_le _⟩ dX13_readNot_86 (fun M17 H locs hp16 hP hS => ?_)
              obtain ⟨v0_19, g20, g21, g22, fr23⟩ := hp16
              refine lv_aload_n hx hb dX13_readNot_89 rfl (lv_at hl 1 rfl) ?_
              refine lv_iload_n hx hb dX13_readNot_90 rfl (lv_at hl 0 rfl) ?_
              refine q_wrVv (As := [.int (-24)]) (rest := []) (c_X13_layR l D cB cI cJ ad n M17 hI mb en ((eSum en tapeF E (nX en tapeF ((eSum en tapeF E (eNotX en tapeF 6 x) cs).2.1)) ((eSum en tapeF E (eNotX en tapeF 6 x) cs).2.2)).2.1) mv tapeF v0_19 ((eSum en tapeF E (nX en tapeF ((eSum en tapeF E (eNotX en tapeF 6 x) cs).2.1)) ((eSum en tapeF E (eNotX en tapeF 6 x) cs).2.2)).1) (-24) (-13) to0 s0 ((eSum en tapeF E (nX en tapeF ((eSum en tapeF E (eNotX en tapeF 6 x) cs).2.1)) ((eSum en tapeF E (eNotX en tapeF 6 x) cs).2.2)).2.2) h_mb h_mb_3 h_mb_21 g20 g21 g22 (by omega) (by decide)) X hK hP hS hl.1 rfl gX13_readNot_X13_lay yd_X13_lay ⟨by show 0 + 1 ≤ fE + 5; omega, by show 8 + (2 + 11) + (0) ≤ lE + 150; omega⟩ h_mb g20 (ci := 12) rfl rfl (Nat.le_of_ble_eq_true rfl) ⟨Nat.zero_le _, Nat.zero_le _⟩ dX13_readNot_91 (fun M25 H locs hp24 hP hS => ?_)
              obtain ⟨g27, g28, fr29⟩ := hp24
              refine lv_iconst (v := 0) hx hb dX13_readNot_94 (by decide) ?_
              refine lv_istore_n (lv' := [(3, .int 0), (0, .ref (ad mb)), (1, .int dp), (2, .int (nI k))]) hx hb dX13_readNot_95 rfl hl (by decide) rfl (fun ls hl => ?_)
              have loop_96 : ∀ (fuel : Nat) (j k2 xq : Nat) (fq nu2 : Int32) (cq : List Int32) (x3 : Int32), 8 - j < fuel → (j ≤ k2) → (k2 ≤ 7) → (∀ j9 : Nat, j9 < k2 → (mRp fq cq j9).length < 700) → (mNot en tapeF E x cs = (fq, xq, mRp fq cq k2)) → x3 = nI j → ∀ (ML96 : Nat → va_E) (H : Heap) (locs : List Loc), ML96 mb = .inr (12, modF ad mb (mR en tapeF mv xq fq nu2)) → ML96 (mb + 3) = .inl (cI, 14, .inl (tdC to0 (mRp fq cq j))) → ML96 (mb + 21) = .inl (cI, 1400, .inl (layM (mRp fq cq j) s0)) → (∀ q : Nat, q ≠ mb → q ≠ mb + 3 → q ≠ mb + 21 → ML96 q = M q) → va_P D vwCl (ip ad n ML96) H → va_S (ipA ad n) s.heap H locs → ∀ (ls : Array Slot), lv_has ls 4 [(0, .ref (ad mb)), (2, .int (nI k2)), (3, .int x3)] → W p l e (rmOf (fE + 5) (lE + 150)) s m args below meth c H locs 0 0 (MQ below (va_Qv (fun M' => ∃ (v0 : Int32), M' mb = .inr (12, modF ad mb (mR en tapeF mv (mNot en tapeF E x cs).2.1 (mNot en tapeF E x cs).1 v0)) ∧ M' (mb + 3) = .inl (cI, 14, .inl (tdC to0 (mNot en tapeF E x cs).2.2)) ∧ M' (mb + 21) = .inl (cI, 1400, .inl (layM (mNot en tapeF E x cs).2.2 s0)) ∧ ∀ q : Nat, q ≠ mb → q ≠ mb + 3 → q ≠ mb + 21 → M' q = M q) (fun M' t => va_P D vwCl (ip ad n M') t.heap) (ipA ad n)) args s 0 0 (ipA ad n)) (F0 m 96 ls []) := by
                intro fuel
                induction fuel with
                | zero =>
                  intro j k2 xq fq nu2 cq x3 hz
                  exact absurd hz (Nat.not_lt_zero _)
                | succ fuel ih_96 =>
                  intro j k2 xq fq nu2 cq x3 hz_96 hj0 hk7 hl2 hq e3 ML96 H locs mL96_0 mL96_1 mL96_2 fL96 hP hS ls hl
                  subst e3
                  skip
                  refine lv_iload_n hx hb dX13_readNot_96 rfl (lv_at hl 2 rfl) ?_
                  refine lv_iload_n hx hb dX13_readNot_97 rfl (lv_at hl 1 rfl) ?_
                  refine lv_icmp_ge (tgt := 113) hx hb dX13_readNot_98 (by decide) (fun c_98 => ?_) (fun c_98 => ?_)
                  · skip
                    have h9 : j = k2 := eq_of_le c_98 (by omega) hj0
                    exact q_wvret X hr hlocks hP hS ⟨nu2, (by rw [hq, ← h9]; exact mL96_0), (by rw [hq, ← h9]; exact mL96_1), (by rw [hq, ← h9]; exact mL96_2), (fun q n0 n1 n2 => (fL96 q n0 n1 n2))⟩ dX13_readNot_113
                  · skip
                    have ht9 := lt_of_nlt c_98 (by omega) hj0
                    refine lv_aload_n hx hb dX13_readNot_101 rfl (lv_at hl 0 rfl) ?_
                    refine lv_bipush (v := (-28)) hx hb dX13_readNot_102 (by decide) ?_
                    refine q_wrVv (As := [.int (-28)]) (rest := []) (c_X13_layR l D cB cI cJ ad n ML96 hI mb en xq mv tapeF nu2 fq (-28) (-12) to0 s0 (mRp fq cq j) h_mb h_mb_3 h_mb_21 mL96_0 mL96_1 mL96_2 (hl2 j (by omega)) (by decide)) X hK hP hS hl.1 rfl gX13_readNot_X13_lay yd_X13_lay ⟨by show 0 + 1 ≤ fE + 5; omega, by show 8 + (2 + 11) + (0) ≤ lE + 150; omega⟩ h_mb mL96_0 (ci := 12) rfl rfl (Nat.le_of_ble_eq_true rfl) ⟨Nat.zero_le _, Nat.zero_le _⟩ dX13_readNot_104 (fun M31 H locs hp30 hP hS => ?_)
                    obtain ⟨g33, g34, fr35⟩ := hp30
                    refine lv_iinc (v := ((nI j) + 1)) (lv' := [(3, .int ((nI j) + 1)), (0, .ref (ad mb)), (2, .int (nI k2))]) hx hb dX13_readNot_107 hl (k := 2) rfl rfl (by decide) rfl (fun ls hl => ?_)
                    refine lv_goto (tgt := 96) hx hb dX13_readNot_110 (by decide) ?_
                    exact ih_96 (j + 1) k2 xq fq nu2 cq ((nI j) + 1) (by omega) (by omega) (by exact hk7) (by exact hl2) (by exact hq) (by exact nI_1 _) _ _ _ ((fr35 mb (by omega) (by omega)).trans mL96_0) (by rw [← mRp_s]; exact g33) (by rw [← mRp_s]; exact g34) (fun q n0 n1 n2 => ((fr35 q n1 n2).trans (fL96 q n0 n1 n2))) hP hS ls (lv_sub hl [1, 2, 0] rfl)
              exact loop_96 (9) 0 k ((eSum en tapeF E (nX en tapeF ((eSum en tapeF E (eNotX en tapeF 6 x) cs).2.1)) ((eSum en tapeF E (eNotX en tapeF 6 x) cs).2.2)).2.1) ((eSum en tapeF E (nX en tapeF ((eSum en tapeF E (eNotX en tapeF 6 x) cs).2.1)) ((eSum en tapeF E (eNotX en tapeF 6 x) cs).2.2)).1) v0_19 (eA ((eSum en tapeF E (nX en tapeF ((eSum en tapeF E (eNotX en tapeF 6 x) cs).2.1)) ((eSum en tapeF E (eNotX en tapeF 6 x) cs).2.2)).1) ((eSum en tapeF E (nX en tapeF ((eSum en tapeF E (eNotX en tapeF 6 x) cs).2.1)) ((eSum en tapeF E (eNotX en tapeF 6 x) cs).2.2)).2.2) (-13)) 0 (by omega) (by omega) (by omega) (by first | (rw [hTE, eIf_1, eIf_c, hop] at hlT; exact hlT) | (rw [hTE] at hlT; exact hlT) | exact hlF) (by first | (rw [hqT, hTE, eIf_1, eIf_x, eIf_c, hop]; done) | (rw [hqT, hTE]; done) | exact hqF) (by rfl) _ _ _ ((fr29 mb (by omega) (by omega)).trans g20) (by rw [mRp_0]; exact g27) (by rw [mRp_0]; exact g28) (fun q n0 n1 n2 => ((fr29 q n1 n2).trans ((fr23 q n0 n1 n2).trans ((fr15 q n0).trans ((fr9 q n0 n1 n2).trans (fL2 q n0 n1 n2)))))) hP hS ls (lv_sub hl [1, 3, 0] rfl)
          · skip
            refine lv_aload_n hx hb dX13_readNot_54 rfl (lv_at hl 0 rfl) ?_
            refine lv_bipush (v := 61) hx hb dX13_readNot_55 (by decide) ?_
            refine q_rdV (As := [.int 61]) (rest := []) (c_X13_isMarkedR l D cB cI cJ ad n M3 mb en ((eSum en tapeF E (eNotX en tapeF 6 x) cs).2.1) mv tapeF v0_5 ((eSum en tapeF E (eNotX en tapeF 6 x) cs).1) 61 h_mb h_mb_23 g6 ((fr9 (mb + 23) (by omega) (by omega) (by omega)).trans ((fL2 (mb + 23) (by omega) (by omega) (by omega)).trans m_mb_23)) (by first | assumption | exact hb1.2.1) hen hT k26 (by decide)) X hK hP hS hl.1 rfl gX13_readNot_X13_isMarked yd_X13_isMarked ⟨by show 0 + 1 ≤ fE + 5; omega, by show 8 + (2 + 11) + (0) ≤ lE + 150; omega⟩ h_mb g6 (ci := 12) rfl rfl (Nat.le_of_ble_eq_true rfl) ⟨Nat.zero_le _, Nat.zero_le _⟩ dX13_readNot_57 ?_
            refine lv_if_eq (tgt := 94) hx hb dX13_readNot_60 (by decide) (fun c_60 => ?_) (fun c_60 => ?_)
            · skip
              have hTE : (eTest en tapeF E (eNotX en tapeF 6 x) cs) = (eSum en tapeF E (eNotX en tapeF 6 x) cs) := (Classical.byCases (fun q9 : (eSum en tapeF E (eNotX en tapeF 6 x) cs).1 = 0 => eLoop_op (by rw [opT, if_neg (mkR_n c_51 q9), if_neg (mkR_n c_60 q9)]) 1) (fun q9 => eLoop_bad q9 1))
              refine lv_iconst (v := 0) hx hb dX13_readNot_94 (by decide) ?_
              refine lv_istore_n (lv' := [(3, .int 0), (0, .ref (ad mb)), (1, .int dp), (2, .int (nI k))]) hx hb dX13_readNot_95 rfl hl (by decide) rfl (fun ls hl => ?_)
              have loop_96 : ∀ (fuel : Nat) (j k2 xq : Nat) (fq nu2 : Int32) (cq : List Int32) (x3 : Int32), 8 - j < fuel → (j ≤ k2) → (k2 ≤ 7) → (∀ j9 : Nat, j9 < k2 → (mRp fq cq j9).length < 700) → (mNot en tapeF E x cs = (fq, xq, mRp fq cq k2)) → x3 = nI j → ∀ (ML96 : Nat → va_E) (H : Heap) (locs : List Loc), ML96 mb = .inr (12, modF ad mb (mR en tapeF mv xq fq nu2)) → ML96 (mb + 3) = .inl (cI, 14, .inl (tdC to0 (mRp fq cq j))) → ML96 (mb + 21) = .inl (cI, 1400, .inl (layM (mRp fq cq j) s0)) → (∀ q : Nat, q ≠ mb → q ≠ mb + 3 → q ≠ mb + 21 → ML96 q = M q) → va_P D vwCl (ip ad n ML96) H → va_S (ipA ad n) s.heap H locs → ∀ (ls : Array Slot), lv_has ls 4 [(0, .ref (ad mb)), (2, .int (nI k2)), (3, .int x3)] → W p l e (rmOf (fE + 5) (lE + 150)) s m args below meth c H locs 0 0 (MQ below (va_Qv (fun M' => ∃ (v0 : Int32), M' mb = .inr (12, modF ad mb (mR en tapeF mv (mNot en tapeF E x cs).2.1 (mNot en tapeF E x cs).1 v0)) ∧ M' (mb + 3) = .inl (cI, 14, .inl (tdC to0 (mNot en tapeF E x cs).2.2)) ∧ M' (mb + 21) = .inl (cI, 1400, .inl (layM (mNot en tapeF E x cs).2.2 s0)) ∧ ∀ q : Nat, q ≠ mb → q ≠ mb + 3 → q ≠ mb + 21 → M' q = M q) (fun M' t => va_P D vwCl (ip ad n M') t.heap) (ipA ad n)) args s 0 0 (ipA ad n)) (F0 m 96 ls []) := by
                intro fuel
                induction fuel with
                | zero =>
                  intro j k2 xq fq nu2 cq x3 hz
                  exact absurd hz (Nat.not_lt_zero _)
                | succ fuel ih_96 =>
                  intro j k2 xq fq nu2 cq x3 hz_96 hj0 hk7 hl2 hq e3 ML96 H locs mL96_0 mL96_1 mL96_2 fL96 hP hS ls hl
                  subst e3
                  skip
                  refine lv_iload_n hx hb dX13_readNot_96 rfl (lv_at hl 2 rfl) ?_
                  refine lv_iload_n hx hb dX13_readNot_97 rfl (lv_at hl 1 rfl) ?_
                  refine lv_icmp_ge (tgt := 113) hx hb dX13_readNot_98 (by decide) (fun c_98 => ?_) (fun c_98 => ?_)
                  · skip
                    have h9 : j = k2 := eq_of_le c_98 (by omega) hj0
                    exact q_wvret X hr hlocks hP hS ⟨nu2, (by rw [hq, ← h9]; exact mL96_0), (by rw [hq, ← h9]; exact mL96_1), (by rw [hq, ← h9]; exact mL96_2), (fun q n0 n1 n2 => (fL96 q n0 n1 n2))⟩ dX13_readNot_113
                  · skip
                    have ht9 := lt_of_nlt c_98 (by omega) hj0
                    refine lv_aload_n hx hb dX13_readNot_101 rfl (lv_at hl 0 rfl) ?_
                    refine lv_bipush (v := (-28)) hx hb dX13_readNot_102 (by decide) ?_
                    refine q_wrVv (As := [.int (-28)]) (rest := []) (c_X13_layR l D cB cI cJ ad n ML96 hI mb en xq mv tapeF nu2 fq (-28) (-12) to0 s0 (mRp fq cq j) h_mb h_mb_3 h_mb_21 mL96_0 mL96_1 mL96_2 (hl2 j (by omega)) (by decide)) X hK hP hS hl.1 rfl gX13_readNot_X13_lay yd_X13_lay ⟨by show 0 + 1 ≤ fE + 5; omega, by show 8 + (2 + 11) + (0) ≤ lE + 150; omega⟩ h_mb mL96_0 (ci := 12) rfl rfl (Nat.le_of_ble_eq_true rfl) ⟨Nat.zero_le _, Nat.zero_le _⟩ dX13_readNot_104 (fun M37 H locs hp36 hP hS => ?_)
                    obtain ⟨g39, g40, fr41⟩ := hp36
                    refine lv_iinc (v := ((nI j) + 1)) (lv' := [(3, .int ((nI j) + 1)), (0, .ref (ad mb)), (2, .int (nI k2))]) hx hb dX13_readNot_107 hl (k := 2) rfl rfl (by decide) rfl (fun ls hl => ?_)
                    refine lv_goto (tgt := 96) hx hb dX13_readNot_110 (by decide) ?_
                    exact ih_96 (j + 1) k2 xq fq nu2 cq ((nI j) + 1) (by omega) (by omega) (by exact hk7) (by exact hl2) (by exact hq) (by exact nI_1 _) _ _ _ ((fr41 mb (by omega) (by omega)).trans mL96_0) (by rw [← mRp_s]; exact g39) (by rw [← mRp_s]; exact g40) (fun q n0 n1 n2 => ((fr41 q n1 n2).trans (fL96 q n0 n1 n2))) hP hS ls (lv_sub hl [1, 2, 0] rfl)
              exact loop_96 (9) 0 k ((eSum en tapeF E (eNotX en tapeF 6 x) cs).2.1) ((eSum en tapeF E (eNotX en tapeF 6 x) cs).1) v0_5 ((eSum en tapeF E (eNotX en tapeF 6 x) cs).2.2) 0 (by omega) (by omega) (by omega) (by first | (rw [hTE, eIf_1, eIf_c, hop] at hlT; exact hlT) | (rw [hTE] at hlT; exact hlT) | exact hlF) (by first | (rw [hqT, hTE, eIf_1, eIf_x, eIf_c, hop]; done) | (rw [hqT, hTE]; done) | exact hqF) (by rfl) _ _ _ g6 (by rw [mRp_0]; exact g7) (by rw [mRp_0]; exact g8) (fun q n0 n1 n2 => ((fr9 q n0 n1 n2).trans (fL2 q n0 n1 n2))) hP hS ls (lv_sub hl [1, 3, 0] rfl)
            · skip
              obtain ⟨hf0, hkz⟩ := mkR_1 c_60; have hn9 := mkR_n c_51 hf0; have hop : opT en tapeF (eSum en tapeF E (eNotX en tapeF 6 x) cs).2.1 = (-14) := (by rw [opT, if_neg hn9, if_pos hkz]); have hop0 : ¬ opT en tapeF (eSum en tapeF E (eNotX en tapeF 6 x) cs).2.1 = 0 := (by rw [hop]; decide); have hgt := opT_B (bf := tapeF) hen (eSum en tapeF E (eNotX en tapeF 6 x) cs).2.1 hb1.2.1 hop0; have hle := nX_le (bf := tapeF) hb1.2.1 hen; have hbd := hSB (nX en tapeF (eSum en tapeF E (eNotX en tapeF 6 x) cs).2.1) (eSum en tapeF E (eNotX en tapeF 6 x) cs).2.2 hle; have hTE : (eTest en tapeF E (eNotX en tapeF 6 x) cs) = eIf (eSum en tapeF E (nX en tapeF (eSum en tapeF E (eNotX en tapeF 6 x) cs).2.1) (eSum en tapeF E (eNotX en tapeF 6 x) cs).2.2) (opT en tapeF (eSum en tapeF E (eNotX en tapeF 6 x) cs).2.1) := (by rw [eTest, eLoop_on hf0 hop0]; rfl)
              have g42 : M3 mb = .inr (12, modF ad mb (mR en tapeF mv (eSum en tapeF E (eNotX en tapeF 6 x) cs).2.1 0 v0_5)) := by refine g6.trans (modC (by rw [hf0]))
              refine lv_aload_n hx hb dX13_readNot_63 rfl (lv_at hl 0 rfl) ?_
              refine lv_bipush (v := 60) hx hb dX13_readNot_64 (by decide) ?_
              refine q_rdV (As := [.int 60]) (rest := []) (c_X13_isMarkedR l D cB cI cJ ad n M3 mb en ((eSum en tapeF E (eNotX en tapeF 6 x) cs).2.1) mv tapeF v0_5 0 60 h_mb h_mb_23 g42 ((fr9 (mb + 23) (by omega) (by omega) (by omega)).trans ((fL2 (mb + 23) (by omega) (by omega) (by omega)).trans m_mb_23)) (by first | assumption | exact hb1.2.1) hen hT k26 (by decide)) X hK hP hS hl.1 rfl gX13_readNot_X13_isMarked yd_X13_isMarked ⟨by show 0 + 1 ≤ fE + 5; omega, by show 8 + (2 + 11) + (0) ≤ lE + 150; omega⟩ h_mb g42 (ci := 12) rfl rfl (Nat.le_of_ble_eq_true rfl) ⟨Nat.zero_le _, Nat.zero_le _⟩ dX13_readNot_66 ?_
              refine lv_if_eq (tgt := 77) hx hb dX13_readNot_69 (by decide) (fun c_69 => ?_) (fun c_69 => ?_)
              · skip
                refine lv_bipush (v := (-25)) hx hb dX13_readNot_77 (by decide) ?_
                refine lv_istore_n (lv' := [(3, .int (-25)), (0, .ref (ad mb)), (1, .int dp), (2, .int (nI k))]) hx hb dX13_readNot_79 rfl hl (by decide) rfl (fun ls hl => ?_)
                refine lv_aload_n hx hb dX13_readNot_80 rfl (lv_at hl 1 rfl) ?_
                refine q_wrVv (As := []) (rest := []) (c_X13_stepR l D cB cI cJ ad n M3 hI mb en ((eSum en tapeF E (eNotX en tapeF 6 x) cs).2.1) mv tapeF v0_5 h_mb h_mb_23 g42 ((fr9 (mb + 23) (by omega) (by omega) (by omega)).trans ((fL2 (mb + 23) (by omega) (by omega) (by omega)).trans m_mb_23)) (by first | assumption | exact hb1.2.1) hen hT k26) X hK hP hS hl.1 rfl gX13_readNot_X13_stepOn yd_X13_stepOn ⟨by show 1 + 1 ≤ fE + 5; omega, by show 8 + (2 + 11) + (21) ≤ lE + 150; omega⟩ h_mb g42 (ci := 12) rfl rfl (Nat.le_of_ble_eq_true rfl) ⟨Nat.zero_le _, Nat.zero_le _⟩ dX13_readNot_81 (fun M44 H locs hp43 hP hS => ?_)
                obtain ⟨g46, fr47⟩ := hp43
                refine lv_aload_n hx hb dX13_readNot_84 rfl (lv_at hl 1 rfl) ?_
                refine lv_iload_n hx hb dX13_readNot_85 rfl (lv_at hl 2 rfl) ?_
                refine q_wrVv (As := [.int dp]) (rest := []) (c_X13_readSum l D cB cI cJ ad n M44 hI mb en (nX en tapeF ((eSum en tapeF E (eNotX en tapeF 6 x) cs).2.1)) mv tapeF (mnX en tapeF ((eSum en tapeF E (eNotX en tapeF 6 x) cs).2.1) v0_5) to0 s0 ((eSum en tapeF E (eNotX en tapeF 6 x) cs).2.2) fE lE E dp h_mb h_mb_23 h_mb_3 h_mb_21 h_mb_2 g46 ((fr47 (mb + 23) (by omega)).trans ((fr9 (mb + 23) (by omega) (by omega) (by omega)).trans ((fL2 (mb + 23) (by omega) (by omega) (by omega)).trans m_mb_23))) ((fr47 (mb + 3) (by omega)).trans g7) ((fr47 (mb + 21) (by omega)).trans g8) ((fr47 (mb + 2) (by omega)).trans ((fr9 (mb + 2) (by omega) (by omega) (by omega)).trans ((fL2 (mb + 2) (by omega) (by omega) (by omega)).trans m_mb_2))) (by omega) hen hT k26 (by omega) (by omega) hEB hfE hlE hE) X hK hP hS hl.1 rfl gX13_readNot_X13_readSum yd_X13_readSum ⟨by show fE + 3 + 1 ≤ fE + 5; omega, by show 8 + (3 + 11) + (lE + 90) ≤ lE + 150; omega⟩ h_mb g46 (ci := 12) rfl rfl (Nat.le_of_ble_eq_true rfl) ⟨Nat.zero_le _, Nat.zero_le _⟩ dX13_readNot_86 (fun M49 H locs hp48 hP hS => ?_)
                obtain ⟨v0_51, g52, g53, g54, fr55⟩ := hp48
                refine lv_aload_n hx hb dX13_readNot_89 rfl (lv_at hl 1 rfl) ?_
                refine lv_iload_n hx hb dX13_readNot_90 rfl (lv_at hl 0 rfl) ?_
                refine q_wrVv (As := [.int (-25)]) (rest := []) (c_X13_layR l D cB cI cJ ad n M49 hI mb en ((eSum en tapeF E (nX en tapeF ((eSum en tapeF E (eNotX en tapeF 6 x) cs).2.1)) ((eSum en tapeF E (eNotX en tapeF 6 x) cs).2.2)).2.1) mv tapeF v0_51 ((eSum en tapeF E (nX en tapeF ((eSum en tapeF E (eNotX en tapeF 6 x) cs).2.1)) ((eSum en tapeF E (eNotX en tapeF 6 x) cs).2.2)).1) (-25) (-14) to0 s0 ((eSum en tapeF E (nX en tapeF ((eSum en tapeF E (eNotX en tapeF 6 x) cs).2.1)) ((eSum en tapeF E (eNotX en tapeF 6 x) cs).2.2)).2.2) h_mb h_mb_3 h_mb_21 g52 g53 g54 (by omega) (by decide)) X hK hP hS hl.1 rfl gX13_readNot_X13_lay yd_X13_lay ⟨by show 0 + 1 ≤ fE + 5; omega, by show 8 + (2 + 11) + (0) ≤ lE + 150; omega⟩ h_mb g52 (ci := 12) rfl rfl (Nat.le_of_ble_eq_true rfl) ⟨Nat.zero_le _, Nat.zero_le _⟩ dX13_readNot_91 (fun M57 H locs hp56 hP hS => ?_)
                obtain ⟨g59, g60, fr61⟩ := hp56
                refine lv_iconst (v := 0) hx hb dX13_readNot_94 (by decide) ?_
                refine lv_istore_n (lv' := [(3, .int 0), (0, .ref (ad mb)), (1, .int dp), (2, .int (nI k))]) hx hb dX13_readNot_95 rfl hl (by decide) rfl (fun ls hl => ?_)
                have loop_96 : ∀ (fuel : Nat) (j k2 xq : Nat) (fq nu2 : Int32) (cq : List Int32) (x3 : Int32), 8 - j < fuel → (j ≤ k2) → (k2 ≤ 7) → (∀ j9 : Nat, j9 < k2 → (mRp fq cq j9).length < 700) → (mNot en tapeF E x cs = (fq, xq, mRp fq cq k2)) → x3 = nI j → ∀ (ML96 : Nat → va_E) (H : Heap) (locs : List Loc), ML96 mb = .inr (12, modF ad mb (mR en tapeF mv xq fq nu2)) → ML96 (mb + 3) = .inl (cI, 14, .inl (tdC to0 (mRp fq cq j))) → ML96 (mb + 21) = .inl (cI, 1400, .inl (layM (mRp fq cq j) s0)) → (∀ q : Nat, q ≠ mb → q ≠ mb + 3 → q ≠ mb + 21 → ML96 q = M q) → va_P D vwCl (ip ad n ML96) H → va_S (ipA ad n) s.heap H locs → ∀ (ls : Array Slot), lv_has ls 4 [(0, .ref (ad mb)), (2, .int (nI k2)), (3, .int x3)] → W p l e (rmOf (fE + 5) (lE + 150)) s m args below meth c H locs 0 0 (MQ below (va_Qv (fun M' => ∃ (v0 : Int32), M' mb = .inr (12, modF ad mb (mR en tapeF mv (mNot en tapeF E x cs).2.1 (mNot en tapeF E x cs).1 v0)) ∧ M' (mb + 3) = .inl (cI, 14, .inl (tdC to0 (mNot en tapeF E x cs).2.2)) ∧ M' (mb + 21) = .inl (cI, 1400, .inl (layM (mNot en tapeF E x cs).2.2 s0)) ∧ ∀ q : Nat, q ≠ mb → q ≠ mb + 3 → q ≠ mb + 21 → M' q = M q) (fun M' t => va_P D vwCl (ip ad n M') t.heap) (ipA ad n)) args s 0 0 (ipA ad n)) (F0 m 96 ls []) := by
                  intro fuel
                  induction fuel with
                  | zero =>
                    intro j k2 xq fq nu2 cq x3 hz
                    exact absurd hz (Nat.not_lt_zero _)
                  | succ fuel ih_96 =>
                    intro j k2 xq fq nu2 cq x3 hz_96 hj0 hk7 hl2 hq e3 ML96 H locs mL96_0 mL96_1 mL96_2 fL96 hP hS ls hl
                    subst e3
                    skip
                    refine lv_iload_n hx hb dX13_readNot_96 rfl (lv_at hl 2 rfl) ?_
                    refine lv_iload_n hx hb dX13_readNot_97 rfl (lv_at hl 1 rfl) ?_
                    refine lv_icmp_ge (tgt := 113) hx hb dX13_readNot_98 (by decide) (fun c_98 => ?_) (fun c_98 => ?_)
                    · skip
                      have h9 : j = k2 := eq_of_le c_98 (by omega) hj0
                      exact q_wvret X hr hlocks hP hS ⟨nu2, (by rw [hq, ← h9]; exact mL96_0), (by rw [hq, ← h9]; exact mL96_1), (by rw [hq, ← h9]; exact mL96_2), (fun q n0 n1 n2 => (fL96 q n0 n1 n2))⟩ dX13_readNot_113
                    · skip
                      have ht9 := lt_of_nlt c_98 (by omega) hj0
                      refine lv_aload_n hx hb dX13_readNot_101 rfl (lv_at hl 0 rfl) ?_
                      refine lv_bipush (v := (-28)) hx hb dX13_readNot_102 (by decide) ?_
                      refine q_wrVv (As := [.int (-28)]) (rest := []) (c_X13_layR l D cB cI cJ ad n ML96 hI mb en xq mv tapeF nu2 fq (-28) (-12) to0 s0 (mRp fq cq j) h_mb h_mb_3 h_mb_21 mL96_0 mL96_1 mL96_2 (hl2 j (by omega)) (by decide)) X hK hP hS hl.1 rfl gX13_readNot_X13_lay yd_X13_lay ⟨by show 0 + 1 ≤ fE + 5; omega, by show 8 + (2 + 11) + (0) ≤ lE + 150; omega⟩ h_mb mL96_0 (ci := 12) rfl rfl (Nat.le_of_ble_eq_true rfl) ⟨Nat.zero_le _, Nat.zero_le _⟩ dX13_readNot_104 (fun M63 H locs hp62 hP hS => ?_)
                      obtain ⟨g65, g66, fr67⟩ := hp62
                      refine lv_iinc (v := ((nI j) + 1)) (lv' := [(3, .int ((nI j) + 1)), (0, .ref (ad mb)), (2, .int (nI k2))]) hx hb dX13_readNot_107 hl (k := 2) rfl rfl (by decide) rfl (fun ls hl => ?_)
                      refine lv_goto (tgt := 96) hx hb dX13_readNot_110 (by decide) ?_
                      exact ih_96 (j + 1) k2 xq fq nu2 cq ((nI j) + 1) (by omega) (by omega) (by exact hk7) (by exact hl2) (by exact hq) (by exact nI_1 _) _ _ _ ((fr67 mb (by omega) (by omega)).trans mL96_0) (by rw [← mRp_s]; exact g65) (by rw [← mRp_s]; exact g66) (fun q n0 n1 n2 => ((fr67 q n1 n2).trans (fL96 q n0 n1 n2))) hP hS ls (lv_sub hl [1, 2, 0] rfl)
                exact loop_96 (9) 0 k ((eSum en tapeF E (nX en tapeF ((eSum en tapeF E (eNotX en tapeF 6 x) cs).2.1)) ((eSum en tapeF E (eNotX en tapeF 6 x) cs).2.2)).2.1) ((eSum en tapeF E (nX en tapeF ((eSum en tapeF E (eNotX en tapeF 6 x) cs).2.1)) ((eSum en tapeF E (eNotX en tapeF 6 x) cs).2.2)).1) v0_51 (eA ((eSum en tapeF E (nX en tapeF ((eSum en tapeF E (eNotX en tapeF 6 x) cs).2.1)) ((eSum en tapeF E (eNotX en tapeF 6 x) cs).2.2)).1) ((eSum en tapeF E (nX en tapeF ((eSum en tapeF E (eNotX en tapeF 6 x) cs).2.1)) ((eSum en tapeF E (eNotX en tapeF 6 x) cs).2.2)).2.2) (-14)) 0 (by omega) (by omega) (by omega) (by first | (rw [hTE, eIf_1, eIf_c, hop] at hlT; exact hlT) | (rw [hTE] at hlT; exact hlT) | exact hlF) (by first | (rw [hqT, hTE, eIf_1, eIf_x, eIf_c, hop]; done) | (rw [hqT, hTE]; done) | exact hqF) (by rfl) _ _ _ ((fr61 mb (by omega) (by omega)).trans g52) (by rw [mRp_0]; exact g59) (by rw [mRp_0]; exact g60) (fun q n0 n1 n2 => ((fr61 q n1 n2).trans ((fr55 q n0 n1 n2).trans ((fr47 q n0).trans ((fr9 q n0 n1 n2).trans (fL2 q n0 n1 n2)))))) hP hS ls (lv_sub hl [1, 3, 0] rfl)
              · exact absurd (by rw [mkR, if_pos rfl, if_neg hn9]) c_69
        · skip
          obtain ⟨hf2, hk7, hx9, hw9⟩ := hi9.resolve_left (fun q => s_40 q.1); have hgt9 := wX_gt hx1 hen (by rw [hw9]; decide : ¬ wX en tapeF x1 = 0); have hle9 := nX_le (bf := tapeF) hx1 hen; have hlF : ∀ j9 : Nat, j9 < k → (mRp f1 cs j9).length < 700 := (fun j9 h => by unfold mRp; rw [if_neg s_40]; omega); have hqF : mNot en tapeF E x cs = (f1, x1, mRp f1 cs k) := (by rw [mNot, ← hx9, if_pos hw9, hf2]; rfl)
          refine lv_aload_n hx hb dX13_readNot_40 rfl (lv_at hl 0 rfl) ?_
          refine lv_iload_n hx hb dX13_readNot_41 rfl (lv_at hl 1 rfl) ?_
          refine q_wrVv (As := [.int dp]) (rest := []) (c_X13_readSumB l D cB cI cJ ad n ML2 hI mb en x1 mv tapeF nu1 f1 dp h_mb h_mb_23 mL2_0 ((fL2 (mb + 23) (by omega) (by omega) (by omega)).trans m_mb_23) (by first | assumption | omega | exact vp_in_nI (by omega) (by decide) | exact vp_in_iff.mpr (by decide)) hen hT k26 (s_40)) X hK hP hS hl.1 rfl gX13_readNot_X13_readSum yd_X13_readSum ⟨by show 2 + 1 ≤ fE + 5; omega, by show 8 + (3 + 11) + (44) ≤ lE + 150; omega⟩ h_mb mL2_0 (ci := 12) rfl rfl (Nat.le_of_ble_eq_true rfl) ⟨Nat.zero_le _, Nat.zero_le _⟩ dX13_readNot_42 (fun M69 H locs hp68 hP hS => ?_)
          have fr71 := hp68
          refine lv_aload_n hx hb dX13_readNot_45 rfl (lv_at hl 0 rfl) ?_
          refine lv_bipush (v := 60) hx hb dX13_readNot_46 (by decide) ?_
          refine q_rdV (As := [.int 60]) (rest := []) (c_X13_isMarkedR l D cB cI cJ ad n M69 mb en x1 mv tapeF nu1 f1 60 h_mb h_mb_23 ((fr71 mb ).trans mL2_0) ((fr71 (mb + 23) ).trans ((fL2 (mb + 23) (by omega) (by omega) (by omega)).trans m_mb_23)) (by first | assumption | exact hb1.2.1) hen hT k26 (by decide)) X hK hP hS hl.1 rfl gX13_readNot_X13_isMarked yd_X13_isMarked ⟨by show 0 + 1 ≤ fE + 5; omega, by show 8 + (2 + 11) + (0) ≤ lE + 150; omega⟩ h_mb ((fr71 mb ).trans mL2_0) (ci := 12) rfl rfl (Nat.le_of_ble_eq_true rfl) ⟨Nat.zero_le _, Nat.zero_le _⟩ dX13_readNot_48 ?_
          refine lv_if_ne (tgt := 63) hx hb dX13_readNot_51 (by decide) (fun c_51 => ?_) (fun c_51 => ?_)
          · exact absurd (mkR_0 s_40) c_51
          · skip
            refine lv_aload_n hx hb dX13_readNot_54 rfl (lv_at hl 0 rfl) ?_
            refine lv_bipush (v := 61) hx hb dX13_readNot_55 (by decide) ?_
            refine q_rdV (As := [.int 61]) (rest := []) (c_X13_isMarkedR l D cB cI cJ ad n M69 mb en x1 mv tapeF nu1 f1 61 h_mb h_mb_23 ((fr71 mb ).trans mL2_0) ((fr71 (mb + 23) ).trans ((fL2 (mb + 23) (by omega) (by omega) (by omega)).trans m_mb_23)) (by first | assumption | exact hb1.2.1) hen hT k26 (by decide)) X hK hP hS hl.1 rfl gX13_readNot_X13_isMarked yd_X13_isMarked ⟨by show 0 + 1 ≤ fE + 5; omega, by show 8 + (2 + 11) + (0) ≤ lE + 150; omega⟩ h_mb ((fr71 mb ).trans mL2_0) (ci := 12) rfl rfl (Nat.le_of_ble_eq_true rfl) ⟨Nat.zero_le _, Nat.zero_le _⟩ dX13_readNot_57 ?_
            refine lv_if_eq (tgt := 94) hx hb dX13_readNot_60 (by decide) (fun c_60 => ?_) (fun c_60 => ?_)
            · skip
              refine lv_iconst (v := 0) hx hb dX13_readNot_94 (by decide) ?_
              refine lv_istore_n (lv' := [(3, .int 0), (0, .ref (ad mb)), (1, .int dp), (2, .int (nI k))]) hx hb dX13_readNot_95 rfl hl (by decide) rfl (fun ls hl => ?_)
              have loop_96 : ∀ (fuel : Nat) (j k2 xq : Nat) (fq nu2 : Int32) (cq : List Int32) (x3 : Int32), 8 - j < fuel → (j ≤ k2) → (k2 ≤ 7) → (∀ j9 : Nat, j9 < k2 → (mRp fq cq j9).length < 700) → (mNot en tapeF E x cs = (fq, xq, mRp fq cq k2)) → x3 = nI j → ∀ (ML96 : Nat → va_E) (H : Heap) (locs : List Loc), ML96 mb = .inr (12, modF ad mb (mR en tapeF mv xq fq nu2)) → ML96 (mb + 3) = .inl (cI, 14, .inl (tdC to0 (mRp fq cq j))) → ML96 (mb + 21) = .inl (cI, 1400, .inl (layM (mRp fq cq j) s0)) → (∀ q : Nat, q ≠ mb → q ≠ mb + 3 → q ≠ mb + 21 → ML96 q = M q) → va_P D vwCl (ip ad n ML96) H → va_S (ipA ad n) s.heap H locs → ∀ (ls : Array Slot), lv_has ls 4 [(0, .ref (ad mb)), (2, .int (nI k2)), (3, .int x3)] → W p l e (rmOf (fE + 5) (lE + 150)) s m args below meth c H locs 0 0 (MQ below (va_Qv (fun M' => ∃ (v0 : Int32), M' mb = .inr (12, modF ad mb (mR en tapeF mv (mNot en tapeF E x cs).2.1 (mNot en tapeF E x cs).1 v0)) ∧ M' (mb + 3) = .inl (cI, 14, .inl (tdC to0 (mNot en tapeF E x cs).2.2)) ∧ M' (mb + 21) = .inl (cI, 1400, .inl (layM (mNot en tapeF E x cs).2.2 s0)) ∧ ∀ q : Nat, q ≠ mb → q ≠ mb + 3 → q ≠ mb + 21 → M' q = M q) (fun M' t => va_P D vwCl (ip ad n M') t.heap) (ipA ad n)) args s 0 0 (ipA ad n)) (F0 m 96 ls []) := by
                intro fuel
                induction fuel with
                | zero =>
                  intro j k2 xq fq nu2 cq x3 hz
                  exact absurd hz (Nat.not_lt_zero _)
                | succ fuel ih_96 =>
                  intro j k2 xq fq nu2 cq x3 hz_96 hj0 hk7 hl2 hq e3 ML96 H locs mL96_0 mL96_1 mL96_2 fL96 hP hS ls hl
                  subst e3
                  skip
                  refine lv_iload_n hx hb dX13_readNot_96 rfl (lv_at hl 2 rfl) ?_
                  refine lv_iload_n hx hb dX13_readNot_97 rfl (lv_at hl 1 rfl) ?_
                  refine lv_icmp_ge (tgt := 113) hx hb dX13_readNot_98 (by decide) (fun c_98 => ?_) (fun c_98 => ?_)
                  · skip
                    have h9 : j = k2 := eq_of_le c_98 (by omega) hj0
                    exact q_wvret X hr hlocks hP hS ⟨nu2, (by rw [hq, ← h9]; exact mL96_0), (by rw [hq, ← h9]; exact mL96_1), (by rw [hq, ← h9]; exact mL96_2), (fun q n0 n1 n2 => (fL96 q n0 n1 n2))⟩ dX13_readNot_113
                  · skip
                    have ht9 := lt_of_nlt c_98 (by omega) hj0
                    refine lv_aload_n hx hb dX13_readNot_101 rfl (lv_at hl 0 rfl) ?_
                    refine lv_bipush (v := (-28)) hx hb dX13_readNot_102 (by decide) ?_
                    refine q_wrVv (As := [.int (-28)]) (rest := []) (c_X13_layR l D cB cI cJ ad n ML96 hI mb en xq mv tapeF nu2 fq (-28) (-12) to0 s0 (mRp fq cq j) h_mb h_mb_3 h_mb_21 mL96_0 mL96_1 mL96_2 (hl2 j (by omega)) (by decide)) X hK hP hS hl.1 rfl gX13_readNot_X13_lay yd_X13_lay ⟨by show 0 + 1 ≤ fE + 5; omega, by show 8 + (2 + 11) + (0) ≤ lE + 150; omega⟩ h_mb mL96_0 (ci := 12) rfl rfl (Nat.le_of_ble_eq_true rfl) ⟨Nat.zero_le _, Nat.zero_le _⟩ dX13_readNot_104 (fun M73 H locs hp72 hP hS => ?_)
                    obtain ⟨g75, g76, fr77⟩ := hp72
                    refine lv_iinc (v := ((nI j) + 1)) (lv' := [(3, .int ((nI j) + 1)), (0, .ref (ad mb)), (2, .int (nI k2))]) hx hb dX13_readNot_107 hl (k := 2) rfl rfl (by decide) rfl (fun ls hl => ?_)
                    refine lv_goto (tgt := 96) hx hb dX13_readNot_110 (by decide) ?_
                    exact ih_96 (j + 1) k2 xq fq nu2 cq ((nI j) + 1) (by omega) (by omega) (by exact hk7) (by exact hl2) (by exact hq) (by exact nI_1 _) _ _ _ ((fr77 mb (by omega) (by omega)).trans mL96_0) (by rw [← mRp_s]; exact g75) (by rw [← mRp_s]; exact g76) (fun q n0 n1 n2 => ((fr77 q n1 n2).trans (fL96 q n0 n1 n2))) hP hS ls (lv_sub hl [1, 2, 0] rfl)
              exact loop_96 (9) 0 k x1 f1 nu1 cs 0 (by omega) (by omega) (by omega) (by first | (rw [hTE, eIf_1, eIf_c, hop] at hlT; exact hlT) | (rw [hTE] at hlT; exact hlT) | exact hlF) (by first | (rw [hqT, hTE, eIf_1, eIf_x, eIf_c, hop]; done) | (rw [hqT, hTE]; done) | exact hqF) (by rfl) _ _ _ ((fr71 mb ).trans mL2_0) (by rw [mRp_0]; exact ((fr71 (mb + 3) ).trans mL2_1)) (by rw [mRp_0]; exact ((fr71 (mb + 21) ).trans mL2_2)) (fun q n0 n1 n2 => ((fr71 q).trans (fL2 q n0 n1 n2))) hP hS ls (lv_sub hl [1, 3, 0] rfl)
            · exact absurd (mkR_0 s_40) c_60
      · skip
        obtain ⟨hf1, hw9⟩ := wdR_1 c_9; obtain ⟨-, hk6', hi3, hi4⟩ := hi9.resolve_right (fun q => absurd (hf1.symm.trans q.1) (by decide)); have hgt9 := wX_gt hx1 hen (by rw [hw9]; decide : ¬ wX en tapeF x1 = 0); have hle9 := nX_le (bf := tapeF) hx1 hen
        have g78 : ML2 mb = .inr (12, modF ad mb (mR en tapeF mv x1 0 nu1)) := by refine mL2_0.trans (modC (by rw [hf1]))
        refine lv_iload_n hx hb dX13_readNot_12 rfl (lv_at hl 2 rfl) ?_
        refine lv_bipush (v := 6) hx hb dX13_readNot_13 (by decide) ?_
        refine lv_icmp_ne (tgt := 23) hx hb dX13_readNot_15 (by decide) (fun c_15 => ?_) (fun c_15 => ?_)
        · skip
          have hkn : k < 6 := Nat.lt_of_le_of_ne hk6' (fun q => c_15 (by rw [q]; rfl))
          refine lv_iinc (v := ((nI k) + 1)) (lv' := [(2, .int ((nI k) + 1)), (0, .ref (ad mb)), (1, .int dp)]) hx hb dX13_readNot_23 hl (k := 2) rfl rfl (by decide) rfl (fun ls hl => ?_)
          refine lv_aload_n hx hb dX13_readNot_26 rfl (lv_at hl 1 rfl) ?_
          refine q_get (v := .int 0) (fs := modF ad mb (mR en tapeF mv x1 0 nu1)) X hK hP fX13_readNot_222 h_mb g78 rfl dX13_readNot_27 ?_
          refine lv_if_ne (tgt := 2) hx hb dX13_readNot_30 (by decide) (fun c_30 => ?_) (fun c_30 => ?_)
          · exact absurd c_30 (by decide)
          · clear c_30
            refine lv_aload_n hx hb dX13_readNot_33 rfl (lv_at hl 1 rfl) ?_
            refine q_wrVv (As := []) (rest := []) (c_X13_stepR l D cB cI cJ ad n ML2 hI mb en x1 mv tapeF nu1 h_mb h_mb_23 g78 ((fL2 (mb + 23) (by omega) (by omega) (by omega)).trans m_mb_23) (by first | assumption | omega | exact vp_in_nI (by omega) (by decide) | exact vp_in_iff.mpr (by decide)) hen hT k26) X hK hP hS hl.1 rfl gX13_readNot_X13_stepOn yd_X13_stepOn ⟨by show 1 + 1 ≤ fE + 5; omega, by show 8 + (2 + 11) + (21) ≤ lE + 150; omega⟩ h_mb g78 (ci := 12) rfl rfl (Nat.le_of_ble_eq_true rfl) ⟨Nat.zero_le _, Nat.zero_le _⟩ dX13_readNot_34 (fun M80 H locs hp79 hP hS => ?_)
            obtain ⟨g82, fr83⟩ := hp79
            refine lv_goto (tgt := 2) hx hb dX13_readNot_37 (by decide) ?_
            exact ih_2 (k + 1) (nX en tapeF x1) 0 (mnX en tapeF x1 nu1) ((nI k) + 1) (by omega) (by first | assumption | omega) (by first | assumption | omega) (by first | exact Or.inr ⟨rfl, by omega, by rw [← hi3, hk6]; rfl, hw9⟩ | (exact Or.inl ⟨rfl, by omega, by rw [← hi3, show 6 - k = (6 - (k + 1)) + 1 by omega, eNotX, if_pos hw9], by rw [← hi4, show 6 - k = (6 - (k + 1)) + 1 by omega, eNotN, if_pos hw9]; omega⟩)) (by exact nI_1 _) _ _ _ g82 ((fr83 (mb + 3) (by omega)).trans mL2_1) ((fr83 (mb + 21) (by omega)).trans mL2_2) (fun q n0 n1 n2 => ((fr83 q n0).trans (fL2 q n0 n1 n2))) hP hS ls (lv_sub hl [1, 2, 0] rfl)
        · skip
          have hk6 : k = 6 := (nI_eq (b := 6) (by omega) (by decide)).mp c_15
          refine lv_aload_n hx hb dX13_readNot_18 rfl (lv_at hl 0 rfl) ?_
          refine lv_iconst (v := 2) hx hb dX13_readNot_19 (by decide) ?_
          refine q_wrVv (As := [.int 2]) (rest := []) (c_X13_wrongR l D cB cI cJ ad n ML2 hI mb en x1 mv tapeF nu1 2 h_mb g78 (by first | assumption | omega | exact vp_in_nI (by omega) (by decide) | exact vp_in_iff.mpr (by decide)) hen hT k26 (by decide)) X hK hP hS hl.1 rfl gX13_readNot_X13_wrong yd_X13_wrong ⟨by show 0 + 1 ≤ fE + 5; omega, by show 8 + (2 + 11) + (0) ≤ lE + 150; omega⟩ h_mb g78 (ci := 12) rfl rfl (Nat.le_of_ble_eq_true rfl) ⟨Nat.zero_le _, Nat.zero_le _⟩ dX13_readNot_20 (fun M85 H locs hp84 hP hS => ?_)
          obtain ⟨g87, fr88⟩ := hp84
          refine lv_iinc (v := ((nI k) + 1)) (lv' := [(2, .int ((nI k) + 1)), (0, .ref (ad mb)), (1, .int dp)]) hx hb dX13_readNot_23 hl (k := 2) rfl rfl (by decide) rfl (fun ls hl => ?_)
          refine lv_aload_n hx hb dX13_readNot_26 rfl (lv_at hl 1 rfl) ?_
          refine q_get (v := .int 2) (fs := modF ad mb (mR en tapeF mv x1 2 nu1)) X hK hP fX13_readNot_222 h_mb g87 rfl dX13_readNot_27 ?_
          refine lv_if_ne (tgt := 2) hx hb dX13_readNot_30 (by decide) (fun c_30 => ?_) (fun c_30 => ?_)
          · clear c_30
            exact ih_2 (k + 1) x1 2 nu1 ((nI k) + 1) (by omega) (by first | assumption | omega) (by first | assumption | omega) (by first | exact Or.inr ⟨rfl, by omega, by rw [← hi3, hk6]; rfl, hw9⟩ | (exact Or.inl ⟨rfl, by omega, by rw [← hi3, show 6 - k = (6 - (k + 1)) + 1 by omega, eNotX, if_pos hw9], by rw [← hi4, show 6 - k = (6 - (k + 1)) + 1 by omega, eNotN, if_pos hw9]; omega⟩)) (by exact nI_1 _) _ _ _ g87 ((fr88 (mb + 3) (by omega)).trans mL2_1) ((fr88 (mb + 21) (by omega)).trans mL2_2) (fun q n0 n1 n2 => ((fr88 q n0).trans (fL2 q n0 n1 n2))) hP hS ls (lv_sub hl [1, 2, 0] rfl)
          · exact absurd c_30 (by decide)
  exact loop_2 (9) 0 x 0 nu 0 (by omega) (by omega) (by exact Nat.le_refl _) (by exact Or.inl ⟨rfl, Nat.zero_le _, rfl, Nat.zero_add _⟩) (by rfl) _ _ _ m_mb m_mb_3 m_mb_21 (fun q n0 n1 n2 => rfl) hP hS ls (lv_sub hl [1, 2, 0] rfl)
set_option maxHeartbeats 2000000 in
set_option maxRecDepth 100000 in
theorem c_X13_readAnd (l : Launch) (D : va_G) (cB cI cJ : ClassId) (ad : Nat → Nat) (n : Nat) (M : Nat → va_E) (hI : ipI ad n) (mb en x : Nat) (mv tapeF : Nat → Int32) (nu : Int32) (to0 s0 : Nat → Int32) (cs : List Int32) (fE lE : Nat) (E : Nat → List Int32 → Int32 × Nat × List Int32) (dp : Int32) (h_mb : mb < n) (h_mb_23 : mb + 23 < n) (h_mb_3 : mb + 3 < n) (h_mb_21 : mb + 21 < n) (h_mb_2 : mb + 2 < n) (m_mb : M mb = .inr (12, modF ad mb (mR en tapeF mv x 0 nu))) (m_mb_23 : M (mb + 23) = .inl (cI, 700, .inl tapeF)) (m_mb_3 : M (mb + 3) = .inl (cI, 14, .inl (tdC to0 cs))) (m_mb_21 : M (mb + 21) = .inl (cI, 1400, .inl (layM cs s0))) (m_mb_2 : M (mb + 2) = .inl (ad 5000, 5, .inr (.inr (.inr (.inr (txF ad vlI)))))) (hxe : x ≤ en) (hen : en ≤ 700) (hT : bOK tapeF) (k26 : mv 26 = nI en) (hx0 : 0 < x) (hcx : cs.length ≤ x) (hEB : eB en E) (hfE : 10 ≤ fE) (hlE : 200 ≤ lE) (hE : mCon l D cB cI cJ ad n yX13_readExpression wsX13_readExpression fE lE mb en mv tapeF to0 s0 (dp + 1) E) : cWv l D cB cI cJ ad n M yX13_readAnd wsX13_readAnd (fE + 6) (lE + 180) [.ref (ad mb), .int dp] (fun M' => ∃ (v0 : Int32), M' mb = .inr (12, modF ad mb (mR en tapeF mv (mAnd en tapeF E x cs).2.1 (mAnd en tapeF E x cs).1 v0)) ∧ M' (mb + 3) = .inl (cI, 14, .inl (tdC to0 (mAnd en tapeF E x cs).2.2)) ∧ M' (mb + 21) = .inl (cI, 1400, .inl (layM (mAnd en tapeF E x cs).2.2 s0)) ∧ ∀ q : Nat, q ≠ mb → q ≠ mb + 3 → q ≠ mb + 21 → M' q = M q) := by
  refine q_body (cc := cX13_readAnd) (maxL := 2) (ret := none) (by decide) rfl (Nat.le_of_ble_eq_true rfl) ?_
  intro p e s m args below meth c ls X hr hlocks hK hP hl
  obtain ⟨hx, hb, hml, hown, hts⟩ := id X
  have hS : va_S (ipA ad n) s.heap s.heap [] := va_S.rf
  have hl : lv_has ls 2 [(0, .ref (ad mb)), (1, .int dp)] := hl
  have hSB : eB en (mNot en tapeF E) := mNot_B hen hEB
  refine lv_aload_n hx hb dX13_readAnd_0 rfl (lv_at hl 0 rfl) ?_
  refine lv_iload_n hx hb dX13_readAnd_1 rfl (lv_at hl 1 rfl) ?_
  refine q_wrVv (As := [.int dp]) (rest := []) (c_X13_readNot l D cB cI cJ ad n M hI mb en x mv tapeF nu to0 s0 cs fE lE E dp h_mb h_mb_23 h_mb_3 h_mb_21 h_mb_2 m_mb m_mb_23 m_mb_3 m_mb_21 m_mb_2 hxe hen hT k26 hx0 hcx hEB hfE hlE hE) X hK hP hS hl.1 rfl gX13_readAnd_X13_readNot yd_X13_readNot ⟨by show fE + 5 + 1 ≤ fE + 6; omega, by show 8 + (4 + 11) + (lE + 150) ≤ lE + 180; omega⟩ h_mb m_mb (ci := 12) rfl rfl (Nat.le_of_ble_eq_true rfl) ⟨Nat.zero_le _, Nat.zero_le _⟩ dX13_readAnd_2 (fun M2 H locs hp1 hP hS => ?_)
  obtain ⟨v0_4, g5, g6, g7, fr8⟩ := hp1
  have loop_5 : ∀ (fuel : Nat) (k : Nat) (r3 : Int32 × Nat × List Int32) (nu1 : Int32), en + 1 - r3.2.1 < fuel → (r3.2.1 ≤ en) → (0 < r3.2.1) → (r3.2.2.length ≤ r3.2.1) → (en < k + r3.2.1) → (eLoop en tapeF (opA en tapeF) (mNot en tapeF E) k r3 = mAnd en tapeF E x cs) → ∀ (ML5 : Nat → va_E) (H : Heap) (locs : List Loc), ML5 mb = .inr (12, modF ad mb (mR en tapeF mv r3.2.1 r3.1 nu1)) → ML5 (mb + 3) = .inl (cI, 14, .inl (tdC to0 r3.2.2)) → ML5 (mb + 21) = .inl (cI, 1400, .inl (layM r3.2.2 s0)) → (∀ q : Nat, q ≠ mb → q ≠ mb + 3 → q ≠ mb + 21 → ML5 q = M q) → va_P D vwCl (ip ad n ML5) H → va_S (ipA ad n) s.heap H locs → ∀ (ls : Array Slot), lv_has ls 2 [(0, .ref (ad mb)), (1, .int dp)] → W p l e (rmOf (fE + 6) (lE + 180)) s m args below meth c H locs 0 0 (MQ below (va_Qv (fun M' => ∃ (v0 : Int32), M' mb = .inr (12, modF ad mb (mR en tapeF mv (mAnd en tapeF E x cs).2.1 (mAnd en tapeF E x cs).1 v0)) ∧ M' (mb + 3) = .inl (cI, 14, .inl (tdC to0 (mAnd en tapeF E x cs).2.2)) ∧ M' (mb + 21) = .inl (cI, 1400, .inl (layM (mAnd en tapeF E x cs).2.2 s0)) ∧ ∀ q : Nat, q ≠ mb → q ≠ mb + 3 → q ≠ mb + 21 → M' q = M q) (fun M' t => va_P D vwCl (ip ad n M') t.heap) (ipA ad n)) args s 0 0 (ipA ad n)) (F0 m 5 ls []) := by
    intro fuel
    induction fuel with
    | zero =>
      intro k r3 nu1 hz
      exact absurd hz (Nat.not_lt_zero _)
    | succ fuel ih_5 =>
      intro k r3 nu1 hz_5 hx3 hx4 hc3 hk9 he ML5 H locs mL5_0 mL5_1 mL5_2 fL5 hP hS ls hl
      skip
      refine lv_aload_n hx hb dX13_readAnd_5 rfl (lv_at hl 0 rfl) ?_
      refine q_ldcwS (i := 14) (tx := "and") X hK (by decide +kernel) dX13_readAnd_6 ?_
      refine q_rdV (As := [.ref (ad (2000 + 14))]) (rest := []) (c_X13_isR l D cB cI cJ ad n ML5 mb en r3.2.1 mv tapeF nu1 14 r3.1 h_mb h_mb_23 mL5_0 ((fL5 (mb + 23) (by omega) (by omega) (by omega)).trans m_mb_23) (by first | assumption | omega | exact vp_in_nI (by omega) (by decide) | exact vp_in_iff.mpr (by decide)) hen hT k26 (by decide) (by decide)) X hK hP hS hl.1 rfl gX13_readAnd_X13_is yd_X13_is ⟨by show 4 + 1 ≤ fE + 6; omega, by show 8 + (4 + 11) + (85) ≤ lE + 180; omega⟩ h_mb mL5_0 (ci := 12) rfl rfl (Nat.le_of_ble_eq_true rfl) ⟨Nat.zero_le _, Nat.zero_le _⟩ dX13_readAnd_9 ?_
      refine lv_if_eq (tgt := 33) hx hb dX13_readAnd_12 (by decide) (fun c_12 => ?_) (fun c_12 => ?_)
      · skip
        have hfin : r3 = mAnd en tapeF E x cs := (Classical.byCases (fun q9 : r3.1 = 0 => (eLoop_op (by rw [opA, if_neg (wdR_n c_12 q9)]) k).symm.trans he) (fun q9 => (eLoop_bad q9 k).symm.trans he))
        exact q_wvret X hr hlocks hP hS ⟨nu1, (by rw [← hfin]; exact mL5_0), (by rw [← hfin]; exact mL5_1), (by rw [← hfin]; exact mL5_2), (fun q n0 n1 n2 => (fL5 q n0 n1 n2))⟩ dX13_readAnd_33
      · skip
        obtain ⟨hf0, hkz⟩ := wdR_1 c_12; have hop : opA en tapeF r3.2.1 = (-11) := (by rw [opA, if_pos hkz]); have hop0 : ¬ opA en tapeF r3.2.1 = 0 := (by rw [hop]; decide); have hgt := opA_B (bf := tapeF) hen r3.2.1 hx3 hop0; have hle := nX_le (bf := tapeF) hx3 hen; have hbd := hSB (nX en tapeF r3.2.1) r3.2.2 hle; obtain ⟨k8, hk8⟩ : ∃ k8, k = k8 + 1 := ⟨k - 1, by omega⟩
        have g9 : ML5 mb = .inr (12, modF ad mb (mR en tapeF mv r3.2.1 0 nu1)) := by refine mL5_0.trans (modC (by rw [hf0]))
        refine lv_aload_n hx hb dX13_readAnd_15 rfl (lv_at hl 0 rfl) ?_
        refine q_wrVv (As := []) (rest := []) (c_X13_stepR l D cB cI cJ ad n ML5 hI mb en r3.2.1 mv tapeF nu1 h_mb h_mb_23 g9 ((fL5 (mb + 23) (by omega) (by omega) (by omega)).trans m_mb_23) (by first | assumption | omega | exact vp_in_nI (by omega) (by decide) | exact vp_in_iff.mpr (by decide)) hen hT k26) X hK hP hS hl.1 rfl gX13_readAnd_X13_stepOn yd_X13_stepOn ⟨by show 1 + 1 ≤ fE + 6; omega, by show 8 + (2 + 11) + (21) ≤ lE + 180; omega⟩ h_mb g9 (ci := 12) rfl rfl (Nat.le_of_ble_eq_true rfl) ⟨Nat.zero_le _, Nat.zero_le _⟩ dX13_readAnd_16 (fun M11 H locs hp10 hP hS => ?_)
        obtain ⟨g13, fr14⟩ := hp10
        refine lv_aload_n hx hb dX13_readAnd_19 rfl (lv_at hl 0 rfl) ?_
        refine lv_iload_n hx hb dX13_readAnd_20 rfl (lv_at hl 1 rfl) ?_
        refine q_wrVv (As := [.int dp]) (rest := []) (c_X13_readNot l D cB cI cJ ad n M11 hI mb en (nX en tapeF r3.2.1) mv tapeF (mnX en tapeF r3.2.1 nu1) to0 s0 r3.2.2 fE lE E dp h_mb h_mb_23 h_mb_3 h_mb_21 h_mb_2 g13 ((fr14 (mb + 23) (by omega)).trans ((fL5 (mb + 23) (by omega) (by omega) (by omega)).trans m_mb_23)) ((fr14 (mb + 3) (by omega)).trans mL5_1) ((fr14 (mb + 21) (by omega)).trans mL5_2) ((fr14 (mb + 2) (by omega)).trans ((fL5 (mb + 2) (by omega) (by omega) (by omega)).trans m_mb_2)) (by omega) hen hT k26 (by omega) (by omega) hEB hfE hlE hE) X hK hP hS hl.1 rfl gX13_readAnd_X13_readNot yd_X13_readNot ⟨by show fE + 5 + 1 ≤ fE + 6; omega, by show 8 + (4 + 11) + (lE + 150) ≤ lE + 180; omega⟩ h_mb g13 (ci := 12) rfl rfl (Nat.le_of_ble_eq_true rfl) ⟨Nat.zero_le _, Nat.zero_le _⟩ dX13_readAnd_21 (fun M16 H locs hp15 hP hS => ?_)
        obtain ⟨v0_18, g19, g20, g21, fr22⟩ := hp15
        refine lv_aload_n hx hb dX13_readAnd_24 rfl (lv_at hl 0 rfl) ?_
        refine lv_bipush (v := (-26)) hx hb dX13_readAnd_25 (by decide) ?_
        refine q_wrVv (As := [.int (-26)]) (rest := []) (c_X13_layR l D cB cI cJ ad n M16 hI mb en ((mNot en tapeF E (nX en tapeF r3.2.1) r3.2.2).2.1) mv tapeF v0_18 ((mNot en tapeF E (nX en tapeF r3.2.1) r3.2.2).1) (-26) (-11) to0 s0 ((mNot en tapeF E (nX en tapeF r3.2.1) r3.2.2).2.2) h_mb h_mb_3 h_mb_21 g19 g20 g21 (by omega) (by decide)) X hK hP hS hl.1 rfl gX13_readAnd_X13_lay yd_X13_lay ⟨by show 0 + 1 ≤ fE + 6; omega, by show 8 + (2 + 11) + (0) ≤ lE + 180; omega⟩ h_mb g19 (ci := 12) rfl rfl (Nat.le_of_ble_eq_true rfl) ⟨Nat.zero_le _, Nat.zero_le _⟩ dX13_readAnd_27 (fun M24 H locs hp23 hP hS => ?_)
        obtain ⟨g26, g27, fr28⟩ := hp23
        refine lv_goto (tgt := 5) hx hb dX13_readAnd_30 (by decide) ?_
        exact ih_5 k8 (eIf (mNot en tapeF E (nX en tapeF r3.2.1) r3.2.2) (opA en tapeF r3.2.1)) v0_18 (by rw [eIf_x]; omega) (by rw [eIf_x]; exact hbd.2.1) (by rw [eIf_x]; omega) (by have := eIf_len (mNot en tapeF E (nX en tapeF r3.2.1) r3.2.2) (opA en tapeF r3.2.1); rw [eIf_x]; omega) (by rw [eIf_x]; omega) (by rw [← he, hk8, eLoop_on hf0 hop0]) _ _ _ (by rw [eIf_x, eIf_1]; exact ((fr28 mb (by omega) (by omega)).trans g19)) (by rw [eIf_c, hop]; exact g26) (by rw [eIf_c, hop]; exact g27) (fun q n0 n1 n2 => ((fr28 q n1 n2).trans ((fr22 q n0 n1 n2).trans ((fr14 q n0).trans (fL5 q n0 n1 n2))))) hP hS ls (lv_sub hl [0, 1] rfl)
  exact loop_5 (en + 2) 700 (mNot en tapeF E x cs) v0_4 (by omega) (by exact (hSB x cs hxe).2.1) (by have := hSB x cs hxe; omega) (by have := hSB x cs hxe; omega) (by have := hSB x cs hxe; omega) (by rfl) _ _ _ g5 g6 g7 (fun q n0 n1 n2 => (fr8 q n0 n1 n2)) hP hS ls (lv_sub hl [0, 1] rfl)
end
