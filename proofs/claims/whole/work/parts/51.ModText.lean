/-! PoundsOverModel: the rule's text, where all is well -/
noncomputable section
def vlI : List Nat := [16, 17, 18, 19, 3]
theorem vlI_ok : ∀ j : Nat, j < 5 → vlI.getD j 0 < 20 ∧ 0 < vlI.getD j 0 := by decide
theorem wh_V (en : Nat) (bf : Nat → Int32) (x : Nat) : s_X13_which en x bf 0 5 vlI = wV en bf x := by
  have hlt := wX_lt en bf x
  have e : ∀ w : Nat, w < 20 → (if (if w = 16 then (1 : Int32) else 0) = 0 then if (if w = 17 then (1 : Int32) else 0) = 0 then if (if w = 18 then (1 : Int32) else 0) = 0 then if (if w = 19 then (1 : Int32) else 0) = 0 then if (if w = 3 then (1 : Int32) else 0) = 0 then (-1 : Int32) else nI 4 else nI 3 else nI 2 else nI 1 else nI 0) = wVl.getD w 0 := by decide
  exact e _ hlt
theorem wV_b (en : Nat) (bf : Nat → Int32) (x : Nat) : -10 < (-1 : Int32) - wV en bf x := by
  have key : ∀ w : Nat, w < 20 → -10 < (-1 : Int32) - wVl.getD w 0 := by decide
  exact key _ (wX_lt en bf x)
theorem nv_b {en x : Nat} {bf : Nat → Int32} (hx : x ≤ en) (he : en ≤ 700) (hk : kX en bf x = 2) : -10 < nvR en bf x 0 9999 := by
  have h := num_R hx he hk
  unfold nvR
  split
  · decide
  · by_cases h4 : nX en bf x - pX en bf x ≤ 4
    · obtain ⟨v, v1, v2, -⟩ := h.1 h4
      rw [v2]
      exact Int32.lt_of_lt_of_le (by decide) (nI_pos' (by omega))
    · rw [h.2 (by omega)]; decide
/-- a number among the parts -/
theorem pr_2 {en x : Nat} {bf : Nat → Int32} {E : Nat → List Int32 → Int32 × Nat × List Int32} {cs : List Int32} (hx : x ≤ en) (he : en ≤ 700) (hk : kX en bf x = 2) : ePart en bf E x cs = (nfR en bf x 0 9999, nxR en bf x 0 9999, eA (nfR en bf x 0 9999) cs (nvR en bf x 0 9999)) := by
  have h := num_R hx he hk
  have h1 : ¬ kX en bf x = 1 := by rw [hk]; decide
  have hge : ¬ nmX en bf x < 0 := by
    by_cases h4 : nX en bf x - pX en bf x ≤ 4
    · obtain ⟨v, v1, v2, -⟩ := h.1 h4
      rw [v2]; exact nI_pos (by omega)
    · rw [h.2 (by omega)]; decide
  unfold ePart nfR nxR nvR eA s_X4_isNumber fkN
  rw [if_neg h1]
  simp only [if_pos hk, if_neg hge]
  by_cases c : 9999 < nmX en bf x
  · rw [if_pos c, if_neg (Int32.not_le.mpr c)]
    first | rfl | (simp only [↓reduceIte] <;> rfl)
  · rw [if_neg c, if_pos (Int32.not_lt.mp c)]
    first | rfl | (simp only [↓reduceIte] <;> rfl)
def mCon (l : Launch) (D : va_G) (cB cI cJ : ClassId) (ad : Nat → Nat) (n : Nat) (y : MethodName) (ws : List Cond) (fE lE : Nat) (mb en : Nat) (mv tapeF to0 s0 : Nat → Int32) (dp : Int32) (E : Nat → List Int32 → Int32 × Nat × List Int32) : Prop := ∀ (M : Nat → va_E) (_ : ipI ad n) (x : Nat) (nu : Int32) (cs : List Int32) (_ : mb < n) (_ : mb + 23 < n) (_ : mb + 3 < n) (_ : mb + 21 < n) (_ : mb + 2 < n) (_ : M mb = .inr (12, modF ad mb (mR en tapeF mv x 0 nu))) (_ : M (mb + 23) = .inl (cI, 700, .inl tapeF)) (_ : M (mb + 3) = .inl (cI, 14, .inl (tdC to0 cs))) (_ : M (mb + 21) = .inl (cI, 1400, .inl (layM cs s0))) (_ : M (mb + 2) = .inl (ad 5000, 5, .inr (.inr (.inr (.inr (txF ad vlI)))))) (_ : x ≤ en) (_ : en ≤ 700) (_ : bOK tapeF) (_ : mv 26 = nI en) (_ : 0 < x) (_ : cs.length ≤ x), cWv l D cB cI cJ ad n M y ws fE lE [.ref (ad mb), .int dp] (fun M' => ∃ (v0 : Int32), M' mb = .inr (12, modF ad mb (mR en tapeF mv (E x cs).2.1 (E x cs).1 v0)) ∧ M' (mb + 3) = .inl (cI, 14, .inl (tdC to0 (E x cs).2.2)) ∧ M' (mb + 21) = .inl (cI, 1400, .inl (layM (E x cs).2.2 s0)) ∧ ∀ q : Nat, q ≠ mb → q ≠ mb + 3 → q ≠ mb + 21 → M' q = M q)
set_option maxHeartbeats 2000000 in
set_option maxRecDepth 100000 in
theorem c_X13_layB (l : Launch) (D : va_G) (cB cI cJ : ClassId) (ad : Nat → Nat) (n : Nat) (M : Nat → va_E) (hI : ipI ad n) (mb en x : Nat) (mv tapeF : Nat → Int32) (nu : Int32) (f z : Int32) (to0 s0 : Nat → Int32) (cs : List Int32) (h_mb : mb < n) (h_mb_3 : mb + 3 < n) (h_mb_21 : mb + 21 < n) (m_mb : M mb = .inr (12, modF ad mb (mR en tapeF mv x f nu))) (m_mb_3 : M (mb + 3) = .inl (cI, 14, .inl (tdC to0 cs))) (m_mb_21 : M (mb + 21) = .inl (cI, 1400, .inl (layM cs s0))) (hf0 : ¬ f = 0) : cWv l D cB cI cJ ad n M yX13_lay wsX13_lay 0 0 [.ref (ad mb), .int z] (fun M' => ∀ q : Nat, M' q = M q) := by
  refine q_body (cc := cX13_lay) (maxL := 2) (ret := none) (by decide) rfl (Nat.le_of_ble_eq_true rfl) ?_
  intro p e s m args below meth c ls X hr hlocks hK hP hl
  obtain ⟨hx, hb, hml, hown, hts⟩ := id X
  have hS : va_S (ipA ad n) s.heap s.heap [] := va_S.rf
  have hl : lv_has ls 2 [(0, .ref (ad mb)), (1, .int z)] := hl
  refine lv_aload_n hx hb dX13_lay_0 rfl (lv_at hl 0 rfl) ?_
  refine q_get (v := .int f) (fs := modF ad mb (mR en tapeF mv x f nu)) X hK hP fX13_lay_222 h_mb m_mb rfl dX13_lay_1 ?_
  refine lv_if_eq (tgt := 8) hx hb dX13_lay_4 (by decide) (fun c_4 => ?_) (fun c_4 => ?_)
  · exact absurd c_4 hf0
  · skip
    exact q_wvret X hr hlocks hP hS (fun q => rfl) dX13_lay_7
set_option maxRecDepth 20000 in
theorem fX13_readPart_196 : FL wsX13_readPart RX13 196 12 27 := ⟨RX13, TX13, 67, rfl, by decide +kernel, by decide, by decide +kernel⟩
theorem yd_X13_mark : YD yX13_mark 1 := ⟨by decide +kernel, by decide +kernel, by decide +kernel⟩
theorem yd_X13_readExpression : YD yX13_readExpression 1 := ⟨by decide +kernel, by decide +kernel, by decide +kernel⟩
set_option maxRecDepth 20000 in
theorem fX13_readPart_37 : FL wsX13_readPart RX13 37 12 1 := ⟨RX13, TX13, 67, rfl, by decide +kernel, by decide, by decide +kernel⟩
theorem yd_X13_which : YD yX13_which 1 := ⟨by decide +kernel, by decide +kernel, by decide +kernel⟩
theorem yd_X13_lay : YD yX13_lay 1 := ⟨by decide +kernel, by decide +kernel, by decide +kernel⟩
set_option maxHeartbeats 2000000 in
set_option maxRecDepth 100000 in
theorem c_X13_readPart (l : Launch) (D : va_G) (cB cI cJ : ClassId) (ad : Nat → Nat) (n : Nat) (M : Nat → va_E) (hI : ipI ad n) (mb en x : Nat) (mv tapeF : Nat → Int32) (nu : Int32) (to0 s0 : Nat → Int32) (cs : List Int32) (fE lE : Nat) (E : Nat → List Int32 → Int32 × Nat × List Int32) (dp : Int32) (h_mb : mb < n) (h_mb_23 : mb + 23 < n) (h_mb_3 : mb + 3 < n) (h_mb_21 : mb + 21 < n) (h_mb_2 : mb + 2 < n) (m_mb : M mb = .inr (12, modF ad mb (mR en tapeF mv x 0 nu))) (m_mb_23 : M (mb + 23) = .inl (cI, 700, .inl tapeF)) (m_mb_3 : M (mb + 3) = .inl (cI, 14, .inl (tdC to0 cs))) (m_mb_21 : M (mb + 21) = .inl (cI, 1400, .inl (layM cs s0))) (m_mb_2 : M (mb + 2) = .inl (ad 5000, 5, .inr (.inr (.inr (.inr (txF ad vlI)))))) (hxe : x ≤ en) (hen : en ≤ 700) (hT : bOK tapeF) (k26 : mv 26 = nI en) (hx0 : 0 < x) (hcx : cs.length ≤ x) (hEB : eB en E) (hfE : 10 ≤ fE) (hlE : 200 ≤ lE) (hE : mCon l D cB cI cJ ad n yX13_readExpression wsX13_readExpression fE lE mb en mv tapeF to0 s0 (dp + 1) E) : cWv l D cB cI cJ ad n M yX13_readPart wsX13_readPart (fE + 1) (lE + 30) [.ref (ad mb), .int dp] (fun M' => ∃ (v0 : Int32), M' mb = .inr (12, modF ad mb (mR en tapeF mv (ePart en tapeF E x cs).2.1 (ePart en tapeF E x cs).1 v0)) ∧ M' (mb + 3) = .inl (cI, 14, .inl (tdC to0 (ePart en tapeF E x cs).2.2)) ∧ M' (mb + 21) = .inl (cI, 1400, .inl (layM (ePart en tapeF E x cs).2.2 s0)) ∧ ∀ q : Nat, q ≠ mb → q ≠ mb + 3 → q ≠ mb + 21 → M' q = M q) := by
  refine q_body (cc := cX13_readPart) (maxL := 3) (ret := none) (by decide) rfl (Nat.le_of_ble_eq_true rfl) ?_
  intro p e s m args below meth c ls X hr hlocks hK hP hl
  obtain ⟨hx, hb, hml, hown, hts⟩ := id X
  have hS : va_S (ipA ad n) s.heap s.heap [] := va_S.rf
  have hl : lv_has ls 3 [(0, .ref (ad mb)), (1, .int dp)] := hl
  refine lv_aload_n hx hb dX13_readPart_0 rfl (lv_at hl 0 rfl) ?_
  refine q_get (v := .int 0) (fs := modF ad mb (mR en tapeF mv x 0 nu)) X hK hP fX13_readPart_222 h_mb m_mb rfl dX13_readPart_1 ?_
  refine lv_if_eq (tgt := 8) hx hb dX13_readPart_4 (by decide) (fun c_4 => ?_) (fun c_4 => ?_)
  · clear c_4
    refine lv_aload_n hx hb dX13_readPart_8 rfl (lv_at hl 0 rfl) ?_
    refine q_get (v := .int (mkT (kX en tapeF x))) (fs := modF ad mb (mR en tapeF mv x 0 nu)) X hK hP fX13_readPart_196 h_mb m_mb rfl dX13_readPart_9 ?_
    refine lv_iconst (v := 2) hx hb dX13_readPart_12 (by decide) ?_
    refine lv_icmp_ne (tgt := 29) hx hb dX13_readPart_13 (by decide) (fun c_13 => ?_) (fun c_13 => ?_)
    · skip
      refine lv_aload_n hx hb dX13_readPart_29 rfl (lv_at hl 0 rfl) ?_
      refine q_get (v := .int (mkT (kX en tapeF x))) (fs := modF ad mb (mR en tapeF mv x 0 nu)) X hK hP fX13_readPart_196 h_mb m_mb rfl dX13_readPart_30 ?_
      refine lv_iconst (v := 1) hx hb dX13_readPart_33 (by decide) ?_
      refine lv_icmp_ne (tgt := 75) hx hb dX13_readPart_34 (by decide) (fun c_34 => ?_) (fun c_34 => ?_)
      · skip
        by_cases s_75 : kX en tapeF x = 40
        · skip
          have hgt := nX_gt hxe hen (by rw [s_75]; decide : ¬ kX en tapeF x = 0); have hle := nX_le (bf := tapeF) hxe hen; have hbd := hEB (nX en tapeF x) cs hle
          refine lv_aload_n hx hb dX13_readPart_75 rfl (lv_at hl 0 rfl) ?_
          refine lv_bipush (v := 40) hx hb dX13_readPart_76 (by decide) ?_
          refine q_wrVv (As := [.int 40]) (rest := []) (c_X13_markT l D cB cI cJ ad n M hI mb en x mv tapeF nu 40 h_mb h_mb_23 m_mb m_mb_23 hxe hen hT k26 (by decide) (s_75)) X hK hP hS hl.1 rfl gX13_readPart_X13_mark yd_X13_mark ⟨by show 2 + 1 ≤ fE + 1; omega, by show 8 + (2 + 11) + (42) ≤ lE + 30; omega⟩ h_mb m_mb (ci := 12) rfl rfl (Nat.le_of_ble_eq_true rfl) ⟨Nat.zero_le _, Nat.zero_le _⟩ dX13_readPart_78 (fun M2 H locs hp1 hP hS => ?_)
          obtain ⟨v0_4, g5, fr6⟩ := hp1
          refine lv_aload_n hx hb dX13_readPart_81 rfl (lv_at hl 0 rfl) ?_
          refine lv_iload_n hx hb dX13_readPart_82 rfl (lv_at hl 1 rfl) ?_
          refine lv_iconst (v := 1) hx hb dX13_readPart_83 (by decide) ?_
          refine lv_iadd hx hb dX13_readPart_84 ?_
          refine q_wrVv (As := [.int (dp + 1)]) (rest := []) (hE M2 hI (nX en tapeF x) v0_4 cs h_mb h_mb_23 h_mb_3 h_mb_21 h_mb_2 g5 ((fr6 (mb + 23) (by omega)).trans m_mb_23) ((fr6 (mb + 3) (by omega)).trans m_mb_3) ((fr6 (mb + 21) (by omega)).trans m_mb_21) ((fr6 (mb + 2) (by omega)).trans m_mb_2) (by omega) hen hT k26 (by omega) (by omega)) X hK hP hS hl.1 rfl gX13_readPart_X13_readExpression yd_X13_readExpression ⟨by show fE + 1 ≤ fE + 1; omega, by show 8 + (3 + 11) + (lE) ≤ lE + 30; omega⟩ h_mb g5 (ci := 12) rfl rfl (Nat.le_of_ble_eq_true rfl) ⟨Nat.zero_le _, Nat.zero_le _⟩ dX13_readPart_85 (fun M8 H locs hp7 hP hS => ?_)
          obtain ⟨v0_10, g11, g12, g13, fr14⟩ := hp7
          by_cases s_88 : (E (nX en tapeF x) cs).1 = 0
          · skip
            have g15 : M8 mb = .inr (12, modF ad mb (mR en tapeF mv (E (nX en tapeF x) cs).2.1 0 v0_10)) := by refine g11.trans (modC (by rw [s_88]))
            refine lv_aload_n hx hb dX13_readPart_88 rfl (lv_at hl 0 rfl) ?_
            by_cases s_89 : kX en tapeF (E (nX en tapeF x) cs).2.1 = 41
            · skip
              refine lv_bipush (v := 41) hx hb dX13_readPart_89 (by decide) ?_
              refine q_wrVv (As := [.int 41]) (rest := []) (c_X13_markT l D cB cI cJ ad n M8 hI mb en ((E (nX en tapeF x) cs).2.1) mv tapeF v0_10 41 h_mb h_mb_23 g15 ((fr14 (mb + 23) (by omega) (by omega) (by omega)).trans ((fr6 (mb + 23) (by omega)).trans m_mb_23)) (hbd.2.1) hen hT k26 (by decide) (s_89)) X hK hP hS hl.1 rfl gX13_readPart_X13_mark yd_X13_mark ⟨by show 2 + 1 ≤ fE + 1; omega, by show 8 + (2 + 11) + (42) ≤ lE + 30; omega⟩ h_mb g15 (ci := 12) rfl rfl (Nat.le_of_ble_eq_true rfl) ⟨Nat.zero_le _, Nat.zero_le _⟩ dX13_readPart_91 (fun M17 H locs hp16 hP hS => ?_)
              obtain ⟨v0_19, g20, fr21⟩ := hp16
              exact q_wvret X hr hlocks hP hS ⟨v0_19, (by refine g20.trans ?_; first | (rw [ePart, if_neg (fun q => c_34 ((mkT_1 _).mpr q)), if_neg (fun q => c_13 ((mkT_2 _).mpr q)), if_pos s_75, eCl, if_pos s_88, if_pos s_89]; done) | (rw [ePart, if_neg (fun q => c_34 ((mkT_1 _).mpr q)), if_neg (fun q => c_13 ((mkT_2 _).mpr q)), if_pos s_75, eCl, if_pos s_88, if_neg s_89]; done) | (rw [ePart, if_neg (fun q => c_34 ((mkT_1 _).mpr q)), if_neg (fun q => c_13 ((mkT_2 _).mpr q)), if_pos s_75, eCl, if_neg s_88]; done) | (rw [ePart, if_neg (fun q => c_34 ((mkT_1 _).mpr q)), if_neg (fun q => c_13 ((mkT_2 _).mpr q)), if_neg s_75]; done)), (by refine ((fr21 (mb + 3) (by omega)).trans g12).trans ?_; first | (rw [ePart, if_neg (fun q => c_34 ((mkT_1 _).mpr q)), if_neg (fun q => c_13 ((mkT_2 _).mpr q)), if_pos s_75, eCl, if_pos s_88, if_pos s_89]; done) | (rw [ePart, if_neg (fun q => c_34 ((mkT_1 _).mpr q)), if_neg (fun q => c_13 ((mkT_2 _).mpr q)), if_pos s_75, eCl, if_pos s_88, if_neg s_89]; done) | (rw [ePart, if_neg (fun q => c_34 ((mkT_1 _).mpr q)), if_neg (fun q => c_13 ((mkT_2 _).mpr q)), if_pos s_75, eCl, if_neg s_88]; done) | (rw [ePart, if_neg (fun q => c_34 ((mkT_1 _).mpr q)), if_neg (fun q => c_13 ((mkT_2 _).mpr q)), if_neg s_75]; done)), (by refine ((fr21 (mb + 21) (by omega)).trans g13).trans ?_; first | (rw [ePart, if_neg (fun q => c_34 ((mkT_1 _).mpr q)), if_neg (fun q => c_13 ((mkT_2 _).mpr q)), if_pos s_75, eCl, if_pos s_88, if_pos s_89]; done) | (rw [ePart, if_neg (fun q => c_34 ((mkT_1 _).mpr q)), if_neg (fun q => c_13 ((mkT_2 _).mpr q)), if_pos s_75, eCl, if_pos s_88, if_neg s_89]; done) | (rw [ePart, if_neg (fun q => c_34 ((mkT_1 _).mpr q)), if_neg (fun q => c_13 ((mkT_2 _).mpr q)), if_pos s_75, eCl, if_neg s_88]; done) | (rw [ePart, if_neg (fun q => c_34 ((mkT_1 _).mpr q)), if_neg (fun q => c_13 ((mkT_2 _).mpr q)), if_neg s_75]; done)), (fun q n0 n1 n2 => ((fr21 q n0).trans ((fr14 q n0 n1 n2).trans (fr6 q n0))))⟩ dX13_readPart_94
            · skip
              refine lv_bipush (v := 41) hx hb dX13_readPart_89 (by decide) ?_
              refine q_wrVv (As := [.int 41]) (rest := []) (c_X13_markF l D cB cI cJ ad n M8 hI mb en ((E (nX en tapeF x) cs).2.1) mv tapeF v0_10 41 h_mb h_mb_23 g15 ((fr14 (mb + 23) (by omega) (by omega) (by omega)).trans ((fr6 (mb + 23) (by omega)).trans m_mb_23)) (hbd.2.1) hen hT k26 (by decide) (s_89)) X hK hP hS hl.1 rfl gX13_readPart_X13_mark yd_X13_mark ⟨by show 1 + 1 ≤ fE + 1; omega, by show 8 + (2 + 11) + (21) ≤ lE + 30; omega⟩ h_mb g15 (ci := 12) rfl rfl (Nat.le_of_ble_eq_true rfl) ⟨Nat.zero_le _, Nat.zero_le _⟩ dX13_readPart_91 (fun M23 H locs hp22 hP hS => ?_)
              obtain ⟨v0_25, g26, fr27⟩ := hp22
              exact q_wvret X hr hlocks hP hS ⟨v0_25, (by refine g26.trans ?_; first | (rw [ePart, if_neg (fun q => c_34 ((mkT_1 _).mpr q)), if_neg (fun q => c_13 ((mkT_2 _).mpr q)), if_pos s_75, eCl, if_pos s_88, if_pos s_89]; done) | (rw [ePart, if_neg (fun q => c_34 ((mkT_1 _).mpr q)), if_neg (fun q => c_13 ((mkT_2 _).mpr q)), if_pos s_75, eCl, if_pos s_88, if_neg s_89]; done) | (rw [ePart, if_neg (fun q => c_34 ((mkT_1 _).mpr q)), if_neg (fun q => c_13 ((mkT_2 _).mpr q)), if_pos s_75, eCl, if_neg s_88]; done) | (rw [ePart, if_neg (fun q => c_34 ((mkT_1 _).mpr q)), if_neg (fun q => c_13 ((mkT_2 _).mpr q)), if_neg s_75]; done)), (by refine ((fr27 (mb + 3) (by omega)).trans g12).trans ?_; first | (rw [ePart, if_neg (fun q => c_34 ((mkT_1 _).mpr q)), if_neg (fun q => c_13 ((mkT_2 _).mpr q)), if_pos s_75, eCl, if_pos s_88, if_pos s_89]; done) | (rw [ePart, if_neg (fun q => c_34 ((mkT_1 _).mpr q)), if_neg (fun q => c_13 ((mkT_2 _).mpr q)), if_pos s_75, eCl, if_pos s_88, if_neg s_89]; done) | (rw [ePart, if_neg (fun q => c_34 ((mkT_1 _).mpr q)), if_neg (fun q => c_13 ((mkT_2 _).mpr q)), if_pos s_75, eCl, if_neg s_88]; done) | (rw [ePart, if_neg (fun q => c_34 ((mkT_1 _).mpr q)), if_neg (fun q => c_13 ((mkT_2 _).mpr q)), if_neg s_75]; done)), (by refine ((fr27 (mb + 21) (by omega)).trans g13).trans ?_; first | (rw [ePart, if_neg (fun q => c_34 ((mkT_1 _).mpr q)), if_neg (fun q => c_13 ((mkT_2 _).mpr q)), if_pos s_75, eCl, if_pos s_88, if_pos s_89]; done) | (rw [ePart, if_neg (fun q => c_34 ((mkT_1 _).mpr q)), if_neg (fun q => c_13 ((mkT_2 _).mpr q)), if_pos s_75, eCl, if_pos s_88, if_neg s_89]; done) | (rw [ePart, if_neg (fun q => c_34 ((mkT_1 _).mpr q)), if_neg (fun q => c_13 ((mkT_2 _).mpr q)), if_pos s_75, eCl, if_neg s_88]; done) | (rw [ePart, if_neg (fun q => c_34 ((mkT_1 _).mpr q)), if_neg (fun q => c_13 ((mkT_2 _).mpr q)), if_neg s_75]; done)), (fun q n0 n1 n2 => ((fr27 q n0).trans ((fr14 q n0 n1 n2).trans (fr6 q n0))))⟩ dX13_readPart_94
          · skip
            refine lv_aload_n hx hb dX13_readPart_88 rfl (lv_at hl 0 rfl) ?_
            refine lv_bipush (v := 41) hx hb dX13_readPart_89 (by decide) ?_
            refine q_wrVv (As := [.int 41]) (rest := []) (c_X13_markB l D cB cI cJ ad n M8 hI mb en ((E (nX en tapeF x) cs).2.1) mv tapeF v0_10 ((E (nX en tapeF x) cs).1) 41 h_mb g11 (s_88)) X hK hP hS hl.1 rfl gX13_readPart_X13_mark yd_X13_mark ⟨by show 0 + 1 ≤ fE + 1; omega, by show 8 + (2 + 11) + (0) ≤ lE + 30; omega⟩ h_mb g11 (ci := 12) rfl rfl (Nat.le_of_ble_eq_true rfl) ⟨Nat.zero_le _, Nat.zero_le _⟩ dX13_readPart_91 (fun M29 H locs hp28 hP hS => ?_)
            have fr31 := hp28
            exact q_wvret X hr hlocks hP hS ⟨v0_10, (by refine ((fr31 mb ).trans g11).trans ?_; first | (rw [ePart, if_neg (fun q => c_34 ((mkT_1 _).mpr q)), if_neg (fun q => c_13 ((mkT_2 _).mpr q)), if_pos s_75, eCl, if_pos s_88, if_pos s_89]; done) | (rw [ePart, if_neg (fun q => c_34 ((mkT_1 _).mpr q)), if_neg (fun q => c_13 ((mkT_2 _).mpr q)), if_pos s_75, eCl, if_pos s_88, if_neg s_89]; done) | (rw [ePart, if_neg (fun q => c_34 ((mkT_1 _).mpr q)), if_neg (fun q => c_13 ((mkT_2 _).mpr q)), if_pos s_75, eCl, if_neg s_88]; done) | (rw [ePart, if_neg (fun q => c_34 ((mkT_1 _).mpr q)), if_neg (fun q => c_13 ((mkT_2 _).mpr q)), if_neg s_75]; done)), (by refine ((fr31 (mb + 3) ).trans g12).trans ?_; first | (rw [ePart, if_neg (fun q => c_34 ((mkT_1 _).mpr q)), if_neg (fun q => c_13 ((mkT_2 _).mpr q)), if_pos s_75, eCl, if_pos s_88, if_pos s_89]; done) | (rw [ePart, if_neg (fun q => c_34 ((mkT_1 _).mpr q)), if_neg (fun q => c_13 ((mkT_2 _).mpr q)), if_pos s_75, eCl, if_pos s_88, if_neg s_89]; done) | (rw [ePart, if_neg (fun q => c_34 ((mkT_1 _).mpr q)), if_neg (fun q => c_13 ((mkT_2 _).mpr q)), if_pos s_75, eCl, if_neg s_88]; done) | (rw [ePart, if_neg (fun q => c_34 ((mkT_1 _).mpr q)), if_neg (fun q => c_13 ((mkT_2 _).mpr q)), if_neg s_75]; done)), (by refine ((fr31 (mb + 21) ).trans g13).trans ?_; first | (rw [ePart, if_neg (fun q => c_34 ((mkT_1 _).mpr q)), if_neg (fun q => c_13 ((mkT_2 _).mpr q)), if_pos s_75, eCl, if_pos s_88, if_pos s_89]; done) | (rw [ePart, if_neg (fun q => c_34 ((mkT_1 _).mpr q)), if_neg (fun q => c_13 ((mkT_2 _).mpr q)), if_pos s_75, eCl, if_pos s_88, if_neg s_89]; done) | (rw [ePart, if_neg (fun q => c_34 ((mkT_1 _).mpr q)), if_neg (fun q => c_13 ((mkT_2 _).mpr q)), if_pos s_75, eCl, if_neg s_88]; done) | (rw [ePart, if_neg (fun q => c_34 ((mkT_1 _).mpr q)), if_neg (fun q => c_13 ((mkT_2 _).mpr q)), if_neg s_75]; done)), (fun q n0 n1 n2 => ((fr31 q).trans ((fr14 q n0 n1 n2).trans (fr6 q n0))))⟩ dX13_readPart_94
        · skip
          refine lv_aload_n hx hb dX13_readPart_75 rfl (lv_at hl 0 rfl) ?_
          refine lv_bipush (v := 40) hx hb dX13_readPart_76 (by decide) ?_
          refine q_wrVv (As := [.int 40]) (rest := []) (c_X13_markF l D cB cI cJ ad n M hI mb en x mv tapeF nu 40 h_mb h_mb_23 m_mb m_mb_23 hxe hen hT k26 (by decide) (s_75)) X hK hP hS hl.1 rfl gX13_readPart_X13_mark yd_X13_mark ⟨by show 1 + 1 ≤ fE + 1; omega, by show 8 + (2 + 11) + (21) ≤ lE + 30; omega⟩ h_mb m_mb (ci := 12) rfl rfl (Nat.le_of_ble_eq_true rfl) ⟨Nat.zero_le _, Nat.zero_le _⟩ dX13_readPart_78 (fun M33 H locs hp32 hP hS => ?_)
          obtain ⟨v0_35, g36, fr37⟩ := hp32
          refine lv_aload_n hx hb dX13_readPart_81 rfl (lv_at hl 0 rfl) ?_
          refine lv_iload_n hx hb dX13_readPart_82 rfl (lv_at hl 1 rfl) ?_
          refine lv_iconst (v := 1) hx hb dX13_readPart_83 (by decide) ?_
          refine lv_iadd hx hb dX13_readPart_84 ?_
          refine q_wrVv (As := [.int (dp + 1)]) (rest := []) (c_X13_readExpressionB l D cB cI cJ ad n M33 hI mb en x mv tapeF v0_35 1 (dp + 1) h_mb h_mb_23 g36 ((fr37 (mb + 23) (by omega)).trans m_mb_23) hxe hen hT k26 (by decide)) X hK hP hS hl.1 rfl gX13_readPart_X13_readExpression yd_X13_readExpression ⟨by show 0 + 1 ≤ fE + 1; omega, by show 8 + (3 + 11) + (0) ≤ lE + 30; omega⟩ h_mb g36 (ci := 12) rfl rfl (Nat.le_of_ble_eq_true rfl) ⟨Nat.zero_le _, Nat.zero_le _⟩ dX13_readPart_85 (fun M39 H locs hp38 hP hS => ?_)
          have fr41 := hp38
          refine lv_aload_n hx hb dX13_readPart_88 rfl (lv_at hl 0 rfl) ?_
          refine lv_bipush (v := 41) hx hb dX13_readPart_89 (by decide) ?_
          refine q_wrVv (As := [.int 41]) (rest := []) (c_X13_markB l D cB cI cJ ad n M39 hI mb en x mv tapeF v0_35 1 41 h_mb ((fr41 mb ).trans g36) (by decide)) X hK hP hS hl.1 rfl gX13_readPart_X13_mark yd_X13_mark ⟨by show 0 + 1 ≤ fE + 1; omega, by show 8 + (2 + 11) + (0) ≤ lE + 30; omega⟩ h_mb ((fr41 mb ).trans g36) (ci := 12) rfl rfl (Nat.le_of_ble_eq_true rfl) ⟨Nat.zero_le _, Nat.zero_le _⟩ dX13_readPart_91 (fun M43 H locs hp42 hP hS => ?_)
          have fr45 := hp42
          exact q_wvret X hr hlocks hP hS ⟨v0_35, (by refine ((fr45 mb ).trans ((fr41 mb ).trans g36)).trans ?_; first | (rw [ePart, if_neg (fun q => c_34 ((mkT_1 _).mpr q)), if_neg (fun q => c_13 ((mkT_2 _).mpr q)), if_pos s_75, eCl, if_pos s_88, if_pos s_89]; done) | (rw [ePart, if_neg (fun q => c_34 ((mkT_1 _).mpr q)), if_neg (fun q => c_13 ((mkT_2 _).mpr q)), if_pos s_75, eCl, if_pos s_88, if_neg s_89]; done) | (rw [ePart, if_neg (fun q => c_34 ((mkT_1 _).mpr q)), if_neg (fun q => c_13 ((mkT_2 _).mpr q)), if_pos s_75, eCl, if_neg s_88]; done) | (rw [ePart, if_neg (fun q => c_34 ((mkT_1 _).mpr q)), if_neg (fun q => c_13 ((mkT_2 _).mpr q)), if_neg s_75]; done)), (by refine ((fr45 (mb + 3) ).trans ((fr41 (mb + 3) ).trans ((fr37 (mb + 3) (by omega)).trans m_mb_3))).trans ?_; first | (rw [ePart, if_neg (fun q => c_34 ((mkT_1 _).mpr q)), if_neg (fun q => c_13 ((mkT_2 _).mpr q)), if_pos s_75, eCl, if_pos s_88, if_pos s_89]; done) | (rw [ePart, if_neg (fun q => c_34 ((mkT_1 _).mpr q)), if_neg (fun q => c_13 ((mkT_2 _).mpr q)), if_pos s_75, eCl, if_pos s_88, if_neg s_89]; done) | (rw [ePart, if_neg (fun q => c_34 ((mkT_1 _).mpr q)), if_neg (fun q => c_13 ((mkT_2 _).mpr q)), if_pos s_75, eCl, if_neg s_88]; done) | (rw [ePart, if_neg (fun q => c_34 ((mkT_1 _).mpr q)), if_neg (fun q => c_13 ((mkT_2 _).mpr q)), if_neg s_75]; done)), (by refine ((fr45 (mb + 21) ).trans ((fr41 (mb + 21) ).trans ((fr37 (mb + 21) (by omega)).trans m_mb_21))).trans ?_; first | (rw [ePart, if_neg (fun q => c_34 ((mkT_1 _).mpr q)), if_neg (fun q => c_13 ((mkT_2 _).mpr q)), if_pos s_75, eCl, if_pos s_88, if_pos s_89]; done) | (rw [ePart, if_neg (fun q => c_34 ((mkT_1 _).mpr q)), if_neg (fun q => c_13 ((mkT_2 _).mpr q)), if_pos s_75, eCl, if_pos s_88, if_neg s_89]; done) | (rw [ePart, if_neg (fun q => c_34 ((mkT_1 _).mpr q)), if_neg (fun q => c_13 ((mkT_2 _).mpr q)), if_pos s_75, eCl, if_neg s_88]; done) | (rw [ePart, if_neg (fun q => c_34 ((mkT_1 _).mpr q)), if_neg (fun q => c_13 ((mkT_2 _).mpr q)), if_neg s_75]; done)), (fun q n0 n1 n2 => ((fr45 q).trans ((fr41 q).trans (fr37 q n0))))⟩ dX13_readPart_94
      · skip
        have hgt := nX_gt hxe hen (by rw [(mkT_1 _).mp c_34]; decide : ¬ kX en tapeF x = 0); have hle := nX_le (bf := tapeF) hxe hen
        refine lv_aload_n hx hb dX13_readPart_37 rfl (lv_at hl 0 rfl) ?_
        refine lv_aload_n hx hb dX13_readPart_38 rfl (lv_at hl 0 rfl) ?_
        refine q_get (v := .ref (ad (mb + 2))) (fs := modF ad mb (mR en tapeF mv x 0 nu)) X hK hP fX13_readPart_37 h_mb m_mb rfl dX13_readPart_39 ?_
        refine q_rdV (As := [.ref (ad (mb + 2))]) (rest := []) (c_X13_whichR l D cB cI cJ ad n M mb en x mv tapeF nu 0 (mb + 2) 5 vlI h_mb h_mb_23 h_mb_2 m_mb m_mb_23 m_mb_2 hxe hen hT k26 (vlI_ok) (by decide)) X hK hP hS hl.1 rfl gX13_readPart_X13_which yd_X13_which ⟨by show 5 + 1 ≤ fE + 1; omega, by show 8 + (3 + 11) + (108) ≤ lE + 30; omega⟩ h_mb m_mb (ci := 12) rfl rfl (Nat.le_of_ble_eq_true rfl) ⟨Nat.zero_le _, Nat.zero_le _⟩ dX13_readPart_42 ?_
        refine lv_istore_n (lv' := [(2, .int (s_X13_which en x tapeF 0 5 vlI)), (0, .ref (ad mb)), (1, .int dp)]) hx hb dX13_readPart_45 rfl hl (by decide) rfl (fun ls hl => ?_)
        refine lv_iload_n hx hb dX13_readPart_46 rfl (lv_at hl 0 rfl) ?_
        refine lv_iconst (v := (-1)) hx hb dX13_readPart_47 (by decide) ?_
        refine lv_icmp_ne (tgt := 56) hx hb dX13_readPart_48 (by decide) (fun c_48 => ?_) (fun c_48 => ?_)
        · skip
          refine lv_aload_n hx hb dX13_readPart_56 rfl (lv_at hl 1 rfl) ?_
          refine lv_iconst (v := (-1)) hx hb dX13_readPart_57 (by decide) ?_
          refine lv_iload_n hx hb dX13_readPart_58 rfl (lv_at hl 0 rfl) ?_
          refine lv_isub hx hb dX13_readPart_59 ?_
          refine q_wrVv (As := [.int ((-1) - (s_X13_which en x tapeF 0 5 vlI))]) (rest := []) (c_X13_layR l D cB cI cJ ad n M hI mb en x mv tapeF nu 0 ((-1) - (s_X13_which en x tapeF 0 5 vlI)) ((-1) - (s_X13_which en x tapeF 0 5 vlI)) to0 s0 cs h_mb h_mb_3 h_mb_21 m_mb m_mb_3 m_mb_21 (by omega) ((mC_id (by rw [wh_V]; exact wV_b _ _ _)).symm)) X hK hP hS hl.1 rfl gX13_readPart_X13_lay yd_X13_lay ⟨by show 0 + 1 ≤ fE + 1; omega, by show 8 + (2 + 11) + (0) ≤ lE + 30; omega⟩ h_mb m_mb (ci := 12) rfl rfl (Nat.le_of_ble_eq_true rfl) ⟨Nat.zero_le _, Nat.zero_le _⟩ dX13_readPart_60 (fun M47 H locs hp46 hP hS => ?_)
          obtain ⟨g49, g50, fr51⟩ := hp46
          refine lv_aload_n hx hb dX13_readPart_63 rfl (lv_at hl 1 rfl) ?_
          refine q_get (v := .int 0) (fs := modF ad mb (mR en tapeF mv x 0 nu)) X hK hP fX13_readPart_222 h_mb ((fr51 mb (by omega) (by omega)).trans m_mb) rfl dX13_readPart_64 ?_
          refine lv_if_ne (tgt := 74) hx hb dX13_readPart_67 (by decide) (fun c_67 => ?_) (fun c_67 => ?_)
          · exact absurd c_67 (by decide)
          · clear c_67
            refine lv_aload_n hx hb dX13_readPart_70 rfl (lv_at hl 1 rfl) ?_
            refine q_wrVv (As := []) (rest := []) (c_X13_stepR l D cB cI cJ ad n M47 hI mb en x mv tapeF nu h_mb h_mb_23 ((fr51 mb (by omega) (by omega)).trans m_mb) ((fr51 (mb + 23) (by omega) (by omega)).trans m_mb_23) hxe hen hT k26) X hK hP hS hl.1 rfl gX13_readPart_X13_stepOn yd_X13_stepOn ⟨by show 1 + 1 ≤ fE + 1; omega, by show 8 + (2 + 11) + (21) ≤ lE + 30; omega⟩ h_mb ((fr51 mb (by omega) (by omega)).trans m_mb) (ci := 12) rfl rfl (Nat.le_of_ble_eq_true rfl) ⟨Nat.zero_le _, Nat.zero_le _⟩ dX13_readPart_71 (fun M53 H locs hp52 hP hS => ?_)
            obtain ⟨g55, fr56⟩ := hp52
            exact q_wvret X hr hlocks hP hS ⟨(mnX en tapeF x nu), (by refine g55.trans ?_; first | (rw [ePart, if_pos ((mkT_1 _).mp c_34), if_pos ((wh_V en tapeF x).symm.trans c_48)]; done) | (rw [ePart, if_pos ((mkT_1 _).mp c_34), if_neg (fun q => c_48 ((wh_V en tapeF x).trans q))]; done) | (rw [ePart, if_pos ((mkT_1 _).mp c_34), if_neg (fun q => c_48 ((wh_V en tapeF x).trans q)), wh_V]; rfl; done)), (by refine ((fr56 (mb + 3) (by omega)).trans g49).trans ?_; first | (rw [ePart, if_pos ((mkT_1 _).mp c_34), if_pos ((wh_V en tapeF x).symm.trans c_48)]; done) | (rw [ePart, if_pos ((mkT_1 _).mp c_34), if_neg (fun q => c_48 ((wh_V en tapeF x).trans q))]; done) | (rw [ePart, if_pos ((mkT_1 _).mp c_34), if_neg (fun q => c_48 ((wh_V en tapeF x).trans q)), wh_V]; rfl; done)), (by refine ((fr56 (mb + 21) (by omega)).trans g50).trans ?_; first | (rw [ePart, if_pos ((mkT_1 _).mp c_34), if_pos ((wh_V en tapeF x).symm.trans c_48)]; done) | (rw [ePart, if_pos ((mkT_1 _).mp c_34), if_neg (fun q => c_48 ((wh_V en tapeF x).trans q))]; done) | (rw [ePart, if_pos ((mkT_1 _).mp c_34), if_neg (fun q => c_48 ((wh_V en tapeF x).trans q)), wh_V]; rfl; done)), (fun q n0 n1 n2 => ((fr56 q n0).trans (fr51 q n1 n2)))⟩ dX13_readPart_74
        · skip
          refine lv_aload_n hx hb dX13_readPart_51 rfl (lv_at hl 1 rfl) ?_
          refine lv_iconst (v := 3) hx hb dX13_readPart_52 (by decide) ?_
          refine q_wrVv (As := [.int 3]) (rest := []) (c_X13_wrongR l D cB cI cJ ad n M hI mb en x mv tapeF nu 3 h_mb m_mb hxe hen hT k26 (by decide)) X hK hP hS hl.1 rfl gX13_readPart_X13_wrong yd_X13_wrong ⟨by show 0 + 1 ≤ fE + 1; omega, by show 8 + (2 + 11) + (0) ≤ lE + 30; omega⟩ h_mb m_mb (ci := 12) rfl rfl (Nat.le_of_ble_eq_true rfl) ⟨Nat.zero_le _, Nat.zero_le _⟩ dX13_readPart_53 (fun M58 H locs hp57 hP hS => ?_)
          obtain ⟨g60, fr61⟩ := hp57
          refine lv_aload_n hx hb dX13_readPart_56 rfl (lv_at hl 1 rfl) ?_
          refine lv_iconst (v := (-1)) hx hb dX13_readPart_57 (by decide) ?_
          refine lv_iload_n hx hb dX13_readPart_58 rfl (lv_at hl 0 rfl) ?_
          refine lv_isub hx hb dX13_readPart_59 ?_
          refine q_wrVv (As := [.int ((-1) - (s_X13_which en x tapeF 0 5 vlI))]) (rest := []) (c_X13_layB l D cB cI cJ ad n M58 hI mb en x mv tapeF nu 3 ((-1) - (s_X13_which en x tapeF 0 5 vlI)) to0 s0 cs h_mb h_mb_3 h_mb_21 g60 ((fr61 (mb + 3) (by omega)).trans m_mb_3) ((fr61 (mb + 21) (by omega)).trans m_mb_21) (by decide)) X hK hP hS hl.1 rfl gX13_readPart_X13_lay yd_X13_lay ⟨by show 0 + 1 ≤ fE + 1; omega, by show 8 + (2 + 11) + (0) ≤ lE + 30; omega⟩ h_mb g60 (ci := 12) rfl rfl (Nat.le_of_ble_eq_true rfl) ⟨Nat.zero_le _, Nat.zero_le _⟩ dX13_readPart_60 (fun M63 H locs hp62 hP hS => ?_)
          have fr65 := hp62
          refine lv_aload_n hx hb dX13_readPart_63 rfl (lv_at hl 1 rfl) ?_
          refine q_get (v := .int 3) (fs := modF ad mb (mR en tapeF mv x 3 nu)) X hK hP fX13_readPart_222 h_mb ((fr65 mb ).trans g60) rfl dX13_readPart_64 ?_
          refine lv_if_ne (tgt := 74) hx hb dX13_readPart_67 (by decide) (fun c_67 => ?_) (fun c_67 => ?_)
          · clear c_67
            exact q_wvret X hr hlocks hP hS ⟨nu, (by refine ((fr65 mb ).trans g60).trans ?_; first | (rw [ePart, if_pos ((mkT_1 _).mp c_34), if_pos ((wh_V en tapeF x).symm.trans c_48)]; done) | (rw [ePart, if_pos ((mkT_1 _).mp c_34), if_neg (fun q => c_48 ((wh_V en tapeF x).trans q))]; done) | (rw [ePart, if_pos ((mkT_1 _).mp c_34), if_neg (fun q => c_48 ((wh_V en tapeF x).trans q)), wh_V]; rfl; done)), (by refine ((fr65 (mb + 3) ).trans ((fr61 (mb + 3) (by omega)).trans m_mb_3)).trans ?_; first | (rw [ePart, if_pos ((mkT_1 _).mp c_34), if_pos ((wh_V en tapeF x).symm.trans c_48)]; done) | (rw [ePart, if_pos ((mkT_1 _).mp c_34), if_neg (fun q => c_48 ((wh_V en tapeF x).trans q))]; done) | (rw [ePart, if_pos ((mkT_1 _).mp c_34), if_neg (fun q => c_48 ((wh_V en tapeF x).trans q)), wh_V]; rfl; done)), (by refine ((fr65 (mb + 21) ).trans ((fr61 (mb + 21) (by omega)).trans m_mb_21)).trans ?_; first | (rw [ePart, if_pos ((mkT_1 _).mp c_34), if_pos ((wh_V en tapeF x).symm.trans c_48)]; done) | (rw [ePart, if_pos ((mkT_1 _).mp c_34), if_neg (fun q => c_48 ((wh_V en tapeF x).trans q))]; done) | (rw [ePart, if_pos ((mkT_1 _).mp c_34), if_neg (fun q => c_48 ((wh_V en tapeF x).trans q)), wh_V]; rfl; done)), (fun q n0 n1 n2 => ((fr65 q).trans (fr61 q n0)))⟩ dX13_readPart_74
          · exact absurd c_67 (by decide)
    · skip
      have hgt := nX_gt hxe hen (by rw [(mkT_2 _).mp c_13]; decide : ¬ kX en tapeF x = 0); have hle := nX_le (bf := tapeF) hxe hen
      refine lv_aload_n hx hb dX13_readPart_16 rfl (lv_at hl 0 rfl) ?_
      refine lv_aload_n hx hb dX13_readPart_17 rfl (lv_at hl 0 rfl) ?_
      refine lv_iconst (v := 0) hx hb dX13_readPart_18 (by decide) ?_
      refine lv_sipush (v := 9999) hx hb dX13_readPart_19 (by decide) ?_
      refine q_wrVi (As := [.int 0, .int 9999]) (rest := [.ref (ad mb)]) (c_X13_readNumberR l D cB cI cJ ad n M hI mb en x mv tapeF nu 0 9999 h_mb h_mb_23 m_mb m_mb_23 hxe hen hT k26 (by first | assumption | decide | omega) (by first | assumption | decide | omega)) X hK hP hS hl.1 rfl gX13_readPart_X13_readNumber yd_X13_readNumber ⟨by show 2 + 1 ≤ fE + 1; omega, by show 8 + (4 + 11) + (43) ≤ lE + 30; omega⟩ h_mb m_mb (ci := 12) rfl rfl (Nat.le_of_ble_eq_true rfl) ⟨Nat.zero_le _, Nat.zero_le _⟩ dX13_readPart_22 (fun r68 M67 H locs hp66 hP hS => ?_)
      obtain ⟨er71, g69, fr70⟩ := hp66
      replace er71 := er71.symm
      subst er71
      refine q_wrVv (As := [.int (nvR en tapeF x 0 9999)]) (rest := []) (c_X13_layR l D cB cI cJ ad n M67 hI mb en (nxR en tapeF x 0 9999) mv tapeF (nuR en tapeF x nu 0 9999) (nfR en tapeF x 0 9999) (nvR en tapeF x 0 9999) (nvR en tapeF x 0 9999) to0 s0 cs h_mb h_mb_3 h_mb_21 g69 ((fr70 (mb + 3) (by omega)).trans m_mb_3) ((fr70 (mb + 21) (by omega)).trans m_mb_21) (by omega) ((mC_id (nv_b hxe hen ((mkT_2 _).mp c_13))).symm)) X hK hP hS hl.1 rfl gX13_readPart_X13_lay yd_X13_lay ⟨by show 0 + 1 ≤ fE + 1; omega, by show 8 + (2 + 11) + (0) ≤ lE + 30; omega⟩ h_mb g69 (ci := 12) rfl rfl (Nat.le_of_ble_eq_true rfl) ⟨Nat.zero_le _, Nat.zero_le _⟩ dX13_readPart_25 (fun M73 H locs hp72 hP hS => ?_)
      obtain ⟨g75, g76, fr77⟩ := hp72
      exact q_wvret X hr hlocks hP hS ⟨(nuR en tapeF x nu 0 9999), (by rw [pr_2 hxe hen ((mkT_2 _).mp c_13)]; exact ((fr77 mb (by omega) (by omega)).trans g69)), (by rw [pr_2 hxe hen ((mkT_2 _).mp c_13)]; exact g75), (by rw [pr_2 hxe hen ((mkT_2 _).mp c_13)]; exact g76), (fun q n0 n1 n2 => ((fr77 q n1 n2).trans (fr70 q n0)))⟩ dX13_readPart_28
  · exact absurd c_4 (by decide)
set_option maxHeartbeats 2000000 in
set_option maxRecDepth 100000 in
theorem c_X13_readProduct (l : Launch) (D : va_G) (cB cI cJ : ClassId) (ad : Nat → Nat) (n : Nat) (M : Nat → va_E) (hI : ipI ad n) (mb en x : Nat) (mv tapeF : Nat → Int32) (nu : Int32) (to0 s0 : Nat → Int32) (cs : List Int32) (fE lE : Nat) (E : Nat → List Int32 → Int32 × Nat × List Int32) (dp : Int32) (h_mb : mb < n) (h_mb_23 : mb + 23 < n) (h_mb_3 : mb + 3 < n) (h_mb_21 : mb + 21 < n) (h_mb_2 : mb + 2 < n) (m_mb : M mb = .inr (12, modF ad mb (mR en tapeF mv x 0 nu))) (m_mb_23 : M (mb + 23) = .inl (cI, 700, .inl tapeF)) (m_mb_3 : M (mb + 3) = .inl (cI, 14, .inl (tdC to0 cs))) (m_mb_21 : M (mb + 21) = .inl (cI, 1400, .inl (layM cs s0))) (m_mb_2 : M (mb + 2) = .inl (ad 5000, 5, .inr (.inr (.inr (.inr (txF ad vlI)))))) (hxe : x ≤ en) (hen : en ≤ 700) (hT : bOK tapeF) (k26 : mv 26 = nI en) (hx0 : 0 < x) (hcx : cs.length ≤ x) (hEB : eB en E) (hfE : 10 ≤ fE) (hlE : 200 ≤ lE) (hE : mCon l D cB cI cJ ad n yX13_readExpression wsX13_readExpression fE lE mb en mv tapeF to0 s0 (dp + 1) E) : cWv l D cB cI cJ ad n M yX13_readProduct wsX13_readProduct (fE + 2) (lE + 60) [.ref (ad mb), .int dp] (fun M' => ∃ (v0 : Int32), M' mb = .inr (12, modF ad mb (mR en tapeF mv (eProd en tapeF E x cs).2.1 (eProd en tapeF E x cs).1 v0)) ∧ M' (mb + 3) = .inl (cI, 14, .inl (tdC to0 (eProd en tapeF E x cs).2.2)) ∧ M' (mb + 21) = .inl (cI, 1400, .inl (layM (eProd en tapeF E x cs).2.2 s0)) ∧ ∀ q : Nat, q ≠ mb → q ≠ mb + 3 → q ≠ mb + 21 → M' q = M q) := by
  refine q_body (cc := cX13_readProduct) (maxL := 3) (ret := none) (by decide) rfl (Nat.le_of_ble_eq_true rfl) ?_
  intro p e s m args below meth c ls X hr hlocks hK hP hl
  obtain ⟨hx, hb, hml, hown, hts⟩ := id X
  have hS : va_S (ipA ad n) s.heap s.heap [] := va_S.rf
  have hl : lv_has ls 3 [(0, .ref (ad mb)), (1, .int dp)] := hl
  have hSB : eB en (ePart en tapeF E) := ePart_B hen hEB
  refine lv_aload_n hx hb dX13_readProduct_0 rfl (lv_at hl 0 rfl) ?_
  refine lv_iload_n hx hb dX13_readProduct_1 rfl (lv_at hl 1 rfl) ?_
  refine q_wrVv (As := [.int dp]) (rest := []) (c_X13_readPart l D cB cI cJ ad n M hI mb en x mv tapeF nu to0 s0 cs fE lE E dp h_mb h_mb_23 h_mb_3 h_mb_21 h_mb_2 m_mb m_mb_23 m_mb_3 m_mb_21 m_mb_2 hxe hen hT k26 hx0 hcx hEB hfE hlE hE) X hK hP hS hl.1 rfl gX13_readProduct_X13_readPart yd_X13_readPart ⟨by show fE + 1 + 1 ≤ fE + 2; omega, by show 8 + (3 + 11) + (lE + 30) ≤ lE + 60; omega⟩ h_mb m_mb (ci := 12) rfl rfl (Nat.le_of_ble_eq_true rfl) ⟨Nat.zero_le _, Nat.zero_le _⟩ dX13_readProduct_2 (fun M2 H locs hp1 hP hS => ?_)
  obtain ⟨v0_4, g5, g6, g7, fr8⟩ := hp1
  have loop_5 : ∀ (fuel : Nat) (k : Nat) (r3 : Int32 × Nat × List Int32) (nu1 : Int32), en + 1 - r3.2.1 < fuel → (r3.2.1 ≤ en) → (0 < r3.2.1) → (r3.2.2.length ≤ r3.2.1) → (en < k + r3.2.1) → (eLoop en tapeF (opP en tapeF) (ePart en tapeF E) k r3 = eProd en tapeF E x cs) → ∀ (ML5 : Nat → va_E) (H : Heap) (locs : List Loc), ML5 mb = .inr (12, modF ad mb (mR en tapeF mv r3.2.1 r3.1 nu1)) → ML5 (mb + 3) = .inl (cI, 14, .inl (tdC to0 r3.2.2)) → ML5 (mb + 21) = .inl (cI, 1400, .inl (layM r3.2.2 s0)) → (∀ q : Nat, q ≠ mb → q ≠ mb + 3 → q ≠ mb + 21 → ML5 q = M q) → va_P D vwCl (ip ad n ML5) H → va_S (ipA ad n) s.heap H locs → ∀ (ls : Array Slot), lv_has ls 3 [(0, .ref (ad mb)), (1, .int dp)] → W p l e (rmOf (fE + 2) (lE + 60)) s m args below meth c H locs 0 0 (MQ below (va_Qv (fun M' => ∃ (v0 : Int32), M' mb = .inr (12, modF ad mb (mR en tapeF mv (eProd en tapeF E x cs).2.1 (eProd en tapeF E x cs).1 v0)) ∧ M' (mb + 3) = .inl (cI, 14, .inl (tdC to0 (eProd en tapeF E x cs).2.2)) ∧ M' (mb + 21) = .inl (cI, 1400, .inl (layM (eProd en tapeF E x cs).2.2 s0)) ∧ ∀ q : Nat, q ≠ mb → q ≠ mb + 3 → q ≠ mb + 21 → M' q = M q) (fun M' t => va_P D vwCl (ip ad n M') t.heap) (ipA ad n)) args s 0 0 (ipA ad n)) (F0 m 5 ls []) := by
    intro fuel
    induction fuel with
    | zero =>
      intro k r3 nu1 hz
      exact absurd hz (Nat.not_lt_zero _)
    | succ fuel ih_5 =>
      intro k r3 nu1 hz_5 hx3 hx4 hc3 hk9 he ML5 H locs mL5_0 mL5_1 mL5_2 fL5 hP hS ls hl
      skip
      refine lv_aload_n hx hb dX13_readProduct_5 rfl (lv_at hl 0 rfl) ?_
      refine lv_bipush (v := 42) hx hb dX13_readProduct_6 (by decide) ?_
      refine q_rdV (As := [.int 42]) (rest := []) (c_X13_isMarkedR l D cB cI cJ ad n ML5 mb en r3.2.1 mv tapeF nu1 r3.1 42 h_mb h_mb_23 mL5_0 ((fL5 (mb + 23) (by omega) (by omega) (by omega)).trans m_mb_23) (by first | assumption | omega | exact vp_in_nI (by omega) (by decide) | exact vp_in_iff.mpr (by decide)) hen hT k26 (by decide)) X hK hP hS hl.1 rfl gX13_readProduct_X13_isMarked yd_X13_isMarked ⟨by show 0 + 1 ≤ fE + 2; omega, by show 8 + (2 + 11) + (0) ≤ lE + 60; omega⟩ h_mb mL5_0 (ci := 12) rfl rfl (Nat.le_of_ble_eq_true rfl) ⟨Nat.zero_le _, Nat.zero_le _⟩ dX13_readProduct_8 ?_
      refine lv_if_ne (tgt := 23) hx hb dX13_readProduct_11 (by decide) (fun c_11 => ?_) (fun c_11 => ?_)
      · skip
        obtain ⟨hf0, hkz⟩ := mkR_1 c_11; have hop : opP en tapeF r3.2.1 = (-17) := (by rw [opP, if_pos hkz]); have hop0 : ¬ opP en tapeF r3.2.1 = 0 := (by rw [hop]; decide); have hgt := opP_B (bf := tapeF) hen r3.2.1 hx3 hop0; have hle := nX_le (bf := tapeF) hx3 hen; have hbd := hSB (nX en tapeF r3.2.1) r3.2.2 hle; obtain ⟨k8, hk8⟩ : ∃ k8, k = k8 + 1 := ⟨k - 1, by omega⟩
        have g9 : ML5 mb = .inr (12, modF ad mb (mR en tapeF mv r3.2.1 0 nu1)) := by refine mL5_0.trans (modC (by rw [hf0]))
        refine lv_aload_n hx hb dX13_readProduct_23 rfl (lv_at hl 0 rfl) ?_
        refine lv_bipush (v := 42) hx hb dX13_readProduct_24 (by decide) ?_
        refine q_rdV (As := [.int 42]) (rest := []) (c_X13_isMarkedR l D cB cI cJ ad n ML5 mb en r3.2.1 mv tapeF nu1 0 42 h_mb h_mb_23 g9 ((fL5 (mb + 23) (by omega) (by omega) (by omega)).trans m_mb_23) (by first | assumption | omega | exact vp_in_nI (by omega) (by decide) | exact vp_in_iff.mpr (by decide)) hen hT k26 (by decide)) X hK hP hS hl.1 rfl gX13_readProduct_X13_isMarked yd_X13_isMarked ⟨by show 0 + 1 ≤ fE + 2; omega, by show 8 + (2 + 11) + (0) ≤ lE + 60; omega⟩ h_mb g9 (ci := 12) rfl rfl (Nat.le_of_ble_eq_true rfl) ⟨Nat.zero_le _, Nat.zero_le _⟩ dX13_readProduct_26 ?_
        refine lv_if_eq (tgt := 37) hx hb dX13_readProduct_29 (by decide) (fun c_29 => ?_) (fun c_29 => ?_)
        · exact absurd c_29 (by rw [mkR, if_pos rfl, if_pos hkz]; decide)
        · skip
          refine lv_bipush (v := (-22)) hx hb dX13_readProduct_32 (by decide) ?_
          refine lv_goto (tgt := 39) hx hb dX13_readProduct_34 (by decide) ?_
          refine lv_istore_n (lv' := [(2, .int (-22)), (0, .ref (ad mb)), (1, .int dp)]) hx hb dX13_readProduct_39 rfl hl (by decide) rfl (fun ls hl => ?_)
          refine lv_aload_n hx hb dX13_readProduct_40 rfl (lv_at hl 1 rfl) ?_
          refine q_wrVv (As := []) (rest := []) (c_X13_stepR l D cB cI cJ ad n ML5 hI mb en r3.2.1 mv tapeF nu1 h_mb h_mb_23 g9 ((fL5 (mb + 23) (by omega) (by omega) (by omega)).trans m_mb_23) (by first | assumption | omega | exact vp_in_nI (by omega) (by decide) | exact vp_in_iff.mpr (by decide)) hen hT k26) X hK hP hS hl.1 rfl gX13_readProduct_X13_stepOn yd_X13_stepOn ⟨by show 1 + 1 ≤ fE + 2; omega, by show 8 + (2 + 11) + (21) ≤ lE + 60; omega⟩ h_mb g9 (ci := 12) rfl rfl (Nat.le_of_ble_eq_true rfl) ⟨Nat.zero_le _, Nat.zero_le _⟩ dX13_readProduct_41 (fun M11 H locs hp10 hP hS => ?_)
          obtain ⟨g13, fr14⟩ := hp10
          refine lv_aload_n hx hb dX13_readProduct_44 rfl (lv_at hl 1 rfl) ?_
          refine lv_iload_n hx hb dX13_readProduct_45 rfl (lv_at hl 2 rfl) ?_
          refine q_wrVv (As := [.int dp]) (rest := []) (c_X13_readPart l D cB cI cJ ad n M11 hI mb en (nX en tapeF r3.2.1) mv tapeF (mnX en tapeF r3.2.1 nu1) to0 s0 r3.2.2 fE lE E dp h_mb h_mb_23 h_mb_3 h_mb_21 h_mb_2 g13 ((fr14 (mb + 23) (by omega)).trans ((fL5 (mb + 23) (by omega) (by omega) (by omega)).trans m_mb_23)) ((fr14 (mb + 3) (by omega)).trans mL5_1) ((fr14 (mb + 21) (by omega)).trans mL5_2) ((fr14 (mb + 2) (by omega)).trans ((fL5 (mb + 2) (by omega) (by omega) (by omega)).trans m_mb_2)) (by omega) hen hT k26 (by omega) (by omega) hEB hfE hlE hE) X hK hP hS hl.1 rfl gX13_readProduct_X13_readPart yd_X13_readPart ⟨by show fE + 1 + 1 ≤ fE + 2; omega, by show 8 + (3 + 11) + (lE + 30) ≤ lE + 60; omega⟩ h_mb g13 (ci := 12) rfl rfl (Nat.le_of_ble_eq_true rfl) ⟨Nat.zero_le _, Nat.zero_le _⟩ dX13_readProduct_46 (fun M16 H locs hp15 hP hS => ?_)
          obtain ⟨v0_18, g19, g20, g21, fr22⟩ := hp15
          refine lv_aload_n hx hb dX13_readProduct_49 rfl (lv_at hl 1 rfl) ?_
          refine lv_iload_n hx hb dX13_readProduct_50 rfl (lv_at hl 0 rfl) ?_
          refine q_wrVv (As := [.int (-22)]) (rest := []) (c_X13_layR l D cB cI cJ ad n M16 hI mb en ((ePart en tapeF E (nX en tapeF r3.2.1) r3.2.2).2.1) mv tapeF v0_18 ((ePart en tapeF E (nX en tapeF r3.2.1) r3.2.2).1) (-22) (-17) to0 s0 ((ePart en tapeF E (nX en tapeF r3.2.1) r3.2.2).2.2) h_mb h_mb_3 h_mb_21 g19 g20 g21 (by omega) (by decide)) X hK hP hS hl.1 rfl gX13_readProduct_X13_lay yd_X13_lay ⟨by show 0 + 1 ≤ fE + 2; omega, by show 8 + (2 + 11) + (0) ≤ lE + 60; omega⟩ h_mb g19 (ci := 12) rfl rfl (Nat.le_of_ble_eq_true rfl) ⟨Nat.zero_le _, Nat.zero_le _⟩ dX13_readProduct_51 (fun M24 H locs hp23 hP hS => ?_)
          obtain ⟨g26, g27, fr28⟩ := hp23
          refine lv_goto (tgt := 5) hx hb dX13_readProduct_54 (by decide) ?_
          exact ih_5 k8 (eIf (ePart en tapeF E (nX en tapeF r3.2.1) r3.2.2) (opP en tapeF r3.2.1)) v0_18 (by rw [eIf_x]; omega) (by rw [eIf_x]; exact hbd.2.1) (by rw [eIf_x]; omega) (by have := eIf_len (ePart en tapeF E (nX en tapeF r3.2.1) r3.2.2) (opP en tapeF r3.2.1); rw [eIf_x]; omega) (by rw [eIf_x]; omega) (by rw [← he, hk8, eLoop_on hf0 hop0]) _ _ _ (by rw [eIf_x, eIf_1]; exact ((fr28 mb (by omega) (by omega)).trans g19)) (by rw [eIf_c, hop]; exact g26) (by rw [eIf_c, hop]; exact g27) (fun q n0 n1 n2 => ((fr28 q n1 n2).trans ((fr22 q n0 n1 n2).trans ((fr14 q n0).trans (fL5 q n0 n1 n2))))) hP hS ls (lv_sub hl [1, 2] rfl)
      · skip
        refine lv_aload_n hx hb dX13_readProduct_14 rfl (lv_at hl 0 rfl) ?_
        refine lv_bipush (v := 47) hx hb dX13_readProduct_15 (by decide) ?_
        refine q_rdV (As := [.int 47]) (rest := []) (c_X13_isMarkedR l D cB cI cJ ad n ML5 mb en r3.2.1 mv tapeF nu1 r3.1 47 h_mb h_mb_23 mL5_0 ((fL5 (mb + 23) (by omega) (by omega) (by omega)).trans m_mb_23) (by first | assumption | omega | exact vp_in_nI (by omega) (by decide) | exact vp_in_iff.mpr (by decide)) hen hT k26 (by decide)) X hK hP hS hl.1 rfl gX13_readProduct_X13_isMarked yd_X13_isMarked ⟨by show 0 + 1 ≤ fE + 2; omega, by show 8 + (2 + 11) + (0) ≤ lE + 60; omega⟩ h_mb mL5_0 (ci := 12) rfl rfl (Nat.le_of_ble_eq_true rfl) ⟨Nat.zero_le _, Nat.zero_le _⟩ dX13_readProduct_17 ?_
        refine lv_if_eq (tgt := 57) hx hb dX13_readProduct_20 (by decide) (fun c_20 => ?_) (fun c_20 => ?_)
        · skip
          have hfin : r3 = eProd en tapeF E x cs := (Classical.byCases (fun q9 : r3.1 = 0 => (eLoop_op (by rw [opP, if_neg (mkR_n c_11 q9), if_neg (mkR_n c_20 q9)]) k).symm.trans he) (fun q9 => (eLoop_bad q9 k).symm.trans he))
          exact q_wvret X hr hlocks hP hS ⟨nu1, (by rw [← hfin]; exact mL5_0), (by rw [← hfin]; exact mL5_1), (by rw [← hfin]; exact mL5_2), (fun q n0 n1 n2 => (fL5 q n0 n1 n2))⟩ dX13_readProduct_57
        · skip
          obtain ⟨hf0, hkz⟩ := mkR_1 c_20; have hn9 := mkR_n c_11 hf0; have hop : opP en tapeF r3.2.1 = (-18) := (by rw [opP, if_neg hn9, if_pos hkz]); have hop0 : ¬ opP en tapeF r3.2.1 = 0 := (by rw [hop]; decide); have hgt := opP_B (bf := tapeF) hen r3.2.1 hx3 hop0; have hle := nX_le (bf := tapeF) hx3 hen; have hbd := hSB (nX en tapeF r3.2.1) r3.2.2 hle; obtain ⟨k8, hk8⟩ : ∃ k8, k = k8 + 1 := ⟨k - 1, by omega⟩
          have g29 : ML5 mb = .inr (12, modF ad mb (mR en tapeF mv r3.2.1 0 nu1)) := by refine mL5_0.trans (modC (by rw [hf0]))
          refine lv_aload_n hx hb dX13_readProduct_23 rfl (lv_at hl 0 rfl) ?_
          refine lv_bipush (v := 42) hx hb dX13_readProduct_24 (by decide) ?_
          refine q_rdV (As := [.int 42]) (rest := []) (c_X13_isMarkedR l D cB cI cJ ad n ML5 mb en r3.2.1 mv tapeF nu1 0 42 h_mb h_mb_23 g29 ((fL5 (mb + 23) (by omega) (by omega) (by omega)).trans m_mb_23) (by first | assumption | omega | exact vp_in_nI (by omega) (by decide) | exact vp_in_iff.mpr (by decide)) hen hT k26 (by decide)) X hK hP hS hl.1 rfl gX13_readProduct_X13_isMarked yd_X13_isMarked ⟨by show 0 + 1 ≤ fE + 2; omega, by show 8 + (2 + 11) + (0) ≤ lE + 60; omega⟩ h_mb g29 (ci := 12) rfl rfl (Nat.le_of_ble_eq_true rfl) ⟨Nat.zero_le _, Nat.zero_le _⟩ dX13_readProduct_26 ?_
          refine lv_if_eq (tgt := 37) hx hb dX13_readProduct_29 (by decide) (fun c_29 => ?_) (fun c_29 => ?_)
          · skip
            refine lv_bipush (v := (-23)) hx hb dX13_readProduct_37 (by decide) ?_
            refine lv_istore_n (lv' := [(2, .int (-23)), (0, .ref (ad mb)), (1, .int dp)]) hx hb dX13_readProduct_39 rfl hl (by decide) rfl (fun ls hl => ?_)
            refine lv_aload_n hx hb dX13_readProduct_40 rfl (lv_at hl 1 rfl) ?_
            refine q_wrVv (As := []) (rest := []) (c_X13_stepR l D cB cI cJ ad n ML5 hI mb en r3.2.1 mv tapeF nu1 h_mb h_mb_23 g29 ((fL5 (mb + 23) (by omega) (by omega) (by omega)).trans m_mb_23) (by first | assumption | omega | exact vp_in_nI (by omega) (by decide) | exact vp_in_iff.mpr (by decide)) hen hT k26) X hK hP hS hl.1 rfl gX13_readProduct_X13_stepOn yd_X13_stepOn ⟨by show 1 + 1 ≤ fE + 2; omega, by show 8 + (2 + 11) + (21) ≤ lE + 60; omega⟩ h_mb g29 (ci := 12) rfl rfl (Nat.le_of_ble_eq_true rfl) ⟨Nat.zero_le _, Nat.zero_le _⟩ dX13_readProduct_41 (fun M31 H locs hp30 hP hS => ?_)
            obtain ⟨g33, fr34⟩ := hp30
            refine lv_aload_n hx hb dX13_readProduct_44 rfl (lv_at hl 1 rfl) ?_
            refine lv_iload_n hx hb dX13_readProduct_45 rfl (lv_at hl 2 rfl) ?_
            refine q_wrVv (As := [.int dp]) (rest := []) (c_X13_readPart l D cB cI cJ ad n M31 hI mb en (nX en tapeF r3.2.1) mv tapeF (mnX en tapeF r3.2.1 nu1) to0 s0 r3.2.2 fE lE E dp h_mb h_mb_23 h_mb_3 h_mb_21 h_mb_2 g33 ((fr34 (mb + 23) (by omega)).trans ((fL5 (mb + 23) (by omega) (by omega) (by omega)).trans m_mb_23)) ((fr34 (mb + 3) (by omega)).trans mL5_1) ((fr34 (mb + 21) (by omega)).trans mL5_2) ((fr34 (mb + 2) (by omega)).trans ((fL5 (mb + 2) (by omega) (by omega) (by omega)).trans m_mb_2)) (by omega) hen hT k26 (by omega) (by omega) hEB hfE hlE hE) X hK hP hS hl.1 rfl gX13_readProduct_X13_readPart yd_X13_readPart ⟨by show fE + 1 + 1 ≤ fE + 2; omega, by show 8 + (3 + 11) + (lE + 30) ≤ lE + 60; omega⟩ h_mb g33 (ci := 12) rfl rfl (Nat.le_of_ble_eq_true rfl) ⟨Nat.zero_le _, Nat.zero_le _⟩ dX13_readProduct_46 (fun M36 H locs hp35 hP hS => ?_)
            obtain ⟨v0_38, g39, g40, g41, fr42⟩ := hp35
            refine lv_aload_n hx hb dX13_readProduct_49 rfl (lv_at hl 1 rfl) ?_
            refine lv_iload_n hx hb dX13_readProduct_50 rfl (lv_at hl 0 rfl) ?_
            refine q_wrVv (As := [.int (-23)]) (rest := []) (c_X13_layR l D cB cI cJ ad n M36 hI mb en ((ePart en tapeF E (nX en tapeF r3.2.1) r3.2.2).2.1) mv tapeF v0_38 ((ePart en tapeF E (nX en tapeF r3.2.1) r3.2.2).1) (-23) (-18) to0 s0 ((ePart en tapeF E (nX en tapeF r3.2.1) r3.2.2).2.2) h_mb h_mb_3 h_mb_21 g39 g40 g41 (by omega) (by decide)) X hK hP hS hl.1 rfl gX13_readProduct_X13_lay yd_X13_lay ⟨by show 0 + 1 ≤ fE + 2; omega, by show 8 + (2 + 11) + (0) ≤ lE + 60; omega⟩ h_mb g39 (ci := 12) rfl rfl (Nat.le_of_ble_eq_true rfl) ⟨Nat.zero_le _, Nat.zero_le _⟩ dX13_readProduct_51 (fun M44 H locs hp43 hP hS => ?_)
            obtain ⟨g46, g47, fr48⟩ := hp43
            refine lv_goto (tgt := 5) hx hb dX13_readProduct_54 (by decide) ?_
            exact ih_5 k8 (eIf (ePart en tapeF E (nX en tapeF r3.2.1) r3.2.2) (opP en tapeF r3.2.1)) v0_38 (by rw [eIf_x]; omega) (by rw [eIf_x]; exact hbd.2.1) (by rw [eIf_x]; omega) (by have := eIf_len (ePart en tapeF E (nX en tapeF r3.2.1) r3.2.2) (opP en tapeF r3.2.1); rw [eIf_x]; omega) (by rw [eIf_x]; omega) (by rw [← he, hk8, eLoop_on hf0 hop0]) _ _ _ (by rw [eIf_x, eIf_1]; exact ((fr48 mb (by omega) (by omega)).trans g39)) (by rw [eIf_c, hop]; exact g46) (by rw [eIf_c, hop]; exact g47) (fun q n0 n1 n2 => ((fr48 q n1 n2).trans ((fr42 q n0 n1 n2).trans ((fr34 q n0).trans (fL5 q n0 n1 n2))))) hP hS ls (lv_sub hl [1, 2] rfl)
          · exact absurd (by rw [mkR, if_pos rfl, if_neg hn9]) c_29
  exact loop_5 (en + 2) 700 (ePart en tapeF E x cs) v0_4 (by omega) (by exact (hSB x cs hxe).2.1) (by have := hSB x cs hxe; omega) (by have := hSB x cs hxe; omega) (by have := hSB x cs hxe; omega) (by rfl) _ _ _ g5 g6 g7 (fun q n0 n1 n2 => (fr8 q n0 n1 n2)) hP hS ls (lv_sub hl [0, 1] rfl)
set_option maxHeartbeats 2000000 in
set_option maxRecDepth 100000 in
theorem c_X13_readSum (l : Launch) (D : va_G) (cB cI cJ : ClassId) (ad : Nat → Nat) (n : Nat) (M : Nat → va_E) (hI : ipI ad n) (mb en x : Nat) (mv tapeF : Nat → Int32) (nu : Int32) (to0 s0 : Nat → Int32) (cs : List Int32) (fE lE : Nat) (E : Nat → List Int32 → Int32 × Nat × List Int32) (dp : Int32) (h_mb : mb < n) (h_mb_23 : mb + 23 < n) (h_mb_3 : mb + 3 < n) (h_mb_21 : mb + 21 < n) (h_mb_2 : mb + 2 < n) (m_mb : M mb = .inr (12, modF ad mb (mR en tapeF mv x 0 nu))) (m_mb_23 : M (mb + 23) = .inl (cI, 700, .inl tapeF)) (m_mb_3 : M (mb + 3) = .inl (cI, 14, .inl (tdC to0 cs))) (m_mb_21 : M (mb + 21) = .inl (cI, 1400, .inl (layM cs s0))) (m_mb_2 : M (mb + 2) = .inl (ad 5000, 5, .inr (.inr (.inr (.inr (txF ad vlI)))))) (hxe : x ≤ en) (hen : en ≤ 700) (hT : bOK tapeF) (k26 : mv 26 = nI en) (hx0 : 0 < x) (hcx : cs.length ≤ x) (hEB : eB en E) (hfE : 10 ≤ fE) (hlE : 200 ≤ lE) (hE : mCon l D cB cI cJ ad n yX13_readExpression wsX13_readExpression fE lE mb en mv tapeF to0 s0 (dp + 1) E) : cWv l D cB cI cJ ad n M yX13_readSum wsX13_readSum (fE + 3) (lE + 90) [.ref (ad mb), .int dp] (fun M' => ∃ (v0 : Int32), M' mb = .inr (12, modF ad mb (mR en tapeF mv (eSum en tapeF E x cs).2.1 (eSum en tapeF E x cs).1 v0)) ∧ M' (mb + 3) = .inl (cI, 14, .inl (tdC to0 (eSum en tapeF E x cs).2.2)) ∧ M' (mb + 21) = .inl (cI, 1400, .inl (layM (eSum en tapeF E x cs).2.2 s0)) ∧ ∀ q : Nat, q ≠ mb → q ≠ mb + 3 → q ≠ mb + 21 → M' q = M q) := by
  refine q_body (cc := cX13_readSum) (maxL := 3) (ret := none) (by decide) rfl (Nat.le_of_ble_eq_true rfl) ?_
  intro p e s m args below meth c ls X hr hlocks hK hP hl
  obtain ⟨hx, hb, hml, hown, hts⟩ := id X
  have hS : va_S (ipA ad n) s.heap s.heap [] := va_S.rf
  have hl : lv_has ls 3 [(0, .ref (ad mb)), (1, .int dp)] := hl
  have hSB : eB en (eProd en tapeF E) := eProd_B hen hEB
  refine lv_aload_n hx hb dX13_readSum_0 rfl (lv_at hl 0 rfl) ?_
  refine lv_iload_n hx hb dX13_readSum_1 rfl (lv_at hl 1 rfl) ?_
  refine q_wrVv (As := [.int dp]) (rest := []) (c_X13_readProduct l D cB cI cJ ad n M hI mb en x mv tapeF nu to0 s0 cs fE lE E dp h_mb h_mb_23 h_mb_3 h_mb_21 h_mb_2 m_mb m_mb_23 m_mb_3 m_mb_21 m_mb_2 hxe hen hT k26 hx0 hcx hEB hfE hlE hE) X hK hP hS hl.1 rfl gX13_readSum_X13_readProduct yd_X13_readProduct ⟨by show fE + 2 + 1 ≤ fE + 3; omega, by show 8 + (3 + 11) + (lE + 60) ≤ lE + 90; omega⟩ h_mb m_mb (ci := 12) rfl rfl (Nat.le_of_ble_eq_true rfl) ⟨Nat.zero_le _, Nat.zero_le _⟩ dX13_readSum_2 (fun M2 H locs hp1 hP hS => ?_)
  obtain ⟨v0_4, g5, g6, g7, fr8⟩ := hp1
  have loop_5 : ∀ (fuel : Nat) (k : Nat) (r3 : Int32 × Nat × List Int32) (nu1 : Int32), en + 1 - r3.2.1 < fuel → (r3.2.1 ≤ en) → (0 < r3.2.1) → (r3.2.2.length ≤ r3.2.1) → (en < k + r3.2.1) → (eLoop en tapeF (opS en tapeF) (eProd en tapeF E) k r3 = eSum en tapeF E x cs) → ∀ (ML5 : Nat → va_E) (H : Heap) (locs : List Loc), ML5 mb = .inr (12, modF ad mb (mR en tapeF mv r3.2.1 r3.1 nu1)) → ML5 (mb + 3) = .inl (cI, 14, .inl (tdC to0 r3.2.2)) → ML5 (mb + 21) = .inl (cI, 1400, .inl (layM r3.2.2 s0)) → (∀ q : Nat, q ≠ mb → q ≠ mb + 3 → q ≠ mb + 21 → ML5 q = M q) → va_P D vwCl (ip ad n ML5) H → va_S (ipA ad n) s.heap H locs → ∀ (ls : Array Slot), lv_has ls 3 [(0, .ref (ad mb)), (1, .int dp)] → W p l e (rmOf (fE + 3) (lE + 90)) s m args below meth c H locs 0 0 (MQ below (va_Qv (fun M' => ∃ (v0 : Int32), M' mb = .inr (12, modF ad mb (mR en tapeF mv (eSum en tapeF E x cs).2.1 (eSum en tapeF E x cs).1 v0)) ∧ M' (mb + 3) = .inl (cI, 14, .inl (tdC to0 (eSum en tapeF E x cs).2.2)) ∧ M' (mb + 21) = .inl (cI, 1400, .inl (layM (eSum en tapeF E x cs).2.2 s0)) ∧ ∀ q : Nat, q ≠ mb → q ≠ mb + 3 → q ≠ mb + 21 → M' q = M q) (fun M' t => va_P D vwCl (ip ad n M') t.heap) (ipA ad n)) args s 0 0 (ipA ad n)) (F0 m 5 ls []) := by
    intro fuel
    induction fuel with
    | zero =>
      intro k r3 nu1 hz
      exact absurd hz (Nat.not_lt_zero _)
    | succ fuel ih_5 =>
      intro k r3 nu1 hz_5 hx3 hx4 hc3 hk9 he ML5 H locs mL5_0 mL5_1 mL5_2 fL5 hP hS ls hl
      skip
      refine lv_aload_n hx hb dX13_readSum_5 rfl (lv_at hl 0 rfl) ?_
      refine lv_bipush (v := 43) hx hb dX13_readSum_6 (by decide) ?_
      refine q_rdV (As := [.int 43]) (rest := []) (c_X13_isMarkedR l D cB cI cJ ad n ML5 mb en r3.2.1 mv tapeF nu1 r3.1 43 h_mb h_mb_23 mL5_0 ((fL5 (mb + 23) (by omega) (by omega) (by omega)).trans m_mb_23) (by first | assumption | omega | exact vp_in_nI (by omega) (by decide) | exact vp_in_iff.mpr (by decide)) hen hT k26 (by decide)) X hK hP hS hl.1 rfl gX13_readSum_X13_isMarked yd_X13_isMarked ⟨by show 0 + 1 ≤ fE + 3; omega, by show 8 + (2 + 11) + (0) ≤ lE + 90; omega⟩ h_mb mL5_0 (ci := 12) rfl rfl (Nat.le_of_ble_eq_true rfl) ⟨Nat.zero_le _, Nat.zero_le _⟩ dX13_readSum_8 ?_
      refine lv_if_ne (tgt := 23) hx hb dX13_readSum_11 (by decide) (fun c_11 => ?_) (fun c_11 => ?_)
      · skip
        obtain ⟨hf0, hkz⟩ := mkR_1 c_11; have hop : opS en tapeF r3.2.1 = (-15) := (by rw [opS, if_pos hkz]); have hop0 : ¬ opS en tapeF r3.2.1 = 0 := (by rw [hop]; decide); have hgt := opS_B (bf := tapeF) hen r3.2.1 hx3 hop0; have hle := nX_le (bf := tapeF) hx3 hen; have hbd := hSB (nX en tapeF r3.2.1) r3.2.2 hle; obtain ⟨k8, hk8⟩ : ∃ k8, k = k8 + 1 := ⟨k - 1, by omega⟩
        have g9 : ML5 mb = .inr (12, modF ad mb (mR en tapeF mv r3.2.1 0 nu1)) := by refine mL5_0.trans (modC (by rw [hf0]))
        refine lv_aload_n hx hb dX13_readSum_23 rfl (lv_at hl 0 rfl) ?_
        refine lv_bipush (v := 43) hx hb dX13_readSum_24 (by decide) ?_
        refine q_rdV (As := [.int 43]) (rest := []) (c_X13_isMarkedR l D cB cI cJ ad n ML5 mb en r3.2.1 mv tapeF nu1 0 43 h_mb h_mb_23 g9 ((fL5 (mb + 23) (by omega) (by omega) (by omega)).trans m_mb_23) (by first | assumption | omega | exact vp_in_nI (by omega) (by decide) | exact vp_in_iff.mpr (by decide)) hen hT k26 (by decide)) X hK hP hS hl.1 rfl gX13_readSum_X13_isMarked yd_X13_isMarked ⟨by show 0 + 1 ≤ fE + 3; omega, by show 8 + (2 + 11) + (0) ≤ lE + 90; omega⟩ h_mb g9 (ci := 12) rfl rfl (Nat.le_of_ble_eq_true rfl) ⟨Nat.zero_le _, Nat.zero_le _⟩ dX13_readSum_26 ?_
        refine lv_if_eq (tgt := 37) hx hb dX13_readSum_29 (by decide) (fun c_29 => ?_) (fun c_29 => ?_)
        · exact absurd c_29 (by rw [mkR, if_pos rfl, if_pos hkz]; decide)
        · skip
          refine lv_bipush (v := (-20)) hx hb dX13_readSum_32 (by decide) ?_
          refine lv_goto (tgt := 39) hx hb dX13_readSum_34 (by decide) ?_
          refine lv_istore_n (lv' := [(2, .int (-20)), (0, .ref (ad mb)), (1, .int dp)]) hx hb dX13_readSum_39 rfl hl (by decide) rfl (fun ls hl => ?_)
          refine lv_aload_n hx hb dX13_readSum_40 rfl (lv_at hl 1 rfl) ?_
          refine q_wrVv (As := []) (rest := []) (c_X13_stepR l D cB cI cJ ad n ML5 hI mb en r3.2.1 mv tapeF nu1 h_mb h_mb_23 g9 ((fL5 (mb + 23) (by omega) (by omega) (by omega)).trans m_mb_23) (by first | assumption | omega | exact vp_in_nI (by omega) (by decide) | exact vp_in_iff.mpr (by decide)) hen hT k26) X hK hP hS hl.1 rfl gX13_readSum_X13_stepOn yd_X13_stepOn ⟨by show 1 + 1 ≤ fE + 3; omega, by show 8 + (2 + 11) + (21) ≤ lE + 90; omega⟩ h_mb g9 (ci := 12) rfl rfl (Nat.le_of_ble_eq_true rfl) ⟨Nat.zero_le _, Nat.zero_le _⟩ dX13_readSum_41 (fun M11 H locs hp10 hP hS => ?_)
          obtain ⟨g13, fr14⟩ := hp10
          refine lv_aload_n hx hb dX13_readSum_44 rfl (lv_at hl 1 rfl) ?_
          refine lv_iload_n hx hb dX13_readSum_45 rfl (lv_at hl 2 rfl) ?_
          refine q_wrVv (As := [.int dp]) (rest := []) (c_X13_readProduct l D cB cI cJ ad n M11 hI mb en (nX en tapeF r3.2.1) mv tapeF (mnX en tapeF r3.2.1 nu1) to0 s0 r3.2.2 fE lE E dp h_mb h_mb_23 h_mb_3 h_mb_21 h_mb_2 g13 ((fr14 (mb + 23) (by omega)).trans ((fL5 (mb + 23) (by omega) (by omega) (by omega)).trans m_mb_23)) ((fr14 (mb + 3) (by omega)).trans mL5_1) ((fr14 (mb + 21) (by omega)).trans mL5_2) ((fr14 (mb + 2) (by omega)).trans ((fL5 (mb + 2) (by omega) (by omega) (by omega)).trans m_mb_2)) (by omega) hen hT k26 (by omega) (by omega) hEB hfE hlE hE) X hK hP hS hl.1 rfl gX13_readSum_X13_readProduct yd_X13_readProduct ⟨by show fE + 2 + 1 ≤ fE + 3; omega, by show 8 + (3 + 11) + (lE + 60) ≤ lE + 90; omega⟩ h_mb g13 (ci := 12) rfl rfl (Nat.le_of_ble_eq_true rfl) ⟨Nat.zero_le _, Nat.zero_le _⟩ dX13_readSum_46 (fun M16 H locs hp15 hP hS => ?_)
          obtain ⟨v0_18, g19, g20, g21, fr22⟩ := hp15
          refine lv_aload_n hx hb dX13_readSum_49 rfl (lv_at hl 1 rfl) ?_
          refine lv_iload_n hx hb dX13_readSum_50 rfl (lv_at hl 0 rfl) ?_
          refine q_wrVv (As := [.int (-20)]) (rest := []) (c_X13_layR l D cB cI cJ ad n M16 hI mb en ((eProd en tapeF E (nX en tapeF r3.2.1) r3.2.2).2.1) mv tapeF v0_18 ((eProd en tapeF E (nX en tapeF r3.2.1) r3.2.2).1) (-20) (-15) to0 s0 ((eProd en tapeF E (nX en tapeF r3.2.1) r3.2.2).2.2) h_mb h_mb_3 h_mb_21 g19 g20 g21 (by omega) (by decide)) X hK hP hS hl.1 rfl gX13_readSum_X13_lay yd_X13_lay ⟨by show 0 + 1 ≤ fE + 3; omega, by show 8 + (2 + 11) + (0) ≤ lE + 90; omega⟩ h_mb g19 (ci := 12) rfl rfl (Nat.le_of_ble_eq_true rfl) ⟨Nat.zero_le _, Nat.zero_le _⟩ dX13_readSum_51 (fun M24 H locs hp23 hP hS => ?_)
          obtain ⟨g26, g27, fr28⟩ := hp23
          refine lv_goto (tgt := 5) hx hb dX13_readSum_54 (by decide) ?_
          exact ih_5 k8 (eIf (eProd en tapeF E (nX en tapeF r3.2.1) r3.2.2) (opS en tapeF r3.2.1)) v0_18 (by rw [eIf_x]; omega) (by rw [eIf_x]; exact hbd.2.1) (by rw [eIf_x]; omega) (by have := eIf_len (eProd en tapeF E (nX en tapeF r3.2.1) r3.2.2) (opS en tapeF r3.2.1); rw [eIf_x]; omega) (by rw [eIf_x]; omega) (by rw [← he, hk8, eLoop_on hf0 hop0]) _ _ _ (by rw [eIf_x, eIf_1]; exact ((fr28 mb (by omega) (by omega)).trans g19)) (by rw [eIf_c, hop]; exact g26) (by rw [eIf_c, hop]; exact g27) (fun q n0 n1 n2 => ((fr28 q n1 n2).trans ((fr22 q n0 n1 n2).trans ((fr14 q n0).trans (fL5 q n0 n1 n2))))) hP hS ls (lv_sub hl [1, 2] rfl)
      · skip
        refine lv_aload_n hx hb dX13_readSum_14 rfl (lv_at hl 0 rfl) ?_
        refine lv_bipush (v := 45) hx hb dX13_readSum_15 (by decide) ?_
        refine q_rdV (As := [.int 45]) (rest := []) (c_X13_isMarkedR l D cB cI cJ ad n ML5 mb en r3.2.1 mv tapeF nu1 r3.1 45 h_mb h_mb_23 mL5_0 ((fL5 (mb + 23) (by omega) (by omega) (by omega)).trans m_mb_23) (by first | assumption | omega | exact vp_in_nI (by omega) (by decide) | exact vp_in_iff.mpr (by decide)) hen hT k26 (by decide)) X hK hP hS hl.1 rfl gX13_readSum_X13_isMarked yd_X13_isMarked ⟨by show 0 + 1 ≤ fE + 3; omega, by show 8 + (2 + 11) + (0) ≤ lE + 90; omega⟩ h_mb mL5_0 (ci := 12) rfl rfl (Nat.le_of_ble_eq_true rfl) ⟨Nat.zero_le _, Nat.zero_le _⟩ dX13_readSum_17 ?_
        refine lv_if_eq (tgt := 57) hx hb dX13_readSum_20 (by decide) (fun c_20 => ?_) (fun c_20 => ?_)
        · skip
          have hfin : r3 = eSum en tapeF E x cs := (Classical.byCases (fun q9 : r3.1 = 0 => (eLoop_op (by rw [opS, if_neg (mkR_n c_11 q9), if_neg (mkR_n c_20 q9)]) k).symm.trans he) (fun q9 => (eLoop_bad q9 k).symm.trans he))
          exact q_wvret X hr hlocks hP hS ⟨nu1, (by rw [← hfin]; exact mL5_0), (by rw [← hfin]; exact mL5_1), (by rw [← hfin]; exact mL5_2), (fun q n0 n1 n2 => (fL5 q n0 n1 n2))⟩ dX13_readSum_57
        · skip
          obtain ⟨hf0, hkz⟩ := mkR_1 c_20; have hn9 := mkR_n c_11 hf0; have hop : opS en tapeF r3.2.1 = (-16) := (by rw [opS, if_neg hn9, if_pos hkz]); have hop0 : ¬ opS en tapeF r3.2.1 = 0 := (by rw [hop]; decide); have hgt := opS_B (bf := tapeF) hen r3.2.1 hx3 hop0; have hle := nX_le (bf := tapeF) hx3 hen; have hbd := hSB (nX en tapeF r3.2.1) r3.2.2 hle; obtain ⟨k8, hk8⟩ : ∃ k8, k = k8 + 1 := ⟨k - 1, by omega⟩
          have g29 : ML5 mb = .inr (12, modF ad mb (mR en tapeF mv r3.2.1 0 nu1)) := by refine mL5_0.trans (modC (by rw [hf0]))
          refine lv_aload_n hx hb dX13_readSum_23 rfl (lv_at hl 0 rfl) ?_
          refine lv_bipush (v := 43) hx hb dX13_readSum_24 (by decide) ?_
          refine q_rdV (As := [.int 43]) (rest := []) (c_X13_isMarkedR l D cB cI cJ ad n ML5 mb en r3.2.1 mv tapeF nu1 0 43 h_mb h_mb_23 g29 ((fL5 (mb + 23) (by omega) (by omega) (by omega)).trans m_mb_23) (by first | assumption | omega | exact vp_in_nI (by omega) (by decide) | exact vp_in_iff.mpr (by decide)) hen hT k26 (by decide)) X hK hP hS hl.1 rfl gX13_readSum_X13_isMarked yd_X13_isMarked ⟨by show 0 + 1 ≤ fE + 3; omega, by show 8 + (2 + 11) + (0) ≤ lE + 90; omega⟩ h_mb g29 (ci := 12) rfl rfl (Nat.le_of_ble_eq_true rfl) ⟨Nat.zero_le _, Nat.zero_le _⟩ dX13_readSum_26 ?_
          refine lv_if_eq (tgt := 37) hx hb dX13_readSum_29 (by decide) (fun c_29 => ?_) (fun c_29 => ?_)
          · skip
            refine lv_bipush (v := (-21)) hx hb dX13_readSum_37 (by decide) ?_
            refine lv_istore_n (lv' := [(2, .int (-21)), (0, .ref (ad mb)), (1, .int dp)]) hx hb dX13_readSum_39 rfl hl (by decide) rfl (fun ls hl => ?_)
            refine lv_aload_n hx hb dX13_readSum_40 rfl (lv_at hl 1 rfl) ?_
            refine q_wrVv (As := []) (rest := []) (c_X13_stepR l D cB cI cJ ad n ML5 hI mb en r3.2.1 mv tapeF nu1 h_mb h_mb_23 g29 ((fL5 (mb + 23) (by omega) (by omega) (by omega)).trans m_mb_23) (by first | assumption | omega | exact vp_in_nI (by omega) (by decide) | exact vp_in_iff.mpr (by decide)) hen hT k26) X hK hP hS hl.1 rfl gX13_readSum_X13_stepOn yd_X13_stepOn ⟨by show 1 + 1 ≤ fE + 3; omega, by show 8 + (2 + 11) + (21) ≤ lE + 90; omega⟩ h_mb g29 (ci := 12) rfl rfl (Nat.le_of_ble_eq_true rfl) ⟨Nat.zero_le _, Nat.zero_le _⟩ dX13_readSum_41 (fun M31 H locs hp30 hP hS => ?_)
            obtain ⟨g33, fr34⟩ := hp30
            refine lv_aload_n hx hb dX13_readSum_44 rfl (lv_at hl 1 rfl) ?_
            refine lv_iload_n hx hb dX13_readSum_45 rfl (lv_at hl 2 rfl) ?_
            refine q_wrVv (As := [.int dp]) (rest := []) (c_X13_readProduct l D cB cI cJ ad n M31 hI mb en (nX en tapeF r3.2.1) mv tapeF (mnX en tapeF r3.2.1 nu1) to0 s0 r3.2.2 fE lE E dp h_mb h_mb_23 h_mb_3 h_mb_21 h_mb_2 g33 ((fr34 (mb + 23) (by omega)).trans ((fL5 (mb + 23) (by omega) (by omega) (by omega)).trans m_mb_23)) ((fr34 (mb + 3) (by omega)).trans mL5_1) ((fr34 (mb + 21) (by omega)).trans mL5_2) ((fr34 (mb + 2) (by omega)).trans ((fL5 (mb + 2) (by omega) (by omega) (by omega)).trans m_mb_2)) (by omega) hen hT k26 (by omega) (by omega) hEB hfE hlE hE) X hK hP hS hl.1 rfl gX13_readSum_X13_readProduct yd_X13_readProduct ⟨by show fE + 2 + 1 ≤ fE + 3; omega, by show 8 + (3 + 11) + (lE + 60) ≤ lE + 90; omega⟩ h_mb g33 (ci := 12) rfl rfl (Nat.le_of_ble_eq_true rfl) ⟨Nat.zero_le _, Nat.zero_le _⟩ dX13_readSum_46 (fun M36 H locs hp35 hP hS => ?_)
            obtain ⟨v0_38, g39, g40, g41, fr42⟩ := hp35
            refine lv_aload_n hx hb dX13_readSum_49 rfl (lv_at hl 1 rfl) ?_
            refine lv_iload_n hx hb dX13_readSum_50 rfl (lv_at hl 0 rfl) ?_
            refine q_wrVv (As := [.int (-21)]) (rest := []) (c_X13_layR l D cB cI cJ ad n M36 hI mb en ((eProd en tapeF E (nX en tapeF r3.2.1) r3.2.2).2.1) mv tapeF v0_38 ((eProd en tapeF E (nX en tapeF r3.2.1) r3.2.2).1) (-21) (-16) to0 s0 ((eProd en tapeF E (nX en tapeF r3.2.1) r3.2.2).2.2) h_mb h_mb_3 h_mb_21 g39 g40 g41 (by omega) (by decide)) X hK hP hS hl.1 rfl gX13_readSum_X13_lay yd_X13_lay ⟨by show 0 + 1 ≤ fE + 3; omega, by show 8 + (2 + 11) + (0) ≤ lE + 90; omega⟩ h_mb g39 (ci := 12) rfl rfl (Nat.le_of_ble_eq_true rfl) ⟨Nat.zero_le _, Nat.zero_le _⟩ dX13_readSum_51 (fun M44 H locs hp43 hP hS => ?_)
            obtain ⟨g46, g47, fr48⟩ := hp43
            refine lv_goto (tgt := 5) hx hb dX13_readSum_54 (by decide) ?_
            exact ih_5 k8 (eIf (eProd en tapeF E (nX en tapeF r3.2.1) r3.2.2) (opS en tapeF r3.2.1)) v0_38 (by rw [eIf_x]; omega) (by rw [eIf_x]; exact hbd.2.1) (by rw [eIf_x]; omega) (by have := eIf_len (eProd en tapeF E (nX en tapeF r3.2.1) r3.2.2) (opS en tapeF r3.2.1); rw [eIf_x]; omega) (by rw [eIf_x]; omega) (by rw [← he, hk8, eLoop_on hf0 hop0]) _ _ _ (by rw [eIf_x, eIf_1]; exact ((fr48 mb (by omega) (by omega)).trans g39)) (by rw [eIf_c, hop]; exact g46) (by rw [eIf_c, hop]; exact g47) (fun q n0 n1 n2 => ((fr48 q n1 n2).trans ((fr42 q n0 n1 n2).trans ((fr34 q n0).trans (fL5 q n0 n1 n2))))) hP hS ls (lv_sub hl [1, 2] rfl)
          · exact absurd (by rw [mkR, if_pos rfl, if_neg hn9]) c_29
  exact loop_5 (en + 2) 700 (eProd en tapeF E x cs) v0_4 (by omega) (by exact (hSB x cs hxe).2.1) (by have := hSB x cs hxe; omega) (by have := hSB x cs hxe; omega) (by have := hSB x cs hxe; omega) (by rfl) _ _ _ g5 g6 g7 (fun q n0 n1 n2 => (fr8 q n0 n1 n2)) hP hS ls (lv_sub hl [0, 1] rfl)
end
