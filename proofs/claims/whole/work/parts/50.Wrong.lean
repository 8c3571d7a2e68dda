/-! PoundsOverModel: the rule's text. Where something is wrong it lays nothing more -/
noncomputable section
def mNot (en : Nat) (bf : Nat → Int32) (E : Nat → List Int32 → Int32 × Nat × List Int32) (x : Nat) (cs : List Int32) : Int32 × Nat × List Int32 :=
  if wX en bf (eNotX en bf 6 x) = 15 then (2, eNotX en bf 6 x, cs) else ((eTest en bf E (eNotX en bf 6 x) cs).1, (eTest en bf E (eNotX en bf 6 x) cs).2.1, if (eTest en bf E (eNotX en bf 6 x) cs).1 = 0 then eRep (eTest en bf E (eNotX en bf 6 x) cs).2.2 (eNotN en bf 6 x) else (eTest en bf E (eNotX en bf 6 x) cs).2.2)
def mAnd (en : Nat) (bf : Nat → Int32) (E : Nat → List Int32 → Int32 × Nat × List Int32) (x : Nat) (cs : List Int32) : Int32 × Nat × List Int32 := eLoop en bf (opA en bf) (mNot en bf E) 700 (mNot en bf E x cs)
def mOr (en : Nat) (bf : Nat → Int32) (E : Nat → List Int32 → Int32 × Nat × List Int32) (x : Nat) (cs : List Int32) : Int32 × Nat × List Int32 := eLoop en bf (opO en bf) (mAnd en bf E) 700 (mAnd en bf E x cs)
def mE (en : Nat) (bf : Nat → Int32) : Nat → Nat → List Int32 → Int32 × Nat × List Int32
  | 0, x, cs => (if kX en bf x = 2 then 2 else if kX en bf x = 1 then 2 else if kX en bf x = 40 then 2 else 1, x, cs)
  | d + 1, x, cs => mOr en bf (mE en bf d) x cs
theorem mNot_B {en : Nat} {bf : Nat → Int32} {E : Nat → List Int32 → Int32 × Nat × List Int32} (he : en ≤ 700) (hE : eB en E) : eB en (mNot en bf E) := by
  intro x cs hx
  have h1 := eNotX_B (bf := bf) he 6 x hx
  obtain ⟨h2, h3, h4⟩ := eTest_B (bf := bf) he hE (eNotX en bf 6 x) cs h1.2
  unfold mNot
  split
  · exact ⟨by simp only []; omega, h1.2, by simp only []; omega⟩
  · refine ⟨by simp only []; omega, h3, ?_⟩
    simp only []
    split
    · rw [eRep_len]; omega
    · omega
theorem mAnd_B {en : Nat} {bf : Nat → Int32} {E : Nat → List Int32 → Int32 × Nat × List Int32} (he : en ≤ 700) (hE : eB en E) : eB en (mAnd en bf E) := eLp_B he (mNot_B he hE) (opA_B he) 700
theorem mOr_B {en : Nat} {bf : Nat → Int32} {E : Nat → List Int32 → Int32 × Nat × List Int32} (he : en ≤ 700) (hE : eB en E) : eB en (mOr en bf E) := eLp_B he (mAnd_B he hE) (opO_B he) 700
theorem mE_B {en : Nat} {bf : Nat → Int32} (he : en ≤ 700) : ∀ d : Nat, eB en (mE en bf d)
  | 0 => fun x cs hx => ⟨Nat.le_refl _, hx, Nat.le_refl _⟩
  | d + 1 => mOr_B he (mE_B he d)
/-- the same but for the code of what is wrong -/
def eq3 (r q : Int32 × Nat × List Int32) : Prop := r.1 = q.1 ∧ r.2.1 = q.2.1 ∧ (r.1 = 0 → r.2.2 = q.2.2)
theorem eq3.full {r q : Int32 × Nat × List Int32} (h : eq3 r q) (h0 : r.1 = 0) : r = q := Prod.ext h.1 (Prod.ext h.2.1 (h.2.2 h0))
theorem eq3_rf (r : Int32 × Nat × List Int32) : eq3 r r := ⟨rfl, rfl, fun _ => rfl⟩
theorem eIf_3 {r q : Int32 × Nat × List Int32} (v : Int32) (h : eq3 r q) : eq3 (eIf r v) (eIf q v) := by
  by_cases h0 : r.1 = 0
  · rw [h.full h0]; exact eq3_rf _
  · exact ⟨h.1, h.2.1, fun z => absurd z h0⟩
theorem eLoop_3 {en : Nat} {bf op : Nat → Int32} {f : Nat → Int32} {S T : Nat → List Int32 → Int32 × Nat × List Int32} (hST : ∀ x cs, eq3 (S x cs) (T x cs)) : ∀ (k : Nat) (r q : Int32 × Nat × List Int32), eq3 r q → eq3 (eLoop en bf f S k r) (eLoop en bf f T k q)
  | 0, r, q, h => h
  | k + 1, r, q, h => by
    rw [eLoop, eLoop]
    by_cases h0 : r.1 = 0
    · have e := h.full h0
      subst e
      rw [if_pos h0, if_pos h0]
      split
      · exact eq3_rf _
      · exact eLoop_3 (op := op) hST k _ _ (eIf_3 _ (hST _ _))
    · rw [if_neg h0, if_neg (fun z => h0 (h.1.trans z))]
      exact h
theorem ePart_3 {en : Nat} {bf : Nat → Int32} {S T : Nat → List Int32 → Int32 × Nat × List Int32} (hST : ∀ x cs, eq3 (S x cs) (T x cs)) (x : Nat) (cs : List Int32) : eq3 (ePart en bf S x cs) (ePart en bf T x cs) := by
  unfold ePart
  split
  · exact eq3_rf _
  · split
    · exact eq3_rf _
    · split
      · have h := hST (nX en bf x) cs
        unfold eCl
        by_cases h0 : (S (nX en bf x) cs).1 = 0
        · rw [h.full h0]; exact eq3_rf _
        · rw [if_neg h0, if_neg (fun z => h0 (h.1.trans z))]; exact h
      · exact eq3_rf _
theorem eTest_3 {en : Nat} {bf : Nat → Int32} {S T : Nat → List Int32 → Int32 × Nat × List Int32} (hST : ∀ x cs, eq3 (S x cs) (T x cs)) (x : Nat) (cs : List Int32) : eq3 (eTest en bf S x cs) (eTest en bf T x cs) := by
  have h1 : ∀ x cs, eq3 (eProd en bf S x cs) (eProd en bf T x cs) := fun x cs => eLoop_3 (op := bf) (ePart_3 hST) 700 _ _ (ePart_3 hST x cs)
  have h2 : ∀ x cs, eq3 (eSum en bf S x cs) (eSum en bf T x cs) := fun x cs => eLoop_3 (op := bf) h1 700 _ _ (h1 x cs)
  exact eLoop_3 (op := bf) h2 1 _ _ (h2 x cs)
theorem mE_3 {en : Nat} {bf : Nat → Int32} : ∀ (d x : Nat) (cs : List Int32), eq3 (mE en bf d x cs) (eE en bf d x cs)
  | 0, x, cs => eq3_rf _
  | d + 1, x, cs => by
    have hE : ∀ x cs, eq3 (mE en bf d x cs) (eE en bf d x cs) := mE_3 d
    have hN : ∀ x cs, eq3 (mNot en bf (mE en bf d) x cs) (eNot en bf (eE en bf d) x cs) := by
      intro x cs
      unfold mNot eNot
      split
      · exact eq3_rf _
      · have h := eTest_3 (en := en) (bf := bf) hE (eNotX en bf 6 x) cs
        refine ⟨h.1, h.2.1, fun z => ?_⟩
        have z' : (eTest en bf (mE en bf d) (eNotX en bf 6 x) cs).1 = 0 := z
        show (if (eTest en bf (mE en bf d) (eNotX en bf 6 x) cs).1 = 0 then _ else _) = _
        rw [if_pos z', h.full z']
    have hA : ∀ x cs, eq3 (mAnd en bf (mE en bf d) x cs) (eAnd en bf (eE en bf d) x cs) := fun x cs => eLoop_3 (op := bf) hN 700 _ _ (hN x cs)
    exact eLoop_3 (op := bf) hA 700 _ _ (hA x cs)
theorem mkR_0 {en : Nat} {bf : Nat → Int32} {f z : Int32} {x : Nat} (hf : ¬ f = 0) : mkR en bf f x z = 0 := if_neg hf
theorem wdR_0 {en : Nat} {bf : Nat → Int32} {f : Int32} {x i : Nat} (hf : ¬ f = 0) : wdR en bf f x i = 0 := if_neg hf
theorem mkR_1 {en : Nat} {bf : Nat → Int32} {f z : Int32} {x : Nat} (h : ¬ mkR en bf f x z = 0) : f = 0 ∧ kX en bf x = z := by
  unfold mkR at h
  (repeat' split at h) <;> first | exact ⟨by assumption, by assumption⟩ | exact absurd rfl h
theorem wdR_1 {en : Nat} {bf : Nat → Int32} {f : Int32} {x i : Nat} (h : ¬ wdR en bf f x i = 0) : f = 0 ∧ wX en bf x = i := by
  unfold wdR at h
  (repeat' split at h) <;> first | exact ⟨by assumption, by assumption⟩ | exact absurd rfl h
theorem mkR_n {en : Nat} {bf : Nat → Int32} {f z : Int32} {x : Nat} (h : mkR en bf f x z = 0) (hf : f = 0) : ¬ kX en bf x = z := by
  unfold mkR at h
  rw [if_pos hf] at h
  split at h
  · exact absurd h (by decide)
  · assumption
theorem wdR_n {en : Nat} {bf : Nat → Int32} {f : Int32} {x i : Nat} (h : wdR en bf f x i = 0) (hf : f = 0) : ¬ wX en bf x = i := by
  unfold wdR at h
  rw [if_pos hf] at h
  split at h
  · exact absurd h (by decide)
  · assumption
set_option maxRecDepth 20000 in
theorem fX13_readPart_222 : FL wsX13_readPart RX13 222 12 31 := ⟨RX13, TX13, 67, rfl, by decide +kernel, by decide, by decide +kernel⟩
set_option maxHeartbeats 1000000 in
set_option maxRecDepth 100000 in
theorem c_X13_readPartB (l : Launch) (D : va_G) (cB cI cJ : ClassId) (ad : Nat → Nat) (n : Nat) (M : Nat → va_E) (hI : ipI ad n) (mb en x : Nat) (mv tapeF : Nat → Int32) (nu : Int32) (f dp : Int32) (h_mb : mb < n) (h_mb_23 : mb + 23 < n) (m_mb : M mb = .inr (12, modF ad mb (mR en tapeF mv x f nu))) (m_mb_23 : M (mb + 23) = .inl (cI, 700, .inl tapeF)) (hxe : x ≤ en) (hen : en ≤ 700) (hT : bOK tapeF) (k26 : mv 26 = nI en) (hf0 : ¬ f = 0) : cWv l D cB cI cJ ad n M yX13_readPart wsX13_readPart 0 0 [.ref (ad mb), .int dp] (fun M' => ∀ q : Nat, M' q = M q) := by
  refine q_body (cc := cX13_readPart) (maxL := 3) (ret := none) (by decide) rfl (Nat.le_of_ble_eq_true rfl) ?_
  intro p e s m args below meth c ls X hr hlocks hK hP hl
  obtain ⟨hx, hb, hml, hown, hts⟩ := id X
  have hS : va_S (ipA ad n) s.heap s.heap [] := va_S.rf
  have hl : lv_has ls 3 [(0, .ref (ad mb)), (1, .int dp)] := hl
  refine lv_aload_n hx hb dX13_readPart_0 rfl (lv_at hl 0 rfl) ?_
  refine q_get (v := .int f) (fs := modF ad mb (mR en tapeF mv x f nu)) X hK hP fX13_readPart_222 h_mb m_mb rfl dX13_readPart_1 ?_
  refine lv_if_eq (tgt := 8) hx hb dX13_readPart_4 (by decide) (fun c_4 => ?_) (fun c_4 => ?_)
  · exact absurd c_4 hf0
  · skip
    exact q_wvret X hr hlocks hP hS (fun q => rfl) dX13_readPart_7
theorem yd_X13_readPart : YD yX13_readPart 1 := ⟨by decide +kernel, by decide +kernel, by decide +kernel⟩
set_option maxHeartbeats 1000000 in
set_option maxRecDepth 100000 in
theorem c_X13_readProductB (l : Launch) (D : va_G) (cB cI cJ : ClassId) (ad : Nat → Nat) (n : Nat) (M : Nat → va_E) (hI : ipI ad n) (mb en x : Nat) (mv tapeF : Nat → Int32) (nu : Int32) (f dp : Int32) (h_mb : mb < n) (h_mb_23 : mb + 23 < n) (m_mb : M mb = .inr (12, modF ad mb (mR en tapeF mv x f nu))) (m_mb_23 : M (mb + 23) = .inl (cI, 700, .inl tapeF)) (hxe : x ≤ en) (hen : en ≤ 700) (hT : bOK tapeF) (k26 : mv 26 = nI en) (hf0 : ¬ f = 0) : cWv l D cB cI cJ ad n M yX13_readProduct wsX13_readProduct 1 22 [.ref (ad mb), .int dp] (fun M' => ∀ q : Nat, M' q = M q) := by
  refine q_body (cc := cX13_readProduct) (maxL := 3) (ret := none) (by decide) rfl (Nat.le_of_ble_eq_true rfl) ?_
  intro p e s m args below meth c ls X hr hlocks hK hP hl
  obtain ⟨hx, hb, hml, hown, hts⟩ := id X
  have hS : va_S (ipA ad n) s.heap s.heap [] := va_S.rf
  have hl : lv_has ls 3 [(0, .ref (ad mb)), (1, .int dp)] := hl
  refine lv_aload_n hx hb dX13_readProduct_0 rfl (lv_at hl 0 rfl) ?_
  refine lv_iload_n hx hb dX13_readProduct_1 rfl (lv_at hl 1 rfl) ?_
  refine q_wrVv (As := [.int dp]) (rest := []) (c_X13_readPartB l D cB cI cJ ad n M hI mb en x mv tapeF nu f dp h_mb h_mb_23 m_mb m_mb_23 hxe hen hT k26 hf0) X hK hP hS hl.1 rfl gX13_readProduct_X13_readPart yd_X13_readPart ⟨Nat.le_of_ble_eq_true rfl, Nat.le_of_ble_eq_true rfl⟩ h_mb m_mb (ci := 12) rfl rfl (Nat.le_of_ble_eq_true rfl) ⟨Nat.zero_le _, Nat.zero_le _⟩ dX13_readProduct_2 (fun M2 H locs hp1 hP hS => ?_)
  have fr4 := hp1
  refine lv_aload_n hx hb dX13_readProduct_5 rfl (lv_at hl 0 rfl) ?_
  refine lv_bipush (v := 42) hx hb dX13_readProduct_6 (by decide) ?_
  refine q_rdV (As := [.int 42]) (rest := []) (c_X13_isMarkedR l D cB cI cJ ad n M2 mb en x mv tapeF nu f 42 h_mb h_mb_23 ((fr4 mb ).trans m_mb) ((fr4 (mb + 23) ).trans m_mb_23) hxe hen hT k26 (by decide)) X hK hP hS hl.1 rfl gX13_readProduct_X13_isMarked yd_X13_isMarked ⟨Nat.le_of_ble_eq_true rfl, Nat.le_of_ble_eq_true rfl⟩ h_mb ((fr4 mb ).trans m_mb) (ci := 12) rfl rfl (Nat.le_of_ble_eq_true rfl) ⟨Nat.zero_le _, Nat.zero_le _⟩ dX13_readProduct_8 ?_
  refine lv_if_ne (tgt := 23) hx hb dX13_readProduct_11 (by decide) (fun c_11 => ?_) (fun c_11 => ?_)
  · exact absurd (mkR_0 hf0) c_11
  · skip
    refine lv_aload_n hx hb dX13_readProduct_14 rfl (lv_at hl 0 rfl) ?_
    refine lv_bipush (v := 47) hx hb dX13_readProduct_15 (by decide) ?_
    refine q_rdV (As := [.int 47]) (rest := []) (c_X13_isMarkedR l D cB cI cJ ad n M2 mb en x mv tapeF nu f 47 h_mb h_mb_23 ((fr4 mb ).trans m_mb) ((fr4 (mb + 23) ).trans m_mb_23) hxe hen hT k26 (by decide)) X hK hP hS hl.1 rfl gX13_readProduct_X13_isMarked yd_X13_isMarked ⟨Nat.le_of_ble_eq_true rfl, Nat.le_of_ble_eq_true rfl⟩ h_mb ((fr4 mb ).trans m_mb) (ci := 12) rfl rfl (Nat.le_of_ble_eq_true rfl) ⟨Nat.zero_le _, Nat.zero_le _⟩ dX13_readProduct_17 ?_
    refine lv_if_eq (tgt := 57) hx hb dX13_readProduct_20 (by decide) (fun c_20 => ?_) (fun c_20 => ?_)
    · skip
      exact q_wvret X hr hlocks hP hS (fun q => (fr4 q)) dX13_readProduct_57
    · exact absurd (mkR_0 hf0) c_20
theorem yd_X13_readProduct : YD yX13_readProduct 1 := ⟨by decide +kernel, by decide +kernel, by decide +kernel⟩
set_option maxHeartbeats 1000000 in
set_option maxRecDepth 100000 in
theorem c_X13_readSumB (l : Launch) (D : va_G) (cB cI cJ : ClassId) (ad : Nat → Nat) (n : Nat) (M : Nat → va_E) (hI : ipI ad n) (mb en x : Nat) (mv tapeF : Nat → Int32) (nu : Int32) (f dp : Int32) (h_mb : mb < n) (h_mb_23 : mb + 23 < n) (m_mb : M mb = .inr (12, modF ad mb (mR en tapeF mv x f nu))) (m_mb_23 : M (mb + 23) = .inl (cI, 700, .inl tapeF)) (hxe : x ≤ en) (hen : en ≤ 700) (hT : bOK tapeF) (k26 : mv 26 = nI en) (hf0 : ¬ f = 0) : cWv l D cB cI cJ ad n M yX13_readSum wsX13_readSum 2 44 [.ref (ad mb), .int dp] (fun M' => ∀ q : Nat, M' q = M q) := by
  refine q_body (cc := cX13_readSum) (maxL := 3) (ret := none) (by decide) rfl (Nat.le_of_ble_eq_true rfl) ?_
  intro p e s m args below meth c ls X hr hlocks hK hP hl
  obtain ⟨hx, hb, hml, hown, hts⟩ := id X
  have hS : va_S (ipA ad n) s.heap s.heap [] := va_S.rf
  have hl : lv_has ls 3 [(0, .ref (ad mb)), (1, .int dp)] := hl
  refine lv_aload_n hx hb dX13_readSum_0 rfl (lv_at hl 0 rfl) ?_
  refine lv_iload_n hx hb dX13_readSum_1 rfl (lv_at hl 1 rfl) ?_
  refine q_wrVv (As := [.int dp]) (rest := []) (c_X13_readProductB l D cB cI cJ ad n M hI mb en x mv tapeF nu f dp h_mb h_mb_23 m_mb m_mb_23 hxe hen hT k26 hf0) X hK hP hS hl.1 rfl gX13_readSum_X13_readProduct yd_X13_readProduct ⟨Nat.le_of_ble_eq_true rfl, Nat.le_of_ble_eq_true rfl⟩ h_mb m_mb (ci := 12) rfl rfl (Nat.le_of_ble_eq_true rfl) ⟨Nat.zero_le _, Nat.zero_le _⟩ dX13_readSum_2 (fun M2 H locs hp1 hP hS => ?_)
  have fr4 := hp1
  refine lv_aload_n hx hb dX13_readSum_5 rfl (lv_at hl 0 rfl) ?_
  refine lv_bipush (v := 43) hx hb dX13_readSum_6 (by decide) ?_
  refine q_rdV (As := [.int 43]) (rest := []) (c_X13_isMarkedR l D cB cI cJ ad n M2 mb en x mv tapeF nu f 43 h_mb h_mb_23 ((fr4 mb ).trans m_mb) ((fr4 (mb + 23) ).trans m_mb_23) hxe hen hT k26 (by decide)) X hK hP hS hl.1 rfl gX13_readSum_X13_isMarked yd_X13_isMarked ⟨Nat.le_of_ble_eq_true rfl, Nat.le_of_ble_eq_true rfl⟩ h_mb ((fr4 mb ).trans m_mb) (ci := 12) rfl rfl (Nat.le_of_ble_eq_true rfl) ⟨Nat.zero_le _, Nat.zero_le _⟩ dX13_readSum_8 ?_
  refine lv_if_ne (tgt := 23) hx hb dX13_readSum_11 (by decide) (fun c_11 => ?_) (fun c_11 => ?_)
  · exact absurd (mkR_0 hf0) c_11
  · skip
    refine lv_aload_n hx hb dX13_readSum_14 rfl (lv_at hl 0 rfl) ?_
    refine lv_bipush (v := 45) hx hb dX13_readSum_15 (by decide) ?_
    refine q_rdV (As := [.int 45]) (rest := []) (c_X13_isMarkedR l D cB cI cJ ad n M2 mb en x mv tapeF nu f 45 h_mb h_mb_23 ((fr4 mb ).trans m_mb) ((fr4 (mb + 23) ).trans m_mb_23) hxe hen hT k26 (by decide)) X hK hP hS hl.1 rfl gX13_readSum_X13_isMarked yd_X13_isMarked ⟨Nat.le_of_ble_eq_true rfl, Nat.le_of_ble_eq_true rfl⟩ h_mb ((fr4 mb ).trans m_mb) (ci := 12) rfl rfl (Nat.le_of_ble_eq_true rfl) ⟨Nat.zero_le _, Nat.zero_le _⟩ dX13_readSum_17 ?_
    refine lv_if_eq (tgt := 57) hx hb dX13_readSum_20 (by decide) (fun c_20 => ?_) (fun c_20 => ?_)
    · skip
      exact q_wvret X hr hlocks hP hS (fun q => (fr4 q)) dX13_readSum_57
    · exact absurd (mkR_0 hf0) c_20
theorem yd_X13_readSum : YD yX13_readSum 1 := ⟨by decide +kernel, by decide +kernel, by decide +kernel⟩
set_option maxHeartbeats 1000000 in
set_option maxRecDepth 100000 in
theorem c_X13_readNotB (l : Launch) (D : va_G) (cB cI cJ : ClassId) (ad : Nat → Nat) (n : Nat) (M : Nat → va_E) (hI : ipI ad n) (mb en x : Nat) (mv tapeF : Nat → Int32) (nu : Int32) (f dp : Int32) (h_mb : mb < n) (h_mb_23 : mb + 23 < n) (m_mb : M mb = .inr (12, modF ad mb (mR en tapeF mv x f nu))) (m_mb_23 : M (mb + 23) = .inl (cI, 700, .inl tapeF)) (hxe : x ≤ en) (hen : en ≤ 700) (hT : bOK tapeF) (k26 : mv 26 = nI en) (hf0 : ¬ f = 0) : cWv l D cB cI cJ ad n M yX13_readNot wsX13_readNot 5 108 [.ref (ad mb), .int dp] (fun M' => ∀ q : Nat, M' q = M q) := by
  refine q_body (cc := cX13_readNot) (maxL := 4) (ret := none) (by decide) rfl (Nat.le_of_ble_eq_true rfl) ?_
  intro p e s m args below meth c ls X hr hlocks hK hP hl
  obtain ⟨hx, hb, hml, hown, hts⟩ := id X
  have hS : va_S (ipA ad n) s.heap s.heap [] := va_S.rf
  have hl : lv_has ls 4 [(0, .ref (ad mb)), (1, .int dp)] := hl
  refine lv_iconst (v := 0) hx hb dX13_readNot_0 (by decide) ?_
  refine lv_istore_n (lv' := [(2, .int 0), (0, .ref (ad mb)), (1, .int dp)]) hx hb dX13_readNot_1 rfl hl (by decide) rfl (fun ls hl => ?_)
  refine lv_aload_n hx hb dX13_readNot_2 rfl (lv_at hl 1 rfl) ?_
  refine q_ldcwS (i := 15) (tx := "not") X hK (by decide +kernel) dX13_readNot_3 ?_
  refine q_rdV (As := [.ref (ad (2000 + 15))]) (rest := []) (c_X13_isR l D cB cI cJ ad n M mb en x mv tapeF nu 15 f h_mb h_mb_23 m_mb m_mb_23 hxe hen hT k26 (by first | assumption | omega | exact vp_in_nI (by omega) (by decide) | exact vp_in_iff.mpr (by decide)) (by first | assumption | omega | exact vp_in_nI (by omega) (by decide) | exact vp_in_iff.mpr (by decide))) X hK hP hS hl.1 rfl gX13_readNot_X13_is yd_X13_is ⟨Nat.le_of_ble_eq_true rfl, Nat.le_of_ble_eq_true rfl⟩ h_mb m_mb (ci := 12) rfl rfl (Nat.le_of_ble_eq_true rfl) ⟨Nat.zero_le _, Nat.zero_le _⟩ dX13_readNot_6 ?_
  refine lv_if_eq (tgt := 40) hx hb dX13_readNot_9 (by decide) (fun c_9 => ?_) (fun c_9 => ?_)
  · skip
    refine lv_aload_n hx hb dX13_readNot_40 rfl (lv_at hl 1 rfl) ?_
    refine lv_iload_n hx hb dX13_readNot_41 rfl (lv_at hl 2 rfl) ?_
    refine q_wrVv (As := [.int dp]) (rest := []) (c_X13_readSumB l D cB cI cJ ad n M hI mb en x mv tapeF nu f dp h_mb h_mb_23 m_mb m_mb_23 hxe hen hT k26 hf0) X hK hP hS hl.1 rfl gX13_readNot_X13_readSum yd_X13_readSum ⟨Nat.le_of_ble_eq_true rfl, Nat.le_of_ble_eq_true rfl⟩ h_mb m_mb (ci := 12) rfl rfl (Nat.le_of_ble_eq_true rfl) ⟨Nat.zero_le _, Nat.zero_le _⟩ dX13_readNot_42 (fun M2 H locs hp1 hP hS => ?_)
    have fr4 := hp1
    refine lv_aload_n hx hb dX13_readNot_45 rfl (lv_at hl 1 rfl) ?_
    refine lv_bipush (v := 60) hx hb dX13_readNot_46 (by decide) ?_
    refine q_rdV (As := [.int 60]) (rest := []) (c_X13_isMarkedR l D cB cI cJ ad n M2 mb en x mv tapeF nu f 60 h_mb h_mb_23 ((fr4 mb ).trans m_mb) ((fr4 (mb + 23) ).trans m_mb_23) hxe hen hT k26 (by decide)) X hK hP hS hl.1 rfl gX13_readNot_X13_isMarked yd_X13_isMarked ⟨Nat.le_of_ble_eq_true rfl, Nat.le_of_ble_eq_true rfl⟩ h_mb ((fr4 mb ).trans m_mb) (ci := 12) rfl rfl (Nat.le_of_ble_eq_true rfl) ⟨Nat.zero_le _, Nat.zero_le _⟩ dX13_readNot_48 ?_
    refine lv_if_ne (tgt := 63) hx hb dX13_readNot_51 (by decide) (fun c_51 => ?_) (fun c_51 => ?_)
    · exact absurd (mkR_0 hf0) c_51
    · skip
      refine lv_aload_n hx hb dX13_readNot_54 rfl (lv_at hl 1 rfl) ?_
      refine lv_bipush (v := 61) hx hb dX13_readNot_55 (by decide) ?_
      refine q_rdV (As := [.int 61]) (rest := []) (c_X13_isMarkedR l D cB cI cJ ad n M2 mb en x mv tapeF nu f 61 h_mb h_mb_23 ((fr4 mb ).trans m_mb) ((fr4 (mb + 23) ).trans m_mb_23) hxe hen hT k26 (by decide)) X hK hP hS hl.1 rfl gX13_readNot_X13_isMarked yd_X13_isMarked ⟨Nat.le_of_ble_eq_true rfl, Nat.le_of_ble_eq_true rfl⟩ h_mb ((fr4 mb ).trans m_mb) (ci := 12) rfl rfl (Nat.le_of_ble_eq_true rfl) ⟨Nat.zero_le _, Nat.zero_le _⟩ dX13_readNot_57 ?_
      refine lv_if_eq (tgt := 94) hx hb dX13_readNot_60 (by decide) (fun c_60 => ?_) (fun c_60 => ?_)
      · skip
        refine lv_iconst (v := 0) hx hb dX13_readNot_94 (by decide) ?_
        refine lv_istore_n (lv' := [(3, .int 0), (2, .int 0), (0, .ref (ad mb)), (1, .int dp)]) hx hb dX13_readNot_95 rfl hl (by decide) rfl (fun ls hl => ?_)
        refine lv_iload_n hx hb dX13_readNot_96 rfl (lv_at hl 0 rfl) ?_
        refine lv_iload_n hx hb dX13_readNot_97 rfl (lv_at hl 1 rfl) ?_
        refine lv_icmp_ge (tgt := 113) hx hb dX13_readNot_98 (by decide) (fun c_98 => ?_) (fun c_98 => ?_)
        · clear c_98
          exact q_wvret X hr hlocks hP hS (fun q => (fr4 q)) dX13_readNot_113
        · exact absurd c_98 (by decide)
      · exact absurd (mkR_0 hf0) c_60
  · exact absurd (wdR_0 hf0) c_9
theorem yd_X13_readNot : YD yX13_readNot 1 := ⟨by decide +kernel, by decide +kernel, by decide +kernel⟩
set_option maxHeartbeats 1000000 in
set_option maxRecDepth 100000 in
theorem c_X13_readAndB (l : Launch) (D : va_G) (cB cI cJ : ClassId) (ad : Nat → Nat) (n : Nat) (M : Nat → va_E) (hI : ipI ad n) (mb en x : Nat) (mv tapeF : Nat → Int32) (nu : Int32) (f dp : Int32) (h_mb : mb < n) (h_mb_23 : mb + 23 < n) (m_mb : M mb = .inr (12, modF ad mb (mR en tapeF mv x f nu))) (m_mb_23 : M (mb + 23) = .inl (cI, 700, .inl tapeF)) (hxe : x ≤ en) (hen : en ≤ 700) (hT : bOK tapeF) (k26 : mv 26 = nI en) (hf0 : ¬ f = 0) : cWv l D cB cI cJ ad n M yX13_readAnd wsX13_readAnd 6 131 [.ref (ad mb), .int dp] (fun M' => ∀ q : Nat, M' q = M q) := by
  refine q_body (cc := cX13_readAnd) (maxL := 2) (ret := none) (by decide) rfl (Nat.le_of_ble_eq_true rfl) ?_
  intro p e s m args below meth c ls X hr hlocks hK hP hl
  obtain ⟨hx, hb, hml, hown, hts⟩ := id X
  have hS : va_S (ipA ad n) s.heap s.heap [] := va_S.rf
  have hl : lv_has ls 2 [(0, .ref (ad mb)), (1, .int dp)] := hl
  refine lv_aload_n hx hb dX13_readAnd_0 rfl (lv_at hl 0 rfl) ?_
  refine lv_iload_n hx hb dX13_readAnd_1 rfl (lv_at hl 1 rfl) ?_
  refine q_wrVv (As := [.int dp]) (rest := []) (c_X13_readNotB l D cB cI cJ ad n M hI mb en x mv tapeF nu f dp h_mb h_mb_23 m_mb m_mb_23 hxe hen hT k26 hf0) X hK hP hS hl.1 rfl gX13_readAnd_X13_readNot yd_X13_readNot ⟨Nat.le_of_ble_eq_true rfl, Nat.le_of_ble_eq_true rfl⟩ h_mb m_mb (ci := 12) rfl rfl (Nat.le_of_ble_eq_true rfl) ⟨Nat.zero_le _, Nat.zero_le _⟩ dX13_readAnd_2 (fun M2 H locs hp1 hP hS => ?_)
  have fr4 := hp1
  refine lv_aload_n hx hb dX13_readAnd_5 rfl (lv_at hl 0 rfl) ?_
  refine q_ldcwS (i := 14) (tx := "and") X hK (by decide +kernel) dX13_readAnd_6 ?_
  refine q_rdV (As := [.ref (ad (2000 + 14))]) (rest := []) (c_X13_isR l D cB cI cJ ad n M2 mb en x mv tapeF nu 14 f h_mb h_mb_23 ((fr4 mb ).trans m_mb) ((fr4 (mb + 23) ).trans m_mb_23) hxe hen hT k26 (by first | assumption | omega | exact vp_in_nI (by omega) (by decide) | exact vp_in_iff.mpr (by decide)) (by first | assumption | omega | exact vp_in_nI (by omega) (by decide) | exact vp_in_iff.mpr (by decide))) X hK hP hS hl.1 rfl gX13_readAnd_X13_is yd_X13_is ⟨Nat.le_of_ble_eq_true rfl, Nat.le_of_ble_eq_true rfl⟩ h_mb ((fr4 mb ).trans m_mb) (ci := 12) rfl rfl (Nat.le_of_ble_eq_true rfl) ⟨Nat.zero_le _, Nat.zero_le _⟩ dX13_readAnd_9 ?_
  refine lv_if_eq (tgt := 33) hx hb dX13_readAnd_12 (by decide) (fun c_12 => ?_) (fun c_12 => ?_)
  · skip
    exact q_wvret X hr hlocks hP hS (fun q => (fr4 q)) dX13_readAnd_33
  · exact absurd (wdR_0 hf0) c_12
set_option maxRecDepth 20000 in
theorem fX13_readExpression_222 : FL wsX13_readExpression RX13 222 12 31 := ⟨RX13, TX13, 67, rfl, by decide +kernel, by decide, by decide +kernel⟩
set_option maxHeartbeats 1000000 in
set_option maxRecDepth 100000 in
theorem c_X13_readExpressionB (l : Launch) (D : va_G) (cB cI cJ : ClassId) (ad : Nat → Nat) (n : Nat) (M : Nat → va_E) (hI : ipI ad n) (mb en x : Nat) (mv tapeF : Nat → Int32) (nu : Int32) (f dp : Int32) (h_mb : mb < n) (h_mb_23 : mb + 23 < n) (m_mb : M mb = .inr (12, modF ad mb (mR en tapeF mv x f nu))) (m_mb_23 : M (mb + 23) = .inl (cI, 700, .inl tapeF)) (hxe : x ≤ en) (hen : en ≤ 700) (hT : bOK tapeF) (k26 : mv 26 = nI en) (hf0 : ¬ f = 0) : cWv l D cB cI cJ ad n M yX13_readExpression wsX13_readExpression 0 0 [.ref (ad mb), .int dp] (fun M' => ∀ q : Nat, M' q = M q) := by
  refine q_body (cc := cX13_readExpression) (maxL := 3) (ret := none) (by decide) rfl (Nat.le_of_ble_eq_true rfl) ?_
  intro p e s m args below meth c ls X hr hlocks hK hP hl
  obtain ⟨hx, hb, hml, hown, hts⟩ := id X
  have hS : va_S (ipA ad n) s.heap s.heap [] := va_S.rf
  have hl : lv_has ls 3 [(0, .ref (ad mb)), (1, .int dp)] := hl
  refine lv_aload_n hx hb dX13_readExpression_0 rfl (lv_at hl 0 rfl) ?_
  refine q_get (v := .int f) (fs := modF ad mb (mR en tapeF mv x f nu)) X hK hP fX13_readExpression_222 h_mb m_mb rfl dX13_readExpression_1 ?_
  refine lv_if_eq (tgt := 8) hx hb dX13_readExpression_4 (by decide) (fun c_4 => ?_) (fun c_4 => ?_)
  · exact absurd c_4 hf0
  · skip
    exact q_wvret X hr hlocks hP hS (fun q => rfl) dX13_readExpression_7
end
