/-! PoundsOverModel: on the states of the text -/
noncomputable section
/-- the class's code in the reference's numbers -/
def mC (v : Int32) : Int32 := if v = -10 then -27 else if v = -11 then -26 else if v = -12 then -28 else if v = -13 then -24 else if v = -14 then -25 else if v = -15 then -20 else if v = -16 then -21 else if v = -17 then -22 else if v = -18 then -23 else v
theorem mC_id {v : Int32} (h : -10 < v) : mC v = v := by
  unfold mC
  rw [if_neg (fun q => by rw [q] at h; exact absurd h (by decide)), if_neg (fun q => by rw [q] at h; exact absurd h (by decide)), if_neg (fun q => by rw [q] at h; exact absurd h (by decide)), if_neg (fun q => by rw [q] at h; exact absurd h (by decide)), if_neg (fun q => by rw [q] at h; exact absurd h (by decide)), if_neg (fun q => by rw [q] at h; exact absurd h (by decide)), if_neg (fun q => by rw [q] at h; exact absurd h (by decide)), if_neg (fun q => by rw [q] at h; exact absurd h (by decide)), if_neg (fun q => by rw [q] at h; exact absurd h (by decide))]
def tdC (to0 : Nat → Int32) (cs : List Int32) : Nat → Int32 := upd to0 13 (nI cs.length)
def layM (cs : List Int32) (s0 : Nat → Int32) : Nat → Int32 := fun q => if 700 ≤ q ∧ q - 700 < cs.length then mC (cs.getD (q - 700) 0) else s0 q
def eA (f : Int32) (cs : List Int32) (v : Int32) : List Int32 := if f = 0 then cs ++ [v] else cs
theorem eIf_c (r : Int32 × Nat × List Int32) (v : Int32) : (eIf r v).2.2 = eA r.1 r.2.2 v := rfl
theorem layM_put {cs : List Int32} {s0 : Nat → Int32} {v : Int32} : upd (layM cs s0) (700 + cs.length) (mC v) = layM (cs ++ [v]) s0 := by
  funext q
  by_cases hq : q = 700 + cs.length
  · subst hq
    simp [upd, layM]
  · simp only [upd, layM, hq, if_false, List.length_append, List.length_singleton]
    by_cases h2 : 700 ≤ q ∧ q - 700 < cs.length
    · rw [if_pos h2, if_pos (by omega)]
      simp [List.getD, List.getElem?_append_left h2.2]
    · rw [if_neg h2, if_neg (by omega)]
theorem tdC_put {to0 : Nat → Int32} {cs : List Int32} {v : Int32} : upd (tdC to0 cs) 13 (tdC to0 cs 13 + 1) = tdC to0 (cs ++ [v]) := by
  funext q
  unfold tdC
  simp only [upd, List.length_append, List.length_singleton]
  split
  · exact nI_1 _
  · rfl
theorem tdC_id {to0 : Nat → Int32} {cs : List Int32} (h : to0 13 = nI cs.length) : tdC to0 cs = to0 := by
  funext q
  unfold tdC
  simp only [upd]
  split
  · rename_i e; rw [e, h]
  · rfl
theorem mkT_1 (k : Int32) : mkT k = 1 ↔ k = 1 := by
  unfold mkT
  constructor
  · intro h; (repeat' split at h) <;> first | assumption | exact absurd h (by decide)
  · intro h; rw [h]; decide
theorem mkT_2 (k : Int32) : mkT k = 2 ↔ k = 2 := by
  unfold mkT
  constructor
  · intro h; (repeat' split at h) <;> first | assumption | exact absurd h (by decide)
  · intro h; rw [h]; decide
/-- what a number is worth, where the token behind it is scanned from, what is wrong with it -/
def nvR (en : Nat) (bf : Nat → Int32) (x : Nat) (z1 z2 : Int32) : Int32 := if s_X4_isNumber en x bf z1 z2 = 0 then 0 else nmX en bf x
def nxR (en : Nat) (bf : Nat → Int32) (x : Nat) (z1 z2 : Int32) : Nat := if s_X4_isNumber en x bf z1 z2 = 0 then x else nX en bf x
def nfR (en : Nat) (bf : Nat → Int32) (x : Nat) (z1 z2 : Int32) : Int32 := if s_X4_isNumber en x bf z1 z2 = 0 then fkN en bf x else 0
def nuR (en : Nat) (bf : Nat → Int32) (x : Nat) (nu z1 z2 : Int32) : Int32 := if s_X4_isNumber en x bf z1 z2 = 0 then nu else mnX en bf x nu
theorem rn_R {en : Nat} {bf mv : Nat → Int32} {x : Nat} {nu z1 z2 : Int32} (hx : x ≤ en) (he : en ≤ 700) (h1 : 0 ≤ z1) (h2 : z2 ≤ 9999) : s_X13_readNumber (mR en bf mv x 0 nu) z1 z2 = nvR en bf x z1 z2 ∧ s_X13_readNumber_0_1 (mR en bf mv x 0 nu) bf en z1 z2 = mR en bf mv (nxR en bf x z1 z2) (nfR en bf x z1 z2) (nuR en bf x nu z1 z2) := by
  have h := nn_R (bf := bf) (mv := mv) (nu := nu) hx he h1 h2
  unfold s_X13_readNumber s_X13_readNumber_0_1 nvR nxR nfR nuR
  rw [h.1, h.2]
  by_cases c : s_X4_isNumber en x bf z1 z2 = 0
  · simp only [if_pos c]
    rw [if_neg (show ¬ mR en bf mv x (fkN en bf x) nu 31 = 0 from fkN_0 _ _ _), if_neg (show ¬ mR en bf mv x (fkN en bf x) nu 31 = 0 from fkN_0 _ _ _)]
    exact ⟨rfl, rfl⟩
  · simp only [if_neg c]
    rw [if_pos (show mR en bf mv x 0 nu 31 = 0 from rfl), if_pos (show mR en bf mv x 0 nu 31 = 0 from rfl), mS_R hx he]
    exact ⟨rfl, rfl⟩
theorem c_X13_stepR (l : Launch) (D : va_G) (cB cI cJ : ClassId) (ad : Nat → Nat) (n : Nat) (M : Nat → va_E) (hI : ipI ad n) (mb en x : Nat) (mv tapeF : Nat → Int32) (nu : Int32) (h_mb : mb < n) (h_mb_23 : mb + 23 < n) (m_mb : M mb = .inr (12, modF ad mb (mR en tapeF mv x 0 nu))) (m_mb_23 : M (mb + 23) = .inl (cI, 700, .inl tapeF)) (hxe : x ≤ en) (hen : en ≤ 700) (hT : bOK tapeF) (k26 : mv 26 = nI en) : cWv l D cB cI cJ ad n M yX13_stepOn wsX13_stepOn 1 21 [.ref (ad mb)] (fun M' => M' mb = .inr (12, modF ad mb (mR en tapeF mv (nX en tapeF x) 0 (mnX en tapeF x nu))) ∧ ∀ q : Nat, q ≠ mb → M' q = M q) := by
  have h := c_X13_step l D cB cI cJ ad n M hI mb en (mR en tapeF mv x 0 nu) tapeF h_mb h_mb_23 m_mb m_mb_23 (mI_R hxe hen k26) hen hT
  rw [mS_R hxe hen] at h
  exact h
theorem c_X13_isMarkedR (l : Launch) (D : va_G) (cB cI cJ : ClassId) (ad : Nat → Nat) (n : Nat) (M : Nat → va_E) (mb en x : Nat) (mv tapeF : Nat → Int32) (nu : Int32) (f z : Int32) (h_mb : mb < n) (h_mb_23 : mb + 23 < n) (m_mb : M mb = .inr (12, modF ad mb (mR en tapeF mv x f nu))) (m_mb_23 : M (mb + 23) = .inl (cI, 700, .inl tapeF)) (hxe : x ≤ en) (hen : en ≤ 700) (hT : bOK tapeF) (k26 : mv 26 = nI en) (hz : ¬ s_X9_isSign z = 0) : cR l D cB cI cJ ad n M yX13_isMarked wsX13_isMarked 0 0 [.ref (ad mb), .int z] (mkR en tapeF f x z) := by
  have h := c_X13_isMarked l D cB cI cJ ad n M mb (mR en tapeF mv x f nu) tapeF en z h_mb h_mb_23 m_mb m_mb_23 (mI_R hxe hen k26) hen
  rw [mk_R hxe hen hT hz] at h
  exact h
theorem c_X13_isR (l : Launch) (D : va_G) (cB cI cJ : ClassId) (ad : Nat → Nat) (n : Nat) (M : Nat → va_E) (mb en x : Nat) (mv tapeF : Nat → Int32) (nu : Int32) (i : Nat) (f : Int32) (h_mb : mb < n) (h_mb_23 : mb + 23 < n) (m_mb : M mb = .inr (12, modF ad mb (mR en tapeF mv x f nu))) (m_mb_23 : M (mb + 23) = .inl (cI, 700, .inl tapeF)) (hxe : x ≤ en) (hen : en ≤ 700) (hT : bOK tapeF) (k26 : mv 26 = nI en) (hi : i < 20) (h0i : 0 < i) : cR l D cB cI cJ ad n M yX13_is wsX13_is 4 85 [.ref (ad mb), .ref (ad (2000 + i))] (wdR en tapeF f x i) := by
  have h := c_X13_is l D cB cI cJ ad n M mb (mR en tapeF mv x f nu) tapeF en i h_mb h_mb_23 m_mb m_mb_23 (mI_R hxe hen k26) hen hi
  rw [wd_R hxe hen hT hi h0i] at h
  exact h
theorem c_X13_wrongR (l : Launch) (D : va_G) (cB cI cJ : ClassId) (ad : Nat → Nat) (n : Nat) (M : Nat → va_E) (hI : ipI ad n) (mb en x : Nat) (mv tapeF : Nat → Int32) (nu : Int32) (z : Int32) (h_mb : mb < n) (m_mb : M mb = .inr (12, modF ad mb (mR en tapeF mv x 0 nu))) (hxe : x ≤ en) (hen : en ≤ 700) (hT : bOK tapeF) (k26 : mv 26 = nI en) (hz : ¬ z = 0) : cWv l D cB cI cJ ad n M yX13_wrong wsX13_wrong 0 0 [.ref (ad mb), .int z] (fun M' => M' mb = .inr (12, modF ad mb (mR en tapeF mv x z nu)) ∧ ∀ q : Nat, q ≠ mb → M' q = M q) := by
  have h := c_X13_wrong l D cB cI cJ ad n M hI mb (mR en tapeF mv x 0 nu) z h_mb m_mb 
  rw [mR_wrong hz] at h
  exact h
theorem c_X13_readNumberR (l : Launch) (D : va_G) (cB cI cJ : ClassId) (ad : Nat → Nat) (n : Nat) (M : Nat → va_E) (hI : ipI ad n) (mb en x : Nat) (mv tapeF : Nat → Int32) (nu : Int32) (z1 z2 : Int32) (h_mb : mb < n) (h_mb_23 : mb + 23 < n) (m_mb : M mb = .inr (12, modF ad mb (mR en tapeF mv x 0 nu))) (m_mb_23 : M (mb + 23) = .inl (cI, 700, .inl tapeF)) (hxe : x ≤ en) (hen : en ≤ 700) (hT : bOK tapeF) (k26 : mv 26 = nI en) (hz1 : 0 ≤ z1) (hz2 : z2 ≤ 9999) : cWi l D cB cI cJ ad n M yX13_readNumber wsX13_readNumber 2 43 [.ref (ad mb), .int z1, .int z2] (fun r M' => r = nvR en tapeF x z1 z2 ∧ M' mb = .inr (12, modF ad mb (mR en tapeF mv (nxR en tapeF x z1 z2) (nfR en tapeF x z1 z2) (nuR en tapeF x nu z1 z2))) ∧ ∀ q : Nat, q ≠ mb → M' q = M q) := by
  have h := c_X13_readNumber l D cB cI cJ ad n M hI mb (mR en tapeF mv x 0 nu) tapeF en z1 z2 h_mb h_mb_23 m_mb m_mb_23 (mI_R hxe hen k26) hen hT
  obtain ⟨e1, e2⟩ := rn_R (bf := tapeF) (mv := mv) (nu := nu) hxe hen hz1 hz2
  rw [e1, e2] at h
  exact h
def s_X13_which_2 (en : Nat) (x : Nat) (tapeF : Nat → Int32) (f : Int32) (ws9 : List Nat) : Nat → Nat → Int32
  | 0, _ => (-1)
  | r + 1, t2 => if (wdR en tapeF f x (ws9.getD t2 0)) = 0 then s_X13_which_2 en x tapeF f ws9 r (t2 + 1) else (nI t2)
def s_X13_which (en : Nat) (x : Nat) (tapeF : Nat → Int32) (f : Int32) (k9 : Nat) (ws9 : List Nat) : Int32 := (s_X13_which_2 en x tapeF f ws9 k9 0)
set_option maxHeartbeats 1000000 in
set_option maxRecDepth 100000 in
theorem c_X13_whichR (l : Launch) (D : va_G) (cB cI cJ : ClassId) (ad : Nat → Nat) (n : Nat) (M : Nat → va_E) (mb en x : Nat) (mv tapeF : Nat → Int32) (nu : Int32) (f : Int32) (i9 k9 : Nat) (ws9 : List Nat) (h_mb : mb < n) (h_mb_23 : mb + 23 < n) (h_i9 : i9 < n) (m_mb : M mb = .inr (12, modF ad mb (mR en tapeF mv x f nu))) (m_mb_23 : M (mb + 23) = .inl (cI, 700, .inl tapeF)) (m_i9 : M i9 = .inl (ad 5000, k9, .inr (.inr (.inr (.inr (txF ad ws9)))))) (hxe : x ≤ en) (hen : en ≤ 700) (hT : bOK tapeF) (k26 : mv 26 = nI en) (hw9 : ∀ j : Nat, j < k9 → ws9.getD j 0 < 20 ∧ 0 < ws9.getD j 0) (hk9 : k9 < 30) : cR l D cB cI cJ ad n M yX13_which wsX13_which 5 108 [.ref (ad mb), .ref (ad i9)] (s_X13_which en x tapeF f k9 ws9) := by
  refine q_body (cc := cX13_which) (maxL := 3) (ret := (some .int)) (by decide) rfl (Nat.le_of_ble_eq_true rfl) ?_
  intro p e s m args below meth c ls X hr hlocks hK hP hl
  obtain ⟨hx, hb, hml, hown, hts⟩ := id X
  have hS : va_S (ipA ad n) s.heap s.heap [] := va_S.rf
  have hl : lv_has ls 3 [(0, .ref (ad mb)), (1, .ref (ad i9))] := hl
  refine lv_iconst (v := 0) hx hb dX13_which_0 (by decide) ?_
  refine lv_istore_n (lv' := [(2, .int 0), (0, .ref (ad mb)), (1, .ref (ad i9))]) hx hb dX13_which_1 rfl hl (by decide) rfl (fun ls hl => ?_)
  have loop_2 : ∀ (fuel : Nat) (t2 : Nat), k9 - (t2) < fuel → t2 ≤ k9 → s_X13_which_2 en x tapeF f ws9 (k9 - (t2)) t2 = s_X13_which en x tapeF f k9 ws9 → ∀ (ls : Array Slot), lv_has ls 3 [(2, .int (nI t2)), (0, .ref (ad mb)), (1, .ref (ad i9))] → W p l e (rmOf 5 108) s m args below meth c s.heap [] 0 0 (MQ below (vp_Si (fun r9 => r9 = s_X13_which en x tapeF f k9 ws9)) args s 0 0 (fun _ => False)) (F0 m 2 ls []) := by
    intro fuel
    induction fuel with
    | zero =>
      intro t2 hz
      exact absurd hz (Nat.not_lt_zero _)
    | succ fuel ih_2 =>
      intro t2 hz_2 h_t2 hB_2 ls hl
      skip
      refine lv_iload_n hx hb dX13_which_2 rfl (lv_at hl 0 rfl) ?_
      refine lv_aload_n hx hb dX13_which_3 rfl (lv_at hl 2 rfl) ?_
      refine q_alenS (f := (txF ad ws9)) (k := k9) (v := (nI k9)) X hK hP h_i9 m_i9 rfl dX13_which_4 ?_
      refine lv_icmp_ge (tgt := 26) hx hb dX13_which_5 (by decide) (fun c_5 => ?_) (fun c_5 => ?_)
      · skip
        have h9_2 : t2 = k9 := eq_of_le (t := t2) (k := k9) c_5 (by omega) h_t2
        subst t2
        refine lv_iconst (v := (-1)) hx hb dX13_which_26 (by decide) ?_
        exact q_iret hb hx hr hlocks (by rw [← hB_2, Nat.sub_self, s_X13_which_2]) dX13_which_27
      · skip
        have h9_2 : t2 < k9 := lt_of_nlt (t := t2) (k := k9) c_5 (by omega) h_t2
        refine lv_aload_n hx hb dX13_which_8 rfl (lv_at hl 1 rfl) ?_
        refine lv_aload_n hx hb dX13_which_9 rfl (lv_at hl 2 rfl) ?_
        refine lv_iload_n hx hb dX13_which_10 rfl (lv_at hl 0 rfl) ?_
        refine q_aaldS (t := 2000 + ws9.getD t2 0) (k := k9) X hK hP h_i9 m_i9 (by omega) (by omega) rfl dX13_which_11 ?_
        refine q_rdV (As := [.ref (ad (2000 + (ws9.getD t2 0)))]) (rest := []) (c_X13_isR l D cB cI cJ ad n M mb en x mv tapeF nu (ws9.getD t2 0) f h_mb h_mb_23 m_mb m_mb_23 hxe hen hT k26 ((hw9 _ (by omega)).1) ((hw9 _ (by omega)).2)) X hK hP hS hl.1 rfl gX13_which_X13_is yd_X13_is ⟨Nat.le_of_ble_eq_true rfl, Nat.le_of_ble_eq_true rfl⟩ h_mb m_mb (ci := 12) rfl rfl (Nat.le_of_ble_eq_true rfl) ⟨Nat.zero_le _, Nat.zero_le _⟩ dX13_which_12 ?_
        refine lv_if_eq (tgt := 20) hx hb dX13_which_15 (by decide) (fun c_15 => ?_) (fun c_15 => ?_)
        · skip
          refine lv_iinc (v := ((nI t2) + 1)) (lv' := [(2, .int ((nI t2) + 1)), (0, .ref (ad mb)), (1, .ref (ad i9))]) hx hb dX13_which_20 hl (k := 0) rfl rfl (by decide) rfl (fun ls hl => ?_)
          refine lv_goto (tgt := 2) hx hb dX13_which_23 (by decide) ?_
          exact ih_2 (t2 + 1)  (by omega) (by omega) (by rw [← hB_2, show k9 - (t2) = (k9 - (t2 + 1)) + 1 by omega, s_X13_which_2, if_pos c_15]) ls (by rw [(show nI (t2 + 1) = nI t2 + 1 by exact nI_succ _)]; exact lv_sub hl [0, 1, 2] rfl)
        · skip
          refine lv_iload_n hx hb dX13_which_18 rfl (lv_at hl 0 rfl) ?_
          exact q_iret hb hx hr hlocks (by rw [← hB_2, show k9 - t2 = (k9 - (t2 + 1)) + 1 by omega, s_X13_which_2, if_neg c_15]) dX13_which_19
  exact loop_2 (k9 + 1) 0  (by omega) (by omega) (by rw [s_X13_which] <;> rfl) ls (lv_sub hl [0, 1, 2] rfl)
set_option maxHeartbeats 1000000 in
set_option maxRecDepth 100000 in
theorem c_X13_layR (l : Launch) (D : va_G) (cB cI cJ : ClassId) (ad : Nat → Nat) (n : Nat) (M : Nat → va_E) (hI : ipI ad n) (mb en x : Nat) (mv tapeF : Nat → Int32) (nu : Int32) (f z v : Int32) (to0 s0 : Nat → Int32) (cs : List Int32) (h_mb : mb < n) (h_mb_3 : mb + 3 < n) (h_mb_21 : mb + 21 < n) (m_mb : M mb = .inr (12, modF ad mb (mR en tapeF mv x f nu))) (m_mb_3 : M (mb + 3) = .inl (cI, 14, .inl (tdC to0 cs))) (m_mb_21 : M (mb + 21) = .inl (cI, 1400, .inl (layM cs s0))) (hc7 : cs.length < 700) (hzv : z = mC v) : cWv l D cB cI cJ ad n M yX13_lay wsX13_lay 0 0 [.ref (ad mb), .int z] (fun M' => M' (mb + 3) = .inl (cI, 14, .inl (tdC to0 (eA f cs v))) ∧ M' (mb + 21) = .inl (cI, 1400, .inl (layM (eA f cs v) s0)) ∧ ∀ q : Nat, q ≠ mb + 3 → q ≠ mb + 21 → M' q = M q) := by
  refine q_body (cc := cX13_lay) (maxL := 2) (ret := none) (by decide) rfl (Nat.le_of_ble_eq_true rfl) ?_
  intro p e s m args below meth c ls X hr hlocks hK hP hl
  obtain ⟨hx, hb, hml, hown, hts⟩ := id X
  have hS : va_S (ipA ad n) s.heap s.heap [] := va_S.rf
  have hl : lv_has ls 2 [(0, .ref (ad mb)), (1, .int z)] := hl
  refine lv_aload_n hx hb dX13_lay_0 rfl (lv_at hl 0 rfl) ?_
  refine q_get (v := .int f) (fs := modF ad mb (mR en tapeF mv x f nu)) X hK hP fX13_lay_222 h_mb m_mb rfl dX13_lay_1 ?_
  refine lv_if_eq (tgt := 8) hx hb dX13_lay_4 (by decide) (fun c_4 => ?_) (fun c_4 => ?_)
  · skip
    refine lv_aload_n hx hb dX13_lay_8 rfl (lv_at hl 0 rfl) ?_
    refine q_get (v := .ref (ad (mb + 21))) (fs := modF ad mb (mR en tapeF mv x f nu)) X hK hP fX13_lay_93 h_mb m_mb rfl dX13_lay_9 ?_
    refine lv_sipush (v := 700) hx hb dX13_lay_12 (by decide) ?_
    refine lv_aload_n hx hb dX13_lay_15 rfl (lv_at hl 0 rfl) ?_
    refine q_get (v := .ref (ad (mb + 3))) (fs := modF ad mb (mR en tapeF mv x f nu)) X hK hP fX13_lay_40 h_mb m_mb rfl dX13_lay_16 ?_
    refine lv_bipush (v := 13) hx hb dX13_lay_19 (by decide) ?_
    refine q_ialdN (f := (tdC to0 cs)) (k := 14) X hK hP 13 h_mb_3 m_mb_3 (by decide) (by decide) dX13_lay_21 ?_
    refine lv_iadd hx hb dX13_lay_22 ?_
    refine lv_iload_n hx hb dX13_lay_23 rfl (lv_at hl 1 rfl) ?_
    refine q_iast (f := (layM cs s0)) (k := 1400) X hK hI hP hS h_mb_21 m_mb_21 (by show vp_in (700 + nI cs.length) 1400; rw [show (700 : Int32) = nI 700 from rfl, nI_add]; exact vp_in_nI (by omega) (by decide)) dX13_lay_24 (fun H locs hP hS => ?_)
    refine lv_aload_n hx hb dX13_lay_25 rfl (lv_at hl 0 rfl) ?_
    refine q_get (v := .ref (ad (mb + 3))) (fs := modF ad mb (mR en tapeF mv x f nu)) X hK hP fX13_lay_40 h_mb ((va_up_ne M (.inl (cI, 1400, .inl (upd (layM cs s0) (700 + ((tdC to0 cs) 13)).toNatClampNeg z))) (show mb ≠ mb + 21 by omega)).trans m_mb) rfl dX13_lay_26 ?_
    refine lv_bipush (v := 13) hx hb dX13_lay_29 (by decide) ?_
    refine lv_dup2_11 hx hb dX13_lay_31 rfl rfl ?_
    refine q_ialdN (f := (tdC to0 cs)) (k := 14) X hK hP 13 h_mb_3 ((va_up_ne M (.inl (cI, 1400, .inl (upd (layM cs s0) (700 + ((tdC to0 cs) 13)).toNatClampNeg z))) (show mb + 3 ≠ mb + 21 by omega)).trans m_mb_3) (by decide) (by decide) dX13_lay_32 ?_
    refine lv_iconst (v := 1) hx hb dX13_lay_33 (by decide) ?_
    refine lv_iadd hx hb dX13_lay_34 ?_
    refine q_iastN (f := (tdC to0 cs)) (k := 14) X hK hI hP hS 13 h_mb_3 ((va_up_ne M (.inl (cI, 1400, .inl (upd (layM cs s0) (700 + ((tdC to0 cs) 13)).toNatClampNeg z))) (show mb + 3 ≠ mb + 21 by omega)).trans m_mb_3) (by decide) (by decide) dX13_lay_35 (fun H locs hP hS => ?_)
    exact q_wvret X hr hlocks hP hS ⟨(by refine (va_up_self (va_up M (mb + 21) (.inl (cI, 1400, .inl (upd (layM cs s0) (700 + ((tdC to0 cs) 13)).toNatClampNeg z)))) (mb + 3) (.inl (cI, 14, .inl (upd (tdC to0 cs) 13 (((tdC to0 cs) 13) + 1))))).trans ?_; rw [eA, if_pos c_4, ← tdC_put (v := v)]), (by refine ((va_up_ne (va_up M (mb + 21) (.inl (cI, 1400, .inl (upd (layM cs s0) (700 + ((tdC to0 cs) 13)).toNatClampNeg z)))) (.inl (cI, 14, .inl (upd (tdC to0 cs) 13 (((tdC to0 cs) 13) + 1)))) (show mb + 21 ≠ mb + 3 by omega)).trans (va_up_self M (mb + 21) (.inl (cI, 1400, .inl (upd (layM cs s0) (700 + ((tdC to0 cs) 13)).toNatClampNeg z))))).trans ?_; rw [eA, if_pos c_4, ← layM_put, ← hzv]; show _ = Sum.inl (cI, 1400, Sum.inl (upd (layM cs s0) (700 + cs.length) z)); rw [show ((700 : Int32) + tdC to0 cs 13).toNatClampNeg = 700 + cs.length from by show ((700 : Int32) + nI cs.length).toNatClampNeg = _; rw [show (700 : Int32) = nI 700 from rfl, nI_add]; exact nI_clamp (by omega)]), (fun q n0 n1 => ((va_up_ne _ _ n0).trans (va_up_ne _ _ n1)))⟩ dX13_lay_36
  · skip
    exact q_wvret X hr hlocks hP hS ⟨(by rw [eA, if_neg c_4]; exact m_mb_3), (by rw [eA, if_neg c_4]; exact m_mb_21), (fun q n0 n1 => rfl)⟩ dX13_lay_7
set_option maxHeartbeats 1000000 in
set_option maxRecDepth 100000 in
theorem c_X13_markT (l : Launch) (D : va_G) (cB cI cJ : ClassId) (ad : Nat → Nat) (n : Nat) (M : Nat → va_E) (hI : ipI ad n) (mb en x : Nat) (mv tapeF : Nat → Int32) (nu : Int32) (z : Int32) (h_mb : mb < n) (h_mb_23 : mb + 23 < n) (m_mb : M mb = .inr (12, modF ad mb (mR en tapeF mv x 0 nu))) (m_mb_23 : M (mb + 23) = .inl (cI, 700, .inl tapeF)) (hxe : x ≤ en) (hen : en ≤ 700) (hT : bOK tapeF) (k26 : mv 26 = nI en) (hz : ¬ s_X9_isSign z = 0) (hkz : kX en tapeF x = z) : cWv l D cB cI cJ ad n M yX13_mark wsX13_mark 2 42 [.ref (ad mb), .int z] (fun M' => ∃ (v0 : Int32), M' mb = .inr (12, modF ad mb (mR en tapeF mv (nX en tapeF x) 0 v0)) ∧ ∀ q : Nat, q ≠ mb → M' q = M q) := by
  refine q_body (cc := cX13_mark) (maxL := 2) (ret := none) (by decide) rfl (Nat.le_of_ble_eq_true rfl) ?_
  intro p e s m args below meth c ls X hr hlocks hK hP hl
  obtain ⟨hx, hb, hml, hown, hts⟩ := id X
  have hS : va_S (ipA ad n) s.heap s.heap [] := va_S.rf
  have hl : lv_has ls 2 [(0, .ref (ad mb)), (1, .int z)] := hl
  refine lv_aload_n hx hb dX13_mark_0 rfl (lv_at hl 0 rfl) ?_
  refine q_get (v := .int 0) (fs := modF ad mb (mR en tapeF mv x 0 nu)) X hK hP fX13_mark_222 h_mb m_mb rfl dX13_mark_1 ?_
  refine lv_if_ne (tgt := 20) hx hb dX13_mark_4 (by decide) (fun c_4 => ?_) (fun c_4 => ?_)
  · exact absurd c_4 (by decide)
  · clear c_4
    refine lv_aload_n hx hb dX13_mark_7 rfl (lv_at hl 0 rfl) ?_
    refine lv_iload_n hx hb dX13_mark_8 rfl (lv_at hl 1 rfl) ?_
    refine q_rdV (As := [.int z]) (rest := []) (c_X13_isMarkedR l D cB cI cJ ad n M mb en x mv tapeF nu 0 z h_mb h_mb_23 m_mb m_mb_23 hxe hen hT k26 hz) X hK hP hS hl.1 rfl gX13_mark_X13_isMarked yd_X13_isMarked ⟨Nat.le_of_ble_eq_true rfl, Nat.le_of_ble_eq_true rfl⟩ h_mb m_mb (ci := 12) rfl rfl (Nat.le_of_ble_eq_true rfl) ⟨Nat.zero_le _, Nat.zero_le _⟩ dX13_mark_9 ?_
    refine lv_if_ne (tgt := 20) hx hb dX13_mark_12 (by decide) (fun c_12 => ?_) (fun c_12 => ?_)
    · skip
      refine lv_aload_n hx hb dX13_mark_20 rfl (lv_at hl 0 rfl) ?_
      refine q_get (v := .int 0) (fs := modF ad mb (mR en tapeF mv x 0 nu)) X hK hP fX13_mark_222 h_mb m_mb rfl dX13_mark_21 ?_
      refine lv_if_ne (tgt := 31) hx hb dX13_mark_24 (by decide) (fun c_24 => ?_) (fun c_24 => ?_)
      · exact absurd c_24 (by decide)
      · clear c_24
        refine lv_aload_n hx hb dX13_mark_27 rfl (lv_at hl 0 rfl) ?_
        refine q_wrVv (As := []) (rest := []) (c_X13_stepR l D cB cI cJ ad n M hI mb en x mv tapeF nu h_mb h_mb_23 m_mb m_mb_23 hxe hen hT k26) X hK hP hS hl.1 rfl gX13_mark_X13_stepOn yd_X13_stepOn ⟨Nat.le_of_ble_eq_true rfl, Nat.le_of_ble_eq_true rfl⟩ h_mb m_mb (ci := 12) rfl rfl (Nat.le_of_ble_eq_true rfl) ⟨Nat.zero_le _, Nat.zero_le _⟩ dX13_mark_28 (fun M2 H locs hp1 hP hS => ?_)
        obtain ⟨g4, fr5⟩ := hp1
        exact q_wvret X hr hlocks hP hS ⟨(mnX en tapeF x nu), g4, (fun q n0 => (fr5 q n0))⟩ dX13_mark_31
    · exact absurd c_12 (by rw [mkR, if_pos rfl, if_pos hkz]; decide)
set_option maxHeartbeats 1000000 in
set_option maxRecDepth 100000 in
theorem c_X13_markF (l : Launch) (D : va_G) (cB cI cJ : ClassId) (ad : Nat → Nat) (n : Nat) (M : Nat → va_E) (hI : ipI ad n) (mb en x : Nat) (mv tapeF : Nat → Int32) (nu : Int32) (z : Int32) (h_mb : mb < n) (h_mb_23 : mb + 23 < n) (m_mb : M mb = .inr (12, modF ad mb (mR en tapeF mv x 0 nu))) (m_mb_23 : M (mb + 23) = .inl (cI, 700, .inl tapeF)) (hxe : x ≤ en) (hen : en ≤ 700) (hT : bOK tapeF) (k26 : mv 26 = nI en) (hz : ¬ s_X9_isSign z = 0) (hkz : ¬ kX en tapeF x = z) : cWv l D cB cI cJ ad n M yX13_mark wsX13_mark 1 21 [.ref (ad mb), .int z] (fun M' => ∃ (v0 : Int32), M' mb = .inr (12, modF ad mb (mR en tapeF mv x 1 v0)) ∧ ∀ q : Nat, q ≠ mb → M' q = M q) := by
  refine q_body (cc := cX13_mark) (maxL := 2) (ret := none) (by decide) rfl (Nat.le_of_ble_eq_true rfl) ?_
  intro p e s m args below meth c ls X hr hlocks hK hP hl
  obtain ⟨hx, hb, hml, hown, hts⟩ := id X
  have hS : va_S (ipA ad n) s.heap s.heap [] := va_S.rf
  have hl : lv_has ls 2 [(0, .ref (ad mb)), (1, .int z)] := hl
  refine lv_aload_n hx hb dX13_mark_0 rfl (lv_at hl 0 rfl) ?_
  refine q_get (v := .int 0) (fs := modF ad mb (mR en tapeF mv x 0 nu)) X hK hP fX13_mark_222 h_mb m_mb rfl dX13_mark_1 ?_
  refine lv_if_ne (tgt := 20) hx hb dX13_mark_4 (by decide) (fun c_4 => ?_) (fun c_4 => ?_)
  · exact absurd c_4 (by decide)
  · clear c_4
    refine lv_aload_n hx hb dX13_mark_7 rfl (lv_at hl 0 rfl) ?_
    refine lv_iload_n hx hb dX13_mark_8 rfl (lv_at hl 1 rfl) ?_
    refine q_rdV (As := [.int z]) (rest := []) (c_X13_isMarkedR l D cB cI cJ ad n M mb en x mv tapeF nu 0 z h_mb h_mb_23 m_mb m_mb_23 hxe hen hT k26 hz) X hK hP hS hl.1 rfl gX13_mark_X13_isMarked yd_X13_isMarked ⟨Nat.le_of_ble_eq_true rfl, Nat.le_of_ble_eq_true rfl⟩ h_mb m_mb (ci := 12) rfl rfl (Nat.le_of_ble_eq_true rfl) ⟨Nat.zero_le _, Nat.zero_le _⟩ dX13_mark_9 ?_
    refine lv_if_ne (tgt := 20) hx hb dX13_mark_12 (by decide) (fun c_12 => ?_) (fun c_12 => ?_)
    · exact absurd (by rw [mkR, if_pos rfl, if_neg hkz]) c_12
    · skip
      refine lv_aload_n hx hb dX13_mark_15 rfl (lv_at hl 0 rfl) ?_
      refine lv_iconst (v := 1) hx hb dX13_mark_16 (by decide) ?_
      refine q_wrVv (As := [.int 1]) (rest := []) (c_X13_wrongR l D cB cI cJ ad n M hI mb en x mv tapeF nu 1 h_mb m_mb hxe hen hT k26 (by decide)) X hK hP hS hl.1 rfl gX13_mark_X13_wrong yd_X13_wrong ⟨Nat.le_of_ble_eq_true rfl, Nat.le_of_ble_eq_true rfl⟩ h_mb m_mb (ci := 12) rfl rfl (Nat.le_of_ble_eq_true rfl) ⟨Nat.zero_le _, Nat.zero_le _⟩ dX13_mark_17 (fun M2 H locs hp1 hP hS => ?_)
      obtain ⟨g4, fr5⟩ := hp1
      refine lv_aload_n hx hb dX13_mark_20 rfl (lv_at hl 0 rfl) ?_
      refine q_get (v := .int 1) (fs := modF ad mb (mR en tapeF mv x 1 nu)) X hK hP fX13_mark_222 h_mb g4 rfl dX13_mark_21 ?_
      refine lv_if_ne (tgt := 31) hx hb dX13_mark_24 (by decide) (fun c_24 => ?_) (fun c_24 => ?_)
      · clear c_24
        exact q_wvret X hr hlocks hP hS ⟨nu, g4, (fun q n0 => (fr5 q n0))⟩ dX13_mark_31
      · exact absurd c_24 (by decide)
set_option maxHeartbeats 1000000 in
set_option maxRecDepth 100000 in
theorem c_X13_markB (l : Launch) (D : va_G) (cB cI cJ : ClassId) (ad : Nat → Nat) (n : Nat) (M : Nat → va_E) (hI : ipI ad n) (mb en x : Nat) (mv tapeF : Nat → Int32) (nu : Int32) (f z : Int32) (h_mb : mb < n) (m_mb : M mb = .inr (12, modF ad mb (mR en tapeF mv x f nu))) (hf0 : ¬ f = 0) : cWv l D cB cI cJ ad n M yX13_mark wsX13_mark 0 0 [.ref (ad mb), .int z] (fun M' => ∀ q : Nat, M' q = M q) := by
  refine q_body (cc := cX13_mark) (maxL := 2) (ret := none) (by decide) rfl (Nat.le_of_ble_eq_true rfl) ?_
  intro p e s m args below meth c ls X hr hlocks hK hP hl
  obtain ⟨hx, hb, hml, hown, hts⟩ := id X
  have hS : va_S (ipA ad n) s.heap s.heap [] := va_S.rf
  have hl : lv_has ls 2 [(0, .ref (ad mb)), (1, .int z)] := hl
  refine lv_aload_n hx hb dX13_mark_0 rfl (lv_at hl 0 rfl) ?_
  refine q_get (v := .int f) (fs := modF ad mb (mR en tapeF mv x f nu)) X hK hP fX13_mark_222 h_mb m_mb rfl dX13_mark_1 ?_
  refine lv_if_ne (tgt := 20) hx hb dX13_mark_4 (by decide) (fun c_4 => ?_) (fun c_4 => ?_)
  · skip
    refine lv_aload_n hx hb dX13_mark_20 rfl (lv_at hl 0 rfl) ?_
    refine q_get (v := .int f) (fs := modF ad mb (mR en tapeF mv x f nu)) X hK hP fX13_mark_222 h_mb m_mb rfl dX13_mark_21 ?_
    refine lv_if_ne (tgt := 31) hx hb dX13_mark_24 (by decide) (fun c_24 => ?_) (fun c_24 => ?_)
    · skip
      exact q_wvret X hr hlocks hP hS (fun q => rfl) dX13_mark_31
    · exact absurd c_24 hf0
  · exact absurd c_4 hf0
end
