/-! PoundsOverModel: whether things can be put; opened *-/
noncomputable section
theorem b01 (x : Int32) : x &&& 1 = 0 ∨ x &&& 1 = 1 := by
  obtain ⟨j, hj, e⟩ := pk_andE x (m := 1) 1 (by decide)
  rw [e]
  have : j = 0 ∨ j = 1 := by omega
  rcases this with rfl | rfl
  · exact Or.inl rfl
  · exact Or.inr rfl
def anyN (f : Nat → Int32) : Nat → Nat → Int32
  | 0, _ => 0
  | r + 1, c => if f c = 0 then anyN f r (c + 1) else 1
theorem an_0 {f : Nat → Int32} {r c : Nat} (h : f c = 0) : anyN f (r + 1) c = anyN f r (c + 1) := by rw [anyN, if_pos h]
theorem an_1 {f : Nat → Int32} {r c : Nat} (h : ¬ f c = 0) : anyN f (r + 1) c = 1 := by rw [anyN, if_neg h]
theorem sk0 {a b : Int32} (h : a = 0) : (if a = 0 then (0 : Int32) else b) = 0 := if_pos h
theorem sk1 {a b : Int32} (h : a = 1) (hb : b = 0) : (if a = 0 then (0 : Int32) else b) = 0 := by rw [h, if_neg (by decide)]; exact hb
theorem sk2 {a b : Int32} (h : a = 1) (hb : ¬ b = 0) : ¬ (if a = 0 then (0 : Int32) else b) = 0 := by rw [h, if_neg (by decide)]; exact hb
def pcC (nt nc : Nat) (bearsF ownerF limitF holdsF boardF kindF heavyF wideF hotF : Nat → Int32) (z : Int32) (pl : Nat → Int32) (t c : Nat) : Int32 := if (z >>> (nI c &&& 31)) &&& 1 = 0 then 0 else if kindF t = 2 then (if boardF c = 1 then 0 else if holdsF c < s_X13_sumAt nt kindF heavyF wideF hotF pl (nI c) 2 + wideF t then 0 else if s_X13_sumAt nt kindF heavyF wideF hotF pl (nI c) 1 + heavyF t ≤ limitF c then 1 else 0) else if holdsF c < s_X13_sumAt nt kindF heavyF wideF hotF pl (nI c) 2 + wideF t then 0 else if s_X13_sumAt nt kindF heavyF wideF hotF pl (nI c) 1 + heavyF t ≤ limitF c then 1 else 0
def pcP (nt nc : Nat) (bearsF ownerF limitF holdsF boardF kindF heavyF wideF hotF : Nat → Int32) (z : Int32) (pl : Nat → Int32) (t p : Nat) : Int32 := if s_X13_ownsOne nc ownerF (nI p) z = 0 then 0 else if s_X13_sumAt nt kindF heavyF wideF hotF pl (10 + nI p) 3 + hotF t ≤ bearsF p then 1 else 0
def cpN (inC inP : (Nat → Int32) → Nat → Nat → Int32) (kindF : Nat → Int32) (y : Int32) (nc np t : Nat) (E : (Nat → Int32) → Int32) (pl : Nat → Int32) : Int32 := if (y >>> (nI t &&& 31)) &&& 1 = 0 then E pl else if anyN (fun c => if inC pl t c = 0 then 0 else E (upd pl t (nI c))) nc 0 = 0 then (if kindF t = 1 then anyN (fun p => if inP pl t p = 0 then 0 else E (upd pl t (10 + nI p))) np 0 else 0) else 1
def cpS (inC inP : (Nat → Int32) → Nat → Nat → Int32) (kindF : Nat → Int32) (y : Int32) (nc np : Nat) : Nat → Nat → (Nat → Int32) → Int32
  | 0, _ => fun _ => 1
  | r + 1, t => cpN inC inP kindF y nc np t (cpS inC inP kindF y nc np r (t + 1))
theorem an_nb (f : Nat → Int32) : ∀ r c : Nat, narrow .boolean (.int (anyN f r c)) = .int (anyN f r c)
  | 0, _ => by rw [anyN]; rfl
  | r + 1, c => by
    rw [anyN]
    split
    · exact an_nb f r (c + 1)
    · rfl
theorem cp_nb (inC inP : (Nat → Int32) → Nat → Nat → Int32) (kindF : Nat → Int32) (y : Int32) (nc np : Nat) : ∀ (r t : Nat) (f : Nat → Int32), narrow .boolean (.int (cpS inC inP kindF y nc np r t f)) = .int (cpS inC inP kindF y nc np r t f)
  | 0, _, _ => by rw [cpS]; exact (rfl : narrow .boolean (.int (1 : Int32)) = .int 1)
  | r + 1, t, f => by
    rw [cpS, cpN]
    (repeat' split) <;> first | exact cp_nb inC inP kindF y nc np r (t + 1) f | exact an_nb _ _ _ | rfl
def gbF (y : Int32) (f : Nat → Int32) (t : Nat) : Nat → Int32 := fun q => if q < t then (if (y >>> (nI q &&& 31)) &&& 1 = 1 then -1 else f q) else f q
theorem gbF_0 (y : Int32) (f : Nat → Int32) : gbF y f 0 = f := by funext q; exact if_neg (Nat.not_lt_zero q)
theorem gbF_s (y : Int32) (f : Nat → Int32) (t : Nat) (h : (y >>> (nI t &&& 31)) &&& 1 = 1) : upd (gbF y f t) t (-1) = gbF y f (t + 1) := by
  funext q
  simp only [upd, gbF]
  by_cases e : q = t
  · subst e; rw [if_pos rfl, if_pos (Nat.lt_succ_self _), if_pos h]
  · rw [if_neg e]
    by_cases c : q < t
    · rw [if_pos c, if_pos (show q < t + 1 by omega)]
    · rw [if_neg c, if_neg (show ¬ q < t + 1 by omega)]
theorem gbF_n (y : Int32) (f : Nat → Int32) (t : Nat) (h : ¬ (y >>> (nI t &&& 31)) &&& 1 = 1) : gbF y f t = gbF y f (t + 1) := by
  funext q
  simp only [gbF]
  by_cases e : q = t
  · subst e; rw [if_neg (Nat.lt_irrefl _), if_pos (Nat.lt_succ_self _), if_neg h]
  · by_cases c : q < t
    · rw [if_pos c, if_pos (show q < t + 1 by omega)]
    · rw [if_neg c, if_neg (show ¬ q < t + 1 by omega)]
theorem gbF_at {y : Int32} {f : Nat → Int32} {t : Nat} : gbF y f t t = f t := if_neg (Nat.lt_irrefl t)
theorem gbF_pl {y : Int32} {f : Nat → Int32} {nt : Nat} : ∀ q : Nat, 0 ≤ q → q < nt → ¬ (y >>> (nI q &&& 31)) &&& 1 = 0 → gbF y f nt q = -1 := by
  intro q _ h1 h2
  unfold gbF
  rw [if_pos h1, if_pos ((b01 _).resolve_left h2)]
def rsF (f g : Nat → Int32) (t : Nat) : Nat → Int32 := fun q => if q < t then f q else g q
theorem rsF_0 (f g : Nat → Int32) : rsF f g 0 = g := by funext q; exact if_neg (Nat.not_lt_zero q)
theorem rsF_s (f g : Nat → Int32) (t : Nat) : upd (rsF f g t) t (f t) = rsF f g (t + 1) := by
  funext q
  simp only [upd, rsF]
  (repeat' split) <;> first | rfl | (exfalso; omega) | (subst_vars; rfl)
theorem rsF_n (y : Int32) (f : Nat → Int32) (nt : Nat) : rsF f (gbF y f nt) nt = f := by
  funext q
  simp only [rsF, gbF]
  (repeat' split) <;> first | rfl | (exfalso; omega)
theorem up_none {f : Nat → Int32} {t : Nat} {a : Int32} (h : f t = -1) : upd (upd f t a) t (-1) = f := by rw [← h]; exact up_back f t a
theorem wc_s (f g : Nat → Int32) (t : Nat) : upd (rsF f g t) t (f t) = rsF f g (t + 1) := rsF_s f g t
def thS (sm : Nat → Int32) (s : Int32) : Nat → Int32
  | 0 => 0
  | c + 1 => if (s >>> (nI c &&& 31)) &&& 1 = 1 then thS sm s c ||| sm c else thS sm s c ||| 0
def opK (cost bits : Int32 → Int32) (s b : Int32) : Int32 := if b = -1 then 1 else if cost b < cost s then 0 else if cost s = cost b then (if bits s < bits b then 1 else 0) else 1
def opdS (cost bits th og : Int32 → Int32) (gb : Int32 → Int32 → Int32) : Nat → Nat → Int32 → Int32
  | 0, _, b => b
  | r + 1, s, b => if opK cost bits (nI s) b = 0 then opdS cost bits th og gb r (s + 1) b else if bits (th (nI s)) ≤ 8 then (if og (nI s) = 0 then opdS cost bits th og gb r (s + 1) b else if gb (nI s) (th (nI s)) = 0 then opdS cost bits th og gb r (s + 1) b else opdS cost bits th og gb r (s + 1) (nI s)) else -2
def pCon (l : Launch) (D : va_G) (cB cI cJ : ClassId) (ad : Nat → Nat) (n : Nat) (fE lE : Nat) (mb nt : Nat) (mv toldF bearsF ownerF limitF holdsF boardF kindF heavyF wideF hotF : Nat → Int32) (t : Nat) (tv y z : Int32) (E : (Nat → Int32) → Int32) : Prop := ∀ (M : Nat → va_E) (_ : ipI ad n) (placeF : Nat → Int32) (_ : mb < n) (_ : mb + 3 < n) (_ : mb + 6 < n) (_ : mb + 7 < n) (_ : mb + 8 < n) (_ : mb + 9 < n) (_ : mb + 11 < n) (_ : mb + 12 < n) (_ : mb + 13 < n) (_ : mb + 15 < n) (_ : mb + 17 < n) (_ : mb + 18 < n) (_ : M mb = .inr (12, modF ad mb mv)) (_ : M (mb + 3) = .inl (cI, 14, .inl toldF)) (_ : M (mb + 6) = .inl (cI, 8, .inl bearsF)) (_ : M (mb + 7) = .inl (cI, 10, .inl ownerF)) (_ : M (mb + 8) = .inl (cI, 10, .inl limitF)) (_ : M (mb + 9) = .inl (cI, 10, .inl holdsF)) (_ : M (mb + 11) = .inl (cI, 10, .inl boardF)) (_ : M (mb + 12) = .inl (cI, 24, .inl kindF)) (_ : M (mb + 13) = .inl (cI, 24, .inl heavyF)) (_ : M (mb + 15) = .inl (cI, 24, .inl wideF)) (_ : M (mb + 17) = .inl (cI, 24, .inl hotF)) (_ : M (mb + 18) = .inl (cI, 24, .inl placeF)) (_ : ∀ q : Nat, t ≤ q → q < nt → ¬ (y >>> (nI q &&& 31)) &&& 1 = 0 → placeF q = -1), cWi l D cB cI cJ ad n M yX13_canPut wsX13_canPut fE lE [.ref (ad mb), .int tv, .int y, .int z] (fun r M' => r = (E placeF) ∧ M' (mb + 18) = .inl (cI, 24, .inl placeF) ∧ ∀ q : Nat, q ≠ mb + 18 → M' q = M q)
set_option maxRecDepth 20000 in
theorem fX13_canPut_40 : FL wsX13_canPut RX13 40 12 3 := ⟨RX13, TX13, 67, rfl, by decide +kernel, by decide, by decide +kernel⟩
set_option maxRecDepth 20000 in
theorem fX13_canPut_66 : FL wsX13_canPut RX13 66 12 12 := ⟨RX13, TX13, 67, rfl, by decide +kernel, by decide, by decide +kernel⟩
theorem yd_X13_ownsOne : YD yX13_ownsOne 2 := ⟨by decide +kernel, by decide +kernel, by decide +kernel⟩
set_option maxRecDepth 20000 in
theorem fX13_canPut_81 : FL wsX13_canPut RX13 81 12 17 := ⟨RX13, TX13, 67, rfl, by decide +kernel, by decide, by decide +kernel⟩
set_option maxRecDepth 20000 in
theorem fX13_canPut_50 : FL wsX13_canPut RX13 50 12 6 := ⟨RX13, TX13, 67, rfl, by decide +kernel, by decide, by decide +kernel⟩
set_option maxRecDepth 20000 in
theorem fX13_canPut_84 : FL wsX13_canPut RX13 84 12 18 := ⟨RX13, TX13, 67, rfl, by decide +kernel, by decide, by decide +kernel⟩
theorem yd_X13_canPut : YD yX13_canPut 3 := ⟨by decide +kernel, by decide +kernel, by decide +kernel⟩
set_option maxRecDepth 20000 in
theorem fX13_canPut_75 : FL wsX13_canPut RX13 75 12 15 := ⟨RX13, TX13, 67, rfl, by decide +kernel, by decide, by decide +kernel⟩
set_option maxRecDepth 20000 in
theorem fX13_canPut_58 : FL wsX13_canPut RX13 58 12 9 := ⟨RX13, TX13, 67, rfl, by decide +kernel, by decide, by decide +kernel⟩
set_option maxRecDepth 20000 in
theorem fX13_canPut_69 : FL wsX13_canPut RX13 69 12 13 := ⟨RX13, TX13, 67, rfl, by decide +kernel, by decide, by decide +kernel⟩
set_option maxRecDepth 20000 in
theorem fX13_canPut_56 : FL wsX13_canPut RX13 56 12 8 := ⟨RX13, TX13, 67, rfl, by decide +kernel, by decide, by decide +kernel⟩
set_option maxRecDepth 20000 in
theorem fX13_canPut_64 : FL wsX13_canPut RX13 64 12 11 := ⟨RX13, TX13, 67, rfl, by decide +kernel, by decide, by decide +kernel⟩
set_option maxHeartbeats 4000000 in
set_option maxRecDepth 100000 in
theorem c_X13_canPut (l : Launch) (D : va_G) (cB cI cJ : ClassId) (ad : Nat → Nat) (n : Nat) (M : Nat → va_E) (hI : ipI ad n) (mb nt nc np nq : Nat) (mv toldF bearsF ownerF limitF holdsF boardF kindF heavyF wideF hotF placeF : Nat → Int32) (t : Nat) (y z : Int32) (fE lE : Nat) (E : (Nat → Int32) → Int32) (h_mb : mb < n) (h_mb_3 : mb + 3 < n) (h_mb_6 : mb + 6 < n) (h_mb_7 : mb + 7 < n) (h_mb_8 : mb + 8 < n) (h_mb_9 : mb + 9 < n) (h_mb_11 : mb + 11 < n) (h_mb_12 : mb + 12 < n) (h_mb_13 : mb + 13 < n) (h_mb_15 : mb + 15 < n) (h_mb_17 : mb + 17 < n) (h_mb_18 : mb + 18 < n) (m_mb : M mb = .inr (12, modF ad mb mv)) (m_mb_3 : M (mb + 3) = .inl (cI, 14, .inl toldF)) (m_mb_6 : M (mb + 6) = .inl (cI, 8, .inl bearsF)) (m_mb_7 : M (mb + 7) = .inl (cI, 10, .inl ownerF)) (m_mb_8 : M (mb + 8) = .inl (cI, 10, .inl limitF)) (m_mb_9 : M (mb + 9) = .inl (cI, 10, .inl holdsF)) (m_mb_11 : M (mb + 11) = .inl (cI, 10, .inl boardF)) (m_mb_12 : M (mb + 12) = .inl (cI, 24, .inl kindF)) (m_mb_13 : M (mb + 13) = .inl (cI, 24, .inl heavyF)) (m_mb_15 : M (mb + 15) = .inl (cI, 24, .inl wideF)) (m_mb_17 : M (mb + 17) = .inl (cI, 24, .inl hotF)) (m_mb_18 : M (mb + 18) = .inl (cI, 24, .inl placeF)) (k0 : toldF 0 = nI np) (hnp : np ≤ 4) (k1 : toldF 1 = nI nc) (hnc : nc ≤ 5) (k2 : toldF 2 = nI nt) (hnt : nt ≤ 12) (k3 : toldF 3 = nI nq) (hnq : nq ≤ 6) (ht9 : t < nt) (hpl : ∀ q : Nat, t ≤ q → q < nt → ¬ (y >>> (nI q &&& 31)) &&& 1 = 0 → placeF q = -1) (hfE : 10 ≤ fE) (hlE : 200 ≤ lE) (hEb : ∀ f : Nat → Int32, narrow .boolean (.int (E f)) = .int (E f)) (hE : pCon l D cB cI cJ ad n fE lE mb nt mv toldF bearsF ownerF limitF holdsF boardF kindF heavyF wideF hotF (t + 1) (nI t + 1) y z E) : cWi l D cB cI cJ ad n M yX13_canPut wsX13_canPut (fE + 1) (lE + 30) [.ref (ad mb), .int (nI t), .int y, .int z] (fun r M' => r = (cpN (pcC nt nc bearsF ownerF limitF holdsF boardF kindF heavyF wideF hotF z) (pcP nt nc bearsF ownerF limitF holdsF boardF kindF heavyF wideF hotF z) kindF y nc np t E placeF) ∧ M' (mb + 18) = .inl (cI, 24, .inl placeF) ∧ ∀ q : Nat, q ≠ mb + 18 → M' q = M q) := by
  refine q_body (cc := cX13_canPut) (maxL := 6) (ret := (some .boolean)) (by decide) rfl (Nat.le_of_ble_eq_true rfl) ?_
  intro p e s m args below meth c ls X hr hlocks hK hP hl
  obtain ⟨hx, hb, hml, hown, hts⟩ := id X
  have hS : va_S (ipA ad n) s.heap s.heap [] := va_S.rf
  have hl : lv_has ls 6 [(0, .ref (ad mb)), (1, .int (nI t)), (2, .int y), (3, .int z)] := hl
  refine lv_iload_n hx hb dX13_canPut_0 rfl (lv_at hl 1 rfl) ?_
  refine lv_aload_n hx hb dX13_canPut_1 rfl (lv_at hl 0 rfl) ?_
  refine q_get (v := .ref (ad (mb + 3))) (fs := modF ad mb mv) X hK hP fX13_canPut_40 h_mb m_mb rfl dX13_canPut_2 ?_
  refine lv_iconst (v := 2) hx hb dX13_canPut_5 (by decide) ?_
  refine q_ialdN (f := toldF) (k := 14) X hK hP 2 h_mb_3 m_mb_3 (by decide) (by decide) dX13_canPut_6 ?_
  refine lv_icmp_ne (tgt := 12) hx hb dX13_canPut_7 (by decide) (fun c_7 => ?_) (fun c_7 => ?_)
  · skip
    refine lv_iload_n hx hb dX13_canPut_12 rfl (lv_at hl 2 rfl) ?_
    refine lv_iload_n hx hb dX13_canPut_13 rfl (lv_at hl 1 rfl) ?_
    refine lv_ishr hx hb dX13_canPut_14 ?_
    refine lv_iconst (v := 1) hx hb dX13_canPut_15 (by decide) ?_
    refine lv_iand hx hb dX13_canPut_16 ?_
    refine lv_if_ne (tgt := 30) hx hb dX13_canPut_17 (by decide) (fun c_17 => ?_) (fun c_17 => ?_)
    · skip
      have hpt : placeF t = -1 := hpl t (Nat.le_refl _) ht9 c_17
      refine lv_iconst (v := 0) hx hb dX13_canPut_30 (by decide) ?_
      refine lv_istore (lv' := [(4, .int 0), (0, .ref (ad mb)), (1, .int (nI t)), (2, .int y), (3, .int z)]) hx hb dX13_canPut_31 hl (by decide) rfl (fun ls hl => ?_)
      have loop_33 : ∀ (fuel : Nat) (c1 : Nat) (x4 : Int32), nc - c1 < fuel → (c1 ≤ nc) → (anyN (fun c => if (pcC nt nc bearsF ownerF limitF holdsF boardF kindF heavyF wideF hotF z) placeF t c = 0 then 0 else E (upd placeF t (nI c))) (nc - c1) c1 = anyN (fun c => if (pcC nt nc bearsF ownerF limitF holdsF boardF kindF heavyF wideF hotF z) placeF t c = 0 then 0 else E (upd placeF t (nI c))) nc 0) → x4 = nI c1 → ∀ (ML33 : Nat → va_E) (H : Heap) (locs : List Loc), ML33 (mb + 18) = .inl (cI, 24, .inl placeF) → (∀ q : Nat, q ≠ mb + 18 → ML33 q = M q) → va_P D vwCl (ip ad n ML33) H → va_S (ipA ad n) s.heap H locs → ∀ (ls : Array Slot), lv_has ls 6 [(0, .ref (ad mb)), (1, .int (nI t)), (2, .int y), (3, .int z), (4, .int x4)] → W p l e (rmOf (fE + 1) (lE + 30)) s m args below meth c H locs 0 0 (MQ below (va_Qi (fun r M' => r = (cpN (pcC nt nc bearsF ownerF limitF holdsF boardF kindF heavyF wideF hotF z) (pcP nt nc bearsF ownerF limitF holdsF boardF kindF heavyF wideF hotF z) kindF y nc np t E placeF) ∧ M' (mb + 18) = .inl (cI, 24, .inl placeF) ∧ ∀ q : Nat, q ≠ mb + 18 → M' q = M q) (fun M' t => va_P D vwCl (ip ad n M') t.heap) (ipA ad n)) args s 0 0 (ipA ad n)) (F0 m 33 ls []) := by
        intro fuel
        induction fuel with
        | zero =>
          intro c1 x4 hz
          exact absurd hz (Nat.not_lt_zero _)
        | succ fuel ih_33 =>
          intro c1 x4 hz_33 hc he1 e4 ML33 H locs mL33_0 fL33 hP hS ls hl
          subst e4
          skip
          refine lv_iload hx hb dX13_canPut_33 (lv_at hl 4 rfl) ?_
          refine lv_aload_n hx hb dX13_canPut_35 rfl (lv_at hl 0 rfl) ?_
          refine q_get (v := .ref (ad (mb + 3))) (fs := modF ad mb mv) X hK hP fX13_canPut_40 h_mb ((fL33 mb (by omega)).trans m_mb) rfl dX13_canPut_36 ?_
          refine lv_iconst (v := 1) hx hb dX13_canPut_39 (by decide) ?_
          refine q_ialdN (f := toldF) (k := 14) X hK hP 1 h_mb_3 ((fL33 (mb + 3) (by omega)).trans m_mb_3) (by decide) (by decide) dX13_canPut_40 ?_
          refine lv_icmp_ge (tgt := 164) hx hb dX13_canPut_41 (by decide) (fun c_41 => ?_) (fun c_41 => ?_)
          · skip
            rw [k1] at c_41; have h9 : c1 = nc := eq_of_le c_41 (by omega) hc; have ha1 : anyN (fun c => if (pcC nt nc bearsF ownerF limitF holdsF boardF kindF heavyF wideF hotF z) placeF t c = 0 then 0 else E (upd placeF t (nI c))) nc 0 = 0 := (by rw [← he1, h9, Nat.sub_self]; rfl)
            refine lv_iconst (v := 0) hx hb dX13_canPut_164 (by decide) ?_
            refine lv_istore (lv' := [(4, .int 0), (0, .ref (ad mb)), (1, .int (nI t)), (2, .int y), (3, .int z)]) hx hb dX13_canPut_165 hl (by decide) rfl (fun ls hl => ?_)
            have loop_167 : ∀ (fuel : Nat) (p1 : Nat) (x4 : Int32), np - p1 < fuel → (p1 ≤ np) → (p1 = 0 ∨ kindF t = 1) → (anyN (fun p => if (pcP nt nc bearsF ownerF limitF holdsF boardF kindF heavyF wideF hotF z) placeF t p = 0 then 0 else E (upd placeF t (10 + nI p))) (np - p1) p1 = anyN (fun p => if (pcP nt nc bearsF ownerF limitF holdsF boardF kindF heavyF wideF hotF z) placeF t p = 0 then 0 else E (upd placeF t (10 + nI p))) np 0) → x4 = nI p1 → ∀ (ML167 : Nat → va_E) (H : Heap) (locs : List Loc), ML167 (mb + 18) = .inl (cI, 24, .inl placeF) → (∀ q : Nat, q ≠ mb + 18 → ML167 q = M q) → va_P D vwCl (ip ad n ML167) H → va_S (ipA ad n) s.heap H locs → ∀ (ls : Array Slot), lv_has ls 6 [(0, .ref (ad mb)), (1, .int (nI t)), (2, .int y), (3, .int z), (4, .int x4)] → W p l e (rmOf (fE + 1) (lE + 30)) s m args below meth c H locs 0 0 (MQ below (va_Qi (fun r M' => r = (cpN (pcC nt nc bearsF ownerF limitF holdsF boardF kindF heavyF wideF hotF z) (pcP nt nc bearsF ownerF limitF holdsF boardF kindF heavyF wideF hotF z) kindF y nc np t E placeF) ∧ M' (mb + 18) = .inl (cI, 24, .inl placeF) ∧ ∀ q : Nat, q ≠ mb + 18 → M' q = M q) (fun M' t => va_P D vwCl (ip ad n M') t.heap) (ipA ad n)) args s 0 0 (ipA ad n)) (F0 m 167 ls []) := by
              intro fuel
              induction fuel with
              | zero =>
                intro p1 x4 hz
                exact absurd hz (Nat.not_lt_zero _)
              | succ fuel ih_167 =>
                intro p1 x4 hz_167 hp hq9 he2 e4 ML167 H locs mL167_0 fL167 hP hS ls hl
                subst e4
                skip
                refine lv_iload hx hb dX13_canPut_167 (lv_at hl 4 rfl) ?_
                refine lv_aload_n hx hb dX13_canPut_169 rfl (lv_at hl 0 rfl) ?_
                refine q_get (v := .ref (ad (mb + 3))) (fs := modF ad mb mv) X hK hP fX13_canPut_40 h_mb ((fL167 mb (by omega)).trans m_mb) rfl dX13_canPut_170 ?_
                refine lv_iconst (v := 0) hx hb dX13_canPut_173 (by decide) ?_
                refine q_ialdN (f := toldF) (k := 14) X hK hP 0 h_mb_3 ((fL167 (mb + 3) (by omega)).trans m_mb_3) (by decide) (by decide) dX13_canPut_174 ?_
                refine lv_icmp_ge (tgt := 270) hx hb dX13_canPut_175 (by decide) (fun c_175 => ?_) (fun c_175 => ?_)
                · skip
                  rw [k0] at c_175; have h8 : p1 = np := eq_of_le c_175 (by omega) hp; have ha2 : anyN (fun p => if (pcP nt nc bearsF ownerF limitF holdsF boardF kindF heavyF wideF hotF z) placeF t p = 0 then 0 else E (upd placeF t (10 + nI p))) np 0 = 0 := (by rw [← he2, h8, Nat.sub_self]; rfl)
                  refine lv_iconst (v := 0) hx hb dX13_canPut_270 (by decide) ?_
                  exact q_wzret X hr hlocks hP hS (rfl) ⟨(by rw [cpN, if_neg c_17, if_pos ha1]; first | (rw [if_neg c_185]; done) | (split <;> first | exact ha2.symm | rfl)), mL167_0, (fun q n0 => (fL167 q n0))⟩ dX13_canPut_271
                · skip
                  rw [k0] at c_175; have h8 := lt_of_nlt c_175 (by omega) hp
                  refine lv_aload_n hx hb dX13_canPut_178 rfl (lv_at hl 0 rfl) ?_
                  refine q_get (v := .ref (ad (mb + 12))) (fs := modF ad mb mv) X hK hP fX13_canPut_66 h_mb ((fL167 mb (by omega)).trans m_mb) rfl dX13_canPut_179 ?_
                  refine lv_iload_n hx hb dX13_canPut_182 rfl (lv_at hl 1 rfl) ?_
                  refine q_ialdN (f := kindF) (k := 24) X hK hP t h_mb_12 ((fL167 (mb + 12) (by omega)).trans m_mb_12) (by omega) (by decide) dX13_canPut_183 ?_
                  refine lv_iconst (v := 1) hx hb dX13_canPut_184 (by decide) ?_
                  refine lv_icmp_ne (tgt := 270) hx hb dX13_canPut_185 (by decide) (fun c_185 => ?_) (fun c_185 => ?_)
                  · skip
                    refine lv_iconst (v := 0) hx hb dX13_canPut_270 (by decide) ?_
                    exact q_wzret X hr hlocks hP hS (rfl) ⟨(by rw [cpN, if_neg c_17, if_pos ha1]; first | (rw [if_neg c_185]; done) | (split <;> first | exact ha2.symm | rfl)), mL167_0, (fun q n0 => (fL167 q n0))⟩ dX13_canPut_271
                  · skip
                    refine lv_aload_n hx hb dX13_canPut_188 rfl (lv_at hl 0 rfl) ?_
                    refine lv_iload hx hb dX13_canPut_189 (lv_at hl 4 rfl) ?_
                    refine lv_iload_n hx hb dX13_canPut_191 rfl (lv_at hl 3 rfl) ?_
                    refine q_rdV (As := [.int (nI p1), .int z]) (rest := []) (c_X13_ownsOne l D cB cI cJ ad n ML167 mb nt nc np nq mv toldF ownerF (nI p1) z h_mb h_mb_3 h_mb_7 ((fL167 mb (by omega)).trans m_mb) ((fL167 (mb + 3) (by omega)).trans m_mb_3) ((fL167 (mb + 7) (by omega)).trans m_mb_7) k0 hnp k1 hnc k2 hnt k3 hnq) X hK hP hS hl.1 rfl gX13_canPut_X13_ownsOne yd_X13_ownsOne ⟨by show 0 + 1 ≤ fE + 1; omega, by show 8 + (4 + 11) + (0) ≤ lE + 30; omega⟩ h_mb ((fL167 mb (by omega)).trans m_mb) (ci := 12) rfl rfl (Nat.le_of_ble_eq_true rfl) ⟨Nat.zero_le _, Nat.zero_le _⟩ dX13_canPut_192 ?_
                    refine lv_if_eq (tgt := 264) hx hb dX13_canPut_195 (by decide) (fun c_195 => ?_) (fun c_195 => ?_)
                    · skip
                      refine lv_iinc (v := ((nI p1) + 1)) (lv' := [(4, .int ((nI p1) + 1)), (0, .ref (ad mb)), (1, .int (nI t)), (2, .int y), (3, .int z)]) hx hb dX13_canPut_264 hl (k := 4) rfl rfl (by decide) rfl (fun ls hl => ?_)
                      refine lv_goto (tgt := 167) hx hb dX13_canPut_267 (by decide) ?_
                      exact ih_167 (p1 + 1) ((nI p1) + 1) (by omega) (by omega) (by exact Or.inr c_185) (by rw [← he2, show np - p1 = (np - (p1 + 1)) + 1 by omega]; first | exact (an_0 (f := (fun p => if (pcP nt nc bearsF ownerF limitF holdsF boardF kindF heavyF wideF hotF z) placeF t p = 0 then 0 else E (upd placeF t (10 + nI p)))) (sk1 (by rw [pcP]; first | (rw [if_pos c_195]; done) | (rw [if_neg c_195, if_pos c_222]; done)) c_259)).symm | exact (an_0 (f := (fun p => if (pcP nt nc bearsF ownerF limitF holdsF boardF kindF heavyF wideF hotF z) placeF t p = 0 then 0 else E (upd placeF t (10 + nI p)))) (sk0 (by rw [pcP]; first | (rw [if_pos c_195]; done) | (rw [if_neg c_195, if_neg c_222]; done)))).symm) (by exact nI_1 _) _ _ _ (by first | exact mL167_0 | exact mL167_0.trans (by rw [up_none hpt])) (fun q n0 => (fL167 q n0)) hP hS ls (lv_sub hl [1, 2, 3, 4, 0] rfl)
                    · skip
                      refine lv_aload_n hx hb dX13_canPut_198 rfl (lv_at hl 0 rfl) ?_
                      refine lv_bipush (v := 10) hx hb dX13_canPut_199 (by decide) ?_
                      refine lv_iload hx hb dX13_canPut_201 (lv_at hl 4 rfl) ?_
                      refine lv_iadd hx hb dX13_canPut_203 ?_
                      refine lv_iconst (v := 3) hx hb dX13_canPut_204 (by decide) ?_
                      refine q_rdV (As := [.int (10 + (nI p1)), .int 3]) (rest := []) (c_X13_sumAt l D cB cI cJ ad n ML167 mb nt nc np nq mv toldF kindF heavyF wideF hotF placeF (10 + (nI p1)) 3 h_mb h_mb_3 h_mb_12 h_mb_13 h_mb_15 h_mb_17 h_mb_18 ((fL167 mb (by omega)).trans m_mb) ((fL167 (mb + 3) (by omega)).trans m_mb_3) ((fL167 (mb + 12) (by omega)).trans m_mb_12) ((fL167 (mb + 13) (by omega)).trans m_mb_13) ((fL167 (mb + 15) (by omega)).trans m_mb_15) ((fL167 (mb + 17) (by omega)).trans m_mb_17) mL167_0 k0 hnp k1 hnc k2 hnt k3 hnq) X hK hP hS hl.1 rfl gX13_canPut_X13_sumAt yd_X13_sumAt ⟨by show 0 + 1 ≤ fE + 1; omega, by show 8 + (6 + 11) + (0) ≤ lE + 30; omega⟩ h_mb ((fL167 mb (by omega)).trans m_mb) (ci := 12) rfl rfl (Nat.le_of_ble_eq_true rfl) ⟨Nat.zero_le _, Nat.zero_le _⟩ dX13_canPut_205 ?_
                      refine lv_aload_n hx hb dX13_canPut_208 rfl (lv_at hl 0 rfl) ?_
                      refine q_get (v := .ref (ad (mb + 17))) (fs := modF ad mb mv) X hK hP fX13_canPut_81 h_mb ((fL167 mb (by omega)).trans m_mb) rfl dX13_canPut_209 ?_
                      refine lv_iload_n hx hb dX13_canPut_212 rfl (lv_at hl 1 rfl) ?_
                      refine q_ialdN (f := hotF) (k := 24) X hK hP t h_mb_17 ((fL167 (mb + 17) (by omega)).trans m_mb_17) (by omega) (by decide) dX13_canPut_213 ?_
                      refine lv_iadd hx hb dX13_canPut_214 ?_
                      refine lv_aload_n hx hb dX13_canPut_215 rfl (lv_at hl 0 rfl) ?_
                      refine q_get (v := .ref (ad (mb + 6))) (fs := modF ad mb mv) X hK hP fX13_canPut_50 h_mb ((fL167 mb (by omega)).trans m_mb) rfl dX13_canPut_216 ?_
                      refine lv_iload hx hb dX13_canPut_219 (lv_at hl 4 rfl) ?_
                      refine q_ialdN (f := bearsF) (k := 8) X hK hP p1 h_mb_6 ((fL167 (mb + 6) (by omega)).trans m_mb_6) (by omega) (by decide) dX13_canPut_221 ?_
                      refine lv_icmp_le (tgt := 228) hx hb dX13_canPut_222 (by decide) (fun c_222 => ?_) (fun c_222 => ?_)
                      · skip
                        refine lv_aload_n hx hb dX13_canPut_228 rfl (lv_at hl 0 rfl) ?_
                        refine q_get (v := .ref (ad (mb + 18))) (fs := modF ad mb mv) X hK hP fX13_canPut_84 h_mb ((fL167 mb (by omega)).trans m_mb) rfl dX13_canPut_229 ?_
                        refine lv_iload_n hx hb dX13_canPut_232 rfl (lv_at hl 1 rfl) ?_
                        refine lv_bipush (v := 10) hx hb dX13_canPut_233 (by decide) ?_
                        refine lv_iload hx hb dX13_canPut_235 (lv_at hl 4 rfl) ?_
                        refine lv_iadd hx hb dX13_canPut_237 ?_
                        refine q_iastN (f := placeF) (k := 24) X hK hI hP hS t h_mb_18 mL167_0 (by omega) (by decide) dX13_canPut_238 (fun H locs hP hS => ?_)
                        refine lv_aload_n hx hb dX13_canPut_239 rfl (lv_at hl 0 rfl) ?_
                        refine lv_iload_n hx hb dX13_canPut_240 rfl (lv_at hl 1 rfl) ?_
                        refine lv_iconst (v := 1) hx hb dX13_canPut_241 (by decide) ?_
                        refine lv_iadd hx hb dX13_canPut_242 ?_
                        refine lv_iload_n hx hb dX13_canPut_243 rfl (lv_at hl 2 rfl) ?_
                        refine lv_iload_n hx hb dX13_canPut_244 rfl (lv_at hl 3 rfl) ?_
                        refine q_wrVi (As := [.int ((nI t) + 1), .int y, .int z]) (rest := []) (hE (va_up ML167 (mb + 18) (.inl (cI, 24, .inl (upd placeF t (10 + (nI p1)))))) hI (upd placeF t (10 + (nI p1))) h_mb h_mb_3 h_mb_6 h_mb_7 h_mb_8 h_mb_9 h_mb_11 h_mb_12 h_mb_13 h_mb_15 h_mb_17 h_mb_18 ((va_up_ne ML167 (.inl (cI, 24, .inl (upd placeF t (10 + (nI p1))))) (show mb ≠ mb + 18 by omega)).trans ((fL167 mb (by omega)).trans m_mb)) ((va_up_ne ML167 (.inl (cI, 24, .inl (upd placeF t (10 + (nI p1))))) (show mb + 3 ≠ mb + 18 by omega)).trans ((fL167 (mb + 3) (by omega)).trans m_mb_3)) ((va_up_ne ML167 (.inl (cI, 24, .inl (upd placeF t (10 + (nI p1))))) (show mb + 6 ≠ mb + 18 by omega)).trans ((fL167 (mb + 6) (by omega)).trans m_mb_6)) ((va_up_ne ML167 (.inl (cI, 24, .inl (upd placeF t (10 + (nI p1))))) (show mb + 7 ≠ mb + 18 by omega)).trans ((fL167 (mb + 7) (by omega)).trans m_mb_7)) ((va_up_ne ML167 (.inl (cI, 24, .inl (upd placeF t (10 + (nI p1))))) (show mb + 8 ≠ mb + 18 by omega)).trans ((fL167 (mb + 8) (by omega)).trans m_mb_8)) ((va_up_ne ML167 (.inl (cI, 24, .inl (upd placeF t (10 + (nI p1))))) (show mb + 9 ≠ mb + 18 by omega)).trans ((fL167 (mb + 9) (by omega)).trans m_mb_9)) ((va_up_ne ML167 (.inl (cI, 24, .inl (upd placeF t (10 + (nI p1))))) (show mb + 11 ≠ mb + 18 by omega)).trans ((fL167 (mb + 11) (by omega)).trans m_mb_11)) ((va_up_ne ML167 (.inl (cI, 24, .inl (upd placeF t (10 + (nI p1))))) (show mb + 12 ≠ mb + 18 by omega)).trans ((fL167 (mb + 12) (by omega)).trans m_mb_12)) ((va_up_ne ML167 (.inl (cI, 24, .inl (upd placeF t (10 + (nI p1))))) (show mb + 13 ≠ mb + 18 by omega)).trans ((fL167 (mb + 13) (by omega)).trans m_mb_13)) ((va_up_ne ML167 (.inl (cI, 24, .inl (upd placeF t (10 + (nI p1))))) (show mb + 15 ≠ mb + 18 by omega)).trans ((fL167 (mb + 15) (by omega)).trans m_mb_15)) ((va_up_ne ML167 (.inl (cI, 24, .inl (upd placeF t (10 + (nI p1))))) (show mb + 17 ≠ mb + 18 by omega)).trans ((fL167 (mb + 17) (by omega)).trans m_mb_17)) (va_up_self ML167 (mb + 18) (.inl (cI, 24, .inl (upd placeF t (10 + (nI p1)))))) (fun q h1 h2 h3 => (by simp only [upd]; rw [if_neg (by omega)]; exact hpl q (by omega) h2 h3))) X hK hP hS hl.1 rfl gX13_canPut_X13_canPut yd_X13_canPut ⟨by show fE + 1 ≤ fE + 1; omega, by show 8 + (6 + 11) + (lE) ≤ lE + 30; omega⟩ h_mb ((va_up_ne ML167 (.inl (cI, 24, .inl (upd placeF t (10 + (nI p1))))) (show mb ≠ mb + 18 by omega)).trans ((fL167 mb (by omega)).trans m_mb)) (ci := 12) rfl rfl (Nat.le_of_ble_eq_true rfl) ⟨Nat.zero_le _, Nat.zero_le _⟩ dX13_canPut_245 (fun r5 M4 H locs hp3 hP hS => ?_)
                        obtain ⟨er8, g6, fr7⟩ := hp3
                        replace er8 := er8.symm
                        subst er8
                        refine lv_istore (lv' := [(5, .int ((E (upd placeF t (10 + (nI p1)))))), (0, .ref (ad mb)), (1, .int (nI t)), (2, .int y), (3, .int z), (4, .int (nI p1))]) hx hb dX13_canPut_248 hl (by decide) rfl (fun ls hl => ?_)
                        refine lv_aload_n hx hb dX13_canPut_250 rfl (lv_at hl 1 rfl) ?_
                        refine q_get (v := .ref (ad (mb + 18))) (fs := modF ad mb mv) X hK hP fX13_canPut_84 h_mb ((fr7 mb (by omega)).trans ((va_up_ne ML167 (.inl (cI, 24, .inl (upd placeF t (10 + (nI p1))))) (show mb ≠ mb + 18 by omega)).trans ((fL167 mb (by omega)).trans m_mb))) rfl dX13_canPut_251 ?_
                        refine lv_iload_n hx hb dX13_canPut_254 rfl (lv_at hl 2 rfl) ?_
                        refine lv_iconst (v := (-1)) hx hb dX13_canPut_255 (by decide) ?_
                        refine q_iastN (f := (upd placeF t (10 + (nI p1)))) (k := 24) X hK hI hP hS t h_mb_18 g6 (by omega) (by decide) dX13_canPut_256 (fun H locs hP hS => ?_)
                        refine lv_iload hx hb dX13_canPut_257 (lv_at hl 0 rfl) ?_
                        refine lv_if_eq (tgt := 264) hx hb dX13_canPut_259 (by decide) (fun c_259 => ?_) (fun c_259 => ?_)
                        · skip
                          refine lv_iinc (v := ((nI p1) + 1)) (lv' := [(4, .int ((nI p1) + 1)), (5, .int ((E (upd placeF t (10 + (nI p1)))))), (0, .ref (ad mb)), (1, .int (nI t)), (2, .int y), (3, .int z)]) hx hb dX13_canPut_264 hl (k := 5) rfl rfl (by decide) rfl (fun ls hl => ?_)
                          refine lv_goto (tgt := 167) hx hb dX13_canPut_267 (by decide) ?_
                          exact ih_167 (p1 + 1) ((nI p1) + 1) (by omega) (by omega) (by exact Or.inr c_185) (by rw [← he2, show np - p1 = (np - (p1 + 1)) + 1 by omega]; first | exact (an_0 (f := (fun p => if (pcP nt nc bearsF ownerF limitF holdsF boardF kindF heavyF wideF hotF z) placeF t p = 0 then 0 else E (upd placeF t (10 + nI p)))) (sk1 (by rw [pcP]; first | (rw [if_pos c_195]; done) | (rw [if_neg c_195, if_pos c_222]; done)) c_259)).symm | exact (an_0 (f := (fun p => if (pcP nt nc bearsF ownerF limitF holdsF boardF kindF heavyF wideF hotF z) placeF t p = 0 then 0 else E (upd placeF t (10 + nI p)))) (sk0 (by rw [pcP]; first | (rw [if_pos c_195]; done) | (rw [if_neg c_195, if_neg c_222]; done)))).symm) (by exact nI_1 _) _ _ _ (by first | exact (va_up_self M4 (mb + 18) (.inl (cI, 24, .inl (upd (upd placeF t (10 + (nI p1))) t (-1))))) | exact (va_up_self M4 (mb + 18) (.inl (cI, 24, .inl (upd (upd placeF t (10 + (nI p1))) t (-1))))).trans (by rw [up_none hpt])) (fun q n0 => ((va_up_ne _ _ n0).trans ((fr7 q n0).trans ((va_up_ne _ _ n0).trans (fL167 q n0))))) hP hS ls (lv_sub hl [2, 3, 4, 5, 0] rfl)
                        · skip
                          refine lv_iconst (v := 1) hx hb dX13_canPut_262 (by decide) ?_
                          exact q_wzret X hr hlocks hP hS (rfl) ⟨(by rw [cpN, if_neg c_17, if_pos ha1, if_pos c_185, ← he2, show np - p1 = (np - (p1 + 1)) + 1 by omega, an_1 (f := (fun p => if (pcP nt nc bearsF ownerF limitF holdsF boardF kindF heavyF wideF hotF z) placeF t p = 0 then 0 else E (upd placeF t (10 + nI p)))) (sk2 (by rw [pcP]; first | (rw [if_pos c_195]; done) | (rw [if_neg c_195, if_pos c_222]; done)) c_259)]), (by exact (va_up_self M4 (mb + 18) (.inl (cI, 24, .inl (upd (upd placeF t (10 + (nI p1))) t (-1))))).trans (by rw [up_none hpt])), (fun q n0 => ((va_up_ne _ _ n0).trans ((fr7 q n0).trans ((va_up_ne _ _ n0).trans (fL167 q n0)))))⟩ dX13_canPut_263
                      · skip
                        refine lv_goto (tgt := 264) hx hb dX13_canPut_225 (by decide) ?_
                        refine lv_iinc (v := ((nI p1) + 1)) (lv' := [(4, .int ((nI p1) + 1)), (0, .ref (ad mb)), (1, .int (nI t)), (2, .int y), (3, .int z)]) hx hb dX13_canPut_264 hl (k := 4) rfl rfl (by decide) rfl (fun ls hl => ?_)
                        refine lv_goto (tgt := 167) hx hb dX13_canPut_267 (by decide) ?_
                        exact ih_167 (p1 + 1) ((nI p1) + 1) (by omega) (by omega) (by exact Or.inr c_185) (by rw [← he2, show np - p1 = (np - (p1 + 1)) + 1 by omega]; first | exact (an_0 (f := (fun p => if (pcP nt nc bearsF ownerF limitF holdsF boardF kindF heavyF wideF hotF z) placeF t p = 0 then 0 else E (upd placeF t (10 + nI p)))) (sk1 (by rw [pcP]; first | (rw [if_pos c_195]; done) | (rw [if_neg c_195, if_pos c_222]; done)) c_259)).symm | exact (an_0 (f := (fun p => if (pcP nt nc bearsF ownerF limitF holdsF boardF kindF heavyF wideF hotF z) placeF t p = 0 then 0 else E (upd placeF t (10 + nI p)))) (sk0 (by rw [pcP]; first | (rw [if_pos c_195]; done) | (rw [if_neg c_195, if_neg c_222]; done)))).symm) (by exact nI_1 _) _ _ _ (by first | exact mL167_0 | exact mL167_0.trans (by rw [up_none hpt])) (fun q n0 => (fL167 q n0)) hP hS ls (lv_sub hl [1, 2, 3, 4, 0] rfl)
            exact loop_167 (np + 1) 0 0 (by omega) (by exact Nat.zero_le _) (by exact Or.inl rfl) (by rfl) (by rfl) _ _ _ mL33_0 (fun q n0 => (fL33 q n0)) hP hS ls (lv_sub hl [1, 2, 3, 4, 0] rfl)
          · skip
            rw [k1] at c_41; have h9 := lt_of_nlt c_41 (by omega) hc
            refine lv_iload_n hx hb dX13_canPut_44 rfl (lv_at hl 3 rfl) ?_
            refine lv_iload hx hb dX13_canPut_45 (lv_at hl 4 rfl) ?_
            refine lv_ishr hx hb dX13_canPut_47 ?_
            refine lv_iconst (v := 1) hx hb dX13_canPut_48 (by decide) ?_
            refine lv_iand hx hb dX13_canPut_49 ?_
            refine lv_if_eq (tgt := 158) hx hb dX13_canPut_50 (by decide) (fun c_50 => ?_) (fun c_50 => ?_)
            · skip
              refine lv_iinc (v := ((nI c1) + 1)) (lv' := [(4, .int ((nI c1) + 1)), (0, .ref (ad mb)), (1, .int (nI t)), (2, .int y), (3, .int z)]) hx hb dX13_canPut_158 hl (k := 4) rfl rfl (by decide) rfl (fun ls hl => ?_)
              refine lv_goto (tgt := 33) hx hb dX13_canPut_161 (by decide) ?_
              exact ih_33 (c1 + 1) ((nI c1) + 1) (by omega) (by omega) (by rw [← he1, show nc - c1 = (nc - (c1 + 1)) + 1 by omega]; first | exact (an_0 (f := (fun c => if (pcC nt nc bearsF ownerF limitF holdsF boardF kindF heavyF wideF hotF z) placeF t c = 0 then 0 else E (upd placeF t (nI c)))) (sk1 (by rw [pcC]; first | (rw [if_pos c_50]; done) | (rw [if_neg c_50, if_pos c_60, if_pos c_71]; done) | (rw [if_neg c_50, if_pos c_60, if_neg c_71, if_pos c_95]; done) | (rw [if_neg c_50, if_neg c_60, if_pos c_95]; done) | (rw [if_neg c_50, if_pos c_60, if_neg c_71, if_neg c_95, if_pos c_119]; done) | (rw [if_neg c_50, if_neg c_60, if_neg c_95, if_pos c_119]; done)) c_153)).symm | exact (an_0 (f := (fun c => if (pcC nt nc bearsF ownerF limitF holdsF boardF kindF heavyF wideF hotF z) placeF t c = 0 then 0 else E (upd placeF t (nI c)))) (sk0 (by rw [pcC]; first | (rw [if_pos c_50]; done) | (rw [if_neg c_50, if_pos c_60, if_pos c_71]; done) | (rw [if_neg c_50, if_pos c_60, if_neg c_71, if_pos c_95]; done) | (rw [if_neg c_50, if_neg c_60, if_pos c_95]; done) | (rw [if_neg c_50, if_pos c_60, if_neg c_71, if_neg c_95, if_neg c_119]; done) | (rw [if_neg c_50, if_neg c_60, if_neg c_95, if_neg c_119]; done)))).symm) (by exact nI_1 _) _ _ _ (by first | exact mL33_0 | exact mL33_0.trans (by rw [up_none hpt])) (fun q n0 => (fL33 q n0)) hP hS ls (lv_sub hl [1, 2, 3, 4, 0] rfl)
            · skip
              refine lv_aload_n hx hb dX13_canPut_53 rfl (lv_at hl 0 rfl) ?_
              refine q_get (v := .ref (ad (mb + 12))) (fs := modF ad mb mv) X hK hP fX13_canPut_66 h_mb ((fL33 mb (by omega)).trans m_mb) rfl dX13_canPut_54 ?_
              refine lv_iload_n hx hb dX13_canPut_57 rfl (lv_at hl 1 rfl) ?_
              refine q_ialdN (f := kindF) (k := 24) X hK hP t h_mb_12 ((fL33 (mb + 12) (by omega)).trans m_mb_12) (by omega) (by decide) dX13_canPut_58 ?_
              refine lv_iconst (v := 2) hx hb dX13_canPut_59 (by decide) ?_
              refine lv_icmp_ne (tgt := 74) hx hb dX13_canPut_60 (by decide) (fun c_60 => ?_) (fun c_60 => ?_)
              · skip
                refine lv_aload_n hx hb dX13_canPut_74 rfl (lv_at hl 0 rfl) ?_
                refine lv_iload hx hb dX13_canPut_75 (lv_at hl 4 rfl) ?_
                refine lv_iconst (v := 2) hx hb dX13_canPut_77 (by decide) ?_
                refine q_rdV (As := [.int (nI c1), .int 2]) (rest := []) (c_X13_sumAt l D cB cI cJ ad n ML33 mb nt nc np nq mv toldF kindF heavyF wideF hotF placeF (nI c1) 2 h_mb h_mb_3 h_mb_12 h_mb_13 h_mb_15 h_mb_17 h_mb_18 ((fL33 mb (by omega)).trans m_mb) ((fL33 (mb + 3) (by omega)).trans m_mb_3) ((fL33 (mb + 12) (by omega)).trans m_mb_12) ((fL33 (mb + 13) (by omega)).trans m_mb_13) ((fL33 (mb + 15) (by omega)).trans m_mb_15) ((fL33 (mb + 17) (by omega)).trans m_mb_17) mL33_0 k0 hnp k1 hnc k2 hnt k3 hnq) X hK hP hS hl.1 rfl gX13_canPut_X13_sumAt yd_X13_sumAt ⟨by show 0 + 1 ≤ fE + 1; omega, by show 8 + (6 + 11) + (0) ≤ lE + 30; omega⟩ h_mb ((fL33 mb (by omega)).trans m_mb) (ci := 12) rfl rfl (Nat.le_of_ble_eq_true rfl) ⟨Nat.zero_le _, Nat.zero_le _⟩ dX13_canPut_78 ?_
                refine lv_aload_n hx hb dX13_canPut_81 rfl (lv_at hl 0 rfl) ?_
                refine q_get (v := .ref (ad (mb + 15))) (fs := modF ad mb mv) X hK hP fX13_canPut_75 h_mb ((fL33 mb (by omega)).trans m_mb) rfl dX13_canPut_82 ?_
                refine lv_iload_n hx hb dX13_canPut_85 rfl (lv_at hl 1 rfl) ?_
                refine q_ialdN (f := wideF) (k := 24) X hK hP t h_mb_15 ((fL33 (mb + 15) (by omega)).trans m_mb_15) (by omega) (by decide) dX13_canPut_86 ?_
                refine lv_iadd hx hb dX13_canPut_87 ?_
                refine lv_aload_n hx hb dX13_canPut_88 rfl (lv_at hl 0 rfl) ?_
                refine q_get (v := .ref (ad (mb + 9))) (fs := modF ad mb mv) X hK hP fX13_canPut_58 h_mb ((fL33 mb (by omega)).trans m_mb) rfl dX13_canPut_89 ?_
                refine lv_iload hx hb dX13_canPut_92 (lv_at hl 4 rfl) ?_
                refine q_ialdN (f := holdsF) (k := 10) X hK hP c1 h_mb_9 ((fL33 (mb + 9) (by omega)).trans m_mb_9) (by omega) (by decide) dX13_canPut_94 ?_
                refine lv_icmp_gt (tgt := 158) hx hb dX13_canPut_95 (by decide) (fun c_95 => ?_) (fun c_95 => ?_)
                · skip
                  refine lv_iinc (v := ((nI c1) + 1)) (lv' := [(4, .int ((nI c1) + 1)), (0, .ref (ad mb)), (1, .int (nI t)), (2, .int y), (3, .int z)]) hx hb dX13_canPut_158 hl (k := 4) rfl rfl (by decide) rfl (fun ls hl => ?_)
                  refine lv_goto (tgt := 33) hx hb dX13_canPut_161 (by decide) ?_
                  exact ih_33 (c1 + 1) ((nI c1) + 1) (by omega) (by omega) (by rw [← he1, show nc - c1 = (nc - (c1 + 1)) + 1 by omega]; first | exact (an_0 (f := (fun c => if (pcC nt nc bearsF ownerF limitF holdsF boardF kindF heavyF wideF hotF z) placeF t c = 0 then 0 else E (upd placeF t (nI c)))) (sk1 (by rw [pcC]; first | (rw [if_pos c_50]; done) | (rw [if_neg c_50, if_pos c_60, if_pos c_71]; done) | (rw [if_neg c_50, if_pos c_60, if_neg c_71, if_pos c_95]; done) | (rw [if_neg c_50, if_neg c_60, if_pos c_95]; done) | (rw [if_neg c_50, if_pos c_60, if_neg c_71, if_neg c_95, if_pos c_119]; done) | (rw [if_neg c_50, if_neg c_60, if_neg c_95, if_pos c_119]; done)) c_153)).symm | exact (an_0 (f := (fun c => if (pcC nt nc bearsF ownerF limitF holdsF boardF kindF heavyF wideF hotF z) placeF t c = 0 then 0 else E (upd placeF t (nI c)))) (sk0 (by rw [pcC]; first | (rw [if_pos c_50]; done) | (rw [if_neg c_50, if_pos c_60, if_pos c_71]; done) | (rw [if_neg c_50, if_pos c_60, if_neg c_71, if_pos c_95]; done) | (rw [if_neg c_50, if_neg c_60, if_pos c_95]; done) | (rw [if_neg c_50, if_pos c_60, if_neg c_71, if_neg c_95, if_neg c_119]; done) | (rw [if_neg c_50, if_neg c_60, if_neg c_95, if_neg c_119]; done)))).symm) (by exact nI_1 _) _ _ _ (by first | exact mL33_0 | exact mL33_0.trans (by rw [up_none hpt])) (fun q n0 => (fL33 q n0)) hP hS ls (lv_sub hl [1, 2, 3, 4, 0] rfl)
                · skip
                  refine lv_aload_n hx hb dX13_canPut_98 rfl (lv_at hl 0 rfl) ?_
                  refine lv_iload hx hb dX13_canPut_99 (lv_at hl 4 rfl) ?_
                  refine lv_iconst (v := 1) hx hb dX13_canPut_101 (by decide) ?_
                  refine q_rdV (As := [.int (nI c1), .int 1]) (rest := []) (c_X13_sumAt l D cB cI cJ ad n ML33 mb nt nc np nq mv toldF kindF heavyF wideF hotF placeF (nI c1) 1 h_mb h_mb_3 h_mb_12 h_mb_13 h_mb_15 h_mb_17 h_mb_18 ((fL33 mb (by omega)).trans m_mb) ((fL33 (mb + 3) (by omega)).trans m_mb_3) ((fL33 (mb + 12) (by omega)).trans m_mb_12) ((fL33 (mb + 13) (by omega)).trans m_mb_13) ((fL33 (mb + 15) (by omega)).trans m_mb_15) ((fL33 (mb + 17) (by omega)).trans m_mb_17) mL33_0 k0 hnp k1 hnc k2 hnt k3 hnq) X hK hP hS hl.1 rfl gX13_canPut_X13_sumAt yd_X13_sumAt ⟨by show 0 + 1 ≤ fE + 1; omega, by show 8 + (6 + 11) + (0) ≤ lE + 30; omega⟩ h_mb ((fL33 mb (by omega)).trans m_mb) (ci := 12) rfl rfl (Nat.le_of_ble_eq_true rfl) ⟨Nat.zero_le _, Nat.zero_le _⟩ dX13_canPut_102 ?_
                  refine lv_aload_n hx hb dX13_canPut_105 rfl (lv_at hl 0 rfl) ?_
                  refine q_get (v := .ref (ad (mb + 13))) (fs := modF ad mb mv) X hK hP fX13_canPut_69 h_mb ((fL33 mb (by omega)).trans m_mb) rfl dX13_canPut_106 ?_
                  refine lv_iload_n hx hb dX13_canPut_109 rfl (lv_at hl 1 rfl) ?_
                  refine q_ialdN (f := heavyF) (k := 24) X hK hP t h_mb_13 ((fL33 (mb + 13) (by omega)).trans m_mb_13) (by omega) (by decide) dX13_canPut_110 ?_
                  refine lv_iadd hx hb dX13_canPut_111 ?_
                  refine lv_aload_n hx hb dX13_canPut_112 rfl (lv_at hl 0 rfl) ?_
                  refine q_get (v := .ref (ad (mb + 8))) (fs := modF ad mb mv) X hK hP fX13_canPut_56 h_mb ((fL33 mb (by omega)).trans m_mb) rfl dX13_canPut_113 ?_
                  refine lv_iload hx hb dX13_canPut_116 (lv_at hl 4 rfl) ?_
                  refine q_ialdN (f := limitF) (k := 10) X hK hP c1 h_mb_8 ((fL33 (mb + 8) (by omega)).trans m_mb_8) (by omega) (by decide) dX13_canPut_118 ?_
                  refine lv_icmp_le (tgt := 125) hx hb dX13_canPut_119 (by decide) (fun c_119 => ?_) (fun c_119 => ?_)
                  · skip
                    refine lv_aload_n hx hb dX13_canPut_125 rfl (lv_at hl 0 rfl) ?_
                    refine q_get (v := .ref (ad (mb + 18))) (fs := modF ad mb mv) X hK hP fX13_canPut_84 h_mb ((fL33 mb (by omega)).trans m_mb) rfl dX13_canPut_126 ?_
                    refine lv_iload_n hx hb dX13_canPut_129 rfl (lv_at hl 1 rfl) ?_
                    refine lv_iload hx hb dX13_canPut_130 (lv_at hl 4 rfl) ?_
                    refine q_iastN (f := placeF) (k := 24) X hK hI hP hS t h_mb_18 mL33_0 (by omega) (by decide) dX13_canPut_132 (fun H locs hP hS => ?_)
                    refine lv_aload_n hx hb dX13_canPut_133 rfl (lv_at hl 0 rfl) ?_
                    refine lv_iload_n hx hb dX13_canPut_134 rfl (lv_at hl 1 rfl) ?_
                    refine lv_iconst (v := 1) hx hb dX13_canPut_135 (by decide) ?_
                    refine lv_iadd hx hb dX13_canPut_136 ?_
                    refine lv_iload_n hx hb dX13_canPut_137 rfl (lv_at hl 2 rfl) ?_
                    refine lv_iload_n hx hb dX13_canPut_138 rfl (lv_at hl 3 rfl) ?_
                    refine q_wrVi (As := [.int ((nI t) + 1), .int y, .int z]) (rest := []) (hE (va_up ML33 (mb + 18) (.inl (cI, 24, .inl (upd placeF t (nI c1))))) hI (upd placeF t (nI c1)) h_mb h_mb_3 h_mb_6 h_mb_7 h_mb_8 h_mb_9 h_mb_11 h_mb_12 h_mb_13 h_mb_15 h_mb_17 h_mb_18 ((va_up_ne ML33 (.inl (cI, 24, .inl (upd placeF t (nI c1)))) (show mb ≠ mb + 18 by omega)).trans ((fL33 mb (by omega)).trans m_mb)) ((va_up_ne ML33 (.inl (cI, 24, .inl (upd placeF t (nI c1)))) (show mb + 3 ≠ mb + 18 by omega)).trans ((fL33 (mb + 3) (by omega)).trans m_mb_3)) ((va_up_ne ML33 (.inl (cI, 24, .inl (upd placeF t (nI c1)))) (show mb + 6 ≠ mb + 18 by omega)).trans ((fL33 (mb + 6) (by omega)).trans m_mb_6)) ((va_up_ne ML33 (.inl (cI, 24, .inl (upd placeF t (nI c1)))) (show mb + 7 ≠ mb + 18 by omega)).trans ((fL33 (mb + 7) (by omega)).trans m_mb_7)) ((va_up_ne ML33 (.inl (cI, 24, .inl (upd placeF t (nI c1)))) (show mb + 8 ≠ mb + 18 by omega)).trans ((fL33 (mb + 8) (by omega)).trans m_mb_8)) ((va_up_ne ML33 (.inl (cI, 24, .inl (upd placeF t (nI c1)))) (show mb + 9 ≠ mb + 18 by omega)).trans ((fL33 (mb + 9) (by omega)).trans m_mb_9)) ((va_up_ne ML33 (.inl (cI, 24, .inl (upd placeF t (nI c1)))) (show mb + 11 ≠ mb + 18 by omega)).trans ((fL33 (mb + 11) (by omega)).trans m_mb_11)) ((va_up_ne ML33 (.inl (cI, 24, .inl (upd placeF t (nI c1)))) (show mb + 12 ≠ mb + 18 by omega)).trans ((fL33 (mb + 12) (by omega)).trans m_mb_12)) ((va_up_ne ML33 (.inl (cI, 24, .inl (upd placeF t (nI c1)))) (show mb + 13 ≠ mb + 18 by omega)).trans ((fL33 (mb + 13) (by omega)).trans m_mb_13)) ((va_up_ne ML33 (.inl (cI, 24, .inl (upd placeF t (nI c1)))) (show mb + 15 ≠ mb + 18 by omega)).trans ((fL33 (mb + 15) (by omega)).trans m_mb_15)) ((va_up_ne ML33 (.inl (cI, 24, .inl (upd placeF t (nI c1)))) (show mb + 17 ≠ mb + 18 by omega)).trans ((fL33 (mb + 17) (by omega)).trans m_mb_17)) (va_up_self ML33 (mb + 18) (.inl (cI, 24, .inl (upd placeF t (nI c1))))) (fun q h1 h2 h3 => (by simp only [upd]; rw [if_neg (by omega)]; exact hpl q (by omega) h2 h3))) X hK hP hS hl.1 rfl gX13_canPut_X13_canPut yd_X13_canPut ⟨by show fE + 1 ≤ fE + 1; omega, by show 8 + (6 + 11) + (lE) ≤ lE + 30; omega⟩ h_mb ((va_up_ne ML33 (.inl (cI, 24, .inl (upd placeF t (nI c1)))) (show mb ≠ mb + 18 by omega)).trans ((fL33 mb (by omega)).trans m_mb)) (ci := 12) rfl rfl (Nat.le_of_ble_eq_true rfl) ⟨Nat.zero_le _, Nat.zero_le _⟩ dX13_canPut_139 (fun r15 M14 H locs hp13 hP hS => ?_)
                    obtain ⟨er18, g16, fr17⟩ := hp13
                    replace er18 := er18.symm
                    subst er18
                    refine lv_istore (lv' := [(5, .int ((E (upd placeF t (nI c1))))), (0, .ref (ad mb)), (1, .int (nI t)), (2, .int y), (3, .int z), (4, .int (nI c1))]) hx hb dX13_canPut_142 hl (by decide) rfl (fun ls hl => ?_)
                    refine lv_aload_n hx hb dX13_canPut_144 rfl (lv_at hl 1 rfl) ?_
                    refine q_get (v := .ref (ad (mb + 18))) (fs := modF ad mb mv) X hK hP fX13_canPut_84 h_mb ((fr17 mb (by omega)).trans ((va_up_ne ML33 (.inl (cI, 24, .inl (upd placeF t (nI c1)))) (show mb ≠ mb + 18 by omega)).trans ((fL33 mb (by omega)).trans m_mb))) rfl dX13_canPut_145 ?_
                    refine lv_iload_n hx hb dX13_canPut_148 rfl (lv_at hl 2 rfl) ?_
                    refine lv_iconst (v := (-1)) hx hb dX13_canPut_149 (by decide) ?_
                    refine q_iastN (f := (upd placeF t (nI c1))) (k := 24) X hK hI hP hS t h_mb_18 g16 (by omega) (by decide) dX13_canPut_150 (fun H locs hP hS => ?_)
                    refine lv_iload hx hb dX13_canPut_151 (lv_at hl 0 rfl) ?_
                    refine lv_if_eq (tgt := 158) hx hb dX13_canPut_153 (by decide) (fun c_153 => ?_) (fun c_153 => ?_)
                    · skip
                      refine lv_iinc (v := ((nI c1) + 1)) (lv' := [(4, .int ((nI c1) + 1)), (5, .int ((E (upd placeF t (nI c1))))), (0, .ref (ad mb)), (1, .int (nI t)), (2, .int y), (3, .int z)]) hx hb dX13_canPut_158 hl (k := 5) rfl rfl (by decide) rfl (fun ls hl => ?_)
                      refine lv_goto (tgt := 33) hx hb dX13_canPut_161 (by decide) ?_
                      exact ih_33 (c1 + 1) ((nI c1) + 1) (by omega) (by omega) (by rw [← he1, show nc - c1 = (nc - (c1 + 1)) + 1 by omega]; first | exact (an_0 (f := (fun c => if (pcC nt nc bearsF ownerF limitF holdsF boardF kindF heavyF wideF hotF z) placeF t c = 0 then 0 else E (upd placeF t (nI c)))) (sk1 (by rw [pcC]; first | (rw [if_pos c_50]; done) | (rw [if_neg c_50, if_pos c_60, if_pos c_71]; done) | (rw [if_neg c_50, if_pos c_60, if_neg c_71, if_pos c_95]; done) | (rw [if_neg c_50, if_neg c_60, if_pos c_95]; done) | (rw [if_neg c_50, if_pos c_60, if_neg c_71, if_neg c_95, if_pos c_119]; done) | (rw [if_neg c_50, if_neg c_60, if_neg c_95, if_pos c_119]; done)) c_153)).symm | exact (an_0 (f := (fun c => if (pcC nt nc bearsF ownerF limitF holdsF boardF kindF heavyF wideF hotF z) placeF t c = 0 then 0 else E (upd placeF t (nI c)))) (sk0 (by rw [pcC]; first | (rw [if_pos c_50]; done) | (rw [if_neg c_50, if_pos c_60, if_pos c_71]; done) | (rw [if_neg c_50, if_pos c_60, if_neg c_71, if_pos c_95]; done) | (rw [if_neg c_50, if_neg c_60, if_pos c_95]; done) | (rw [if_neg c_50, if_pos c_60, if_neg c_71, if_neg c_95, if_neg c_119]; done) | (rw [if_neg c_50, if_neg c_60, if_neg c_95, if_neg c_119]; done)))).symm) (by exact nI_1 _) _ _ _ (by first | exact (va_up_self M14 (mb + 18) (.inl (cI, 24, .inl (upd (upd placeF t (nI c1)) t (-1))))) | exact (va_up_self M14 (mb + 18) (.inl (cI, 24, .inl (upd (upd placeF t (nI c1)) t (-1))))).trans (by rw [up_none hpt])) (fun q n0 => ((va_up_ne _ _ n0).trans ((fr17 q n0).trans ((va_up_ne _ _ n0).trans (fL33 q n0))))) hP hS ls (lv_sub hl [2, 3, 4, 5, 0] rfl)
                    · skip
                      refine lv_iconst (v := 1) hx hb dX13_canPut_156 (by decide) ?_
                      exact q_wzret X hr hlocks hP hS (rfl) ⟨(by rw [cpN, if_neg c_17, if_neg (show ¬ anyN (fun c => if (pcC nt nc bearsF ownerF limitF holdsF boardF kindF heavyF wideF hotF z) placeF t c = 0 then 0 else E (upd placeF t (nI c))) nc 0 = 0 by rw [← he1, show nc - c1 = (nc - (c1 + 1)) + 1 by omega, an_1 (f := (fun c => if (pcC nt nc bearsF ownerF limitF holdsF boardF kindF heavyF wideF hotF z) placeF t c = 0 then 0 else E (upd placeF t (nI c)))) (sk2 (by rw [pcC]; first | (rw [if_pos c_50]; done) | (rw [if_neg c_50, if_pos c_60, if_pos c_71]; done) | (rw [if_neg c_50, if_pos c_60, if_neg c_71, if_pos c_95]; done) | (rw [if_neg c_50, if_neg c_60, if_pos c_95]; done) | (rw [if_neg c_50, if_pos c_60, if_neg c_71, if_neg c_95, if_pos c_119]; done) | (rw [if_neg c_50, if_neg c_60, if_neg c_95, if_pos c_119]; done)) c_153)]; decide)]), (by exact (va_up_self M14 (mb + 18) (.inl (cI, 24, .inl (upd (upd placeF t (nI c1)) t (-1))))).trans (by rw [up_none hpt])), (fun q n0 => ((va_up_ne _ _ n0).trans ((fr17 q n0).trans ((va_up_ne _ _ n0).trans (fL33 q n0)))))⟩ dX13_canPut_157
                  · skip
                    refine lv_goto (tgt := 158) hx hb dX13_canPut_122 (by decide) ?_
                    refine lv_iinc (v := ((nI c1) + 1)) (lv' := [(4, .int ((nI c1) + 1)), (0, .ref (ad mb)), (1, .int (nI t)), (2, .int y), (3, .int z)]) hx hb dX13_canPut_158 hl (k := 4) rfl rfl (by decide) rfl (fun ls hl => ?_)
                    refine lv_goto (tgt := 33) hx hb dX13_canPut_161 (by decide) ?_
                    exact ih_33 (c1 + 1) ((nI c1) + 1) (by omega) (by omega) (by rw [← he1, show nc - c1 = (nc - (c1 + 1)) + 1 by omega]; first | exact (an_0 (f := (fun c => if (pcC nt nc bearsF ownerF limitF holdsF boardF kindF heavyF wideF hotF z) placeF t c = 0 then 0 else E (upd placeF t (nI c)))) (sk1 (by rw [pcC]; first | (rw [if_pos c_50]; done) | (rw [if_neg c_50, if_pos c_60, if_pos c_71]; done) | (rw [if_neg c_50, if_pos c_60, if_neg c_71, if_pos c_95]; done) | (rw [if_neg c_50, if_neg c_60, if_pos c_95]; done) | (rw [if_neg c_50, if_pos c_60, if_neg c_71, if_neg c_95, if_pos c_119]; done) | (rw [if_neg c_50, if_neg c_60, if_neg c_95, if_pos c_119]; done)) c_153)).symm | exact (an_0 (f := (fun c => if (pcC nt nc bearsF ownerF limitF holdsF boardF kindF heavyF wideF hotF z) placeF t c = 0 then 0 else E (upd placeF t (nI c)))) (sk0 (by rw [pcC]; first | (rw [if_pos c_50]; done) | (rw [if_neg c_50, if_pos c_60, if_pos c_71]; done) | (rw [if_neg c_50, if_pos c_60, if_neg c_71, if_pos c_95]; done) | (rw [if_neg c_50, if_neg c_60, if_pos c_95]; done) | (rw [if_neg c_50, if_pos c_60, if_neg c_71, if_neg c_95, if_neg c_119]; done) | (rw [if_neg c_50, if_neg c_60, if_neg c_95, if_neg c_119]; done)))).symm) (by exact nI_1 _) _ _ _ (by first | exact mL33_0 | exact mL33_0.trans (by rw [up_none hpt])) (fun q n0 => (fL33 q n0)) hP hS ls (lv_sub hl [1, 2, 3, 4, 0] rfl)
              · skip
                refine lv_aload_n hx hb dX13_canPut_63 rfl (lv_at hl 0 rfl) ?_
                refine q_get (v := .ref (ad (mb + 11))) (fs := modF ad mb mv) X hK hP fX13_canPut_64 h_mb ((fL33 mb (by omega)).trans m_mb) rfl dX13_canPut_64 ?_
                refine lv_iload hx hb dX13_canPut_67 (lv_at hl 4 rfl) ?_
                refine q_ialdN (f := boardF) (k := 10) X hK hP c1 h_mb_11 ((fL33 (mb + 11) (by omega)).trans m_mb_11) (by omega) (by decide) dX13_canPut_69 ?_
                refine lv_iconst (v := 1) hx hb dX13_canPut_70 (by decide) ?_
                refine lv_icmp_eq (tgt := 158) hx hb dX13_canPut_71 (by decide) (fun c_71 => ?_) (fun c_71 => ?_)
                · skip
                  refine lv_iinc (v := ((nI c1) + 1)) (lv' := [(4, .int ((nI c1) + 1)), (0, .ref (ad mb)), (1, .int (nI t)), (2, .int y), (3, .int z)]) hx hb dX13_canPut_158 hl (k := 4) rfl rfl (by decide) rfl (fun ls hl => ?_)
                  refine lv_goto (tgt := 33) hx hb dX13_canPut_161 (by decide) ?_
                  exact ih_33 (c1 + 1) ((nI c1) + 1) (by omega) (by omega) (by rw [← he1, show nc - c1 = (nc - (c1 + 1)) + 1 by omega]; first | exact (an_0 (f := (fun c => if (pcC nt nc bearsF ownerF limitF holdsF boardF kindF heavyF wideF hotF z) placeF t c = 0 then 0 else E (upd placeF t (nI c)))) (sk1 (by rw [pcC]; first | (rw [if_pos c_50]; done) | (rw [if_neg c_50, if_pos c_60, if_pos c_71]; done) | (rw [if_neg c_50, if_pos c_60, if_neg c_71, if_pos c_95]; done) | (rw [if_neg c_50, if_neg c_60, if_pos c_95]; done) | (rw [if_neg c_50, if_pos c_60, if_neg c_71, if_neg c_95, if_pos c_119]; done) | (rw [if_neg c_50, if_neg c_60, if_neg c_95, if_pos c_119]; done)) c_153)).symm | exact (an_0 (f := (fun c => if (pcC nt nc bearsF ownerF limitF holdsF boardF kindF heavyF wideF hotF z) placeF t c = 0 then 0 else E (upd placeF t (nI c)))) (sk0 (by rw [pcC]; first | (rw [if_pos c_50]; done) | (rw [if_neg c_50, if_pos c_60, if_pos c_71]; done) | (rw [if_neg c_50, if_pos c_60, if_neg c_71, if_pos c_95]; done) | (rw [if_neg c_50, if_neg c_60, if_pos c_95]; done) | (rw [if_neg c_50, if_pos c_60, if_neg c_71, if_neg c_95, if_neg c_119]; done) | (rw [if_neg c_50, if_neg c_60, if_neg c_95, if_neg c_119]; done)))).symm) (by exact nI_1 _) _ _ _ (by first | exact mL33_0 | exact mL33_0.trans (by rw [up_none hpt])) (fun q n0 => (fL33 q n0)) hP hS ls (lv_sub hl [1, 2, 3, 4, 0] rfl)
                · skip
                  refine lv_aload_n hx hb dX13_canPut_74 rfl (lv_at hl 0 rfl) ?_
                  refine lv_iload hx hb dX13_canPut_75 (lv_at hl 4 rfl) ?_
                  refine lv_iconst (v := 2) hx hb dX13_canPut_77 (by decide) ?_
                  refine q_rdV (As := [.int (nI c1), .int 2]) (rest := []) (c_X13_sumAt l D cB cI cJ ad n ML33 mb nt nc np nq mv toldF kindF heavyF wideF hotF placeF (nI c1) 2 h_mb h_mb_3 h_mb_12 h_mb_13 h_mb_15 h_mb_17 h_mb_18 ((fL33 mb (by omega)).trans m_mb) ((fL33 (mb + 3) (by omega)).trans m_mb_3) ((fL33 (mb + 12) (by omega)).trans m_mb_12) ((fL33 (mb + 13) (by omega)).trans m_mb_13) ((fL33 (mb + 15) (by omega)).trans m_mb_15) ((fL33 (mb + 17) (by omega)).trans m_mb_17) mL33_0 k0 hnp k1 hnc k2 hnt k3 hnq) X hK hP hS hl.1 rfl gX13_canPut_X13_sumAt yd_X13_sumAt ⟨by show 0 + 1 ≤ fE + 1; omega, by show 8 + (6 + 11) + (0) ≤ lE + 30; omega⟩ h_mb ((fL33 mb (by omega)).trans m_mb) (ci := 12) rfl rfl (Nat.le_of_ble_eq_true rfl) ⟨Nat.zero_le _, Nat.zero_le _⟩ dX13_canPut_78 ?_
                  refine lv_aload_n hx hb dX13_canPut_81 rfl (lv_at hl 0 rfl) ?_
                  refine q_get (v := .ref (ad (mb + 15))) (fs := modF ad mb mv) X hK hP fX13_canPut_75 h_mb ((fL33 mb (by omega)).trans m_mb) rfl dX13_canPut_82 ?_
                  refine lv_iload_n hx hb dX13_canPut_85 rfl (lv_at hl 1 rfl) ?_
                  refine q_ialdN (f := wideF) (k := 24) X hK hP t h_mb_15 ((fL33 (mb + 15) (by omega)).trans m_mb_15) (by omega) (by decide) dX13_canPut_86 ?_
                  refine lv_iadd hx hb dX13_canPut_87 ?_
                  refine lv_aload_n hx hb dX13_canPut_88 rfl (lv_at hl 0 rfl) ?_
                  refine q_get (v := .ref (ad (mb + 9))) (fs := modF ad mb mv) X hK hP fX13_canPut_58 h_mb ((fL33 mb (by omega)).trans m_mb) rfl dX13_canPut_89 ?_
                  refine lv_iload hx hb dX13_canPut_92 (lv_at hl 4 rfl) ?_
                  refine q_ialdN (f := holdsF) (k := 10) X hK hP c1 h_mb_9 ((fL33 (mb + 9) (by omega)).trans m_mb_9) (by omega) (by decide) dX13_canPut_94 ?_
                  refine lv_icmp_gt (tgt := 158) hx hb dX13_canPut_95 (by decide) (fun c_95 => ?_) (fun c_95 => ?_)
                  · skip
                    refine lv_iinc (v := ((nI c1) + 1)) (lv' := [(4, .int ((nI c1) + 1)), (0, .ref (ad mb)), (1, .int (nI t)), (2, .int y), (3, .int z)]) hx hb dX13_canPut_158 hl (k := 4) rfl rfl (by decide) rfl (fun ls hl => ?_)
                    refine lv_goto (tgt := 33) hx hb dX13_canPut_161 (by decide) ?_
                    exact ih_33 (c1 + 1) ((nI c1) + 1) (by omega) (by omega) (by rw [← he1, show nc - c1 = (nc - (c1 + 1)) + 1 by omega]; first | exact (an_0 (f := (fun c => if (pcC nt nc bearsF ownerF limitF holdsF boardF kindF heavyF wideF hotF z) placeF t c = 0 then 0 else E (upd placeF t (nI c)))) (sk1 (by rw [pcC]; first | (rw [if_pos c_50]; done) | (rw [if_neg c_50, if_pos c_60, if_pos c_71]; done) | (rw [if_neg c_50, if_pos c_60, if_neg c_71, if_pos c_95]; done) | (rw [if_neg c_50, if_neg c_60, if_pos c_95]; done) | (rw [if_neg c_50, if_pos c_60, if_neg c_71, if_neg c_95, if_pos c_119]; done) | (rw [if_neg c_50, if_neg c_60, if_neg c_95, if_pos c_119]; done)) c_153)).symm | exact (an_0 (f := (fun c => if (pcC nt nc bearsF ownerF limitF holdsF boardF kindF heavyF wideF hotF z) placeF t c = 0 then 0 else E (upd placeF t (nI c)))) (sk0 (by rw [pcC]; first | (rw [if_pos c_50]; done) | (rw [if_neg c_50, if_pos c_60, if_pos c_71]; done) | (rw [if_neg c_50, if_pos c_60, if_neg c_71, if_pos c_95]; done) | (rw [if_neg c_50, if_neg c_60, if_pos c_95]; done) | (rw [if_neg c_50, if_pos c_60, if_neg c_71, if_neg c_95, if_neg c_119]; done) | (rw [if_neg c_50, if_neg c_60, if_neg c_95, if_neg c_119]; done)))).symm) (by exact nI_1 _) _ _ _ (by first | exact mL33_0 | exact mL33_0.trans (by rw [up_none hpt])) (fun q n0 => (fL33 q n0)) hP hS ls (lv_sub hl [1, 2, 3, 4, 0] rfl)
                  · skip
                    refine lv_aload_n hx hb dX13_canPut_98 rfl (lv_at hl 0 rfl) ?_
                    refine lv_iload hx hb dX13_canPut_99 (lv_at hl 4 rfl) ?_
                    refine lv_iconst (v := 1) hx hb dX13_canPut_101 (by decide) ?_
                    refine q_rdV (As := [.int (nI c1), .int 1]) (rest := []) (c_X13_sumAt l D cB cI cJ ad n ML33 mb nt nc np nq mv toldF kindF heavyF wideF hotF placeF (nI c1) 1 h_mb h_mb_3 h_mb_12 h_mb_13 h_mb_15 h_mb_17 h_mb_18 ((fL33 mb (by omega)).trans m_mb) ((fL33 (mb + 3) (by omega)).trans m_mb_3) ((fL33 (mb + 12) (by omega)).trans m_mb_12) ((fL33 (mb + 13) (by omega)).trans m_mb_13) ((fL33 (mb + 15) (by omega)).trans m_mb_15) ((fL33 (mb + 17) (by omega)).trans m_mb_17) mL33_0 k0 hnp k1 hnc k2 hnt k3 hnq) X hK hP hS hl.1 rfl gX13_canPut_X13_sumAt yd_X13_sumAt ⟨by show 0 + 1 ≤ fE + 1; omega, by show 8 + (6 + 11) + (0) ≤ lE + 30; omega⟩ h_mb ((fL33 mb (by omega)).trans m_mb) (ci := 12) rfl rfl (Nat.le_of_ble_eq_true rfl) ⟨Nat.zero_le _, Nat.zero_le _⟩ dX13_canPut_102 ?_
                    refine lv_aload_n hx hb dX13_canPut_105 rfl (lv_at hl 0 rfl) ?_
                    refine q_get (v := .ref (ad (mb + 13))) (fs := modF ad mb mv) X hK hP fX13_canPut_69 h_mb ((fL33 mb (by omega)).trans m_mb) rfl dX13_canPut_106 ?_
                    refine lv_iload_n hx hb dX13_canPut_109 rfl (lv_at hl 1 rfl) ?_
                    refine q_ialdN (f := heavyF) (k := 24) X hK hP t h_mb_13 ((fL33 (mb + 13) (by omega)).trans m_mb_13) (by omega) (by decide) dX13_canPut_110 ?_
                    refine lv_iadd hx hb dX13_canPut_111 ?_
                    refine lv_aload_n hx hb dX13_canPut_112 rfl (lv_at hl 0 rfl) ?_
                    refine q_get (v := .ref (ad (mb + 8))) (fs := modF ad mb mv) X hK hP fX13_canPut_56 h_mb ((fL33 mb (by omega)).trans m_mb) rfl dX13_canPut_113 ?_
                    refine lv_iload hx hb dX13_canPut_116 (lv_at hl 4 rfl) ?_
                    refine q_ialdN (f := limitF) (k := 10) X hK hP c1 h_mb_8 ((fL33 (mb + 8) (by omega)).trans m_mb_8) (by omega) (by decide) dX13_canPut_118 ?_
                    refine lv_icmp_le (tgt := 125) hx hb dX13_canPut_119 (by decide) (fun c_119 => ?_) (fun c_119 => ?_)
                    · skip
                      refine lv_aload_n hx hb dX13_canPut_125 rfl (lv_at hl 0 rfl) ?_
                      refine q_get (v := .ref (ad (mb + 18))) (fs := modF ad mb mv) X hK hP fX13_canPut_84 h_mb ((fL33 mb (by omega)).trans m_mb) rfl dX13_canPut_126 ?_
                      refine lv_iload_n hx hb dX13_canPut_129 rfl (lv_at hl 1 rfl) ?_
                      refine lv_iload hx hb dX13_canPut_130 (lv_at hl 4 rfl) ?_
                      refine q_iastN (f := placeF) (k := 24) X hK hI hP hS t h_mb_18 mL33_0 (by omega) (by decide) dX13_canPut_132 (fun H locs hP hS => ?_)
                      refine lv_aload_n hx hb dX13_canPut_133 rfl (lv_at hl 0 rfl) ?_
                      refine lv_iload_n hx hb dX13_canPut_134 rfl (lv_at hl 1 rfl) ?_
                      refine lv_iconst (v := 1) hx hb dX13_canPut_135 (by decide) ?_
                      refine lv_iadd hx hb dX13_canPut_136 ?_
                      refine lv_iload_n hx hb dX13_canPut_137 rfl (lv_at hl 2 rfl) ?_
                      refine lv_iload_n hx hb dX13_canPut_138 rfl (lv_at hl 3 rfl) ?_
                      refine q_wrVi (As := [.int ((nI t) + 1), .int y, .int z]) (rest := []) (hE (va_up ML33 (mb + 18) (.inl (cI, 24, .inl (upd placeF t (nI c1))))) hI (upd placeF t (nI c1)) h_mb h_mb_3 h_mb_6 h_mb_7 h_mb_8 h_mb_9 h_mb_11 h_mb_12 h_mb_13 h_mb_15 h_mb_17 h_mb_18 ((va_up_ne ML33 (.inl (cI, 24, .inl (upd placeF t (nI c1)))) (show mb ≠ mb + 18 by omega)).trans ((fL33 mb (by omega)).trans m_mb)) ((va_up_ne ML33 (.inl (cI, 24, .inl (upd placeF t (nI c1)))) (show mb + 3 ≠ mb + 18 by omega)).trans ((fL33 (mb + 3) (by omega)).trans m_mb_3)) ((va_up_ne ML33 (.inl (cI, 24, .inl (upd placeF t (nI c1)))) (show mb + 6 ≠ mb + 18 by omega)).trans ((fL33 (mb + 6) (by omega)).trans m_mb_6)) ((va_up_ne ML33 (.inl (cI, 24, .inl (upd placeF t (nI c1)))) (show mb + 7 ≠ mb + 18 by omega)).trans ((fL33 (mb + 7) (by omega)).trans m_mb_7)) ((va_up_ne ML33 (.inl (cI, 24, .inl (upd placeF t (nI c1)))) (show mb + 8 ≠ mb + 18 by omega)).trans ((fL33 (mb + 8) (by omega)).trans m_mb_8)) ((va_up_ne ML33 (.inl (cI, 24, .inl (upd placeF t (nI c1)))) (show mb + 9 ≠ mb + 18 by omega)).trans ((fL33 (mb + 9) (by omega)).trans m_mb_9)) ((va_up_ne ML33 (.inl (cI, 24, .inl (upd placeF t (nI c1)))) (show mb + 11 ≠ mb + 18 by omega)).trans ((fL33 (mb + 11) (by omega)).trans m_mb_11)) ((va_up_ne ML33 (.inl (cI, 24, .inl (upd placeF t (nI c1)))) (show mb + 12 ≠ mb + 18 by omega)).trans ((fL33 (mb + 12) (by omega)).trans m_mb_12)) ((va_up_ne ML33 (.inl (cI, 24, .inl (upd placeF t (nI c1)))) (show mb + 13 ≠ mb + 18 by omega)).trans ((fL33 (mb + 13) (by omega)).trans m_mb_13)) ((va_up_ne ML33 (.inl (cI, 24, .inl (upd placeF t (nI c1)))) (show mb + 15 ≠ mb + 18 by omega)).trans ((fL33 (mb + 15) (by omega)).trans m_mb_15)) ((va_up_ne ML33 (.inl (cI, 24, .inl (upd placeF t (nI c1)))) (show mb + 17 ≠ mb + 18 by omega)).trans ((fL33 (mb + 17) (by omega)).trans m_mb_17)) (va_up_self ML33 (mb + 18) (.inl (cI, 24, .inl (upd placeF t (nI c1))))) (fun q h1 h2 h3 => (by simp only [upd]; rw [if_neg (by omega)]; exact hpl q (by omega) h2 h3))) X hK hP hS hl.1 rfl gX13_canPut_X13_canPut yd_X13_canPut ⟨by show fE + 1 ≤ fE + 1; omega, by show 8 + (6 + 11) + (lE) ≤ lE + 30; omega⟩ h_mb ((va_up_ne ML33 (.inl (cI, 24, .inl (upd placeF t (nI c1)))) (show mb ≠ mb + 18 by omega)).trans ((fL33 mb (by omega)).trans m_mb)) (ci := 12) rfl rfl (Nat.le_of_ble_eq_true rfl) ⟨Nat.zero_le _, Nat.zero_le _⟩ dX13_canPut_139 (fun r25 M24 H locs hp23 hP hS => ?_)
                      obtain ⟨er28, g26, fr27⟩ := hp23
                      replace er28 := er28.symm
                      subst er28
                      refine lv_istore (lv' := [(5, .int ((E (upd placeF t (nI c1))))), (0, .ref (ad mb)), (1, .int (nI t)), (2, .int y), (3, .int z), (4, .int (nI c1))]) hx hb dX13_canPut_142 hl (by decide) rfl (fun ls hl => ?_)
                      refine lv_aload_n hx hb dX13_canPut_144 rfl (lv_at hl 1 rfl) ?_
                      refine q_get (v := .ref (ad (mb + 18))) (fs := modF ad mb mv) X hK hP fX13_canPut_84 h_mb ((fr27 mb (by omega)).trans ((va_up_ne ML33 (.inl (cI, 24, .inl (upd placeF t (nI c1)))) (show mb ≠ mb + 18 by omega)).trans ((fL33 mb (by omega)).trans m_mb))) rfl dX13_canPut_145 ?_
                      refine lv_iload_n hx hb dX13_canPut_148 rfl (lv_at hl 2 rfl) ?_
                      refine lv_iconst (v := (-1)) hx hb dX13_canPut_149 (by decide) ?_
                      refine q_iastN (f := (upd placeF t (nI c1))) (k := 24) X hK hI hP hS t h_mb_18 g26 (by omega) (by decide) dX13_canPut_150 (fun H locs hP hS => ?_)
                      refine lv_iload hx hb dX13_canPut_151 (lv_at hl 0 rfl) ?_
                      refine lv_if_eq (tgt := 158) hx hb dX13_canPut_153 (by decide) (fun c_153 => ?_) (fun c_153 => ?_)
                      · skip
                        refine lv_iinc (v := ((nI c1) + 1)) (lv' := [(4, .int ((nI c1) + 1)), (5, .int ((E (upd placeF t (nI c1))))), (0, .ref (ad mb)), (1, .int (nI t)), (2, .int y), (3, .int z)]) hx hb dX13_canPut_158 hl (k := 5) rfl rfl (by decide) rfl (fun ls hl => ?_)
                        refine lv_goto (tgt := 33) hx hb dX13_canPut_161 (by decide) ?_
                        exact ih_33 (c1 + 1) ((nI c1) + 1) (by omega) (by omega) (by rw [← he1, show nc - c1 = (nc - (c1 + 1)) + 1 by omega]; first | exact (an_0 (f := (fun c => if (pcC nt nc bearsF ownerF limitF holdsF boardF kindF heavyF wideF hotF z) placeF t c = 0 then 0 else E (upd placeF t (nI c)))) (sk1 (by rw [pcC]; first | (rw [if_pos c_50]; done) | (rw [if_neg c_50, if_pos c_60, if_pos c_71]; done) | (rw [if_neg c_50, if_pos c_60, if_neg c_71, if_pos c_95]; done) | (rw [if_neg c_50, if_neg c_60, if_pos c_95]; done) | (rw [if_neg c_50, if_pos c_60, if_neg c_71, if_neg c_95, if_pos c_119]; done) | (rw [if_neg c_50, if_neg c_60, if_neg c_95, if_pos c_119]; done)) c_153)).symm | exact (an_0 (f := (fun c => if (pcC nt nc bearsF ownerF limitF holdsF boardF kindF heavyF wideF hotF z) placeF t c = 0 then 0 else E (upd placeF t (nI c)))) (sk0 (by rw [pcC]; first | (rw [if_pos c_50]; done) | (rw [if_neg c_50, if_pos c_60, if_pos c_71]; done) | (rw [if_neg c_50, if_pos c_60, if_neg c_71, if_pos c_95]; done) | (rw [if_neg c_50, if_neg c_60, if_pos c_95]; done) | (rw [if_neg c_50, if_pos c_60, if_neg c_71, if_neg c_95, if_neg c_119]; done) | (rw [if_neg c_50, if_neg c_60, if_neg c_95, if_neg c_119]; done)))).symm) (by exact nI_1 _) _ _ _ (by first | exact (va_up_self M24 (mb + 18) (.inl (cI, 24, .inl (upd (upd placeF t (nI c1)) t (-1))))) | exact (va_up_self M24 (mb + 18) (.inl (cI, 24, .inl (upd (upd placeF t (nI c1)) t (-1))))).trans (by rw [up_none hpt])) (fun q n0 => ((va_up_ne _ _ n0).trans ((fr27 q n0).trans ((va_up_ne _ _ n0).trans (fL33 q n0))))) hP hS ls (lv_sub hl [2, 3, 4, 5, 0] rfl)
                      · skip
                        refine lv_iconst (v := 1) hx hb dX13_canPut_156 (by decide) ?_
                        exact q_wzret X hr hlocks hP hS (rfl) ⟨(by rw [cpN, if_neg c_17, if_neg (show ¬ anyN (fun c => if (pcC nt nc bearsF ownerF limitF holdsF boardF kindF heavyF wideF hotF z) placeF t c = 0 then 0 else E (upd placeF t (nI c))) nc 0 = 0 by rw [← he1, show nc - c1 = (nc - (c1 + 1)) + 1 by omega, an_1 (f := (fun c => if (pcC nt nc bearsF ownerF limitF holdsF boardF kindF heavyF wideF hotF z) placeF t c = 0 then 0 else E (upd placeF t (nI c)))) (sk2 (by rw [pcC]; first | (rw [if_pos c_50]; done) | (rw [if_neg c_50, if_pos c_60, if_pos c_71]; done) | (rw [if_neg c_50, if_pos c_60, if_neg c_71, if_pos c_95]; done) | (rw [if_neg c_50, if_neg c_60, if_pos c_95]; done) | (rw [if_neg c_50, if_pos c_60, if_neg c_71, if_neg c_95, if_pos c_119]; done) | (rw [if_neg c_50, if_neg c_60, if_neg c_95, if_pos c_119]; done)) c_153)]; decide)]), (by exact (va_up_self M24 (mb + 18) (.inl (cI, 24, .inl (upd (upd placeF t (nI c1)) t (-1))))).trans (by rw [up_none hpt])), (fun q n0 => ((va_up_ne _ _ n0).trans ((fr27 q n0).trans ((va_up_ne _ _ n0).trans (fL33 q n0)))))⟩ dX13_canPut_157
                    · skip
                      refine lv_goto (tgt := 158) hx hb dX13_canPut_122 (by decide) ?_
                      refine lv_iinc (v := ((nI c1) + 1)) (lv' := [(4, .int ((nI c1) + 1)), (0, .ref (ad mb)), (1, .int (nI t)), (2, .int y), (3, .int z)]) hx hb dX13_canPut_158 hl (k := 4) rfl rfl (by decide) rfl (fun ls hl => ?_)
                      refine lv_goto (tgt := 33) hx hb dX13_canPut_161 (by decide) ?_
                      exact ih_33 (c1 + 1) ((nI c1) + 1) (by omega) (by omega) (by rw [← he1, show nc - c1 = (nc - (c1 + 1)) + 1 by omega]; first | exact (an_0 (f := (fun c => if (pcC nt nc bearsF ownerF limitF holdsF boardF kindF heavyF wideF hotF z) placeF t c = 0 then 0 else E (upd placeF t (nI c)))) (sk1 (by rw [pcC]; first | (rw [if_pos c_50]; done) | (rw [if_neg c_50, if_pos c_60, if_pos c_71]; done) | (rw [if_neg c_50, if_pos c_60, if_neg c_71, if_pos c_95]; done) | (rw [if_neg c_50, if_neg c_60, if_pos c_95]; done) | (rw [if_neg c_50, if_pos c_60, if_neg c_71, if_neg c_95, if_pos c_119]; done) | (rw [if_neg c_50, if_neg c_60, if_neg c_95, if_pos c_119]; done)) c_153)).symm | exact (an_0 (f := (fun c => if (pcC nt nc bearsF ownerF limitF holdsF boardF kindF heavyF wideF hotF z) placeF t c = 0 then 0 else E (upd placeF t (nI c)))) (sk0 (by rw [pcC]; first | (rw [if_pos c_50]; done) | (rw [if_neg c_50, if_pos c_60, if_pos c_71]; done) | (rw [if_neg c_50, if_pos c_60, if_neg c_71, if_pos c_95]; done) | (rw [if_neg c_50, if_neg c_60, if_pos c_95]; done) | (rw [if_neg c_50, if_pos c_60, if_neg c_71, if_neg c_95, if_neg c_119]; done) | (rw [if_neg c_50, if_neg c_60, if_neg c_95, if_neg c_119]; done)))).symm) (by exact nI_1 _) _ _ _ (by first | exact mL33_0 | exact mL33_0.trans (by rw [up_none hpt])) (fun q n0 => (fL33 q n0)) hP hS ls (lv_sub hl [1, 2, 3, 4, 0] rfl)
      exact loop_33 (nc + 1) 0 0 (by omega) (by exact Nat.zero_le _) (by rfl) (by rfl) _ _ _ m_mb_18 (fun q n0 => rfl) hP hS ls (lv_sub hl [1, 2, 3, 4, 0] rfl)
    · skip
      refine lv_aload_n hx hb dX13_canPut_20 rfl (lv_at hl 0 rfl) ?_
      refine lv_iload_n hx hb dX13_canPut_21 rfl (lv_at hl 1 rfl) ?_
      refine lv_iconst (v := 1) hx hb dX13_canPut_22 (by decide) ?_
      refine lv_iadd hx hb dX13_canPut_23 ?_
      refine lv_iload_n hx hb dX13_canPut_24 rfl (lv_at hl 2 rfl) ?_
      refine lv_iload_n hx hb dX13_canPut_25 rfl (lv_at hl 3 rfl) ?_
      refine q_wrVi (As := [.int ((nI t) + 1), .int y, .int z]) (rest := []) (hE M hI placeF h_mb h_mb_3 h_mb_6 h_mb_7 h_mb_8 h_mb_9 h_mb_11 h_mb_12 h_mb_13 h_mb_15 h_mb_17 h_mb_18 m_mb m_mb_3 m_mb_6 m_mb_7 m_mb_8 m_mb_9 m_mb_11 m_mb_12 m_mb_13 m_mb_15 m_mb_17 m_mb_18 (fun q h1 h2 h3 => hpl q (by omega) h2 h3)) X hK hP hS hl.1 rfl gX13_canPut_X13_canPut yd_X13_canPut ⟨by show fE + 1 ≤ fE + 1; omega, by show 8 + (6 + 11) + (lE) ≤ lE + 30; omega⟩ h_mb m_mb (ci := 12) rfl rfl (Nat.le_of_ble_eq_true rfl) ⟨Nat.zero_le _, Nat.zero_le _⟩ dX13_canPut_26 (fun r33 M32 H locs hp31 hP hS => ?_)
      obtain ⟨er36, g34, fr35⟩ := hp31
      replace er36 := er36.symm
      subst er36
      exact q_wzret X hr hlocks hP hS (hEb _) ⟨(by rw [cpN, if_pos c_17]), g34, (fun q n0 => (fr35 q n0))⟩ dX13_canPut_29
  · exact absurd ((nI_eq (by omega) (by omega)).mp (c_7.trans k2)) (by omega)
set_option maxHeartbeats 4000000 in
set_option maxRecDepth 100000 in
theorem c_X13_canPutZ (l : Launch) (D : va_G) (cB cI cJ : ClassId) (ad : Nat → Nat) (n : Nat) (M : Nat → va_E) (hI : ipI ad n) (mb nt nc np nq : Nat) (mv toldF bearsF ownerF limitF holdsF boardF kindF heavyF wideF hotF placeF : Nat → Int32) (t : Nat) (y z : Int32) (h_mb : mb < n) (h_mb_3 : mb + 3 < n) (h_mb_6 : mb + 6 < n) (h_mb_7 : mb + 7 < n) (h_mb_8 : mb + 8 < n) (h_mb_9 : mb + 9 < n) (h_mb_11 : mb + 11 < n) (h_mb_12 : mb + 12 < n) (h_mb_13 : mb + 13 < n) (h_mb_15 : mb + 15 < n) (h_mb_17 : mb + 17 < n) (h_mb_18 : mb + 18 < n) (m_mb : M mb = .inr (12, modF ad mb mv)) (m_mb_3 : M (mb + 3) = .inl (cI, 14, .inl toldF)) (m_mb_6 : M (mb + 6) = .inl (cI, 8, .inl bearsF)) (m_mb_7 : M (mb + 7) = .inl (cI, 10, .inl ownerF)) (m_mb_8 : M (mb + 8) = .inl (cI, 10, .inl limitF)) (m_mb_9 : M (mb + 9) = .inl (cI, 10, .inl holdsF)) (m_mb_11 : M (mb + 11) = .inl (cI, 10, .inl boardF)) (m_mb_12 : M (mb + 12) = .inl (cI, 24, .inl kindF)) (m_mb_13 : M (mb + 13) = .inl (cI, 24, .inl heavyF)) (m_mb_15 : M (mb + 15) = .inl (cI, 24, .inl wideF)) (m_mb_17 : M (mb + 17) = .inl (cI, 24, .inl hotF)) (m_mb_18 : M (mb + 18) = .inl (cI, 24, .inl placeF)) (k0 : toldF 0 = nI np) (hnp : np ≤ 4) (k1 : toldF 1 = nI nc) (hnc : nc ≤ 5) (k2 : toldF 2 = nI nt) (hnt : nt ≤ 12) (k3 : toldF 3 = nI nq) (hnq : nq ≤ 6) (ht9 : t = nt) (hpl : ∀ q : Nat, t ≤ q → q < nt → ¬ (y >>> (nI q &&& 31)) &&& 1 = 0 → placeF q = -1) : cWi l D cB cI cJ ad n M yX13_canPut wsX13_canPut (24 - t) (660 - 30 * t) [.ref (ad mb), .int (nI t), .int y, .int z] (fun r M' => r = 1 ∧ M' (mb + 18) = .inl (cI, 24, .inl placeF) ∧ ∀ q : Nat, q ≠ mb + 18 → M' q = M q) := by
  refine q_body (cc := cX13_canPut) (maxL := 6) (ret := (some .boolean)) (by decide) rfl (Nat.le_of_ble_eq_true rfl) ?_
  intro p e s m args below meth c ls X hr hlocks hK hP hl
  obtain ⟨hx, hb, hml, hown, hts⟩ := id X
  have hS : va_S (ipA ad n) s.heap s.heap [] := va_S.rf
  have hl : lv_has ls 6 [(0, .ref (ad mb)), (1, .int (nI t)), (2, .int y), (3, .int z)] := hl
  refine lv_iload_n hx hb dX13_canPut_0 rfl (lv_at hl 1 rfl) ?_
  refine lv_aload_n hx hb dX13_canPut_1 rfl (lv_at hl 0 rfl) ?_
  refine q_get (v := .ref (ad (mb + 3))) (fs := modF ad mb mv) X hK hP fX13_canPut_40 h_mb m_mb rfl dX13_canPut_2 ?_
  refine lv_iconst (v := 2) hx hb dX13_canPut_5 (by decide) ?_
  refine q_ialdN (f := toldF) (k := 14) X hK hP 2 h_mb_3 m_mb_3 (by decide) (by decide) dX13_canPut_6 ?_
  refine lv_icmp_ne (tgt := 12) hx hb dX13_canPut_7 (by decide) (fun c_7 => ?_) (fun c_7 => ?_)
  · exact absurd (by rw [k2, ht9]) c_7
  · skip
    refine lv_iconst (v := 1) hx hb dX13_canPut_10 (by decide) ?_
    exact q_wzret X hr hlocks hP hS (rfl) ⟨(by rfl), m_mb_18, (fun q n0 => rfl)⟩ dX13_canPut_11
theorem pC_all {l : Launch} {D : va_G} {cB cI cJ : ClassId} {ad : Nat → Nat} {n : Nat} {mb nt nc np nq : Nat} {mv toldF bearsF ownerF limitF holdsF boardF kindF heavyF wideF hotF : Nat → Int32} {y z : Int32} (k0 : toldF 0 = nI np) (hnp : np ≤ 4) (k1 : toldF 1 = nI nc) (hnc : nc ≤ 5) (k2 : toldF 2 = nI nt) (hnt : nt ≤ 12) (k3 : toldF 3 = nI nq) (hnq : nq ≤ 6) : ∀ r t : Nat, t + r = nt → pCon l D cB cI cJ ad n (24 - t) (660 - 30 * t) mb nt mv toldF bearsF ownerF limitF holdsF boardF kindF heavyF wideF hotF t (nI t) y z (cpS (pcC nt nc bearsF ownerF limitF holdsF boardF kindF heavyF wideF hotF z) (pcP nt nc bearsF ownerF limitF holdsF boardF kindF heavyF wideF hotF z) kindF y nc np r t)
  | 0, t, ht => fun M hI placeF h_mb h_mb_3 h_mb_6 h_mb_7 h_mb_8 h_mb_9 h_mb_11 h_mb_12 h_mb_13 h_mb_15 h_mb_17 h_mb_18 m_mb m_mb_3 m_mb_6 m_mb_7 m_mb_8 m_mb_9 m_mb_11 m_mb_12 m_mb_13 m_mb_15 m_mb_17 m_mb_18 hpl => c_X13_canPutZ l D cB cI cJ ad n M hI mb nt nc np nq mv toldF bearsF ownerF limitF holdsF boardF kindF heavyF wideF hotF placeF t y z h_mb h_mb_3 h_mb_6 h_mb_7 h_mb_8 h_mb_9 h_mb_11 h_mb_12 h_mb_13 h_mb_15 h_mb_17 h_mb_18 m_mb m_mb_3 m_mb_6 m_mb_7 m_mb_8 m_mb_9 m_mb_11 m_mb_12 m_mb_13 m_mb_15 m_mb_17 m_mb_18 k0 hnp k1 hnc k2 hnt k3 hnq (by omega) hpl
  | r + 1, t, ht => by
    have hE := pC_all (l := l) (D := D) (cB := cB) (cI := cI) (cJ := cJ) (ad := ad) (n := n) (mb := mb) (mv := mv) (bearsF := bearsF) (ownerF := ownerF) (limitF := limitF) (holdsF := holdsF) (boardF := boardF) (kindF := kindF) (heavyF := heavyF) (wideF := wideF) (hotF := hotF) (y := y) (z := z) k0 hnp k1 hnc k2 hnt k3 hnq r (t + 1) (by omega)
    rw [show 24 - (t + 1) = 23 - t by omega, show 660 - 30 * (t + 1) = 630 - 30 * t by omega, show nI (t + 1) = nI t + 1 from (nI_1 t).symm] at hE
    rw [show 24 - t = (23 - t) + 1 by omega, show 660 - 30 * t = (630 - 30 * t) + 30 by omega]
    exact fun M hI placeF h_mb h_mb_3 h_mb_6 h_mb_7 h_mb_8 h_mb_9 h_mb_11 h_mb_12 h_mb_13 h_mb_15 h_mb_17 h_mb_18 m_mb m_mb_3 m_mb_6 m_mb_7 m_mb_8 m_mb_9 m_mb_11 m_mb_12 m_mb_13 m_mb_15 m_mb_17 m_mb_18 hpl => c_X13_canPut l D cB cI cJ ad n M hI mb nt nc np nq mv toldF bearsF ownerF limitF holdsF boardF kindF heavyF wideF hotF placeF t y z (23 - t) (630 - 30 * t) (cpS (pcC nt nc bearsF ownerF limitF holdsF boardF kindF heavyF wideF hotF z) (pcP nt nc bearsF ownerF limitF holdsF boardF kindF heavyF wideF hotF z) kindF y nc np r (t + 1)) h_mb h_mb_3 h_mb_6 h_mb_7 h_mb_8 h_mb_9 h_mb_11 h_mb_12 h_mb_13 h_mb_15 h_mb_17 h_mb_18 m_mb m_mb_3 m_mb_6 m_mb_7 m_mb_8 m_mb_9 m_mb_11 m_mb_12 m_mb_13 m_mb_15 m_mb_17 m_mb_18 k0 hnp k1 hnc k2 hnt k3 hnq (by omega) hpl (by omega) (by omega) (cp_nb _ _ _ _ _ _ r (t + 1)) hE

theorem c_X13_canPut0 (l : Launch) (D : va_G) (cB cI cJ : ClassId) (ad : Nat → Nat) (n : Nat) (M : Nat → va_E) (hI : ipI ad n) (mb nt nc np nq : Nat) (mv toldF bearsF ownerF limitF holdsF boardF kindF heavyF wideF hotF placeF : Nat → Int32) (y z : Int32) (h_mb : mb < n) (h_mb_3 : mb + 3 < n) (h_mb_6 : mb + 6 < n) (h_mb_7 : mb + 7 < n) (h_mb_8 : mb + 8 < n) (h_mb_9 : mb + 9 < n) (h_mb_11 : mb + 11 < n) (h_mb_12 : mb + 12 < n) (h_mb_13 : mb + 13 < n) (h_mb_15 : mb + 15 < n) (h_mb_17 : mb + 17 < n) (h_mb_18 : mb + 18 < n) (m_mb : M mb = .inr (12, modF ad mb mv)) (m_mb_3 : M (mb + 3) = .inl (cI, 14, .inl toldF)) (m_mb_6 : M (mb + 6) = .inl (cI, 8, .inl bearsF)) (m_mb_7 : M (mb + 7) = .inl (cI, 10, .inl ownerF)) (m_mb_8 : M (mb + 8) = .inl (cI, 10, .inl limitF)) (m_mb_9 : M (mb + 9) = .inl (cI, 10, .inl holdsF)) (m_mb_11 : M (mb + 11) = .inl (cI, 10, .inl boardF)) (m_mb_12 : M (mb + 12) = .inl (cI, 24, .inl kindF)) (m_mb_13 : M (mb + 13) = .inl (cI, 24, .inl heavyF)) (m_mb_15 : M (mb + 15) = .inl (cI, 24, .inl wideF)) (m_mb_17 : M (mb + 17) = .inl (cI, 24, .inl hotF)) (m_mb_18 : M (mb + 18) = .inl (cI, 24, .inl placeF)) (k0 : toldF 0 = nI np) (hnp : np ≤ 4) (k1 : toldF 1 = nI nc) (hnc : nc ≤ 5) (k2 : toldF 2 = nI nt) (hnt : nt ≤ 12) (k3 : toldF 3 = nI nq) (hnq : nq ≤ 6) (hpl : ∀ q : Nat, 0 ≤ q → q < nt → ¬ (y >>> (nI q &&& 31)) &&& 1 = 0 → placeF q = -1) : cWi l D cB cI cJ ad n M yX13_canPut wsX13_canPut 24 660 [.ref (ad mb), .int 0, .int y, .int z] (fun r M' => r = (cpS (pcC nt nc bearsF ownerF limitF holdsF boardF kindF heavyF wideF hotF z) (pcP nt nc bearsF ownerF limitF holdsF boardF kindF heavyF wideF hotF z) kindF y nc np nt 0 placeF) ∧ M' (mb + 18) = .inl (cI, 24, .inl placeF) ∧ ∀ q : Nat, q ≠ mb + 18 → M' q = M q) := by
  have h := pC_all (l := l) (D := D) (cB := cB) (cI := cI) (cJ := cJ) (ad := ad) (n := n) (mb := mb) (mv := mv) (bearsF := bearsF) (ownerF := ownerF) (limitF := limitF) (holdsF := holdsF) (boardF := boardF) (kindF := kindF) (heavyF := heavyF) (wideF := wideF) (hotF := hotF) (y := y) (z := z) k0 hnp k1 hnc k2 hnt k3 hnq nt 0 (Nat.zero_add nt) M hI placeF h_mb h_mb_3 h_mb_6 h_mb_7 h_mb_8 h_mb_9 h_mb_11 h_mb_12 h_mb_13 h_mb_15 h_mb_17 h_mb_18 m_mb m_mb_3 m_mb_6 m_mb_7 m_mb_8 m_mb_9 m_mb_11 m_mb_12 m_mb_13 m_mb_15 m_mb_17 m_mb_18 hpl
  exact h
set_option maxRecDepth 20000 in
theorem fX13_goesBy_40 : FL wsX13_goesBy RX13 40 12 3 := ⟨RX13, TX13, 67, rfl, by decide +kernel, by decide, by decide +kernel⟩
set_option maxRecDepth 20000 in
theorem fX13_goesBy_84 : FL wsX13_goesBy RX13 84 12 18 := ⟨RX13, TX13, 67, rfl, by decide +kernel, by decide, by decide +kernel⟩
set_option maxRecDepth 20000 in
theorem fX13_goesBy_121 : FL wsX13_goesBy RX13 121 12 42 := ⟨RX13, TX13, 67, rfl, by decide +kernel, by decide, by decide +kernel⟩
set_option maxHeartbeats 4000000 in
set_option maxRecDepth 100000 in
theorem c_X13_goesBy (l : Launch) (D : va_G) (cB cI cJ : ClassId) (ad : Nat → Nat) (n : Nat) (M : Nat → va_E) (hI : ipI ad n) (mb nt nc np nq : Nat) (mv toldF bearsF ownerF limitF holdsF boardF kindF heavyF wideF hotF placeF placeWasF : Nat → Int32) (y z : Int32) (h_mb : mb < n) (h_mb_3 : mb + 3 < n) (h_mb_6 : mb + 6 < n) (h_mb_7 : mb + 7 < n) (h_mb_8 : mb + 8 < n) (h_mb_9 : mb + 9 < n) (h_mb_11 : mb + 11 < n) (h_mb_12 : mb + 12 < n) (h_mb_13 : mb + 13 < n) (h_mb_15 : mb + 15 < n) (h_mb_17 : mb + 17 < n) (h_mb_18 : mb + 18 < n) (h_mb_29 : mb + 29 < n) (m_mb : M mb = .inr (12, modF ad mb mv)) (m_mb_3 : M (mb + 3) = .inl (cI, 14, .inl toldF)) (m_mb_6 : M (mb + 6) = .inl (cI, 8, .inl bearsF)) (m_mb_7 : M (mb + 7) = .inl (cI, 10, .inl ownerF)) (m_mb_8 : M (mb + 8) = .inl (cI, 10, .inl limitF)) (m_mb_9 : M (mb + 9) = .inl (cI, 10, .inl holdsF)) (m_mb_11 : M (mb + 11) = .inl (cI, 10, .inl boardF)) (m_mb_12 : M (mb + 12) = .inl (cI, 24, .inl kindF)) (m_mb_13 : M (mb + 13) = .inl (cI, 24, .inl heavyF)) (m_mb_15 : M (mb + 15) = .inl (cI, 24, .inl wideF)) (m_mb_17 : M (mb + 17) = .inl (cI, 24, .inl hotF)) (m_mb_18 : M (mb + 18) = .inl (cI, 24, .inl placeF)) (m_mb_29 : M (mb + 29) = .inl (cI, 12, .inl placeWasF)) (k0 : toldF 0 = nI np) (hnp : np ≤ 4) (k1 : toldF 1 = nI nc) (hnc : nc ≤ 5) (k2 : toldF 2 = nI nt) (hnt : nt ≤ 12) (k3 : toldF 3 = nI nq) (hnq : nq ≤ 6) : cWi l D cB cI cJ ad n M yX13_goesBy wsX13_goesBy 25 685 [.ref (ad mb), .int z, .int y] (fun r M' => ∃ (v0 : Nat → Int32), r = (cpS (pcC nt nc bearsF ownerF limitF holdsF boardF kindF heavyF wideF hotF z) (pcP nt nc bearsF ownerF limitF holdsF boardF kindF heavyF wideF hotF z) kindF y nc np nt 0 (gbF y placeF nt)) ∧ M' (mb + 18) = .inl (cI, 24, .inl placeF) ∧ M' (mb + 29) = .inl (cI, 12, .inl v0) ∧ ∀ q : Nat, q ≠ mb + 18 → q ≠ mb + 29 → M' q = M q) := by
  refine q_body (cc := cX13_goesBy) (maxL := 5) (ret := (some .boolean)) (by decide) rfl (Nat.le_of_ble_eq_true rfl) ?_
  intro p e s m args below meth c ls X hr hlocks hK hP hl
  obtain ⟨hx, hb, hml, hown, hts⟩ := id X
  have hS : va_S (ipA ad n) s.heap s.heap [] := va_S.rf
  have hl : lv_has ls 5 [(0, .ref (ad mb)), (1, .int z), (2, .int y)] := hl
  refine lv_iconst (v := 0) hx hb dX13_goesBy_0 (by decide) ?_
  refine lv_istore_n (lv' := [(3, .int 0), (0, .ref (ad mb)), (1, .int z), (2, .int y)]) hx hb dX13_goesBy_1 rfl hl (by decide) rfl (fun ls hl => ?_)
  have loop_2 : ∀ (fuel : Nat) (t : Nat) (x3 : Int32), nt - t < fuel → (t ≤ nt) → x3 = nI t → ∀ (ML2 : Nat → va_E) (H : Heap) (locs : List Loc), ML2 (mb + 18) = .inl (cI, 24, .inl (gbF y placeF t)) → ML2 (mb + 29) = .inl (cI, 12, .inl (rsF placeF placeWasF t)) → (∀ q : Nat, q ≠ mb + 18 → q ≠ mb + 29 → ML2 q = M q) → va_P D vwCl (ip ad n ML2) H → va_S (ipA ad n) s.heap H locs → ∀ (ls : Array Slot), lv_has ls 5 [(0, .ref (ad mb)), (1, .int z), (2, .int y), (3, .int x3)] → W p l e (rmOf 25 685) s m args below meth c H locs 0 0 (MQ below (va_Qi (fun r M' => ∃ (v0 : Nat → Int32), r = (cpS (pcC nt nc bearsF ownerF limitF holdsF boardF kindF heavyF wideF hotF z) (pcP nt nc bearsF ownerF limitF holdsF boardF kindF heavyF wideF hotF z) kindF y nc np nt 0 (gbF y placeF nt)) ∧ M' (mb + 18) = .inl (cI, 24, .inl placeF) ∧ M' (mb + 29) = .inl (cI, 12, .inl v0) ∧ ∀ q : Nat, q ≠ mb + 18 → q ≠ mb + 29 → M' q = M q) (fun M' t => va_P D vwCl (ip ad n M') t.heap) (ipA ad n)) args s 0 0 (ipA ad n)) (F0 m 2 ls []) := by
    intro fuel
    induction fuel with
    | zero =>
      intro t x3 hz
      exact absurd hz (Nat.not_lt_zero _)
    | succ fuel ih_2 =>
      intro t x3 hz_2 ht e3 ML2 H locs mL2_0 mL2_1 fL2 hP hS ls hl
      subst e3
      skip
      refine lv_iload_n hx hb dX13_goesBy_2 rfl (lv_at hl 3 rfl) ?_
      refine lv_aload_n hx hb dX13_goesBy_3 rfl (lv_at hl 0 rfl) ?_
      refine q_get (v := .ref (ad (mb + 3))) (fs := modF ad mb mv) X hK hP fX13_goesBy_40 h_mb ((fL2 mb (by omega) (by omega)).trans m_mb) rfl dX13_goesBy_4 ?_
      refine lv_iconst (v := 2) hx hb dX13_goesBy_7 (by decide) ?_
      refine q_ialdN (f := toldF) (k := 14) X hK hP 2 h_mb_3 ((fL2 (mb + 3) (by omega) (by omega)).trans m_mb_3) (by decide) (by decide) dX13_goesBy_8 ?_
      refine lv_icmp_ge (tgt := 46) hx hb dX13_goesBy_9 (by decide) (fun c_9 => ?_) (fun c_9 => ?_)
      · skip
        rw [k2] at c_9; have h9 : t = nt := eq_of_le c_9 (by omega) ht
        have g1 : ML2 (mb + 18) = .inl (cI, 24, .inl (gbF y placeF nt)) := by rw [← h9]; exact mL2_0
        have g2 : ML2 (mb + 29) = .inl (cI, 12, .inl (rsF placeF placeWasF nt)) := by rw [← h9]; exact mL2_1
        refine lv_aload_n hx hb dX13_goesBy_46 rfl (lv_at hl 0 rfl) ?_
        refine lv_iconst (v := 0) hx hb dX13_goesBy_47 (by decide) ?_
        refine lv_iload_n hx hb dX13_goesBy_48 rfl (lv_at hl 2 rfl) ?_
        refine lv_iload_n hx hb dX13_goesBy_49 rfl (lv_at hl 1 rfl) ?_
        refine q_wrVi (As := [.int 0, .int y, .int z]) (rest := []) (c_X13_canPut0 l D cB cI cJ ad n ML2 hI mb nt nc np nq mv toldF bearsF ownerF limitF holdsF boardF kindF heavyF wideF hotF (gbF y placeF nt) y z h_mb h_mb_3 h_mb_6 h_mb_7 h_mb_8 h_mb_9 h_mb_11 h_mb_12 h_mb_13 h_mb_15 h_mb_17 h_mb_18 ((fL2 mb (by omega) (by omega)).trans m_mb) ((fL2 (mb + 3) (by omega) (by omega)).trans m_mb_3) ((fL2 (mb + 6) (by omega) (by omega)).trans m_mb_6) ((fL2 (mb + 7) (by omega) (by omega)).trans m_mb_7) ((fL2 (mb + 8) (by omega) (by omega)).trans m_mb_8) ((fL2 (mb + 9) (by omega) (by omega)).trans m_mb_9) ((fL2 (mb + 11) (by omega) (by omega)).trans m_mb_11) ((fL2 (mb + 12) (by omega) (by omega)).trans m_mb_12) ((fL2 (mb + 13) (by omega) (by omega)).trans m_mb_13) ((fL2 (mb + 15) (by omega) (by omega)).trans m_mb_15) ((fL2 (mb + 17) (by omega) (by omega)).trans m_mb_17) g1 k0 hnp k1 hnc k2 hnt k3 hnq (gbF_pl)) X hK hP hS hl.1 rfl gX13_goesBy_X13_canPut yd_X13_canPut ⟨Nat.le_of_ble_eq_true rfl, Nat.le_of_ble_eq_true rfl⟩ h_mb ((fL2 mb (by omega) (by omega)).trans m_mb) (ci := 12) rfl rfl (Nat.le_of_ble_eq_true rfl) ⟨Nat.zero_le _, Nat.zero_le _⟩ dX13_goesBy_50 (fun r5 M4 H locs hp3 hP hS => ?_)
        obtain ⟨er8, g6, fr7⟩ := hp3
        replace er8 := er8.symm
        subst er8
        refine lv_istore_n (lv' := [(3, .int ((cpS (pcC nt nc bearsF ownerF limitF holdsF boardF kindF heavyF wideF hotF z) (pcP nt nc bearsF ownerF limitF holdsF boardF kindF heavyF wideF hotF z) kindF y nc np nt 0 (gbF y placeF nt)))), (0, .ref (ad mb)), (1, .int z), (2, .int y)]) hx hb dX13_goesBy_53 rfl hl (by decide) rfl (fun ls hl => ?_)
        refine lv_iconst (v := 0) hx hb dX13_goesBy_54 (by decide) ?_
        refine lv_istore (lv' := [(4, .int 0), (3, .int ((cpS (pcC nt nc bearsF ownerF limitF holdsF boardF kindF heavyF wideF hotF z) (pcP nt nc bearsF ownerF limitF holdsF boardF kindF heavyF wideF hotF z) kindF y nc np nt 0 (gbF y placeF nt)))), (0, .ref (ad mb)), (1, .int z), (2, .int y)]) hx hb dX13_goesBy_55 hl (by decide) rfl (fun ls hl => ?_)
        have loop_57 : ∀ (fuel : Nat) (t : Nat) (x4 : Int32), nt - t < fuel → (t ≤ nt) → x4 = nI t → ∀ (ML57 : Nat → va_E) (H : Heap) (locs : List Loc), ML57 (mb + 18) = .inl (cI, 24, .inl (rsF placeF (gbF y placeF nt) t)) → ML57 (mb + 29) = .inl (cI, 12, .inl (rsF placeF placeWasF nt)) → (∀ q : Nat, q ≠ mb + 18 → q ≠ mb + 29 → ML57 q = M q) → va_P D vwCl (ip ad n ML57) H → va_S (ipA ad n) s.heap H locs → ∀ (ls : Array Slot), lv_has ls 5 [(0, .ref (ad mb)), (3, .int (cpS (pcC nt nc bearsF ownerF limitF holdsF boardF kindF heavyF wideF hotF z) (pcP nt nc bearsF ownerF limitF holdsF boardF kindF heavyF wideF hotF z) kindF y nc np nt 0 (gbF y placeF nt))), (4, .int x4)] → W p l e (rmOf 25 685) s m args below meth c H locs 0 0 (MQ below (va_Qi (fun r M' => ∃ (v0 : Nat → Int32), r = (cpS (pcC nt nc bearsF ownerF limitF holdsF boardF kindF heavyF wideF hotF z) (pcP nt nc bearsF ownerF limitF holdsF boardF kindF heavyF wideF hotF z) kindF y nc np nt 0 (gbF y placeF nt)) ∧ M' (mb + 18) = .inl (cI, 24, .inl placeF) ∧ M' (mb + 29) = .inl (cI, 12, .inl v0) ∧ ∀ q : Nat, q ≠ mb + 18 → q ≠ mb + 29 → M' q = M q) (fun M' t => va_P D vwCl (ip ad n M') t.heap) (ipA ad n)) args s 0 0 (ipA ad n)) (F0 m 57 ls []) := by
          intro fuel
          induction fuel with
          | zero =>
            intro t x4 hz
            exact absurd hz (Nat.not_lt_zero _)
          | succ fuel ih_57 =>
            intro t x4 hz_57 ht e4 ML57 H locs mL57_0 mL57_1 fL57 hP hS ls hl
            subst e4
            skip
            refine lv_iload hx hb dX13_goesBy_57 (lv_at hl 2 rfl) ?_
            refine lv_aload_n hx hb dX13_goesBy_59 rfl (lv_at hl 0 rfl) ?_
            refine q_get (v := .ref (ad (mb + 3))) (fs := modF ad mb mv) X hK hP fX13_goesBy_40 h_mb ((fL57 mb (by omega) (by omega)).trans m_mb) rfl dX13_goesBy_60 ?_
            refine lv_iconst (v := 2) hx hb dX13_goesBy_63 (by decide) ?_
            refine q_ialdN (f := toldF) (k := 14) X hK hP 2 h_mb_3 ((fL57 (mb + 3) (by omega) (by omega)).trans m_mb_3) (by decide) (by decide) dX13_goesBy_64 ?_
            refine lv_icmp_ge (tgt := 88) hx hb dX13_goesBy_65 (by decide) (fun c_65 => ?_) (fun c_65 => ?_)
            · skip
              rw [k2] at c_65; have h8 : t = nt := eq_of_le c_65 (by omega) ht
              refine lv_iload_n hx hb dX13_goesBy_88 rfl (lv_at hl 1 rfl) ?_
              exact q_wzret X hr hlocks hP hS (cp_nb _ _ _ _ _ _ _ _ _) ⟨(rsF placeF placeWasF nt), (by rfl), (by refine mL57_0.trans ?_; rw [h8, rsF_n]), mL57_1, (fun q n0 n1 => (fL57 q n0 n1))⟩ dX13_goesBy_89
            · skip
              rw [k2] at c_65; have h8 := lt_of_nlt c_65 (by omega) ht
              refine lv_aload_n hx hb dX13_goesBy_68 rfl (lv_at hl 0 rfl) ?_
              refine q_get (v := .ref (ad (mb + 18))) (fs := modF ad mb mv) X hK hP fX13_goesBy_84 h_mb ((fL57 mb (by omega) (by omega)).trans m_mb) rfl dX13_goesBy_69 ?_
              refine lv_iload hx hb dX13_goesBy_72 (lv_at hl 2 rfl) ?_
              refine lv_aload_n hx hb dX13_goesBy_74 rfl (lv_at hl 0 rfl) ?_
              refine q_get (v := .ref (ad (mb + 29))) (fs := modF ad mb mv) X hK hP fX13_goesBy_121 h_mb ((fL57 mb (by omega) (by omega)).trans m_mb) rfl dX13_goesBy_75 ?_
              refine lv_iload hx hb dX13_goesBy_78 (lv_at hl 2 rfl) ?_
              refine q_ialdN (f := (rsF placeF placeWasF nt)) (k := 12) X hK hP t h_mb_29 mL57_1 (by omega) (by decide) dX13_goesBy_80 ?_
              refine q_iastN (f := (rsF placeF (gbF y placeF nt) t)) (k := 24) X hK hI hP hS t h_mb_18 mL57_0 (by omega) (by decide) dX13_goesBy_81 (fun H locs hP hS => ?_)
              refine lv_iinc (v := ((nI t) + 1)) (lv' := [(4, .int ((nI t) + 1)), (0, .ref (ad mb)), (3, .int (cpS (pcC nt nc bearsF ownerF limitF holdsF boardF kindF heavyF wideF hotF z) (pcP nt nc bearsF ownerF limitF holdsF boardF kindF heavyF wideF hotF z) kindF y nc np nt 0 (gbF y placeF nt)))]) hx hb dX13_goesBy_82 hl (k := 2) rfl rfl (by decide) rfl (fun ls hl => ?_)
              refine lv_goto (tgt := 57) hx hb dX13_goesBy_85 (by decide) ?_
              exact ih_57 (t + 1) ((nI t) + 1) (by omega) (by omega) (by exact nI_1 _) _ _ _ (by refine (va_up_self ML57 (mb + 18) (.inl (cI, 24, .inl (upd (rsF placeF (gbF y placeF nt) t) t ((rsF placeF placeWasF nt) t))))).trans ?_; rw [show rsF placeF placeWasF nt t = placeF t from if_pos h8, rsF_s]) ((va_up_ne ML57 (.inl (cI, 24, .inl (upd (rsF placeF (gbF y placeF nt) t) t ((rsF placeF placeWasF nt) t)))) (show mb + 29 ≠ mb + 18 by omega)).trans mL57_1) (fun q n0 n1 => ((va_up_ne _ _ n0).trans (fL57 q n0 n1))) hP hS ls (lv_sub hl [1, 2, 0] rfl)
        exact loop_57 (nt + 1) 0 0 (by omega) (by omega) (by rfl) _ _ _ (by rw [rsF_0]; exact g6) (by exact ((fr7 (mb + 29) (by omega)).trans g2)) (fun q n0 n1 => ((fr7 q n0).trans (fL2 q n0 n1))) hP hS ls (lv_sub hl [2, 1, 0] rfl)
      · skip
        rw [k2] at c_9; have h9 := lt_of_nlt c_9 (by omega) ht
        refine lv_aload_n hx hb dX13_goesBy_12 rfl (lv_at hl 0 rfl) ?_
        refine q_get (v := .ref (ad (mb + 29))) (fs := modF ad mb mv) X hK hP fX13_goesBy_121 h_mb ((fL2 mb (by omega) (by omega)).trans m_mb) rfl dX13_goesBy_13 ?_
        refine lv_iload_n hx hb dX13_goesBy_16 rfl (lv_at hl 3 rfl) ?_
        refine lv_aload_n hx hb dX13_goesBy_17 rfl (lv_at hl 0 rfl) ?_
        refine q_get (v := .ref (ad (mb + 18))) (fs := modF ad mb mv) X hK hP fX13_goesBy_84 h_mb ((fL2 mb (by omega) (by omega)).trans m_mb) rfl dX13_goesBy_18 ?_
        refine lv_iload_n hx hb dX13_goesBy_21 rfl (lv_at hl 3 rfl) ?_
        refine q_ialdN (f := (gbF y placeF t)) (k := 24) X hK hP t h_mb_18 mL2_0 (by omega) (by decide) dX13_goesBy_22 ?_
        refine q_iastN (f := (rsF placeF placeWasF t)) (k := 12) X hK hI hP hS t h_mb_29 mL2_1 (by omega) (by decide) dX13_goesBy_23 (fun H locs hP hS => ?_)
        refine lv_iload_n hx hb dX13_goesBy_24 rfl (lv_at hl 2 rfl) ?_
        refine lv_iload_n hx hb dX13_goesBy_25 rfl (lv_at hl 3 rfl) ?_
        refine lv_ishr hx hb dX13_goesBy_26 ?_
        refine lv_iconst (v := 1) hx hb dX13_goesBy_27 (by decide) ?_
        refine lv_iand hx hb dX13_goesBy_28 ?_
        refine lv_iconst (v := 1) hx hb dX13_goesBy_29 (by decide) ?_
        refine lv_icmp_ne (tgt := 40) hx hb dX13_goesBy_30 (by decide) (fun c_30 => ?_) (fun c_30 => ?_)
        · skip
          refine lv_iinc (v := ((nI t) + 1)) (lv' := [(3, .int ((nI t) + 1)), (0, .ref (ad mb)), (1, .int z), (2, .int y)]) hx hb dX13_goesBy_40 hl (k := 3) rfl rfl (by decide) rfl (fun ls hl => ?_)
          refine lv_goto (tgt := 2) hx hb dX13_goesBy_43 (by decide) ?_
          exact ih_2 (t + 1) ((nI t) + 1) (by omega) (by omega) (by exact nI_1 _) _ _ _ (by refine ((va_up_ne ML2 (.inl (cI, 12, .inl (upd (rsF placeF placeWasF t) t ((gbF y placeF t) t)))) (show mb + 18 ≠ mb + 29 by omega)).trans mL2_0).trans ?_; first | (rw [gbF_s y placeF t c_30]; done) | (rw [gbF_n y placeF t c_30]; done)) (by refine (va_up_self ML2 (mb + 29) (.inl (cI, 12, .inl (upd (rsF placeF placeWasF t) t ((gbF y placeF t) t))))).trans ?_; rw [gbF_at, rsF_s]) (fun q n0 n1 => ((va_up_ne _ _ n1).trans (fL2 q n0 n1))) hP hS ls (lv_sub hl [1, 2, 3, 0] rfl)
        · skip
          refine lv_aload_n hx hb dX13_goesBy_33 rfl (lv_at hl 0 rfl) ?_
          refine q_get (v := .ref (ad (mb + 18))) (fs := modF ad mb mv) X hK hP fX13_goesBy_84 h_mb ((va_up_ne ML2 (.inl (cI, 12, .inl (upd (rsF placeF placeWasF t) t ((gbF y placeF t) t)))) (show mb ≠ mb + 29 by omega)).trans ((fL2 mb (by omega) (by omega)).trans m_mb)) rfl dX13_goesBy_34 ?_
          refine lv_iload_n hx hb dX13_goesBy_37 rfl (lv_at hl 3 rfl) ?_
          refine lv_iconst (v := (-1)) hx hb dX13_goesBy_38 (by decide) ?_
          refine q_iastN (f := (gbF y placeF t)) (k := 24) X hK hI hP hS t h_mb_18 ((va_up_ne ML2 (.inl (cI, 12, .inl (upd (rsF placeF placeWasF t) t ((gbF y placeF t) t)))) (show mb + 18 ≠ mb + 29 by omega)).trans mL2_0) (by omega) (by decide) dX13_goesBy_39 (fun H locs hP hS => ?_)
          refine lv_iinc (v := ((nI t) + 1)) (lv' := [(3, .int ((nI t) + 1)), (0, .ref (ad mb)), (1, .int z), (2, .int y)]) hx hb dX13_goesBy_40 hl (k := 3) rfl rfl (by decide) rfl (fun ls hl => ?_)
          refine lv_goto (tgt := 2) hx hb dX13_goesBy_43 (by decide) ?_
          exact ih_2 (t + 1) ((nI t) + 1) (by omega) (by omega) (by exact nI_1 _) _ _ _ (by refine (va_up_self (va_up ML2 (mb + 29) (.inl (cI, 12, .inl (upd (rsF placeF placeWasF t) t ((gbF y placeF t) t))))) (mb + 18) (.inl (cI, 24, .inl (upd (gbF y placeF t) t (-1))))).trans ?_; first | (rw [gbF_s y placeF t c_30]; done) | (rw [gbF_n y placeF t c_30]; done)) (by refine ((va_up_ne (va_up ML2 (mb + 29) (.inl (cI, 12, .inl (upd (rsF placeF placeWasF t) t ((gbF y placeF t) t))))) (.inl (cI, 24, .inl (upd (gbF y placeF t) t (-1)))) (show mb + 29 ≠ mb + 18 by omega)).trans (va_up_self ML2 (mb + 29) (.inl (cI, 12, .inl (upd (rsF placeF placeWasF t) t ((gbF y placeF t) t)))))).trans ?_; rw [gbF_at, rsF_s]) (fun q n0 n1 => ((va_up_ne _ _ n0).trans ((va_up_ne _ _ n1).trans (fL2 q n0 n1)))) hP hS ls (lv_sub hl [1, 2, 3, 0] rfl)
  exact loop_2 (nt + 1) 0 0 (by omega) (by omega) (by rfl) _ _ _ (by rw [gbF_0]; exact m_mb_18) (by rw [rsF_0]; exact m_mb_29) (fun q n0 n1 => rfl) hP hS ls (lv_sub hl [1, 2, 3, 0] rfl)
set_option maxRecDepth 20000 in
theorem fX13_opened_173 : FL wsX13_opened RX13 173 12 2 := ⟨RX13, TX13, 67, rfl, by decide +kernel, by decide, by decide +kernel⟩
set_option maxRecDepth 20000 in
theorem fX13_opened_40 : FL wsX13_opened RX13 40 12 3 := ⟨RX13, TX13, 67, rfl, by decide +kernel, by decide, by decide +kernel⟩
theorem yd_X13_costBy : YD yX13_costBy 1 := ⟨by decide +kernel, by decide +kernel, by decide +kernel⟩
theorem yd_X13_othersGo : YD yX13_othersGo 1 := ⟨by decide +kernel, by decide +kernel, by decide +kernel⟩
theorem yd_X13_goesBy : YD yX13_goesBy 2 := ⟨by decide +kernel, by decide +kernel, by decide +kernel⟩
set_option maxHeartbeats 4000000 in
set_option maxRecDepth 100000 in
theorem c_X13_opened (l : Launch) (D : va_G) (cB cI cJ : ClassId) (ad : Nat → Nat) (n : Nat) (M : Nat → va_E) (hI : ipI ad n) (mb : Nat) (nt : Nat) (nc : Nat) (np : Nat) (nq : Nat) (mv : Nat → Int32) (toldF : Nat → Int32) (bearsF : Nat → Int32) (ownerF : Nat → Int32) (limitF : Nat → Int32) (holdsF : Nat → Int32) (costF : Nat → Int32) (boardF : Nat → Int32) (kindF : Nat → Int32) (heavyF : Nat → Int32) (wideF : Nat → Int32) (hotF : Nat → Int32) (placeF : Nat → Int32) (placeWasF : Nat → Int32) (nz : Nat) (h_mb : mb < n) (h_mb_3 : mb + 3 < n) (h_mb_6 : mb + 6 < n) (h_mb_7 : mb + 7 < n) (h_mb_8 : mb + 8 < n) (h_mb_9 : mb + 9 < n) (h_mb_10 : mb + 10 < n) (h_mb_11 : mb + 11 < n) (h_mb_12 : mb + 12 < n) (h_mb_13 : mb + 13 < n) (h_mb_15 : mb + 15 < n) (h_mb_17 : mb + 17 < n) (h_mb_18 : mb + 18 < n) (h_mb_29 : mb + 29 < n) (m_mb : M mb = .inr (12, modF ad mb mv)) (m_mb_3 : M (mb + 3) = .inl (cI, 14, .inl toldF)) (m_mb_6 : M (mb + 6) = .inl (cI, 8, .inl bearsF)) (m_mb_7 : M (mb + 7) = .inl (cI, 10, .inl ownerF)) (m_mb_8 : M (mb + 8) = .inl (cI, 10, .inl limitF)) (m_mb_9 : M (mb + 9) = .inl (cI, 10, .inl holdsF)) (m_mb_10 : M (mb + 10) = .inl (cI, 10, .inl costF)) (m_mb_11 : M (mb + 11) = .inl (cI, 10, .inl boardF)) (m_mb_12 : M (mb + 12) = .inl (cI, 24, .inl kindF)) (m_mb_13 : M (mb + 13) = .inl (cI, 24, .inl heavyF)) (m_mb_15 : M (mb + 15) = .inl (cI, 24, .inl wideF)) (m_mb_17 : M (mb + 17) = .inl (cI, 24, .inl hotF)) (m_mb_18 : M (mb + 18) = .inl (cI, 24, .inl placeF)) (m_mb_29 : M (mb + 29) = .inl (cI, 12, .inl placeWasF)) (k0 : toldF 0 = nI np) (hnp : np ≤ 4) (k1 : toldF 1 = nI nc) (hnc : nc ≤ 5) (k2 : toldF 2 = nI nt) (hnt : nt ≤ 12) (k3 : toldF 3 = nI nq) (hnq : nq ≤ 6) (hz : (1 <<< ((toldF 1) &&& 31)) = nI nz) (hnz : nz ≤ 32) : cWi l D cB cI cJ ad n M yX13_opened wsX13_opened 26 709 [.ref (ad mb)] (fun r M' => ∃ (v0 : Nat → Int32), r = (opdS (s_X13_costBy nc (upd mv 2 0) costF) (fun x => boS x.toBitVec.toNat x) (fun s => thS (fun c => s_X13_sumAt nt kindF heavyF wideF hotF placeF (nI c) 5) s nc) (s_X13_othersGo nt nc limitF kindF heavyF wideF hotF placeF) (fun z y => (cpS (pcC nt nc bearsF ownerF limitF holdsF boardF kindF heavyF wideF hotF z) (pcP nt nc bearsF ownerF limitF holdsF boardF kindF heavyF wideF hotF z) kindF y nc np nt 0 (gbF y placeF nt))) nz 0 (-1)) ∧ M' mb = .inr (12, modF ad mb ((upd mv 2 0))) ∧ M' (mb + 18) = .inl (cI, 24, .inl placeF) ∧ M' (mb + 29) = .inl (cI, 12, .inl v0) ∧ ∀ q : Nat, q ≠ mb → q ≠ mb + 18 → q ≠ mb + 29 → M' q = M q) := by
  refine q_body (cc := cX13_opened) (maxL := 6) (ret := (some .int)) (by decide) rfl (Nat.le_of_ble_eq_true rfl) ?_
  intro p e s m args below meth c ls X hr hlocks hK hP hl
  obtain ⟨hx, hb, hml, hown, hts⟩ := id X
  have hS : va_S (ipA ad n) s.heap s.heap [] := va_S.rf
  have hl : lv_has ls 6 [(0, .ref (ad mb))] := hl
  refine lv_aload_n hx hb dX13_opened_0 rfl (lv_at hl 0 rfl) ?_
  refine lv_iconst (v := 0) hx hb dX13_opened_1 (by decide) ?_
  refine q_put (fs := modF ad mb mv) (fs' := modF ad mb (upd mv 2 0)) X hK hI hP hS fX13_opened_173 fw_12_2 h_mb m_mb rfl rfl (Nat.le_of_ble_eq_true rfl) rfl dX13_opened_2 (fun H locs hP hS => ?_)
  refine lv_iconst (v := (-1)) hx hb dX13_opened_5 (by decide) ?_
  refine lv_istore_n (lv' := [(1, .int (-1)), (0, .ref (ad mb))]) hx hb dX13_opened_6 rfl hl (by decide) rfl (fun ls hl => ?_)
  refine lv_iconst (v := 0) hx hb dX13_opened_7 (by decide) ?_
  refine lv_istore_n (lv' := [(2, .int 0), (1, .int (-1)), (0, .ref (ad mb))]) hx hb dX13_opened_8 rfl hl (by decide) rfl (fun ls hl => ?_)
  have loop_9 : ∀ (fuel : Nat) (u : Nat) (b : Int32) (wF : Nat → Int32) (x2 : Int32), nz - u < fuel → (u ≤ nz) → ((opdS (s_X13_costBy nc (upd mv 2 0) costF) (fun x => boS x.toBitVec.toNat x) (fun s => thS (fun c => s_X13_sumAt nt kindF heavyF wideF hotF placeF (nI c) 5) s nc) (s_X13_othersGo nt nc limitF kindF heavyF wideF hotF placeF) (fun z y => (cpS (pcC nt nc bearsF ownerF limitF holdsF boardF kindF heavyF wideF hotF z) (pcP nt nc bearsF ownerF limitF holdsF boardF kindF heavyF wideF hotF z) kindF y nc np nt 0 (gbF y placeF nt))) (nz - u) u b) = (opdS (s_X13_costBy nc (upd mv 2 0) costF) (fun x => boS x.toBitVec.toNat x) (fun s => thS (fun c => s_X13_sumAt nt kindF heavyF wideF hotF placeF (nI c) 5) s nc) (s_X13_othersGo nt nc limitF kindF heavyF wideF hotF placeF) (fun z y => (cpS (pcC nt nc bearsF ownerF limitF holdsF boardF kindF heavyF wideF hotF z) (pcP nt nc bearsF ownerF limitF holdsF boardF kindF heavyF wideF hotF z) kindF y nc np nt 0 (gbF y placeF nt))) nz 0 (-1))) → x2 = nI u → ∀ (ML9 : Nat → va_E) (H : Heap) (locs : List Loc), ML9 mb = .inr (12, modF ad mb ((upd mv 2 0))) → ML9 (mb + 18) = .inl (cI, 24, .inl placeF) → ML9 (mb + 29) = .inl (cI, 12, .inl wF) → (∀ q : Nat, q ≠ mb → q ≠ mb + 18 → q ≠ mb + 29 → ML9 q = M q) → va_P D vwCl (ip ad n ML9) H → va_S (ipA ad n) s.heap H locs → ∀ (ls : Array Slot), lv_has ls 6 [(0, .ref (ad mb)), (1, .int b), (2, .int x2)] → W p l e (rmOf 26 709) s m args below meth c H locs 0 0 (MQ below (va_Qi (fun r M' => ∃ (v0 : Nat → Int32), r = (opdS (s_X13_costBy nc (upd mv 2 0) costF) (fun x => boS x.toBitVec.toNat x) (fun s => thS (fun c => s_X13_sumAt nt kindF heavyF wideF hotF placeF (nI c) 5) s nc) (s_X13_othersGo nt nc limitF kindF heavyF wideF hotF placeF) (fun z y => (cpS (pcC nt nc bearsF ownerF limitF holdsF boardF kindF heavyF wideF hotF z) (pcP nt nc bearsF ownerF limitF holdsF boardF kindF heavyF wideF hotF z) kindF y nc np nt 0 (gbF y placeF nt))) nz 0 (-1)) ∧ M' mb = .inr (12, modF ad mb ((upd mv 2 0))) ∧ M' (mb + 18) = .inl (cI, 24, .inl placeF) ∧ M' (mb + 29) = .inl (cI, 12, .inl v0) ∧ ∀ q : Nat, q ≠ mb → q ≠ mb + 18 → q ≠ mb + 29 → M' q = M q) (fun M' t => va_P D vwCl (ip ad n M') t.heap) (ipA ad n)) args s 0 0 (ipA ad n)) (F0 m 9 ls []) := by
    intro fuel
    induction fuel with
    | zero =>
      intro u b wF x2 hz
      exact absurd hz (Nat.not_lt_zero _)
    | succ fuel ih_9 =>
      intro u b wF x2 hz_9 hs hB9 e2 ML9 H locs mL9_0 mL9_1 mL9_2 fL9 hP hS ls hl
      subst e2
      skip
      refine lv_iload_n hx hb dX13_opened_9 rfl (lv_at hl 2 rfl) ?_
      refine lv_iconst (v := 1) hx hb dX13_opened_10 (by decide) ?_
      refine lv_aload_n hx hb dX13_opened_11 rfl (lv_at hl 0 rfl) ?_
      refine q_get (v := .ref (ad (mb + 3))) (fs := modF ad mb ((upd mv 2 0))) X hK hP fX13_opened_40 h_mb mL9_0 rfl dX13_opened_12 ?_
      refine lv_iconst (v := 1) hx hb dX13_opened_15 (by decide) ?_
      refine q_ialdN (f := toldF) (k := 14) X hK hP 1 h_mb_3 ((fL9 (mb + 3) (by omega) (by omega) (by omega)).trans m_mb_3) (by decide) (by decide) dX13_opened_16 ?_
      refine lv_ishl hx hb dX13_opened_17 ?_
      refine lv_icmp_ge (tgt := 152) hx hb dX13_opened_18 (by decide) (fun c_18 => ?_) (fun c_18 => ?_)
      · skip
        rw [hz] at c_18; have h9 : u = nz := eq_of_le c_18 (by omega) hs
        refine lv_iload_n hx hb dX13_opened_152 rfl (lv_at hl 1 rfl) ?_
        exact q_wzret X hr hlocks hP hS (rfl) ⟨_, (by rw [← hB9, h9, Nat.sub_self]; rfl), mL9_0, mL9_1, mL9_2, (fun q n0 n1 n2 => (fL9 q n0 n1 n2))⟩ dX13_opened_153
      · skip
        rw [hz] at c_18; have h9 := lt_of_nlt c_18 (by omega) hs
        refine lv_aload_n hx hb dX13_opened_21 rfl (lv_at hl 0 rfl) ?_
        refine lv_iload_n hx hb dX13_opened_22 rfl (lv_at hl 2 rfl) ?_
        refine q_rdV (As := [.int (nI u)]) (rest := []) (c_X13_costBy l D cB cI cJ ad n ML9 mb nt nc np nq (upd mv 2 0) toldF costF (nI u) h_mb h_mb_3 h_mb_10 mL9_0 ((fL9 (mb + 3) (by omega) (by omega) (by omega)).trans m_mb_3) ((fL9 (mb + 10) (by omega) (by omega) (by omega)).trans m_mb_10) k0 hnp k1 hnc k2 hnt k3 hnq) X hK hP hS hl.1 rfl gX13_opened_X13_costBy yd_X13_costBy ⟨Nat.le_of_ble_eq_true rfl, Nat.le_of_ble_eq_true rfl⟩ h_mb mL9_0 (ci := 12) rfl rfl (Nat.le_of_ble_eq_true rfl) ⟨Nat.zero_le _, Nat.zero_le _⟩ dX13_opened_23 ?_
        refine lv_istore_n (lv' := [(3, .int (s_X13_costBy nc (upd mv 2 0) costF (nI u))), (0, .ref (ad mb)), (1, .int b), (2, .int (nI u))]) hx hb dX13_opened_26 rfl hl (by decide) rfl (fun ls hl => ?_)
        refine lv_iload_n hx hb dX13_opened_27 rfl (lv_at hl 2 rfl) ?_
        refine lv_iconst (v := (-1)) hx hb dX13_opened_28 (by decide) ?_
        refine lv_icmp_eq (tgt := 64) hx hb dX13_opened_29 (by decide) (fun c_29 => ?_) (fun c_29 => ?_)
        · skip
          refine lv_iconst (v := 0) hx hb dX13_opened_64 (by decide) ?_
          refine lv_istore (lv' := [(4, .int 0), (3, .int (s_X13_costBy nc (upd mv 2 0) costF (nI u))), (0, .ref (ad mb)), (1, .int b), (2, .int (nI u))]) hx hb dX13_opened_65 hl (by decide) rfl (fun ls hl => ?_)
          refine lv_iconst (v := 0) hx hb dX13_opened_67 (by decide) ?_
          refine lv_istore (lv' := [(5, .int 0), (4, .int 0), (3, .int (s_X13_costBy nc (upd mv 2 0) costF (nI u))), (0, .ref (ad mb)), (1, .int b), (2, .int (nI u))]) hx hb dX13_opened_68 hl (by decide) rfl (fun ls hl => ?_)
          have loop_70 : ∀ (fuel : Nat) (c1 : Nat) (x4 : Int32) (x5 : Int32), nc - c1 < fuel → (c1 ≤ nc) → x4 = thS (fun c => s_X13_sumAt nt kindF heavyF wideF hotF placeF (nI c) 5) (nI u) c1 → x5 = nI c1 → ∀ (ML70 : Nat → va_E) (H : Heap) (locs : List Loc), ML70 mb = .inr (12, modF ad mb ((upd mv 2 0))) → ML70 (mb + 18) = .inl (cI, 24, .inl placeF) → ML70 (mb + 29) = .inl (cI, 12, .inl wF) → (∀ q : Nat, q ≠ mb → q ≠ mb + 18 → q ≠ mb + 29 → ML70 q = M q) → va_P D vwCl (ip ad n ML70) H → va_S (ipA ad n) s.heap H locs → ∀ (ls : Array Slot), lv_has ls 6 [(0, .ref (ad mb)), (1, .int b), (2, .int (nI u)), (4, .int x4), (5, .int x5)] → W p l e (rmOf 26 709) s m args below meth c H locs 0 0 (MQ below (va_Qi (fun r M' => ∃ (v0 : Nat → Int32), r = (opdS (s_X13_costBy nc (upd mv 2 0) costF) (fun x => boS x.toBitVec.toNat x) (fun s => thS (fun c => s_X13_sumAt nt kindF heavyF wideF hotF placeF (nI c) 5) s nc) (s_X13_othersGo nt nc limitF kindF heavyF wideF hotF placeF) (fun z y => (cpS (pcC nt nc bearsF ownerF limitF holdsF boardF kindF heavyF wideF hotF z) (pcP nt nc bearsF ownerF limitF holdsF boardF kindF heavyF wideF hotF z) kindF y nc np nt 0 (gbF y placeF nt))) nz 0 (-1)) ∧ M' mb = .inr (12, modF ad mb ((upd mv 2 0))) ∧ M' (mb + 18) = .inl (cI, 24, .inl placeF) ∧ M' (mb + 29) = .inl (cI, 12, .inl v0) ∧ ∀ q : Nat, q ≠ mb → q ≠ mb + 18 → q ≠ mb + 29 → M' q = M q) (fun M' t => va_P D vwCl (ip ad n M') t.heap) (ipA ad n)) args s 0 0 (ipA ad n)) (F0 m 70 ls []) := by
            intro fuel
            induction fuel with
            | zero =>
              intro c1 x4 x5 hz
              exact absurd hz (Nat.not_lt_zero _)
            | succ fuel ih_70 =>
              intro c1 x4 x5 hz_70 hc e4 e5 ML70 H locs mL70_0 mL70_1 mL70_2 fL70 hP hS ls hl
              subst e4
              subst e5
              skip
              refine lv_iload hx hb dX13_opened_70 (lv_at hl 4 rfl) ?_
              refine lv_aload_n hx hb dX13_opened_72 rfl (lv_at hl 0 rfl) ?_
              refine q_get (v := .ref (ad (mb + 3))) (fs := modF ad mb ((upd mv 2 0))) X hK hP fX13_opened_40 h_mb mL70_0 rfl dX13_opened_73 ?_
              refine lv_iconst (v := 1) hx hb dX13_opened_76 (by decide) ?_
              refine q_ialdN (f := toldF) (k := 14) X hK hP 1 h_mb_3 ((fL70 (mb + 3) (by omega) (by omega) (by omega)).trans m_mb_3) (by decide) (by decide) dX13_opened_77 ?_
              refine lv_icmp_ge (tgt := 113) hx hb dX13_opened_78 (by decide) (fun c_78 => ?_) (fun c_78 => ?_)
              · skip
                rw [k1] at c_78; have h8 : c1 = nc := eq_of_le c_78 (by omega) hc
                rw [show thS (fun c => s_X13_sumAt nt kindF heavyF wideF hotF placeF (nI c) 5) (nI u) c1 = ((fun s => thS (fun c => s_X13_sumAt nt kindF heavyF wideF hotF placeF (nI c) 5) s nc) (nI u)) from (by rw [h8])] at hl
                refine lv_iload hx hb dX13_opened_113 (lv_at hl 3 rfl) ?_
                refine q_rdS (As := [.int ((fun s => thS (fun c => s_X13_sumAt nt kindF heavyF wideF hotF placeF (nI c) 5) s nc) (nI u))]) (rest := []) (c_X13_bitsOf l D cB cI cJ ad n ML70 ((fun s => thS (fun c => s_X13_sumAt nt kindF heavyF wideF hotF placeF (nI c) 5) s nc) (nI u))   ) X hK hP hS hl.1 rfl gX13_opened_X13_bitsOf yd_X13_bitsOf ⟨Nat.le_of_ble_eq_true rfl, Nat.le_of_ble_eq_true rfl⟩ rfl (Nat.le_of_ble_eq_true rfl) ⟨Nat.zero_le _, Nat.zero_le _⟩ dX13_opened_115 ?_
                refine lv_bipush (v := 8) hx hb dX13_opened_118 (by decide) ?_
                refine lv_icmp_le (tgt := 126) hx hb dX13_opened_120 (by decide) (fun c_120 => ?_) (fun c_120 => ?_)
                · skip
                  refine lv_aload_n hx hb dX13_opened_126 rfl (lv_at hl 0 rfl) ?_
                  refine lv_iload_n hx hb dX13_opened_127 rfl (lv_at hl 2 rfl) ?_
                  refine q_rdV (As := [.int (nI u)]) (rest := []) (c_X13_othersGo l D cB cI cJ ad n ML70 mb nt nc np nq (upd mv 2 0) toldF limitF kindF heavyF wideF hotF placeF (nI u) h_mb h_mb_3 h_mb_8 h_mb_12 h_mb_13 h_mb_15 h_mb_17 h_mb_18 mL70_0 ((fL70 (mb + 3) (by omega) (by omega) (by omega)).trans m_mb_3) ((fL70 (mb + 8) (by omega) (by omega) (by omega)).trans m_mb_8) ((fL70 (mb + 12) (by omega) (by omega) (by omega)).trans m_mb_12) ((fL70 (mb + 13) (by omega) (by omega) (by omega)).trans m_mb_13) ((fL70 (mb + 15) (by omega) (by omega) (by omega)).trans m_mb_15) ((fL70 (mb + 17) (by omega) (by omega) (by omega)).trans m_mb_17) mL70_1 k0 hnp k1 hnc k2 hnt k3 hnq) X hK hP hS hl.1 rfl gX13_opened_X13_othersGo yd_X13_othersGo ⟨Nat.le_of_ble_eq_true rfl, Nat.le_of_ble_eq_true rfl⟩ h_mb mL70_0 (ci := 12) rfl rfl (Nat.le_of_ble_eq_true rfl) ⟨Nat.zero_le _, Nat.zero_le _⟩ dX13_opened_128 ?_
                  refine lv_if_eq (tgt := 146) hx hb dX13_opened_131 (by decide) (fun c_131 => ?_) (fun c_131 => ?_)
                  · skip
                    refine lv_iinc (v := ((nI u) + 1)) (lv' := [(2, .int ((nI u) + 1)), (0, .ref (ad mb)), (1, .int b), (4, .int ((fun s => thS (fun c => s_X13_sumAt nt kindF heavyF wideF hotF placeF (nI c) 5) s nc) (nI u))), (5, .int (nI c1))]) hx hb dX13_opened_146 hl (k := 2) rfl rfl (by decide) rfl (fun ls hl => ?_)
                    refine lv_goto (tgt := 9) hx hb dX13_opened_149 (by decide) ?_
                    exact ih_9 (u + 1) b wF ((nI u) + 1) (by omega) (by omega) (by rw [← hB9, show nz - u = (nz - (u + 1)) + 1 by omega, opdS]; first | (rw [if_pos (show opK (s_X13_costBy nc (upd mv 2 0) costF) (fun x => boS x.toBitVec.toNat x) (nI u) b = 0 from (by rw [opK]; first | (rw [if_pos c_29]; decide) | (rw [if_neg c_29, if_pos c_38]) | (rw [if_neg c_29, if_neg c_38, if_pos c_47, if_pos c_58]; decide) | (rw [if_neg c_29, if_neg c_38, if_pos c_47, if_neg c_58]) | (rw [if_neg c_29, if_neg c_38, if_neg c_47]; decide)))]; done) | (rw [if_neg (show ¬ opK (s_X13_costBy nc (upd mv 2 0) costF) (fun x => boS x.toBitVec.toNat x) (nI u) b = 0 from (by rw [opK]; first | (rw [if_pos c_29]; decide) | (rw [if_neg c_29, if_pos c_38]) | (rw [if_neg c_29, if_neg c_38, if_pos c_47, if_pos c_58]; decide) | (rw [if_neg c_29, if_neg c_38, if_pos c_47, if_neg c_58]) | (rw [if_neg c_29, if_neg c_38, if_neg c_47]; decide))), if_pos c_120, if_pos c_131]; done) | (rw [if_neg (show ¬ opK (s_X13_costBy nc (upd mv 2 0) costF) (fun x => boS x.toBitVec.toNat x) (nI u) b = 0 from (by rw [opK]; first | (rw [if_pos c_29]; decide) | (rw [if_neg c_29, if_pos c_38]) | (rw [if_neg c_29, if_neg c_38, if_pos c_47, if_pos c_58]; decide) | (rw [if_neg c_29, if_neg c_38, if_pos c_47, if_neg c_58]) | (rw [if_neg c_29, if_neg c_38, if_neg c_47]; decide))), if_pos c_120, if_neg c_131, if_pos c_141]; done) | (rw [if_neg (show ¬ opK (s_X13_costBy nc (upd mv 2 0) costF) (fun x => boS x.toBitVec.toNat x) (nI u) b = 0 from (by rw [opK]; first | (rw [if_pos c_29]; decide) | (rw [if_neg c_29, if_pos c_38]) | (rw [if_neg c_29, if_neg c_38, if_pos c_47, if_pos c_58]; decide) | (rw [if_neg c_29, if_neg c_38, if_pos c_47, if_neg c_58]) | (rw [if_neg c_29, if_neg c_38, if_neg c_47]; decide))), if_pos c_120, if_neg c_131, if_neg c_141]; done)) (by exact nI_1 _) _ _ _ mL70_0 mL70_1 mL70_2 (fun q n0 n1 n2 => (fL70 q n0 n1 n2)) hP hS ls (lv_sub hl [1, 2, 0] rfl)
                  · skip
                    refine lv_aload_n hx hb dX13_opened_134 rfl (lv_at hl 0 rfl) ?_
                    refine lv_iload_n hx hb dX13_opened_135 rfl (lv_at hl 2 rfl) ?_
                    refine lv_iload hx hb dX13_opened_136 (lv_at hl 3 rfl) ?_
                    refine q_wrVi (As := [.int (nI u), .int ((fun s => thS (fun c => s_X13_sumAt nt kindF heavyF wideF hotF placeF (nI c) 5) s nc) (nI u))]) (rest := []) (c_X13_goesBy l D cB cI cJ ad n ML70 hI mb nt nc np nq (upd mv 2 0) toldF bearsF ownerF limitF holdsF boardF kindF heavyF wideF hotF placeF wF ((fun s => thS (fun c => s_X13_sumAt nt kindF heavyF wideF hotF placeF (nI c) 5) s nc) (nI u)) (nI u) h_mb h_mb_3 h_mb_6 h_mb_7 h_mb_8 h_mb_9 h_mb_11 h_mb_12 h_mb_13 h_mb_15 h_mb_17 h_mb_18 h_mb_29 mL70_0 ((fL70 (mb + 3) (by omega) (by omega) (by omega)).trans m_mb_3) ((fL70 (mb + 6) (by omega) (by omega) (by omega)).trans m_mb_6) ((fL70 (mb + 7) (by omega) (by omega) (by omega)).trans m_mb_7) ((fL70 (mb + 8) (by omega) (by omega) (by omega)).trans m_mb_8) ((fL70 (mb + 9) (by omega) (by omega) (by omega)).trans m_mb_9) ((fL70 (mb + 11) (by omega) (by omega) (by omega)).trans m_mb_11) ((fL70 (mb + 12) (by omega) (by omega) (by omega)).trans m_mb_12) ((fL70 (mb + 13) (by omega) (by omega) (by omega)).trans m_mb_13) ((fL70 (mb + 15) (by omega) (by omega) (by omega)).trans m_mb_15) ((fL70 (mb + 17) (by omega) (by omega) (by omega)).trans m_mb_17) mL70_1 mL70_2 k0 hnp k1 hnc k2 hnt k3 hnq) X hK hP hS hl.1 rfl gX13_opened_X13_goesBy yd_X13_goesBy ⟨Nat.le_of_ble_eq_true rfl, Nat.le_of_ble_eq_true rfl⟩ h_mb mL70_0 (ci := 12) rfl rfl (Nat.le_of_ble_eq_true rfl) ⟨Nat.zero_le _, Nat.zero_le _⟩ dX13_opened_138 (fun r5 M4 H locs hp3 hP hS => ?_)
                    obtain ⟨v0_6, er10, g7, g8, fr9⟩ := hp3
                    replace er10 := er10.symm
                    subst er10
                    refine lv_if_eq (tgt := 146) hx hb dX13_opened_141 (by decide) (fun c_141 => ?_) (fun c_141 => ?_)
                    · skip
                      refine lv_iinc (v := ((nI u) + 1)) (lv' := [(2, .int ((nI u) + 1)), (0, .ref (ad mb)), (1, .int b), (4, .int ((fun s => thS (fun c => s_X13_sumAt nt kindF heavyF wideF hotF placeF (nI c) 5) s nc) (nI u))), (5, .int (nI c1))]) hx hb dX13_opened_146 hl (k := 2) rfl rfl (by decide) rfl (fun ls hl => ?_)
                      refine lv_goto (tgt := 9) hx hb dX13_opened_149 (by decide) ?_
                      exact ih_9 (u + 1) b v0_6 ((nI u) + 1) (by omega) (by omega) (by rw [← hB9, show nz - u = (nz - (u + 1)) + 1 by omega, opdS]; first | (rw [if_pos (show opK (s_X13_costBy nc (upd mv 2 0) costF) (fun x => boS x.toBitVec.toNat x) (nI u) b = 0 from (by rw [opK]; first | (rw [if_pos c_29]; decide) | (rw [if_neg c_29, if_pos c_38]) | (rw [if_neg c_29, if_neg c_38, if_pos c_47, if_pos c_58]; decide) | (rw [if_neg c_29, if_neg c_38, if_pos c_47, if_neg c_58]) | (rw [if_neg c_29, if_neg c_38, if_neg c_47]; decide)))]; done) | (rw [if_neg (show ¬ opK (s_X13_costBy nc (upd mv 2 0) costF) (fun x => boS x.toBitVec.toNat x) (nI u) b = 0 from (by rw [opK]; first | (rw [if_pos c_29]; decide) | (rw [if_neg c_29, if_pos c_38]) | (rw [if_neg c_29, if_neg c_38, if_pos c_47, if_pos c_58]; decide) | (rw [if_neg c_29, if_neg c_38, if_pos c_47, if_neg c_58]) | (rw [if_neg c_29, if_neg c_38, if_neg c_47]; decide))), if_pos c_120, if_pos c_131]; done) | (rw [if_neg (show ¬ opK (s_X13_costBy nc (upd mv 2 0) costF) (fun x => boS x.toBitVec.toNat x) (nI u) b = 0 from (by rw [opK]; first | (rw [if_pos c_29]; decide) | (rw [if_neg c_29, if_pos c_38]) | (rw [if_neg c_29, if_neg c_38, if_pos c_47, if_pos c_58]; decide) | (rw [if_neg c_29, if_neg c_38, if_pos c_47, if_neg c_58]) | (rw [if_neg c_29, if_neg c_38, if_neg c_47]; decide))), if_pos c_120, if_neg c_131, if_pos c_141]; done) | (rw [if_neg (show ¬ opK (s_X13_costBy nc (upd mv 2 0) costF) (fun x => boS x.toBitVec.toNat x) (nI u) b = 0 from (by rw [opK]; first | (rw [if_pos c_29]; decide) | (rw [if_neg c_29, if_pos c_38]) | (rw [if_neg c_29, if_neg c_38, if_pos c_47, if_pos c_58]; decide) | (rw [if_neg c_29, if_neg c_38, if_pos c_47, if_neg c_58]) | (rw [if_neg c_29, if_neg c_38, if_neg c_47]; decide))), if_pos c_120, if_neg c_131, if_neg c_141]; done)) (by exact nI_1 _) _ _ _ ((fr9 mb (by omega) (by omega)).trans mL70_0) g7 g8 (fun q n0 n1 n2 => ((fr9 q n1 n2).trans (fL70 q n0 n1 n2))) hP hS ls (lv_sub hl [1, 2, 0] rfl)
                    · skip
                      refine lv_iload_n hx hb dX13_opened_144 rfl (lv_at hl 2 rfl) ?_
                      refine lv_istore_n (lv' := [(1, .int (nI u)), (0, .ref (ad mb)), (2, .int (nI u)), (4, .int ((fun s => thS (fun c => s_X13_sumAt nt kindF heavyF wideF hotF placeF (nI c) 5) s nc) (nI u))), (5, .int (nI c1))]) hx hb dX13_opened_145 rfl hl (by decide) rfl (fun ls hl => ?_)
                      refine lv_iinc (v := ((nI u) + 1)) (lv' := [(2, .int ((nI u) + 1)), (1, .int (nI u)), (0, .ref (ad mb)), (4, .int ((fun s => thS (fun c => s_X13_sumAt nt kindF heavyF wideF hotF placeF (nI c) 5) s nc) (nI u))), (5, .int (nI c1))]) hx hb dX13_opened_146 hl (k := 2) rfl rfl (by decide) rfl (fun ls hl => ?_)
                      refine lv_goto (tgt := 9) hx hb dX13_opened_149 (by decide) ?_
                      exact ih_9 (u + 1) (nI u) v0_6 ((nI u) + 1) (by omega) (by omega) (by rw [← hB9, show nz - u = (nz - (u + 1)) + 1 by omega, opdS]; first | (rw [if_pos (show opK (s_X13_costBy nc (upd mv 2 0) costF) (fun x => boS x.toBitVec.toNat x) (nI u) b = 0 from (by rw [opK]; first | (rw [if_pos c_29]; decide) | (rw [if_neg c_29, if_pos c_38]) | (rw [if_neg c_29, if_neg c_38, if_pos c_47, if_pos c_58]; decide) | (rw [if_neg c_29, if_neg c_38, if_pos c_47, if_neg c_58]) | (rw [if_neg c_29, if_neg c_38, if_neg c_47]; decide)))]; done) | (rw [if_neg (show ¬ opK (s_X13_costBy nc (upd mv 2 0) costF) (fun x => boS x.toBitVec.toNat x) (nI u) b = 0 from (by rw [opK]; first | (rw [if_pos c_29]; decide) | (rw [if_neg c_29, if_pos c_38]) | (rw [if_neg c_29, if_neg c_38, if_pos c_47, if_pos c_58]; decide) | (rw [if_neg c_29, if_neg c_38, if_pos c_47, if_neg c_58]) | (rw [if_neg c_29, if_neg c_38, if_neg c_47]; decide))), if_pos c_120, if_pos c_131]; done) | (rw [if_neg (show ¬ opK (s_X13_costBy nc (upd mv 2 0) costF) (fun x => boS x.toBitVec.toNat x) (nI u) b = 0 from (by rw [opK]; first | (rw [if_pos c_29]; decide) | (rw [if_neg c_29, if_pos c_38]) | (rw [if_neg c_29, if_neg c_38, if_pos c_47, if_pos c_58]; decide) | (rw [if_neg c_29, if_neg c_38, if_pos c_47, if_neg c_58]) | (rw [if_neg c_29, if_neg c_38, if_neg c_47]; decide))), if_pos c_120, if_neg c_131, if_pos c_141]; done) | (rw [if_neg (show ¬ opK (s_X13_costBy nc (upd mv 2 0) costF) (fun x => boS x.toBitVec.toNat x) (nI u) b = 0 from (by rw [opK]; first | (rw [if_pos c_29]; decide) | (rw [if_neg c_29, if_pos c_38]) | (rw [if_neg c_29, if_neg c_38, if_pos c_47, if_pos c_58]; decide) | (rw [if_neg c_29, if_neg c_38, if_pos c_47, if_neg c_58]) | (rw [if_neg c_29, if_neg c_38, if_neg c_47]; decide))), if_pos c_120, if_neg c_131, if_neg c_141]; done)) (by exact nI_1 _) _ _ _ ((fr9 mb (by omega) (by omega)).trans mL70_0) g7 g8 (fun q n0 n1 n2 => ((fr9 q n1 n2).trans (fL70 q n0 n1 n2))) hP hS ls (lv_sub hl [2, 1, 0] rfl)
                · skip
                  refine lv_bipush (v := (-2)) hx hb dX13_opened_123 (by decide) ?_
                  exact q_wzret X hr hlocks hP hS (rfl) ⟨_, (by rw [← hB9, show nz - u = (nz - (u + 1)) + 1 by omega, opdS]; rw [if_neg (show ¬ opK (s_X13_costBy nc (upd mv 2 0) costF) (fun x => boS x.toBitVec.toNat x) (nI u) b = 0 from (by rw [opK]; first | (rw [if_pos c_29]; decide) | (rw [if_neg c_29, if_pos c_38]) | (rw [if_neg c_29, if_neg c_38, if_pos c_47, if_pos c_58]; decide) | (rw [if_neg c_29, if_neg c_38, if_pos c_47, if_neg c_58]) | (rw [if_neg c_29, if_neg c_38, if_neg c_47]; decide))), if_neg c_120]), mL70_0, mL70_1, mL70_2, (fun q n0 n1 n2 => (fL70 q n0 n1 n2))⟩ dX13_opened_125
              · skip
                rw [k1] at c_78; have h8 := lt_of_nlt c_78 (by omega) hc
                refine lv_iload hx hb dX13_opened_81 (lv_at hl 3 rfl) ?_
                refine lv_iload_n hx hb dX13_opened_83 rfl (lv_at hl 2 rfl) ?_
                refine lv_iload hx hb dX13_opened_84 (lv_at hl 4 rfl) ?_
                refine lv_ishr hx hb dX13_opened_86 ?_
                refine lv_iconst (v := 1) hx hb dX13_opened_87 (by decide) ?_
                refine lv_iand hx hb dX13_opened_88 ?_
                refine lv_iconst (v := 1) hx hb dX13_opened_89 (by decide) ?_
                refine lv_icmp_ne (tgt := 103) hx hb dX13_opened_90 (by decide) (fun c_90 => ?_) (fun c_90 => ?_)
                · skip
                  refine lv_iconst (v := 0) hx hb dX13_opened_103 (by decide) ?_
                  refine lv_ior hx hb dX13_opened_104 ?_
                  refine lv_istore (lv' := [(4, .int ((thS (fun c => s_X13_sumAt nt kindF heavyF wideF hotF placeF (nI c) 5) (nI u) c1) ||| 0)), (0, .ref (ad mb)), (1, .int b), (2, .int (nI u)), (5, .int (nI c1))]) hx hb dX13_opened_105 hl (by decide) rfl (fun ls hl => ?_)
                  refine lv_iinc (v := ((nI c1) + 1)) (lv' := [(5, .int ((nI c1) + 1)), (4, .int ((thS (fun c => s_X13_sumAt nt kindF heavyF wideF hotF placeF (nI c) 5) (nI u) c1) ||| 0)), (0, .ref (ad mb)), (1, .int b), (2, .int (nI u))]) hx hb dX13_opened_107 hl (k := 4) rfl rfl (by decide) rfl (fun ls hl => ?_)
                  refine lv_goto (tgt := 70) hx hb dX13_opened_110 (by decide) ?_
                  exact ih_70 (c1 + 1) ((thS (fun c => s_X13_sumAt nt kindF heavyF wideF hotF placeF (nI c) 5) (nI u) c1) ||| 0) ((nI c1) + 1) (by omega) (by omega) (by rw [thS]; first | (rw [if_pos c_90]; done) | (rw [if_neg c_90]; done)) (by exact nI_1 _) _ _ _ mL70_0 mL70_1 mL70_2 (fun q n0 n1 n2 => (fL70 q n0 n1 n2)) hP hS ls (lv_sub hl [2, 3, 4, 1, 0] rfl)
                · skip
                  refine lv_aload_n hx hb dX13_opened_93 rfl (lv_at hl 0 rfl) ?_
                  refine lv_iload hx hb dX13_opened_94 (lv_at hl 4 rfl) ?_
                  refine lv_iconst (v := 5) hx hb dX13_opened_96 (by decide) ?_
                  refine q_rdV (As := [.int (nI c1), .int 5]) (rest := [.int (thS (fun c => s_X13_sumAt nt kindF heavyF wideF hotF placeF (nI c) 5) (nI u) c1)]) (c_X13_sumAt l D cB cI cJ ad n ML70 mb nt nc np nq (upd mv 2 0) toldF kindF heavyF wideF hotF placeF (nI c1) 5 h_mb h_mb_3 h_mb_12 h_mb_13 h_mb_15 h_mb_17 h_mb_18 mL70_0 ((fL70 (mb + 3) (by omega) (by omega) (by omega)).trans m_mb_3) ((fL70 (mb + 12) (by omega) (by omega) (by omega)).trans m_mb_12) ((fL70 (mb + 13) (by omega) (by omega) (by omega)).trans m_mb_13) ((fL70 (mb + 15) (by omega) (by omega) (by omega)).trans m_mb_15) ((fL70 (mb + 17) (by omega) (by omega) (by omega)).trans m_mb_17) mL70_1 k0 hnp k1 hnc k2 hnt k3 hnq) X hK hP hS hl.1 rfl gX13_opened_X13_sumAt yd_X13_sumAt ⟨Nat.le_of_ble_eq_true rfl, Nat.le_of_ble_eq_true rfl⟩ h_mb mL70_0 (ci := 12) rfl rfl (Nat.le_of_ble_eq_true rfl) ⟨Nat.zero_le _, Nat.zero_le _⟩ dX13_opened_97 ?_
                  refine lv_goto (tgt := 104) hx hb dX13_opened_100 (by decide) ?_
                  refine lv_ior hx hb dX13_opened_104 ?_
                  refine lv_istore (lv' := [(4, .int ((thS (fun c => s_X13_sumAt nt kindF heavyF wideF hotF placeF (nI c) 5) (nI u) c1) ||| (s_X13_sumAt nt kindF heavyF wideF hotF placeF (nI c1) 5))), (0, .ref (ad mb)), (1, .int b), (2, .int (nI u)), (5, .int (nI c1))]) hx hb dX13_opened_105 hl (by decide) rfl (fun ls hl => ?_)
                  refine lv_iinc (v := ((nI c1) + 1)) (lv' := [(5, .int ((nI c1) + 1)), (4, .int ((thS (fun c => s_X13_sumAt nt kindF heavyF wideF hotF placeF (nI c) 5) (nI u) c1) ||| (s_X13_sumAt nt kindF heavyF wideF hotF placeF (nI c1) 5))), (0, .ref (ad mb)), (1, .int b), (2, .int (nI u))]) hx hb dX13_opened_107 hl (k := 4) rfl rfl (by decide) rfl (fun ls hl => ?_)
                  refine lv_goto (tgt := 70) hx hb dX13_opened_110 (by decide) ?_
                  exact ih_70 (c1 + 1) ((thS (fun c => s_X13_sumAt nt kindF heavyF wideF hotF placeF (nI c) 5) (nI u) c1) ||| (s_X13_sumAt nt kindF heavyF wideF hotF placeF (nI c1) 5)) ((nI c1) + 1) (by omega) (by omega) (by rw [thS]; first | (rw [if_pos c_90]; done) | (rw [if_neg c_90]; done)) (by exact nI_1 _) _ _ _ mL70_0 mL70_1 mL70_2 (fun q n0 n1 n2 => (fL70 q n0 n1 n2)) hP hS ls (lv_sub hl [2, 3, 4, 1, 0] rfl)
          exact loop_70 (nc + 1) 0 0 0 (by omega) (by exact Nat.zero_le _) (by rfl) (by rfl) _ _ _ mL9_0 mL9_1 mL9_2 (fun q n0 n1 n2 => (fL9 q n0 n1 n2)) hP hS ls (lv_sub hl [3, 4, 5, 1, 0] rfl)
        · skip
          refine lv_iload_n hx hb dX13_opened_32 rfl (lv_at hl 0 rfl) ?_
          refine lv_aload_n hx hb dX13_opened_33 rfl (lv_at hl 1 rfl) ?_
          refine lv_iload_n hx hb dX13_opened_34 rfl (lv_at hl 2 rfl) ?_
          refine q_rdV (As := [.int b]) (rest := [.int (s_X13_costBy nc (upd mv 2 0) costF (nI u))]) (c_X13_costBy l D cB cI cJ ad n ML9 mb nt nc np nq (upd mv 2 0) toldF costF b h_mb h_mb_3 h_mb_10 mL9_0 ((fL9 (mb + 3) (by omega) (by omega) (by omega)).trans m_mb_3) ((fL9 (mb + 10) (by omega) (by omega) (by omega)).trans m_mb_10) k0 hnp k1 hnc k2 hnt k3 hnq) X hK hP hS hl.1 rfl gX13_opened_X13_costBy yd_X13_costBy ⟨Nat.le_of_ble_eq_true rfl, Nat.le_of_ble_eq_true rfl⟩ h_mb mL9_0 (ci := 12) rfl rfl (Nat.le_of_ble_eq_true rfl) ⟨Nat.zero_le _, Nat.zero_le _⟩ dX13_opened_35 ?_
          refine lv_icmp_gt (tgt := 146) hx hb dX13_opened_38 (by decide) (fun c_38 => ?_) (fun c_38 => ?_)
          · skip
            refine lv_iinc (v := ((nI u) + 1)) (lv' := [(2, .int ((nI u) + 1)), (3, .int (s_X13_costBy nc (upd mv 2 0) costF (nI u))), (0, .ref (ad mb)), (1, .int b)]) hx hb dX13_opened_146 hl (k := 3) rfl rfl (by decide) rfl (fun ls hl => ?_)
            refine lv_goto (tgt := 9) hx hb dX13_opened_149 (by decide) ?_
            exact ih_9 (u + 1) b wF ((nI u) + 1) (by omega) (by omega) (by rw [← hB9, show nz - u = (nz - (u + 1)) + 1 by omega, opdS]; first | (rw [if_pos (show opK (s_X13_costBy nc (upd mv 2 0) costF) (fun x => boS x.toBitVec.toNat x) (nI u) b = 0 from (by rw [opK]; first | (rw [if_pos c_29]; decide) | (rw [if_neg c_29, if_pos c_38]) | (rw [if_neg c_29, if_neg c_38, if_pos c_47, if_pos c_58]; decide) | (rw [if_neg c_29, if_neg c_38, if_pos c_47, if_neg c_58]) | (rw [if_neg c_29, if_neg c_38, if_neg c_47]; decide)))]; done) | (rw [if_neg (show ¬ opK (s_X13_costBy nc (upd mv 2 0) costF) (fun x => boS x.toBitVec.toNat x) (nI u) b = 0 from (by rw [opK]; first | (rw [if_pos c_29]; decide) | (rw [if_neg c_29, if_pos c_38]) | (rw [if_neg c_29, if_neg c_38, if_pos c_47, if_pos c_58]; decide) | (rw [if_neg c_29, if_neg c_38, if_pos c_47, if_neg c_58]) | (rw [if_neg c_29, if_neg c_38, if_neg c_47]; decide))), if_pos c_120, if_pos c_131]; done) | (rw [if_neg (show ¬ opK (s_X13_costBy nc (upd mv 2 0) costF) (fun x => boS x.toBitVec.toNat x) (nI u) b = 0 from (by rw [opK]; first | (rw [if_pos c_29]; decide) | (rw [if_neg c_29, if_pos c_38]) | (rw [if_neg c_29, if_neg c_38, if_pos c_47, if_pos c_58]; decide) | (rw [if_neg c_29, if_neg c_38, if_pos c_47, if_neg c_58]) | (rw [if_neg c_29, if_neg c_38, if_neg c_47]; decide))), if_pos c_120, if_neg c_131, if_pos c_141]; done) | (rw [if_neg (show ¬ opK (s_X13_costBy nc (upd mv 2 0) costF) (fun x => boS x.toBitVec.toNat x) (nI u) b = 0 from (by rw [opK]; first | (rw [if_pos c_29]; decide) | (rw [if_neg c_29, if_pos c_38]) | (rw [if_neg c_29, if_neg c_38, if_pos c_47, if_pos c_58]; decide) | (rw [if_neg c_29, if_neg c_38, if_pos c_47, if_neg c_58]) | (rw [if_neg c_29, if_neg c_38, if_neg c_47]; decide))), if_pos c_120, if_neg c_131, if_neg c_141]; done)) (by exact nI_1 _) _ _ _ mL9_0 mL9_1 mL9_2 (fun q n0 n1 n2 => (fL9 q n0 n1 n2)) hP hS ls (lv_sub hl [2, 3, 0] rfl)
          · skip
            refine lv_iload_n hx hb dX13_opened_41 rfl (lv_at hl 0 rfl) ?_
            refine lv_aload_n hx hb dX13_opened_42 rfl (lv_at hl 1 rfl) ?_
            refine lv_iload_n hx hb dX13_opened_43 rfl (lv_at hl 2 rfl) ?_
            refine q_rdV (As := [.int b]) (rest := [.int (s_X13_costBy nc (upd mv 2 0) costF (nI u))]) (c_X13_costBy l D cB cI cJ ad n ML9 mb nt nc np nq (upd mv 2 0) toldF costF b h_mb h_mb_3 h_mb_10 mL9_0 ((fL9 (mb + 3) (by omega) (by omega) (by omega)).trans m_mb_3) ((fL9 (mb + 10) (by omega) (by omega) (by omega)).trans m_mb_10) k0 hnp k1 hnc k2 hnt k3 hnq) X hK hP hS hl.1 rfl gX13_opened_X13_costBy yd_X13_costBy ⟨Nat.le_of_ble_eq_true rfl, Nat.le_of_ble_eq_true rfl⟩ h_mb mL9_0 (ci := 12) rfl rfl (Nat.le_of_ble_eq_true rfl) ⟨Nat.zero_le _, Nat.zero_le _⟩ dX13_opened_44 ?_
            refine lv_icmp_ne (tgt := 64) hx hb dX13_opened_47 (by decide) (fun c_47 => ?_) (fun c_47 => ?_)
            · skip
              refine lv_iconst (v := 0) hx hb dX13_opened_64 (by decide) ?_
              refine lv_istore (lv' := [(4, .int 0), (3, .int (s_X13_costBy nc (upd mv 2 0) costF (nI u))), (0, .ref (ad mb)), (1, .int b), (2, .int (nI u))]) hx hb dX13_opened_65 hl (by decide) rfl (fun ls hl => ?_)
              refine lv_iconst (v := 0) hx hb dX13_opened_67 (by decide) ?_
              refine lv_istore (lv' := [(5, .int 0), (4, .int 0), (3, .int (s_X13_costBy nc (upd mv 2 0) costF (nI u))), (0, .ref (ad mb)), (1, .int b), (2, .int (nI u))]) hx hb dX13_opened_68 hl (by decide) rfl (fun ls hl => ?_)
              have loop_70 : ∀ (fuel : Nat) (c1 : Nat) (x4 : Int32) (x5 : Int32), nc - c1 < fuel → (c1 ≤ nc) → x4 = thS (fun c => s_X13_sumAt nt kindF heavyF wideF hotF placeF (nI c) 5) (nI u) c1 → x5 = nI c1 → ∀ (ML70 : Nat → va_E) (H : Heap) (locs : List Loc), ML70 mb = .inr (12, modF ad mb ((upd mv 2 0))) → ML70 (mb + 18) = .inl (cI, 24, .inl placeF) → ML70 (mb + 29) = .inl (cI, 12, .inl wF) → (∀ q : Nat, q ≠ mb → q ≠ mb + 18 → q ≠ mb + 29 → ML70 q = M q) → va_P D vwCl (ip ad n ML70) H → va_S (ipA ad n) s.heap H locs → ∀ (ls : Array Slot), lv_has ls 6 [(0, .ref (ad mb)), (1, .int b), (2, .int (nI u)), (4, .int x4), (5, .int x5)] → W p l e (rmOf 26 709) s m args below meth c H locs 0 0 (MQ below (va_Qi (fun r M' => ∃ (v0 : Nat → Int32), r = (opdS (s_X13_costBy nc (upd mv 2 0) costF) (fun x => boS x.toBitVec.toNat x) (fun s => thS (fun c => s_X13_sumAt nt kindF heavyF wideF hotF placeF (nI c) 5) s nc) (s_X13_othersGo nt nc limitF kindF heavyF wideF hotF placeF) (fun z y => (cpS (pcC nt nc bearsF ownerF limitF holdsF boardF kindF heavyF wideF hotF z) (pcP nt nc bearsF ownerF limitF holdsF boardF kindF heavyF wideF hotF z) kindF y nc np nt 0 (gbF y placeF nt))) nz 0 (-1)) ∧ M' mb = .inr (12, modF ad mb ((upd mv 2 0))) ∧ M' (mb + 18) = .inl (cI, 24, .inl placeF) ∧ M' (mb + 29) = .inl (cI, 12, .inl v0) ∧ ∀ q : Nat, q ≠ mb → q ≠ mb + 18 → q ≠ mb + 29 → M' q = M q) (fun M' t => va_P D vwCl (ip ad n M') t.heap) (ipA ad n)) args s 0 0 (ipA ad n)) (F0 m 70 ls []) := by
                intro fuel
                induction fuel with
                | zero =>
                  intro c1 x4 x5 hz
                  exact absurd hz (Nat.not_lt_zero _)
                | succ fuel ih_70 =>
                  intro c1 x4 x5 hz_70 hc e4 e5 ML70 H locs mL70_0 mL70_1 mL70_2 fL70 hP hS ls hl
                  subst e4
                  subst e5
                  skip
                  refine lv_iload hx hb dX13_opened_70 (lv_at hl 4 rfl) ?_
                  refine lv_aload_n hx hb dX13_opened_72 rfl (lv_at hl 0 rfl) ?_
                  refine q_get (v := .ref (ad (mb + 3))) (fs := modF ad mb ((upd mv 2 0))) X hK hP fX13_opened_40 h_mb mL70_0 rfl dX13_opened_73 ?_
                  refine lv_iconst (v := 1) hx hb dX13_opened_76 (by decide) ?_
                  refine q_ialdN (f := toldF) (k := 14) X hK hP 1 h_mb_3 ((fL70 (mb + 3) (by omega) (by omega) (by omega)).trans m_mb_3) (by decide) (by decide) dX13_opened_77 ?_
                  refine lv_icmp_ge (tgt := 113) hx hb dX13_opened_78 (by decide) (fun c_78 => ?_) (fun c_78 => ?_)
                  · skip
                    rw [k1] at c_78; have h8 : c1 = nc := eq_of_le c_78 (by omega) hc
                    rw [show thS (fun c => s_X13_sumAt nt kindF heavyF wideF hotF placeF (nI c) 5) (nI u) c1 = ((fun s => thS (fun c => s_X13_sumAt nt kindF heavyF wideF hotF placeF (nI c) 5) s nc) (nI u)) from (by rw [h8])] at hl
                    refine lv_iload hx hb dX13_opened_113 (lv_at hl 3 rfl) ?_
                    refine q_rdS (As := [.int ((fun s => thS (fun c => s_X13_sumAt nt kindF heavyF wideF hotF placeF (nI c) 5) s nc) (nI u))]) (rest := []) (c_X13_bitsOf l D cB cI cJ ad n ML70 ((fun s => thS (fun c => s_X13_sumAt nt kindF heavyF wideF hotF placeF (nI c) 5) s nc) (nI u))   ) X hK hP hS hl.1 rfl gX13_opened_X13_bitsOf yd_X13_bitsOf ⟨Nat.le_of_ble_eq_true rfl, Nat.le_of_ble_eq_true rfl⟩ rfl (Nat.le_of_ble_eq_true rfl) ⟨Nat.zero_le _, Nat.zero_le _⟩ dX13_opened_115 ?_
                    refine lv_bipush (v := 8) hx hb dX13_opened_118 (by decide) ?_
                    refine lv_icmp_le (tgt := 126) hx hb dX13_opened_120 (by decide) (fun c_120 => ?_) (fun c_120 => ?_)
                    · skip
                      refine lv_aload_n hx hb dX13_opened_126 rfl (lv_at hl 0 rfl) ?_
                      refine lv_iload_n hx hb dX13_opened_127 rfl (lv_at hl 2 rfl) ?_
                      refine q_rdV (As := [.int (nI u)]) (rest := []) (c_X13_othersGo l D cB cI cJ ad n ML70 mb nt nc np nq (upd mv 2 0) toldF limitF kindF heavyF wideF hotF placeF (nI u) h_mb h_mb_3 h_mb_8 h_mb_12 h_mb_13 h_mb_15 h_mb_17 h_mb_18 mL70_0 ((fL70 (mb + 3) (by omega) (by omega) (by omega)).trans m_mb_3) ((fL70 (mb + 8) (by omega) (by omega) (by omega)).trans m_mb_8) ((fL70 (mb + 12) (by omega) (by omega) (by omega)).trans m_mb_12) ((fL70 (mb + 13) (by omega) (by omega) (by omega)).trans m_mb_13) ((fL70 (mb + 15) (by omega) (by omega) (by omega)).trans m_mb_15) ((fL70 (mb + 17) (by omega) (by omega) (by omega)).trans m_mb_17) mL70_1 k0 hnp k1 hnc k2 hnt k3 hnq) X hK hP hS hl.1 rfl gX13_opened_X13_othersGo yd_X13_othersGo ⟨Nat.le_of_ble_eq_true rfl, Nat.le_of_ble_eq_true rfl⟩ h_mb mL70_0 (ci := 12) rfl rfl (Nat.le_of_ble_eq_true rfl) ⟨Nat.zero_le _, Nat.zero_le _⟩ dX13_opened_128 ?_
                      refine lv_if_eq (tgt := 146) hx hb dX13_opened_131 (by decide) (fun c_131 => ?_) (fun c_131 => ?_)
                      · skip
                        refine lv_iinc (v := ((nI u) + 1)) (lv' := [(2, .int ((nI u) + 1)), (0, .ref (ad mb)), (1, .int b), (4, .int ((fun s => thS (fun c => s_X13_sumAt nt kindF heavyF wideF hotF placeF (nI c) 5) s nc) (nI u))), (5, .int (nI c1))]) hx hb dX13_opened_146 hl (k := 2) rfl rfl (by decide) rfl (fun ls hl => ?_)
                        refine lv_goto (tgt := 9) hx hb dX13_opened_149 (by decide) ?_
                        exact ih_9 (u + 1) b wF ((nI u) + 1) (by omega) (by omega) (by rw [← hB9, show nz - u = (nz - (u + 1)) + 1 by omega, opdS]; first | (rw [if_pos (show opK (s_X13_costBy nc (upd mv 2 0) costF) (fun x => boS x.toBitVec.toNat x) (nI u) b = 0 from (by rw [opK]; first | (rw [if_pos c_29]; decide) | (rw [if_neg c_29, if_pos c_38]) | (rw [if_neg c_29, if_neg c_38, if_pos c_47, if_pos c_58]; decide) | (rw [if_neg c_29, if_neg c_38, if_pos c_47, if_neg c_58]) | (rw [if_neg c_29, if_neg c_38, if_neg c_47]; decide)))]; done) | (rw [if_neg (show ¬ opK (s_X13_costBy nc (upd mv 2 0) costF) (fun x => boS x.toBitVec.toNat x) (nI u) b = 0 from (by rw [opK]; first | (rw [if_pos c_29]; decide) | (rw [if_neg c_29, if_pos c_38]) | (rw [if_neg c_29, if_neg c_38, if_pos c_47, if_pos c_58]; decide) | (rw [if_neg c_29, if_neg c_38, if_pos c_47, if_neg c_58]) | (rw [if_neg c_29, if_neg c_38, if_neg c_47]; decide))), if_pos c_120, if_pos c_131]; done) | (rw [if_neg (show ¬ opK (s_X13_costBy nc (upd mv 2 0) costF) (fun x => boS x.toBitVec.toNat x) (nI u) b = 0 from (by rw [opK]; first | (rw [if_pos c_29]; decide) | (rw [if_neg c_29, if_pos c_38]) | (rw [if_neg c_29, if_neg c_38, if_pos c_47, if_pos c_58]; decide) | (rw [if_neg c_29, if_neg c_38, if_pos c_47, if_neg c_58]) | (rw [if_neg c_29, if_neg c_38, if_neg c_47]; decide))), if_pos c_120, if_neg c_131, if_pos c_141]; done) | (rw [if_neg (show ¬ opK (s_X13_costBy nc (upd mv 2 0) costF) (fun x => boS x.toBitVec.toNat x) (nI u) b = 0 from (by rw [opK]; first | (rw [if_pos c_29]; decide) | (rw [if_neg c_29, if_pos c_38]) | (rw [if_neg c_29, if_neg c_38, if_pos c_47, if_pos c_58]; decide) | (rw [if_neg c_29, if_neg c_38, if_pos c_47, if_neg c_58]) | (rw [if_neg c_29, if_neg c_38, if_neg c_47]; decide))), if_pos c_120, if_neg c_131, if_neg c_141]; done)) (by exact nI_1 _) _ _ _ mL70_0 mL70_1 mL70_2 (fun q n0 n1 n2 => (fL70 q n0 n1 n2)) hP hS ls (lv_sub hl [1, 2, 0] rfl)
                      · skip
                        refine lv_aload_n hx hb dX13_opened_134 rfl (lv_at hl 0 rfl) ?_
                        refine lv_iload_n hx hb dX13_opened_135 rfl (lv_at hl 2 rfl) ?_
                        refine lv_iload hx hb dX13_opened_136 (lv_at hl 3 rfl) ?_
                        refine q_wrVi (As := [.int (nI u), .int ((fun s => thS (fun c => s_X13_sumAt nt kindF heavyF wideF hotF placeF (nI c) 5) s nc) (nI u))]) (rest := []) (c_X13_goesBy l D cB cI cJ ad n ML70 hI mb nt nc np nq (upd mv 2 0) toldF bearsF ownerF limitF holdsF boardF kindF heavyF wideF hotF placeF wF ((fun s => thS (fun c => s_X13_sumAt nt kindF heavyF wideF hotF placeF (nI c) 5) s nc) (nI u)) (nI u) h_mb h_mb_3 h_mb_6 h_mb_7 h_mb_8 h_mb_9 h_mb_11 h_mb_12 h_mb_13 h_mb_15 h_mb_17 h_mb_18 h_mb_29 mL70_0 ((fL70 (mb + 3) (by omega) (by omega) (by omega)).trans m_mb_3) ((fL70 (mb + 6) (by omega) (by omega) (by omega)).trans m_mb_6) ((fL70 (mb + 7) (by omega) (by omega) (by omega)).trans m_mb_7) ((fL70 (mb + 8) (by omega) (by omega) (by omega)).trans m_mb_8) ((fL70 (mb + 9) (by omega) (by omega) (by omega)).trans m_mb_9) ((fL70 (mb + 11) (by omega) (by omega) (by omega)).trans m_mb_11) ((fL70 (mb + 12) (by omega) (by omega) (by omega)).trans m_mb_12) ((fL70 (mb + 13) (by omega) (by omega) (by omega)).trans m_mb_13) ((fL70 (mb + 15) (by omega) (by omega) (by omega)).trans m_mb_15) ((fL70 (mb + 17) (by omega) (by omega) (by omega)).trans m_mb_17) mL70_1 mL70_2 k0 hnp k1 hnc k2 hnt k3 hnq) X hK hP hS hl.1 rfl gX13_opened_X13_goesBy yd_X13_goesBy ⟨Nat.le_of_ble_eq_true rfl, Nat.le_of_ble_eq_true rfl⟩ h_mb mL70_0 (ci := 12) rfl rfl (Nat.le_of_ble_eq_true rfl) ⟨Nat.zero_le _, Nat.zero_le _⟩ dX13_opened_138 (fun r13 M12 H locs hp11 hP hS => ?_)
                        obtain ⟨v0_14, er18, g15, g16, fr17⟩ := hp11
                        replace er18 := er18.symm
                        subst er18
                        refine lv_if_eq (tgt := 146) hx hb dX13_opened_141 (by decide) (fun c_141 => ?_) (fun c_141 => ?_)
                        · skip
                          refine lv_iinc (v := ((nI u) + 1)) (lv' := [(2, .int ((nI u) + 1)), (0, .ref (ad mb)), (1, .int b), (4, .int ((fun s => thS (fun c => s_X13_sumAt nt kindF heavyF wideF hotF placeF (nI c) 5) s nc) (nI u))), (5, .int (nI c1))]) hx hb dX13_opened_146 hl (k := 2) rfl rfl (by decide) rfl (fun ls hl => ?_)
                          refine lv_goto (tgt := 9) hx hb dX13_opened_149 (by decide) ?_
                          exact ih_9 (u + 1) b v0_14 ((nI u) + 1) (by omega) (by omega) (by rw [← hB9, show nz - u = (nz - (u + 1)) + 1 by omega, opdS]; first | (rw [if_pos (show opK (s_X13_costBy nc (upd mv 2 0) costF) (fun x => boS x.toBitVec.toNat x) (nI u) b = 0 from (by rw [opK]; first | (rw [if_pos c_29]; decide) | (rw [if_neg c_29, if_pos c_38]) | (rw [if_neg c_29, if_neg c_38, if_pos c_47, if_pos c_58]; decide) | (rw [if_neg c_29, if_neg c_38, if_pos c_47, if_neg c_58]) | (rw [if_neg c_29, if_neg c_38, if_neg c_47]; decide)))]; done) | (rw [if_neg (show ¬ opK (s_X13_costBy nc (upd mv 2 0) costF) (fun x => boS x.toBitVec.toNat x) (nI u) b = 0 from (by rw [opK]; first | (rw [if_pos c_29]; decide) | (rw [if_neg c_29, if_pos c_38]) | (rw [if_neg c_29, if_neg c_38, if_pos c_47, if_pos c_58]; decide) | (rw [if_neg c_29, if_neg c_38, if_pos c_47, if_neg c_58]) | (rw [if_neg c_29, if_neg c_38, if_neg c_47]; decide))), if_pos c_120, if_pos c_131]; done) | (rw [if_neg (show ¬ opK (s_X13_costBy nc (upd mv 2 0) costF) (fun x => boS x.toBitVec.toNat x) (nI u) b = 0 from (by rw [opK]; first | (rw [if_pos c_29]; decide) | (rw [if_neg c_29, if_pos c_38]) | (rw [if_neg c_29, if_neg c_38, if_pos c_47, if_pos c_58]; decide) | (rw [if_neg c_29, if_neg c_38, if_pos c_47, if_neg c_58]) | (rw [if_neg c_29, if_neg c_38, if_neg c_47]; decide))), if_pos c_120, if_neg c_131, if_pos c_141]; done) | (rw [if_neg (show ¬ opK (s_X13_costBy nc (upd mv 2 0) costF) (fun x => boS x.toBitVec.toNat x) (nI u) b = 0 from (by rw [opK]; first | (rw [if_pos c_29]; decide) | (rw [if_neg c_29, if_pos c_38]) | (rw [if_neg c_29, if_neg c_38, if_pos c_47, if_pos c_58]; decide) | (rw [if_neg c_29, if_neg c_38, if_pos c_47, if_neg c_58]) | (rw [if_neg c_29, if_neg c_38, if_neg c_47]; decide))), if_pos c_120, if_neg c_131, if_neg c_141]; done)) (by exact nI_1 _) _ _ _ ((fr17 mb (by omega) (by omega)).trans mL70_0) g15 g16 (fun q n0 n1 n2 => ((fr17 q n1 n2).trans (fL70 q n0 n1 n2))) hP hS ls (lv_sub hl [1, 2, 0] rfl)
                        · skip
                          refine lv_iload_n hx hb dX13_opened_144 rfl (lv_at hl 2 rfl) ?_
                          refine lv_istore_n (lv' := [(1, .int (nI u)), (0, .ref (ad mb)), (2, .int (nI u)), (4, .int ((fun s => thS (fun c => s_X13_sumAt nt kindF heavyF wideF hotF placeF (nI c) 5) s nc) (nI u))), (5, .int (nI c1))]) hx hb dX13_opened_145 rfl hl (by decide) rfl (fun ls hl => ?_)
                          refine lv_iinc (v := ((nI u) + 1)) (lv' := [(2, .int ((nI u) + 1)), (1, .int (nI u)), (0, .ref (ad mb)), (4, .int ((fun s => thS (fun c => s_X13_sumAt nt kindF heavyF wideF hotF placeF (nI c) 5) s nc) (nI u))), (5, .int (nI c1))]) hx hb dX13_opened_146 hl (k := 2) rfl rfl (by decide) rfl (fun ls hl => ?_)
                          refine lv_goto (tgt := 9) hx hb dX13_opened_149 (by decide) ?_
                          exact ih_9 (u + 1) (nI u) v0_14 ((nI u) + 1) (by omega) (by omega) (by rw [← hB9, show nz - u = (nz - (u + 1)) + 1 by omega, opdS]; first | (rw [if_pos (show opK (s_X13_costBy nc (upd mv 2 0) costF) (fun x => boS x.toBitVec.toNat x) (nI u) b = 0 from (by rw [opK]; first | (rw [if_pos c_29]; decide) | (rw [if_neg c_29, if_pos c_38]) | (rw [if_neg c_29, if_neg c_38, if_pos c_47, if_pos c_58]; decide) | (rw [if_neg c_29, if_neg c_38, if_pos c_47, if_neg c_58]) | (rw [if_neg c_29, if_neg c_38, if_neg c_47]; decide)))]; done) | (rw [if_neg (show ¬ opK (s_X13_costBy nc (upd mv 2 0) costF) (fun x => boS x.toBitVec.toNat x) (nI u) b = 0 from (by rw [opK]; first | (rw [if_pos c_29]; decide) | (rw [if_neg c_29, if_pos c_38]) | (rw [if_neg c_29, if_neg c_38, if_pos c_47, if_pos c_58]; decide) | (rw [if_neg c_29, if_neg c_38, if_pos c_47, if_neg c_58]) | (rw [if_neg c_29, if_neg c_38, if_neg c_47]; decide))), if_pos c_120, if_pos c_131]; done) | (rw [if_neg (show ¬ opK (s_X13_costBy nc (upd mv 2 0) costF) (fun x => boS x.toBitVec.toNat x) (nI u) b = 0 from (by rw [opK]; first | (rw [if_pos c_29]; decide) | (rw [if_neg c_29, if_pos c_38]) | (rw [if_neg c_29, if_neg c_38, if_pos c_47, if_pos c_58]; decide) | (rw [if_neg c_29, if_neg c_38, if_pos c_47, if_neg c_58]) | (rw [if_neg c_29, if_neg c_38, if_neg c_47]; decide))), if_pos c_120, if_neg c_131, if_pos c_141]; done) | (rw [if_neg (show ¬ opK (s_X13_costBy nc (upd mv 2 0) costF) (fun x => boS x.toBitVec.toNat x) (nI u) b = 0 from (by rw [opK]; first | (rw [if_pos c_29]; decide) | (rw [if_neg c_29, if_pos c_38]) | (rw [if_neg c_29, if_neg c_38, if_pos c_47, if_pos c_58]; decide) | (rw [if_neg c_29, if_neg c_38, if_pos c_47, if_neg c_58]) | (rw [if_neg c_29, if_neg c_38, if_neg c_47]; decide))), if_pos c_120, if_neg c_131, if_neg c_141]; done)) (by exact nI_1 _) _ _ _ ((fr17 mb (by omega) (by omega)).trans mL70_0) g15 g16 (fun q n0 n1 n2 => ((fr17 q n1 n2).trans (fL70 q n0 n1 n2))) hP hS ls (lv_sub hl [2, 1, 0] rfl)
                    · skip
                      refine lv_bipush (v := (-2)) hx hb dX13_opened_123 (by decide) ?_
                      exact q_wzret X hr hlocks hP hS (rfl) ⟨_, (by rw [← hB9, show nz - u = (nz - (u + 1)) + 1 by omega, opdS]; rw [if_neg (show ¬ opK (s_X13_costBy nc (upd mv 2 0) costF) (fun x => boS x.toBitVec.toNat x) (nI u) b = 0 from (by rw [opK]; first | (rw [if_pos c_29]; decide) | (rw [if_neg c_29, if_pos c_38]) | (rw [if_neg c_29, if_neg c_38, if_pos c_47, if_pos c_58]; decide) | (rw [if_neg c_29, if_neg c_38, if_pos c_47, if_neg c_58]) | (rw [if_neg c_29, if_neg c_38, if_neg c_47]; decide))), if_neg c_120]), mL70_0, mL70_1, mL70_2, (fun q n0 n1 n2 => (fL70 q n0 n1 n2))⟩ dX13_opened_125
                  · skip
                    rw [k1] at c_78; have h8 := lt_of_nlt c_78 (by omega) hc
                    refine lv_iload hx hb dX13_opened_81 (lv_at hl 3 rfl) ?_
                    refine lv_iload_n hx hb dX13_opened_83 rfl (lv_at hl 2 rfl) ?_
                    refine lv_iload hx hb dX13_opened_84 (lv_at hl 4 rfl) ?_
                    refine lv_ishr hx hb dX13_opened_86 ?_
                    refine lv_iconst (v := 1) hx hb dX13_opened_87 (by decide) ?_
                    refine lv_iand hx hb dX13_opened_88 ?_
                    refine lv_iconst (v := 1) hx hb dX13_opened_89 (by decide) ?_
                    refine lv_icmp_ne (tgt := 103) hx hb dX13_opened_90 (by decide) (fun c_90 => ?_) (fun c_90 => ?_)
                    · skip
                      refine lv_iconst (v := 0) hx hb dX13_opened_103 (by decide) ?_
                      refine lv_ior hx hb dX13_opened_104 ?_
                      refine lv_istore (lv' := [(4, .int ((thS (fun c => s_X13_sumAt nt kindF heavyF wideF hotF placeF (nI c) 5) (nI u) c1) ||| 0)), (0, .ref (ad mb)), (1, .int b), (2, .int (nI u)), (5, .int (nI c1))]) hx hb dX13_opened_105 hl (by decide) rfl (fun ls hl => ?_)
                      refine lv_iinc (v := ((nI c1) + 1)) (lv' := [(5, .int ((nI c1) + 1)), (4, .int ((thS (fun c => s_X13_sumAt nt kindF heavyF wideF hotF placeF (nI c) 5) (nI u) c1) ||| 0)), (0, .ref (ad mb)), (1, .int b), (2, .int (nI u))]) hx hb dX13_opened_107 hl (k := 4) rfl rfl (by decide) rfl (fun ls hl => ?_)
                      refine lv_goto (tgt := 70) hx hb dX13_opened_110 (by decide) ?_
                      exact ih_70 (c1 + 1) ((thS (fun c => s_X13_sumAt nt kindF heavyF wideF hotF placeF (nI c) 5) (nI u) c1) ||| 0) ((nI c1) + 1) (by omega) (by omega) (by rw [thS]; first | (rw [if_pos c_90]; done) | (rw [if_neg c_90]; done)) (by exact nI_1 _) _ _ _ mL70_0 mL70_1 mL70_2 (fun q n0 n1 n2 => (fL70 q n0 n1 n2)) hP hS ls (lv_sub hl [2, 3, 4, 1, 0] rfl)
                    · skip
                      refine lv_aload_n hx hb dX13_opened_93 rfl (lv_at hl 0 rfl) ?_
                      refine lv_iload hx hb dX13_opened_94 (lv_at hl 4 rfl) ?_
                      refine lv_iconst (v := 5) hx hb dX13_opened_96 (by decide) ?_
                      refine q_rdV (As := [.int (nI c1), .int 5]) (rest := [.int (thS (fun c => s_X13_sumAt nt kindF heavyF wideF hotF placeF (nI c) 5) (nI u) c1)]) (c_X13_sumAt l D cB cI cJ ad n ML70 mb nt nc np nq (upd mv 2 0) toldF kindF heavyF wideF hotF placeF (nI c1) 5 h_mb h_mb_3 h_mb_12 h_mb_13 h_mb_15 h_mb_17 h_mb_18 mL70_0 ((fL70 (mb + 3) (by omega) (by omega) (by omega)).trans m_mb_3) ((fL70 (mb + 12) (by omega) (by omega) (by omega)).trans m_mb_12) ((fL70 (mb + 13) (by omega) (by omega) (by omega)).trans m_mb_13) ((fL70 (mb + 15) (by omega) (by omega) (by omega)).trans m_mb_15) ((fL70 (mb + 17) (by omega) (by omega) (by omega)).trans m_mb_17) mL70_1 k0 hnp k1 hnc k2 hnt k3 hnq) X hK hP hS hl.1 rfl gX13_opened_X13_sumAt yd_X13_sumAt ⟨Nat.le_of_ble_eq_true rfl, Nat.le_of_ble_eq_true rfl⟩ h_mb mL70_0 (ci := 12) rfl rfl (Nat.le_of_ble_eq_true rfl) ⟨Nat.zero_le _, Nat.zero_le _⟩ dX13_opened_97 ?_
                      refine lv_goto (tgt := 104) hx hb dX13_opened_100 (by decide) ?_
                      refine lv_ior hx hb dX13_opened_104 ?_
                      refine lv_istore (lv' := [(4, .int ((thS (fun c => s_X13_sumAt nt kindF heavyF wideF hotF placeF (nI c) 5) (nI u) c1) ||| (s_X13_sumAt nt kindF heavyF wideF hotF placeF (nI c1) 5))), (0, .ref (ad mb)), (1, .int b), (2, .int (nI u)), (5, .int (nI c1))]) hx hb dX13_opened_105 hl (by decide) rfl (fun ls hl => ?_)
                      refine lv_iinc (v := ((nI c1) + 1)) (lv' := [(5, .int ((nI c1) + 1)), (4, .int ((thS (fun c => s_X13_sumAt nt kindF heavyF wideF hotF placeF (nI c) 5) (nI u) c1) ||| (s_X13_sumAt nt kindF heavyF wideF hotF placeF (nI c1) 5))), (0, .ref (ad mb)), (1, .int b), (2, .int (nI u))]) hx hb dX13_opened_107 hl (k := 4) rfl rfl (by decide) rfl (fun ls hl => ?_)
                      refine lv_goto (tgt := 70) hx hb dX13_opened_110 (by decide) ?_
                      exact ih_70 (c1 + 1) ((thS (fun c => s_X13_sumAt nt kindF heavyF wideF hotF placeF (nI c) 5) (nI u) c1) ||| (s_X13_sumAt nt kindF heavyF wideF hotF placeF (nI c1) 5)) ((nI c1) + 1) (by omega) (by omega) (by rw [thS]; first | (rw [if_pos c_90]; done) | (rw [if_neg c_90]; done)) (by exact nI_1 _) _ _ _ mL70_0 mL70_1 mL70_2 (fun q n0 n1 n2 => (fL70 q n0 n1 n2)) hP hS ls (lv_sub hl [2, 3, 4, 1, 0] rfl)
              exact loop_70 (nc + 1) 0 0 0 (by omega) (by exact Nat.zero_le _) (by rfl) (by rfl) _ _ _ mL9_0 mL9_1 mL9_2 (fun q n0 n1 n2 => (fL9 q n0 n1 n2)) hP hS ls (lv_sub hl [3, 4, 5, 1, 0] rfl)
            · skip
              refine lv_iload_n hx hb dX13_opened_50 rfl (lv_at hl 3 rfl) ?_
              refine q_rdS (As := [.int (nI u)]) (rest := []) (c_X13_bitsOf l D cB cI cJ ad n ML9 (nI u)   ) X hK hP hS hl.1 rfl gX13_opened_X13_bitsOf yd_X13_bitsOf ⟨Nat.le_of_ble_eq_true rfl, Nat.le_of_ble_eq_true rfl⟩ rfl (Nat.le_of_ble_eq_true rfl) ⟨Nat.zero_le _, Nat.zero_le _⟩ dX13_opened_51 ?_
              refine lv_iload_n hx hb dX13_opened_54 rfl (lv_at hl 2 rfl) ?_
              refine q_rdS (As := [.int b]) (rest := [.int (boS (nI u).toBitVec.toNat (nI u))]) (c_X13_bitsOf l D cB cI cJ ad n ML9 b   ) X hK hP hS hl.1 rfl gX13_opened_X13_bitsOf yd_X13_bitsOf ⟨Nat.le_of_ble_eq_true rfl, Nat.le_of_ble_eq_true rfl⟩ rfl (Nat.le_of_ble_eq_true rfl) ⟨Nat.zero_le _, Nat.zero_le _⟩ dX13_opened_55 ?_
              refine lv_icmp_lt (tgt := 64) hx hb dX13_opened_58 (by decide) (fun c_58 => ?_) (fun c_58 => ?_)
              · skip
                refine lv_iconst (v := 0) hx hb dX13_opened_64 (by decide) ?_
                refine lv_istore (lv' := [(4, .int 0), (3, .int (s_X13_costBy nc (upd mv 2 0) costF (nI u))), (0, .ref (ad mb)), (1, .int b), (2, .int (nI u))]) hx hb dX13_opened_65 hl (by decide) rfl (fun ls hl => ?_)
                refine lv_iconst (v := 0) hx hb dX13_opened_67 (by decide) ?_
                refine lv_istore (lv' := [(5, .int 0), (4, .int 0), (3, .int (s_X13_costBy nc (upd mv 2 0) costF (nI u))), (0, .ref (ad mb)), (1, .int b), (2, .int (nI u))]) hx hb dX13_opened_68 hl (by decide) rfl (fun ls hl => ?_)
                have loop_70 : ∀ (fuel : Nat) (c1 : Nat) (x4 : Int32) (x5 : Int32), nc - c1 < fuel → (c1 ≤ nc) → x4 = thS (fun c => s_X13_sumAt nt kindF heavyF wideF hotF placeF (nI c) 5) (nI u) c1 → x5 = nI c1 → ∀ (ML70 : Nat → va_E) (H : Heap) (locs : List Loc), ML70 mb = .inr (12, modF ad mb ((upd mv 2 0))) → ML70 (mb + 18) = .inl (cI, 24, .inl placeF) → ML70 (mb + 29) = .inl (cI, 12, .inl wF) → (∀ q : Nat, q ≠ mb → q ≠ mb + 18 → q ≠ mb + 29 → ML70 q = M q) → va_P D vwCl (ip ad n ML70) H → va_S (ipA ad n) s.heap H locs → ∀ (ls : Array Slot), lv_has ls 6 [(0, .ref (ad mb)), (1, .int b), (2, .int (nI u)), (4, .int x4), (5, .int x5)] → W p l e (rmOf 26 709) s m args below meth c H locs 0 0 (MQ below (va_Qi (fun r M' => ∃ (v0 : Nat → Int32), r = (opdS (s_X13_costBy nc (upd mv 2 0) costF) (fun x => boS x.toBitVec.toNat x) (fun s => thS (fun c => s_X13_sumAt nt kindF heavyF wideF hotF placeF (nI c) 5) s nc) (s_X13_othersGo nt nc limitF kindF heavyF wideF hotF placeF) (fun z y => (cpS (pcC nt nc bearsF ownerF limitF holdsF boardF kindF heavyF wideF hotF z) (pcP nt nc bearsF ownerF limitF holdsF boardF kindF heavyF wideF hotF z) kindF y nc np nt 0 (gbF y placeF nt))) nz 0 (-1)) ∧ M' mb = .inr (12, modF ad mb ((upd mv 2 0))) ∧ M' (mb + 18) = .inl (cI, 24, .inl placeF) ∧ M' (mb + 29) = .inl (cI, 12, .inl v0) ∧ ∀ q : Nat, q ≠ mb → q ≠ mb + 18 → q ≠ mb + 29 → M' q = M q) (fun M' t => va_P D vwCl (ip ad n M') t.heap) (ipA ad n)) args s 0 0 (ipA ad n)) (F0 m 70 ls []) := by
                  intro fuel
                  induction fuel with
                  | zero =>
                    intro c1 x4 x5 hz
                    exact absurd hz (Nat.not_lt_zero _)
                  | succ fuel ih_70 =>
                    intro c1 x4 x5 hz_70 hc e4 e5 ML70 H locs mL70_0 mL70_1 mL70_2 fL70 hP hS ls hl
                    subst e4
                    subst e5
                    skip
                    refine lv_iload hx hb dX13_opened_70 (lv_at hl 4 rfl) ?_
                    refine lv_aload_n hx hb dX13_opened_72 rfl (lv_at hl 0 rfl) ?_
                    refine q_get (v := .ref (ad (mb + 3))) (fs := modF ad mb ((upd mv 2 0))) X hK hP fX13_opened_40 h_mb mL70_0 rfl dX13_opened_73 ?_
                    refine lv_iconst (v := 1) hx hb dX13_opened_76 (by decide) ?_
                    refine q_ialdN (f := toldF) (k := 14) X hK hP 1 h_mb_3 ((fL70 (mb + 3) (by omega) (by omega) (by omega)).trans m_mb_3) (by decide) (by decide) dX13_opened_77 ?_
                    refine lv_icmp_ge (tgt := 113) hx hb dX13_opened_78 (by decide) (fun c_78 => ?_) (fun c_78 => ?_)
                    · skip
                      rw [k1] at c_78; have h8 : c1 = nc := eq_of_le c_78 (by omega) hc
                      rw [show thS (fun c => s_X13_sumAt nt kindF heavyF wideF hotF placeF (nI c) 5) (nI u) c1 = ((fun s => thS (fun c => s_X13_sumAt nt kindF heavyF wideF hotF placeF (nI c) 5) s nc) (nI u)) from (by rw [h8])] at hl
                      refine lv_iload hx hb dX13_opened_113 (lv_at hl 3 rfl) ?_
                      refine q_rdS (As := [.int ((fun s => thS (fun c => s_X13_sumAt nt kindF heavyF wideF hotF placeF (nI c) 5) s nc) (nI u))]) (rest := []) (c_X13_bitsOf l D cB cI cJ ad n ML70 ((fun s => thS (fun c => s_X13_sumAt nt kindF heavyF wideF hotF placeF (nI c) 5) s nc) (nI u))   ) X hK hP hS hl.1 rfl gX13_opened_X13_bitsOf yd_X13_bitsOf ⟨Nat.le_of_ble_eq_true rfl, Nat.le_of_ble_eq_true rfl⟩ rfl (Nat.le_of_ble_eq_true rfl) ⟨Nat.zero_le _, Nat.zero_le _⟩ dX13_opened_115 ?_
                      refine lv_bipush (v := 8) hx hb dX13_opened_118 (by decide) ?_
                      refine lv_icmp_le (tgt := 126) hx hb dX13_opened_120 (by decide) (fun c_120 => ?_) (fun c_120 => ?_)
                      · skip
                        refine lv_aload_n hx hb dX13_opened_126 rfl (lv_at hl 0 rfl) ?_
                        refine lv_iload_n hx hb dX13_opened_127 rfl (lv_at hl 2 rfl) ?_
                        refine q_rdV (As := [.int (nI u)]) (rest := []) (c_X13_othersGo l D cB cI cJ ad n ML70 mb nt nc np nq (upd mv 2 0) toldF limitF kindF heavyF wideF hotF placeF (nI u) h_mb h_mb_3 h_mb_8 h_mb_12 h_mb_13 h_mb_15 h_mb_17 h_mb_18 mL70_0 ((fL70 (mb + 3) (by omega) (by omega) (by omega)).trans m_mb_3) ((fL70 (mb + 8) (by omega) (by omega) (by omega)).trans m_mb_8) ((fL70 (mb + 12) (by omega) (by omega) (by omega)).trans m_mb_12) ((fL70 (mb + 13) (by omega) (by omega) (by omega)).trans m_mb_13) ((fL70 (mb + 15) (by omega) (by omega) (by omega)).trans m_mb_15) ((fL70 (mb + 17) (by omega) (by omega) (by omega)).trans m_mb_17) mL70_1 k0 hnp k1 hnc k2 hnt k3 hnq) X hK hP hS hl.1 rfl gX13_opened_X13_othersGo yd_X13_othersGo ⟨Nat.le_of_ble_eq_true rfl, Nat.le_of_ble_eq_true rfl⟩ h_mb mL70_0 (ci := 12) rfl rfl (Nat.le_of_ble_eq_true rfl) ⟨Nat.zero_le _, Nat.zero_le _⟩ dX13_opened_128 ?_
                        refine lv_if_eq (tgt := 146) hx hb dX13_opened_131 (by decide) (fun c_131 => ?_) (fun c_131 => ?_)
                        · skip
                          refine lv_iinc (v := ((nI u) + 1)) (lv' := [(2, .int ((nI u) + 1)), (0, .ref (ad mb)), (1, .int b), (4, .int ((fun s => thS (fun c => s_X13_sumAt nt kindF heavyF wideF hotF placeF (nI c) 5) s nc) (nI u))), (5, .int (nI c1))]) hx hb dX13_opened_146 hl (k := 2) rfl rfl (by decide) rfl (fun ls hl => ?_)
                          refine lv_goto (tgt := 9) hx hb dX13_opened_149 (by decide) ?_
                          exact ih_9 (u + 1) b wF ((nI u) + 1) (by omega) (by omega) (by rw [← hB9, show nz - u = (nz - (u + 1)) + 1 by omega, opdS]; first | (rw [if_pos (show opK (s_X13_costBy nc (upd mv 2 0) costF) (fun x => boS x.toBitVec.toNat x) (nI u) b = 0 from (by rw [opK]; first | (rw [if_pos c_29]; decide) | (rw [if_neg c_29, if_pos c_38]) | (rw [if_neg c_29, if_neg c_38, if_pos c_47, if_pos c_58]; decide) | (rw [if_neg c_29, if_neg c_38, if_pos c_47, if_neg c_58]) | (rw [if_neg c_29, if_neg c_38, if_neg c_47]; decide)))]; done) | (rw [if_neg (show ¬ opK (s_X13_costBy nc (upd mv 2 0) costF) (fun x => boS x.toBitVec.toNat x) (nI u) b = 0 from (by rw [opK]; first | (rw [if_pos c_29]; decide) | (rw [if_neg c_29, if_pos c_38]) | (rw [if_neg c_29, if_neg c_38, if_pos c_47, if_pos c_58]; decide) | (rw [if_neg c_29, if_neg c_38, if_pos c_47, if_neg c_58]) | (rw [if_neg c_29, if_neg c_38, if_neg c_47]; decide))), if_pos c_120, if_pos c_131]; done) | (rw [if_neg (show ¬ opK (s_X13_costBy nc (upd mv 2 0) costF) (fun x => boS x.toBitVec.toNat x) (nI u) b = 0 from (by rw [opK]; first | (rw [if_pos c_29]; decide) | (rw [if_neg c_29, if_pos c_38]) | (rw [if_neg c_29, if_neg c_38, if_pos c_47, if_pos c_58]; decide) | (rw [if_neg c_29, if_neg c_38, if_pos c_47, if_neg c_58]) | (rw [if_neg c_29, if_neg c_38, if_neg c_47]; decide))), if_pos c_120, if_neg c_131, if_pos c_141]; done) | (rw [if_neg (show ¬ opK (s_X13_costBy nc (upd mv 2 0) costF) (fun x => boS x.toBitVec.toNat x) (nI u) b = 0 from (by rw [opK]; first | (rw [if_pos c_29]; decide) | (rw [if_neg c_29, if_pos c_38]) | (rw [if_neg c_29, if_neg c_38, if_pos c_47, if_pos c_58]; decide) | (rw [if_neg c_29, if_neg c_38, if_pos c_47, if_neg c_58]) | (rw [if_neg c_29, if_neg c_38, if_neg c_47]; decide))), if_pos c_120, if_neg c_131, if_neg c_141]; done)) (by exact nI_1 _) _ _ _ mL70_0 mL70_1 mL70_2 (fun q n0 n1 n2 => (fL70 q n0 n1 n2)) hP hS ls (lv_sub hl [1, 2, 0] rfl)
                        · skip
                          refine lv_aload_n hx hb dX13_opened_134 rfl (lv_at hl 0 rfl) ?_
                          refine lv_iload_n hx hb dX13_opened_135 rfl (lv_at hl 2 rfl) ?_
                          refine lv_iload hx hb dX13_opened_136 (lv_at hl 3 rfl) ?_
                          refine q_wrVi (As := [.int (nI u), .int ((fun s => thS (fun c => s_X13_sumAt nt kindF heavyF wideF hotF placeF (nI c) 5) s nc) (nI u))]) (rest := []) (c_X13_goesBy l D cB cI cJ ad n ML70 hI mb nt nc np nq (upd mv 2 0) toldF bearsF ownerF limitF holdsF boardF kindF heavyF wideF hotF placeF wF ((fun s => thS (fun c => s_X13_sumAt nt kindF heavyF wideF hotF placeF (nI c) 5) s nc) (nI u)) (nI u) h_mb h_mb_3 h_mb_6 h_mb_7 h_mb_8 h_mb_9 h_mb_11 h_mb_12 h_mb_13 h_mb_15 h_mb_17 h_mb_18 h_mb_29 mL70_0 ((fL70 (mb + 3) (by omega) (by omega) (by omega)).trans m_mb_3) ((fL70 (mb + 6) (by omega) (by omega) (by omega)).trans m_mb_6) ((fL70 (mb + 7) (by omega) (by omega) (by omega)).trans m_mb_7) ((fL70 (mb + 8) (by omega) (by omega) (by omega)).trans m_mb_8) ((fL70 (mb + 9) (by omega) (by omega) (by omega)).trans m_mb_9) ((fL70 (mb + 11) (by omega) (by omega) (by omega)).trans m_mb_11) ((fL70 (mb + 12) (by omega) (by omega) (by omega)).trans m_mb_12) ((fL70 (mb + 13) (by omega) (by omega) (by omega)).trans m_mb_13) ((fL70 (mb + 15) (by omega) (by omega) (by omega)).trans m_mb_15) ((fL70 (mb + 17) (by omega) (by omega) (by omega)).trans m_mb_17) mL70_1 mL70_2 k0 hnp k1 hnc k2 hnt k3 hnq) X hK hP hS hl.1 rfl gX13_opened_X13_goesBy yd_X13_goesBy ⟨Nat.le_of_ble_eq_true rfl, Nat.le_of_ble_eq_true rfl⟩ h_mb mL70_0 (ci := 12) rfl rfl (Nat.le_of_ble_eq_true rfl) ⟨Nat.zero_le _, Nat.zero_le _⟩ dX13_opened_138 (fun r21 M20 H locs hp19 hP hS => ?_)
                          obtain ⟨v0_22, er26, g23, g24, fr25⟩ := hp19
                          replace er26 := er26.symm
                          subst er26
                          refine lv_if_eq (tgt := 146) hx hb dX13_opened_141 (by decide) (fun c_141 => ?_) (fun c_141 => ?_)
                          · skip
                            refine lv_iinc (v := ((nI u) + 1)) (lv' := [(2, .int ((nI u) + 1)), (0, .ref (ad mb)), (1, .int b), (4, .int ((fun s => thS (fun c => s_X13_sumAt nt kindF heavyF wideF hotF placeF (nI c) 5) s nc) (nI u))), (5, .int (nI c1))]) hx hb dX13_opened_146 hl (k := 2) rfl rfl (by decide) rfl (fun ls hl => ?_)
                            refine lv_goto (tgt := 9) hx hb dX13_opened_149 (by decide) ?_
                            exact ih_9 (u + 1) b v0_22 ((nI u) + 1) (by omega) (by omega) (by rw [← hB9, show nz - u = (nz - (u + 1)) + 1 by omega, opdS]; first | (rw [if_pos (show opK (s_X13_costBy nc (upd mv 2 0) costF) (fun x => boS x.toBitVec.toNat x) (nI u) b = 0 from (by rw [opK]; first | (rw [if_pos c_29]; decide) | (rw [if_neg c_29, if_pos c_38]) | (rw [if_neg c_29, if_neg c_38, if_pos c_47, if_pos c_58]; decide) | (rw [if_neg c_29, if_neg c_38, if_pos c_47, if_neg c_58]) | (rw [if_neg c_29, if_neg c_38, if_neg c_47]; decide)))]; done) | (rw [if_neg (show ¬ opK (s_X13_costBy nc (upd mv 2 0) costF) (fun x => boS x.toBitVec.toNat x) (nI u) b = 0 from (by rw [opK]; first | (rw [if_pos c_29]; decide) | (rw [if_neg c_29, if_pos c_38]) | (rw [if_neg c_29, if_neg c_38, if_pos c_47, if_pos c_58]; decide) | (rw [if_neg c_29, if_neg c_38, if_pos c_47, if_neg c_58]) | (rw [if_neg c_29, if_neg c_38, if_neg c_47]; decide))), if_pos c_120, if_pos c_131]; done) | (rw [if_neg (show ¬ opK (s_X13_costBy nc (upd mv 2 0) costF) (fun x => boS x.toBitVec.toNat x) (nI u) b = 0 from (by rw [opK]; first | (rw [if_pos c_29]; decide) | (rw [if_neg c_29, if_pos c_38]) | (rw [if_neg c_29, if_neg c_38, if_pos c_47, if_pos c_58]; decide) | (rw [if_neg c_29, if_neg c_38, if_pos c_47, if_neg c_58]) | (rw [if_neg c_29, if_neg c_38, if_neg c_47]; decide))), if_pos c_120, if_neg c_131, if_pos c_141]; done) | (rw [if_neg (show ¬ opK (s_X13_costBy nc (upd mv 2 0) costF) (fun x => boS x.toBitVec.toNat x) (nI u) b = 0 from (by rw [opK]; first | (rw [if_pos c_29]; decide) | (rw [if_neg c_29, if_pos c_38]) | (rw [if_neg c_29, if_neg c_38, if_pos c_47, if_pos c_58]; decide) | (rw [if_neg c_29, if_neg c_38, if_pos c_47, if_neg c_58]) | (rw [if_neg c_29, if_neg c_38, if_neg c_47]; decide))), if_pos c_120, if_neg c_131, if_neg c_141]; done)) (by exact nI_1 _) _ _ _ ((fr25 mb (by omega) (by omega)).trans mL70_0) g23 g24 (fun q n0 n1 n2 => ((fr25 q n1 n2).trans (fL70 q n0 n1 n2))) hP hS ls (lv_sub hl [1, 2, 0] rfl)
                          · skip
                            refine lv_iload_n hx hb dX13_opened_144 rfl (lv_at hl 2 rfl) ?_
                            refine lv_istore_n (lv' := [(1, .int (nI u)), (0, .ref (ad mb)), (2, .int (nI u)), (4, .int ((fun s => thS (fun c => s_X13_sumAt nt kindF heavyF wideF hotF placeF (nI c) 5) s nc) (nI u))), (5, .int (nI c1))]) hx hb dX13_opened_145 rfl hl (by decide) rfl (fun ls hl => ?_)
                            refine lv_iinc (v := ((nI u) + 1)) (lv' := [(2, .int ((nI u) + 1)), (1, .int (nI u)), (0, .ref (ad mb)), (4, .int ((fun s => thS (fun c => s_X13_sumAt nt kindF heavyF wideF hotF placeF (nI c) 5) s nc) (nI u))), (5, .int (nI c1))]) hx hb dX13_opened_146 hl (k := 2) rfl rfl (by decide) rfl (fun ls hl => ?_)
                            refine lv_goto (tgt := 9) hx hb dX13_opened_149 (by decide) ?_
                            exact ih_9 (u + 1) (nI u) v0_22 ((nI u) + 1) (by omega) (by omega) (by rw [← hB9, show nz - u = (nz - (u + 1)) + 1 by omega, opdS]; first | (rw [if_pos (show opK (s_X13_costBy nc (upd mv 2 0) costF) (fun x => boS x.toBitVec.toNat x) (nI u) b = 0 from (by rw [opK]; first | (rw [if_pos c_29]; decide) | (rw [if_neg c_29, if_pos c_38]) | (rw [if_neg c_29, if_neg c_38, if_pos c_47, if_pos c_58]; decide) | (rw [if_neg c_29, if_neg c_38, if_pos c_47, if_neg c_58]) | (rw [if_neg c_29, if_neg c_38, if_neg c_47]; decide)))]; done) | (rw [if_neg (show ¬ opK (s_X13_costBy nc (upd mv 2 0) costF) (fun x => boS x.toBitVec.toNat x) (nI u) b = 0 from (by rw [opK]; first | (rw [if_pos c_29]; decide) | (rw [if_neg c_29, if_pos c_38]) | (rw [if_neg c_29, if_neg c_38, if_pos c_47, if_pos c_58]; decide) | (rw [if_neg c_29, if_neg c_38, if_pos c_47, if_neg c_58]) | (rw [if_neg c_29, if_neg c_38, if_neg c_47]; decide))), if_pos c_120, if_pos c_131]; done) | (rw [if_neg (show ¬ opK (s_X13_costBy nc (upd mv 2 0) costF) (fun x => boS x.toBitVec.toNat x) (nI u) b = 0 from (by rw [opK]; first | (rw [if_pos c_29]; decide) | (rw [if_neg c_29, if_pos c_38]) | (rw [if_neg c_29, if_neg c_38, if_pos c_47, if_pos c_58]; decide) | (rw [if_neg c_29, if_neg c_38, if_pos c_47, if_neg c_58]) | (rw [if_neg c_29, if_neg c_38, if_neg c_47]; decide))), if_pos c_120, if_neg c_131, if_pos c_141]; done) | (rw [if_neg (show ¬ opK (s_X13_costBy nc (upd mv 2 0) costF) (fun x => boS x.toBitVec.toNat x) (nI u) b = 0 from (by rw [opK]; first | (rw [if_pos c_29]; decide) | (rw [if_neg c_29, if_pos c_38]) | (rw [if_neg c_29, if_neg c_38, if_pos c_47, if_pos c_58]; decide) | (rw [if_neg c_29, if_neg c_38, if_pos c_47, if_neg c_58]) | (rw [if_neg c_29, if_neg c_38, if_neg c_47]; decide))), if_pos c_120, if_neg c_131, if_neg c_141]; done)) (by exact nI_1 _) _ _ _ ((fr25 mb (by omega) (by omega)).trans mL70_0) g23 g24 (fun q n0 n1 n2 => ((fr25 q n1 n2).trans (fL70 q n0 n1 n2))) hP hS ls (lv_sub hl [2, 1, 0] rfl)
                      · skip
                        refine lv_bipush (v := (-2)) hx hb dX13_opened_123 (by decide) ?_
                        exact q_wzret X hr hlocks hP hS (rfl) ⟨_, (by rw [← hB9, show nz - u = (nz - (u + 1)) + 1 by omega, opdS]; rw [if_neg (show ¬ opK (s_X13_costBy nc (upd mv 2 0) costF) (fun x => boS x.toBitVec.toNat x) (nI u) b = 0 from (by rw [opK]; first | (rw [if_pos c_29]; decide) | (rw [if_neg c_29, if_pos c_38]) | (rw [if_neg c_29, if_neg c_38, if_pos c_47, if_pos c_58]; decide) | (rw [if_neg c_29, if_neg c_38, if_pos c_47, if_neg c_58]) | (rw [if_neg c_29, if_neg c_38, if_neg c_47]; decide))), if_neg c_120]), mL70_0, mL70_1, mL70_2, (fun q n0 n1 n2 => (fL70 q n0 n1 n2))⟩ dX13_opened_125
                    · skip
                      rw [k1] at c_78; have h8 := lt_of_nlt c_78 (by omega) hc
                      refine lv_iload hx hb dX13_opened_81 (lv_at hl 3 rfl) ?_
                      refine lv_iload_n hx hb dX13_opened_83 rfl (lv_at hl 2 rfl) ?_
                      refine lv_iload hx hb dX13_opened_84 (lv_at hl 4 rfl) ?_
                      refine lv_ishr hx hb dX13_opened_86 ?_
                      refine lv_iconst (v := 1) hx hb dX13_opened_87 (by decide) ?_
                      refine lv_iand hx hb dX13_opened_88 ?_
                      refine lv_iconst (v := 1) hx hb dX13_opened_89 (by decide) ?_
                      refine lv_icmp_ne (tgt := 103) hx hb dX13_opened_90 (by decide) (fun c_90 => ?_) (fun c_90 => ?_)
                      · skip
                        refine lv_iconst (v := 0) hx hb dX13_opened_103 (by decide) ?_
                        refine lv_ior hx hb dX13_opened_104 ?_
                        refine lv_istore (lv' := [(4, .int ((thS (fun c => s_X13_sumAt nt kindF heavyF wideF hotF placeF (nI c) 5) (nI u) c1) ||| 0)), (0, .ref (ad mb)), (1, .int b), (2, .int (nI u)), (5, .int (nI c1))]) hx hb dX13_opened_105 hl (by decide) rfl (fun ls hl => ?_)
                        refine lv_iinc (v := ((nI c1) + 1)) (lv' := [(5, .int ((nI c1) + 1)), (4, .int ((thS (fun c => s_X13_sumAt nt kindF heavyF wideF hotF placeF (nI c) 5) (nI u) c1) ||| 0)), (0, .ref (ad mb)), (1, .int b), (2, .int (nI u))]) hx hb dX13_opened_107 hl (k := 4) rfl rfl (by decide) rfl (fun ls hl => ?_)
                        refine lv_goto (tgt := 70) hx hb dX13_opened_110 (by decide) ?_
                        exact ih_70 (c1 + 1) ((thS (fun c => s_X13_sumAt nt kindF heavyF wideF hotF placeF (nI c) 5) (nI u) c1) ||| 0) ((nI c1) + 1) (by omega) (by omega) (by rw [thS]; first | (rw [if_pos c_90]; done) | (rw [if_neg c_90]; done)) (by exact nI_1 _) _ _ _ mL70_0 mL70_1 mL70_2 (fun q n0 n1 n2 => (fL70 q n0 n1 n2)) hP hS ls (lv_sub hl [2, 3, 4, 1, 0] rfl)
                      · skip
                        refine lv_aload_n hx hb dX13_opened_93 rfl (lv_at hl 0 rfl) ?_
                        refine lv_iload hx hb dX13_opened_94 (lv_at hl 4 rfl) ?_
                        refine lv_iconst (v := 5) hx hb dX13_opened_96 (by decide) ?_
                        refine q_rdV (As := [.int (nI c1), .int 5]) (rest := [.int (thS (fun c => s_X13_sumAt nt kindF heavyF wideF hotF placeF (nI c) 5) (nI u) c1)]) (c_X13_sumAt l D cB cI cJ ad n ML70 mb nt nc np nq (upd mv 2 0) toldF kindF heavyF wideF hotF placeF (nI c1) 5 h_mb h_mb_3 h_mb_12 h_mb_13 h_mb_15 h_mb_17 h_mb_18 mL70_0 ((fL70 (mb + 3) (by omega) (by omega) (by omega)).trans m_mb_3) ((fL70 (mb + 12) (by omega) (by omega) (by omega)).trans m_mb_12) ((fL70 (mb + 13) (by omega) (by omega) (by omega)).trans m_mb_13) ((fL70 (mb + 15) (by omega) (by omega) (by omega)).trans m_mb_15) ((fL70 (mb + 17) (by omega) (by omega) (by omega)).trans m_mb_17) mL70_1 k0 hnp k1 hnc k2 hnt k3 hnq) X hK hP hS hl.1 rfl gX13_opened_X13_sumAt yd_X13_sumAt ⟨Nat.le_of_ble_eq_true rfl, Nat.le_of_ble_eq_true rfl⟩ h_mb mL70_0 (ci := 12) rfl rfl (Nat.le_of_ble_eq_true rfl) ⟨Nat.zero_le _, Nat.zero_le _⟩ dX13_opened_97 ?_
                        refine lv_goto (tgt := 104) hx hb dX13_opened_100 (by decide) ?_
                        refine lv_ior hx hb dX13_opened_104 ?_
                        refine lv_istore (lv' := [(4, .int ((thS (fun c => s_X13_sumAt nt kindF heavyF wideF hotF placeF (nI c) 5) (nI u) c1) ||| (s_X13_sumAt nt kindF heavyF wideF hotF placeF (nI c1) 5))), (0, .ref (ad mb)), (1, .int b), (2, .int (nI u)), (5, .int (nI c1))]) hx hb dX13_opened_105 hl (by decide) rfl (fun ls hl => ?_)
                        refine lv_iinc (v := ((nI c1) + 1)) (lv' := [(5, .int ((nI c1) + 1)), (4, .int ((thS (fun c => s_X13_sumAt nt kindF heavyF wideF hotF placeF (nI c) 5) (nI u) c1) ||| (s_X13_sumAt nt kindF heavyF wideF hotF placeF (nI c1) 5))), (0, .ref (ad mb)), (1, .int b), (2, .int (nI u))]) hx hb dX13_opened_107 hl (k := 4) rfl rfl (by decide) rfl (fun ls hl => ?_)
                        refine lv_goto (tgt := 70) hx hb dX13_opened_110 (by decide) ?_
                        exact ih_70 (c1 + 1) ((thS (fun c => s_X13_sumAt nt kindF heavyF wideF hotF placeF (nI c) 5) (nI u) c1) ||| (s_X13_sumAt nt kindF heavyF wideF hotF placeF (nI c1) 5)) ((nI c1) + 1) (by omega) (by omega) (by rw [thS]; first | (rw [if_pos c_90]; done) | (rw [if_neg c_90]; done)) (by exact nI_1 _) _ _ _ mL70_0 mL70_1 mL70_2 (fun q n0 n1 n2 => (fL70 q n0 n1 n2)) hP hS ls (lv_sub hl [2, 3, 4, 1, 0] rfl)
                exact loop_70 (nc + 1) 0 0 0 (by omega) (by exact Nat.zero_le _) (by rfl) (by rfl) _ _ _ mL9_0 mL9_1 mL9_2 (fun q n0 n1 n2 => (fL9 q n0 n1 n2)) hP hS ls (lv_sub hl [3, 4, 5, 1, 0] rfl)
              · skip
                refine lv_goto (tgt := 146) hx hb dX13_opened_61 (by decide) ?_
                refine lv_iinc (v := ((nI u) + 1)) (lv' := [(2, .int ((nI u) + 1)), (3, .int (s_X13_costBy nc (upd mv 2 0) costF (nI u))), (0, .ref (ad mb)), (1, .int b)]) hx hb dX13_opened_146 hl (k := 3) rfl rfl (by decide) rfl (fun ls hl => ?_)
                refine lv_goto (tgt := 9) hx hb dX13_opened_149 (by decide) ?_
                exact ih_9 (u + 1) b wF ((nI u) + 1) (by omega) (by omega) (by rw [← hB9, show nz - u = (nz - (u + 1)) + 1 by omega, opdS]; first | (rw [if_pos (show opK (s_X13_costBy nc (upd mv 2 0) costF) (fun x => boS x.toBitVec.toNat x) (nI u) b = 0 from (by rw [opK]; first | (rw [if_pos c_29]; decide) | (rw [if_neg c_29, if_pos c_38]) | (rw [if_neg c_29, if_neg c_38, if_pos c_47, if_pos c_58]; decide) | (rw [if_neg c_29, if_neg c_38, if_pos c_47, if_neg c_58]) | (rw [if_neg c_29, if_neg c_38, if_neg c_47]; decide)))]; done) | (rw [if_neg (show ¬ opK (s_X13_costBy nc (upd mv 2 0) costF) (fun x => boS x.toBitVec.toNat x) (nI u) b = 0 from (by rw [opK]; first | (rw [if_pos c_29]; decide) | (rw [if_neg c_29, if_pos c_38]) | (rw [if_neg c_29, if_neg c_38, if_pos c_47, if_pos c_58]; decide) | (rw [if_neg c_29, if_neg c_38, if_pos c_47, if_neg c_58]) | (rw [if_neg c_29, if_neg c_38, if_neg c_47]; decide))), if_pos c_120, if_pos c_131]; done) | (rw [if_neg (show ¬ opK (s_X13_costBy nc (upd mv 2 0) costF) (fun x => boS x.toBitVec.toNat x) (nI u) b = 0 from (by rw [opK]; first | (rw [if_pos c_29]; decide) | (rw [if_neg c_29, if_pos c_38]) | (rw [if_neg c_29, if_neg c_38, if_pos c_47, if_pos c_58]; decide) | (rw [if_neg c_29, if_neg c_38, if_pos c_47, if_neg c_58]) | (rw [if_neg c_29, if_neg c_38, if_neg c_47]; decide))), if_pos c_120, if_neg c_131, if_pos c_141]; done) | (rw [if_neg (show ¬ opK (s_X13_costBy nc (upd mv 2 0) costF) (fun x => boS x.toBitVec.toNat x) (nI u) b = 0 from (by rw [opK]; first | (rw [if_pos c_29]; decide) | (rw [if_neg c_29, if_pos c_38]) | (rw [if_neg c_29, if_neg c_38, if_pos c_47, if_pos c_58]; decide) | (rw [if_neg c_29, if_neg c_38, if_pos c_47, if_neg c_58]) | (rw [if_neg c_29, if_neg c_38, if_neg c_47]; decide))), if_pos c_120, if_neg c_131, if_neg c_141]; done)) (by exact nI_1 _) _ _ _ mL9_0 mL9_1 mL9_2 (fun q n0 n1 n2 => (fL9 q n0 n1 n2)) hP hS ls (lv_sub hl [2, 3, 0] rfl)
  exact loop_9 (33) 0 (-1) placeWasF 0 (by omega) (by exact Nat.zero_le _) (by rfl) (by rfl) _ _ _ (va_up_self M mb (.inr (12, modF ad mb (upd mv 2 0)))) ((va_up_ne M (.inr (12, modF ad mb (upd mv 2 0))) (show mb + 18 ≠ mb by omega)).trans m_mb_18) ((va_up_ne M (.inr (12, modF ad mb (upd mv 2 0))) (show mb + 29 ≠ mb by omega)).trans m_mb_29) (fun q n0 n1 n2 => (va_up_ne _ _ n0)) hP hS ls (lv_sub hl [2, 1, 0] rfl)
end
