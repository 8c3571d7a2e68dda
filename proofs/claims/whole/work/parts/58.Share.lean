/-! PoundsOverModel: shares of what is carried *-/
noncomputable section
def zrF (f : Nat → Int32) (t : Nat) : Nat → Int32 := fun q => if q < t then 0 else f q
theorem zrF_0 (f : Nat → Int32) : zrF f 0 = f := by funext q; exact if_neg (Nat.not_lt_zero q)
theorem zrF_s (f : Nat → Int32) (t : Nat) : upd (zrF f t) t 0 = zrF f (t + 1) := by
  funext q
  simp only [upd, zrF]
  (repeat' split) <;> first | rfl | (exfalso; omega)
def lsS (np nc : Nat) (w : Nat → Int32) (r : Nat) (f : Nat → Int32) : Nat → (Nat → Int32)
  | 0 => f
  | j + 1 => upd (lsS np nc w r f j) (r / np ^ j % np) (lsS np nc w r f j (r / np ^ j % np) + w (nc - 1 - j))
def moR (ld own : Nat → Int32) : Nat → Int32
  | 0 => 0
  | t + 1 => imax (moR ld own t) (ld t * 1000 / own t)
def moX (np nc : Nat) (w own : Nat → Int32) (r : Nat) : Int32 := moR (lsS np nc w r (fun _ => 0) nc) own np
def shS (m : Nat → Int32) : Nat → Int32 × Nat
  | 0 => (-1, 0)
  | r + 1 => if (shS m r).1 = -1 then (m r, r) else if m r < (shS m r).1 then (m r, r) else shS m r
def caS (np nc row : Nat) (f : Nat → Int32) : Nat → (Nat → Int32)
  | 0 => f
  | j + 1 => upd (caS np nc row f j) (nc - 1 - j) (nI (row / np ^ j % np))
theorem lsS_ag {np nc r : Nat} {w f g : Nat → Int32} (h : ∀ q : Nat, q < np → f q = g q) (h0 : 0 < np) : ∀ j q : Nat, q < np → lsS np nc w r f j q = lsS np nc w r g j q
  | 0, q, hq => h q hq
  | j + 1, q, hq => by
    have h1 := Nat.mod_lt (r / np ^ j) h0
    rw [lsS, lsS]
    simp only [upd]
    rw [lsS_ag h h0 j _ h1]
    split
    · rfl
    · exact lsS_ag h h0 j q hq
theorem moR_ag {f g own : Nat → Int32} : ∀ t : Nat, (∀ q : Nat, q < t → f q = g q) → moR f own t = moR g own t
  | 0, _ => rfl
  | t + 1, h => by rw [moR, moR, moR_ag t (fun q hq => h q (by omega)), h t (by omega)]
theorem moX_eq {np nc r : Nat} {w own f : Nat → Int32} (h0 : 0 < np) : moR (lsS np nc w r (zrF f np) nc) own np = moX np nc w own r :=
  moR_ag np (fun q hq => lsS_ag (fun q hq => if_pos hq) h0 nc q hq)
theorem dv_s (a b j : Nat) : a / b ^ j / b = a / b ^ (j + 1) := by rw [Nat.div_div_eq_div_mul, Nat.pow_succ]
theorem dn_neg {k : Nat} (hk : k < 2 ^ 30) : (nI k - 1 < 0) ↔ k = 0 := by
  constructor
  · intro h
    cases k with
    | zero => rfl
    | succ k => rw [nI_pred] at h; exact absurd h (nI_pos (by omega))
  · intro h; subst h; decide
theorem shS_lt {m : Nat → Int32} : ∀ r : Nat, (shS m r).2 ≤ r
  | 0 => Nat.le_refl _
  | r + 1 => by
    have := shS_lt (m := m) r
    rw [shS]
    (repeat' split) <;> first | exact Nat.le_succ r | exact Nat.le_succ_of_le this
set_option maxRecDepth 20000 in
theorem fX13_share_173 : FL wsX13_share RX13 173 12 2 := ⟨RX13, TX13, 67, rfl, by decide +kernel, by decide, by decide +kernel⟩
set_option maxRecDepth 20000 in
theorem fX13_share_40 : FL wsX13_share RX13 40 12 3 := ⟨RX13, TX13, 67, rfl, by decide +kernel, by decide, by decide +kernel⟩
set_option maxRecDepth 20000 in
theorem fX13_share_340 : FL wsX13_share RX13 340 12 53 := ⟨RX13, TX13, 67, rfl, by decide +kernel, by decide, by decide +kernel⟩
set_option maxRecDepth 20000 in
theorem fX13_share_140 : FL wsX13_share RX13 140 12 51 := ⟨RX13, TX13, 67, rfl, by decide +kernel, by decide, by decide +kernel⟩
set_option maxRecDepth 20000 in
theorem fX13_share_143 : FL wsX13_share RX13 143 12 52 := ⟨RX13, TX13, 67, rfl, by decide +kernel, by decide, by decide +kernel⟩
set_option maxRecDepth 20000 in
theorem fX13_share_44 : FL wsX13_share RX13 44 12 4 := ⟨RX13, TX13, 67, rfl, by decide +kernel, by decide, by decide +kernel⟩
set_option maxHeartbeats 4000000 in
set_option maxRecDepth 100000 in
theorem c_X13_share (l : Launch) (D : va_G) (cB cI cJ : ClassId) (ad : Nat → Nat) (n : Nat) (M : Nat → va_E) (hI : ipI ad n) (mb : Nat) (nt : Nat) (nc : Nat) (np : Nat) (nq : Nat) (mv : Nat → Int32) (toldF : Nat → Int32) (ownF : Nat → Int32) (kindF : Nat → Int32) (heavyF : Nat → Int32) (wideF : Nat → Int32) (hotF : Nat → Int32) (placeF : Nat → Int32) (carrierOfF : Nat → Int32) (loadF : Nat → Int32) (h_mb : mb < n) (h_mb_3 : mb + 3 < n) (h_mb_4 : mb + 4 < n) (h_mb_12 : mb + 12 < n) (h_mb_13 : mb + 13 < n) (h_mb_15 : mb + 15 < n) (h_mb_17 : mb + 17 < n) (h_mb_18 : mb + 18 < n) (h_mb_34 : mb + 34 < n) (h_mb_35 : mb + 35 < n) (m_mb : M mb = .inr (12, modF ad mb mv)) (m_mb_3 : M (mb + 3) = .inl (cI, 14, .inl toldF)) (m_mb_4 : M (mb + 4) = .inl (cI, 8, .inl ownF)) (m_mb_12 : M (mb + 12) = .inl (cI, 24, .inl kindF)) (m_mb_13 : M (mb + 13) = .inl (cI, 24, .inl heavyF)) (m_mb_15 : M (mb + 15) = .inl (cI, 24, .inl wideF)) (m_mb_17 : M (mb + 17) = .inl (cI, 24, .inl hotF)) (m_mb_18 : M (mb + 18) = .inl (cI, 24, .inl placeF)) (m_mb_34 : M (mb + 34) = .inl (cI, 5, .inl carrierOfF)) (m_mb_35 : M (mb + 35) = .inl (cI, 4, .inl loadF)) (k0 : toldF 0 = nI np) (hnp : np ≤ 4) (k1 : toldF 1 = nI nc) (hnc : nc ≤ 5) (k2 : toldF 2 = nI nt) (hnt : nt ≤ 12) (k3 : toldF 3 = nI nq) (hnq : nq ≤ 6) (h0p : 0 < np) (how : ∀ t : Nat, t < np → ¬ ownF t = 0) : cWi l D cB cI cJ ad n M yX13_share wsX13_share 1 25 [.ref (ad mb)] (fun r M' => ∃ (v0 : Nat → Int32), r = (shS (moX np nc (fun c => s_X13_sumAt nt kindF heavyF wideF hotF placeF (nI c) 1) ownF) (np ^ nc)).1 ∧ M' mb = .inr (12, modF ad mb ((upd (upd mv 2 0) 53 1))) ∧ M' (mb + 34) = .inl (cI, 5, .inl (caS np nc (shS (moX np nc (fun c => s_X13_sumAt nt kindF heavyF wideF hotF placeF (nI c) 1) ownF) (np ^ nc)).2 carrierOfF nc)) ∧ M' (mb + 35) = .inl (cI, 4, .inl v0) ∧ ∀ q : Nat, q ≠ mb → q ≠ mb + 34 → q ≠ mb + 35 → M' q = M q) := by
  refine q_body (cc := cX13_share) (maxL := 8) (ret := (some .int)) (by decide) rfl (Nat.le_of_ble_eq_true rfl) ?_
  intro p e s m args below meth c ls X hr hlocks hK hP hl
  obtain ⟨hx, hb, hml, hown, hts⟩ := id X
  have hS : va_S (ipA ad n) s.heap s.heap [] := va_S.rf
  have hl : lv_has ls 8 [(0, .ref (ad mb))] := hl
  have hpw : np ^ nc ≤ 1024 := Nat.le_trans (Nat.pow_le_pow_left hnp nc) (Nat.le_trans (Nat.pow_le_pow_right (by decide) hnc) (by decide))
  have hpp : ∀ t : Nat, 0 < np ^ t := fun t => Nat.pow_pos h0p
  have hsl : (shS (moX np nc (fun c => s_X13_sumAt nt kindF heavyF wideF hotF placeF (nI c) 1) ownF) (np ^ nc)).2 ≤ np ^ nc := shS_lt _
  refine lv_aload_n hx hb dX13_share_0 rfl (lv_at hl 0 rfl) ?_
  refine lv_iconst (v := 0) hx hb dX13_share_1 (by decide) ?_
  refine q_put (fs := modF ad mb mv) (fs' := modF ad mb (upd mv 2 0)) X hK hI hP hS fX13_share_173 fw_12_2 h_mb m_mb rfl rfl (Nat.le_of_ble_eq_true rfl) rfl dX13_share_2 (fun H locs hP hS => ?_)
  refine lv_aload_n hx hb dX13_share_5 rfl (lv_at hl 0 rfl) ?_
  refine q_get (v := .ref (ad (mb + 3))) (fs := modF ad mb (upd mv 2 0)) X hK hP fX13_share_40 h_mb (va_up_self M mb (.inr (12, modF ad mb (upd mv 2 0)))) rfl dX13_share_6 ?_
  refine lv_iconst (v := 0) hx hb dX13_share_9 (by decide) ?_
  refine q_ialdN (f := toldF) (k := 14) X hK hP 0 h_mb_3 ((va_up_ne M (.inr (12, modF ad mb (upd mv 2 0))) (show mb + 3 ≠ mb by omega)).trans m_mb_3) (by decide) (by decide) dX13_share_10 ?_
  refine lv_if_ne (tgt := 16) hx hb dX13_share_11 (by decide) (fun c_11 => ?_) (fun c_11 => ?_)
  · skip
    refine lv_iconst (v := 1) hx hb dX13_share_16 (by decide) ?_
    refine lv_istore_n (lv' := [(1, .int 1), (0, .ref (ad mb))]) hx hb dX13_share_17 rfl hl (by decide) rfl (fun ls hl => ?_)
    refine lv_iconst (v := 0) hx hb dX13_share_18 (by decide) ?_
    refine lv_istore_n (lv' := [(2, .int 0), (1, .int 1), (0, .ref (ad mb))]) hx hb dX13_share_19 rfl hl (by decide) rfl (fun ls hl => ?_)
    have loop_20 : ∀ (fuel : Nat) (t : Nat) (x1 : Int32) (x2 : Int32), nc - t < fuel → (t ≤ nc) → x1 = nI (np ^ t) → x2 = nI t → ∀ (ML20 : Nat → va_E) (H : Heap) (locs : List Loc), ML20 mb = .inr (12, modF ad mb ((upd mv 2 0))) → (∀ q : Nat, q ≠ mb → ML20 q = M q) → va_P D vwCl (ip ad n ML20) H → va_S (ipA ad n) s.heap H locs → ∀ (ls : Array Slot), lv_has ls 8 [(0, .ref (ad mb)), (1, .int x1), (2, .int x2)] → W p l e (rmOf 1 25) s m args below meth c H locs 0 0 (MQ below (va_Qi (fun r M' => ∃ (v0 : Nat → Int32), r = (shS (moX np nc (fun c => s_X13_sumAt nt kindF heavyF wideF hotF placeF (nI c) 1) ownF) (np ^ nc)).1 ∧ M' mb = .inr (12, modF ad mb ((upd (upd mv 2 0) 53 1))) ∧ M' (mb + 34) = .inl (cI, 5, .inl (caS np nc (shS (moX np nc (fun c => s_X13_sumAt nt kindF heavyF wideF hotF placeF (nI c) 1) ownF) (np ^ nc)).2 carrierOfF nc)) ∧ M' (mb + 35) = .inl (cI, 4, .inl v0) ∧ ∀ q : Nat, q ≠ mb → q ≠ mb + 34 → q ≠ mb + 35 → M' q = M q) (fun M' t => va_P D vwCl (ip ad n M') t.heap) (ipA ad n)) args s 0 0 (ipA ad n)) (F0 m 20 ls []) := by
      intro fuel
      induction fuel with
      | zero =>
        intro t x1 x2 hz
        exact absurd hz (Nat.not_lt_zero _)
      | succ fuel ih_20 =>
        intro t x1 x2 hz_20 ht e1 e2 ML20 H locs mL20_0 fL20 hP hS ls hl
        subst e1
        subst e2
        skip
        refine lv_iload_n hx hb dX13_share_20 rfl (lv_at hl 2 rfl) ?_
        refine lv_aload_n hx hb dX13_share_21 rfl (lv_at hl 0 rfl) ?_
        refine q_get (v := .ref (ad (mb + 3))) (fs := modF ad mb ((upd mv 2 0))) X hK hP fX13_share_40 h_mb mL20_0 rfl dX13_share_22 ?_
        refine lv_iconst (v := 1) hx hb dX13_share_25 (by decide) ?_
        refine q_ialdN (f := toldF) (k := 14) X hK hP 1 h_mb_3 ((fL20 (mb + 3) (by omega)).trans m_mb_3) (by decide) (by decide) dX13_share_26 ?_
        refine lv_icmp_ge (tgt := 45) hx hb dX13_share_27 (by decide) (fun c_27 => ?_) (fun c_27 => ?_)
        · skip
          rw [k1] at c_27; have h9 : t = nc := eq_of_le c_27 (by omega) ht
          rw [show nI (np ^ t) = (nI (np ^ nc)) from (by rw [h9])] at hl
          refine lv_iconst (v := (-1)) hx hb dX13_share_45 (by decide) ?_
          refine lv_istore_n (lv' := [(2, .int (-1)), (0, .ref (ad mb)), (1, .int (nI (np ^ nc)))]) hx hb dX13_share_46 rfl hl (by decide) rfl (fun ls hl => ?_)
          refine lv_iconst (v := 0) hx hb dX13_share_47 (by decide) ?_
          refine lv_istore_n (lv' := [(3, .int 0), (2, .int (-1)), (0, .ref (ad mb)), (1, .int (nI (np ^ nc)))]) hx hb dX13_share_48 rfl hl (by decide) rfl (fun ls hl => ?_)
          refine lv_iconst (v := 0) hx hb dX13_share_49 (by decide) ?_
          refine lv_istore (lv' := [(4, .int 0), (3, .int 0), (2, .int (-1)), (0, .ref (ad mb)), (1, .int (nI (np ^ nc)))]) hx hb dX13_share_50 hl (by decide) rfl (fun ls hl => ?_)
          have loop_52 : ∀ (fuel : Nat) (r : Nat) (ldF : Nat → Int32) (x2 : Int32) (x3 : Int32) (x4 : Int32), (np ^ nc) - r < fuel → (r ≤ (np ^ nc)) → x2 = (shS (moX np nc (fun c => s_X13_sumAt nt kindF heavyF wideF hotF placeF (nI c) 1) ownF) r).1 → x3 = nI (shS (moX np nc (fun c => s_X13_sumAt nt kindF heavyF wideF hotF placeF (nI c) 1) ownF) r).2 → x4 = nI r → ∀ (ML52 : Nat → va_E) (H : Heap) (locs : List Loc), ML52 mb = .inr (12, modF ad mb ((upd mv 2 0))) → ML52 (mb + 35) = .inl (cI, 4, .inl ldF) → (∀ q : Nat, q ≠ mb → q ≠ mb + 35 → ML52 q = M q) → va_P D vwCl (ip ad n ML52) H → va_S (ipA ad n) s.heap H locs → ∀ (ls : Array Slot), lv_has ls 8 [(0, .ref (ad mb)), (1, .int (nI (np ^ nc))), (2, .int x2), (3, .int x3), (4, .int x4)] → W p l e (rmOf 1 25) s m args below meth c H locs 0 0 (MQ below (va_Qi (fun r M' => ∃ (v0 : Nat → Int32), r = (shS (moX np nc (fun c => s_X13_sumAt nt kindF heavyF wideF hotF placeF (nI c) 1) ownF) (np ^ nc)).1 ∧ M' mb = .inr (12, modF ad mb ((upd (upd mv 2 0) 53 1))) ∧ M' (mb + 34) = .inl (cI, 5, .inl (caS np nc (shS (moX np nc (fun c => s_X13_sumAt nt kindF heavyF wideF hotF placeF (nI c) 1) ownF) (np ^ nc)).2 carrierOfF nc)) ∧ M' (mb + 35) = .inl (cI, 4, .inl v0) ∧ ∀ q : Nat, q ≠ mb → q ≠ mb + 34 → q ≠ mb + 35 → M' q = M q) (fun M' t => va_P D vwCl (ip ad n M') t.heap) (ipA ad n)) args s 0 0 (ipA ad n)) (F0 m 52 ls []) := by
            intro fuel
            induction fuel with
            | zero =>
              intro r ldF x2 x3 x4 hz
              exact absurd hz (Nat.not_lt_zero _)
            | succ fuel ih_52 =>
              intro r ldF x2 x3 x4 hz_52 hr9 e2 e3 e4 ML52 H locs mL52_0 mL52_1 fL52 hP hS ls hl
              subst e2
              subst e3
              subst e4
              skip
              refine lv_iload hx hb dX13_share_52 (lv_at hl 4 rfl) ?_
              refine lv_iload_n hx hb dX13_share_54 rfl (lv_at hl 1 rfl) ?_
              refine lv_icmp_ge (tgt := 221) hx hb dX13_share_55 (by decide) (fun c_55 => ?_) (fun c_55 => ?_)
              · skip
                have h9 : r = (np ^ nc) := eq_of_le c_55 (by omega) hr9
                rw [show (shS (moX np nc (fun c => s_X13_sumAt nt kindF heavyF wideF hotF placeF (nI c) 1) ownF) r).1 = (shS (moX np nc (fun c => s_X13_sumAt nt kindF heavyF wideF hotF placeF (nI c) 1) ownF) (np ^ nc)).1 from (by rw [h9])] at hl
                rw [show nI (shS (moX np nc (fun c => s_X13_sumAt nt kindF heavyF wideF hotF placeF (nI c) 1) ownF) r).2 = (nI (shS (moX np nc (fun c => s_X13_sumAt nt kindF heavyF wideF hotF placeF (nI c) 1) ownF) (np ^ nc)).2) from (by rw [h9])] at hl
                refine lv_aload_n hx hb dX13_share_221 rfl (lv_at hl 0 rfl) ?_
                refine lv_iconst (v := 1) hx hb dX13_share_222 (by decide) ?_
                refine q_put (fs := modF ad mb ((upd mv 2 0))) (fs' := modF ad mb (upd ((upd mv 2 0)) 53 1)) X hK hI hP hS fX13_share_340 fw_12_53 h_mb mL52_0 rfl rfl (Nat.le_of_ble_eq_true rfl) rfl dX13_share_223 (fun H locs hP hS => ?_)
                refine lv_aload_n hx hb dX13_share_226 rfl (lv_at hl 0 rfl) ?_
                refine q_get (v := .ref (ad (mb + 3))) (fs := modF ad mb (upd ((upd mv 2 0)) 53 1)) X hK hP fX13_share_40 h_mb (va_up_self ML52 mb (.inr (12, modF ad mb (upd ((upd mv 2 0)) 53 1)))) rfl dX13_share_227 ?_
                refine lv_iconst (v := 1) hx hb dX13_share_230 (by decide) ?_
                refine q_ialdN (f := toldF) (k := 14) X hK hP 1 h_mb_3 ((va_up_ne ML52 (.inr (12, modF ad mb (upd ((upd mv 2 0)) 53 1))) (show mb + 3 ≠ mb by omega)).trans ((fL52 (mb + 3) (by omega) (by omega)).trans m_mb_3)) (by decide) (by decide) dX13_share_231 ?_
                refine lv_iconst (v := 1) hx hb dX13_share_232 (by decide) ?_
                refine lv_isub hx hb dX13_share_233 ?_
                refine lv_istore (lv' := [(4, .int ((toldF 1) - 1)), (0, .ref (ad mb)), (1, .int (nI (np ^ nc))), (2, .int ((shS (moX np nc (fun c => s_X13_sumAt nt kindF heavyF wideF hotF placeF (nI c) 1) ownF) (np ^ nc)).1)), (3, .int (nI (shS (moX np nc (fun c => s_X13_sumAt nt kindF heavyF wideF hotF placeF (nI c) 1) ownF) (np ^ nc)).2))]) hx hb dX13_share_234 hl (by decide) rfl (fun ls hl => ?_)
                have loop_236 : ∀ (fuel : Nat) (j : Nat) (x3 : Int32) (x4 : Int32), nc - j < fuel → (j ≤ nc) → x3 = nI ((shS (moX np nc (fun c => s_X13_sumAt nt kindF heavyF wideF hotF placeF (nI c) 1) ownF) (np ^ nc)).2 / np ^ j) → x4 = nI (nc - j) - 1 → ∀ (ML236 : Nat → va_E) (H : Heap) (locs : List Loc), ML236 mb = .inr (12, modF ad mb ((upd (upd mv 2 0) 53 1))) → ML236 (mb + 35) = .inl (cI, 4, .inl ldF) → ML236 (mb + 34) = .inl (cI, 5, .inl (caS np nc (shS (moX np nc (fun c => s_X13_sumAt nt kindF heavyF wideF hotF placeF (nI c) 1) ownF) (np ^ nc)).2 carrierOfF j)) → (∀ q : Nat, q ≠ mb → q ≠ mb + 35 → q ≠ mb + 34 → ML236 q = M q) → va_P D vwCl (ip ad n ML236) H → va_S (ipA ad n) s.heap H locs → ∀ (ls : Array Slot), lv_has ls 8 [(0, .ref (ad mb)), (2, .int ((shS (moX np nc (fun c => s_X13_sumAt nt kindF heavyF wideF hotF placeF (nI c) 1) ownF) (np ^ nc)).1)), (3, .int x3), (4, .int x4)] → W p l e (rmOf 1 25) s m args below meth c H locs 0 0 (MQ below (va_Qi (fun r M' => ∃ (v0 : Nat → Int32), r = (shS (moX np nc (fun c => s_X13_sumAt nt kindF heavyF wideF hotF placeF (nI c) 1) ownF) (np ^ nc)).1 ∧ M' mb = .inr (12, modF ad mb ((upd (upd mv 2 0) 53 1))) ∧ M' (mb + 34) = .inl (cI, 5, .inl (caS np nc (shS (moX np nc (fun c => s_X13_sumAt nt kindF heavyF wideF hotF placeF (nI c) 1) ownF) (np ^ nc)).2 carrierOfF nc)) ∧ M' (mb + 35) = .inl (cI, 4, .inl v0) ∧ ∀ q : Nat, q ≠ mb → q ≠ mb + 34 → q ≠ mb + 35 → M' q = M q) (fun M' t => va_P D vwCl (ip ad n M') t.heap) (ipA ad n)) args s 0 0 (ipA ad n)) (F0 m 236 ls []) := by
                  intro fuel
                  induction fuel with
                  | zero =>
                    intro j x3 x4 hz
                    exact absurd hz (Nat.not_lt_zero _)
                  | succ fuel ih_236 =>
                    intro j x3 x4 hz_236 hj e3 e4 ML236 H locs mL236_0 mL236_1 mL236_2 fL236 hP hS ls hl
                    subst e3
                    subst e4
                    skip
                    refine lv_iload hx hb dX13_share_236 (lv_at hl 3 rfl) ?_
                    refine lv_if_lt (tgt := 271) hx hb dX13_share_238 (by decide) (fun c_238 => ?_) (fun c_238 => ?_)
                    · skip
                      have hj8 : nc - j = 0 := (dn_neg (by omega)).mp c_238; have hj9 : j = nc := (by omega)
                      refine lv_iload_n hx hb dX13_share_271 rfl (lv_at hl 1 rfl) ?_
                      exact q_wzret X hr hlocks hP hS (rfl) ⟨ldF, (by rfl), mL236_0, (by subst hj9; exact mL236_2), mL236_1, (fun q n0 n1 n2 => (fL236 q n0 n2 n1))⟩ dX13_share_272
                    · skip
                      have hj8 : ¬ nc - j = 0 := fun q => c_238 ((dn_neg (by omega)).mpr q)
                      rw [show nI (nc - j) - 1 = (nI (nc - 1 - j)) from (by rw [show nc - j = (nc - 1 - j) + 1 by omega, nI_pred])] at hl
                      refine lv_aload_n hx hb dX13_share_241 rfl (lv_at hl 0 rfl) ?_
                      refine q_get (v := .ref (ad (mb + 34))) (fs := modF ad mb ((upd (upd mv 2 0) 53 1))) X hK hP fX13_share_140 h_mb mL236_0 rfl dX13_share_242 ?_
                      refine lv_iload hx hb dX13_share_245 (lv_at hl 3 rfl) ?_
                      refine lv_iload_n hx hb dX13_share_247 rfl (lv_at hl 2 rfl) ?_
                      refine lv_aload_n hx hb dX13_share_248 rfl (lv_at hl 0 rfl) ?_
                      refine q_get (v := .ref (ad (mb + 3))) (fs := modF ad mb ((upd (upd mv 2 0) 53 1))) X hK hP fX13_share_40 h_mb mL236_0 rfl dX13_share_249 ?_
                      refine lv_iconst (v := 0) hx hb dX13_share_252 (by decide) ?_
                      refine q_ialdN (f := toldF) (k := 14) X hK hP 0 h_mb_3 ((fL236 (mb + 3) (by omega) (by omega) (by omega)).trans m_mb_3) (by decide) (by decide) dX13_share_253 ?_
                      refine lv_irem hx hb dX13_share_254 (by rw [k0]; exact nI_ne0 h0p (by omega)) ?_
                      refine q_iastN (f := (caS np nc (shS (moX np nc (fun c => s_X13_sumAt nt kindF heavyF wideF hotF placeF (nI c) 1) ownF) (np ^ nc)).2 carrierOfF j)) (k := 5) X hK hI hP hS (nc - 1 - j) h_mb_34 mL236_2 (by omega) (by decide) dX13_share_255 (fun H locs hP hS => ?_)
                      refine lv_iload_n hx hb dX13_share_256 rfl (lv_at hl 2 rfl) ?_
                      refine lv_aload_n hx hb dX13_share_257 rfl (lv_at hl 0 rfl) ?_
                      refine q_get (v := .ref (ad (mb + 3))) (fs := modF ad mb ((upd (upd mv 2 0) 53 1))) X hK hP fX13_share_40 h_mb ((va_up_ne ML236 (.inl (cI, 5, .inl (upd (caS np nc (shS (moX np nc (fun c => s_X13_sumAt nt kindF heavyF wideF hotF placeF (nI c) 1) ownF) (np ^ nc)).2 carrierOfF j) (nc - 1 - j) ((nI ((shS (moX np nc (fun c => s_X13_sumAt nt kindF heavyF wideF hotF placeF (nI c) 1) ownF) (np ^ nc)).2 / np ^ j)) - (nI ((shS (moX np nc (fun c => s_X13_sumAt nt kindF heavyF wideF hotF placeF (nI c) 1) ownF) (np ^ nc)).2 / np ^ j)) / (toldF 0) * (toldF 0))))) (show mb ≠ mb + 34 by omega)).trans mL236_0) rfl dX13_share_258 ?_
                      refine lv_iconst (v := 0) hx hb dX13_share_261 (by decide) ?_
                      refine q_ialdN (f := toldF) (k := 14) X hK hP 0 h_mb_3 ((va_up_ne ML236 (.inl (cI, 5, .inl (upd (caS np nc (shS (moX np nc (fun c => s_X13_sumAt nt kindF heavyF wideF hotF placeF (nI c) 1) ownF) (np ^ nc)).2 carrierOfF j) (nc - 1 - j) ((nI ((shS (moX np nc (fun c => s_X13_sumAt nt kindF heavyF wideF hotF placeF (nI c) 1) ownF) (np ^ nc)).2 / np ^ j)) - (nI ((shS (moX np nc (fun c => s_X13_sumAt nt kindF heavyF wideF hotF placeF (nI c) 1) ownF) (np ^ nc)).2 / np ^ j)) / (toldF 0) * (toldF 0))))) (show mb + 3 ≠ mb + 34 by omega)).trans ((fL236 (mb + 3) (by omega) (by omega) (by omega)).trans m_mb_3)) (by decide) (by decide) dX13_share_262 ?_
                      refine lv_idiv hx hb dX13_share_263 (by rw [k0]; exact nI_ne0 h0p (by omega)) ?_
                      refine lv_istore_n (lv' := [(3, .int ((nI ((shS (moX np nc (fun c => s_X13_sumAt nt kindF heavyF wideF hotF placeF (nI c) 1) ownF) (np ^ nc)).2 / np ^ j)) / (toldF 0))), (0, .ref (ad mb)), (2, .int ((shS (moX np nc (fun c => s_X13_sumAt nt kindF heavyF wideF hotF placeF (nI c) 1) ownF) (np ^ nc)).1)), (4, .int (nI (nc - 1 - j)))]) hx hb dX13_share_264 rfl hl (by decide) rfl (fun ls hl => ?_)
                      refine lv_iinc (v := ((nI (nc - 1 - j)) + (-1))) (lv' := [(4, .int ((nI (nc - 1 - j)) + (-1))), (3, .int ((nI ((shS (moX np nc (fun c => s_X13_sumAt nt kindF heavyF wideF hotF placeF (nI c) 1) ownF) (np ^ nc)).2 / np ^ j)) / (toldF 0))), (0, .ref (ad mb)), (2, .int ((shS (moX np nc (fun c => s_X13_sumAt nt kindF heavyF wideF hotF placeF (nI c) 1) ownF) (np ^ nc)).1))]) hx hb dX13_share_265 hl (k := 3) rfl rfl (by decide) rfl (fun ls hl => ?_)
                      refine lv_goto (tgt := 236) hx hb dX13_share_268 (by decide) ?_
                      exact ih_236 (j + 1) ((nI ((shS (moX np nc (fun c => s_X13_sumAt nt kindF heavyF wideF hotF placeF (nI c) 1) ownF) (np ^ nc)).2 / np ^ j)) / (toldF 0)) ((nI (nc - 1 - j)) + (-1)) (by omega) (by omega) (by rw [k0, pk_div (by have := Nat.div_le_self (shS (moX np nc (fun c => s_X13_sumAt nt kindF heavyF wideF hotF placeF (nI c) 1) ownF) (np ^ nc)).2 (np ^ j); omega) h0p (by omega), dv_s]) (by rw [show nc - (j + 1) = nc - 1 - j by omega, Int32.sub_eq_add_neg]) _ _ _ ((va_up_ne ML236 (.inl (cI, 5, .inl (upd (caS np nc (shS (moX np nc (fun c => s_X13_sumAt nt kindF heavyF wideF hotF placeF (nI c) 1) ownF) (np ^ nc)).2 carrierOfF j) (nc - 1 - j) ((nI ((shS (moX np nc (fun c => s_X13_sumAt nt kindF heavyF wideF hotF placeF (nI c) 1) ownF) (np ^ nc)).2 / np ^ j)) - (nI ((shS (moX np nc (fun c => s_X13_sumAt nt kindF heavyF wideF hotF placeF (nI c) 1) ownF) (np ^ nc)).2 / np ^ j)) / (toldF 0) * (toldF 0))))) (show mb ≠ mb + 34 by omega)).trans mL236_0) ((va_up_ne ML236 (.inl (cI, 5, .inl (upd (caS np nc (shS (moX np nc (fun c => s_X13_sumAt nt kindF heavyF wideF hotF placeF (nI c) 1) ownF) (np ^ nc)).2 carrierOfF j) (nc - 1 - j) ((nI ((shS (moX np nc (fun c => s_X13_sumAt nt kindF heavyF wideF hotF placeF (nI c) 1) ownF) (np ^ nc)).2 / np ^ j)) - (nI ((shS (moX np nc (fun c => s_X13_sumAt nt kindF heavyF wideF hotF placeF (nI c) 1) ownF) (np ^ nc)).2 / np ^ j)) / (toldF 0) * (toldF 0))))) (show mb + 35 ≠ mb + 34 by omega)).trans mL236_1) (by refine (va_up_self ML236 (mb + 34) (.inl (cI, 5, .inl (upd (caS np nc (shS (moX np nc (fun c => s_X13_sumAt nt kindF heavyF wideF hotF placeF (nI c) 1) ownF) (np ^ nc)).2 carrierOfF j) (nc - 1 - j) ((nI ((shS (moX np nc (fun c => s_X13_sumAt nt kindF heavyF wideF hotF placeF (nI c) 1) ownF) (np ^ nc)).2 / np ^ j)) - (nI ((shS (moX np nc (fun c => s_X13_sumAt nt kindF heavyF wideF hotF placeF (nI c) 1) ownF) (np ^ nc)).2 / np ^ j)) / (toldF 0) * (toldF 0)))))).trans ?_; rw [caS, k0, pk_rem (show (shS (moX np nc (fun c => s_X13_sumAt nt kindF heavyF wideF hotF placeF (nI c) 1) ownF) (np ^ nc)).2 / np ^ j < 2 ^ 31 by have := Nat.div_le_self (shS (moX np nc (fun c => s_X13_sumAt nt kindF heavyF wideF hotF placeF (nI c) 1) ownF) (np ^ nc)).2 (np ^ j); omega) h0p (by omega)]) (fun q n0 n1 n2 => ((va_up_ne _ _ n2).trans (fL236 q n0 n1 n2))) hP hS ls (lv_sub hl [2, 3, 1, 0] rfl)
                exact loop_236 (nc + 1) 0 (nI (shS (moX np nc (fun c => s_X13_sumAt nt kindF heavyF wideF hotF placeF (nI c) 1) ownF) (np ^ nc)).2) ((toldF 1) - 1) (by omega) (by exact Nat.zero_le _) (by rw [Nat.pow_zero, Nat.div_one]) (by rw [k1, Nat.sub_zero]) _ _ _ (va_up_self ML52 mb (.inr (12, modF ad mb (upd ((upd mv 2 0)) 53 1)))) ((va_up_ne ML52 (.inr (12, modF ad mb (upd ((upd mv 2 0)) 53 1))) (show mb + 35 ≠ mb by omega)).trans mL52_1) ((va_up_ne ML52 (.inr (12, modF ad mb (upd ((upd mv 2 0)) 53 1))) (show mb + 34 ≠ mb by omega)).trans ((fL52 (mb + 34) (by omega) (by omega)).trans m_mb_34)) (fun q n0 n1 n2 => ((va_up_ne _ _ n0).trans (fL52 q n0 n1))) hP hS ls (lv_sub hl [1, 3, 4, 0] rfl)
              · skip
                have hr8 := lt_of_nlt c_55 (by omega) hr9
                refine lv_iconst (v := 0) hx hb dX13_share_58 (by decide) ?_
                refine lv_istore (lv' := [(5, .int 0), (0, .ref (ad mb)), (1, .int (nI (np ^ nc))), (2, .int ((shS (moX np nc (fun c => s_X13_sumAt nt kindF heavyF wideF hotF placeF (nI c) 1) ownF) r).1)), (3, .int (nI (shS (moX np nc (fun c => s_X13_sumAt nt kindF heavyF wideF hotF placeF (nI c) 1) ownF) r).2)), (4, .int (nI r))]) hx hb dX13_share_59 hl (by decide) rfl (fun ls hl => ?_)
                have loop_61 : ∀ (fuel : Nat) (t : Nat) (x5 : Int32), np - t < fuel → (t ≤ np) → x5 = nI t → ∀ (ML61 : Nat → va_E) (H : Heap) (locs : List Loc), ML61 mb = .inr (12, modF ad mb ((upd mv 2 0))) → ML61 (mb + 35) = .inl (cI, 4, .inl (zrF ldF t)) → (∀ q : Nat, q ≠ mb → q ≠ mb + 35 → ML61 q = M q) → va_P D vwCl (ip ad n ML61) H → va_S (ipA ad n) s.heap H locs → ∀ (ls : Array Slot), lv_has ls 8 [(0, .ref (ad mb)), (1, .int (nI (np ^ nc))), (2, .int ((shS (moX np nc (fun c => s_X13_sumAt nt kindF heavyF wideF hotF placeF (nI c) 1) ownF) r).1)), (3, .int (nI (shS (moX np nc (fun c => s_X13_sumAt nt kindF heavyF wideF hotF placeF (nI c) 1) ownF) r).2)), (4, .int (nI r)), (5, .int x5)] → W p l e (rmOf 1 25) s m args below meth c H locs 0 0 (MQ below (va_Qi (fun r M' => ∃ (v0 : Nat → Int32), r = (shS (moX np nc (fun c => s_X13_sumAt nt kindF heavyF wideF hotF placeF (nI c) 1) ownF) (np ^ nc)).1 ∧ M' mb = .inr (12, modF ad mb ((upd (upd mv 2 0) 53 1))) ∧ M' (mb + 34) = .inl (cI, 5, .inl (caS np nc (shS (moX np nc (fun c => s_X13_sumAt nt kindF heavyF wideF hotF placeF (nI c) 1) ownF) (np ^ nc)).2 carrierOfF nc)) ∧ M' (mb + 35) = .inl (cI, 4, .inl v0) ∧ ∀ q : Nat, q ≠ mb → q ≠ mb + 34 → q ≠ mb + 35 → M' q = M q) (fun M' t => va_P D vwCl (ip ad n M') t.heap) (ipA ad n)) args s 0 0 (ipA ad n)) (F0 m 61 ls []) := by
                  intro fuel
                  induction fuel with
                  | zero =>
                    intro t x5 hz
                    exact absurd hz (Nat.not_lt_zero _)
                  | succ fuel ih_61 =>
                    intro t x5 hz_61 ht e5 ML61 H locs mL61_0 mL61_1 fL61 hP hS ls hl
                    subst e5
                    skip
                    refine lv_iload hx hb dX13_share_61 (lv_at hl 5 rfl) ?_
                    refine lv_aload_n hx hb dX13_share_63 rfl (lv_at hl 0 rfl) ?_
                    refine q_get (v := .ref (ad (mb + 3))) (fs := modF ad mb ((upd mv 2 0))) X hK hP fX13_share_40 h_mb mL61_0 rfl dX13_share_64 ?_
                    refine lv_iconst (v := 0) hx hb dX13_share_67 (by decide) ?_
                    refine q_ialdN (f := toldF) (k := 14) X hK hP 0 h_mb_3 ((fL61 (mb + 3) (by omega) (by omega)).trans m_mb_3) (by decide) (by decide) dX13_share_68 ?_
                    refine lv_icmp_ge (tgt := 86) hx hb dX13_share_69 (by decide) (fun c_69 => ?_) (fun c_69 => ?_)
                    · skip
                      rw [k0] at c_69; have h9 : t = np := eq_of_le c_69 (by omega) ht
                      refine lv_iload hx hb dX13_share_86 (lv_at hl 4 rfl) ?_
                      refine lv_istore (lv' := [(5, .int (nI r)), (0, .ref (ad mb)), (1, .int (nI (np ^ nc))), (2, .int ((shS (moX np nc (fun c => s_X13_sumAt nt kindF heavyF wideF hotF placeF (nI c) 1) ownF) r).1)), (3, .int (nI (shS (moX np nc (fun c => s_X13_sumAt nt kindF heavyF wideF hotF placeF (nI c) 1) ownF) r).2)), (4, .int (nI r))]) hx hb dX13_share_88 hl (by decide) rfl (fun ls hl => ?_)
                      refine lv_aload_n hx hb dX13_share_90 rfl (lv_at hl 1 rfl) ?_
                      refine q_get (v := .ref (ad (mb + 3))) (fs := modF ad mb ((upd mv 2 0))) X hK hP fX13_share_40 h_mb mL61_0 rfl dX13_share_91 ?_
                      refine lv_iconst (v := 1) hx hb dX13_share_94 (by decide) ?_
                      refine q_ialdN (f := toldF) (k := 14) X hK hP 1 h_mb_3 ((fL61 (mb + 3) (by omega) (by omega)).trans m_mb_3) (by decide) (by decide) dX13_share_95 ?_
                      refine lv_iconst (v := 1) hx hb dX13_share_96 (by decide) ?_
                      refine lv_isub hx hb dX13_share_97 ?_
                      refine lv_istore (lv' := [(6, .int ((toldF 1) - 1)), (5, .int (nI r)), (0, .ref (ad mb)), (1, .int (nI (np ^ nc))), (2, .int ((shS (moX np nc (fun c => s_X13_sumAt nt kindF heavyF wideF hotF placeF (nI c) 1) ownF) r).1)), (3, .int (nI (shS (moX np nc (fun c => s_X13_sumAt nt kindF heavyF wideF hotF placeF (nI c) 1) ownF) r).2)), (4, .int (nI r))]) hx hb dX13_share_98 hl (by decide) rfl (fun ls hl => ?_)
                      have loop_100 : ∀ (fuel : Nat) (j : Nat) (x5 : Int32) (x6 : Int32), nc - j < fuel → (j ≤ nc) → x5 = nI (r / np ^ j) → x6 = nI (nc - j) - 1 → ∀ (ML100 : Nat → va_E) (H : Heap) (locs : List Loc), ML100 mb = .inr (12, modF ad mb ((upd mv 2 0))) → ML100 (mb + 35) = .inl (cI, 4, .inl (lsS np nc (fun c => s_X13_sumAt nt kindF heavyF wideF hotF placeF (nI c) 1) r (zrF ldF np) j)) → (∀ q : Nat, q ≠ mb → q ≠ mb + 35 → ML100 q = M q) → va_P D vwCl (ip ad n ML100) H → va_S (ipA ad n) s.heap H locs → ∀ (ls : Array Slot), lv_has ls 8 [(0, .ref (ad mb)), (1, .int (nI (np ^ nc))), (2, .int ((shS (moX np nc (fun c => s_X13_sumAt nt kindF heavyF wideF hotF placeF (nI c) 1) ownF) r).1)), (3, .int (nI (shS (moX np nc (fun c => s_X13_sumAt nt kindF heavyF wideF hotF placeF (nI c) 1) ownF) r).2)), (4, .int (nI r)), (5, .int x5), (6, .int x6)] → W p l e (rmOf 1 25) s m args below meth c H locs 0 0 (MQ below (va_Qi (fun r M' => ∃ (v0 : Nat → Int32), r = (shS (moX np nc (fun c => s_X13_sumAt nt kindF heavyF wideF hotF placeF (nI c) 1) ownF) (np ^ nc)).1 ∧ M' mb = .inr (12, modF ad mb ((upd (upd mv 2 0) 53 1))) ∧ M' (mb + 34) = .inl (cI, 5, .inl (caS np nc (shS (moX np nc (fun c => s_X13_sumAt nt kindF heavyF wideF hotF placeF (nI c) 1) ownF) (np ^ nc)).2 carrierOfF nc)) ∧ M' (mb + 35) = .inl (cI, 4, .inl v0) ∧ ∀ q : Nat, q ≠ mb → q ≠ mb + 34 → q ≠ mb + 35 → M' q = M q) (fun M' t => va_P D vwCl (ip ad n M') t.heap) (ipA ad n)) args s 0 0 (ipA ad n)) (F0 m 100 ls []) := by
                        intro fuel
                        induction fuel with
                        | zero =>
                          intro j x5 x6 hz
                          exact absurd hz (Nat.not_lt_zero _)
                        | succ fuel ih_100 =>
                          intro j x5 x6 hz_100 hj e5 e6 ML100 H locs mL100_0 mL100_1 fL100 hP hS ls hl
                          subst e5
                          subst e6
                          skip
                          refine lv_iload hx hb dX13_share_100 (lv_at hl 6 rfl) ?_
                          refine lv_if_lt (tgt := 146) hx hb dX13_share_102 (by decide) (fun c_102 => ?_) (fun c_102 => ?_)
                          · skip
                            have hj8 : nc - j = 0 := (dn_neg (by omega)).mp c_102; have hj9 : j = nc := (by omega)
                            refine lv_iconst (v := 0) hx hb dX13_share_146 (by decide) ?_
                            refine lv_istore (lv' := [(6, .int 0), (0, .ref (ad mb)), (1, .int (nI (np ^ nc))), (2, .int ((shS (moX np nc (fun c => s_X13_sumAt nt kindF heavyF wideF hotF placeF (nI c) 1) ownF) r).1)), (3, .int (nI (shS (moX np nc (fun c => s_X13_sumAt nt kindF heavyF wideF hotF placeF (nI c) 1) ownF) r).2)), (4, .int (nI r)), (5, .int (nI (r / np ^ j)))]) hx hb dX13_share_147 hl (by decide) rfl (fun ls hl => ?_)
                            refine lv_iconst (v := 0) hx hb dX13_share_149 (by decide) ?_
                            refine lv_istore (lv' := [(7, .int 0), (6, .int 0), (0, .ref (ad mb)), (1, .int (nI (np ^ nc))), (2, .int ((shS (moX np nc (fun c => s_X13_sumAt nt kindF heavyF wideF hotF placeF (nI c) 1) ownF) r).1)), (3, .int (nI (shS (moX np nc (fun c => s_X13_sumAt nt kindF heavyF wideF hotF placeF (nI c) 1) ownF) r).2)), (4, .int (nI r)), (5, .int (nI (r / np ^ j)))]) hx hb dX13_share_150 hl (by decide) rfl (fun ls hl => ?_)
                            have loop_152 : ∀ (fuel : Nat) (t : Nat) (x6 : Int32) (x7 : Int32), np - t < fuel → (t ≤ np) → x6 = moR (lsS np nc (fun c => s_X13_sumAt nt kindF heavyF wideF hotF placeF (nI c) 1) r (zrF ldF np) nc) ownF t → x7 = nI t → ∀ (ML152 : Nat → va_E) (H : Heap) (locs : List Loc), ML152 mb = .inr (12, modF ad mb ((upd mv 2 0))) → ML152 (mb + 35) = .inl (cI, 4, .inl (lsS np nc (fun c => s_X13_sumAt nt kindF heavyF wideF hotF placeF (nI c) 1) r (zrF ldF np) nc)) → (∀ q : Nat, q ≠ mb → q ≠ mb + 35 → ML152 q = M q) → va_P D vwCl (ip ad n ML152) H → va_S (ipA ad n) s.heap H locs → ∀ (ls : Array Slot), lv_has ls 8 [(0, .ref (ad mb)), (1, .int (nI (np ^ nc))), (2, .int ((shS (moX np nc (fun c => s_X13_sumAt nt kindF heavyF wideF hotF placeF (nI c) 1) ownF) r).1)), (3, .int (nI (shS (moX np nc (fun c => s_X13_sumAt nt kindF heavyF wideF hotF placeF (nI c) 1) ownF) r).2)), (4, .int (nI r)), (6, .int x6), (7, .int x7)] → W p l e (rmOf 1 25) s m args below meth c H locs 0 0 (MQ below (va_Qi (fun r M' => ∃ (v0 : Nat → Int32), r = (shS (moX np nc (fun c => s_X13_sumAt nt kindF heavyF wideF hotF placeF (nI c) 1) ownF) (np ^ nc)).1 ∧ M' mb = .inr (12, modF ad mb ((upd (upd mv 2 0) 53 1))) ∧ M' (mb + 34) = .inl (cI, 5, .inl (caS np nc (shS (moX np nc (fun c => s_X13_sumAt nt kindF heavyF wideF hotF placeF (nI c) 1) ownF) (np ^ nc)).2 carrierOfF nc)) ∧ M' (mb + 35) = .inl (cI, 4, .inl v0) ∧ ∀ q : Nat, q ≠ mb → q ≠ mb + 34 → q ≠ mb + 35 → M' q = M q) (fun M' t => va_P D vwCl (ip ad n M') t.heap) (ipA ad n)) args s 0 0 (ipA ad n)) (F0 m 152 ls []) := by
                              intro fuel
                              induction fuel with
                              | zero =>
                                intro t x6 x7 hz
                                exact absurd hz (Nat.not_lt_zero _)
                              | succ fuel ih_152 =>
                                intro t x6 x7 hz_152 ht e6 e7 ML152 H locs mL152_0 mL152_1 fL152 hP hS ls hl
                                subst e6
                                subst e7
                                skip
                                refine lv_iload hx hb dX13_share_152 (lv_at hl 6 rfl) ?_
                                refine lv_aload_n hx hb dX13_share_154 rfl (lv_at hl 0 rfl) ?_
                                refine q_get (v := .ref (ad (mb + 3))) (fs := modF ad mb ((upd mv 2 0))) X hK hP fX13_share_40 h_mb mL152_0 rfl dX13_share_155 ?_
                                refine lv_iconst (v := 0) hx hb dX13_share_158 (by decide) ?_
                                refine q_ialdN (f := toldF) (k := 14) X hK hP 0 h_mb_3 ((fL152 (mb + 3) (by omega) (by omega)).trans m_mb_3) (by decide) (by decide) dX13_share_159 ?_
                                refine lv_icmp_ge (tgt := 195) hx hb dX13_share_160 (by decide) (fun c_160 => ?_) (fun c_160 => ?_)
                                · skip
                                  rw [k0] at c_160; have h9 : t = np := eq_of_le c_160 (by omega) ht
                                  rw [show moR (lsS np nc (fun c => s_X13_sumAt nt kindF heavyF wideF hotF placeF (nI c) 1) r (zrF ldF np) nc) ownF t = ((moX np nc (fun c => s_X13_sumAt nt kindF heavyF wideF hotF placeF (nI c) 1) ownF) r) from (by rw [h9]; exact moX_eq h0p)] at hl
                                  refine lv_iload_n hx hb dX13_share_195 rfl (lv_at hl 2 rfl) ?_
                                  refine lv_iconst (v := (-1)) hx hb dX13_share_196 (by decide) ?_
                                  refine lv_icmp_eq (tgt := 209) hx hb dX13_share_197 (by decide) (fun c_197 => ?_) (fun c_197 => ?_)
                                  · skip
                                    refine lv_iload hx hb dX13_share_209 (lv_at hl 5 rfl) ?_
                                    refine lv_istore_n (lv' := [(2, .int ((moX np nc (fun c => s_X13_sumAt nt kindF heavyF wideF hotF placeF (nI c) 1) ownF) r)), (0, .ref (ad mb)), (1, .int (nI (np ^ nc))), (3, .int (nI (shS (moX np nc (fun c => s_X13_sumAt nt kindF heavyF wideF hotF placeF (nI c) 1) ownF) r).2)), (4, .int (nI r)), (6, .int ((moX np nc (fun c => s_X13_sumAt nt kindF heavyF wideF hotF placeF (nI c) 1) ownF) r)), (7, .int (nI t))]) hx hb dX13_share_211 rfl hl (by decide) rfl (fun ls hl => ?_)
                                    refine lv_iload hx hb dX13_share_212 (lv_at hl 4 rfl) ?_
                                    refine lv_istore_n (lv' := [(3, .int (nI r)), (2, .int ((moX np nc (fun c => s_X13_sumAt nt kindF heavyF wideF hotF placeF (nI c) 1) ownF) r)), (0, .ref (ad mb)), (1, .int (nI (np ^ nc))), (4, .int (nI r)), (6, .int ((moX np nc (fun c => s_X13_sumAt nt kindF heavyF wideF hotF placeF (nI c) 1) ownF) r)), (7, .int (nI t))]) hx hb dX13_share_214 rfl hl (by decide) rfl (fun ls hl => ?_)
                                    refine lv_iinc (v := ((nI r) + 1)) (lv' := [(4, .int ((nI r) + 1)), (3, .int (nI r)), (2, .int ((moX np nc (fun c => s_X13_sumAt nt kindF heavyF wideF hotF placeF (nI c) 1) ownF) r)), (0, .ref (ad mb)), (1, .int (nI (np ^ nc))), (6, .int ((moX np nc (fun c => s_X13_sumAt nt kindF heavyF wideF hotF placeF (nI c) 1) ownF) r)), (7, .int (nI t))]) hx hb dX13_share_215 hl (k := 4) rfl rfl (by decide) rfl (fun ls hl => ?_)
                                    refine lv_goto (tgt := 52) hx hb dX13_share_218 (by decide) ?_
                                    exact ih_52 (r + 1) (lsS np nc (fun c => s_X13_sumAt nt kindF heavyF wideF hotF placeF (nI c) 1) r (zrF ldF np) nc) ((moX np nc (fun c => s_X13_sumAt nt kindF heavyF wideF hotF placeF (nI c) 1) ownF) r) (nI r) ((nI r) + 1) (by omega) (by omega) (by rw [shS]; first | (rw [if_pos c_197]; done) | (rw [if_neg c_197, if_pos c_203]; done) | (rw [if_neg c_197, if_neg c_203]; done)) (by rw [shS]; first | (rw [if_pos c_197]; done) | (rw [if_neg c_197, if_pos c_203]; done) | (rw [if_neg c_197, if_neg c_203]; done)) (by exact nI_1 _) _ _ _ mL152_0 mL152_1 (fun q n0 n1 => (fL152 q n0 n1)) hP hS ls (lv_sub hl [3, 4, 2, 1, 0] rfl)
                                  · skip
                                    refine lv_iload hx hb dX13_share_200 (lv_at hl 5 rfl) ?_
                                    refine lv_iload_n hx hb dX13_share_202 rfl (lv_at hl 2 rfl) ?_
                                    refine lv_icmp_lt (tgt := 209) hx hb dX13_share_203 (by decide) (fun c_203 => ?_) (fun c_203 => ?_)
                                    · skip
                                      refine lv_iload hx hb dX13_share_209 (lv_at hl 5 rfl) ?_
                                      refine lv_istore_n (lv' := [(2, .int ((moX np nc (fun c => s_X13_sumAt nt kindF heavyF wideF hotF placeF (nI c) 1) ownF) r)), (0, .ref (ad mb)), (1, .int (nI (np ^ nc))), (3, .int (nI (shS (moX np nc (fun c => s_X13_sumAt nt kindF heavyF wideF hotF placeF (nI c) 1) ownF) r).2)), (4, .int (nI r)), (6, .int ((moX np nc (fun c => s_X13_sumAt nt kindF heavyF wideF hotF placeF (nI c) 1) ownF) r)), (7, .int (nI t))]) hx hb dX13_share_211 rfl hl (by decide) rfl (fun ls hl => ?_)
                                      refine lv_iload hx hb dX13_share_212 (lv_at hl 4 rfl) ?_
                                      refine lv_istore_n (lv' := [(3, .int (nI r)), (2, .int ((moX np nc (fun c => s_X13_sumAt nt kindF heavyF wideF hotF placeF (nI c) 1) ownF) r)), (0, .ref (ad mb)), (1, .int (nI (np ^ nc))), (4, .int (nI r)), (6, .int ((moX np nc (fun c => s_X13_sumAt nt kindF heavyF wideF hotF placeF (nI c) 1) ownF) r)), (7, .int (nI t))]) hx hb dX13_share_214 rfl hl (by decide) rfl (fun ls hl => ?_)
                                      refine lv_iinc (v := ((nI r) + 1)) (lv' := [(4, .int ((nI r) + 1)), (3, .int (nI r)), (2, .int ((moX np nc (fun c => s_X13_sumAt nt kindF heavyF wideF hotF placeF (nI c) 1) ownF) r)), (0, .ref (ad mb)), (1, .int (nI (np ^ nc))), (6, .int ((moX np nc (fun c => s_X13_sumAt nt kindF heavyF wideF hotF placeF (nI c) 1) ownF) r)), (7, .int (nI t))]) hx hb dX13_share_215 hl (k := 4) rfl rfl (by decide) rfl (fun ls hl => ?_)
                                      refine lv_goto (tgt := 52) hx hb dX13_share_218 (by decide) ?_
                                      exact ih_52 (r + 1) (lsS np nc (fun c => s_X13_sumAt nt kindF heavyF wideF hotF placeF (nI c) 1) r (zrF ldF np) nc) ((moX np nc (fun c => s_X13_sumAt nt kindF heavyF wideF hotF placeF (nI c) 1) ownF) r) (nI r) ((nI r) + 1) (by omega) (by omega) (by rw [shS]; first | (rw [if_pos c_197]; done) | (rw [if_neg c_197, if_pos c_203]; done) | (rw [if_neg c_197, if_neg c_203]; done)) (by rw [shS]; first | (rw [if_pos c_197]; done) | (rw [if_neg c_197, if_pos c_203]; done) | (rw [if_neg c_197, if_neg c_203]; done)) (by exact nI_1 _) _ _ _ mL152_0 mL152_1 (fun q n0 n1 => (fL152 q n0 n1)) hP hS ls (lv_sub hl [3, 4, 2, 1, 0] rfl)
                                    · skip
                                      refine lv_goto (tgt := 215) hx hb dX13_share_206 (by decide) ?_
                                      refine lv_iinc (v := ((nI r) + 1)) (lv' := [(4, .int ((nI r) + 1)), (0, .ref (ad mb)), (1, .int (nI (np ^ nc))), (2, .int ((shS (moX np nc (fun c => s_X13_sumAt nt kindF heavyF wideF hotF placeF (nI c) 1) ownF) r).1)), (3, .int (nI (shS (moX np nc (fun c => s_X13_sumAt nt kindF heavyF wideF hotF placeF (nI c) 1) ownF) r).2)), (6, .int ((moX np nc (fun c => s_X13_sumAt nt kindF heavyF wideF hotF placeF (nI c) 1) ownF) r)), (7, .int (nI t))]) hx hb dX13_share_215 hl (k := 4) rfl rfl (by decide) rfl (fun ls hl => ?_)
                                      refine lv_goto (tgt := 52) hx hb dX13_share_218 (by decide) ?_
                                      exact ih_52 (r + 1) (lsS np nc (fun c => s_X13_sumAt nt kindF heavyF wideF hotF placeF (nI c) 1) r (zrF ldF np) nc) ((shS (moX np nc (fun c => s_X13_sumAt nt kindF heavyF wideF hotF placeF (nI c) 1) ownF) r).1) (nI (shS (moX np nc (fun c => s_X13_sumAt nt kindF heavyF wideF hotF placeF (nI c) 1) ownF) r).2) ((nI r) + 1) (by omega) (by omega) (by rw [shS]; first | (rw [if_pos c_197]; done) | (rw [if_neg c_197, if_pos c_203]; done) | (rw [if_neg c_197, if_neg c_203]; done)) (by rw [shS]; first | (rw [if_pos c_197]; done) | (rw [if_neg c_197, if_pos c_203]; done) | (rw [if_neg c_197, if_neg c_203]; done)) (by exact nI_1 _) _ _ _ mL152_0 mL152_1 (fun q n0 n1 => (fL152 q n0 n1)) hP hS ls (lv_sub hl [1, 2, 3, 4, 0] rfl)
                                · skip
                                  rw [k0] at c_160; have h8 := lt_of_nlt c_160 (by omega) ht
                                  refine lv_iload hx hb dX13_share_163 (lv_at hl 5 rfl) ?_
                                  refine lv_aload_n hx hb dX13_share_165 rfl (lv_at hl 0 rfl) ?_
                                  refine q_get (v := .ref (ad (mb + 35))) (fs := modF ad mb ((upd mv 2 0))) X hK hP fX13_share_143 h_mb mL152_0 rfl dX13_share_166 ?_
                                  refine lv_iload hx hb dX13_share_169 (lv_at hl 6 rfl) ?_
                                  refine q_ialdN (f := (lsS np nc (fun c => s_X13_sumAt nt kindF heavyF wideF hotF placeF (nI c) 1) r (zrF ldF np) nc)) (k := 4) X hK hP t h_mb_35 mL152_1 (by omega) (by decide) dX13_share_171 ?_
                                  refine lv_sipush (v := 1000) hx hb dX13_share_172 (by decide) ?_
                                  refine lv_imul hx hb dX13_share_175 ?_
                                  refine lv_aload_n hx hb dX13_share_176 rfl (lv_at hl 0 rfl) ?_
                                  refine q_get (v := .ref (ad (mb + 4))) (fs := modF ad mb ((upd mv 2 0))) X hK hP fX13_share_44 h_mb mL152_0 rfl dX13_share_177 ?_
                                  refine lv_iload hx hb dX13_share_180 (lv_at hl 6 rfl) ?_
                                  refine q_ialdN (f := ownF) (k := 8) X hK hP t h_mb_4 ((fL152 (mb + 4) (by omega) (by omega)).trans m_mb_4) (by omega) (by decide) dX13_share_182 ?_
                                  refine lv_idiv hx hb dX13_share_183 (how t h8) ?_
                                  refine q_max X hl.1 (by decide +kernel) (by decide +kernel) (by decide +kernel) (by decide +kernel) ⟨Nat.le_of_ble_eq_true rfl, Nat.le_of_ble_eq_true rfl⟩ (Nat.le_of_ble_eq_true rfl) ⟨Nat.zero_le _, Nat.zero_le _⟩ dX13_share_184 ?_
                                  refine lv_istore (lv' := [(6, .int (imax (moR (lsS np nc (fun c => s_X13_sumAt nt kindF heavyF wideF hotF placeF (nI c) 1) r (zrF ldF np) nc) ownF t) ((((lsS np nc (fun c => s_X13_sumAt nt kindF heavyF wideF hotF placeF (nI c) 1) r (zrF ldF np) nc) t) * 1000) / (ownF t)))), (0, .ref (ad mb)), (1, .int (nI (np ^ nc))), (2, .int ((shS (moX np nc (fun c => s_X13_sumAt nt kindF heavyF wideF hotF placeF (nI c) 1) ownF) r).1)), (3, .int (nI (shS (moX np nc (fun c => s_X13_sumAt nt kindF heavyF wideF hotF placeF (nI c) 1) ownF) r).2)), (4, .int (nI r)), (7, .int (nI t))]) hx hb dX13_share_187 hl (by decide) rfl (fun ls hl => ?_)
                                  refine lv_iinc (v := ((nI t) + 1)) (lv' := [(7, .int ((nI t) + 1)), (6, .int (imax (moR (lsS np nc (fun c => s_X13_sumAt nt kindF heavyF wideF hotF placeF (nI c) 1) r (zrF ldF np) nc) ownF t) ((((lsS np nc (fun c => s_X13_sumAt nt kindF heavyF wideF hotF placeF (nI c) 1) r (zrF ldF np) nc) t) * 1000) / (ownF t)))), (0, .ref (ad mb)), (1, .int (nI (np ^ nc))), (2, .int ((shS (moX np nc (fun c => s_X13_sumAt nt kindF heavyF wideF hotF placeF (nI c) 1) ownF) r).1)), (3, .int (nI (shS (moX np nc (fun c => s_X13_sumAt nt kindF heavyF wideF hotF placeF (nI c) 1) ownF) r).2)), (4, .int (nI r))]) hx hb dX13_share_189 hl (k := 6) rfl rfl (by decide) rfl (fun ls hl => ?_)
                                  refine lv_goto (tgt := 152) hx hb dX13_share_192 (by decide) ?_
                                  exact ih_152 (t + 1) (imax (moR (lsS np nc (fun c => s_X13_sumAt nt kindF heavyF wideF hotF placeF (nI c) 1) r (zrF ldF np) nc) ownF t) ((((lsS np nc (fun c => s_X13_sumAt nt kindF heavyF wideF hotF placeF (nI c) 1) r (zrF ldF np) nc) t) * 1000) / (ownF t))) ((nI t) + 1) (by omega) (by omega) (by rfl) (by exact nI_1 _) _ _ _ mL152_0 mL152_1 (fun q n0 n1 => (fL152 q n0 n1)) hP hS ls (lv_sub hl [2, 3, 4, 5, 6, 1, 0] rfl)
                            exact loop_152 (np + 1) 0 0 0 (by omega) (by omega) (by rfl) (by rfl) _ _ _ mL100_0 (by subst hj9; exact mL100_1) (fun q n0 n1 => (fL100 q n0 n1)) hP hS ls (lv_sub hl [2, 3, 4, 5, 6, 1, 0] rfl)
                          · skip
                            have hj8 : ¬ nc - j = 0 := fun q => c_102 ((dn_neg (by omega)).mpr q)
                            rw [show nI (nc - j) - 1 = (nI (nc - 1 - j)) from (by rw [show nc - j = (nc - 1 - j) + 1 by omega, nI_pred])] at hl
                            refine lv_aload_n hx hb dX13_share_105 rfl (lv_at hl 0 rfl) ?_
                            refine q_get (v := .ref (ad (mb + 35))) (fs := modF ad mb ((upd mv 2 0))) X hK hP fX13_share_143 h_mb mL100_0 rfl dX13_share_106 ?_
                            refine lv_iload hx hb dX13_share_109 (lv_at hl 5 rfl) ?_
                            refine lv_aload_n hx hb dX13_share_111 rfl (lv_at hl 0 rfl) ?_
                            refine q_get (v := .ref (ad (mb + 3))) (fs := modF ad mb ((upd mv 2 0))) X hK hP fX13_share_40 h_mb mL100_0 rfl dX13_share_112 ?_
                            refine lv_iconst (v := 0) hx hb dX13_share_115 (by decide) ?_
                            refine q_ialdN (f := toldF) (k := 14) X hK hP 0 h_mb_3 ((fL100 (mb + 3) (by omega) (by omega)).trans m_mb_3) (by decide) (by decide) dX13_share_116 ?_
                            refine lv_irem hx hb dX13_share_117 (by rw [k0]; exact nI_ne0 h0p (by omega)) ?_
                            refine lv_dup2_11 hx hb dX13_share_118 rfl rfl ?_
                            refine q_iald (f := (lsS np nc (fun c => s_X13_sumAt nt kindF heavyF wideF hotF placeF (nI c) 1) r (zrF ldF np) j)) (k := 4) X hK hP h_mb_35 mL100_1 (by rw [k0, pk_rem (show r / np ^ j < 2 ^ 31 by have := Nat.div_le_self r (np ^ j); omega) h0p (by omega)]; exact vp_in_nI (by have := Nat.mod_lt (r / np ^ j) h0p; omega) (by decide)) dX13_share_119 ?_
                            refine lv_aload_n hx hb dX13_share_120 rfl (lv_at hl 0 rfl) ?_
                            refine lv_iload hx hb dX13_share_121 (lv_at hl 6 rfl) ?_
                            refine lv_iconst (v := 1) hx hb dX13_share_123 (by decide) ?_
                            refine q_rdV (As := [.int (nI (nc - 1 - j)), .int 1]) (rest := [.int ((lsS np nc (fun c => s_X13_sumAt nt kindF heavyF wideF hotF placeF (nI c) 1) r (zrF ldF np) j) ((nI (r / np ^ j)) - (nI (r / np ^ j)) / (toldF 0) * (toldF 0)).toNatClampNeg), .int ((nI (r / np ^ j)) - (nI (r / np ^ j)) / (toldF 0) * (toldF 0)), .ref (ad (mb + 35))]) (c_X13_sumAt l D cB cI cJ ad n ML100 mb nt nc np nq (upd mv 2 0) toldF kindF heavyF wideF hotF placeF (nI (nc - 1 - j)) 1 h_mb h_mb_3 h_mb_12 h_mb_13 h_mb_15 h_mb_17 h_mb_18 mL100_0 ((fL100 (mb + 3) (by omega) (by omega)).trans m_mb_3) ((fL100 (mb + 12) (by omega) (by omega)).trans m_mb_12) ((fL100 (mb + 13) (by omega) (by omega)).trans m_mb_13) ((fL100 (mb + 15) (by omega) (by omega)).trans m_mb_15) ((fL100 (mb + 17) (by omega) (by omega)).trans m_mb_17) ((fL100 (mb + 18) (by omega) (by omega)).trans m_mb_18) k0 hnp k1 hnc k2 hnt k3 hnq) X hK hP hS hl.1 rfl gX13_share_X13_sumAt yd_X13_sumAt ⟨Nat.le_of_ble_eq_true rfl, Nat.le_of_ble_eq_true rfl⟩ h_mb mL100_0 (ci := 12) rfl rfl (Nat.le_of_ble_eq_true rfl) ⟨Nat.zero_le _, Nat.zero_le _⟩ dX13_share_124 ?_
                            refine lv_iadd hx hb dX13_share_127 ?_
                            refine q_iast (f := (lsS np nc (fun c => s_X13_sumAt nt kindF heavyF wideF hotF placeF (nI c) 1) r (zrF ldF np) j)) (k := 4) X hK hI hP hS h_mb_35 mL100_1 (by rw [k0, pk_rem (show r / np ^ j < 2 ^ 31 by have := Nat.div_le_self r (np ^ j); omega) h0p (by omega)]; exact vp_in_nI (by have := Nat.mod_lt (r / np ^ j) h0p; omega) (by decide)) dX13_share_128 (fun H locs hP hS => ?_)
                            refine lv_iload hx hb dX13_share_129 (lv_at hl 5 rfl) ?_
                            refine lv_aload_n hx hb dX13_share_131 rfl (lv_at hl 0 rfl) ?_
                            refine q_get (v := .ref (ad (mb + 3))) (fs := modF ad mb ((upd mv 2 0))) X hK hP fX13_share_40 h_mb ((va_up_ne ML100 (.inl (cI, 4, .inl (upd (lsS np nc (fun c => s_X13_sumAt nt kindF heavyF wideF hotF placeF (nI c) 1) r (zrF ldF np) j) ((nI (r / np ^ j)) - (nI (r / np ^ j)) / (toldF 0) * (toldF 0)).toNatClampNeg (((lsS np nc (fun c => s_X13_sumAt nt kindF heavyF wideF hotF placeF (nI c) 1) r (zrF ldF np) j) ((nI (r / np ^ j)) - (nI (r / np ^ j)) / (toldF 0) * (toldF 0)).toNatClampNeg) + (s_X13_sumAt nt kindF heavyF wideF hotF placeF (nI (nc - 1 - j)) 1))))) (show mb ≠ mb + 35 by omega)).trans mL100_0) rfl dX13_share_132 ?_
                            refine lv_iconst (v := 0) hx hb dX13_share_135 (by decide) ?_
                            refine q_ialdN (f := toldF) (k := 14) X hK hP 0 h_mb_3 ((va_up_ne ML100 (.inl (cI, 4, .inl (upd (lsS np nc (fun c => s_X13_sumAt nt kindF heavyF wideF hotF placeF (nI c) 1) r (zrF ldF np) j) ((nI (r / np ^ j)) - (nI (r / np ^ j)) / (toldF 0) * (toldF 0)).toNatClampNeg (((lsS np nc (fun c => s_X13_sumAt nt kindF heavyF wideF hotF placeF (nI c) 1) r (zrF ldF np) j) ((nI (r / np ^ j)) - (nI (r / np ^ j)) / (toldF 0) * (toldF 0)).toNatClampNeg) + (s_X13_sumAt nt kindF heavyF wideF hotF placeF (nI (nc - 1 - j)) 1))))) (show mb + 3 ≠ mb + 35 by omega)).trans ((fL100 (mb + 3) (by omega) (by omega)).trans m_mb_3)) (by decide) (by decide) dX13_share_136 ?_
                            refine lv_idiv hx hb dX13_share_137 (by rw [k0]; exact nI_ne0 h0p (by omega)) ?_
                            refine lv_istore (lv' := [(5, .int ((nI (r / np ^ j)) / (toldF 0))), (0, .ref (ad mb)), (1, .int (nI (np ^ nc))), (2, .int ((shS (moX np nc (fun c => s_X13_sumAt nt kindF heavyF wideF hotF placeF (nI c) 1) ownF) r).1)), (3, .int (nI (shS (moX np nc (fun c => s_X13_sumAt nt kindF heavyF wideF hotF placeF (nI c) 1) ownF) r).2)), (4, .int (nI r)), (6, .int (nI (nc - 1 - j)))]) hx hb dX13_share_138 hl (by decide) rfl (fun ls hl => ?_)
                            refine lv_iinc (v := ((nI (nc - 1 - j)) + (-1))) (lv' := [(6, .int ((nI (nc - 1 - j)) + (-1))), (5, .int ((nI (r / np ^ j)) / (toldF 0))), (0, .ref (ad mb)), (1, .int (nI (np ^ nc))), (2, .int ((shS (moX np nc (fun c => s_X13_sumAt nt kindF heavyF wideF hotF placeF (nI c) 1) ownF) r).1)), (3, .int (nI (shS (moX np nc (fun c => s_X13_sumAt nt kindF heavyF wideF hotF placeF (nI c) 1) ownF) r).2)), (4, .int (nI r))]) hx hb dX13_share_140 hl (k := 6) rfl rfl (by decide) rfl (fun ls hl => ?_)
                            refine lv_goto (tgt := 100) hx hb dX13_share_143 (by decide) ?_
                            exact ih_100 (j + 1) ((nI (r / np ^ j)) / (toldF 0)) ((nI (nc - 1 - j)) + (-1)) (by omega) (by omega) (by rw [k0, pk_div (by have := Nat.div_le_self r (np ^ j); omega) h0p (by omega), dv_s]) (by rw [show nc - (j + 1) = nc - 1 - j by omega, Int32.sub_eq_add_neg]) _ _ _ ((va_up_ne ML100 (.inl (cI, 4, .inl (upd (lsS np nc (fun c => s_X13_sumAt nt kindF heavyF wideF hotF placeF (nI c) 1) r (zrF ldF np) j) ((nI (r / np ^ j)) - (nI (r / np ^ j)) / (toldF 0) * (toldF 0)).toNatClampNeg (((lsS np nc (fun c => s_X13_sumAt nt kindF heavyF wideF hotF placeF (nI c) 1) r (zrF ldF np) j) ((nI (r / np ^ j)) - (nI (r / np ^ j)) / (toldF 0) * (toldF 0)).toNatClampNeg) + (s_X13_sumAt nt kindF heavyF wideF hotF placeF (nI (nc - 1 - j)) 1))))) (show mb ≠ mb + 35 by omega)).trans mL100_0) (by refine (va_up_self ML100 (mb + 35) (.inl (cI, 4, .inl (upd (lsS np nc (fun c => s_X13_sumAt nt kindF heavyF wideF hotF placeF (nI c) 1) r (zrF ldF np) j) ((nI (r / np ^ j)) - (nI (r / np ^ j)) / (toldF 0) * (toldF 0)).toNatClampNeg (((lsS np nc (fun c => s_X13_sumAt nt kindF heavyF wideF hotF placeF (nI c) 1) r (zrF ldF np) j) ((nI (r / np ^ j)) - (nI (r / np ^ j)) / (toldF 0) * (toldF 0)).toNatClampNeg) + (s_X13_sumAt nt kindF heavyF wideF hotF placeF (nI (nc - 1 - j)) 1)))))).trans ?_; rw [lsS]; rw [k0, pk_rem (show r / np ^ j < 2 ^ 31 by have := Nat.div_le_self r (np ^ j); omega) h0p (by omega)]; rw [nI_clamp (by have := Nat.mod_lt (r / np ^ j) h0p; omega)]) (fun q n0 n1 => ((va_up_ne _ _ n1).trans (fL100 q n0 n1))) hP hS ls (lv_sub hl [2, 3, 4, 5, 6, 1, 0] rfl)
                      exact loop_100 (nc + 1) 0 (nI r) ((toldF 1) - 1) (by omega) (by exact Nat.zero_le _) (by rw [Nat.pow_zero, Nat.div_one]) (by rw [k1, Nat.sub_zero]) _ _ _ mL61_0 (by subst h9; exact mL61_1) (fun q n0 n1 => (fL61 q n0 n1)) hP hS ls (lv_sub hl [2, 3, 4, 5, 6, 1, 0] rfl)
                    · skip
                      rw [k0] at c_69; have h8 := lt_of_nlt c_69 (by omega) ht
                      refine lv_aload_n hx hb dX13_share_72 rfl (lv_at hl 0 rfl) ?_
                      refine q_get (v := .ref (ad (mb + 35))) (fs := modF ad mb ((upd mv 2 0))) X hK hP fX13_share_143 h_mb mL61_0 rfl dX13_share_73 ?_
                      refine lv_iload hx hb dX13_share_76 (lv_at hl 5 rfl) ?_
                      refine lv_iconst (v := 0) hx hb dX13_share_78 (by decide) ?_
                      refine q_iastN (f := (zrF ldF t)) (k := 4) X hK hI hP hS t h_mb_35 mL61_1 (by omega) (by decide) dX13_share_79 (fun H locs hP hS => ?_)
                      refine lv_iinc (v := ((nI t) + 1)) (lv' := [(5, .int ((nI t) + 1)), (0, .ref (ad mb)), (1, .int (nI (np ^ nc))), (2, .int ((shS (moX np nc (fun c => s_X13_sumAt nt kindF heavyF wideF hotF placeF (nI c) 1) ownF) r).1)), (3, .int (nI (shS (moX np nc (fun c => s_X13_sumAt nt kindF heavyF wideF hotF placeF (nI c) 1) ownF) r).2)), (4, .int (nI r))]) hx hb dX13_share_80 hl (k := 5) rfl rfl (by decide) rfl (fun ls hl => ?_)
                      refine lv_goto (tgt := 61) hx hb dX13_share_83 (by decide) ?_
                      exact ih_61 (t + 1) ((nI t) + 1) (by omega) (by omega) (by exact nI_1 _) _ _ _ ((va_up_ne ML61 (.inl (cI, 4, .inl (upd (zrF ldF t) t 0))) (show mb ≠ mb + 35 by omega)).trans mL61_0) (by refine (va_up_self ML61 (mb + 35) (.inl (cI, 4, .inl (upd (zrF ldF t) t 0)))).trans ?_; rw [zrF_s]) (fun q n0 n1 => ((va_up_ne _ _ n1).trans (fL61 q n0 n1))) hP hS ls (lv_sub hl [1, 2, 3, 4, 5, 0] rfl)
                exact loop_61 (np + 1) 0 0 (by omega) (by omega) (by rfl) _ _ _ mL52_0 (by rw [zrF_0]; exact mL52_1) (fun q n0 n1 => (fL52 q n0 n1)) hP hS ls (lv_sub hl [1, 2, 3, 4, 5, 0] rfl)
          exact loop_52 (1025) 0 loadF (-1) 0 0 (by omega) (by exact Nat.zero_le _) (by rfl) (by rfl) (by rfl) _ _ _ mL20_0 ((fL20 (mb + 35) (by omega)).trans m_mb_35) (fun q n0 n1 => (fL20 q n0)) hP hS ls (lv_sub hl [3, 4, 2, 1, 0] rfl)
        · skip
          rw [k1] at c_27; have h9 := lt_of_nlt c_27 (by omega) ht
          refine lv_iload_n hx hb dX13_share_30 rfl (lv_at hl 1 rfl) ?_
          refine lv_aload_n hx hb dX13_share_31 rfl (lv_at hl 0 rfl) ?_
          refine q_get (v := .ref (ad (mb + 3))) (fs := modF ad mb ((upd mv 2 0))) X hK hP fX13_share_40 h_mb mL20_0 rfl dX13_share_32 ?_
          refine lv_iconst (v := 0) hx hb dX13_share_35 (by decide) ?_
          refine q_ialdN (f := toldF) (k := 14) X hK hP 0 h_mb_3 ((fL20 (mb + 3) (by omega)).trans m_mb_3) (by decide) (by decide) dX13_share_36 ?_
          refine lv_imul hx hb dX13_share_37 ?_
          refine lv_istore_n (lv' := [(1, .int ((nI (np ^ t)) * (toldF 0))), (0, .ref (ad mb)), (2, .int (nI t))]) hx hb dX13_share_38 rfl hl (by decide) rfl (fun ls hl => ?_)
          refine lv_iinc (v := ((nI t) + 1)) (lv' := [(2, .int ((nI t) + 1)), (1, .int ((nI (np ^ t)) * (toldF 0))), (0, .ref (ad mb))]) hx hb dX13_share_39 hl (k := 2) rfl rfl (by decide) rfl (fun ls hl => ?_)
          refine lv_goto (tgt := 20) hx hb dX13_share_42 (by decide) ?_
          exact ih_20 (t + 1) ((nI (np ^ t)) * (toldF 0)) ((nI t) + 1) (by omega) (by omega) (by rw [k0, pk_mul, Nat.pow_succ]) (by exact nI_1 _) _ _ _ mL20_0 (fun q n0 => (fL20 q n0)) hP hS ls (lv_sub hl [2, 1, 0] rfl)
    exact loop_20 (nc + 1) 0 1 0 (by omega) (by omega) (by rfl) (by rfl) _ _ _ (va_up_self M mb (.inr (12, modF ad mb (upd mv 2 0)))) (fun q n0 => (va_up_ne _ _ n0)) hP hS ls (lv_sub hl [2, 1, 0] rfl)
  · exact absurd c_11 (by rw [k0]; exact nI_ne0 h0p (by omega))
set_option maxHeartbeats 4000000 in
set_option maxRecDepth 100000 in
theorem c_X13_shareN (l : Launch) (D : va_G) (cB cI cJ : ClassId) (ad : Nat → Nat) (n : Nat) (M : Nat → va_E) (hI : ipI ad n) (mb : Nat) (nt : Nat) (nc : Nat) (np : Nat) (nq : Nat) (mv : Nat → Int32) (toldF : Nat → Int32) (h_mb : mb < n) (h_mb_3 : mb + 3 < n) (m_mb : M mb = .inr (12, modF ad mb mv)) (m_mb_3 : M (mb + 3) = .inl (cI, 14, .inl toldF)) (k0 : toldF 0 = nI np) (hnp : np ≤ 4) (k1 : toldF 1 = nI nc) (hnc : nc ≤ 5) (k2 : toldF 2 = nI nt) (hnt : nt ≤ 12) (k3 : toldF 3 = nI nq) (hnq : nq ≤ 6) (h0p : np = 0) : cWi l D cB cI cJ ad n M yX13_share wsX13_share 0 0 [.ref (ad mb)] (fun r M' => r = (-1) ∧ M' mb = .inr (12, modF ad mb ((upd mv 2 0))) ∧ ∀ q : Nat, q ≠ mb → M' q = M q) := by
  refine q_body (cc := cX13_share) (maxL := 8) (ret := (some .int)) (by decide) rfl (Nat.le_of_ble_eq_true rfl) ?_
  intro p e s m args below meth c ls X hr hlocks hK hP hl
  obtain ⟨hx, hb, hml, hown, hts⟩ := id X
  have hS : va_S (ipA ad n) s.heap s.heap [] := va_S.rf
  have hl : lv_has ls 8 [(0, .ref (ad mb))] := hl
  refine lv_aload_n hx hb dX13_share_0 rfl (lv_at hl 0 rfl) ?_
  refine lv_iconst (v := 0) hx hb dX13_share_1 (by decide) ?_
  refine q_put (fs := modF ad mb mv) (fs' := modF ad mb (upd mv 2 0)) X hK hI hP hS fX13_share_173 fw_12_2 h_mb m_mb rfl rfl (Nat.le_of_ble_eq_true rfl) rfl dX13_share_2 (fun H locs hP hS => ?_)
  refine lv_aload_n hx hb dX13_share_5 rfl (lv_at hl 0 rfl) ?_
  refine q_get (v := .ref (ad (mb + 3))) (fs := modF ad mb (upd mv 2 0)) X hK hP fX13_share_40 h_mb (va_up_self M mb (.inr (12, modF ad mb (upd mv 2 0)))) rfl dX13_share_6 ?_
  refine lv_iconst (v := 0) hx hb dX13_share_9 (by decide) ?_
  refine q_ialdN (f := toldF) (k := 14) X hK hP 0 h_mb_3 ((va_up_ne M (.inr (12, modF ad mb (upd mv 2 0))) (show mb + 3 ≠ mb by omega)).trans m_mb_3) (by decide) (by decide) dX13_share_10 ?_
  refine lv_if_ne (tgt := 16) hx hb dX13_share_11 (by decide) (fun c_11 => ?_) (fun c_11 => ?_)
  · exact absurd (by rw [k0, h0p]; rfl) c_11
  · skip
    refine lv_iconst (v := (-1)) hx hb dX13_share_14 (by decide) ?_
    exact q_wzret X hr hlocks hP hS (rfl) ⟨(by rfl), (va_up_self M mb (.inr (12, modF ad mb (upd mv 2 0)))), (fun q n0 => (va_up_ne _ _ n0))⟩ dX13_share_15
end
