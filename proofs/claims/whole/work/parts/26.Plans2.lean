/-! PoundsOver$Plans: the shares -/
def gnS (np : Int32) : Nat → Int32 → (Nat → Int32) → (Nat → Int32)
  | 0, _, f => f
  | k + 1, cy, f => if cy = 0 then f else if tat 5 f (nI k) + 1 = np then gnS np k 1 (tset 5 f (nI k) 0) else gnS np k 0 (tset 5 f (nI k) (tat 5 f (nI k) + 1))
theorem gnS_0 (np : Int32) (f : Nat → Int32) : ∀ k : Nat, gnS np k 0 f = f
  | 0 => rfl
  | _ + 1 => if_pos rfl
set_option maxRecDepth 20000 in
theorem fX3_goToNextRow_112 : FL wsX3_goToNextRow RX3 112 0 6 := ⟨RX0, TX0, 12, rfl, by decide +kernel, by decide, by decide +kernel⟩
set_option maxRecDepth 20000 in
theorem fX3_goToNextRow_29 : FL wsX3_goToNextRow RX3 29 3 7 := ⟨RX3, TX3, 9, rfl, by decide +kernel, by decide, by decide +kernel⟩
set_option maxRecDepth 20000 in
theorem fX3_goToNextRow_121 : FL wsX3_goToNextRow RX3 121 0 5 := ⟨RX0, TX0, 12, rfl, by decide +kernel, by decide, by decide +kernel⟩
set_option maxHeartbeats 4000000 in
set_option maxRecDepth 100000 in
theorem c_X3_goToNextRow (l : Launch) (D : va_G) (cB cI cJ : ClassId) (ad : Nat → Nat) (n : Nat) (M : Nat → va_E) (hI : ipI ad n) (an h nc : Nat) (tof fk ck : Int32) (hv rwf : Nat → Int32) (h_an : an < n) (h_an_9 : an + 9 < n) (h_an_10 : an + 10 < n) (h_h : h < n) (m_an : M an = .inr (3, plansF ad an tof fk ck)) (m_an_9 : M (an + 9) = .inr (8, [.int 1, .ref (ad (an + 10))])) (m_an_10 : M (an + 10) = .inl (cI, 5, .inl rwf)) (m_h : M h = .inr (0, hallF ad h hv)) (h6 : hv 6 = nI nc) (hnc : nc ≤ 5) (hah : an + 12 < h ∨ h + 15 < an) : cWv l D cB cI cJ ad n M yX3_goToNextRow wsX3_goToNextRow 1 22 [.ref (ad an), .ref (ad h)] (fun M' => M' (an + 10) = .inl (cI, 5, .inl (gnS (hv 5) nc 1 rwf)) ∧ ∀ q : Nat, q ≠ an + 10 → M' q = M q) := by
  refine q_body (cc := cX3_goToNextRow) (maxL := 5) (ret := none) (by decide) rfl (Nat.le_of_ble_eq_true rfl) ?_
  intro p e s m args below meth c ls X hr hlocks hK hP hl
  obtain ⟨hx, hb, hml, hown, hts⟩ := id X
  have hS : va_S (ipA ad n) s.heap s.heap [] := va_S.rf
  have hl : lv_has ls 5 [(0, .ref (ad an)), (1, .ref (ad h))] := hl
  refine lv_iconst (v := 1) hx hb dX3_goToNextRow_0 (by decide) ?_
  refine lv_istore_n (lv' := [(2, .int 1), (0, .ref (ad an)), (1, .ref (ad h))]) hx hb dX3_goToNextRow_1 rfl hl (by decide) rfl (fun ls hl => ?_)
  refine lv_aload_n hx hb dX3_goToNextRow_2 rfl (lv_at hl 2 rfl) ?_
  refine q_get (v := .int (hv 6)) (fs := hallF ad h hv) X hK hP fX3_goToNextRow_112 h_h m_h rfl dX3_goToNextRow_3 ?_
  refine lv_iconst (v := 1) hx hb dX3_goToNextRow_6 (by decide) ?_
  refine lv_isub hx hb dX3_goToNextRow_7 ?_
  refine lv_istore_n (lv' := [(3, .int ((hv 6) - 1)), (2, .int 1), (0, .ref (ad an)), (1, .ref (ad h))]) hx hb dX3_goToNextRow_8 rfl hl (by decide) rfl (fun ls hl => ?_)
  have loop_9 : ∀ (fuel : Nat) (k1 : Nat) (cy : Int32) (y9 : Nat → Int32) (x3 : Int32), k1 < fuel → (k1 ≤ 5) → (gnS (hv 5) k1 cy y9 = gnS (hv 5) nc 1 rwf) → x3 = nI k1 - 1 → ∀ (ML9 : Nat → va_E) (H : Heap) (locs : List Loc), ML9 (an + 10) = .inl (cI, 5, .inl y9) → (∀ q : Nat, q ≠ an + 10 → ML9 q = M q) → va_P D vwCl (ip ad n ML9) H → va_S (ipA ad n) s.heap H locs → ∀ (ls : Array Slot), lv_has ls 5 [(0, .ref (ad an)), (1, .ref (ad h)), (2, .int cy), (3, .int x3)] → W p l e (rmOf 1 22) s m args below meth c H locs 0 0 (MQ below (va_Qv (fun M' => M' (an + 10) = .inl (cI, 5, .inl (gnS (hv 5) nc 1 rwf)) ∧ ∀ q : Nat, q ≠ an + 10 → M' q = M q) (fun M' t => va_P D vwCl (ip ad n M') t.heap) (ipA ad n)) args s 0 0 (ipA ad n)) (F0 m 9 ls []) := by
    intro fuel
    induction fuel with
    | zero =>
      intro k1 cy y9 x3 hz
      exact absurd hz (Nat.not_lt_zero _)
    | succ fuel ih_9 =>
      intro k1 cy y9 x3 hz_9 hk1 he e3 ML9 H locs mL9_0 fL9 hP hS ls hl
      subst e3
      skip
      refine lv_iload_n hx hb dX3_goToNextRow_9 rfl (lv_at hl 3 rfl) ?_
      refine lv_if_lt (tgt := 68) hx hb dX3_goToNextRow_10 (by decide) (fun c_10 => ?_) (fun c_10 => ?_)
      · skip
        have h9 := neg_of_0 (by omega) c_10; have hz9 : gnS (hv 5) k1 cy y9 = y9 := by rw [h9]; rfl
        exact q_wvret X hr hlocks hP hS ⟨(by refine mL9_0.trans ?_; rw [← he, hz9]), (fun q n0 => (fL9 q n0))⟩ dX3_goToNextRow_68
      · skip
        have hk0 := pos_of_n c_10
        refine lv_iload_n hx hb dX3_goToNextRow_13 rfl (lv_at hl 2 rfl) ?_
        refine lv_if_eq (tgt := 68) hx hb dX3_goToNextRow_14 (by decide) (fun c_14 => ?_) (fun c_14 => ?_)
        · skip
          have hz9 : gnS (hv 5) k1 cy y9 = y9 := by rw [c_14]; exact gnS_0 _ _ _
          exact q_wvret X hr hlocks hP hS ⟨(by refine mL9_0.trans ?_; rw [← he, hz9]), (fun q n0 => (fL9 q n0))⟩ dX3_goToNextRow_68
        · skip
          refine lv_aload_n hx hb dX3_goToNextRow_17 rfl (lv_at hl 0 rfl) ?_
          refine q_get (v := .ref (ad (an + 9))) (fs := plansF ad an tof fk ck) X hK hP fX3_goToNextRow_29 h_an ((fL9 an (by omega)).trans m_an) rfl dX3_goToNextRow_18 ?_
          refine lv_iload_n hx hb dX3_goToNextRow_21 rfl (lv_at hl 3 rfl) ?_
          refine q_rdV (As := [.int (nI k1 - 1)]) (rest := []) (c_X8_at l D cB cI cJ ad n ML9 (an + 9) (an + 10) 5 1 y9 (nI k1 - 1) h_an_9 h_an_10 ((fL9 (an + 9) (by omega)).trans m_an_9) mL9_0 (by decide)) X hK hP hS hl.1 rfl gX3_goToNextRow_X8_at yd_X8_at ⟨Nat.le_of_ble_eq_true rfl, Nat.le_of_ble_eq_true rfl⟩ h_an_9 ((fL9 (an + 9) (by omega)).trans m_an_9) (ci := 8) rfl rfl (Nat.le_of_ble_eq_true rfl) ⟨Nat.zero_le _, Nat.zero_le _⟩ dX3_goToNextRow_22 ?_
          refine lv_iconst (v := 1) hx hb dX3_goToNextRow_25 (by decide) ?_
          refine lv_iadd hx hb dX3_goToNextRow_26 ?_
          refine lv_istore (lv' := [(4, .int ((tat 5 y9 (nI k1 - 1)) + 1)), (0, .ref (ad an)), (1, .ref (ad h)), (2, .int cy), (3, .int (nI k1 - 1))]) hx hb dX3_goToNextRow_27 hl (by decide) rfl (fun ls hl => ?_)
          refine lv_iload hx hb dX3_goToNextRow_29 (lv_at hl 0 rfl) ?_
          refine lv_aload_n hx hb dX3_goToNextRow_31 rfl (lv_at hl 2 rfl) ?_
          refine q_get (v := .int (hv 5)) (fs := hallF ad h hv) X hK hP fX3_goToNextRow_121 h_h ((fL9 h (by omega)).trans m_h) rfl dX3_goToNextRow_32 ?_
          refine lv_icmp_ne (tgt := 42) hx hb dX3_goToNextRow_35 (by decide) (fun c_35 => ?_) (fun c_35 => ?_)
          · skip
            refine lv_iconst (v := 0) hx hb dX3_goToNextRow_42 (by decide) ?_
            refine lv_istore_n (lv' := [(2, .int 0), (4, .int ((tat 5 y9 (nI k1 - 1)) + 1)), (0, .ref (ad an)), (1, .ref (ad h)), (3, .int (nI k1 - 1))]) hx hb dX3_goToNextRow_43 rfl hl (by decide) rfl (fun ls hl => ?_)
            refine lv_aload_n hx hb dX3_goToNextRow_44 rfl (lv_at hl 2 rfl) ?_
            refine q_get (v := .ref (ad (an + 9))) (fs := plansF ad an tof fk ck) X hK hP fX3_goToNextRow_29 h_an ((fL9 an (by omega)).trans m_an) rfl dX3_goToNextRow_45 ?_
            refine lv_iload_n hx hb dX3_goToNextRow_48 rfl (lv_at hl 4 rfl) ?_
            refine lv_iload_n hx hb dX3_goToNextRow_49 rfl (lv_at hl 0 rfl) ?_
            refine lv_if_eq (tgt := 57) hx hb dX3_goToNextRow_50 (by decide) (fun c_50 => ?_) (fun c_50 => ?_)
            · clear c_50
              refine lv_iload hx hb dX3_goToNextRow_57 (lv_at hl 1 rfl) ?_
              refine q_wrVv (As := [.int (nI k1 - 1), .int ((tat 5 y9 (nI k1 - 1)) + 1)]) (rest := []) (c_X8_set l D cB cI cJ ad n ML9 hI (an + 9) (an + 10) 5 1 y9 (nI k1 - 1) ((tat 5 y9 (nI k1 - 1)) + 1) h_an_9 h_an_10 ((fL9 (an + 9) (by omega)).trans m_an_9) mL9_0 (by decide)) X hK hP hS hl.1 rfl gX3_goToNextRow_X8_set yd_X8_set ⟨Nat.le_of_ble_eq_true rfl, Nat.le_of_ble_eq_true rfl⟩ h_an_9 ((fL9 (an + 9) (by omega)).trans m_an_9) (ci := 8) rfl rfl (Nat.le_of_ble_eq_true rfl) ⟨Nat.zero_le _, Nat.zero_le _⟩ dX3_goToNextRow_59 (fun M2 H locs hp1 hP hS => ?_)
              obtain ⟨g4, fr5⟩ := hp1
              refine lv_iinc (v := ((nI k1 - 1) + (-1))) (lv' := [(3, .int ((nI k1 - 1) + (-1))), (2, .int 0), (4, .int ((tat 5 y9 (nI k1 - 1)) + 1)), (0, .ref (ad an)), (1, .ref (ad h))]) hx hb dX3_goToNextRow_62 hl (k := 4) rfl rfl (by decide) rfl (fun ls hl => ?_)
              refine lv_goto (tgt := 9) hx hb dX3_goToNextRow_65 (by decide) ?_
              exact ih_9 (k1 - 1) 0 (tset 5 y9 (nI k1 - 1) ((tat 5 y9 (nI k1 - 1)) + 1)) ((nI k1 - 1) + (-1)) (by omega) (by omega) (by rw [← he]; (conv => rhs; rw [show k1 = (k1 - 1) + 1 by omega]; rw [gnS, if_neg c_14]); rw [nI_sub1 hk0] at c_35 ⊢; first | (rw [if_pos c_35]; done) | (rw [if_neg c_35]; done)) (by rw [nI_sub1 hk0]; exact pk_m1' (by omega)) _ _ _ g4 (fun q n0 => ((fr5 q n0).trans (fL9 q n0))) hP hS ls (lv_sub hl [3, 4, 1, 0] rfl)
            · exact absurd c_50 (by decide)
          · skip
            refine lv_iconst (v := 1) hx hb dX3_goToNextRow_38 (by decide) ?_
            refine lv_goto (tgt := 43) hx hb dX3_goToNextRow_39 (by decide) ?_
            refine lv_istore_n (lv' := [(2, .int 1), (4, .int ((tat 5 y9 (nI k1 - 1)) + 1)), (0, .ref (ad an)), (1, .ref (ad h)), (3, .int (nI k1 - 1))]) hx hb dX3_goToNextRow_43 rfl hl (by decide) rfl (fun ls hl => ?_)
            refine lv_aload_n hx hb dX3_goToNextRow_44 rfl (lv_at hl 2 rfl) ?_
            refine q_get (v := .ref (ad (an + 9))) (fs := plansF ad an tof fk ck) X hK hP fX3_goToNextRow_29 h_an ((fL9 an (by omega)).trans m_an) rfl dX3_goToNextRow_45 ?_
            refine lv_iload_n hx hb dX3_goToNextRow_48 rfl (lv_at hl 4 rfl) ?_
            refine lv_iload_n hx hb dX3_goToNextRow_49 rfl (lv_at hl 0 rfl) ?_
            refine lv_if_eq (tgt := 57) hx hb dX3_goToNextRow_50 (by decide) (fun c_50 => ?_) (fun c_50 => ?_)
            · exact absurd c_50 (by decide)
            · clear c_50
              refine lv_iconst (v := 0) hx hb dX3_goToNextRow_53 (by decide) ?_
              refine lv_goto (tgt := 59) hx hb dX3_goToNextRow_54 (by decide) ?_
              refine q_wrVv (As := [.int (nI k1 - 1), .int 0]) (rest := []) (c_X8_set l D cB cI cJ ad n ML9 hI (an + 9) (an + 10) 5 1 y9 (nI k1 - 1) 0 h_an_9 h_an_10 ((fL9 (an + 9) (by omega)).trans m_an_9) mL9_0 (by decide)) X hK hP hS hl.1 rfl gX3_goToNextRow_X8_set yd_X8_set ⟨Nat.le_of_ble_eq_true rfl, Nat.le_of_ble_eq_true rfl⟩ h_an_9 ((fL9 (an + 9) (by omega)).trans m_an_9) (ci := 8) rfl rfl (Nat.le_of_ble_eq_true rfl) ⟨Nat.zero_le _, Nat.zero_le _⟩ dX3_goToNextRow_59 (fun M7 H locs hp6 hP hS => ?_)
              obtain ⟨g9, fr10⟩ := hp6
              refine lv_iinc (v := ((nI k1 - 1) + (-1))) (lv' := [(3, .int ((nI k1 - 1) + (-1))), (2, .int 1), (4, .int ((tat 5 y9 (nI k1 - 1)) + 1)), (0, .ref (ad an)), (1, .ref (ad h))]) hx hb dX3_goToNextRow_62 hl (k := 4) rfl rfl (by decide) rfl (fun ls hl => ?_)
              refine lv_goto (tgt := 9) hx hb dX3_goToNextRow_65 (by decide) ?_
              exact ih_9 (k1 - 1) 1 (tset 5 y9 (nI k1 - 1) 0) ((nI k1 - 1) + (-1)) (by omega) (by omega) (by rw [← he]; (conv => rhs; rw [show k1 = (k1 - 1) + 1 by omega]; rw [gnS, if_neg c_14]); rw [nI_sub1 hk0] at c_35 ⊢; first | (rw [if_pos c_35]; done) | (rw [if_neg c_35]; done)) (by rw [nI_sub1 hk0]; exact pk_m1' (by omega)) _ _ _ g9 (fun q n0 => ((fr10 q n0).trans (fL9 q n0))) hP hS ls (lv_sub hl [3, 4, 1, 0] rfl)
  exact loop_9 (6) nc 1 rwf ((hv 6) - 1) (by omega) (by omega) (by rfl) (by rw [h6]) _ _ _ m_an_10 (fun q n0 => rfl) hP hS ls (lv_sub hl [2, 3, 1, 0] rfl)
set_option maxRecDepth 20000 in
theorem nX3_leastShare_46 : ∀ w ∈ u_ws RX7 TX7 3, w ∈ wsX3_leastShare := by decide +kernel
set_option maxRecDepth 20000 in
theorem fX3_leastShare_121 : FL wsX3_leastShare RX3 121 0 5 := ⟨RX0, TX0, 12, rfl, by decide +kernel, by decide, by decide +kernel⟩
set_option maxRecDepth 20000 in
theorem fX3_leastShare_112 : FL wsX3_leastShare RX3 112 0 6 := ⟨RX0, TX0, 12, rfl, by decide +kernel, by decide, by decide +kernel⟩
set_option maxRecDepth 20000 in
theorem fX3_leastShare_32 : FL wsX3_leastShare RX3 32 3 8 := ⟨RX3, TX3, 9, rfl, by decide +kernel, by decide, by decide +kernel⟩
set_option maxRecDepth 20000 in
theorem fX3_leastShare_29 : FL wsX3_leastShare RX3 29 3 7 := ⟨RX3, TX3, 9, rfl, by decide +kernel, by decide, by decide +kernel⟩
theorem yd_X3_greatestShare : YD yX3_greatestShare 1 := ⟨by decide +kernel, by decide +kernel, by decide +kernel⟩
set_option maxRecDepth 20000 in
theorem fX3_leastShare_26 : FL wsX3_leastShare RX3 26 3 5 := ⟨RX3, TX3, 9, rfl, by decide +kernel, by decide, by decide +kernel⟩
theorem yd_X3_goToNextRow : YD yX3_goToNextRow 1 := ⟨by decide +kernel, by decide +kernel, by decide +kernel⟩
set_option maxRecDepth 20000 in
theorem fX3_leastShare_39 : FL wsX3_leastShare RX3 39 3 6 := ⟨RX3, TX3, 9, rfl, by decide +kernel, by decide, by decide +kernel⟩
def s_X3_leastShare_19s (nt : Nat) (hv : Nat → Int32) (tf : Nat → Int32) (plf : Nat → Int32) (t19 : Nat) (x19_3 : Int32) (y19_0 : Nat → Int32) : Int32 × (Nat → Int32) := ((x19_3 * (hv 5)), tset 5 y19_0 (nI t19) (wiS nt tf plf (nI t19)))
def s_X3_leastShare_19 (nt : Nat) (hv : Nat → Int32) (tf : Nat → Int32) (plf : Nat → Int32) (z0 : Int32) (z1 : Nat → Int32) : Nat → Int32 × (Nat → Int32)
  | 0 => (z0, z1)
  | t + 1 => s_X3_leastShare_19s nt hv tf plf t ((s_X3_leastShare_19 nt hv tf plf z0 z1 t).1) ((s_X3_leastShare_19 nt hv tf plf z0 z1 t).2)
def s_X3_leastShare_70s (nt : Nat) (nc : Nat) (np : Nat) (hv : Nat → Int32) (pf : Nat → Int32) (tf : Nat → Int32) (plf : Nat → Int32) (wef : Nat → Int32) (t70 : Nat) (x70_4 : Int32) (y70_0 : Nat → Int32) (y70_1 : Nat → Int32) : Int32 × (Nat → Int32) × (Nat → Int32) := if x70_4 = (-1) then ((s_X3_greatestShare np nc pf y70_1 ((s_X3_leastShare_19 nt hv tf plf 1 wef nc).2)), (fun q => tat 5 y70_1 (nI q)), (gnS (hv 5) nc 1 y70_1)) else if x70_4 ≤ (s_X3_greatestShare np nc pf y70_1 ((s_X3_leastShare_19 nt hv tf plf 1 wef nc).2)) then (x70_4, y70_0, (gnS (hv 5) nc 1 y70_1)) else ((s_X3_greatestShare np nc pf y70_1 ((s_X3_leastShare_19 nt hv tf plf 1 wef nc).2)), (fun q => tat 5 y70_1 (nI q)), (gnS (hv 5) nc 1 y70_1))
def s_X3_leastShare_70 (nt : Nat) (nc : Nat) (np : Nat) (hv : Nat → Int32) (pf : Nat → Int32) (tf : Nat → Int32) (plf : Nat → Int32) (wef : Nat → Int32) (z0 : Int32) (z1 : Nat → Int32) (z2 : Nat → Int32) : Nat → Int32 × (Nat → Int32) × (Nat → Int32)
  | 0 => (z0, z1, z2)
  | t + 1 => s_X3_leastShare_70s nt nc np hv pf tf plf wef t ((s_X3_leastShare_70 nt nc np hv pf tf plf wef z0 z1 z2 t).1) ((s_X3_leastShare_70 nt nc np hv pf tf plf wef z0 z1 z2 t).2.1) ((s_X3_leastShare_70 nt nc np hv pf tf plf wef z0 z1 z2 t).2.2)
def s_X3_leastShare (nz : Nat) (nt : Nat) (nc : Nat) (np : Nat) (hv : Nat → Int32) (pf : Nat → Int32) (tf : Nat → Int32) (plf : Nat → Int32) (caf : Nat → Int32) (wef : Nat → Int32) : Int32 := if (hv 5) = 0 then (-1) else ((s_X3_leastShare_70 nt nc np hv pf tf plf wef (-1) caf (fun _ => 0) nz).1)
def s_X3_leastShare_0_3 (ck : Int32) (hv : Nat → Int32) : Int32 := if (hv 5) = 0 then ck else 1
def s_X3_leastShare_1_f (nz : Nat) (nt : Nat) (nc : Nat) (np : Nat) (hv : Nat → Int32) (pf : Nat → Int32) (tf : Nat → Int32) (plf : Nat → Int32) (caf : Nat → Int32) (wef : Nat → Int32) : Nat → Int32 := if (hv 5) = 0 then caf else ((s_X3_leastShare_70 nt nc np hv pf tf plf wef (-1) caf (fun _ => 0) nz).2.1)
def s_X3_leastShare_2_f (nz : Nat) (nt : Nat) (nc : Nat) (np : Nat) (hv : Nat → Int32) (pf : Nat → Int32) (tf : Nat → Int32) (plf : Nat → Int32) (caf : Nat → Int32) (rwf : Nat → Int32) (wef : Nat → Int32) : Nat → Int32 := if (hv 5) = 0 then rwf else ((s_X3_leastShare_70 nt nc np hv pf tf plf wef (-1) caf (fun _ => 0) nz).2.2)
def s_X3_leastShare_3_f (nt : Nat) (nc : Nat) (hv : Nat → Int32) (tf : Nat → Int32) (plf : Nat → Int32) (wef : Nat → Int32) : Nat → Int32 := if (hv 5) = 0 then wef else ((s_X3_leastShare_19 nt hv tf plf 1 wef nc).2)
set_option maxHeartbeats 4000000 in
set_option maxRecDepth 100000 in
theorem c_X3_leastShare (l : Launch) (D : va_G) (cB cI cJ : ClassId) (ad : Nat → Nat) (n : Nat) (M : Nat → va_E) (hI : ipI ad n) (an g h nz nt nc np : Nat) (tof fk ck op : Int32) (hv pf tf plf caf rwf wef : Nat → Int32) (h_an : an < n) (h_an_7 : an + 7 < n) (h_an_8 : an + 8 < n) (h_an_9 : an + 9 < n) (h_an_10 : an + 10 < n) (h_an_11 : an + 11 < n) (h_an_12 : an + 12 < n) (h_g : g < n) (h_g_1 : g + 1 < n) (h_g_2 : g + 2 < n) (h_h : h < n) (h_h_5 : h + 5 < n) (h_h_6 : h + 6 < n) (h_h_1 : h + 1 < n) (h_h_2 : h + 2 < n) (m_an : M an = .inr (3, plansF ad an tof fk ck)) (m_an_7 : M (an + 7) = .inr (8, [.int 1, .ref (ad (an + 8))])) (m_an_8 : M (an + 8) = .inl (cI, 5, .inl caf)) (m_an_9 : M (an + 9) = .inr (8, [.int 1, .ref (ad (an + 10))])) (m_an_10 : M (an + 10) = .inl (cI, 5, .inl rwf)) (m_an_11 : M (an + 11) = .inr (8, [.int 1, .ref (ad (an + 12))])) (m_an_12 : M (an + 12) = .inl (cI, 5, .inl wef)) (m_g : M g = .inr (7, standF ad g h op)) (m_g_1 : M (g + 1) = .inr (8, [.int 1, .ref (ad (g + 2))])) (m_g_2 : M (g + 2) = .inl (cI, 12, .inl plf)) (m_h : M h = .inr (0, hallF ad h hv)) (m_h_5 : M (h + 5) = .inr (8, [.int 7, .ref (ad (h + 6))])) (m_h_6 : M (h + 6) = .inl (cI, 84, .inl tf)) (m_h_1 : M (h + 1) = .inr (8, [.int 3, .ref (ad (h + 2))])) (m_h_2 : M (h + 2) = .inl (cI, 12, .inl pf)) (h7 : hv 7 = nI nt) (hnt : nt ≤ 12) (h6 : hv 6 = nI nc) (hnc : nc ≤ 5) (h5 : hv 5 = nI np) (hnp : np ≤ 4) (hah : an + 12 < h ∨ h + 15 < an) (hag : an + 12 < g ∨ g + 2 < an) (hz : (s_X3_leastShare_19 nt hv tf plf 1 wef nc).1 = nI nz) (hnz : nz ≤ 1024) : cWi l D cB cI cJ ad n M yX3_leastShare wsX3_leastShare 3 68 [.ref (ad an), .ref (ad g)] (fun r M' => r = s_X3_leastShare nz nt nc np hv pf tf plf caf wef ∧ M' an = .inr (3, plansF ad an tof fk (s_X3_leastShare_0_3 ck hv)) ∧ M' (an + 8) = .inl (cI, 5, .inl (s_X3_leastShare_1_f nz nt nc np hv pf tf plf caf wef)) ∧ M' (an + 10) = .inl (cI, 5, .inl (s_X3_leastShare_2_f nz nt nc np hv pf tf plf caf rwf wef)) ∧ M' (an + 12) = .inl (cI, 5, .inl (s_X3_leastShare_3_f nt nc hv tf plf wef)) ∧ ∀ q : Nat, q ≠ an → q ≠ an + 8 → q ≠ an + 10 → q ≠ an + 12 → M' q = M q) := by
  refine q_body (cc := cX3_leastShare) (maxL := 7) (ret := (some .int)) (by decide) rfl (Nat.le_of_ble_eq_true rfl) ?_
  intro p e s m args below meth c ls X hr hlocks hK hP hl
  obtain ⟨hx, hb, hml, hown, hts⟩ := id X
  have hS : va_S (ipA ad n) s.heap s.heap [] := va_S.rf
  have hl : lv_has ls 7 [(0, .ref (ad an)), (1, .ref (ad g))] := hl
  refine lv_aload_n hx hb dX3_leastShare_0 rfl (lv_at hl 1 rfl) ?_
  refine q_getN (v := .ref (ad h)) (fs := standF ad g h op) (T := TX7) (k := 0) (C := RX7) (N := 3) (ci := 7) X hK hP hK.1.2.2.1 rfl nX3_leastShare_46 (by decide) h_g m_g rfl dX3_leastShare_1 ?_
  refine lv_astore_n (lv' := [(2, .ref (ad h)), (0, .ref (ad an)), (1, .ref (ad g))]) hx hb dX3_leastShare_4 rfl hl (by decide) rfl (fun ls hl => ?_)
  refine lv_aload_n hx hb dX3_leastShare_5 rfl (lv_at hl 0 rfl) ?_
  refine q_get (v := .int (hv 5)) (fs := hallF ad h hv) X hK hP fX3_leastShare_121 h_h m_h rfl dX3_leastShare_6 ?_
  refine lv_if_ne (tgt := 14) hx hb dX3_leastShare_9 (by decide) (fun c_9 => ?_) (fun c_9 => ?_)
  · skip
    refine lv_iconst (v := 1) hx hb dX3_leastShare_14 (by decide) ?_
    refine lv_istore_n (lv' := [(3, .int 1), (2, .ref (ad h)), (0, .ref (ad an)), (1, .ref (ad g))]) hx hb dX3_leastShare_15 rfl hl (by decide) rfl (fun ls hl => ?_)
    refine lv_iconst (v := 0) hx hb dX3_leastShare_16 (by decide) ?_
    refine lv_istore (lv' := [(4, .int 0), (3, .int 1), (2, .ref (ad h)), (0, .ref (ad an)), (1, .ref (ad g))]) hx hb dX3_leastShare_17 hl (by decide) rfl (fun ls hl => ?_)
    have loop_19 : ∀ (fuel : Nat) (t19 : Nat) (x19_3 : Int32) (y19_0 : Nat → Int32), nc - (t19) < fuel → t19 ≤ nc → x19_3 = (s_X3_leastShare_19 nt hv tf plf 1 wef t19).1 → y19_0 = (s_X3_leastShare_19 nt hv tf plf 1 wef t19).2 → ∀ (ML19 : Nat → va_E) (H : Heap) (locs : List Loc), ML19 (an + 12) = .inl (cI, 5, .inl y19_0) → (∀ q : Nat, q ≠ an + 12 → ML19 q = M q) → va_P D vwCl (ip ad n ML19) H → va_S (ipA ad n) s.heap H locs → ∀ (ls : Array Slot), lv_has ls 7 [(4, .int (nI t19)), (3, .int x19_3), (2, .ref (ad h)), (0, .ref (ad an)), (1, .ref (ad g))] → W p l e (rmOf 3 68) s m args below meth c H locs 0 0 (MQ below (va_Qi (fun r M' => r = s_X3_leastShare nz nt nc np hv pf tf plf caf wef ∧ M' an = .inr (3, plansF ad an tof fk (s_X3_leastShare_0_3 ck hv)) ∧ M' (an + 8) = .inl (cI, 5, .inl (s_X3_leastShare_1_f nz nt nc np hv pf tf plf caf wef)) ∧ M' (an + 10) = .inl (cI, 5, .inl (s_X3_leastShare_2_f nz nt nc np hv pf tf plf caf rwf wef)) ∧ M' (an + 12) = .inl (cI, 5, .inl (s_X3_leastShare_3_f nt nc hv tf plf wef)) ∧ ∀ q : Nat, q ≠ an → q ≠ an + 8 → q ≠ an + 10 → q ≠ an + 12 → M' q = M q) (fun M' t => va_P D vwCl (ip ad n M') t.heap) (ipA ad n)) args s 0 0 (ipA ad n)) (F0 m 19 ls []) := by
      intro fuel
      induction fuel with
      | zero =>
        intro t19 x19_3 y19_0 hz
        exact absurd hz (Nat.not_lt_zero _)
      | succ fuel ih_19 =>
        intro t19 x19_3 y19_0 hz_19 h_t19 e_x19_3 e_y19_0 ML19 H locs mL19_0 fL19 hP hS ls hl
        skip
        refine lv_iload hx hb dX3_leastShare_19 (lv_at hl 0 rfl) ?_
        refine lv_aload_n hx hb dX3_leastShare_21 rfl (lv_at hl 2 rfl) ?_
        refine q_get (v := .int (hv 6)) (fs := hallF ad h hv) X hK hP fX3_leastShare_112 h_h ((fL19 h (by omega)).trans m_h) rfl dX3_leastShare_22 ?_
        refine lv_icmp_ge (tgt := 56) hx hb dX3_leastShare_25 (by decide) (fun c_25 => ?_) (fun c_25 => ?_)
        · rw [h6] at c_25
          have h9_19 : t19 = nc := eq_of_le (t := t19) (k := nc) c_25 (by omega) h_t19
          subst t19
          subst e_x19_3
          subst e_y19_0
          refine lv_iconst (v := (-1)) hx hb dX3_leastShare_56 (by decide) ?_
          refine lv_istore (lv' := [(4, .int (-1)), (3, .int ((s_X3_leastShare_19 nt hv tf plf 1 wef nc).1)), (2, .ref (ad h)), (0, .ref (ad an)), (1, .ref (ad g))]) hx hb dX3_leastShare_57 hl (by decide) rfl (fun ls hl => ?_)
          refine lv_aload_n hx hb dX3_leastShare_59 rfl (lv_at hl 3 rfl) ?_
          refine q_get (v := .ref (ad (an + 9))) (fs := plansF ad an tof fk ck) X hK hP fX3_leastShare_29 h_an ((fL19 an (by omega)).trans m_an) rfl dX3_leastShare_60 ?_
          refine lv_iconst (v := 0) hx hb dX3_leastShare_63 (by decide) ?_
          refine q_wrVv (As := [.int 0]) (rest := []) (c_X8_fill l D cB cI cJ ad n ML19 hI (an + 9) (an + 10) 5 1 rwf 0 h_an_9 h_an_10 ((fL19 (an + 9) (by omega)).trans m_an_9) ((fL19 (an + 10) (by omega)).trans m_an_10) (by decide)) X hK hP hS hl.1 rfl gX3_leastShare_X8_fill yd_X8_fill ⟨Nat.le_of_ble_eq_true rfl, Nat.le_of_ble_eq_true rfl⟩ h_an_9 ((fL19 (an + 9) (by omega)).trans m_an_9) (ci := 8) rfl rfl (Nat.le_of_ble_eq_true rfl) ⟨Nat.zero_le _, Nat.zero_le _⟩ dX3_leastShare_64 (fun M2 H locs hp1 hP hS => ?_)
          obtain ⟨g4, fr5⟩ := hp1
          refine lv_iconst (v := 0) hx hb dX3_leastShare_67 (by decide) ?_
          refine lv_istore (lv' := [(5, .int 0), (4, .int (-1)), (3, .int ((s_X3_leastShare_19 nt hv tf plf 1 wef nc).1)), (2, .ref (ad h)), (0, .ref (ad an)), (1, .ref (ad g))]) hx hb dX3_leastShare_68 hl (by decide) rfl (fun ls hl => ?_)
          have loop_70 : ∀ (fuel : Nat) (t70 : Nat) (x70_4 : Int32) (y70_0 : Nat → Int32) (y70_1 : Nat → Int32), nz - (t70) < fuel → t70 ≤ nz → x70_4 = (s_X3_leastShare_70 nt nc np hv pf tf plf wef (-1) caf (fun _ => 0) t70).1 → y70_0 = (s_X3_leastShare_70 nt nc np hv pf tf plf wef (-1) caf (fun _ => 0) t70).2.1 → y70_1 = (s_X3_leastShare_70 nt nc np hv pf tf plf wef (-1) caf (fun _ => 0) t70).2.2 → ∀ (ML70 : Nat → va_E) (H : Heap) (locs : List Loc), ML70 (an + 8) = .inl (cI, 5, .inl y70_0) → ML70 (an + 10) = .inl (cI, 5, .inl y70_1) → (∀ q : Nat, q ≠ an + 8 → q ≠ an + 10 → ML70 q = M2 q) → va_P D vwCl (ip ad n ML70) H → va_S (ipA ad n) s.heap H locs → ∀ (ls : Array Slot), lv_has ls 7 [(5, .int (nI t70)), (4, .int x70_4), (3, .int ((s_X3_leastShare_19 nt hv tf plf 1 wef nc).1)), (2, .ref (ad h)), (0, .ref (ad an)), (1, .ref (ad g))] → W p l e (rmOf 3 68) s m args below meth c H locs 0 0 (MQ below (va_Qi (fun r M' => r = s_X3_leastShare nz nt nc np hv pf tf plf caf wef ∧ M' an = .inr (3, plansF ad an tof fk (s_X3_leastShare_0_3 ck hv)) ∧ M' (an + 8) = .inl (cI, 5, .inl (s_X3_leastShare_1_f nz nt nc np hv pf tf plf caf wef)) ∧ M' (an + 10) = .inl (cI, 5, .inl (s_X3_leastShare_2_f nz nt nc np hv pf tf plf caf rwf wef)) ∧ M' (an + 12) = .inl (cI, 5, .inl (s_X3_leastShare_3_f nt nc hv tf plf wef)) ∧ ∀ q : Nat, q ≠ an → q ≠ an + 8 → q ≠ an + 10 → q ≠ an + 12 → M' q = M q) (fun M' t => va_P D vwCl (ip ad n M') t.heap) (ipA ad n)) args s 0 0 (ipA ad n)) (F0 m 70 ls []) := by
            intro fuel
            induction fuel with
            | zero =>
              intro t70 x70_4 y70_0 y70_1 hz
              exact absurd hz (Nat.not_lt_zero _)
            | succ fuel ih_70 =>
              intro t70 x70_4 y70_0 y70_1 hz_70 h_t70 e_x70_4 e_y70_0 e_y70_1 ML70 H locs mL70_0 mL70_1 fL70 hP hS ls hl
              skip
              refine lv_iload hx hb dX3_leastShare_70 (lv_at hl 0 rfl) ?_
              refine lv_iload_n hx hb dX3_leastShare_72 rfl (lv_at hl 2 rfl) ?_
              refine lv_icmp_ge (tgt := 122) hx hb dX3_leastShare_73 (by decide) (fun c_73 => ?_) (fun c_73 => ?_)
              · rw [hz] at c_73
                have h9_70 : t70 = nz := eq_of_le (t := t70) (k := nz) c_73 (by omega) h_t70
                subst t70
                subst e_x70_4
                subst e_y70_0
                subst e_y70_1
                refine lv_aload_n hx hb dX3_leastShare_122 rfl (lv_at hl 4 rfl) ?_
                refine lv_iconst (v := 1) hx hb dX3_leastShare_123 (by decide) ?_
                refine q_put (fs := plansF ad an tof fk ck) (fs' := plansF ad an tof fk 1) X hK hI hP hS fX3_leastShare_39 fw_3_6 h_an ((fL70 an (by omega) (by omega)).trans ((fr5 an (by omega)).trans ((fL19 an (by omega)).trans m_an))) rfl rfl (Nat.le_of_ble_eq_true rfl) rfl dX3_leastShare_124 (fun H locs hP hS => ?_)
                refine lv_iload hx hb dX3_leastShare_127 (lv_at hl 1 rfl) ?_
                exact q_wzret X hr hlocks hP hS (rfl) ⟨(by rw [s_X3_leastShare, if_neg c_9]), (by rw [s_X3_leastShare_0_3, if_neg c_9]; exact (va_up_self ML70 an (.inr (3, plansF ad an tof fk 1)))), (by rw [s_X3_leastShare_1_f, if_neg c_9]; exact ((va_up_ne ML70 (.inr (3, plansF ad an tof fk 1)) (show an + 8 ≠ an by omega)).trans mL70_0)), (by rw [s_X3_leastShare_2_f, if_neg c_9]; exact ((va_up_ne ML70 (.inr (3, plansF ad an tof fk 1)) (show an + 10 ≠ an by omega)).trans mL70_1)), (by rw [s_X3_leastShare_3_f, if_neg c_9]; exact ((va_up_ne ML70 (.inr (3, plansF ad an tof fk 1)) (show an + 12 ≠ an by omega)).trans ((fL70 (an + 12) (by omega) (by omega)).trans ((fr5 (an + 12) (by omega)).trans mL19_0)))), (fun q n0 n1 n2 n3 => ((va_up_ne _ _ n0).trans ((fL70 q n1 n2).trans ((fr5 q n2).trans (fL19 q n3)))))⟩ dX3_leastShare_129
              · rw [hz] at c_73
                have h9_70 : t70 < nz := lt_of_nlt (t := t70) (k := nz) c_73 (by omega) h_t70
                refine lv_aload_n hx hb dX3_leastShare_76 rfl (lv_at hl 4 rfl) ?_
                refine lv_aload_n hx hb dX3_leastShare_77 rfl (lv_at hl 3 rfl) ?_
                refine q_rdV (As := [.ref (ad h)]) (rest := []) (c_X3_greatestShare l D cB cI cJ ad n ML70 an h np nc tof fk ck hv pf y70_1 ((s_X3_leastShare_19 nt hv tf plf 1 wef nc).2) h_an h_an_9 h_an_10 h_an_11 h_an_12 h_h h_h_1 h_h_2 ((fL70 an (by omega) (by omega)).trans ((fr5 an (by omega)).trans ((fL19 an (by omega)).trans m_an))) ((fL70 (an + 9) (by omega) (by omega)).trans ((fr5 (an + 9) (by omega)).trans ((fL19 (an + 9) (by omega)).trans m_an_9))) mL70_1 ((fL70 (an + 11) (by omega) (by omega)).trans ((fr5 (an + 11) (by omega)).trans ((fL19 (an + 11) (by omega)).trans m_an_11))) ((fL70 (an + 12) (by omega) (by omega)).trans ((fr5 (an + 12) (by omega)).trans mL19_0)) ((fL70 h (by omega) (by omega)).trans ((fr5 h (by omega)).trans ((fL19 h (by omega)).trans m_h))) ((fL70 (h + 1) (by omega) (by omega)).trans ((fr5 (h + 1) (by omega)).trans ((fL19 (h + 1) (by omega)).trans m_h_1))) ((fL70 (h + 2) (by omega) (by omega)).trans ((fr5 (h + 2) (by omega)).trans ((fL19 (h + 2) (by omega)).trans m_h_2))) h6 hnc h5 hnp) X hK hP hS hl.1 rfl gX3_leastShare_X3_greatestShare yd_X3_greatestShare ⟨Nat.le_of_ble_eq_true rfl, Nat.le_of_ble_eq_true rfl⟩ h_an ((fL70 an (by omega) (by omega)).trans ((fr5 an (by omega)).trans ((fL19 an (by omega)).trans m_an))) (ci := 3) rfl rfl (Nat.le_of_ble_eq_true rfl) ⟨Nat.zero_le _, Nat.zero_le _⟩ dX3_leastShare_78 ?_
                refine lv_istore (lv' := [(6, .int (s_X3_greatestShare np nc pf y70_1 ((s_X3_leastShare_19 nt hv tf plf 1 wef nc).2))), (5, .int (nI t70)), (4, .int x70_4), (3, .int ((s_X3_leastShare_19 nt hv tf plf 1 wef nc).1)), (2, .ref (ad h)), (0, .ref (ad an)), (1, .ref (ad g))]) hx hb dX3_leastShare_81 hl (by decide) rfl (fun ls hl => ?_)
                refine lv_iload hx hb dX3_leastShare_83 (lv_at hl 2 rfl) ?_
                refine lv_iconst (v := (-1)) hx hb dX3_leastShare_85 (by decide) ?_
                refine lv_icmp_eq (tgt := 96) hx hb dX3_leastShare_86 (by decide) (fun c_86 => ?_) (fun c_86 => ?_)
                · skip
                  refine lv_iload hx hb dX3_leastShare_96 (lv_at hl 0 rfl) ?_
                  refine lv_istore (lv' := [(4, .int (s_X3_greatestShare np nc pf y70_1 ((s_X3_leastShare_19 nt hv tf plf 1 wef nc).2))), (6, .int (s_X3_greatestShare np nc pf y70_1 ((s_X3_leastShare_19 nt hv tf plf 1 wef nc).2))), (5, .int (nI t70)), (3, .int ((s_X3_leastShare_19 nt hv tf plf 1 wef nc).1)), (2, .ref (ad h)), (0, .ref (ad an)), (1, .ref (ad g))]) hx hb dX3_leastShare_98 hl (by decide) rfl (fun ls hl => ?_)
                  refine lv_aload_n hx hb dX3_leastShare_100 rfl (lv_at hl 5 rfl) ?_
                  refine q_get (v := .ref (ad (an + 7))) (fs := plansF ad an tof fk ck) X hK hP fX3_leastShare_26 h_an ((fL70 an (by omega) (by omega)).trans ((fr5 an (by omega)).trans ((fL19 an (by omega)).trans m_an))) rfl dX3_leastShare_101 ?_
                  refine lv_aload_n hx hb dX3_leastShare_104 rfl (lv_at hl 5 rfl) ?_
                  refine q_get (v := .ref (ad (an + 9))) (fs := plansF ad an tof fk ck) X hK hP fX3_leastShare_29 h_an ((fL70 an (by omega) (by omega)).trans ((fr5 an (by omega)).trans ((fL19 an (by omega)).trans m_an))) rfl dX3_leastShare_105 ?_
                  refine q_wrVv (As := [.ref (ad (an + 9))]) (rest := []) (c_X8_become l D cB cI cJ ad n ML70 hI (an + 7) (an + 8) 5 (an + 9) (an + 10) 5 1 1 y70_0 y70_1 h_an_7 h_an_8 h_an_9 h_an_10 ((fL70 (an + 7) (by omega) (by omega)).trans ((fr5 (an + 7) (by omega)).trans ((fL19 (an + 7) (by omega)).trans m_an_7))) mL70_0 ((fL70 (an + 9) (by omega) (by omega)).trans ((fr5 (an + 9) (by omega)).trans ((fL19 (an + 9) (by omega)).trans m_an_9))) mL70_1 (by decide) (by decide) (by first | assumption | omega | exact vp_in_nI (by omega) (by decide) | exact vp_in_iff.mpr (by decide))) X hK hP hS hl.1 rfl gX3_leastShare_X8_become yd_X8_become ⟨Nat.le_of_ble_eq_true rfl, Nat.le_of_ble_eq_true rfl⟩ h_an_7 ((fL70 (an + 7) (by omega) (by omega)).trans ((fr5 (an + 7) (by omega)).trans ((fL19 (an + 7) (by omega)).trans m_an_7))) (ci := 8) rfl rfl (Nat.le_of_ble_eq_true rfl) ⟨Nat.zero_le _, Nat.zero_le _⟩ dX3_leastShare_108 (fun M9 H locs hp8 hP hS => ?_)
                  obtain ⟨g11, fr12⟩ := hp8
                  refine lv_aload_n hx hb dX3_leastShare_111 rfl (lv_at hl 5 rfl) ?_
                  refine lv_aload_n hx hb dX3_leastShare_112 rfl (lv_at hl 4 rfl) ?_
                  refine q_wrVv (As := [.ref (ad h)]) (rest := []) (c_X3_goToNextRow l D cB cI cJ ad n M9 hI an h nc tof fk ck hv y70_1 h_an h_an_9 h_an_10 h_h ((fr12 an (by omega)).trans ((fL70 an (by omega) (by omega)).trans ((fr5 an (by omega)).trans ((fL19 an (by omega)).trans m_an)))) ((fr12 (an + 9) (by omega)).trans ((fL70 (an + 9) (by omega) (by omega)).trans ((fr5 (an + 9) (by omega)).trans ((fL19 (an + 9) (by omega)).trans m_an_9)))) ((fr12 (an + 10) (by omega)).trans mL70_1) ((fr12 h (by omega)).trans ((fL70 h (by omega) (by omega)).trans ((fr5 h (by omega)).trans ((fL19 h (by omega)).trans m_h)))) h6 hnc hah) X hK hP hS hl.1 rfl gX3_leastShare_X3_goToNextRow yd_X3_goToNextRow ⟨Nat.le_of_ble_eq_true rfl, Nat.le_of_ble_eq_true rfl⟩ h_an ((fr12 an (by omega)).trans ((fL70 an (by omega) (by omega)).trans ((fr5 an (by omega)).trans ((fL19 an (by omega)).trans m_an)))) (ci := 3) rfl rfl (Nat.le_of_ble_eq_true rfl) ⟨Nat.zero_le _, Nat.zero_le _⟩ dX3_leastShare_113 (fun M14 H locs hp13 hP hS => ?_)
                  obtain ⟨g16, fr17⟩ := hp13
                  refine lv_iinc (v := ((nI t70) + 1)) (lv' := [(5, .int ((nI t70) + 1)), (4, .int (s_X3_greatestShare np nc pf y70_1 ((s_X3_leastShare_19 nt hv tf plf 1 wef nc).2))), (6, .int (s_X3_greatestShare np nc pf y70_1 ((s_X3_leastShare_19 nt hv tf plf 1 wef nc).2))), (3, .int ((s_X3_leastShare_19 nt hv tf plf 1 wef nc).1)), (2, .ref (ad h)), (0, .ref (ad an)), (1, .ref (ad g))]) hx hb dX3_leastShare_116 hl (k := 2) rfl rfl (by decide) rfl (fun ls hl => ?_)
                  refine lv_goto (tgt := 70) hx hb dX3_leastShare_119 (by decide) ?_
                  exact ih_70 (t70 + 1) (s_X3_greatestShare np nc pf y70_1 ((s_X3_leastShare_19 nt hv tf plf 1 wef nc).2)) (fun q => tat 5 y70_1 (nI q)) (gnS (hv 5) nc 1 y70_1) (by omega) (by omega) (by rw [s_X3_leastShare_70, ← e_x70_4, ← e_y70_0, ← e_y70_1, s_X3_leastShare_70s, if_pos c_86]) (by rw [s_X3_leastShare_70, ← e_x70_4, ← e_y70_0, ← e_y70_1, s_X3_leastShare_70s, if_pos c_86]) (by rw [s_X3_leastShare_70, ← e_x70_4, ← e_y70_0, ← e_y70_1, s_X3_leastShare_70s, if_pos c_86]) _ _ _ ((fr17 (an + 8) (by omega)).trans g11) g16 (fun q n0 n1 => ((fr17 q n1).trans ((fr12 q n0).trans (fL70 q n0 n1)))) hP hS ls (by rw [(show nI (t70 + 1) = nI t70 + 1 by exact nI_succ _)]; exact lv_sub hl [0, 1, 3, 4, 5, 6] rfl)
                · skip
                  refine lv_iload hx hb dX3_leastShare_89 (lv_at hl 0 rfl) ?_
                  refine lv_iload hx hb dX3_leastShare_91 (lv_at hl 2 rfl) ?_
                  refine lv_icmp_ge (tgt := 111) hx hb dX3_leastShare_93 (by decide) (fun c_93 => ?_) (fun c_93 => ?_)
                  · skip
                    refine lv_aload_n hx hb dX3_leastShare_111 rfl (lv_at hl 5 rfl) ?_
                    refine lv_aload_n hx hb dX3_leastShare_112 rfl (lv_at hl 4 rfl) ?_
                    refine q_wrVv (As := [.ref (ad h)]) (rest := []) (c_X3_goToNextRow l D cB cI cJ ad n ML70 hI an h nc tof fk ck hv y70_1 h_an h_an_9 h_an_10 h_h ((fL70 an (by omega) (by omega)).trans ((fr5 an (by omega)).trans ((fL19 an (by omega)).trans m_an))) ((fL70 (an + 9) (by omega) (by omega)).trans ((fr5 (an + 9) (by omega)).trans ((fL19 (an + 9) (by omega)).trans m_an_9))) mL70_1 ((fL70 h (by omega) (by omega)).trans ((fr5 h (by omega)).trans ((fL19 h (by omega)).trans m_h))) h6 hnc hah) X hK hP hS hl.1 rfl gX3_leastShare_X3_goToNextRow yd_X3_goToNextRow ⟨Nat.le_of_ble_eq_true rfl, Nat.le_of_ble_eq_true rfl⟩ h_an ((fL70 an (by omega) (by omega)).trans ((fr5 an (by omega)).trans ((fL19 an (by omega)).trans m_an))) (ci := 3) rfl rfl (Nat.le_of_ble_eq_true rfl) ⟨Nat.zero_le _, Nat.zero_le _⟩ dX3_leastShare_113 (fun M19 H locs hp18 hP hS => ?_)
                    obtain ⟨g21, fr22⟩ := hp18
                    refine lv_iinc (v := ((nI t70) + 1)) (lv' := [(5, .int ((nI t70) + 1)), (6, .int (s_X3_greatestShare np nc pf y70_1 ((s_X3_leastShare_19 nt hv tf plf 1 wef nc).2))), (4, .int x70_4), (3, .int ((s_X3_leastShare_19 nt hv tf plf 1 wef nc).1)), (2, .ref (ad h)), (0, .ref (ad an)), (1, .ref (ad g))]) hx hb dX3_leastShare_116 hl (k := 1) rfl rfl (by decide) rfl (fun ls hl => ?_)
                    refine lv_goto (tgt := 70) hx hb dX3_leastShare_119 (by decide) ?_
                    exact ih_70 (t70 + 1) x70_4 y70_0 (gnS (hv 5) nc 1 y70_1) (by omega) (by omega) (by rw [s_X3_leastShare_70, ← e_x70_4, ← e_y70_0, ← e_y70_1, s_X3_leastShare_70s, if_neg c_86, if_pos c_93]) (by rw [s_X3_leastShare_70, ← e_x70_4, ← e_y70_0, ← e_y70_1, s_X3_leastShare_70s, if_neg c_86, if_pos c_93]) (by rw [s_X3_leastShare_70, ← e_x70_4, ← e_y70_0, ← e_y70_1, s_X3_leastShare_70s, if_neg c_86, if_pos c_93]) _ _ _ ((fr22 (an + 8) (by omega)).trans mL70_0) g21 (fun q n0 n1 => ((fr22 q n1).trans (fL70 q n0 n1))) hP hS ls (by rw [(show nI (t70 + 1) = nI t70 + 1 by exact nI_succ _)]; exact lv_sub hl [0, 2, 3, 4, 5, 6] rfl)
                  · skip
                    refine lv_iload hx hb dX3_leastShare_96 (lv_at hl 0 rfl) ?_
                    refine lv_istore (lv' := [(4, .int (s_X3_greatestShare np nc pf y70_1 ((s_X3_leastShare_19 nt hv tf plf 1 wef nc).2))), (6, .int (s_X3_greatestShare np nc pf y70_1 ((s_X3_leastShare_19 nt hv tf plf 1 wef nc).2))), (5, .int (nI t70)), (3, .int ((s_X3_leastShare_19 nt hv tf plf 1 wef nc).1)), (2, .ref (ad h)), (0, .ref (ad an)), (1, .ref (ad g))]) hx hb dX3_leastShare_98 hl (by decide) rfl (fun ls hl => ?_)
                    refine lv_aload_n hx hb dX3_leastShare_100 rfl (lv_at hl 5 rfl) ?_
                    refine q_get (v := .ref (ad (an + 7))) (fs := plansF ad an tof fk ck) X hK hP fX3_leastShare_26 h_an ((fL70 an (by omega) (by omega)).trans ((fr5 an (by omega)).trans ((fL19 an (by omega)).trans m_an))) rfl dX3_leastShare_101 ?_
                    refine lv_aload_n hx hb dX3_leastShare_104 rfl (lv_at hl 5 rfl) ?_
                    refine q_get (v := .ref (ad (an + 9))) (fs := plansF ad an tof fk ck) X hK hP fX3_leastShare_29 h_an ((fL70 an (by omega) (by omega)).trans ((fr5 an (by omega)).trans ((fL19 an (by omega)).trans m_an))) rfl dX3_leastShare_105 ?_
                    refine q_wrVv (As := [.ref (ad (an + 9))]) (rest := []) (c_X8_become l D cB cI cJ ad n ML70 hI (an + 7) (an + 8) 5 (an + 9) (an + 10) 5 1 1 y70_0 y70_1 h_an_7 h_an_8 h_an_9 h_an_10 ((fL70 (an + 7) (by omega) (by omega)).trans ((fr5 (an + 7) (by omega)).trans ((fL19 (an + 7) (by omega)).trans m_an_7))) mL70_0 ((fL70 (an + 9) (by omega) (by omega)).trans ((fr5 (an + 9) (by omega)).trans ((fL19 (an + 9) (by omega)).trans m_an_9))) mL70_1 (by decide) (by decide) (by first | assumption | omega | exact vp_in_nI (by omega) (by decide) | exact vp_in_iff.mpr (by decide))) X hK hP hS hl.1 rfl gX3_leastShare_X8_become yd_X8_become ⟨Nat.le_of_ble_eq_true rfl, Nat.le_of_ble_eq_true rfl⟩ h_an_7 ((fL70 (an + 7) (by omega) (by omega)).trans ((fr5 (an + 7) (by omega)).trans ((fL19 (an + 7) (by omega)).trans m_an_7))) (ci := 8) rfl rfl (Nat.le_of_ble_eq_true rfl) ⟨Nat.zero_le _, Nat.zero_le _⟩ dX3_leastShare_108 (fun M24 H locs hp23 hP hS => ?_)
                    obtain ⟨g26, fr27⟩ := hp23
                    refine lv_aload_n hx hb dX3_leastShare_111 rfl (lv_at hl 5 rfl) ?_
                    refine lv_aload_n hx hb dX3_leastShare_112 rfl (lv_at hl 4 rfl) ?_
                    refine q_wrVv (As := [.ref (ad h)]) (rest := []) (c_X3_goToNextRow l D cB cI cJ ad n M24 hI an h nc tof fk ck hv y70_1 h_an h_an_9 h_an_10 h_h ((fr27 an (by omega)).trans ((fL70 an (by omega) (by omega)).trans ((fr5 an (by omega)).trans ((fL19 an (by omega)).trans m_an)))) ((fr27 (an + 9) (by omega)).trans ((fL70 (an + 9) (by omega) (by omega)).trans ((fr5 (an + 9) (by omega)).trans ((fL19 (an + 9) (by omega)).trans m_an_9)))) ((fr27 (an + 10) (by omega)).trans mL70_1) ((fr27 h (by omega)).trans ((fL70 h (by omega) (by omega)).trans ((fr5 h (by omega)).trans ((fL19 h (by omega)).trans m_h)))) h6 hnc hah) X hK hP hS hl.1 rfl gX3_leastShare_X3_goToNextRow yd_X3_goToNextRow ⟨Nat.le_of_ble_eq_true rfl, Nat.le_of_ble_eq_true rfl⟩ h_an ((fr27 an (by omega)).trans ((fL70 an (by omega) (by omega)).trans ((fr5 an (by omega)).trans ((fL19 an (by omega)).trans m_an)))) (ci := 3) rfl rfl (Nat.le_of_ble_eq_true rfl) ⟨Nat.zero_le _, Nat.zero_le _⟩ dX3_leastShare_113 (fun M29 H locs hp28 hP hS => ?_)
                    obtain ⟨g31, fr32⟩ := hp28
                    refine lv_iinc (v := ((nI t70) + 1)) (lv' := [(5, .int ((nI t70) + 1)), (4, .int (s_X3_greatestShare np nc pf y70_1 ((s_X3_leastShare_19 nt hv tf plf 1 wef nc).2))), (6, .int (s_X3_greatestShare np nc pf y70_1 ((s_X3_leastShare_19 nt hv tf plf 1 wef nc).2))), (3, .int ((s_X3_leastShare_19 nt hv tf plf 1 wef nc).1)), (2, .ref (ad h)), (0, .ref (ad an)), (1, .ref (ad g))]) hx hb dX3_leastShare_116 hl (k := 2) rfl rfl (by decide) rfl (fun ls hl => ?_)
                    refine lv_goto (tgt := 70) hx hb dX3_leastShare_119 (by decide) ?_
                    exact ih_70 (t70 + 1) (s_X3_greatestShare np nc pf y70_1 ((s_X3_leastShare_19 nt hv tf plf 1 wef nc).2)) (fun q => tat 5 y70_1 (nI q)) (gnS (hv 5) nc 1 y70_1) (by omega) (by omega) (by rw [s_X3_leastShare_70, ← e_x70_4, ← e_y70_0, ← e_y70_1, s_X3_leastShare_70s, if_neg c_86, if_neg c_93]) (by rw [s_X3_leastShare_70, ← e_x70_4, ← e_y70_0, ← e_y70_1, s_X3_leastShare_70s, if_neg c_86, if_neg c_93]) (by rw [s_X3_leastShare_70, ← e_x70_4, ← e_y70_0, ← e_y70_1, s_X3_leastShare_70s, if_neg c_86, if_neg c_93]) _ _ _ ((fr32 (an + 8) (by omega)).trans g26) g31 (fun q n0 n1 => ((fr32 q n1).trans ((fr27 q n0).trans (fL70 q n0 n1)))) hP hS ls (by rw [(show nI (t70 + 1) = nI t70 + 1 by exact nI_succ _)]; exact lv_sub hl [0, 1, 3, 4, 5, 6] rfl)
          exact loop_70 (nz + 1) 0 (-1) caf (fun _ => 0) (by omega) (by omega) (by rfl) (by rfl) (by rfl) _ _ _ ((fr5 (an + 8) (by omega)).trans ((fL19 (an + 8) (by omega)).trans m_an_8)) g4 (fun q n0 n1 => rfl) hP hS ls (lv_sub hl [0, 1, 2, 3, 4, 5] rfl)
        · rw [h6] at c_25
          have h9_19 : t19 < nc := lt_of_nlt (t := t19) (k := nc) c_25 (by omega) h_t19
          refine lv_iload_n hx hb dX3_leastShare_28 rfl (lv_at hl 1 rfl) ?_
          refine lv_aload_n hx hb dX3_leastShare_29 rfl (lv_at hl 2 rfl) ?_
          refine q_get (v := .int (hv 5)) (fs := hallF ad h hv) X hK hP fX3_leastShare_121 h_h ((fL19 h (by omega)).trans m_h) rfl dX3_leastShare_30 ?_
          refine lv_imul hx hb dX3_leastShare_33 ?_
          refine lv_istore_n (lv' := [(3, .int (x19_3 * (hv 5))), (4, .int (nI t19)), (2, .ref (ad h)), (0, .ref (ad an)), (1, .ref (ad g))]) hx hb dX3_leastShare_34 rfl hl (by decide) rfl (fun ls hl => ?_)
          refine lv_aload_n hx hb dX3_leastShare_35 rfl (lv_at hl 3 rfl) ?_
          refine q_get (v := .ref (ad (an + 11))) (fs := plansF ad an tof fk ck) X hK hP fX3_leastShare_32 h_an ((fL19 an (by omega)).trans m_an) rfl dX3_leastShare_36 ?_
          refine lv_iload hx hb dX3_leastShare_39 (lv_at hl 1 rfl) ?_
          refine lv_aload_n hx hb dX3_leastShare_41 rfl (lv_at hl 4 rfl) ?_
          refine lv_iload hx hb dX3_leastShare_42 (lv_at hl 1 rfl) ?_
          refine q_rdV (As := [.int (nI t19)]) (rest := [.int (nI t19), .ref (ad (an + 11))]) (c_X7_weightIn l D cB cI cJ ad n ML19 g h nt op hv tf plf (nI t19) h_g h_g_1 h_g_2 h_h h_h_5 h_h_6 ((fL19 g (by omega)).trans m_g) ((fL19 (g + 1) (by omega)).trans m_g_1) ((fL19 (g + 2) (by omega)).trans m_g_2) ((fL19 h (by omega)).trans m_h) ((fL19 (h + 5) (by omega)).trans m_h_5) ((fL19 (h + 6) (by omega)).trans m_h_6) h7 hnt) X hK hP hS hl.1 rfl gX3_leastShare_X7_weightIn yd_X7_weightIn ⟨Nat.le_of_ble_eq_true rfl, Nat.le_of_ble_eq_true rfl⟩ h_g ((fL19 g (by omega)).trans m_g) (ci := 7) rfl rfl (Nat.le_of_ble_eq_true rfl) ⟨Nat.zero_le _, Nat.zero_le _⟩ dX3_leastShare_44 ?_
          refine q_wrVv (As := [.int (nI t19), .int (wiS nt tf plf (nI t19))]) (rest := []) (c_X8_set l D cB cI cJ ad n ML19 hI (an + 11) (an + 12) 5 1 y19_0 (nI t19) (wiS nt tf plf (nI t19)) h_an_11 h_an_12 ((fL19 (an + 11) (by omega)).trans m_an_11) mL19_0 (by decide)) X hK hP hS hl.1 rfl gX3_leastShare_X8_set yd_X8_set ⟨Nat.le_of_ble_eq_true rfl, Nat.le_of_ble_eq_true rfl⟩ h_an_11 ((fL19 (an + 11) (by omega)).trans m_an_11) (ci := 8) rfl rfl (Nat.le_of_ble_eq_true rfl) ⟨Nat.zero_le _, Nat.zero_le _⟩ dX3_leastShare_47 (fun M34 H locs hp33 hP hS => ?_)
          obtain ⟨g36, fr37⟩ := hp33
          refine lv_iinc (v := ((nI t19) + 1)) (lv' := [(4, .int ((nI t19) + 1)), (3, .int (x19_3 * (hv 5))), (2, .ref (ad h)), (0, .ref (ad an)), (1, .ref (ad g))]) hx hb dX3_leastShare_50 hl (k := 1) rfl rfl (by decide) rfl (fun ls hl => ?_)
          refine lv_goto (tgt := 19) hx hb dX3_leastShare_53 (by decide) ?_
          exact ih_19 (t19 + 1) (x19_3 * (hv 5)) (tset 5 y19_0 (nI t19) (wiS nt tf plf (nI t19))) (by omega) (by omega) (by rw [s_X3_leastShare_19, ← e_x19_3, ← e_y19_0, s_X3_leastShare_19s]) (by rw [s_X3_leastShare_19, ← e_x19_3, ← e_y19_0, s_X3_leastShare_19s]) _ _ _ g36 (fun q n0 => ((fr37 q n0).trans (fL19 q n0))) hP hS ls (by rw [(show nI (t19 + 1) = nI t19 + 1 by exact nI_succ _)]; exact lv_sub hl [0, 1, 2, 3, 4] rfl)
    exact loop_19 (nc + 1) 0 1 wef (by omega) (by omega) (by rfl) (by rfl) _ _ _ m_an_12 (fun q n0 => rfl) hP hS ls (lv_sub hl [0, 1, 2, 3, 4] rfl)
  · skip
    refine lv_iconst (v := (-1)) hx hb dX3_leastShare_12 (by decide) ?_
    exact q_wzret X hr hlocks hP hS (rfl) ⟨(by rw [s_X3_leastShare, if_pos c_9]), (by rw [s_X3_leastShare_0_3, if_pos c_9]; exact m_an), (by rw [s_X3_leastShare_1_f, if_pos c_9]; exact m_an_8), (by rw [s_X3_leastShare_2_f, if_pos c_9]; exact m_an_10), (by rw [s_X3_leastShare_3_f, if_pos c_9]; exact m_an_12), (fun q n0 n1 n2 n3 => rfl)⟩ dX3_leastShare_13
