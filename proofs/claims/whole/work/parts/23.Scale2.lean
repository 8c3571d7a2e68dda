/-! PoundsOver$Scale: the ways, the chance, what to weigh; PoundsOver$Trial: the counter -/
/-- weights and unsures are as the reader lets them be -/
def wtOK (nt : Nat) (tf : Nat → Int32) : Prop := ∀ t : Nat, t < nt → tat 84 tf (nI t * 7 + 1) = nI (tat 84 tf (nI t * 7 + 1)).toNatClampNeg ∧ tat 84 tf (nI t * 7 + 2) = nI (tat 84 tf (nI t * 7 + 2)).toNatClampNeg ∧ (tat 84 tf (nI t * 7 + 2)).toNatClampNeg ≤ (tat 84 tf (nI t * 7 + 1)).toNatClampNeg ∧ (tat 84 tf (nI t * 7 + 1)).toNatClampNeg ≤ 60 ∧ (tat 84 tf (nI t * 7 + 2)).toNatClampNeg ≤ 9
theorem two_n {z : Int32} (h : z = nI z.toNatClampNeg) (h9 : z.toNatClampNeg ≤ 9) : 2 * z = nI (2 * z).toNatClampNeg ∧ (2 * z).toNatClampNeg ≤ 18 := by
  generalize z.toNatClampNeg = k at h h9
  subst h
  have e : (2 : Int32) * nI k = nI (2 * k) := pk_mul 2 k
  rw [e, nI_clamp (by omega)]
  exact ⟨rfl, by omega⟩
theorem wt2 {nt : Nat} {tf : Nat → Int32} (h : wtOK nt tf) {t : Nat} (ht : t < nt) : 2 * tat 84 tf (nI t * 7 + 2) = nI (2 * tat 84 tf (nI t * 7 + 2)).toNatClampNeg ∧ (2 * tat 84 tf (nI t * 7 + 2)).toNatClampNeg ≤ 18 :=
  two_n (h t ht).2.1 (h t ht).2.2.2.2
/-- with how many of the weights w - u, .. it is known -/
def teS (le mo li wt un : Int32) (lo : Nat) : Nat → Int32
  | 0 => 0
  | t + 1 => if li < le - (wt - un) + nI (lo + t) then teS le mo li wt un lo t + 1 else if li < mo - (wt + un) + nI (lo + t) then teS le mo li wt un lo t + 0 else teS le mo li wt un lo t + 1
theorem sum_n {a b : Int32} (ha : a = nI a.toNatClampNeg) (hb : b = nI b.toNatClampNeg) : a + b = nI (a.toNatClampNeg + b.toNatClampNeg) := by
  conv => lhs; rw [ha, hb]
  exact nI_add _ _
theorem dif_n {a b : Int32} (ha : a = nI a.toNatClampNeg) (hb : b = nI b.toNatClampNeg) (h : b.toNatClampNeg ≤ a.toNatClampNeg) : a - b = nI (a.toNatClampNeg - b.toNatClampNeg) := by
  conv => lhs; rw [ha, hb]
  exact pk_sub h
set_option maxRecDepth 20000 in
theorem fX6_tellingWeights_15 : FL wsX6_tellingWeights RX6 15 6 1 := ⟨RX6, TX6, 9, rfl, by decide +kernel, by decide, by decide +kernel⟩
set_option maxRecDepth 20000 in
theorem fX6_tellingWeights_70 : FL wsX6_tellingWeights RX6 70 0 2 := ⟨RX0, TX0, 12, rfl, by decide +kernel, by decide, by decide +kernel⟩
set_option maxRecDepth 20000 in
theorem fX6_tellingWeights_48 : FL wsX6_tellingWeights RX6 48 6 4 := ⟨RX6, TX6, 9, rfl, by decide +kernel, by decide, by decide +kernel⟩
set_option maxRecDepth 20000 in
theorem fX6_tellingWeights_51 : FL wsX6_tellingWeights RX6 51 6 5 := ⟨RX6, TX6, 9, rfl, by decide +kernel, by decide, by decide +kernel⟩
set_option maxRecDepth 20000 in
theorem fX6_tellingWeights_42 : FL wsX6_tellingWeights RX6 42 6 3 := ⟨RX6, TX6, 9, rfl, by decide +kernel, by decide, by decide +kernel⟩
set_option maxHeartbeats 4000000 in
set_option maxRecDepth 100000 in
theorem c_X6_tellingWeights (l : Launch) (D : va_G) (cB cI cJ : ClassId) (ad : Nat → Nat) (n : Nat) (M : Nat → va_E) (sc h nt : Nat) (th li le mo tw : Int32) (up lo : Int64) (hv tf : Nat → Int32) (x : Int32) (h_sc : sc < n) (h_h : h < n) (h_h_5 : h + 5 < n) (h_h_6 : h + 6 < n) (m_sc : M sc = .inr (6, scaleF ad sc h th li le mo tw up lo)) (m_h : M h = .inr (0, hallF ad h hv)) (m_h_5 : M (h + 5) = .inr (8, [.int 7, .ref (ad (h + 6))])) (m_h_6 : M (h + 6) = .inl (cI, 84, .inl tf)) (hwn : tat 84 tf (x * 7 + 1) = nI (tat 84 tf (x * 7 + 1)).toNatClampNeg) (hun : tat 84 tf (x * 7 + 2) = nI (tat 84 tf (x * 7 + 2)).toNatClampNeg) (huw : (tat 84 tf (x * 7 + 2)).toNatClampNeg ≤ (tat 84 tf (x * 7 + 1)).toNatClampNeg) (hwb : (tat 84 tf (x * 7 + 1)).toNatClampNeg ≤ 60) : cR l D cB cI cJ ad n M yX6_tellingWeights wsX6_tellingWeights 1 23 [.ref (ad sc), .int x] (teS le mo li (tat 84 tf (x * 7 + 1)) (tat 84 tf (x * 7 + 2)) ((tat 84 tf (x * 7 + 1)).toNatClampNeg - (tat 84 tf (x * 7 + 2)).toNatClampNeg) ((tat 84 tf (x * 7 + 2)).toNatClampNeg + (tat 84 tf (x * 7 + 2)).toNatClampNeg + 1)) := by
  refine q_body (cc := cX6_tellingWeights) (maxL := 8) (ret := (some .int)) (by decide) rfl (Nat.le_of_ble_eq_true rfl) ?_
  intro p e s m args below meth c ls X hr hlocks hK hP hl
  obtain ⟨hx, hb, hml, hown, hts⟩ := id X
  have hS : va_S (ipA ad n) s.heap s.heap [] := va_S.rf
  have hl : lv_has ls 8 [(0, .ref (ad sc)), (1, .int x)] := hl
  refine lv_aload_n hx hb dX6_tellingWeights_0 rfl (lv_at hl 0 rfl) ?_
  refine q_get (v := .ref (ad h)) (fs := scaleF ad sc h th li le mo tw up lo) X hK hP fX6_tellingWeights_15 h_sc m_sc rfl dX6_tellingWeights_1 ?_
  refine q_get (v := .ref (ad (h + 5))) (fs := hallF ad h hv) X hK hP fX6_tellingWeights_70 h_h m_h rfl dX6_tellingWeights_4 ?_
  refine lv_iload_n hx hb dX6_tellingWeights_7 rfl (lv_at hl 1 rfl) ?_
  refine lv_iconst (v := 1) hx hb dX6_tellingWeights_8 (by decide) ?_
  refine q_rdV (As := [.int x, .int 1]) (rest := []) (c_X8_at_ l D cB cI cJ ad n M (h + 5) (h + 6) 84 7 tf x 1 h_h_5 h_h_6 m_h_5 m_h_6 (by decide)) X hK hP hS hl.1 rfl gX6_tellingWeights_X8_at_ yd_X8_at_ ⟨Nat.le_of_ble_eq_true rfl, Nat.le_of_ble_eq_true rfl⟩ h_h_5 m_h_5 (ci := 8) rfl rfl (Nat.le_of_ble_eq_true rfl) ⟨Nat.zero_le _, Nat.zero_le _⟩ dX6_tellingWeights_9 ?_
  refine lv_istore_n (lv' := [(2, .int (tat 84 tf (x * 7 + 1))), (0, .ref (ad sc)), (1, .int x)]) hx hb dX6_tellingWeights_12 rfl hl (by decide) rfl (fun ls hl => ?_)
  refine lv_aload_n hx hb dX6_tellingWeights_13 rfl (lv_at hl 1 rfl) ?_
  refine q_get (v := .ref (ad h)) (fs := scaleF ad sc h th li le mo tw up lo) X hK hP fX6_tellingWeights_15 h_sc m_sc rfl dX6_tellingWeights_14 ?_
  refine q_get (v := .ref (ad (h + 5))) (fs := hallF ad h hv) X hK hP fX6_tellingWeights_70 h_h m_h rfl dX6_tellingWeights_17 ?_
  refine lv_iload_n hx hb dX6_tellingWeights_20 rfl (lv_at hl 2 rfl) ?_
  refine lv_iconst (v := 2) hx hb dX6_tellingWeights_21 (by decide) ?_
  refine q_rdV (As := [.int x, .int 2]) (rest := []) (c_X8_at_ l D cB cI cJ ad n M (h + 5) (h + 6) 84 7 tf x 2 h_h_5 h_h_6 m_h_5 m_h_6 (by decide)) X hK hP hS hl.1 rfl gX6_tellingWeights_X8_at_ yd_X8_at_ ⟨Nat.le_of_ble_eq_true rfl, Nat.le_of_ble_eq_true rfl⟩ h_h_5 m_h_5 (ci := 8) rfl rfl (Nat.le_of_ble_eq_true rfl) ⟨Nat.zero_le _, Nat.zero_le _⟩ dX6_tellingWeights_22 ?_
  refine lv_istore_n (lv' := [(3, .int (tat 84 tf (x * 7 + 2))), (2, .int (tat 84 tf (x * 7 + 1))), (0, .ref (ad sc)), (1, .int x)]) hx hb dX6_tellingWeights_25 rfl hl (by decide) rfl (fun ls hl => ?_)
  refine lv_iconst (v := 0) hx hb dX6_tellingWeights_26 (by decide) ?_
  refine lv_istore (lv' := [(4, .int 0), (3, .int (tat 84 tf (x * 7 + 2))), (2, .int (tat 84 tf (x * 7 + 1))), (0, .ref (ad sc)), (1, .int x)]) hx hb dX6_tellingWeights_27 hl (by decide) rfl (fun ls hl => ?_)
  refine lv_iload_n hx hb dX6_tellingWeights_29 rfl (lv_at hl 2 rfl) ?_
  refine lv_iload_n hx hb dX6_tellingWeights_30 rfl (lv_at hl 1 rfl) ?_
  refine lv_isub hx hb dX6_tellingWeights_31 ?_
  refine lv_istore (lv' := [(5, .int ((tat 84 tf (x * 7 + 1)) - (tat 84 tf (x * 7 + 2)))), (4, .int 0), (3, .int (tat 84 tf (x * 7 + 2))), (2, .int (tat 84 tf (x * 7 + 1))), (0, .ref (ad sc)), (1, .int x)]) hx hb dX6_tellingWeights_32 hl (by decide) rfl (fun ls hl => ?_)
  have loop_34 : ∀ (fuel : Nat) (t : Nat) (x4 : Int32) (x5 : Int32), ((tat 84 tf (x * 7 + 2)).toNatClampNeg + (tat 84 tf (x * 7 + 2)).toNatClampNeg + 1) - t < fuel → (t ≤ ((tat 84 tf (x * 7 + 2)).toNatClampNeg + (tat 84 tf (x * 7 + 2)).toNatClampNeg + 1)) → x4 = teS le mo li (tat 84 tf (x * 7 + 1)) (tat 84 tf (x * 7 + 2)) ((tat 84 tf (x * 7 + 1)).toNatClampNeg - (tat 84 tf (x * 7 + 2)).toNatClampNeg) t → x5 = nI ((tat 84 tf (x * 7 + 1)).toNatClampNeg - (tat 84 tf (x * 7 + 2)).toNatClampNeg + t) → ∀ (ls : Array Slot), lv_has ls 8 [(0, .ref (ad sc)), (1, .int x), (2, .int (tat 84 tf (x * 7 + 1))), (3, .int (tat 84 tf (x * 7 + 2))), (4, .int x4), (5, .int x5)] → W p l e (rmOf 1 23) s m args below meth c s.heap [] 0 0 (MQ below (vp_Si (fun r9 => r9 = teS le mo li (tat 84 tf (x * 7 + 1)) (tat 84 tf (x * 7 + 2)) ((tat 84 tf (x * 7 + 1)).toNatClampNeg - (tat 84 tf (x * 7 + 2)).toNatClampNeg) ((tat 84 tf (x * 7 + 2)).toNatClampNeg + (tat 84 tf (x * 7 + 2)).toNatClampNeg + 1))) args s 0 0 (fun _ => False)) (F0 m 34 ls []) := by
    intro fuel
    induction fuel with
    | zero =>
      intro t x4 x5 hz
      exact absurd hz (Nat.not_lt_zero _)
    | succ fuel ih_34 =>
      intro t x4 x5 hz_34 ht e4 e5 ls hl
      subst e4
      subst e5
      skip
      refine lv_iload hx hb dX6_tellingWeights_34 (lv_at hl 5 rfl) ?_
      refine lv_iload_n hx hb dX6_tellingWeights_36 rfl (lv_at hl 2 rfl) ?_
      refine lv_iload_n hx hb dX6_tellingWeights_37 rfl (lv_at hl 3 rfl) ?_
      refine lv_iadd hx hb dX6_tellingWeights_38 ?_
      refine lv_icmp_gt (tgt := 102) hx hb dX6_tellingWeights_39 (by decide) (fun c_39 => ?_) (fun c_39 => ?_)
      · skip
        have hs9 : (tat 84 tf (x * 7 + 1)) + (tat 84 tf (x * 7 + 2)) = nI ((tat 84 tf (x * 7 + 1)).toNatClampNeg + (tat 84 tf (x * 7 + 2)).toNatClampNeg) := sum_n hwn hun; rw [hs9] at c_39; have h9 : t = ((tat 84 tf (x * 7 + 2)).toNatClampNeg + (tat 84 tf (x * 7 + 2)).toNatClampNeg + 1) := by rw [nI_ltI (by omega) (by omega)] at c_39; omega
        refine lv_iload hx hb dX6_tellingWeights_102 (lv_at hl 4 rfl) ?_
        exact q_iret hb hx hr hlocks (by rw [h9]) dX6_tellingWeights_104
      · skip
        have hs9 : (tat 84 tf (x * 7 + 1)) + (tat 84 tf (x * 7 + 2)) = nI ((tat 84 tf (x * 7 + 1)).toNatClampNeg + (tat 84 tf (x * 7 + 2)).toNatClampNeg) := sum_n hwn hun; rw [hs9] at c_39; have h9 : t < ((tat 84 tf (x * 7 + 2)).toNatClampNeg + (tat 84 tf (x * 7 + 2)).toNatClampNeg + 1) := by rw [nI_ltI (by omega) (by omega)] at c_39; omega
        refine lv_aload_n hx hb dX6_tellingWeights_42 rfl (lv_at hl 0 rfl) ?_
        refine q_get (v := .int le) (fs := scaleF ad sc h th li le mo tw up lo) X hK hP fX6_tellingWeights_48 h_sc m_sc rfl dX6_tellingWeights_43 ?_
        refine lv_iload_n hx hb dX6_tellingWeights_46 rfl (lv_at hl 2 rfl) ?_
        refine lv_iload_n hx hb dX6_tellingWeights_47 rfl (lv_at hl 3 rfl) ?_
        refine lv_isub hx hb dX6_tellingWeights_48 ?_
        refine lv_isub hx hb dX6_tellingWeights_49 ?_
        refine lv_iload hx hb dX6_tellingWeights_50 (lv_at hl 5 rfl) ?_
        refine lv_iadd hx hb dX6_tellingWeights_52 ?_
        refine lv_istore (lv' := [(6, .int ((le - ((tat 84 tf (x * 7 + 1)) - (tat 84 tf (x * 7 + 2)))) + (nI ((tat 84 tf (x * 7 + 1)).toNatClampNeg - (tat 84 tf (x * 7 + 2)).toNatClampNeg + t)))), (0, .ref (ad sc)), (1, .int x), (2, .int (tat 84 tf (x * 7 + 1))), (3, .int (tat 84 tf (x * 7 + 2))), (4, .int (teS le mo li (tat 84 tf (x * 7 + 1)) (tat 84 tf (x * 7 + 2)) ((tat 84 tf (x * 7 + 1)).toNatClampNeg - (tat 84 tf (x * 7 + 2)).toNatClampNeg) t)), (5, .int (nI ((tat 84 tf (x * 7 + 1)).toNatClampNeg - (tat 84 tf (x * 7 + 2)).toNatClampNeg + t)))]) hx hb dX6_tellingWeights_53 hl (by decide) rfl (fun ls hl => ?_)
        refine lv_aload_n hx hb dX6_tellingWeights_55 rfl (lv_at hl 1 rfl) ?_
        refine q_get (v := .int mo) (fs := scaleF ad sc h th li le mo tw up lo) X hK hP fX6_tellingWeights_51 h_sc m_sc rfl dX6_tellingWeights_56 ?_
        refine lv_iload_n hx hb dX6_tellingWeights_59 rfl (lv_at hl 3 rfl) ?_
        refine lv_iload_n hx hb dX6_tellingWeights_60 rfl (lv_at hl 4 rfl) ?_
        refine lv_iadd hx hb dX6_tellingWeights_61 ?_
        refine lv_isub hx hb dX6_tellingWeights_62 ?_
        refine lv_iload hx hb dX6_tellingWeights_63 (lv_at hl 6 rfl) ?_
        refine lv_iadd hx hb dX6_tellingWeights_65 ?_
        refine lv_istore (lv' := [(7, .int ((mo - ((tat 84 tf (x * 7 + 1)) + (tat 84 tf (x * 7 + 2)))) + (nI ((tat 84 tf (x * 7 + 1)).toNatClampNeg - (tat 84 tf (x * 7 + 2)).toNatClampNeg + t)))), (6, .int ((le - ((tat 84 tf (x * 7 + 1)) - (tat 84 tf (x * 7 + 2)))) + (nI ((tat 84 tf (x * 7 + 1)).toNatClampNeg - (tat 84 tf (x * 7 + 2)).toNatClampNeg + t)))), (0, .ref (ad sc)), (1, .int x), (2, .int (tat 84 tf (x * 7 + 1))), (3, .int (tat 84 tf (x * 7 + 2))), (4, .int (teS le mo li (tat 84 tf (x * 7 + 1)) (tat 84 tf (x * 7 + 2)) ((tat 84 tf (x * 7 + 1)).toNatClampNeg - (tat 84 tf (x * 7 + 2)).toNatClampNeg) t)), (5, .int (nI ((tat 84 tf (x * 7 + 1)).toNatClampNeg - (tat 84 tf (x * 7 + 2)).toNatClampNeg + t)))]) hx hb dX6_tellingWeights_66 hl (by decide) rfl (fun ls hl => ?_)
        refine lv_iload hx hb dX6_tellingWeights_68 (lv_at hl 6 rfl) ?_
        refine lv_iload hx hb dX6_tellingWeights_70 (lv_at hl 1 rfl) ?_
        refine lv_aload_n hx hb dX6_tellingWeights_72 rfl (lv_at hl 2 rfl) ?_
        refine q_get (v := .int li) (fs := scaleF ad sc h th li le mo tw up lo) X hK hP fX6_tellingWeights_42 h_sc m_sc rfl dX6_tellingWeights_73 ?_
        refine lv_icmp_gt (tgt := 88) hx hb dX6_tellingWeights_76 (by decide) (fun c_76 => ?_) (fun c_76 => ?_)
        · skip
          refine lv_iconst (v := 1) hx hb dX6_tellingWeights_88 (by decide) ?_
          refine lv_goto (tgt := 93) hx hb dX6_tellingWeights_89 (by decide) ?_
          refine lv_iadd hx hb dX6_tellingWeights_93 ?_
          refine lv_istore (lv' := [(4, .int ((teS le mo li (tat 84 tf (x * 7 + 1)) (tat 84 tf (x * 7 + 2)) ((tat 84 tf (x * 7 + 1)).toNatClampNeg - (tat 84 tf (x * 7 + 2)).toNatClampNeg) t) + 1)), (7, .int ((mo - ((tat 84 tf (x * 7 + 1)) + (tat 84 tf (x * 7 + 2)))) + (nI ((tat 84 tf (x * 7 + 1)).toNatClampNeg - (tat 84 tf (x * 7 + 2)).toNatClampNeg + t)))), (6, .int ((le - ((tat 84 tf (x * 7 + 1)) - (tat 84 tf (x * 7 + 2)))) + (nI ((tat 84 tf (x * 7 + 1)).toNatClampNeg - (tat 84 tf (x * 7 + 2)).toNatClampNeg + t)))), (0, .ref (ad sc)), (1, .int x), (2, .int (tat 84 tf (x * 7 + 1))), (3, .int (tat 84 tf (x * 7 + 2))), (5, .int (nI ((tat 84 tf (x * 7 + 1)).toNatClampNeg - (tat 84 tf (x * 7 + 2)).toNatClampNeg + t)))]) hx hb dX6_tellingWeights_94 hl (by decide) rfl (fun ls hl => ?_)
          refine lv_iinc (v := ((nI ((tat 84 tf (x * 7 + 1)).toNatClampNeg - (tat 84 tf (x * 7 + 2)).toNatClampNeg + t)) + 1)) (lv' := [(5, .int ((nI ((tat 84 tf (x * 7 + 1)).toNatClampNeg - (tat 84 tf (x * 7 + 2)).toNatClampNeg + t)) + 1)), (4, .int ((teS le mo li (tat 84 tf (x * 7 + 1)) (tat 84 tf (x * 7 + 2)) ((tat 84 tf (x * 7 + 1)).toNatClampNeg - (tat 84 tf (x * 7 + 2)).toNatClampNeg) t) + 1)), (7, .int ((mo - ((tat 84 tf (x * 7 + 1)) + (tat 84 tf (x * 7 + 2)))) + (nI ((tat 84 tf (x * 7 + 1)).toNatClampNeg - (tat 84 tf (x * 7 + 2)).toNatClampNeg + t)))), (6, .int ((le - ((tat 84 tf (x * 7 + 1)) - (tat 84 tf (x * 7 + 2)))) + (nI ((tat 84 tf (x * 7 + 1)).toNatClampNeg - (tat 84 tf (x * 7 + 2)).toNatClampNeg + t)))), (0, .ref (ad sc)), (1, .int x), (2, .int (tat 84 tf (x * 7 + 1))), (3, .int (tat 84 tf (x * 7 + 2)))]) hx hb dX6_tellingWeights_96 hl (k := 7) rfl rfl (by decide) rfl (fun ls hl => ?_)
          refine lv_goto (tgt := 34) hx hb dX6_tellingWeights_99 (by decide) ?_
          exact ih_34 (t + 1) ((teS le mo li (tat 84 tf (x * 7 + 1)) (tat 84 tf (x * 7 + 2)) ((tat 84 tf (x * 7 + 1)).toNatClampNeg - (tat 84 tf (x * 7 + 2)).toNatClampNeg) t) + 1) ((nI ((tat 84 tf (x * 7 + 1)).toNatClampNeg - (tat 84 tf (x * 7 + 2)).toNatClampNeg + t)) + 1) (by omega) (by omega) (by first | rw [teS, if_pos c_76] | rw [teS, if_neg c_76, if_pos {c85}] | rw [teS, if_neg c_76, if_neg {c85}]) (by exact nI_1 _) ls (lv_sub hl [4, 5, 6, 7, 1, 0] rfl)
        · skip
          refine lv_iload hx hb dX6_tellingWeights_79 (lv_at hl 0 rfl) ?_
          refine lv_aload_n hx hb dX6_tellingWeights_81 rfl (lv_at hl 2 rfl) ?_
          refine q_get (v := .int li) (fs := scaleF ad sc h th li le mo tw up lo) X hK hP fX6_tellingWeights_42 h_sc m_sc rfl dX6_tellingWeights_82 ?_
          refine lv_icmp_gt (tgt := 92) hx hb dX6_tellingWeights_85 (by decide) (fun c_85 => ?_) (fun c_85 => ?_)
          · skip
            refine lv_iconst (v := 0) hx hb dX6_tellingWeights_92 (by decide) ?_
            refine lv_iadd hx hb dX6_tellingWeights_93 ?_
            refine lv_istore (lv' := [(4, .int ((teS le mo li (tat 84 tf (x * 7 + 1)) (tat 84 tf (x * 7 + 2)) ((tat 84 tf (x * 7 + 1)).toNatClampNeg - (tat 84 tf (x * 7 + 2)).toNatClampNeg) t) + 0)), (7, .int ((mo - ((tat 84 tf (x * 7 + 1)) + (tat 84 tf (x * 7 + 2)))) + (nI ((tat 84 tf (x * 7 + 1)).toNatClampNeg - (tat 84 tf (x * 7 + 2)).toNatClampNeg + t)))), (6, .int ((le - ((tat 84 tf (x * 7 + 1)) - (tat 84 tf (x * 7 + 2)))) + (nI ((tat 84 tf (x * 7 + 1)).toNatClampNeg - (tat 84 tf (x * 7 + 2)).toNatClampNeg + t)))), (0, .ref (ad sc)), (1, .int x), (2, .int (tat 84 tf (x * 7 + 1))), (3, .int (tat 84 tf (x * 7 + 2))), (5, .int (nI ((tat 84 tf (x * 7 + 1)).toNatClampNeg - (tat 84 tf (x * 7 + 2)).toNatClampNeg + t)))]) hx hb dX6_tellingWeights_94 hl (by decide) rfl (fun ls hl => ?_)
            refine lv_iinc (v := ((nI ((tat 84 tf (x * 7 + 1)).toNatClampNeg - (tat 84 tf (x * 7 + 2)).toNatClampNeg + t)) + 1)) (lv' := [(5, .int ((nI ((tat 84 tf (x * 7 + 1)).toNatClampNeg - (tat 84 tf (x * 7 + 2)).toNatClampNeg + t)) + 1)), (4, .int ((teS le mo li (tat 84 tf (x * 7 + 1)) (tat 84 tf (x * 7 + 2)) ((tat 84 tf (x * 7 + 1)).toNatClampNeg - (tat 84 tf (x * 7 + 2)).toNatClampNeg) t) + 0)), (7, .int ((mo - ((tat 84 tf (x * 7 + 1)) + (tat 84 tf (x * 7 + 2)))) + (nI ((tat 84 tf (x * 7 + 1)).toNatClampNeg - (tat 84 tf (x * 7 + 2)).toNatClampNeg + t)))), (6, .int ((le - ((tat 84 tf (x * 7 + 1)) - (tat 84 tf (x * 7 + 2)))) + (nI ((tat 84 tf (x * 7 + 1)).toNatClampNeg - (tat 84 tf (x * 7 + 2)).toNatClampNeg + t)))), (0, .ref (ad sc)), (1, .int x), (2, .int (tat 84 tf (x * 7 + 1))), (3, .int (tat 84 tf (x * 7 + 2)))]) hx hb dX6_tellingWeights_96 hl (k := 7) rfl rfl (by decide) rfl (fun ls hl => ?_)
            refine lv_goto (tgt := 34) hx hb dX6_tellingWeights_99 (by decide) ?_
            exact ih_34 (t + 1) ((teS le mo li (tat 84 tf (x * 7 + 1)) (tat 84 tf (x * 7 + 2)) ((tat 84 tf (x * 7 + 1)).toNatClampNeg - (tat 84 tf (x * 7 + 2)).toNatClampNeg) t) + 0) ((nI ((tat 84 tf (x * 7 + 1)).toNatClampNeg - (tat 84 tf (x * 7 + 2)).toNatClampNeg + t)) + 1) (by omega) (by omega) (by first | rw [teS, if_pos c_76] | rw [teS, if_neg c_76, if_pos c_85] | rw [teS, if_neg c_76, if_neg c_85]) (by exact nI_1 _) ls (lv_sub hl [4, 5, 6, 7, 1, 0] rfl)
          · skip
            refine lv_iconst (v := 1) hx hb dX6_tellingWeights_88 (by decide) ?_
            refine lv_goto (tgt := 93) hx hb dX6_tellingWeights_89 (by decide) ?_
            refine lv_iadd hx hb dX6_tellingWeights_93 ?_
            refine lv_istore (lv' := [(4, .int ((teS le mo li (tat 84 tf (x * 7 + 1)) (tat 84 tf (x * 7 + 2)) ((tat 84 tf (x * 7 + 1)).toNatClampNeg - (tat 84 tf (x * 7 + 2)).toNatClampNeg) t) + 1)), (7, .int ((mo - ((tat 84 tf (x * 7 + 1)) + (tat 84 tf (x * 7 + 2)))) + (nI ((tat 84 tf (x * 7 + 1)).toNatClampNeg - (tat 84 tf (x * 7 + 2)).toNatClampNeg + t)))), (6, .int ((le - ((tat 84 tf (x * 7 + 1)) - (tat 84 tf (x * 7 + 2)))) + (nI ((tat 84 tf (x * 7 + 1)).toNatClampNeg - (tat 84 tf (x * 7 + 2)).toNatClampNeg + t)))), (0, .ref (ad sc)), (1, .int x), (2, .int (tat 84 tf (x * 7 + 1))), (3, .int (tat 84 tf (x * 7 + 2))), (5, .int (nI ((tat 84 tf (x * 7 + 1)).toNatClampNeg - (tat 84 tf (x * 7 + 2)).toNatClampNeg + t)))]) hx hb dX6_tellingWeights_94 hl (by decide) rfl (fun ls hl => ?_)
            refine lv_iinc (v := ((nI ((tat 84 tf (x * 7 + 1)).toNatClampNeg - (tat 84 tf (x * 7 + 2)).toNatClampNeg + t)) + 1)) (lv' := [(5, .int ((nI ((tat 84 tf (x * 7 + 1)).toNatClampNeg - (tat 84 tf (x * 7 + 2)).toNatClampNeg + t)) + 1)), (4, .int ((teS le mo li (tat 84 tf (x * 7 + 1)) (tat 84 tf (x * 7 + 2)) ((tat 84 tf (x * 7 + 1)).toNatClampNeg - (tat 84 tf (x * 7 + 2)).toNatClampNeg) t) + 1)), (7, .int ((mo - ((tat 84 tf (x * 7 + 1)) + (tat 84 tf (x * 7 + 2)))) + (nI ((tat 84 tf (x * 7 + 1)).toNatClampNeg - (tat 84 tf (x * 7 + 2)).toNatClampNeg + t)))), (6, .int ((le - ((tat 84 tf (x * 7 + 1)) - (tat 84 tf (x * 7 + 2)))) + (nI ((tat 84 tf (x * 7 + 1)).toNatClampNeg - (tat 84 tf (x * 7 + 2)).toNatClampNeg + t)))), (0, .ref (ad sc)), (1, .int x), (2, .int (tat 84 tf (x * 7 + 1))), (3, .int (tat 84 tf (x * 7 + 2)))]) hx hb dX6_tellingWeights_96 hl (k := 7) rfl rfl (by decide) rfl (fun ls hl => ?_)
            refine lv_goto (tgt := 34) hx hb dX6_tellingWeights_99 (by decide) ?_
            exact ih_34 (t + 1) ((teS le mo li (tat 84 tf (x * 7 + 1)) (tat 84 tf (x * 7 + 2)) ((tat 84 tf (x * 7 + 1)).toNatClampNeg - (tat 84 tf (x * 7 + 2)).toNatClampNeg) t) + 1) ((nI ((tat 84 tf (x * 7 + 1)).toNatClampNeg - (tat 84 tf (x * 7 + 2)).toNatClampNeg + t)) + 1) (by omega) (by omega) (by first | rw [teS, if_pos c_76] | rw [teS, if_neg c_76, if_pos c_85] | rw [teS, if_neg c_76, if_neg c_85]) (by exact nI_1 _) ls (lv_sub hl [4, 5, 6, 7, 1, 0] rfl)
  exact loop_34 (((tat 84 tf (x * 7 + 2)).toNatClampNeg + (tat 84 tf (x * 7 + 2)).toNatClampNeg + 1) + 1) 0 0 ((tat 84 tf (x * 7 + 1)) - (tat 84 tf (x * 7 + 2))) (by omega) (by omega) (by rfl) (by exact dif_n hwn hun huw) ls (lv_sub hl [4, 5, 3, 2, 1, 0] rfl)
set_option maxRecDepth 20000 in
theorem fX6_countWays_9 : FL wsX6_countWays RX6 9 6 0 := ⟨RX6, TX6, 9, rfl, by decide +kernel, by decide, by decide +kernel⟩
set_option maxRecDepth 20000 in
theorem fX6_countWays_15 : FL wsX6_countWays RX6 15 6 1 := ⟨RX6, TX6, 9, rfl, by decide +kernel, by decide, by decide +kernel⟩
set_option maxRecDepth 20000 in
theorem fX6_countWays_67 : FL wsX6_countWays RX6 67 0 7 := ⟨RX0, TX0, 12, rfl, by decide +kernel, by decide, by decide +kernel⟩
set_option maxRecDepth 20000 in
theorem fX6_countWays_26 : FL wsX6_countWays RX6 26 6 2 := ⟨RX6, TX6, 9, rfl, by decide +kernel, by decide, by decide +kernel⟩
set_option maxRecDepth 20000 in
theorem fX6_countWays_70 : FL wsX6_countWays RX6 70 0 2 := ⟨RX0, TX0, 12, rfl, by decide +kernel, by decide, by decide +kernel⟩
theorem yd_X6_addUnsure : YD yX6_addUnsure 1 := ⟨by decide +kernel, by decide +kernel, by decide +kernel⟩
def s_X6_countWays_2s (t2 : Nat) (y2_0 : Nat → Int64) : (Nat → Int64) := if (nI t2) = 0 then (vp_updL y2_0 t2 1) else (vp_updL y2_0 t2 0)
def s_X6_countWays_2 (z0 : Nat → Int64) : Nat → (Nat → Int64)
  | 0 => z0
  | t + 1 => s_X6_countWays_2s t (s_X6_countWays_2 z0 t)
def s_X6_countWays_34s (th : Int32) (tf : Nat → Int32) (t34 : Nat) (y34_0 : Nat → Int64) : (Nat → Int64) := if ((th >>> ((nI t34) &&& 31)) &&& 1) = 0 then y34_0 else (auS (2 * (tat 84 tf ((nI t34) * 7 + 2))).toNatClampNeg 217 y34_0)
def s_X6_countWays_34 (th : Int32) (tf : Nat → Int32) (z0 : Nat → Int64) : Nat → (Nat → Int64)
  | 0 => z0
  | t + 1 => s_X6_countWays_34s th tf t (s_X6_countWays_34 th tf z0 t)
set_option maxHeartbeats 4000000 in
set_option maxRecDepth 100000 in
theorem c_X6_countWays (l : Launch) (D : va_G) (cB cI cJ : ClassId) (ad : Nat → Nat) (n : Nat) (M : Nat → va_E) (hI : ipI ad n) (sc h nt : Nat) (th li le mo tw : Int32) (up lo : Int64) (hv tf : Nat → Int32) (wf : Nat → Int64) (h_sc : sc < n) (h_sc_1 : sc + 1 < n) (h_h : h < n) (h_h_5 : h + 5 < n) (h_h_6 : h + 6 < n) (m_sc : M sc = .inr (6, scaleF ad sc h th li le mo tw up lo)) (m_sc_1 : M (sc + 1) = .inl (cJ, 217, .inr (.inl wf))) (m_h : M h = .inr (0, hallF ad h hv)) (m_h_5 : M (h + 5) = .inr (8, [.int 7, .ref (ad (h + 6))])) (m_h_6 : M (h + 6) = .inl (cI, 84, .inl tf)) (h7 : hv 7 = nI nt) (hnt : nt ≤ 12) (hWT : wtOK nt tf) (hsh : sc + 1 < h ∨ h + 15 < sc) : cWv l D cB cI cJ ad n M yX6_countWays wsX6_countWays 2 46 [.ref (ad sc)] (fun M' => M' (sc + 1) = .inl (cJ, 217, .inr (.inl (s_X6_countWays_34 th tf (s_X6_countWays_2 wf 217) nt))) ∧ ∀ q : Nat, q ≠ sc + 1 → M' q = M q) := by
  refine q_body (cc := cX6_countWays) (maxL := 2) (ret := none) (by decide) rfl (Nat.le_of_ble_eq_true rfl) ?_
  intro p e s m args below meth c ls X hr hlocks hK hP hl
  obtain ⟨hx, hb, hml, hown, hts⟩ := id X
  have hS : va_S (ipA ad n) s.heap s.heap [] := va_S.rf
  have hl : lv_has ls 2 [(0, .ref (ad sc))] := hl
  refine lv_iconst (v := 0) hx hb dX6_countWays_0 (by decide) ?_
  refine lv_istore_n (lv' := [(1, .int 0), (0, .ref (ad sc))]) hx hb dX6_countWays_1 rfl hl (by decide) rfl (fun ls hl => ?_)
  have loop_2 : ∀ (fuel : Nat) (t2 : Nat) (y2_0 : Nat → Int64), 217 - (t2) < fuel → t2 ≤ 217 → y2_0 = (s_X6_countWays_2 wf t2) → ∀ (ML2 : Nat → va_E) (H : Heap) (locs : List Loc), ML2 (sc + 1) = .inl (cJ, 217, .inr (.inl y2_0)) → (∀ q : Nat, q ≠ sc + 1 → ML2 q = M q) → va_P D vwCl (ip ad n ML2) H → va_S (ipA ad n) s.heap H locs → ∀ (ls : Array Slot), lv_has ls 2 [(1, .int (nI t2)), (0, .ref (ad sc))] → W p l e (rmOf 2 46) s m args below meth c H locs 0 0 (MQ below (va_Qv (fun M' => M' (sc + 1) = .inl (cJ, 217, .inr (.inl (s_X6_countWays_34 th tf (s_X6_countWays_2 wf 217) nt))) ∧ ∀ q : Nat, q ≠ sc + 1 → M' q = M q) (fun M' t => va_P D vwCl (ip ad n M') t.heap) (ipA ad n)) args s 0 0 (ipA ad n)) (F0 m 2 ls []) := by
    intro fuel
    induction fuel with
    | zero =>
      intro t2 y2_0 hz
      exact absurd hz (Nat.not_lt_zero _)
    | succ fuel ih_2 =>
      intro t2 y2_0 hz_2 h_t2 e_y2_0 ML2 H locs mL2_0 fL2 hP hS ls hl
      skip
      refine lv_iload_n hx hb dX6_countWays_2 rfl (lv_at hl 0 rfl) ?_
      refine lv_aload_n hx hb dX6_countWays_3 rfl (lv_at hl 1 rfl) ?_
      refine q_get (v := .ref (ad (sc + 1))) (fs := scaleF ad sc h th li le mo tw up lo) X hK hP fX6_countWays_9 h_sc ((fL2 sc (by omega)).trans m_sc) rfl dX6_countWays_4 ?_
      refine q_alenJ (f := y2_0) (k := 217) (v := 217) X hK hP h_sc_1 mL2_0 (by decide) dX6_countWays_7 ?_
      refine lv_icmp_ge (tgt := 32) hx hb dX6_countWays_8 (by decide) (fun c_8 => ?_) (fun c_8 => ?_)
      · skip
        have h9_2 : t2 = 217 := eq_of_le (t := t2) (k := 217) c_8 (by omega) h_t2
        subst h9_2
        subst e_y2_0
        refine lv_iconst (v := 0) hx hb dX6_countWays_32 (by decide) ?_
        refine lv_istore_n (lv' := [(1, .int 0), (0, .ref (ad sc))]) hx hb dX6_countWays_33 rfl hl (by decide) rfl (fun ls hl => ?_)
        have loop_34 : ∀ (fuel : Nat) (t34 : Nat) (y34_0 : Nat → Int64), nt - (t34) < fuel → t34 ≤ nt → y34_0 = (s_X6_countWays_34 th tf (s_X6_countWays_2 wf 217) t34) → ∀ (ML34 : Nat → va_E) (H : Heap) (locs : List Loc), ML34 (sc + 1) = .inl (cJ, 217, .inr (.inl y34_0)) → (∀ q : Nat, q ≠ sc + 1 → ML34 q = ML2 q) → va_P D vwCl (ip ad n ML34) H → va_S (ipA ad n) s.heap H locs → ∀ (ls : Array Slot), lv_has ls 2 [(1, .int (nI t34)), (0, .ref (ad sc))] → W p l e (rmOf 2 46) s m args below meth c H locs 0 0 (MQ below (va_Qv (fun M' => M' (sc + 1) = .inl (cJ, 217, .inr (.inl (s_X6_countWays_34 th tf (s_X6_countWays_2 wf 217) nt))) ∧ ∀ q : Nat, q ≠ sc + 1 → M' q = M q) (fun M' t => va_P D vwCl (ip ad n M') t.heap) (ipA ad n)) args s 0 0 (ipA ad n)) (F0 m 34 ls []) := by
          intro fuel
          induction fuel with
          | zero =>
            intro t34 y34_0 hz
            exact absurd hz (Nat.not_lt_zero _)
          | succ fuel ih_34 =>
            intro t34 y34_0 hz_34 h_t34 e_y34_0 ML34 H locs mL34_0 fL34 hP hS ls hl
            skip
            refine lv_iload_n hx hb dX6_countWays_34 rfl (lv_at hl 0 rfl) ?_
            refine lv_aload_n hx hb dX6_countWays_35 rfl (lv_at hl 1 rfl) ?_
            refine q_get (v := .ref (ad h)) (fs := scaleF ad sc h th li le mo tw up lo) X hK hP fX6_countWays_15 h_sc ((fL34 sc (by omega)).trans ((fL2 sc (by omega)).trans m_sc)) rfl dX6_countWays_36 ?_
            refine q_get (v := .int (hv 7)) (fs := hallF ad h hv) X hK hP fX6_countWays_67 h_h ((fL34 h (by omega)).trans ((fL2 h (by omega)).trans m_h)) rfl dX6_countWays_39 ?_
            refine lv_icmp_ge (tgt := 80) hx hb dX6_countWays_42 (by decide) (fun c_42 => ?_) (fun c_42 => ?_)
            · rw [h7] at c_42
              have h9_34 : t34 = nt := eq_of_le (t := t34) (k := nt) c_42 (by omega) h_t34
              subst t34
              subst e_y34_0
              exact q_wvret X hr hlocks hP hS ⟨mL34_0, (fun q n0 => ((fL34 q n0).trans (fL2 q n0)))⟩ dX6_countWays_80
            · rw [h7] at c_42
              have h9_34 : t34 < nt := lt_of_nlt (t := t34) (k := nt) c_42 (by omega) h_t34
              refine lv_aload_n hx hb dX6_countWays_45 rfl (lv_at hl 1 rfl) ?_
              refine q_get (v := .int th) (fs := scaleF ad sc h th li le mo tw up lo) X hK hP fX6_countWays_26 h_sc ((fL34 sc (by omega)).trans ((fL2 sc (by omega)).trans m_sc)) rfl dX6_countWays_46 ?_
              refine lv_iload_n hx hb dX6_countWays_49 rfl (lv_at hl 0 rfl) ?_
              refine lv_ishr hx hb dX6_countWays_50 ?_
              refine lv_iconst (v := 1) hx hb dX6_countWays_51 (by decide) ?_
              refine lv_iand hx hb dX6_countWays_52 ?_
              refine lv_if_eq (tgt := 74) hx hb dX6_countWays_53 (by decide) (fun c_53 => ?_) (fun c_53 => ?_)
              · skip
                refine lv_iinc (v := ((nI t34) + 1)) (lv' := [(1, .int ((nI t34) + 1)), (0, .ref (ad sc))]) hx hb dX6_countWays_74 hl (k := 0) rfl rfl (by decide) rfl (fun ls hl => ?_)
                refine lv_goto (tgt := 34) hx hb dX6_countWays_77 (by decide) ?_
                exact ih_34 (t34 + 1) y34_0 (by omega) (by omega) (by rw [s_X6_countWays_34, ← e_y34_0, s_X6_countWays_34s, if_pos c_53]) _ _ _ mL34_0 (fun q n0 => (fL34 q n0)) hP hS ls (by rw [(show nI (t34 + 1) = nI t34 + 1 by exact nI_succ _)]; exact lv_sub hl [0, 1] rfl)
              · skip
                refine lv_aload_n hx hb dX6_countWays_56 rfl (lv_at hl 1 rfl) ?_
                refine lv_iconst (v := 2) hx hb dX6_countWays_57 (by decide) ?_
                refine lv_aload_n hx hb dX6_countWays_58 rfl (lv_at hl 1 rfl) ?_
                refine q_get (v := .ref (ad h)) (fs := scaleF ad sc h th li le mo tw up lo) X hK hP fX6_countWays_15 h_sc ((fL34 sc (by omega)).trans ((fL2 sc (by omega)).trans m_sc)) rfl dX6_countWays_59 ?_
                refine q_get (v := .ref (ad (h + 5))) (fs := hallF ad h hv) X hK hP fX6_countWays_70 h_h ((fL34 h (by omega)).trans ((fL2 h (by omega)).trans m_h)) rfl dX6_countWays_62 ?_
                refine lv_iload_n hx hb dX6_countWays_65 rfl (lv_at hl 0 rfl) ?_
                refine lv_iconst (v := 2) hx hb dX6_countWays_66 (by decide) ?_
                refine q_rdV (As := [.int (nI t34), .int 2]) (rest := [.int 2, .ref (ad sc)]) (c_X8_at_ l D cB cI cJ ad n ML34 (h + 5) (h + 6) 84 7 tf (nI t34) 2 h_h_5 h_h_6 ((fL34 (h + 5) (by omega)).trans ((fL2 (h + 5) (by omega)).trans m_h_5)) ((fL34 (h + 6) (by omega)).trans ((fL2 (h + 6) (by omega)).trans m_h_6)) (by decide)) X hK hP hS hl.1 rfl gX6_countWays_X8_at_ yd_X8_at_ ⟨Nat.le_of_ble_eq_true rfl, Nat.le_of_ble_eq_true rfl⟩ h_h_5 ((fL34 (h + 5) (by omega)).trans ((fL2 (h + 5) (by omega)).trans m_h_5)) (ci := 8) rfl rfl (Nat.le_of_ble_eq_true rfl) ⟨Nat.zero_le _, Nat.zero_le _⟩ dX6_countWays_67 ?_
                refine lv_imul hx hb dX6_countWays_70 ?_
                refine q_wrVv (As := [.int (2 * (tat 84 tf ((nI t34) * 7 + 2)))]) (rest := []) (c_X6_addUnsure l D cB cI cJ ad n ML34 hI sc h th li le mo tw up lo y34_0 (2 * (tat 84 tf ((nI t34) * 7 + 2))) h_sc h_sc_1 ((fL34 sc (by omega)).trans ((fL2 sc (by omega)).trans m_sc)) mL34_0 ((wt2 hWT h9_34).1) ((wt2 hWT h9_34).2)) X hK hP hS hl.1 rfl gX6_countWays_X6_addUnsure yd_X6_addUnsure ⟨Nat.le_of_ble_eq_true rfl, Nat.le_of_ble_eq_true rfl⟩ h_sc ((fL34 sc (by omega)).trans ((fL2 sc (by omega)).trans m_sc)) (ci := 6) rfl rfl (Nat.le_of_ble_eq_true rfl) ⟨Nat.zero_le _, Nat.zero_le _⟩ dX6_countWays_71 (fun M2 H locs hp1 hP hS => ?_)
                obtain ⟨g4, fr5⟩ := hp1
                refine lv_iinc (v := ((nI t34) + 1)) (lv' := [(1, .int ((nI t34) + 1)), (0, .ref (ad sc))]) hx hb dX6_countWays_74 hl (k := 0) rfl rfl (by decide) rfl (fun ls hl => ?_)
                refine lv_goto (tgt := 34) hx hb dX6_countWays_77 (by decide) ?_
                exact ih_34 (t34 + 1) (auS (2 * (tat 84 tf ((nI t34) * 7 + 2))).toNatClampNeg 217 y34_0) (by omega) (by omega) (by rw [s_X6_countWays_34, ← e_y34_0, s_X6_countWays_34s, if_neg c_53]) _ _ _ g4 (fun q n0 => ((fr5 q n0).trans (fL34 q n0))) hP hS ls (by rw [(show nI (t34 + 1) = nI t34 + 1 by exact nI_succ _)]; exact lv_sub hl [0, 1] rfl)
        exact loop_34 (nt + 1) 0 (s_X6_countWays_2 wf 217) (by omega) (by omega) (by rfl) _ _ _ mL2_0 (fun q n0 => rfl) hP hS ls (lv_sub hl [0, 1] rfl)
      · skip
        have h9_2 : t2 < 217 := lt_of_nlt (t := t2) (k := 217) c_8 (by omega) h_t2
        refine lv_aload_n hx hb dX6_countWays_11 rfl (lv_at hl 1 rfl) ?_
        refine q_get (v := .ref (ad (sc + 1))) (fs := scaleF ad sc h th li le mo tw up lo) X hK hP fX6_countWays_9 h_sc ((fL2 sc (by omega)).trans m_sc) rfl dX6_countWays_12 ?_
        refine lv_iload_n hx hb dX6_countWays_15 rfl (lv_at hl 0 rfl) ?_
        refine lv_iload_n hx hb dX6_countWays_16 rfl (lv_at hl 0 rfl) ?_
        refine lv_if_ne (tgt := 24) hx hb dX6_countWays_17 (by decide) (fun c_17 => ?_) (fun c_17 => ?_)
        · skip
          refine lv_lconst (v := 0) hx hb dX6_countWays_24 (by decide) ?_
          refine q_lastN (f := y2_0) (k := 217) X hK hI hP hS t2 h_sc_1 mL2_0 (by omega) (by decide) dX6_countWays_25 (fun H locs hP hS => ?_)
          refine lv_iinc (v := ((nI t2) + 1)) (lv' := [(1, .int ((nI t2) + 1)), (0, .ref (ad sc))]) hx hb dX6_countWays_26 hl (k := 0) rfl rfl (by decide) rfl (fun ls hl => ?_)
          refine lv_goto (tgt := 2) hx hb dX6_countWays_29 (by decide) ?_
          exact ih_2 (t2 + 1) (vp_updL y2_0 t2 0) (by omega) (by omega) (by rw [s_X6_countWays_2, ← e_y2_0, s_X6_countWays_2s, if_neg c_17]) _ _ _ (va_up_self ML2 (sc + 1) (.inl (cJ, 217, .inr (.inl (vp_updL y2_0 t2 0))))) (fun q n0 => ((va_up_ne _ _ n0).trans (fL2 q n0))) hP hS ls (by rw [(show nI (t2 + 1) = nI t2 + 1 by exact nI_succ _)]; exact lv_sub hl [0, 1] rfl)
        · skip
          refine lv_lconst (v := 1) hx hb dX6_countWays_20 (by decide) ?_
          refine lv_goto (tgt := 25) hx hb dX6_countWays_21 (by decide) ?_
          refine q_lastN (f := y2_0) (k := 217) X hK hI hP hS t2 h_sc_1 mL2_0 (by omega) (by decide) dX6_countWays_25 (fun H locs hP hS => ?_)
          refine lv_iinc (v := ((nI t2) + 1)) (lv' := [(1, .int ((nI t2) + 1)), (0, .ref (ad sc))]) hx hb dX6_countWays_26 hl (k := 0) rfl rfl (by decide) rfl (fun ls hl => ?_)
          refine lv_goto (tgt := 2) hx hb dX6_countWays_29 (by decide) ?_
          exact ih_2 (t2 + 1) (vp_updL y2_0 t2 1) (by omega) (by omega) (by rw [s_X6_countWays_2, ← e_y2_0, s_X6_countWays_2s, if_pos c_17]) _ _ _ (va_up_self ML2 (sc + 1) (.inl (cJ, 217, .inr (.inl (vp_updL y2_0 t2 1))))) (fun q n0 => ((va_up_ne _ _ n0).trans (fL2 q n0))) hP hS ls (by rw [(show nI (t2 + 1) = nI t2 + 1 by exact nI_succ _)]; exact lv_sub hl [0, 1] rfl)
  exact loop_2 (217 + 1) 0 wf (by omega) (by omega) (by rfl) _ _ _ m_sc_1 (fun q n0 => rfl) hP hS ls (lv_sub hl [0, 1] rfl)
theorem yd_X6_countWays : YD yX6_countWays 0 := ⟨by decide +kernel, by decide +kernel, by decide +kernel⟩
set_option maxRecDepth 20000 in
theorem fX6_findChance_57 : FL wsX6_findChance RX6 57 6 7 := ⟨RX6, TX6, 9, rfl, by decide +kernel, by decide, by decide +kernel⟩
set_option maxRecDepth 20000 in
theorem fX6_findChance_61 : FL wsX6_findChance RX6 61 6 8 := ⟨RX6, TX6, 9, rfl, by decide +kernel, by decide, by decide +kernel⟩
set_option maxRecDepth 20000 in
theorem fX6_findChance_9 : FL wsX6_findChance RX6 9 6 0 := ⟨RX6, TX6, 9, rfl, by decide +kernel, by decide, by decide +kernel⟩
set_option maxRecDepth 20000 in
theorem fX6_findChance_48 : FL wsX6_findChance RX6 48 6 4 := ⟨RX6, TX6, 9, rfl, by decide +kernel, by decide, by decide +kernel⟩
set_option maxRecDepth 20000 in
theorem fX6_findChance_42 : FL wsX6_findChance RX6 42 6 3 := ⟨RX6, TX6, 9, rfl, by decide +kernel, by decide, by decide +kernel⟩
theorem yd_X6_reduce : YD yX6_reduce 0 := ⟨by decide +kernel, by decide +kernel, by decide +kernel⟩
def s_X6_findChance_16s (nt : Nat) (th : Int32) (li : Int32) (le : Int32) (tf : Nat → Int32) (wf : Nat → Int64) (t16 : Nat) (y16_0 : Int64) (y16_1 : Int64) : Int64 × Int64 := if li < (le + (nI t16)) then ((y16_0 + 0), (y16_1 + ((s_X6_countWays_34 th tf (s_X6_countWays_2 wf 217) nt) t16))) else ((y16_0 + ((s_X6_countWays_34 th tf (s_X6_countWays_2 wf 217) nt) t16)), (y16_1 + ((s_X6_countWays_34 th tf (s_X6_countWays_2 wf 217) nt) t16)))
def s_X6_findChance_16 (nt : Nat) (th : Int32) (li : Int32) (le : Int32) (tf : Nat → Int32) (wf : Nat → Int64) (z0 : Int64) (z1 : Int64) : Nat → Int64 × Int64
  | 0 => (z0, z1)
  | t + 1 => s_X6_findChance_16s nt th li le tf wf t ((s_X6_findChance_16 nt th li le tf wf z0 z1 t).1) ((s_X6_findChance_16 nt th li le tf wf z0 z1 t).2)
set_option maxHeartbeats 4000000 in
set_option maxRecDepth 100000 in
theorem c_X6_findChance (l : Launch) (D : va_G) (cB cI cJ : ClassId) (ad : Nat → Nat) (n : Nat) (M : Nat → va_E) (hI : ipI ad n) (sc h nt : Nat) (th li le mo tw : Int32) (up lo : Int64) (hv tf : Nat → Int32) (wf : Nat → Int64) (h_sc : sc < n) (h_sc_1 : sc + 1 < n) (h_h : h < n) (h_h_5 : h + 5 < n) (h_h_6 : h + 6 < n) (m_sc : M sc = .inr (6, scaleF ad sc h th li le mo tw up lo)) (m_sc_1 : M (sc + 1) = .inl (cJ, 217, .inr (.inl wf))) (m_h : M h = .inr (0, hallF ad h hv)) (m_h_5 : M (h + 5) = .inr (8, [.int 7, .ref (ad (h + 6))])) (m_h_6 : M (h + 6) = .inl (cI, 84, .inl tf)) (h7 : hv 7 = nI nt) (hnt : nt ≤ 12) (hWT : wtOK nt tf) (hsh : sc + 1 < h ∨ h + 15 < sc) : cWv l D cB cI cJ ad n M yX6_findChance wsX6_findChance 3 67 [.ref (ad sc)] (fun M' => M' (sc + 1) = .inl (cJ, 217, .inr (.inl (s_X6_countWays_34 th tf (s_X6_countWays_2 wf 217) nt))) ∧ M' sc = .inr (6, scaleF ad sc h th li le mo tw (rdS ((s_X6_findChance_16 nt th li le tf wf 0 0 217).1) ((s_X6_findChance_16 nt th li le tf wf 0 0 217).2) ((s_X6_findChance_16 nt th li le tf wf 0 0 217).1)) (rdS ((s_X6_findChance_16 nt th li le tf wf 0 0 217).1) ((s_X6_findChance_16 nt th li le tf wf 0 0 217).2) ((s_X6_findChance_16 nt th li le tf wf 0 0 217).2))) ∧ ∀ q : Nat, q ≠ sc + 1 → q ≠ sc → M' q = M q) := by
  refine q_body (cc := cX6_findChance) (maxL := 2) (ret := none) (by decide) rfl (Nat.le_of_ble_eq_true rfl) ?_
  intro p e s m args below meth c ls X hr hlocks hK hP hl
  obtain ⟨hx, hb, hml, hown, hts⟩ := id X
  have hS : va_S (ipA ad n) s.heap s.heap [] := va_S.rf
  have hl : lv_has ls 2 [(0, .ref (ad sc))] := hl
  refine lv_aload_n hx hb dX6_findChance_0 rfl (lv_at hl 0 rfl) ?_
  refine q_wrVv (As := []) (rest := []) (c_X6_countWays l D cB cI cJ ad n M hI sc h nt th li le mo tw up lo hv tf wf h_sc h_sc_1 h_h h_h_5 h_h_6 m_sc m_sc_1 m_h m_h_5 m_h_6 h7 hnt hWT hsh) X hK hP hS hl.1 rfl gX6_findChance_X6_countWays yd_X6_countWays ⟨Nat.le_of_ble_eq_true rfl, Nat.le_of_ble_eq_true rfl⟩ h_sc m_sc (ci := 6) rfl rfl (Nat.le_of_ble_eq_true rfl) ⟨Nat.zero_le _, Nat.zero_le _⟩ dX6_findChance_1 (fun M2 H locs hp1 hP hS => ?_)
  obtain ⟨g4, fr5⟩ := hp1
  refine lv_aload_n hx hb dX6_findChance_4 rfl (lv_at hl 0 rfl) ?_
  refine lv_lconst (v := 0) hx hb dX6_findChance_5 (by decide) ?_
  refine q_put (fs := scaleF ad sc h th li le mo tw up lo) (fs' := scaleF ad sc h th li le mo tw 0 lo) X hK hI hP hS fX6_findChance_57 fw_6_7 h_sc ((fr5 sc (by omega)).trans m_sc) rfl rfl (Nat.le_of_ble_eq_true rfl) rfl dX6_findChance_6 (fun H locs hP hS => ?_)
  refine lv_aload_n hx hb dX6_findChance_9 rfl (lv_at hl 0 rfl) ?_
  refine lv_lconst (v := 0) hx hb dX6_findChance_10 (by decide) ?_
  refine q_put (fs := scaleF ad sc h th li le mo tw 0 lo) (fs' := scaleF ad sc h th li le mo tw 0 0) X hK hI hP hS fX6_findChance_61 fw_6_8 h_sc (va_up_self M2 sc (.inr (6, scaleF ad sc h th li le mo tw 0 lo))) rfl rfl (Nat.le_of_ble_eq_true rfl) rfl dX6_findChance_11 (fun H locs hP hS => ?_)
  refine lv_iconst (v := 0) hx hb dX6_findChance_14 (by decide) ?_
  refine lv_istore_n (lv' := [(1, .int 0), (0, .ref (ad sc))]) hx hb dX6_findChance_15 rfl hl (by decide) rfl (fun ls hl => ?_)
  have loop_16 : ∀ (fuel : Nat) (t16 : Nat) (y16_0 : Int64) (y16_1 : Int64), 217 - (t16) < fuel → t16 ≤ 217 → y16_0 = (s_X6_findChance_16 nt th li le tf wf 0 0 t16).1 → y16_1 = (s_X6_findChance_16 nt th li le tf wf 0 0 t16).2 → ∀ (ML16 : Nat → va_E) (H : Heap) (locs : List Loc), ML16 sc = .inr (6, scaleF ad sc h th li le mo tw y16_0 y16_1) → (∀ q : Nat, q ≠ sc → ML16 q = va_up (va_up M2 sc (.inr (6, scaleF ad sc h th li le mo tw 0 lo))) sc (.inr (6, scaleF ad sc h th li le mo tw 0 0)) q) → va_P D vwCl (ip ad n ML16) H → va_S (ipA ad n) s.heap H locs → ∀ (ls : Array Slot), lv_has ls 2 [(1, .int (nI t16)), (0, .ref (ad sc))] → W p l e (rmOf 3 67) s m args below meth c H locs 0 0 (MQ below (va_Qv (fun M' => M' (sc + 1) = .inl (cJ, 217, .inr (.inl (s_X6_countWays_34 th tf (s_X6_countWays_2 wf 217) nt))) ∧ M' sc = .inr (6, scaleF ad sc h th li le mo tw (rdS ((s_X6_findChance_16 nt th li le tf wf 0 0 217).1) ((s_X6_findChance_16 nt th li le tf wf 0 0 217).2) ((s_X6_findChance_16 nt th li le tf wf 0 0 217).1)) (rdS ((s_X6_findChance_16 nt th li le tf wf 0 0 217).1) ((s_X6_findChance_16 nt th li le tf wf 0 0 217).2) ((s_X6_findChance_16 nt th li le tf wf 0 0 217).2))) ∧ ∀ q : Nat, q ≠ sc + 1 → q ≠ sc → M' q = M q) (fun M' t => va_P D vwCl (ip ad n M') t.heap) (ipA ad n)) args s 0 0 (ipA ad n)) (F0 m 16 ls []) := by
    intro fuel
    induction fuel with
    | zero =>
      intro t16 y16_0 y16_1 hz
      exact absurd hz (Nat.not_lt_zero _)
    | succ fuel ih_16 =>
      intro t16 y16_0 y16_1 hz_16 h_t16 e_y16_0 e_y16_1 ML16 H locs mL16_0 fL16 hP hS ls hl
      skip
      refine lv_iload_n hx hb dX6_findChance_16 rfl (lv_at hl 0 rfl) ?_
      refine lv_aload_n hx hb dX6_findChance_17 rfl (lv_at hl 1 rfl) ?_
      refine q_get (v := .ref (ad (sc + 1))) (fs := scaleF ad sc h th li le mo tw y16_0 y16_1) X hK hP fX6_findChance_9 h_sc mL16_0 rfl dX6_findChance_18 ?_
      refine q_alenJ (f := (s_X6_countWays_34 th tf (s_X6_countWays_2 wf 217) nt)) (k := 217) (v := 217) X hK hP h_sc_1 ((fL16 (sc + 1) (by omega)).trans ((va_up_ne (va_up M2 sc (.inr (6, scaleF ad sc h th li le mo tw 0 lo))) (.inr (6, scaleF ad sc h th li le mo tw 0 0)) (show sc + 1 ≠ sc by omega)).trans ((va_up_ne M2 (.inr (6, scaleF ad sc h th li le mo tw 0 lo)) (show sc + 1 ≠ sc by omega)).trans g4))) (by decide) dX6_findChance_21 ?_
      refine lv_icmp_ge (tgt := 78) hx hb dX6_findChance_22 (by decide) (fun c_22 => ?_) (fun c_22 => ?_)
      · skip
        have h9_16 : t16 = 217 := eq_of_le (t := t16) (k := 217) c_22 (by omega) h_t16
        subst h9_16
        subst e_y16_0
        subst e_y16_1
        refine lv_aload_n hx hb dX6_findChance_78 rfl (lv_at hl 1 rfl) ?_
        refine q_wrVv (As := []) (rest := []) (c_X6_reduce l D cB cI cJ ad n ML16 hI sc h th li le mo tw ((s_X6_findChance_16 nt th li le tf wf 0 0 217).1) ((s_X6_findChance_16 nt th li le tf wf 0 0 217).2) h_sc mL16_0 ) X hK hP hS hl.1 rfl gX6_findChance_X6_reduce yd_X6_reduce ⟨Nat.le_of_ble_eq_true rfl, Nat.le_of_ble_eq_true rfl⟩ h_sc mL16_0 (ci := 6) rfl rfl (Nat.le_of_ble_eq_true rfl) ⟨Nat.zero_le _, Nat.zero_le _⟩ dX6_findChance_79 (fun M11 H locs hp10 hP hS => ?_)
        obtain ⟨g13, fr14⟩ := hp10
        exact q_wvret X hr hlocks hP hS ⟨((fr14 (sc + 1) (by omega)).trans ((fL16 (sc + 1) (by omega)).trans ((va_up_ne (va_up M2 sc (.inr (6, scaleF ad sc h th li le mo tw 0 lo))) (.inr (6, scaleF ad sc h th li le mo tw 0 0)) (show sc + 1 ≠ sc by omega)).trans ((va_up_ne M2 (.inr (6, scaleF ad sc h th li le mo tw 0 lo)) (show sc + 1 ≠ sc by omega)).trans g4)))), g13, (fun q n0 n1 => ((fr14 q n1).trans ((fL16 q n1).trans ((va_up_ne _ _ n1).trans ((va_up_ne _ _ n1).trans (fr5 q n0))))))⟩ dX6_findChance_82
      · skip
        have h9_16 : t16 < 217 := lt_of_nlt (t := t16) (k := 217) c_22 (by omega) h_t16
        refine lv_aload_n hx hb dX6_findChance_25 rfl (lv_at hl 1 rfl) ?_
        refine lv_dup hx hb dX6_findChance_26 rfl ?_
        refine q_get (v := .long y16_1) (fs := scaleF ad sc h th li le mo tw y16_0 y16_1) X hK hP fX6_findChance_61 h_sc mL16_0 rfl dX6_findChance_27 ?_
        refine lv_aload_n hx hb dX6_findChance_30 rfl (lv_at hl 1 rfl) ?_
        refine q_get (v := .ref (ad (sc + 1))) (fs := scaleF ad sc h th li le mo tw y16_0 y16_1) X hK hP fX6_findChance_9 h_sc mL16_0 rfl dX6_findChance_31 ?_
        refine lv_iload_n hx hb dX6_findChance_34 rfl (lv_at hl 0 rfl) ?_
        refine q_laldN (f := (s_X6_countWays_34 th tf (s_X6_countWays_2 wf 217) nt)) (k := 217) X hK hP t16 h_sc_1 ((fL16 (sc + 1) (by omega)).trans ((va_up_ne (va_up M2 sc (.inr (6, scaleF ad sc h th li le mo tw 0 lo))) (.inr (6, scaleF ad sc h th li le mo tw 0 0)) (show sc + 1 ≠ sc by omega)).trans ((va_up_ne M2 (.inr (6, scaleF ad sc h th li le mo tw 0 lo)) (show sc + 1 ≠ sc by omega)).trans g4))) (by omega) (by decide) dX6_findChance_35 ?_
        refine lv_ladd hx hb dX6_findChance_36 ?_
        refine q_put (fs := scaleF ad sc h th li le mo tw y16_0 y16_1) (fs' := scaleF ad sc h th li le mo tw y16_0 (y16_1 + ((s_X6_countWays_34 th tf (s_X6_countWays_2 wf 217) nt) t16))) X hK hI hP hS fX6_findChance_61 fw_6_8 h_sc mL16_0 rfl rfl (Nat.le_of_ble_eq_true rfl) rfl dX6_findChance_37 (fun H locs hP hS => ?_)
        refine lv_aload_n hx hb dX6_findChance_40 rfl (lv_at hl 1 rfl) ?_
        refine lv_dup hx hb dX6_findChance_41 rfl ?_
        refine q_get (v := .long y16_0) (fs := scaleF ad sc h th li le mo tw y16_0 (y16_1 + ((s_X6_countWays_34 th tf (s_X6_countWays_2 wf 217) nt) t16))) X hK hP fX6_findChance_57 h_sc (va_up_self ML16 sc (.inr (6, scaleF ad sc h th li le mo tw y16_0 (y16_1 + ((s_X6_countWays_34 th tf (s_X6_countWays_2 wf 217) nt) t16))))) rfl dX6_findChance_42 ?_
        refine lv_aload_n hx hb dX6_findChance_45 rfl (lv_at hl 1 rfl) ?_
        refine q_get (v := .int le) (fs := scaleF ad sc h th li le mo tw y16_0 (y16_1 + ((s_X6_countWays_34 th tf (s_X6_countWays_2 wf 217) nt) t16))) X hK hP fX6_findChance_48 h_sc (va_up_self ML16 sc (.inr (6, scaleF ad sc h th li le mo tw y16_0 (y16_1 + ((s_X6_countWays_34 th tf (s_X6_countWays_2 wf 217) nt) t16))))) rfl dX6_findChance_46 ?_
        refine lv_iload_n hx hb dX6_findChance_49 rfl (lv_at hl 0 rfl) ?_
        refine lv_iadd hx hb dX6_findChance_50 ?_
        refine lv_aload_n hx hb dX6_findChance_51 rfl (lv_at hl 1 rfl) ?_
        refine q_get (v := .int li) (fs := scaleF ad sc h th li le mo tw y16_0 (y16_1 + ((s_X6_countWays_34 th tf (s_X6_countWays_2 wf 217) nt) t16))) X hK hP fX6_findChance_42 h_sc (va_up_self ML16 sc (.inr (6, scaleF ad sc h th li le mo tw y16_0 (y16_1 + ((s_X6_countWays_34 th tf (s_X6_countWays_2 wf 217) nt) t16))))) rfl dX6_findChance_52 ?_
        refine lv_icmp_gt (tgt := 67) hx hb dX6_findChance_55 (by decide) (fun c_55 => ?_) (fun c_55 => ?_)
        · skip
          refine lv_lconst (v := 0) hx hb dX6_findChance_67 (by decide) ?_
          refine lv_ladd hx hb dX6_findChance_68 ?_
          refine q_put (fs := scaleF ad sc h th li le mo tw y16_0 (y16_1 + ((s_X6_countWays_34 th tf (s_X6_countWays_2 wf 217) nt) t16))) (fs' := scaleF ad sc h th li le mo tw (y16_0 + 0) (y16_1 + ((s_X6_countWays_34 th tf (s_X6_countWays_2 wf 217) nt) t16))) X hK hI hP hS fX6_findChance_57 fw_6_7 h_sc (va_up_self ML16 sc (.inr (6, scaleF ad sc h th li le mo tw y16_0 (y16_1 + ((s_X6_countWays_34 th tf (s_X6_countWays_2 wf 217) nt) t16))))) rfl rfl (Nat.le_of_ble_eq_true rfl) rfl dX6_findChance_69 (fun H locs hP hS => ?_)
          refine lv_iinc (v := ((nI t16) + 1)) (lv' := [(1, .int ((nI t16) + 1)), (0, .ref (ad sc))]) hx hb dX6_findChance_72 hl (k := 0) rfl rfl (by decide) rfl (fun ls hl => ?_)
          refine lv_goto (tgt := 16) hx hb dX6_findChance_75 (by decide) ?_
          exact ih_16 (t16 + 1) (y16_0 + 0) (y16_1 + ((s_X6_countWays_34 th tf (s_X6_countWays_2 wf 217) nt) t16)) (by omega) (by omega) (by rw [s_X6_findChance_16, ← e_y16_0, ← e_y16_1, s_X6_findChance_16s, if_pos c_55]) (by rw [s_X6_findChance_16, ← e_y16_0, ← e_y16_1, s_X6_findChance_16s, if_pos c_55]) _ _ _ (va_up_self (va_up ML16 sc (.inr (6, scaleF ad sc h th li le mo tw y16_0 (y16_1 + ((s_X6_countWays_34 th tf (s_X6_countWays_2 wf 217) nt) t16))))) sc (.inr (6, scaleF ad sc h th li le mo tw (y16_0 + 0) (y16_1 + ((s_X6_countWays_34 th tf (s_X6_countWays_2 wf 217) nt) t16))))) (fun q n0 => ((va_up_ne _ _ n0).trans ((va_up_ne _ _ n0).trans (fL16 q n0)))) hP hS ls (by rw [(show nI (t16 + 1) = nI t16 + 1 by exact nI_succ _)]; exact lv_sub hl [0, 1] rfl)
        · skip
          refine lv_aload_n hx hb dX6_findChance_58 rfl (lv_at hl 1 rfl) ?_
          refine q_get (v := .ref (ad (sc + 1))) (fs := scaleF ad sc h th li le mo tw y16_0 (y16_1 + ((s_X6_countWays_34 th tf (s_X6_countWays_2 wf 217) nt) t16))) X hK hP fX6_findChance_9 h_sc (va_up_self ML16 sc (.inr (6, scaleF ad sc h th li le mo tw y16_0 (y16_1 + ((s_X6_countWays_34 th tf (s_X6_countWays_2 wf 217) nt) t16))))) rfl dX6_findChance_59 ?_
          refine lv_iload_n hx hb dX6_findChance_62 rfl (lv_at hl 0 rfl) ?_
          refine q_laldN (f := (s_X6_countWays_34 th tf (s_X6_countWays_2 wf 217) nt)) (k := 217) X hK hP t16 h_sc_1 ((va_up_ne ML16 (.inr (6, scaleF ad sc h th li le mo tw y16_0 (y16_1 + ((s_X6_countWays_34 th tf (s_X6_countWays_2 wf 217) nt) t16)))) (show sc + 1 ≠ sc by omega)).trans ((fL16 (sc + 1) (by omega)).trans ((va_up_ne (va_up M2 sc (.inr (6, scaleF ad sc h th li le mo tw 0 lo))) (.inr (6, scaleF ad sc h th li le mo tw 0 0)) (show sc + 1 ≠ sc by omega)).trans ((va_up_ne M2 (.inr (6, scaleF ad sc h th li le mo tw 0 lo)) (show sc + 1 ≠ sc by omega)).trans g4)))) (by omega) (by decide) dX6_findChance_63 ?_
          refine lv_goto (tgt := 68) hx hb dX6_findChance_64 (by decide) ?_
          refine lv_ladd hx hb dX6_findChance_68 ?_
          refine q_put (fs := scaleF ad sc h th li le mo tw y16_0 (y16_1 + ((s_X6_countWays_34 th tf (s_X6_countWays_2 wf 217) nt) t16))) (fs' := scaleF ad sc h th li le mo tw (y16_0 + ((s_X6_countWays_34 th tf (s_X6_countWays_2 wf 217) nt) t16)) (y16_1 + ((s_X6_countWays_34 th tf (s_X6_countWays_2 wf 217) nt) t16))) X hK hI hP hS fX6_findChance_57 fw_6_7 h_sc (va_up_self ML16 sc (.inr (6, scaleF ad sc h th li le mo tw y16_0 (y16_1 + ((s_X6_countWays_34 th tf (s_X6_countWays_2 wf 217) nt) t16))))) rfl rfl (Nat.le_of_ble_eq_true rfl) rfl dX6_findChance_69 (fun H locs hP hS => ?_)
          refine lv_iinc (v := ((nI t16) + 1)) (lv' := [(1, .int ((nI t16) + 1)), (0, .ref (ad sc))]) hx hb dX6_findChance_72 hl (k := 0) rfl rfl (by decide) rfl (fun ls hl => ?_)
          refine lv_goto (tgt := 16) hx hb dX6_findChance_75 (by decide) ?_
          exact ih_16 (t16 + 1) (y16_0 + ((s_X6_countWays_34 th tf (s_X6_countWays_2 wf 217) nt) t16)) (y16_1 + ((s_X6_countWays_34 th tf (s_X6_countWays_2 wf 217) nt) t16)) (by omega) (by omega) (by rw [s_X6_findChance_16, ← e_y16_0, ← e_y16_1, s_X6_findChance_16s, if_neg c_55]) (by rw [s_X6_findChance_16, ← e_y16_0, ← e_y16_1, s_X6_findChance_16s, if_neg c_55]) _ _ _ (va_up_self (va_up ML16 sc (.inr (6, scaleF ad sc h th li le mo tw y16_0 (y16_1 + ((s_X6_countWays_34 th tf (s_X6_countWays_2 wf 217) nt) t16))))) sc (.inr (6, scaleF ad sc h th li le mo tw (y16_0 + ((s_X6_countWays_34 th tf (s_X6_countWays_2 wf 217) nt) t16)) (y16_1 + ((s_X6_countWays_34 th tf (s_X6_countWays_2 wf 217) nt) t16))))) (fun q n0 => ((va_up_ne _ _ n0).trans ((va_up_ne _ _ n0).trans (fL16 q n0)))) hP hS ls (by rw [(show nI (t16 + 1) = nI t16 + 1 by exact nI_succ _)]; exact lv_sub hl [0, 1] rfl)
  exact loop_16 (217 + 1) 0 0 0 (by omega) (by omega) (by rfl) (by rfl) _ _ _ (va_up_self (va_up M2 sc (.inr (6, scaleF ad sc h th li le mo tw 0 lo))) sc (.inr (6, scaleF ad sc h th li le mo tw 0 0))) (fun q n0 => rfl) hP hS ls (lv_sub hl [0, 1] rfl)
set_option maxRecDepth 20000 in
theorem fX6_findThingToWeigh_81 : FL wsX6_findThingToWeigh RX6 81 6 6 := ⟨RX6, TX6, 9, rfl, by decide +kernel, by decide, by decide +kernel⟩
theorem fw_6_6 : FW 6 6 .int := ⟨RX6, TX6, 9, tyX6, rfl, tyX6_ok, nmX6, by decide, rfl, by decide +kernel⟩
set_option maxRecDepth 20000 in
theorem fX6_findThingToWeigh_57 : FL wsX6_findThingToWeigh RX6 57 6 7 := ⟨RX6, TX6, 9, rfl, by decide +kernel, by decide, by decide +kernel⟩
set_option maxRecDepth 20000 in
theorem fX6_findThingToWeigh_61 : FL wsX6_findThingToWeigh RX6 61 6 8 := ⟨RX6, TX6, 9, rfl, by decide +kernel, by decide, by decide +kernel⟩
theorem yd_X6_known : YD yX6_known 0 := ⟨by decide +kernel, by decide +kernel, by decide +kernel⟩
set_option maxRecDepth 20000 in
theorem fX6_findThingToWeigh_15 : FL wsX6_findThingToWeigh RX6 15 6 1 := ⟨RX6, TX6, 9, rfl, by decide +kernel, by decide, by decide +kernel⟩
set_option maxRecDepth 20000 in
theorem fX6_findThingToWeigh_67 : FL wsX6_findThingToWeigh RX6 67 0 7 := ⟨RX0, TX0, 12, rfl, by decide +kernel, by decide, by decide +kernel⟩
set_option maxRecDepth 20000 in
theorem fX6_findThingToWeigh_26 : FL wsX6_findThingToWeigh RX6 26 6 2 := ⟨RX6, TX6, 9, rfl, by decide +kernel, by decide, by decide +kernel⟩
set_option maxRecDepth 20000 in
theorem fX6_findThingToWeigh_70 : FL wsX6_findThingToWeigh RX6 70 0 2 := ⟨RX0, TX0, 12, rfl, by decide +kernel, by decide, by decide +kernel⟩
theorem yd_X6_tellingWeights : YD yX6_tellingWeights 1 := ⟨by decide +kernel, by decide +kernel, by decide +kernel⟩
def s_X6_findThingToWeigh_26s (th : Int32) (li : Int32) (le : Int32) (mo : Int32) (tf : Nat → Int32) (t26 : Nat) (y26_0 : Int32) (y26_1 : Int64) (y26_2 : Int64) : Int32 × Int64 × Int64 := if ((th >>> ((nI t26) &&& 31)) &&& 1) = 0 then (y26_0, y26_1, y26_2) else if ((teS le mo li (tat 84 tf ((nI t26) * 7 + 1)) (tat 84 tf ((nI t26) * 7 + 2)) ((tat 84 tf ((nI t26) * 7 + 1)).toNatClampNeg - (tat 84 tf ((nI t26) * 7 + 2)).toNatClampNeg) ((tat 84 tf ((nI t26) * 7 + 2)).toNatClampNeg + (tat 84 tf ((nI t26) * 7 + 2)).toNatClampNeg + 1)).toInt64) < 0 then (y26_0, y26_1, y26_2) else if y26_0 = (-1) then (nI t26, (teS le mo li (tat 84 tf ((nI t26) * 7 + 1)) (tat 84 tf ((nI t26) * 7 + 2)) ((tat 84 tf ((nI t26) * 7 + 1)).toNatClampNeg - (tat 84 tf ((nI t26) * 7 + 2)).toNatClampNeg) ((tat 84 tf ((nI t26) * 7 + 2)).toNatClampNeg + (tat 84 tf ((nI t26) * 7 + 2)).toNatClampNeg + 1)).toInt64, ((2 * (tat 84 tf ((nI t26) * 7 + 2))) + 1).toInt64) else if (((teS le mo li (tat 84 tf ((nI t26) * 7 + 1)) (tat 84 tf ((nI t26) * 7 + 2)) ((tat 84 tf ((nI t26) * 7 + 1)).toNatClampNeg - (tat 84 tf ((nI t26) * 7 + 2)).toNatClampNeg) ((tat 84 tf ((nI t26) * 7 + 2)).toNatClampNeg + (tat 84 tf ((nI t26) * 7 + 2)).toNatClampNeg + 1)).toInt64) * y26_2) ≤ (y26_1 * (((2 * (tat 84 tf ((nI t26) * 7 + 2))) + 1).toInt64)) then (y26_0, y26_1, y26_2) else (nI t26, (teS le mo li (tat 84 tf ((nI t26) * 7 + 1)) (tat 84 tf ((nI t26) * 7 + 2)) ((tat 84 tf ((nI t26) * 7 + 1)).toNatClampNeg - (tat 84 tf ((nI t26) * 7 + 2)).toNatClampNeg) ((tat 84 tf ((nI t26) * 7 + 2)).toNatClampNeg + (tat 84 tf ((nI t26) * 7 + 2)).toNatClampNeg + 1)).toInt64, ((2 * (tat 84 tf ((nI t26) * 7 + 2))) + 1).toInt64)
def s_X6_findThingToWeigh_26 (th : Int32) (li : Int32) (le : Int32) (mo : Int32) (tf : Nat → Int32) (z0 : Int32) (z1 : Int64) (z2 : Int64) : Nat → Int32 × Int64 × Int64
  | 0 => (z0, z1, z2)
  | t + 1 => s_X6_findThingToWeigh_26s th li le mo tf t ((s_X6_findThingToWeigh_26 th li le mo tf z0 z1 z2 t).1) ((s_X6_findThingToWeigh_26 th li le mo tf z0 z1 z2 t).2.1) ((s_X6_findThingToWeigh_26 th li le mo tf z0 z1 z2 t).2.2)
def s_X6_findThingToWeigh_0_6 (nt : Nat) (th : Int32) (li : Int32) (le : Int32) (mo : Int32) (tf : Nat → Int32) : Int32 := if (s_X6_known li le mo) = 2 then ((s_X6_findThingToWeigh_26 th li le mo tf (-1) 0 1 nt).1) else (-1)
def s_X6_findThingToWeigh_0_7 (nt : Nat) (th : Int32) (li : Int32) (le : Int32) (mo : Int32) (tf : Nat → Int32) : Int64 := if (s_X6_known li le mo) = 2 then (rdS ((s_X6_findThingToWeigh_26 th li le mo tf (-1) 0 1 nt).2.1) ((s_X6_findThingToWeigh_26 th li le mo tf (-1) 0 1 nt).2.2) ((s_X6_findThingToWeigh_26 th li le mo tf (-1) 0 1 nt).2.1)) else 0
def s_X6_findThingToWeigh_0_8 (nt : Nat) (th : Int32) (li : Int32) (le : Int32) (mo : Int32) (tf : Nat → Int32) : Int64 := if (s_X6_known li le mo) = 2 then (rdS ((s_X6_findThingToWeigh_26 th li le mo tf (-1) 0 1 nt).2.1) ((s_X6_findThingToWeigh_26 th li le mo tf (-1) 0 1 nt).2.2) ((s_X6_findThingToWeigh_26 th li le mo tf (-1) 0 1 nt).2.2)) else 1
set_option maxHeartbeats 4000000 in
set_option maxRecDepth 100000 in
theorem c_X6_findThingToWeigh (l : Launch) (D : va_G) (cB cI cJ : ClassId) (ad : Nat → Nat) (n : Nat) (M : Nat → va_E) (hI : ipI ad n) (sc h nt : Nat) (th li le mo tw : Int32) (up lo : Int64) (hv tf : Nat → Int32) (h_sc : sc < n) (h_h : h < n) (h_h_5 : h + 5 < n) (h_h_6 : h + 6 < n) (m_sc : M sc = .inr (6, scaleF ad sc h th li le mo tw up lo)) (m_h : M h = .inr (0, hallF ad h hv)) (m_h_5 : M (h + 5) = .inr (8, [.int 7, .ref (ad (h + 6))])) (m_h_6 : M (h + 6) = .inl (cI, 84, .inl tf)) (h7 : hv 7 = nI nt) (hnt : nt ≤ 12) (hWT : wtOK nt tf) (hsh : sc + 1 < h ∨ h + 15 < sc) : cWv l D cB cI cJ ad n M yX6_findThingToWeigh wsX6_findThingToWeigh 2 50 [.ref (ad sc)] (fun M' => M' sc = .inr (6, scaleF ad sc h th li le mo (s_X6_findThingToWeigh_0_6 nt th li le mo tf) (s_X6_findThingToWeigh_0_7 nt th li le mo tf) (s_X6_findThingToWeigh_0_8 nt th li le mo tf)) ∧ ∀ q : Nat, q ≠ sc → M' q = M q) := by
  refine q_body (cc := cX6_findThingToWeigh) (maxL := 6) (ret := none) (by decide) rfl (Nat.le_of_ble_eq_true rfl) ?_
  intro p e s m args below meth c ls X hr hlocks hK hP hl
  obtain ⟨hx, hb, hml, hown, hts⟩ := id X
  have hS : va_S (ipA ad n) s.heap s.heap [] := va_S.rf
  have hl : lv_has ls 6 [(0, .ref (ad sc))] := hl
  refine lv_aload_n hx hb dX6_findThingToWeigh_0 rfl (lv_at hl 0 rfl) ?_
  refine lv_iconst (v := (-1)) hx hb dX6_findThingToWeigh_1 (by decide) ?_
  refine q_put (fs := scaleF ad sc h th li le mo tw up lo) (fs' := scaleF ad sc h th li le mo (-1) up lo) X hK hI hP hS fX6_findThingToWeigh_81 fw_6_6 h_sc m_sc rfl rfl (Nat.le_of_ble_eq_true rfl) rfl dX6_findThingToWeigh_2 (fun H locs hP hS => ?_)
  refine lv_aload_n hx hb dX6_findThingToWeigh_5 rfl (lv_at hl 0 rfl) ?_
  refine lv_lconst (v := 0) hx hb dX6_findThingToWeigh_6 (by decide) ?_
  refine q_put (fs := scaleF ad sc h th li le mo (-1) up lo) (fs' := scaleF ad sc h th li le mo (-1) 0 lo) X hK hI hP hS fX6_findThingToWeigh_57 fw_6_7 h_sc (va_up_self M sc (.inr (6, scaleF ad sc h th li le mo (-1) up lo))) rfl rfl (Nat.le_of_ble_eq_true rfl) rfl dX6_findThingToWeigh_7 (fun H locs hP hS => ?_)
  refine lv_aload_n hx hb dX6_findThingToWeigh_10 rfl (lv_at hl 0 rfl) ?_
  refine lv_lconst (v := 1) hx hb dX6_findThingToWeigh_11 (by decide) ?_
  refine q_put (fs := scaleF ad sc h th li le mo (-1) 0 lo) (fs' := scaleF ad sc h th li le mo (-1) 0 1) X hK hI hP hS fX6_findThingToWeigh_61 fw_6_8 h_sc (va_up_self (va_up M sc (.inr (6, scaleF ad sc h th li le mo (-1) up lo))) sc (.inr (6, scaleF ad sc h th li le mo (-1) 0 lo))) rfl rfl (Nat.le_of_ble_eq_true rfl) rfl dX6_findThingToWeigh_12 (fun H locs hP hS => ?_)
  refine lv_aload_n hx hb dX6_findThingToWeigh_15 rfl (lv_at hl 0 rfl) ?_
  refine q_rdV (As := []) (rest := []) (c_X6_known l D cB cI cJ ad n (va_up (va_up (va_up M sc (.inr (6, scaleF ad sc h th li le mo (-1) up lo))) sc (.inr (6, scaleF ad sc h th li le mo (-1) 0 lo))) sc (.inr (6, scaleF ad sc h th li le mo (-1) 0 1))) sc h th li le mo (-1) 0 1 h_sc (va_up_self (va_up (va_up M sc (.inr (6, scaleF ad sc h th li le mo (-1) up lo))) sc (.inr (6, scaleF ad sc h th li le mo (-1) 0 lo))) sc (.inr (6, scaleF ad sc h th li le mo (-1) 0 1))) ) X hK hP hS hl.1 rfl gX6_findThingToWeigh_X6_known yd_X6_known ⟨Nat.le_of_ble_eq_true rfl, Nat.le_of_ble_eq_true rfl⟩ h_sc (va_up_self (va_up (va_up M sc (.inr (6, scaleF ad sc h th li le mo (-1) up lo))) sc (.inr (6, scaleF ad sc h th li le mo (-1) 0 lo))) sc (.inr (6, scaleF ad sc h th li le mo (-1) 0 1))) (ci := 6) rfl rfl (Nat.le_of_ble_eq_true rfl) ⟨Nat.zero_le _, Nat.zero_le _⟩ dX6_findThingToWeigh_16 ?_
  refine lv_iconst (v := 2) hx hb dX6_findThingToWeigh_19 (by decide) ?_
  refine lv_icmp_eq (tgt := 24) hx hb dX6_findThingToWeigh_20 (by decide) (fun c_20 => ?_) (fun c_20 => ?_)
  · skip
    refine lv_iconst (v := 0) hx hb dX6_findThingToWeigh_24 (by decide) ?_
    refine lv_istore_n (lv' := [(1, .int 0), (0, .ref (ad sc))]) hx hb dX6_findThingToWeigh_25 rfl hl (by decide) rfl (fun ls hl => ?_)
    have loop_26 : ∀ (fuel : Nat) (t26 : Nat) (y26_0 : Int32) (y26_1 : Int64) (y26_2 : Int64), nt - (t26) < fuel → t26 ≤ nt → y26_0 = (s_X6_findThingToWeigh_26 th li le mo tf (-1) 0 1 t26).1 → y26_1 = (s_X6_findThingToWeigh_26 th li le mo tf (-1) 0 1 t26).2.1 → y26_2 = (s_X6_findThingToWeigh_26 th li le mo tf (-1) 0 1 t26).2.2 → ∀ (ML26 : Nat → va_E) (H : Heap) (locs : List Loc), ML26 sc = .inr (6, scaleF ad sc h th li le mo y26_0 y26_1 y26_2) → (∀ q : Nat, q ≠ sc → ML26 q = va_up (va_up (va_up M sc (.inr (6, scaleF ad sc h th li le mo (-1) up lo))) sc (.inr (6, scaleF ad sc h th li le mo (-1) 0 lo))) sc (.inr (6, scaleF ad sc h th li le mo (-1) 0 1)) q) → va_P D vwCl (ip ad n ML26) H → va_S (ipA ad n) s.heap H locs → ∀ (ls : Array Slot), lv_has ls 6 [(1, .int (nI t26)), (0, .ref (ad sc))] → W p l e (rmOf 2 50) s m args below meth c H locs 0 0 (MQ below (va_Qv (fun M' => M' sc = .inr (6, scaleF ad sc h th li le mo (s_X6_findThingToWeigh_0_6 nt th li le mo tf) (s_X6_findThingToWeigh_0_7 nt th li le mo tf) (s_X6_findThingToWeigh_0_8 nt th li le mo tf)) ∧ ∀ q : Nat, q ≠ sc → M' q = M q) (fun M' t => va_P D vwCl (ip ad n M') t.heap) (ipA ad n)) args s 0 0 (ipA ad n)) (F0 m 26 ls []) := by
      intro fuel
      induction fuel with
      | zero =>
        intro t26 y26_0 y26_1 y26_2 hz
        exact absurd hz (Nat.not_lt_zero _)
      | succ fuel ih_26 =>
        intro t26 y26_0 y26_1 y26_2 hz_26 h_t26 e_y26_0 e_y26_1 e_y26_2 ML26 H locs mL26_0 fL26 hP hS ls hl
        skip
        refine lv_iload_n hx hb dX6_findThingToWeigh_26 rfl (lv_at hl 0 rfl) ?_
        refine lv_aload_n hx hb dX6_findThingToWeigh_27 rfl (lv_at hl 1 rfl) ?_
        refine q_get (v := .ref (ad h)) (fs := scaleF ad sc h th li le mo y26_0 y26_1 y26_2) X hK hP fX6_findThingToWeigh_15 h_sc mL26_0 rfl dX6_findThingToWeigh_28 ?_
        refine q_get (v := .int (hv 7)) (fs := hallF ad h hv) X hK hP fX6_findThingToWeigh_67 h_h ((fL26 h (by omega)).trans ((va_up_ne (va_up (va_up M sc (.inr (6, scaleF ad sc h th li le mo (-1) up lo))) sc (.inr (6, scaleF ad sc h th li le mo (-1) 0 lo))) (.inr (6, scaleF ad sc h th li le mo (-1) 0 1)) (show h ≠ sc by omega)).trans ((va_up_ne (va_up M sc (.inr (6, scaleF ad sc h th li le mo (-1) up lo))) (.inr (6, scaleF ad sc h th li le mo (-1) 0 lo)) (show h ≠ sc by omega)).trans ((va_up_ne M (.inr (6, scaleF ad sc h th li le mo (-1) up lo)) (show h ≠ sc by omega)).trans m_h)))) rfl dX6_findThingToWeigh_31 ?_
        refine lv_icmp_ge (tgt := 133) hx hb dX6_findThingToWeigh_34 (by decide) (fun c_34 => ?_) (fun c_34 => ?_)
        · rw [h7] at c_34
          have h9_26 : t26 = nt := eq_of_le (t := t26) (k := nt) c_34 (by omega) h_t26
          subst t26
          subst e_y26_0
          subst e_y26_1
          subst e_y26_2
          refine lv_aload_n hx hb dX6_findThingToWeigh_133 rfl (lv_at hl 1 rfl) ?_
          refine q_wrVv (As := []) (rest := []) (c_X6_reduce l D cB cI cJ ad n ML26 hI sc h th li le mo ((s_X6_findThingToWeigh_26 th li le mo tf (-1) 0 1 nt).1) ((s_X6_findThingToWeigh_26 th li le mo tf (-1) 0 1 nt).2.1) ((s_X6_findThingToWeigh_26 th li le mo tf (-1) 0 1 nt).2.2) h_sc mL26_0 ) X hK hP hS hl.1 rfl gX6_findThingToWeigh_X6_reduce yd_X6_reduce ⟨Nat.le_of_ble_eq_true rfl, Nat.le_of_ble_eq_true rfl⟩ h_sc mL26_0 (ci := 6) rfl rfl (Nat.le_of_ble_eq_true rfl) ⟨Nat.zero_le _, Nat.zero_le _⟩ dX6_findThingToWeigh_134 (fun M8 H locs hp7 hP hS => ?_)
          obtain ⟨g10, fr11⟩ := hp7
          exact q_wvret X hr hlocks hP hS ⟨(by rw [s_X6_findThingToWeigh_0_6, if_pos c_20, s_X6_findThingToWeigh_0_7, if_pos c_20, s_X6_findThingToWeigh_0_8, if_pos c_20]; exact g10), (fun q n0 => ((fr11 q n0).trans ((fL26 q n0).trans ((va_up_ne _ _ n0).trans ((va_up_ne _ _ n0).trans (va_up_ne _ _ n0))))))⟩ dX6_findThingToWeigh_137
        · rw [h7] at c_34
          have h9_26 : t26 < nt := lt_of_nlt (t := t26) (k := nt) c_34 (by omega) h_t26
          refine lv_aload_n hx hb dX6_findThingToWeigh_37 rfl (lv_at hl 1 rfl) ?_
          refine q_get (v := .int th) (fs := scaleF ad sc h th li le mo y26_0 y26_1 y26_2) X hK hP fX6_findThingToWeigh_26 h_sc mL26_0 rfl dX6_findThingToWeigh_38 ?_
          refine lv_iload_n hx hb dX6_findThingToWeigh_41 rfl (lv_at hl 0 rfl) ?_
          refine lv_ishr hx hb dX6_findThingToWeigh_42 ?_
          refine lv_iconst (v := 1) hx hb dX6_findThingToWeigh_43 (by decide) ?_
          refine lv_iand hx hb dX6_findThingToWeigh_44 ?_
          refine lv_if_eq (tgt := 57) hx hb dX6_findThingToWeigh_45 (by decide) (fun c_45 => ?_) (fun c_45 => ?_)
          · skip
            refine lv_ldc2 (v := (-1)) hx hb hown (hts _ (by decide +kernel)) dX6_findThingToWeigh_57 ?_
            refine lv_lstore_n (lv' := [(2, .long (-1)), (1, .int (nI t26)), (0, .ref (ad sc))]) hx hb dX6_findThingToWeigh_60 rfl hl (by decide) rfl (fun ls hl => ?_)
            refine lv_iconst (v := 2) hx hb dX6_findThingToWeigh_61 (by decide) ?_
            refine lv_aload_n hx hb dX6_findThingToWeigh_62 rfl (lv_at hl 2 rfl) ?_
            refine q_get (v := .ref (ad h)) (fs := scaleF ad sc h th li le mo y26_0 y26_1 y26_2) X hK hP fX6_findThingToWeigh_15 h_sc mL26_0 rfl dX6_findThingToWeigh_63 ?_
            refine q_get (v := .ref (ad (h + 5))) (fs := hallF ad h hv) X hK hP fX6_findThingToWeigh_70 h_h ((fL26 h (by omega)).trans ((va_up_ne (va_up (va_up M sc (.inr (6, scaleF ad sc h th li le mo (-1) up lo))) sc (.inr (6, scaleF ad sc h th li le mo (-1) 0 lo))) (.inr (6, scaleF ad sc h th li le mo (-1) 0 1)) (show h ≠ sc by omega)).trans ((va_up_ne (va_up M sc (.inr (6, scaleF ad sc h th li le mo (-1) up lo))) (.inr (6, scaleF ad sc h th li le mo (-1) 0 lo)) (show h ≠ sc by omega)).trans ((va_up_ne M (.inr (6, scaleF ad sc h th li le mo (-1) up lo)) (show h ≠ sc by omega)).trans m_h)))) rfl dX6_findThingToWeigh_66 ?_
            refine lv_iload_n hx hb dX6_findThingToWeigh_69 rfl (lv_at hl 1 rfl) ?_
            refine lv_iconst (v := 2) hx hb dX6_findThingToWeigh_70 (by decide) ?_
            refine q_rdV (As := [.int (nI t26), .int 2]) (rest := [.int 2]) (c_X8_at_ l D cB cI cJ ad n ML26 (h + 5) (h + 6) 84 7 tf (nI t26) 2 h_h_5 h_h_6 ((fL26 (h + 5) (by omega)).trans ((va_up_ne (va_up (va_up M sc (.inr (6, scaleF ad sc h th li le mo (-1) up lo))) sc (.inr (6, scaleF ad sc h th li le mo (-1) 0 lo))) (.inr (6, scaleF ad sc h th li le mo (-1) 0 1)) (show h + 5 ≠ sc by omega)).trans ((va_up_ne (va_up M sc (.inr (6, scaleF ad sc h th li le mo (-1) up lo))) (.inr (6, scaleF ad sc h th li le mo (-1) 0 lo)) (show h + 5 ≠ sc by omega)).trans ((va_up_ne M (.inr (6, scaleF ad sc h th li le mo (-1) up lo)) (show h + 5 ≠ sc by omega)).trans m_h_5)))) ((fL26 (h + 6) (by omega)).trans ((va_up_ne (va_up (va_up M sc (.inr (6, scaleF ad sc h th li le mo (-1) up lo))) sc (.inr (6, scaleF ad sc h th li le mo (-1) 0 lo))) (.inr (6, scaleF ad sc h th li le mo (-1) 0 1)) (show h + 6 ≠ sc by omega)).trans ((va_up_ne (va_up M sc (.inr (6, scaleF ad sc h th li le mo (-1) up lo))) (.inr (6, scaleF ad sc h th li le mo (-1) 0 lo)) (show h + 6 ≠ sc by omega)).trans ((va_up_ne M (.inr (6, scaleF ad sc h th li le mo (-1) up lo)) (show h + 6 ≠ sc by omega)).trans m_h_6)))) (by decide)) X hK hP hS hl.1 rfl gX6_findThingToWeigh_X8_at_ yd_X8_at_ ⟨Nat.le_of_ble_eq_true rfl, Nat.le_of_ble_eq_true rfl⟩ h_h_5 ((fL26 (h + 5) (by omega)).trans ((va_up_ne (va_up (va_up M sc (.inr (6, scaleF ad sc h th li le mo (-1) up lo))) sc (.inr (6, scaleF ad sc h th li le mo (-1) 0 lo))) (.inr (6, scaleF ad sc h th li le mo (-1) 0 1)) (show h + 5 ≠ sc by omega)).trans ((va_up_ne (va_up M sc (.inr (6, scaleF ad sc h th li le mo (-1) up lo))) (.inr (6, scaleF ad sc h th li le mo (-1) 0 lo)) (show h + 5 ≠ sc by omega)).trans ((va_up_ne M (.inr (6, scaleF ad sc h th li le mo (-1) up lo)) (show h + 5 ≠ sc by omega)).trans m_h_5)))) (ci := 8) rfl rfl (Nat.le_of_ble_eq_true rfl) ⟨Nat.zero_le _, Nat.zero_le _⟩ dX6_findThingToWeigh_71 ?_
            refine lv_imul hx hb dX6_findThingToWeigh_74 ?_
            refine lv_iconst (v := 1) hx hb dX6_findThingToWeigh_75 (by decide) ?_
            refine lv_iadd hx hb dX6_findThingToWeigh_76 ?_
            refine lv_i2l hx hb dX6_findThingToWeigh_77 rfl ?_
            refine lv_lstore (lv' := [(4, .long (((2 * (tat 84 tf ((nI t26) * 7 + 2))) + 1).toInt64)), (2, .long (-1)), (1, .int (nI t26)), (0, .ref (ad sc))]) hx hb dX6_findThingToWeigh_78 hl (by decide) rfl (fun ls hl => ?_)
            refine lv_lload_n hx hb dX6_findThingToWeigh_80 rfl (lv_at hl 1 rfl) ?_
            refine lv_lconst (v := 0) hx hb dX6_findThingToWeigh_81 (by decide) ?_
            refine q_lcmp_lt (tgt := 127) hx hb dX6_findThingToWeigh_82 dX6_findThingToWeigh_83 (by decide) (fun c_83 => ?_) (fun c_83 => ?_)
            · clear c_83
              refine lv_iinc (v := ((nI t26) + 1)) (lv' := [(1, .int ((nI t26) + 1)), (4, .long (((2 * (tat 84 tf ((nI t26) * 7 + 2))) + 1).toInt64)), (2, .long (-1)), (0, .ref (ad sc))]) hx hb dX6_findThingToWeigh_127 hl (k := 2) rfl rfl (by decide) rfl (fun ls hl => ?_)
              refine lv_goto (tgt := 26) hx hb dX6_findThingToWeigh_130 (by decide) ?_
              exact ih_26 (t26 + 1) y26_0 y26_1 y26_2 (by omega) (by omega) (by rw [s_X6_findThingToWeigh_26, ← e_y26_0, ← e_y26_1, ← e_y26_2, s_X6_findThingToWeigh_26s, if_pos c_45]) (by rw [s_X6_findThingToWeigh_26, ← e_y26_0, ← e_y26_1, ← e_y26_2, s_X6_findThingToWeigh_26s, if_pos c_45]) (by rw [s_X6_findThingToWeigh_26, ← e_y26_0, ← e_y26_1, ← e_y26_2, s_X6_findThingToWeigh_26s, if_pos c_45]) _ _ _ mL26_0 (fun q n0 => (fL26 q n0)) hP hS ls (by rw [(show nI (t26 + 1) = nI t26 + 1 by exact nI_succ _)]; exact lv_sub hl [0, 3] rfl)
            · exact absurd c_83 (by decide)
          · skip
            refine lv_aload_n hx hb dX6_findThingToWeigh_48 rfl (lv_at hl 1 rfl) ?_
            refine lv_iload_n hx hb dX6_findThingToWeigh_49 rfl (lv_at hl 0 rfl) ?_
            refine q_rdV (As := [.int (nI t26)]) (rest := []) (c_X6_tellingWeights l D cB cI cJ ad n ML26 sc h nt th li le mo y26_0 y26_1 y26_2 hv tf (nI t26) h_sc h_h h_h_5 h_h_6 mL26_0 ((fL26 h (by omega)).trans ((va_up_ne (va_up (va_up M sc (.inr (6, scaleF ad sc h th li le mo (-1) up lo))) sc (.inr (6, scaleF ad sc h th li le mo (-1) 0 lo))) (.inr (6, scaleF ad sc h th li le mo (-1) 0 1)) (show h ≠ sc by omega)).trans ((va_up_ne (va_up M sc (.inr (6, scaleF ad sc h th li le mo (-1) up lo))) (.inr (6, scaleF ad sc h th li le mo (-1) 0 lo)) (show h ≠ sc by omega)).trans ((va_up_ne M (.inr (6, scaleF ad sc h th li le mo (-1) up lo)) (show h ≠ sc by omega)).trans m_h)))) ((fL26 (h + 5) (by omega)).trans ((va_up_ne (va_up (va_up M sc (.inr (6, scaleF ad sc h th li le mo (-1) up lo))) sc (.inr (6, scaleF ad sc h th li le mo (-1) 0 lo))) (.inr (6, scaleF ad sc h th li le mo (-1) 0 1)) (show h + 5 ≠ sc by omega)).trans ((va_up_ne (va_up M sc (.inr (6, scaleF ad sc h th li le mo (-1) up lo))) (.inr (6, scaleF ad sc h th li le mo (-1) 0 lo)) (show h + 5 ≠ sc by omega)).trans ((va_up_ne M (.inr (6, scaleF ad sc h th li le mo (-1) up lo)) (show h + 5 ≠ sc by omega)).trans m_h_5)))) ((fL26 (h + 6) (by omega)).trans ((va_up_ne (va_up (va_up M sc (.inr (6, scaleF ad sc h th li le mo (-1) up lo))) sc (.inr (6, scaleF ad sc h th li le mo (-1) 0 lo))) (.inr (6, scaleF ad sc h th li le mo (-1) 0 1)) (show h + 6 ≠ sc by omega)).trans ((va_up_ne (va_up M sc (.inr (6, scaleF ad sc h th li le mo (-1) up lo))) (.inr (6, scaleF ad sc h th li le mo (-1) 0 lo)) (show h + 6 ≠ sc by omega)).trans ((va_up_ne M (.inr (6, scaleF ad sc h th li le mo (-1) up lo)) (show h + 6 ≠ sc by omega)).trans m_h_6)))) ((hWT _ h9_26).1) ((hWT _ h9_26).2.1) ((hWT _ h9_26).2.2.1) ((hWT _ h9_26).2.2.2.1)) X hK hP hS hl.1 rfl gX6_findThingToWeigh_X6_tellingWeights yd_X6_tellingWeights ⟨Nat.le_of_ble_eq_true rfl, Nat.le_of_ble_eq_true rfl⟩ h_sc mL26_0 (ci := 6) rfl rfl (Nat.le_of_ble_eq_true rfl) ⟨Nat.zero_le _, Nat.zero_le _⟩ dX6_findThingToWeigh_50 ?_
            refine lv_i2l hx hb dX6_findThingToWeigh_53 rfl ?_
            refine lv_goto (tgt := 60) hx hb dX6_findThingToWeigh_54 (by decide) ?_
            refine lv_lstore_n (lv' := [(2, .long ((teS le mo li (tat 84 tf ((nI t26) * 7 + 1)) (tat 84 tf ((nI t26) * 7 + 2)) ((tat 84 tf ((nI t26) * 7 + 1)).toNatClampNeg - (tat 84 tf ((nI t26) * 7 + 2)).toNatClampNeg) ((tat 84 tf ((nI t26) * 7 + 2)).toNatClampNeg + (tat 84 tf ((nI t26) * 7 + 2)).toNatClampNeg + 1)).toInt64)), (1, .int (nI t26)), (0, .ref (ad sc))]) hx hb dX6_findThingToWeigh_60 rfl hl (by decide) rfl (fun ls hl => ?_)
            refine lv_iconst (v := 2) hx hb dX6_findThingToWeigh_61 (by decide) ?_
            refine lv_aload_n hx hb dX6_findThingToWeigh_62 rfl (lv_at hl 2 rfl) ?_
            refine q_get (v := .ref (ad h)) (fs := scaleF ad sc h th li le mo y26_0 y26_1 y26_2) X hK hP fX6_findThingToWeigh_15 h_sc mL26_0 rfl dX6_findThingToWeigh_63 ?_
            refine q_get (v := .ref (ad (h + 5))) (fs := hallF ad h hv) X hK hP fX6_findThingToWeigh_70 h_h ((fL26 h (by omega)).trans ((va_up_ne (va_up (va_up M sc (.inr (6, scaleF ad sc h th li le mo (-1) up lo))) sc (.inr (6, scaleF ad sc h th li le mo (-1) 0 lo))) (.inr (6, scaleF ad sc h th li le mo (-1) 0 1)) (show h ≠ sc by omega)).trans ((va_up_ne (va_up M sc (.inr (6, scaleF ad sc h th li le mo (-1) up lo))) (.inr (6, scaleF ad sc h th li le mo (-1) 0 lo)) (show h ≠ sc by omega)).trans ((va_up_ne M (.inr (6, scaleF ad sc h th li le mo (-1) up lo)) (show h ≠ sc by omega)).trans m_h)))) rfl dX6_findThingToWeigh_66 ?_
            refine lv_iload_n hx hb dX6_findThingToWeigh_69 rfl (lv_at hl 1 rfl) ?_
            refine lv_iconst (v := 2) hx hb dX6_findThingToWeigh_70 (by decide) ?_
            refine q_rdV (As := [.int (nI t26), .int 2]) (rest := [.int 2]) (c_X8_at_ l D cB cI cJ ad n ML26 (h + 5) (h + 6) 84 7 tf (nI t26) 2 h_h_5 h_h_6 ((fL26 (h + 5) (by omega)).trans ((va_up_ne (va_up (va_up M sc (.inr (6, scaleF ad sc h th li le mo (-1) up lo))) sc (.inr (6, scaleF ad sc h th li le mo (-1) 0 lo))) (.inr (6, scaleF ad sc h th li le mo (-1) 0 1)) (show h + 5 ≠ sc by omega)).trans ((va_up_ne (va_up M sc (.inr (6, scaleF ad sc h th li le mo (-1) up lo))) (.inr (6, scaleF ad sc h th li le mo (-1) 0 lo)) (show h + 5 ≠ sc by omega)).trans ((va_up_ne M (.inr (6, scaleF ad sc h th li le mo (-1) up lo)) (show h + 5 ≠ sc by omega)).trans m_h_5)))) ((fL26 (h + 6) (by omega)).trans ((va_up_ne (va_up (va_up M sc (.inr (6, scaleF ad sc h th li le mo (-1) up lo))) sc (.inr (6, scaleF ad sc h th li le mo (-1) 0 lo))) (.inr (6, scaleF ad sc h th li le mo (-1) 0 1)) (show h + 6 ≠ sc by omega)).trans ((va_up_ne (va_up M sc (.inr (6, scaleF ad sc h th li le mo (-1) up lo))) (.inr (6, scaleF ad sc h th li le mo (-1) 0 lo)) (show h + 6 ≠ sc by omega)).trans ((va_up_ne M (.inr (6, scaleF ad sc h th li le mo (-1) up lo)) (show h + 6 ≠ sc by omega)).trans m_h_6)))) (by decide)) X hK hP hS hl.1 rfl gX6_findThingToWeigh_X8_at_ yd_X8_at_ ⟨Nat.le_of_ble_eq_true rfl, Nat.le_of_ble_eq_true rfl⟩ h_h_5 ((fL26 (h + 5) (by omega)).trans ((va_up_ne (va_up (va_up M sc (.inr (6, scaleF ad sc h th li le mo (-1) up lo))) sc (.inr (6, scaleF ad sc h th li le mo (-1) 0 lo))) (.inr (6, scaleF ad sc h th li le mo (-1) 0 1)) (show h + 5 ≠ sc by omega)).trans ((va_up_ne (va_up M sc (.inr (6, scaleF ad sc h th li le mo (-1) up lo))) (.inr (6, scaleF ad sc h th li le mo (-1) 0 lo)) (show h + 5 ≠ sc by omega)).trans ((va_up_ne M (.inr (6, scaleF ad sc h th li le mo (-1) up lo)) (show h + 5 ≠ sc by omega)).trans m_h_5)))) (ci := 8) rfl rfl (Nat.le_of_ble_eq_true rfl) ⟨Nat.zero_le _, Nat.zero_le _⟩ dX6_findThingToWeigh_71 ?_
            refine lv_imul hx hb dX6_findThingToWeigh_74 ?_
            refine lv_iconst (v := 1) hx hb dX6_findThingToWeigh_75 (by decide) ?_
            refine lv_iadd hx hb dX6_findThingToWeigh_76 ?_
            refine lv_i2l hx hb dX6_findThingToWeigh_77 rfl ?_
            refine lv_lstore (lv' := [(4, .long (((2 * (tat 84 tf ((nI t26) * 7 + 2))) + 1).toInt64)), (2, .long ((teS le mo li (tat 84 tf ((nI t26) * 7 + 1)) (tat 84 tf ((nI t26) * 7 + 2)) ((tat 84 tf ((nI t26) * 7 + 1)).toNatClampNeg - (tat 84 tf ((nI t26) * 7 + 2)).toNatClampNeg) ((tat 84 tf ((nI t26) * 7 + 2)).toNatClampNeg + (tat 84 tf ((nI t26) * 7 + 2)).toNatClampNeg + 1)).toInt64)), (1, .int (nI t26)), (0, .ref (ad sc))]) hx hb dX6_findThingToWeigh_78 hl (by decide) rfl (fun ls hl => ?_)
            refine lv_lload_n hx hb dX6_findThingToWeigh_80 rfl (lv_at hl 1 rfl) ?_
            refine lv_lconst (v := 0) hx hb dX6_findThingToWeigh_81 (by decide) ?_
            refine q_lcmp_lt (tgt := 127) hx hb dX6_findThingToWeigh_82 dX6_findThingToWeigh_83 (by decide) (fun c_83 => ?_) (fun c_83 => ?_)
            · skip
              refine lv_iinc (v := ((nI t26) + 1)) (lv' := [(1, .int ((nI t26) + 1)), (4, .long (((2 * (tat 84 tf ((nI t26) * 7 + 2))) + 1).toInt64)), (2, .long ((teS le mo li (tat 84 tf ((nI t26) * 7 + 1)) (tat 84 tf ((nI t26) * 7 + 2)) ((tat 84 tf ((nI t26) * 7 + 1)).toNatClampNeg - (tat 84 tf ((nI t26) * 7 + 2)).toNatClampNeg) ((tat 84 tf ((nI t26) * 7 + 2)).toNatClampNeg + (tat 84 tf ((nI t26) * 7 + 2)).toNatClampNeg + 1)).toInt64)), (0, .ref (ad sc))]) hx hb dX6_findThingToWeigh_127 hl (k := 2) rfl rfl (by decide) rfl (fun ls hl => ?_)
              refine lv_goto (tgt := 26) hx hb dX6_findThingToWeigh_130 (by decide) ?_
              exact ih_26 (t26 + 1) y26_0 y26_1 y26_2 (by omega) (by omega) (by rw [s_X6_findThingToWeigh_26, ← e_y26_0, ← e_y26_1, ← e_y26_2, s_X6_findThingToWeigh_26s, if_neg c_45, if_pos c_83]) (by rw [s_X6_findThingToWeigh_26, ← e_y26_0, ← e_y26_1, ← e_y26_2, s_X6_findThingToWeigh_26s, if_neg c_45, if_pos c_83]) (by rw [s_X6_findThingToWeigh_26, ← e_y26_0, ← e_y26_1, ← e_y26_2, s_X6_findThingToWeigh_26s, if_neg c_45, if_pos c_83]) _ _ _ mL26_0 (fun q n0 => (fL26 q n0)) hP hS ls (by rw [(show nI (t26 + 1) = nI t26 + 1 by exact nI_succ _)]; exact lv_sub hl [0, 3] rfl)
            · skip
              refine lv_aload_n hx hb dX6_findThingToWeigh_86 rfl (lv_at hl 3 rfl) ?_
              refine q_get (v := .int y26_0) (fs := scaleF ad sc h th li le mo y26_0 y26_1 y26_2) X hK hP fX6_findThingToWeigh_81 h_sc mL26_0 rfl dX6_findThingToWeigh_87 ?_
              refine lv_iconst (v := (-1)) hx hb dX6_findThingToWeigh_90 (by decide) ?_
              refine lv_icmp_eq (tgt := 111) hx hb dX6_findThingToWeigh_91 (by decide) (fun c_91 => ?_) (fun c_91 => ?_)
              · skip
                refine lv_aload_n hx hb dX6_findThingToWeigh_111 rfl (lv_at hl 3 rfl) ?_
                refine lv_iload_n hx hb dX6_findThingToWeigh_112 rfl (lv_at hl 2 rfl) ?_
                refine q_put (fs := scaleF ad sc h th li le mo y26_0 y26_1 y26_2) (fs' := scaleF ad sc h th li le mo (nI t26) y26_1 y26_2) X hK hI hP hS fX6_findThingToWeigh_81 fw_6_6 h_sc mL26_0 rfl rfl (Nat.le_of_ble_eq_true rfl) rfl dX6_findThingToWeigh_113 (fun H locs hP hS => ?_)
                refine lv_aload_n hx hb dX6_findThingToWeigh_116 rfl (lv_at hl 3 rfl) ?_
                refine lv_lload_n hx hb dX6_findThingToWeigh_117 rfl (lv_at hl 1 rfl) ?_
                refine q_put (fs := scaleF ad sc h th li le mo (nI t26) y26_1 y26_2) (fs' := scaleF ad sc h th li le mo (nI t26) ((teS le mo li (tat 84 tf ((nI t26) * 7 + 1)) (tat 84 tf ((nI t26) * 7 + 2)) ((tat 84 tf ((nI t26) * 7 + 1)).toNatClampNeg - (tat 84 tf ((nI t26) * 7 + 2)).toNatClampNeg) ((tat 84 tf ((nI t26) * 7 + 2)).toNatClampNeg + (tat 84 tf ((nI t26) * 7 + 2)).toNatClampNeg + 1)).toInt64) y26_2) X hK hI hP hS fX6_findThingToWeigh_57 fw_6_7 h_sc (va_up_self ML26 sc (.inr (6, scaleF ad sc h th li le mo (nI t26) y26_1 y26_2))) rfl rfl (Nat.le_of_ble_eq_true rfl) rfl dX6_findThingToWeigh_118 (fun H locs hP hS => ?_)
                refine lv_aload_n hx hb dX6_findThingToWeigh_121 rfl (lv_at hl 3 rfl) ?_
                refine lv_lload hx hb dX6_findThingToWeigh_122 (lv_at hl 0 rfl) ?_
                refine q_put (fs := scaleF ad sc h th li le mo (nI t26) ((teS le mo li (tat 84 tf ((nI t26) * 7 + 1)) (tat 84 tf ((nI t26) * 7 + 2)) ((tat 84 tf ((nI t26) * 7 + 1)).toNatClampNeg - (tat 84 tf ((nI t26) * 7 + 2)).toNatClampNeg) ((tat 84 tf ((nI t26) * 7 + 2)).toNatClampNeg + (tat 84 tf ((nI t26) * 7 + 2)).toNatClampNeg + 1)).toInt64) y26_2) (fs' := scaleF ad sc h th li le mo (nI t26) ((teS le mo li (tat 84 tf ((nI t26) * 7 + 1)) (tat 84 tf ((nI t26) * 7 + 2)) ((tat 84 tf ((nI t26) * 7 + 1)).toNatClampNeg - (tat 84 tf ((nI t26) * 7 + 2)).toNatClampNeg) ((tat 84 tf ((nI t26) * 7 + 2)).toNatClampNeg + (tat 84 tf ((nI t26) * 7 + 2)).toNatClampNeg + 1)).toInt64) (((2 * (tat 84 tf ((nI t26) * 7 + 2))) + 1).toInt64)) X hK hI hP hS fX6_findThingToWeigh_61 fw_6_8 h_sc (va_up_self (va_up ML26 sc (.inr (6, scaleF ad sc h th li le mo (nI t26) y26_1 y26_2))) sc (.inr (6, scaleF ad sc h th li le mo (nI t26) ((teS le mo li (tat 84 tf ((nI t26) * 7 + 1)) (tat 84 tf ((nI t26) * 7 + 2)) ((tat 84 tf ((nI t26) * 7 + 1)).toNatClampNeg - (tat 84 tf ((nI t26) * 7 + 2)).toNatClampNeg) ((tat 84 tf ((nI t26) * 7 + 2)).toNatClampNeg + (tat 84 tf ((nI t26) * 7 + 2)).toNatClampNeg + 1)).toInt64) y26_2))) rfl rfl (Nat.le_of_ble_eq_true rfl) rfl dX6_findThingToWeigh_124 (fun H locs hP hS => ?_)
                refine lv_iinc (v := ((nI t26) + 1)) (lv' := [(1, .int ((nI t26) + 1)), (4, .long (((2 * (tat 84 tf ((nI t26) * 7 + 2))) + 1).toInt64)), (2, .long ((teS le mo li (tat 84 tf ((nI t26) * 7 + 1)) (tat 84 tf ((nI t26) * 7 + 2)) ((tat 84 tf ((nI t26) * 7 + 1)).toNatClampNeg - (tat 84 tf ((nI t26) * 7 + 2)).toNatClampNeg) ((tat 84 tf ((nI t26) * 7 + 2)).toNatClampNeg + (tat 84 tf ((nI t26) * 7 + 2)).toNatClampNeg + 1)).toInt64)), (0, .ref (ad sc))]) hx hb dX6_findThingToWeigh_127 hl (k := 2) rfl rfl (by decide) rfl (fun ls hl => ?_)
                refine lv_goto (tgt := 26) hx hb dX6_findThingToWeigh_130 (by decide) ?_
                exact ih_26 (t26 + 1) (nI t26) ((teS le mo li (tat 84 tf ((nI t26) * 7 + 1)) (tat 84 tf ((nI t26) * 7 + 2)) ((tat 84 tf ((nI t26) * 7 + 1)).toNatClampNeg - (tat 84 tf ((nI t26) * 7 + 2)).toNatClampNeg) ((tat 84 tf ((nI t26) * 7 + 2)).toNatClampNeg + (tat 84 tf ((nI t26) * 7 + 2)).toNatClampNeg + 1)).toInt64) (((2 * (tat 84 tf ((nI t26) * 7 + 2))) + 1).toInt64) (by omega) (by omega) (by rw [s_X6_findThingToWeigh_26, ← e_y26_0, ← e_y26_1, ← e_y26_2, s_X6_findThingToWeigh_26s, if_neg c_45, if_neg c_83, if_pos c_91]) (by rw [s_X6_findThingToWeigh_26, ← e_y26_0, ← e_y26_1, ← e_y26_2, s_X6_findThingToWeigh_26s, if_neg c_45, if_neg c_83, if_pos c_91]) (by rw [s_X6_findThingToWeigh_26, ← e_y26_0, ← e_y26_1, ← e_y26_2, s_X6_findThingToWeigh_26s, if_neg c_45, if_neg c_83, if_pos c_91]) _ _ _ (va_up_self (va_up (va_up ML26 sc (.inr (6, scaleF ad sc h th li le mo (nI t26) y26_1 y26_2))) sc (.inr (6, scaleF ad sc h th li le mo (nI t26) ((teS le mo li (tat 84 tf ((nI t26) * 7 + 1)) (tat 84 tf ((nI t26) * 7 + 2)) ((tat 84 tf ((nI t26) * 7 + 1)).toNatClampNeg - (tat 84 tf ((nI t26) * 7 + 2)).toNatClampNeg) ((tat 84 tf ((nI t26) * 7 + 2)).toNatClampNeg + (tat 84 tf ((nI t26) * 7 + 2)).toNatClampNeg + 1)).toInt64) y26_2))) sc (.inr (6, scaleF ad sc h th li le mo (nI t26) ((teS le mo li (tat 84 tf ((nI t26) * 7 + 1)) (tat 84 tf ((nI t26) * 7 + 2)) ((tat 84 tf ((nI t26) * 7 + 1)).toNatClampNeg - (tat 84 tf ((nI t26) * 7 + 2)).toNatClampNeg) ((tat 84 tf ((nI t26) * 7 + 2)).toNatClampNeg + (tat 84 tf ((nI t26) * 7 + 2)).toNatClampNeg + 1)).toInt64) (((2 * (tat 84 tf ((nI t26) * 7 + 2))) + 1).toInt64)))) (fun q n0 => ((va_up_ne _ _ n0).trans ((va_up_ne _ _ n0).trans ((va_up_ne _ _ n0).trans (fL26 q n0))))) hP hS ls (by rw [(show nI (t26 + 1) = nI t26 + 1 by exact nI_succ _)]; exact lv_sub hl [0, 3] rfl)
              · skip
                refine lv_lload_n hx hb dX6_findThingToWeigh_94 rfl (lv_at hl 1 rfl) ?_
                refine lv_aload_n hx hb dX6_findThingToWeigh_95 rfl (lv_at hl 3 rfl) ?_
                refine q_get (v := .long y26_2) (fs := scaleF ad sc h th li le mo y26_0 y26_1 y26_2) X hK hP fX6_findThingToWeigh_61 h_sc mL26_0 rfl dX6_findThingToWeigh_96 ?_
                refine lv_lmul hx hb dX6_findThingToWeigh_99 ?_
                refine lv_aload_n hx hb dX6_findThingToWeigh_100 rfl (lv_at hl 3 rfl) ?_
                refine q_get (v := .long y26_1) (fs := scaleF ad sc h th li le mo y26_0 y26_1 y26_2) X hK hP fX6_findThingToWeigh_57 h_sc mL26_0 rfl dX6_findThingToWeigh_101 ?_
                refine lv_lload hx hb dX6_findThingToWeigh_104 (lv_at hl 0 rfl) ?_
                refine lv_lmul hx hb dX6_findThingToWeigh_106 ?_
                refine q_lcmp_le (tgt := 127) hx hb dX6_findThingToWeigh_107 dX6_findThingToWeigh_108 (by decide) (fun c_108 => ?_) (fun c_108 => ?_)
                · skip
                  refine lv_iinc (v := ((nI t26) + 1)) (lv' := [(1, .int ((nI t26) + 1)), (4, .long (((2 * (tat 84 tf ((nI t26) * 7 + 2))) + 1).toInt64)), (2, .long ((teS le mo li (tat 84 tf ((nI t26) * 7 + 1)) (tat 84 tf ((nI t26) * 7 + 2)) ((tat 84 tf ((nI t26) * 7 + 1)).toNatClampNeg - (tat 84 tf ((nI t26) * 7 + 2)).toNatClampNeg) ((tat 84 tf ((nI t26) * 7 + 2)).toNatClampNeg + (tat 84 tf ((nI t26) * 7 + 2)).toNatClampNeg + 1)).toInt64)), (0, .ref (ad sc))]) hx hb dX6_findThingToWeigh_127 hl (k := 2) rfl rfl (by decide) rfl (fun ls hl => ?_)
                  refine lv_goto (tgt := 26) hx hb dX6_findThingToWeigh_130 (by decide) ?_
                  exact ih_26 (t26 + 1) y26_0 y26_1 y26_2 (by omega) (by omega) (by rw [s_X6_findThingToWeigh_26, ← e_y26_0, ← e_y26_1, ← e_y26_2, s_X6_findThingToWeigh_26s, if_neg c_45, if_neg c_83, if_neg c_91, if_pos c_108]) (by rw [s_X6_findThingToWeigh_26, ← e_y26_0, ← e_y26_1, ← e_y26_2, s_X6_findThingToWeigh_26s, if_neg c_45, if_neg c_83, if_neg c_91, if_pos c_108]) (by rw [s_X6_findThingToWeigh_26, ← e_y26_0, ← e_y26_1, ← e_y26_2, s_X6_findThingToWeigh_26s, if_neg c_45, if_neg c_83, if_neg c_91, if_pos c_108]) _ _ _ mL26_0 (fun q n0 => (fL26 q n0)) hP hS ls (by rw [(show nI (t26 + 1) = nI t26 + 1 by exact nI_succ _)]; exact lv_sub hl [0, 3] rfl)
                · skip
                  refine lv_aload_n hx hb dX6_findThingToWeigh_111 rfl (lv_at hl 3 rfl) ?_
                  refine lv_iload_n hx hb dX6_findThingToWeigh_112 rfl (lv_at hl 2 rfl) ?_
                  refine q_put (fs := scaleF ad sc h th li le mo y26_0 y26_1 y26_2) (fs' := scaleF ad sc h th li le mo (nI t26) y26_1 y26_2) X hK hI hP hS fX6_findThingToWeigh_81 fw_6_6 h_sc mL26_0 rfl rfl (Nat.le_of_ble_eq_true rfl) rfl dX6_findThingToWeigh_113 (fun H locs hP hS => ?_)
                  refine lv_aload_n hx hb dX6_findThingToWeigh_116 rfl (lv_at hl 3 rfl) ?_
                  refine lv_lload_n hx hb dX6_findThingToWeigh_117 rfl (lv_at hl 1 rfl) ?_
                  refine q_put (fs := scaleF ad sc h th li le mo (nI t26) y26_1 y26_2) (fs' := scaleF ad sc h th li le mo (nI t26) ((teS le mo li (tat 84 tf ((nI t26) * 7 + 1)) (tat 84 tf ((nI t26) * 7 + 2)) ((tat 84 tf ((nI t26) * 7 + 1)).toNatClampNeg - (tat 84 tf ((nI t26) * 7 + 2)).toNatClampNeg) ((tat 84 tf ((nI t26) * 7 + 2)).toNatClampNeg + (tat 84 tf ((nI t26) * 7 + 2)).toNatClampNeg + 1)).toInt64) y26_2) X hK hI hP hS fX6_findThingToWeigh_57 fw_6_7 h_sc (va_up_self ML26 sc (.inr (6, scaleF ad sc h th li le mo (nI t26) y26_1 y26_2))) rfl rfl (Nat.le_of_ble_eq_true rfl) rfl dX6_findThingToWeigh_118 (fun H locs hP hS => ?_)
                  refine lv_aload_n hx hb dX6_findThingToWeigh_121 rfl (lv_at hl 3 rfl) ?_
                  refine lv_lload hx hb dX6_findThingToWeigh_122 (lv_at hl 0 rfl) ?_
                  refine q_put (fs := scaleF ad sc h th li le mo (nI t26) ((teS le mo li (tat 84 tf ((nI t26) * 7 + 1)) (tat 84 tf ((nI t26) * 7 + 2)) ((tat 84 tf ((nI t26) * 7 + 1)).toNatClampNeg - (tat 84 tf ((nI t26) * 7 + 2)).toNatClampNeg) ((tat 84 tf ((nI t26) * 7 + 2)).toNatClampNeg + (tat 84 tf ((nI t26) * 7 + 2)).toNatClampNeg + 1)).toInt64) y26_2) (fs' := scaleF ad sc h th li le mo (nI t26) ((teS le mo li (tat 84 tf ((nI t26) * 7 + 1)) (tat 84 tf ((nI t26) * 7 + 2)) ((tat 84 tf ((nI t26) * 7 + 1)).toNatClampNeg - (tat 84 tf ((nI t26) * 7 + 2)).toNatClampNeg) ((tat 84 tf ((nI t26) * 7 + 2)).toNatClampNeg + (tat 84 tf ((nI t26) * 7 + 2)).toNatClampNeg + 1)).toInt64) (((2 * (tat 84 tf ((nI t26) * 7 + 2))) + 1).toInt64)) X hK hI hP hS fX6_findThingToWeigh_61 fw_6_8 h_sc (va_up_self (va_up ML26 sc (.inr (6, scaleF ad sc h th li le mo (nI t26) y26_1 y26_2))) sc (.inr (6, scaleF ad sc h th li le mo (nI t26) ((teS le mo li (tat 84 tf ((nI t26) * 7 + 1)) (tat 84 tf ((nI t26) * 7 + 2)) ((tat 84 tf ((nI t26) * 7 + 1)).toNatClampNeg - (tat 84 tf ((nI t26) * 7 + 2)).toNatClampNeg) ((tat 84 tf ((nI t26) * 7 + 2)).toNatClampNeg + (tat 84 tf ((nI t26) * 7 + 2)).toNatClampNeg + 1)).toInt64) y26_2))) rfl rfl (Nat.le_of_ble_eq_true rfl) rfl dX6_findThingToWeigh_124 (fun H locs hP hS => ?_)
                  refine lv_iinc (v := ((nI t26) + 1)) (lv' := [(1, .int ((nI t26) + 1)), (4, .long (((2 * (tat 84 tf ((nI t26) * 7 + 2))) + 1).toInt64)), (2, .long ((teS le mo li (tat 84 tf ((nI t26) * 7 + 1)) (tat 84 tf ((nI t26) * 7 + 2)) ((tat 84 tf ((nI t26) * 7 + 1)).toNatClampNeg - (tat 84 tf ((nI t26) * 7 + 2)).toNatClampNeg) ((tat 84 tf ((nI t26) * 7 + 2)).toNatClampNeg + (tat 84 tf ((nI t26) * 7 + 2)).toNatClampNeg + 1)).toInt64)), (0, .ref (ad sc))]) hx hb dX6_findThingToWeigh_127 hl (k := 2) rfl rfl (by decide) rfl (fun ls hl => ?_)
                  refine lv_goto (tgt := 26) hx hb dX6_findThingToWeigh_130 (by decide) ?_
                  exact ih_26 (t26 + 1) (nI t26) ((teS le mo li (tat 84 tf ((nI t26) * 7 + 1)) (tat 84 tf ((nI t26) * 7 + 2)) ((tat 84 tf ((nI t26) * 7 + 1)).toNatClampNeg - (tat 84 tf ((nI t26) * 7 + 2)).toNatClampNeg) ((tat 84 tf ((nI t26) * 7 + 2)).toNatClampNeg + (tat 84 tf ((nI t26) * 7 + 2)).toNatClampNeg + 1)).toInt64) (((2 * (tat 84 tf ((nI t26) * 7 + 2))) + 1).toInt64) (by omega) (by omega) (by rw [s_X6_findThingToWeigh_26, ← e_y26_0, ← e_y26_1, ← e_y26_2, s_X6_findThingToWeigh_26s, if_neg c_45, if_neg c_83, if_neg c_91, if_neg c_108]) (by rw [s_X6_findThingToWeigh_26, ← e_y26_0, ← e_y26_1, ← e_y26_2, s_X6_findThingToWeigh_26s, if_neg c_45, if_neg c_83, if_neg c_91, if_neg c_108]) (by rw [s_X6_findThingToWeigh_26, ← e_y26_0, ← e_y26_1, ← e_y26_2, s_X6_findThingToWeigh_26s, if_neg c_45, if_neg c_83, if_neg c_91, if_neg c_108]) _ _ _ (va_up_self (va_up (va_up ML26 sc (.inr (6, scaleF ad sc h th li le mo (nI t26) y26_1 y26_2))) sc (.inr (6, scaleF ad sc h th li le mo (nI t26) ((teS le mo li (tat 84 tf ((nI t26) * 7 + 1)) (tat 84 tf ((nI t26) * 7 + 2)) ((tat 84 tf ((nI t26) * 7 + 1)).toNatClampNeg - (tat 84 tf ((nI t26) * 7 + 2)).toNatClampNeg) ((tat 84 tf ((nI t26) * 7 + 2)).toNatClampNeg + (tat 84 tf ((nI t26) * 7 + 2)).toNatClampNeg + 1)).toInt64) y26_2))) sc (.inr (6, scaleF ad sc h th li le mo (nI t26) ((teS le mo li (tat 84 tf ((nI t26) * 7 + 1)) (tat 84 tf ((nI t26) * 7 + 2)) ((tat 84 tf ((nI t26) * 7 + 1)).toNatClampNeg - (tat 84 tf ((nI t26) * 7 + 2)).toNatClampNeg) ((tat 84 tf ((nI t26) * 7 + 2)).toNatClampNeg + (tat 84 tf ((nI t26) * 7 + 2)).toNatClampNeg + 1)).toInt64) (((2 * (tat 84 tf ((nI t26) * 7 + 2))) + 1).toInt64)))) (fun q n0 => ((va_up_ne _ _ n0).trans ((va_up_ne _ _ n0).trans ((va_up_ne _ _ n0).trans (fL26 q n0))))) hP hS ls (by rw [(show nI (t26 + 1) = nI t26 + 1 by exact nI_succ _)]; exact lv_sub hl [0, 3] rfl)
    exact loop_26 (nt + 1) 0 (-1) 0 1 (by omega) (by omega) (by rfl) (by rfl) (by rfl) _ _ _ (va_up_self (va_up (va_up M sc (.inr (6, scaleF ad sc h th li le mo (-1) up lo))) sc (.inr (6, scaleF ad sc h th li le mo (-1) 0 lo))) sc (.inr (6, scaleF ad sc h th li le mo (-1) 0 1))) (fun q n0 => rfl) hP hS ls (lv_sub hl [0, 1] rfl)
  · skip
    exact q_wvret X hr hlocks hP hS ⟨(by rw [s_X6_findThingToWeigh_0_6, if_neg c_20, s_X6_findThingToWeigh_0_7, if_neg c_20, s_X6_findThingToWeigh_0_8, if_neg c_20]; exact (va_up_self (va_up (va_up M sc (.inr (6, scaleF ad sc h th li le mo (-1) up lo))) sc (.inr (6, scaleF ad sc h th li le mo (-1) 0 lo))) sc (.inr (6, scaleF ad sc h th li le mo (-1) 0 1)))), (fun q n0 => ((va_up_ne _ _ n0).trans ((va_up_ne _ _ n0).trans (va_up_ne _ _ n0))))⟩ dX6_findThingToWeigh_23
