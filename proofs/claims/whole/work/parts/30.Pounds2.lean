/-! PoundsOver: what may throw, where it doesn't -/
theorem q_rdVv {p : Program} {l : Launch} {e : Env} {R : Room} {s : State} {m : MethodId} {args : Array Value} {below : List Frame} {meth : Method} {c : Code} {H : Heap} {locs : List Loc} {cells slots : Nat} {Q : State → Prop} {cc : ByteArray} {pc nL : Nat} {ls : Array Slot} {rest st : List Value} {D : va_G} {cB cI cJ : ClassId} {ad : Nat → Nat} {n : Nat} {M : Nat → va_E} {Ts : List Cond} {own : String}
    {y : MethodName} {ws ws' : List Cond} {bytes : ByteArray} {maxL fr lo index ci i : Nat} {ret : Option FieldType} {As : List Value} {fs : List Value} (hM : cRv l D cB cI cJ ad n M y ws fr lo (.ref (ad i) :: As)) (X : CallFix p m c cc nL s args Ts own) (hK : vK D cB cI cJ s ∧ sW ad n s s.heap) (hP : va_P D vwCl (ip ad n M) H) (hS : va_S (ipA ad n) s.heap H locs) (hls : ls.size = nL) (hw : ws = Cond.code y bytes maxL ret :: ws') (hG : GoodIn Ts (wsV own index y.cls y ws)) (hy : YD y As.length)
    (hR : fr + 1 ≤ R.frames ∧ 8 + (maxL + 11) + lo ≤ R.locals) (hi : i < n) (hMi : M i = .inr (ci, fs)) (hcl : (vwCl[ci]?).map (fun q => q.1) = some y.cls) (hst : st = As.reverse ++ .ref (ad i) :: rest) (hcat : (rest.map fun v => v.category).sum ≤ 8) (hf : cells ≤ R.cells ∧ slots ≤ R.slots) (hdg : decode cc pc = .ok (.invokevirtual index, 3))
    (kk : W p l e R s m args below meth c H locs cells slots Q (F0 m (pc + 3) ls rest)) : W p l e R s m args below meth c H locs cells slots Q (F0 m pc ls st) := by
  subst hst
  exact va_csv (W.runV (As := As) (rest := rest) X hM (cwV As.length X.2.2.2.2 hG hw rfl rfl ⟨rfl, hy⟩ hR) ⟨ip_blind, q_recv hK hP hi hMi hcl, fun U hU hW => ⟨rfl, ip_call hK hP hS hU hW⟩⟩ rfl rfl hls rfl (lv_room hcat) hdg ⟨hf.1, hf.2⟩) (fun _ => kk)
theorem mc01 (nt nq : Nat) (hv pf cf tf qf plf : Nat → Int32) (x y : Int32) : narrow .boolean (.int (mcS nt nq hv pf cf tf qf plf x y)) = .int (mcS nt nq hv pf cf tf qf plf x y) := by
  unfold mcS
  repeat' split
  all_goals rfl
set_option maxRecDepth 20000 in
theorem fX12_needPerson_19 : FL wsX12_needPerson RX12 19 11 1 := ⟨RX12, TX12, 14, rfl, by decide +kernel, by decide, by decide +kernel⟩
set_option maxRecDepth 20000 in
theorem fX12_needPerson_122 : FL wsX12_needPerson RX12 122 0 5 := ⟨RX0, TX0, 12, rfl, by decide +kernel, by decide, by decide +kernel⟩
set_option maxHeartbeats 4000000 in
set_option maxRecDepth 100000 in
theorem c_X12_needPerson (l : Launch) (D : va_G) (cB cI cJ : ClassId) (ad : Nat → Nat) (n : Nat) (M : Nat → va_E) (po ta h h2 re g o g2 o2 kb an sc tr : Nat) (ik fp : Int32) (hv : Nat → Int32) (x : Int32) (h_po : po < n) (h_h : h < n) (m_po : M po = .inr (11, poF ad po ta h h2 re g o g2 o2 ik fp kb an sc tr)) (m_h : M h = .inr (0, hallF ad h hv)) (gx0 : ¬ x < 0) (gx1 : x < (hv 5)) : cRv l D cB cI cJ ad n M yX12_needPerson wsX12_needPerson 0 0 [.ref (ad po), .int x]  := by
  refine q_body (cc := cX12_needPerson) (maxL := 2) (ret := none) (by decide) rfl (Nat.le_of_ble_eq_true rfl) ?_
  intro p e s m args below meth c ls X hr hlocks hK hP hl
  obtain ⟨hx, hb, hml, hown, hts⟩ := id X
  have hS : va_S (ipA ad n) s.heap s.heap [] := va_S.rf
  have hl : lv_has ls 2 [(0, .ref (ad po)), (1, .int x)] := hl
  refine lv_iload_n hx hb dX12_needPerson_0 rfl (lv_at hl 1 rfl) ?_
  refine lv_if_lt (tgt := 15) hx hb dX12_needPerson_1 (by decide) (fun c_1 => ?_) (fun c_1 => ?_)
  · exact absurd c_1 gx0
  · skip
    refine lv_iload_n hx hb dX12_needPerson_4 rfl (lv_at hl 1 rfl) ?_
    refine lv_aload_n hx hb dX12_needPerson_5 rfl (lv_at hl 0 rfl) ?_
    refine q_get (v := .ref (ad h)) (fs := poF ad po ta h h2 re g o g2 o2 ik fp kb an sc tr) X hK hP fX12_needPerson_19 h_po m_po rfl dX12_needPerson_6 ?_
    refine q_get (v := .int (hv 5)) (fs := hallF ad h hv) X hK hP fX12_needPerson_122 h_h m_h rfl dX12_needPerson_9 ?_
    refine lv_icmp_lt (tgt := 23) hx hb dX12_needPerson_12 (by decide) (fun c_12 => ?_) (fun c_12 => ?_)
    · skip
      exact q_vret X hr hlocks dX12_needPerson_23
    · exact absurd gx1 c_12
set_option maxRecDepth 20000 in
theorem fX12_needCase_19 : FL wsX12_needCase RX12 19 11 1 := ⟨RX12, TX12, 14, rfl, by decide +kernel, by decide, by decide +kernel⟩
set_option maxRecDepth 20000 in
theorem fX12_needCase_125 : FL wsX12_needCase RX12 125 0 6 := ⟨RX0, TX0, 12, rfl, by decide +kernel, by decide, by decide +kernel⟩
set_option maxHeartbeats 4000000 in
set_option maxRecDepth 100000 in
theorem c_X12_needCase (l : Launch) (D : va_G) (cB cI cJ : ClassId) (ad : Nat → Nat) (n : Nat) (M : Nat → va_E) (po ta h h2 re g o g2 o2 kb an sc tr : Nat) (ik fp : Int32) (hv : Nat → Int32) (x : Int32) (h_po : po < n) (h_h : h < n) (m_po : M po = .inr (11, poF ad po ta h h2 re g o g2 o2 ik fp kb an sc tr)) (m_h : M h = .inr (0, hallF ad h hv)) (gx0 : ¬ x < 0) (gx1 : x < (hv 6)) : cRv l D cB cI cJ ad n M yX12_needCase wsX12_needCase 0 0 [.ref (ad po), .int x]  := by
  refine q_body (cc := cX12_needCase) (maxL := 2) (ret := none) (by decide) rfl (Nat.le_of_ble_eq_true rfl) ?_
  intro p e s m args below meth c ls X hr hlocks hK hP hl
  obtain ⟨hx, hb, hml, hown, hts⟩ := id X
  have hS : va_S (ipA ad n) s.heap s.heap [] := va_S.rf
  have hl : lv_has ls 2 [(0, .ref (ad po)), (1, .int x)] := hl
  refine lv_iload_n hx hb dX12_needCase_0 rfl (lv_at hl 1 rfl) ?_
  refine lv_if_lt (tgt := 15) hx hb dX12_needCase_1 (by decide) (fun c_1 => ?_) (fun c_1 => ?_)
  · exact absurd c_1 gx0
  · skip
    refine lv_iload_n hx hb dX12_needCase_4 rfl (lv_at hl 1 rfl) ?_
    refine lv_aload_n hx hb dX12_needCase_5 rfl (lv_at hl 0 rfl) ?_
    refine q_get (v := .ref (ad h)) (fs := poF ad po ta h h2 re g o g2 o2 ik fp kb an sc tr) X hK hP fX12_needCase_19 h_po m_po rfl dX12_needCase_6 ?_
    refine q_get (v := .int (hv 6)) (fs := hallF ad h hv) X hK hP fX12_needCase_125 h_h m_h rfl dX12_needCase_9 ?_
    refine lv_icmp_lt (tgt := 23) hx hb dX12_needCase_12 (by decide) (fun c_12 => ?_) (fun c_12 => ?_)
    · skip
      exact q_vret X hr hlocks dX12_needCase_23
    · exact absurd gx1 c_12
set_option maxRecDepth 20000 in
theorem fX12_needThing_19 : FL wsX12_needThing RX12 19 11 1 := ⟨RX12, TX12, 14, rfl, by decide +kernel, by decide, by decide +kernel⟩
set_option maxRecDepth 20000 in
theorem fX12_needThing_128 : FL wsX12_needThing RX12 128 0 7 := ⟨RX0, TX0, 12, rfl, by decide +kernel, by decide, by decide +kernel⟩
set_option maxHeartbeats 4000000 in
set_option maxRecDepth 100000 in
theorem c_X12_needThing (l : Launch) (D : va_G) (cB cI cJ : ClassId) (ad : Nat → Nat) (n : Nat) (M : Nat → va_E) (po ta h h2 re g o g2 o2 kb an sc tr : Nat) (ik fp : Int32) (hv : Nat → Int32) (x : Int32) (h_po : po < n) (h_h : h < n) (m_po : M po = .inr (11, poF ad po ta h h2 re g o g2 o2 ik fp kb an sc tr)) (m_h : M h = .inr (0, hallF ad h hv)) (gx0 : ¬ x < 0) (gx1 : x < (hv 7)) : cRv l D cB cI cJ ad n M yX12_needThing wsX12_needThing 0 0 [.ref (ad po), .int x]  := by
  refine q_body (cc := cX12_needThing) (maxL := 2) (ret := none) (by decide) rfl (Nat.le_of_ble_eq_true rfl) ?_
  intro p e s m args below meth c ls X hr hlocks hK hP hl
  obtain ⟨hx, hb, hml, hown, hts⟩ := id X
  have hS : va_S (ipA ad n) s.heap s.heap [] := va_S.rf
  have hl : lv_has ls 2 [(0, .ref (ad po)), (1, .int x)] := hl
  refine lv_iload_n hx hb dX12_needThing_0 rfl (lv_at hl 1 rfl) ?_
  refine lv_if_lt (tgt := 15) hx hb dX12_needThing_1 (by decide) (fun c_1 => ?_) (fun c_1 => ?_)
  · exact absurd c_1 gx0
  · skip
    refine lv_iload_n hx hb dX12_needThing_4 rfl (lv_at hl 1 rfl) ?_
    refine lv_aload_n hx hb dX12_needThing_5 rfl (lv_at hl 0 rfl) ?_
    refine q_get (v := .ref (ad h)) (fs := poF ad po ta h h2 re g o g2 o2 ik fp kb an sc tr) X hK hP fX12_needThing_19 h_po m_po rfl dX12_needThing_6 ?_
    refine q_get (v := .int (hv 7)) (fs := hallF ad h hv) X hK hP fX12_needThing_128 h_h m_h rfl dX12_needThing_9 ?_
    refine lv_icmp_lt (tgt := 23) hx hb dX12_needThing_12 (by decide) (fun c_12 => ?_) (fun c_12 => ?_)
    · skip
      exact q_vret X hr hlocks dX12_needThing_23
    · exact absurd gx1 c_12
set_option maxHeartbeats 4000000 in
set_option maxRecDepth 100000 in
theorem c_X12_needWhat (l : Launch) (D : va_G) (cB cI cJ : ClassId) (ad : Nat → Nat) (n : Nat) (M : Nat → va_E) (x y : Int32)   (gw0 : ¬ x < 0) (gw1 : x < y) : cRv l D cB cI cJ ad n M yX12_needWhat wsX12_needWhat 0 0 [.int x, .int y]  := by
  refine q_body (cc := cX12_needWhat) (maxL := 2) (ret := none) (by decide) rfl (Nat.le_of_ble_eq_true rfl) ?_
  intro p e s m args below meth c ls X hr hlocks hK hP hl
  obtain ⟨hx, hb, hml, hown, hts⟩ := id X
  have hS : va_S (ipA ad n) s.heap s.heap [] := va_S.rf
  have hl : lv_has ls 2 [(0, .int x), (1, .int y)] := hl
  refine lv_iload_n hx hb dX12_needWhat_0 rfl (lv_at hl 0 rfl) ?_
  refine lv_if_lt (tgt := 9) hx hb dX12_needWhat_1 (by decide) (fun c_1 => ?_) (fun c_1 => ?_)
  · exact absurd c_1 gw0
  · skip
    refine lv_iload_n hx hb dX12_needWhat_4 rfl (lv_at hl 0 rfl) ?_
    refine lv_iload_n hx hb dX12_needWhat_5 rfl (lv_at hl 1 rfl) ?_
    refine lv_icmp_lt (tgt := 17) hx hb dX12_needWhat_6 (by decide) (fun c_6 => ?_) (fun c_6 => ?_)
    · skip
      exact q_vret X hr hlocks dX12_needWhat_17
    · exact absurd gw1 c_6
theorem yd_X12_needThing : YD yX12_needThing 1 := ⟨by decide +kernel, by decide +kernel, by decide +kernel⟩
set_option maxRecDepth 20000 in
theorem fX12_may_40 : FL wsX12_may RX12 40 11 4 := ⟨RX12, TX12, 14, rfl, by decide +kernel, by decide, by decide +kernel⟩
def s_X12_may (nt : Nat) (nq : Nat) (hv : Nat → Int32) (pf : Nat → Int32) (cf : Nat → Int32) (tf : Nat → Int32) (qf : Nat → Int32) (plf : Nat → Int32) (x : Int32) (y : Int32) : Int32 := (mcS nt nq hv pf cf tf qf plf x y)
set_option maxHeartbeats 4000000 in
set_option maxRecDepth 100000 in
theorem c_X12_may (l : Launch) (D : va_G) (cB cI cJ : ClassId) (ad : Nat → Nat) (n : Nat) (M : Nat → va_E) (po ta h h2 re g o g2 o2 kb an sc tr : Nat) (ik fp : Int32) (nt nc np nq : Nat) (op : Int32) (hv pf cf tf qf plf : Nat → Int32) (x y : Int32) (h_po : po < n) (h_g : g < n) (h_g_1 : g + 1 < n) (h_g_2 : g + 2 < n) (h_h : h < n) (h_h_5 : h + 5 < n) (h_h_6 : h + 6 < n) (h_h_1 : h + 1 < n) (h_h_2 : h + 2 < n) (h_h_3 : h + 3 < n) (h_h_4 : h + 4 < n) (h_h_7 : h + 7 < n) (h_h_8 : h + 8 < n) (m_po : M po = .inr (11, poF ad po ta h h2 re g o g2 o2 ik fp kb an sc tr)) (m_g : M g = .inr (7, standF ad g h op)) (m_g_1 : M (g + 1) = .inr (8, [.int 1, .ref (ad (g + 2))])) (m_g_2 : M (g + 2) = .inl (cI, 12, .inl plf)) (m_h : M h = .inr (0, hallF ad h hv)) (m_h_5 : M (h + 5) = .inr (8, [.int 7, .ref (ad (h + 6))])) (m_h_6 : M (h + 6) = .inl (cI, 84, .inl tf)) (m_h_1 : M (h + 1) = .inr (8, [.int 3, .ref (ad (h + 2))])) (m_h_2 : M (h + 2) = .inl (cI, 12, .inl pf)) (m_h_3 : M (h + 3) = .inr (8, [.int 5, .ref (ad (h + 4))])) (m_h_4 : M (h + 4) = .inl (cI, 25, .inl cf)) (m_h_7 : M (h + 7) = .inr (8, [.int 2, .ref (ad (h + 8))])) (m_h_8 : M (h + 8) = .inl (cI, 12, .inl qf)) (h7 : hv 7 = nI nt) (hnt : nt ≤ 12) (h6 : hv 6 = nI nc) (hnc : nc ≤ 5) (h5 : hv 5 = nI np) (hnp : np ≤ 4) (h8 : hv 8 = nI nq) (hnq : nq ≤ 6) (gx0 : ¬ x < 0) (gx1 : x < (hv 7)) : cR l D cB cI cJ ad n M yX12_may wsX12_may 4 95 [.ref (ad po), .int x, .int y] (s_X12_may nt nq hv pf cf tf qf plf x y) := by
  refine q_body (cc := cX12_may) (maxL := 3) (ret := (some .boolean)) (by decide) rfl (Nat.le_of_ble_eq_true rfl) ?_
  intro p e s m args below meth c ls X hr hlocks hK hP hl
  obtain ⟨hx, hb, hml, hown, hts⟩ := id X
  have hS : va_S (ipA ad n) s.heap s.heap [] := va_S.rf
  have hl : lv_has ls 3 [(0, .ref (ad po)), (1, .int x), (2, .int y)] := hl
  refine lv_aload_n hx hb dX12_may_0 rfl (lv_at hl 0 rfl) ?_
  refine lv_iload_n hx hb dX12_may_1 rfl (lv_at hl 1 rfl) ?_
  refine q_rdVv (As := [.int x]) (rest := []) (c_X12_needThing l D cB cI cJ ad n M po ta h h2 re g o g2 o2 kb an sc tr ik fp hv x h_po h_h m_po m_h gx0 gx1) X hK hP hS hl.1 rfl gX12_may_X12_needThing yd_X12_needThing ⟨Nat.le_of_ble_eq_true rfl, Nat.le_of_ble_eq_true rfl⟩ h_po m_po (ci := 11) rfl rfl (Nat.le_of_ble_eq_true rfl) ⟨Nat.zero_le _, Nat.zero_le _⟩ dX12_may_2 ?_
  refine lv_aload_n hx hb dX12_may_5 rfl (lv_at hl 0 rfl) ?_
  refine q_get (v := .ref (ad g)) (fs := poF ad po ta h h2 re g o g2 o2 ik fp kb an sc tr) X hK hP fX12_may_40 h_po m_po rfl dX12_may_6 ?_
  refine lv_iload_n hx hb dX12_may_9 rfl (lv_at hl 1 rfl) ?_
  refine lv_iload_n hx hb dX12_may_10 rfl (lv_at hl 2 rfl) ?_
  refine q_rdV (As := [.int x, .int y]) (rest := []) (c_X7_mayCome l D cB cI cJ ad n M g h nt nc np nq op hv pf cf tf qf plf x y h_g h_g_1 h_g_2 h_h h_h_5 h_h_6 h_h_1 h_h_2 h_h_3 h_h_4 h_h_7 h_h_8 m_g m_g_1 m_g_2 m_h m_h_5 m_h_6 m_h_1 m_h_2 m_h_3 m_h_4 m_h_7 m_h_8 h7 hnt h6 hnc h5 hnp h8 hnq) X hK hP hS hl.1 rfl gX12_may_X7_mayCome yd_X7_mayCome ⟨Nat.le_of_ble_eq_true rfl, Nat.le_of_ble_eq_true rfl⟩ h_g m_g (ci := 7) rfl rfl (Nat.le_of_ble_eq_true rfl) ⟨Nat.zero_le _, Nat.zero_le _⟩ dX12_may_11 ?_
  exact q_zret X hr hlocks (mc01 _ _ _ _ _ _ _ _ _ _) (by rfl) dX12_may_14
set_option maxRecDepth 20000 in
theorem fX12_shift_40 : FL wsX12_shift RX12 40 11 4 := ⟨RX12, TX12, 14, rfl, by decide +kernel, by decide, by decide +kernel⟩
set_option maxRecDepth 20000 in
theorem fX12_shift_47 : FL wsX12_shift RX12 47 11 5 := ⟨RX12, TX12, 14, rfl, by decide +kernel, by decide, by decide +kernel⟩
set_option maxRecDepth 20000 in
theorem fX12_shift_140 : FL wsX12_shift RX12 140 7 2 := ⟨RX7, TX7, 3, rfl, by decide +kernel, by decide, by decide +kernel⟩
theorem yd_X1_keepAct : YD yX1_keepAct 3 := ⟨by decide +kernel, by decide +kernel, by decide +kernel⟩
theorem yd_X1_refuse : YD yX1_refuse 1 := ⟨by decide +kernel, by decide +kernel, by decide +kernel⟩
def s_X12_shift (nt : Nat) (nq : Nat) (hv : Nat → Int32) (pf : Nat → Int32) (cf : Nat → Int32) (tf : Nat → Int32) (qf : Nat → Int32) (plf : Nat → Int32) (x : Int32) (y : Int32) : Int32 := if (mcS nt nq hv pf cf tf qf plf x y) = 0 then (-1) else (tat 12 plf x)
def s_X12_shift_0_2 (nt : Nat) (nq : Nat) (op : Int32) (hv : Nat → Int32) (pf : Nat → Int32) (cf : Nat → Int32) (tf : Nat → Int32) (qf : Nat → Int32) (plf : Nat → Int32) (x : Int32) (y : Int32) : Int32 := if (mcS nt nq hv pf cf tf qf plf x y) = 0 then op else (oiS_0_2 (oiS_0_2 op hv (tat 12 plf x)) hv y)
def s_X12_shift_1_f (nt : Nat) (nq : Nat) (hv : Nat → Int32) (pf : Nat → Int32) (cf : Nat → Int32) (tf : Nat → Int32) (qf : Nat → Int32) (plf : Nat → Int32) (x : Int32) (y : Int32) : Nat → Int32 := if (mcS nt nq hv pf cf tf qf plf x y) = 0 then plf else (tset 12 plf x y)
def s_X12_shift_2_1 (nt : Nat) (nq : Nat) (ak : Int32) (hv : Nat → Int32) (pf : Nat → Int32) (cf : Nat → Int32) (tf : Nat → Int32) (qf : Nat → Int32) (plf : Nat → Int32) (x : Int32) (y : Int32) : Int32 := if (mcS nt nq hv pf cf tf qf plf x y) = 0 then ak else (s_X1_keepAct_0_1 ak)
def s_X12_shift_3_f (nt : Nat) (nq : Nat) (ak : Int32) (op : Int32) (hv : Nat → Int32) (pf : Nat → Int32) (cf : Nat → Int32) (tf : Nat → Int32) (qf : Nat → Int32) (plf : Nat → Int32) (af : Nat → Int32) (x : Int32) (y : Int32) : Nat → Int32 := if (mcS nt nq hv pf cf tf qf plf x y) = 0 then af else (s_X1_keepAct_1_f ak af x (tat 12 plf x) op)
def s_X12_shift_4_f (nt : Nat) (nq : Nat) (hv : Nat → Int32) (pf : Nat → Int32) (cf : Nat → Int32) (tf : Nat → Int32) (qf : Nat → Int32) (plf : Nat → Int32) (tf2 : Nat → Int32) (x : Int32) (y : Int32) : Nat → Int32 := if (mcS nt nq hv pf cf tf qf plf x y) = 0 then (tset 3 tf2 1 ((tat 3 tf2 1) + 1)) else tf2
set_option maxHeartbeats 4000000 in
set_option maxRecDepth 100000 in
theorem c_X12_shift (l : Launch) (D : va_G) (cB cI cJ : ClassId) (ad : Nat → Nat) (n : Nat) (M : Nat → va_E) (hI : ipI ad n) (po ta h h2 re g o g2 o2 kb an sc tr : Nat) (ik fp : Int32) (nt nc np nq : Nat) (ak sk op : Int32) (hv pf cf tf qf plf af tf2 : Nat → Int32) (x y : Int32) (h_po : po < n) (h_g : g < n) (h_g_1 : g + 1 < n) (h_g_2 : g + 2 < n) (h_h : h < n) (h_h_5 : h + 5 < n) (h_h_6 : h + 6 < n) (h_h_1 : h + 1 < n) (h_h_2 : h + 2 < n) (h_h_3 : h + 3 < n) (h_h_4 : h + 4 < n) (h_h_7 : h + 7 < n) (h_h_8 : h + 8 < n) (h_o : o < n) (h_o_1 : o + 1 < n) (h_o_2 : o + 2 < n) (h_o_5 : o + 5 < n) (h_o_6 : o + 6 < n) (m_po : M po = .inr (11, poF ad po ta h h2 re g o g2 o2 ik fp kb an sc tr)) (m_g : M g = .inr (7, standF ad g h op)) (m_g_1 : M (g + 1) = .inr (8, [.int 1, .ref (ad (g + 2))])) (m_g_2 : M (g + 2) = .inl (cI, 12, .inl plf)) (m_h : M h = .inr (0, hallF ad h hv)) (m_h_5 : M (h + 5) = .inr (8, [.int 7, .ref (ad (h + 6))])) (m_h_6 : M (h + 6) = .inl (cI, 84, .inl tf)) (m_h_1 : M (h + 1) = .inr (8, [.int 3, .ref (ad (h + 2))])) (m_h_2 : M (h + 2) = .inl (cI, 12, .inl pf)) (m_h_3 : M (h + 3) = .inr (8, [.int 5, .ref (ad (h + 4))])) (m_h_4 : M (h + 4) = .inl (cI, 25, .inl cf)) (m_h_7 : M (h + 7) = .inr (8, [.int 2, .ref (ad (h + 8))])) (m_h_8 : M (h + 8) = .inl (cI, 12, .inl qf)) (m_o : M o = .inr (1, logF ad o ak sk)) (m_o_1 : M (o + 1) = .inr (8, [.int 3, .ref (ad (o + 2))])) (m_o_2 : M (o + 2) = .inl (cI, 120, .inl af)) (m_o_5 : M (o + 5) = .inr (8, [.int 1, .ref (ad (o + 6))])) (m_o_6 : M (o + 6) = .inl (cI, 3, .inl tf2)) (h7 : hv 7 = nI nt) (hnt : nt ≤ 12) (h6 : hv 6 = nI nc) (hnc : nc ≤ 5) (h5 : hv 5 = nI np) (hnp : np ≤ 4) (h8 : hv 8 = nI nq) (hnq : nq ≤ 6) (hgh : g + 2 < h ∨ h + 15 < g) (hog : o + 6 < g ∨ g + 2 < o) (hoh : o + 6 < h ∨ h + 15 < o) (hpo : po < o ∨ o + 6 < po) (hpg : po < g ∨ g + 2 < po) (gx0 : ¬ x < 0) (gx1 : x < (hv 7)) : cWi l D cB cI cJ ad n M yX12_shift wsX12_shift 4 95 [.ref (ad po), .int x, .int y] (fun r M' => r = s_X12_shift nt nq hv pf cf tf qf plf x y ∧ M' g = .inr (7, standF ad g h (s_X12_shift_0_2 nt nq op hv pf cf tf qf plf x y)) ∧ M' (g + 2) = .inl (cI, 12, .inl (s_X12_shift_1_f nt nq hv pf cf tf qf plf x y)) ∧ M' o = .inr (1, logF ad o (s_X12_shift_2_1 nt nq ak hv pf cf tf qf plf x y) sk) ∧ M' (o + 2) = .inl (cI, 120, .inl (s_X12_shift_3_f nt nq ak op hv pf cf tf qf plf af x y)) ∧ M' (o + 6) = .inl (cI, 3, .inl (s_X12_shift_4_f nt nq hv pf cf tf qf plf tf2 x y)) ∧ ∀ q : Nat, q ≠ g → q ≠ g + 2 → q ≠ o → q ≠ o + 2 → q ≠ o + 6 → M' q = M q) := by
  refine q_body (cc := cX12_shift) (maxL := 4) (ret := (some .int)) (by decide) rfl (Nat.le_of_ble_eq_true rfl) ?_
  intro p e s m args below meth c ls X hr hlocks hK hP hl
  obtain ⟨hx, hb, hml, hown, hts⟩ := id X
  have hS : va_S (ipA ad n) s.heap s.heap [] := va_S.rf
  have hl : lv_has ls 4 [(0, .ref (ad po)), (1, .int x), (2, .int y)] := hl
  refine lv_aload_n hx hb dX12_shift_0 rfl (lv_at hl 0 rfl) ?_
  refine lv_iload_n hx hb dX12_shift_1 rfl (lv_at hl 1 rfl) ?_
  refine q_rdVv (As := [.int x]) (rest := []) (c_X12_needThing l D cB cI cJ ad n M po ta h h2 re g o g2 o2 kb an sc tr ik fp hv x h_po h_h m_po m_h gx0 gx1) X hK hP hS hl.1 rfl gX12_shift_X12_needThing yd_X12_needThing ⟨Nat.le_of_ble_eq_true rfl, Nat.le_of_ble_eq_true rfl⟩ h_po m_po (ci := 11) rfl rfl (Nat.le_of_ble_eq_true rfl) ⟨Nat.zero_le _, Nat.zero_le _⟩ dX12_shift_2 ?_
  refine lv_aload_n hx hb dX12_shift_5 rfl (lv_at hl 0 rfl) ?_
  refine q_get (v := .ref (ad g)) (fs := poF ad po ta h h2 re g o g2 o2 ik fp kb an sc tr) X hK hP fX12_shift_40 h_po m_po rfl dX12_shift_6 ?_
  refine lv_iload_n hx hb dX12_shift_9 rfl (lv_at hl 1 rfl) ?_
  refine lv_iload_n hx hb dX12_shift_10 rfl (lv_at hl 2 rfl) ?_
  refine q_rdV (As := [.int x, .int y]) (rest := []) (c_X7_mayCome l D cB cI cJ ad n M g h nt nc np nq op hv pf cf tf qf plf x y h_g h_g_1 h_g_2 h_h h_h_5 h_h_6 h_h_1 h_h_2 h_h_3 h_h_4 h_h_7 h_h_8 m_g m_g_1 m_g_2 m_h m_h_5 m_h_6 m_h_1 m_h_2 m_h_3 m_h_4 m_h_7 m_h_8 h7 hnt h6 hnc h5 hnp h8 hnq) X hK hP hS hl.1 rfl gX12_shift_X7_mayCome yd_X7_mayCome ⟨Nat.le_of_ble_eq_true rfl, Nat.le_of_ble_eq_true rfl⟩ h_g m_g (ci := 7) rfl rfl (Nat.le_of_ble_eq_true rfl) ⟨Nat.zero_le _, Nat.zero_le _⟩ dX12_shift_11 ?_
  refine lv_if_ne (tgt := 27) hx hb dX12_shift_14 (by decide) (fun c_14 => ?_) (fun c_14 => ?_)
  · skip
    refine lv_aload_n hx hb dX12_shift_27 rfl (lv_at hl 0 rfl) ?_
    refine q_get (v := .ref (ad g)) (fs := poF ad po ta h h2 re g o g2 o2 ik fp kb an sc tr) X hK hP fX12_shift_40 h_po m_po rfl dX12_shift_28 ?_
    refine lv_iload_n hx hb dX12_shift_31 rfl (lv_at hl 1 rfl) ?_
    refine q_rdV (As := [.int x]) (rest := []) (c_X7_placeOf l D cB cI cJ ad n M g h op plf x h_g h_g_1 h_g_2 m_g m_g_1 m_g_2 ) X hK hP hS hl.1 rfl gX12_shift_X7_placeOf yd_X7_placeOf ⟨Nat.le_of_ble_eq_true rfl, Nat.le_of_ble_eq_true rfl⟩ h_g m_g (ci := 7) rfl rfl (Nat.le_of_ble_eq_true rfl) ⟨Nat.zero_le _, Nat.zero_le _⟩ dX12_shift_32 ?_
    refine lv_istore_n (lv' := [(3, .int (tat 12 plf x)), (0, .ref (ad po)), (1, .int x), (2, .int y)]) hx hb dX12_shift_35 rfl hl (by decide) rfl (fun ls hl => ?_)
    refine lv_aload_n hx hb dX12_shift_36 rfl (lv_at hl 1 rfl) ?_
    refine q_get (v := .ref (ad o)) (fs := poF ad po ta h h2 re g o g2 o2 ik fp kb an sc tr) X hK hP fX12_shift_47 h_po m_po rfl dX12_shift_37 ?_
    refine lv_iload_n hx hb dX12_shift_40 rfl (lv_at hl 2 rfl) ?_
    refine lv_iload_n hx hb dX12_shift_41 rfl (lv_at hl 0 rfl) ?_
    refine lv_aload_n hx hb dX12_shift_42 rfl (lv_at hl 1 rfl) ?_
    refine q_get (v := .ref (ad g)) (fs := poF ad po ta h h2 re g o g2 o2 ik fp kb an sc tr) X hK hP fX12_shift_40 h_po m_po rfl dX12_shift_43 ?_
    refine q_get (v := .int op) (fs := standF ad g h op) X hK hP fX12_shift_140 h_g m_g rfl dX12_shift_46 ?_
    refine q_wrVv (As := [.int x, .int (tat 12 plf x), .int op]) (rest := []) (c_X1_keepAct l D cB cI cJ ad n M hI o ak sk af x (tat 12 plf x) op h_o h_o_1 h_o_2 m_o m_o_1 m_o_2 ) X hK hP hS hl.1 rfl gX12_shift_X1_keepAct yd_X1_keepAct ⟨Nat.le_of_ble_eq_true rfl, Nat.le_of_ble_eq_true rfl⟩ h_o m_o (ci := 1) rfl rfl (Nat.le_of_ble_eq_true rfl) ⟨Nat.zero_le _, Nat.zero_le _⟩ dX12_shift_49 (fun M2 H locs hp1 hP hS => ?_)
    obtain ⟨g4, g5, fr6⟩ := hp1
    refine lv_aload_n hx hb dX12_shift_52 rfl (lv_at hl 1 rfl) ?_
    refine q_get (v := .ref (ad g)) (fs := poF ad po ta h h2 re g o g2 o2 ik fp kb an sc tr) X hK hP fX12_shift_40 h_po ((fr6 po (by omega) (by omega)).trans m_po) rfl dX12_shift_53 ?_
    refine lv_iload_n hx hb dX12_shift_56 rfl (lv_at hl 2 rfl) ?_
    refine lv_iload_n hx hb dX12_shift_57 rfl (lv_at hl 3 rfl) ?_
    refine q_wrVv (As := [.int x, .int y]) (rest := []) (c_X7_bring l D cB cI cJ ad n M2 hI g h nc op hv plf x y h_g h_g_1 h_g_2 h_h ((fr6 g (by omega) (by omega)).trans m_g) ((fr6 (g + 1) (by omega) (by omega)).trans m_g_1) ((fr6 (g + 2) (by omega) (by omega)).trans m_g_2) ((fr6 h (by omega) (by omega)).trans m_h) h6 hnc hgh) X hK hP hS hl.1 rfl gX12_shift_X7_bring yd_X7_bring ⟨Nat.le_of_ble_eq_true rfl, Nat.le_of_ble_eq_true rfl⟩ h_g ((fr6 g (by omega) (by omega)).trans m_g) (ci := 7) rfl rfl (Nat.le_of_ble_eq_true rfl) ⟨Nat.zero_le _, Nat.zero_le _⟩ dX12_shift_58 (fun M8 H locs hp7 hP hS => ?_)
    obtain ⟨g10, g11, fr12⟩ := hp7
    refine lv_iload_n hx hb dX12_shift_61 rfl (lv_at hl 0 rfl) ?_
    exact q_wzret X hr hlocks hP hS (rfl) ⟨(by rw [s_X12_shift, if_neg c_14]), (by rw [s_X12_shift_0_2, if_neg c_14]; exact g10), (by rw [s_X12_shift_1_f, if_neg c_14]; exact g11), (by rw [s_X12_shift_2_1, if_neg c_14]; exact ((fr12 o (by omega) (by omega)).trans g4)), (by rw [s_X12_shift_3_f, if_neg c_14]; exact ((fr12 (o + 2) (by omega) (by omega)).trans g5)), (by rw [s_X12_shift_4_f, if_neg c_14]; exact ((fr12 (o + 6) (by omega) (by omega)).trans ((fr6 (o + 6) (by omega) (by omega)).trans m_o_6))), (fun q n0 n1 n2 n3 n4 => ((fr12 q n0 n1).trans (fr6 q n2 n3)))⟩ dX12_shift_62
  · skip
    refine lv_aload_n hx hb dX12_shift_17 rfl (lv_at hl 0 rfl) ?_
    refine q_get (v := .ref (ad o)) (fs := poF ad po ta h h2 re g o g2 o2 ik fp kb an sc tr) X hK hP fX12_shift_47 h_po m_po rfl dX12_shift_18 ?_
    refine lv_iconst (v := 1) hx hb dX12_shift_21 (by decide) ?_
    refine q_wrVv (As := [.int 1]) (rest := []) (c_X1_refuse l D cB cI cJ ad n M hI o ak sk tf2 1 h_o h_o_5 h_o_6 m_o m_o_5 m_o_6 ) X hK hP hS hl.1 rfl gX12_shift_X1_refuse yd_X1_refuse ⟨Nat.le_of_ble_eq_true rfl, Nat.le_of_ble_eq_true rfl⟩ h_o m_o (ci := 1) rfl rfl (Nat.le_of_ble_eq_true rfl) ⟨Nat.zero_le _, Nat.zero_le _⟩ dX12_shift_22 (fun M14 H locs hp13 hP hS => ?_)
    obtain ⟨g16, fr17⟩ := hp13
    refine lv_iconst (v := (-1)) hx hb dX12_shift_25 (by decide) ?_
    exact q_wzret X hr hlocks hP hS (rfl) ⟨(by rw [s_X12_shift, if_pos c_14]), (by rw [s_X12_shift_0_2, if_pos c_14]; exact ((fr17 g (by omega)).trans m_g)), (by rw [s_X12_shift_1_f, if_pos c_14]; exact ((fr17 (g + 2) (by omega)).trans m_g_2)), (by rw [s_X12_shift_2_1, if_pos c_14]; exact ((fr17 o (by omega)).trans m_o)), (by rw [s_X12_shift_3_f, if_pos c_14]; exact ((fr17 (o + 2) (by omega)).trans m_o_2)), (by rw [s_X12_shift_4_f, if_pos c_14]; exact g16), (fun q n0 n1 n2 n3 n4 => (fr17 q n4))⟩ dX12_shift_26
theorem yd_X12_needCase : YD yX12_needCase 1 := ⟨by decide +kernel, by decide +kernel, by decide +kernel⟩
set_option maxRecDepth 20000 in
theorem fX12_two_64 : FL wsX12_two RX12 64 11 10 := ⟨RX12, TX12, 14, rfl, by decide +kernel, by decide, by decide +kernel⟩
set_option maxRecDepth 20000 in
theorem fX12_two_40 : FL wsX12_two RX12 40 11 4 := ⟨RX12, TX12, 14, rfl, by decide +kernel, by decide, by decide +kernel⟩
theorem yd_X2_fewestBetween : YD yX2_fewestBetween 3 := ⟨by decide +kernel, by decide +kernel, by decide +kernel⟩
def s_X12_two (nt : Nat) (cf : Nat → Int32) (tf : Nat → Int32) (plf : Nat → Int32) (x : Int32) (y : Int32) : Int32 := (s_X2_fewestBetween nt cf tf plf x y)
set_option maxHeartbeats 4000000 in
set_option maxRecDepth 100000 in
theorem c_X12_two (l : Launch) (D : va_G) (cB cI cJ : ClassId) (ad : Nat → Nat) (n : Nat) (M : Nat → va_E) (po ta h h2 re g o g2 o2 kb an sc tr : Nat) (ik fp : Int32) (nt : Nat) (op : Int32) (hv cf tf plf : Nat → Int32) (x y : Int32) (h_po : po < n) (h_kb : kb < n) (h_g : g < n) (h_g_1 : g + 1 < n) (h_g_2 : g + 2 < n) (h_h : h < n) (h_h_5 : h + 5 < n) (h_h_6 : h + 6 < n) (h_h_3 : h + 3 < n) (h_h_4 : h + 4 < n) (m_po : M po = .inr (11, poF ad po ta h h2 re g o g2 o2 ik fp kb an sc tr)) (m_kb : M kb = .inr (2, packF ad kb)) (m_g : M g = .inr (7, standF ad g h op)) (m_g_1 : M (g + 1) = .inr (8, [.int 1, .ref (ad (g + 2))])) (m_g_2 : M (g + 2) = .inl (cI, 12, .inl plf)) (m_h : M h = .inr (0, hallF ad h hv)) (m_h_5 : M (h + 5) = .inr (8, [.int 7, .ref (ad (h + 6))])) (m_h_6 : M (h + 6) = .inl (cI, 84, .inl tf)) (m_h_3 : M (h + 3) = .inr (8, [.int 5, .ref (ad (h + 4))])) (m_h_4 : M (h + 4) = .inl (cI, 25, .inl cf)) (h7 : hv 7 = nI nt) (hnt : nt ≤ 12) (gx0 : ¬ x < 0) (gx1 : x < (hv 6)) (gy0 : ¬ y < 0) (gy1 : y < (hv 6)) (gne : ¬ x = y) : cR l D cB cI cJ ad n M yX12_two wsX12_two 4 98 [.ref (ad po), .int x, .int y] (s_X12_two nt cf tf plf x y) := by
  refine q_body (cc := cX12_two) (maxL := 3) (ret := (some .int)) (by decide) rfl (Nat.le_of_ble_eq_true rfl) ?_
  intro p e s m args below meth c ls X hr hlocks hK hP hl
  obtain ⟨hx, hb, hml, hown, hts⟩ := id X
  have hS : va_S (ipA ad n) s.heap s.heap [] := va_S.rf
  have hl : lv_has ls 3 [(0, .ref (ad po)), (1, .int x), (2, .int y)] := hl
  refine lv_aload_n hx hb dX12_two_0 rfl (lv_at hl 0 rfl) ?_
  refine lv_iload_n hx hb dX12_two_1 rfl (lv_at hl 1 rfl) ?_
  refine q_rdVv (As := [.int x]) (rest := []) (c_X12_needCase l D cB cI cJ ad n M po ta h h2 re g o g2 o2 kb an sc tr ik fp hv x h_po h_h m_po m_h gx0 gx1) X hK hP hS hl.1 rfl gX12_two_X12_needCase yd_X12_needCase ⟨Nat.le_of_ble_eq_true rfl, Nat.le_of_ble_eq_true rfl⟩ h_po m_po (ci := 11) rfl rfl (Nat.le_of_ble_eq_true rfl) ⟨Nat.zero_le _, Nat.zero_le _⟩ dX12_two_2 ?_
  refine lv_aload_n hx hb dX12_two_5 rfl (lv_at hl 0 rfl) ?_
  refine lv_iload_n hx hb dX12_two_6 rfl (lv_at hl 2 rfl) ?_
  refine q_rdVv (As := [.int y]) (rest := []) (c_X12_needCase l D cB cI cJ ad n M po ta h h2 re g o g2 o2 kb an sc tr ik fp hv y h_po h_h m_po m_h gy0 gy1) X hK hP hS hl.1 rfl gX12_two_X12_needCase yd_X12_needCase ⟨Nat.le_of_ble_eq_true rfl, Nat.le_of_ble_eq_true rfl⟩ h_po m_po (ci := 11) rfl rfl (Nat.le_of_ble_eq_true rfl) ⟨Nat.zero_le _, Nat.zero_le _⟩ dX12_two_7 ?_
  refine lv_iload_n hx hb dX12_two_10 rfl (lv_at hl 1 rfl) ?_
  refine lv_iload_n hx hb dX12_two_11 rfl (lv_at hl 2 rfl) ?_
  refine lv_icmp_ne (tgt := 23) hx hb dX12_two_12 (by decide) (fun c_12 => ?_) (fun c_12 => ?_)
  · skip
    refine lv_aload_n hx hb dX12_two_23 rfl (lv_at hl 0 rfl) ?_
    refine q_get (v := .ref (ad kb)) (fs := poF ad po ta h h2 re g o g2 o2 ik fp kb an sc tr) X hK hP fX12_two_64 h_po m_po rfl dX12_two_24 ?_
    refine lv_aload_n hx hb dX12_two_27 rfl (lv_at hl 0 rfl) ?_
    refine q_get (v := .ref (ad g)) (fs := poF ad po ta h h2 re g o g2 o2 ik fp kb an sc tr) X hK hP fX12_two_40 h_po m_po rfl dX12_two_28 ?_
    refine lv_iload_n hx hb dX12_two_31 rfl (lv_at hl 1 rfl) ?_
    refine lv_iload_n hx hb dX12_two_32 rfl (lv_at hl 2 rfl) ?_
    refine q_rdV (As := [.ref (ad g), .int x, .int y]) (rest := []) (c_X2_fewestBetween l D cB cI cJ ad n M kb g h nt op hv cf tf plf x y h_kb h_g h_g_1 h_g_2 h_h h_h_5 h_h_6 h_h_3 h_h_4 m_kb m_g m_g_1 m_g_2 m_h m_h_5 m_h_6 m_h_3 m_h_4 h7 hnt) X hK hP hS hl.1 rfl gX12_two_X2_fewestBetween yd_X2_fewestBetween ⟨Nat.le_of_ble_eq_true rfl, Nat.le_of_ble_eq_true rfl⟩ h_kb m_kb (ci := 2) rfl rfl (Nat.le_of_ble_eq_true rfl) ⟨Nat.zero_le _, Nat.zero_le _⟩ dX12_two_33 ?_
    exact q_iret hb hx hr hlocks (by rfl) dX12_two_36
  · exact absurd c_12 gne
set_option maxRecDepth 20000 in
theorem fX12_cheap_71 : FL wsX12_cheap RX12 71 11 11 := ⟨RX12, TX12, 14, rfl, by decide +kernel, by decide, by decide +kernel⟩
set_option maxRecDepth 20000 in
theorem fX12_cheap_40 : FL wsX12_cheap RX12 40 11 4 := ⟨RX12, TX12, 14, rfl, by decide +kernel, by decide, by decide +kernel⟩
theorem yd_X3_leastFor : YD yX3_leastFor 2 := ⟨by decide +kernel, by decide +kernel, by decide +kernel⟩
def s_X12_cheap (nl : Nat) (nt : Nat) (nq : Nat) (td : Int32) (lof : Nat → Int32) (wof : Nat → Int32) (cf : Nat → Int32) (tf : Nat → Int32) (qf : Nat → Int32) (rf : Nat → Int32) (plf : Nat → Int32) (x : Int32) : Int32 := (s_X3_leastFor nl nt nq td lof wof cf tf qf rf plf x)
set_option maxHeartbeats 4000000 in
set_option maxRecDepth 100000 in
theorem c_X12_cheap (l : Launch) (D : va_G) (cB cI cJ : ClassId) (ad : Nat → Nat) (n : Nat) (M : Nat → va_E) (hI : ipI ad n) (po ta h h2 re g o g2 o2 kb an sc tr : Nat) (ik fp : Int32) (nl nt nc nq : Nat) (tof fk ck op td hg : Int32) (faf lof wof hv cf tf qf rf vf sf plf : Nat → Int32) (x : Int32) (h_po : po < n) (h_an : an < n) (h_an_1 : an + 1 < n) (h_an_2 : an + 2 < n) (h_an_3 : an + 3 < n) (h_an_4 : an + 4 < n) (h_an_5 : an + 5 < n) (h_an_6 : an + 6 < n) (h_g : g < n) (h_h : h < n) (h_h_3 : h + 3 < n) (h_h_4 : h + 4 < n) (h_h_5 : h + 5 < n) (h_h_6 : h + 6 < n) (h_h_9 : h + 9 < n) (h_h_10 : h + 10 < n) (h_h_11 : h + 11 < n) (h_h_12 : h + 12 < n) (h_h_13 : h + 13 < n) (h_h_14 : h + 14 < n) (h_h_15 : h + 15 < n) (h_g_1 : g + 1 < n) (h_g_2 : g + 2 < n) (h_h_7 : h + 7 < n) (h_h_8 : h + 8 < n) (m_po : M po = .inr (11, poF ad po ta h h2 re g o g2 o2 ik fp kb an sc tr)) (m_an : M an = .inr (3, plansF ad an tof fk ck)) (m_an_1 : M (an + 1) = .inr (8, [.int 1, .ref (ad (an + 2))])) (m_an_2 : M (an + 2) = .inl (cI, 12, .inl faf)) (m_an_3 : M (an + 3) = .inr (8, [.int 1, .ref (ad (an + 4))])) (m_an_4 : M (an + 4) = .inl (cI, 12, .inl lof)) (m_an_5 : M (an + 5) = .inr (8, [.int 1, .ref (ad (an + 6))])) (m_an_6 : M (an + 6) = .inl (cI, 12, .inl wof)) (m_g : M g = .inr (7, standF ad g h op)) (m_h : M h = .inr (0, hallF ad h hv)) (m_h_3 : M (h + 3) = .inr (8, [.int 5, .ref (ad (h + 4))])) (m_h_4 : M (h + 4) = .inl (cI, 25, .inl cf)) (m_h_5 : M (h + 5) = .inr (8, [.int 7, .ref (ad (h + 6))])) (m_h_6 : M (h + 6) = .inl (cI, 84, .inl tf)) (m_h_9 : M (h + 9) = .inr (5, ruleF ad (h + 9) (nI nl) td hg)) (m_h_10 : M (h + 10) = .inr (8, [.int 1, .ref (ad (h + 9 + 2))])) (m_h_11 : M (h + 11) = .inl (cI, 700, .inl rf)) (m_h_12 : M (h + 12) = .inr (8, [.int 1, .ref (ad (h + 9 + 4))])) (m_h_13 : M (h + 13) = .inl (cI, 5, .inl vf)) (m_h_14 : M (h + 14) = .inr (8, [.int 1, .ref (ad (h + 9 + 6))])) (m_h_15 : M (h + 15) = .inl (cI, 31, .inl sf)) (m_g_1 : M (g + 1) = .inr (8, [.int 1, .ref (ad (g + 2))])) (m_g_2 : M (g + 2) = .inl (cI, 12, .inl plf)) (m_h_7 : M (h + 7) = .inr (8, [.int 2, .ref (ad (h + 8))])) (m_h_8 : M (h + 8) = .inl (cI, 12, .inl qf)) (h7 : hv 7 = nI nt) (hnt : nt ≤ 12) (h8 : hv 8 = nI nq) (hnq : nq ≤ 6) (hnl : nl ≤ 700) (hOK : ruleOK nl rf td) (hah : an + 12 < h ∨ h + 15 < an) (hag : an + 12 < g ∨ g + 2 < an) (hgh : g + 2 < h ∨ h + 15 < g) (gx0 : ¬ x < 0) (gx1 : x < (hv 6)) : cWi l D cB cI cJ ad n M yX12_cheap wsX12_cheap 6 138 [.ref (ad po), .int x] (fun r M' => ∃ (v0__ : Nat → Int32) (v1__ : Nat → Int32) (v2__ : Int32), r = s_X12_cheap nl nt nq td lof wof cf tf qf rf plf x ∧ M' (an + 2) = .inl (cI, 12, .inl (s_X3_keepRow_2 ((s_X3_findLosses_2 nq tf qf lof wof nt).2) ((s_X3_leastFor_34 nl nt nq td lof wof cf tf qf rf plf x (feeS nl rf td (smS tf (taS plf x nt) 1 nt) (tat 25 cf (x * 5 + 1)) (bcI (taS plf x nt)) (tat 25 cf (x * 5 + 4))) 0 (4096 - 1)).2) faf 12)) ∧ M' (an + 4) = .inl (cI, 12, .inl ((s_X3_findLosses_2 nq tf qf lof wof nt).1)) ∧ M' (an + 6) = .inl (cI, 12, .inl ((s_X3_findLosses_2 nq tf qf lof wof nt).2)) ∧ M' an = .inr (3, plansF ad an (taS plf x nt) 1 ck) ∧ M' (h + 13) = .inl (cI, 5, .inl v0__) ∧ M' (h + 15) = .inl (cI, 31, .inl v1__) ∧ M' (h + 9) = .inr (5, ruleF ad (h + 9) (nI nl) td v2__) ∧ ∀ q : Nat, q ≠ an + 2 → q ≠ an + 4 → q ≠ an + 6 → q ≠ an → q ≠ h + 13 → q ≠ h + 15 → q ≠ h + 9 → M' q = M q) := by
  refine q_body (cc := cX12_cheap) (maxL := 2) (ret := (some .int)) (by decide) rfl (Nat.le_of_ble_eq_true rfl) ?_
  intro p e s m args below meth c ls X hr hlocks hK hP hl
  obtain ⟨hx, hb, hml, hown, hts⟩ := id X
  have hS : va_S (ipA ad n) s.heap s.heap [] := va_S.rf
  have hl : lv_has ls 2 [(0, .ref (ad po)), (1, .int x)] := hl
  refine lv_aload_n hx hb dX12_cheap_0 rfl (lv_at hl 0 rfl) ?_
  refine lv_iload_n hx hb dX12_cheap_1 rfl (lv_at hl 1 rfl) ?_
  refine q_rdVv (As := [.int x]) (rest := []) (c_X12_needCase l D cB cI cJ ad n M po ta h h2 re g o g2 o2 kb an sc tr ik fp hv x h_po h_h m_po m_h gx0 gx1) X hK hP hS hl.1 rfl gX12_cheap_X12_needCase yd_X12_needCase ⟨Nat.le_of_ble_eq_true rfl, Nat.le_of_ble_eq_true rfl⟩ h_po m_po (ci := 11) rfl rfl (Nat.le_of_ble_eq_true rfl) ⟨Nat.zero_le _, Nat.zero_le _⟩ dX12_cheap_2 ?_
  refine lv_aload_n hx hb dX12_cheap_5 rfl (lv_at hl 0 rfl) ?_
  refine q_get (v := .ref (ad an)) (fs := poF ad po ta h h2 re g o g2 o2 ik fp kb an sc tr) X hK hP fX12_cheap_71 h_po m_po rfl dX12_cheap_6 ?_
  refine lv_aload_n hx hb dX12_cheap_9 rfl (lv_at hl 0 rfl) ?_
  refine q_get (v := .ref (ad g)) (fs := poF ad po ta h h2 re g o g2 o2 ik fp kb an sc tr) X hK hP fX12_cheap_40 h_po m_po rfl dX12_cheap_10 ?_
  refine lv_iload_n hx hb dX12_cheap_13 rfl (lv_at hl 1 rfl) ?_
  refine q_wrVi (As := [.ref (ad g), .int x]) (rest := []) (c_X3_leastFor l D cB cI cJ ad n M hI an g h nl nt nc nq tof fk ck op td hg faf lof wof hv cf tf qf rf vf sf plf x h_an h_an_1 h_an_2 h_an_3 h_an_4 h_an_5 h_an_6 h_g h_h h_h_3 h_h_4 h_h_5 h_h_6 h_h_9 h_h_10 h_h_11 h_h_12 h_h_13 h_h_14 h_h_15 h_g_1 h_g_2 h_h_7 h_h_8 m_an m_an_1 m_an_2 m_an_3 m_an_4 m_an_5 m_an_6 m_g m_h m_h_3 m_h_4 m_h_5 m_h_6 m_h_9 m_h_10 m_h_11 m_h_12 m_h_13 m_h_14 m_h_15 m_g_1 m_g_2 m_h_7 m_h_8 h7 hnt h8 hnq hnl hOK hah hag hgh) X hK hP hS hl.1 rfl gX12_cheap_X3_leastFor yd_X3_leastFor ⟨Nat.le_of_ble_eq_true rfl, Nat.le_of_ble_eq_true rfl⟩ h_an m_an (ci := 3) rfl rfl (Nat.le_of_ble_eq_true rfl) ⟨Nat.zero_le _, Nat.zero_le _⟩ dX12_cheap_14 (fun r3 M2 H locs hp1 hP hS => ?_)
  obtain ⟨v0___4, v1___5, v2___6, rfl, g7, g8, g9, g10, g11, g12, g13, fr14⟩ := hp1
  exact q_wzret X hr hlocks hP hS (rfl) ⟨_, _, _, (by rfl), g7, g8, g9, g10, g11, g12, g13, (fun q n0 n1 n2 n3 n4 n5 n6 => (fr14 q n0 n1 n2 n3 n4 n5 n6))⟩ dX12_cheap_17
set_option maxRecDepth 20000 in
theorem fX12_lost_40 : FL wsX12_lost RX12 40 11 4 := ⟨RX12, TX12, 14, rfl, by decide +kernel, by decide, by decide +kernel⟩
def s_X12_lost (nt : Nat) (nc : Nat) (np : Nat) (cf : Nat → Int32) (tf : Nat → Int32) (plf : Nat → Int32) (x : Int32) : Int32 := (noShS (fun x lo => hkS nt tf (hsS nt cf plf x lo nc) 5) x np)
set_option maxHeartbeats 4000000 in
set_option maxRecDepth 100000 in
theorem c_X12_lost (l : Launch) (D : va_G) (cB cI cJ : ClassId) (ad : Nat → Nat) (n : Nat) (M : Nat → va_E) (po ta h h2 re g o g2 o2 kb an sc tr : Nat) (ik fp : Int32) (nt nc np : Nat) (op : Int32) (hv cf tf plf : Nat → Int32) (x : Int32) (h_po : po < n) (h_g : g < n) (h_g_1 : g + 1 < n) (h_g_2 : g + 2 < n) (h_h : h < n) (h_h_5 : h + 5 < n) (h_h_6 : h + 6 < n) (h_h_3 : h + 3 < n) (h_h_4 : h + 4 < n) (m_po : M po = .inr (11, poF ad po ta h h2 re g o g2 o2 ik fp kb an sc tr)) (m_g : M g = .inr (7, standF ad g h op)) (m_g_1 : M (g + 1) = .inr (8, [.int 1, .ref (ad (g + 2))])) (m_g_2 : M (g + 2) = .inl (cI, 12, .inl plf)) (m_h : M h = .inr (0, hallF ad h hv)) (m_h_5 : M (h + 5) = .inr (8, [.int 7, .ref (ad (h + 6))])) (m_h_6 : M (h + 6) = .inl (cI, 84, .inl tf)) (m_h_3 : M (h + 3) = .inr (8, [.int 5, .ref (ad (h + 4))])) (m_h_4 : M (h + 4) = .inl (cI, 25, .inl cf)) (h7 : hv 7 = nI nt) (hnt : nt ≤ 12) (h6 : hv 6 = nI nc) (hnc : nc ≤ 5) (h5 : hv 5 = nI np) (hnp : np ≤ 4) (gx0 : ¬ x < 0) (gx1 : x < (hv 6)) : cR l D cB cI cJ ad n M yX12_lost wsX12_lost 5 115 [.ref (ad po), .int x] (s_X12_lost nt nc np cf tf plf x) := by
  refine q_body (cc := cX12_lost) (maxL := 2) (ret := (some .int)) (by decide) rfl (Nat.le_of_ble_eq_true rfl) ?_
  intro p e s m args below meth c ls X hr hlocks hK hP hl
  obtain ⟨hx, hb, hml, hown, hts⟩ := id X
  have hS : va_S (ipA ad n) s.heap s.heap [] := va_S.rf
  have hl : lv_has ls 2 [(0, .ref (ad po)), (1, .int x)] := hl
  refine lv_aload_n hx hb dX12_lost_0 rfl (lv_at hl 0 rfl) ?_
  refine lv_iload_n hx hb dX12_lost_1 rfl (lv_at hl 1 rfl) ?_
  refine q_rdVv (As := [.int x]) (rest := []) (c_X12_needCase l D cB cI cJ ad n M po ta h h2 re g o g2 o2 kb an sc tr ik fp hv x h_po h_h m_po m_h gx0 gx1) X hK hP hS hl.1 rfl gX12_lost_X12_needCase yd_X12_needCase ⟨Nat.le_of_ble_eq_true rfl, Nat.le_of_ble_eq_true rfl⟩ h_po m_po (ci := 11) rfl rfl (Nat.le_of_ble_eq_true rfl) ⟨Nat.zero_le _, Nat.zero_le _⟩ dX12_lost_2 ?_
  refine lv_aload_n hx hb dX12_lost_5 rfl (lv_at hl 0 rfl) ?_
  refine q_get (v := .ref (ad g)) (fs := poF ad po ta h h2 re g o g2 o2 ik fp kb an sc tr) X hK hP fX12_lost_40 h_po m_po rfl dX12_lost_6 ?_
  refine lv_iload_n hx hb dX12_lost_9 rfl (lv_at hl 1 rfl) ?_
  refine q_rdV (As := [.int x]) (rest := []) (c_X7_withoutShirtIfLost l D cB cI cJ ad n M g h nt nc np op hv cf tf plf x h_g h_g_1 h_g_2 h_h h_h_5 h_h_6 h_h_3 h_h_4 m_g m_g_1 m_g_2 m_h m_h_5 m_h_6 m_h_3 m_h_4 h7 hnt h6 hnc h5 hnp) X hK hP hS hl.1 rfl gX12_lost_X7_withoutShirtIfLost yd_X7_withoutShirtIfLost ⟨Nat.le_of_ble_eq_true rfl, Nat.le_of_ble_eq_true rfl⟩ h_g m_g (ci := 7) rfl rfl (Nat.le_of_ble_eq_true rfl) ⟨Nat.zero_le _, Nat.zero_le _⟩ dX12_lost_10 ?_
  exact q_iret hb hx hr hlocks (by rfl) dX12_lost_13
theorem yd_X12_needPerson : YD yX12_needPerson 1 := ⟨by decide +kernel, by decide +kernel, by decide +kernel⟩
set_option maxRecDepth 20000 in
theorem fX12_wear_71 : FL wsX12_wear RX12 71 11 11 := ⟨RX12, TX12, 14, rfl, by decide +kernel, by decide, by decide +kernel⟩
set_option maxRecDepth 20000 in
theorem fX12_wear_40 : FL wsX12_wear RX12 40 11 4 := ⟨RX12, TX12, 14, rfl, by decide +kernel, by decide, by decide +kernel⟩
theorem yd_X3_coatsToWear : YD yX3_coatsToWear 3 := ⟨by decide +kernel, by decide +kernel, by decide +kernel⟩
set_option maxRecDepth 20000 in
theorem fX12_wear_19 : FL wsX12_wear RX12 19 11 1 := ⟨RX12, TX12, 14, rfl, by decide +kernel, by decide, by decide +kernel⟩
def s_X12_wear (nt : Nat) (nc : Nat) (pf : Nat → Int32) (cf : Nat → Int32) (tf : Nat → Int32) (plf : Nat → Int32) (x : Int32) (y : Int32) (z : Int32) : Int32 := if (s_X3_coatsToWear nt nc pf cf tf plf x y) = (-1) then (s_X3_coatsToWear nt nc pf cf tf plf x y) else if z = 0 then (smS tf (s_X3_coatsToWear nt nc pf cf tf plf x y) 6 nt) else (s_X3_coatsToWear nt nc pf cf tf plf x y)
set_option maxHeartbeats 4000000 in
set_option maxRecDepth 100000 in
theorem c_X12_wear (l : Launch) (D : va_G) (cB cI cJ : ClassId) (ad : Nat → Nat) (n : Nat) (M : Nat → va_E) (po ta h h2 re g o g2 o2 kb an sc tr : Nat) (ik fp : Int32) (nt nc : Nat) (tof fk ck op : Int32) (hv pf cf tf plf : Nat → Int32) (x y z : Int32) (h_po : po < n) (h_an : an < n) (h_g : g < n) (h_g_1 : g + 1 < n) (h_g_2 : g + 2 < n) (h_h : h < n) (h_h_5 : h + 5 < n) (h_h_6 : h + 6 < n) (h_h_3 : h + 3 < n) (h_h_4 : h + 4 < n) (h_h_1 : h + 1 < n) (h_h_2 : h + 2 < n) (m_po : M po = .inr (11, poF ad po ta h h2 re g o g2 o2 ik fp kb an sc tr)) (m_an : M an = .inr (3, plansF ad an tof fk ck)) (m_g : M g = .inr (7, standF ad g h op)) (m_g_1 : M (g + 1) = .inr (8, [.int 1, .ref (ad (g + 2))])) (m_g_2 : M (g + 2) = .inl (cI, 12, .inl plf)) (m_h : M h = .inr (0, hallF ad h hv)) (m_h_5 : M (h + 5) = .inr (8, [.int 7, .ref (ad (h + 6))])) (m_h_6 : M (h + 6) = .inl (cI, 84, .inl tf)) (m_h_3 : M (h + 3) = .inr (8, [.int 5, .ref (ad (h + 4))])) (m_h_4 : M (h + 4) = .inl (cI, 25, .inl cf)) (m_h_1 : M (h + 1) = .inr (8, [.int 3, .ref (ad (h + 2))])) (m_h_2 : M (h + 2) = .inl (cI, 12, .inl pf)) (h7 : hv 7 = nI nt) (hnt : nt ≤ 12) (h6 : hv 6 = nI nc) (hnc : nc ≤ 5) (gx0 : ¬ x < 0) (gx1 : x < (hv 5)) (gp0 : ¬ y < 0) (gp1 : y ≤ 200) : cR l D cB cI cJ ad n M yX12_wear wsX12_wear 4 98 [.ref (ad po), .int x, .int y, .int z] (s_X12_wear nt nc pf cf tf plf x y z) := by
  refine q_body (cc := cX12_wear) (maxL := 5) (ret := (some .int)) (by decide) rfl (Nat.le_of_ble_eq_true rfl) ?_
  intro p e s m args below meth c ls X hr hlocks hK hP hl
  obtain ⟨hx, hb, hml, hown, hts⟩ := id X
  have hS : va_S (ipA ad n) s.heap s.heap [] := va_S.rf
  have hl : lv_has ls 5 [(0, .ref (ad po)), (1, .int x), (2, .int y), (3, .int z)] := hl
  refine lv_aload_n hx hb dX12_wear_0 rfl (lv_at hl 0 rfl) ?_
  refine lv_iload_n hx hb dX12_wear_1 rfl (lv_at hl 1 rfl) ?_
  refine q_rdVv (As := [.int x]) (rest := []) (c_X12_needPerson l D cB cI cJ ad n M po ta h h2 re g o g2 o2 kb an sc tr ik fp hv x h_po h_h m_po m_h gx0 gx1) X hK hP hS hl.1 rfl gX12_wear_X12_needPerson yd_X12_needPerson ⟨Nat.le_of_ble_eq_true rfl, Nat.le_of_ble_eq_true rfl⟩ h_po m_po (ci := 11) rfl rfl (Nat.le_of_ble_eq_true rfl) ⟨Nat.zero_le _, Nat.zero_le _⟩ dX12_wear_2 ?_
  refine lv_iload_n hx hb dX12_wear_5 rfl (lv_at hl 2 rfl) ?_
  refine lv_if_lt (tgt := 16) hx hb dX12_wear_6 (by decide) (fun c_6 => ?_) (fun c_6 => ?_)
  · exact absurd c_6 gp0
  · skip
    refine lv_iload_n hx hb dX12_wear_9 rfl (lv_at hl 2 rfl) ?_
    refine lv_sipush (v := 200) hx hb dX12_wear_10 (by decide) ?_
    refine lv_icmp_le (tgt := 24) hx hb dX12_wear_13 (by decide) (fun c_13 => ?_) (fun c_13 => ?_)
    · skip
      refine lv_aload_n hx hb dX12_wear_24 rfl (lv_at hl 0 rfl) ?_
      refine q_get (v := .ref (ad an)) (fs := poF ad po ta h h2 re g o g2 o2 ik fp kb an sc tr) X hK hP fX12_wear_71 h_po m_po rfl dX12_wear_25 ?_
      refine lv_aload_n hx hb dX12_wear_28 rfl (lv_at hl 0 rfl) ?_
      refine q_get (v := .ref (ad g)) (fs := poF ad po ta h h2 re g o g2 o2 ik fp kb an sc tr) X hK hP fX12_wear_40 h_po m_po rfl dX12_wear_29 ?_
      refine lv_iload_n hx hb dX12_wear_32 rfl (lv_at hl 1 rfl) ?_
      refine lv_iload_n hx hb dX12_wear_33 rfl (lv_at hl 2 rfl) ?_
      refine q_rdV (As := [.ref (ad g), .int x, .int y]) (rest := []) (c_X3_coatsToWear l D cB cI cJ ad n M an g h nt nc tof fk ck op hv pf cf tf plf x y h_an h_g h_g_1 h_g_2 h_h h_h_5 h_h_6 h_h_3 h_h_4 h_h_1 h_h_2 m_an m_g m_g_1 m_g_2 m_h m_h_5 m_h_6 m_h_3 m_h_4 m_h_1 m_h_2 h7 hnt h6 hnc) X hK hP hS hl.1 rfl gX12_wear_X3_coatsToWear yd_X3_coatsToWear ⟨Nat.le_of_ble_eq_true rfl, Nat.le_of_ble_eq_true rfl⟩ h_an m_an (ci := 3) rfl rfl (Nat.le_of_ble_eq_true rfl) ⟨Nat.zero_le _, Nat.zero_le _⟩ dX12_wear_34 ?_
      refine lv_istore (lv' := [(4, .int (s_X3_coatsToWear nt nc pf cf tf plf x y)), (0, .ref (ad po)), (1, .int x), (2, .int y), (3, .int z)]) hx hb dX12_wear_37 hl (by decide) rfl (fun ls hl => ?_)
      refine lv_iload hx hb dX12_wear_39 (lv_at hl 0 rfl) ?_
      refine lv_iconst (v := (-1)) hx hb dX12_wear_41 (by decide) ?_
      refine lv_icmp_eq (tgt := 49) hx hb dX12_wear_42 (by decide) (fun c_42 => ?_) (fun c_42 => ?_)
      · skip
        refine lv_iload hx hb dX12_wear_49 (lv_at hl 0 rfl) ?_
        refine lv_goto (tgt := 65) hx hb dX12_wear_51 (by decide) ?_
        exact q_iret hb hx hr hlocks (by rw [s_X12_wear, if_pos c_42]) dX12_wear_65
      · skip
        refine lv_iload_n hx hb dX12_wear_45 rfl (lv_at hl 4 rfl) ?_
        refine lv_if_eq (tgt := 54) hx hb dX12_wear_46 (by decide) (fun c_46 => ?_) (fun c_46 => ?_)
        · skip
          refine lv_aload_n hx hb dX12_wear_54 rfl (lv_at hl 1 rfl) ?_
          refine q_get (v := .ref (ad h)) (fs := poF ad po ta h h2 re g o g2 o2 ik fp kb an sc tr) X hK hP fX12_wear_19 h_po m_po rfl dX12_wear_55 ?_
          refine lv_iload hx hb dX12_wear_58 (lv_at hl 0 rfl) ?_
          refine lv_bipush (v := 6) hx hb dX12_wear_60 (by decide) ?_
          refine q_rdV (As := [.int (s_X3_coatsToWear nt nc pf cf tf plf x y), .int 6]) (rest := []) (c_X0_sumOf l D cB cI cJ ad n M h nt hv tf (s_X3_coatsToWear nt nc pf cf tf plf x y) 6 h_h h_h_5 h_h_6 m_h m_h_5 m_h_6 h7 hnt) X hK hP hS hl.1 rfl gX12_wear_X0_sumOf yd_X0_sumOf ⟨Nat.le_of_ble_eq_true rfl, Nat.le_of_ble_eq_true rfl⟩ h_h m_h (ci := 0) rfl rfl (Nat.le_of_ble_eq_true rfl) ⟨Nat.zero_le _, Nat.zero_le _⟩ dX12_wear_62 ?_
          exact q_iret hb hx hr hlocks (by rw [s_X12_wear, if_neg c_42, if_pos c_46]) dX12_wear_65
        · skip
          refine lv_iload hx hb dX12_wear_49 (lv_at hl 0 rfl) ?_
          refine lv_goto (tgt := 65) hx hb dX12_wear_51 (by decide) ?_
          exact q_iret hb hx hr hlocks (by rw [s_X12_wear, if_neg c_42, if_neg c_46]) dX12_wear_65
    · exact absurd gp1 c_13
set_option maxRecDepth 20000 in
theorem fX12_carrier_71 : FL wsX12_carrier RX12 71 11 11 := ⟨RX12, TX12, 14, rfl, by decide +kernel, by decide, by decide +kernel⟩
set_option maxRecDepth 20000 in
theorem fX12_carrier_299 : FL wsX12_carrier RX12 299 3 6 := ⟨RX3, TX3, 9, rfl, by decide +kernel, by decide, by decide +kernel⟩
set_option maxRecDepth 20000 in
theorem fX12_carrier_302 : FL wsX12_carrier RX12 302 3 5 := ⟨RX3, TX3, 9, rfl, by decide +kernel, by decide, by decide +kernel⟩
def s_X12_carrier (caf : Nat → Int32) (x : Int32) : Int32 := (tat 5 caf x)
set_option maxHeartbeats 4000000 in
set_option maxRecDepth 100000 in
theorem c_X12_carrier (l : Launch) (D : va_G) (cB cI cJ : ClassId) (ad : Nat → Nat) (n : Nat) (M : Nat → va_E) (po ta h h2 re g o g2 o2 kb an sc tr : Nat) (ik fp : Int32) (tof fk ck : Int32) (hv caf : Nat → Int32) (x : Int32) (h_po : po < n) (h_an : an < n) (h_h : h < n) (h_an_7 : an + 7 < n) (h_an_8 : an + 8 < n) (m_po : M po = .inr (11, poF ad po ta h h2 re g o g2 o2 ik fp kb an sc tr)) (m_an : M an = .inr (3, plansF ad an tof fk ck)) (m_h : M h = .inr (0, hallF ad h hv)) (m_an_7 : M (an + 7) = .inr (8, [.int 1, .ref (ad (an + 8))])) (m_an_8 : M (an + 8) = .inl (cI, 5, .inl caf)) (gx0 : ¬ x < 0) (gx1 : x < (hv 6)) (gck : ¬ ck = 0) : cR l D cB cI cJ ad n M yX12_carrier wsX12_carrier 1 21 [.ref (ad po), .int x] (s_X12_carrier caf x) := by
  refine q_body (cc := cX12_carrier) (maxL := 2) (ret := (some .int)) (by decide) rfl (Nat.le_of_ble_eq_true rfl) ?_
  intro p e s m args below meth c ls X hr hlocks hK hP hl
  obtain ⟨hx, hb, hml, hown, hts⟩ := id X
  have hS : va_S (ipA ad n) s.heap s.heap [] := va_S.rf
  have hl : lv_has ls 2 [(0, .ref (ad po)), (1, .int x)] := hl
  refine lv_aload_n hx hb dX12_carrier_0 rfl (lv_at hl 0 rfl) ?_
  refine lv_iload_n hx hb dX12_carrier_1 rfl (lv_at hl 1 rfl) ?_
  refine q_rdVv (As := [.int x]) (rest := []) (c_X12_needCase l D cB cI cJ ad n M po ta h h2 re g o g2 o2 kb an sc tr ik fp hv x h_po h_h m_po m_h gx0 gx1) X hK hP hS hl.1 rfl gX12_carrier_X12_needCase yd_X12_needCase ⟨Nat.le_of_ble_eq_true rfl, Nat.le_of_ble_eq_true rfl⟩ h_po m_po (ci := 11) rfl rfl (Nat.le_of_ble_eq_true rfl) ⟨Nat.zero_le _, Nat.zero_le _⟩ dX12_carrier_2 ?_
  refine lv_aload_n hx hb dX12_carrier_5 rfl (lv_at hl 0 rfl) ?_
  refine q_get (v := .ref (ad an)) (fs := poF ad po ta h h2 re g o g2 o2 ik fp kb an sc tr) X hK hP fX12_carrier_71 h_po m_po rfl dX12_carrier_6 ?_
  refine q_get (v := .int ck) (fs := plansF ad an tof fk ck) X hK hP fX12_carrier_299 h_an m_an rfl dX12_carrier_9 ?_
  refine lv_if_ne (tgt := 23) hx hb dX12_carrier_12 (by decide) (fun c_12 => ?_) (fun c_12 => ?_)
  · skip
    refine lv_aload_n hx hb dX12_carrier_23 rfl (lv_at hl 0 rfl) ?_
    refine q_get (v := .ref (ad an)) (fs := poF ad po ta h h2 re g o g2 o2 ik fp kb an sc tr) X hK hP fX12_carrier_71 h_po m_po rfl dX12_carrier_24 ?_
    refine q_get (v := .ref (ad (an + 7))) (fs := plansF ad an tof fk ck) X hK hP fX12_carrier_302 h_an m_an rfl dX12_carrier_27 ?_
    refine lv_iload_n hx hb dX12_carrier_30 rfl (lv_at hl 1 rfl) ?_
    refine q_rdV (As := [.int x]) (rest := []) (c_X8_at l D cB cI cJ ad n M (an + 7) (an + 8) 5 1 caf x h_an_7 h_an_8 m_an_7 m_an_8 (by decide)) X hK hP hS hl.1 rfl gX12_carrier_X8_at yd_X8_at ⟨Nat.le_of_ble_eq_true rfl, Nat.le_of_ble_eq_true rfl⟩ h_an_7 m_an_7 (ci := 8) rfl rfl (Nat.le_of_ble_eq_true rfl) ⟨Nat.zero_le _, Nat.zero_le _⟩ dX12_carrier_31 ?_
    exact q_iret hb hx hr hlocks (by rfl) dX12_carrier_34
  · exact absurd c_12 gck
set_option maxRecDepth 20000 in
theorem fX12_fate_71 : FL wsX12_fate RX12 71 11 11 := ⟨RX12, TX12, 14, rfl, by decide +kernel, by decide, by decide +kernel⟩
theorem yd_X3_hasFateOf : YD yX3_hasFateOf 1 := ⟨by decide +kernel, by decide +kernel, by decide +kernel⟩
set_option maxRecDepth 20000 in
theorem fX12_fate_255 : FL wsX12_fate RX12 255 3 0 := ⟨RX3, TX3, 9, rfl, by decide +kernel, by decide, by decide +kernel⟩
def s_X12_fate (faf : Nat → Int32) (x : Int32) : Int32 := (tat 12 faf x)
set_option maxHeartbeats 4000000 in
set_option maxRecDepth 100000 in
theorem c_X12_fate (l : Launch) (D : va_G) (cB cI cJ : ClassId) (ad : Nat → Nat) (n : Nat) (M : Nat → va_E) (po ta h h2 re g o g2 o2 kb an sc tr : Nat) (ik fp : Int32) (tof fk ck : Int32) (hv faf : Nat → Int32) (x : Int32) (h_po : po < n) (h_an : an < n) (h_h : h < n) (h_an_1 : an + 1 < n) (h_an_2 : an + 2 < n) (m_po : M po = .inr (11, poF ad po ta h h2 re g o g2 o2 ik fp kb an sc tr)) (m_an : M an = .inr (3, plansF ad an tof fk ck)) (m_h : M h = .inr (0, hallF ad h hv)) (m_an_1 : M (an + 1) = .inr (8, [.int 1, .ref (ad (an + 2))])) (m_an_2 : M (an + 2) = .inl (cI, 12, .inl faf)) (gx0 : ¬ x < 0) (gx1 : x < (hv 7)) (gf : ¬ s_X3_hasFateOf tof fk x = 0) : cR l D cB cI cJ ad n M yX12_fate wsX12_fate 1 21 [.ref (ad po), .int x] (s_X12_fate faf x) := by
  refine q_body (cc := cX12_fate) (maxL := 2) (ret := (some .int)) (by decide) rfl (Nat.le_of_ble_eq_true rfl) ?_
  intro p e s m args below meth c ls X hr hlocks hK hP hl
  obtain ⟨hx, hb, hml, hown, hts⟩ := id X
  have hS : va_S (ipA ad n) s.heap s.heap [] := va_S.rf
  have hl : lv_has ls 2 [(0, .ref (ad po)), (1, .int x)] := hl
  refine lv_aload_n hx hb dX12_fate_0 rfl (lv_at hl 0 rfl) ?_
  refine lv_iload_n hx hb dX12_fate_1 rfl (lv_at hl 1 rfl) ?_
  refine q_rdVv (As := [.int x]) (rest := []) (c_X12_needThing l D cB cI cJ ad n M po ta h h2 re g o g2 o2 kb an sc tr ik fp hv x h_po h_h m_po m_h gx0 gx1) X hK hP hS hl.1 rfl gX12_fate_X12_needThing yd_X12_needThing ⟨Nat.le_of_ble_eq_true rfl, Nat.le_of_ble_eq_true rfl⟩ h_po m_po (ci := 11) rfl rfl (Nat.le_of_ble_eq_true rfl) ⟨Nat.zero_le _, Nat.zero_le _⟩ dX12_fate_2 ?_
  refine lv_aload_n hx hb dX12_fate_5 rfl (lv_at hl 0 rfl) ?_
  refine q_get (v := .ref (ad an)) (fs := poF ad po ta h h2 re g o g2 o2 ik fp kb an sc tr) X hK hP fX12_fate_71 h_po m_po rfl dX12_fate_6 ?_
  refine lv_iload_n hx hb dX12_fate_9 rfl (lv_at hl 1 rfl) ?_
  refine q_rdV (As := [.int x]) (rest := []) (c_X3_hasFateOf l D cB cI cJ ad n M an tof fk ck x h_an m_an ) X hK hP hS hl.1 rfl gX12_fate_X3_hasFateOf yd_X3_hasFateOf ⟨Nat.le_of_ble_eq_true rfl, Nat.le_of_ble_eq_true rfl⟩ h_an m_an (ci := 3) rfl rfl (Nat.le_of_ble_eq_true rfl) ⟨Nat.zero_le _, Nat.zero_le _⟩ dX12_fate_10 ?_
  refine lv_if_ne (tgt := 24) hx hb dX12_fate_13 (by decide) (fun c_13 => ?_) (fun c_13 => ?_)
  · skip
    refine lv_aload_n hx hb dX12_fate_24 rfl (lv_at hl 0 rfl) ?_
    refine q_get (v := .ref (ad an)) (fs := poF ad po ta h h2 re g o g2 o2 ik fp kb an sc tr) X hK hP fX12_fate_71 h_po m_po rfl dX12_fate_25 ?_
    refine q_get (v := .ref (ad (an + 1))) (fs := plansF ad an tof fk ck) X hK hP fX12_fate_255 h_an m_an rfl dX12_fate_28 ?_
    refine lv_iload_n hx hb dX12_fate_31 rfl (lv_at hl 1 rfl) ?_
    refine q_rdV (As := [.int x]) (rest := []) (c_X8_at l D cB cI cJ ad n M (an + 1) (an + 2) 12 1 faf x h_an_1 h_an_2 m_an_1 m_an_2 (by decide)) X hK hP hS hl.1 rfl gX12_fate_X8_at yd_X8_at ⟨Nat.le_of_ble_eq_true rfl, Nat.le_of_ble_eq_true rfl⟩ h_an_1 m_an_1 (ci := 8) rfl rfl (Nat.le_of_ble_eq_true rfl) ⟨Nat.zero_le _, Nat.zero_le _⟩ dX12_fate_32 ?_
    exact q_iret hb hx hr hlocks (by rfl) dX12_fate_35
  · exact absurd c_13 gf
set_option maxRecDepth 20000 in
theorem fX12_see_47 : FL wsX12_see RX12 47 11 5 := ⟨RX12, TX12, 14, rfl, by decide +kernel, by decide, by decide +kernel⟩
set_option maxRecDepth 20000 in
theorem fX12_see_146 : FL wsX12_see RX12 146 1 3 := ⟨RX1, TX1, 5, rfl, by decide +kernel, by decide, by decide +kernel⟩
theorem yd_X1_keepSeen : YD yX1_keepSeen 2 := ⟨by decide +kernel, by decide +kernel, by decide +kernel⟩
def s_X12_see (sk : Int32) (y : Int32) : Int32 := if 6 ≤ sk then (-1) else if y < 0 then (-1) else if y ≤ 999 then (sk + 1) else (-1)
def s_X12_see_0_2 (sk : Int32) (y : Int32) : Int32 := if 6 ≤ sk then sk else if y < 0 then sk else if y ≤ 999 then (sk + 1) else sk
def s_X12_see_1_f (sk : Int32) (sf : Nat → Int32) (x : Int32) (y : Int32) : Nat → Int32 := if 6 ≤ sk then sf else if y < 0 then sf else if y ≤ 999 then (tset 12 (tset 12 sf (sk * 2 + 0) x) (sk * 2 + 1) y) else sf
def s_X12_see_2_f (sk : Int32) (tf2 : Nat → Int32) (y : Int32) : Nat → Int32 := if 6 ≤ sk then (tset 3 tf2 2 ((tat 3 tf2 2) + 1)) else if y < 0 then (tset 3 tf2 2 ((tat 3 tf2 2) + 1)) else if y ≤ 999 then tf2 else (tset 3 tf2 2 ((tat 3 tf2 2) + 1))
set_option maxHeartbeats 4000000 in
set_option maxRecDepth 100000 in
theorem c_X12_see (l : Launch) (D : va_G) (cB cI cJ : ClassId) (ad : Nat → Nat) (n : Nat) (M : Nat → va_E) (hI : ipI ad n) (po ta h h2 re g o g2 o2 kb an sc tr : Nat) (ik fp : Int32) (ak sk : Int32) (hv sf tf2 : Nat → Int32) (x y : Int32) (h_po : po < n) (h_o : o < n) (h_h : h < n) (h_o_3 : o + 3 < n) (h_o_4 : o + 4 < n) (h_o_5 : o + 5 < n) (h_o_6 : o + 6 < n) (m_po : M po = .inr (11, poF ad po ta h h2 re g o g2 o2 ik fp kb an sc tr)) (m_o : M o = .inr (1, logF ad o ak sk)) (m_h : M h = .inr (0, hallF ad h hv)) (m_o_3 : M (o + 3) = .inr (8, [.int 2, .ref (ad (o + 4))])) (m_o_4 : M (o + 4) = .inl (cI, 12, .inl sf)) (m_o_5 : M (o + 5) = .inr (8, [.int 1, .ref (ad (o + 6))])) (m_o_6 : M (o + 6) = .inl (cI, 3, .inl tf2)) (hpo : po < o ∨ o + 6 < po) (gx0 : ¬ x < 0) (gx1 : x < (hv 6)) : cWi l D cB cI cJ ad n M yX12_see wsX12_see 2 46 [.ref (ad po), .int x, .int y] (fun r M' => r = s_X12_see sk y ∧ M' o = .inr (1, logF ad o ak (s_X12_see_0_2 sk y)) ∧ M' (o + 4) = .inl (cI, 12, .inl (s_X12_see_1_f sk sf x y)) ∧ M' (o + 6) = .inl (cI, 3, .inl (s_X12_see_2_f sk tf2 y)) ∧ ∀ q : Nat, q ≠ o → q ≠ o + 4 → q ≠ o + 6 → M' q = M q) := by
  refine q_body (cc := cX12_see) (maxL := 3) (ret := (some .int)) (by decide) rfl (Nat.le_of_ble_eq_true rfl) ?_
  intro p e s m args below meth c ls X hr hlocks hK hP hl
  obtain ⟨hx, hb, hml, hown, hts⟩ := id X
  have hS : va_S (ipA ad n) s.heap s.heap [] := va_S.rf
  have hl : lv_has ls 3 [(0, .ref (ad po)), (1, .int x), (2, .int y)] := hl
  refine lv_aload_n hx hb dX12_see_0 rfl (lv_at hl 0 rfl) ?_
  refine lv_iload_n hx hb dX12_see_1 rfl (lv_at hl 1 rfl) ?_
  refine q_rdVv (As := [.int x]) (rest := []) (c_X12_needCase l D cB cI cJ ad n M po ta h h2 re g o g2 o2 kb an sc tr ik fp hv x h_po h_h m_po m_h gx0 gx1) X hK hP hS hl.1 rfl gX12_see_X12_needCase yd_X12_needCase ⟨Nat.le_of_ble_eq_true rfl, Nat.le_of_ble_eq_true rfl⟩ h_po m_po (ci := 11) rfl rfl (Nat.le_of_ble_eq_true rfl) ⟨Nat.zero_le _, Nat.zero_le _⟩ dX12_see_2 ?_
  refine lv_aload_n hx hb dX12_see_5 rfl (lv_at hl 0 rfl) ?_
  refine q_get (v := .ref (ad o)) (fs := poF ad po ta h h2 re g o g2 o2 ik fp kb an sc tr) X hK hP fX12_see_47 h_po m_po rfl dX12_see_6 ?_
  refine q_get (v := .int sk) (fs := logF ad o ak sk) X hK hP fX12_see_146 h_o m_o rfl dX12_see_9 ?_
  refine lv_bipush (v := 6) hx hb dX12_see_12 (by decide) ?_
  refine lv_icmp_ge (tgt := 28) hx hb dX12_see_14 (by decide) (fun c_14 => ?_) (fun c_14 => ?_)
  · skip
    refine lv_aload_n hx hb dX12_see_28 rfl (lv_at hl 0 rfl) ?_
    refine q_get (v := .ref (ad o)) (fs := poF ad po ta h h2 re g o g2 o2 ik fp kb an sc tr) X hK hP fX12_see_47 h_po m_po rfl dX12_see_29 ?_
    refine lv_iconst (v := 2) hx hb dX12_see_32 (by decide) ?_
    refine q_wrVv (As := [.int 2]) (rest := []) (c_X1_refuse l D cB cI cJ ad n M hI o ak sk tf2 2 h_o h_o_5 h_o_6 m_o m_o_5 m_o_6 ) X hK hP hS hl.1 rfl gX12_see_X1_refuse yd_X1_refuse ⟨Nat.le_of_ble_eq_true rfl, Nat.le_of_ble_eq_true rfl⟩ h_o m_o (ci := 1) rfl rfl (Nat.le_of_ble_eq_true rfl) ⟨Nat.zero_le _, Nat.zero_le _⟩ dX12_see_33 (fun M2 H locs hp1 hP hS => ?_)
    obtain ⟨g4, fr5⟩ := hp1
    refine lv_iconst (v := (-1)) hx hb dX12_see_36 (by decide) ?_
    exact q_wzret X hr hlocks hP hS (rfl) ⟨(by rw [s_X12_see, if_pos c_14]), (by rw [s_X12_see_0_2, if_pos c_14]; exact ((fr5 o (by omega)).trans m_o)), (by rw [s_X12_see_1_f, if_pos c_14]; exact ((fr5 (o + 4) (by omega)).trans m_o_4)), (by rw [s_X12_see_2_f, if_pos c_14]; exact g4), (fun q n0 n1 n2 => (fr5 q n2))⟩ dX12_see_37
  · skip
    refine lv_iload_n hx hb dX12_see_17 rfl (lv_at hl 2 rfl) ?_
    refine lv_if_lt (tgt := 28) hx hb dX12_see_18 (by decide) (fun c_18 => ?_) (fun c_18 => ?_)
    · skip
      refine lv_aload_n hx hb dX12_see_28 rfl (lv_at hl 0 rfl) ?_
      refine q_get (v := .ref (ad o)) (fs := poF ad po ta h h2 re g o g2 o2 ik fp kb an sc tr) X hK hP fX12_see_47 h_po m_po rfl dX12_see_29 ?_
      refine lv_iconst (v := 2) hx hb dX12_see_32 (by decide) ?_
      refine q_wrVv (As := [.int 2]) (rest := []) (c_X1_refuse l D cB cI cJ ad n M hI o ak sk tf2 2 h_o h_o_5 h_o_6 m_o m_o_5 m_o_6 ) X hK hP hS hl.1 rfl gX12_see_X1_refuse yd_X1_refuse ⟨Nat.le_of_ble_eq_true rfl, Nat.le_of_ble_eq_true rfl⟩ h_o m_o (ci := 1) rfl rfl (Nat.le_of_ble_eq_true rfl) ⟨Nat.zero_le _, Nat.zero_le _⟩ dX12_see_33 (fun M7 H locs hp6 hP hS => ?_)
      obtain ⟨g9, fr10⟩ := hp6
      refine lv_iconst (v := (-1)) hx hb dX12_see_36 (by decide) ?_
      exact q_wzret X hr hlocks hP hS (rfl) ⟨(by rw [s_X12_see, if_neg c_14, if_pos c_18]), (by rw [s_X12_see_0_2, if_neg c_14, if_pos c_18]; exact ((fr10 o (by omega)).trans m_o)), (by rw [s_X12_see_1_f, if_neg c_14, if_pos c_18]; exact ((fr10 (o + 4) (by omega)).trans m_o_4)), (by rw [s_X12_see_2_f, if_neg c_14, if_pos c_18]; exact g9), (fun q n0 n1 n2 => (fr10 q n2))⟩ dX12_see_37
    · skip
      refine lv_iload_n hx hb dX12_see_21 rfl (lv_at hl 2 rfl) ?_
      refine lv_sipush (v := 999) hx hb dX12_see_22 (by decide) ?_
      refine lv_icmp_le (tgt := 38) hx hb dX12_see_25 (by decide) (fun c_25 => ?_) (fun c_25 => ?_)
      · skip
        refine lv_aload_n hx hb dX12_see_38 rfl (lv_at hl 0 rfl) ?_
        refine q_get (v := .ref (ad o)) (fs := poF ad po ta h h2 re g o g2 o2 ik fp kb an sc tr) X hK hP fX12_see_47 h_po m_po rfl dX12_see_39 ?_
        refine lv_iload_n hx hb dX12_see_42 rfl (lv_at hl 1 rfl) ?_
        refine lv_iload_n hx hb dX12_see_43 rfl (lv_at hl 2 rfl) ?_
        refine q_wrVv (As := [.int x, .int y]) (rest := []) (c_X1_keepSeen l D cB cI cJ ad n M hI o ak sk sf x y h_o h_o_3 h_o_4 m_o m_o_3 m_o_4 ) X hK hP hS hl.1 rfl gX12_see_X1_keepSeen yd_X1_keepSeen ⟨Nat.le_of_ble_eq_true rfl, Nat.le_of_ble_eq_true rfl⟩ h_o m_o (ci := 1) rfl rfl (Nat.le_of_ble_eq_true rfl) ⟨Nat.zero_le _, Nat.zero_le _⟩ dX12_see_44 (fun M12 H locs hp11 hP hS => ?_)
        obtain ⟨g14, g15, fr16⟩ := hp11
        refine lv_aload_n hx hb dX12_see_47 rfl (lv_at hl 0 rfl) ?_
        refine q_get (v := .ref (ad o)) (fs := poF ad po ta h h2 re g o g2 o2 ik fp kb an sc tr) X hK hP fX12_see_47 h_po ((fr16 po (by omega) (by omega)).trans m_po) rfl dX12_see_48 ?_
        refine q_get (v := .int (sk + 1)) (fs := logF ad o ak (sk + 1)) X hK hP fX12_see_146 h_o g15 rfl dX12_see_51 ?_
        exact q_wzret X hr hlocks hP hS (rfl) ⟨(by rw [s_X12_see, if_neg c_14, if_neg c_18, if_pos c_25]), (by rw [s_X12_see_0_2, if_neg c_14, if_neg c_18, if_pos c_25]; exact g15), (by rw [s_X12_see_1_f, if_neg c_14, if_neg c_18, if_pos c_25]; exact g14), (by rw [s_X12_see_2_f, if_neg c_14, if_neg c_18, if_pos c_25]; exact ((fr16 (o + 6) (by omega) (by omega)).trans m_o_6)), (fun q n0 n1 n2 => (fr16 q n1 n0))⟩ dX12_see_54
      · skip
        refine lv_aload_n hx hb dX12_see_28 rfl (lv_at hl 0 rfl) ?_
        refine q_get (v := .ref (ad o)) (fs := poF ad po ta h h2 re g o g2 o2 ik fp kb an sc tr) X hK hP fX12_see_47 h_po m_po rfl dX12_see_29 ?_
        refine lv_iconst (v := 2) hx hb dX12_see_32 (by decide) ?_
        refine q_wrVv (As := [.int 2]) (rest := []) (c_X1_refuse l D cB cI cJ ad n M hI o ak sk tf2 2 h_o h_o_5 h_o_6 m_o m_o_5 m_o_6 ) X hK hP hS hl.1 rfl gX12_see_X1_refuse yd_X1_refuse ⟨Nat.le_of_ble_eq_true rfl, Nat.le_of_ble_eq_true rfl⟩ h_o m_o (ci := 1) rfl rfl (Nat.le_of_ble_eq_true rfl) ⟨Nat.zero_le _, Nat.zero_le _⟩ dX12_see_33 (fun M18 H locs hp17 hP hS => ?_)
        obtain ⟨g20, fr21⟩ := hp17
        refine lv_iconst (v := (-1)) hx hb dX12_see_36 (by decide) ?_
        exact q_wzret X hr hlocks hP hS (rfl) ⟨(by rw [s_X12_see, if_neg c_14, if_neg c_18, if_neg c_25]), (by rw [s_X12_see_0_2, if_neg c_14, if_neg c_18, if_neg c_25]; exact ((fr21 o (by omega)).trans m_o)), (by rw [s_X12_see_1_f, if_neg c_14, if_neg c_18, if_neg c_25]; exact ((fr21 (o + 4) (by omega)).trans m_o_4)), (by rw [s_X12_see_2_f, if_neg c_14, if_neg c_18, if_neg c_25]; exact g20), (fun q n0 n1 n2 => (fr21 q n2))⟩ dX12_see_37
theorem yd_X12_needWhat : YD yX12_needWhat 2 := ⟨by decide +kernel, by decide +kernel, by decide +kernel⟩
set_option maxRecDepth 20000 in
theorem fX12_look_40 : FL wsX12_look RX12 40 11 4 := ⟨RX12, TX12, 14, rfl, by decide +kernel, by decide, by decide +kernel⟩
set_option maxRecDepth 20000 in
theorem fX12_look_19 : FL wsX12_look RX12 19 11 1 := ⟨RX12, TX12, 14, rfl, by decide +kernel, by decide, by decide +kernel⟩
set_option maxRecDepth 20000 in
theorem fX12_look_134 : FL wsX12_look RX12 134 0 10 := ⟨RX0, TX0, 12, rfl, by decide +kernel, by decide, by decide +kernel⟩
set_option maxRecDepth 20000 in
theorem fX12_look_137 : FL wsX12_look RX12 137 0 11 := ⟨RX0, TX0, 12, rfl, by decide +kernel, by decide, by decide +kernel⟩
def s_X12_look (nl : Nat) (nt : Nat) (td : Int32) (hv : Nat → Int32) (cf : Nat → Int32) (tf : Nat → Int32) (rf : Nat → Int32) (plf : Nat → Int32) (x : Int32) (y : Int32) : Int32 := if (ovS nt cf tf plf x) ≤ 0 then if y = 0 then 0 else if (10 * (feeS nl rf td (smS tf (taS plf x nt) 1 nt) (tat 25 cf (x * 5 + 1)) (bcI (taS plf x nt)) (tat 25 cf (x * 5 + 4)))) ≤ 0 then 0 else 1 else if y = 0 then ((hv 10) * ((feeS nl rf td (smS tf (taS plf x nt) 1 nt) (tat 25 cf (x * 5 + 1)) (bcI (taS plf x nt)) (tat 25 cf (x * 5 + 4))) + (hv 11))) else if (10 * (feeS nl rf td (smS tf (taS plf x nt) 1 nt) (tat 25 cf (x * 5 + 1)) (bcI (taS plf x nt)) (tat 25 cf (x * 5 + 4)))) ≤ ((hv 10) * ((feeS nl rf td (smS tf (taS plf x nt) 1 nt) (tat 25 cf (x * 5 + 1)) (bcI (taS plf x nt)) (tat 25 cf (x * 5 + 4))) + (hv 11))) then 0 else 1
set_option maxHeartbeats 4000000 in
set_option maxRecDepth 100000 in
theorem c_X12_look (l : Launch) (D : va_G) (cB cI cJ : ClassId) (ad : Nat → Nat) (n : Nat) (M : Nat → va_E) (hI : ipI ad n) (po ta h h2 re g o g2 o2 kb an sc tr : Nat) (ik fp : Int32) (nl nt : Nat) (op td hg : Int32) (hv cf tf rf vf sf plf : Nat → Int32) (x y : Int32) (h_po : po < n) (h_g : g < n) (h_h : h < n) (h_h_3 : h + 3 < n) (h_h_4 : h + 4 < n) (h_h_5 : h + 5 < n) (h_h_6 : h + 6 < n) (h_h_9 : h + 9 < n) (h_h_10 : h + 10 < n) (h_h_11 : h + 11 < n) (h_h_12 : h + 12 < n) (h_h_13 : h + 13 < n) (h_h_14 : h + 14 < n) (h_h_15 : h + 15 < n) (h_g_1 : g + 1 < n) (h_g_2 : g + 2 < n) (m_po : M po = .inr (11, poF ad po ta h h2 re g o g2 o2 ik fp kb an sc tr)) (m_g : M g = .inr (7, standF ad g h op)) (m_h : M h = .inr (0, hallF ad h hv)) (m_h_3 : M (h + 3) = .inr (8, [.int 5, .ref (ad (h + 4))])) (m_h_4 : M (h + 4) = .inl (cI, 25, .inl cf)) (m_h_5 : M (h + 5) = .inr (8, [.int 7, .ref (ad (h + 6))])) (m_h_6 : M (h + 6) = .inl (cI, 84, .inl tf)) (m_h_9 : M (h + 9) = .inr (5, ruleF ad (h + 9) (nI nl) td hg)) (m_h_10 : M (h + 10) = .inr (8, [.int 1, .ref (ad (h + 9 + 2))])) (m_h_11 : M (h + 11) = .inl (cI, 700, .inl rf)) (m_h_12 : M (h + 12) = .inr (8, [.int 1, .ref (ad (h + 9 + 4))])) (m_h_13 : M (h + 13) = .inl (cI, 5, .inl vf)) (m_h_14 : M (h + 14) = .inr (8, [.int 1, .ref (ad (h + 9 + 6))])) (m_h_15 : M (h + 15) = .inl (cI, 31, .inl sf)) (m_g_1 : M (g + 1) = .inr (8, [.int 1, .ref (ad (g + 2))])) (m_g_2 : M (g + 2) = .inl (cI, 12, .inl plf)) (h7 : hv 7 = nI nt) (hnt : nt ≤ 12) (hnl : nl ≤ 700) (hOK : ruleOK nl rf td) (hgh : g + 2 < h ∨ h + 15 < g) (hph : po < h ∨ h + 15 < po) (gx0 : ¬ x < 0) (gx1 : x < (hv 6)) (gw0 : ¬ y < 0) (gw1 : y < 2) : cWi l D cB cI cJ ad n M yX12_look wsX12_look 5 112 [.ref (ad po), .int x, .int y] (fun r M' => ∃ (v0__ : Nat → Int32) (v1__ : Nat → Int32) (v2__ : Int32), r = s_X12_look nl nt td hv cf tf rf plf x y ∧ M' (h + 13) = .inl (cI, 5, .inl v0__) ∧ M' (h + 15) = .inl (cI, 31, .inl v1__) ∧ M' (h + 9) = .inr (5, ruleF ad (h + 9) (nI nl) td v2__) ∧ ∀ q : Nat, q ≠ h + 13 → q ≠ h + 15 → q ≠ h + 9 → M' q = M q) := by
  refine q_body (cc := cX12_look) (maxL := 5) (ret := (some .int)) (by decide) rfl (Nat.le_of_ble_eq_true rfl) ?_
  intro p e s m args below meth c ls X hr hlocks hK hP hl
  obtain ⟨hx, hb, hml, hown, hts⟩ := id X
  have hS : va_S (ipA ad n) s.heap s.heap [] := va_S.rf
  have hl : lv_has ls 5 [(0, .ref (ad po)), (1, .int x), (2, .int y)] := hl
  refine lv_aload_n hx hb dX12_look_0 rfl (lv_at hl 0 rfl) ?_
  refine lv_iload_n hx hb dX12_look_1 rfl (lv_at hl 1 rfl) ?_
  refine q_rdVv (As := [.int x]) (rest := []) (c_X12_needCase l D cB cI cJ ad n M po ta h h2 re g o g2 o2 kb an sc tr ik fp hv x h_po h_h m_po m_h gx0 gx1) X hK hP hS hl.1 rfl gX12_look_X12_needCase yd_X12_needCase ⟨Nat.le_of_ble_eq_true rfl, Nat.le_of_ble_eq_true rfl⟩ h_po m_po (ci := 11) rfl rfl (Nat.le_of_ble_eq_true rfl) ⟨Nat.zero_le _, Nat.zero_le _⟩ dX12_look_2 ?_
  refine lv_iload_n hx hb dX12_look_5 rfl (lv_at hl 2 rfl) ?_
  refine lv_iconst (v := 2) hx hb dX12_look_6 (by decide) ?_
  refine q_rdSv (As := [.int y, .int 2]) (rest := []) (c_X12_needWhat l D cB cI cJ ad n M y 2   gw0 gw1) X hK hP hS hl.1 rfl gX12_look_X12_needWhat yd_X12_needWhat ⟨Nat.le_of_ble_eq_true rfl, Nat.le_of_ble_eq_true rfl⟩ rfl (Nat.le_of_ble_eq_true rfl) ⟨Nat.zero_le _, Nat.zero_le _⟩ dX12_look_7 ?_
  refine lv_aload_n hx hb dX12_look_10 rfl (lv_at hl 0 rfl) ?_
  refine q_get (v := .ref (ad g)) (fs := poF ad po ta h h2 re g o g2 o2 ik fp kb an sc tr) X hK hP fX12_look_40 h_po m_po rfl dX12_look_11 ?_
  refine lv_iload_n hx hb dX12_look_14 rfl (lv_at hl 1 rfl) ?_
  refine q_wrVi (As := [.int x]) (rest := []) (c_X7_feeOf l D cB cI cJ ad n M hI g h nl nt op td hg hv cf tf rf vf sf plf x h_g h_h h_h_3 h_h_4 h_h_5 h_h_6 h_h_9 h_h_10 h_h_11 h_h_12 h_h_13 h_h_14 h_h_15 h_g_1 h_g_2 m_g m_h m_h_3 m_h_4 m_h_5 m_h_6 m_h_9 m_h_10 m_h_11 m_h_12 m_h_13 m_h_14 m_h_15 m_g_1 m_g_2 h7 hnt hnl hOK) X hK hP hS hl.1 rfl gX12_look_X7_feeOf yd_X7_feeOf ⟨Nat.le_of_ble_eq_true rfl, Nat.le_of_ble_eq_true rfl⟩ h_g m_g (ci := 7) rfl rfl (Nat.le_of_ble_eq_true rfl) ⟨Nat.zero_le _, Nat.zero_le _⟩ dX12_look_15 (fun r3 M2 H locs hp1 hP hS => ?_)
  obtain ⟨vf2_4, sf2_5, hg2_6, rfl, g7, g8, g9, fr10⟩ := hp1
  refine lv_istore_n (lv' := [(3, .int (feeS nl rf td (smS tf (taS plf x nt) 1 nt) (tat 25 cf (x * 5 + 1)) (bcI (taS plf x nt)) (tat 25 cf (x * 5 + 4)))), (0, .ref (ad po)), (1, .int x), (2, .int y)]) hx hb dX12_look_18 rfl hl (by decide) rfl (fun ls hl => ?_)
  refine lv_aload_n hx hb dX12_look_19 rfl (lv_at hl 1 rfl) ?_
  refine q_get (v := .ref (ad g)) (fs := poF ad po ta h h2 re g o g2 o2 ik fp kb an sc tr) X hK hP fX12_look_40 h_po ((fr10 po (by omega) (by omega) (by omega)).trans m_po) rfl dX12_look_20 ?_
  refine lv_iload_n hx hb dX12_look_23 rfl (lv_at hl 2 rfl) ?_
  refine q_rdV (As := [.int x]) (rest := []) (c_X7_overIn l D cB cI cJ ad n M2 g h nt op hv cf tf plf x h_g h_g_1 h_g_2 h_h h_h_5 h_h_6 h_h_3 h_h_4 ((fr10 g (by omega) (by omega) (by omega)).trans m_g) ((fr10 (g + 1) (by omega) (by omega) (by omega)).trans m_g_1) ((fr10 (g + 2) (by omega) (by omega) (by omega)).trans m_g_2) ((fr10 h (by omega) (by omega) (by omega)).trans m_h) ((fr10 (h + 5) (by omega) (by omega) (by omega)).trans m_h_5) ((fr10 (h + 6) (by omega) (by omega) (by omega)).trans m_h_6) ((fr10 (h + 3) (by omega) (by omega) (by omega)).trans m_h_3) ((fr10 (h + 4) (by omega) (by omega) (by omega)).trans m_h_4) h7 hnt) X hK hP hS hl.1 rfl gX12_look_X7_overIn yd_X7_overIn ⟨Nat.le_of_ble_eq_true rfl, Nat.le_of_ble_eq_true rfl⟩ h_g ((fr10 g (by omega) (by omega) (by omega)).trans m_g) (ci := 7) rfl rfl (Nat.le_of_ble_eq_true rfl) ⟨Nat.zero_le _, Nat.zero_le _⟩ dX12_look_24 ?_
  refine lv_if_le (tgt := 50) hx hb dX12_look_27 (by decide) (fun c_27 => ?_) (fun c_27 => ?_)
  · skip
    refine lv_iconst (v := 0) hx hb dX12_look_50 (by decide) ?_
    refine lv_istore (lv' := [(4, .int 0), (3, .int (feeS nl rf td (smS tf (taS plf x nt) 1 nt) (tat 25 cf (x * 5 + 1)) (bcI (taS plf x nt)) (tat 25 cf (x * 5 + 4)))), (0, .ref (ad po)), (1, .int x), (2, .int y)]) hx hb dX12_look_51 hl (by decide) rfl (fun ls hl => ?_)
    refine lv_iload_n hx hb dX12_look_53 rfl (lv_at hl 4 rfl) ?_
    refine lv_if_ne (tgt := 60) hx hb dX12_look_54 (by decide) (fun c_54 => ?_) (fun c_54 => ?_)
    · skip
      refine lv_iload hx hb dX12_look_60 (lv_at hl 0 rfl) ?_
      refine lv_bipush (v := 10) hx hb dX12_look_62 (by decide) ?_
      refine lv_iload_n hx hb dX12_look_64 rfl (lv_at hl 1 rfl) ?_
      refine lv_imul hx hb dX12_look_65 ?_
      refine lv_icmp_ge (tgt := 73) hx hb dX12_look_66 (by decide) (fun c_66 => ?_) (fun c_66 => ?_)
      · skip
        refine lv_iconst (v := 0) hx hb dX12_look_73 (by decide) ?_
        exact q_wzret X hr hlocks hP hS (rfl) ⟨_, _, _, (by rw [s_X12_look, if_pos c_27, if_neg c_54, if_pos c_66]), g7, g8, g9, (fun q n0 n1 n2 => (fr10 q n0 n1 n2))⟩ dX12_look_74
      · skip
        refine lv_iconst (v := 1) hx hb dX12_look_69 (by decide) ?_
        refine lv_goto (tgt := 74) hx hb dX12_look_70 (by decide) ?_
        exact q_wzret X hr hlocks hP hS (rfl) ⟨_, _, _, (by rw [s_X12_look, if_pos c_27, if_neg c_54, if_neg c_66]), g7, g8, g9, (fun q n0 n1 n2 => (fr10 q n0 n1 n2))⟩ dX12_look_74
    · skip
      refine lv_iload hx hb dX12_look_57 (lv_at hl 0 rfl) ?_
      exact q_wzret X hr hlocks hP hS (rfl) ⟨_, _, _, (by rw [s_X12_look, if_pos c_27, if_pos c_54]), g7, g8, g9, (fun q n0 n1 n2 => (fr10 q n0 n1 n2))⟩ dX12_look_59
  · skip
    refine lv_aload_n hx hb dX12_look_30 rfl (lv_at hl 1 rfl) ?_
    refine q_get (v := .ref (ad h)) (fs := poF ad po ta h h2 re g o g2 o2 ik fp kb an sc tr) X hK hP fX12_look_19 h_po ((fr10 po (by omega) (by omega) (by omega)).trans m_po) rfl dX12_look_31 ?_
    refine q_get (v := .int (hv 10)) (fs := hallF ad h hv) X hK hP fX12_look_134 h_h ((fr10 h (by omega) (by omega) (by omega)).trans m_h) rfl dX12_look_34 ?_
    refine lv_iload_n hx hb dX12_look_37 rfl (lv_at hl 0 rfl) ?_
    refine lv_aload_n hx hb dX12_look_38 rfl (lv_at hl 1 rfl) ?_
    refine q_get (v := .ref (ad h)) (fs := poF ad po ta h h2 re g o g2 o2 ik fp kb an sc tr) X hK hP fX12_look_19 h_po ((fr10 po (by omega) (by omega) (by omega)).trans m_po) rfl dX12_look_39 ?_
    refine q_get (v := .int (hv 11)) (fs := hallF ad h hv) X hK hP fX12_look_137 h_h ((fr10 h (by omega) (by omega) (by omega)).trans m_h) rfl dX12_look_42 ?_
    refine lv_iadd hx hb dX12_look_45 ?_
    refine lv_imul hx hb dX12_look_46 ?_
    refine lv_goto (tgt := 51) hx hb dX12_look_47 (by decide) ?_
    refine lv_istore (lv' := [(4, .int ((hv 10) * ((feeS nl rf td (smS tf (taS plf x nt) 1 nt) (tat 25 cf (x * 5 + 1)) (bcI (taS plf x nt)) (tat 25 cf (x * 5 + 4))) + (hv 11)))), (3, .int (feeS nl rf td (smS tf (taS plf x nt) 1 nt) (tat 25 cf (x * 5 + 1)) (bcI (taS plf x nt)) (tat 25 cf (x * 5 + 4)))), (0, .ref (ad po)), (1, .int x), (2, .int y)]) hx hb dX12_look_51 hl (by decide) rfl (fun ls hl => ?_)
    refine lv_iload_n hx hb dX12_look_53 rfl (lv_at hl 4 rfl) ?_
    refine lv_if_ne (tgt := 60) hx hb dX12_look_54 (by decide) (fun c_54 => ?_) (fun c_54 => ?_)
    · skip
      refine lv_iload hx hb dX12_look_60 (lv_at hl 0 rfl) ?_
      refine lv_bipush (v := 10) hx hb dX12_look_62 (by decide) ?_
      refine lv_iload_n hx hb dX12_look_64 rfl (lv_at hl 1 rfl) ?_
      refine lv_imul hx hb dX12_look_65 ?_
      refine lv_icmp_ge (tgt := 73) hx hb dX12_look_66 (by decide) (fun c_66 => ?_) (fun c_66 => ?_)
      · skip
        refine lv_iconst (v := 0) hx hb dX12_look_73 (by decide) ?_
        exact q_wzret X hr hlocks hP hS (rfl) ⟨_, _, _, (by rw [s_X12_look, if_neg c_27, if_neg c_54, if_pos c_66]), g7, g8, g9, (fun q n0 n1 n2 => (fr10 q n0 n1 n2))⟩ dX12_look_74
      · skip
        refine lv_iconst (v := 1) hx hb dX12_look_69 (by decide) ?_
        refine lv_goto (tgt := 74) hx hb dX12_look_70 (by decide) ?_
        exact q_wzret X hr hlocks hP hS (rfl) ⟨_, _, _, (by rw [s_X12_look, if_neg c_27, if_neg c_54, if_neg c_66]), g7, g8, g9, (fun q n0 n1 n2 => (fr10 q n0 n1 n2))⟩ dX12_look_74
    · skip
      refine lv_iload hx hb dX12_look_57 (lv_at hl 0 rfl) ?_
      exact q_wzret X hr hlocks hP hS (rfl) ⟨_, _, _, (by rw [s_X12_look, if_neg c_27, if_pos c_54]), g7, g8, g9, (fun q n0 n1 n2 => (fr10 q n0 n1 n2))⟩ dX12_look_59
