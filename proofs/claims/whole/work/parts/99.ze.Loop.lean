/-! the law's loop -/
noncomputable section
theorem all32 {P : Nat → Prop} {j : Nat} (hj : j < 32) (h0 : P 0) (h1 : P 1) (h2 : P 2) (h3 : P 3) (h4 : P 4) (h5 : P 5) (h6 : P 6) (h7 : P 7) (h8 : P 8) (h9 : P 9) (h10 : P 10) (h11 : P 11) (h12 : P 12) (h13 : P 13) (h14 : P 14) (h15 : P 15) (h16 : P 16) (h17 : P 17) (h18 : P 18) (h19 : P 19) (h20 : P 20) (h21 : P 21) (h22 : P 22) (h23 : P 23) (h24 : P 24) (h25 : P 25) (h26 : P 26) (h27 : P 27) (h28 : P 28) (h29 : P 29) (h30 : P 30) (h31 : P 31) : P j := by
  match j, hj with
  | 0, _ => exact h0
  | 1, _ => exact h1
  | 2, _ => exact h2
  | 3, _ => exact h3
  | 4, _ => exact h4
  | 5, _ => exact h5
  | 6, _ => exact h6
  | 7, _ => exact h7
  | 8, _ => exact h8
  | 9, _ => exact h9
  | 10, _ => exact h10
  | 11, _ => exact h11
  | 12, _ => exact h12
  | 13, _ => exact h13
  | 14, _ => exact h14
  | 15, _ => exact h15
  | 16, _ => exact h16
  | 17, _ => exact h17
  | 18, _ => exact h18
  | 19, _ => exact h19
  | 20, _ => exact h20
  | 21, _ => exact h21
  | 22, _ => exact h22
  | 23, _ => exact h23
  | 24, _ => exact h24
  | 25, _ => exact h25
  | 26, _ => exact h26
  | 27, _ => exact h27
  | 28, _ => exact h28
  | 29, _ => exact h29
  | 30, _ => exact h30
  | 31, _ => exact h31
  | k + 32, h => exact absurd h (by omega)
theorem and31 (x : Int32) : ∃ k : Nat, k < 32 ∧ x &&& 31 = nI k := by
  have e : x = nI x.toBitVec.toNat := by
    apply Int32.toBitVec_inj.1
    show x.toBitVec = BitVec.ofNat 32 x.toBitVec.toNat
    simp
  refine ⟨x.toBitVec.toNat &&& 31, Nat.lt_of_le_of_lt Nat.and_le_right (by decide), ?_⟩
  rw [← nI_and, ← e]
  rfl
theorem sub6 {n : Nat} (h : n ≤ 3072) : (nI n - 6 : Int32).toInt = (n : Int) - 6 := by
  rcases Nat.lt_or_ge n 6 with q | q
  · have h6 : ∀ k : Nat, k < 6 → (nI k - 6 : Int32).toInt = (k : Int) - 6 := by decide +kernel
    exact h6 n q
  · have h1 : nI n - 6 = nI (n - 6) := by
      have h2 : nI n = nI (n - 6) + 6 := by
        rw [show (6 : Int32) = nI 6 from rfl, nI_add, Nat.sub_add_cancel q]
      rw [h2, Int32.add_sub_cancel]
    rw [h1, nI_toInt (by omega)]
    omega
set_option maxHeartbeats 4000000 in
set_option maxRecDepth 100000 in
theorem law_turn {p : Program} {l : Launch} {e : Env} {s : State} {m : MethodId} {below : List Frame} {meth : Method} {c : Code} {Q : State → Prop} {D : va_G} {cB cI cJ : ClassId} {ad : Nat → Nat} {b Ln : Nat} {xs : Nat → Int32} (hlt : l.stackTraces = false) (Y : LX p s m c D cB cI cJ ad b Ln xs) (hLn : Ln ≤ 3072) (hz : ∀ i : Nat, i < 128 → s.heap.size ≤ ad i)
    (fin : ∀ (H : Heap) (ls : Array Slot), W p l e room_1 s m #[Value.ref b] below meth c H [] 601024 7293034 Q (F0 m 1698 ls [.int 1])) {A V : Nat → Nat → Int32} {R : Nat → Nat} {L : Nat → Nat → Int64} {H : Heap} {locs : List Loc} {ls : Array Slot} {cells slots t : Nat} (I : INV A V R) (hP : va_P D vwCl (ip ad 128 (pl ad cB cI cJ A V R L)) H) (hS : va_S (ipA ad 128) s.heap H locs) (hl : lv_has ls 8 [(0, .ref b), (1, .ref (ad 0)), (2, .ref (ad 82)), (3, .ref (ad 127)), (4, .int (nI (6 * t)))]) (hcs : cells + 1 ≤ 601024 ∧ slots + 6 ≤ 7293034) (ht6 : 6 * t ≤ Ln + 6)
    (next : 6 * t + 6 ≤ Ln → ∀ (A V : Nat → Nat → Int32) (R : Nat → Nat) (L : Nat → Nat → Int64) (H : Heap) (locs : List Loc) (ls : Array Slot) (ce sl : Nat), INV A V R → va_P D vwCl (ip ad 128 (pl ad cB cI cJ A V R L)) H → va_S (ipA ad 128) s.heap H locs → lv_has ls 8 [(0, .ref b), (1, .ref (ad 0)), (2, .ref (ad 82)), (3, .ref (ad 127)), (4, .int (nI (6 * (t + 1))))] → ce ≤ cells + 1 → sl ≤ slots + 6 → W p l e room_1 s m #[Value.ref b] below meth c H locs ce sl Q (F0 m 23 ls [])) :
    W p l e room_1 s m #[Value.ref b] below meth c H locs cells slots Q (F0 m 23 ls []) := by
  obtain ⟨X, hK, hZ, hI, hX, hbl, hbA⟩ := id Y
  obtain ⟨hx, hb, hml, hown, hts⟩ := id X
  refine lv_iload hx hb dL_law_23 (lv_at hl 4 rfl) ?_
  refine lv_aload_n hx hb dL_law_25 rfl (lv_at hl 0 rfl) ?_
  refine va_slen hx hb hX hbl hbA hS dL_law_26 ?_
  refine lv_bipush (v := 6) hx hb dL_law_27 (by decide) ?_
  refine lv_isub hx hb dL_law_29 ?_
  refine lv_icmp_gt (tgt := 1697) hx hb dL_law_30 (by decide) (fun g => ?_) (fun g => ?_)
  · refine lv_iconst (v := 1) hx hb dL_law_1697 (by decide) ?_
    refine va_forget (fun q hq => ?_) ?_
    · obtain ⟨i, hi, e⟩ := hS.2.2 q hq
      rw [e]
      exact hz i hi
    · exact W.widen (Nat.le_trans (Nat.le_succ _) hcs.1) (Nat.le_trans (Nat.le_add_right _ 6) hcs.2) (fin H ls)
  · have g9 : ¬ (nI Ln - 6 < nI (6 * t)) := g
    have ht : 6 * t + 6 ≤ Ln := by
      rw [Int32.lt_iff_toInt_lt, sub6 hLn, nI_toInt (by omega)] at g9
      omega
    have hL9 : Ln < 2 ^ 31 := by omega
    have kk : ∀ (A V : Nat → Nat → Int32) (R : Nat → Nat) (L : Nat → Nat → Int64) (H : Heap) (locs : List Loc) (ls : Array Slot) (ce sl : Nat), INV A V R → va_P D vwCl (ip ad 128 (pl ad cB cI cJ A V R L)) H → va_S (ipA ad 128) s.heap H locs → lv_has ls 8 [(0, .ref b), (1, .ref (ad 0)), (2, .ref (ad 82)), (3, .ref (ad 127)), (4, .int (nI (6 * t)))] → ce ≤ cells + 1 → sl ≤ slots + 6 → W p l e room_1 s m #[Value.ref b] below meth c H locs ce sl Q (F0 m 1691 ls []) := by
      intro A V R L H locs ls ce sl I hP hS hl h1 h2
      refine lv_iinc (v := nI (6 * (t + 1))) (lv' := [(4, .int (nI (6 * (t + 1)))), (0, .ref b), (1, .ref (ad 0)), (2, .ref (ad 82)), (3, .ref (ad 127))]) hx hb dL_law_1691 hl (k := 4) rfl (by rw [show Int32.ofInt 6 = nI 6 from by decide +kernel, nI_add]; rfl) (by decide) rfl (fun ls hl => ?_)
      refine lv_goto (tgt := 23) hx hb dL_law_1694 (by decide) ?_
      exact next ht A V R L H locs ls ce sl I hP hS (lv_sub hl [1, 2, 3, 4, 0] rfl) h1 h2
    refine lv_aload_n hx hb dL_law_33 rfl (lv_at hl 0 rfl) ?_
    refine lv_iload hx hb dL_law_34 (lv_at hl 4 rfl) ?_
    refine va_sld hx hb hX hbl hbA hS (vp_in_nI (by omega) hL9) dL_law_36 ?_
    refine lv_bipush (v := 31) hx hb dL_law_37 (by decide) ?_
    refine lv_iand hx hb dL_law_39 ?_
    obtain ⟨j, hj, ej⟩ := and31 (xs (nI (6 * t)).toNatClampNeg)
    rw [ej]
    refine all32 (P := fun j => W p l e room_1 s m #[Value.ref b] below meth c H locs cells slots Q (F0 m 40 ls [.int (nI j)])) hj ?_ ?_ ?_ ?_ ?_ ?_ ?_ ?_ ?_ ?_ ?_ ?_ ?_ ?_ ?_ ?_ ?_ ?_ ?_ ?_ ?_ ?_ ?_ ?_ ?_ ?_ ?_ ?_ ?_ ?_ ?_ ?_
    · refine lv_tableIn (off := 140) (tgt := 180) hx hb dL_law_40 (by decide +kernel) (by decide +kernel) (by decide +kernel) (by decide) ?_
      exact op_feed hlt Y I hP hS hcs ht hL9 (lv := []) hl (fun A V R L H locs ls lv ce sl I hP hS hl h1 h2 => kk A V R L H locs ls ce sl I hP hS (lv_sub hl [0, 1, 2, 3, 4] rfl) h1 h2)
    · refine lv_tableIn (off := 213) (tgt := 253) hx hb dL_law_40 (by decide +kernel) (by decide +kernel) (by decide +kernel) (by decide) ?_
      exact op_hall hlt Y I hP hS hcs ht hL9 hl kk
    · refine lv_tableIn (off := 269) (tgt := 309) hx hb dL_law_40 (by decide +kernel) (by decide +kernel) (by decide +kernel) (by decide) ?_
      exact op_fault hlt Y I hP hS hcs ht hL9 (lv := []) hl (fun A V R L H locs ls lv ce sl I hP hS hl h1 h2 => kk A V R L H locs ls ce sl I hP hS (lv_sub hl [0, 1, 2, 3, 4] rfl) h1 h2)
    · refine lv_tableIn (off := 282) (tgt := 322) hx hb dL_law_40 (by decide +kernel) (by decide +kernel) (by decide +kernel) (by decide) ?_
      exact op_count hlt Y I hP hS hcs ht hL9 hl kk
    · refine lv_tableIn (off := 338) (tgt := 378) hx hb dL_law_40 (by decide +kernel) (by decide +kernel) (by decide +kernel) (by decide) ?_
      exact op_person hlt Y I hP hS hcs ht hL9 hl kk
    · refine lv_tableIn (off := 406) (tgt := 446) hx hb dL_law_40 (by decide +kernel) (by decide +kernel) (by decide +kernel) (by decide) ?_
      exact op_box hlt Y I hP hS hcs ht hL9 hl kk
    · refine lv_tableIn (off := 474) (tgt := 514) hx hb dL_law_40 (by decide +kernel) (by decide +kernel) (by decide +kernel) (by decide) ?_
      exact op_thing hlt Y I hP hS hcs ht hL9 hl kk
    · refine lv_tableIn (off := 542) (tgt := 582) hx hb dL_law_40 (by decide +kernel) (by decide +kernel) (by decide +kernel) (by decide) ?_
      exact op_may hlt Y I hP hS hcs ht hL9 hl kk
    · refine lv_tableIn (off := 617) (tgt := 657) hx hb dL_law_40 (by decide +kernel) (by decide +kernel) (by decide +kernel) (by decide) ?_
      exact op_shift hlt Y I hP hS hcs ht hL9 hl kk
    · refine lv_tableIn (off := 685) (tgt := 725) hx hb dL_law_40 (by decide +kernel) (by decide +kernel) (by decide +kernel) (by decide) ?_
      exact op_undo hlt Y I hP hS hcs ht hL9 (lv := []) hl (fun A V R L H locs ls lv ce sl I hP hS hl h1 h2 => kk A V R L H locs ls ce sl I hP hS (lv_sub hl [0, 1, 2, 3, 4] rfl) h1 h2)
    · refine lv_tableIn (off := 698) (tgt := 738) hx hb dL_law_40 (by decide +kernel) (by decide +kernel) (by decide +kernel) (by decide) ?_
      exact op_bill hlt Y I hP hS hcs ht hL9 (lv := []) hl (fun A V R L H locs ls lv ce sl I hP hS hl h1 h2 => kk A V R L H locs ls ce sl I hP hS (lv_sub hl [0, 1, 2, 3, 4] rfl) h1 h2)
    · refine lv_tableIn (off := 711) (tgt := 751) hx hb dL_law_40 (by decide +kernel) (by decide +kernel) (by decide +kernel) (by decide) ?_
      exact op_lawful hlt Y I hP hS hcs ht hL9 (lv := []) hl (fun A V R L H locs ls lv ce sl I hP hS hl h1 h2 => kk A V R L H locs ls ce sl I hP hS (lv_sub hl [0, 1, 2, 3, 4] rfl) h1 h2)
    · refine lv_tableIn (off := 724) (tgt := 764) hx hb dL_law_40 (by decide +kernel) (by decide +kernel) (by decide +kernel) (by decide) ?_
      exact op_two hlt Y I hP hS hcs ht hL9 hl kk
    · refine lv_tableIn (off := 792) (tgt := 832) hx hb dL_law_40 (by decide +kernel) (by decide +kernel) (by decide +kernel) (by decide) ?_
      exact op_opened hlt Y I hP hS hcs ht hL9 (lv := []) hl (fun A V R L H locs ls lv ce sl I hP hS hl h1 h2 => kk A V R L H locs ls ce sl I hP hS (lv_sub hl [0, 1, 2, 3, 4] rfl) h1 h2)
    · refine lv_tableIn (off := 805) (tgt := 845) hx hb dL_law_40 (by decide +kernel) (by decide +kernel) (by decide +kernel) (by decide) ?_
      exact op_cheap hlt Y I hP hS hcs ht hL9 hl kk
    · refine lv_tableIn (off := 861) (tgt := 901) hx hb dL_law_40 (by decide +kernel) (by decide +kernel) (by decide +kernel) (by decide) ?_
      exact op_fate hlt Y I hP hS hcs ht hL9 hl kk
    · refine lv_tableIn (off := 917) (tgt := 957) hx hb dL_law_40 (by decide +kernel) (by decide +kernel) (by decide +kernel) (by decide) ?_
      exact op_sure hlt Y I hP hS hcs ht hL9 hl kk
    · refine lv_tableIn (off := 984) (tgt := 1024) hx hb dL_law_40 (by decide +kernel) (by decide +kernel) (by decide +kernel) (by decide) ?_
      exact op_weigh hlt Y I hP hS hcs ht hL9 hl kk
    · refine lv_tableIn (off := 1052) (tgt := 1092) hx hb dL_law_40 (by decide +kernel) (by decide +kernel) (by decide +kernel) (by decide) ?_
      exact op_lost hlt Y I hP hS hcs ht hL9 hl kk
    · refine lv_tableIn (off := 1108) (tgt := 1148) hx hb dL_law_40 (by decide +kernel) (by decide +kernel) (by decide +kernel) (by decide) ?_
      exact op_safe hlt Y I hP hS hcs ht hL9 (lv := []) hl (fun A V R L H locs ls lv ce sl I hP hS hl h1 h2 => kk A V R L H locs ls ce sl I hP hS (lv_sub hl [0, 1, 2, 3, 4] rfl) h1 h2)
    · refine lv_tableIn (off := 1121) (tgt := 1161) hx hb dL_law_40 (by decide +kernel) (by decide +kernel) (by decide +kernel) (by decide) ?_
      by_cases c3 : xs (nI (6 * t) + 3).toNatClampNeg = 0
      · exact op_wear0 c3 hlt Y I hP hS hcs ht hL9 hl kk
      · exact op_wear1 c3 hlt Y I hP hS hcs ht hL9 hl kk
    · refine lv_tableIn (off := 1217) (tgt := 1257) hx hb dL_law_40 (by decide +kernel) (by decide +kernel) (by decide +kernel) (by decide) ?_
      exact op_share hlt Y I hP hS hcs ht hL9 (lv := []) hl (fun A V R L H locs ls lv ce sl I hP hS hl h1 h2 => kk A V R L H locs ls ce sl I hP hS (lv_sub hl [0, 1, 2, 3, 4] rfl) h1 h2)
    · refine lv_tableIn (off := 1230) (tgt := 1270) hx hb dL_law_40 (by decide +kernel) (by decide +kernel) (by decide +kernel) (by decide) ?_
      exact op_carrier hlt Y I hP hS hcs ht hL9 hl kk
    · refine lv_tableIn (off := 1286) (tgt := 1326) hx hb dL_law_40 (by decide +kernel) (by decide +kernel) (by decide +kernel) (by decide) ?_
      exact op_look hlt Y I hP hS hcs ht hL9 hl kk
    · refine lv_tableIn (off := 1354) (tgt := 1394) hx hb dL_law_40 (by decide +kernel) (by decide +kernel) (by decide +kernel) (by decide) ?_
      exact op_see hlt Y I hP hS hcs ht hL9 hl kk
    · refine lv_tableIn (off := 1422) (tgt := 1462) hx hb dL_law_40 (by decide +kernel) (by decide +kernel) (by decide +kernel) (by decide) ?_
      exact op_forget hlt Y I hP hS hcs ht hL9 (lv := []) hl (fun A V R L H locs ls lv ce sl I hP hS hl h1 h2 => kk A V R L H locs ls ce sl I hP hS (lv_sub hl [0, 1, 2, 3, 4] rfl) h1 h2)
    · refine lv_tableIn (off := 1435) (tgt := 1475) hx hb dL_law_40 (by decide +kernel) (by decide +kernel) (by decide +kernel) (by decide) ?_
      exact op_fits hlt Y I hP hS hcs ht hL9 hl kk
    · refine lv_tableIn (off := 1491) (tgt := 1531) hx hb dL_law_40 (by decide +kernel) (by decide +kernel) (by decide +kernel) (by decide) ?_
      exact op_best hlt Y I hP hS hcs ht hL9 hl kk
    · refine lv_tableIn (off := 1547) (tgt := 1587) hx hb dL_law_40 (by decide +kernel) (by decide +kernel) (by decide +kernel) (by decide) ?_
      exact op_counter hlt Y I hP hS hcs ht hL9 hl kk
    · refine lv_tableIn (off := 1627) (tgt := 1667) hx hb dL_law_40 (by decide +kernel) (by decide +kernel) (by decide +kernel) (by decide) ?_
      exact op_image hlt Y I hP hS hcs ht hL9 (lv := []) hl (fun A V R L H locs ls lv ce sl I hP hS hl h1 h2 => kk A V R L H locs ls ce sl I hP hS (lv_sub hl [0, 1, 2, 3, 4] rfl) h1 h2)
    · refine lv_tableIn (off := 1638) (tgt := 1678) hx hb dL_law_40 (by decide +kernel) (by decide +kernel) (by decide +kernel) (by decide) ?_
      exact op_restore hlt Y I hP hS hcs ht hL9 (lv := []) hl (fun A V R L H locs ls lv ce sl I hP hS hl h1 h2 => kk A V R L H locs ls ce sl I hP hS (lv_sub hl [0, 1, 2, 3, 4] rfl) h1 h2)
    · refine lv_tableOut (tgt := 1691) hx hb dL_law_40 (Or.inr (by decide +kernel)) (by decide) ?_
      exact kk A V R L H locs ls cells slots I hP hS hl (Nat.le_succ _) (Nat.le_add_right _ _)
theorem law_loop {p : Program} {l : Launch} {e : Env} {s : State} {m : MethodId} {below : List Frame} {meth : Method} {c : Code} {Q : State → Prop} {D : va_G} {cB cI cJ : ClassId} {ad : Nat → Nat} {b Ln : Nat} {xs : Nat → Int32} (hlt : l.stackTraces = false) (Y : LX p s m c D cB cI cJ ad b Ln xs) (hLn : Ln ≤ 3072) (hz : ∀ i : Nat, i < 128 → s.heap.size ≤ ad i)
    (fin : ∀ (H : Heap) (ls : Array Slot), W p l e room_1 s m #[Value.ref b] below meth c H [] 601024 7293034 Q (F0 m 1698 ls [.int 1])) : ∀ (k t : Nat), Ln < 6 * (t + k) + 6 → 6 * t ≤ Ln + 6 → ∀ (A V : Nat → Nat → Int32) (R : Nat → Nat) (L : Nat → Nat → Int64) (H : Heap) (locs : List Loc) (ls : Array Slot) (ce sl : Nat), INV A V R → va_P D vwCl (ip ad 128 (pl ad cB cI cJ A V R L)) H → va_S (ipA ad 128) s.heap H locs → lv_has ls 8 [(0, .ref b), (1, .ref (ad 0)), (2, .ref (ad 82)), (3, .ref (ad 127)), (4, .int (nI (6 * t)))] → ce ≤ 1000 + t → sl ≤ 100000 + 6 * t → W p l e room_1 s m #[Value.ref b] below meth c H locs ce sl Q (F0 m 23 ls [])
  | 0, t, hk, ht6, A, V, R, L, H, locs, ls, ce, sl, I, hP, hS, hl, h1, h2 => law_turn hlt Y hLn hz fin I hP hS hl ⟨by omega, by omega⟩ ht6 (fun q => absurd q (by omega))
  | k + 1, t, hk, ht6, A, V, R, L, H, locs, ls, ce, sl, I, hP, hS, hl, h1, h2 => law_turn hlt Y hLn hz fin I hP hS hl ⟨by omega, by omega⟩ ht6 (fun q A V R L H locs ls ce1 sl1 I hP hS hl g1 g2 => law_loop hlt Y hLn hz fin k (t + 1) (by omega) (by omega) A V R L H locs ls ce1 sl1 I hP hS hl (by omega) (by omega))
end
