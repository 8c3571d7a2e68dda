/-! PoundsOver$Packing: the cheapest set -/
def cntI (x : Int32) : Nat → Nat
  | 0 => 0
  | t + 1 => if ((x >>> ((nI t) &&& 31)) &&& 1) = 0 then cntI x t else cntI x t + 1
theorem listItems_c (itf : Nat → Int32) (x : Int32) : ∀ t : Nat, (s_X2_listItems_4 x 0 itf t).1 = nI (cntI x t)
  | 0 => rfl
  | t + 1 => by
    rw [s_X2_listItems_4, s_X2_listItems_4s, cntI]
    by_cases h : ((x >>> ((nI t) &&& 31)) &&& 1) = 0
    · rw [if_pos h, if_pos h]; exact listItems_c itf x t
    · rw [if_neg h, if_neg h, listItems_c itf x t]; exact nI_1 _
theorem listItems_n (itf : Nat → Int32) (x : Int32) : s_X2_listItems itf x = nI (cntI x 12) := listItems_c itf x 12
theorem cnt_all : ∀ a : Nat, a < 64 → ∀ b : Nat, b < 64 → bcI (nI (a * 64 + b)) ≤ 8 → cntI (nI (a * 64 + b)) 12 ≤ 8 := by decide +kernel
theorem cnt8 {x : Int32} {k : Nat} (hx : x = nI k) (hk : k < 4096) (h : bcI x ≤ 8) : cntI x 12 ≤ 8 := by
  subst hx
  have e : k = k / 64 * 64 + k % 64 := by omega
  rw [e] at h ⊢
  exact cnt_all (k / 64) (by omega) (k % 64) (by omega) h
theorem nI_or (a b : Nat) : nI a ||| nI b = nI (a ||| b) := by
  refine Int32.toBitVec_inj.mp ?_
  show BitVec.ofNat 32 a ||| BitVec.ofNat 32 b = BitVec.ofNat 32 (a ||| b)
  exact BitVec.ofNat_or.symm
theorem sh_12 : ∀ t : Nat, t < 12 → (1 : Int32) <<< (nI t &&& 31) = nI (2 ^ t) ∧ 2 ^ t < 4096 := by decide +kernel
theorem taS_n (plf : Nat → Int32) (p : Int32) : ∀ t : Nat, t ≤ 12 → ∃ k : Nat, k < 4096 ∧ taS plf p t = nI k
  | 0, _ => ⟨0, by decide, rfl⟩
  | t + 1, h => by
    obtain ⟨k, hk, e⟩ := taS_n plf p t (by omega)
    rw [taS]
    by_cases h1 : tat 12 plf (nI t) = p
    · rw [if_pos h1, e, (sh_12 t (by omega)).1, nI_or]
      exact ⟨_, Nat.or_lt_two_pow (n := 12) hk (sh_12 t (by omega)).2, rfl⟩
    · rw [if_neg h1]; exact ⟨k, hk, e⟩
theorem thingsIn_n (nt : Nat) (hnt : nt ≤ 12) (plf : Nat → Int32) (x : Int32) : ∀ t : Nat, ∃ k : Nat, k < 4096 ∧ s_X2_thingsIn_5 nt plf x 0 t = nI k
  | 0 => ⟨0, by decide, rfl⟩
  | t + 1 => by
    obtain ⟨k, hk, e⟩ := thingsIn_n nt hnt plf x t
    obtain ⟨j, hj, e2⟩ := taS_n plf (nI t) nt hnt
    rw [s_X2_thingsIn_5, s_X2_thingsIn_5s]
    by_cases h1 : ((x >>> ((nI t) &&& 31)) &&& 1) = 0
    · rw [if_pos h1]; exact ⟨k, hk, e⟩
    · rw [if_neg h1, e, e2, nI_or]; exact ⟨_, Nat.or_lt_two_pow (n := 12) hk hj, rfl⟩
theorem cnt_in {nt nc : Nat} (hnt : nt ≤ 12) (plf : Nat → Int32) (x : Int32) (h : bcI (s_X2_thingsIn nt nc plf x) ≤ 8) : cntI (s_X2_thingsIn nt nc plf x) 12 ≤ 8 := by
  obtain ⟨k, hk, e⟩ := thingsIn_n nt hnt plf x nc
  exact cnt8 e hk h
set_option maxRecDepth 20000 in
theorem nX2_cheapestSet_37 : ∀ w ∈ u_ws RX7 TX7 3, w ∈ wsX2_cheapestSet := by decide +kernel
set_option maxRecDepth 20000 in
theorem fX2_cheapestSet_47 : FL wsX2_cheapestSet RX2 47 0 6 := ⟨RX0, TX0, 12, rfl, by decide +kernel, by decide, by decide +kernel⟩
theorem yd_X2_costOf : YD yX2_costOf 2 := ⟨by decide +kernel, by decide +kernel, by decide +kernel⟩
theorem yd_X2_thingsIn : YD yX2_thingsIn 2 := ⟨by decide +kernel, by decide +kernel, by decide +kernel⟩
theorem yd_X2_othersGo : YD yX2_othersGo 2 := ⟨by decide +kernel, by decide +kernel, by decide +kernel⟩
theorem yd_X2_canPack : YD yX2_canPack 3 := ⟨by decide +kernel, by decide +kernel, by decide +kernel⟩
def s_X2_cheapestSet_7 (nt : Nat) (nc : Nat) (np : Nat) (op : Int32) (pf : Nat → Int32) (cf : Nat → Int32) (tf : Nat → Int32) (plf : Nat → Int32) : Nat → Nat → Int32 → Int32 → (Nat → Int32) → (Nat → Int32) → (Nat → Int32) → Int32
  | 0, _, x7_3, x7_2, y7_0, y7_1, y7_2 => x7_2
  | r + 1, t7, x7_3, x7_2, y7_0, y7_1, y7_2 => if x7_2 = (-1) then if (bcI (s_X2_thingsIn nt nc plf (nI t7))) ≤ 8 then if (s_X2_othersGo nt nc cf tf plf (nI t7)) = 0 then s_X2_cheapestSet_7 nt nc np op pf cf tf plf r (t7 + 1) x7_3 x7_2 y7_0 y7_1 y7_2 else if (s_X2_canPack nt nc np pf cf tf plf y7_1 y7_0 (nI t7) (s_X2_thingsIn nt nc plf (nI t7))) = 0 then s_X2_cheapestSet_7 nt nc np op pf cf tf plf r (t7 + 1) x7_3 x7_2 ((s_X2_canPack_102 nt nc pf cf tf plf y7_1 y7_0 (nI t7) (s_X2_thingsIn nt nc plf (nI t7)) ((s_X2_canPack_34 nt cf tf y7_1 (nI t7) (s_X2_thingsIn nt nc plf (nI t7)) 0 y7_0 (tset 256 (fun _ => 0) 0 1) nc).2.1) ((s_X2_canPack_34 nt cf tf y7_1 (nI t7) (s_X2_thingsIn nt nc plf (nI t7)) 0 y7_0 (tset 256 (fun _ => 0) 0 1) nc).2.2) np).1) ((s_X2_listItems_4 (s_X2_thingsIn nt nc plf (nI t7)) 0 y7_1 12).2) ((s_X2_canPack_102 nt nc pf cf tf plf y7_1 y7_0 (nI t7) (s_X2_thingsIn nt nc plf (nI t7)) ((s_X2_canPack_34 nt cf tf y7_1 (nI t7) (s_X2_thingsIn nt nc plf (nI t7)) 0 y7_0 (tset 256 (fun _ => 0) 0 1) nc).2.1) ((s_X2_canPack_34 nt cf tf y7_1 (nI t7) (s_X2_thingsIn nt nc plf (nI t7)) 0 y7_0 (tset 256 (fun _ => 0) 0 1) nc).2.2) np).2) else s_X2_cheapestSet_7 nt nc np op pf cf tf plf r (t7 + 1) (((s_X2_costOf nc op cf (nI t7)) * 6) + (bcI (nI t7))) (nI t7) ((s_X2_canPack_102 nt nc pf cf tf plf y7_1 y7_0 (nI t7) (s_X2_thingsIn nt nc plf (nI t7)) ((s_X2_canPack_34 nt cf tf y7_1 (nI t7) (s_X2_thingsIn nt nc plf (nI t7)) 0 y7_0 (tset 256 (fun _ => 0) 0 1) nc).2.1) ((s_X2_canPack_34 nt cf tf y7_1 (nI t7) (s_X2_thingsIn nt nc plf (nI t7)) 0 y7_0 (tset 256 (fun _ => 0) 0 1) nc).2.2) np).1) ((s_X2_listItems_4 (s_X2_thingsIn nt nc plf (nI t7)) 0 y7_1 12).2) ((s_X2_canPack_102 nt nc pf cf tf plf y7_1 y7_0 (nI t7) (s_X2_thingsIn nt nc plf (nI t7)) ((s_X2_canPack_34 nt cf tf y7_1 (nI t7) (s_X2_thingsIn nt nc plf (nI t7)) 0 y7_0 (tset 256 (fun _ => 0) 0 1) nc).2.1) ((s_X2_canPack_34 nt cf tf y7_1 (nI t7) (s_X2_thingsIn nt nc plf (nI t7)) 0 y7_0 (tset 256 (fun _ => 0) 0 1) nc).2.2) np).2) else (-2) else if (((s_X2_costOf nc op cf (nI t7)) * 6) + (bcI (nI t7))) < x7_3 then if (bcI (s_X2_thingsIn nt nc plf (nI t7))) ≤ 8 then if (s_X2_othersGo nt nc cf tf plf (nI t7)) = 0 then s_X2_cheapestSet_7 nt nc np op pf cf tf plf r (t7 + 1) x7_3 x7_2 y7_0 y7_1 y7_2 else if (s_X2_canPack nt nc np pf cf tf plf y7_1 y7_0 (nI t7) (s_X2_thingsIn nt nc plf (nI t7))) = 0 then s_X2_cheapestSet_7 nt nc np op pf cf tf plf r (t7 + 1) x7_3 x7_2 ((s_X2_canPack_102 nt nc pf cf tf plf y7_1 y7_0 (nI t7) (s_X2_thingsIn nt nc plf (nI t7)) ((s_X2_canPack_34 nt cf tf y7_1 (nI t7) (s_X2_thingsIn nt nc plf (nI t7)) 0 y7_0 (tset 256 (fun _ => 0) 0 1) nc).2.1) ((s_X2_canPack_34 nt cf tf y7_1 (nI t7) (s_X2_thingsIn nt nc plf (nI t7)) 0 y7_0 (tset 256 (fun _ => 0) 0 1) nc).2.2) np).1) ((s_X2_listItems_4 (s_X2_thingsIn nt nc plf (nI t7)) 0 y7_1 12).2) ((s_X2_canPack_102 nt nc pf cf tf plf y7_1 y7_0 (nI t7) (s_X2_thingsIn nt nc plf (nI t7)) ((s_X2_canPack_34 nt cf tf y7_1 (nI t7) (s_X2_thingsIn nt nc plf (nI t7)) 0 y7_0 (tset 256 (fun _ => 0) 0 1) nc).2.1) ((s_X2_canPack_34 nt cf tf y7_1 (nI t7) (s_X2_thingsIn nt nc plf (nI t7)) 0 y7_0 (tset 256 (fun _ => 0) 0 1) nc).2.2) np).2) else s_X2_cheapestSet_7 nt nc np op pf cf tf plf r (t7 + 1) (((s_X2_costOf nc op cf (nI t7)) * 6) + (bcI (nI t7))) (nI t7) ((s_X2_canPack_102 nt nc pf cf tf plf y7_1 y7_0 (nI t7) (s_X2_thingsIn nt nc plf (nI t7)) ((s_X2_canPack_34 nt cf tf y7_1 (nI t7) (s_X2_thingsIn nt nc plf (nI t7)) 0 y7_0 (tset 256 (fun _ => 0) 0 1) nc).2.1) ((s_X2_canPack_34 nt cf tf y7_1 (nI t7) (s_X2_thingsIn nt nc plf (nI t7)) 0 y7_0 (tset 256 (fun _ => 0) 0 1) nc).2.2) np).1) ((s_X2_listItems_4 (s_X2_thingsIn nt nc plf (nI t7)) 0 y7_1 12).2) ((s_X2_canPack_102 nt nc pf cf tf plf y7_1 y7_0 (nI t7) (s_X2_thingsIn nt nc plf (nI t7)) ((s_X2_canPack_34 nt cf tf y7_1 (nI t7) (s_X2_thingsIn nt nc plf (nI t7)) 0 y7_0 (tset 256 (fun _ => 0) 0 1) nc).2.1) ((s_X2_canPack_34 nt cf tf y7_1 (nI t7) (s_X2_thingsIn nt nc plf (nI t7)) 0 y7_0 (tset 256 (fun _ => 0) 0 1) nc).2.2) np).2) else (-2) else s_X2_cheapestSet_7 nt nc np op pf cf tf plf r (t7 + 1) x7_3 x7_2 y7_0 y7_1 y7_2
def s_X2_cheapestSet (nz : Nat) (nt : Nat) (nc : Nat) (np : Nat) (op : Int32) (pf : Nat → Int32) (cf : Nat → Int32) (tf : Nat → Int32) (plf : Nat → Int32) (itf : Nat → Int32) (ref : Nat → Int32) (tkf : Nat → Int32) : Int32 := (s_X2_cheapestSet_7 nt nc np op pf cf tf plf nz 0 0 (-1) tkf itf ref)
set_option maxHeartbeats 4000000 in
set_option maxRecDepth 100000 in
theorem c_X2_cheapestSet (l : Launch) (D : va_G) (cB cI cJ : ClassId) (ad : Nat → Nat) (n : Nat) (M : Nat → va_E) (hI : ipI ad n) (kb g h nz nt nc np : Nat) (op : Int32) (hv pf cf tf plf itf ref tkf : Nat → Int32) (h_kb : kb < n) (h_kb_1 : kb + 1 < n) (h_kb_2 : kb + 2 < n) (h_kb_3 : kb + 3 < n) (h_kb_4 : kb + 4 < n) (h_kb_5 : kb + 5 < n) (h_kb_6 : kb + 6 < n) (h_g : g < n) (h_g_1 : g + 1 < n) (h_g_2 : g + 2 < n) (h_h : h < n) (h_h_5 : h + 5 < n) (h_h_6 : h + 6 < n) (h_h_1 : h + 1 < n) (h_h_2 : h + 2 < n) (h_h_3 : h + 3 < n) (h_h_4 : h + 4 < n) (m_kb : M kb = .inr (2, packF ad kb)) (m_kb_1 : M (kb + 1) = .inr (8, [.int 1, .ref (ad (kb + 2))])) (m_kb_2 : M (kb + 2) = .inl (cI, 8, .inl itf)) (m_kb_3 : M (kb + 3) = .inr (8, [.int 1, .ref (ad (kb + 4))])) (m_kb_4 : M (kb + 4) = .inl (cI, 256, .inl ref)) (m_kb_5 : M (kb + 5) = .inr (8, [.int 1, .ref (ad (kb + 6))])) (m_kb_6 : M (kb + 6) = .inl (cI, 256, .inl tkf)) (m_g : M g = .inr (7, standF ad g h op)) (m_g_1 : M (g + 1) = .inr (8, [.int 1, .ref (ad (g + 2))])) (m_g_2 : M (g + 2) = .inl (cI, 12, .inl plf)) (m_h : M h = .inr (0, hallF ad h hv)) (m_h_5 : M (h + 5) = .inr (8, [.int 7, .ref (ad (h + 6))])) (m_h_6 : M (h + 6) = .inl (cI, 84, .inl tf)) (m_h_1 : M (h + 1) = .inr (8, [.int 3, .ref (ad (h + 2))])) (m_h_2 : M (h + 2) = .inl (cI, 12, .inl pf)) (m_h_3 : M (h + 3) = .inr (8, [.int 5, .ref (ad (h + 4))])) (m_h_4 : M (h + 4) = .inl (cI, 25, .inl cf)) (h7 : hv 7 = nI nt) (hnt : nt ≤ 12) (h6 : hv 6 = nI nc) (hnc : nc ≤ 5) (h5 : hv 5 = nI np) (hnp : np ≤ 4) (hkh : kb + 6 < h ∨ h + 15 < kb) (hkg : kb + 6 < g ∨ g + 2 < kb) (hz : 1 <<< ((hv 6) &&& 31) = nI nz) (hnz : nz ≤ 32) : cWi l D cB cI cJ ad n M yX2_cheapestSet wsX2_cheapestSet 5 122 [.ref (ad kb), .ref (ad g)] (fun r M' => ∃ (v0__ v1__ v2__ : Nat → Int32), r = s_X2_cheapestSet nz nt nc np op pf cf tf plf itf ref tkf ∧ M' (kb + 2) = .inl (cI, 8, .inl v0__) ∧ M' (kb + 4) = .inl (cI, 256, .inl v1__) ∧ M' (kb + 6) = .inl (cI, 256, .inl v2__) ∧ ∀ q : Nat, q ≠ kb + 2 → q ≠ kb + 4 → q ≠ kb + 6 → M' q = M q) := by
  refine q_body (cc := cX2_cheapestSet) (maxL := 7) (ret := (some .int)) (by decide) rfl (Nat.le_of_ble_eq_true rfl) ?_
  intro p e s m args below meth c ls X hr hlocks hK hP hl
  obtain ⟨hx, hb, hml, hown, hts⟩ := id X
  have hS : va_S (ipA ad n) s.heap s.heap [] := va_S.rf
  have hl : lv_has ls 7 [(0, .ref (ad kb)), (1, .ref (ad g))] := hl
  refine lv_iconst (v := (-1)) hx hb dX2_cheapestSet_0 (by decide) ?_
  refine lv_istore_n (lv' := [(2, .int (-1)), (0, .ref (ad kb)), (1, .ref (ad g))]) hx hb dX2_cheapestSet_1 rfl hl (by decide) rfl (fun ls hl => ?_)
  refine lv_iconst (v := 0) hx hb dX2_cheapestSet_2 (by decide) ?_
  refine lv_istore_n (lv' := [(3, .int 0), (2, .int (-1)), (0, .ref (ad kb)), (1, .ref (ad g))]) hx hb dX2_cheapestSet_3 rfl hl (by decide) rfl (fun ls hl => ?_)
  refine lv_iconst (v := 0) hx hb dX2_cheapestSet_4 (by decide) ?_
  refine lv_istore (lv' := [(4, .int 0), (3, .int 0), (2, .int (-1)), (0, .ref (ad kb)), (1, .ref (ad g))]) hx hb dX2_cheapestSet_5 hl (by decide) rfl (fun ls hl => ?_)
  have loop_7 : ∀ (fuel : Nat) (t7 : Nat) (x7_3 : Int32) (x7_2 : Int32) (y7_0 : Nat → Int32) (y7_1 : Nat → Int32) (y7_2 : Nat → Int32), nz - (t7) < fuel → t7 ≤ nz → s_X2_cheapestSet_7 nt nc np op pf cf tf plf (nz - (t7)) t7 x7_3 x7_2 y7_0 y7_1 y7_2 = s_X2_cheapestSet nz nt nc np op pf cf tf plf itf ref tkf → ∀ (ML7 : Nat → va_E) (H : Heap) (locs : List Loc), ML7 (kb + 6) = .inl (cI, 256, .inl y7_0) → ML7 (kb + 2) = .inl (cI, 8, .inl y7_1) → ML7 (kb + 4) = .inl (cI, 256, .inl y7_2) → (∀ q : Nat, q ≠ kb + 6 → q ≠ kb + 2 → q ≠ kb + 4 → ML7 q = M q) → va_P D vwCl (ip ad n ML7) H → va_S (ipA ad n) s.heap H locs → ∀ (ls : Array Slot), lv_has ls 7 [(4, .int (nI t7)), (3, .int x7_3), (2, .int x7_2), (0, .ref (ad kb)), (1, .ref (ad g))] → W p l e (rmOf 5 122) s m args below meth c H locs 0 0 (MQ below (va_Qi (fun r M' => ∃ (v0__ v1__ v2__ : Nat → Int32), r = s_X2_cheapestSet nz nt nc np op pf cf tf plf itf ref tkf ∧ M' (kb + 2) = .inl (cI, 8, .inl v0__) ∧ M' (kb + 4) = .inl (cI, 256, .inl v1__) ∧ M' (kb + 6) = .inl (cI, 256, .inl v2__) ∧ ∀ q : Nat, q ≠ kb + 2 → q ≠ kb + 4 → q ≠ kb + 6 → M' q = M q) (fun M' t => va_P D vwCl (ip ad n M') t.heap) (ipA ad n)) args s 0 0 (ipA ad n)) (F0 m 7 ls []) := by
    intro fuel
    induction fuel with
    | zero =>
      intro t7 x7_3 x7_2 y7_0 y7_1 y7_2 hz
      exact absurd hz (Nat.not_lt_zero _)
    | succ fuel ih_7 =>
      intro t7 x7_3 x7_2 y7_0 y7_1 y7_2 hz_7 h_t7 hB_7 ML7 H locs mL7_0 mL7_1 mL7_2 fL7 hP hS ls hl
      skip
      refine lv_iload hx hb dX2_cheapestSet_7 (lv_at hl 0 rfl) ?_
      refine lv_iconst (v := 1) hx hb dX2_cheapestSet_9 (by decide) ?_
      refine lv_aload_n hx hb dX2_cheapestSet_10 rfl (lv_at hl 4 rfl) ?_
      refine q_getN (v := .ref (ad h)) (fs := standF ad g h op) (T := TX7) (k := 0) (C := RX7) (N := 3) (ci := 7) X hK hP hK.1.2.1 rfl nX2_cheapestSet_37 (by decide) h_g ((fL7 g (by omega) (by omega) (by omega)).trans m_g) rfl dX2_cheapestSet_11 ?_
      refine q_get (v := .int (hv 6)) (fs := hallF ad h hv) X hK hP fX2_cheapestSet_47 h_h ((fL7 h (by omega) (by omega) (by omega)).trans m_h) rfl dX2_cheapestSet_14 ?_
      refine lv_ishl hx hb dX2_cheapestSet_17 ?_
      refine lv_icmp_ge (tgt := 109) hx hb dX2_cheapestSet_18 (by decide) (fun c_18 => ?_) (fun c_18 => ?_)
      · rw [hz] at c_18
        have h9_7 : t7 = nz := eq_of_le (t := t7) (k := nz) c_18 (by omega) h_t7
        subst t7
        refine lv_iload_n hx hb dX2_cheapestSet_109 rfl (lv_at hl 2 rfl) ?_
        exact q_wzret X hr hlocks hP hS (rfl) ⟨_, _, _, (by rw [← hB_7, Nat.sub_self, s_X2_cheapestSet_7]), mL7_1, mL7_2, mL7_0, (fun q n0 n1 n2 => (fL7 q n2 n0 n1))⟩ dX2_cheapestSet_110
      · rw [hz] at c_18
        have h9_7 : t7 < nz := lt_of_nlt (t := t7) (k := nz) c_18 (by omega) h_t7
        refine lv_aload_n hx hb dX2_cheapestSet_21 rfl (lv_at hl 3 rfl) ?_
        refine lv_aload_n hx hb dX2_cheapestSet_22 rfl (lv_at hl 4 rfl) ?_
        refine lv_iload hx hb dX2_cheapestSet_23 (lv_at hl 0 rfl) ?_
        refine q_rdV (As := [.ref (ad g), .int (nI t7)]) (rest := []) (c_X2_costOf l D cB cI cJ ad n ML7 kb g h nc op hv cf (nI t7) h_kb h_g h_h h_h_3 h_h_4 ((fL7 kb (by omega) (by omega) (by omega)).trans m_kb) ((fL7 g (by omega) (by omega) (by omega)).trans m_g) ((fL7 h (by omega) (by omega) (by omega)).trans m_h) ((fL7 (h + 3) (by omega) (by omega) (by omega)).trans m_h_3) ((fL7 (h + 4) (by omega) (by omega) (by omega)).trans m_h_4) h6 hnc) X hK hP hS hl.1 rfl gX2_cheapestSet_X2_costOf yd_X2_costOf ⟨Nat.le_of_ble_eq_true rfl, Nat.le_of_ble_eq_true rfl⟩ h_kb ((fL7 kb (by omega) (by omega) (by omega)).trans m_kb) (ci := 2) rfl rfl (Nat.le_of_ble_eq_true rfl) ⟨Nat.zero_le _, Nat.zero_le _⟩ dX2_cheapestSet_25 ?_
        refine lv_bipush (v := 6) hx hb dX2_cheapestSet_28 (by decide) ?_
        refine lv_imul hx hb dX2_cheapestSet_30 ?_
        refine lv_iload hx hb dX2_cheapestSet_31 (lv_at hl 0 rfl) ?_
        refine q_rdS (As := [.int (nI t7)]) (rest := [.int ((s_X2_costOf nc op cf (nI t7)) * 6)]) (c_J6_bitCount_0f7a4 l D cB cI cJ ad n ML7 (nI t7)   ) X hK hP hS hl.1 rfl gX2_cheapestSet_J6_bitCount_0f7a4 yd_J6_bitCount_0f7a4 ⟨Nat.le_of_ble_eq_true rfl, Nat.le_of_ble_eq_true rfl⟩ rfl (Nat.le_of_ble_eq_true rfl) ⟨Nat.zero_le _, Nat.zero_le _⟩ dX2_cheapestSet_33 ?_
        refine lv_iadd hx hb dX2_cheapestSet_36 ?_
        refine lv_istore (lv' := [(5, .int (((s_X2_costOf nc op cf (nI t7)) * 6) + (bcI (nI t7)))), (4, .int (nI t7)), (3, .int x7_3), (2, .int x7_2), (0, .ref (ad kb)), (1, .ref (ad g))]) hx hb dX2_cheapestSet_37 hl (by decide) rfl (fun ls hl => ?_)
        refine lv_iload_n hx hb dX2_cheapestSet_39 rfl (lv_at hl 3 rfl) ?_
        refine lv_iconst (v := (-1)) hx hb dX2_cheapestSet_40 (by decide) ?_
        refine lv_icmp_eq (tgt := 53) hx hb dX2_cheapestSet_41 (by decide) (fun c_41 => ?_) (fun c_41 => ?_)
        · skip
          refine lv_aload_n hx hb dX2_cheapestSet_53 rfl (lv_at hl 4 rfl) ?_
          refine lv_aload_n hx hb dX2_cheapestSet_54 rfl (lv_at hl 5 rfl) ?_
          refine lv_iload hx hb dX2_cheapestSet_55 (lv_at hl 1 rfl) ?_
          refine q_rdV (As := [.ref (ad g), .int (nI t7)]) (rest := []) (c_X2_thingsIn l D cB cI cJ ad n ML7 kb g h nt nc op hv plf (nI t7) h_kb h_g h_g_1 h_g_2 h_h ((fL7 kb (by omega) (by omega) (by omega)).trans m_kb) ((fL7 g (by omega) (by omega) (by omega)).trans m_g) ((fL7 (g + 1) (by omega) (by omega) (by omega)).trans m_g_1) ((fL7 (g + 2) (by omega) (by omega) (by omega)).trans m_g_2) ((fL7 h (by omega) (by omega) (by omega)).trans m_h) h6 hnc h7 hnt) X hK hP hS hl.1 rfl gX2_cheapestSet_X2_thingsIn yd_X2_thingsIn ⟨Nat.le_of_ble_eq_true rfl, Nat.le_of_ble_eq_true rfl⟩ h_kb ((fL7 kb (by omega) (by omega) (by omega)).trans m_kb) (ci := 2) rfl rfl (Nat.le_of_ble_eq_true rfl) ⟨Nat.zero_le _, Nat.zero_le _⟩ dX2_cheapestSet_57 ?_
          refine lv_istore (lv' := [(6, .int (s_X2_thingsIn nt nc plf (nI t7))), (5, .int (((s_X2_costOf nc op cf (nI t7)) * 6) + (bcI (nI t7)))), (4, .int (nI t7)), (3, .int x7_3), (2, .int x7_2), (0, .ref (ad kb)), (1, .ref (ad g))]) hx hb dX2_cheapestSet_60 hl (by decide) rfl (fun ls hl => ?_)
          refine lv_iload hx hb dX2_cheapestSet_62 (lv_at hl 0 rfl) ?_
          refine q_rdS (As := [.int (s_X2_thingsIn nt nc plf (nI t7))]) (rest := []) (c_J6_bitCount_0f7a4 l D cB cI cJ ad n ML7 (s_X2_thingsIn nt nc plf (nI t7))   ) X hK hP hS hl.1 rfl gX2_cheapestSet_J6_bitCount_0f7a4 yd_J6_bitCount_0f7a4 ⟨Nat.le_of_ble_eq_true rfl, Nat.le_of_ble_eq_true rfl⟩ rfl (Nat.le_of_ble_eq_true rfl) ⟨Nat.zero_le _, Nat.zero_le _⟩ dX2_cheapestSet_64 ?_
          refine lv_bipush (v := 8) hx hb dX2_cheapestSet_67 (by decide) ?_
          refine lv_icmp_le (tgt := 75) hx hb dX2_cheapestSet_69 (by decide) (fun c_69 => ?_) (fun c_69 => ?_)
          · skip
            refine lv_aload_n hx hb dX2_cheapestSet_75 rfl (lv_at hl 5 rfl) ?_
            refine lv_aload_n hx hb dX2_cheapestSet_76 rfl (lv_at hl 6 rfl) ?_
            refine lv_iload hx hb dX2_cheapestSet_77 (lv_at hl 2 rfl) ?_
            refine q_rdV (As := [.ref (ad g), .int (nI t7)]) (rest := []) (c_X2_othersGo l D cB cI cJ ad n ML7 kb g h nt nc op hv cf tf plf (nI t7) h_kb h_g h_g_1 h_g_2 h_h h_h_5 h_h_6 h_h_3 h_h_4 ((fL7 kb (by omega) (by omega) (by omega)).trans m_kb) ((fL7 g (by omega) (by omega) (by omega)).trans m_g) ((fL7 (g + 1) (by omega) (by omega) (by omega)).trans m_g_1) ((fL7 (g + 2) (by omega) (by omega) (by omega)).trans m_g_2) ((fL7 h (by omega) (by omega) (by omega)).trans m_h) ((fL7 (h + 5) (by omega) (by omega) (by omega)).trans m_h_5) ((fL7 (h + 6) (by omega) (by omega) (by omega)).trans m_h_6) ((fL7 (h + 3) (by omega) (by omega) (by omega)).trans m_h_3) ((fL7 (h + 4) (by omega) (by omega) (by omega)).trans m_h_4) h6 hnc h7 hnt) X hK hP hS hl.1 rfl gX2_cheapestSet_X2_othersGo yd_X2_othersGo ⟨Nat.le_of_ble_eq_true rfl, Nat.le_of_ble_eq_true rfl⟩ h_kb ((fL7 kb (by omega) (by omega) (by omega)).trans m_kb) (ci := 2) rfl rfl (Nat.le_of_ble_eq_true rfl) ⟨Nat.zero_le _, Nat.zero_le _⟩ dX2_cheapestSet_79 ?_
            refine lv_if_eq (tgt := 103) hx hb dX2_cheapestSet_82 (by decide) (fun c_82 => ?_) (fun c_82 => ?_)
            · skip
              refine lv_iinc (v := ((nI t7) + 1)) (lv' := [(4, .int ((nI t7) + 1)), (6, .int (s_X2_thingsIn nt nc plf (nI t7))), (5, .int (((s_X2_costOf nc op cf (nI t7)) * 6) + (bcI (nI t7)))), (3, .int x7_3), (2, .int x7_2), (0, .ref (ad kb)), (1, .ref (ad g))]) hx hb dX2_cheapestSet_103 hl (k := 2) rfl rfl (by decide) rfl (fun ls hl => ?_)
              refine lv_goto (tgt := 7) hx hb dX2_cheapestSet_106 (by decide) ?_
              exact ih_7 (t7 + 1) x7_3 x7_2 y7_0 y7_1 y7_2 (by omega) (by omega) (by rw [← hB_7, show nz - (t7) = (nz - (t7 + 1)) + 1 by omega, s_X2_cheapestSet_7, if_pos c_41, if_pos c_69, if_pos c_82]) _ _ _ mL7_0 mL7_1 mL7_2 (fun q n0 n1 n2 => (fL7 q n0 n1 n2)) hP hS ls (by rw [(show nI (t7 + 1) = nI t7 + 1 by exact nI_succ _)]; exact lv_sub hl [0, 3, 4, 5, 6] rfl)
            · skip
              refine lv_aload_n hx hb dX2_cheapestSet_85 rfl (lv_at hl 5 rfl) ?_
              refine lv_aload_n hx hb dX2_cheapestSet_86 rfl (lv_at hl 6 rfl) ?_
              refine lv_iload hx hb dX2_cheapestSet_87 (lv_at hl 2 rfl) ?_
              refine lv_iload hx hb dX2_cheapestSet_89 (lv_at hl 0 rfl) ?_
              refine q_wrVi (As := [.ref (ad g), .int (nI t7), .int (s_X2_thingsIn nt nc plf (nI t7))]) (rest := []) (c_X2_canPack l D cB cI cJ ad n ML7 hI kb g h (cntI (s_X2_thingsIn nt nc plf (nI t7)) 12) nt nc np op hv pf cf tf plf y7_1 y7_2 y7_0 (nI t7) (s_X2_thingsIn nt nc plf (nI t7)) h_kb h_kb_1 h_kb_2 h_kb_3 h_kb_4 h_kb_5 h_kb_6 h_g h_g_1 h_g_2 h_h h_h_5 h_h_6 h_h_1 h_h_2 h_h_3 h_h_4 ((fL7 kb (by omega) (by omega) (by omega)).trans m_kb) ((fL7 (kb + 1) (by omega) (by omega) (by omega)).trans m_kb_1) mL7_1 ((fL7 (kb + 3) (by omega) (by omega) (by omega)).trans m_kb_3) mL7_2 ((fL7 (kb + 5) (by omega) (by omega) (by omega)).trans m_kb_5) mL7_0 ((fL7 g (by omega) (by omega) (by omega)).trans m_g) ((fL7 (g + 1) (by omega) (by omega) (by omega)).trans m_g_1) ((fL7 (g + 2) (by omega) (by omega) (by omega)).trans m_g_2) ((fL7 h (by omega) (by omega) (by omega)).trans m_h) ((fL7 (h + 5) (by omega) (by omega) (by omega)).trans m_h_5) ((fL7 (h + 6) (by omega) (by omega) (by omega)).trans m_h_6) ((fL7 (h + 1) (by omega) (by omega) (by omega)).trans m_h_1) ((fL7 (h + 2) (by omega) (by omega) (by omega)).trans m_h_2) ((fL7 (h + 3) (by omega) (by omega) (by omega)).trans m_h_3) ((fL7 (h + 4) (by omega) (by omega) (by omega)).trans m_h_4) h7 hnt h6 hnc h5 hnp (listItems_n _ _) (cnt_in hnt _ _ c_69) hkh hkg) X hK hP hS hl.1 rfl gX2_cheapestSet_X2_canPack yd_X2_canPack ⟨Nat.le_of_ble_eq_true rfl, Nat.le_of_ble_eq_true rfl⟩ h_kb ((fL7 kb (by omega) (by omega) (by omega)).trans m_kb) (ci := 2) rfl rfl (Nat.le_of_ble_eq_true rfl) ⟨Nat.zero_le _, Nat.zero_le _⟩ dX2_cheapestSet_91 (fun r3 M2 H locs hp1 hP hS => ?_)
              obtain ⟨rfl, g4, g5, g6, fr7⟩ := hp1
              refine lv_if_eq (tgt := 103) hx hb dX2_cheapestSet_94 (by decide) (fun c_94 => ?_) (fun c_94 => ?_)
              · skip
                refine lv_iinc (v := ((nI t7) + 1)) (lv' := [(4, .int ((nI t7) + 1)), (6, .int (s_X2_thingsIn nt nc plf (nI t7))), (5, .int (((s_X2_costOf nc op cf (nI t7)) * 6) + (bcI (nI t7)))), (3, .int x7_3), (2, .int x7_2), (0, .ref (ad kb)), (1, .ref (ad g))]) hx hb dX2_cheapestSet_103 hl (k := 2) rfl rfl (by decide) rfl (fun ls hl => ?_)
                refine lv_goto (tgt := 7) hx hb dX2_cheapestSet_106 (by decide) ?_
                exact ih_7 (t7 + 1) x7_3 x7_2 ((s_X2_canPack_102 nt nc pf cf tf plf y7_1 y7_0 (nI t7) (s_X2_thingsIn nt nc plf (nI t7)) ((s_X2_canPack_34 nt cf tf y7_1 (nI t7) (s_X2_thingsIn nt nc plf (nI t7)) 0 y7_0 (tset 256 (fun _ => 0) 0 1) nc).2.1) ((s_X2_canPack_34 nt cf tf y7_1 (nI t7) (s_X2_thingsIn nt nc plf (nI t7)) 0 y7_0 (tset 256 (fun _ => 0) 0 1) nc).2.2) np).1) ((s_X2_listItems_4 (s_X2_thingsIn nt nc plf (nI t7)) 0 y7_1 12).2) ((s_X2_canPack_102 nt nc pf cf tf plf y7_1 y7_0 (nI t7) (s_X2_thingsIn nt nc plf (nI t7)) ((s_X2_canPack_34 nt cf tf y7_1 (nI t7) (s_X2_thingsIn nt nc plf (nI t7)) 0 y7_0 (tset 256 (fun _ => 0) 0 1) nc).2.1) ((s_X2_canPack_34 nt cf tf y7_1 (nI t7) (s_X2_thingsIn nt nc plf (nI t7)) 0 y7_0 (tset 256 (fun _ => 0) 0 1) nc).2.2) np).2) (by omega) (by omega) (by rw [← hB_7, show nz - (t7) = (nz - (t7 + 1)) + 1 by omega, s_X2_cheapestSet_7, if_pos c_41, if_pos c_69, if_neg c_82, if_pos c_94]) _ _ _ g4 g5 g6 (fun q n0 n1 n2 => ((fr7 q n0 n1 n2).trans (fL7 q n0 n1 n2))) hP hS ls (by rw [(show nI (t7 + 1) = nI t7 + 1 by exact nI_succ _)]; exact lv_sub hl [0, 3, 4, 5, 6] rfl)
              · skip
                refine lv_iload hx hb dX2_cheapestSet_97 (lv_at hl 2 rfl) ?_
                refine lv_istore_n (lv' := [(2, .int (nI t7)), (6, .int (s_X2_thingsIn nt nc plf (nI t7))), (5, .int (((s_X2_costOf nc op cf (nI t7)) * 6) + (bcI (nI t7)))), (4, .int (nI t7)), (3, .int x7_3), (0, .ref (ad kb)), (1, .ref (ad g))]) hx hb dX2_cheapestSet_99 rfl hl (by decide) rfl (fun ls hl => ?_)
                refine lv_iload hx hb dX2_cheapestSet_100 (lv_at hl 2 rfl) ?_
                refine lv_istore_n (lv' := [(3, .int (((s_X2_costOf nc op cf (nI t7)) * 6) + (bcI (nI t7)))), (2, .int (nI t7)), (6, .int (s_X2_thingsIn nt nc plf (nI t7))), (5, .int (((s_X2_costOf nc op cf (nI t7)) * 6) + (bcI (nI t7)))), (4, .int (nI t7)), (0, .ref (ad kb)), (1, .ref (ad g))]) hx hb dX2_cheapestSet_102 rfl hl (by decide) rfl (fun ls hl => ?_)
                refine lv_iinc (v := ((nI t7) + 1)) (lv' := [(4, .int ((nI t7) + 1)), (3, .int (((s_X2_costOf nc op cf (nI t7)) * 6) + (bcI (nI t7)))), (2, .int (nI t7)), (6, .int (s_X2_thingsIn nt nc plf (nI t7))), (5, .int (((s_X2_costOf nc op cf (nI t7)) * 6) + (bcI (nI t7)))), (0, .ref (ad kb)), (1, .ref (ad g))]) hx hb dX2_cheapestSet_103 hl (k := 4) rfl rfl (by decide) rfl (fun ls hl => ?_)
                refine lv_goto (tgt := 7) hx hb dX2_cheapestSet_106 (by decide) ?_
                exact ih_7 (t7 + 1) (((s_X2_costOf nc op cf (nI t7)) * 6) + (bcI (nI t7))) (nI t7) ((s_X2_canPack_102 nt nc pf cf tf plf y7_1 y7_0 (nI t7) (s_X2_thingsIn nt nc plf (nI t7)) ((s_X2_canPack_34 nt cf tf y7_1 (nI t7) (s_X2_thingsIn nt nc plf (nI t7)) 0 y7_0 (tset 256 (fun _ => 0) 0 1) nc).2.1) ((s_X2_canPack_34 nt cf tf y7_1 (nI t7) (s_X2_thingsIn nt nc plf (nI t7)) 0 y7_0 (tset 256 (fun _ => 0) 0 1) nc).2.2) np).1) ((s_X2_listItems_4 (s_X2_thingsIn nt nc plf (nI t7)) 0 y7_1 12).2) ((s_X2_canPack_102 nt nc pf cf tf plf y7_1 y7_0 (nI t7) (s_X2_thingsIn nt nc plf (nI t7)) ((s_X2_canPack_34 nt cf tf y7_1 (nI t7) (s_X2_thingsIn nt nc plf (nI t7)) 0 y7_0 (tset 256 (fun _ => 0) 0 1) nc).2.1) ((s_X2_canPack_34 nt cf tf y7_1 (nI t7) (s_X2_thingsIn nt nc plf (nI t7)) 0 y7_0 (tset 256 (fun _ => 0) 0 1) nc).2.2) np).2) (by omega) (by omega) (by rw [← hB_7, show nz - (t7) = (nz - (t7 + 1)) + 1 by omega, s_X2_cheapestSet_7, if_pos c_41, if_pos c_69, if_neg c_82, if_neg c_94]) _ _ _ g4 g5 g6 (fun q n0 n1 n2 => ((fr7 q n0 n1 n2).trans (fL7 q n0 n1 n2))) hP hS ls (by rw [(show nI (t7 + 1) = nI t7 + 1 by exact nI_succ _)]; exact lv_sub hl [0, 1, 2, 5, 6] rfl)
          · skip
            refine lv_bipush (v := (-2)) hx hb dX2_cheapestSet_72 (by decide) ?_
            exact q_wzret X hr hlocks hP hS (rfl) ⟨_, _, _, (by rw [← hB_7, show nz - t7 = (nz - (t7 + 1)) + 1 by omega, s_X2_cheapestSet_7, if_pos c_41, if_neg c_69]), mL7_1, mL7_2, mL7_0, (fun q n0 n1 n2 => (fL7 q n2 n0 n1))⟩ dX2_cheapestSet_74
        · skip
          refine lv_iload hx hb dX2_cheapestSet_44 (lv_at hl 0 rfl) ?_
          refine lv_iload_n hx hb dX2_cheapestSet_46 rfl (lv_at hl 2 rfl) ?_
          refine lv_icmp_lt (tgt := 53) hx hb dX2_cheapestSet_47 (by decide) (fun c_47 => ?_) (fun c_47 => ?_)
          · skip
            refine lv_aload_n hx hb dX2_cheapestSet_53 rfl (lv_at hl 4 rfl) ?_
            refine lv_aload_n hx hb dX2_cheapestSet_54 rfl (lv_at hl 5 rfl) ?_
            refine lv_iload hx hb dX2_cheapestSet_55 (lv_at hl 1 rfl) ?_
            refine q_rdV (As := [.ref (ad g), .int (nI t7)]) (rest := []) (c_X2_thingsIn l D cB cI cJ ad n ML7 kb g h nt nc op hv plf (nI t7) h_kb h_g h_g_1 h_g_2 h_h ((fL7 kb (by omega) (by omega) (by omega)).trans m_kb) ((fL7 g (by omega) (by omega) (by omega)).trans m_g) ((fL7 (g + 1) (by omega) (by omega) (by omega)).trans m_g_1) ((fL7 (g + 2) (by omega) (by omega) (by omega)).trans m_g_2) ((fL7 h (by omega) (by omega) (by omega)).trans m_h) h6 hnc h7 hnt) X hK hP hS hl.1 rfl gX2_cheapestSet_X2_thingsIn yd_X2_thingsIn ⟨Nat.le_of_ble_eq_true rfl, Nat.le_of_ble_eq_true rfl⟩ h_kb ((fL7 kb (by omega) (by omega) (by omega)).trans m_kb) (ci := 2) rfl rfl (Nat.le_of_ble_eq_true rfl) ⟨Nat.zero_le _, Nat.zero_le _⟩ dX2_cheapestSet_57 ?_
            refine lv_istore (lv' := [(6, .int (s_X2_thingsIn nt nc plf (nI t7))), (5, .int (((s_X2_costOf nc op cf (nI t7)) * 6) + (bcI (nI t7)))), (4, .int (nI t7)), (3, .int x7_3), (2, .int x7_2), (0, .ref (ad kb)), (1, .ref (ad g))]) hx hb dX2_cheapestSet_60 hl (by decide) rfl (fun ls hl => ?_)
            refine lv_iload hx hb dX2_cheapestSet_62 (lv_at hl 0 rfl) ?_
            refine q_rdS (As := [.int (s_X2_thingsIn nt nc plf (nI t7))]) (rest := []) (c_J6_bitCount_0f7a4 l D cB cI cJ ad n ML7 (s_X2_thingsIn nt nc plf (nI t7))   ) X hK hP hS hl.1 rfl gX2_cheapestSet_J6_bitCount_0f7a4 yd_J6_bitCount_0f7a4 ⟨Nat.le_of_ble_eq_true rfl, Nat.le_of_ble_eq_true rfl⟩ rfl (Nat.le_of_ble_eq_true rfl) ⟨Nat.zero_le _, Nat.zero_le _⟩ dX2_cheapestSet_64 ?_
            refine lv_bipush (v := 8) hx hb dX2_cheapestSet_67 (by decide) ?_
            refine lv_icmp_le (tgt := 75) hx hb dX2_cheapestSet_69 (by decide) (fun c_69 => ?_) (fun c_69 => ?_)
            · skip
              refine lv_aload_n hx hb dX2_cheapestSet_75 rfl (lv_at hl 5 rfl) ?_
              refine lv_aload_n hx hb dX2_cheapestSet_76 rfl (lv_at hl 6 rfl) ?_
              refine lv_iload hx hb dX2_cheapestSet_77 (lv_at hl 2 rfl) ?_
              refine q_rdV (As := [.ref (ad g), .int (nI t7)]) (rest := []) (c_X2_othersGo l D cB cI cJ ad n ML7 kb g h nt nc op hv cf tf plf (nI t7) h_kb h_g h_g_1 h_g_2 h_h h_h_5 h_h_6 h_h_3 h_h_4 ((fL7 kb (by omega) (by omega) (by omega)).trans m_kb) ((fL7 g (by omega) (by omega) (by omega)).trans m_g) ((fL7 (g + 1) (by omega) (by omega) (by omega)).trans m_g_1) ((fL7 (g + 2) (by omega) (by omega) (by omega)).trans m_g_2) ((fL7 h (by omega) (by omega) (by omega)).trans m_h) ((fL7 (h + 5) (by omega) (by omega) (by omega)).trans m_h_5) ((fL7 (h + 6) (by omega) (by omega) (by omega)).trans m_h_6) ((fL7 (h + 3) (by omega) (by omega) (by omega)).trans m_h_3) ((fL7 (h + 4) (by omega) (by omega) (by omega)).trans m_h_4) h6 hnc h7 hnt) X hK hP hS hl.1 rfl gX2_cheapestSet_X2_othersGo yd_X2_othersGo ⟨Nat.le_of_ble_eq_true rfl, Nat.le_of_ble_eq_true rfl⟩ h_kb ((fL7 kb (by omega) (by omega) (by omega)).trans m_kb) (ci := 2) rfl rfl (Nat.le_of_ble_eq_true rfl) ⟨Nat.zero_le _, Nat.zero_le _⟩ dX2_cheapestSet_79 ?_
              refine lv_if_eq (tgt := 103) hx hb dX2_cheapestSet_82 (by decide) (fun c_82 => ?_) (fun c_82 => ?_)
              · skip
                refine lv_iinc (v := ((nI t7) + 1)) (lv' := [(4, .int ((nI t7) + 1)), (6, .int (s_X2_thingsIn nt nc plf (nI t7))), (5, .int (((s_X2_costOf nc op cf (nI t7)) * 6) + (bcI (nI t7)))), (3, .int x7_3), (2, .int x7_2), (0, .ref (ad kb)), (1, .ref (ad g))]) hx hb dX2_cheapestSet_103 hl (k := 2) rfl rfl (by decide) rfl (fun ls hl => ?_)
                refine lv_goto (tgt := 7) hx hb dX2_cheapestSet_106 (by decide) ?_
                exact ih_7 (t7 + 1) x7_3 x7_2 y7_0 y7_1 y7_2 (by omega) (by omega) (by rw [← hB_7, show nz - (t7) = (nz - (t7 + 1)) + 1 by omega, s_X2_cheapestSet_7, if_neg c_41, if_pos c_47, if_pos c_69, if_pos c_82]) _ _ _ mL7_0 mL7_1 mL7_2 (fun q n0 n1 n2 => (fL7 q n0 n1 n2)) hP hS ls (by rw [(show nI (t7 + 1) = nI t7 + 1 by exact nI_succ _)]; exact lv_sub hl [0, 3, 4, 5, 6] rfl)
              · skip
                refine lv_aload_n hx hb dX2_cheapestSet_85 rfl (lv_at hl 5 rfl) ?_
                refine lv_aload_n hx hb dX2_cheapestSet_86 rfl (lv_at hl 6 rfl) ?_
                refine lv_iload hx hb dX2_cheapestSet_87 (lv_at hl 2 rfl) ?_
                refine lv_iload hx hb dX2_cheapestSet_89 (lv_at hl 0 rfl) ?_
                refine q_wrVi (As := [.ref (ad g), .int (nI t7), .int (s_X2_thingsIn nt nc plf (nI t7))]) (rest := []) (c_X2_canPack l D cB cI cJ ad n ML7 hI kb g h (cntI (s_X2_thingsIn nt nc plf (nI t7)) 12) nt nc np op hv pf cf tf plf y7_1 y7_2 y7_0 (nI t7) (s_X2_thingsIn nt nc plf (nI t7)) h_kb h_kb_1 h_kb_2 h_kb_3 h_kb_4 h_kb_5 h_kb_6 h_g h_g_1 h_g_2 h_h h_h_5 h_h_6 h_h_1 h_h_2 h_h_3 h_h_4 ((fL7 kb (by omega) (by omega) (by omega)).trans m_kb) ((fL7 (kb + 1) (by omega) (by omega) (by omega)).trans m_kb_1) mL7_1 ((fL7 (kb + 3) (by omega) (by omega) (by omega)).trans m_kb_3) mL7_2 ((fL7 (kb + 5) (by omega) (by omega) (by omega)).trans m_kb_5) mL7_0 ((fL7 g (by omega) (by omega) (by omega)).trans m_g) ((fL7 (g + 1) (by omega) (by omega) (by omega)).trans m_g_1) ((fL7 (g + 2) (by omega) (by omega) (by omega)).trans m_g_2) ((fL7 h (by omega) (by omega) (by omega)).trans m_h) ((fL7 (h + 5) (by omega) (by omega) (by omega)).trans m_h_5) ((fL7 (h + 6) (by omega) (by omega) (by omega)).trans m_h_6) ((fL7 (h + 1) (by omega) (by omega) (by omega)).trans m_h_1) ((fL7 (h + 2) (by omega) (by omega) (by omega)).trans m_h_2) ((fL7 (h + 3) (by omega) (by omega) (by omega)).trans m_h_3) ((fL7 (h + 4) (by omega) (by omega) (by omega)).trans m_h_4) h7 hnt h6 hnc h5 hnp (listItems_n _ _) (cnt_in hnt _ _ c_69) hkh hkg) X hK hP hS hl.1 rfl gX2_cheapestSet_X2_canPack yd_X2_canPack ⟨Nat.le_of_ble_eq_true rfl, Nat.le_of_ble_eq_true rfl⟩ h_kb ((fL7 kb (by omega) (by omega) (by omega)).trans m_kb) (ci := 2) rfl rfl (Nat.le_of_ble_eq_true rfl) ⟨Nat.zero_le _, Nat.zero_le _⟩ dX2_cheapestSet_91 (fun r10 M9 H locs hp8 hP hS => ?_)
                obtain ⟨rfl, g11, g12, g13, fr14⟩ := hp8
                refine lv_if_eq (tgt := 103) hx hb dX2_cheapestSet_94 (by decide) (fun c_94 => ?_) (fun c_94 => ?_)
                · skip
                  refine lv_iinc (v := ((nI t7) + 1)) (lv' := [(4, .int ((nI t7) + 1)), (6, .int (s_X2_thingsIn nt nc plf (nI t7))), (5, .int (((s_X2_costOf nc op cf (nI t7)) * 6) + (bcI (nI t7)))), (3, .int x7_3), (2, .int x7_2), (0, .ref (ad kb)), (1, .ref (ad g))]) hx hb dX2_cheapestSet_103 hl (k := 2) rfl rfl (by decide) rfl (fun ls hl => ?_)
                  refine lv_goto (tgt := 7) hx hb dX2_cheapestSet_106 (by decide) ?_
                  exact ih_7 (t7 + 1) x7_3 x7_2 ((s_X2_canPack_102 nt nc pf cf tf plf y7_1 y7_0 (nI t7) (s_X2_thingsIn nt nc plf (nI t7)) ((s_X2_canPack_34 nt cf tf y7_1 (nI t7) (s_X2_thingsIn nt nc plf (nI t7)) 0 y7_0 (tset 256 (fun _ => 0) 0 1) nc).2.1) ((s_X2_canPack_34 nt cf tf y7_1 (nI t7) (s_X2_thingsIn nt nc plf (nI t7)) 0 y7_0 (tset 256 (fun _ => 0) 0 1) nc).2.2) np).1) ((s_X2_listItems_4 (s_X2_thingsIn nt nc plf (nI t7)) 0 y7_1 12).2) ((s_X2_canPack_102 nt nc pf cf tf plf y7_1 y7_0 (nI t7) (s_X2_thingsIn nt nc plf (nI t7)) ((s_X2_canPack_34 nt cf tf y7_1 (nI t7) (s_X2_thingsIn nt nc plf (nI t7)) 0 y7_0 (tset 256 (fun _ => 0) 0 1) nc).2.1) ((s_X2_canPack_34 nt cf tf y7_1 (nI t7) (s_X2_thingsIn nt nc plf (nI t7)) 0 y7_0 (tset 256 (fun _ => 0) 0 1) nc).2.2) np).2) (by omega) (by omega) (by rw [← hB_7, show nz - (t7) = (nz - (t7 + 1)) + 1 by omega, s_X2_cheapestSet_7, if_neg c_41, if_pos c_47, if_pos c_69, if_neg c_82, if_pos c_94]) _ _ _ g11 g12 g13 (fun q n0 n1 n2 => ((fr14 q n0 n1 n2).trans (fL7 q n0 n1 n2))) hP hS ls (by rw [(show nI (t7 + 1) = nI t7 + 1 by exact nI_succ _)]; exact lv_sub hl [0, 3, 4, 5, 6] rfl)
                · skip
                  refine lv_iload hx hb dX2_cheapestSet_97 (lv_at hl 2 rfl) ?_
                  refine lv_istore_n (lv' := [(2, .int (nI t7)), (6, .int (s_X2_thingsIn nt nc plf (nI t7))), (5, .int (((s_X2_costOf nc op cf (nI t7)) * 6) + (bcI (nI t7)))), (4, .int (nI t7)), (3, .int x7_3), (0, .ref (ad kb)), (1, .ref (ad g))]) hx hb dX2_cheapestSet_99 rfl hl (by decide) rfl (fun ls hl => ?_)
                  refine lv_iload hx hb dX2_cheapestSet_100 (lv_at hl 2 rfl) ?_
                  refine lv_istore_n (lv' := [(3, .int (((s_X2_costOf nc op cf (nI t7)) * 6) + (bcI (nI t7)))), (2, .int (nI t7)), (6, .int (s_X2_thingsIn nt nc plf (nI t7))), (5, .int (((s_X2_costOf nc op cf (nI t7)) * 6) + (bcI (nI t7)))), (4, .int (nI t7)), (0, .ref (ad kb)), (1, .ref (ad g))]) hx hb dX2_cheapestSet_102 rfl hl (by decide) rfl (fun ls hl => ?_)
                  refine lv_iinc (v := ((nI t7) + 1)) (lv' := [(4, .int ((nI t7) + 1)), (3, .int (((s_X2_costOf nc op cf (nI t7)) * 6) + (bcI (nI t7)))), (2, .int (nI t7)), (6, .int (s_X2_thingsIn nt nc plf (nI t7))), (5, .int (((s_X2_costOf nc op cf (nI t7)) * 6) + (bcI (nI t7)))), (0, .ref (ad kb)), (1, .ref (ad g))]) hx hb dX2_cheapestSet_103 hl (k := 4) rfl rfl (by decide) rfl (fun ls hl => ?_)
                  refine lv_goto (tgt := 7) hx hb dX2_cheapestSet_106 (by decide) ?_
                  exact ih_7 (t7 + 1) (((s_X2_costOf nc op cf (nI t7)) * 6) + (bcI (nI t7))) (nI t7) ((s_X2_canPack_102 nt nc pf cf tf plf y7_1 y7_0 (nI t7) (s_X2_thingsIn nt nc plf (nI t7)) ((s_X2_canPack_34 nt cf tf y7_1 (nI t7) (s_X2_thingsIn nt nc plf (nI t7)) 0 y7_0 (tset 256 (fun _ => 0) 0 1) nc).2.1) ((s_X2_canPack_34 nt cf tf y7_1 (nI t7) (s_X2_thingsIn nt nc plf (nI t7)) 0 y7_0 (tset 256 (fun _ => 0) 0 1) nc).2.2) np).1) ((s_X2_listItems_4 (s_X2_thingsIn nt nc plf (nI t7)) 0 y7_1 12).2) ((s_X2_canPack_102 nt nc pf cf tf plf y7_1 y7_0 (nI t7) (s_X2_thingsIn nt nc plf (nI t7)) ((s_X2_canPack_34 nt cf tf y7_1 (nI t7) (s_X2_thingsIn nt nc plf (nI t7)) 0 y7_0 (tset 256 (fun _ => 0) 0 1) nc).2.1) ((s_X2_canPack_34 nt cf tf y7_1 (nI t7) (s_X2_thingsIn nt nc plf (nI t7)) 0 y7_0 (tset 256 (fun _ => 0) 0 1) nc).2.2) np).2) (by omega) (by omega) (by rw [← hB_7, show nz - (t7) = (nz - (t7 + 1)) + 1 by omega, s_X2_cheapestSet_7, if_neg c_41, if_pos c_47, if_pos c_69, if_neg c_82, if_neg c_94]) _ _ _ g11 g12 g13 (fun q n0 n1 n2 => ((fr14 q n0 n1 n2).trans (fL7 q n0 n1 n2))) hP hS ls (by rw [(show nI (t7 + 1) = nI t7 + 1 by exact nI_succ _)]; exact lv_sub hl [0, 1, 2, 5, 6] rfl)
            · skip
              refine lv_bipush (v := (-2)) hx hb dX2_cheapestSet_72 (by decide) ?_
              exact q_wzret X hr hlocks hP hS (rfl) ⟨_, _, _, (by rw [← hB_7, show nz - t7 = (nz - (t7 + 1)) + 1 by omega, s_X2_cheapestSet_7, if_neg c_41, if_pos c_47, if_neg c_69]), mL7_1, mL7_2, mL7_0, (fun q n0 n1 n2 => (fL7 q n2 n0 n1))⟩ dX2_cheapestSet_74
          · skip
            refine lv_goto (tgt := 103) hx hb dX2_cheapestSet_50 (by decide) ?_
            refine lv_iinc (v := ((nI t7) + 1)) (lv' := [(4, .int ((nI t7) + 1)), (5, .int (((s_X2_costOf nc op cf (nI t7)) * 6) + (bcI (nI t7)))), (3, .int x7_3), (2, .int x7_2), (0, .ref (ad kb)), (1, .ref (ad g))]) hx hb dX2_cheapestSet_103 hl (k := 1) rfl rfl (by decide) rfl (fun ls hl => ?_)
            refine lv_goto (tgt := 7) hx hb dX2_cheapestSet_106 (by decide) ?_
            exact ih_7 (t7 + 1) x7_3 x7_2 y7_0 y7_1 y7_2 (by omega) (by omega) (by rw [← hB_7, show nz - (t7) = (nz - (t7 + 1)) + 1 by omega, s_X2_cheapestSet_7, if_neg c_41, if_neg c_47]) _ _ _ mL7_0 mL7_1 mL7_2 (fun q n0 n1 n2 => (fL7 q n0 n1 n2)) hP hS ls (by rw [(show nI (t7 + 1) = nI t7 + 1 by exact nI_succ _)]; exact lv_sub hl [0, 2, 3, 4, 5] rfl)
  exact loop_7 (nz + 1) 0 0 (-1) tkf itf ref (by omega) (by omega) (by rw [s_X2_cheapestSet] <;> rfl) _ _ _ m_kb_6 m_kb_2 m_kb_4 (fun q n0 n1 n2 => rfl) hP hS ls (lv_sub hl [0, 1, 2, 3, 4] rfl)
