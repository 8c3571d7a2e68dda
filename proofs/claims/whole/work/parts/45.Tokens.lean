/-! PoundsOverModel: its tokens, against the functions of the other side: the token that is scanned from x on -/
noncomputable section
theorem q_ldcwS {p : Program} {l : Launch} {e : Env} {R : Room} {s : State} {m : MethodId} {args : Array Value} {below : List Frame} {meth : Method} {c : Code} {H : Heap} {locs : List Loc} {cells slots : Nat} {Q : State → Prop} {cc : ByteArray} {pc nL : Nat} {ls : Array Slot} {rest : List Value} {D : va_G} {cB cI cJ : ClassId} {ad : Nat → Nat} {n : Nat} {Ts : List Cond} {index i : Nat}
    (X : CallFix p m c cc nL s args Ts "PoundsOverModel") (hK : vK D cB cI cJ s ∧ sW ad n s s.heap) {tx : String} (hq : (index, tx, i) ∈ wRs) (hdg : decode cc pc = .ok (.ldc_w index, 3))
    (kk : W p l e R s m args below meth c H locs cells slots Q (F0 m (pc + 3) ls (.ref (ad (2000 + i)) :: rest))) : W p l e R s m args below meth c H locs cells slots Q (F0 m pc ls rest) := by
  have hZ : vk_R "PoundsOverModel" index tx (ad (2000 + i)) s := by first | exact hK.2.2.2.2.2.2.1 (index, tx, i) hq | exact hK.2.2.2.2.2.2 (index, tx, i) hq
  have hexec := X.1
  have hb := X.2.1
  have hown := X.2.2.2.1
  intro T hT Y
  obtain ⟨t, a1, b1⟩ := kk T hT Y
  refine ⟨t, ?_, b1⟩
  obtain ⟨k, cf, i9, a', hk, hcf, hcp, -, hr, hev'⟩ := Cond.stringRef_spec hown hZ.1
  cases hZ.2.symm.trans hev'
  obtain ⟨k', hk', he⟩ := Y.warmed.alike.2.2 _ _ hk
  have hr' : k'.resolved[index]? = some (some (.string (ad (2000 + i)))) := by
    rcases Y.warmed.entry hk hk' index with h | ⟨h, -⟩
    · rw [h]; exact hr
    · rw [hr] at h; cases h
  have hdg' : decode c.code (F0 m pc ls rest).pc = .ok (.ldc_w index, 3) := by rw [hb]; exact hdg
  jvm_step Y.here [hexec, hdg', ldc_w.wp_string (e := e) (s := T) (f := F0 m pc ls rest) Y.here.top hk' (by rw [he]; exact hcf) hcp hr']
  exact a1
def bOK (f : Nat → Int32) : Prop := ∀ q : Nat, f q &&& 255 = f q
theorem bA_in {en k : Nat} {bf : Nat → Int32} (hT : bOK bf) (h : k < en) (he : en ≤ 700) : s_X9_byteAt (nI en) bf (nI k) = bf k := by
  rw [s_X9_byteAt, if_neg (nI_pos (by omega)), if_neg (fun q => by have := (nI_leI (by omega) (by omega)).mp q; omega), if_neg (fun q => by have := (nI_leI (a := 700) (by omega) (by omega)).mp q; omega), nI_clamp (by omega), hT]
theorem bA_out {en k : Nat} {bf : Nat → Int32} (h : en ≤ k) (hk : k ≤ 700) : s_X9_byteAt (nI en) bf (nI k) = -1 := by
  rw [s_X9_byteAt, if_neg (nI_pos (by omega)), if_pos (nI_le h (by omega))]
theorem sk_stop {en x : Nat} {bf : Nat → Int32} (h1 : ¬ s_X9_byteAt (nI en) bf (nI x) = 32) (h2 : ¬ s_X9_byteAt (nI en) bf (nI x) = 10) : ∀ r : Nat, skS en bf r x = x
  | 0 => rfl
  | r + 1 => by rw [skS, if_neg h1, if_neg h2, ite_self]
theorem sk_go {en x : Nat} {bf : Nat → Int32} (he : en ≤ 700) (hx : x ≤ en) (h : s_X9_byteAt (nI en) bf (nI x) = 32 ∨ s_X9_byteAt (nI en) bf (nI x) = 10) (r : Nat) : x < en ∧ skS en bf (r + 1) x = skS en bf r (x + 1) := by
  have h0 : x < en := bA_lt he (by omega) (fun q => by rcases h with h | h <;> rw [q] at h <;> exact absurd h (by decide))
  refine ⟨h0, ?_⟩
  rw [skS, if_neg (nI_ge h0 (by omega))]
  by_cases h1 : s_X9_byteAt (nI en) bf (nI x) = 32
  · rw [if_pos h1]
  · rw [if_neg h1, if_pos (h.resolve_left h1)]
theorem rg_stopL {en x : Nat} {bf : Nat → Int32} {le : Int32} (hl : ¬ le = 0) (h : s_X9_isLetter (s_X9_byteAt (nI en) bf (nI x)) = 0) : ∀ r : Nat, rgS en bf le 0 r x = x
  | 0 => rfl
  | r + 1 => by rw [rgS, if_neg hl, if_pos h, if_pos rfl, ite_self]
theorem rg_stopD {en x : Nat} {bf : Nat → Int32} {di : Int32} (h : s_X9_isDigit (s_X9_byteAt (nI en) bf (nI x)) = 0) : ∀ r : Nat, rgS en bf 0 di r x = x
  | 0 => rfl
  | r + 1 => by rw [rgS, if_pos rfl, if_pos h, ite_self, ite_self]
theorem lt_of_letter {en x : Nat} {bf : Nat → Int32} (he : en ≤ 700) (hx : x ≤ en) (h : ¬ s_X9_isLetter (s_X9_byteAt (nI en) bf (nI x)) = 0) : x < en := bA_lt he (by omega) (fun q => h (by rw [q]; decide))
theorem lt_of_digit {en x : Nat} {bf : Nat → Int32} (he : en ≤ 700) (hx : x ≤ en) (h : ¬ s_X9_isDigit (s_X9_byteAt (nI en) bf (nI x)) = 0) : x < en := bA_lt he (by omega) (fun q => h (by rw [q]; decide))
theorem rg_goL {en x : Nat} {bf : Nat → Int32} {le di : Int32} (he : en ≤ 700) (hx : x ≤ en) (hl : ¬ le = 0) (h : ¬ s_X9_isLetter (s_X9_byteAt (nI en) bf (nI x)) = 0) (r : Nat) : rgS en bf le di (r + 1) x = rgS en bf le di r (x + 1) := by
  have h0 := lt_of_letter he hx h
  rw [rgS, if_neg (nI_ge h0 (by omega)), if_neg hl, if_neg h]
theorem rg_goD {en x : Nat} {bf : Nat → Int32} {di : Int32} (he : en ≤ 700) (hx : x ≤ en) (hd : ¬ di = 0) (h : ¬ s_X9_isDigit (s_X9_byteAt (nI en) bf (nI x)) = 0) (r : Nat) : rgS en bf 0 di (r + 1) x = rgS en bf 0 di r (x + 1) := by
  have h0 := lt_of_digit he hx h
  rw [rgS, if_neg (nI_ge h0 (by omega)), if_pos rfl, if_neg hd, if_neg h]
theorem rgb {en x0 x1 r7 N : Nat} {bf : Nat → Int32} {le di : Int32} (h2 : x0 ≤ x1) (h7 : en < x1 + r7) (h1 : x1 ≤ en) (hgo : ∀ r : Nat, rgS en bf le di (r + 1) x1 = rgS en bf le di r (x1 + 1)) (h : (if x1 = x0 then rgS en bf le di 701 (x0 + 1) else rgS en bf le di r7 x1) = N) : (if x1 + 1 = x0 then rgS en bf le di 701 (x0 + 1) else rgS en bf le di (if x1 = x0 then 701 else r7 - 1) (x1 + 1)) = N := by
  rw [if_neg (by omega), ← h]
  by_cases q : x1 = x0
  · rw [if_pos q, if_pos q, q]
  · rw [if_neg q, if_neg q]
    obtain ⟨r8, hr8⟩ : ∃ r8, r7 = r8 + 1 := ⟨r7 - 1, by omega⟩
    rw [hr8, hgo, Nat.add_sub_cancel]
theorem rge {en x0 x1 r7 N : Nat} {bf : Nat → Int32} {le di : Int32} (h : (if x1 = x0 then rgS en bf le di 701 (x0 + 1) else rgS en bf le di r7 x1) = N) (hne : ¬ x1 = x0) (hB : ∀ r : Nat, rgS en bf le di r x1 = x1) : N = x1 := by
  rw [← h, if_neg hne]
  exact hB _
theorem let_dig {b : Int32} (h : ¬ s_X9_isLetter b = 0) : s_X9_isDigit b = 0 := by
  unfold s_X9_isLetter at h
  split at h
  · exact absurd rfl h
  · rename_i h1
    unfold s_X9_isDigit
    split
    · rfl
    · rw [if_pos (Int32.lt_of_lt_of_le (by decide) (Int32.not_lt.mp h1))]
theorem sgn_mark (b : Int32) : s_X13_isMark b = s_X9_isSign b := rfl
def mkT (k : Int32) : Int32 := if k = 0 then 0 else if k = 1 then 1 else if k = 2 then 2 else if k = 3 then 4 else 3
def mnS (en : Nat) (bf : Nat → Int32) (pl : Nat) : Nat → Int32
  | 0 => 0
  | t + 1 => imin 100000 (10 * mnS en bf pl t + s_X9_byteAt (nI en) bf (nI (pl + t)) - 48)
def mnX (en : Nat) (bf : Nat → Int32) (x : Nat) (nu : Int32) : Int32 := if kX en bf x = 2 then mnS en bf (pX en bf x) (nX en bf x - pX en bf x) else nu
/-- what a step does to the reference's numbers -/
def mvS (en : Nat) (bf mv : Nat → Int32) (x : Nat) : Nat → Int32 := upd (upd (upd (upd (upd mv 25 (nI (nX en bf x))) 27 (mkT (kX en bf x))) 28 (mnX en bf x (mv 28))) 29 (nI (pX en bf x))) 30 (nI (nX en bf x))
theorem tk_end {en x : Nat} {bf : Nat → Int32} (h : s_X9_byteAt (nI en) bf (nI (pX en bf x)) = -1) : kX en bf x = 0 ∧ nX en bf x = pX en bf x := by
  rw [kX_d, nX_d]; unfold avK avN; rw [if_pos h, if_pos h]; exact ⟨rfl, rfl⟩
theorem tk_let {en x : Nat} {bf : Nat → Int32} (h : ¬ s_X9_isLetter (s_X9_byteAt (nI en) bf (nI (pX en bf x))) = 0) : kX en bf x = 1 ∧ nX en bf x = rgS en bf (s_X9_isLetter (s_X9_byteAt (nI en) bf (nI (pX en bf x)))) 0 701 (pX en bf x + 1) := by
  have h0 : ¬ s_X9_byteAt (nI en) bf (nI (pX en bf x)) = -1 := fun q => h (by rw [q]; decide)
  rw [kX_d, nX_d]; unfold avK avN; rw [if_neg h0, if_neg h0, if_neg h, let_dig h]; exact ⟨rfl, rfl⟩
theorem tk_dig {en x : Nat} {bf : Nat → Int32} (hl : s_X9_isLetter (s_X9_byteAt (nI en) bf (nI (pX en bf x))) = 0) (h : ¬ s_X9_isDigit (s_X9_byteAt (nI en) bf (nI (pX en bf x))) = 0) : kX en bf x = 2 ∧ nX en bf x = rgS en bf 0 (s_X9_isDigit (s_X9_byteAt (nI en) bf (nI (pX en bf x)))) 701 (pX en bf x + 1) := by
  have h0 : ¬ s_X9_byteAt (nI en) bf (nI (pX en bf x)) = -1 := fun q => h (by rw [q]; decide)
  rw [kX_d, nX_d]; unfold avK avN; rw [if_neg h0, if_neg h0, if_pos hl, if_neg h, hl]; exact ⟨rfl, rfl⟩
theorem sgn_k {b : Int32} (h : ¬ s_X9_isSign b = 0) : ¬ b = 0 ∧ ¬ b = 1 ∧ ¬ b = 2 ∧ ¬ b = 3 := ⟨fun q => h (by rw [q]; decide), fun q => h (by rw [q]; decide), fun q => h (by rw [q]; decide), fun q => h (by rw [q]; decide)⟩
theorem tk_sgn {en x : Nat} {bf : Nat → Int32} (he : en ≤ 700) (h0 : ¬ s_X9_byteAt (nI en) bf (nI (pX en bf x)) = -1) (hl : s_X9_isLetter (s_X9_byteAt (nI en) bf (nI (pX en bf x))) = 0) (hd : s_X9_isDigit (s_X9_byteAt (nI en) bf (nI (pX en bf x))) = 0) : nX en bf x = pX en bf x + 1 ∧ (s_X9_isSign (s_X9_byteAt (nI en) bf (nI (pX en bf x))) = 0 → kX en bf x = 3) ∧ (¬ s_X9_isSign (s_X9_byteAt (nI en) bf (nI (pX en bf x))) = 0 → kX en bf x = s_X9_byteAt (nI en) bf (nI (pX en bf x))) := by
  rw [kX_d, nX_d]; unfold avK avN
  rw [if_neg h0, if_neg h0, if_pos hl, if_pos hd, hl, hd]
  refine ⟨?_, fun h => if_pos h, fun h => if_neg h⟩
  rw [show (701 : Nat) = 700 + 1 from rfl, rgS, if_pos rfl, if_pos rfl, ite_self]
theorem modC {ad : Nat → Nat} {mb : Nat} {A B : Nat → Int32} (h : A = B) : (Sum.inr (12, modF ad mb A) : va_E) = Sum.inr (12, modF ad mb B) := by rw [h]
set_option maxRecDepth 20000 in
theorem fX13_byteAt_183 : FL wsX13_byteAt RX13 183 12 26 := ⟨RX13, TX13, 67, rfl, by decide +kernel, by decide, by decide +kernel⟩
set_option maxRecDepth 20000 in
theorem fX13_byteAt_99 : FL wsX13_byteAt RX13 99 12 23 := ⟨RX13, TX13, 67, rfl, by decide +kernel, by decide, by decide +kernel⟩
set_option maxHeartbeats 1000000 in
set_option maxRecDepth 100000 in
theorem c_X13_byteAt (l : Launch) (D : va_G) (cB cI cJ : ClassId) (ad : Nat → Nat) (n : Nat) (M : Nat → va_E) (mb : Nat) (mv : Nat → Int32) (tapeF : Nat → Int32) (en : Nat) (k : Nat) (h_mb : mb < n) (h_mb_23 : mb + 23 < n) (m_mb : M mb = .inr (12, modF ad mb mv)) (m_mb_23 : M (mb + 23) = .inl (cI, 700, .inl tapeF)) (k26 : mv 26 = nI en) (hen : en ≤ 700) (hT : bOK tapeF) (hk7 : k ≤ 700) : cR l D cB cI cJ ad n M yX13_byteAt wsX13_byteAt 0 0 [.ref (ad mb), .int (nI k)] (s_X9_byteAt (nI en) tapeF (nI k)) := by
  refine q_body (cc := cX13_byteAt) (maxL := 2) (ret := (some .int)) (by decide) rfl (Nat.le_of_ble_eq_true rfl) ?_
  intro p e s m args below meth c ls X hr hlocks hK hP hl
  obtain ⟨hx, hb, hml, hown, hts⟩ := id X
  have hS : va_S (ipA ad n) s.heap s.heap [] := va_S.rf
  have hl : lv_has ls 2 [(0, .ref (ad mb)), (1, .int (nI k))] := hl
  refine lv_iload_n hx hb dX13_byteAt_0 rfl (lv_at hl 1 rfl) ?_
  refine lv_aload_n hx hb dX13_byteAt_1 rfl (lv_at hl 0 rfl) ?_
  refine q_get (v := .int (mv 26)) (fs := modF ad mb mv) X hK hP fX13_byteAt_183 h_mb m_mb rfl dX13_byteAt_2 ?_
  refine lv_icmp_ge (tgt := 17) hx hb dX13_byteAt_5 (by decide) (fun c_5 => ?_) (fun c_5 => ?_)
  · skip
    have h9 : en ≤ k := by rw [k26] at c_5; exact (nI_leI (by omega) (by omega)).mp c_5
    refine lv_iconst (v := (-1)) hx hb dX13_byteAt_17 (by decide) ?_
    exact q_iret hb hx hr hlocks (by first | (rw [bA_in hT h9 hen]; done) | (rw [bA_out h9 hk7]; done)) dX13_byteAt_18
  · skip
    have h9 : k < en := Nat.lt_of_not_le (fun q => c_5 (by rw [k26]; exact nI_le q (by omega)))
    refine lv_aload_n hx hb dX13_byteAt_8 rfl (lv_at hl 0 rfl) ?_
    refine q_get (v := .ref (ad (mb + 23))) (fs := modF ad mb mv) X hK hP fX13_byteAt_99 h_mb m_mb rfl dX13_byteAt_9 ?_
    refine lv_iload_n hx hb dX13_byteAt_12 rfl (lv_at hl 1 rfl) ?_
    refine q_ialdN (f := tapeF) (k := 700) X hK hP k h_mb_23 m_mb_23 (by omega) (by decide) dX13_byteAt_13 ?_
    refine lv_goto (tgt := 18) hx hb dX13_byteAt_14 (by decide) ?_
    exact q_iret hb hx hr hlocks (by first | (rw [bA_in hT h9 hen]; done) | (rw [bA_out h9 hk7]; done)) dX13_byteAt_18
set_option maxRecDepth 20000 in
theorem fX13_stepOn_186 : FL wsX13_stepOn RX13 186 12 25 := ⟨RX13, TX13, 67, rfl, by decide +kernel, by decide, by decide +kernel⟩
theorem yd_X13_byteAt : YD yX13_byteAt 1 := ⟨by decide +kernel, by decide +kernel, by decide +kernel⟩
theorem fw_12_25 : FW 12 25 .int := ⟨RX13, TX13, 67, tyX13, rfl, tyX13_ok, nmX13, by decide, rfl, by decide +kernel⟩
set_option maxRecDepth 20000 in
theorem fX13_stepOn_193 : FL wsX13_stepOn RX13 193 12 29 := ⟨RX13, TX13, 67, rfl, by decide +kernel, by decide, by decide +kernel⟩
theorem fw_12_29 : FW 12 29 .int := ⟨RX13, TX13, 67, tyX13, rfl, tyX13_ok, nmX13, by decide, rfl, by decide +kernel⟩
theorem yd_X13_isLetter : YD yX13_isLetter 1 := ⟨by decide +kernel, by decide +kernel, by decide +kernel⟩
theorem yd_X13_isDigit : YD yX13_isDigit 1 := ⟨by decide +kernel, by decide +kernel, by decide +kernel⟩
theorem yd_X13_isMark : YD yX13_isMark 1 := ⟨by decide +kernel, by decide +kernel, by decide +kernel⟩
set_option maxRecDepth 20000 in
theorem fX13_stepOn_196 : FL wsX13_stepOn RX13 196 12 27 := ⟨RX13, TX13, 67, rfl, by decide +kernel, by decide, by decide +kernel⟩
theorem fw_12_27 : FW 12 27 .int := ⟨RX13, TX13, 67, tyX13, rfl, tyX13_ok, nmX13, by decide, rfl, by decide +kernel⟩
set_option maxRecDepth 20000 in
theorem fX13_stepOn_219 : FL wsX13_stepOn RX13 219 12 30 := ⟨RX13, TX13, 67, rfl, by decide +kernel, by decide, by decide +kernel⟩
theorem fw_12_30 : FW 12 30 .int := ⟨RX13, TX13, 67, tyX13, rfl, tyX13_ok, nmX13, by decide, rfl, by decide +kernel⟩
set_option maxRecDepth 20000 in
theorem fX13_stepOn_206 : FL wsX13_stepOn RX13 206 12 28 := ⟨RX13, TX13, 67, rfl, by decide +kernel, by decide, by decide +kernel⟩
theorem fw_12_28 : FW 12 28 .int := ⟨RX13, TX13, 67, tyX13, rfl, tyX13_ok, nmX13, by decide, rfl, by decide +kernel⟩
set_option maxHeartbeats 1000000 in
set_option maxRecDepth 100000 in
theorem c_X13_stepOn (l : Launch) (D : va_G) (cB cI cJ : ClassId) (ad : Nat → Nat) (n : Nat) (M : Nat → va_E) (hI : ipI ad n) (mb : Nat) (mv : Nat → Int32) (tapeF : Nat → Int32) (en : Nat) (x : Nat) (h_mb : mb < n) (h_mb_23 : mb + 23 < n) (m_mb : M mb = .inr (12, modF ad mb mv)) (m_mb_23 : M (mb + 23) = .inl (cI, 700, .inl tapeF)) (k26 : mv 26 = nI en) (hen : en ≤ 700) (hT : bOK tapeF) (hxe : x ≤ en) (k25 : mv 25 = nI x) : cWv l D cB cI cJ ad n M yX13_stepOn wsX13_stepOn 1 21 [.ref (ad mb)] (fun M' => M' mb = .inr (12, modF ad mb (mvS en tapeF mv x)) ∧ ∀ q : Nat, q ≠ mb → M' q = M q) := by
  refine q_body (cc := cX13_stepOn) (maxL := 2) (ret := none) (by decide) rfl (Nat.le_of_ble_eq_true rfl) ?_
  intro p e s m args below meth c ls X hr hlocks hK hP hl
  obtain ⟨hx, hb, hml, hown, hts⟩ := id X
  have hS : va_S (ipA ad n) s.heap s.heap [] := va_S.rf
  have hl : lv_has ls 2 [(0, .ref (ad mb))] := hl
  have loop_0 : ∀ (fuel : Nat) (x0 r9 : Nat), en - x0 < fuel → (x0 ≤ en) → (en < x0 + r9) → (skS en tapeF r9 x0 = (pX en tapeF x)) → ∀ (ML0 : Nat → va_E) (H : Heap) (locs : List Loc), ML0 mb = .inr (12, modF ad mb (upd mv 25 (nI x0))) → (∀ q : Nat, q ≠ mb → ML0 q = M q) → va_P D vwCl (ip ad n ML0) H → va_S (ipA ad n) s.heap H locs → ∀ (ls : Array Slot), lv_has ls 2 [(0, .ref (ad mb))] → W p l e (rmOf 1 21) s m args below meth c H locs 0 0 (MQ below (va_Qv (fun M' => M' mb = .inr (12, modF ad mb (mvS en tapeF mv x)) ∧ ∀ q : Nat, q ≠ mb → M' q = M q) (fun M' t => va_P D vwCl (ip ad n M') t.heap) (ipA ad n)) args s 0 0 (ipA ad n)) (F0 m 0 ls []) := by
    intro fuel
    induction fuel with
    | zero =>
      intro x0 r9 hz
      exact absurd hz (Nat.not_lt_zero _)
    | succ fuel ih_0 =>
      intro x0 r9 hz_0 hx0 hr9 hs0 ML0 H locs mL0_0 fL0 hP hS ls hl
      skip
      refine lv_aload_n hx hb dX13_stepOn_0 rfl (lv_at hl 0 rfl) ?_
      refine lv_aload_n hx hb dX13_stepOn_1 rfl (lv_at hl 0 rfl) ?_
      refine q_get (v := .int (nI x0)) (fs := modF ad mb (upd mv 25 (nI x0))) X hK hP fX13_stepOn_186 h_mb mL0_0 rfl dX13_stepOn_2 ?_
      refine q_rdV (As := [.int (nI x0)]) (rest := []) (c_X13_byteAt l D cB cI cJ ad n ML0 mb (upd mv 25 (nI x0)) tapeF en x0 h_mb h_mb_23 mL0_0 ((fL0 (mb + 23) (by omega)).trans m_mb_23) (by first | assumption | exact k26 | omega) hen hT (by first | assumption | exact k26 | omega)) X hK hP hS hl.1 rfl gX13_stepOn_X13_byteAt yd_X13_byteAt ⟨Nat.le_of_ble_eq_true rfl, Nat.le_of_ble_eq_true rfl⟩ h_mb mL0_0 (ci := 12) rfl rfl (Nat.le_of_ble_eq_true rfl) ⟨Nat.zero_le _, Nat.zero_le _⟩ dX13_stepOn_5 ?_
      refine lv_bipush (v := 32) hx hb dX13_stepOn_8 (by decide) ?_
      refine lv_icmp_eq (tgt := 26) hx hb dX13_stepOn_10 (by decide) (fun c_10 => ?_) (fun c_10 => ?_)
      · skip
        have hgo := sk_go (bf := tapeF) hen hx0 (Or.inl c_10) (r9 - 1)
        refine lv_aload_n hx hb dX13_stepOn_26 rfl (lv_at hl 0 rfl) ?_
        refine lv_dup hx hb dX13_stepOn_27 rfl ?_
        refine q_get (v := .int (nI x0)) (fs := modF ad mb (upd mv 25 (nI x0))) X hK hP fX13_stepOn_186 h_mb mL0_0 rfl dX13_stepOn_28 ?_
        refine lv_iconst (v := 1) hx hb dX13_stepOn_31 (by decide) ?_
        refine lv_iadd hx hb dX13_stepOn_32 ?_
        refine q_put (fs := modF ad mb (upd mv 25 (nI x0))) (fs' := modF ad mb (upd (upd mv 25 (nI x0)) 25 ((nI x0) + 1))) X hK hI hP hS fX13_stepOn_186 fw_12_25 h_mb mL0_0 rfl rfl (Nat.le_of_ble_eq_true rfl) rfl dX13_stepOn_33 (fun H locs hP hS => ?_)
        refine lv_goto (tgt := 0) hx hb dX13_stepOn_36 (by decide) ?_
        exact ih_0 (x0 + 1) (r9 - 1) (by have := hgo.1; omega) (by have := hgo.1; omega) (by omega) (by rw [← hs0, show r9 = (r9 - 1) + 1 by omega]; exact hgo.2.symm) _ _ _ (by exact (va_up_self ML0 mb (.inr (12, modF ad mb (upd (upd mv 25 (nI x0)) 25 ((nI x0) + 1))))).trans (modC (by funext j9; simp only [upd] <;> (repeat' split) <;> first | rfl | (exfalso; omega) | (subst_vars; first | rfl | assumption | exact nI_1 _ | (symm; assumption))))) (fun q n0 => ((va_up_ne _ _ n0).trans (fL0 q n0))) hP hS ls (lv_sub hl [0] rfl)
      · skip
        refine lv_aload_n hx hb dX13_stepOn_13 rfl (lv_at hl 0 rfl) ?_
        refine lv_aload_n hx hb dX13_stepOn_14 rfl (lv_at hl 0 rfl) ?_
        refine q_get (v := .int (nI x0)) (fs := modF ad mb (upd mv 25 (nI x0))) X hK hP fX13_stepOn_186 h_mb mL0_0 rfl dX13_stepOn_15 ?_
        refine q_rdV (As := [.int (nI x0)]) (rest := []) (c_X13_byteAt l D cB cI cJ ad n ML0 mb (upd mv 25 (nI x0)) tapeF en x0 h_mb h_mb_23 mL0_0 ((fL0 (mb + 23) (by omega)).trans m_mb_23) (by first | assumption | exact k26 | omega) hen hT (by first | assumption | exact k26 | omega)) X hK hP hS hl.1 rfl gX13_stepOn_X13_byteAt yd_X13_byteAt ⟨Nat.le_of_ble_eq_true rfl, Nat.le_of_ble_eq_true rfl⟩ h_mb mL0_0 (ci := 12) rfl rfl (Nat.le_of_ble_eq_true rfl) ⟨Nat.zero_le _, Nat.zero_le _⟩ dX13_stepOn_18 ?_
        refine lv_bipush (v := 10) hx hb dX13_stepOn_21 (by decide) ?_
        refine lv_icmp_ne (tgt := 39) hx hb dX13_stepOn_23 (by decide) (fun c_23 => ?_) (fun c_23 => ?_)
        · skip
          have hm0 : (pX en tapeF x) = x0 := by rw [← hs0]; exact sk_stop c_10 c_23 r9
          refine lv_aload_n hx hb dX13_stepOn_39 rfl (lv_at hl 0 rfl) ?_
          refine lv_aload_n hx hb dX13_stepOn_40 rfl (lv_at hl 0 rfl) ?_
          refine q_get (v := .int (nI x0)) (fs := modF ad mb (upd mv 25 (nI x0))) X hK hP fX13_stepOn_186 h_mb mL0_0 rfl dX13_stepOn_41 ?_
          refine q_put (fs := modF ad mb (upd mv 25 (nI x0))) (fs' := modF ad mb (upd (upd mv 25 (nI x0)) 29 (nI x0))) X hK hI hP hS fX13_stepOn_193 fw_12_29 h_mb mL0_0 rfl rfl (Nat.le_of_ble_eq_true rfl) rfl dX13_stepOn_44 (fun H locs hP hS => ?_)
          refine lv_aload_n hx hb dX13_stepOn_47 rfl (lv_at hl 0 rfl) ?_
          refine lv_aload_n hx hb dX13_stepOn_48 rfl (lv_at hl 0 rfl) ?_
          refine q_get (v := .int (nI x0)) (fs := modF ad mb (upd (upd mv 25 (nI x0)) 29 (nI x0))) X hK hP fX13_stepOn_186 h_mb (va_up_self ML0 mb (.inr (12, modF ad mb (upd (upd mv 25 (nI x0)) 29 (nI x0))))) rfl dX13_stepOn_49 ?_
          refine q_rdV (As := [.int (nI x0)]) (rest := []) (c_X13_byteAt l D cB cI cJ ad n (va_up ML0 mb (.inr (12, modF ad mb (upd (upd mv 25 (nI x0)) 29 (nI x0))))) mb (upd (upd mv 25 (nI x0)) 29 (nI x0)) tapeF en x0 h_mb h_mb_23 (va_up_self ML0 mb (.inr (12, modF ad mb (upd (upd mv 25 (nI x0)) 29 (nI x0))))) ((va_up_ne ML0 (.inr (12, modF ad mb (upd (upd mv 25 (nI x0)) 29 (nI x0)))) (show mb + 23 ≠ mb by omega)).trans ((fL0 (mb + 23) (by omega)).trans m_mb_23)) (by first | assumption | exact k26 | omega) hen hT (by first | assumption | exact k26 | omega)) X hK hP hS hl.1 rfl gX13_stepOn_X13_byteAt yd_X13_byteAt ⟨Nat.le_of_ble_eq_true rfl, Nat.le_of_ble_eq_true rfl⟩ h_mb (va_up_self ML0 mb (.inr (12, modF ad mb (upd (upd mv 25 (nI x0)) 29 (nI x0))))) (ci := 12) rfl rfl (Nat.le_of_ble_eq_true rfl) ⟨Nat.zero_le _, Nat.zero_le _⟩ dX13_stepOn_52 ?_
          refine lv_istore_n (lv' := [(1, .int (s_X9_byteAt (nI en) tapeF (nI x0))), (0, .ref (ad mb))]) hx hb dX13_stepOn_55 rfl hl (by decide) rfl (fun ls hl => ?_)
          refine lv_iload_n hx hb dX13_stepOn_56 rfl (lv_at hl 0 rfl) ?_
          refine lv_iconst (v := (-1)) hx hb dX13_stepOn_57 (by decide) ?_
          refine lv_icmp_ne (tgt := 69) hx hb dX13_stepOn_58 (by decide) (fun c_58 => ?_) (fun c_58 => ?_)
          · skip
            refine lv_iload_n hx hb dX13_stepOn_69 rfl (lv_at hl 0 rfl) ?_
            refine q_rdS (As := [.int (s_X9_byteAt (nI en) tapeF (nI x0))]) (rest := []) (c_X13_isLetter l D cB cI cJ ad n (va_up ML0 mb (.inr (12, modF ad mb (upd (upd mv 25 (nI x0)) 29 (nI x0))))) (s_X9_byteAt (nI en) tapeF (nI x0))   ) X hK hP hS hl.1 rfl gX13_stepOn_X13_isLetter yd_X13_isLetter ⟨Nat.le_of_ble_eq_true rfl, Nat.le_of_ble_eq_true rfl⟩ rfl (Nat.le_of_ble_eq_true rfl) ⟨Nat.zero_le _, Nat.zero_le _⟩ dX13_stepOn_70 ?_
            refine lv_if_eq (tgt := 111) hx hb dX13_stepOn_73 (by decide) (fun c_73 => ?_) (fun c_73 => ?_)
            · skip
              refine lv_iload_n hx hb dX13_stepOn_111 rfl (lv_at hl 0 rfl) ?_
              refine q_rdS (As := [.int (s_X9_byteAt (nI en) tapeF (nI x0))]) (rest := []) (c_X13_isDigit l D cB cI cJ ad n (va_up ML0 mb (.inr (12, modF ad mb (upd (upd mv 25 (nI x0)) 29 (nI x0))))) (s_X9_byteAt (nI en) tapeF (nI x0))   ) X hK hP hS hl.1 rfl gX13_stepOn_X13_isDigit yd_X13_isDigit ⟨Nat.le_of_ble_eq_true rfl, Nat.le_of_ble_eq_true rfl⟩ rfl (Nat.le_of_ble_eq_true rfl) ⟨Nat.zero_le _, Nat.zero_le _⟩ dX13_stepOn_112 ?_
              refine lv_if_eq (tgt := 186) hx hb dX13_stepOn_115 (by decide) (fun c_115 => ?_) (fun c_115 => ?_)
              · skip
                have htk := tk_sgn (x := x) hen (by rw [hm0]; exact c_58) (by rw [hm0]; exact c_73) (by rw [hm0]; exact c_115); rw [hm0] at htk
                refine lv_aload_n hx hb dX13_stepOn_186 rfl (lv_at hl 1 rfl) ?_
                refine lv_dup hx hb dX13_stepOn_187 rfl ?_
                refine q_get (v := .int (nI x0)) (fs := modF ad mb (upd (upd mv 25 (nI x0)) 29 (nI x0))) X hK hP fX13_stepOn_186 h_mb (va_up_self ML0 mb (.inr (12, modF ad mb (upd (upd mv 25 (nI x0)) 29 (nI x0))))) rfl dX13_stepOn_188 ?_
                refine lv_iconst (v := 1) hx hb dX13_stepOn_191 (by decide) ?_
                refine lv_iadd hx hb dX13_stepOn_192 ?_
                refine q_put (fs := modF ad mb (upd (upd mv 25 (nI x0)) 29 (nI x0))) (fs' := modF ad mb (upd (upd (upd mv 25 (nI x0)) 29 (nI x0)) 25 ((nI x0) + 1))) X hK hI hP hS fX13_stepOn_186 fw_12_25 h_mb (va_up_self ML0 mb (.inr (12, modF ad mb (upd (upd mv 25 (nI x0)) 29 (nI x0))))) rfl rfl (Nat.le_of_ble_eq_true rfl) rfl dX13_stepOn_193 (fun H locs hP hS => ?_)
                refine lv_aload_n hx hb dX13_stepOn_196 rfl (lv_at hl 1 rfl) ?_
                refine lv_iload_n hx hb dX13_stepOn_197 rfl (lv_at hl 0 rfl) ?_
                refine q_rdS (As := [.int (s_X9_byteAt (nI en) tapeF (nI x0))]) (rest := [.ref (ad mb)]) (c_X13_isMark l D cB cI cJ ad n (va_up (va_up ML0 mb (.inr (12, modF ad mb (upd (upd mv 25 (nI x0)) 29 (nI x0))))) mb (.inr (12, modF ad mb (upd (upd (upd mv 25 (nI x0)) 29 (nI x0)) 25 ((nI x0) + 1))))) (s_X9_byteAt (nI en) tapeF (nI x0))   ) X hK hP hS hl.1 rfl gX13_stepOn_X13_isMark yd_X13_isMark ⟨Nat.le_of_ble_eq_true rfl, Nat.le_of_ble_eq_true rfl⟩ rfl (Nat.le_of_ble_eq_true rfl) ⟨Nat.zero_le _, Nat.zero_le _⟩ dX13_stepOn_198 ?_
                refine lv_if_eq (tgt := 208) hx hb dX13_stepOn_201 (by decide) (fun c_201 => ?_) (fun c_201 => ?_)
                · skip
                  refine lv_iconst (v := 4) hx hb dX13_stepOn_208 (by decide) ?_
                  refine q_put (fs := modF ad mb (upd (upd (upd mv 25 (nI x0)) 29 (nI x0)) 25 ((nI x0) + 1))) (fs' := modF ad mb (upd (upd (upd (upd mv 25 (nI x0)) 29 (nI x0)) 25 ((nI x0) + 1)) 27 4)) X hK hI hP hS fX13_stepOn_196 fw_12_27 h_mb (va_up_self (va_up ML0 mb (.inr (12, modF ad mb (upd (upd mv 25 (nI x0)) 29 (nI x0))))) mb (.inr (12, modF ad mb (upd (upd (upd mv 25 (nI x0)) 29 (nI x0)) 25 ((nI x0) + 1))))) rfl rfl (Nat.le_of_ble_eq_true rfl) rfl dX13_stepOn_209 (fun H locs hP hS => ?_)
                  refine lv_aload_n hx hb dX13_stepOn_212 rfl (lv_at hl 1 rfl) ?_
                  refine lv_aload_n hx hb dX13_stepOn_213 rfl (lv_at hl 1 rfl) ?_
                  refine q_get (v := .int ((nI x0) + 1)) (fs := modF ad mb (upd (upd (upd (upd mv 25 (nI x0)) 29 (nI x0)) 25 ((nI x0) + 1)) 27 4)) X hK hP fX13_stepOn_186 h_mb (va_up_self (va_up (va_up ML0 mb (.inr (12, modF ad mb (upd (upd mv 25 (nI x0)) 29 (nI x0))))) mb (.inr (12, modF ad mb (upd (upd (upd mv 25 (nI x0)) 29 (nI x0)) 25 ((nI x0) + 1))))) mb (.inr (12, modF ad mb (upd (upd (upd (upd mv 25 (nI x0)) 29 (nI x0)) 25 ((nI x0) + 1)) 27 4)))) rfl dX13_stepOn_214 ?_
                  refine q_put (fs := modF ad mb (upd (upd (upd (upd mv 25 (nI x0)) 29 (nI x0)) 25 ((nI x0) + 1)) 27 4)) (fs' := modF ad mb (upd (upd (upd (upd (upd mv 25 (nI x0)) 29 (nI x0)) 25 ((nI x0) + 1)) 27 4) 30 ((nI x0) + 1))) X hK hI hP hS fX13_stepOn_219 fw_12_30 h_mb (va_up_self (va_up (va_up ML0 mb (.inr (12, modF ad mb (upd (upd mv 25 (nI x0)) 29 (nI x0))))) mb (.inr (12, modF ad mb (upd (upd (upd mv 25 (nI x0)) 29 (nI x0)) 25 ((nI x0) + 1))))) mb (.inr (12, modF ad mb (upd (upd (upd (upd mv 25 (nI x0)) 29 (nI x0)) 25 ((nI x0) + 1)) 27 4)))) rfl rfl (Nat.le_of_ble_eq_true rfl) rfl dX13_stepOn_217 (fun H locs hP hS => ?_)
                  exact q_wvret X hr hlocks hP hS ⟨(by exact (va_up_self (va_up (va_up (va_up ML0 mb (.inr (12, modF ad mb (upd (upd mv 25 (nI x0)) 29 (nI x0))))) mb (.inr (12, modF ad mb (upd (upd (upd mv 25 (nI x0)) 29 (nI x0)) 25 ((nI x0) + 1))))) mb (.inr (12, modF ad mb (upd (upd (upd (upd mv 25 (nI x0)) 29 (nI x0)) 25 ((nI x0) + 1)) 27 4)))) mb (.inr (12, modF ad mb (upd (upd (upd (upd (upd mv 25 (nI x0)) 29 (nI x0)) 25 ((nI x0) + 1)) 27 4) 30 ((nI x0) + 1))))).trans (modC (by first | (rw [mvS, mnX, hm0, htk.1, htk.2, if_neg (by decide)]; funext j9; simp only [upd] <;> (repeat' split) <;> first | rfl | (exfalso; omega) | (subst_vars; first | rfl | assumption | exact nI_1 _ | (symm; assumption)); done) | (rw [mvS, mnX, hm0, htk.1, hnx, if_neg (by decide)]; funext j9; simp only [upd] <;> (repeat' split) <;> first | rfl | (exfalso; omega) | (subst_vars; first | rfl | assumption | exact nI_1 _ | (symm; assumption)); done) | (rw [mvS, mnX, hm0, htk.1, hnx, if_pos rfl]; funext j9; simp only [upd] <;> (repeat' split) <;> first | rfl | (exfalso; omega) | (subst_vars; first | rfl | assumption | exact nI_1 _ | (symm; assumption)); done) | (rw [mvS, mnX, hm0, htk.1, htk.2.1 c_201, if_neg (by decide)]; funext j9; simp only [upd] <;> (repeat' split) <;> first | rfl | (exfalso; omega) | (subst_vars; first | rfl | assumption | exact nI_1 _ | (symm; assumption)); done) | (rw [mvS, mnX, hm0, htk.1, htk.2.2 c_201, if_neg (sgn_k c_201).2.2.1, mkT, if_neg (sgn_k c_201).1, if_neg (sgn_k c_201).2.1, if_neg (sgn_k c_201).2.2.1, if_neg (sgn_k c_201).2.2.2]; funext j9; simp only [upd] <;> (repeat' split) <;> first | rfl | (exfalso; omega) | (subst_vars; first | rfl | assumption | exact nI_1 _ | (symm; assumption)); done)))), (fun q n0 => ((va_up_ne _ _ n0).trans ((va_up_ne _ _ n0).trans ((va_up_ne _ _ n0).trans ((va_up_ne _ _ n0).trans (fL0 q n0))))))⟩ dX13_stepOn_220
                · skip
                  refine lv_iconst (v := 3) hx hb dX13_stepOn_204 (by decide) ?_
                  refine lv_goto (tgt := 209) hx hb dX13_stepOn_205 (by decide) ?_
                  refine q_put (fs := modF ad mb (upd (upd (upd mv 25 (nI x0)) 29 (nI x0)) 25 ((nI x0) + 1))) (fs' := modF ad mb (upd (upd (upd (upd mv 25 (nI x0)) 29 (nI x0)) 25 ((nI x0) + 1)) 27 3)) X hK hI hP hS fX13_stepOn_196 fw_12_27 h_mb (va_up_self (va_up ML0 mb (.inr (12, modF ad mb (upd (upd mv 25 (nI x0)) 29 (nI x0))))) mb (.inr (12, modF ad mb (upd (upd (upd mv 25 (nI x0)) 29 (nI x0)) 25 ((nI x0) + 1))))) rfl rfl (Nat.le_of_ble_eq_true rfl) rfl dX13_stepOn_209 (fun H locs hP hS => ?_)
                  refine lv_aload_n hx hb dX13_stepOn_212 rfl (lv_at hl 1 rfl) ?_
                  refine lv_aload_n hx hb dX13_stepOn_213 rfl (lv_at hl 1 rfl) ?_
                  refine q_get (v := .int ((nI x0) + 1)) (fs := modF ad mb (upd (upd (upd (upd mv 25 (nI x0)) 29 (nI x0)) 25 ((nI x0) + 1)) 27 3)) X hK hP fX13_stepOn_186 h_mb (va_up_self (va_up (va_up ML0 mb (.inr (12, modF ad mb (upd (upd mv 25 (nI x0)) 29 (nI x0))))) mb (.inr (12, modF ad mb (upd (upd (upd mv 25 (nI x0)) 29 (nI x0)) 25 ((nI x0) + 1))))) mb (.inr (12, modF ad mb (upd (upd (upd (upd mv 25 (nI x0)) 29 (nI x0)) 25 ((nI x0) + 1)) 27 3)))) rfl dX13_stepOn_214 ?_
                  refine q_put (fs := modF ad mb (upd (upd (upd (upd mv 25 (nI x0)) 29 (nI x0)) 25 ((nI x0) + 1)) 27 3)) (fs' := modF ad mb (upd (upd (upd (upd (upd mv 25 (nI x0)) 29 (nI x0)) 25 ((nI x0) + 1)) 27 3) 30 ((nI x0) + 1))) X hK hI hP hS fX13_stepOn_219 fw_12_30 h_mb (va_up_self (va_up (va_up ML0 mb (.inr (12, modF ad mb (upd (upd mv 25 (nI x0)) 29 (nI x0))))) mb (.inr (12, modF ad mb (upd (upd (upd mv 25 (nI x0)) 29 (nI x0)) 25 ((nI x0) + 1))))) mb (.inr (12, modF ad mb (upd (upd (upd (upd mv 25 (nI x0)) 29 (nI x0)) 25 ((nI x0) + 1)) 27 3)))) rfl rfl (Nat.le_of_ble_eq_true rfl) rfl dX13_stepOn_217 (fun H locs hP hS => ?_)
                  exact q_wvret X hr hlocks hP hS ⟨(by exact (va_up_self (va_up (va_up (va_up ML0 mb (.inr (12, modF ad mb (upd (upd mv 25 (nI x0)) 29 (nI x0))))) mb (.inr (12, modF ad mb (upd (upd (upd mv 25 (nI x0)) 29 (nI x0)) 25 ((nI x0) + 1))))) mb (.inr (12, modF ad mb (upd (upd (upd (upd mv 25 (nI x0)) 29 (nI x0)) 25 ((nI x0) + 1)) 27 3)))) mb (.inr (12, modF ad mb (upd (upd (upd (upd (upd mv 25 (nI x0)) 29 (nI x0)) 25 ((nI x0) + 1)) 27 3) 30 ((nI x0) + 1))))).trans (modC (by first | (rw [mvS, mnX, hm0, htk.1, htk.2, if_neg (by decide)]; funext j9; simp only [upd] <;> (repeat' split) <;> first | rfl | (exfalso; omega) | (subst_vars; first | rfl | assumption | exact nI_1 _ | (symm; assumption)); done) | (rw [mvS, mnX, hm0, htk.1, hnx, if_neg (by decide)]; funext j9; simp only [upd] <;> (repeat' split) <;> first | rfl | (exfalso; omega) | (subst_vars; first | rfl | assumption | exact nI_1 _ | (symm; assumption)); done) | (rw [mvS, mnX, hm0, htk.1, hnx, if_pos rfl]; funext j9; simp only [upd] <;> (repeat' split) <;> first | rfl | (exfalso; omega) | (subst_vars; first | rfl | assumption | exact nI_1 _ | (symm; assumption)); done) | (rw [mvS, mnX, hm0, htk.1, htk.2.1 c_201, if_neg (by decide)]; funext j9; simp only [upd] <;> (repeat' split) <;> first | rfl | (exfalso; omega) | (subst_vars; first | rfl | assumption | exact nI_1 _ | (symm; assumption)); done) | (rw [mvS, mnX, hm0, htk.1, htk.2.2 c_201, if_neg (sgn_k c_201).2.2.1, mkT, if_neg (sgn_k c_201).1, if_neg (sgn_k c_201).2.1, if_neg (sgn_k c_201).2.2.1, if_neg (sgn_k c_201).2.2.2]; funext j9; simp only [upd] <;> (repeat' split) <;> first | rfl | (exfalso; omega) | (subst_vars; first | rfl | assumption | exact nI_1 _ | (symm; assumption)); done)))), (fun q n0 => ((va_up_ne _ _ n0).trans ((va_up_ne _ _ n0).trans ((va_up_ne _ _ n0).trans ((va_up_ne _ _ n0).trans (fL0 q n0))))))⟩ dX13_stepOn_220
              · skip
                have htk := tk_dig (x := x) (by rw [hm0]; exact c_73) (by rw [hm0]; exact c_115); rw [hm0] at htk
                refine lv_aload_n hx hb dX13_stepOn_118 rfl (lv_at hl 1 rfl) ?_
                refine lv_iconst (v := 0) hx hb dX13_stepOn_119 (by decide) ?_
                refine q_put (fs := modF ad mb (upd (upd mv 25 (nI x0)) 29 (nI x0))) (fs' := modF ad mb (upd (upd (upd mv 25 (nI x0)) 29 (nI x0)) 28 0)) X hK hI hP hS fX13_stepOn_206 fw_12_28 h_mb (va_up_self ML0 mb (.inr (12, modF ad mb (upd (upd mv 25 (nI x0)) 29 (nI x0))))) rfl rfl (Nat.le_of_ble_eq_true rfl) rfl dX13_stepOn_120 (fun H locs hP hS => ?_)
                have loop_123 : ∀ (fuel : Nat) (x1 r7 : Nat), en - x1 < fuel → (x1 ≤ en) → (x0 ≤ x1) → (en < x1 + r7) → ((if x1 = x0 then rgS en tapeF 0 (s_X9_isDigit (s_X9_byteAt (nI en) tapeF (nI x0))) 701 (x0 + 1) else rgS en tapeF 0 (s_X9_isDigit (s_X9_byteAt (nI en) tapeF (nI x0))) r7 x1) = nX en tapeF x) → ∀ (ML123 : Nat → va_E) (H : Heap) (locs : List Loc), ML123 mb = .inr (12, modF ad mb (upd (upd (upd mv 25 (nI x1)) 29 (nI x0)) 28 (mnS en tapeF x0 (x1 - x0)))) → (∀ q : Nat, q ≠ mb → ML123 q = M q) → va_P D vwCl (ip ad n ML123) H → va_S (ipA ad n) s.heap H locs → ∀ (ls : Array Slot), lv_has ls 2 [(0, .ref (ad mb))] → W p l e (rmOf 1 21) s m args below meth c H locs 0 0 (MQ below (va_Qv (fun M' => M' mb = .inr (12, modF ad mb (mvS en tapeF mv x)) ∧ ∀ q : Nat, q ≠ mb → M' q = M q) (fun M' t => va_P D vwCl (ip ad n M') t.heap) (ipA ad n)) args s 0 0 (ipA ad n)) (F0 m 123 ls []) := by
                  intro fuel
                  induction fuel with
                  | zero =>
                    intro x1 r7 hz
                    exact absurd hz (Nat.not_lt_zero _)
                  | succ fuel ih_123 =>
                    intro x1 r7 hz_123 hx1 hx2 hr7 hs1 ML123 H locs mL123_0 fL123 hP hS ls hl
                    skip
                    refine lv_aload_n hx hb dX13_stepOn_123 rfl (lv_at hl 0 rfl) ?_
                    refine lv_aload_n hx hb dX13_stepOn_124 rfl (lv_at hl 0 rfl) ?_
                    refine q_get (v := .int (nI x1)) (fs := modF ad mb (upd (upd (upd mv 25 (nI x1)) 29 (nI x0)) 28 (mnS en tapeF x0 (x1 - x0)))) X hK hP fX13_stepOn_186 h_mb mL123_0 rfl dX13_stepOn_125 ?_
                    refine q_rdV (As := [.int (nI x1)]) (rest := []) (c_X13_byteAt l D cB cI cJ ad n ML123 mb (upd (upd (upd mv 25 (nI x1)) 29 (nI x0)) 28 (mnS en tapeF x0 (x1 - x0))) tapeF en x1 h_mb h_mb_23 mL123_0 ((fL123 (mb + 23) (by omega)).trans m_mb_23) (by first | assumption | exact k26 | omega) hen hT (by first | assumption | exact k26 | omega)) X hK hP hS hl.1 rfl gX13_stepOn_X13_byteAt yd_X13_byteAt ⟨Nat.le_of_ble_eq_true rfl, Nat.le_of_ble_eq_true rfl⟩ h_mb mL123_0 (ci := 12) rfl rfl (Nat.le_of_ble_eq_true rfl) ⟨Nat.zero_le _, Nat.zero_le _⟩ dX13_stepOn_128 ?_
                    refine q_rdS (As := [.int (s_X9_byteAt (nI en) tapeF (nI x1))]) (rest := []) (c_X13_isDigit l D cB cI cJ ad n ML123 (s_X9_byteAt (nI en) tapeF (nI x1))   ) X hK hP hS hl.1 rfl gX13_stepOn_X13_isDigit yd_X13_isDigit ⟨Nat.le_of_ble_eq_true rfl, Nat.le_of_ble_eq_true rfl⟩ rfl (Nat.le_of_ble_eq_true rfl) ⟨Nat.zero_le _, Nat.zero_le _⟩ dX13_stepOn_131 ?_
                    refine lv_if_eq (tgt := 178) hx hb dX13_stepOn_134 (by decide) (fun c_134 => ?_) (fun c_134 => ?_)
                    · skip
                      have hnx : nX en tapeF x = x1 := rge hs1 (fun q9 => c_115 (q9 ▸ c_134)) (rg_stopD c_134)
                      refine lv_aload_n hx hb dX13_stepOn_178 rfl (lv_at hl 0 rfl) ?_
                      refine lv_iconst (v := 2) hx hb dX13_stepOn_179 (by decide) ?_
                      refine q_put (fs := modF ad mb (upd (upd (upd mv 25 (nI x1)) 29 (nI x0)) 28 (mnS en tapeF x0 (x1 - x0)))) (fs' := modF ad mb (upd (upd (upd (upd mv 25 (nI x1)) 29 (nI x0)) 28 (mnS en tapeF x0 (x1 - x0))) 27 2)) X hK hI hP hS fX13_stepOn_196 fw_12_27 h_mb mL123_0 rfl rfl (Nat.le_of_ble_eq_true rfl) rfl dX13_stepOn_180 (fun H locs hP hS => ?_)
                      refine lv_goto (tgt := 212) hx hb dX13_stepOn_183 (by decide) ?_
                      refine lv_aload_n hx hb dX13_stepOn_212 rfl (lv_at hl 0 rfl) ?_
                      refine lv_aload_n hx hb dX13_stepOn_213 rfl (lv_at hl 0 rfl) ?_
                      refine q_get (v := .int (nI x1)) (fs := modF ad mb (upd (upd (upd (upd mv 25 (nI x1)) 29 (nI x0)) 28 (mnS en tapeF x0 (x1 - x0))) 27 2)) X hK hP fX13_stepOn_186 h_mb (va_up_self ML123 mb (.inr (12, modF ad mb (upd (upd (upd (upd mv 25 (nI x1)) 29 (nI x0)) 28 (mnS en tapeF x0 (x1 - x0))) 27 2)))) rfl dX13_stepOn_214 ?_
                      refine q_put (fs := modF ad mb (upd (upd (upd (upd mv 25 (nI x1)) 29 (nI x0)) 28 (mnS en tapeF x0 (x1 - x0))) 27 2)) (fs' := modF ad mb (upd (upd (upd (upd (upd mv 25 (nI x1)) 29 (nI x0)) 28 (mnS en tapeF x0 (x1 - x0))) 27 2) 30 (nI x1))) X hK hI hP hS fX13_stepOn_219 fw_12_30 h_mb (va_up_self ML123 mb (.inr (12, modF ad mb (upd (upd (upd (upd mv 25 (nI x1)) 29 (nI x0)) 28 (mnS en tapeF x0 (x1 - x0))) 27 2)))) rfl rfl (Nat.le_of_ble_eq_true rfl) rfl dX13_stepOn_217 (fun H locs hP hS => ?_)
                      exact q_wvret X hr hlocks hP hS ⟨(by exact (va_up_self (va_up ML123 mb (.inr (12, modF ad mb (upd (upd (upd (upd mv 25 (nI x1)) 29 (nI x0)) 28 (mnS en tapeF x0 (x1 - x0))) 27 2)))) mb (.inr (12, modF ad mb (upd (upd (upd (upd (upd mv 25 (nI x1)) 29 (nI x0)) 28 (mnS en tapeF x0 (x1 - x0))) 27 2) 30 (nI x1))))).trans (modC (by first | (rw [mvS, mnX, hm0, htk.1, htk.2, if_neg (by decide)]; funext j9; simp only [upd] <;> (repeat' split) <;> first | rfl | (exfalso; omega) | (subst_vars; first | rfl | assumption | exact nI_1 _ | (symm; assumption)); done) | (rw [mvS, mnX, hm0, htk.1, hnx, if_neg (by decide)]; funext j9; simp only [upd] <;> (repeat' split) <;> first | rfl | (exfalso; omega) | (subst_vars; first | rfl | assumption | exact nI_1 _ | (symm; assumption)); done) | (rw [mvS, mnX, hm0, htk.1, hnx, if_pos rfl]; funext j9; simp only [upd] <;> (repeat' split) <;> first | rfl | (exfalso; omega) | (subst_vars; first | rfl | assumption | exact nI_1 _ | (symm; assumption)); done) | (rw [mvS, mnX, hm0, htk.1, htk.2.1 {c201}, if_neg (by decide)]; funext j9; simp only [upd] <;> (repeat' split) <;> first | rfl | (exfalso; omega) | (subst_vars; first | rfl | assumption | exact nI_1 _ | (symm; assumption)); done) | (rw [mvS, mnX, hm0, htk.1, htk.2.2 {c201}, if_neg (sgn_k {c201}).2.2.1, mkT, if_neg (sgn_k {c201}).1, if_neg (sgn_k {c201}).2.1, if_neg (sgn_k {c201}).2.2.1, if_neg (sgn_k {c201}).2.2.2]; funext j9; simp only [upd] <;> (repeat' split) <;> first | rfl | (exfalso; omega) | (subst_vars; first | rfl | assumption | exact nI_1 _ | (symm; assumption)); done)))), (fun q n0 => ((va_up_ne _ _ n0).trans ((va_up_ne _ _ n0).trans (fL123 q n0))))⟩ dX13_stepOn_220
                    · skip
                      have hlt9 := lt_of_digit hen hx1 c_134
                      refine lv_aload_n hx hb dX13_stepOn_137 rfl (lv_at hl 0 rfl) ?_
                      refine lv_ldc (v := 100000) hx hb hown (hts _ (by decide +kernel)) dX13_stepOn_138 ?_
                      refine lv_bipush (v := 10) hx hb dX13_stepOn_140 (by decide) ?_
                      refine lv_aload_n hx hb dX13_stepOn_142 rfl (lv_at hl 0 rfl) ?_
                      refine q_get (v := .int (mnS en tapeF x0 (x1 - x0))) (fs := modF ad mb (upd (upd (upd mv 25 (nI x1)) 29 (nI x0)) 28 (mnS en tapeF x0 (x1 - x0)))) X hK hP fX13_stepOn_206 h_mb mL123_0 rfl dX13_stepOn_143 ?_
                      refine lv_imul hx hb dX13_stepOn_146 ?_
                      refine lv_aload_n hx hb dX13_stepOn_147 rfl (lv_at hl 0 rfl) ?_
                      refine lv_aload_n hx hb dX13_stepOn_148 rfl (lv_at hl 0 rfl) ?_
                      refine q_get (v := .int (nI x1)) (fs := modF ad mb (upd (upd (upd mv 25 (nI x1)) 29 (nI x0)) 28 (mnS en tapeF x0 (x1 - x0)))) X hK hP fX13_stepOn_186 h_mb mL123_0 rfl dX13_stepOn_149 ?_
                      refine q_rdV (As := [.int (nI x1)]) (rest := [.int (10 * (mnS en tapeF x0 (x1 - x0))), .int 100000, .ref (ad mb)]) (c_X13_byteAt l D cB cI cJ ad n ML123 mb (upd (upd (upd mv 25 (nI x1)) 29 (nI x0)) 28 (mnS en tapeF x0 (x1 - x0))) tapeF en x1 h_mb h_mb_23 mL123_0 ((fL123 (mb + 23) (by omega)).trans m_mb_23) (by first | assumption | exact k26 | omega) hen hT (by first | assumption | exact k26 | omega)) X hK hP hS hl.1 rfl gX13_stepOn_X13_byteAt yd_X13_byteAt ⟨Nat.le_of_ble_eq_true rfl, Nat.le_of_ble_eq_true rfl⟩ h_mb mL123_0 (ci := 12) rfl rfl (Nat.le_of_ble_eq_true rfl) ⟨Nat.zero_le _, Nat.zero_le _⟩ dX13_stepOn_152 ?_
                      refine lv_iadd hx hb dX13_stepOn_155 ?_
                      refine lv_bipush (v := 48) hx hb dX13_stepOn_156 (by decide) ?_
                      refine lv_isub hx hb dX13_stepOn_158 ?_
                      refine q_min X hl.1 (by decide +kernel) (by decide +kernel) (by decide +kernel) (by decide +kernel) ⟨Nat.le_of_ble_eq_true rfl, Nat.le_of_ble_eq_true rfl⟩ (Nat.le_of_ble_eq_true rfl) ⟨Nat.zero_le _, Nat.zero_le _⟩ dX13_stepOn_159 ?_
                      refine q_put (fs := modF ad mb (upd (upd (upd mv 25 (nI x1)) 29 (nI x0)) 28 (mnS en tapeF x0 (x1 - x0)))) (fs' := modF ad mb (upd (upd (upd (upd mv 25 (nI x1)) 29 (nI x0)) 28 (mnS en tapeF x0 (x1 - x0))) 28 (imin 100000 (((10 * (mnS en tapeF x0 (x1 - x0))) + (s_X9_byteAt (nI en) tapeF (nI x1))) - 48)))) X hK hI hP hS fX13_stepOn_206 fw_12_28 h_mb mL123_0 rfl rfl (Nat.le_of_ble_eq_true rfl) rfl dX13_stepOn_162 (fun H locs hP hS => ?_)
                      refine lv_aload_n hx hb dX13_stepOn_165 rfl (lv_at hl 0 rfl) ?_
                      refine lv_dup hx hb dX13_stepOn_166 rfl ?_
                      refine q_get (v := .int (nI x1)) (fs := modF ad mb (upd (upd (upd (upd mv 25 (nI x1)) 29 (nI x0)) 28 (mnS en tapeF x0 (x1 - x0))) 28 (imin 100000 (((10 * (mnS en tapeF x0 (x1 - x0))) + (s_X9_byteAt (nI en) tapeF (nI x1))) - 48)))) X hK hP fX13_stepOn_186 h_mb (va_up_self ML123 mb (.inr (12, modF ad mb (upd (upd (upd (upd mv 25 (nI x1)) 29 (nI x0)) 28 (mnS en tapeF x0 (x1 - x0))) 28 (imin 100000 (((10 * (mnS en tapeF x0 (x1 - x0))) + (s_X9_byteAt (nI en) tapeF (nI x1))) - 48)))))) rfl dX13_stepOn_167 ?_
                      refine lv_iconst (v := 1) hx hb dX13_stepOn_170 (by decide) ?_
                      refine lv_iadd hx hb dX13_stepOn_171 ?_
                      refine q_put (fs := modF ad mb (upd (upd (upd (upd mv 25 (nI x1)) 29 (nI x0)) 28 (mnS en tapeF x0 (x1 - x0))) 28 (imin 100000 (((10 * (mnS en tapeF x0 (x1 - x0))) + (s_X9_byteAt (nI en) tapeF (nI x1))) - 48)))) (fs' := modF ad mb (upd (upd (upd (upd (upd mv 25 (nI x1)) 29 (nI x0)) 28 (mnS en tapeF x0 (x1 - x0))) 28 (imin 100000 (((10 * (mnS en tapeF x0 (x1 - x0))) + (s_X9_byteAt (nI en) tapeF (nI x1))) - 48))) 25 ((nI x1) + 1))) X hK hI hP hS fX13_stepOn_186 fw_12_25 h_mb (va_up_self ML123 mb (.inr (12, modF ad mb (upd (upd (upd (upd mv 25 (nI x1)) 29 (nI x0)) 28 (mnS en tapeF x0 (x1 - x0))) 28 (imin 100000 (((10 * (mnS en tapeF x0 (x1 - x0))) + (s_X9_byteAt (nI en) tapeF (nI x1))) - 48)))))) rfl rfl (Nat.le_of_ble_eq_true rfl) rfl dX13_stepOn_172 (fun H locs hP hS => ?_)
                      refine lv_goto (tgt := 123) hx hb dX13_stepOn_175 (by decide) ?_
                      exact ih_123 (x1 + 1) (if x1 = x0 then 701 else r7 - 1) (by omega) (by omega) (by omega) (by split <;> omega) (by exact rgb hx2 hr7 hx1 (fun r => rg_goD hen hx1 c_115 c_134 r) hs1) _ _ _ (by exact (va_up_self (va_up ML123 mb (.inr (12, modF ad mb (upd (upd (upd (upd mv 25 (nI x1)) 29 (nI x0)) 28 (mnS en tapeF x0 (x1 - x0))) 28 (imin 100000 (((10 * (mnS en tapeF x0 (x1 - x0))) + (s_X9_byteAt (nI en) tapeF (nI x1))) - 48)))))) mb (.inr (12, modF ad mb (upd (upd (upd (upd (upd mv 25 (nI x1)) 29 (nI x0)) 28 (mnS en tapeF x0 (x1 - x0))) 28 (imin 100000 (((10 * (mnS en tapeF x0 (x1 - x0))) + (s_X9_byteAt (nI en) tapeF (nI x1))) - 48))) 25 ((nI x1) + 1))))).trans (modC (by rw [show x1 + 1 - x0 = (x1 - x0) + 1 by omega, mnS, show x0 + (x1 - x0) = x1 by omega]; funext j9; simp only [upd] <;> (repeat' split) <;> first | rfl | (exfalso; omega) | (subst_vars; first | rfl | assumption | exact nI_1 _ | (symm; assumption))))) (fun q n0 => ((va_up_ne _ _ n0).trans ((va_up_ne _ _ n0).trans (fL123 q n0)))) hP hS ls (lv_sub hl [0] rfl)
                exact loop_123 (702) x0 701 (by omega) (by omega) (by omega) (by omega) (by rw [if_pos rfl]; exact (htk.2).symm) _ _ _ (by exact (va_up_self (va_up ML0 mb (.inr (12, modF ad mb (upd (upd mv 25 (nI x0)) 29 (nI x0))))) mb (.inr (12, modF ad mb (upd (upd (upd mv 25 (nI x0)) 29 (nI x0)) 28 0)))).trans (modC (by rw [Nat.sub_self, mnS] <;> (funext j9; simp only [upd] <;> (repeat' split) <;> first | rfl | (exfalso; omega) | (subst_vars; first | rfl | assumption | exact nI_1 _ | (symm; assumption)))))) (fun q n0 => ((va_up_ne _ _ n0).trans ((va_up_ne _ _ n0).trans (fL0 q n0)))) hP hS ls (lv_sub hl [1] rfl)
            · skip
              have htk := tk_let (x := x) (by rw [hm0]; exact c_73); rw [hm0] at htk
              have loop_76 : ∀ (fuel : Nat) (x1 r7 : Nat), en - x1 < fuel → (x1 ≤ en) → (x0 ≤ x1) → (en < x1 + r7) → ((if x1 = x0 then rgS en tapeF (s_X9_isLetter (s_X9_byteAt (nI en) tapeF (nI x0))) 0 701 (x0 + 1) else rgS en tapeF (s_X9_isLetter (s_X9_byteAt (nI en) tapeF (nI x0))) 0 r7 x1) = nX en tapeF x) → ∀ (ML76 : Nat → va_E) (H : Heap) (locs : List Loc), ML76 mb = .inr (12, modF ad mb (upd (upd mv 25 (nI x1)) 29 (nI x0))) → (∀ q : Nat, q ≠ mb → ML76 q = M q) → va_P D vwCl (ip ad n ML76) H → va_S (ipA ad n) s.heap H locs → ∀ (ls : Array Slot), lv_has ls 2 [(0, .ref (ad mb))] → W p l e (rmOf 1 21) s m args below meth c H locs 0 0 (MQ below (va_Qv (fun M' => M' mb = .inr (12, modF ad mb (mvS en tapeF mv x)) ∧ ∀ q : Nat, q ≠ mb → M' q = M q) (fun M' t => va_P D vwCl (ip ad n M') t.heap) (ipA ad n)) args s 0 0 (ipA ad n)) (F0 m 76 ls []) := by
                intro fuel
                induction fuel with
                | zero =>
                  intro x1 r7 hz
                  exact absurd hz (Nat.not_lt_zero _)
                | succ fuel ih_76 =>
                  intro x1 r7 hz_76 hx1 hx2 hr7 hs1 ML76 H locs mL76_0 fL76 hP hS ls hl
                  skip
                  refine lv_aload_n hx hb dX13_stepOn_76 rfl (lv_at hl 0 rfl) ?_
                  refine lv_aload_n hx hb dX13_stepOn_77 rfl (lv_at hl 0 rfl) ?_
                  refine q_get (v := .int (nI x1)) (fs := modF ad mb (upd (upd mv 25 (nI x1)) 29 (nI x0))) X hK hP fX13_stepOn_186 h_mb mL76_0 rfl dX13_stepOn_78 ?_
                  refine q_rdV (As := [.int (nI x1)]) (rest := []) (c_X13_byteAt l D cB cI cJ ad n ML76 mb (upd (upd mv 25 (nI x1)) 29 (nI x0)) tapeF en x1 h_mb h_mb_23 mL76_0 ((fL76 (mb + 23) (by omega)).trans m_mb_23) (by first | assumption | exact k26 | omega) hen hT (by first | assumption | exact k26 | omega)) X hK hP hS hl.1 rfl gX13_stepOn_X13_byteAt yd_X13_byteAt ⟨Nat.le_of_ble_eq_true rfl, Nat.le_of_ble_eq_true rfl⟩ h_mb mL76_0 (ci := 12) rfl rfl (Nat.le_of_ble_eq_true rfl) ⟨Nat.zero_le _, Nat.zero_le _⟩ dX13_stepOn_81 ?_
                  refine q_rdS (As := [.int (s_X9_byteAt (nI en) tapeF (nI x1))]) (rest := []) (c_X13_isLetter l D cB cI cJ ad n ML76 (s_X9_byteAt (nI en) tapeF (nI x1))   ) X hK hP hS hl.1 rfl gX13_stepOn_X13_isLetter yd_X13_isLetter ⟨Nat.le_of_ble_eq_true rfl, Nat.le_of_ble_eq_true rfl⟩ rfl (Nat.le_of_ble_eq_true rfl) ⟨Nat.zero_le _, Nat.zero_le _⟩ dX13_stepOn_84 ?_
                  refine lv_if_eq (tgt := 103) hx hb dX13_stepOn_87 (by decide) (fun c_87 => ?_) (fun c_87 => ?_)
                  · skip
                    have hnx : nX en tapeF x = x1 := rge hs1 (fun q9 => c_73 (q9 ▸ c_87)) (rg_stopL c_73 c_87)
                    refine lv_aload_n hx hb dX13_stepOn_103 rfl (lv_at hl 0 rfl) ?_
                    refine lv_iconst (v := 1) hx hb dX13_stepOn_104 (by decide) ?_
                    refine q_put (fs := modF ad mb (upd (upd mv 25 (nI x1)) 29 (nI x0))) (fs' := modF ad mb (upd (upd (upd mv 25 (nI x1)) 29 (nI x0)) 27 1)) X hK hI hP hS fX13_stepOn_196 fw_12_27 h_mb mL76_0 rfl rfl (Nat.le_of_ble_eq_true rfl) rfl dX13_stepOn_105 (fun H locs hP hS => ?_)
                    refine lv_goto (tgt := 212) hx hb dX13_stepOn_108 (by decide) ?_
                    refine lv_aload_n hx hb dX13_stepOn_212 rfl (lv_at hl 0 rfl) ?_
                    refine lv_aload_n hx hb dX13_stepOn_213 rfl (lv_at hl 0 rfl) ?_
                    refine q_get (v := .int (nI x1)) (fs := modF ad mb (upd (upd (upd mv 25 (nI x1)) 29 (nI x0)) 27 1)) X hK hP fX13_stepOn_186 h_mb (va_up_self ML76 mb (.inr (12, modF ad mb (upd (upd (upd mv 25 (nI x1)) 29 (nI x0)) 27 1)))) rfl dX13_stepOn_214 ?_
                    refine q_put (fs := modF ad mb (upd (upd (upd mv 25 (nI x1)) 29 (nI x0)) 27 1)) (fs' := modF ad mb (upd (upd (upd (upd mv 25 (nI x1)) 29 (nI x0)) 27 1) 30 (nI x1))) X hK hI hP hS fX13_stepOn_219 fw_12_30 h_mb (va_up_self ML76 mb (.inr (12, modF ad mb (upd (upd (upd mv 25 (nI x1)) 29 (nI x0)) 27 1)))) rfl rfl (Nat.le_of_ble_eq_true rfl) rfl dX13_stepOn_217 (fun H locs hP hS => ?_)
                    exact q_wvret X hr hlocks hP hS ⟨(by exact (va_up_self (va_up ML76 mb (.inr (12, modF ad mb (upd (upd (upd mv 25 (nI x1)) 29 (nI x0)) 27 1)))) mb (.inr (12, modF ad mb (upd (upd (upd (upd mv 25 (nI x1)) 29 (nI x0)) 27 1) 30 (nI x1))))).trans (modC (by first | (rw [mvS, mnX, hm0, htk.1, htk.2, if_neg (by decide)]; funext j9; simp only [upd] <;> (repeat' split) <;> first | rfl | (exfalso; omega) | (subst_vars; first | rfl | assumption | exact nI_1 _ | (symm; assumption)); done) | (rw [mvS, mnX, hm0, htk.1, hnx, if_neg (by decide)]; funext j9; simp only [upd] <;> (repeat' split) <;> first | rfl | (exfalso; omega) | (subst_vars; first | rfl | assumption | exact nI_1 _ | (symm; assumption)); done) | (rw [mvS, mnX, hm0, htk.1, hnx, if_pos rfl]; funext j9; simp only [upd] <;> (repeat' split) <;> first | rfl | (exfalso; omega) | (subst_vars; first | rfl | assumption | exact nI_1 _ | (symm; assumption)); done) | (rw [mvS, mnX, hm0, htk.1, htk.2.1 {c201}, if_neg (by decide)]; funext j9; simp only [upd] <;> (repeat' split) <;> first | rfl | (exfalso; omega) | (subst_vars; first | rfl | assumption | exact nI_1 _ | (symm; assumption)); done) | (rw [mvS, mnX, hm0, htk.1, htk.2.2 {c201}, if_neg (sgn_k {c201}).2.2.1, mkT, if_neg (sgn_k {c201}).1, if_neg (sgn_k {c201}).2.1, if_neg (sgn_k {c201}).2.2.1, if_neg (sgn_k {c201}).2.2.2]; funext j9; simp only [upd] <;> (repeat' split) <;> first | rfl | (exfalso; omega) | (subst_vars; first | rfl | assumption | exact nI_1 _ | (symm; assumption)); done)))), (fun q n0 => ((va_up_ne _ _ n0).trans ((va_up_ne _ _ n0).trans (fL76 q n0))))⟩ dX13_stepOn_220
                  · skip
                    have hlt9 := lt_of_letter hen hx1 c_87
                    refine lv_aload_n hx hb dX13_stepOn_90 rfl (lv_at hl 0 rfl) ?_
                    refine lv_dup hx hb dX13_stepOn_91 rfl ?_
                    refine q_get (v := .int (nI x1)) (fs := modF ad mb (upd (upd mv 25 (nI x1)) 29 (nI x0))) X hK hP fX13_stepOn_186 h_mb mL76_0 rfl dX13_stepOn_92 ?_
                    refine lv_iconst (v := 1) hx hb dX13_stepOn_95 (by decide) ?_
                    refine lv_iadd hx hb dX13_stepOn_96 ?_
                    refine q_put (fs := modF ad mb (upd (upd mv 25 (nI x1)) 29 (nI x0))) (fs' := modF ad mb (upd (upd (upd mv 25 (nI x1)) 29 (nI x0)) 25 ((nI x1) + 1))) X hK hI hP hS fX13_stepOn_186 fw_12_25 h_mb mL76_0 rfl rfl (Nat.le_of_ble_eq_true rfl) rfl dX13_stepOn_97 (fun H locs hP hS => ?_)
                    refine lv_goto (tgt := 76) hx hb dX13_stepOn_100 (by decide) ?_
                    exact ih_76 (x1 + 1) (if x1 = x0 then 701 else r7 - 1) (by omega) (by omega) (by omega) (by split <;> omega) (by exact rgb hx2 hr7 hx1 (fun r => rg_goL hen hx1 c_73 c_87 r) hs1) _ _ _ (by exact (va_up_self ML76 mb (.inr (12, modF ad mb (upd (upd (upd mv 25 (nI x1)) 29 (nI x0)) 25 ((nI x1) + 1))))).trans (modC (by funext j9; simp only [upd] <;> (repeat' split) <;> first | rfl | (exfalso; omega) | (subst_vars; first | rfl | assumption | exact nI_1 _ | (symm; assumption))))) (fun q n0 => ((va_up_ne _ _ n0).trans (fL76 q n0))) hP hS ls (lv_sub hl [0] rfl)
              exact loop_76 (702) x0 701 (by omega) (by omega) (by omega) (by omega) (by rw [if_pos rfl]; exact (htk.2).symm) _ _ _ (by exact (va_up_self ML0 mb (.inr (12, modF ad mb (upd (upd mv 25 (nI x0)) 29 (nI x0))))).trans (modC (by funext j9; simp only [upd] <;> (repeat' split) <;> first | rfl | (exfalso; omega) | (subst_vars; first | rfl | assumption | exact nI_1 _ | (symm; assumption))))) (fun q n0 => ((va_up_ne _ _ n0).trans (fL0 q n0))) hP hS ls (lv_sub hl [1] rfl)
          · skip
            have htk := tk_end (x := x) (by rw [hm0]; exact c_58); rw [hm0] at htk
            refine lv_aload_n hx hb dX13_stepOn_61 rfl (lv_at hl 1 rfl) ?_
            refine lv_iconst (v := 0) hx hb dX13_stepOn_62 (by decide) ?_
            refine q_put (fs := modF ad mb (upd (upd mv 25 (nI x0)) 29 (nI x0))) (fs' := modF ad mb (upd (upd (upd mv 25 (nI x0)) 29 (nI x0)) 27 0)) X hK hI hP hS fX13_stepOn_196 fw_12_27 h_mb (va_up_self ML0 mb (.inr (12, modF ad mb (upd (upd mv 25 (nI x0)) 29 (nI x0))))) rfl rfl (Nat.le_of_ble_eq_true rfl) rfl dX13_stepOn_63 (fun H locs hP hS => ?_)
            refine lv_goto (tgt := 212) hx hb dX13_stepOn_66 (by decide) ?_
            refine lv_aload_n hx hb dX13_stepOn_212 rfl (lv_at hl 1 rfl) ?_
            refine lv_aload_n hx hb dX13_stepOn_213 rfl (lv_at hl 1 rfl) ?_
            refine q_get (v := .int (nI x0)) (fs := modF ad mb (upd (upd (upd mv 25 (nI x0)) 29 (nI x0)) 27 0)) X hK hP fX13_stepOn_186 h_mb (va_up_self (va_up ML0 mb (.inr (12, modF ad mb (upd (upd mv 25 (nI x0)) 29 (nI x0))))) mb (.inr (12, modF ad mb (upd (upd (upd mv 25 (nI x0)) 29 (nI x0)) 27 0)))) rfl dX13_stepOn_214 ?_
            refine q_put (fs := modF ad mb (upd (upd (upd mv 25 (nI x0)) 29 (nI x0)) 27 0)) (fs' := modF ad mb (upd (upd (upd (upd mv 25 (nI x0)) 29 (nI x0)) 27 0) 30 (nI x0))) X hK hI hP hS fX13_stepOn_219 fw_12_30 h_mb (va_up_self (va_up ML0 mb (.inr (12, modF ad mb (upd (upd mv 25 (nI x0)) 29 (nI x0))))) mb (.inr (12, modF ad mb (upd (upd (upd mv 25 (nI x0)) 29 (nI x0)) 27 0)))) rfl rfl (Nat.le_of_ble_eq_true rfl) rfl dX13_stepOn_217 (fun H locs hP hS => ?_)
            exact q_wvret X hr hlocks hP hS ⟨(by exact (va_up_self (va_up (va_up ML0 mb (.inr (12, modF ad mb (upd (upd mv 25 (nI x0)) 29 (nI x0))))) mb (.inr (12, modF ad mb (upd (upd (upd mv 25 (nI x0)) 29 (nI x0)) 27 0)))) mb (.inr (12, modF ad mb (upd (upd (upd (upd mv 25 (nI x0)) 29 (nI x0)) 27 0) 30 (nI x0))))).trans (modC (by first | (rw [mvS, mnX, hm0, htk.1, htk.2, if_neg (by decide)]; funext j9; simp only [upd] <;> (repeat' split) <;> first | rfl | (exfalso; omega) | (subst_vars; first | rfl | assumption | exact nI_1 _ | (symm; assumption)); done) | (rw [mvS, mnX, hm0, htk.1, hnx, if_neg (by decide)]; funext j9; simp only [upd] <;> (repeat' split) <;> first | rfl | (exfalso; omega) | (subst_vars; first | rfl | assumption | exact nI_1 _ | (symm; assumption)); done) | (rw [mvS, mnX, hm0, htk.1, hnx, if_pos rfl]; funext j9; simp only [upd] <;> (repeat' split) <;> first | rfl | (exfalso; omega) | (subst_vars; first | rfl | assumption | exact nI_1 _ | (symm; assumption)); done) | (rw [mvS, mnX, hm0, htk.1, htk.2.1 {c201}, if_neg (by decide)]; funext j9; simp only [upd] <;> (repeat' split) <;> first | rfl | (exfalso; omega) | (subst_vars; first | rfl | assumption | exact nI_1 _ | (symm; assumption)); done) | (rw [mvS, mnX, hm0, htk.1, htk.2.2 {c201}, if_neg (sgn_k {c201}).2.2.1, mkT, if_neg (sgn_k {c201}).1, if_neg (sgn_k {c201}).2.1, if_neg (sgn_k {c201}).2.2.1, if_neg (sgn_k {c201}).2.2.2]; funext j9; simp only [upd] <;> (repeat' split) <;> first | rfl | (exfalso; omega) | (subst_vars; first | rfl | assumption | exact nI_1 _ | (symm; assumption)); done)))), (fun q n0 => ((va_up_ne _ _ n0).trans ((va_up_ne _ _ n0).trans ((va_up_ne _ _ n0).trans (fL0 q n0)))))⟩ dX13_stepOn_220
        · skip
          have hgo := sk_go (bf := tapeF) hen hx0 (Or.inr c_23) (r9 - 1)
          refine lv_aload_n hx hb dX13_stepOn_26 rfl (lv_at hl 0 rfl) ?_
          refine lv_dup hx hb dX13_stepOn_27 rfl ?_
          refine q_get (v := .int (nI x0)) (fs := modF ad mb (upd mv 25 (nI x0))) X hK hP fX13_stepOn_186 h_mb mL0_0 rfl dX13_stepOn_28 ?_
          refine lv_iconst (v := 1) hx hb dX13_stepOn_31 (by decide) ?_
          refine lv_iadd hx hb dX13_stepOn_32 ?_
          refine q_put (fs := modF ad mb (upd mv 25 (nI x0))) (fs' := modF ad mb (upd (upd mv 25 (nI x0)) 25 ((nI x0) + 1))) X hK hI hP hS fX13_stepOn_186 fw_12_25 h_mb mL0_0 rfl rfl (Nat.le_of_ble_eq_true rfl) rfl dX13_stepOn_33 (fun H locs hP hS => ?_)
          refine lv_goto (tgt := 0) hx hb dX13_stepOn_36 (by decide) ?_
          exact ih_0 (x0 + 1) (r9 - 1) (by have := hgo.1; omega) (by have := hgo.1; omega) (by omega) (by rw [← hs0, show r9 = (r9 - 1) + 1 by omega]; exact hgo.2.symm) _ _ _ (by exact (va_up_self ML0 mb (.inr (12, modF ad mb (upd (upd mv 25 (nI x0)) 25 ((nI x0) + 1))))).trans (modC (by funext j9; simp only [upd] <;> (repeat' split) <;> first | rfl | (exfalso; omega) | (subst_vars; first | rfl | assumption | exact nI_1 _ | (symm; assumption))))) (fun q n0 => ((va_up_ne _ _ n0).trans (fL0 q n0))) hP hS ls (lv_sub hl [0] rfl)
  exact loop_0 (701) x 701 (by omega) (by omega) (by omega) (by exact (pX_d en tapeF x).symm) _ _ _ (by exact m_mb.trans (modC (by funext j9; simp only [upd] <;> (repeat' split) <;> first | rfl | (exfalso; omega) | (subst_vars; first | rfl | assumption | exact nI_1 _ | (symm; assumption))))) (fun q n0 => rfl) hP hS ls (lv_sub hl [0] rfl)
end
