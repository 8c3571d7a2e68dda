/-! the law's walk: the calls that throw nothing -/
section
variable {p : Program} {l : Launch} {e : Env} {s : State} {m : MethodId} {below : List Frame} {meth : Method} {c : Code} {H : Heap} {locs : List Loc} {cells slots : Nat} {Q : State → Prop} {D : va_G} {cB cI cJ : ClassId} {ad : Nat → Nat} {b Ln : Nat} {xs : Nat → Int32} {ls : Array Slot} {A V : Nat → Nat → Int32} {R : Nat → Nat} {L : Nat → Nat → Int64}
/-- what the law's walk has at hand -/
def LX (p : Program) (s : State) (m : MethodId) (c : Code) (D : va_G) (cB cI cJ : ClassId) (ad : Nat → Nat) (b Ln : Nat) (xs : Nat → Int32) : Prop := CallFix p m c cL_law 8 s #[Value.ref b] wsL_law RL ∧ (vK D cB cI cJ s ∧ sW ad 128 s s.heap) ∧ zN s ∧ ipI ad 128 ∧ va_X b Ln xs s s.heap ∧ b < s.heap.size ∧ ¬ ipA ad 128 b
theorem sc_in {t Ln : Nat} (h : 6 * t + 6 ≤ Ln) (hL : Ln < 2 ^ 31) (j : Nat) (hj : j < 6) : vp_in (nI (6 * t) + nI j) Ln := by
  rw [nI_add]
  exact vp_in_nI (by omega) hL
theorem ydq_12fault : YD yX12_fault 0 := ⟨by decide +kernel, by decide +kernel, by decide +kernel⟩
theorem ydq_13fault : YD yX13_fault 0 := ⟨by decide +kernel, by decide +kernel, by decide +kernel⟩
set_option maxRecDepth 100000 in
theorem op_fault (hlt : l.stackTraces = false) (Y : LX p s m c D cB cI cJ ad b Ln xs) (I : INV A V R) (hP : va_P D vwCl (ip ad 128 (pl ad cB cI cJ A V R L)) H) (hS : va_S (ipA ad 128) s.heap H locs) (hcs : cells + 1 ≤ 601024 ∧ slots + 6 ≤ 7293034) {t : Nat} (ht : 6 * t + 6 ≤ Ln) (hLn : Ln < 2 ^ 31) {lv : List (Nat × Value)} (hl : lv_has ls 8 ((0, .ref b) :: (1, .ref (ad 0)) :: (2, .ref (ad 82)) :: (3, .ref (ad 127)) :: (4, .int (nI (6 * t))) :: lv))
    (kk : ∀ (A V : Nat → Nat → Int32) (R : Nat → Nat) (L : Nat → Nat → Int64) (H : Heap) (locs : List Loc) (ls : Array Slot) (lv : List (Nat × Value)) (ce sl : Nat), INV A V R → va_P D vwCl (ip ad 128 (pl ad cB cI cJ A V R L)) H → va_S (ipA ad 128) s.heap H locs → lv_has ls 8 ((0, .ref b) :: (1, .ref (ad 0)) :: (2, .ref (ad 82)) :: (3, .ref (ad 127)) :: (4, .int (nI (6 * t))) :: lv) → ce ≤ cells + 1 → sl ≤ slots + 6 → W p l e room_1 s m #[Value.ref b] below meth c H locs ce sl Q (F0 m 1691 ls [])) :
    W p l e room_1 s m #[Value.ref b] below meth c H locs cells slots Q (F0 m 309 ls []) := by
  obtain ⟨X, hK, hZ, hI, hX, hbl, hbA⟩ := Y
  obtain ⟨hx, hb, hml, hown, hts⟩ := id X
  obtain ⟨fr, lo, post, hM, h1, h2, hp⟩ := sem_fault l hlt D cB cI cJ ad hI (L := L) I 
  refine lv_aload_n hx hb dL_law_309 rfl (lv_at hl 1 rfl) ?_
  refine q_wrVi (As := []) (rest := []) hM X hK hP hS hl.1 rfl gL_law_X12_fault ydq_12fault ⟨by show fr + 1 ≤ 2048; omega, by show 8 + (1 + 11) + lo ≤ 84000; omega⟩ (by decide) (show pl ad cB cI cJ A V R L 0 = .inr (11, poF ad 0 1 (R 0) (116 - R 0) 3 4 7 14 17 (V 0 8) (V 0 9) 24 31 44 46) from rfl) (ci := 11) rfl rfl (Nat.le_of_ble_eq_true rfl) ⟨by show cells ≤ 601024; omega, by show slots ≤ 7293034; omega⟩ dL_law_310 (fun r1 M1 H1 locs1 hp1 hP hS => ?_)
  obtain ⟨A1, V1, R1, L1, rfl, hL1, hR⟩ := hp r1 M1 hp1
  obtain ⟨fr3, lo3, post3, hM3, h13, h23, hp3⟩ := hR (L1 127)
  rw [va_up_id _ _ _ rfl] at hM3 hp3
  refine lv_aload_n hx hb dL_law_313 rfl (lv_at hl 2 rfl) ?_
  refine q_wrVi (As := []) (rest := [.int r1]) hM3 X hK hP hS hl.1 rfl gL_law_X13_fault ydq_13fault ⟨by show fr3 + 1 ≤ 2048; omega, by show 8 + (1 + 11) + lo3 ≤ 84000; omega⟩ (by decide) (show pl ad cB cI cJ A1 V1 R1 L1 82 = .inr (12, modF ad 82 (V1 82)) from rfl) (ci := 12) rfl rfl (Nat.le_of_ble_eq_true rfl) ⟨by show cells ≤ 601024; omega, by show slots ≤ 7293034; omega⟩ dL_law_314 (fun r3 M3 H3 locs3 hp9 hP hS => ?_)
  obtain ⟨A3, V3, R3, L3, rfl, hL3, hk, hr, I3⟩ := hp3 r3 M3 hp9
  refine lv_icmp_eq (tgt := 1691) hx hb dL_law_317 (by decide) (fun _ => ?_) (fun q => absurd (hr rfl).symm q)
  exact kk A3 V3 R3 L3 H3 locs3 ls lv cells slots I3 hP hS hl (Nat.le_succ _) (Nat.le_add_right _ _)
theorem ydq_12feed : YD yX12_feed 5 := ⟨by decide +kernel, by decide +kernel, by decide +kernel⟩
theorem ydq_13feed : YD yX13_feed 5 := ⟨by decide +kernel, by decide +kernel, by decide +kernel⟩
set_option maxRecDepth 100000 in
theorem op_feed (hlt : l.stackTraces = false) (Y : LX p s m c D cB cI cJ ad b Ln xs) (I : INV A V R) (hP : va_P D vwCl (ip ad 128 (pl ad cB cI cJ A V R L)) H) (hS : va_S (ipA ad 128) s.heap H locs) (hcs : cells + 1 ≤ 601024 ∧ slots + 6 ≤ 7293034) {t : Nat} (ht : 6 * t + 6 ≤ Ln) (hLn : Ln < 2 ^ 31) {lv : List (Nat × Value)} (hl : lv_has ls 8 ((0, .ref b) :: (1, .ref (ad 0)) :: (2, .ref (ad 82)) :: (3, .ref (ad 127)) :: (4, .int (nI (6 * t))) :: lv))
    (kk : ∀ (A V : Nat → Nat → Int32) (R : Nat → Nat) (L : Nat → Nat → Int64) (H : Heap) (locs : List Loc) (ls : Array Slot) (lv : List (Nat × Value)) (ce sl : Nat), INV A V R → va_P D vwCl (ip ad 128 (pl ad cB cI cJ A V R L)) H → va_S (ipA ad 128) s.heap H locs → lv_has ls 8 ((0, .ref b) :: (1, .ref (ad 0)) :: (2, .ref (ad 82)) :: (3, .ref (ad 127)) :: (4, .int (nI (6 * t))) :: lv) → ce ≤ cells + 1 → sl ≤ slots + 6 → W p l e room_1 s m #[Value.ref b] below meth c H locs ce sl Q (F0 m 1691 ls [])) :
    W p l e room_1 s m #[Value.ref b] below meth c H locs cells slots Q (F0 m 180 ls []) := by
  obtain ⟨X, hK, hZ, hI, hX, hbl, hbA⟩ := Y
  obtain ⟨hx, hb, hml, hown, hts⟩ := id X
  obtain ⟨fr, lo, post, hM, h1, h2, hp⟩ := sem_feed l hlt D cB cI cJ ad hI (L := L) I (xs (nI (6 * t) + 1).toNatClampNeg) (xs (nI (6 * t) + 2).toNatClampNeg) (xs (nI (6 * t) + 3).toNatClampNeg) (xs (nI (6 * t) + 4).toNatClampNeg) (xs (nI (6 * t) + 5).toNatClampNeg)
  refine lv_aload_n hx hb dL_law_180 rfl (lv_at hl 1 rfl) ?_
  refine lv_aload_n hx hb dL_law_181 rfl (lv_at hl 0 rfl) ?_
  refine lv_iload hx hb dL_law_182 (lv_at hl 4 rfl) ?_
  refine lv_iconst (v := 1) hx hb dL_law_184 (by decide) ?_
  refine lv_iadd hx hb dL_law_185 ?_
  refine va_sld hx hb hX hbl hbA hS (sc_in ht hLn 1 (by decide)) dL_law_186 ?_
  refine lv_aload_n hx hb dL_law_187 rfl (lv_at hl 0 rfl) ?_
  refine lv_iload hx hb dL_law_188 (lv_at hl 4 rfl) ?_
  refine lv_iconst (v := 2) hx hb dL_law_190 (by decide) ?_
  refine lv_iadd hx hb dL_law_191 ?_
  refine va_sld hx hb hX hbl hbA hS (sc_in ht hLn 2 (by decide)) dL_law_192 ?_
  refine lv_aload_n hx hb dL_law_193 rfl (lv_at hl 0 rfl) ?_
  refine lv_iload hx hb dL_law_194 (lv_at hl 4 rfl) ?_
  refine lv_iconst (v := 3) hx hb dL_law_196 (by decide) ?_
  refine lv_iadd hx hb dL_law_197 ?_
  refine va_sld hx hb hX hbl hbA hS (sc_in ht hLn 3 (by decide)) dL_law_198 ?_
  refine lv_aload_n hx hb dL_law_199 rfl (lv_at hl 0 rfl) ?_
  refine lv_iload hx hb dL_law_200 (lv_at hl 4 rfl) ?_
  refine lv_iconst (v := 4) hx hb dL_law_202 (by decide) ?_
  refine lv_iadd hx hb dL_law_203 ?_
  refine va_sld hx hb hX hbl hbA hS (sc_in ht hLn 4 (by decide)) dL_law_204 ?_
  refine lv_aload_n hx hb dL_law_205 rfl (lv_at hl 0 rfl) ?_
  refine lv_iload hx hb dL_law_206 (lv_at hl 4 rfl) ?_
  refine lv_iconst (v := 5) hx hb dL_law_208 (by decide) ?_
  refine lv_iadd hx hb dL_law_209 ?_
  refine va_sld hx hb hX hbl hbA hS (sc_in ht hLn 5 (by decide)) dL_law_210 ?_
  refine q_wrVi (As := [.int (xs (nI (6 * t) + 1).toNatClampNeg), .int (xs (nI (6 * t) + 2).toNatClampNeg), .int (xs (nI (6 * t) + 3).toNatClampNeg), .int (xs (nI (6 * t) + 4).toNatClampNeg), .int (xs (nI (6 * t) + 5).toNatClampNeg)]) (rest := []) hM X hK hP hS hl.1 rfl gL_law_X12_feed ydq_12feed ⟨by show fr + 1 ≤ 2048; omega, by show 8 + (6 + 11) + lo ≤ 84000; omega⟩ (by decide) (show pl ad cB cI cJ A V R L 0 = .inr (11, poF ad 0 1 (R 0) (116 - R 0) 3 4 7 14 17 (V 0 8) (V 0 9) 24 31 44 46) from rfl) (ci := 11) rfl rfl (Nat.le_of_ble_eq_true rfl) ⟨by show cells ≤ 601024; omega, by show slots ≤ 7293034; omega⟩ dL_law_211 (fun r1 M1 H1 locs1 hp1 hP hS => ?_)
  obtain ⟨A1, V1, R1, L1, rfl, hL1, hR⟩ := hp r1 M1 hp1
  obtain ⟨fr3, lo3, post3, hM3, h13, h23, hp3⟩ := hR (L1 127)
  rw [va_up_id _ _ _ rfl] at hM3 hp3
  refine lv_aload_n hx hb dL_law_214 rfl (lv_at hl 2 rfl) ?_
  refine lv_aload_n hx hb dL_law_215 rfl (lv_at hl 0 rfl) ?_
  refine lv_iload hx hb dL_law_216 (lv_at hl 4 rfl) ?_
  refine lv_iconst (v := 1) hx hb dL_law_218 (by decide) ?_
  refine lv_iadd hx hb dL_law_219 ?_
  refine va_sld hx hb hX hbl hbA hS (sc_in ht hLn 1 (by decide)) dL_law_220 ?_
  refine lv_aload_n hx hb dL_law_221 rfl (lv_at hl 0 rfl) ?_
  refine lv_iload hx hb dL_law_222 (lv_at hl 4 rfl) ?_
  refine lv_iconst (v := 2) hx hb dL_law_224 (by decide) ?_
  refine lv_iadd hx hb dL_law_225 ?_
  refine va_sld hx hb hX hbl hbA hS (sc_in ht hLn 2 (by decide)) dL_law_226 ?_
  refine lv_aload_n hx hb dL_law_227 rfl (lv_at hl 0 rfl) ?_
  refine lv_iload hx hb dL_law_228 (lv_at hl 4 rfl) ?_
  refine lv_iconst (v := 3) hx hb dL_law_230 (by decide) ?_
  refine lv_iadd hx hb dL_law_231 ?_
  refine va_sld hx hb hX hbl hbA hS (sc_in ht hLn 3 (by decide)) dL_law_232 ?_
  refine lv_aload_n hx hb dL_law_233 rfl (lv_at hl 0 rfl) ?_
  refine lv_iload hx hb dL_law_234 (lv_at hl 4 rfl) ?_
  refine lv_iconst (v := 4) hx hb dL_law_236 (by decide) ?_
  refine lv_iadd hx hb dL_law_237 ?_
  refine va_sld hx hb hX hbl hbA hS (sc_in ht hLn 4 (by decide)) dL_law_238 ?_
  refine lv_aload_n hx hb dL_law_239 rfl (lv_at hl 0 rfl) ?_
  refine lv_iload hx hb dL_law_240 (lv_at hl 4 rfl) ?_
  refine lv_iconst (v := 5) hx hb dL_law_242 (by decide) ?_
  refine lv_iadd hx hb dL_law_243 ?_
  refine va_sld hx hb hX hbl hbA hS (sc_in ht hLn 5 (by decide)) dL_law_244 ?_
  refine q_wrVi (As := [.int (xs (nI (6 * t) + 1).toNatClampNeg), .int (xs (nI (6 * t) + 2).toNatClampNeg), .int (xs (nI (6 * t) + 3).toNatClampNeg), .int (xs (nI (6 * t) + 4).toNatClampNeg), .int (xs (nI (6 * t) + 5).toNatClampNeg)]) (rest := [.int r1]) hM3 X hK hP hS hl.1 rfl gL_law_X13_feed ydq_13feed ⟨by show fr3 + 1 ≤ 2048; omega, by show 8 + (8 + 11) + lo3 ≤ 84000; omega⟩ (by decide) (show pl ad cB cI cJ A1 V1 R1 L1 82 = .inr (12, modF ad 82 (V1 82)) from rfl) (ci := 12) rfl rfl (Nat.le_of_ble_eq_true rfl) ⟨by show cells ≤ 601024; omega, by show slots ≤ 7293034; omega⟩ dL_law_245 (fun r3 M3 H3 locs3 hp9 hP hS => ?_)
  obtain ⟨A3, V3, R3, L3, rfl, hL3, hk, hr, I3⟩ := hp3 r3 M3 hp9
  refine lv_icmp_eq (tgt := 1691) hx hb dL_law_248 (by decide) (fun _ => ?_) (fun q => absurd (hr rfl).symm q)
  exact kk A3 V3 R3 L3 H3 locs3 ls lv cells slots I3 hP hS hl (Nat.le_succ _) (Nat.le_add_right _ _)
theorem ydq_12bill : YD yX12_bill 0 := ⟨by decide +kernel, by decide +kernel, by decide +kernel⟩
theorem ydq_13bill : YD yX13_bill 0 := ⟨by decide +kernel, by decide +kernel, by decide +kernel⟩
set_option maxRecDepth 100000 in
theorem op_bill (hlt : l.stackTraces = false) (Y : LX p s m c D cB cI cJ ad b Ln xs) (I : INV A V R) (hP : va_P D vwCl (ip ad 128 (pl ad cB cI cJ A V R L)) H) (hS : va_S (ipA ad 128) s.heap H locs) (hcs : cells + 1 ≤ 601024 ∧ slots + 6 ≤ 7293034) {t : Nat} (ht : 6 * t + 6 ≤ Ln) (hLn : Ln < 2 ^ 31) {lv : List (Nat × Value)} (hl : lv_has ls 8 ((0, .ref b) :: (1, .ref (ad 0)) :: (2, .ref (ad 82)) :: (3, .ref (ad 127)) :: (4, .int (nI (6 * t))) :: lv))
    (kk : ∀ (A V : Nat → Nat → Int32) (R : Nat → Nat) (L : Nat → Nat → Int64) (H : Heap) (locs : List Loc) (ls : Array Slot) (lv : List (Nat × Value)) (ce sl : Nat), INV A V R → va_P D vwCl (ip ad 128 (pl ad cB cI cJ A V R L)) H → va_S (ipA ad 128) s.heap H locs → lv_has ls 8 ((0, .ref b) :: (1, .ref (ad 0)) :: (2, .ref (ad 82)) :: (3, .ref (ad 127)) :: (4, .int (nI (6 * t))) :: lv) → ce ≤ cells + 1 → sl ≤ slots + 6 → W p l e room_1 s m #[Value.ref b] below meth c H locs ce sl Q (F0 m 1691 ls [])) :
    W p l e room_1 s m #[Value.ref b] below meth c H locs cells slots Q (F0 m 738 ls []) := by
  obtain ⟨X, hK, hZ, hI, hX, hbl, hbA⟩ := Y
  obtain ⟨hx, hb, hml, hown, hts⟩ := id X
  obtain ⟨fr, lo, post, hM, h1, h2, hp⟩ := sem_bill l hlt D cB cI cJ ad hI (L := L) I 
  refine lv_aload_n hx hb dL_law_738 rfl (lv_at hl 1 rfl) ?_
  refine q_wrVi (As := []) (rest := []) hM X hK hP hS hl.1 rfl gL_law_X12_bill ydq_12bill ⟨by show fr + 1 ≤ 2048; omega, by show 8 + (1 + 11) + lo ≤ 84000; omega⟩ (by decide) (show pl ad cB cI cJ A V R L 0 = .inr (11, poF ad 0 1 (R 0) (116 - R 0) 3 4 7 14 17 (V 0 8) (V 0 9) 24 31 44 46) from rfl) (ci := 11) rfl rfl (Nat.le_of_ble_eq_true rfl) ⟨by show cells ≤ 601024; omega, by show slots ≤ 7293034; omega⟩ dL_law_739 (fun r1 M1 H1 locs1 hp1 hP hS => ?_)
  obtain ⟨A1, V1, R1, L1, rfl, hL1, hR⟩ := hp r1 M1 hp1
  obtain ⟨fr3, lo3, post3, hM3, h13, h23, hp3⟩ := hR (L1 127)
  rw [va_up_id _ _ _ rfl] at hM3 hp3
  refine lv_aload_n hx hb dL_law_742 rfl (lv_at hl 2 rfl) ?_
  refine q_wrVi (As := []) (rest := [.int r1]) hM3 X hK hP hS hl.1 rfl gL_law_X13_bill ydq_13bill ⟨by show fr3 + 1 ≤ 2048; omega, by show 8 + (1 + 11) + lo3 ≤ 84000; omega⟩ (by decide) (show pl ad cB cI cJ A1 V1 R1 L1 82 = .inr (12, modF ad 82 (V1 82)) from rfl) (ci := 12) rfl rfl (Nat.le_of_ble_eq_true rfl) ⟨by show cells ≤ 601024; omega, by show slots ≤ 7293034; omega⟩ dL_law_743 (fun r3 M3 H3 locs3 hp9 hP hS => ?_)
  obtain ⟨A3, V3, R3, L3, rfl, hL3, hk, hr, I3⟩ := hp3 r3 M3 hp9
  refine lv_icmp_eq (tgt := 1691) hx hb dL_law_746 (by decide) (fun _ => ?_) (fun q => absurd (hr rfl).symm q)
  exact kk A3 V3 R3 L3 H3 locs3 ls lv cells slots I3 hP hS hl (Nat.le_succ _) (Nat.le_add_right _ _)
theorem ydq_12lawful : YD yX12_lawful 0 := ⟨by decide +kernel, by decide +kernel, by decide +kernel⟩
theorem ydq_13lawful : YD yX13_lawful 0 := ⟨by decide +kernel, by decide +kernel, by decide +kernel⟩
set_option maxRecDepth 100000 in
theorem op_lawful (hlt : l.stackTraces = false) (Y : LX p s m c D cB cI cJ ad b Ln xs) (I : INV A V R) (hP : va_P D vwCl (ip ad 128 (pl ad cB cI cJ A V R L)) H) (hS : va_S (ipA ad 128) s.heap H locs) (hcs : cells + 1 ≤ 601024 ∧ slots + 6 ≤ 7293034) {t : Nat} (ht : 6 * t + 6 ≤ Ln) (hLn : Ln < 2 ^ 31) {lv : List (Nat × Value)} (hl : lv_has ls 8 ((0, .ref b) :: (1, .ref (ad 0)) :: (2, .ref (ad 82)) :: (3, .ref (ad 127)) :: (4, .int (nI (6 * t))) :: lv))
    (kk : ∀ (A V : Nat → Nat → Int32) (R : Nat → Nat) (L : Nat → Nat → Int64) (H : Heap) (locs : List Loc) (ls : Array Slot) (lv : List (Nat × Value)) (ce sl : Nat), INV A V R → va_P D vwCl (ip ad 128 (pl ad cB cI cJ A V R L)) H → va_S (ipA ad 128) s.heap H locs → lv_has ls 8 ((0, .ref b) :: (1, .ref (ad 0)) :: (2, .ref (ad 82)) :: (3, .ref (ad 127)) :: (4, .int (nI (6 * t))) :: lv) → ce ≤ cells + 1 → sl ≤ slots + 6 → W p l e room_1 s m #[Value.ref b] below meth c H locs ce sl Q (F0 m 1691 ls [])) :
    W p l e room_1 s m #[Value.ref b] below meth c H locs cells slots Q (F0 m 751 ls []) := by
  obtain ⟨X, hK, hZ, hI, hX, hbl, hbA⟩ := Y
  obtain ⟨hx, hb, hml, hown, hts⟩ := id X
  obtain ⟨fr, lo, post, hM, h1, h2, hp⟩ := sem_lawful l hlt D cB cI cJ ad hI (L := L) I 
  refine lv_aload_n hx hb dL_law_751 rfl (lv_at hl 1 rfl) ?_
  refine q_wrVi (As := []) (rest := []) hM X hK hP hS hl.1 rfl gL_law_X12_lawful ydq_12lawful ⟨by show fr + 1 ≤ 2048; omega, by show 8 + (1 + 11) + lo ≤ 84000; omega⟩ (by decide) (show pl ad cB cI cJ A V R L 0 = .inr (11, poF ad 0 1 (R 0) (116 - R 0) 3 4 7 14 17 (V 0 8) (V 0 9) 24 31 44 46) from rfl) (ci := 11) rfl rfl (Nat.le_of_ble_eq_true rfl) ⟨by show cells ≤ 601024; omega, by show slots ≤ 7293034; omega⟩ dL_law_752 (fun r1 M1 H1 locs1 hp1 hP hS => ?_)
  obtain ⟨A1, V1, R1, L1, rfl, hL1, hR⟩ := hp r1 M1 hp1
  obtain ⟨fr3, lo3, post3, hM3, h13, h23, hp3⟩ := hR (L1 127)
  rw [va_up_id _ _ _ rfl] at hM3 hp3
  refine lv_aload_n hx hb dL_law_755 rfl (lv_at hl 2 rfl) ?_
  refine q_wrVi (As := []) (rest := [.int r1]) hM3 X hK hP hS hl.1 rfl gL_law_X13_lawful ydq_13lawful ⟨by show fr3 + 1 ≤ 2048; omega, by show 8 + (5 + 11) + lo3 ≤ 84000; omega⟩ (by decide) (show pl ad cB cI cJ A1 V1 R1 L1 82 = .inr (12, modF ad 82 (V1 82)) from rfl) (ci := 12) rfl rfl (Nat.le_of_ble_eq_true rfl) ⟨by show cells ≤ 601024; omega, by show slots ≤ 7293034; omega⟩ dL_law_756 (fun r3 M3 H3 locs3 hp9 hP hS => ?_)
  obtain ⟨A3, V3, R3, L3, rfl, hL3, hk, hr, I3⟩ := hp3 r3 M3 hp9
  refine lv_icmp_eq (tgt := 1691) hx hb dL_law_759 (by decide) (fun _ => ?_) (fun q => absurd (hr rfl).symm q)
  exact kk A3 V3 R3 L3 H3 locs3 ls lv cells slots I3 hP hS hl (Nat.le_succ _) (Nat.le_add_right _ _)
theorem ydq_12opened : YD yX12_opened 0 := ⟨by decide +kernel, by decide +kernel, by decide +kernel⟩
theorem ydq_13opened : YD yX13_opened 0 := ⟨by decide +kernel, by decide +kernel, by decide +kernel⟩
set_option maxRecDepth 100000 in
theorem op_opened (hlt : l.stackTraces = false) (Y : LX p s m c D cB cI cJ ad b Ln xs) (I : INV A V R) (hP : va_P D vwCl (ip ad 128 (pl ad cB cI cJ A V R L)) H) (hS : va_S (ipA ad 128) s.heap H locs) (hcs : cells + 1 ≤ 601024 ∧ slots + 6 ≤ 7293034) {t : Nat} (ht : 6 * t + 6 ≤ Ln) (hLn : Ln < 2 ^ 31) {lv : List (Nat × Value)} (hl : lv_has ls 8 ((0, .ref b) :: (1, .ref (ad 0)) :: (2, .ref (ad 82)) :: (3, .ref (ad 127)) :: (4, .int (nI (6 * t))) :: lv))
    (kk : ∀ (A V : Nat → Nat → Int32) (R : Nat → Nat) (L : Nat → Nat → Int64) (H : Heap) (locs : List Loc) (ls : Array Slot) (lv : List (Nat × Value)) (ce sl : Nat), INV A V R → va_P D vwCl (ip ad 128 (pl ad cB cI cJ A V R L)) H → va_S (ipA ad 128) s.heap H locs → lv_has ls 8 ((0, .ref b) :: (1, .ref (ad 0)) :: (2, .ref (ad 82)) :: (3, .ref (ad 127)) :: (4, .int (nI (6 * t))) :: lv) → ce ≤ cells + 1 → sl ≤ slots + 6 → W p l e room_1 s m #[Value.ref b] below meth c H locs ce sl Q (F0 m 1691 ls [])) :
    W p l e room_1 s m #[Value.ref b] below meth c H locs cells slots Q (F0 m 832 ls []) := by
  obtain ⟨X, hK, hZ, hI, hX, hbl, hbA⟩ := Y
  obtain ⟨hx, hb, hml, hown, hts⟩ := id X
  obtain ⟨fr, lo, post, hM, h1, h2, hp⟩ := sem_opened l hlt D cB cI cJ ad hI (L := L) I 
  refine lv_aload_n hx hb dL_law_832 rfl (lv_at hl 1 rfl) ?_
  refine q_wrVi (As := []) (rest := []) hM X hK hP hS hl.1 rfl gL_law_X12_opened ydq_12opened ⟨by show fr + 1 ≤ 2048; omega, by show 8 + (1 + 11) + lo ≤ 84000; omega⟩ (by decide) (show pl ad cB cI cJ A V R L 0 = .inr (11, poF ad 0 1 (R 0) (116 - R 0) 3 4 7 14 17 (V 0 8) (V 0 9) 24 31 44 46) from rfl) (ci := 11) rfl rfl (Nat.le_of_ble_eq_true rfl) ⟨by show cells ≤ 601024; omega, by show slots ≤ 7293034; omega⟩ dL_law_833 (fun r1 M1 H1 locs1 hp1 hP hS => ?_)
  obtain ⟨A1, V1, R1, L1, rfl, hL1, hR⟩ := hp r1 M1 hp1
  obtain ⟨fr3, lo3, post3, hM3, h13, h23, hp3⟩ := hR (L1 127)
  rw [va_up_id _ _ _ rfl] at hM3 hp3
  refine lv_aload_n hx hb dL_law_836 rfl (lv_at hl 2 rfl) ?_
  refine q_wrVi (As := []) (rest := [.int r1]) hM3 X hK hP hS hl.1 rfl gL_law_X13_opened ydq_13opened ⟨by show fr3 + 1 ≤ 2048; omega, by show 8 + (6 + 11) + lo3 ≤ 84000; omega⟩ (by decide) (show pl ad cB cI cJ A1 V1 R1 L1 82 = .inr (12, modF ad 82 (V1 82)) from rfl) (ci := 12) rfl rfl (Nat.le_of_ble_eq_true rfl) ⟨by show cells ≤ 601024; omega, by show slots ≤ 7293034; omega⟩ dL_law_837 (fun r3 M3 H3 locs3 hp9 hP hS => ?_)
  obtain ⟨A3, V3, R3, L3, rfl, hL3, hk, hr, I3⟩ := hp3 r3 M3 hp9
  refine lv_icmp_eq (tgt := 1691) hx hb dL_law_840 (by decide) (fun _ => ?_) (fun q => absurd (hr rfl).symm q)
  exact kk A3 V3 R3 L3 H3 locs3 ls lv cells slots I3 hP hS hl (Nat.le_succ _) (Nat.le_add_right _ _)
theorem ydq_12safe : YD yX12_safe 0 := ⟨by decide +kernel, by decide +kernel, by decide +kernel⟩
theorem ydq_13safe : YD yX13_safe 0 := ⟨by decide +kernel, by decide +kernel, by decide +kernel⟩
set_option maxRecDepth 100000 in
theorem op_safe (hlt : l.stackTraces = false) (Y : LX p s m c D cB cI cJ ad b Ln xs) (I : INV A V R) (hP : va_P D vwCl (ip ad 128 (pl ad cB cI cJ A V R L)) H) (hS : va_S (ipA ad 128) s.heap H locs) (hcs : cells + 1 ≤ 601024 ∧ slots + 6 ≤ 7293034) {t : Nat} (ht : 6 * t + 6 ≤ Ln) (hLn : Ln < 2 ^ 31) {lv : List (Nat × Value)} (hl : lv_has ls 8 ((0, .ref b) :: (1, .ref (ad 0)) :: (2, .ref (ad 82)) :: (3, .ref (ad 127)) :: (4, .int (nI (6 * t))) :: lv))
    (kk : ∀ (A V : Nat → Nat → Int32) (R : Nat → Nat) (L : Nat → Nat → Int64) (H : Heap) (locs : List Loc) (ls : Array Slot) (lv : List (Nat × Value)) (ce sl : Nat), INV A V R → va_P D vwCl (ip ad 128 (pl ad cB cI cJ A V R L)) H → va_S (ipA ad 128) s.heap H locs → lv_has ls 8 ((0, .ref b) :: (1, .ref (ad 0)) :: (2, .ref (ad 82)) :: (3, .ref (ad 127)) :: (4, .int (nI (6 * t))) :: lv) → ce ≤ cells + 1 → sl ≤ slots + 6 → W p l e room_1 s m #[Value.ref b] below meth c H locs ce sl Q (F0 m 1691 ls [])) :
    W p l e room_1 s m #[Value.ref b] below meth c H locs cells slots Q (F0 m 1148 ls []) := by
  obtain ⟨X, hK, hZ, hI, hX, hbl, hbA⟩ := Y
  obtain ⟨hx, hb, hml, hown, hts⟩ := id X
  obtain ⟨fr, lo, post, hM, h1, h2, hp⟩ := sem_safe l hlt D cB cI cJ ad hI (L := L) I 
  refine lv_aload_n hx hb dL_law_1148 rfl (lv_at hl 1 rfl) ?_
  refine q_wrVi (As := []) (rest := []) hM X hK hP hS hl.1 rfl gL_law_X12_safe ydq_12safe ⟨by show fr + 1 ≤ 2048; omega, by show 8 + (3 + 11) + lo ≤ 84000; omega⟩ (by decide) (show pl ad cB cI cJ A V R L 0 = .inr (11, poF ad 0 1 (R 0) (116 - R 0) 3 4 7 14 17 (V 0 8) (V 0 9) 24 31 44 46) from rfl) (ci := 11) rfl rfl (Nat.le_of_ble_eq_true rfl) ⟨by show cells ≤ 601024; omega, by show slots ≤ 7293034; omega⟩ dL_law_1149 (fun r1 M1 H1 locs1 hp1 hP hS => ?_)
  obtain ⟨A1, V1, R1, L1, rfl, hL1, hR⟩ := hp r1 M1 hp1
  obtain ⟨fr3, lo3, post3, hM3, h13, h23, hp3⟩ := hR (L1 127)
  rw [va_up_id _ _ _ rfl] at hM3 hp3
  refine lv_aload_n hx hb dL_law_1152 rfl (lv_at hl 2 rfl) ?_
  refine q_wrVi (As := []) (rest := [.int r1]) hM3 X hK hP hS hl.1 rfl gL_law_X13_safe ydq_13safe ⟨by show fr3 + 1 ≤ 2048; omega, by show 8 + (3 + 11) + lo3 ≤ 84000; omega⟩ (by decide) (show pl ad cB cI cJ A1 V1 R1 L1 82 = .inr (12, modF ad 82 (V1 82)) from rfl) (ci := 12) rfl rfl (Nat.le_of_ble_eq_true rfl) ⟨by show cells ≤ 601024; omega, by show slots ≤ 7293034; omega⟩ dL_law_1153 (fun r3 M3 H3 locs3 hp9 hP hS => ?_)
  obtain ⟨A3, V3, R3, L3, rfl, hL3, hk, hr, I3⟩ := hp3 r3 M3 hp9
  refine lv_icmp_eq (tgt := 1691) hx hb dL_law_1156 (by decide) (fun _ => ?_) (fun q => absurd (hr rfl).symm q)
  exact kk A3 V3 R3 L3 H3 locs3 ls lv cells slots I3 hP hS hl (Nat.le_succ _) (Nat.le_add_right _ _)
theorem ydq_12share : YD yX12_share 0 := ⟨by decide +kernel, by decide +kernel, by decide +kernel⟩
theorem ydq_13share : YD yX13_share 0 := ⟨by decide +kernel, by decide +kernel, by decide +kernel⟩
set_option maxRecDepth 100000 in
theorem op_share (hlt : l.stackTraces = false) (Y : LX p s m c D cB cI cJ ad b Ln xs) (I : INV A V R) (hP : va_P D vwCl (ip ad 128 (pl ad cB cI cJ A V R L)) H) (hS : va_S (ipA ad 128) s.heap H locs) (hcs : cells + 1 ≤ 601024 ∧ slots + 6 ≤ 7293034) {t : Nat} (ht : 6 * t + 6 ≤ Ln) (hLn : Ln < 2 ^ 31) {lv : List (Nat × Value)} (hl : lv_has ls 8 ((0, .ref b) :: (1, .ref (ad 0)) :: (2, .ref (ad 82)) :: (3, .ref (ad 127)) :: (4, .int (nI (6 * t))) :: lv))
    (kk : ∀ (A V : Nat → Nat → Int32) (R : Nat → Nat) (L : Nat → Nat → Int64) (H : Heap) (locs : List Loc) (ls : Array Slot) (lv : List (Nat × Value)) (ce sl : Nat), INV A V R → va_P D vwCl (ip ad 128 (pl ad cB cI cJ A V R L)) H → va_S (ipA ad 128) s.heap H locs → lv_has ls 8 ((0, .ref b) :: (1, .ref (ad 0)) :: (2, .ref (ad 82)) :: (3, .ref (ad 127)) :: (4, .int (nI (6 * t))) :: lv) → ce ≤ cells + 1 → sl ≤ slots + 6 → W p l e room_1 s m #[Value.ref b] below meth c H locs ce sl Q (F0 m 1691 ls [])) :
    W p l e room_1 s m #[Value.ref b] below meth c H locs cells slots Q (F0 m 1257 ls []) := by
  obtain ⟨X, hK, hZ, hI, hX, hbl, hbA⟩ := Y
  obtain ⟨hx, hb, hml, hown, hts⟩ := id X
  obtain ⟨fr, lo, post, hM, h1, h2, hp⟩ := sem_share l hlt D cB cI cJ ad hI (L := L) I 
  refine lv_aload_n hx hb dL_law_1257 rfl (lv_at hl 1 rfl) ?_
  refine q_wrVi (As := []) (rest := []) hM X hK hP hS hl.1 rfl gL_law_X12_share ydq_12share ⟨by show fr + 1 ≤ 2048; omega, by show 8 + (1 + 11) + lo ≤ 84000; omega⟩ (by decide) (show pl ad cB cI cJ A V R L 0 = .inr (11, poF ad 0 1 (R 0) (116 - R 0) 3 4 7 14 17 (V 0 8) (V 0 9) 24 31 44 46) from rfl) (ci := 11) rfl rfl (Nat.le_of_ble_eq_true rfl) ⟨by show cells ≤ 601024; omega, by show slots ≤ 7293034; omega⟩ dL_law_1258 (fun r1 M1 H1 locs1 hp1 hP hS => ?_)
  obtain ⟨A1, V1, R1, L1, rfl, hL1, hR⟩ := hp r1 M1 hp1
  obtain ⟨fr3, lo3, post3, hM3, h13, h23, hp3⟩ := hR (L1 127)
  rw [va_up_id _ _ _ rfl] at hM3 hp3
  refine lv_aload_n hx hb dL_law_1261 rfl (lv_at hl 2 rfl) ?_
  refine q_wrVi (As := []) (rest := [.int r1]) hM3 X hK hP hS hl.1 rfl gL_law_X13_share ydq_13share ⟨by show fr3 + 1 ≤ 2048; omega, by show 8 + (8 + 11) + lo3 ≤ 84000; omega⟩ (by decide) (show pl ad cB cI cJ A1 V1 R1 L1 82 = .inr (12, modF ad 82 (V1 82)) from rfl) (ci := 12) rfl rfl (Nat.le_of_ble_eq_true rfl) ⟨by show cells ≤ 601024; omega, by show slots ≤ 7293034; omega⟩ dL_law_1262 (fun r3 M3 H3 locs3 hp9 hP hS => ?_)
  obtain ⟨A3, V3, R3, L3, rfl, hL3, hk, hr, I3⟩ := hp3 r3 M3 hp9
  refine lv_icmp_eq (tgt := 1691) hx hb dL_law_1265 (by decide) (fun _ => ?_) (fun q => absurd (hr rfl).symm q)
  exact kk A3 V3 R3 L3 H3 locs3 ls lv cells slots I3 hP hS hl (Nat.le_succ _) (Nat.le_add_right _ _)
theorem ydq_12forget : YD yX12_forget 0 := ⟨by decide +kernel, by decide +kernel, by decide +kernel⟩
theorem ydq_13forget : YD yX13_forget 0 := ⟨by decide +kernel, by decide +kernel, by decide +kernel⟩
set_option maxRecDepth 100000 in
theorem op_forget (hlt : l.stackTraces = false) (Y : LX p s m c D cB cI cJ ad b Ln xs) (I : INV A V R) (hP : va_P D vwCl (ip ad 128 (pl ad cB cI cJ A V R L)) H) (hS : va_S (ipA ad 128) s.heap H locs) (hcs : cells + 1 ≤ 601024 ∧ slots + 6 ≤ 7293034) {t : Nat} (ht : 6 * t + 6 ≤ Ln) (hLn : Ln < 2 ^ 31) {lv : List (Nat × Value)} (hl : lv_has ls 8 ((0, .ref b) :: (1, .ref (ad 0)) :: (2, .ref (ad 82)) :: (3, .ref (ad 127)) :: (4, .int (nI (6 * t))) :: lv))
    (kk : ∀ (A V : Nat → Nat → Int32) (R : Nat → Nat) (L : Nat → Nat → Int64) (H : Heap) (locs : List Loc) (ls : Array Slot) (lv : List (Nat × Value)) (ce sl : Nat), INV A V R → va_P D vwCl (ip ad 128 (pl ad cB cI cJ A V R L)) H → va_S (ipA ad 128) s.heap H locs → lv_has ls 8 ((0, .ref b) :: (1, .ref (ad 0)) :: (2, .ref (ad 82)) :: (3, .ref (ad 127)) :: (4, .int (nI (6 * t))) :: lv) → ce ≤ cells + 1 → sl ≤ slots + 6 → W p l e room_1 s m #[Value.ref b] below meth c H locs ce sl Q (F0 m 1691 ls [])) :
    W p l e room_1 s m #[Value.ref b] below meth c H locs cells slots Q (F0 m 1462 ls []) := by
  obtain ⟨X, hK, hZ, hI, hX, hbl, hbA⟩ := Y
  obtain ⟨hx, hb, hml, hown, hts⟩ := id X
  obtain ⟨fr, lo, post, hM, h1, h2, hp⟩ := sem_forget l hlt D cB cI cJ ad hI (L := L) I 
  refine lv_aload_n hx hb dL_law_1462 rfl (lv_at hl 1 rfl) ?_
  refine q_wrVi (As := []) (rest := []) hM X hK hP hS hl.1 rfl gL_law_X12_forget ydq_12forget ⟨by show fr + 1 ≤ 2048; omega, by show 8 + (1 + 11) + lo ≤ 84000; omega⟩ (by decide) (show pl ad cB cI cJ A V R L 0 = .inr (11, poF ad 0 1 (R 0) (116 - R 0) 3 4 7 14 17 (V 0 8) (V 0 9) 24 31 44 46) from rfl) (ci := 11) rfl rfl (Nat.le_of_ble_eq_true rfl) ⟨by show cells ≤ 601024; omega, by show slots ≤ 7293034; omega⟩ dL_law_1463 (fun r1 M1 H1 locs1 hp1 hP hS => ?_)
  obtain ⟨A1, V1, R1, L1, rfl, hL1, hR⟩ := hp r1 M1 hp1
  obtain ⟨fr3, lo3, post3, hM3, h13, h23, hp3⟩ := hR (L1 127)
  rw [va_up_id _ _ _ rfl] at hM3 hp3
  refine lv_aload_n hx hb dL_law_1466 rfl (lv_at hl 2 rfl) ?_
  refine q_wrVi (As := []) (rest := [.int r1]) hM3 X hK hP hS hl.1 rfl gL_law_X13_forget ydq_13forget ⟨by show fr3 + 1 ≤ 2048; omega, by show 8 + (1 + 11) + lo3 ≤ 84000; omega⟩ (by decide) (show pl ad cB cI cJ A1 V1 R1 L1 82 = .inr (12, modF ad 82 (V1 82)) from rfl) (ci := 12) rfl rfl (Nat.le_of_ble_eq_true rfl) ⟨by show cells ≤ 601024; omega, by show slots ≤ 7293034; omega⟩ dL_law_1467 (fun r3 M3 H3 locs3 hp9 hP hS => ?_)
  obtain ⟨A3, V3, R3, L3, rfl, hL3, hk, hr, I3⟩ := hp3 r3 M3 hp9
  refine lv_icmp_eq (tgt := 1691) hx hb dL_law_1470 (by decide) (fun _ => ?_) (fun q => absurd (hr rfl).symm q)
  exact kk A3 V3 R3 L3 H3 locs3 ls lv cells slots I3 hP hS hl (Nat.le_succ _) (Nat.le_add_right _ _)
theorem ydq_12undo : YD yX12_undo 0 := ⟨by decide +kernel, by decide +kernel, by decide +kernel⟩
theorem ydq_13undo : YD yX13_undo 0 := ⟨by decide +kernel, by decide +kernel, by decide +kernel⟩
set_option maxRecDepth 100000 in
theorem op_undo (hlt : l.stackTraces = false) (Y : LX p s m c D cB cI cJ ad b Ln xs) (I : INV A V R) (hP : va_P D vwCl (ip ad 128 (pl ad cB cI cJ A V R L)) H) (hS : va_S (ipA ad 128) s.heap H locs) (hcs : cells + 1 ≤ 601024 ∧ slots + 6 ≤ 7293034) {t : Nat} (ht : 6 * t + 6 ≤ Ln) (hLn : Ln < 2 ^ 31) {lv : List (Nat × Value)} (hl : lv_has ls 8 ((0, .ref b) :: (1, .ref (ad 0)) :: (2, .ref (ad 82)) :: (3, .ref (ad 127)) :: (4, .int (nI (6 * t))) :: lv))
    (kk : ∀ (A V : Nat → Nat → Int32) (R : Nat → Nat) (L : Nat → Nat → Int64) (H : Heap) (locs : List Loc) (ls : Array Slot) (lv : List (Nat × Value)) (ce sl : Nat), INV A V R → va_P D vwCl (ip ad 128 (pl ad cB cI cJ A V R L)) H → va_S (ipA ad 128) s.heap H locs → lv_has ls 8 ((0, .ref b) :: (1, .ref (ad 0)) :: (2, .ref (ad 82)) :: (3, .ref (ad 127)) :: (4, .int (nI (6 * t))) :: lv) → ce ≤ cells + 1 → sl ≤ slots + 6 → W p l e room_1 s m #[Value.ref b] below meth c H locs ce sl Q (F0 m 1691 ls [])) :
    W p l e room_1 s m #[Value.ref b] below meth c H locs cells slots Q (F0 m 725 ls []) := by
  obtain ⟨X, hK, hZ, hI, hX, hbl, hbA⟩ := Y
  obtain ⟨hx, hb, hml, hown, hts⟩ := id X
  obtain ⟨fr, lo, post, hM, h1, h2, hp⟩ := sem_undo l hlt D cB cI cJ ad hI (L := L) I 
  refine lv_aload_n hx hb dL_law_725 rfl (lv_at hl 1 rfl) ?_
  refine q_wrVi (As := []) (rest := []) hM X hK hP hS hl.1 rfl gL_law_X12_undo ydq_12undo ⟨by show fr + 1 ≤ 2048; omega, by show 8 + (1 + 11) + lo ≤ 84000; omega⟩ (by decide) (show pl ad cB cI cJ A V R L 0 = .inr (11, poF ad 0 1 (R 0) (116 - R 0) 3 4 7 14 17 (V 0 8) (V 0 9) 24 31 44 46) from rfl) (ci := 11) rfl rfl (Nat.le_of_ble_eq_true rfl) ⟨by show cells ≤ 601024; omega, by show slots ≤ 7293034; omega⟩ dL_law_726 (fun r1 M1 H1 locs1 hp1 hP hS => ?_)
  obtain ⟨A1, V1, R1, L1, rfl, hL1, hR⟩ := hp r1 M1 hp1
  obtain ⟨fr3, lo3, post3, hM3, h13, h23, hp3⟩ := hR (L1 127)
  rw [va_up_id _ _ _ rfl] at hM3 hp3
  refine lv_aload_n hx hb dL_law_729 rfl (lv_at hl 2 rfl) ?_
  refine q_wrVi (As := []) (rest := [.int r1]) hM3 X hK hP hS hl.1 rfl gL_law_X13_undo ydq_13undo ⟨by show fr3 + 1 ≤ 2048; omega, by show 8 + (1 + 11) + lo3 ≤ 84000; omega⟩ (by decide) (show pl ad cB cI cJ A1 V1 R1 L1 82 = .inr (12, modF ad 82 (V1 82)) from rfl) (ci := 12) rfl rfl (Nat.le_of_ble_eq_true rfl) ⟨by show cells ≤ 601024; omega, by show slots ≤ 7293034; omega⟩ dL_law_730 (fun r3 M3 H3 locs3 hp9 hP hS => ?_)
  obtain ⟨A3, V3, R3, L3, rfl, hL3, hk, hr, I3⟩ := hp3 r3 M3 hp9
  refine lv_icmp_eq (tgt := 1691) hx hb dL_law_733 (by decide) (fun _ => ?_) (fun q => absurd (hr rfl).symm q)
  exact kk A3 V3 R3 L3 H3 locs3 ls lv cells slots I3 hP hS hl (Nat.le_succ _) (Nat.le_add_right _ _)
theorem ydq_12restore : YD yX12_restore 0 := ⟨by decide +kernel, by decide +kernel, by decide +kernel⟩
theorem ydq_13restore : YD yX13_restore 0 := ⟨by decide +kernel, by decide +kernel, by decide +kernel⟩
set_option maxRecDepth 100000 in
theorem op_restore (hlt : l.stackTraces = false) (Y : LX p s m c D cB cI cJ ad b Ln xs) (I : INV A V R) (hP : va_P D vwCl (ip ad 128 (pl ad cB cI cJ A V R L)) H) (hS : va_S (ipA ad 128) s.heap H locs) (hcs : cells + 1 ≤ 601024 ∧ slots + 6 ≤ 7293034) {t : Nat} (ht : 6 * t + 6 ≤ Ln) (hLn : Ln < 2 ^ 31) {lv : List (Nat × Value)} (hl : lv_has ls 8 ((0, .ref b) :: (1, .ref (ad 0)) :: (2, .ref (ad 82)) :: (3, .ref (ad 127)) :: (4, .int (nI (6 * t))) :: lv))
    (kk : ∀ (A V : Nat → Nat → Int32) (R : Nat → Nat) (L : Nat → Nat → Int64) (H : Heap) (locs : List Loc) (ls : Array Slot) (lv : List (Nat × Value)) (ce sl : Nat), INV A V R → va_P D vwCl (ip ad 128 (pl ad cB cI cJ A V R L)) H → va_S (ipA ad 128) s.heap H locs → lv_has ls 8 ((0, .ref b) :: (1, .ref (ad 0)) :: (2, .ref (ad 82)) :: (3, .ref (ad 127)) :: (4, .int (nI (6 * t))) :: lv) → ce ≤ cells + 1 → sl ≤ slots + 6 → W p l e room_1 s m #[Value.ref b] below meth c H locs ce sl Q (F0 m 1691 ls [])) :
    W p l e room_1 s m #[Value.ref b] below meth c H locs cells slots Q (F0 m 1678 ls []) := by
  obtain ⟨X, hK, hZ, hI, hX, hbl, hbA⟩ := Y
  obtain ⟨hx, hb, hml, hown, hts⟩ := id X
  obtain ⟨fr, lo, post, hM, h1, h2, hp⟩ := sem_restore l hlt D cB cI cJ ad hI (L := L) I 
  refine lv_aload_n hx hb dL_law_1678 rfl (lv_at hl 1 rfl) ?_
  refine q_wrVi (As := []) (rest := []) hM X hK hP hS hl.1 rfl gL_law_X12_restore ydq_12restore ⟨by show fr + 1 ≤ 2048; omega, by show 8 + (1 + 11) + lo ≤ 84000; omega⟩ (by decide) (show pl ad cB cI cJ A V R L 0 = .inr (11, poF ad 0 1 (R 0) (116 - R 0) 3 4 7 14 17 (V 0 8) (V 0 9) 24 31 44 46) from rfl) (ci := 11) rfl rfl (Nat.le_of_ble_eq_true rfl) ⟨by show cells ≤ 601024; omega, by show slots ≤ 7293034; omega⟩ dL_law_1679 (fun r1 M1 H1 locs1 hp1 hP hS => ?_)
  obtain ⟨A1, V1, R1, L1, rfl, hL1, hR⟩ := hp r1 M1 hp1
  obtain ⟨fr3, lo3, post3, hM3, h13, h23, hp3⟩ := hR (L1 127)
  rw [va_up_id _ _ _ rfl] at hM3 hp3
  refine lv_aload_n hx hb dL_law_1682 rfl (lv_at hl 2 rfl) ?_
  refine q_wrVi (As := []) (rest := [.int r1]) hM3 X hK hP hS hl.1 rfl gL_law_X13_restore ydq_13restore ⟨by show fr3 + 1 ≤ 2048; omega, by show 8 + (1 + 11) + lo3 ≤ 84000; omega⟩ (by decide) (show pl ad cB cI cJ A1 V1 R1 L1 82 = .inr (12, modF ad 82 (V1 82)) from rfl) (ci := 12) rfl rfl (Nat.le_of_ble_eq_true rfl) ⟨by show cells ≤ 601024; omega, by show slots ≤ 7293034; omega⟩ dL_law_1683 (fun r3 M3 H3 locs3 hp9 hP hS => ?_)
  obtain ⟨A3, V3, R3, L3, rfl, hL3, hk, hr, I3⟩ := hp3 r3 M3 hp9
  refine lv_icmp_eq (tgt := 1691) hx hb dL_law_1686 (by decide) (fun _ => ?_) (fun q => absurd (hr rfl).symm q)
  exact kk A3 V3 R3 L3 H3 locs3 ls lv cells slots I3 hP hS hl (Nat.le_succ _) (Nat.le_add_right _ _)
end
