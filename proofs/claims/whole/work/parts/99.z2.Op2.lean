/-! the law's walk: the calls that may throw -/
section
variable {p : Program} {l : Launch} {e : Env} {s : State} {m : MethodId} {below : List Frame} {meth : Method} {c : Code} {H : Heap} {locs : List Loc} {cells slots : Nat} {Q : State → Prop} {D : va_G} {cB cI cJ : ClassId} {ad : Nat → Nat} {b Ln : Nat} {xs : Nat → Int32} {ls : Array Slot} {A V : Nat → Nat → Int32} {R : Nat → Nat} {L : Nat → Nat → Int64}
theorem ydq_13thrown : YD yX13_thrown 0 := ⟨by decide +kernel, by decide +kernel, by decide +kernel⟩
theorem ydq_13count : YD yX13_count 1 := ⟨by decide +kernel, by decide +kernel, by decide +kernel⟩
set_option maxRecDepth 100000 in
theorem op_count (hlt : l.stackTraces = false) (Y : LX p s m c D cB cI cJ ad b Ln xs) (I : INV A V R) (hP : va_P D vwCl (ip ad 128 (pl ad cB cI cJ A V R L)) H) (hS : va_S (ipA ad 128) s.heap H locs) (hcs : cells + 1 ≤ 601024 ∧ slots + 6 ≤ 7293034) {t : Nat} (ht : 6 * t + 6 ≤ Ln) (hLn : Ln < 2 ^ 31) (hl : lv_has ls 8 [(0, .ref b), (1, .ref (ad 0)), (2, .ref (ad 82)), (3, .ref (ad 127)), (4, .int (nI (6 * t)))])
    (kk : ∀ (A V : Nat → Nat → Int32) (R : Nat → Nat) (L : Nat → Nat → Int64) (H : Heap) (locs : List Loc) (ls : Array Slot) (ce sl : Nat), INV A V R → va_P D vwCl (ip ad 128 (pl ad cB cI cJ A V R L)) H → va_S (ipA ad 128) s.heap H locs → lv_has ls 8 [(0, .ref b), (1, .ref (ad 0)), (2, .ref (ad 82)), (3, .ref (ad 127)), (4, .int (nI (6 * t)))] → ce ≤ cells + 1 → sl ≤ slots + 6 → W p l e room_1 s m #[Value.ref b] below meth c H locs ce sl Q (F0 m 1691 ls [])) :
    W p l e room_1 s m #[Value.ref b] below meth c H locs cells slots Q (F0 m 322 ls []) := by
  obtain ⟨X, hK, hZ, hI, hX, hbl, hbA⟩ := Y
  obtain ⟨hx, hb, hml, hown, hts⟩ := id X
  have HH : HF l D cB cI cJ ad A V R L yL_count wsL_count [.ref (ad 0), .int (xs (nI (6 * t) + 1).toNatClampNeg), .ref (ad 127)] yX13_count wsX13_count [.ref (ad 82), .int (xs (nI (6 * t) + 1).toNatClampNeg)] := by
    rcases sem_count l hlt D cB cI cJ ad hI (L := L) I (xs (nI (6 * t) + 1).toNatClampNeg) with h9 | h9
    · exact hf_CF h9 (fun fr lo post hM hpo => hw_count l D cB cI cJ ad 128 (pl ad cB cI cJ A V R L) hI 0 127 _ (L 127) (xs (nI (6 * t) + 1).toNatClampNeg) hM hpo (by decide) (by decide) (show pl ad cB cI cJ A V R L 0 = .inr (11, poF ad 0 1 (R 0) (116 - R 0) 3 4 7 14 17 (V 0 8) (V 0 9) 24 31 44 46) from rfl))
    · exact hf_CX h9 (by decide) (fun fr lo hM => hx_count l D cB cI cJ ad 128 (pl ad cB cI cJ A V R L) hI 0 127 _ (L 127) (xs (nI (6 * t) + 1).toNatClampNeg) hM (by decide) (show pl ad cB cI cJ A V R L 0 = .inr (11, poF ad 0 1 (R 0) (116 - R 0) 3 4 7 14 17 (V 0 8) (V 0 9) 24 31 44 46) from rfl))
  obtain ⟨fr, lo, post, hM, h1, h2, hp⟩ := HH
  refine lv_aload_n hx hb dL_law_322 rfl (lv_at hl 1 rfl) ?_
  refine lv_aload_n hx hb dL_law_323 rfl (lv_at hl 0 rfl) ?_
  refine lv_iload hx hb dL_law_324 (lv_at hl 4 rfl) ?_
  refine lv_iconst (v := 1) hx hb dL_law_326 (by decide) ?_
  refine lv_iadd hx hb dL_law_327 ?_
  refine va_sld hx hb hX hbl hbA hS (sc_in ht hLn 1 (by decide)) dL_law_328 ?_
  refine lv_aload_n hx hb dL_law_329 rfl (lv_at hl 3 rfl) ?_
  refine q_callH (As := [.ref (ad 0), .int (xs (nI (6 * t) + 1).toNatClampNeg), .ref (ad 127)]) (rest := []) hM X hK hZ hP hS hl.1 rfl gL_law_L_count ydL_count ⟨by show fr + 1 ≤ 2048; omega, by show 8 + (4 + 11) + lo ≤ 84000; omega⟩ rfl (Nat.le_of_ble_eq_true rfl) ⟨by show cells + 1 ≤ 601024; omega, by show slots + 6 ≤ 7293034; omega⟩ dL_law_330 (fun v M1 H1 locs1 hp1 hP hS => ?_)
  obtain ⟨r1, A1, V1, R1, L1, rfl, hv, fr3, lo3, post3, hM3, h13, h23, hp3⟩ := hp v M1 hp1
  refine lv_istore (lv' := [(5, .int v), (0, .ref b), (1, .ref (ad 0)), (2, .ref (ad 82)), (3, .ref (ad 127)), (4, .int (nI (6 * t)))]) hx hb dL_law_333 hl (by decide) rfl (fun ls hl => ?_)
  refine lv_aload_n hx hb dL_law_335 rfl (lv_at hl 3 rfl) ?_
  refine lv_aload_n hx hb dL_law_336 rfl (lv_at hl 1 rfl) ?_
  refine lv_iload hx hb dL_law_337 (lv_at hl 5 rfl) ?_
  refine lv_iconst (v := 1) hx hb dL_law_339 (by decide) ?_
  refine lv_iadd hx hb dL_law_340 ?_
  refine va_sld hx hb hX hbl hbA hS (sc_in ht hLn 1 (by decide)) dL_law_341 ?_
  refine q_wrVi (As := [.int (xs (nI (6 * t) + 1).toNatClampNeg)]) (rest := []) hM3 X hK hP hS hl.1 rfl gL_law_X13_count ydq_13count ⟨by show fr3 + 1 ≤ 2048; omega, by show 8 + (2 + 11) + lo3 ≤ 84000; omega⟩ (by decide) (show pl ad cB cI cJ A1 V1 R1 L1 82 = .inr (12, modF ad 82 (V1 82)) from rfl) (ci := 12) rfl rfl (Nat.le_of_ble_eq_true rfl) ⟨by show cells + 1 ≤ 601024; omega, by show slots + 6 ≤ 7293034; omega⟩ dL_law_342 (fun r3 M3 H3 locs3 hp9 hP hS => ?_)
  obtain ⟨A3, V3, R3, L3, rfl, hL3, hk, hr, I3⟩ := hp3 r3 M3 hp9
  refine lv_istore (lv' := [(6, .int r3), (5, .int v), (0, .ref b), (1, .ref (ad 0)), (2, .ref (ad 82)), (3, .ref (ad 127)), (4, .int (nI (6 * t)))]) hx hb dL_law_345 hl (by decide) rfl (fun ls hl => ?_)
  refine lv_aload_n hx hb dL_law_347 rfl (lv_at hl 4 rfl) ?_
  refine q_rdV (As := []) (rest := []) (c_X13_thrown l D cB cI cJ ad 128 (pl ad cB cI cJ A3 V3 R3 L3) 82 (V3 82) (by decide) rfl) X hK hP hS hl.1 rfl gL_law_X13_thrown ydq_13thrown ⟨by show 0 + 1 ≤ 2048; omega, by show 8 + (1 + 11) + 0 ≤ 84000; omega⟩ (by decide) (show pl ad cB cI cJ A3 V3 R3 L3 82 = .inr (12, modF ad 82 (V3 82)) from rfl) (ci := 12) rfl rfl (Nat.le_of_ble_eq_true rfl) ⟨by show cells + 1 ≤ 601024; omega, by show slots + 6 ≤ 7293034; omega⟩ dL_law_348 ?_
  refine lv_iload hx hb dL_law_351 (lv_at hl 1 rfl) ?_
  refine lv_icmp_eq (tgt := 358) hx hb dL_law_353 (by decide) (fun _ => ?_) (fun q => absurd hk q)
  refine lv_iload hx hb dL_law_358 (lv_at hl 1 rfl) ?_
  refine lv_if_ne (tgt := 375) hx hb dL_law_360 (by decide) (fun c0 => ?_) (fun c0 => ?_)
  · refine lv_goto (tgt := 1691) hx hb dL_law_375 (by decide) ?_
    exact kk A3 V3 R3 L3 H3 locs3 ls (cells + 1) (slots + 6) I3 hP hS (lv_sub hl [2, 3, 4, 5, 6] rfl) (Nat.le_refl _) (Nat.le_refl _)
  · have v0 : v = 0 := by first | exact c0 | exact Decidable.not_not.mp c0
    refine lv_aload_n hx hb dL_law_363 rfl (lv_at hl 5 rfl) ?_
    refine lv_iconst (v := 0) hx hb dL_law_364 (by decide) ?_
    refine q_laldN (f := L3 127) (k := 1) X hK hP 0 (by decide) rfl (by decide) (by decide) dL_law_365 ?_
    refine lv_iload hx hb dL_law_366 (lv_at hl 0 rfl) ?_
    refine lv_i2l hx hb dL_law_368 rfl ?_
    refine q_lcmp_eq (tgt := 375) hx hb dL_law_369 dL_law_370 (by decide) (fun _ => ?_) (fun q => absurd (by rw [hL3, hv v0, hr v0]) q)
    refine lv_goto (tgt := 1691) hx hb dL_law_375 (by decide) ?_
    exact kk A3 V3 R3 L3 H3 locs3 ls (cells + 1) (slots + 6) I3 hP hS (lv_sub hl [2, 3, 4, 5, 6] rfl) (Nat.le_refl _) (Nat.le_refl _)
theorem ydq_13person : YD yX13_person 2 := ⟨by decide +kernel, by decide +kernel, by decide +kernel⟩
set_option maxRecDepth 100000 in
theorem op_person (hlt : l.stackTraces = false) (Y : LX p s m c D cB cI cJ ad b Ln xs) (I : INV A V R) (hP : va_P D vwCl (ip ad 128 (pl ad cB cI cJ A V R L)) H) (hS : va_S (ipA ad 128) s.heap H locs) (hcs : cells + 1 ≤ 601024 ∧ slots + 6 ≤ 7293034) {t : Nat} (ht : 6 * t + 6 ≤ Ln) (hLn : Ln < 2 ^ 31) (hl : lv_has ls 8 [(0, .ref b), (1, .ref (ad 0)), (2, .ref (ad 82)), (3, .ref (ad 127)), (4, .int (nI (6 * t)))])
    (kk : ∀ (A V : Nat → Nat → Int32) (R : Nat → Nat) (L : Nat → Nat → Int64) (H : Heap) (locs : List Loc) (ls : Array Slot) (ce sl : Nat), INV A V R → va_P D vwCl (ip ad 128 (pl ad cB cI cJ A V R L)) H → va_S (ipA ad 128) s.heap H locs → lv_has ls 8 [(0, .ref b), (1, .ref (ad 0)), (2, .ref (ad 82)), (3, .ref (ad 127)), (4, .int (nI (6 * t)))] → ce ≤ cells + 1 → sl ≤ slots + 6 → W p l e room_1 s m #[Value.ref b] below meth c H locs ce sl Q (F0 m 1691 ls [])) :
    W p l e room_1 s m #[Value.ref b] below meth c H locs cells slots Q (F0 m 378 ls []) := by
  obtain ⟨X, hK, hZ, hI, hX, hbl, hbA⟩ := Y
  obtain ⟨hx, hb, hml, hown, hts⟩ := id X
  have HH : HF l D cB cI cJ ad A V R L yL_person wsL_person [.ref (ad 0), .int (xs (nI (6 * t) + 1).toNatClampNeg), .int (xs (nI (6 * t) + 2).toNatClampNeg), .ref (ad 127)] yX13_person wsX13_person [.ref (ad 82), .int (xs (nI (6 * t) + 1).toNatClampNeg), .int (xs (nI (6 * t) + 2).toNatClampNeg)] := by
    rcases sem_person l hlt D cB cI cJ ad hI (L := L) I (xs (nI (6 * t) + 1).toNatClampNeg) (xs (nI (6 * t) + 2).toNatClampNeg) with h9 | h9
    · exact hf_CF h9 (fun fr lo post hM hpo => hw_person l D cB cI cJ ad 128 (pl ad cB cI cJ A V R L) hI 0 127 _ (L 127) (xs (nI (6 * t) + 1).toNatClampNeg) (xs (nI (6 * t) + 2).toNatClampNeg) hM hpo (by decide) (by decide) (show pl ad cB cI cJ A V R L 0 = .inr (11, poF ad 0 1 (R 0) (116 - R 0) 3 4 7 14 17 (V 0 8) (V 0 9) 24 31 44 46) from rfl))
    · exact hf_CX h9 (by decide) (fun fr lo hM => hx_person l D cB cI cJ ad 128 (pl ad cB cI cJ A V R L) hI 0 127 _ (L 127) (xs (nI (6 * t) + 1).toNatClampNeg) (xs (nI (6 * t) + 2).toNatClampNeg) hM (by decide) (show pl ad cB cI cJ A V R L 0 = .inr (11, poF ad 0 1 (R 0) (116 - R 0) 3 4 7 14 17 (V 0 8) (V 0 9) 24 31 44 46) from rfl))
  obtain ⟨fr, lo, post, hM, h1, h2, hp⟩ := HH
  refine lv_aload_n hx hb dL_law_378 rfl (lv_at hl 1 rfl) ?_
  refine lv_aload_n hx hb dL_law_379 rfl (lv_at hl 0 rfl) ?_
  refine lv_iload hx hb dL_law_380 (lv_at hl 4 rfl) ?_
  refine lv_iconst (v := 1) hx hb dL_law_382 (by decide) ?_
  refine lv_iadd hx hb dL_law_383 ?_
  refine va_sld hx hb hX hbl hbA hS (sc_in ht hLn 1 (by decide)) dL_law_384 ?_
  refine lv_aload_n hx hb dL_law_385 rfl (lv_at hl 0 rfl) ?_
  refine lv_iload hx hb dL_law_386 (lv_at hl 4 rfl) ?_
  refine lv_iconst (v := 2) hx hb dL_law_388 (by decide) ?_
  refine lv_iadd hx hb dL_law_389 ?_
  refine va_sld hx hb hX hbl hbA hS (sc_in ht hLn 2 (by decide)) dL_law_390 ?_
  refine lv_aload_n hx hb dL_law_391 rfl (lv_at hl 3 rfl) ?_
  refine q_callH (As := [.ref (ad 0), .int (xs (nI (6 * t) + 1).toNatClampNeg), .int (xs (nI (6 * t) + 2).toNatClampNeg), .ref (ad 127)]) (rest := []) hM X hK hZ hP hS hl.1 rfl gL_law_L_person ydL_person ⟨by show fr + 1 ≤ 2048; omega, by show 8 + (5 + 11) + lo ≤ 84000; omega⟩ rfl (Nat.le_of_ble_eq_true rfl) ⟨by show cells + 1 ≤ 601024; omega, by show slots + 6 ≤ 7293034; omega⟩ dL_law_392 (fun v M1 H1 locs1 hp1 hP hS => ?_)
  obtain ⟨r1, A1, V1, R1, L1, rfl, hv, fr3, lo3, post3, hM3, h13, h23, hp3⟩ := hp v M1 hp1
  refine lv_istore (lv' := [(5, .int v), (0, .ref b), (1, .ref (ad 0)), (2, .ref (ad 82)), (3, .ref (ad 127)), (4, .int (nI (6 * t)))]) hx hb dL_law_395 hl (by decide) rfl (fun ls hl => ?_)
  refine lv_aload_n hx hb dL_law_397 rfl (lv_at hl 3 rfl) ?_
  refine lv_aload_n hx hb dL_law_398 rfl (lv_at hl 1 rfl) ?_
  refine lv_iload hx hb dL_law_399 (lv_at hl 5 rfl) ?_
  refine lv_iconst (v := 1) hx hb dL_law_401 (by decide) ?_
  refine lv_iadd hx hb dL_law_402 ?_
  refine va_sld hx hb hX hbl hbA hS (sc_in ht hLn 1 (by decide)) dL_law_403 ?_
  refine lv_aload_n hx hb dL_law_404 rfl (lv_at hl 1 rfl) ?_
  refine lv_iload hx hb dL_law_405 (lv_at hl 5 rfl) ?_
  refine lv_iconst (v := 2) hx hb dL_law_407 (by decide) ?_
  refine lv_iadd hx hb dL_law_408 ?_
  refine va_sld hx hb hX hbl hbA hS (sc_in ht hLn 2 (by decide)) dL_law_409 ?_
  refine q_wrVi (As := [.int (xs (nI (6 * t) + 1).toNatClampNeg), .int (xs (nI (6 * t) + 2).toNatClampNeg)]) (rest := []) hM3 X hK hP hS hl.1 rfl gL_law_X13_person ydq_13person ⟨by show fr3 + 1 ≤ 2048; omega, by show 8 + (3 + 11) + lo3 ≤ 84000; omega⟩ (by decide) (show pl ad cB cI cJ A1 V1 R1 L1 82 = .inr (12, modF ad 82 (V1 82)) from rfl) (ci := 12) rfl rfl (Nat.le_of_ble_eq_true rfl) ⟨by show cells + 1 ≤ 601024; omega, by show slots + 6 ≤ 7293034; omega⟩ dL_law_410 (fun r3 M3 H3 locs3 hp9 hP hS => ?_)
  obtain ⟨A3, V3, R3, L3, rfl, hL3, hk, hr, I3⟩ := hp3 r3 M3 hp9
  refine lv_istore (lv' := [(6, .int r3), (5, .int v), (0, .ref b), (1, .ref (ad 0)), (2, .ref (ad 82)), (3, .ref (ad 127)), (4, .int (nI (6 * t)))]) hx hb dL_law_413 hl (by decide) rfl (fun ls hl => ?_)
  refine lv_aload_n hx hb dL_law_415 rfl (lv_at hl 4 rfl) ?_
  refine q_rdV (As := []) (rest := []) (c_X13_thrown l D cB cI cJ ad 128 (pl ad cB cI cJ A3 V3 R3 L3) 82 (V3 82) (by decide) rfl) X hK hP hS hl.1 rfl gL_law_X13_thrown ydq_13thrown ⟨by show 0 + 1 ≤ 2048; omega, by show 8 + (1 + 11) + 0 ≤ 84000; omega⟩ (by decide) (show pl ad cB cI cJ A3 V3 R3 L3 82 = .inr (12, modF ad 82 (V3 82)) from rfl) (ci := 12) rfl rfl (Nat.le_of_ble_eq_true rfl) ⟨by show cells + 1 ≤ 601024; omega, by show slots + 6 ≤ 7293034; omega⟩ dL_law_416 ?_
  refine lv_iload hx hb dL_law_419 (lv_at hl 1 rfl) ?_
  refine lv_icmp_eq (tgt := 426) hx hb dL_law_421 (by decide) (fun _ => ?_) (fun q => absurd hk q)
  refine lv_iload hx hb dL_law_426 (lv_at hl 1 rfl) ?_
  refine lv_if_ne (tgt := 443) hx hb dL_law_428 (by decide) (fun c0 => ?_) (fun c0 => ?_)
  · refine lv_goto (tgt := 1691) hx hb dL_law_443 (by decide) ?_
    exact kk A3 V3 R3 L3 H3 locs3 ls (cells + 1) (slots + 6) I3 hP hS (lv_sub hl [2, 3, 4, 5, 6] rfl) (Nat.le_refl _) (Nat.le_refl _)
  · have v0 : v = 0 := by first | exact c0 | exact Decidable.not_not.mp c0
    refine lv_aload_n hx hb dL_law_431 rfl (lv_at hl 5 rfl) ?_
    refine lv_iconst (v := 0) hx hb dL_law_432 (by decide) ?_
    refine q_laldN (f := L3 127) (k := 1) X hK hP 0 (by decide) rfl (by decide) (by decide) dL_law_433 ?_
    refine lv_iload hx hb dL_law_434 (lv_at hl 0 rfl) ?_
    refine lv_i2l hx hb dL_law_436 rfl ?_
    refine q_lcmp_eq (tgt := 443) hx hb dL_law_437 dL_law_438 (by decide) (fun _ => ?_) (fun q => absurd (by rw [hL3, hv v0, hr v0]) q)
    refine lv_goto (tgt := 1691) hx hb dL_law_443 (by decide) ?_
    exact kk A3 V3 R3 L3 H3 locs3 ls (cells + 1) (slots + 6) I3 hP hS (lv_sub hl [2, 3, 4, 5, 6] rfl) (Nat.le_refl _) (Nat.le_refl _)
theorem ydq_13box : YD yX13_box 2 := ⟨by decide +kernel, by decide +kernel, by decide +kernel⟩
set_option maxRecDepth 100000 in
theorem op_box (hlt : l.stackTraces = false) (Y : LX p s m c D cB cI cJ ad b Ln xs) (I : INV A V R) (hP : va_P D vwCl (ip ad 128 (pl ad cB cI cJ A V R L)) H) (hS : va_S (ipA ad 128) s.heap H locs) (hcs : cells + 1 ≤ 601024 ∧ slots + 6 ≤ 7293034) {t : Nat} (ht : 6 * t + 6 ≤ Ln) (hLn : Ln < 2 ^ 31) (hl : lv_has ls 8 [(0, .ref b), (1, .ref (ad 0)), (2, .ref (ad 82)), (3, .ref (ad 127)), (4, .int (nI (6 * t)))])
    (kk : ∀ (A V : Nat → Nat → Int32) (R : Nat → Nat) (L : Nat → Nat → Int64) (H : Heap) (locs : List Loc) (ls : Array Slot) (ce sl : Nat), INV A V R → va_P D vwCl (ip ad 128 (pl ad cB cI cJ A V R L)) H → va_S (ipA ad 128) s.heap H locs → lv_has ls 8 [(0, .ref b), (1, .ref (ad 0)), (2, .ref (ad 82)), (3, .ref (ad 127)), (4, .int (nI (6 * t)))] → ce ≤ cells + 1 → sl ≤ slots + 6 → W p l e room_1 s m #[Value.ref b] below meth c H locs ce sl Q (F0 m 1691 ls [])) :
    W p l e room_1 s m #[Value.ref b] below meth c H locs cells slots Q (F0 m 446 ls []) := by
  obtain ⟨X, hK, hZ, hI, hX, hbl, hbA⟩ := Y
  obtain ⟨hx, hb, hml, hown, hts⟩ := id X
  have HH : HF l D cB cI cJ ad A V R L yL_box wsL_box [.ref (ad 0), .int (xs (nI (6 * t) + 1).toNatClampNeg), .int (xs (nI (6 * t) + 2).toNatClampNeg), .ref (ad 127)] yX13_box wsX13_box [.ref (ad 82), .int (xs (nI (6 * t) + 1).toNatClampNeg), .int (xs (nI (6 * t) + 2).toNatClampNeg)] := by
    rcases sem_box l hlt D cB cI cJ ad hI (L := L) I (xs (nI (6 * t) + 1).toNatClampNeg) (xs (nI (6 * t) + 2).toNatClampNeg) with h9 | h9
    · exact hf_CF h9 (fun fr lo post hM hpo => h_box l D cB cI cJ ad 128 (pl ad cB cI cJ A V R L) hI 0 127 _ (L 127) (xs (nI (6 * t) + 1).toNatClampNeg) (xs (nI (6 * t) + 2).toNatClampNeg) hM hpo (by decide) (by decide) (show pl ad cB cI cJ A V R L 0 = .inr (11, poF ad 0 1 (R 0) (116 - R 0) 3 4 7 14 17 (V 0 8) (V 0 9) 24 31 44 46) from rfl))
    · exact hf_CX h9 (by decide) (fun fr lo hM => hx_box l D cB cI cJ ad 128 (pl ad cB cI cJ A V R L) hI 0 127 _ (L 127) (xs (nI (6 * t) + 1).toNatClampNeg) (xs (nI (6 * t) + 2).toNatClampNeg) hM (by decide) (show pl ad cB cI cJ A V R L 0 = .inr (11, poF ad 0 1 (R 0) (116 - R 0) 3 4 7 14 17 (V 0 8) (V 0 9) 24 31 44 46) from rfl))
  obtain ⟨fr, lo, post, hM, h1, h2, hp⟩ := HH
  refine lv_aload_n hx hb dL_law_446 rfl (lv_at hl 1 rfl) ?_
  refine lv_aload_n hx hb dL_law_447 rfl (lv_at hl 0 rfl) ?_
  refine lv_iload hx hb dL_law_448 (lv_at hl 4 rfl) ?_
  refine lv_iconst (v := 1) hx hb dL_law_450 (by decide) ?_
  refine lv_iadd hx hb dL_law_451 ?_
  refine va_sld hx hb hX hbl hbA hS (sc_in ht hLn 1 (by decide)) dL_law_452 ?_
  refine lv_aload_n hx hb dL_law_453 rfl (lv_at hl 0 rfl) ?_
  refine lv_iload hx hb dL_law_454 (lv_at hl 4 rfl) ?_
  refine lv_iconst (v := 2) hx hb dL_law_456 (by decide) ?_
  refine lv_iadd hx hb dL_law_457 ?_
  refine va_sld hx hb hX hbl hbA hS (sc_in ht hLn 2 (by decide)) dL_law_458 ?_
  refine lv_aload_n hx hb dL_law_459 rfl (lv_at hl 3 rfl) ?_
  refine q_callH (As := [.ref (ad 0), .int (xs (nI (6 * t) + 1).toNatClampNeg), .int (xs (nI (6 * t) + 2).toNatClampNeg), .ref (ad 127)]) (rest := []) hM X hK hZ hP hS hl.1 rfl gL_law_L_box ydL_box ⟨by show fr + 1 ≤ 2048; omega, by show 8 + (5 + 11) + lo ≤ 84000; omega⟩ rfl (Nat.le_of_ble_eq_true rfl) ⟨by show cells + 1 ≤ 601024; omega, by show slots + 6 ≤ 7293034; omega⟩ dL_law_460 (fun v M1 H1 locs1 hp1 hP hS => ?_)
  obtain ⟨r1, A1, V1, R1, L1, rfl, hv, fr3, lo3, post3, hM3, h13, h23, hp3⟩ := hp v M1 hp1
  refine lv_istore (lv' := [(5, .int v), (0, .ref b), (1, .ref (ad 0)), (2, .ref (ad 82)), (3, .ref (ad 127)), (4, .int (nI (6 * t)))]) hx hb dL_law_463 hl (by decide) rfl (fun ls hl => ?_)
  refine lv_aload_n hx hb dL_law_465 rfl (lv_at hl 3 rfl) ?_
  refine lv_aload_n hx hb dL_law_466 rfl (lv_at hl 1 rfl) ?_
  refine lv_iload hx hb dL_law_467 (lv_at hl 5 rfl) ?_
  refine lv_iconst (v := 1) hx hb dL_law_469 (by decide) ?_
  refine lv_iadd hx hb dL_law_470 ?_
  refine va_sld hx hb hX hbl hbA hS (sc_in ht hLn 1 (by decide)) dL_law_471 ?_
  refine lv_aload_n hx hb dL_law_472 rfl (lv_at hl 1 rfl) ?_
  refine lv_iload hx hb dL_law_473 (lv_at hl 5 rfl) ?_
  refine lv_iconst (v := 2) hx hb dL_law_475 (by decide) ?_
  refine lv_iadd hx hb dL_law_476 ?_
  refine va_sld hx hb hX hbl hbA hS (sc_in ht hLn 2 (by decide)) dL_law_477 ?_
  refine q_wrVi (As := [.int (xs (nI (6 * t) + 1).toNatClampNeg), .int (xs (nI (6 * t) + 2).toNatClampNeg)]) (rest := []) hM3 X hK hP hS hl.1 rfl gL_law_X13_box ydq_13box ⟨by show fr3 + 1 ≤ 2048; omega, by show 8 + (3 + 11) + lo3 ≤ 84000; omega⟩ (by decide) (show pl ad cB cI cJ A1 V1 R1 L1 82 = .inr (12, modF ad 82 (V1 82)) from rfl) (ci := 12) rfl rfl (Nat.le_of_ble_eq_true rfl) ⟨by show cells + 1 ≤ 601024; omega, by show slots + 6 ≤ 7293034; omega⟩ dL_law_478 (fun r3 M3 H3 locs3 hp9 hP hS => ?_)
  obtain ⟨A3, V3, R3, L3, rfl, hL3, hk, hr, I3⟩ := hp3 r3 M3 hp9
  refine lv_istore (lv' := [(6, .int r3), (5, .int v), (0, .ref b), (1, .ref (ad 0)), (2, .ref (ad 82)), (3, .ref (ad 127)), (4, .int (nI (6 * t)))]) hx hb dL_law_481 hl (by decide) rfl (fun ls hl => ?_)
  refine lv_aload_n hx hb dL_law_483 rfl (lv_at hl 4 rfl) ?_
  refine q_rdV (As := []) (rest := []) (c_X13_thrown l D cB cI cJ ad 128 (pl ad cB cI cJ A3 V3 R3 L3) 82 (V3 82) (by decide) rfl) X hK hP hS hl.1 rfl gL_law_X13_thrown ydq_13thrown ⟨by show 0 + 1 ≤ 2048; omega, by show 8 + (1 + 11) + 0 ≤ 84000; omega⟩ (by decide) (show pl ad cB cI cJ A3 V3 R3 L3 82 = .inr (12, modF ad 82 (V3 82)) from rfl) (ci := 12) rfl rfl (Nat.le_of_ble_eq_true rfl) ⟨by show cells + 1 ≤ 601024; omega, by show slots + 6 ≤ 7293034; omega⟩ dL_law_484 ?_
  refine lv_iload hx hb dL_law_487 (lv_at hl 1 rfl) ?_
  refine lv_icmp_eq (tgt := 494) hx hb dL_law_489 (by decide) (fun _ => ?_) (fun q => absurd hk q)
  refine lv_iload hx hb dL_law_494 (lv_at hl 1 rfl) ?_
  refine lv_if_ne (tgt := 511) hx hb dL_law_496 (by decide) (fun c0 => ?_) (fun c0 => ?_)
  · refine lv_goto (tgt := 1691) hx hb dL_law_511 (by decide) ?_
    exact kk A3 V3 R3 L3 H3 locs3 ls (cells + 1) (slots + 6) I3 hP hS (lv_sub hl [2, 3, 4, 5, 6] rfl) (Nat.le_refl _) (Nat.le_refl _)
  · have v0 : v = 0 := by first | exact c0 | exact Decidable.not_not.mp c0
    refine lv_aload_n hx hb dL_law_499 rfl (lv_at hl 5 rfl) ?_
    refine lv_iconst (v := 0) hx hb dL_law_500 (by decide) ?_
    refine q_laldN (f := L3 127) (k := 1) X hK hP 0 (by decide) rfl (by decide) (by decide) dL_law_501 ?_
    refine lv_iload hx hb dL_law_502 (lv_at hl 0 rfl) ?_
    refine lv_i2l hx hb dL_law_504 rfl ?_
    refine q_lcmp_eq (tgt := 511) hx hb dL_law_505 dL_law_506 (by decide) (fun _ => ?_) (fun q => absurd (by rw [hL3, hv v0, hr v0]) q)
    refine lv_goto (tgt := 1691) hx hb dL_law_511 (by decide) ?_
    exact kk A3 V3 R3 L3 H3 locs3 ls (cells + 1) (slots + 6) I3 hP hS (lv_sub hl [2, 3, 4, 5, 6] rfl) (Nat.le_refl _) (Nat.le_refl _)
theorem ydq_13thing : YD yX13_thing 2 := ⟨by decide +kernel, by decide +kernel, by decide +kernel⟩
set_option maxRecDepth 100000 in
theorem op_thing (hlt : l.stackTraces = false) (Y : LX p s m c D cB cI cJ ad b Ln xs) (I : INV A V R) (hP : va_P D vwCl (ip ad 128 (pl ad cB cI cJ A V R L)) H) (hS : va_S (ipA ad 128) s.heap H locs) (hcs : cells + 1 ≤ 601024 ∧ slots + 6 ≤ 7293034) {t : Nat} (ht : 6 * t + 6 ≤ Ln) (hLn : Ln < 2 ^ 31) (hl : lv_has ls 8 [(0, .ref b), (1, .ref (ad 0)), (2, .ref (ad 82)), (3, .ref (ad 127)), (4, .int (nI (6 * t)))])
    (kk : ∀ (A V : Nat → Nat → Int32) (R : Nat → Nat) (L : Nat → Nat → Int64) (H : Heap) (locs : List Loc) (ls : Array Slot) (ce sl : Nat), INV A V R → va_P D vwCl (ip ad 128 (pl ad cB cI cJ A V R L)) H → va_S (ipA ad 128) s.heap H locs → lv_has ls 8 [(0, .ref b), (1, .ref (ad 0)), (2, .ref (ad 82)), (3, .ref (ad 127)), (4, .int (nI (6 * t)))] → ce ≤ cells + 1 → sl ≤ slots + 6 → W p l e room_1 s m #[Value.ref b] below meth c H locs ce sl Q (F0 m 1691 ls [])) :
    W p l e room_1 s m #[Value.ref b] below meth c H locs cells slots Q (F0 m 514 ls []) := by
  obtain ⟨X, hK, hZ, hI, hX, hbl, hbA⟩ := Y
  obtain ⟨hx, hb, hml, hown, hts⟩ := id X
  have HH : HF l D cB cI cJ ad A V R L yL_thing wsL_thing [.ref (ad 0), .int (xs (nI (6 * t) + 1).toNatClampNeg), .int (xs (nI (6 * t) + 2).toNatClampNeg), .ref (ad 127)] yX13_thing wsX13_thing [.ref (ad 82), .int (xs (nI (6 * t) + 1).toNatClampNeg), .int (xs (nI (6 * t) + 2).toNatClampNeg)] := by
    rcases sem_thing l hlt D cB cI cJ ad hI (L := L) I (xs (nI (6 * t) + 1).toNatClampNeg) (xs (nI (6 * t) + 2).toNatClampNeg) with h9 | h9
    · exact hf_CF h9 (fun fr lo post hM hpo => hw_thing l D cB cI cJ ad 128 (pl ad cB cI cJ A V R L) hI 0 127 _ (L 127) (xs (nI (6 * t) + 1).toNatClampNeg) (xs (nI (6 * t) + 2).toNatClampNeg) hM hpo (by decide) (by decide) (show pl ad cB cI cJ A V R L 0 = .inr (11, poF ad 0 1 (R 0) (116 - R 0) 3 4 7 14 17 (V 0 8) (V 0 9) 24 31 44 46) from rfl))
    · exact hf_CX h9 (by decide) (fun fr lo hM => hx_thing l D cB cI cJ ad 128 (pl ad cB cI cJ A V R L) hI 0 127 _ (L 127) (xs (nI (6 * t) + 1).toNatClampNeg) (xs (nI (6 * t) + 2).toNatClampNeg) hM (by decide) (show pl ad cB cI cJ A V R L 0 = .inr (11, poF ad 0 1 (R 0) (116 - R 0) 3 4 7 14 17 (V 0 8) (V 0 9) 24 31 44 46) from rfl))
  obtain ⟨fr, lo, post, hM, h1, h2, hp⟩ := HH
  refine lv_aload_n hx hb dL_law_514 rfl (lv_at hl 1 rfl) ?_
  refine lv_aload_n hx hb dL_law_515 rfl (lv_at hl 0 rfl) ?_
  refine lv_iload hx hb dL_law_516 (lv_at hl 4 rfl) ?_
  refine lv_iconst (v := 1) hx hb dL_law_518 (by decide) ?_
  refine lv_iadd hx hb dL_law_519 ?_
  refine va_sld hx hb hX hbl hbA hS (sc_in ht hLn 1 (by decide)) dL_law_520 ?_
  refine lv_aload_n hx hb dL_law_521 rfl (lv_at hl 0 rfl) ?_
  refine lv_iload hx hb dL_law_522 (lv_at hl 4 rfl) ?_
  refine lv_iconst (v := 2) hx hb dL_law_524 (by decide) ?_
  refine lv_iadd hx hb dL_law_525 ?_
  refine va_sld hx hb hX hbl hbA hS (sc_in ht hLn 2 (by decide)) dL_law_526 ?_
  refine lv_aload_n hx hb dL_law_527 rfl (lv_at hl 3 rfl) ?_
  refine q_callH (As := [.ref (ad 0), .int (xs (nI (6 * t) + 1).toNatClampNeg), .int (xs (nI (6 * t) + 2).toNatClampNeg), .ref (ad 127)]) (rest := []) hM X hK hZ hP hS hl.1 rfl gL_law_L_thing ydL_thing ⟨by show fr + 1 ≤ 2048; omega, by show 8 + (5 + 11) + lo ≤ 84000; omega⟩ rfl (Nat.le_of_ble_eq_true rfl) ⟨by show cells + 1 ≤ 601024; omega, by show slots + 6 ≤ 7293034; omega⟩ dL_law_528 (fun v M1 H1 locs1 hp1 hP hS => ?_)
  obtain ⟨r1, A1, V1, R1, L1, rfl, hv, fr3, lo3, post3, hM3, h13, h23, hp3⟩ := hp v M1 hp1
  refine lv_istore (lv' := [(5, .int v), (0, .ref b), (1, .ref (ad 0)), (2, .ref (ad 82)), (3, .ref (ad 127)), (4, .int (nI (6 * t)))]) hx hb dL_law_531 hl (by decide) rfl (fun ls hl => ?_)
  refine lv_aload_n hx hb dL_law_533 rfl (lv_at hl 3 rfl) ?_
  refine lv_aload_n hx hb dL_law_534 rfl (lv_at hl 1 rfl) ?_
  refine lv_iload hx hb dL_law_535 (lv_at hl 5 rfl) ?_
  refine lv_iconst (v := 1) hx hb dL_law_537 (by decide) ?_
  refine lv_iadd hx hb dL_law_538 ?_
  refine va_sld hx hb hX hbl hbA hS (sc_in ht hLn 1 (by decide)) dL_law_539 ?_
  refine lv_aload_n hx hb dL_law_540 rfl (lv_at hl 1 rfl) ?_
  refine lv_iload hx hb dL_law_541 (lv_at hl 5 rfl) ?_
  refine lv_iconst (v := 2) hx hb dL_law_543 (by decide) ?_
  refine lv_iadd hx hb dL_law_544 ?_
  refine va_sld hx hb hX hbl hbA hS (sc_in ht hLn 2 (by decide)) dL_law_545 ?_
  refine q_wrVi (As := [.int (xs (nI (6 * t) + 1).toNatClampNeg), .int (xs (nI (6 * t) + 2).toNatClampNeg)]) (rest := []) hM3 X hK hP hS hl.1 rfl gL_law_X13_thing ydq_13thing ⟨by show fr3 + 1 ≤ 2048; omega, by show 8 + (3 + 11) + lo3 ≤ 84000; omega⟩ (by decide) (show pl ad cB cI cJ A1 V1 R1 L1 82 = .inr (12, modF ad 82 (V1 82)) from rfl) (ci := 12) rfl rfl (Nat.le_of_ble_eq_true rfl) ⟨by show cells + 1 ≤ 601024; omega, by show slots + 6 ≤ 7293034; omega⟩ dL_law_546 (fun r3 M3 H3 locs3 hp9 hP hS => ?_)
  obtain ⟨A3, V3, R3, L3, rfl, hL3, hk, hr, I3⟩ := hp3 r3 M3 hp9
  refine lv_istore (lv' := [(6, .int r3), (5, .int v), (0, .ref b), (1, .ref (ad 0)), (2, .ref (ad 82)), (3, .ref (ad 127)), (4, .int (nI (6 * t)))]) hx hb dL_law_549 hl (by decide) rfl (fun ls hl => ?_)
  refine lv_aload_n hx hb dL_law_551 rfl (lv_at hl 4 rfl) ?_
  refine q_rdV (As := []) (rest := []) (c_X13_thrown l D cB cI cJ ad 128 (pl ad cB cI cJ A3 V3 R3 L3) 82 (V3 82) (by decide) rfl) X hK hP hS hl.1 rfl gL_law_X13_thrown ydq_13thrown ⟨by show 0 + 1 ≤ 2048; omega, by show 8 + (1 + 11) + 0 ≤ 84000; omega⟩ (by decide) (show pl ad cB cI cJ A3 V3 R3 L3 82 = .inr (12, modF ad 82 (V3 82)) from rfl) (ci := 12) rfl rfl (Nat.le_of_ble_eq_true rfl) ⟨by show cells + 1 ≤ 601024; omega, by show slots + 6 ≤ 7293034; omega⟩ dL_law_552 ?_
  refine lv_iload hx hb dL_law_555 (lv_at hl 1 rfl) ?_
  refine lv_icmp_eq (tgt := 562) hx hb dL_law_557 (by decide) (fun _ => ?_) (fun q => absurd hk q)
  refine lv_iload hx hb dL_law_562 (lv_at hl 1 rfl) ?_
  refine lv_if_ne (tgt := 579) hx hb dL_law_564 (by decide) (fun c0 => ?_) (fun c0 => ?_)
  · refine lv_goto (tgt := 1691) hx hb dL_law_579 (by decide) ?_
    exact kk A3 V3 R3 L3 H3 locs3 ls (cells + 1) (slots + 6) I3 hP hS (lv_sub hl [2, 3, 4, 5, 6] rfl) (Nat.le_refl _) (Nat.le_refl _)
  · have v0 : v = 0 := by first | exact c0 | exact Decidable.not_not.mp c0
    refine lv_aload_n hx hb dL_law_567 rfl (lv_at hl 5 rfl) ?_
    refine lv_iconst (v := 0) hx hb dL_law_568 (by decide) ?_
    refine q_laldN (f := L3 127) (k := 1) X hK hP 0 (by decide) rfl (by decide) (by decide) dL_law_569 ?_
    refine lv_iload hx hb dL_law_570 (lv_at hl 0 rfl) ?_
    refine lv_i2l hx hb dL_law_572 rfl ?_
    refine q_lcmp_eq (tgt := 579) hx hb dL_law_573 dL_law_574 (by decide) (fun _ => ?_) (fun q => absurd (by rw [hL3, hv v0, hr v0]) q)
    refine lv_goto (tgt := 1691) hx hb dL_law_579 (by decide) ?_
    exact kk A3 V3 R3 L3 H3 locs3 ls (cells + 1) (slots + 6) I3 hP hS (lv_sub hl [2, 3, 4, 5, 6] rfl) (Nat.le_refl _) (Nat.le_refl _)
theorem ydq_13shift : YD yX13_shift 2 := ⟨by decide +kernel, by decide +kernel, by decide +kernel⟩
set_option maxRecDepth 100000 in
theorem op_shift (hlt : l.stackTraces = false) (Y : LX p s m c D cB cI cJ ad b Ln xs) (I : INV A V R) (hP : va_P D vwCl (ip ad 128 (pl ad cB cI cJ A V R L)) H) (hS : va_S (ipA ad 128) s.heap H locs) (hcs : cells + 1 ≤ 601024 ∧ slots + 6 ≤ 7293034) {t : Nat} (ht : 6 * t + 6 ≤ Ln) (hLn : Ln < 2 ^ 31) (hl : lv_has ls 8 [(0, .ref b), (1, .ref (ad 0)), (2, .ref (ad 82)), (3, .ref (ad 127)), (4, .int (nI (6 * t)))])
    (kk : ∀ (A V : Nat → Nat → Int32) (R : Nat → Nat) (L : Nat → Nat → Int64) (H : Heap) (locs : List Loc) (ls : Array Slot) (ce sl : Nat), INV A V R → va_P D vwCl (ip ad 128 (pl ad cB cI cJ A V R L)) H → va_S (ipA ad 128) s.heap H locs → lv_has ls 8 [(0, .ref b), (1, .ref (ad 0)), (2, .ref (ad 82)), (3, .ref (ad 127)), (4, .int (nI (6 * t)))] → ce ≤ cells + 1 → sl ≤ slots + 6 → W p l e room_1 s m #[Value.ref b] below meth c H locs ce sl Q (F0 m 1691 ls [])) :
    W p l e room_1 s m #[Value.ref b] below meth c H locs cells slots Q (F0 m 657 ls []) := by
  obtain ⟨X, hK, hZ, hI, hX, hbl, hbA⟩ := Y
  obtain ⟨hx, hb, hml, hown, hts⟩ := id X
  have HH : HF l D cB cI cJ ad A V R L yL_shift wsL_shift [.ref (ad 0), .int (xs (nI (6 * t) + 1).toNatClampNeg), .int (xs (nI (6 * t) + 2).toNatClampNeg), .ref (ad 127)] yX13_shift wsX13_shift [.ref (ad 82), .int (xs (nI (6 * t) + 1).toNatClampNeg), .int (xs (nI (6 * t) + 2).toNatClampNeg)] := by
    rcases sem_shift l hlt D cB cI cJ ad hI (L := L) I (xs (nI (6 * t) + 1).toNatClampNeg) (xs (nI (6 * t) + 2).toNatClampNeg) with h9 | h9
    · exact hf_CF h9 (fun fr lo post hM hpo => h_shift l D cB cI cJ ad 128 (pl ad cB cI cJ A V R L) hI 0 127 _ (L 127) (xs (nI (6 * t) + 1).toNatClampNeg) (xs (nI (6 * t) + 2).toNatClampNeg) hM hpo (by decide) (by decide) (show pl ad cB cI cJ A V R L 0 = .inr (11, poF ad 0 1 (R 0) (116 - R 0) 3 4 7 14 17 (V 0 8) (V 0 9) 24 31 44 46) from rfl))
    · exact hf_CX h9 (by decide) (fun fr lo hM => hx_shift l D cB cI cJ ad 128 (pl ad cB cI cJ A V R L) hI 0 127 _ (L 127) (xs (nI (6 * t) + 1).toNatClampNeg) (xs (nI (6 * t) + 2).toNatClampNeg) hM (by decide) (show pl ad cB cI cJ A V R L 0 = .inr (11, poF ad 0 1 (R 0) (116 - R 0) 3 4 7 14 17 (V 0 8) (V 0 9) 24 31 44 46) from rfl))
  obtain ⟨fr, lo, post, hM, h1, h2, hp⟩ := HH
  refine lv_aload_n hx hb dL_law_657 rfl (lv_at hl 1 rfl) ?_
  refine lv_aload_n hx hb dL_law_658 rfl (lv_at hl 0 rfl) ?_
  refine lv_iload hx hb dL_law_659 (lv_at hl 4 rfl) ?_
  refine lv_iconst (v := 1) hx hb dL_law_661 (by decide) ?_
  refine lv_iadd hx hb dL_law_662 ?_
  refine va_sld hx hb hX hbl hbA hS (sc_in ht hLn 1 (by decide)) dL_law_663 ?_
  refine lv_aload_n hx hb dL_law_664 rfl (lv_at hl 0 rfl) ?_
  refine lv_iload hx hb dL_law_665 (lv_at hl 4 rfl) ?_
  refine lv_iconst (v := 2) hx hb dL_law_667 (by decide) ?_
  refine lv_iadd hx hb dL_law_668 ?_
  refine va_sld hx hb hX hbl hbA hS (sc_in ht hLn 2 (by decide)) dL_law_669 ?_
  refine lv_aload_n hx hb dL_law_670 rfl (lv_at hl 3 rfl) ?_
  refine q_callH (As := [.ref (ad 0), .int (xs (nI (6 * t) + 1).toNatClampNeg), .int (xs (nI (6 * t) + 2).toNatClampNeg), .ref (ad 127)]) (rest := []) hM X hK hZ hP hS hl.1 rfl gL_law_L_shift ydL_shift ⟨by show fr + 1 ≤ 2048; omega, by show 8 + (5 + 11) + lo ≤ 84000; omega⟩ rfl (Nat.le_of_ble_eq_true rfl) ⟨by show cells + 1 ≤ 601024; omega, by show slots + 6 ≤ 7293034; omega⟩ dL_law_671 (fun v M1 H1 locs1 hp1 hP hS => ?_)
  obtain ⟨r1, A1, V1, R1, L1, rfl, hv, fr3, lo3, post3, hM3, h13, h23, hp3⟩ := hp v M1 hp1
  refine lv_istore (lv' := [(5, .int v), (0, .ref b), (1, .ref (ad 0)), (2, .ref (ad 82)), (3, .ref (ad 127)), (4, .int (nI (6 * t)))]) hx hb dL_law_674 hl (by decide) rfl (fun ls hl => ?_)
  refine lv_aload_n hx hb dL_law_676 rfl (lv_at hl 3 rfl) ?_
  refine lv_aload_n hx hb dL_law_677 rfl (lv_at hl 1 rfl) ?_
  refine lv_iload hx hb dL_law_678 (lv_at hl 5 rfl) ?_
  refine lv_iconst (v := 1) hx hb dL_law_680 (by decide) ?_
  refine lv_iadd hx hb dL_law_681 ?_
  refine va_sld hx hb hX hbl hbA hS (sc_in ht hLn 1 (by decide)) dL_law_682 ?_
  refine lv_aload_n hx hb dL_law_683 rfl (lv_at hl 1 rfl) ?_
  refine lv_iload hx hb dL_law_684 (lv_at hl 5 rfl) ?_
  refine lv_iconst (v := 2) hx hb dL_law_686 (by decide) ?_
  refine lv_iadd hx hb dL_law_687 ?_
  refine va_sld hx hb hX hbl hbA hS (sc_in ht hLn 2 (by decide)) dL_law_688 ?_
  refine q_wrVi (As := [.int (xs (nI (6 * t) + 1).toNatClampNeg), .int (xs (nI (6 * t) + 2).toNatClampNeg)]) (rest := []) hM3 X hK hP hS hl.1 rfl gL_law_X13_shift ydq_13shift ⟨by show fr3 + 1 ≤ 2048; omega, by show 8 + (4 + 11) + lo3 ≤ 84000; omega⟩ (by decide) (show pl ad cB cI cJ A1 V1 R1 L1 82 = .inr (12, modF ad 82 (V1 82)) from rfl) (ci := 12) rfl rfl (Nat.le_of_ble_eq_true rfl) ⟨by show cells + 1 ≤ 601024; omega, by show slots + 6 ≤ 7293034; omega⟩ dL_law_689 (fun r3 M3 H3 locs3 hp9 hP hS => ?_)
  obtain ⟨A3, V3, R3, L3, rfl, hL3, hk, hr, I3⟩ := hp3 r3 M3 hp9
  refine lv_istore (lv' := [(6, .int r3), (5, .int v), (0, .ref b), (1, .ref (ad 0)), (2, .ref (ad 82)), (3, .ref (ad 127)), (4, .int (nI (6 * t)))]) hx hb dL_law_692 hl (by decide) rfl (fun ls hl => ?_)
  refine lv_aload_n hx hb dL_law_694 rfl (lv_at hl 4 rfl) ?_
  refine q_rdV (As := []) (rest := []) (c_X13_thrown l D cB cI cJ ad 128 (pl ad cB cI cJ A3 V3 R3 L3) 82 (V3 82) (by decide) rfl) X hK hP hS hl.1 rfl gL_law_X13_thrown ydq_13thrown ⟨by show 0 + 1 ≤ 2048; omega, by show 8 + (1 + 11) + 0 ≤ 84000; omega⟩ (by decide) (show pl ad cB cI cJ A3 V3 R3 L3 82 = .inr (12, modF ad 82 (V3 82)) from rfl) (ci := 12) rfl rfl (Nat.le_of_ble_eq_true rfl) ⟨by show cells + 1 ≤ 601024; omega, by show slots + 6 ≤ 7293034; omega⟩ dL_law_695 ?_
  refine lv_iload hx hb dL_law_698 (lv_at hl 1 rfl) ?_
  refine lv_icmp_eq (tgt := 705) hx hb dL_law_700 (by decide) (fun _ => ?_) (fun q => absurd hk q)
  refine lv_iload hx hb dL_law_705 (lv_at hl 1 rfl) ?_
  refine lv_if_ne (tgt := 722) hx hb dL_law_707 (by decide) (fun c0 => ?_) (fun c0 => ?_)
  · refine lv_goto (tgt := 1691) hx hb dL_law_722 (by decide) ?_
    exact kk A3 V3 R3 L3 H3 locs3 ls (cells + 1) (slots + 6) I3 hP hS (lv_sub hl [2, 3, 4, 5, 6] rfl) (Nat.le_refl _) (Nat.le_refl _)
  · have v0 : v = 0 := by first | exact c0 | exact Decidable.not_not.mp c0
    refine lv_aload_n hx hb dL_law_710 rfl (lv_at hl 5 rfl) ?_
    refine lv_iconst (v := 0) hx hb dL_law_711 (by decide) ?_
    refine q_laldN (f := L3 127) (k := 1) X hK hP 0 (by decide) rfl (by decide) (by decide) dL_law_712 ?_
    refine lv_iload hx hb dL_law_713 (lv_at hl 0 rfl) ?_
    refine lv_i2l hx hb dL_law_715 rfl ?_
    refine q_lcmp_eq (tgt := 722) hx hb dL_law_716 dL_law_717 (by decide) (fun _ => ?_) (fun q => absurd (by rw [hL3, hv v0, hr v0]) q)
    refine lv_goto (tgt := 1691) hx hb dL_law_722 (by decide) ?_
    exact kk A3 V3 R3 L3 H3 locs3 ls (cells + 1) (slots + 6) I3 hP hS (lv_sub hl [2, 3, 4, 5, 6] rfl) (Nat.le_refl _) (Nat.le_refl _)
theorem ydq_13two : YD yX13_two 2 := ⟨by decide +kernel, by decide +kernel, by decide +kernel⟩
set_option maxRecDepth 100000 in
theorem op_two (hlt : l.stackTraces = false) (Y : LX p s m c D cB cI cJ ad b Ln xs) (I : INV A V R) (hP : va_P D vwCl (ip ad 128 (pl ad cB cI cJ A V R L)) H) (hS : va_S (ipA ad 128) s.heap H locs) (hcs : cells + 1 ≤ 601024 ∧ slots + 6 ≤ 7293034) {t : Nat} (ht : 6 * t + 6 ≤ Ln) (hLn : Ln < 2 ^ 31) (hl : lv_has ls 8 [(0, .ref b), (1, .ref (ad 0)), (2, .ref (ad 82)), (3, .ref (ad 127)), (4, .int (nI (6 * t)))])
    (kk : ∀ (A V : Nat → Nat → Int32) (R : Nat → Nat) (L : Nat → Nat → Int64) (H : Heap) (locs : List Loc) (ls : Array Slot) (ce sl : Nat), INV A V R → va_P D vwCl (ip ad 128 (pl ad cB cI cJ A V R L)) H → va_S (ipA ad 128) s.heap H locs → lv_has ls 8 [(0, .ref b), (1, .ref (ad 0)), (2, .ref (ad 82)), (3, .ref (ad 127)), (4, .int (nI (6 * t)))] → ce ≤ cells + 1 → sl ≤ slots + 6 → W p l e room_1 s m #[Value.ref b] below meth c H locs ce sl Q (F0 m 1691 ls [])) :
    W p l e room_1 s m #[Value.ref b] below meth c H locs cells slots Q (F0 m 764 ls []) := by
  obtain ⟨X, hK, hZ, hI, hX, hbl, hbA⟩ := Y
  obtain ⟨hx, hb, hml, hown, hts⟩ := id X
  have HH : HF l D cB cI cJ ad A V R L yL_two wsL_two [.ref (ad 0), .int (xs (nI (6 * t) + 1).toNatClampNeg), .int (xs (nI (6 * t) + 2).toNatClampNeg), .ref (ad 127)] yX13_two wsX13_two [.ref (ad 82), .int (xs (nI (6 * t) + 1).toNatClampNeg), .int (xs (nI (6 * t) + 2).toNatClampNeg)] := by
    rcases sem_two l hlt D cB cI cJ ad hI (L := L) I (xs (nI (6 * t) + 1).toNatClampNeg) (xs (nI (6 * t) + 2).toNatClampNeg) with h9 | h9 | h9
    · exact hf_CF h9 (fun fr lo post hM hpo => hw_two l D cB cI cJ ad 128 (pl ad cB cI cJ A V R L) hI 0 127 _ (L 127) (xs (nI (6 * t) + 1).toNatClampNeg) (xs (nI (6 * t) + 2).toNatClampNeg) hM hpo (by decide) (by decide) (show pl ad cB cI cJ A V R L 0 = .inr (11, poF ad 0 1 (R 0) (116 - R 0) 3 4 7 14 17 (V 0 8) (V 0 9) 24 31 44 46) from rfl))
    · exact hf_CX h9 (by decide) (fun fr lo hM => hx_two l D cB cI cJ ad 128 (pl ad cB cI cJ A V R L) hI 0 127 _ (L 127) (xs (nI (6 * t) + 1).toNatClampNeg) (xs (nI (6 * t) + 2).toNatClampNeg) hM (by decide) (show pl ad cB cI cJ A V R L 0 = .inr (11, poF ad 0 1 (R 0) (116 - R 0) 3 4 7 14 17 (V 0 8) (V 0 9) 24 31 44 46) from rfl))
    · exact hf_CX h9 (by decide) (fun fr lo hM => hx_two2 l D cB cI cJ ad 128 (pl ad cB cI cJ A V R L) hI 0 127 _ (L 127) (xs (nI (6 * t) + 1).toNatClampNeg) (xs (nI (6 * t) + 2).toNatClampNeg) hM (by decide) (show pl ad cB cI cJ A V R L 0 = .inr (11, poF ad 0 1 (R 0) (116 - R 0) 3 4 7 14 17 (V 0 8) (V 0 9) 24 31 44 46) from rfl))
  obtain ⟨fr, lo, post, hM, h1, h2, hp⟩ := HH
  refine lv_aload_n hx hb dL_law_764 rfl (lv_at hl 1 rfl) ?_
  refine lv_aload_n hx hb dL_law_765 rfl (lv_at hl 0 rfl) ?_
  refine lv_iload hx hb dL_law_766 (lv_at hl 4 rfl) ?_
  refine lv_iconst (v := 1) hx hb dL_law_768 (by decide) ?_
  refine lv_iadd hx hb dL_law_769 ?_
  refine va_sld hx hb hX hbl hbA hS (sc_in ht hLn 1 (by decide)) dL_law_770 ?_
  refine lv_aload_n hx hb dL_law_771 rfl (lv_at hl 0 rfl) ?_
  refine lv_iload hx hb dL_law_772 (lv_at hl 4 rfl) ?_
  refine lv_iconst (v := 2) hx hb dL_law_774 (by decide) ?_
  refine lv_iadd hx hb dL_law_775 ?_
  refine va_sld hx hb hX hbl hbA hS (sc_in ht hLn 2 (by decide)) dL_law_776 ?_
  refine lv_aload_n hx hb dL_law_777 rfl (lv_at hl 3 rfl) ?_
  refine q_callH (As := [.ref (ad 0), .int (xs (nI (6 * t) + 1).toNatClampNeg), .int (xs (nI (6 * t) + 2).toNatClampNeg), .ref (ad 127)]) (rest := []) hM X hK hZ hP hS hl.1 rfl gL_law_L_two ydL_two ⟨by show fr + 1 ≤ 2048; omega, by show 8 + (5 + 11) + lo ≤ 84000; omega⟩ rfl (Nat.le_of_ble_eq_true rfl) ⟨by show cells + 1 ≤ 601024; omega, by show slots + 6 ≤ 7293034; omega⟩ dL_law_778 (fun v M1 H1 locs1 hp1 hP hS => ?_)
  obtain ⟨r1, A1, V1, R1, L1, rfl, hv, fr3, lo3, post3, hM3, h13, h23, hp3⟩ := hp v M1 hp1
  refine lv_istore (lv' := [(5, .int v), (0, .ref b), (1, .ref (ad 0)), (2, .ref (ad 82)), (3, .ref (ad 127)), (4, .int (nI (6 * t)))]) hx hb dL_law_781 hl (by decide) rfl (fun ls hl => ?_)
  refine lv_aload_n hx hb dL_law_783 rfl (lv_at hl 3 rfl) ?_
  refine lv_aload_n hx hb dL_law_784 rfl (lv_at hl 1 rfl) ?_
  refine lv_iload hx hb dL_law_785 (lv_at hl 5 rfl) ?_
  refine lv_iconst (v := 1) hx hb dL_law_787 (by decide) ?_
  refine lv_iadd hx hb dL_law_788 ?_
  refine va_sld hx hb hX hbl hbA hS (sc_in ht hLn 1 (by decide)) dL_law_789 ?_
  refine lv_aload_n hx hb dL_law_790 rfl (lv_at hl 1 rfl) ?_
  refine lv_iload hx hb dL_law_791 (lv_at hl 5 rfl) ?_
  refine lv_iconst (v := 2) hx hb dL_law_793 (by decide) ?_
  refine lv_iadd hx hb dL_law_794 ?_
  refine va_sld hx hb hX hbl hbA hS (sc_in ht hLn 2 (by decide)) dL_law_795 ?_
  refine q_wrVi (As := [.int (xs (nI (6 * t) + 1).toNatClampNeg), .int (xs (nI (6 * t) + 2).toNatClampNeg)]) (rest := []) hM3 X hK hP hS hl.1 rfl gL_law_X13_two ydq_13two ⟨by show fr3 + 1 ≤ 2048; omega, by show 8 + (7 + 11) + lo3 ≤ 84000; omega⟩ (by decide) (show pl ad cB cI cJ A1 V1 R1 L1 82 = .inr (12, modF ad 82 (V1 82)) from rfl) (ci := 12) rfl rfl (Nat.le_of_ble_eq_true rfl) ⟨by show cells + 1 ≤ 601024; omega, by show slots + 6 ≤ 7293034; omega⟩ dL_law_796 (fun r3 M3 H3 locs3 hp9 hP hS => ?_)
  obtain ⟨A3, V3, R3, L3, rfl, hL3, hk, hr, I3⟩ := hp3 r3 M3 hp9
  refine lv_istore (lv' := [(6, .int r3), (5, .int v), (0, .ref b), (1, .ref (ad 0)), (2, .ref (ad 82)), (3, .ref (ad 127)), (4, .int (nI (6 * t)))]) hx hb dL_law_799 hl (by decide) rfl (fun ls hl => ?_)
  refine lv_aload_n hx hb dL_law_801 rfl (lv_at hl 4 rfl) ?_
  refine q_rdV (As := []) (rest := []) (c_X13_thrown l D cB cI cJ ad 128 (pl ad cB cI cJ A3 V3 R3 L3) 82 (V3 82) (by decide) rfl) X hK hP hS hl.1 rfl gL_law_X13_thrown ydq_13thrown ⟨by show 0 + 1 ≤ 2048; omega, by show 8 + (1 + 11) + 0 ≤ 84000; omega⟩ (by decide) (show pl ad cB cI cJ A3 V3 R3 L3 82 = .inr (12, modF ad 82 (V3 82)) from rfl) (ci := 12) rfl rfl (Nat.le_of_ble_eq_true rfl) ⟨by show cells + 1 ≤ 601024; omega, by show slots + 6 ≤ 7293034; omega⟩ dL_law_802 ?_
  refine lv_iload hx hb dL_law_805 (lv_at hl 1 rfl) ?_
  refine lv_icmp_eq (tgt := 812) hx hb dL_law_807 (by decide) (fun _ => ?_) (fun q => absurd hk q)
  refine lv_iload hx hb dL_law_812 (lv_at hl 1 rfl) ?_
  refine lv_if_ne (tgt := 829) hx hb dL_law_814 (by decide) (fun c0 => ?_) (fun c0 => ?_)
  · refine lv_goto (tgt := 1691) hx hb dL_law_829 (by decide) ?_
    exact kk A3 V3 R3 L3 H3 locs3 ls (cells + 1) (slots + 6) I3 hP hS (lv_sub hl [2, 3, 4, 5, 6] rfl) (Nat.le_refl _) (Nat.le_refl _)
  · have v0 : v = 0 := by first | exact c0 | exact Decidable.not_not.mp c0
    refine lv_aload_n hx hb dL_law_817 rfl (lv_at hl 5 rfl) ?_
    refine lv_iconst (v := 0) hx hb dL_law_818 (by decide) ?_
    refine q_laldN (f := L3 127) (k := 1) X hK hP 0 (by decide) rfl (by decide) (by decide) dL_law_819 ?_
    refine lv_iload hx hb dL_law_820 (lv_at hl 0 rfl) ?_
    refine lv_i2l hx hb dL_law_822 rfl ?_
    refine q_lcmp_eq (tgt := 829) hx hb dL_law_823 dL_law_824 (by decide) (fun _ => ?_) (fun q => absurd (by rw [hL3, hv v0, hr v0]) q)
    refine lv_goto (tgt := 1691) hx hb dL_law_829 (by decide) ?_
    exact kk A3 V3 R3 L3 H3 locs3 ls (cells + 1) (slots + 6) I3 hP hS (lv_sub hl [2, 3, 4, 5, 6] rfl) (Nat.le_refl _) (Nat.le_refl _)
theorem ydq_13cheap : YD yX13_cheap 1 := ⟨by decide +kernel, by decide +kernel, by decide +kernel⟩
set_option maxRecDepth 100000 in
theorem op_cheap (hlt : l.stackTraces = false) (Y : LX p s m c D cB cI cJ ad b Ln xs) (I : INV A V R) (hP : va_P D vwCl (ip ad 128 (pl ad cB cI cJ A V R L)) H) (hS : va_S (ipA ad 128) s.heap H locs) (hcs : cells + 1 ≤ 601024 ∧ slots + 6 ≤ 7293034) {t : Nat} (ht : 6 * t + 6 ≤ Ln) (hLn : Ln < 2 ^ 31) (hl : lv_has ls 8 [(0, .ref b), (1, .ref (ad 0)), (2, .ref (ad 82)), (3, .ref (ad 127)), (4, .int (nI (6 * t)))])
    (kk : ∀ (A V : Nat → Nat → Int32) (R : Nat → Nat) (L : Nat → Nat → Int64) (H : Heap) (locs : List Loc) (ls : Array Slot) (ce sl : Nat), INV A V R → va_P D vwCl (ip ad 128 (pl ad cB cI cJ A V R L)) H → va_S (ipA ad 128) s.heap H locs → lv_has ls 8 [(0, .ref b), (1, .ref (ad 0)), (2, .ref (ad 82)), (3, .ref (ad 127)), (4, .int (nI (6 * t)))] → ce ≤ cells + 1 → sl ≤ slots + 6 → W p l e room_1 s m #[Value.ref b] below meth c H locs ce sl Q (F0 m 1691 ls [])) :
    W p l e room_1 s m #[Value.ref b] below meth c H locs cells slots Q (F0 m 845 ls []) := by
  obtain ⟨X, hK, hZ, hI, hX, hbl, hbA⟩ := Y
  obtain ⟨hx, hb, hml, hown, hts⟩ := id X
  have HH : HF l D cB cI cJ ad A V R L yL_cheap wsL_cheap [.ref (ad 0), .int (xs (nI (6 * t) + 1).toNatClampNeg), .ref (ad 127)] yX13_cheap wsX13_cheap [.ref (ad 82), .int (xs (nI (6 * t) + 1).toNatClampNeg)] := by
    rcases sem_cheap l hlt D cB cI cJ ad hI (L := L) I (xs (nI (6 * t) + 1).toNatClampNeg) with h9 | h9
    · exact hf_CF h9 (fun fr lo post hM hpo => h_cheap l D cB cI cJ ad 128 (pl ad cB cI cJ A V R L) hI 0 127 _ (L 127) (xs (nI (6 * t) + 1).toNatClampNeg) hM hpo (by decide) (by decide) (show pl ad cB cI cJ A V R L 0 = .inr (11, poF ad 0 1 (R 0) (116 - R 0) 3 4 7 14 17 (V 0 8) (V 0 9) 24 31 44 46) from rfl))
    · exact hf_CX h9 (by decide) (fun fr lo hM => hx_cheap l D cB cI cJ ad 128 (pl ad cB cI cJ A V R L) hI 0 127 _ (L 127) (xs (nI (6 * t) + 1).toNatClampNeg) hM (by decide) (show pl ad cB cI cJ A V R L 0 = .inr (11, poF ad 0 1 (R 0) (116 - R 0) 3 4 7 14 17 (V 0 8) (V 0 9) 24 31 44 46) from rfl))
  obtain ⟨fr, lo, post, hM, h1, h2, hp⟩ := HH
  refine lv_aload_n hx hb dL_law_845 rfl (lv_at hl 1 rfl) ?_
  refine lv_aload_n hx hb dL_law_846 rfl (lv_at hl 0 rfl) ?_
  refine lv_iload hx hb dL_law_847 (lv_at hl 4 rfl) ?_
  refine lv_iconst (v := 1) hx hb dL_law_849 (by decide) ?_
  refine lv_iadd hx hb dL_law_850 ?_
  refine va_sld hx hb hX hbl hbA hS (sc_in ht hLn 1 (by decide)) dL_law_851 ?_
  refine lv_aload_n hx hb dL_law_852 rfl (lv_at hl 3 rfl) ?_
  refine q_callH (As := [.ref (ad 0), .int (xs (nI (6 * t) + 1).toNatClampNeg), .ref (ad 127)]) (rest := []) hM X hK hZ hP hS hl.1 rfl gL_law_L_cheap ydL_cheap ⟨by show fr + 1 ≤ 2048; omega, by show 8 + (4 + 11) + lo ≤ 84000; omega⟩ rfl (Nat.le_of_ble_eq_true rfl) ⟨by show cells + 1 ≤ 601024; omega, by show slots + 6 ≤ 7293034; omega⟩ dL_law_853 (fun v M1 H1 locs1 hp1 hP hS => ?_)
  obtain ⟨r1, A1, V1, R1, L1, rfl, hv, fr3, lo3, post3, hM3, h13, h23, hp3⟩ := hp v M1 hp1
  refine lv_istore (lv' := [(5, .int v), (0, .ref b), (1, .ref (ad 0)), (2, .ref (ad 82)), (3, .ref (ad 127)), (4, .int (nI (6 * t)))]) hx hb dL_law_856 hl (by decide) rfl (fun ls hl => ?_)
  refine lv_aload_n hx hb dL_law_858 rfl (lv_at hl 3 rfl) ?_
  refine lv_aload_n hx hb dL_law_859 rfl (lv_at hl 1 rfl) ?_
  refine lv_iload hx hb dL_law_860 (lv_at hl 5 rfl) ?_
  refine lv_iconst (v := 1) hx hb dL_law_862 (by decide) ?_
  refine lv_iadd hx hb dL_law_863 ?_
  refine va_sld hx hb hX hbl hbA hS (sc_in ht hLn 1 (by decide)) dL_law_864 ?_
  refine q_wrVi (As := [.int (xs (nI (6 * t) + 1).toNatClampNeg)]) (rest := []) hM3 X hK hP hS hl.1 rfl gL_law_X13_cheap ydq_13cheap ⟨by show fr3 + 1 ≤ 2048; omega, by show 8 + (2 + 11) + lo3 ≤ 84000; omega⟩ (by decide) (show pl ad cB cI cJ A1 V1 R1 L1 82 = .inr (12, modF ad 82 (V1 82)) from rfl) (ci := 12) rfl rfl (Nat.le_of_ble_eq_true rfl) ⟨by show cells + 1 ≤ 601024; omega, by show slots + 6 ≤ 7293034; omega⟩ dL_law_865 (fun r3 M3 H3 locs3 hp9 hP hS => ?_)
  obtain ⟨A3, V3, R3, L3, rfl, hL3, hk, hr, I3⟩ := hp3 r3 M3 hp9
  refine lv_istore (lv' := [(6, .int r3), (5, .int v), (0, .ref b), (1, .ref (ad 0)), (2, .ref (ad 82)), (3, .ref (ad 127)), (4, .int (nI (6 * t)))]) hx hb dL_law_868 hl (by decide) rfl (fun ls hl => ?_)
  refine lv_aload_n hx hb dL_law_870 rfl (lv_at hl 4 rfl) ?_
  refine q_rdV (As := []) (rest := []) (c_X13_thrown l D cB cI cJ ad 128 (pl ad cB cI cJ A3 V3 R3 L3) 82 (V3 82) (by decide) rfl) X hK hP hS hl.1 rfl gL_law_X13_thrown ydq_13thrown ⟨by show 0 + 1 ≤ 2048; omega, by show 8 + (1 + 11) + 0 ≤ 84000; omega⟩ (by decide) (show pl ad cB cI cJ A3 V3 R3 L3 82 = .inr (12, modF ad 82 (V3 82)) from rfl) (ci := 12) rfl rfl (Nat.le_of_ble_eq_true rfl) ⟨by show cells + 1 ≤ 601024; omega, by show slots + 6 ≤ 7293034; omega⟩ dL_law_871 ?_
  refine lv_iload hx hb dL_law_874 (lv_at hl 1 rfl) ?_
  refine lv_icmp_eq (tgt := 881) hx hb dL_law_876 (by decide) (fun _ => ?_) (fun q => absurd hk q)
  refine lv_iload hx hb dL_law_881 (lv_at hl 1 rfl) ?_
  refine lv_if_ne (tgt := 898) hx hb dL_law_883 (by decide) (fun c0 => ?_) (fun c0 => ?_)
  · refine lv_goto (tgt := 1691) hx hb dL_law_898 (by decide) ?_
    exact kk A3 V3 R3 L3 H3 locs3 ls (cells + 1) (slots + 6) I3 hP hS (lv_sub hl [2, 3, 4, 5, 6] rfl) (Nat.le_refl _) (Nat.le_refl _)
  · have v0 : v = 0 := by first | exact c0 | exact Decidable.not_not.mp c0
    refine lv_aload_n hx hb dL_law_886 rfl (lv_at hl 5 rfl) ?_
    refine lv_iconst (v := 0) hx hb dL_law_887 (by decide) ?_
    refine q_laldN (f := L3 127) (k := 1) X hK hP 0 (by decide) rfl (by decide) (by decide) dL_law_888 ?_
    refine lv_iload hx hb dL_law_889 (lv_at hl 0 rfl) ?_
    refine lv_i2l hx hb dL_law_891 rfl ?_
    refine q_lcmp_eq (tgt := 898) hx hb dL_law_892 dL_law_893 (by decide) (fun _ => ?_) (fun q => absurd (by rw [hL3, hv v0, hr v0]) q)
    refine lv_goto (tgt := 1691) hx hb dL_law_898 (by decide) ?_
    exact kk A3 V3 R3 L3 H3 locs3 ls (cells + 1) (slots + 6) I3 hP hS (lv_sub hl [2, 3, 4, 5, 6] rfl) (Nat.le_refl _) (Nat.le_refl _)
theorem ydq_13fate : YD yX13_fate 1 := ⟨by decide +kernel, by decide +kernel, by decide +kernel⟩
set_option maxRecDepth 100000 in
theorem op_fate (hlt : l.stackTraces = false) (Y : LX p s m c D cB cI cJ ad b Ln xs) (I : INV A V R) (hP : va_P D vwCl (ip ad 128 (pl ad cB cI cJ A V R L)) H) (hS : va_S (ipA ad 128) s.heap H locs) (hcs : cells + 1 ≤ 601024 ∧ slots + 6 ≤ 7293034) {t : Nat} (ht : 6 * t + 6 ≤ Ln) (hLn : Ln < 2 ^ 31) (hl : lv_has ls 8 [(0, .ref b), (1, .ref (ad 0)), (2, .ref (ad 82)), (3, .ref (ad 127)), (4, .int (nI (6 * t)))])
    (kk : ∀ (A V : Nat → Nat → Int32) (R : Nat → Nat) (L : Nat → Nat → Int64) (H : Heap) (locs : List Loc) (ls : Array Slot) (ce sl : Nat), INV A V R → va_P D vwCl (ip ad 128 (pl ad cB cI cJ A V R L)) H → va_S (ipA ad 128) s.heap H locs → lv_has ls 8 [(0, .ref b), (1, .ref (ad 0)), (2, .ref (ad 82)), (3, .ref (ad 127)), (4, .int (nI (6 * t)))] → ce ≤ cells + 1 → sl ≤ slots + 6 → W p l e room_1 s m #[Value.ref b] below meth c H locs ce sl Q (F0 m 1691 ls [])) :
    W p l e room_1 s m #[Value.ref b] below meth c H locs cells slots Q (F0 m 901 ls []) := by
  obtain ⟨X, hK, hZ, hI, hX, hbl, hbA⟩ := Y
  obtain ⟨hx, hb, hml, hown, hts⟩ := id X
  have HH : HF l D cB cI cJ ad A V R L yL_fate wsL_fate [.ref (ad 0), .int (xs (nI (6 * t) + 1).toNatClampNeg), .ref (ad 127)] yX13_fate wsX13_fate [.ref (ad 82), .int (xs (nI (6 * t) + 1).toNatClampNeg)] := by
    rcases sem_fate l hlt D cB cI cJ ad hI (L := L) I (xs (nI (6 * t) + 1).toNatClampNeg) with h9 | h9
    · exact hf_CF h9 (fun fr lo post hM hpo => hw_fate l D cB cI cJ ad 128 (pl ad cB cI cJ A V R L) hI 0 127 _ (L 127) (xs (nI (6 * t) + 1).toNatClampNeg) hM hpo (by decide) (by decide) (show pl ad cB cI cJ A V R L 0 = .inr (11, poF ad 0 1 (R 0) (116 - R 0) 3 4 7 14 17 (V 0 8) (V 0 9) 24 31 44 46) from rfl))
    · exact hf_CX h9 (by decide) (fun fr lo hM => hx_fate l D cB cI cJ ad 128 (pl ad cB cI cJ A V R L) hI 0 127 _ (L 127) (xs (nI (6 * t) + 1).toNatClampNeg) hM (by decide) (show pl ad cB cI cJ A V R L 0 = .inr (11, poF ad 0 1 (R 0) (116 - R 0) 3 4 7 14 17 (V 0 8) (V 0 9) 24 31 44 46) from rfl))
  obtain ⟨fr, lo, post, hM, h1, h2, hp⟩ := HH
  refine lv_aload_n hx hb dL_law_901 rfl (lv_at hl 1 rfl) ?_
  refine lv_aload_n hx hb dL_law_902 rfl (lv_at hl 0 rfl) ?_
  refine lv_iload hx hb dL_law_903 (lv_at hl 4 rfl) ?_
  refine lv_iconst (v := 1) hx hb dL_law_905 (by decide) ?_
  refine lv_iadd hx hb dL_law_906 ?_
  refine va_sld hx hb hX hbl hbA hS (sc_in ht hLn 1 (by decide)) dL_law_907 ?_
  refine lv_aload_n hx hb dL_law_908 rfl (lv_at hl 3 rfl) ?_
  refine q_callH (As := [.ref (ad 0), .int (xs (nI (6 * t) + 1).toNatClampNeg), .ref (ad 127)]) (rest := []) hM X hK hZ hP hS hl.1 rfl gL_law_L_fate ydL_fate ⟨by show fr + 1 ≤ 2048; omega, by show 8 + (4 + 11) + lo ≤ 84000; omega⟩ rfl (Nat.le_of_ble_eq_true rfl) ⟨by show cells + 1 ≤ 601024; omega, by show slots + 6 ≤ 7293034; omega⟩ dL_law_909 (fun v M1 H1 locs1 hp1 hP hS => ?_)
  obtain ⟨r1, A1, V1, R1, L1, rfl, hv, fr3, lo3, post3, hM3, h13, h23, hp3⟩ := hp v M1 hp1
  refine lv_istore (lv' := [(5, .int v), (0, .ref b), (1, .ref (ad 0)), (2, .ref (ad 82)), (3, .ref (ad 127)), (4, .int (nI (6 * t)))]) hx hb dL_law_912 hl (by decide) rfl (fun ls hl => ?_)
  refine lv_aload_n hx hb dL_law_914 rfl (lv_at hl 3 rfl) ?_
  refine lv_aload_n hx hb dL_law_915 rfl (lv_at hl 1 rfl) ?_
  refine lv_iload hx hb dL_law_916 (lv_at hl 5 rfl) ?_
  refine lv_iconst (v := 1) hx hb dL_law_918 (by decide) ?_
  refine lv_iadd hx hb dL_law_919 ?_
  refine va_sld hx hb hX hbl hbA hS (sc_in ht hLn 1 (by decide)) dL_law_920 ?_
  refine q_wrVi (As := [.int (xs (nI (6 * t) + 1).toNatClampNeg)]) (rest := []) hM3 X hK hP hS hl.1 rfl gL_law_X13_fate ydq_13fate ⟨by show fr3 + 1 ≤ 2048; omega, by show 8 + (2 + 11) + lo3 ≤ 84000; omega⟩ (by decide) (show pl ad cB cI cJ A1 V1 R1 L1 82 = .inr (12, modF ad 82 (V1 82)) from rfl) (ci := 12) rfl rfl (Nat.le_of_ble_eq_true rfl) ⟨by show cells + 1 ≤ 601024; omega, by show slots + 6 ≤ 7293034; omega⟩ dL_law_921 (fun r3 M3 H3 locs3 hp9 hP hS => ?_)
  obtain ⟨A3, V3, R3, L3, rfl, hL3, hk, hr, I3⟩ := hp3 r3 M3 hp9
  refine lv_istore (lv' := [(6, .int r3), (5, .int v), (0, .ref b), (1, .ref (ad 0)), (2, .ref (ad 82)), (3, .ref (ad 127)), (4, .int (nI (6 * t)))]) hx hb dL_law_924 hl (by decide) rfl (fun ls hl => ?_)
  refine lv_aload_n hx hb dL_law_926 rfl (lv_at hl 4 rfl) ?_
  refine q_rdV (As := []) (rest := []) (c_X13_thrown l D cB cI cJ ad 128 (pl ad cB cI cJ A3 V3 R3 L3) 82 (V3 82) (by decide) rfl) X hK hP hS hl.1 rfl gL_law_X13_thrown ydq_13thrown ⟨by show 0 + 1 ≤ 2048; omega, by show 8 + (1 + 11) + 0 ≤ 84000; omega⟩ (by decide) (show pl ad cB cI cJ A3 V3 R3 L3 82 = .inr (12, modF ad 82 (V3 82)) from rfl) (ci := 12) rfl rfl (Nat.le_of_ble_eq_true rfl) ⟨by show cells + 1 ≤ 601024; omega, by show slots + 6 ≤ 7293034; omega⟩ dL_law_927 ?_
  refine lv_iload hx hb dL_law_930 (lv_at hl 1 rfl) ?_
  refine lv_icmp_eq (tgt := 937) hx hb dL_law_932 (by decide) (fun _ => ?_) (fun q => absurd hk q)
  refine lv_iload hx hb dL_law_937 (lv_at hl 1 rfl) ?_
  refine lv_if_ne (tgt := 954) hx hb dL_law_939 (by decide) (fun c0 => ?_) (fun c0 => ?_)
  · refine lv_goto (tgt := 1691) hx hb dL_law_954 (by decide) ?_
    exact kk A3 V3 R3 L3 H3 locs3 ls (cells + 1) (slots + 6) I3 hP hS (lv_sub hl [2, 3, 4, 5, 6] rfl) (Nat.le_refl _) (Nat.le_refl _)
  · have v0 : v = 0 := by first | exact c0 | exact Decidable.not_not.mp c0
    refine lv_aload_n hx hb dL_law_942 rfl (lv_at hl 5 rfl) ?_
    refine lv_iconst (v := 0) hx hb dL_law_943 (by decide) ?_
    refine q_laldN (f := L3 127) (k := 1) X hK hP 0 (by decide) rfl (by decide) (by decide) dL_law_944 ?_
    refine lv_iload hx hb dL_law_945 (lv_at hl 0 rfl) ?_
    refine lv_i2l hx hb dL_law_947 rfl ?_
    refine q_lcmp_eq (tgt := 954) hx hb dL_law_948 dL_law_949 (by decide) (fun _ => ?_) (fun q => absurd (by rw [hL3, hv v0, hr v0]) q)
    refine lv_goto (tgt := 1691) hx hb dL_law_954 (by decide) ?_
    exact kk A3 V3 R3 L3 H3 locs3 ls (cells + 1) (slots + 6) I3 hP hS (lv_sub hl [2, 3, 4, 5, 6] rfl) (Nat.le_refl _) (Nat.le_refl _)
theorem ydq_13weigh : YD yX13_weigh 2 := ⟨by decide +kernel, by decide +kernel, by decide +kernel⟩
set_option maxRecDepth 100000 in
theorem op_weigh (hlt : l.stackTraces = false) (Y : LX p s m c D cB cI cJ ad b Ln xs) (I : INV A V R) (hP : va_P D vwCl (ip ad 128 (pl ad cB cI cJ A V R L)) H) (hS : va_S (ipA ad 128) s.heap H locs) (hcs : cells + 1 ≤ 601024 ∧ slots + 6 ≤ 7293034) {t : Nat} (ht : 6 * t + 6 ≤ Ln) (hLn : Ln < 2 ^ 31) (hl : lv_has ls 8 [(0, .ref b), (1, .ref (ad 0)), (2, .ref (ad 82)), (3, .ref (ad 127)), (4, .int (nI (6 * t)))])
    (kk : ∀ (A V : Nat → Nat → Int32) (R : Nat → Nat) (L : Nat → Nat → Int64) (H : Heap) (locs : List Loc) (ls : Array Slot) (ce sl : Nat), INV A V R → va_P D vwCl (ip ad 128 (pl ad cB cI cJ A V R L)) H → va_S (ipA ad 128) s.heap H locs → lv_has ls 8 [(0, .ref b), (1, .ref (ad 0)), (2, .ref (ad 82)), (3, .ref (ad 127)), (4, .int (nI (6 * t)))] → ce ≤ cells + 1 → sl ≤ slots + 6 → W p l e room_1 s m #[Value.ref b] below meth c H locs ce sl Q (F0 m 1691 ls [])) :
    W p l e room_1 s m #[Value.ref b] below meth c H locs cells slots Q (F0 m 1024 ls []) := by
  obtain ⟨X, hK, hZ, hI, hX, hbl, hbA⟩ := Y
  obtain ⟨hx, hb, hml, hown, hts⟩ := id X
  have HH : HF l D cB cI cJ ad A V R L yL_weigh wsL_weigh [.ref (ad 0), .int (xs (nI (6 * t) + 1).toNatClampNeg), .int (xs (nI (6 * t) + 2).toNatClampNeg), .ref (ad 127)] yX13_weigh wsX13_weigh [.ref (ad 82), .int (xs (nI (6 * t) + 1).toNatClampNeg), .int (xs (nI (6 * t) + 2).toNatClampNeg)] := by
    rcases sem_weigh l hlt D cB cI cJ ad hI (L := L) I (xs (nI (6 * t) + 1).toNatClampNeg) (xs (nI (6 * t) + 2).toNatClampNeg) with h9 | h9
    · exact hf_CF h9 (fun fr lo post hM hpo => h_weigh l D cB cI cJ ad 128 (pl ad cB cI cJ A V R L) hI 0 127 _ (L 127) (xs (nI (6 * t) + 1).toNatClampNeg) (xs (nI (6 * t) + 2).toNatClampNeg) hM hpo (by decide) (by decide) (show pl ad cB cI cJ A V R L 0 = .inr (11, poF ad 0 1 (R 0) (116 - R 0) 3 4 7 14 17 (V 0 8) (V 0 9) 24 31 44 46) from rfl))
    · exact hf_CX h9 (by decide) (fun fr lo hM => hx_weigh l D cB cI cJ ad 128 (pl ad cB cI cJ A V R L) hI 0 127 _ (L 127) (xs (nI (6 * t) + 1).toNatClampNeg) (xs (nI (6 * t) + 2).toNatClampNeg) hM (by decide) (show pl ad cB cI cJ A V R L 0 = .inr (11, poF ad 0 1 (R 0) (116 - R 0) 3 4 7 14 17 (V 0 8) (V 0 9) 24 31 44 46) from rfl))
  obtain ⟨fr, lo, post, hM, h1, h2, hp⟩ := HH
  refine lv_aload_n hx hb dL_law_1024 rfl (lv_at hl 1 rfl) ?_
  refine lv_aload_n hx hb dL_law_1025 rfl (lv_at hl 0 rfl) ?_
  refine lv_iload hx hb dL_law_1026 (lv_at hl 4 rfl) ?_
  refine lv_iconst (v := 1) hx hb dL_law_1028 (by decide) ?_
  refine lv_iadd hx hb dL_law_1029 ?_
  refine va_sld hx hb hX hbl hbA hS (sc_in ht hLn 1 (by decide)) dL_law_1030 ?_
  refine lv_aload_n hx hb dL_law_1031 rfl (lv_at hl 0 rfl) ?_
  refine lv_iload hx hb dL_law_1032 (lv_at hl 4 rfl) ?_
  refine lv_iconst (v := 2) hx hb dL_law_1034 (by decide) ?_
  refine lv_iadd hx hb dL_law_1035 ?_
  refine va_sld hx hb hX hbl hbA hS (sc_in ht hLn 2 (by decide)) dL_law_1036 ?_
  refine lv_aload_n hx hb dL_law_1037 rfl (lv_at hl 3 rfl) ?_
  refine q_callH (As := [.ref (ad 0), .int (xs (nI (6 * t) + 1).toNatClampNeg), .int (xs (nI (6 * t) + 2).toNatClampNeg), .ref (ad 127)]) (rest := []) hM X hK hZ hP hS hl.1 rfl gL_law_L_weigh ydL_weigh ⟨by show fr + 1 ≤ 2048; omega, by show 8 + (5 + 11) + lo ≤ 84000; omega⟩ rfl (Nat.le_of_ble_eq_true rfl) ⟨by show cells + 1 ≤ 601024; omega, by show slots + 6 ≤ 7293034; omega⟩ dL_law_1038 (fun v M1 H1 locs1 hp1 hP hS => ?_)
  obtain ⟨r1, A1, V1, R1, L1, rfl, hv, fr3, lo3, post3, hM3, h13, h23, hp3⟩ := hp v M1 hp1
  refine lv_istore (lv' := [(5, .int v), (0, .ref b), (1, .ref (ad 0)), (2, .ref (ad 82)), (3, .ref (ad 127)), (4, .int (nI (6 * t)))]) hx hb dL_law_1041 hl (by decide) rfl (fun ls hl => ?_)
  refine lv_aload_n hx hb dL_law_1043 rfl (lv_at hl 3 rfl) ?_
  refine lv_aload_n hx hb dL_law_1044 rfl (lv_at hl 1 rfl) ?_
  refine lv_iload hx hb dL_law_1045 (lv_at hl 5 rfl) ?_
  refine lv_iconst (v := 1) hx hb dL_law_1047 (by decide) ?_
  refine lv_iadd hx hb dL_law_1048 ?_
  refine va_sld hx hb hX hbl hbA hS (sc_in ht hLn 1 (by decide)) dL_law_1049 ?_
  refine lv_aload_n hx hb dL_law_1050 rfl (lv_at hl 1 rfl) ?_
  refine lv_iload hx hb dL_law_1051 (lv_at hl 5 rfl) ?_
  refine lv_iconst (v := 2) hx hb dL_law_1053 (by decide) ?_
  refine lv_iadd hx hb dL_law_1054 ?_
  refine va_sld hx hb hX hbl hbA hS (sc_in ht hLn 2 (by decide)) dL_law_1055 ?_
  refine q_wrVi (As := [.int (xs (nI (6 * t) + 1).toNatClampNeg), .int (xs (nI (6 * t) + 2).toNatClampNeg)]) (rest := []) hM3 X hK hP hS hl.1 rfl gL_law_X13_weigh ydq_13weigh ⟨by show fr3 + 1 ≤ 2048; omega, by show 8 + (7 + 11) + lo3 ≤ 84000; omega⟩ (by decide) (show pl ad cB cI cJ A1 V1 R1 L1 82 = .inr (12, modF ad 82 (V1 82)) from rfl) (ci := 12) rfl rfl (Nat.le_of_ble_eq_true rfl) ⟨by show cells + 1 ≤ 601024; omega, by show slots + 6 ≤ 7293034; omega⟩ dL_law_1056 (fun r3 M3 H3 locs3 hp9 hP hS => ?_)
  obtain ⟨A3, V3, R3, L3, rfl, hL3, hk, hr, I3⟩ := hp3 r3 M3 hp9
  refine lv_istore (lv' := [(6, .int r3), (5, .int v), (0, .ref b), (1, .ref (ad 0)), (2, .ref (ad 82)), (3, .ref (ad 127)), (4, .int (nI (6 * t)))]) hx hb dL_law_1059 hl (by decide) rfl (fun ls hl => ?_)
  refine lv_aload_n hx hb dL_law_1061 rfl (lv_at hl 4 rfl) ?_
  refine q_rdV (As := []) (rest := []) (c_X13_thrown l D cB cI cJ ad 128 (pl ad cB cI cJ A3 V3 R3 L3) 82 (V3 82) (by decide) rfl) X hK hP hS hl.1 rfl gL_law_X13_thrown ydq_13thrown ⟨by show 0 + 1 ≤ 2048; omega, by show 8 + (1 + 11) + 0 ≤ 84000; omega⟩ (by decide) (show pl ad cB cI cJ A3 V3 R3 L3 82 = .inr (12, modF ad 82 (V3 82)) from rfl) (ci := 12) rfl rfl (Nat.le_of_ble_eq_true rfl) ⟨by show cells + 1 ≤ 601024; omega, by show slots + 6 ≤ 7293034; omega⟩ dL_law_1062 ?_
  refine lv_iload hx hb dL_law_1065 (lv_at hl 1 rfl) ?_
  refine lv_icmp_eq (tgt := 1072) hx hb dL_law_1067 (by decide) (fun _ => ?_) (fun q => absurd hk q)
  refine lv_iload hx hb dL_law_1072 (lv_at hl 1 rfl) ?_
  refine lv_if_ne (tgt := 1089) hx hb dL_law_1074 (by decide) (fun c0 => ?_) (fun c0 => ?_)
  · refine lv_goto (tgt := 1691) hx hb dL_law_1089 (by decide) ?_
    exact kk A3 V3 R3 L3 H3 locs3 ls (cells + 1) (slots + 6) I3 hP hS (lv_sub hl [2, 3, 4, 5, 6] rfl) (Nat.le_refl _) (Nat.le_refl _)
  · have v0 : v = 0 := by first | exact c0 | exact Decidable.not_not.mp c0
    refine lv_aload_n hx hb dL_law_1077 rfl (lv_at hl 5 rfl) ?_
    refine lv_iconst (v := 0) hx hb dL_law_1078 (by decide) ?_
    refine q_laldN (f := L3 127) (k := 1) X hK hP 0 (by decide) rfl (by decide) (by decide) dL_law_1079 ?_
    refine lv_iload hx hb dL_law_1080 (lv_at hl 0 rfl) ?_
    refine lv_i2l hx hb dL_law_1082 rfl ?_
    refine q_lcmp_eq (tgt := 1089) hx hb dL_law_1083 dL_law_1084 (by decide) (fun _ => ?_) (fun q => absurd (by rw [hL3, hv v0, hr v0]) q)
    refine lv_goto (tgt := 1691) hx hb dL_law_1089 (by decide) ?_
    exact kk A3 V3 R3 L3 H3 locs3 ls (cells + 1) (slots + 6) I3 hP hS (lv_sub hl [2, 3, 4, 5, 6] rfl) (Nat.le_refl _) (Nat.le_refl _)
theorem ydq_13lost : YD yX13_lost 1 := ⟨by decide +kernel, by decide +kernel, by decide +kernel⟩
set_option maxRecDepth 100000 in
theorem op_lost (hlt : l.stackTraces = false) (Y : LX p s m c D cB cI cJ ad b Ln xs) (I : INV A V R) (hP : va_P D vwCl (ip ad 128 (pl ad cB cI cJ A V R L)) H) (hS : va_S (ipA ad 128) s.heap H locs) (hcs : cells + 1 ≤ 601024 ∧ slots + 6 ≤ 7293034) {t : Nat} (ht : 6 * t + 6 ≤ Ln) (hLn : Ln < 2 ^ 31) (hl : lv_has ls 8 [(0, .ref b), (1, .ref (ad 0)), (2, .ref (ad 82)), (3, .ref (ad 127)), (4, .int (nI (6 * t)))])
    (kk : ∀ (A V : Nat → Nat → Int32) (R : Nat → Nat) (L : Nat → Nat → Int64) (H : Heap) (locs : List Loc) (ls : Array Slot) (ce sl : Nat), INV A V R → va_P D vwCl (ip ad 128 (pl ad cB cI cJ A V R L)) H → va_S (ipA ad 128) s.heap H locs → lv_has ls 8 [(0, .ref b), (1, .ref (ad 0)), (2, .ref (ad 82)), (3, .ref (ad 127)), (4, .int (nI (6 * t)))] → ce ≤ cells + 1 → sl ≤ slots + 6 → W p l e room_1 s m #[Value.ref b] below meth c H locs ce sl Q (F0 m 1691 ls [])) :
    W p l e room_1 s m #[Value.ref b] below meth c H locs cells slots Q (F0 m 1092 ls []) := by
  obtain ⟨X, hK, hZ, hI, hX, hbl, hbA⟩ := Y
  obtain ⟨hx, hb, hml, hown, hts⟩ := id X
  have HH : HF l D cB cI cJ ad A V R L yL_lost wsL_lost [.ref (ad 0), .int (xs (nI (6 * t) + 1).toNatClampNeg), .ref (ad 127)] yX13_lost wsX13_lost [.ref (ad 82), .int (xs (nI (6 * t) + 1).toNatClampNeg)] := by
    rcases sem_lost l hlt D cB cI cJ ad hI (L := L) I (xs (nI (6 * t) + 1).toNatClampNeg) with h9 | h9
    · exact hf_CF h9 (fun fr lo post hM hpo => hw_lost l D cB cI cJ ad 128 (pl ad cB cI cJ A V R L) hI 0 127 _ (L 127) (xs (nI (6 * t) + 1).toNatClampNeg) hM hpo (by decide) (by decide) (show pl ad cB cI cJ A V R L 0 = .inr (11, poF ad 0 1 (R 0) (116 - R 0) 3 4 7 14 17 (V 0 8) (V 0 9) 24 31 44 46) from rfl))
    · exact hf_CX h9 (by decide) (fun fr lo hM => hx_lost l D cB cI cJ ad 128 (pl ad cB cI cJ A V R L) hI 0 127 _ (L 127) (xs (nI (6 * t) + 1).toNatClampNeg) hM (by decide) (show pl ad cB cI cJ A V R L 0 = .inr (11, poF ad 0 1 (R 0) (116 - R 0) 3 4 7 14 17 (V 0 8) (V 0 9) 24 31 44 46) from rfl))
  obtain ⟨fr, lo, post, hM, h1, h2, hp⟩ := HH
  refine lv_aload_n hx hb dL_law_1092 rfl (lv_at hl 1 rfl) ?_
  refine lv_aload_n hx hb dL_law_1093 rfl (lv_at hl 0 rfl) ?_
  refine lv_iload hx hb dL_law_1094 (lv_at hl 4 rfl) ?_
  refine lv_iconst (v := 1) hx hb dL_law_1096 (by decide) ?_
  refine lv_iadd hx hb dL_law_1097 ?_
  refine va_sld hx hb hX hbl hbA hS (sc_in ht hLn 1 (by decide)) dL_law_1098 ?_
  refine lv_aload_n hx hb dL_law_1099 rfl (lv_at hl 3 rfl) ?_
  refine q_callH (As := [.ref (ad 0), .int (xs (nI (6 * t) + 1).toNatClampNeg), .ref (ad 127)]) (rest := []) hM X hK hZ hP hS hl.1 rfl gL_law_L_lost ydL_lost ⟨by show fr + 1 ≤ 2048; omega, by show 8 + (4 + 11) + lo ≤ 84000; omega⟩ rfl (Nat.le_of_ble_eq_true rfl) ⟨by show cells + 1 ≤ 601024; omega, by show slots + 6 ≤ 7293034; omega⟩ dL_law_1100 (fun v M1 H1 locs1 hp1 hP hS => ?_)
  obtain ⟨r1, A1, V1, R1, L1, rfl, hv, fr3, lo3, post3, hM3, h13, h23, hp3⟩ := hp v M1 hp1
  refine lv_istore (lv' := [(5, .int v), (0, .ref b), (1, .ref (ad 0)), (2, .ref (ad 82)), (3, .ref (ad 127)), (4, .int (nI (6 * t)))]) hx hb dL_law_1103 hl (by decide) rfl (fun ls hl => ?_)
  refine lv_aload_n hx hb dL_law_1105 rfl (lv_at hl 3 rfl) ?_
  refine lv_aload_n hx hb dL_law_1106 rfl (lv_at hl 1 rfl) ?_
  refine lv_iload hx hb dL_law_1107 (lv_at hl 5 rfl) ?_
  refine lv_iconst (v := 1) hx hb dL_law_1109 (by decide) ?_
  refine lv_iadd hx hb dL_law_1110 ?_
  refine va_sld hx hb hX hbl hbA hS (sc_in ht hLn 1 (by decide)) dL_law_1111 ?_
  refine q_wrVi (As := [.int (xs (nI (6 * t) + 1).toNatClampNeg)]) (rest := []) hM3 X hK hP hS hl.1 rfl gL_law_X13_lost ydq_13lost ⟨by show fr3 + 1 ≤ 2048; omega, by show 8 + (2 + 11) + lo3 ≤ 84000; omega⟩ (by decide) (show pl ad cB cI cJ A1 V1 R1 L1 82 = .inr (12, modF ad 82 (V1 82)) from rfl) (ci := 12) rfl rfl (Nat.le_of_ble_eq_true rfl) ⟨by show cells + 1 ≤ 601024; omega, by show slots + 6 ≤ 7293034; omega⟩ dL_law_1112 (fun r3 M3 H3 locs3 hp9 hP hS => ?_)
  obtain ⟨A3, V3, R3, L3, rfl, hL3, hk, hr, I3⟩ := hp3 r3 M3 hp9
  refine lv_istore (lv' := [(6, .int r3), (5, .int v), (0, .ref b), (1, .ref (ad 0)), (2, .ref (ad 82)), (3, .ref (ad 127)), (4, .int (nI (6 * t)))]) hx hb dL_law_1115 hl (by decide) rfl (fun ls hl => ?_)
  refine lv_aload_n hx hb dL_law_1117 rfl (lv_at hl 4 rfl) ?_
  refine q_rdV (As := []) (rest := []) (c_X13_thrown l D cB cI cJ ad 128 (pl ad cB cI cJ A3 V3 R3 L3) 82 (V3 82) (by decide) rfl) X hK hP hS hl.1 rfl gL_law_X13_thrown ydq_13thrown ⟨by show 0 + 1 ≤ 2048; omega, by show 8 + (1 + 11) + 0 ≤ 84000; omega⟩ (by decide) (show pl ad cB cI cJ A3 V3 R3 L3 82 = .inr (12, modF ad 82 (V3 82)) from rfl) (ci := 12) rfl rfl (Nat.le_of_ble_eq_true rfl) ⟨by show cells + 1 ≤ 601024; omega, by show slots + 6 ≤ 7293034; omega⟩ dL_law_1118 ?_
  refine lv_iload hx hb dL_law_1121 (lv_at hl 1 rfl) ?_
  refine lv_icmp_eq (tgt := 1128) hx hb dL_law_1123 (by decide) (fun _ => ?_) (fun q => absurd hk q)
  refine lv_iload hx hb dL_law_1128 (lv_at hl 1 rfl) ?_
  refine lv_if_ne (tgt := 1145) hx hb dL_law_1130 (by decide) (fun c0 => ?_) (fun c0 => ?_)
  · refine lv_goto (tgt := 1691) hx hb dL_law_1145 (by decide) ?_
    exact kk A3 V3 R3 L3 H3 locs3 ls (cells + 1) (slots + 6) I3 hP hS (lv_sub hl [2, 3, 4, 5, 6] rfl) (Nat.le_refl _) (Nat.le_refl _)
  · have v0 : v = 0 := by first | exact c0 | exact Decidable.not_not.mp c0
    refine lv_aload_n hx hb dL_law_1133 rfl (lv_at hl 5 rfl) ?_
    refine lv_iconst (v := 0) hx hb dL_law_1134 (by decide) ?_
    refine q_laldN (f := L3 127) (k := 1) X hK hP 0 (by decide) rfl (by decide) (by decide) dL_law_1135 ?_
    refine lv_iload hx hb dL_law_1136 (lv_at hl 0 rfl) ?_
    refine lv_i2l hx hb dL_law_1138 rfl ?_
    refine q_lcmp_eq (tgt := 1145) hx hb dL_law_1139 dL_law_1140 (by decide) (fun _ => ?_) (fun q => absurd (by rw [hL3, hv v0, hr v0]) q)
    refine lv_goto (tgt := 1691) hx hb dL_law_1145 (by decide) ?_
    exact kk A3 V3 R3 L3 H3 locs3 ls (cells + 1) (slots + 6) I3 hP hS (lv_sub hl [2, 3, 4, 5, 6] rfl) (Nat.le_refl _) (Nat.le_refl _)
theorem ydq_13carrier : YD yX13_carrier 1 := ⟨by decide +kernel, by decide +kernel, by decide +kernel⟩
set_option maxRecDepth 100000 in
theorem op_carrier (hlt : l.stackTraces = false) (Y : LX p s m c D cB cI cJ ad b Ln xs) (I : INV A V R) (hP : va_P D vwCl (ip ad 128 (pl ad cB cI cJ A V R L)) H) (hS : va_S (ipA ad 128) s.heap H locs) (hcs : cells + 1 ≤ 601024 ∧ slots + 6 ≤ 7293034) {t : Nat} (ht : 6 * t + 6 ≤ Ln) (hLn : Ln < 2 ^ 31) (hl : lv_has ls 8 [(0, .ref b), (1, .ref (ad 0)), (2, .ref (ad 82)), (3, .ref (ad 127)), (4, .int (nI (6 * t)))])
    (kk : ∀ (A V : Nat → Nat → Int32) (R : Nat → Nat) (L : Nat → Nat → Int64) (H : Heap) (locs : List Loc) (ls : Array Slot) (ce sl : Nat), INV A V R → va_P D vwCl (ip ad 128 (pl ad cB cI cJ A V R L)) H → va_S (ipA ad 128) s.heap H locs → lv_has ls 8 [(0, .ref b), (1, .ref (ad 0)), (2, .ref (ad 82)), (3, .ref (ad 127)), (4, .int (nI (6 * t)))] → ce ≤ cells + 1 → sl ≤ slots + 6 → W p l e room_1 s m #[Value.ref b] below meth c H locs ce sl Q (F0 m 1691 ls [])) :
    W p l e room_1 s m #[Value.ref b] below meth c H locs cells slots Q (F0 m 1270 ls []) := by
  obtain ⟨X, hK, hZ, hI, hX, hbl, hbA⟩ := Y
  obtain ⟨hx, hb, hml, hown, hts⟩ := id X
  have HH : HF l D cB cI cJ ad A V R L yL_carrier wsL_carrier [.ref (ad 0), .int (xs (nI (6 * t) + 1).toNatClampNeg), .ref (ad 127)] yX13_carrier wsX13_carrier [.ref (ad 82), .int (xs (nI (6 * t) + 1).toNatClampNeg)] := by
    rcases sem_carrier l hlt D cB cI cJ ad hI (L := L) I (xs (nI (6 * t) + 1).toNatClampNeg) with h9 | h9
    · exact hf_CF h9 (fun fr lo post hM hpo => hw_carrier l D cB cI cJ ad 128 (pl ad cB cI cJ A V R L) hI 0 127 _ (L 127) (xs (nI (6 * t) + 1).toNatClampNeg) hM hpo (by decide) (by decide) (show pl ad cB cI cJ A V R L 0 = .inr (11, poF ad 0 1 (R 0) (116 - R 0) 3 4 7 14 17 (V 0 8) (V 0 9) 24 31 44 46) from rfl))
    · exact hf_CX h9 (by decide) (fun fr lo hM => hx_carrier l D cB cI cJ ad 128 (pl ad cB cI cJ A V R L) hI 0 127 _ (L 127) (xs (nI (6 * t) + 1).toNatClampNeg) hM (by decide) (show pl ad cB cI cJ A V R L 0 = .inr (11, poF ad 0 1 (R 0) (116 - R 0) 3 4 7 14 17 (V 0 8) (V 0 9) 24 31 44 46) from rfl))
  obtain ⟨fr, lo, post, hM, h1, h2, hp⟩ := HH
  refine lv_aload_n hx hb dL_law_1270 rfl (lv_at hl 1 rfl) ?_
  refine lv_aload_n hx hb dL_law_1271 rfl (lv_at hl 0 rfl) ?_
  refine lv_iload hx hb dL_law_1272 (lv_at hl 4 rfl) ?_
  refine lv_iconst (v := 1) hx hb dL_law_1274 (by decide) ?_
  refine lv_iadd hx hb dL_law_1275 ?_
  refine va_sld hx hb hX hbl hbA hS (sc_in ht hLn 1 (by decide)) dL_law_1276 ?_
  refine lv_aload_n hx hb dL_law_1277 rfl (lv_at hl 3 rfl) ?_
  refine q_callH (As := [.ref (ad 0), .int (xs (nI (6 * t) + 1).toNatClampNeg), .ref (ad 127)]) (rest := []) hM X hK hZ hP hS hl.1 rfl gL_law_L_carrier ydL_carrier ⟨by show fr + 1 ≤ 2048; omega, by show 8 + (4 + 11) + lo ≤ 84000; omega⟩ rfl (Nat.le_of_ble_eq_true rfl) ⟨by show cells + 1 ≤ 601024; omega, by show slots + 6 ≤ 7293034; omega⟩ dL_law_1278 (fun v M1 H1 locs1 hp1 hP hS => ?_)
  obtain ⟨r1, A1, V1, R1, L1, rfl, hv, fr3, lo3, post3, hM3, h13, h23, hp3⟩ := hp v M1 hp1
  refine lv_istore (lv' := [(5, .int v), (0, .ref b), (1, .ref (ad 0)), (2, .ref (ad 82)), (3, .ref (ad 127)), (4, .int (nI (6 * t)))]) hx hb dL_law_1281 hl (by decide) rfl (fun ls hl => ?_)
  refine lv_aload_n hx hb dL_law_1283 rfl (lv_at hl 3 rfl) ?_
  refine lv_aload_n hx hb dL_law_1284 rfl (lv_at hl 1 rfl) ?_
  refine lv_iload hx hb dL_law_1285 (lv_at hl 5 rfl) ?_
  refine lv_iconst (v := 1) hx hb dL_law_1287 (by decide) ?_
  refine lv_iadd hx hb dL_law_1288 ?_
  refine va_sld hx hb hX hbl hbA hS (sc_in ht hLn 1 (by decide)) dL_law_1289 ?_
  refine q_wrVi (As := [.int (xs (nI (6 * t) + 1).toNatClampNeg)]) (rest := []) hM3 X hK hP hS hl.1 rfl gL_law_X13_carrier ydq_13carrier ⟨by show fr3 + 1 ≤ 2048; omega, by show 8 + (2 + 11) + lo3 ≤ 84000; omega⟩ (by decide) (show pl ad cB cI cJ A1 V1 R1 L1 82 = .inr (12, modF ad 82 (V1 82)) from rfl) (ci := 12) rfl rfl (Nat.le_of_ble_eq_true rfl) ⟨by show cells + 1 ≤ 601024; omega, by show slots + 6 ≤ 7293034; omega⟩ dL_law_1290 (fun r3 M3 H3 locs3 hp9 hP hS => ?_)
  obtain ⟨A3, V3, R3, L3, rfl, hL3, hk, hr, I3⟩ := hp3 r3 M3 hp9
  refine lv_istore (lv' := [(6, .int r3), (5, .int v), (0, .ref b), (1, .ref (ad 0)), (2, .ref (ad 82)), (3, .ref (ad 127)), (4, .int (nI (6 * t)))]) hx hb dL_law_1293 hl (by decide) rfl (fun ls hl => ?_)
  refine lv_aload_n hx hb dL_law_1295 rfl (lv_at hl 4 rfl) ?_
  refine q_rdV (As := []) (rest := []) (c_X13_thrown l D cB cI cJ ad 128 (pl ad cB cI cJ A3 V3 R3 L3) 82 (V3 82) (by decide) rfl) X hK hP hS hl.1 rfl gL_law_X13_thrown ydq_13thrown ⟨by show 0 + 1 ≤ 2048; omega, by show 8 + (1 + 11) + 0 ≤ 84000; omega⟩ (by decide) (show pl ad cB cI cJ A3 V3 R3 L3 82 = .inr (12, modF ad 82 (V3 82)) from rfl) (ci := 12) rfl rfl (Nat.le_of_ble_eq_true rfl) ⟨by show cells + 1 ≤ 601024; omega, by show slots + 6 ≤ 7293034; omega⟩ dL_law_1296 ?_
  refine lv_iload hx hb dL_law_1299 (lv_at hl 1 rfl) ?_
  refine lv_icmp_eq (tgt := 1306) hx hb dL_law_1301 (by decide) (fun _ => ?_) (fun q => absurd hk q)
  refine lv_iload hx hb dL_law_1306 (lv_at hl 1 rfl) ?_
  refine lv_if_ne (tgt := 1323) hx hb dL_law_1308 (by decide) (fun c0 => ?_) (fun c0 => ?_)
  · refine lv_goto (tgt := 1691) hx hb dL_law_1323 (by decide) ?_
    exact kk A3 V3 R3 L3 H3 locs3 ls (cells + 1) (slots + 6) I3 hP hS (lv_sub hl [2, 3, 4, 5, 6] rfl) (Nat.le_refl _) (Nat.le_refl _)
  · have v0 : v = 0 := by first | exact c0 | exact Decidable.not_not.mp c0
    refine lv_aload_n hx hb dL_law_1311 rfl (lv_at hl 5 rfl) ?_
    refine lv_iconst (v := 0) hx hb dL_law_1312 (by decide) ?_
    refine q_laldN (f := L3 127) (k := 1) X hK hP 0 (by decide) rfl (by decide) (by decide) dL_law_1313 ?_
    refine lv_iload hx hb dL_law_1314 (lv_at hl 0 rfl) ?_
    refine lv_i2l hx hb dL_law_1316 rfl ?_
    refine q_lcmp_eq (tgt := 1323) hx hb dL_law_1317 dL_law_1318 (by decide) (fun _ => ?_) (fun q => absurd (by rw [hL3, hv v0, hr v0]) q)
    refine lv_goto (tgt := 1691) hx hb dL_law_1323 (by decide) ?_
    exact kk A3 V3 R3 L3 H3 locs3 ls (cells + 1) (slots + 6) I3 hP hS (lv_sub hl [2, 3, 4, 5, 6] rfl) (Nat.le_refl _) (Nat.le_refl _)
theorem ydq_13look : YD yX13_look 2 := ⟨by decide +kernel, by decide +kernel, by decide +kernel⟩
set_option maxRecDepth 100000 in
theorem op_look (hlt : l.stackTraces = false) (Y : LX p s m c D cB cI cJ ad b Ln xs) (I : INV A V R) (hP : va_P D vwCl (ip ad 128 (pl ad cB cI cJ A V R L)) H) (hS : va_S (ipA ad 128) s.heap H locs) (hcs : cells + 1 ≤ 601024 ∧ slots + 6 ≤ 7293034) {t : Nat} (ht : 6 * t + 6 ≤ Ln) (hLn : Ln < 2 ^ 31) (hl : lv_has ls 8 [(0, .ref b), (1, .ref (ad 0)), (2, .ref (ad 82)), (3, .ref (ad 127)), (4, .int (nI (6 * t)))])
    (kk : ∀ (A V : Nat → Nat → Int32) (R : Nat → Nat) (L : Nat → Nat → Int64) (H : Heap) (locs : List Loc) (ls : Array Slot) (ce sl : Nat), INV A V R → va_P D vwCl (ip ad 128 (pl ad cB cI cJ A V R L)) H → va_S (ipA ad 128) s.heap H locs → lv_has ls 8 [(0, .ref b), (1, .ref (ad 0)), (2, .ref (ad 82)), (3, .ref (ad 127)), (4, .int (nI (6 * t)))] → ce ≤ cells + 1 → sl ≤ slots + 6 → W p l e room_1 s m #[Value.ref b] below meth c H locs ce sl Q (F0 m 1691 ls [])) :
    W p l e room_1 s m #[Value.ref b] below meth c H locs cells slots Q (F0 m 1326 ls []) := by
  obtain ⟨X, hK, hZ, hI, hX, hbl, hbA⟩ := Y
  obtain ⟨hx, hb, hml, hown, hts⟩ := id X
  have HH : HF l D cB cI cJ ad A V R L yL_look wsL_look [.ref (ad 0), .int (xs (nI (6 * t) + 1).toNatClampNeg), .int (xs (nI (6 * t) + 2).toNatClampNeg), .ref (ad 127)] yX13_look wsX13_look [.ref (ad 82), .int (xs (nI (6 * t) + 1).toNatClampNeg), .int (xs (nI (6 * t) + 2).toNatClampNeg)] := by
    rcases sem_look l hlt D cB cI cJ ad hI (L := L) I (xs (nI (6 * t) + 1).toNatClampNeg) (xs (nI (6 * t) + 2).toNatClampNeg) with h9 | h9
    · exact hf_CF h9 (fun fr lo post hM hpo => h_look l D cB cI cJ ad 128 (pl ad cB cI cJ A V R L) hI 0 127 _ (L 127) (xs (nI (6 * t) + 1).toNatClampNeg) (xs (nI (6 * t) + 2).toNatClampNeg) hM hpo (by decide) (by decide) (show pl ad cB cI cJ A V R L 0 = .inr (11, poF ad 0 1 (R 0) (116 - R 0) 3 4 7 14 17 (V 0 8) (V 0 9) 24 31 44 46) from rfl))
    · exact hf_CX h9 (by decide) (fun fr lo hM => hx_look l D cB cI cJ ad 128 (pl ad cB cI cJ A V R L) hI 0 127 _ (L 127) (xs (nI (6 * t) + 1).toNatClampNeg) (xs (nI (6 * t) + 2).toNatClampNeg) hM (by decide) (show pl ad cB cI cJ A V R L 0 = .inr (11, poF ad 0 1 (R 0) (116 - R 0) 3 4 7 14 17 (V 0 8) (V 0 9) 24 31 44 46) from rfl))
  obtain ⟨fr, lo, post, hM, h1, h2, hp⟩ := HH
  refine lv_aload_n hx hb dL_law_1326 rfl (lv_at hl 1 rfl) ?_
  refine lv_aload_n hx hb dL_law_1327 rfl (lv_at hl 0 rfl) ?_
  refine lv_iload hx hb dL_law_1328 (lv_at hl 4 rfl) ?_
  refine lv_iconst (v := 1) hx hb dL_law_1330 (by decide) ?_
  refine lv_iadd hx hb dL_law_1331 ?_
  refine va_sld hx hb hX hbl hbA hS (sc_in ht hLn 1 (by decide)) dL_law_1332 ?_
  refine lv_aload_n hx hb dL_law_1333 rfl (lv_at hl 0 rfl) ?_
  refine lv_iload hx hb dL_law_1334 (lv_at hl 4 rfl) ?_
  refine lv_iconst (v := 2) hx hb dL_law_1336 (by decide) ?_
  refine lv_iadd hx hb dL_law_1337 ?_
  refine va_sld hx hb hX hbl hbA hS (sc_in ht hLn 2 (by decide)) dL_law_1338 ?_
  refine lv_aload_n hx hb dL_law_1339 rfl (lv_at hl 3 rfl) ?_
  refine q_callH (As := [.ref (ad 0), .int (xs (nI (6 * t) + 1).toNatClampNeg), .int (xs (nI (6 * t) + 2).toNatClampNeg), .ref (ad 127)]) (rest := []) hM X hK hZ hP hS hl.1 rfl gL_law_L_look ydL_look ⟨by show fr + 1 ≤ 2048; omega, by show 8 + (5 + 11) + lo ≤ 84000; omega⟩ rfl (Nat.le_of_ble_eq_true rfl) ⟨by show cells + 1 ≤ 601024; omega, by show slots + 6 ≤ 7293034; omega⟩ dL_law_1340 (fun v M1 H1 locs1 hp1 hP hS => ?_)
  obtain ⟨r1, A1, V1, R1, L1, rfl, hv, fr3, lo3, post3, hM3, h13, h23, hp3⟩ := hp v M1 hp1
  refine lv_istore (lv' := [(5, .int v), (0, .ref b), (1, .ref (ad 0)), (2, .ref (ad 82)), (3, .ref (ad 127)), (4, .int (nI (6 * t)))]) hx hb dL_law_1343 hl (by decide) rfl (fun ls hl => ?_)
  refine lv_aload_n hx hb dL_law_1345 rfl (lv_at hl 3 rfl) ?_
  refine lv_aload_n hx hb dL_law_1346 rfl (lv_at hl 1 rfl) ?_
  refine lv_iload hx hb dL_law_1347 (lv_at hl 5 rfl) ?_
  refine lv_iconst (v := 1) hx hb dL_law_1349 (by decide) ?_
  refine lv_iadd hx hb dL_law_1350 ?_
  refine va_sld hx hb hX hbl hbA hS (sc_in ht hLn 1 (by decide)) dL_law_1351 ?_
  refine lv_aload_n hx hb dL_law_1352 rfl (lv_at hl 1 rfl) ?_
  refine lv_iload hx hb dL_law_1353 (lv_at hl 5 rfl) ?_
  refine lv_iconst (v := 2) hx hb dL_law_1355 (by decide) ?_
  refine lv_iadd hx hb dL_law_1356 ?_
  refine va_sld hx hb hX hbl hbA hS (sc_in ht hLn 2 (by decide)) dL_law_1357 ?_
  refine q_wrVi (As := [.int (xs (nI (6 * t) + 1).toNatClampNeg), .int (xs (nI (6 * t) + 2).toNatClampNeg)]) (rest := []) hM3 X hK hP hS hl.1 rfl gL_law_X13_look ydq_13look ⟨by show fr3 + 1 ≤ 2048; omega, by show 8 + (4 + 11) + lo3 ≤ 84000; omega⟩ (by decide) (show pl ad cB cI cJ A1 V1 R1 L1 82 = .inr (12, modF ad 82 (V1 82)) from rfl) (ci := 12) rfl rfl (Nat.le_of_ble_eq_true rfl) ⟨by show cells + 1 ≤ 601024; omega, by show slots + 6 ≤ 7293034; omega⟩ dL_law_1358 (fun r3 M3 H3 locs3 hp9 hP hS => ?_)
  obtain ⟨A3, V3, R3, L3, rfl, hL3, hk, hr, I3⟩ := hp3 r3 M3 hp9
  refine lv_istore (lv' := [(6, .int r3), (5, .int v), (0, .ref b), (1, .ref (ad 0)), (2, .ref (ad 82)), (3, .ref (ad 127)), (4, .int (nI (6 * t)))]) hx hb dL_law_1361 hl (by decide) rfl (fun ls hl => ?_)
  refine lv_aload_n hx hb dL_law_1363 rfl (lv_at hl 4 rfl) ?_
  refine q_rdV (As := []) (rest := []) (c_X13_thrown l D cB cI cJ ad 128 (pl ad cB cI cJ A3 V3 R3 L3) 82 (V3 82) (by decide) rfl) X hK hP hS hl.1 rfl gL_law_X13_thrown ydq_13thrown ⟨by show 0 + 1 ≤ 2048; omega, by show 8 + (1 + 11) + 0 ≤ 84000; omega⟩ (by decide) (show pl ad cB cI cJ A3 V3 R3 L3 82 = .inr (12, modF ad 82 (V3 82)) from rfl) (ci := 12) rfl rfl (Nat.le_of_ble_eq_true rfl) ⟨by show cells + 1 ≤ 601024; omega, by show slots + 6 ≤ 7293034; omega⟩ dL_law_1364 ?_
  refine lv_iload hx hb dL_law_1367 (lv_at hl 1 rfl) ?_
  refine lv_icmp_eq (tgt := 1374) hx hb dL_law_1369 (by decide) (fun _ => ?_) (fun q => absurd hk q)
  refine lv_iload hx hb dL_law_1374 (lv_at hl 1 rfl) ?_
  refine lv_if_ne (tgt := 1391) hx hb dL_law_1376 (by decide) (fun c0 => ?_) (fun c0 => ?_)
  · refine lv_goto (tgt := 1691) hx hb dL_law_1391 (by decide) ?_
    exact kk A3 V3 R3 L3 H3 locs3 ls (cells + 1) (slots + 6) I3 hP hS (lv_sub hl [2, 3, 4, 5, 6] rfl) (Nat.le_refl _) (Nat.le_refl _)
  · have v0 : v = 0 := by first | exact c0 | exact Decidable.not_not.mp c0
    refine lv_aload_n hx hb dL_law_1379 rfl (lv_at hl 5 rfl) ?_
    refine lv_iconst (v := 0) hx hb dL_law_1380 (by decide) ?_
    refine q_laldN (f := L3 127) (k := 1) X hK hP 0 (by decide) rfl (by decide) (by decide) dL_law_1381 ?_
    refine lv_iload hx hb dL_law_1382 (lv_at hl 0 rfl) ?_
    refine lv_i2l hx hb dL_law_1384 rfl ?_
    refine q_lcmp_eq (tgt := 1391) hx hb dL_law_1385 dL_law_1386 (by decide) (fun _ => ?_) (fun q => absurd (by rw [hL3, hv v0, hr v0]) q)
    refine lv_goto (tgt := 1691) hx hb dL_law_1391 (by decide) ?_
    exact kk A3 V3 R3 L3 H3 locs3 ls (cells + 1) (slots + 6) I3 hP hS (lv_sub hl [2, 3, 4, 5, 6] rfl) (Nat.le_refl _) (Nat.le_refl _)
theorem ydq_13see : YD yX13_see 2 := ⟨by decide +kernel, by decide +kernel, by decide +kernel⟩
set_option maxRecDepth 100000 in
theorem op_see (hlt : l.stackTraces = false) (Y : LX p s m c D cB cI cJ ad b Ln xs) (I : INV A V R) (hP : va_P D vwCl (ip ad 128 (pl ad cB cI cJ A V R L)) H) (hS : va_S (ipA ad 128) s.heap H locs) (hcs : cells + 1 ≤ 601024 ∧ slots + 6 ≤ 7293034) {t : Nat} (ht : 6 * t + 6 ≤ Ln) (hLn : Ln < 2 ^ 31) (hl : lv_has ls 8 [(0, .ref b), (1, .ref (ad 0)), (2, .ref (ad 82)), (3, .ref (ad 127)), (4, .int (nI (6 * t)))])
    (kk : ∀ (A V : Nat → Nat → Int32) (R : Nat → Nat) (L : Nat → Nat → Int64) (H : Heap) (locs : List Loc) (ls : Array Slot) (ce sl : Nat), INV A V R → va_P D vwCl (ip ad 128 (pl ad cB cI cJ A V R L)) H → va_S (ipA ad 128) s.heap H locs → lv_has ls 8 [(0, .ref b), (1, .ref (ad 0)), (2, .ref (ad 82)), (3, .ref (ad 127)), (4, .int (nI (6 * t)))] → ce ≤ cells + 1 → sl ≤ slots + 6 → W p l e room_1 s m #[Value.ref b] below meth c H locs ce sl Q (F0 m 1691 ls [])) :
    W p l e room_1 s m #[Value.ref b] below meth c H locs cells slots Q (F0 m 1394 ls []) := by
  obtain ⟨X, hK, hZ, hI, hX, hbl, hbA⟩ := Y
  obtain ⟨hx, hb, hml, hown, hts⟩ := id X
  have HH : HF l D cB cI cJ ad A V R L yL_see wsL_see [.ref (ad 0), .int (xs (nI (6 * t) + 1).toNatClampNeg), .int (xs (nI (6 * t) + 2).toNatClampNeg), .ref (ad 127)] yX13_see wsX13_see [.ref (ad 82), .int (xs (nI (6 * t) + 1).toNatClampNeg), .int (xs (nI (6 * t) + 2).toNatClampNeg)] := by
    rcases sem_see l hlt D cB cI cJ ad hI (L := L) I (xs (nI (6 * t) + 1).toNatClampNeg) (xs (nI (6 * t) + 2).toNatClampNeg) with h9 | h9
    · exact hf_CF h9 (fun fr lo post hM hpo => h_see l D cB cI cJ ad 128 (pl ad cB cI cJ A V R L) hI 0 127 _ (L 127) (xs (nI (6 * t) + 1).toNatClampNeg) (xs (nI (6 * t) + 2).toNatClampNeg) hM hpo (by decide) (by decide) (show pl ad cB cI cJ A V R L 0 = .inr (11, poF ad 0 1 (R 0) (116 - R 0) 3 4 7 14 17 (V 0 8) (V 0 9) 24 31 44 46) from rfl))
    · exact hf_CX h9 (by decide) (fun fr lo hM => hx_see l D cB cI cJ ad 128 (pl ad cB cI cJ A V R L) hI 0 127 _ (L 127) (xs (nI (6 * t) + 1).toNatClampNeg) (xs (nI (6 * t) + 2).toNatClampNeg) hM (by decide) (show pl ad cB cI cJ A V R L 0 = .inr (11, poF ad 0 1 (R 0) (116 - R 0) 3 4 7 14 17 (V 0 8) (V 0 9) 24 31 44 46) from rfl))
  obtain ⟨fr, lo, post, hM, h1, h2, hp⟩ := HH
  refine lv_aload_n hx hb dL_law_1394 rfl (lv_at hl 1 rfl) ?_
  refine lv_aload_n hx hb dL_law_1395 rfl (lv_at hl 0 rfl) ?_
  refine lv_iload hx hb dL_law_1396 (lv_at hl 4 rfl) ?_
  refine lv_iconst (v := 1) hx hb dL_law_1398 (by decide) ?_
  refine lv_iadd hx hb dL_law_1399 ?_
  refine va_sld hx hb hX hbl hbA hS (sc_in ht hLn 1 (by decide)) dL_law_1400 ?_
  refine lv_aload_n hx hb dL_law_1401 rfl (lv_at hl 0 rfl) ?_
  refine lv_iload hx hb dL_law_1402 (lv_at hl 4 rfl) ?_
  refine lv_iconst (v := 2) hx hb dL_law_1404 (by decide) ?_
  refine lv_iadd hx hb dL_law_1405 ?_
  refine va_sld hx hb hX hbl hbA hS (sc_in ht hLn 2 (by decide)) dL_law_1406 ?_
  refine lv_aload_n hx hb dL_law_1407 rfl (lv_at hl 3 rfl) ?_
  refine q_callH (As := [.ref (ad 0), .int (xs (nI (6 * t) + 1).toNatClampNeg), .int (xs (nI (6 * t) + 2).toNatClampNeg), .ref (ad 127)]) (rest := []) hM X hK hZ hP hS hl.1 rfl gL_law_L_see ydL_see ⟨by show fr + 1 ≤ 2048; omega, by show 8 + (5 + 11) + lo ≤ 84000; omega⟩ rfl (Nat.le_of_ble_eq_true rfl) ⟨by show cells + 1 ≤ 601024; omega, by show slots + 6 ≤ 7293034; omega⟩ dL_law_1408 (fun v M1 H1 locs1 hp1 hP hS => ?_)
  obtain ⟨r1, A1, V1, R1, L1, rfl, hv, fr3, lo3, post3, hM3, h13, h23, hp3⟩ := hp v M1 hp1
  refine lv_istore (lv' := [(5, .int v), (0, .ref b), (1, .ref (ad 0)), (2, .ref (ad 82)), (3, .ref (ad 127)), (4, .int (nI (6 * t)))]) hx hb dL_law_1411 hl (by decide) rfl (fun ls hl => ?_)
  refine lv_aload_n hx hb dL_law_1413 rfl (lv_at hl 3 rfl) ?_
  refine lv_aload_n hx hb dL_law_1414 rfl (lv_at hl 1 rfl) ?_
  refine lv_iload hx hb dL_law_1415 (lv_at hl 5 rfl) ?_
  refine lv_iconst (v := 1) hx hb dL_law_1417 (by decide) ?_
  refine lv_iadd hx hb dL_law_1418 ?_
  refine va_sld hx hb hX hbl hbA hS (sc_in ht hLn 1 (by decide)) dL_law_1419 ?_
  refine lv_aload_n hx hb dL_law_1420 rfl (lv_at hl 1 rfl) ?_
  refine lv_iload hx hb dL_law_1421 (lv_at hl 5 rfl) ?_
  refine lv_iconst (v := 2) hx hb dL_law_1423 (by decide) ?_
  refine lv_iadd hx hb dL_law_1424 ?_
  refine va_sld hx hb hX hbl hbA hS (sc_in ht hLn 2 (by decide)) dL_law_1425 ?_
  refine q_wrVi (As := [.int (xs (nI (6 * t) + 1).toNatClampNeg), .int (xs (nI (6 * t) + 2).toNatClampNeg)]) (rest := []) hM3 X hK hP hS hl.1 rfl gL_law_X13_see ydq_13see ⟨by show fr3 + 1 ≤ 2048; omega, by show 8 + (3 + 11) + lo3 ≤ 84000; omega⟩ (by decide) (show pl ad cB cI cJ A1 V1 R1 L1 82 = .inr (12, modF ad 82 (V1 82)) from rfl) (ci := 12) rfl rfl (Nat.le_of_ble_eq_true rfl) ⟨by show cells + 1 ≤ 601024; omega, by show slots + 6 ≤ 7293034; omega⟩ dL_law_1426 (fun r3 M3 H3 locs3 hp9 hP hS => ?_)
  obtain ⟨A3, V3, R3, L3, rfl, hL3, hk, hr, I3⟩ := hp3 r3 M3 hp9
  refine lv_istore (lv' := [(6, .int r3), (5, .int v), (0, .ref b), (1, .ref (ad 0)), (2, .ref (ad 82)), (3, .ref (ad 127)), (4, .int (nI (6 * t)))]) hx hb dL_law_1429 hl (by decide) rfl (fun ls hl => ?_)
  refine lv_aload_n hx hb dL_law_1431 rfl (lv_at hl 4 rfl) ?_
  refine q_rdV (As := []) (rest := []) (c_X13_thrown l D cB cI cJ ad 128 (pl ad cB cI cJ A3 V3 R3 L3) 82 (V3 82) (by decide) rfl) X hK hP hS hl.1 rfl gL_law_X13_thrown ydq_13thrown ⟨by show 0 + 1 ≤ 2048; omega, by show 8 + (1 + 11) + 0 ≤ 84000; omega⟩ (by decide) (show pl ad cB cI cJ A3 V3 R3 L3 82 = .inr (12, modF ad 82 (V3 82)) from rfl) (ci := 12) rfl rfl (Nat.le_of_ble_eq_true rfl) ⟨by show cells + 1 ≤ 601024; omega, by show slots + 6 ≤ 7293034; omega⟩ dL_law_1432 ?_
  refine lv_iload hx hb dL_law_1435 (lv_at hl 1 rfl) ?_
  refine lv_icmp_eq (tgt := 1442) hx hb dL_law_1437 (by decide) (fun _ => ?_) (fun q => absurd hk q)
  refine lv_iload hx hb dL_law_1442 (lv_at hl 1 rfl) ?_
  refine lv_if_ne (tgt := 1459) hx hb dL_law_1444 (by decide) (fun c0 => ?_) (fun c0 => ?_)
  · refine lv_goto (tgt := 1691) hx hb dL_law_1459 (by decide) ?_
    exact kk A3 V3 R3 L3 H3 locs3 ls (cells + 1) (slots + 6) I3 hP hS (lv_sub hl [2, 3, 4, 5, 6] rfl) (Nat.le_refl _) (Nat.le_refl _)
  · have v0 : v = 0 := by first | exact c0 | exact Decidable.not_not.mp c0
    refine lv_aload_n hx hb dL_law_1447 rfl (lv_at hl 5 rfl) ?_
    refine lv_iconst (v := 0) hx hb dL_law_1448 (by decide) ?_
    refine q_laldN (f := L3 127) (k := 1) X hK hP 0 (by decide) rfl (by decide) (by decide) dL_law_1449 ?_
    refine lv_iload hx hb dL_law_1450 (lv_at hl 0 rfl) ?_
    refine lv_i2l hx hb dL_law_1452 rfl ?_
    refine q_lcmp_eq (tgt := 1459) hx hb dL_law_1453 dL_law_1454 (by decide) (fun _ => ?_) (fun q => absurd (by rw [hL3, hv v0, hr v0]) q)
    refine lv_goto (tgt := 1691) hx hb dL_law_1459 (by decide) ?_
    exact kk A3 V3 R3 L3 H3 locs3 ls (cells + 1) (slots + 6) I3 hP hS (lv_sub hl [2, 3, 4, 5, 6] rfl) (Nat.le_refl _) (Nat.le_refl _)
theorem ydq_13fits : YD yX13_fits 1 := ⟨by decide +kernel, by decide +kernel, by decide +kernel⟩
set_option maxRecDepth 100000 in
theorem op_fits (hlt : l.stackTraces = false) (Y : LX p s m c D cB cI cJ ad b Ln xs) (I : INV A V R) (hP : va_P D vwCl (ip ad 128 (pl ad cB cI cJ A V R L)) H) (hS : va_S (ipA ad 128) s.heap H locs) (hcs : cells + 1 ≤ 601024 ∧ slots + 6 ≤ 7293034) {t : Nat} (ht : 6 * t + 6 ≤ Ln) (hLn : Ln < 2 ^ 31) (hl : lv_has ls 8 [(0, .ref b), (1, .ref (ad 0)), (2, .ref (ad 82)), (3, .ref (ad 127)), (4, .int (nI (6 * t)))])
    (kk : ∀ (A V : Nat → Nat → Int32) (R : Nat → Nat) (L : Nat → Nat → Int64) (H : Heap) (locs : List Loc) (ls : Array Slot) (ce sl : Nat), INV A V R → va_P D vwCl (ip ad 128 (pl ad cB cI cJ A V R L)) H → va_S (ipA ad 128) s.heap H locs → lv_has ls 8 [(0, .ref b), (1, .ref (ad 0)), (2, .ref (ad 82)), (3, .ref (ad 127)), (4, .int (nI (6 * t)))] → ce ≤ cells + 1 → sl ≤ slots + 6 → W p l e room_1 s m #[Value.ref b] below meth c H locs ce sl Q (F0 m 1691 ls [])) :
    W p l e room_1 s m #[Value.ref b] below meth c H locs cells slots Q (F0 m 1475 ls []) := by
  obtain ⟨X, hK, hZ, hI, hX, hbl, hbA⟩ := Y
  obtain ⟨hx, hb, hml, hown, hts⟩ := id X
  have HH : HF l D cB cI cJ ad A V R L yL_fits wsL_fits [.ref (ad 0), .int (xs (nI (6 * t) + 1).toNatClampNeg), .ref (ad 127)] yX13_fits wsX13_fits [.ref (ad 82), .int (xs (nI (6 * t) + 1).toNatClampNeg)] := by
    rcases sem_fits l hlt D cB cI cJ ad hI (L := L) I (xs (nI (6 * t) + 1).toNatClampNeg) with h9 | h9
    · exact hf_CF h9 (fun fr lo post hM hpo => h_fits l D cB cI cJ ad 128 (pl ad cB cI cJ A V R L) hI 0 127 _ (L 127) (xs (nI (6 * t) + 1).toNatClampNeg) hM hpo (by decide) (by decide) (show pl ad cB cI cJ A V R L 0 = .inr (11, poF ad 0 1 (R 0) (116 - R 0) 3 4 7 14 17 (V 0 8) (V 0 9) 24 31 44 46) from rfl))
    · exact hf_CX h9 (by decide) (fun fr lo hM => hx_fits l D cB cI cJ ad 128 (pl ad cB cI cJ A V R L) hI 0 127 _ (L 127) (xs (nI (6 * t) + 1).toNatClampNeg) hM (by decide) (show pl ad cB cI cJ A V R L 0 = .inr (11, poF ad 0 1 (R 0) (116 - R 0) 3 4 7 14 17 (V 0 8) (V 0 9) 24 31 44 46) from rfl))
  obtain ⟨fr, lo, post, hM, h1, h2, hp⟩ := HH
  refine lv_aload_n hx hb dL_law_1475 rfl (lv_at hl 1 rfl) ?_
  refine lv_aload_n hx hb dL_law_1476 rfl (lv_at hl 0 rfl) ?_
  refine lv_iload hx hb dL_law_1477 (lv_at hl 4 rfl) ?_
  refine lv_iconst (v := 1) hx hb dL_law_1479 (by decide) ?_
  refine lv_iadd hx hb dL_law_1480 ?_
  refine va_sld hx hb hX hbl hbA hS (sc_in ht hLn 1 (by decide)) dL_law_1481 ?_
  refine lv_aload_n hx hb dL_law_1482 rfl (lv_at hl 3 rfl) ?_
  refine q_callH (As := [.ref (ad 0), .int (xs (nI (6 * t) + 1).toNatClampNeg), .ref (ad 127)]) (rest := []) hM X hK hZ hP hS hl.1 rfl gL_law_L_fits ydL_fits ⟨by show fr + 1 ≤ 2048; omega, by show 8 + (4 + 11) + lo ≤ 84000; omega⟩ rfl (Nat.le_of_ble_eq_true rfl) ⟨by show cells + 1 ≤ 601024; omega, by show slots + 6 ≤ 7293034; omega⟩ dL_law_1483 (fun v M1 H1 locs1 hp1 hP hS => ?_)
  obtain ⟨r1, A1, V1, R1, L1, rfl, hv, fr3, lo3, post3, hM3, h13, h23, hp3⟩ := hp v M1 hp1
  refine lv_istore (lv' := [(5, .int v), (0, .ref b), (1, .ref (ad 0)), (2, .ref (ad 82)), (3, .ref (ad 127)), (4, .int (nI (6 * t)))]) hx hb dL_law_1486 hl (by decide) rfl (fun ls hl => ?_)
  refine lv_aload_n hx hb dL_law_1488 rfl (lv_at hl 3 rfl) ?_
  refine lv_aload_n hx hb dL_law_1489 rfl (lv_at hl 1 rfl) ?_
  refine lv_iload hx hb dL_law_1490 (lv_at hl 5 rfl) ?_
  refine lv_iconst (v := 1) hx hb dL_law_1492 (by decide) ?_
  refine lv_iadd hx hb dL_law_1493 ?_
  refine va_sld hx hb hX hbl hbA hS (sc_in ht hLn 1 (by decide)) dL_law_1494 ?_
  refine q_wrVi (As := [.int (xs (nI (6 * t) + 1).toNatClampNeg)]) (rest := []) hM3 X hK hP hS hl.1 rfl gL_law_X13_fits ydq_13fits ⟨by show fr3 + 1 ≤ 2048; omega, by show 8 + (8 + 11) + lo3 ≤ 84000; omega⟩ (by decide) (show pl ad cB cI cJ A1 V1 R1 L1 82 = .inr (12, modF ad 82 (V1 82)) from rfl) (ci := 12) rfl rfl (Nat.le_of_ble_eq_true rfl) ⟨by show cells + 1 ≤ 601024; omega, by show slots + 6 ≤ 7293034; omega⟩ dL_law_1495 (fun r3 M3 H3 locs3 hp9 hP hS => ?_)
  obtain ⟨A3, V3, R3, L3, rfl, hL3, hk, hr, I3⟩ := hp3 r3 M3 hp9
  refine lv_istore (lv' := [(6, .int r3), (5, .int v), (0, .ref b), (1, .ref (ad 0)), (2, .ref (ad 82)), (3, .ref (ad 127)), (4, .int (nI (6 * t)))]) hx hb dL_law_1498 hl (by decide) rfl (fun ls hl => ?_)
  refine lv_aload_n hx hb dL_law_1500 rfl (lv_at hl 4 rfl) ?_
  refine q_rdV (As := []) (rest := []) (c_X13_thrown l D cB cI cJ ad 128 (pl ad cB cI cJ A3 V3 R3 L3) 82 (V3 82) (by decide) rfl) X hK hP hS hl.1 rfl gL_law_X13_thrown ydq_13thrown ⟨by show 0 + 1 ≤ 2048; omega, by show 8 + (1 + 11) + 0 ≤ 84000; omega⟩ (by decide) (show pl ad cB cI cJ A3 V3 R3 L3 82 = .inr (12, modF ad 82 (V3 82)) from rfl) (ci := 12) rfl rfl (Nat.le_of_ble_eq_true rfl) ⟨by show cells + 1 ≤ 601024; omega, by show slots + 6 ≤ 7293034; omega⟩ dL_law_1501 ?_
  refine lv_iload hx hb dL_law_1504 (lv_at hl 1 rfl) ?_
  refine lv_icmp_eq (tgt := 1511) hx hb dL_law_1506 (by decide) (fun _ => ?_) (fun q => absurd hk q)
  refine lv_iload hx hb dL_law_1511 (lv_at hl 1 rfl) ?_
  refine lv_if_ne (tgt := 1528) hx hb dL_law_1513 (by decide) (fun c0 => ?_) (fun c0 => ?_)
  · refine lv_goto (tgt := 1691) hx hb dL_law_1528 (by decide) ?_
    exact kk A3 V3 R3 L3 H3 locs3 ls (cells + 1) (slots + 6) I3 hP hS (lv_sub hl [2, 3, 4, 5, 6] rfl) (Nat.le_refl _) (Nat.le_refl _)
  · have v0 : v = 0 := by first | exact c0 | exact Decidable.not_not.mp c0
    refine lv_aload_n hx hb dL_law_1516 rfl (lv_at hl 5 rfl) ?_
    refine lv_iconst (v := 0) hx hb dL_law_1517 (by decide) ?_
    refine q_laldN (f := L3 127) (k := 1) X hK hP 0 (by decide) rfl (by decide) (by decide) dL_law_1518 ?_
    refine lv_iload hx hb dL_law_1519 (lv_at hl 0 rfl) ?_
    refine lv_i2l hx hb dL_law_1521 rfl ?_
    refine q_lcmp_eq (tgt := 1528) hx hb dL_law_1522 dL_law_1523 (by decide) (fun _ => ?_) (fun q => absurd (by rw [hL3, hv v0, hr v0]) q)
    refine lv_goto (tgt := 1691) hx hb dL_law_1528 (by decide) ?_
    exact kk A3 V3 R3 L3 H3 locs3 ls (cells + 1) (slots + 6) I3 hP hS (lv_sub hl [2, 3, 4, 5, 6] rfl) (Nat.le_refl _) (Nat.le_refl _)
theorem ydq_13best : YD yX13_best 1 := ⟨by decide +kernel, by decide +kernel, by decide +kernel⟩
set_option maxRecDepth 100000 in
theorem op_best (hlt : l.stackTraces = false) (Y : LX p s m c D cB cI cJ ad b Ln xs) (I : INV A V R) (hP : va_P D vwCl (ip ad 128 (pl ad cB cI cJ A V R L)) H) (hS : va_S (ipA ad 128) s.heap H locs) (hcs : cells + 1 ≤ 601024 ∧ slots + 6 ≤ 7293034) {t : Nat} (ht : 6 * t + 6 ≤ Ln) (hLn : Ln < 2 ^ 31) (hl : lv_has ls 8 [(0, .ref b), (1, .ref (ad 0)), (2, .ref (ad 82)), (3, .ref (ad 127)), (4, .int (nI (6 * t)))])
    (kk : ∀ (A V : Nat → Nat → Int32) (R : Nat → Nat) (L : Nat → Nat → Int64) (H : Heap) (locs : List Loc) (ls : Array Slot) (ce sl : Nat), INV A V R → va_P D vwCl (ip ad 128 (pl ad cB cI cJ A V R L)) H → va_S (ipA ad 128) s.heap H locs → lv_has ls 8 [(0, .ref b), (1, .ref (ad 0)), (2, .ref (ad 82)), (3, .ref (ad 127)), (4, .int (nI (6 * t)))] → ce ≤ cells + 1 → sl ≤ slots + 6 → W p l e room_1 s m #[Value.ref b] below meth c H locs ce sl Q (F0 m 1691 ls [])) :
    W p l e room_1 s m #[Value.ref b] below meth c H locs cells slots Q (F0 m 1531 ls []) := by
  obtain ⟨X, hK, hZ, hI, hX, hbl, hbA⟩ := Y
  obtain ⟨hx, hb, hml, hown, hts⟩ := id X
  have HH : HF l D cB cI cJ ad A V R L yL_best wsL_best [.ref (ad 0), .int (xs (nI (6 * t) + 1).toNatClampNeg), .ref (ad 127)] yX13_best wsX13_best [.ref (ad 82), .int (xs (nI (6 * t) + 1).toNatClampNeg)] := by
    rcases sem_best l hlt D cB cI cJ ad hI (L := L) I (xs (nI (6 * t) + 1).toNatClampNeg) with h9 | h9
    · exact hf_CF h9 (fun fr lo post hM hpo => h_best l D cB cI cJ ad 128 (pl ad cB cI cJ A V R L) hI 0 127 _ (L 127) (xs (nI (6 * t) + 1).toNatClampNeg) hM hpo (by decide) (by decide) (show pl ad cB cI cJ A V R L 0 = .inr (11, poF ad 0 1 (R 0) (116 - R 0) 3 4 7 14 17 (V 0 8) (V 0 9) 24 31 44 46) from rfl))
    · exact hf_CX h9 (by decide) (fun fr lo hM => hx_best l D cB cI cJ ad 128 (pl ad cB cI cJ A V R L) hI 0 127 _ (L 127) (xs (nI (6 * t) + 1).toNatClampNeg) hM (by decide) (show pl ad cB cI cJ A V R L 0 = .inr (11, poF ad 0 1 (R 0) (116 - R 0) 3 4 7 14 17 (V 0 8) (V 0 9) 24 31 44 46) from rfl))
  obtain ⟨fr, lo, post, hM, h1, h2, hp⟩ := HH
  refine lv_aload_n hx hb dL_law_1531 rfl (lv_at hl 1 rfl) ?_
  refine lv_aload_n hx hb dL_law_1532 rfl (lv_at hl 0 rfl) ?_
  refine lv_iload hx hb dL_law_1533 (lv_at hl 4 rfl) ?_
  refine lv_iconst (v := 1) hx hb dL_law_1535 (by decide) ?_
  refine lv_iadd hx hb dL_law_1536 ?_
  refine va_sld hx hb hX hbl hbA hS (sc_in ht hLn 1 (by decide)) dL_law_1537 ?_
  refine lv_aload_n hx hb dL_law_1538 rfl (lv_at hl 3 rfl) ?_
  refine q_callH (As := [.ref (ad 0), .int (xs (nI (6 * t) + 1).toNatClampNeg), .ref (ad 127)]) (rest := []) hM X hK hZ hP hS hl.1 rfl gL_law_L_best ydL_best ⟨by show fr + 1 ≤ 2048; omega, by show 8 + (4 + 11) + lo ≤ 84000; omega⟩ rfl (Nat.le_of_ble_eq_true rfl) ⟨by show cells + 1 ≤ 601024; omega, by show slots + 6 ≤ 7293034; omega⟩ dL_law_1539 (fun v M1 H1 locs1 hp1 hP hS => ?_)
  obtain ⟨r1, A1, V1, R1, L1, rfl, hv, fr3, lo3, post3, hM3, h13, h23, hp3⟩ := hp v M1 hp1
  refine lv_istore (lv' := [(5, .int v), (0, .ref b), (1, .ref (ad 0)), (2, .ref (ad 82)), (3, .ref (ad 127)), (4, .int (nI (6 * t)))]) hx hb dL_law_1542 hl (by decide) rfl (fun ls hl => ?_)
  refine lv_aload_n hx hb dL_law_1544 rfl (lv_at hl 3 rfl) ?_
  refine lv_aload_n hx hb dL_law_1545 rfl (lv_at hl 1 rfl) ?_
  refine lv_iload hx hb dL_law_1546 (lv_at hl 5 rfl) ?_
  refine lv_iconst (v := 1) hx hb dL_law_1548 (by decide) ?_
  refine lv_iadd hx hb dL_law_1549 ?_
  refine va_sld hx hb hX hbl hbA hS (sc_in ht hLn 1 (by decide)) dL_law_1550 ?_
  refine q_wrVi (As := [.int (xs (nI (6 * t) + 1).toNatClampNeg)]) (rest := []) hM3 X hK hP hS hl.1 rfl gL_law_X13_best ydq_13best ⟨by show fr3 + 1 ≤ 2048; omega, by show 8 + (10 + 11) + lo3 ≤ 84000; omega⟩ (by decide) (show pl ad cB cI cJ A1 V1 R1 L1 82 = .inr (12, modF ad 82 (V1 82)) from rfl) (ci := 12) rfl rfl (Nat.le_of_ble_eq_true rfl) ⟨by show cells + 1 ≤ 601024; omega, by show slots + 6 ≤ 7293034; omega⟩ dL_law_1551 (fun r3 M3 H3 locs3 hp9 hP hS => ?_)
  obtain ⟨A3, V3, R3, L3, rfl, hL3, hk, hr, I3⟩ := hp3 r3 M3 hp9
  refine lv_istore (lv' := [(6, .int r3), (5, .int v), (0, .ref b), (1, .ref (ad 0)), (2, .ref (ad 82)), (3, .ref (ad 127)), (4, .int (nI (6 * t)))]) hx hb dL_law_1554 hl (by decide) rfl (fun ls hl => ?_)
  refine lv_aload_n hx hb dL_law_1556 rfl (lv_at hl 4 rfl) ?_
  refine q_rdV (As := []) (rest := []) (c_X13_thrown l D cB cI cJ ad 128 (pl ad cB cI cJ A3 V3 R3 L3) 82 (V3 82) (by decide) rfl) X hK hP hS hl.1 rfl gL_law_X13_thrown ydq_13thrown ⟨by show 0 + 1 ≤ 2048; omega, by show 8 + (1 + 11) + 0 ≤ 84000; omega⟩ (by decide) (show pl ad cB cI cJ A3 V3 R3 L3 82 = .inr (12, modF ad 82 (V3 82)) from rfl) (ci := 12) rfl rfl (Nat.le_of_ble_eq_true rfl) ⟨by show cells + 1 ≤ 601024; omega, by show slots + 6 ≤ 7293034; omega⟩ dL_law_1557 ?_
  refine lv_iload hx hb dL_law_1560 (lv_at hl 1 rfl) ?_
  refine lv_icmp_eq (tgt := 1567) hx hb dL_law_1562 (by decide) (fun _ => ?_) (fun q => absurd hk q)
  refine lv_iload hx hb dL_law_1567 (lv_at hl 1 rfl) ?_
  refine lv_if_ne (tgt := 1584) hx hb dL_law_1569 (by decide) (fun c0 => ?_) (fun c0 => ?_)
  · refine lv_goto (tgt := 1691) hx hb dL_law_1584 (by decide) ?_
    exact kk A3 V3 R3 L3 H3 locs3 ls (cells + 1) (slots + 6) I3 hP hS (lv_sub hl [2, 3, 4, 5, 6] rfl) (Nat.le_refl _) (Nat.le_refl _)
  · have v0 : v = 0 := by first | exact c0 | exact Decidable.not_not.mp c0
    refine lv_aload_n hx hb dL_law_1572 rfl (lv_at hl 5 rfl) ?_
    refine lv_iconst (v := 0) hx hb dL_law_1573 (by decide) ?_
    refine q_laldN (f := L3 127) (k := 1) X hK hP 0 (by decide) rfl (by decide) (by decide) dL_law_1574 ?_
    refine lv_iload hx hb dL_law_1575 (lv_at hl 0 rfl) ?_
    refine lv_i2l hx hb dL_law_1577 rfl ?_
    refine q_lcmp_eq (tgt := 1584) hx hb dL_law_1578 dL_law_1579 (by decide) (fun _ => ?_) (fun q => absurd (by rw [hL3, hv v0, hr v0]) q)
    refine lv_goto (tgt := 1691) hx hb dL_law_1584 (by decide) ?_
    exact kk A3 V3 R3 L3 H3 locs3 ls (cells + 1) (slots + 6) I3 hP hS (lv_sub hl [2, 3, 4, 5, 6] rfl) (Nat.le_refl _) (Nat.le_refl _)
theorem ydq_13counter : YD yX13_counter 3 := ⟨by decide +kernel, by decide +kernel, by decide +kernel⟩
set_option maxRecDepth 100000 in
theorem op_counter (hlt : l.stackTraces = false) (Y : LX p s m c D cB cI cJ ad b Ln xs) (I : INV A V R) (hP : va_P D vwCl (ip ad 128 (pl ad cB cI cJ A V R L)) H) (hS : va_S (ipA ad 128) s.heap H locs) (hcs : cells + 1 ≤ 601024 ∧ slots + 6 ≤ 7293034) {t : Nat} (ht : 6 * t + 6 ≤ Ln) (hLn : Ln < 2 ^ 31) (hl : lv_has ls 8 [(0, .ref b), (1, .ref (ad 0)), (2, .ref (ad 82)), (3, .ref (ad 127)), (4, .int (nI (6 * t)))])
    (kk : ∀ (A V : Nat → Nat → Int32) (R : Nat → Nat) (L : Nat → Nat → Int64) (H : Heap) (locs : List Loc) (ls : Array Slot) (ce sl : Nat), INV A V R → va_P D vwCl (ip ad 128 (pl ad cB cI cJ A V R L)) H → va_S (ipA ad 128) s.heap H locs → lv_has ls 8 [(0, .ref b), (1, .ref (ad 0)), (2, .ref (ad 82)), (3, .ref (ad 127)), (4, .int (nI (6 * t)))] → ce ≤ cells + 1 → sl ≤ slots + 6 → W p l e room_1 s m #[Value.ref b] below meth c H locs ce sl Q (F0 m 1691 ls [])) :
    W p l e room_1 s m #[Value.ref b] below meth c H locs cells slots Q (F0 m 1587 ls []) := by
  obtain ⟨X, hK, hZ, hI, hX, hbl, hbA⟩ := Y
  obtain ⟨hx, hb, hml, hown, hts⟩ := id X
  have HH : HF l D cB cI cJ ad A V R L yL_counter wsL_counter [.ref (ad 0), .int (xs (nI (6 * t) + 1).toNatClampNeg), .int (xs (nI (6 * t) + 2).toNatClampNeg), .int (xs (nI (6 * t) + 3).toNatClampNeg), .ref (ad 127)] yX13_counter wsX13_counter [.ref (ad 82), .int (xs (nI (6 * t) + 1).toNatClampNeg), .int (xs (nI (6 * t) + 2).toNatClampNeg), .int (xs (nI (6 * t) + 3).toNatClampNeg)] := by
    rcases sem_counter l hlt D cB cI cJ ad hI (L := L) I (xs (nI (6 * t) + 1).toNatClampNeg) (xs (nI (6 * t) + 2).toNatClampNeg) (xs (nI (6 * t) + 3).toNatClampNeg) with h9 | h9 | h9
    · exact hf_CF h9 (fun fr lo post hM hpo => h_counter l D cB cI cJ ad 128 (pl ad cB cI cJ A V R L) hI 0 127 _ (L 127) (xs (nI (6 * t) + 1).toNatClampNeg) (xs (nI (6 * t) + 2).toNatClampNeg) (xs (nI (6 * t) + 3).toNatClampNeg) hM hpo (by decide) (by decide) (show pl ad cB cI cJ A V R L 0 = .inr (11, poF ad 0 1 (R 0) (116 - R 0) 3 4 7 14 17 (V 0 8) (V 0 9) 24 31 44 46) from rfl))
    · exact hf_CX h9 (by decide) (fun fr lo hM => hx_counter l D cB cI cJ ad 128 (pl ad cB cI cJ A V R L) hI 0 127 _ (L 127) (xs (nI (6 * t) + 1).toNatClampNeg) (xs (nI (6 * t) + 2).toNatClampNeg) (xs (nI (6 * t) + 3).toNatClampNeg) hM (by decide) (show pl ad cB cI cJ A V R L 0 = .inr (11, poF ad 0 1 (R 0) (116 - R 0) 3 4 7 14 17 (V 0 8) (V 0 9) 24 31 44 46) from rfl))
    · exact hf_CX h9 (by decide) (fun fr lo hM => hx_counter2 l D cB cI cJ ad 128 (pl ad cB cI cJ A V R L) hI 0 127 _ (L 127) (xs (nI (6 * t) + 1).toNatClampNeg) (xs (nI (6 * t) + 2).toNatClampNeg) (xs (nI (6 * t) + 3).toNatClampNeg) hM (by decide) (show pl ad cB cI cJ A V R L 0 = .inr (11, poF ad 0 1 (R 0) (116 - R 0) 3 4 7 14 17 (V 0 8) (V 0 9) 24 31 44 46) from rfl))
  obtain ⟨fr, lo, post, hM, h1, h2, hp⟩ := HH
  refine lv_aload_n hx hb dL_law_1587 rfl (lv_at hl 1 rfl) ?_
  refine lv_aload_n hx hb dL_law_1588 rfl (lv_at hl 0 rfl) ?_
  refine lv_iload hx hb dL_law_1589 (lv_at hl 4 rfl) ?_
  refine lv_iconst (v := 1) hx hb dL_law_1591 (by decide) ?_
  refine lv_iadd hx hb dL_law_1592 ?_
  refine va_sld hx hb hX hbl hbA hS (sc_in ht hLn 1 (by decide)) dL_law_1593 ?_
  refine lv_aload_n hx hb dL_law_1594 rfl (lv_at hl 0 rfl) ?_
  refine lv_iload hx hb dL_law_1595 (lv_at hl 4 rfl) ?_
  refine lv_iconst (v := 2) hx hb dL_law_1597 (by decide) ?_
  refine lv_iadd hx hb dL_law_1598 ?_
  refine va_sld hx hb hX hbl hbA hS (sc_in ht hLn 2 (by decide)) dL_law_1599 ?_
  refine lv_aload_n hx hb dL_law_1600 rfl (lv_at hl 0 rfl) ?_
  refine lv_iload hx hb dL_law_1601 (lv_at hl 4 rfl) ?_
  refine lv_iconst (v := 3) hx hb dL_law_1603 (by decide) ?_
  refine lv_iadd hx hb dL_law_1604 ?_
  refine va_sld hx hb hX hbl hbA hS (sc_in ht hLn 3 (by decide)) dL_law_1605 ?_
  refine lv_aload_n hx hb dL_law_1606 rfl (lv_at hl 3 rfl) ?_
  refine q_callH (As := [.ref (ad 0), .int (xs (nI (6 * t) + 1).toNatClampNeg), .int (xs (nI (6 * t) + 2).toNatClampNeg), .int (xs (nI (6 * t) + 3).toNatClampNeg), .ref (ad 127)]) (rest := []) hM X hK hZ hP hS hl.1 rfl gL_law_L_counter ydL_counter ⟨by show fr + 1 ≤ 2048; omega, by show 8 + (6 + 11) + lo ≤ 84000; omega⟩ rfl (Nat.le_of_ble_eq_true rfl) ⟨by show cells + 1 ≤ 601024; omega, by show slots + 6 ≤ 7293034; omega⟩ dL_law_1607 (fun v M1 H1 locs1 hp1 hP hS => ?_)
  obtain ⟨r1, A1, V1, R1, L1, rfl, hv, fr3, lo3, post3, hM3, h13, h23, hp3⟩ := hp v M1 hp1
  refine lv_istore (lv' := [(5, .int v), (0, .ref b), (1, .ref (ad 0)), (2, .ref (ad 82)), (3, .ref (ad 127)), (4, .int (nI (6 * t)))]) hx hb dL_law_1610 hl (by decide) rfl (fun ls hl => ?_)
  refine lv_aload_n hx hb dL_law_1612 rfl (lv_at hl 3 rfl) ?_
  refine lv_aload_n hx hb dL_law_1613 rfl (lv_at hl 1 rfl) ?_
  refine lv_iload hx hb dL_law_1614 (lv_at hl 5 rfl) ?_
  refine lv_iconst (v := 1) hx hb dL_law_1616 (by decide) ?_
  refine lv_iadd hx hb dL_law_1617 ?_
  refine va_sld hx hb hX hbl hbA hS (sc_in ht hLn 1 (by decide)) dL_law_1618 ?_
  refine lv_aload_n hx hb dL_law_1619 rfl (lv_at hl 1 rfl) ?_
  refine lv_iload hx hb dL_law_1620 (lv_at hl 5 rfl) ?_
  refine lv_iconst (v := 2) hx hb dL_law_1622 (by decide) ?_
  refine lv_iadd hx hb dL_law_1623 ?_
  refine va_sld hx hb hX hbl hbA hS (sc_in ht hLn 2 (by decide)) dL_law_1624 ?_
  refine lv_aload_n hx hb dL_law_1625 rfl (lv_at hl 1 rfl) ?_
  refine lv_iload hx hb dL_law_1626 (lv_at hl 5 rfl) ?_
  refine lv_iconst (v := 3) hx hb dL_law_1628 (by decide) ?_
  refine lv_iadd hx hb dL_law_1629 ?_
  refine va_sld hx hb hX hbl hbA hS (sc_in ht hLn 3 (by decide)) dL_law_1630 ?_
  refine q_wrVi (As := [.int (xs (nI (6 * t) + 1).toNatClampNeg), .int (xs (nI (6 * t) + 2).toNatClampNeg), .int (xs (nI (6 * t) + 3).toNatClampNeg)]) (rest := []) hM3 X hK hP hS hl.1 rfl gL_law_X13_counter ydq_13counter ⟨by show fr3 + 1 ≤ 2048; omega, by show 8 + (10 + 11) + lo3 ≤ 84000; omega⟩ (by decide) (show pl ad cB cI cJ A1 V1 R1 L1 82 = .inr (12, modF ad 82 (V1 82)) from rfl) (ci := 12) rfl rfl (Nat.le_of_ble_eq_true rfl) ⟨by show cells + 1 ≤ 601024; omega, by show slots + 6 ≤ 7293034; omega⟩ dL_law_1631 (fun r3 M3 H3 locs3 hp9 hP hS => ?_)
  obtain ⟨A3, V3, R3, L3, rfl, hL3, hk, hr, I3⟩ := hp3 r3 M3 hp9
  refine lv_istore (lv' := [(6, .int r3), (5, .int v), (0, .ref b), (1, .ref (ad 0)), (2, .ref (ad 82)), (3, .ref (ad 127)), (4, .int (nI (6 * t)))]) hx hb dL_law_1634 hl (by decide) rfl (fun ls hl => ?_)
  refine lv_aload_n hx hb dL_law_1636 rfl (lv_at hl 4 rfl) ?_
  refine q_rdV (As := []) (rest := []) (c_X13_thrown l D cB cI cJ ad 128 (pl ad cB cI cJ A3 V3 R3 L3) 82 (V3 82) (by decide) rfl) X hK hP hS hl.1 rfl gL_law_X13_thrown ydq_13thrown ⟨by show 0 + 1 ≤ 2048; omega, by show 8 + (1 + 11) + 0 ≤ 84000; omega⟩ (by decide) (show pl ad cB cI cJ A3 V3 R3 L3 82 = .inr (12, modF ad 82 (V3 82)) from rfl) (ci := 12) rfl rfl (Nat.le_of_ble_eq_true rfl) ⟨by show cells + 1 ≤ 601024; omega, by show slots + 6 ≤ 7293034; omega⟩ dL_law_1637 ?_
  refine lv_iload hx hb dL_law_1640 (lv_at hl 1 rfl) ?_
  refine lv_icmp_eq (tgt := 1647) hx hb dL_law_1642 (by decide) (fun _ => ?_) (fun q => absurd hk q)
  refine lv_iload hx hb dL_law_1647 (lv_at hl 1 rfl) ?_
  refine lv_if_ne (tgt := 1664) hx hb dL_law_1649 (by decide) (fun c0 => ?_) (fun c0 => ?_)
  · refine lv_goto (tgt := 1691) hx hb dL_law_1664 (by decide) ?_
    exact kk A3 V3 R3 L3 H3 locs3 ls (cells + 1) (slots + 6) I3 hP hS (lv_sub hl [2, 3, 4, 5, 6] rfl) (Nat.le_refl _) (Nat.le_refl _)
  · have v0 : v = 0 := by first | exact c0 | exact Decidable.not_not.mp c0
    refine lv_aload_n hx hb dL_law_1652 rfl (lv_at hl 5 rfl) ?_
    refine lv_iconst (v := 0) hx hb dL_law_1653 (by decide) ?_
    refine q_laldN (f := L3 127) (k := 1) X hK hP 0 (by decide) rfl (by decide) (by decide) dL_law_1654 ?_
    refine lv_iload hx hb dL_law_1655 (lv_at hl 0 rfl) ?_
    refine lv_i2l hx hb dL_law_1657 rfl ?_
    refine q_lcmp_eq (tgt := 1664) hx hb dL_law_1658 dL_law_1659 (by decide) (fun _ => ?_) (fun q => absurd (by rw [hL3, hv v0, hr v0]) q)
    refine lv_goto (tgt := 1691) hx hb dL_law_1664 (by decide) ?_
    exact kk A3 V3 R3 L3 H3 locs3 ls (cells + 1) (slots + 6) I3 hP hS (lv_sub hl [2, 3, 4, 5, 6] rfl) (Nat.le_refl _) (Nat.le_refl _)
end
