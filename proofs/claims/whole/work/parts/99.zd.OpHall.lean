/-! the law's walk: hall -/
section
variable {p : Program} {l : Launch} {e : Env} {s : State} {m : MethodId} {below : List Frame} {meth : Method} {c : Code} {H : Heap} {locs : List Loc} {cells slots : Nat} {Q : State → Prop} {D : va_G} {cB cI cJ : ClassId} {ad : Nat → Nat} {b Ln : Nat} {xs : Nat → Int32} {ls : Array Slot} {A V : Nat → Nat → Int32} {R : Nat → Nat} {L : Nat → Nat → Int64}
theorem ydq_13hall : YD yX13_hall 1 := ⟨by decide +kernel, by decide +kernel, by decide +kernel⟩
set_option maxRecDepth 100000 in
theorem op_hall (hlt : l.stackTraces = false) (Y : LX p s m c D cB cI cJ ad b Ln xs) (I : INV A V R) (hP : va_P D vwCl (ip ad 128 (pl ad cB cI cJ A V R L)) H) (hS : va_S (ipA ad 128) s.heap H locs) (hcs : cells + 1 ≤ 601024 ∧ slots + 6 ≤ 7293034) {t : Nat} (ht : 6 * t + 6 ≤ Ln) (hLn : Ln < 2 ^ 31) (hl : lv_has ls 8 [(0, .ref b), (1, .ref (ad 0)), (2, .ref (ad 82)), (3, .ref (ad 127)), (4, .int (nI (6 * t)))])
    (kk : ∀ (A V : Nat → Nat → Int32) (R : Nat → Nat) (L : Nat → Nat → Int64) (H : Heap) (locs : List Loc) (ls : Array Slot) (ce sl : Nat), INV A V R → va_P D vwCl (ip ad 128 (pl ad cB cI cJ A V R L)) H → va_S (ipA ad 128) s.heap H locs → lv_has ls 8 [(0, .ref b), (1, .ref (ad 0)), (2, .ref (ad 82)), (3, .ref (ad 127)), (4, .int (nI (6 * t)))] → ce ≤ cells + 1 → sl ≤ slots + 6 → W p l e room_1 s m #[Value.ref b] below meth c H locs ce sl Q (F0 m 1691 ls [])) :
    W p l e room_1 s m #[Value.ref b] below meth c H locs cells slots Q (F0 m 253 ls []) := by
  obtain ⟨X, hK, hZ, hI, hX, hbl, hbA⟩ := Y
  obtain ⟨hx, hb, hml, hown, hts⟩ := id X
  have HH : HF l D cB cI cJ ad A V R L yL_hall wsL_hall [.ref (ad 0), .int (xs (nI (6 * t) + 1).toNatClampNeg), .ref (ad 127)] yX13_hall wsX13_hall [.ref (ad 82), .int (xs (nI (6 * t) + 1).toNatClampNeg)] := by
    rcases sem_hall l hlt D cB cI cJ ad hI (L := L) I (xs (nI (6 * t) + 1).toNatClampNeg) with h9 | h9
    · exact hf_CF h9 (fun fr lo post hM hpo => h_hall l D cB cI cJ ad 128 (pl ad cB cI cJ A V R L) hI 0 127 _ (L 127) (xs (nI (6 * t) + 1).toNatClampNeg) hM hpo (by decide) (by decide) (show pl ad cB cI cJ A V R L 0 = .inr (11, poF ad 0 1 (R 0) (116 - R 0) 3 4 7 14 17 (V 0 8) (V 0 9) 24 31 44 46) from rfl))
    · exact hf_CX h9 (by decide) (fun fr lo hM => hx_hall l D cB cI cJ ad 128 (pl ad cB cI cJ A V R L) hI 0 127 _ (L 127) (xs (nI (6 * t) + 1).toNatClampNeg) hM (by decide) (show pl ad cB cI cJ A V R L 0 = .inr (11, poF ad 0 1 (R 0) (116 - R 0) 3 4 7 14 17 (V 0 8) (V 0 9) 24 31 44 46) from rfl))
  obtain ⟨fr, lo, post, hM, h1, h2, hp⟩ := HH
  refine lv_aload_n hx hb dL_law_253 rfl (lv_at hl 1 rfl) ?_
  refine lv_aload_n hx hb dL_law_254 rfl (lv_at hl 0 rfl) ?_
  refine lv_iload hx hb dL_law_255 (lv_at hl 4 rfl) ?_
  refine lv_iconst (v := 1) hx hb dL_law_257 (by decide) ?_
  refine lv_iadd hx hb dL_law_258 ?_
  refine va_sld hx hb hX hbl hbA hS (sc_in ht hLn 1 (by decide)) dL_law_259 ?_
  refine lv_aload_n hx hb dL_law_260 rfl (lv_at hl 3 rfl) ?_
  refine q_callH (As := [.ref (ad 0), .int (xs (nI (6 * t) + 1).toNatClampNeg), .ref (ad 127)]) (rest := []) hM X hK hZ hP hS hl.1 rfl gL_law_L_hall ydL_hall ⟨by show fr + 1 ≤ 2048; omega, by show 8 + (4 + 11) + lo ≤ 84000; omega⟩ rfl (Nat.le_of_ble_eq_true rfl) ⟨by show cells + 1 ≤ 601024; omega, by show slots + 6 ≤ 7293034; omega⟩ dL_law_261 (fun v M1 H1 locs1 hp1 hP hS => ?_)
  obtain ⟨r1, A1, V1, R1, L1, rfl, hv, fr3, lo3, post3, hM3, h13, h23, hp3⟩ := hp v M1 hp1
  refine lv_istore (lv' := [(5, .int v), (0, .ref b), (1, .ref (ad 0)), (2, .ref (ad 82)), (3, .ref (ad 127)), (4, .int (nI (6 * t)))]) hx hb dL_law_264 hl (by decide) rfl (fun ls hl => ?_)
  refine lv_aload_n hx hb dL_law_266 rfl (lv_at hl 3 rfl) ?_
  refine lv_aload_n hx hb dL_law_267 rfl (lv_at hl 1 rfl) ?_
  refine lv_iload hx hb dL_law_268 (lv_at hl 5 rfl) ?_
  refine lv_iconst (v := 1) hx hb dL_law_270 (by decide) ?_
  refine lv_iadd hx hb dL_law_271 ?_
  refine va_sld hx hb hX hbl hbA hS (sc_in ht hLn 1 (by decide)) dL_law_272 ?_
  refine q_wrVi (As := [.int (xs (nI (6 * t) + 1).toNatClampNeg)]) (rest := []) hM3 X hK hP hS hl.1 rfl gL_law_X13_hall ydq_13hall ⟨by show fr3 + 1 ≤ 2048; omega, by show 8 + (3 + 11) + lo3 ≤ 84000; omega⟩ (by decide) (show pl ad cB cI cJ A1 V1 R1 L1 82 = .inr (12, modF ad 82 (V1 82)) from rfl) (ci := 12) rfl rfl (Nat.le_of_ble_eq_true rfl) ⟨by show cells + 1 ≤ 601024; omega, by show slots + 6 ≤ 7293034; omega⟩ dL_law_273 (fun r3 M3 H3 locs3 hp9 hP hS => ?_)
  obtain ⟨A3, V3, R3, L3, rfl, hL3, hk, hr, I3⟩ := hp3 r3 M3 hp9
  refine lv_istore (lv' := [(6, .int r3), (5, .int v), (0, .ref b), (1, .ref (ad 0)), (2, .ref (ad 82)), (3, .ref (ad 127)), (4, .int (nI (6 * t)))]) hx hb dL_law_276 hl (by decide) rfl (fun ls hl => ?_)
  refine lv_aload_n hx hb dL_law_278 rfl (lv_at hl 4 rfl) ?_
  refine q_rdV (As := []) (rest := []) (c_X13_thrown l D cB cI cJ ad 128 (pl ad cB cI cJ A3 V3 R3 L3) 82 (V3 82) (by decide) rfl) X hK hP hS hl.1 rfl gL_law_X13_thrown ydq_13thrown ⟨by show 0 + 1 ≤ 2048; omega, by show 8 + (1 + 11) + 0 ≤ 84000; omega⟩ (by decide) (show pl ad cB cI cJ A3 V3 R3 L3 82 = .inr (12, modF ad 82 (V3 82)) from rfl) (ci := 12) rfl rfl (Nat.le_of_ble_eq_true rfl) ⟨by show cells + 1 ≤ 601024; omega, by show slots + 6 ≤ 7293034; omega⟩ dL_law_279 ?_
  refine lv_iload hx hb dL_law_282 (lv_at hl 1 rfl) ?_
  refine lv_icmp_eq (tgt := 289) hx hb dL_law_284 (by decide) (fun _ => ?_) (fun q => absurd hk q)
  refine lv_iload hx hb dL_law_289 (lv_at hl 1 rfl) ?_
  refine lv_if_ne (tgt := 306) hx hb dL_law_291 (by decide) (fun c0 => ?_) (fun c0 => ?_)
  · refine lv_goto (tgt := 1691) hx hb dL_law_306 (by decide) ?_
    exact kk A3 V3 R3 L3 H3 locs3 ls (cells + 1) (slots + 6) I3 hP hS (lv_sub hl [2, 3, 4, 5, 6] rfl) (Nat.le_refl _) (Nat.le_refl _)
  · have v0 : v = 0 := by first | exact c0 | exact Decidable.not_not.mp c0
    refine lv_aload_n hx hb dL_law_294 rfl (lv_at hl 5 rfl) ?_
    refine lv_iconst (v := 0) hx hb dL_law_295 (by decide) ?_
    refine q_laldN (f := L3 127) (k := 1) X hK hP 0 (by decide) rfl (by decide) (by decide) dL_law_296 ?_
    refine lv_iload hx hb dL_law_297 (lv_at hl 0 rfl) ?_
    refine lv_i2l hx hb dL_law_299 rfl ?_
    refine q_lcmp_eq (tgt := 306) hx hb dL_law_300 dL_law_301 (by decide) (fun _ => ?_) (fun q => absurd (by rw [hL3, hv v0, hr v0]) q)
    refine lv_goto (tgt := 1691) hx hb dL_law_306 (by decide) ?_
    exact kk A3 V3 R3 L3 H3 locs3 ls (cells + 1) (slots + 6) I3 hP hS (lv_sub hl [2, 3, 4, 5, 6] rfl) (Nat.le_refl _) (Nat.le_refl _)
end
