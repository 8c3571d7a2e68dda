/-! the law's walk: wear -/
section
variable {p : Program} {l : Launch} {e : Env} {s : State} {m : MethodId} {below : List Frame} {meth : Method} {c : Code} {H : Heap} {locs : List Loc} {cells slots : Nat} {Q : State → Prop} {D : va_G} {cB cI cJ : ClassId} {ad : Nat → Nat} {b Ln : Nat} {xs : Nat → Int32} {ls : Array Slot} {A V : Nat → Nat → Int32} {R : Nat → Nat} {L : Nat → Nat → Int64}
theorem ydq_13wear : YD yX13_wear 3 := ⟨by decide +kernel, by decide +kernel, by decide +kernel⟩
set_option maxRecDepth 100000 in
theorem op_wear0 {t : Nat} (c3 : (xs (nI (6 * t) + 3).toNatClampNeg) = 0) (hlt : l.stackTraces = false) (Y : LX p s m c D cB cI cJ ad b Ln xs) (I : INV A V R) (hP : va_P D vwCl (ip ad 128 (pl ad cB cI cJ A V R L)) H) (hS : va_S (ipA ad 128) s.heap H locs) (hcs : cells + 1 ≤ 601024 ∧ slots + 6 ≤ 7293034) (ht : 6 * t + 6 ≤ Ln) (hLn : Ln < 2 ^ 31) (hl : lv_has ls 8 [(0, .ref b), (1, .ref (ad 0)), (2, .ref (ad 82)), (3, .ref (ad 127)), (4, .int (nI (6 * t)))])
    (kk : ∀ (A V : Nat → Nat → Int32) (R : Nat → Nat) (L : Nat → Nat → Int64) (H : Heap) (locs : List Loc) (ls : Array Slot) (ce sl : Nat), INV A V R → va_P D vwCl (ip ad 128 (pl ad cB cI cJ A V R L)) H → va_S (ipA ad 128) s.heap H locs → lv_has ls 8 [(0, .ref b), (1, .ref (ad 0)), (2, .ref (ad 82)), (3, .ref (ad 127)), (4, .int (nI (6 * t)))] → ce ≤ cells + 1 → sl ≤ slots + 6 → W p l e room_1 s m #[Value.ref b] below meth c H locs ce sl Q (F0 m 1691 ls [])) :
    W p l e room_1 s m #[Value.ref b] below meth c H locs cells slots Q (F0 m 1161 ls []) := by
  obtain ⟨X, hK, hZ, hI, hX, hbl, hbA⟩ := Y
  obtain ⟨hx, hb, hml, hown, hts⟩ := id X
  have HH : HF l D cB cI cJ ad A V R L yL_wear wsL_wear [.ref (ad 0), .int (xs (nI (6 * t) + 1).toNatClampNeg), .int (xs (nI (6 * t) + 2).toNatClampNeg), .int 0, .ref (ad 127)] yX13_wear wsX13_wear [.ref (ad 82), .int (xs (nI (6 * t) + 1).toNatClampNeg), .int (xs (nI (6 * t) + 2).toNatClampNeg), .int 0] := by
    rcases sem_wear l hlt D cB cI cJ ad hI (L := L) I (xs (nI (6 * t) + 1).toNatClampNeg) (xs (nI (6 * t) + 2).toNatClampNeg) 0 with h9 | h9 | h9
    · exact hf_CF h9 (fun fr lo post hM hpo => hw_wear l D cB cI cJ ad 128 (pl ad cB cI cJ A V R L) hI 0 127 _ (L 127) (xs (nI (6 * t) + 1).toNatClampNeg) (xs (nI (6 * t) + 2).toNatClampNeg) 0 hM hpo (by decide) (by decide) (show pl ad cB cI cJ A V R L 0 = .inr (11, poF ad 0 1 (R 0) (116 - R 0) 3 4 7 14 17 (V 0 8) (V 0 9) 24 31 44 46) from rfl))
    · exact hf_CX h9 (by decide) (fun fr lo hM => hx_wear l D cB cI cJ ad 128 (pl ad cB cI cJ A V R L) hI 0 127 _ (L 127) (xs (nI (6 * t) + 1).toNatClampNeg) (xs (nI (6 * t) + 2).toNatClampNeg) 0 hM (by decide) (show pl ad cB cI cJ A V R L 0 = .inr (11, poF ad 0 1 (R 0) (116 - R 0) 3 4 7 14 17 (V 0 8) (V 0 9) 24 31 44 46) from rfl))
    · exact hf_CX h9 (by decide) (fun fr lo hM => hx_wear2 l D cB cI cJ ad 128 (pl ad cB cI cJ A V R L) hI 0 127 _ (L 127) (xs (nI (6 * t) + 1).toNatClampNeg) (xs (nI (6 * t) + 2).toNatClampNeg) 0 hM (by decide) (show pl ad cB cI cJ A V R L 0 = .inr (11, poF ad 0 1 (R 0) (116 - R 0) 3 4 7 14 17 (V 0 8) (V 0 9) 24 31 44 46) from rfl))
  obtain ⟨fr, lo, post, hM, h1, h2, hp⟩ := HH
  refine lv_aload_n hx hb dL_law_1161 rfl (lv_at hl 1 rfl) ?_
  refine lv_aload_n hx hb dL_law_1162 rfl (lv_at hl 0 rfl) ?_
  refine lv_iload hx hb dL_law_1163 (lv_at hl 4 rfl) ?_
  refine lv_iconst (v := 1) hx hb dL_law_1165 (by decide) ?_
  refine lv_iadd hx hb dL_law_1166 ?_
  refine va_sld hx hb hX hbl hbA hS (sc_in ht hLn 1 (by decide)) dL_law_1167 ?_
  refine lv_aload_n hx hb dL_law_1168 rfl (lv_at hl 0 rfl) ?_
  refine lv_iload hx hb dL_law_1169 (lv_at hl 4 rfl) ?_
  refine lv_iconst (v := 2) hx hb dL_law_1171 (by decide) ?_
  refine lv_iadd hx hb dL_law_1172 ?_
  refine va_sld hx hb hX hbl hbA hS (sc_in ht hLn 2 (by decide)) dL_law_1173 ?_
  refine lv_aload_n hx hb dL_law_1174 rfl (lv_at hl 0 rfl) ?_
  refine lv_iload hx hb dL_law_1175 (lv_at hl 4 rfl) ?_
  refine lv_iconst (v := 3) hx hb dL_law_1177 (by decide) ?_
  refine lv_iadd hx hb dL_law_1178 ?_
  refine va_sld hx hb hX hbl hbA hS (sc_in ht hLn 3 (by decide)) dL_law_1179 ?_
  refine lv_if_eq (tgt := 1187) hx hb dL_law_1180 (by decide) (fun _ => ?_) (fun q => absurd c3 q)
  refine lv_iconst (v := 0) hx hb dL_law_1187 (by decide) ?_
  refine lv_aload_n hx hb dL_law_1188 rfl (lv_at hl 3 rfl) ?_
  refine q_callH (As := [.ref (ad 0), .int (xs (nI (6 * t) + 1).toNatClampNeg), .int (xs (nI (6 * t) + 2).toNatClampNeg), .int 0, .ref (ad 127)]) (rest := []) hM X hK hZ hP hS hl.1 rfl gL_law_L_wear ydL_wear ⟨by show fr + 1 ≤ 2048; omega, by show 8 + (6 + 11) + lo ≤ 84000; omega⟩ rfl (Nat.le_of_ble_eq_true rfl) ⟨by show cells + 1 ≤ 601024; omega, by show slots + 6 ≤ 7293034; omega⟩ dL_law_1189 (fun v M1 H1 locs1 hp1 hP hS => ?_)
  obtain ⟨r1, A1, V1, R1, L1, rfl, hv, fr3, lo3, post3, hM3, h13, h23, hp3⟩ := hp v M1 hp1
  refine lv_istore (lv' := [(5, .int v), (0, .ref b), (1, .ref (ad 0)), (2, .ref (ad 82)), (3, .ref (ad 127)), (4, .int (nI (6 * t)))]) hx hb dL_law_1192 hl (by decide) rfl (fun ls hl => ?_)
  refine lv_aload_n hx hb dL_law_1194 rfl (lv_at hl 3 rfl) ?_
  refine lv_aload_n hx hb dL_law_1195 rfl (lv_at hl 1 rfl) ?_
  refine lv_iload hx hb dL_law_1196 (lv_at hl 5 rfl) ?_
  refine lv_iconst (v := 1) hx hb dL_law_1198 (by decide) ?_
  refine lv_iadd hx hb dL_law_1199 ?_
  refine va_sld hx hb hX hbl hbA hS (sc_in ht hLn 1 (by decide)) dL_law_1200 ?_
  refine lv_aload_n hx hb dL_law_1201 rfl (lv_at hl 1 rfl) ?_
  refine lv_iload hx hb dL_law_1202 (lv_at hl 5 rfl) ?_
  refine lv_iconst (v := 2) hx hb dL_law_1204 (by decide) ?_
  refine lv_iadd hx hb dL_law_1205 ?_
  refine va_sld hx hb hX hbl hbA hS (sc_in ht hLn 2 (by decide)) dL_law_1206 ?_
  refine lv_aload_n hx hb dL_law_1207 rfl (lv_at hl 1 rfl) ?_
  refine lv_iload hx hb dL_law_1208 (lv_at hl 5 rfl) ?_
  refine lv_iconst (v := 3) hx hb dL_law_1210 (by decide) ?_
  refine lv_iadd hx hb dL_law_1211 ?_
  refine va_sld hx hb hX hbl hbA hS (sc_in ht hLn 3 (by decide)) dL_law_1212 ?_
  refine lv_if_eq (tgt := 1220) hx hb dL_law_1213 (by decide) (fun _ => ?_) (fun q => absurd c3 q)
  refine lv_iconst (v := 0) hx hb dL_law_1220 (by decide) ?_
  refine q_wrVi (As := [.int (xs (nI (6 * t) + 1).toNatClampNeg), .int (xs (nI (6 * t) + 2).toNatClampNeg), .int 0]) (rest := []) hM3 X hK hP hS hl.1 rfl gL_law_X13_wear ydq_13wear ⟨by show fr3 + 1 ≤ 2048; omega, by show 8 + (12 + 11) + lo3 ≤ 84000; omega⟩ (by decide) (show pl ad cB cI cJ A1 V1 R1 L1 82 = .inr (12, modF ad 82 (V1 82)) from rfl) (ci := 12) rfl rfl (Nat.le_of_ble_eq_true rfl) ⟨by show cells + 1 ≤ 601024; omega, by show slots + 6 ≤ 7293034; omega⟩ dL_law_1221 (fun r3 M3 H3 locs3 hp9 hP hS => ?_)
  obtain ⟨A3, V3, R3, L3, rfl, hL3, hk, hr, I3⟩ := hp3 r3 M3 hp9
  refine lv_istore (lv' := [(6, .int r3), (5, .int v), (0, .ref b), (1, .ref (ad 0)), (2, .ref (ad 82)), (3, .ref (ad 127)), (4, .int (nI (6 * t)))]) hx hb dL_law_1224 hl (by decide) rfl (fun ls hl => ?_)
  refine lv_aload_n hx hb dL_law_1226 rfl (lv_at hl 4 rfl) ?_
  refine q_rdV (As := []) (rest := []) (c_X13_thrown l D cB cI cJ ad 128 (pl ad cB cI cJ A3 V3 R3 L3) 82 (V3 82) (by decide) rfl) X hK hP hS hl.1 rfl gL_law_X13_thrown ydq_13thrown ⟨by show 0 + 1 ≤ 2048; omega, by show 8 + (1 + 11) + 0 ≤ 84000; omega⟩ (by decide) (show pl ad cB cI cJ A3 V3 R3 L3 82 = .inr (12, modF ad 82 (V3 82)) from rfl) (ci := 12) rfl rfl (Nat.le_of_ble_eq_true rfl) ⟨by show cells + 1 ≤ 601024; omega, by show slots + 6 ≤ 7293034; omega⟩ dL_law_1227 ?_
  refine lv_iload hx hb dL_law_1230 (lv_at hl 1 rfl) ?_
  refine lv_icmp_eq (tgt := 1237) hx hb dL_law_1232 (by decide) (fun _ => ?_) (fun q => absurd hk q)
  refine lv_iload hx hb dL_law_1237 (lv_at hl 1 rfl) ?_
  refine lv_if_ne (tgt := 1254) hx hb dL_law_1239 (by decide) (fun c0 => ?_) (fun c0 => ?_)
  · refine lv_goto (tgt := 1691) hx hb dL_law_1254 (by decide) ?_
    exact kk A3 V3 R3 L3 H3 locs3 ls (cells + 1) (slots + 6) I3 hP hS (lv_sub hl [2, 3, 4, 5, 6] rfl) (Nat.le_refl _) (Nat.le_refl _)
  · have v0 : v = 0 := by first | exact c0 | exact Decidable.not_not.mp c0
    refine lv_aload_n hx hb dL_law_1242 rfl (lv_at hl 5 rfl) ?_
    refine lv_iconst (v := 0) hx hb dL_law_1243 (by decide) ?_
    refine q_laldN (f := L3 127) (k := 1) X hK hP 0 (by decide) rfl (by decide) (by decide) dL_law_1244 ?_
    refine lv_iload hx hb dL_law_1245 (lv_at hl 0 rfl) ?_
    refine lv_i2l hx hb dL_law_1247 rfl ?_
    refine q_lcmp_eq (tgt := 1254) hx hb dL_law_1248 dL_law_1249 (by decide) (fun _ => ?_) (fun q => absurd (by rw [hL3, hv v0, hr v0]) q)
    refine lv_goto (tgt := 1691) hx hb dL_law_1254 (by decide) ?_
    exact kk A3 V3 R3 L3 H3 locs3 ls (cells + 1) (slots + 6) I3 hP hS (lv_sub hl [2, 3, 4, 5, 6] rfl) (Nat.le_refl _) (Nat.le_refl _)
set_option maxRecDepth 100000 in
theorem op_wear1 {t : Nat} (c3 : ¬ (xs (nI (6 * t) + 3).toNatClampNeg) = 0) (hlt : l.stackTraces = false) (Y : LX p s m c D cB cI cJ ad b Ln xs) (I : INV A V R) (hP : va_P D vwCl (ip ad 128 (pl ad cB cI cJ A V R L)) H) (hS : va_S (ipA ad 128) s.heap H locs) (hcs : cells + 1 ≤ 601024 ∧ slots + 6 ≤ 7293034) (ht : 6 * t + 6 ≤ Ln) (hLn : Ln < 2 ^ 31) (hl : lv_has ls 8 [(0, .ref b), (1, .ref (ad 0)), (2, .ref (ad 82)), (3, .ref (ad 127)), (4, .int (nI (6 * t)))])
    (kk : ∀ (A V : Nat → Nat → Int32) (R : Nat → Nat) (L : Nat → Nat → Int64) (H : Heap) (locs : List Loc) (ls : Array Slot) (ce sl : Nat), INV A V R → va_P D vwCl (ip ad 128 (pl ad cB cI cJ A V R L)) H → va_S (ipA ad 128) s.heap H locs → lv_has ls 8 [(0, .ref b), (1, .ref (ad 0)), (2, .ref (ad 82)), (3, .ref (ad 127)), (4, .int (nI (6 * t)))] → ce ≤ cells + 1 → sl ≤ slots + 6 → W p l e room_1 s m #[Value.ref b] below meth c H locs ce sl Q (F0 m 1691 ls [])) :
    W p l e room_1 s m #[Value.ref b] below meth c H locs cells slots Q (F0 m 1161 ls []) := by
  obtain ⟨X, hK, hZ, hI, hX, hbl, hbA⟩ := Y
  obtain ⟨hx, hb, hml, hown, hts⟩ := id X
  have HH : HF l D cB cI cJ ad A V R L yL_wear wsL_wear [.ref (ad 0), .int (xs (nI (6 * t) + 1).toNatClampNeg), .int (xs (nI (6 * t) + 2).toNatClampNeg), .int 1, .ref (ad 127)] yX13_wear wsX13_wear [.ref (ad 82), .int (xs (nI (6 * t) + 1).toNatClampNeg), .int (xs (nI (6 * t) + 2).toNatClampNeg), .int 1] := by
    rcases sem_wear l hlt D cB cI cJ ad hI (L := L) I (xs (nI (6 * t) + 1).toNatClampNeg) (xs (nI (6 * t) + 2).toNatClampNeg) 1 with h9 | h9 | h9
    · exact hf_CF h9 (fun fr lo post hM hpo => hw_wear l D cB cI cJ ad 128 (pl ad cB cI cJ A V R L) hI 0 127 _ (L 127) (xs (nI (6 * t) + 1).toNatClampNeg) (xs (nI (6 * t) + 2).toNatClampNeg) 1 hM hpo (by decide) (by decide) (show pl ad cB cI cJ A V R L 0 = .inr (11, poF ad 0 1 (R 0) (116 - R 0) 3 4 7 14 17 (V 0 8) (V 0 9) 24 31 44 46) from rfl))
    · exact hf_CX h9 (by decide) (fun fr lo hM => hx_wear l D cB cI cJ ad 128 (pl ad cB cI cJ A V R L) hI 0 127 _ (L 127) (xs (nI (6 * t) + 1).toNatClampNeg) (xs (nI (6 * t) + 2).toNatClampNeg) 1 hM (by decide) (show pl ad cB cI cJ A V R L 0 = .inr (11, poF ad 0 1 (R 0) (116 - R 0) 3 4 7 14 17 (V 0 8) (V 0 9) 24 31 44 46) from rfl))
    · exact hf_CX h9 (by decide) (fun fr lo hM => hx_wear2 l D cB cI cJ ad 128 (pl ad cB cI cJ A V R L) hI 0 127 _ (L 127) (xs (nI (6 * t) + 1).toNatClampNeg) (xs (nI (6 * t) + 2).toNatClampNeg) 1 hM (by decide) (show pl ad cB cI cJ A V R L 0 = .inr (11, poF ad 0 1 (R 0) (116 - R 0) 3 4 7 14 17 (V 0 8) (V 0 9) 24 31 44 46) from rfl))
  obtain ⟨fr, lo, post, hM, h1, h2, hp⟩ := HH
  refine lv_aload_n hx hb dL_law_1161 rfl (lv_at hl 1 rfl) ?_
  refine lv_aload_n hx hb dL_law_1162 rfl (lv_at hl 0 rfl) ?_
  refine lv_iload hx hb dL_law_1163 (lv_at hl 4 rfl) ?_
  refine lv_iconst (v := 1) hx hb dL_law_1165 (by decide) ?_
  refine lv_iadd hx hb dL_law_1166 ?_
  refine va_sld hx hb hX hbl hbA hS (sc_in ht hLn 1 (by decide)) dL_law_1167 ?_
  refine lv_aload_n hx hb dL_law_1168 rfl (lv_at hl 0 rfl) ?_
  refine lv_iload hx hb dL_law_1169 (lv_at hl 4 rfl) ?_
  refine lv_iconst (v := 2) hx hb dL_law_1171 (by decide) ?_
  refine lv_iadd hx hb dL_law_1172 ?_
  refine va_sld hx hb hX hbl hbA hS (sc_in ht hLn 2 (by decide)) dL_law_1173 ?_
  refine lv_aload_n hx hb dL_law_1174 rfl (lv_at hl 0 rfl) ?_
  refine lv_iload hx hb dL_law_1175 (lv_at hl 4 rfl) ?_
  refine lv_iconst (v := 3) hx hb dL_law_1177 (by decide) ?_
  refine lv_iadd hx hb dL_law_1178 ?_
  refine va_sld hx hb hX hbl hbA hS (sc_in ht hLn 3 (by decide)) dL_law_1179 ?_
  refine lv_if_eq (tgt := 1187) hx hb dL_law_1180 (by decide) (fun q => absurd q c3) (fun _ => ?_)
  refine lv_iconst (v := 1) hx hb dL_law_1183 (by decide) ?_
  refine lv_goto (tgt := 1188) hx hb dL_law_1184 (by decide) ?_
  refine lv_aload_n hx hb dL_law_1188 rfl (lv_at hl 3 rfl) ?_
  refine q_callH (As := [.ref (ad 0), .int (xs (nI (6 * t) + 1).toNatClampNeg), .int (xs (nI (6 * t) + 2).toNatClampNeg), .int 1, .ref (ad 127)]) (rest := []) hM X hK hZ hP hS hl.1 rfl gL_law_L_wear ydL_wear ⟨by show fr + 1 ≤ 2048; omega, by show 8 + (6 + 11) + lo ≤ 84000; omega⟩ rfl (Nat.le_of_ble_eq_true rfl) ⟨by show cells + 1 ≤ 601024; omega, by show slots + 6 ≤ 7293034; omega⟩ dL_law_1189 (fun v M1 H1 locs1 hp1 hP hS => ?_)
  obtain ⟨r1, A1, V1, R1, L1, rfl, hv, fr3, lo3, post3, hM3, h13, h23, hp3⟩ := hp v M1 hp1
  refine lv_istore (lv' := [(5, .int v), (0, .ref b), (1, .ref (ad 0)), (2, .ref (ad 82)), (3, .ref (ad 127)), (4, .int (nI (6 * t)))]) hx hb dL_law_1192 hl (by decide) rfl (fun ls hl => ?_)
  refine lv_aload_n hx hb dL_law_1194 rfl (lv_at hl 3 rfl) ?_
  refine lv_aload_n hx hb dL_law_1195 rfl (lv_at hl 1 rfl) ?_
  refine lv_iload hx hb dL_law_1196 (lv_at hl 5 rfl) ?_
  refine lv_iconst (v := 1) hx hb dL_law_1198 (by decide) ?_
  refine lv_iadd hx hb dL_law_1199 ?_
  refine va_sld hx hb hX hbl hbA hS (sc_in ht hLn 1 (by decide)) dL_law_1200 ?_
  refine lv_aload_n hx hb dL_law_1201 rfl (lv_at hl 1 rfl) ?_
  refine lv_iload hx hb dL_law_1202 (lv_at hl 5 rfl) ?_
  refine lv_iconst (v := 2) hx hb dL_law_1204 (by decide) ?_
  refine lv_iadd hx hb dL_law_1205 ?_
  refine va_sld hx hb hX hbl hbA hS (sc_in ht hLn 2 (by decide)) dL_law_1206 ?_
  refine lv_aload_n hx hb dL_law_1207 rfl (lv_at hl 1 rfl) ?_
  refine lv_iload hx hb dL_law_1208 (lv_at hl 5 rfl) ?_
  refine lv_iconst (v := 3) hx hb dL_law_1210 (by decide) ?_
  refine lv_iadd hx hb dL_law_1211 ?_
  refine va_sld hx hb hX hbl hbA hS (sc_in ht hLn 3 (by decide)) dL_law_1212 ?_
  refine lv_if_eq (tgt := 1220) hx hb dL_law_1213 (by decide) (fun q => absurd q c3) (fun _ => ?_)
  refine lv_iconst (v := 1) hx hb dL_law_1216 (by decide) ?_
  refine lv_goto (tgt := 1221) hx hb dL_law_1217 (by decide) ?_
  refine q_wrVi (As := [.int (xs (nI (6 * t) + 1).toNatClampNeg), .int (xs (nI (6 * t) + 2).toNatClampNeg), .int 1]) (rest := []) hM3 X hK hP hS hl.1 rfl gL_law_X13_wear ydq_13wear ⟨by show fr3 + 1 ≤ 2048; omega, by show 8 + (12 + 11) + lo3 ≤ 84000; omega⟩ (by decide) (show pl ad cB cI cJ A1 V1 R1 L1 82 = .inr (12, modF ad 82 (V1 82)) from rfl) (ci := 12) rfl rfl (Nat.le_of_ble_eq_true rfl) ⟨by show cells + 1 ≤ 601024; omega, by show slots + 6 ≤ 7293034; omega⟩ dL_law_1221 (fun r3 M3 H3 locs3 hp9 hP hS => ?_)
  obtain ⟨A3, V3, R3, L3, rfl, hL3, hk, hr, I3⟩ := hp3 r3 M3 hp9
  refine lv_istore (lv' := [(6, .int r3), (5, .int v), (0, .ref b), (1, .ref (ad 0)), (2, .ref (ad 82)), (3, .ref (ad 127)), (4, .int (nI (6 * t)))]) hx hb dL_law_1224 hl (by decide) rfl (fun ls hl => ?_)
  refine lv_aload_n hx hb dL_law_1226 rfl (lv_at hl 4 rfl) ?_
  refine q_rdV (As := []) (rest := []) (c_X13_thrown l D cB cI cJ ad 128 (pl ad cB cI cJ A3 V3 R3 L3) 82 (V3 82) (by decide) rfl) X hK hP hS hl.1 rfl gL_law_X13_thrown ydq_13thrown ⟨by show 0 + 1 ≤ 2048; omega, by show 8 + (1 + 11) + 0 ≤ 84000; omega⟩ (by decide) (show pl ad cB cI cJ A3 V3 R3 L3 82 = .inr (12, modF ad 82 (V3 82)) from rfl) (ci := 12) rfl rfl (Nat.le_of_ble_eq_true rfl) ⟨by show cells + 1 ≤ 601024; omega, by show slots + 6 ≤ 7293034; omega⟩ dL_law_1227 ?_
  refine lv_iload hx hb dL_law_1230 (lv_at hl 1 rfl) ?_
  refine lv_icmp_eq (tgt := 1237) hx hb dL_law_1232 (by decide) (fun _ => ?_) (fun q => absurd hk q)
  refine lv_iload hx hb dL_law_1237 (lv_at hl 1 rfl) ?_
  refine lv_if_ne (tgt := 1254) hx hb dL_law_1239 (by decide) (fun c0 => ?_) (fun c0 => ?_)
  · refine lv_goto (tgt := 1691) hx hb dL_law_1254 (by decide) ?_
    exact kk A3 V3 R3 L3 H3 locs3 ls (cells + 1) (slots + 6) I3 hP hS (lv_sub hl [2, 3, 4, 5, 6] rfl) (Nat.le_refl _) (Nat.le_refl _)
  · have v0 : v = 0 := by first | exact c0 | exact Decidable.not_not.mp c0
    refine lv_aload_n hx hb dL_law_1242 rfl (lv_at hl 5 rfl) ?_
    refine lv_iconst (v := 0) hx hb dL_law_1243 (by decide) ?_
    refine q_laldN (f := L3 127) (k := 1) X hK hP 0 (by decide) rfl (by decide) (by decide) dL_law_1244 ?_
    refine lv_iload hx hb dL_law_1245 (lv_at hl 0 rfl) ?_
    refine lv_i2l hx hb dL_law_1247 rfl ?_
    refine q_lcmp_eq (tgt := 1254) hx hb dL_law_1248 dL_law_1249 (by decide) (fun _ => ?_) (fun q => absurd (by rw [hL3, hv v0, hr v0]) q)
    refine lv_goto (tgt := 1691) hx hb dL_law_1254 (by decide) ?_
    exact kk A3 V3 R3 L3 H3 locs3 ls (cells + 1) (slots + 6) I3 hP hS (lv_sub hl [2, 3, 4, 5, 6] rfl) (Nat.le_refl _) (Nat.le_refl _)
end
