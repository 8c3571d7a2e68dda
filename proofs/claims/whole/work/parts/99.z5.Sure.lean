/-! the law's walk: sure -/
noncomputable section
variable {p : Program} {l : Launch} {e : Env} {s : State} {m : MethodId} {below : List Frame} {meth : Method} {c : Code} {H : Heap} {locs : List Loc} {cells slots : Nat} {Q : State → Prop} {D : va_G} {cB cI cJ : ClassId} {ad : Nat → Nat} {b Ln : Nat} {xs : Nat → Int32} {ls : Array Slot} {A V : Nat → Nat → Int32} {R : Nat → Nat} {L : Nat → Nat → Int64}
abbrev HFl (l : Launch) (D : va_G) (cB cI cJ : ClassId) (ad : Nat → Nat) (A V : Nat → Nat → Int32) (R : Nat → Nat) (L : Nat → Nat → Int64) (yL : MethodName) (wsL : List Cond) (AsL : List Value) (y3 : MethodName) (ws3 : List Cond) (As3 : List Value) : Prop :=
  ∃ (fr lo : Nat) (post : Int32 → (Nat → va_E) → Prop), cH l D cB cI cJ ad 128 (pl ad cB cI cJ A V R L) yL wsL fr lo AsL post ∧ fr ≤ 61 ∧ lo ≤ 1400 ∧ ∀ (v : Int32) (M : Nat → va_E), post v M → ∃ (r1 : Int64) (A' V' : Nat → Nat → Int32) (R' : Nat → Nat) (L' : Nat → Nat → Int64), M = pl ad cB cI cJ A' V' R' L' ∧ (v = 0 → L' 127 0 = r1) ∧ RFl l D cB cI cJ ad A' V' R' L' y3 ws3 As3 v r1
theorem hf_CFl {l : Launch} {D : va_G} {cB cI cJ : ClassId} {ad : Nat → Nat} {A V : Nat → Nat → Int32} {R : Nat → Nat} {L : Nat → Nat → Int64} {y1 : MethodName} {ws1 : List Cond} {As1 : List Value} {y3 : MethodName} {ws3 : List Cond} {As3 : List Value} {yL : MethodName} {wsL : List Cond} {AsL : List Value} (h : CFl l D cB cI cJ ad A V R L y1 ws1 As1 y3 ws3 As3)
    (hH : ∀ (fr lo : Nat) (post : Int64 → (Nat → va_E) → Prop), cWl l D cB cI cJ ad 128 (pl ad cB cI cJ A V R L) y1 ws1 fr lo As1 post → (∀ (r : Int64) (M1 : Nat → va_E), post r M1 → M1 127 = .inl (cJ, 1, .inr (.inl (L 127)))) → cH l D cB cI cJ ad 128 (pl ad cB cI cJ A V R L) yL wsL (fr + 1) (lo + 40) AsL (fun v M' => v = 0 ∧ ∃ (r : Int64) (M1 : Nat → va_E), post r M1 ∧ M' = va_up M1 127 (.inl (cJ, 1, .inr (.inl (vp_updL (L 127) 0 r)))))) :
    HFl l D cB cI cJ ad A V R L yL wsL AsL y3 ws3 As3 := by
  obtain ⟨fr, lo, post, hM, h1, h2, hp⟩ := h
  refine ⟨_, _, _, hH fr lo post hM (fun r M1 q => ?_), by omega, by omega, fun v M q => ?_⟩
  · obtain ⟨A1, V1, R1, L1, rfl, e, -⟩ := hp r M1 q
    show Sum.inl (cJ, 1, Sum.inr (Sum.inl (L1 127))) = _
    rw [e]
  · obtain ⟨rfl, r, M1, q1, rfl⟩ := q
    obtain ⟨A1, V1, R1, L1, rfl, e, hR⟩ := hp r M1 q1
    exact ⟨r, A1, V1, R1, _, pl_out _, fun _ => by rw [va_up_self]; rfl, hR _⟩
theorem hf_CXl {l : Launch} {D : va_G} {cB cI cJ : ClassId} {ad : Nat → Nat} {A V : Nat → Nat → Int32} {R : Nat → Nat} {L : Nat → Nat → Int64} {y1 : MethodName} {ws1 : List Cond} {As1 : List Value} {y3 : MethodName} {ws3 : List Cond} {As3 : List Value} {yL : MethodName} {wsL : List Cond} {AsL : List Value} {E0 : String} {kc : Int32} (h : CXl l D cB cI cJ ad A V R L y1 ws1 As1 y3 ws3 As3 E0 kc) (hk : ¬ kc = 0)
    (hH : ∀ fr lo : Nat, cX l D cB cI cJ ad 128 (pl ad cB cI cJ A V R L) y1 ws1 fr lo As1 E0 → cH l D cB cI cJ ad 128 (pl ad cB cI cJ A V R L) yL wsL (fr + 1) (lo + 40) AsL (fun v M' => v = kc ∧ M' = pl ad cB cI cJ A V R L)) :
    HFl l D cB cI cJ ad A V R L yL wsL AsL y3 ws3 As3 := by
  obtain ⟨fr, lo, hM, h1, h2, hR⟩ := h
  refine ⟨_, _, _, hH fr lo hM, by omega, by omega, fun v M q => ?_⟩
  obtain ⟨rfl, rfl⟩ := q
  exact ⟨0, A, V, R, L, rfl, fun q => absurd q hk, hR⟩

theorem ydq_13sure : YD yX13_sure 2 := ⟨by decide +kernel, by decide +kernel, by decide +kernel⟩
set_option maxRecDepth 100000 in
theorem op_sure (hlt : l.stackTraces = false) (Y : LX p s m c D cB cI cJ ad b Ln xs) (I : INV A V R) (hP : va_P D vwCl (ip ad 128 (pl ad cB cI cJ A V R L)) H) (hS : va_S (ipA ad 128) s.heap H locs) (hcs : cells + 1 ≤ 601024 ∧ slots + 6 ≤ 7293034) {t : Nat} (ht : 6 * t + 6 ≤ Ln) (hLn : Ln < 2 ^ 31) (hl : lv_has ls 8 [(0, .ref b), (1, .ref (ad 0)), (2, .ref (ad 82)), (3, .ref (ad 127)), (4, .int (nI (6 * t)))])
    (kk : ∀ (A V : Nat → Nat → Int32) (R : Nat → Nat) (L : Nat → Nat → Int64) (H : Heap) (locs : List Loc) (ls : Array Slot) (ce sl : Nat), INV A V R → va_P D vwCl (ip ad 128 (pl ad cB cI cJ A V R L)) H → va_S (ipA ad 128) s.heap H locs → lv_has ls 8 [(0, .ref b), (1, .ref (ad 0)), (2, .ref (ad 82)), (3, .ref (ad 127)), (4, .int (nI (6 * t)))] → ce ≤ cells + 1 → sl ≤ slots + 6 → W p l e room_1 s m #[Value.ref b] below meth c H locs ce sl Q (F0 m 1691 ls [])) :
    W p l e room_1 s m #[Value.ref b] below meth c H locs cells slots Q (F0 m 957 ls []) := by
  obtain ⟨X, hK, hZ, hI, hX, hbl, hbA⟩ := Y
  obtain ⟨hx, hb, hml, hown, hts⟩ := id X
  have HH : HFl l D cB cI cJ ad A V R L yL_sure wsL_sure [.ref (ad 0), .int (xs (nI (6 * t) + 1).toNatClampNeg), .int (xs (nI (6 * t) + 2).toNatClampNeg), .ref (ad 127)] yX13_sure wsX13_sure [.ref (ad 82), .int (xs (nI (6 * t) + 1).toNatClampNeg), .int (xs (nI (6 * t) + 2).toNatClampNeg)] := by
    rcases sem_sure l hlt D cB cI cJ ad hI (L := L) I (xs (nI (6 * t) + 1).toNatClampNeg) (xs (nI (6 * t) + 2).toNatClampNeg) with h9 | h9
    · exact hf_CFl h9 (fun fr lo post hM hpo => h_sure l D cB cI cJ ad 128 (pl ad cB cI cJ A V R L) hI 0 127 _ (L 127) (xs (nI (6 * t) + 1).toNatClampNeg) (xs (nI (6 * t) + 2).toNatClampNeg) hM hpo (by decide) (by decide) (show pl ad cB cI cJ A V R L 0 = .inr (11, poF ad 0 1 (R 0) (116 - R 0) 3 4 7 14 17 (V 0 8) (V 0 9) 24 31 44 46) from rfl))
    · exact hf_CXl h9 (by decide) (fun fr lo hM => hx_sure l D cB cI cJ ad 128 (pl ad cB cI cJ A V R L) hI 0 127 _ (L 127) (xs (nI (6 * t) + 1).toNatClampNeg) (xs (nI (6 * t) + 2).toNatClampNeg) hM (by decide) (show pl ad cB cI cJ A V R L 0 = .inr (11, poF ad 0 1 (R 0) (116 - R 0) 3 4 7 14 17 (V 0 8) (V 0 9) 24 31 44 46) from rfl))
  obtain ⟨fr, lo, post, hM, h1, h2, hp⟩ := HH
  refine lv_aload_n hx hb dL_law_957 rfl (lv_at hl 1 rfl) ?_
  refine lv_aload_n hx hb dL_law_958 rfl (lv_at hl 0 rfl) ?_
  refine lv_iload hx hb dL_law_959 (lv_at hl 4 rfl) ?_
  refine lv_iconst (v := 1) hx hb dL_law_961 (by decide) ?_
  refine lv_iadd hx hb dL_law_962 ?_
  refine va_sld hx hb hX hbl hbA hS (sc_in ht hLn 1 (by decide)) dL_law_963 ?_
  refine lv_aload_n hx hb dL_law_964 rfl (lv_at hl 0 rfl) ?_
  refine lv_iload hx hb dL_law_965 (lv_at hl 4 rfl) ?_
  refine lv_iconst (v := 2) hx hb dL_law_967 (by decide) ?_
  refine lv_iadd hx hb dL_law_968 ?_
  refine va_sld hx hb hX hbl hbA hS (sc_in ht hLn 2 (by decide)) dL_law_969 ?_
  refine lv_aload_n hx hb dL_law_970 rfl (lv_at hl 3 rfl) ?_
  refine q_callH (As := [.ref (ad 0), .int (xs (nI (6 * t) + 1).toNatClampNeg), .int (xs (nI (6 * t) + 2).toNatClampNeg), .ref (ad 127)]) (rest := []) hM X hK hZ hP hS hl.1 rfl gL_law_L_sure ydL_sure ⟨by show fr + 1 ≤ 2048; omega, by show 8 + (5 + 11) + lo ≤ 84000; omega⟩ rfl (Nat.le_of_ble_eq_true rfl) ⟨by show cells + 1 ≤ 601024; omega, by show slots + 6 ≤ 7293034; omega⟩ dL_law_971 (fun v M1 H1 locs1 hp1 hP hS => ?_)
  obtain ⟨r1, A1, V1, R1, L1, rfl, hv, fr3, lo3, post3, hM3, h13, h23, hp3⟩ := hp v M1 hp1
  refine lv_istore (lv' := [(5, .int v), (0, .ref b), (1, .ref (ad 0)), (2, .ref (ad 82)), (3, .ref (ad 127)), (4, .int (nI (6 * t)))]) hx hb dL_law_974 hl (by decide) rfl (fun ls hl => ?_)
  refine lv_aload_n hx hb dL_law_976 rfl (lv_at hl 3 rfl) ?_
  refine lv_aload_n hx hb dL_law_977 rfl (lv_at hl 1 rfl) ?_
  refine lv_iload hx hb dL_law_978 (lv_at hl 5 rfl) ?_
  refine lv_iconst (v := 1) hx hb dL_law_980 (by decide) ?_
  refine lv_iadd hx hb dL_law_981 ?_
  refine va_sld hx hb hX hbl hbA hS (sc_in ht hLn 1 (by decide)) dL_law_982 ?_
  refine lv_aload_n hx hb dL_law_983 rfl (lv_at hl 1 rfl) ?_
  refine lv_iload hx hb dL_law_984 (lv_at hl 5 rfl) ?_
  refine lv_iconst (v := 2) hx hb dL_law_986 (by decide) ?_
  refine lv_iadd hx hb dL_law_987 ?_
  refine va_sld hx hb hX hbl hbA hS (sc_in ht hLn 2 (by decide)) dL_law_988 ?_
  refine q_wrVl (As := [.int (xs (nI (6 * t) + 1).toNatClampNeg), .int (xs (nI (6 * t) + 2).toNatClampNeg)]) (rest := []) hM3 X hK hP hS hl.1 rfl gL_law_X13_sure ydq_13sure ⟨by show fr3 + 1 ≤ 2048; omega, by show 8 + (7 + 11) + lo3 ≤ 84000; omega⟩ (by decide) (show pl ad cB cI cJ A1 V1 R1 L1 82 = .inr (12, modF ad 82 (V1 82)) from rfl) (ci := 12) rfl rfl (Nat.le_of_ble_eq_true rfl) ⟨by show cells + 1 ≤ 601024; omega, by show slots + 6 ≤ 7293034; omega⟩ dL_law_989 (fun r3 M3 H3 locs3 hp9 hP hS => ?_)
  obtain ⟨A3, V3, R3, L3, rfl, hL3, hk, hr, I3⟩ := hp3 r3 M3 hp9
  refine lv_lstore (lv' := [(6, .long r3), (5, .int v), (0, .ref b), (1, .ref (ad 0)), (2, .ref (ad 82)), (3, .ref (ad 127)), (4, .int (nI (6 * t)))]) hx hb dL_law_992 hl (by decide) rfl (fun ls hl => ?_)
  refine lv_aload_n hx hb dL_law_994 rfl (lv_at hl 4 rfl) ?_
  refine q_rdV (As := []) (rest := []) (c_X13_thrown l D cB cI cJ ad 128 (pl ad cB cI cJ A3 V3 R3 L3) 82 (V3 82) (by decide) rfl) X hK hP hS hl.1 rfl gL_law_X13_thrown ydq_13thrown ⟨by show 0 + 1 ≤ 2048; omega, by show 8 + (1 + 11) + 0 ≤ 84000; omega⟩ (by decide) (show pl ad cB cI cJ A3 V3 R3 L3 82 = .inr (12, modF ad 82 (V3 82)) from rfl) (ci := 12) rfl rfl (Nat.le_of_ble_eq_true rfl) ⟨by show cells + 1 ≤ 601024; omega, by show slots + 6 ≤ 7293034; omega⟩ dL_law_995 ?_
  refine lv_iload hx hb dL_law_998 (lv_at hl 1 rfl) ?_
  refine lv_icmp_eq (tgt := 1005) hx hb dL_law_1000 (by decide) (fun _ => ?_) (fun q => absurd hk q)
  refine lv_iload hx hb dL_law_1005 (lv_at hl 1 rfl) ?_
  refine lv_if_ne (tgt := 1021) hx hb dL_law_1007 (by decide) (fun c0 => ?_) (fun c0 => ?_)
  · refine lv_goto (tgt := 1691) hx hb dL_law_1021 (by decide) ?_
    exact kk A3 V3 R3 L3 H3 locs3 ls (cells + 1) (slots + 6) I3 hP hS (lv_sub hl [2, 3, 4, 5, 6] rfl) (Nat.le_refl _) (Nat.le_refl _)
  · have v0 : v = 0 := by first | exact c0 | exact Decidable.not_not.mp c0
    refine lv_aload_n hx hb dL_law_1010 rfl (lv_at hl 5 rfl) ?_
    refine lv_iconst (v := 0) hx hb dL_law_1011 (by decide) ?_
    refine q_laldN (f := L3 127) (k := 1) X hK hP 0 (by decide) rfl (by decide) (by decide) dL_law_1012 ?_
    refine lv_lload hx hb dL_law_1013 (lv_at hl 0 rfl) ?_
    refine q_lcmp_eq (tgt := 1021) hx hb dL_law_1015 dL_law_1016 (by decide) (fun _ => ?_) (fun q => absurd (by rw [hL3, hv v0, hr v0]) q)
    refine lv_goto (tgt := 1691) hx hb dL_law_1021 (by decide) ?_
    exact kk A3 V3 R3 L3 H3 locs3 ls (cells + 1) (slots + 6) I3 hP hS (lv_sub hl [2, 3, 4, 5, 6] rfl) (Nat.le_refl _) (Nat.le_refl _)
end
