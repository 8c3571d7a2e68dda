/-! the law's walk: image -/
section
variable {p : Program} {l : Launch} {e : Env} {s : State} {m : MethodId} {below : List Frame} {meth : Method} {c : Code} {H : Heap} {locs : List Loc} {cells slots : Nat} {Q : State → Prop} {D : va_G} {cB cI cJ : ClassId} {ad : Nat → Nat} {b Ln : Nat} {xs : Nat → Int32} {ls : Array Slot} {A V : Nat → Nat → Int32} {R : Nat → Nat} {L : Nat → Nat → Int64}
theorem ydq_12image : YD yX12_image 0 := ⟨by decide +kernel, by decide +kernel, by decide +kernel⟩
theorem ydq_13image : YD yX13_image 0 := ⟨by decide +kernel, by decide +kernel, by decide +kernel⟩
set_option maxRecDepth 100000 in
theorem op_image (hlt : l.stackTraces = false) (Y : LX p s m c D cB cI cJ ad b Ln xs) (I : INV A V R) (hP : va_P D vwCl (ip ad 128 (pl ad cB cI cJ A V R L)) H) (hS : va_S (ipA ad 128) s.heap H locs) (hcs : cells + 1 ≤ 601024 ∧ slots + 6 ≤ 7293034) {t : Nat} (ht : 6 * t + 6 ≤ Ln) (hLn : Ln < 2 ^ 31) {lv : List (Nat × Value)} (hl : lv_has ls 8 ((0, .ref b) :: (1, .ref (ad 0)) :: (2, .ref (ad 82)) :: (3, .ref (ad 127)) :: (4, .int (nI (6 * t))) :: lv))
    (kk : ∀ (A V : Nat → Nat → Int32) (R : Nat → Nat) (L : Nat → Nat → Int64) (H : Heap) (locs : List Loc) (ls : Array Slot) (lv : List (Nat × Value)) (ce sl : Nat), INV A V R → va_P D vwCl (ip ad 128 (pl ad cB cI cJ A V R L)) H → va_S (ipA ad 128) s.heap H locs → lv_has ls 8 ((0, .ref b) :: (1, .ref (ad 0)) :: (2, .ref (ad 82)) :: (3, .ref (ad 127)) :: (4, .int (nI (6 * t))) :: lv) → ce ≤ cells + 1 → sl ≤ slots + 6 → W p l e room_1 s m #[Value.ref b] below meth c H locs ce sl Q (F0 m 1691 ls [])) :
    W p l e room_1 s m #[Value.ref b] below meth c H locs cells slots Q (F0 m 1667 ls []) := by
  obtain ⟨X, hK, hZ, hI, hX, hbl, hbA⟩ := Y
  obtain ⟨hx, hb, hml, hown, hts⟩ := id X
  obtain ⟨fr, lo, post, hM, h1, h2, hp⟩ := sem_image l hlt D cB cI cJ ad hI (L := L) I
  refine lv_aload_n hx hb dL_law_1667 rfl (lv_at hl 1 rfl) ?_
  refine q_wrVv (As := []) (rest := []) hM X hK hP hS hl.1 rfl gL_law_X12_image ydq_12image ⟨by show fr + 1 ≤ 2048; omega, by show 8 + (1 + 11) + lo ≤ 84000; omega⟩ (by decide) (show pl ad cB cI cJ A V R L 0 = .inr (11, poF ad 0 1 (R 0) (116 - R 0) 3 4 7 14 17 (V 0 8) (V 0 9) 24 31 44 46) from rfl) (ci := 11) rfl rfl (Nat.le_of_ble_eq_true rfl) ⟨by show cells ≤ 601024; omega, by show slots ≤ 7293034; omega⟩ dL_law_1668 (fun M1 H1 locs1 hp1 hP hS => ?_)
  obtain ⟨A1, V1, R1, L1, rfl, hL1, fr3, lo3, post3, hM3, h13, h23, hp3⟩ := hp M1 hp1
  refine lv_aload_n hx hb dL_law_1671 rfl (lv_at hl 2 rfl) ?_
  refine q_wrVv (As := []) (rest := []) hM3 X hK hP hS hl.1 rfl gL_law_X13_image ydq_13image ⟨by show fr3 + 1 ≤ 2048; omega, by show 8 + (1 + 11) + lo3 ≤ 84000; omega⟩ (by decide) (show pl ad cB cI cJ A1 V1 R1 L1 82 = .inr (12, modF ad 82 (V1 82)) from rfl) (ci := 12) rfl rfl (Nat.le_of_ble_eq_true rfl) ⟨by show cells ≤ 601024; omega, by show slots ≤ 7293034; omega⟩ dL_law_1672 (fun M3 H3 locs3 hp9 hP hS => ?_)
  obtain ⟨A3, V3, R3, L3, rfl, hL3, I3⟩ := hp3 M3 hp9
  refine lv_goto (tgt := 1691) hx hb dL_law_1675 (by decide) ?_
  exact kk A3 V3 R3 L3 H3 locs3 ls lv cells slots I3 hP hS hl (Nat.le_succ _) (Nat.le_add_right _ _)
end
