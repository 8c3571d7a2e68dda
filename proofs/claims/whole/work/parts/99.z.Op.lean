/-! the law's walk: one case -/
section
variable {p : Program} {l : Launch} {e : Env} {s : State} {m : MethodId} {below : List Frame} {meth : Method} {c : Code} {H : Heap} {locs : List Loc} {cells slots : Nat} {Q : State → Prop} {D : va_G} {cB cI cJ : ClassId} {ad : Nat → Nat} {b Ln : Nat} {xs : Nat → Int32} {ls : Array Slot} {A V : Nat → Nat → Int32} {R : Nat → Nat} {L : Nat → Nat → Int64}
/-- what the law's walk has at hand -/
def LX (p : Program) (s : State) (m : MethodId) (c : Code) (D : va_G) (cB cI cJ : ClassId) (ad : Nat → Nat) (b Ln : Nat) (xs : Nat → Int32) : Prop := CallFix p m c cL_law 8 s #[Value.ref b] wsL_law RL ∧ (vK D cB cI cJ s ∧ sW ad 128 s s.heap) ∧ zN s ∧ ipI ad 128 ∧ va_X b Ln xs s s.heap ∧ b < s.heap.size ∧ ¬ ipA ad 128 b
theorem ydq_12fault : YD yX12_fault 0 := ⟨by decide +kernel, by decide +kernel, by decide +kernel⟩
theorem ydq_13fault : YD yX13_fault 0 := ⟨by decide +kernel, by decide +kernel, by decide +kernel⟩
theorem op_fault (hlt : l.stackTraces = false) (Y : LX p s m c D cB cI cJ ad b Ln xs) (I : INV A V R) (hP : va_P D vwCl (ip ad 128 (pl ad cB cI cJ A V R L)) H) (hS : va_S (ipA ad 128) s.heap H locs) (hcs : cells ≤ 601024 ∧ slots ≤ 7293034) {lv : List (Nat × Value)} (hl : lv_has ls 8 ((0, .ref b) :: (1, .ref (ad 0)) :: (2, .ref (ad 82)) :: (3, .ref (ad 127)) :: lv))
    (kk : ∀ (A V : Nat → Nat → Int32) (R : Nat → Nat) (L : Nat → Nat → Int64) (H : Heap) (locs : List Loc), INV A V R → va_P D vwCl (ip ad 128 (pl ad cB cI cJ A V R L)) H → va_S (ipA ad 128) s.heap H locs → W p l e room_1 s m #[Value.ref b] below meth c H locs cells slots Q (F0 m 1691 ls [])) :
    W p l e room_1 s m #[Value.ref b] below meth c H locs cells slots Q (F0 m 309 ls []) := by
  obtain ⟨X, hK, hZ, hI, hX, hbl, hbA⟩ := Y
  obtain ⟨hx, hb, hml, hown, hts⟩ := id X
  obtain ⟨fr, lo, post, hM, h1, h2, hp⟩ := sem_fault l hlt D cB cI cJ ad hI (L := L) I
  refine lv_aload_n hx hb dL_law_309 rfl (lv_at hl 1 rfl) ?_
  refine q_wrVi (As := []) (rest := []) hM X hK hP hS hl.1 rfl gL_law_X12_fault ydq_12fault ⟨by show fr + 1 ≤ 2048; omega, by show 8 + (1 + 11) + lo ≤ 84000; omega⟩ (by decide) (show pl ad cB cI cJ A V R L 0 = .inr (11, poF ad 0 1 (R 0) (116 - R 0) 3 4 7 14 17 (V 0 8) (V 0 9) 24 31 44 46) from rfl) (ci := 11) rfl rfl (Nat.le_of_ble_eq_true rfl) hcs dL_law_310 (fun r1 M1 H1 locs1 hp1 hP hS => ?_)
  obtain ⟨A1, V1, R1, L1, rfl, hL1, hR⟩ := hp r1 M1 hp1
  obtain ⟨fr3, lo3, post3, hM3, h13, h23, hp3⟩ := hR (L1 127)
  rw [va_up_id _ _ _ rfl] at hM3 hp3
  refine lv_aload_n hx hb dL_law_313 rfl (lv_at hl 2 rfl) ?_
  refine q_wrVi (As := []) (rest := [.int r1]) hM3 X hK hP hS hl.1 rfl gL_law_X13_fault ydq_13fault ⟨by show fr3 + 1 ≤ 2048; omega, by show 8 + (1 + 11) + lo3 ≤ 84000; omega⟩ (by decide) (show pl ad cB cI cJ A1 V1 R1 L1 82 = .inr (12, modF ad 82 (V1 82)) from rfl) (ci := 12) rfl rfl (Nat.le_of_ble_eq_true rfl) hcs dL_law_314 (fun r3 M3 H3 locs3 hp9 hP hS => ?_)
  obtain ⟨A3, V3, R3, L3, rfl, hL3, hk, hr, I3⟩ := hp3 r3 M3 hp9
  refine lv_icmp_eq (tgt := 1691) hx hb dL_law_317 (by decide) (fun _ => ?_) (fun q => absurd (hr rfl).symm q)
  exact kk A3 V3 R3 L3 H3 locs3 I3 hP hS
end
