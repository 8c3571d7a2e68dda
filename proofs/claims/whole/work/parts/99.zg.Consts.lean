/-! the constants outside the pool, as the start has them -/
noncomputable section
theorem of_fun {o n d : String} {v v' : Value} {a : Nat} {A : Nat → Prop} {U : State} {H : Heap} (h : va_OF o n d v a A U H) (h' : va_OF o n d v' a A U H) : v = v' := by
  obtain ⟨cf, k, i, f, cell, a1, a2, a3, a4, a5, a6⟩ := h
  obtain ⟨cf', k', i', f', cell', b1, b2, b3, b4, b5, b6⟩ := h'
  have e1 := Option.some.inj (a1.symm.trans b1)
  simp only [Prod.mk.injEq] at e1
  obtain ⟨-, -, -, rfl⟩ := e1
  obtain rfl := Option.some.inj (a3.symm.trans b3)
  exact Option.some.inj (a5.symm.trans b5)
theorem by_inj : ∀ i : Nat, i < 20 → ∀ j : Nat, j < 20 → wLn.getD i 0 = wLn.getD j 0 → (∀ t : Nat, t < 6 → t < wLn.getD i 0 → (wBy.getD i []).getD t 0 = (wBy.getD j []).getD t 0) → i = j := by decide +kernel
theorem wLn_6 : ∀ i : Nat, i < 20 → wLn.getD i 0 ≤ 6 := by decide +kernel
theorem ct_one {A : Array Value} {s : State} (h : narrow_1.before A s = true) {B : Nat → Prop} (hA : ∀ a : Nat, a < s.heap.size → ¬ B a) (i : Nat) : ∃ q : Nat × Nat, i < 20 → (Term.string "PoundsOver$Word" (wSt.getD i 0)).eval A s none [] s = some (.ref q.1) ∧ va_O "java/lang/String" q.1 B s s.heap ∧ va_OF "java/lang/String" "coder" "B" (.int 0) q.1 B s s.heap ∧ va_OF "java/lang/String" "value" "[B" (.ref q.2) q.1 B s s.heap ∧ va_T .byte q.2 (wLn.getD i 0) (fun j => .int ((wBy.getD i []).getD j 0)) B s s.heap := by
  by_cases hi : i < 20
  · obtain ⟨aK, aV, ⟨h1, -⟩, h3⟩ := vk_Sof (args := A) (s := s) (N := 1) (tm := fun _ => Term.string "PoundsOver$Word" (wSt.getD i 0)) (len := [wLn.getD i 0]) (byt := [wBy.getD i []]) (A := B) (fun k hk => by
      obtain rfl : k = 0 := by omega
      exact Nat.lt_of_le_of_lt (wLn_6 i hi) (by decide)) (fun k hk => ct_ex h i hi) (fun k hk => ct_co h i hi) (fun k hk => ct_ar h i hi) (fun k hk => by
      obtain rfl : k = 0 := by omega
      exact ct_le h i hi) (fun k hk => by
      obtain rfl : k = 0 := by omega
      exact ct_el h i hi) (fun a b ha hb hab => absurd (show a = b by omega) hab) hA
    exact ⟨(aK 0, aV 0), fun _ => ⟨h3 0 (by decide), (h1 0 (by decide)).1, (h1 0 (by decide)).2.1, (h1 0 (by decide)).2.2.1, (h1 0 (by decide)).2.2.2⟩⟩
  · exact ⟨(0, 0), fun q => absurd q hi⟩
theorem ct_all {A : Array Value} {s : State} (h : narrow_1.before A s = true) {B : Nat → Prop} (hA : ∀ a : Nat, a < s.heap.size → ¬ B a) : ∃ t v : Nat → Nat, (∀ i : Nat, i < 20 → (Term.string "PoundsOver$Word" (wSt.getD i 0)).eval A s none [] s = some (.ref (t i))) ∧ vk_S 20 wLn wBy t v B s s.heap := by
  obtain ⟨g, hg⟩ := Classical.axiomOfChoice (ct_one h hA)
  refine ⟨fun i => (g i).1, fun i => (g i).2, fun i hi => (hg i hi).1, fun i hi => (hg i hi).2, fun i j hi hj e => ?_⟩
  obtain ⟨-, -, -, p1, p2⟩ := hg i hi
  obtain ⟨-, -, -, q1, q2⟩ := hg j hj
  have e9 : (g i).1 = (g j).1 := e
  rw [e9] at p1
  have e2 : (g i).2 = (g j).2 := Value.ref.inj (of_fun p1 q1)
  rw [e2] at p2
  obtain ⟨c1, a1, -, -, a4, a5, a6, -⟩ := p2
  obtain ⟨c2, b1, -, -, b4, b5, b6, -⟩ := q2
  obtain rfl := Option.some.inj (a1.symm.trans b1)
  have hln : wLn.getD i 0 = wLn.getD j 0 := (nI_eq (Nat.lt_of_le_of_lt (wLn_6 i hi) (by decide)) (Nat.lt_of_le_of_lt (wLn_6 j hj) (by decide))).mp (a5.symm.trans b5)
  exact by_inj i hi j hj hln (fun t h6 ht => Value.int.inj (Option.some.inj ((a6 t ht).symm.trans (b6 t (by rw [← hln]; exact ht)))))
theorem re_En {E d : String} {nm : List String} {F : List (String × String × String × List Int32)} {w w' : Nat → Nat} {A : Nat → Prop} {U : State} {H : Heap} (h : va_En E d nm F w A U H) (e : ∀ i : Nat, i < nm.length → w' i = w i) : va_En E d nm F w' A U H :=
  ⟨fun i hi => by rw [e i hi]; exact h.1 i hi, fun i j hi hj q => h.2 i j hi hj (by rw [← e i hi, ← e j hj]; exact q)⟩
theorem re_S {N : Nat} {len : List Nat} {byt : List (List Int32)} {t v t' v' : Nat → Nat} {A : Nat → Prop} {U : State} {H : Heap} (h : vk_S N len byt t v A U H) (e : ∀ i : Nat, i < N → t' i = t i ∧ v' i = v i) : vk_S N len byt t' v' A U H :=
  ⟨fun i hi => by rw [(e i hi).1, (e i hi).2]; exact h.1 i hi, fun i j hi hj q => h.2 i j hi hj (by rw [← (e i hi).1, ← (e j hj).1]; exact q)⟩
theorem sH_nar {ad : Nat → Nat} {A B : Nat → Prop} {U : State} {H : Heap} (h : sH ad A U H) (hAB : ∀ q : Nat, B q → A q) : sH ad B U H := by
  obtain ⟨h1, h2, h3, h4, h5, h6, h7, h8, h9⟩ := h
  exact ⟨h1.narrow hAB, h2.narrow hAB, h3.narrow hAB, h4.narrow hAB, h5.narrow hAB, h6.narrow hAB, h7.narrow hAB, h8.narrow hAB, h9.narrow hAB⟩
theorem ar_of {A : Array Value} {s : State} {ty : FieldType} (h : (Cond.arrayClass ty).before A s = true) : ∃ cA : ClassId, ArrOfT s cA ty ∧ s.vm.findClass ("[" ++ ty.toString) = some cA := by
  obtain ⟨cA, kA, comp, h1, h2, h3⟩ := Cond.arrayClass_spec h
  exact ⟨cA, fun n z => ⟨fun k h => (by cases h), kA, h2, comp, h3⟩, h1⟩
set_option maxRecDepth 20000 in
theorem st_vK {A : Array Value} {s : State} (hts : ∀ w ∈ lw_tbl, w.before A s = true) : ∃ (D : va_G) (cB cI cJ : ClassId), vK D cB cI cJ s := by
  obtain ⟨c0, i0, h0⟩ := u_known (C := RX0) (T := TX0) (N := 12) (n := 12) hts lwo_X00 (hts _ (List.mem_append_right (k2_sels lw_privs) (List.mem_of_getElem? (i := 75) (by decide +kernel))))
  obtain ⟨c1, i1, h1⟩ := u_known (C := RX1) (T := TX1) (N := 5) (n := 5) hts lwo_X10 (hts _ (List.mem_append_right (k2_sels lw_privs) (List.mem_of_getElem? (i := 246) (by decide +kernel))))
  obtain ⟨c2, i2, h2⟩ := u_known (C := RX2) (T := TX2) (N := 3) (n := 3) hts lwo_X20 (hts _ (List.mem_append_right (k2_sels lw_privs) (List.mem_of_getElem? (i := 273) (by decide +kernel))))
  obtain ⟨c3, i3, h3⟩ := u_known (C := RX3) (T := TX3) (N := 9) (n := 9) hts lwo_X30 (hts _ (List.mem_append_right (k2_sels lw_privs) (List.mem_of_getElem? (i := 291) (by decide +kernel))))
  obtain ⟨c4, i4, h4⟩ := u_known (C := RX4) (T := TX4) (N := 3) (n := 3) hts lwo_X40 (hts _ (List.mem_append_right (k2_sels lw_privs) (List.mem_of_getElem? (i := 206) (by decide +kernel))))
  obtain ⟨c5, i5, h5⟩ := u_known (C := RX5) (T := TX5) (N := 6) (n := 6) hts lwo_X50 (hts _ (List.mem_append_right (k2_sels lw_privs) (List.mem_of_getElem? (i := 98) (by decide +kernel))))
  obtain ⟨c6, i6, h6⟩ := u_known (C := RX6) (T := TX6) (N := 9) (n := 9) hts lwo_X60 (hts _ (List.mem_append_right (k2_sels lw_privs) (List.mem_of_getElem? (i := 330) (by decide +kernel))))
  obtain ⟨c7, i7, h7⟩ := u_known (C := RX7) (T := TX7) (N := 3) (n := 3) hts lwo_X70 (hts _ (List.mem_append_right (k2_sels lw_privs) (List.mem_of_getElem? (i := 222) (by decide +kernel))))
  obtain ⟨c8, i8, h8⟩ := u_known (C := RX8) (T := TX8) (N := 2) (n := 2) hts lwo_X80 (hts _ (List.mem_append_right (k2_sels lw_privs) (List.mem_of_getElem? (i := 81) (by decide +kernel))))
  obtain ⟨c9, i9, h9⟩ := u_known (C := RX9) (T := TX9) (N := 8) (n := 8) hts lwo_X90 (hts _ (List.mem_append_right (k2_sels lw_privs) (List.mem_of_getElem? (i := 36) (by decide +kernel))))
  obtain ⟨c10, i10, h10⟩ := u_known (C := RX10) (T := TX10) (N := 9) (n := 9) hts lwo_X100 (hts _ (List.mem_append_right (k2_sels lw_privs) (List.mem_of_getElem? (i := 370) (by decide +kernel))))
  obtain ⟨c11, i11, h11⟩ := u_known (C := RX12) (T := TX12) (N := 14) (n := 14) hts lwo_X120 (hts _ (List.mem_append_right (k2_sels lw_privs) (List.mem_of_getElem? (i := 28) (by decide +kernel))))
  obtain ⟨c12, i12, h12⟩ := u_known (C := RX13) (T := TX13) (N := 67) (n := 67) hts lwo_X130 (hts _ (List.mem_append_right (k2_sels lw_privs) (List.mem_of_getElem? (i := 1349) (by decide +kernel))))
  obtain ⟨cB, acB, bcB⟩ := ar_of (ty := .byte) (hts _ (List.mem_append_right (k2_sels lw_privs) (List.mem_of_getElem? (i := 73) (by decide +kernel))))
  obtain ⟨cI, acI, bcI⟩ := ar_of (ty := .int) (hts _ (List.mem_append_right (k2_sels lw_privs) (List.mem_of_getElem? (i := 96) (by decide +kernel))))
  obtain ⟨cJ, acJ, bcJ⟩ := ar_of (ty := .long) (hts _ (List.mem_append_right (k2_sels lw_privs) (List.mem_of_getElem? (i := 368) (by decide +kernel))))
  refine ⟨(fun k => [c0, c1, c2, c3, c4, c5, c6, c7, c8, c9, c10, c11, c12].getD k 0, fun k => [i0, i1, i2, i3, i4, i5, i6, i7, i8, i9, i10, i11, i12].getD k (fun _ => 0)), cB, cI, cJ, ⟨fun c q hq => ?_, fun k q hq => ?_⟩, ?_⟩
  · match c, hq with
    | 0, hq => cases hq; exact h0
    | 1, hq => cases hq; exact h1
    | 2, hq => cases hq; exact h2
    | 3, hq => cases hq; exact h3
    | 4, hq => cases hq; exact h4
    | 5, hq => cases hq; exact h5
    | 6, hq => cases hq; exact h6
    | 7, hq => cases hq; exact h7
    | 8, hq => cases hq; exact h8
    | 9, hq => cases hq; exact h9
    | 10, hq => cases hq; exact h10
    | 11, hq => cases hq; exact h11
    | 12, hq => cases hq; exact h12
    | c + 13, hq => simp [vwCl] at hq
  · match k, hq with
    | 0, hq => cases hq; exact ⟨acB, bcB⟩
    | 1, hq => cases hq; exact ⟨acI, bcI⟩
    | 2, hq => cases hq; exact ⟨acJ, bcJ⟩
    | k + 3, hq => simp [ty3] at hq
  · exact ⟨va_Nw.of rfl (hts _ (List.mem_append_right (k2_sels lw_privs) (List.mem_of_getElem? (i := 232) (by decide +kernel)))), va_Nw.of rfl (hts _ (List.mem_append_right (k2_sels lw_privs) (List.mem_of_getElem? (i := 233) (by decide +kernel)))), va_Nw.of rfl (hts _ (List.mem_append_right (k2_sels lw_privs) (List.mem_of_getElem? (i := 230) (by decide +kernel)))), va_Nw.of rfl (hts _ (List.mem_append_right (k2_sels lw_privs) (List.mem_of_getElem? (i := 231) (by decide +kernel))))⟩
set_option maxRecDepth 20000 in
theorem st_nm {A : Array Value} {s : State} (hts : ∀ w ∈ lw_tbl, w.before A s = true) : ∀ q ∈ sNm, va_Nw (.methodLinkNest q.1 q.2.1 q.2.2 "PoundsOver") s := List.forall_mem_cons.mpr ⟨va_Nw.of rfl (hts _ (List.mem_append_right (k2_sels lw_privs) (List.mem_of_getElem? (i := 37) (by decide +kernel)))), List.forall_mem_cons.mpr ⟨va_Nw.of rfl (hts _ (List.mem_append_right (k2_sels lw_privs) (List.mem_of_getElem? (i := 76) (by decide +kernel)))), List.forall_mem_cons.mpr ⟨va_Nw.of rfl (hts _ (List.mem_append_right (k2_sels lw_privs) (List.mem_of_getElem? (i := 247) (by decide +kernel)))), List.forall_mem_cons.mpr ⟨va_Nw.of rfl (hts _ (List.mem_append_right (k2_sels lw_privs) (List.mem_of_getElem? (i := 274) (by decide +kernel)))), List.forall_mem_cons.mpr ⟨va_Nw.of rfl (hts _ (List.mem_append_right (k2_sels lw_privs) (List.mem_of_getElem? (i := 292) (by decide +kernel)))), List.forall_mem_cons.mpr ⟨va_Nw.of rfl (hts _ (List.mem_append_right (k2_sels lw_privs) (List.mem_of_getElem? (i := 99) (by decide +kernel)))), fun _ hq => absurd hq List.not_mem_nil⟩⟩⟩⟩⟩⟩
theorem st_dc {A : Array Value} {s : State} (hts : ∀ w ∈ lw_tbl, w.before A s = true) : ∀ q ∈ sDc, va_Nw (.declares ⟨q, "<init>", "()V"⟩) s := List.forall_mem_cons.mpr ⟨va_Nw.of rfl (hts _ (List.mem_append_right (k2_sels lw_privs) (List.mem_of_getElem? (i := 706) (by decide +kernel)))), List.forall_mem_cons.mpr ⟨va_Nw.of rfl (hts _ (List.mem_append_right (k2_sels lw_privs) (List.mem_of_getElem? (i := 708) (by decide +kernel)))), List.forall_mem_cons.mpr ⟨va_Nw.of rfl (hts _ (List.mem_append_right (k2_sels lw_privs) (List.mem_of_getElem? (i := 710) (by decide +kernel)))), fun _ hq => absurd hq List.not_mem_nil⟩⟩⟩
theorem st_cs {A : Array Value} {s : State} (hts : ∀ w ∈ lw_tbl, w.before A s = true) : ∀ q ∈ sCs, va_Nw (.castable q q) s := List.forall_mem_cons.mpr ⟨va_Nw.of rfl (hts _ (List.mem_append_right (k2_sels lw_privs) (List.mem_of_getElem? (i := 1018) (by decide +kernel)))), List.forall_mem_cons.mpr ⟨va_Nw.of rfl (hts _ (List.mem_append_right (k2_sels lw_privs) (List.mem_of_getElem? (i := 705) (by decide +kernel)))), fun _ hq => absurd hq List.not_mem_nil⟩⟩
set_option maxRecDepth 20000 in
theorem st_con {A : Array Value} {s : State} (hts : ∀ w ∈ lw_tbl, w.before A s = true) (h : narrow_1.before A s = true) {B : Nat → Prop} (hA : ∀ a : Nat, a < s.heap.size → ¬ B a) : ∃ (w t v : Nat → Nat) (c4 c5 : Nat), ∀ ad : Nat → Nat, (∀ i : Nat, i < 20 → ad (1000 + i) = w i ∧ ad (2000 + i) = t i ∧ ad (3000 + i) = v i) → ad 4000 = c4 → ad 5000 = c5 → sH ad B s s.heap ∧ sV ad s := by
  obtain ⟨w, hE, hw⟩ := va_Enof2 (F := wFl) (cs_lay hts) (hts _ (List.mem_append_right (k2_sels lw_privs) (List.mem_of_getElem? (i := 4) (by decide +kernel)))) (cs_ex h) (List.forall_mem_cons.mpr ⟨cs_or h, List.forall_mem_cons.mpr ⟨cs_kd h, List.forall_mem_cons.mpr ⟨cs_vl h, fun _ hq => absurd hq List.not_mem_nil⟩⟩⟩) (cs_d h) hA
  obtain ⟨t, v, ht, hT⟩ := ct_all h hA
  obtain ⟨c4, h4, hT4⟩ := va_Tof (f := fun j => .ref (w j)) (by decide) (cw_ar h) (va_eqt (cw_le h)) (fun j hj => va_eqv (cw_el h j hj) (hw j hj)) hA
  obtain ⟨comp, c5, kA, g1, g2, g3, g4, g5⟩ := Cond.arrayOver_spec (n := "java/lang/String") (hts _ (List.mem_append_right (k2_sels lw_privs) (List.mem_of_getElem? (i := 1355) (by decide +kernel))))
  refine ⟨w, t, v, c4, c5, fun ad ha e4 e5 => ⟨⟨re_En hE (fun i hi => (ha i hi).1), ?_, re_S hT (fun i hi => (ha i hi).2), ?_, ?_, ?_, ?_, ?_, ?_⟩, ?_, st_nm hts, st_dc hts, st_cs hts, fun q hq => ?_, ?_, ?_⟩⟩
  · intro i hi
    have e := va_Efof (N := 20) (d0 := "LPoundsOver$Word;") (nm := wNm) (v := fun i => .ref (t i)) (fun i hi => hw i hi) (fun i hi => cs_lt h i hi) (fun i hi => ht i hi) hA i hi
    show va_OF _ _ _ (.ref (ad (2000 + i))) (ad (1000 + i)) B s s.heap
    rw [(ha i hi).1, (ha i hi).2.1]
    exact e
  · rw [e4]
    exact va_Zref (hts _ (List.mem_append_right (k2_sels lw_privs) (List.mem_of_getElem? (i := 800) (by decide +kernel)))) (hts _ (List.mem_append_right (k2_sels lw_privs) (List.mem_of_getElem? (i := 1) (by decide +kernel)))) h4 hA
  · rw [e4]
    obtain ⟨cell, k1, k2, k3, k4, k5, k6, k7⟩ := hT4
    refine ⟨cell, k1, k2, k3, k4, k5, fun j hj => ?_, k7⟩
    show cell.slots[j]? = some (.ref (ad (1000 + j)))
    rw [(ha j hj).1]
    exact k6 j hj
  · exact va_Zof (hts _ (List.mem_append_right (k2_sels lw_privs) (List.mem_of_getElem? (i := 810) (by decide +kernel)))) (hts _ (List.mem_append_right (k2_sels lw_privs) (List.mem_of_getElem? (i := 21) (by decide +kernel)))) (va_eqt (co_cs h)) hA
  · exact va_Zqof (hts _ (List.mem_append_right (k2_sels lw_privs) (List.mem_of_getElem? (i := 826) (by decide +kernel)))) (hts _ (List.mem_append_right (k2_sels lw_privs) (List.mem_of_getElem? (i := 23) (by decide +kernel)))) (co_pf h) hA
  · exact vx_Zqof (hts _ (List.mem_append_right (k2_sels lw_privs) (List.mem_of_getElem? (i := 730) (by decide +kernel)))) (hts _ (List.mem_append_right (k2_sels lw_privs) (List.mem_of_getElem? (i := 17) (by decide +kernel)))) (co_us h) hA
  · exact vx_Zqof (hts _ (List.mem_append_right (k2_sels lw_privs) (List.mem_of_getElem? (i := 732) (by decide +kernel)))) (hts _ (List.mem_append_right (k2_sels lw_privs) (List.mem_of_getElem? (i := 17) (by decide +kernel)))) (co_ss h) hA
  · exact va_Nw.of rfl (hts _ (List.mem_append_right (k2_sels lw_privs) (List.mem_of_getElem? (i := 799) (by decide +kernel))))
  · obtain ⟨m1, m2, m3⟩ := cm_all hts h q hq
    rw [(ha q.2.2 m3).2.1]
    exact vk_R.of m1 (va_eqv m2 (ht q.2.2 m3))
  · rw [e5]
    exact fun n z => ⟨fun k h => (by cases h), kA, g3, comp, g4⟩
  · rw [e5]
    exact ⟨kA, comp, g3, g4, g1, g5⟩
end
