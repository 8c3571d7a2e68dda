noncomputable section
/-! PoundsOver$Reader: what a line does, in short -/
theorem fkN_0 (en : Nat) (bf : Nat → Int32) (x : Nat) : ¬ fkN en bf x = 0 := by
  unfold fkN
  split <;> decide
theorem fkT_0 (en x : Nat) (bf : Nat → Int32) : ¬ fkT en x bf = 0 := by
  unfold fkT
  split
  · exact fkN_0 _ _ _
  · decide
theorem lfPerson (en x : Nat) (ft : Int32) (bf hv : Nat → Int32) : (¬ s_X4_readPerson en x bf hv = 0 → s_X4_readPerson_1_2 en x ft bf hv = ft) ∧ (s_X4_readPerson en x bf hv = 0 → ¬ s_X4_readPerson_1_2 en x ft bf hv = 0) := by
  have := fkN_0 en bf
  unfold s_X4_readPerson s_X4_readPerson_1_2
  grind
theorem lfCase (en x : Nat) (ft : Int32) (bf hv : Nat → Int32) : (¬ s_X4_readCase en x bf hv = 0 → s_X4_readCase_1_2 en x ft bf hv = ft) ∧ (s_X4_readCase en x bf hv = 0 → ¬ s_X4_readCase_1_2 en x ft bf hv = 0) := by
  have := fkN_0 en bf
  have := fkT_0 en
  unfold s_X4_readCase s_X4_readCase_1_2
  grind
theorem lfThing (en x : Nat) (ft : Int32) (bf hv : Nat → Int32) (nt : Nat) (cf tf : Nat → Int32) (z : Int32) : (¬ s_X4_readThing en x bf hv nt cf tf z = 0 → s_X4_readThing_1_2 en x ft bf hv nt cf tf z = ft) ∧ (s_X4_readThing en x bf hv nt cf tf z = 0 → ¬ s_X4_readThing_1_2 en x ft bf hv nt cf tf z = 0) := by
  have := fkN_0 en bf
  have := fkT_0 en
  unfold s_X4_readThing s_X4_readThing_1_2
  grind
theorem lfPost (en x : Nat) (ft : Int32) (bf hv qf : Nat → Int32) : (¬ s_X4_readPost en x bf hv qf = 0 → s_X4_readPost_1_2 en x ft bf hv qf = ft) ∧ (s_X4_readPost en x bf hv qf = 0 → ¬ s_X4_readPost_1_2 en x ft bf hv qf = 0) := by
  have := fkN_0 en bf
  unfold s_X4_readPost s_X4_readPost_1_2
  grind
theorem lfLooks (en x : Nat) (ft : Int32) (bf hv : Nat → Int32) : (¬ s_X4_readLooks en x bf hv = 0 → s_X4_readLooks_1_2 en x ft bf hv = ft) ∧ (s_X4_readLooks en x bf hv = 0 → ¬ s_X4_readLooks_1_2 en x ft bf hv = 0) := by
  have := fkN_0 en bf
  unfold s_X4_readLooks s_X4_readLooks_1_2
  grind
theorem lfFee (en x : Nat) (ft : Int32) (bf : Nat → Int32) (td : Int32) (cs : List Int32) : (¬ s_X4_readFee en x bf td cs = 0 → s_X4_readFee_1_2 en x ft bf td cs = ft) ∧ (s_X4_readFee en x bf td cs = 0 → ¬ s_X4_readFee_1_2 en x ft bf td cs = 0) := by
  unfold s_X4_readFee s_X4_readFee_1_2
  split
  · exact ⟨fun h => flt_0 (okI_o h), fun h => by rw [flt_1 (okI_z h)]; exact okI_z h⟩
  · exact ⟨fun h => absurd rfl h, fun _ => by decide⟩
theorem lfLine (en x : Nat) (ft : Int32) (bf hv : Nat → Int32) (nt : Nat) (cf tf qf : Nat → Int32) (td : Int32) (cs : List Int32) : (¬ s_X4_readLine en x bf hv nt cf tf qf td cs = 0 → s_X4_readLine_1_2 en x ft bf hv nt cf tf qf td cs = ft) ∧ (s_X4_readLine en x bf hv nt cf tf qf td cs = 0 → ¬ s_X4_readLine_1_2 en x ft bf hv nt cf tf qf td cs = 0) := by
  unfold s_X4_readLine s_X4_readLine_1_2
  (repeat' split) <;> first | exact lfPerson _ _ _ _ _ | exact lfCase _ _ _ _ _ | exact lfThing _ _ _ _ _ _ _ _ _ | exact lfPost _ _ _ _ _ _ | exact lfLooks _ _ _ _ _ | exact lfFee _ _ _ _ _ _ | exact ⟨fun h => absurd rfl h, fun _ => by decide⟩
/-- the code behind a line -/
def lCs (en x : Nat) (bf : Nat → Int32) (td : Int32) (cs : List Int32) : List Int32 := if wX en bf x = 12 then (if td = 0 then (eE en bf 6 (nX en bf x) cs).2.2 else cs) else cs
theorem lCs_len (en x : Nat) (bf : Nat → Int32) (td : Int32) (cs : List Int32) : s_X4_readLine_7_1 en x bf td cs = nI (lCs en x bf td cs).length := by
  unfold s_X4_readLine_7_1 lCs s_X4_readFee_2_1
  by_cases h : wX en bf x = 12
  · rw [h]; simp only [wKd, List.getD, List.getElem?_cons_succ, List.getElem?_cons_zero, Option.getD]; (repeat' split) <;> first | rfl | (rename_i q; exact absurd q (by decide)) | contradiction
  · rw [if_neg h, if_neg h]; (repeat' split) <;> rfl
theorem lCs_lay (en x : Nat) (bf : Nat → Int32) (td : Int32) (c0 : Nat → Int32) (cs : List Int32) : s_X4_readLine_8_f en x bf td c0 cs = layC (lCs en x bf td cs) c0 := by
  unfold s_X4_readLine_8_f lCs s_X4_readFee_3_f
  by_cases h : wX en bf x = 12
  · rw [h]; simp only [wKd, List.getD, List.getElem?_cons_succ, List.getElem?_cons_zero, Option.getD]; (repeat' split) <;> first | rfl | (rename_i q; exact absurd q (by decide)) | contradiction
  · rw [if_neg h, if_neg h]; (repeat' split) <;> rfl
theorem lx_p {en x : Nat} {bf : Nat → Int32} (hv : Nat → Int32) (hx : x ≤ en) (he : en ≤ 700) : x ≤ s_X4_readPerson_0_4 en x bf hv ∧ s_X4_readPerson_0_4 en x bf hv ≤ en := by
  have a1 : x ≤ nX en bf x ∧ nX en bf x ≤ en := ⟨nX_ge hx he, nX_le hx he⟩
  have a2 : nX en bf (x) ≤ nX en bf (nX en bf (x)) ∧ nX en bf (nX en bf (x)) ≤ en := ⟨nX_ge a1.2 he, nX_le a1.2 he⟩
  have a3 : nX en bf (nX en bf (x)) ≤ nX en bf (nX en bf (nX en bf (x))) ∧ nX en bf (nX en bf (nX en bf (x))) ≤ en := ⟨nX_ge a2.2 he, nX_le a2.2 he⟩
  have a4 : nX en bf (nX en bf (nX en bf (x))) ≤ nX en bf (nX en bf (nX en bf (nX en bf (x)))) ∧ nX en bf (nX en bf (nX en bf (nX en bf (x)))) ≤ en := ⟨nX_ge a3.2 he, nX_le a3.2 he⟩
  have a5 : nX en bf (nX en bf (nX en bf (nX en bf (x)))) ≤ nX en bf (nX en bf (nX en bf (nX en bf (nX en bf (x))))) ∧ nX en bf (nX en bf (nX en bf (nX en bf (nX en bf (x))))) ≤ en := ⟨nX_ge a4.2 he, nX_le a4.2 he⟩
  have a6 : nX en bf (nX en bf (nX en bf (nX en bf (nX en bf (x))))) ≤ nX en bf (nX en bf (nX en bf (nX en bf (nX en bf (nX en bf (x)))))) ∧ nX en bf (nX en bf (nX en bf (nX en bf (nX en bf (nX en bf (x)))))) ≤ en := ⟨nX_ge a5.2 he, nX_le a5.2 he⟩
  have a7 : nX en bf (nX en bf (nX en bf (nX en bf (nX en bf (nX en bf (x)))))) ≤ nX en bf (nX en bf (nX en bf (nX en bf (nX en bf (nX en bf (nX en bf (x))))))) ∧ nX en bf (nX en bf (nX en bf (nX en bf (nX en bf (nX en bf (nX en bf (x))))))) ≤ en := ⟨nX_ge a6.2 he, nX_le a6.2 he⟩
  have a8 : nX en bf (nX en bf (nX en bf (nX en bf (nX en bf (nX en bf (nX en bf (x))))))) ≤ nX en bf (nX en bf (nX en bf (nX en bf (nX en bf (nX en bf (nX en bf (nX en bf (x)))))))) ∧ nX en bf (nX en bf (nX en bf (nX en bf (nX en bf (nX en bf (nX en bf (nX en bf (x)))))))) ≤ en := ⟨nX_ge a7.2 he, nX_le a7.2 he⟩
  have a9 : nX en bf (nX en bf (nX en bf (nX en bf (nX en bf (nX en bf (nX en bf (nX en bf (x)))))))) ≤ nX en bf (nX en bf (nX en bf (nX en bf (nX en bf (nX en bf (nX en bf (nX en bf (nX en bf (x))))))))) ∧ nX en bf (nX en bf (nX en bf (nX en bf (nX en bf (nX en bf (nX en bf (nX en bf (nX en bf (x))))))))) ≤ en := ⟨nX_ge a8.2 he, nX_le a8.2 he⟩
  unfold s_X4_readPerson_0_4
  (repeat' split) <;> omega
theorem lx_c {en x : Nat} {bf : Nat → Int32} (hv : Nat → Int32) (hx : x ≤ en) (he : en ≤ 700) : x ≤ s_X4_readCase_0_4 en x bf hv ∧ s_X4_readCase_0_4 en x bf hv ≤ en := by
  have a1 : x ≤ nX en bf x ∧ nX en bf x ≤ en := ⟨nX_ge hx he, nX_le hx he⟩
  have a2 : nX en bf (x) ≤ nX en bf (nX en bf (x)) ∧ nX en bf (nX en bf (x)) ≤ en := ⟨nX_ge a1.2 he, nX_le a1.2 he⟩
  have a3 : nX en bf (nX en bf (x)) ≤ nX en bf (nX en bf (nX en bf (x))) ∧ nX en bf (nX en bf (nX en bf (x))) ≤ en := ⟨nX_ge a2.2 he, nX_le a2.2 he⟩
  have a4 : nX en bf (nX en bf (nX en bf (x))) ≤ nX en bf (nX en bf (nX en bf (nX en bf (x)))) ∧ nX en bf (nX en bf (nX en bf (nX en bf (x)))) ≤ en := ⟨nX_ge a3.2 he, nX_le a3.2 he⟩
  have a5 : nX en bf (nX en bf (nX en bf (nX en bf (x)))) ≤ nX en bf (nX en bf (nX en bf (nX en bf (nX en bf (x))))) ∧ nX en bf (nX en bf (nX en bf (nX en bf (nX en bf (x))))) ≤ en := ⟨nX_ge a4.2 he, nX_le a4.2 he⟩
  have a6 : nX en bf (nX en bf (nX en bf (nX en bf (nX en bf (x))))) ≤ nX en bf (nX en bf (nX en bf (nX en bf (nX en bf (nX en bf (x)))))) ∧ nX en bf (nX en bf (nX en bf (nX en bf (nX en bf (nX en bf (x)))))) ≤ en := ⟨nX_ge a5.2 he, nX_le a5.2 he⟩
  have a7 : nX en bf (nX en bf (nX en bf (nX en bf (nX en bf (nX en bf (x)))))) ≤ nX en bf (nX en bf (nX en bf (nX en bf (nX en bf (nX en bf (nX en bf (x))))))) ∧ nX en bf (nX en bf (nX en bf (nX en bf (nX en bf (nX en bf (nX en bf (x))))))) ≤ en := ⟨nX_ge a6.2 he, nX_le a6.2 he⟩
  have a8 : nX en bf (nX en bf (nX en bf (nX en bf (nX en bf (nX en bf (nX en bf (x))))))) ≤ nX en bf (nX en bf (nX en bf (nX en bf (nX en bf (nX en bf (nX en bf (nX en bf (x)))))))) ∧ nX en bf (nX en bf (nX en bf (nX en bf (nX en bf (nX en bf (nX en bf (nX en bf (x)))))))) ≤ en := ⟨nX_ge a7.2 he, nX_le a7.2 he⟩
  have a9 : nX en bf (nX en bf (nX en bf (nX en bf (nX en bf (nX en bf (nX en bf (nX en bf (x)))))))) ≤ nX en bf (nX en bf (nX en bf (nX en bf (nX en bf (nX en bf (nX en bf (nX en bf (nX en bf (x))))))))) ∧ nX en bf (nX en bf (nX en bf (nX en bf (nX en bf (nX en bf (nX en bf (nX en bf (nX en bf (x))))))))) ≤ en := ⟨nX_ge a8.2 he, nX_le a8.2 he⟩
  unfold s_X4_readCase_0_4
  (repeat' split) <;> omega
theorem lx_t {en x : Nat} {bf : Nat → Int32} (hv : Nat → Int32) (nt : Nat) (cf tf : Nat → Int32) (z : Int32) (hx : x ≤ en) (he : en ≤ 700) : x ≤ s_X4_readThing_0_4 en x bf hv nt cf tf z ∧ s_X4_readThing_0_4 en x bf hv nt cf tf z ≤ en := by
  have a1 : x ≤ nX en bf x ∧ nX en bf x ≤ en := ⟨nX_ge hx he, nX_le hx he⟩
  have a2 : nX en bf (x) ≤ nX en bf (nX en bf (x)) ∧ nX en bf (nX en bf (x)) ≤ en := ⟨nX_ge a1.2 he, nX_le a1.2 he⟩
  have a3 : nX en bf (nX en bf (x)) ≤ nX en bf (nX en bf (nX en bf (x))) ∧ nX en bf (nX en bf (nX en bf (x))) ≤ en := ⟨nX_ge a2.2 he, nX_le a2.2 he⟩
  have a4 : nX en bf (nX en bf (nX en bf (x))) ≤ nX en bf (nX en bf (nX en bf (nX en bf (x)))) ∧ nX en bf (nX en bf (nX en bf (nX en bf (x)))) ≤ en := ⟨nX_ge a3.2 he, nX_le a3.2 he⟩
  have a5 : nX en bf (nX en bf (nX en bf (nX en bf (x)))) ≤ nX en bf (nX en bf (nX en bf (nX en bf (nX en bf (x))))) ∧ nX en bf (nX en bf (nX en bf (nX en bf (nX en bf (x))))) ≤ en := ⟨nX_ge a4.2 he, nX_le a4.2 he⟩
  have a6 : nX en bf (nX en bf (nX en bf (nX en bf (nX en bf (x))))) ≤ nX en bf (nX en bf (nX en bf (nX en bf (nX en bf (nX en bf (x)))))) ∧ nX en bf (nX en bf (nX en bf (nX en bf (nX en bf (nX en bf (x)))))) ≤ en := ⟨nX_ge a5.2 he, nX_le a5.2 he⟩
  have a7 : nX en bf (nX en bf (nX en bf (nX en bf (nX en bf (nX en bf (x)))))) ≤ nX en bf (nX en bf (nX en bf (nX en bf (nX en bf (nX en bf (nX en bf (x))))))) ∧ nX en bf (nX en bf (nX en bf (nX en bf (nX en bf (nX en bf (nX en bf (x))))))) ≤ en := ⟨nX_ge a6.2 he, nX_le a6.2 he⟩
  have a8 : nX en bf (nX en bf (nX en bf (nX en bf (nX en bf (nX en bf (nX en bf (x))))))) ≤ nX en bf (nX en bf (nX en bf (nX en bf (nX en bf (nX en bf (nX en bf (nX en bf (x)))))))) ∧ nX en bf (nX en bf (nX en bf (nX en bf (nX en bf (nX en bf (nX en bf (nX en bf (x)))))))) ≤ en := ⟨nX_ge a7.2 he, nX_le a7.2 he⟩
  have a9 : nX en bf (nX en bf (nX en bf (nX en bf (nX en bf (nX en bf (nX en bf (nX en bf (x)))))))) ≤ nX en bf (nX en bf (nX en bf (nX en bf (nX en bf (nX en bf (nX en bf (nX en bf (nX en bf (x))))))))) ∧ nX en bf (nX en bf (nX en bf (nX en bf (nX en bf (nX en bf (nX en bf (nX en bf (nX en bf (x))))))))) ≤ en := ⟨nX_ge a8.2 he, nX_le a8.2 he⟩
  unfold s_X4_readThing_0_4
  (repeat' split) <;> omega
theorem lx_q {en x : Nat} {bf : Nat → Int32} (hv qf : Nat → Int32) (hx : x ≤ en) (he : en ≤ 700) : x ≤ s_X4_readPost_0_4 en x bf hv qf ∧ s_X4_readPost_0_4 en x bf hv qf ≤ en := by
  have a1 : x ≤ nX en bf x ∧ nX en bf x ≤ en := ⟨nX_ge hx he, nX_le hx he⟩
  have a2 : nX en bf (x) ≤ nX en bf (nX en bf (x)) ∧ nX en bf (nX en bf (x)) ≤ en := ⟨nX_ge a1.2 he, nX_le a1.2 he⟩
  have a3 : nX en bf (nX en bf (x)) ≤ nX en bf (nX en bf (nX en bf (x))) ∧ nX en bf (nX en bf (nX en bf (x))) ≤ en := ⟨nX_ge a2.2 he, nX_le a2.2 he⟩
  have a4 : nX en bf (nX en bf (nX en bf (x))) ≤ nX en bf (nX en bf (nX en bf (nX en bf (x)))) ∧ nX en bf (nX en bf (nX en bf (nX en bf (x)))) ≤ en := ⟨nX_ge a3.2 he, nX_le a3.2 he⟩
  have a5 : nX en bf (nX en bf (nX en bf (nX en bf (x)))) ≤ nX en bf (nX en bf (nX en bf (nX en bf (nX en bf (x))))) ∧ nX en bf (nX en bf (nX en bf (nX en bf (nX en bf (x))))) ≤ en := ⟨nX_ge a4.2 he, nX_le a4.2 he⟩
  have a6 : nX en bf (nX en bf (nX en bf (nX en bf (nX en bf (x))))) ≤ nX en bf (nX en bf (nX en bf (nX en bf (nX en bf (nX en bf (x)))))) ∧ nX en bf (nX en bf (nX en bf (nX en bf (nX en bf (nX en bf (x)))))) ≤ en := ⟨nX_ge a5.2 he, nX_le a5.2 he⟩
  have a7 : nX en bf (nX en bf (nX en bf (nX en bf (nX en bf (nX en bf (x)))))) ≤ nX en bf (nX en bf (nX en bf (nX en bf (nX en bf (nX en bf (nX en bf (x))))))) ∧ nX en bf (nX en bf (nX en bf (nX en bf (nX en bf (nX en bf (nX en bf (x))))))) ≤ en := ⟨nX_ge a6.2 he, nX_le a6.2 he⟩
  have a8 : nX en bf (nX en bf (nX en bf (nX en bf (nX en bf (nX en bf (nX en bf (x))))))) ≤ nX en bf (nX en bf (nX en bf (nX en bf (nX en bf (nX en bf (nX en bf (nX en bf (x)))))))) ∧ nX en bf (nX en bf (nX en bf (nX en bf (nX en bf (nX en bf (nX en bf (nX en bf (x)))))))) ≤ en := ⟨nX_ge a7.2 he, nX_le a7.2 he⟩
  have a9 : nX en bf (nX en bf (nX en bf (nX en bf (nX en bf (nX en bf (nX en bf (nX en bf (x)))))))) ≤ nX en bf (nX en bf (nX en bf (nX en bf (nX en bf (nX en bf (nX en bf (nX en bf (nX en bf (x))))))))) ∧ nX en bf (nX en bf (nX en bf (nX en bf (nX en bf (nX en bf (nX en bf (nX en bf (nX en bf (x))))))))) ≤ en := ⟨nX_ge a8.2 he, nX_le a8.2 he⟩
  unfold s_X4_readPost_0_4
  (repeat' split) <;> omega
theorem lx_l {en x : Nat} {bf : Nat → Int32} (hv : Nat → Int32) (hx : x ≤ en) (he : en ≤ 700) : x ≤ s_X4_readLooks_0_4 en x bf hv ∧ s_X4_readLooks_0_4 en x bf hv ≤ en := by
  have a1 : x ≤ nX en bf x ∧ nX en bf x ≤ en := ⟨nX_ge hx he, nX_le hx he⟩
  have a2 : nX en bf (x) ≤ nX en bf (nX en bf (x)) ∧ nX en bf (nX en bf (x)) ≤ en := ⟨nX_ge a1.2 he, nX_le a1.2 he⟩
  have a3 : nX en bf (nX en bf (x)) ≤ nX en bf (nX en bf (nX en bf (x))) ∧ nX en bf (nX en bf (nX en bf (x))) ≤ en := ⟨nX_ge a2.2 he, nX_le a2.2 he⟩
  have a4 : nX en bf (nX en bf (nX en bf (x))) ≤ nX en bf (nX en bf (nX en bf (nX en bf (x)))) ∧ nX en bf (nX en bf (nX en bf (nX en bf (x)))) ≤ en := ⟨nX_ge a3.2 he, nX_le a3.2 he⟩
  have a5 : nX en bf (nX en bf (nX en bf (nX en bf (x)))) ≤ nX en bf (nX en bf (nX en bf (nX en bf (nX en bf (x))))) ∧ nX en bf (nX en bf (nX en bf (nX en bf (nX en bf (x))))) ≤ en := ⟨nX_ge a4.2 he, nX_le a4.2 he⟩
  have a6 : nX en bf (nX en bf (nX en bf (nX en bf (nX en bf (x))))) ≤ nX en bf (nX en bf (nX en bf (nX en bf (nX en bf (nX en bf (x)))))) ∧ nX en bf (nX en bf (nX en bf (nX en bf (nX en bf (nX en bf (x)))))) ≤ en := ⟨nX_ge a5.2 he, nX_le a5.2 he⟩
  have a7 : nX en bf (nX en bf (nX en bf (nX en bf (nX en bf (nX en bf (x)))))) ≤ nX en bf (nX en bf (nX en bf (nX en bf (nX en bf (nX en bf (nX en bf (x))))))) ∧ nX en bf (nX en bf (nX en bf (nX en bf (nX en bf (nX en bf (nX en bf (x))))))) ≤ en := ⟨nX_ge a6.2 he, nX_le a6.2 he⟩
  have a8 : nX en bf (nX en bf (nX en bf (nX en bf (nX en bf (nX en bf (nX en bf (x))))))) ≤ nX en bf (nX en bf (nX en bf (nX en bf (nX en bf (nX en bf (nX en bf (nX en bf (x)))))))) ∧ nX en bf (nX en bf (nX en bf (nX en bf (nX en bf (nX en bf (nX en bf (nX en bf (x)))))))) ≤ en := ⟨nX_ge a7.2 he, nX_le a7.2 he⟩
  have a9 : nX en bf (nX en bf (nX en bf (nX en bf (nX en bf (nX en bf (nX en bf (nX en bf (x)))))))) ≤ nX en bf (nX en bf (nX en bf (nX en bf (nX en bf (nX en bf (nX en bf (nX en bf (nX en bf (x))))))))) ∧ nX en bf (nX en bf (nX en bf (nX en bf (nX en bf (nX en bf (nX en bf (nX en bf (nX en bf (x))))))))) ≤ en := ⟨nX_ge a8.2 he, nX_le a8.2 he⟩
  unfold s_X4_readLooks_0_4
  (repeat' split) <;> omega
theorem lxLine {en x : Nat} {bf : Nat → Int32} (hv : Nat → Int32) (nt : Nat) (cf tf qf : Nat → Int32) (td : Int32) (cs : List Int32) (hx : x ≤ en) (he : en ≤ 700) (hc : cs.length ≤ x) : s_X4_readLine_0_4 en x bf hv nt cf tf qf td cs ≤ en ∧ (lCs en x bf td cs).length ≤ s_X4_readLine_0_4 en x bf hv nt cf tf qf td cs := by
  have a1 : x ≤ nX en bf x ∧ nX en bf x ≤ en := ⟨nX_ge hx he, nX_le hx he⟩
  have b1 := lx_p (bf := bf) hv hx he
  have b2 := lx_c (bf := bf) hv hx he
  have b3 := lx_t (bf := bf) hv nt cf tf (wKd.getD (wX en bf x) 0) hx he
  have b4 := lx_q (bf := bf) hv qf hx he
  have b5 := lx_l (bf := bf) hv hx he
  have b6 := eE_B (bf := bf) he 6 (nX en bf x) cs a1.2
  unfold s_X4_readLine_0_4 lCs s_X4_readFee_0_4
  by_cases h : wX en bf x = 12
  · rw [h]; simp only [wKd, List.getD, List.getElem?_cons_succ, List.getElem?_cons_zero, Option.getD]; (repeat' split) <;> first | omega | (rename_i q; exact absurd q (by decide)) | contradiction
  · simp only [if_neg h]; (repeat' split) <;> omega
def h7P (f : Nat → Int32) : Prop := ∃ k : Nat, k ≤ 12 ∧ f 7 = nI k
theorem lhLine {en x : Nat} {bf hv : Nat → Int32} {nt : Nat} (cf tf qf : Nat → Int32) (h7 : hv 7 = nI nt) (hnt : nt ≤ 12) : h7P (s_X4_readLine_2_1 en x bf hv nt cf tf qf) := by
  have e0 : ∀ f : Nat → Int32, f 7 = hv 7 → h7P f := fun f h => ⟨nt, hnt, by rw [h]; exact h7⟩
  have e1 : hv 7 < 12 → h7P (upd hv 7 (hv 7 + 1)) := fun h => ⟨nt + 1, by rw [h7] at h; have := (nI_ltI (a := nt) (b := 12) (by omega) (by decide)).mp h; omega, by show hv 7 + 1 = _; rw [h7]; exact nI_1 _⟩
  unfold s_X4_readLine_2_1 s_X4_readPerson_2_1 s_X4_readCase_2_1 s_X4_readThing_2_1 s_X4_readPost_2_1 s_X4_readLooks_2_1
  (repeat' split) <;> first | exact e0 _ rfl | exact e1 (by assumption)
theorem lhLine' {en x : Nat} {bf hv : Nat → Int32} {nt : Nat} (cf tf qf : Nat → Int32) (h7 : hv 7 = nI nt) (hnt : nt ≤ 12) : s_X4_readLine_2_1 en x bf hv nt cf tf qf 7 = nI (s_X4_readLine_2_1 en x bf hv nt cf tf qf 7).toNatClampNeg ∧ (s_X4_readLine_2_1 en x bf hv nt cf tf qf 7).toNatClampNeg ≤ 12 := by
  obtain ⟨k, hk, e⟩ := lhLine (en := en) (x := x) (bf := bf) cf tf qf h7 hnt
  rw [e, nI_clamp (by omega)]
  exact ⟨rfl, hk⟩
abbrev RS : Type := Int32 × Nat × (Nat → Int32) × Int32 × List Int32 × (Nat → Int32) × (Nat → Int32) × (Nat → Int32) × (Nat → Int32)
def rlStep (en : Nat) (bf : Nat → Int32) : RS → RS
  | (f, x, hv, td, cs, pf, cf, tf, qf) =>
    (if s_X4_readLine en x bf hv (hv 7).toNatClampNeg cf tf qf td cs = 0 then s_X4_readLine_1_2 en x f bf hv (hv 7).toNatClampNeg cf tf qf td cs else if s_X4_takeLineEnd en (s_X4_readLine_0_4 en x bf hv (hv 7).toNatClampNeg cf tf qf td cs) bf = 0 then 1 else s_X4_readLine_1_2 en x f bf hv (hv 7).toNatClampNeg cf tf qf td cs,
     if s_X4_readLine en x bf hv (hv 7).toNatClampNeg cf tf qf td cs = 0 then s_X4_readLine_0_4 en x bf hv (hv 7).toNatClampNeg cf tf qf td cs else if s_X4_takeLineEnd en (s_X4_readLine_0_4 en x bf hv (hv 7).toNatClampNeg cf tf qf td cs) bf = 0 then s_X4_readLine_0_4 en x bf hv (hv 7).toNatClampNeg cf tf qf td cs else nX en bf (s_X4_readLine_0_4 en x bf hv (hv 7).toNatClampNeg cf tf qf td cs),
     s_X4_readLine_2_1 en x bf hv (hv 7).toNatClampNeg cf tf qf, s_X4_readLine_7_2 en x bf td, lCs en x bf td cs, s_X4_readLine_3_f en x bf hv pf, s_X4_readLine_4_f en x bf hv cf, s_X4_readLine_5_f en x bf hv (hv 7).toNatClampNeg cf tf, s_X4_readLine_6_f en x bf hv qf)
def rlS (en : Nat) (bf : Nat → Int32) : Nat → RS → RS
  | 0, s => s
  | k + 1, s => if s.1 = 0 then (if kX en bf s.2.1 = 0 then s else rlS en bf k (rlStep en bf s)) else s
theorem rlS_bad {en : Nat} {bf : Nat → Int32} {s : RS} (h : ¬ s.1 = 0) : ∀ k : Nat, rlS en bf k s = s
  | 0 => rfl
  | k + 1 => by rw [rlS, if_neg h]
theorem rlS_end {en : Nat} {bf : Nat → Int32} {s : RS} (h : kX en bf s.2.1 = 0) : ∀ k : Nat, rlS en bf k s = s
  | 0 => rfl
  | k + 1 => by rw [rlS, if_pos h, ite_self]
theorem rlS_on {en : Nat} {bf : Nat → Int32} {s : RS} (h0 : s.1 = 0) (h : ¬ kX en bf s.2.1 = 0) (k : Nat) : rlS en bf (k + 1) s = rlS en bf k (rlStep en bf s) := by rw [rlS, if_pos h0, if_neg h]
/-- a text that is read -/
def rdR (en : Nat) (bf pf cf tf qf : Nat → Int32) : RS := rlS en bf 700 (0, 0, fun _ => 0, 0, [], pf, cf, tf, qf)
set_option maxRecDepth 20000 in
theorem fX4_read_15 : FL wsX4_read RX4 15 4 1 := ⟨RX4, TX4, 3, rfl, by decide +kernel, by decide, by decide +kernel⟩
theorem fw_4_1 : FW 4 1 (.object "PoundsOver$Hall") := ⟨RX4, TX4, 3, tyX4, rfl, tyX4_ok, nmX4, by decide, rfl, by decide +kernel⟩
theorem yd_X0_clear : YD yX0_clear 0 := ⟨by decide +kernel, by decide +kernel, by decide +kernel⟩
set_option maxRecDepth 20000 in
theorem fX4_read_24 : FL wsX4_read RX4 24 4 2 := ⟨RX4, TX4, 3, rfl, by decide +kernel, by decide, by decide +kernel⟩
set_option maxRecDepth 20000 in
theorem fX4_read_9 : FL wsX4_read RX4 9 4 0 := ⟨RX4, TX4, 3, rfl, by decide +kernel, by decide, by decide +kernel⟩
theorem yd_X9_begin : YD yX9_begin 1 := ⟨by decide +kernel, by decide +kernel, by decide +kernel⟩
set_option maxRecDepth 20000 in
theorem fX4_read_34 : FL wsX4_read RX4 34 9 5 := ⟨RX9, TX9, 8, rfl, by decide +kernel, by decide, by decide +kernel⟩
theorem yd_X4_readLine : YD yX4_readLine 0 := ⟨by decide +kernel, by decide +kernel, by decide +kernel⟩
theorem yd_X4_takeLineEnd : YD yX4_takeLineEnd 0 := ⟨by decide +kernel, by decide +kernel, by decide +kernel⟩
set_option maxHeartbeats 600000 in
set_option maxRecDepth 100000 in
theorem c_X4_read (l : Launch) (D : va_G) (cB cI cJ : ClassId) (ad : Nat → Nat) (n : Nat) (M : Nat → va_E) (hI : ipI ad n) (rd ta h h0 en wo : Nat) (ln en0 nx0 pl kd nu ft : Int32) (bf hv pf cf tf qf c0 : Nat → Int32) (cl td hg : Int32) (h_ta : ta < n) (h_ta_1 : ta + 1 < n) (h_rd : rd < n) (h_h : h < n) (h_h_1 : h + 1 < n) (h_h_2 : h + 2 < n) (h_h_3 : h + 3 < n) (h_h_4 : h + 4 < n) (h_h_5 : h + 5 < n) (h_h_6 : h + 6 < n) (h_h_7 : h + 7 < n) (h_h_8 : h + 8 < n) (h_h_9 : h + 9 < n) (h_h_10 : h + 10 < n) (h_h_11 : h + 11 < n) (m_ta : M ta = .inr (9, tapeF ad ta ln en0 nx0 pl kd nu wo)) (m_ta_1 : M (ta + 1) = .inl (cB, 700, .inl bf)) (m_rd : M rd = .inr (4, [.ref (ad ta), .ref (ad h0), .int ft])) (m_h : M h = .inr (0, hallF ad h hv)) (m_h_1 : M (h + 1) = .inr (8, [.int 3, .ref (ad (h + 2))])) (m_h_2 : M (h + 2) = .inl (cI, 12, .inl pf)) (m_h_3 : M (h + 3) = .inr (8, [.int 5, .ref (ad (h + 4))])) (m_h_4 : M (h + 4) = .inl (cI, 25, .inl cf)) (m_h_5 : M (h + 5) = .inr (8, [.int 7, .ref (ad (h + 6))])) (m_h_6 : M (h + 6) = .inl (cI, 84, .inl tf)) (m_h_7 : M (h + 7) = .inr (8, [.int 2, .ref (ad (h + 8))])) (m_h_8 : M (h + 8) = .inl (cI, 12, .inl qf)) (m_h_9 : M (h + 9) = .inr (5, ruleF ad (h + 9) cl td hg)) (m_h_10 : M (h + 10) = .inr (8, [.int 1, .ref (ad (h + 9 + 2))])) (m_h_11 : M (h + 11) = .inl (cI, 700, .inl c0)) (hen : en ≤ 700) (srt : rd < ta ∨ ta + 1 < rd) (srh : rd < h ∨ h + 15 < rd) (sth : ta + 1 < h ∨ h + 15 < ta) : cWi l D cB cI cJ ad n M yX4_read wsX4_read 55 1241 [.ref (ad rd), .int (nI en), .ref (ad h)] (fun r M' => ∃ (v0 : Int32), r = (rdR en bf pf cf tf qf).1 ∧ M' ta = .inr (9, tapeX ad ta ln en bf ((rdR en bf pf cf tf qf).2.1) v0) ∧ M' rd = .inr (4, [.ref (ad ta), .ref (ad h), .int ((rdR en bf pf cf tf qf).1)]) ∧ M' h = .inr (0, hallF ad h ((rdR en bf pf cf tf qf).2.2.1)) ∧ M' (h + 2) = .inl (cI, 12, .inl ((rdR en bf pf cf tf qf).2.2.2.2.2.1)) ∧ M' (h + 4) = .inl (cI, 25, .inl ((rdR en bf pf cf tf qf).2.2.2.2.2.2.1)) ∧ M' (h + 6) = .inl (cI, 84, .inl ((rdR en bf pf cf tf qf).2.2.2.2.2.2.2.1)) ∧ M' (h + 8) = .inl (cI, 12, .inl ((rdR en bf pf cf tf qf).2.2.2.2.2.2.2.2)) ∧ M' (h + 9) = .inr (5, ruleF ad (h + 9) (nI (rdR en bf pf cf tf qf).2.2.2.2.1.length) ((rdR en bf pf cf tf qf).2.2.2.1) hg) ∧ M' (h + 11) = .inl (cI, 700, .inl (layC (rdR en bf pf cf tf qf).2.2.2.2.1 c0)) ∧ ∀ q : Nat, q ≠ ta → q ≠ rd → q ≠ h → q ≠ h + 2 → q ≠ h + 4 → q ≠ h + 6 → q ≠ h + 8 → q ≠ h + 9 → q ≠ h + 11 → M' q = M q) := by
  refine q_body (cc := cX4_read) (maxL := 5) (ret := (some .int)) (by decide) rfl (Nat.le_of_ble_eq_true rfl) ?_
  intro p e s m args below meth c ls X hr hlocks hK hP hl
  obtain ⟨hx, hb, hml, hown, hts⟩ := id X
  have hS : va_S (ipA ad n) s.heap s.heap [] := va_S.rf
  have hl : lv_has ls 5 [(0, .ref (ad rd)), (1, .int (nI en)), (2, .ref (ad h))] := hl
  refine lv_aload_n hx hb dX4_read_0 rfl (lv_at hl 0 rfl) ?_
  refine lv_aload_n hx hb dX4_read_1 rfl (lv_at hl 2 rfl) ?_
  refine q_put (fs := [.ref (ad ta), .ref (ad h0), .int ft]) (fs' := [.ref (ad ta), .ref (ad h), .int ft]) X hK hI hP hS fX4_read_15 fw_4_1 h_rd m_rd rfl rfl (Nat.le_of_ble_eq_true rfl) rfl dX4_read_2 (fun H locs hP hS => ?_)
  refine lv_aload_n hx hb dX4_read_5 rfl (lv_at hl 0 rfl) ?_
  refine q_get (v := .ref (ad h)) (fs := [.ref (ad ta), .ref (ad h), .int ft]) X hK hP fX4_read_15 h_rd (va_up_self M rd (.inr (4, [.ref (ad ta), .ref (ad h), .int ft]))) rfl dX4_read_6 ?_
  refine q_wrVv (As := []) (rest := []) (c_X0_clear l D cB cI cJ ad n (va_up M rd (.inr (4, [.ref (ad ta), .ref (ad h), .int ft]))) hI h hv cl td hg h_h h_h_9 ((va_up_ne M (.inr (4, [.ref (ad ta), .ref (ad h), .int ft])) (show h ≠ rd by omega)).trans m_h) ((va_up_ne M (.inr (4, [.ref (ad ta), .ref (ad h), .int ft])) (show h + 9 ≠ rd by omega)).trans m_h_9) ) X hK hP hS hl.1 rfl gX4_read_X0_clear yd_X0_clear ⟨Nat.le_of_ble_eq_true rfl, Nat.le_of_ble_eq_true rfl⟩ h_h ((va_up_ne M (.inr (4, [.ref (ad ta), .ref (ad h), .int ft])) (show h ≠ rd by omega)).trans m_h) (ci := 0) rfl rfl (Nat.le_of_ble_eq_true rfl) ⟨Nat.zero_le _, Nat.zero_le _⟩ dX4_read_9 (fun M4 H locs hp3 hP hS => ?_)
  obtain ⟨g6, g7, fr8⟩ := hp3
  refine lv_aload_n hx hb dX4_read_12 rfl (lv_at hl 0 rfl) ?_
  refine lv_iconst (v := 0) hx hb dX4_read_13 (by decide) ?_
  refine q_put (fs := [.ref (ad ta), .ref (ad h), .int ft]) (fs' := [.ref (ad ta), .ref (ad h), .int 0]) X hK hI hP hS fX4_read_24 fw_4_2 h_rd ((fr8 rd (by omega) (by omega)).trans (va_up_self M rd (.inr (4, [.ref (ad ta), .ref (ad h), .int ft])))) rfl rfl (Nat.le_of_ble_eq_true rfl) rfl dX4_read_14 (fun H locs hP hS => ?_)
  refine lv_aload_n hx hb dX4_read_17 rfl (lv_at hl 0 rfl) ?_
  refine q_get (v := .ref (ad ta)) (fs := [.ref (ad ta), .ref (ad h), .int 0]) X hK hP fX4_read_9 h_rd (va_up_self M4 rd (.inr (4, [.ref (ad ta), .ref (ad h), .int 0]))) rfl dX4_read_18 ?_
  refine lv_iload_n hx hb dX4_read_21 rfl (lv_at hl 1 rfl) ?_
  refine q_wrVv (As := [.int (nI en)]) (rest := []) (c_X9_begin l D cB cI cJ ad n (va_up M4 rd (.inr (4, [.ref (ad ta), .ref (ad h), .int 0]))) hI ta en wo ln en0 nx0 pl kd nu bf h_ta h_ta_1 ((va_up_ne M4 (.inr (4, [.ref (ad ta), .ref (ad h), .int 0])) (show ta ≠ rd by omega)).trans ((fr8 ta (by omega) (by omega)).trans ((va_up_ne M (.inr (4, [.ref (ad ta), .ref (ad h), .int ft])) (show ta ≠ rd by omega)).trans m_ta))) ((va_up_ne M4 (.inr (4, [.ref (ad ta), .ref (ad h), .int 0])) (show ta + 1 ≠ rd by omega)).trans ((fr8 (ta + 1) (by omega) (by omega)).trans ((va_up_ne M (.inr (4, [.ref (ad ta), .ref (ad h), .int ft])) (show ta + 1 ≠ rd by omega)).trans m_ta_1))) hen) X hK hP hS hl.1 rfl gX4_read_X9_begin yd_X9_begin ⟨Nat.le_of_ble_eq_true rfl, Nat.le_of_ble_eq_true rfl⟩ h_ta ((va_up_ne M4 (.inr (4, [.ref (ad ta), .ref (ad h), .int 0])) (show ta ≠ rd by omega)).trans ((fr8 ta (by omega) (by omega)).trans ((va_up_ne M (.inr (4, [.ref (ad ta), .ref (ad h), .int ft])) (show ta ≠ rd by omega)).trans m_ta))) (ci := 9) rfl rfl (Nat.le_of_ble_eq_true rfl) ⟨Nat.zero_le _, Nat.zero_le _⟩ dX4_read_22 (fun M12 H locs hp11 hP hS => ?_)
  obtain ⟨v0_14, g15, fr16⟩ := hp11
  refine lv_iconst (v := 1) hx hb dX4_read_25 (by decide) ?_
  refine lv_istore_n (lv' := [(3, .int 1), (0, .ref (ad rd)), (1, .int (nI en)), (2, .ref (ad h))]) hx hb dX4_read_26 rfl hl (by decide) rfl (fun ls hl => ?_)
  refine lv_iconst (v := 0) hx hb dX4_read_27 (by decide) ?_
  refine lv_istore (lv' := [(4, .int 0), (3, .int 1), (0, .ref (ad rd)), (1, .int (nI en)), (2, .ref (ad h))]) hx hb dX4_read_28 hl (by decide) rfl (fun ls hl => ?_)
  have loop_30 : ∀ (fuel : Nat) (t x1 : Nat) (f1 nu1 td1 : Int32) (cs1 : List Int32) (hv1 pf1 cf1 tf1 qf1 : Nat → Int32) (x3 : Int32) (x4 : Int32), 700 - t < fuel → (t ≤ 700) → (x1 ≤ en) → (cs1.length ≤ x1) → (hv1 7 = nI (hv1 7).toNatClampNeg) → ((hv1 7).toNatClampNeg ≤ 12) → (rlS en bf (700 - t) (f1, x1, hv1, td1, cs1, pf1, cf1, tf1, qf1) = (rdR en bf pf cf tf qf)) → x3 = okI f1 → x4 = nI t → ∀ (ML30 : Nat → va_E) (H : Heap) (locs : List Loc), ML30 ta = .inr (9, tapeX ad ta ln en bf x1 nu1) → ML30 rd = .inr (4, [.ref (ad ta), .ref (ad h), .int f1]) → ML30 h = .inr (0, hallF ad h hv1) → ML30 (h + 2) = .inl (cI, 12, .inl pf1) → ML30 (h + 4) = .inl (cI, 25, .inl cf1) → ML30 (h + 6) = .inl (cI, 84, .inl tf1) → ML30 (h + 8) = .inl (cI, 12, .inl qf1) → ML30 (h + 9) = .inr (5, ruleF ad (h + 9) (nI cs1.length) td1 hg) → ML30 (h + 11) = .inl (cI, 700, .inl (layC cs1 c0)) → (∀ q : Nat, q ≠ ta → q ≠ rd → q ≠ h → q ≠ h + 2 → q ≠ h + 4 → q ≠ h + 6 → q ≠ h + 8 → q ≠ h + 9 → q ≠ h + 11 → ML30 q = M q) → va_P D vwCl (ip ad n ML30) H → va_S (ipA ad n) s.heap H locs → ∀ (ls : Array Slot), lv_has ls 5 [(0, .ref (ad rd)), (3, .int x3), (4, .int x4)] → W p l e (rmOf 55 1241) s m args below meth c H locs 0 0 (MQ below (va_Qi (fun r M' => ∃ (v0 : Int32), r = (rdR en bf pf cf tf qf).1 ∧ M' ta = .inr (9, tapeX ad ta ln en bf ((rdR en bf pf cf tf qf).2.1) v0) ∧ M' rd = .inr (4, [.ref (ad ta), .ref (ad h), .int ((rdR en bf pf cf tf qf).1)]) ∧ M' h = .inr (0, hallF ad h ((rdR en bf pf cf tf qf).2.2.1)) ∧ M' (h + 2) = .inl (cI, 12, .inl ((rdR en bf pf cf tf qf).2.2.2.2.2.1)) ∧ M' (h + 4) = .inl (cI, 25, .inl ((rdR en bf pf cf tf qf).2.2.2.2.2.2.1)) ∧ M' (h + 6) = .inl (cI, 84, .inl ((rdR en bf pf cf tf qf).2.2.2.2.2.2.2.1)) ∧ M' (h + 8) = .inl (cI, 12, .inl ((rdR en bf pf cf tf qf).2.2.2.2.2.2.2.2)) ∧ M' (h + 9) = .inr (5, ruleF ad (h + 9) (nI (rdR en bf pf cf tf qf).2.2.2.2.1.length) ((rdR en bf pf cf tf qf).2.2.2.1) hg) ∧ M' (h + 11) = .inl (cI, 700, .inl (layC (rdR en bf pf cf tf qf).2.2.2.2.1 c0)) ∧ ∀ q : Nat, q ≠ ta → q ≠ rd → q ≠ h → q ≠ h + 2 → q ≠ h + 4 → q ≠ h + 6 → q ≠ h + 8 → q ≠ h + 9 → q ≠ h + 11 → M' q = M q) (fun M' t => va_P D vwCl (ip ad n M') t.heap) (ipA ad n)) args s 0 0 (ipA ad n)) (F0 m 30 ls []) := by
    intro fuel
    induction fuel with
    | zero =>
      intro t x1 f1 nu1 td1 cs1 hv1 pf1 cf1 tf1 qf1 x3 x4 hz
      exact absurd hz (Nat.not_lt_zero _)
    | succ fuel ih_30 =>
      intro t x1 f1 nu1 td1 cs1 hv1 pf1 cf1 tf1 qf1 x3 x4 hz_30 ht hx1 hc1 hv7 hn7 he e3 e4 ML30 H locs mL30_0 mL30_1 mL30_2 mL30_3 mL30_4 mL30_5 mL30_6 mL30_7 mL30_8 fL30 hP hS ls hl
      subst e3
      subst e4
      skip
      refine lv_iload hx hb dX4_read_30 (lv_at hl 2 rfl) ?_
      refine lv_sipush (v := 700) hx hb dX4_read_32 (by decide) ?_
      refine lv_icmp_ge (tgt := 78) hx hb dX4_read_35 (by decide) (fun c_35 => ?_) (fun c_35 => ?_)
      · skip
        have hfin : (f1, x1, hv1, td1, cs1, pf1, cf1, tf1, qf1) = (rdR en bf pf cf tf qf) := by have h9 := eq_of_le (k := 700) c_35 (by decide) ht; rw [← he, h9]; rfl
        refine lv_aload_n hx hb dX4_read_78 rfl (lv_at hl 0 rfl) ?_
        refine q_get (v := .int f1) (fs := [.ref (ad ta), .ref (ad h), .int f1]) X hK hP fX4_read_24 h_rd mL30_1 rfl dX4_read_79 ?_
        exact q_wzret X hr hlocks hP hS (rfl) ⟨nu1, (by rw [← hfin]), (by rw [← hfin]; exact mL30_0), (by rw [← hfin]; exact mL30_1), (by rw [← hfin]; exact mL30_2), (by rw [← hfin]; exact mL30_3), (by rw [← hfin]; exact mL30_4), (by rw [← hfin]; exact mL30_5), (by rw [← hfin]; exact mL30_6), (by rw [← hfin]; exact mL30_7), (by rw [← hfin]; exact mL30_8), (fun q n0 n1 n2 n3 n4 n5 n6 n7 n8 => (fL30 q n0 n1 n2 n3 n4 n5 n6 n7 n8))⟩ dX4_read_82
      · skip
        have ht9 := lt_of_nlt (k := 700) c_35 (by decide) ht
        refine lv_iload_n hx hb dX4_read_38 rfl (lv_at hl 1 rfl) ?_
        refine lv_if_eq (tgt := 78) hx hb dX4_read_39 (by decide) (fun c_39 => ?_) (fun c_39 => ?_)
        · skip
          have hfin : (f1, x1, hv1, td1, cs1, pf1, cf1, tf1, qf1) = (rdR en bf pf cf tf qf) := (rlS_bad (s := (f1, x1, hv1, td1, cs1, pf1, cf1, tf1, qf1)) (okI_z c_39) _).symm.trans he
          refine lv_aload_n hx hb dX4_read_78 rfl (lv_at hl 0 rfl) ?_
          refine q_get (v := .int f1) (fs := [.ref (ad ta), .ref (ad h), .int f1]) X hK hP fX4_read_24 h_rd mL30_1 rfl dX4_read_79 ?_
          exact q_wzret X hr hlocks hP hS (rfl) ⟨nu1, (by rw [← hfin]), (by rw [← hfin]; exact mL30_0), (by rw [← hfin]; exact mL30_1), (by rw [← hfin]; exact mL30_2), (by rw [← hfin]; exact mL30_3), (by rw [← hfin]; exact mL30_4), (by rw [← hfin]; exact mL30_5), (by rw [← hfin]; exact mL30_6), (by rw [← hfin]; exact mL30_7), (by rw [← hfin]; exact mL30_8), (fun q n0 n1 n2 n3 n4 n5 n6 n7 n8 => (fL30 q n0 n1 n2 n3 n4 n5 n6 n7 n8))⟩ dX4_read_82
        · skip
          refine lv_aload_n hx hb dX4_read_42 rfl (lv_at hl 0 rfl) ?_
          refine q_get (v := .ref (ad ta)) (fs := [.ref (ad ta), .ref (ad h), .int f1]) X hK hP fX4_read_9 h_rd mL30_1 rfl dX4_read_43 ?_
          refine q_get (v := .int (kX en bf x1)) (fs := tapeX ad ta ln en bf x1 nu1) X hK hP fX4_read_34 h_ta mL30_0 rfl dX4_read_46 ?_
          refine lv_if_eq (tgt := 78) hx hb dX4_read_49 (by decide) (fun c_49 => ?_) (fun c_49 => ?_)
          · skip
            have hfin : (f1, x1, hv1, td1, cs1, pf1, cf1, tf1, qf1) = (rdR en bf pf cf tf qf) := (rlS_end (s := (f1, x1, hv1, td1, cs1, pf1, cf1, tf1, qf1)) c_49 _).symm.trans he
            refine lv_aload_n hx hb dX4_read_78 rfl (lv_at hl 0 rfl) ?_
            refine q_get (v := .int f1) (fs := [.ref (ad ta), .ref (ad h), .int f1]) X hK hP fX4_read_24 h_rd mL30_1 rfl dX4_read_79 ?_
            exact q_wzret X hr hlocks hP hS (rfl) ⟨nu1, (by rw [← hfin]), (by rw [← hfin]; exact mL30_0), (by rw [← hfin]; exact mL30_1), (by rw [← hfin]; exact mL30_2), (by rw [← hfin]; exact mL30_3), (by rw [← hfin]; exact mL30_4), (by rw [← hfin]; exact mL30_5), (by rw [← hfin]; exact mL30_6), (by rw [← hfin]; exact mL30_7), (by rw [← hfin]; exact mL30_8), (fun q n0 n1 n2 n3 n4 n5 n6 n7 n8 => (fL30 q n0 n1 n2 n3 n4 n5 n6 n7 n8))⟩ dX4_read_82
          · skip
            have hbd := lxLine (bf := bf) hv1 (hv1 7).toNatClampNeg cf1 tf1 qf1 td1 cs1 hx1 hen hc1; have hh := lhLine' (en := en) (x := x1) (bf := bf) cf1 tf1 qf1 hv7 hn7
            refine lv_aload_n hx hb dX4_read_52 rfl (lv_at hl 0 rfl) ?_
            refine q_wrVi (As := []) (rest := []) (c_X4_readLine l D cB cI cJ ad n ML30 hI rd ta h en x1 ln nu1 f1 bf hv1 ((hv1 7).toNatClampNeg) pf1 cf1 tf1 qf1 td1 hg c0 cs1 h_ta h_ta_1 h_rd h_h h_h_1 h_h_2 h_h_3 h_h_4 h_h_5 h_h_6 h_h_7 h_h_8 h_h_9 h_h_10 h_h_11 mL30_0 ((fL30 (ta + 1) (by omega) (by omega) (by omega) (by omega) (by omega) (by omega) (by omega) (by omega) (by omega)).trans m_ta_1) mL30_1 mL30_2 ((fL30 (h + 1) (by omega) (by omega) (by omega) (by omega) (by omega) (by omega) (by omega) (by omega) (by omega)).trans m_h_1) mL30_3 ((fL30 (h + 3) (by omega) (by omega) (by omega) (by omega) (by omega) (by omega) (by omega) (by omega) (by omega)).trans m_h_3) mL30_4 ((fL30 (h + 5) (by omega) (by omega) (by omega) (by omega) (by omega) (by omega) (by omega) (by omega) (by omega)).trans m_h_5) mL30_5 ((fL30 (h + 7) (by omega) (by omega) (by omega) (by omega) (by omega) (by omega) (by omega) (by omega) (by omega)).trans m_h_7) mL30_6 mL30_7 ((fL30 (h + 10) (by omega) (by omega) (by omega) (by omega) (by omega) (by omega) (by omega) (by omega) (by omega)).trans m_h_10) mL30_8 (by first | assumption | omega) hen srt srh sth (by first | assumption | omega) (by first | assumption | omega) (by first | assumption | omega)) X hK hP hS hl.1 rfl gX4_read_X4_readLine yd_X4_readLine ⟨Nat.le_of_ble_eq_true rfl, Nat.le_of_ble_eq_true rfl⟩ h_rd mL30_1 (ci := 4) rfl rfl (Nat.le_of_ble_eq_true rfl) ⟨Nat.zero_le _, Nat.zero_le _⟩ dX4_read_53 (fun r19 M18 H locs hp17 hP hS => ?_)
            obtain ⟨v0___20, rfl, g21, g22, g23, g24, g25, g26, g27, g28, g29, fr30⟩ := hp17
            refine lv_if_eq (tgt := 70) hx hb dX4_read_56 (by decide) (fun c_56 => ?_) (fun c_56 => ?_)
            · skip
              have g31 : M18 (h + 9) = .inr (5, ruleF ad (h + 9) (nI (lCs en x1 bf td1 cs1).length) (s_X4_readLine_7_2 en x1 bf td1) hg) := by refine g28.trans ?_; rw [lCs_len]
              have g32 : M18 (h + 11) = .inl (cI, 700, .inl (layC (lCs en x1 bf td1 cs1) c0)) := by refine g29.trans ?_; rw [lCs_lay]
              refine lv_iconst (v := 0) hx hb dX4_read_70 (by decide) ?_
              refine lv_istore_n (lv' := [(3, .int 0), (0, .ref (ad rd)), (4, .int (nI t))]) hx hb dX4_read_71 rfl hl (by decide) rfl (fun ls hl => ?_)
              refine lv_iinc (v := ((nI t) + 1)) (lv' := [(4, .int ((nI t) + 1)), (3, .int 0), (0, .ref (ad rd))]) hx hb dX4_read_72 hl (k := 2) rfl rfl (by decide) rfl (fun ls hl => ?_)
              refine lv_goto (tgt := 30) hx hb dX4_read_75 (by decide) ?_
              exact ih_30 (t + 1) (s_X4_readLine_0_4 en x1 bf hv1 ((hv1 7).toNatClampNeg) cf1 tf1 qf1 td1 cs1) (s_X4_readLine_1_2 en x1 f1 bf hv1 ((hv1 7).toNatClampNeg) cf1 tf1 qf1 td1 cs1) v0___20 (s_X4_readLine_7_2 en x1 bf td1) (lCs en x1 bf td1 cs1) (s_X4_readLine_2_1 en x1 bf hv1 ((hv1 7).toNatClampNeg) cf1 tf1 qf1) (s_X4_readLine_3_f en x1 bf hv1 pf1) (s_X4_readLine_4_f en x1 bf hv1 cf1) (s_X4_readLine_5_f en x1 bf hv1 ((hv1 7).toNatClampNeg) cf1 tf1) (s_X4_readLine_6_f en x1 bf hv1 qf1) 0 ((nI t) + 1) (by omega) (by omega) (by first | exact nX_le hbd.1 hen | exact hbd.1) (by have := nX_ge (bf := bf) hbd.1 hen; omega) (by exact hh.1) (by exact hh.2) (by rw [← he, show 700 - t = (700 - (t + 1)) + 1 by omega, rlS_on (s := (f1, x1, hv1, td1, cs1, pf1, cf1, tf1, qf1)) (okI_o c_39) c_49, rlStep]; (first | (rw [if_pos c_56, if_pos c_56]; done) | (rw [if_neg c_56, if_neg c_56, if_pos c_63, if_pos c_63]; done) | (rw [if_neg c_56, if_neg c_56, if_neg c_63, if_neg c_63]; done))) (by first | exact (okI_0 ((lfLine _ _ _ _ _ _ _ _ _ _ _).2 c_56)).symm | rfl | exact (okI_1 (((lfLine _ _ _ _ _ _ _ _ _ _ _).1 c_56).trans (okI_o c_39))).symm) (by exact nI_1 _) _ _ _ g21 g22 g23 g24 g25 g26 g27 g31 g32 (fun q n0 n1 n2 n3 n4 n5 n6 n7 n8 => ((fr30 q n0 n1 n2 n3 n4 n5 n6 n7 n8).trans (fL30 q n0 n1 n2 n3 n4 n5 n6 n7 n8))) hP hS ls (lv_sub hl [2, 1, 0] rfl)
            · skip
              have g33 : M18 (h + 9) = .inr (5, ruleF ad (h + 9) (nI (lCs en x1 bf td1 cs1).length) (s_X4_readLine_7_2 en x1 bf td1) hg) := by refine g28.trans ?_; rw [lCs_len]
              have g34 : M18 (h + 11) = .inl (cI, 700, .inl (layC (lCs en x1 bf td1 cs1) c0)) := by refine g29.trans ?_; rw [lCs_lay]
              refine lv_aload_n hx hb dX4_read_59 rfl (lv_at hl 0 rfl) ?_
              refine q_wrVi (As := []) (rest := []) (c_X4_takeLineEnd l D cB cI cJ ad n M18 hI rd ta h en (s_X4_readLine_0_4 en x1 bf hv1 ((hv1 7).toNatClampNeg) cf1 tf1 qf1 td1 cs1) ln v0___20 (s_X4_readLine_1_2 en x1 f1 bf hv1 ((hv1 7).toNatClampNeg) cf1 tf1 qf1 td1 cs1) bf h_ta h_ta_1 h_rd g21 ((fr30 (ta + 1) (by omega) (by omega) (by omega) (by omega) (by omega) (by omega) (by omega) (by omega) (by omega)).trans ((fL30 (ta + 1) (by omega) (by omega) (by omega) (by omega) (by omega) (by omega) (by omega) (by omega) (by omega)).trans m_ta_1)) g22 (by first | assumption | exact hbd.1 | omega) hen srt) X hK hP hS hl.1 rfl gX4_read_X4_takeLineEnd yd_X4_takeLineEnd ⟨Nat.le_of_ble_eq_true rfl, Nat.le_of_ble_eq_true rfl⟩ h_rd g22 (ci := 4) rfl rfl (Nat.le_of_ble_eq_true rfl) ⟨Nat.zero_le _, Nat.zero_le _⟩ dX4_read_60 (fun r37 M36 H locs hp35 hP hS => ?_)
              obtain ⟨v0_38, rfl, g39, g40, fr41⟩ := hp35
              refine lv_if_eq (tgt := 70) hx hb dX4_read_63 (by decide) (fun c_63 => ?_) (fun c_63 => ?_)
              · skip
                have g42 : M36 ta = .inr (9, tapeX ad ta ln en bf (s_X4_readLine_0_4 en x1 bf hv1 ((hv1 7).toNatClampNeg) cf1 tf1 qf1 td1 cs1) v0_38) := by refine g39.trans ?_; simp only [pk0_t c_63]
                have g43 : M36 rd = .inr (4, [.ref (ad ta), .ref (ad h), .int 1]) := by refine g40.trans ?_; simp only [pk0_t c_63]
                refine lv_iconst (v := 0) hx hb dX4_read_70 (by decide) ?_
                refine lv_istore_n (lv' := [(3, .int 0), (0, .ref (ad rd)), (4, .int (nI t))]) hx hb dX4_read_71 rfl hl (by decide) rfl (fun ls hl => ?_)
                refine lv_iinc (v := ((nI t) + 1)) (lv' := [(4, .int ((nI t) + 1)), (3, .int 0), (0, .ref (ad rd))]) hx hb dX4_read_72 hl (k := 2) rfl rfl (by decide) rfl (fun ls hl => ?_)
                refine lv_goto (tgt := 30) hx hb dX4_read_75 (by decide) ?_
                exact ih_30 (t + 1) (s_X4_readLine_0_4 en x1 bf hv1 ((hv1 7).toNatClampNeg) cf1 tf1 qf1 td1 cs1) 1 v0_38 (s_X4_readLine_7_2 en x1 bf td1) (lCs en x1 bf td1 cs1) (s_X4_readLine_2_1 en x1 bf hv1 ((hv1 7).toNatClampNeg) cf1 tf1 qf1) (s_X4_readLine_3_f en x1 bf hv1 pf1) (s_X4_readLine_4_f en x1 bf hv1 cf1) (s_X4_readLine_5_f en x1 bf hv1 ((hv1 7).toNatClampNeg) cf1 tf1) (s_X4_readLine_6_f en x1 bf hv1 qf1) 0 ((nI t) + 1) (by omega) (by omega) (by first | exact nX_le hbd.1 hen | exact hbd.1) (by have := nX_ge (bf := bf) hbd.1 hen; omega) (by exact hh.1) (by exact hh.2) (by rw [← he, show 700 - t = (700 - (t + 1)) + 1 by omega, rlS_on (s := (f1, x1, hv1, td1, cs1, pf1, cf1, tf1, qf1)) (okI_o c_39) c_49, rlStep]; (first | (rw [if_pos c_56, if_pos c_56]; done) | (rw [if_neg c_56, if_neg c_56, if_pos c_63, if_pos c_63]; done) | (rw [if_neg c_56, if_neg c_56, if_neg c_63, if_neg c_63]; done))) (by first | exact (okI_0 ((lfLine _ _ _ _ _ _ _ _ _ _ _).2 c_56)).symm | rfl | exact (okI_1 (((lfLine _ _ _ _ _ _ _ _ _ _ _).1 c_56).trans (okI_o c_39))).symm) (by exact nI_1 _) _ _ _ g42 g43 ((fr41 h (by omega) (by omega)).trans g23) ((fr41 (h + 2) (by omega) (by omega)).trans g24) ((fr41 (h + 4) (by omega) (by omega)).trans g25) ((fr41 (h + 6) (by omega) (by omega)).trans g26) ((fr41 (h + 8) (by omega) (by omega)).trans g27) ((fr41 (h + 9) (by omega) (by omega)).trans g33) ((fr41 (h + 11) (by omega) (by omega)).trans g34) (fun q n0 n1 n2 n3 n4 n5 n6 n7 n8 => ((fr41 q n0 n1).trans ((fr30 q n0 n1 n2 n3 n4 n5 n6 n7 n8).trans (fL30 q n0 n1 n2 n3 n4 n5 n6 n7 n8)))) hP hS ls (lv_sub hl [2, 1, 0] rfl)
              · skip
                have g44 : M36 ta = .inr (9, tapeX ad ta ln en bf (nX en bf (s_X4_readLine_0_4 en x1 bf hv1 ((hv1 7).toNatClampNeg) cf1 tf1 qf1 td1 cs1)) v0_38) := by refine g39.trans ?_; simp only [pk0_f c_63]
                have g45 : M36 rd = .inr (4, [.ref (ad ta), .ref (ad h), .int (s_X4_readLine_1_2 en x1 f1 bf hv1 ((hv1 7).toNatClampNeg) cf1 tf1 qf1 td1 cs1)]) := by refine g40.trans ?_; simp only [pk0_f c_63]
                refine lv_iconst (v := 1) hx hb dX4_read_66 (by decide) ?_
                refine lv_goto (tgt := 71) hx hb dX4_read_67 (by decide) ?_
                refine lv_istore_n (lv' := [(3, .int 1), (0, .ref (ad rd)), (4, .int (nI t))]) hx hb dX4_read_71 rfl hl (by decide) rfl (fun ls hl => ?_)
                refine lv_iinc (v := ((nI t) + 1)) (lv' := [(4, .int ((nI t) + 1)), (3, .int 1), (0, .ref (ad rd))]) hx hb dX4_read_72 hl (k := 2) rfl rfl (by decide) rfl (fun ls hl => ?_)
                refine lv_goto (tgt := 30) hx hb dX4_read_75 (by decide) ?_
                exact ih_30 (t + 1) (nX en bf (s_X4_readLine_0_4 en x1 bf hv1 ((hv1 7).toNatClampNeg) cf1 tf1 qf1 td1 cs1)) (s_X4_readLine_1_2 en x1 f1 bf hv1 ((hv1 7).toNatClampNeg) cf1 tf1 qf1 td1 cs1) v0_38 (s_X4_readLine_7_2 en x1 bf td1) (lCs en x1 bf td1 cs1) (s_X4_readLine_2_1 en x1 bf hv1 ((hv1 7).toNatClampNeg) cf1 tf1 qf1) (s_X4_readLine_3_f en x1 bf hv1 pf1) (s_X4_readLine_4_f en x1 bf hv1 cf1) (s_X4_readLine_5_f en x1 bf hv1 ((hv1 7).toNatClampNeg) cf1 tf1) (s_X4_readLine_6_f en x1 bf hv1 qf1) 1 ((nI t) + 1) (by omega) (by omega) (by first | exact nX_le hbd.1 hen | exact hbd.1) (by have := nX_ge (bf := bf) hbd.1 hen; omega) (by exact hh.1) (by exact hh.2) (by rw [← he, show 700 - t = (700 - (t + 1)) + 1 by omega, rlS_on (s := (f1, x1, hv1, td1, cs1, pf1, cf1, tf1, qf1)) (okI_o c_39) c_49, rlStep]; (first | (rw [if_pos c_56, if_pos c_56]; done) | (rw [if_neg c_56, if_neg c_56, if_pos c_63, if_pos c_63]; done) | (rw [if_neg c_56, if_neg c_56, if_neg c_63, if_neg c_63]; done))) (by first | exact (okI_0 ((lfLine _ _ _ _ _ _ _ _ _ _ _).2 c_56)).symm | rfl | exact (okI_1 (((lfLine _ _ _ _ _ _ _ _ _ _ _).1 c_56).trans (okI_o c_39))).symm) (by exact nI_1 _) _ _ _ g44 g45 ((fr41 h (by omega) (by omega)).trans g23) ((fr41 (h + 2) (by omega) (by omega)).trans g24) ((fr41 (h + 4) (by omega) (by omega)).trans g25) ((fr41 (h + 6) (by omega) (by omega)).trans g26) ((fr41 (h + 8) (by omega) (by omega)).trans g27) ((fr41 (h + 9) (by omega) (by omega)).trans g33) ((fr41 (h + 11) (by omega) (by omega)).trans g34) (fun q n0 n1 n2 n3 n4 n5 n6 n7 n8 => ((fr41 q n0 n1).trans ((fr30 q n0 n1 n2 n3 n4 n5 n6 n7 n8).trans (fL30 q n0 n1 n2 n3 n4 n5 n6 n7 n8)))) hP hS ls (lv_sub hl [2, 1, 0] rfl)
  exact loop_30 (701) 0 0 0 v0_14 0 ([]) (fun _ => 0) pf cf tf qf 1 0 (by omega) (by omega) (by exact Nat.zero_le _) (by exact Nat.le_refl _) (by decide) (by decide) (by rfl) (by rfl) (by rfl) _ _ _ g15 ((fr16 rd (by omega)).trans (va_up_self M4 rd (.inr (4, [.ref (ad ta), .ref (ad h), .int 0])))) ((fr16 h (by omega)).trans ((va_up_ne M4 (.inr (4, [.ref (ad ta), .ref (ad h), .int 0])) (show h ≠ rd by omega)).trans g7)) ((fr16 (h + 2) (by omega)).trans ((va_up_ne M4 (.inr (4, [.ref (ad ta), .ref (ad h), .int 0])) (show h + 2 ≠ rd by omega)).trans ((fr8 (h + 2) (by omega) (by omega)).trans ((va_up_ne M (.inr (4, [.ref (ad ta), .ref (ad h), .int ft])) (show h + 2 ≠ rd by omega)).trans m_h_2)))) ((fr16 (h + 4) (by omega)).trans ((va_up_ne M4 (.inr (4, [.ref (ad ta), .ref (ad h), .int 0])) (show h + 4 ≠ rd by omega)).trans ((fr8 (h + 4) (by omega) (by omega)).trans ((va_up_ne M (.inr (4, [.ref (ad ta), .ref (ad h), .int ft])) (show h + 4 ≠ rd by omega)).trans m_h_4)))) ((fr16 (h + 6) (by omega)).trans ((va_up_ne M4 (.inr (4, [.ref (ad ta), .ref (ad h), .int 0])) (show h + 6 ≠ rd by omega)).trans ((fr8 (h + 6) (by omega) (by omega)).trans ((va_up_ne M (.inr (4, [.ref (ad ta), .ref (ad h), .int ft])) (show h + 6 ≠ rd by omega)).trans m_h_6)))) ((fr16 (h + 8) (by omega)).trans ((va_up_ne M4 (.inr (4, [.ref (ad ta), .ref (ad h), .int 0])) (show h + 8 ≠ rd by omega)).trans ((fr8 (h + 8) (by omega) (by omega)).trans ((va_up_ne M (.inr (4, [.ref (ad ta), .ref (ad h), .int ft])) (show h + 8 ≠ rd by omega)).trans m_h_8)))) ((fr16 (h + 9) (by omega)).trans ((va_up_ne M4 (.inr (4, [.ref (ad ta), .ref (ad h), .int 0])) (show h + 9 ≠ rd by omega)).trans g6)) ((fr16 (h + 11) (by omega)).trans ((va_up_ne M4 (.inr (4, [.ref (ad ta), .ref (ad h), .int 0])) (show h + 11 ≠ rd by omega)).trans ((fr8 (h + 11) (by omega) (by omega)).trans ((va_up_ne M (.inr (4, [.ref (ad ta), .ref (ad h), .int ft])) (show h + 11 ≠ rd by omega)).trans m_h_11)))) (fun q n0 n1 n2 n3 n4 n5 n6 n7 n8 => ((fr16 q n0).trans ((va_up_ne _ _ n1).trans ((fr8 q n7 n2).trans (va_up_ne _ _ n1))))) hP hS ls (lv_sub hl [2, 1, 0] rfl)
end
