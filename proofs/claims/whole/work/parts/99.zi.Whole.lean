/-! THE CLAIM OUT OF ONE WALK OF THE LAW'S BODY. Your part is whole_start (and what it stands on); all else here is the same for every law, but numbers. -/
def R_law : String := "PoundsOverLaw"
def lw_P (b : Addr) (xs : List Int32) (args : Array Value) (s : State) : Prop := args = #[.ref b] ∧ s.IntsAt b xs ∧ xs.length ≤ 3072 ∧ (Jvm.Cond.and given_1 narrow_1).before args s = true
def lw_Q (_ : Array Value) (s : State) (o : Outcome) (t : State) : Prop := o = .returned (some (.int 1)) ∧ Framed s o t [] 601024 7293034
def lw_Z (below : List Frame) (a : Array Value) (s : State) : State → Prop := fun t => ∃ o, t.status = .running ∧ Ended t below o ∧ lw_Q a s o t
/-- the law's own end, with 1 on the stack, nothing written that was there before, its room as the claim has it -/
theorem lw_ret {p : Program} {l : Launch} {e : Env} {s : State} {m : MethodId} {below : List Frame} {meth : Method} {c : Code} {b : Nat} (hx : p.tables.exec = Jvm.exec) (hb : c.code = code) (hr : meth.sig.returnType = ret) (hlocks : meth.locks = false) {pc : Nat} {H : Heap} {ls : Array Slot} (hdg : decode code pc = .ok (.ireturn, 1)) : W p l e room_1 s m #[Value.ref b] below meth c H [] 601024 7293034 (lw_Z below #[Value.ref b] s) (F0 m pc ls [.int 1]) := by
  intro T hT X
  obtain ⟨fs, hret, hrun, hended, hW, hframe⟩ := X.leave (v := some (.int 1)) (hlocks := hlocks) (fun h => by rw [hr] at h; cases h)
  have hmeth' : T.vm.method? m = some meth := X.method'
  refine ⟨T.setFrames fs, ?_, .returned (some (.int 1)), hrun, hended, rfl, ⟨_, rfl⟩, hW, hframe⟩
  jvm_step X.here [X.here.top, hx, hb, hdg, hmeth', hr, ret, narrow_b1]
  (try refine ⟨rfl, ?_⟩); (try refine ⟨rfl, ?_⟩)
  first | (intro acts; rw [hret _ acts rfl rfl rfl]) | rw [hret _ _ rfl rfl rfl]
  exact Steps.refl _
/-- what holds at the law's entry: the machine, the code, the tables' words (any of lw_tbl by 'hts w (by decide +kernel)'), the script of L ints xs at the cell b, what the Statement gives of the start (any of its parts by flat_of_before) -/
def lw_At (p : Program) (s : State) (m : MethodId) (meth : Method) (c : Code) (b L : Nat) (xs : Nat → Int32) : Prop :=
  p.tables.exec = Jvm.exec ∧ c.code = code ∧ meth.sig.returnType = ret ∧ c.maxLocals = 8 ∧ s.vm.findClass R_law = some m.cls ∧ (∀ w ∈ lw_tbl, w.before #[Value.ref b] s = true) ∧ va_X b L xs s s.heap ∧ b < s.heap.size ∧ meth.locks = false ∧ (Jvm.Cond.and given_1 narrow_1).before #[Value.ref b] s = true
theorem yn9_X12_init : YD yX12_init 0 := ⟨by decide +kernel, by decide +kernel, by decide +kernel⟩
theorem yn9_X13_init : YD yX13_init 0 := ⟨by decide +kernel, by decide +kernel, by decide +kernel⟩
set_option maxRecDepth 20000 in
theorem df_12 : ∀ j : Nat, j < 14 → defaultValue (tyX12 j) = vp_V [.null, .null, .null, .null, .null, .null, .null, .null, .int 0, .int 0, .null, .null, .null, .null] j := (fun j hj => match j, hj with | 0, _ => rfl | 1, _ => rfl | 2, _ => rfl | 3, _ => rfl | 4, _ => rfl | 5, _ => rfl | 6, _ => rfl | 7, _ => rfl | 8, _ => rfl | 9, _ => rfl | 10, _ => rfl | 11, _ => rfl | 12, _ => rfl | 13, _ => rfl | k + 14, h => absurd h (by omega))
set_option maxRecDepth 20000 in
theorem df_13 : ∀ j : Nat, j < 67 → defaultValue (tyX13 j) = vp_V [.null, .null, .int 0, .null, .null, .null, .null, .null, .null, .null, .null, .null, .null, .null, .null, .null, .null, .null, .null, .null, .null, .null, .null, .null, .int 0, .int 0, .int 0, .int 0, .int 0, .int 0, .int 0, .int 0, .int 0, .int 0, .null, .null, .int 0, .int 0, .int 0, .null, .null, .null, .null, .null, .null, .int 0, .int 0, .int 0, .int 0, .null, .null, .null, .null, .int 0, .null, .null, .int 0, .int 0, .int 0, .int 0, .null, .null, .null, .null, .null, .null, .null] j := (fun j hj => match j, hj with | 0, _ => rfl | 1, _ => rfl | 2, _ => rfl | 3, _ => rfl | 4, _ => rfl | 5, _ => rfl | 6, _ => rfl | 7, _ => rfl | 8, _ => rfl | 9, _ => rfl | 10, _ => rfl | 11, _ => rfl | 12, _ => rfl | 13, _ => rfl | 14, _ => rfl | 15, _ => rfl | 16, _ => rfl | 17, _ => rfl | 18, _ => rfl | 19, _ => rfl | 20, _ => rfl | 21, _ => rfl | 22, _ => rfl | 23, _ => rfl | 24, _ => rfl | 25, _ => rfl | 26, _ => rfl | 27, _ => rfl | 28, _ => rfl | 29, _ => rfl | 30, _ => rfl | 31, _ => rfl | 32, _ => rfl | 33, _ => rfl | 34, _ => rfl | 35, _ => rfl | 36, _ => rfl | 37, _ => rfl | 38, _ => rfl | 39, _ => rfl | 40, _ => rfl | 41, _ => rfl | 42, _ => rfl | 43, _ => rfl | 44, _ => rfl | 45, _ => rfl | 46, _ => rfl | 47, _ => rfl | 48, _ => rfl | 49, _ => rfl | 50, _ => rfl | 51, _ => rfl | 52, _ => rfl | 53, _ => rfl | 54, _ => rfl | 55, _ => rfl | 56, _ => rfl | 57, _ => rfl | 58, _ => rfl | 59, _ => rfl | 60, _ => rfl | 61, _ => rfl | 62, _ => rfl | 63, _ => rfl | 64, _ => rfl | 65, _ => rfl | 66, _ => rfl | k + 67, h => absurd h (by omega))
set_option maxRecDepth 100000 in
theorem icL_len (ad : Nat → Nat) (cB cI cJ : ClassId) (z : Nat) : (icL ad cB cI cJ z).length = 82 := rfl
set_option maxRecDepth 100000 in
theorem imL_len (ad : Nat → Nat) (cI cJ : ClassId) (z : Nat) : (imL ad cI cJ z).length = 45 := rfl
set_option maxHeartbeats 4000000 in
set_option maxRecDepth 100000 in
/-- THE LAW, from its entry -/
theorem whole_start {p : Program} {e : Env} {s : State} {m : MethodId} {below : List Frame} {meth : Method} {c : Code} (l : Launch) (hflags : l.flags = flags0) {b L : Nat} {xs : Nat → Int32} (hL : L ≤ 3072) (C0 : lw_At p s m meth c b L xs) : W p l e room_1 s m #[Value.ref b] below meth c s.heap [] 0 0 (lw_Z below #[Value.ref b] s) (entryFrame m ([Value.ref b] : List Value).toArray 8) := by
  obtain ⟨hx, hb, hr, hml, hown, hts, hX, hbl, hlocks, hgv⟩ := id C0
  have hlt : l.stackTraces = false := by
    unfold Launch.stackTraces
    rw [hflags]
    decide +kernel
  have h9 : narrow_1.before #[Value.ref b] s = true := nw_r hgv
  obtain ⟨D, cB, cI, cJ, hV⟩ := st_vK hts
  obtain ⟨w, t, v, c4, c5, hcon⟩ := st_con hts h9 (B := fun q => s.heap.size ≤ q) (fun a ha h => absurd h (Nat.not_le.mpr ha))
  obtain ⟨z0, hz0⟩ : ∃ z0 : Nat, z0 = s.heap.size := ⟨_, rfl⟩
  obtain ⟨ad, had⟩ : ∃ ad : Nat → Nat, ad = adF z0 w t v c4 c5 := ⟨_, rfl⟩
  obtain ⟨hSH, hSV⟩ := hcon ad (fun i hi => ⟨by
    rw [had]; unfold adF
    rw [if_neg (by omega), if_pos (by omega), Nat.add_sub_cancel_left], by
    rw [had]; unfold adF
    rw [if_neg (by omega), if_neg (by omega), if_pos (by omega), Nat.add_sub_cancel_left], by
    rw [had]; unfold adF
    rw [if_neg (by omega), if_neg (by omega), if_neg (by omega), if_pos (by omega), Nat.add_sub_cancel_left]⟩) (by
    rw [had]; unfold adF
    rw [if_neg (by omega), if_neg (by omega), if_neg (by omega), if_neg (by omega), if_pos rfl]) (by
    rw [had]; unfold adF
    rw [if_neg (by omega), if_neg (by omega), if_neg (by omega), if_neg (by omega), if_neg (by omega)])
  have hge : ∀ i : Nat, i < 128 → z0 ≤ ad i := fun i hi => by
    rw [had, adF_at hi]
    exact Nat.le_add_right _ _
  have hK : nK D cB cI cJ ad z0 s := ⟨hV, by rw [hz0]; exact hSH, hSV, va_AO.of (A := #[Value.ref b]) (hts (Cond.arrayOver (.object "java/lang/String")) (List.mem_append_right (k2_sels lw_privs) (List.mem_of_getElem? (i := 1355) (by decide +kernel))))⟩
  have X : CallFix p m c cL_law 8 s #[Value.ref b] wsL_law RL := ⟨hx, hb, hml, hown, fun w hw => hts w (wsL_law_in w hw)⟩
  have hA9 : ∀ q : Nat, ipA ad 128 q → z0 ≤ q := fun q hq => by
    obtain ⟨i, hi, rfl⟩ := hq
    exact hge i hi
  have Y : LX p s m c D cB cI cJ ad b L xs := ⟨X, ⟨hV, sH_nar hSH (fun q hq => by rw [← hz0]; exact hA9 q hq), hSV⟩, va_Nc.of (co_nc h9), by rw [had]; exact st_I z0 w t v c4 c5, hX, hbl, fun h => absurd (hA9 b h) (by rw [hz0]; exact Nat.not_le.mpr hbl)⟩
  obtain ⟨l1, hl1⟩ : ∃ l1 : List va_E, l1 = icL ad cB cI cJ z0 := ⟨_, rfl⟩
  obtain ⟨l2, hl2⟩ : ∃ l2 : List va_E, l2 = imL ad cI cJ (z0 + 82) := ⟨_, rfl⟩
  have e1 : l1.length = 82 := by rw [hl1]; exact icL_len _ _ _ _ _
  have e2 : l2.length = 45 := by rw [hl2]; exact imL_len _ _ _ _
  have m1 : cN l D cB cI cJ ad z0 z0 [.inr (11, [.null, .null, .null, .null, .null, .null, .null, .null, .int 0, .int 0, .null, .null, .null, .null])] l1 yX12_init wsX12_init 4 85 81 (0 + 8 + (0 + 700) + 12 + (0 + 2 + (0 + (4 * 3)) + 2 + (0 + (5 * 5)) + 2 + (0 + (12 * 7)) + 2 + (0 + (6 * 2)) + 6 + (0 + 2 + (0 + (700 * 1)) + 2 + (0 + (5 * 1)) + 2 + (0 + (31 * 1)))) + 12 + (0 + 2 + (0 + (4 * 3)) + 2 + (0 + (5 * 5)) + 2 + (0 + (12 * 7)) + 2 + (0 + (6 * 2)) + 6 + (0 + 2 + (0 + (700 * 1)) + 2 + (0 + (5 * 1)) + 2 + (0 + (31 * 1)))) + 3 + (0) + 3 + (0 + 2 + (0 + (12 * 1))) + 5 + (0 + 2 + (0 + (40 * 3)) + 2 + (0 + (6 * 2)) + 2 + (0 + (3 * 1))) + 3 + (0 + 2 + (0 + (12 * 1))) + 5 + (0 + 2 + (0 + (40 * 3)) + 2 + (0 + (6 * 2)) + 2 + (0 + (3 * 1))) + 3 + (0 + 2 + (0 + (8 * 1)) + 2 + (0 + (256 * 1)) + 2 + (0 + (256 * 1))) + 9 + (0 + 2 + (0 + (12 * 1)) + 2 + (0 + (12 * 1)) + 2 + (0 + (12 * 1)) + 2 + (0 + (5 * 1)) + 2 + (0 + (5 * 1)) + 2 + (0 + (5 * 1))) + 9 + (0 + 217) + 9 + (0 + 3 + (0 + 2 + (0 + (12 * 1))))) [.ref z0] := by rw [hl1]; exact n_X12_init l D cB cI cJ ad z0 z0
  have m2 : cN l D cB cI cJ ad z0 (z0 + l1.length) [.inr (12, [.null, .null, .int 0, .null, .null, .null, .null, .null, .null, .null, .null, .null, .null, .null, .null, .null, .null, .null, .null, .null, .null, .null, .null, .null, .int 0, .int 0, .int 0, .int 0, .int 0, .int 0, .int 0, .int 0, .int 0, .int 0, .null, .null, .int 0, .int 0, .int 0, .null, .null, .null, .null, .null, .null, .int 0, .int 0, .int 0, .int 0, .null, .null, .null, .null, .int 0, .null, .null, .int 0, .int 0, .int 0, .int 0, .null, .null, .null, .null, .null, .null, .null])] l2 yX13_init wsX13_init 1 20 44 (0 + 6 + 5 + 14 + 8 + 8 + 8 + 10 + 10 + 10 + 10 + 10 + 24 + 24 + 24 + 24 + 24 + 24 + 24 + 12 + 12 + 1400 + 3 + 700 + 5 + 64 + 40 + 40 + 40 + 12 + 12 + 12 + 220 + 220 + 5 + 4 + 6 + 6 + 24 + 40 + 40 + 40 + 6 + 6 + 3) [.ref (z0 + 82)] := by rw [e1, hl2]; exact n_X13_init l D cB cI cJ ad z0 (z0 + 82)
  have hS : va_S (fun q => z0 ≤ q) s.heap s.heap [] := va_S.rf
  have hz : Array.size s.heap = z0 + ([] : List va_E).length := hz0.symm
  have hP : va_P D vwCl (nW z0 []) s.heap := fun k q h => by simp [nW] at h
  have hl := lv_entry ([.ref b]) (n := 8) (Nat.le_of_ble_eq_true rfl)
  rw [lg_entry_eq]
  generalize (lg_sl ([.ref b]) ++ List.replicate (8 - (lg_sl ([.ref b])).length) Slot.unset).toArray = ls at hl ⊢
  have hl : lv_has ls 8 [(0, .ref b)] := hl
  refine n_new (C := RX12) (T := TX12) (N := 14) (ci := 11) (fs := [.null, .null, .null, .null, .null, .null, .null, .null, .int 0, .int 0, .null, .null, .null, .null]) (q := z0) (ws' := [.inr (11, [.null, .null, .null, .null, .null, .null, .null, .null, .int 0, .int 0, .null, .null, .null, .null])]) (c1 := 1) (s1 := 14) X hK hz hP hS rfl (fun w hw => lawC_in wsX120 (List.mem_append_right lawR List.mem_cons_self) w hw) tyX12 tyX12_ok (lawC_in wsL_law0_r1 (List.mem_of_getElem? (i := 0) rfl) _ (by decide +kernel)) (lawC_in wsL_law0_r1 (List.mem_of_getElem? (i := 0) rfl) _ (by decide +kernel)) (lawC_in wsL_law0_r1 (List.mem_of_getElem? (i := 0) rfl) _ (by decide +kernel)) df_12 rfl rfl rfl rfl ⟨Nat.le_of_ble_eq_true rfl, Nat.le_of_ble_eq_true rfl⟩ dL_law_0 (fun H hz hP hS => ?_)
  refine lv_dup hx hb dL_law_3 rfl ?_
  refine n_callI (pre := []) (l1 := [.inr (11, [.null, .null, .null, .null, .null, .null, .null, .null, .int 0, .int 0, .null, .null, .null, .null])]) (l2 := l1) (ws' := l1) (c1 := 82) (s1 := 3706) (As := []) (rest := [.ref z0]) m1 X (Nat.le_refl z0) hK rfl hz hP hS hl.1 rfl gL_law_X12_init (lawC_in wsL_law0_r1 (List.mem_of_getElem? (i := 0) rfl) _ (by decide +kernel)) (lawC_in wsL_law0_r1 (List.mem_of_getElem? (i := 0) rfl) _ (by decide +kernel)) (lawC_in wsL_law0_r1 (List.mem_of_getElem? (i := 0) rfl) _ (by decide +kernel)) rfl yn9_X12_init ⟨Nat.le_of_ble_eq_true rfl, Nat.le_of_ble_eq_true rfl⟩ rfl (Nat.le_of_ble_eq_true rfl) rfl rfl rfl ⟨Nat.le_of_ble_eq_true rfl, Nat.le_of_ble_eq_true rfl⟩ dL_law_4 (fun H locs hz hP hS => ?_)
  refine lv_astore_n (lv' := [(1, .ref z0), (0, .ref b)]) hx hb dL_law_7 rfl hl (by decide) rfl (fun ls hl => ?_)
  refine n_new (C := RX13) (T := TX13) (N := 67) (ci := 12) (fs := [.null, .null, .int 0, .null, .null, .null, .null, .null, .null, .null, .null, .null, .null, .null, .null, .null, .null, .null, .null, .null, .null, .null, .null, .null, .int 0, .int 0, .int 0, .int 0, .int 0, .int 0, .int 0, .int 0, .int 0, .int 0, .null, .null, .int 0, .int 0, .int 0, .null, .null, .null, .null, .null, .null, .int 0, .int 0, .int 0, .int 0, .null, .null, .null, .null, .int 0, .null, .null, .int 0, .int 0, .int 0, .int 0, .null, .null, .null, .null, .null, .null, .null]) (q := z0 + 82) (ws' := l1 ++ [.inr (12, [.null, .null, .int 0, .null, .null, .null, .null, .null, .null, .null, .null, .null, .null, .null, .null, .null, .null, .null, .null, .null, .null, .null, .null, .null, .int 0, .int 0, .int 0, .int 0, .int 0, .int 0, .int 0, .int 0, .int 0, .int 0, .null, .null, .int 0, .int 0, .int 0, .null, .null, .null, .null, .null, .null, .int 0, .int 0, .int 0, .int 0, .null, .null, .null, .null, .int 0, .null, .null, .int 0, .int 0, .int 0, .int 0, .null, .null, .null, .null, .null, .null, .null])]) (c1 := 83) (s1 := 3773) X hK hz hP hS rfl (fun w hw => lawC_in wsX130 (List.mem_append_right lawR (List.mem_cons_of_mem _ List.mem_cons_self)) w hw) tyX13 tyX13_ok (lawC_in wsL_law0_r1 (List.mem_of_getElem? (i := 0) rfl) _ (by decide +kernel)) (lawC_in wsL_law0_r1 (List.mem_of_getElem? (i := 0) rfl) _ (by decide +kernel)) (lawC_in wsL_law0_r1 (List.mem_of_getElem? (i := 0) rfl) _ (by decide +kernel)) df_13 (by rw [e1]) rfl rfl rfl ⟨Nat.le_of_ble_eq_true rfl, Nat.le_of_ble_eq_true rfl⟩ dL_law_8 (fun H hz hP hS => ?_)
  refine lv_dup hx hb dL_law_11 rfl ?_
  refine n_callI (pre := l1) (l1 := [.inr (12, [.null, .null, .int 0, .null, .null, .null, .null, .null, .null, .null, .null, .null, .null, .null, .null, .null, .null, .null, .null, .null, .null, .null, .null, .null, .int 0, .int 0, .int 0, .int 0, .int 0, .int 0, .int 0, .int 0, .int 0, .int 0, .null, .null, .int 0, .int 0, .int 0, .null, .null, .null, .null, .null, .null, .int 0, .int 0, .int 0, .int 0, .null, .null, .null, .null, .int 0, .null, .null, .int 0, .int 0, .int 0, .int 0, .null, .null, .null, .null, .null, .null, .null])]) (l2 := l2) (ws' := l1 ++ l2) (c1 := 127) (s1 := 7012) (As := []) (rest := [.ref (z0 + 82)]) m2 X (Nat.le_refl z0) hK rfl hz hP hS hl.1 rfl gL_law_X13_init (lawC_in wsL_law0_r1 (List.mem_of_getElem? (i := 0) rfl) _ (by decide +kernel)) (lawC_in wsL_law0_r7 (List.mem_of_getElem? (i := 6) rfl) _ (by decide +kernel)) (lawC_in wsL_law0_r7 (List.mem_of_getElem? (i := 6) rfl) _ (by decide +kernel)) rfl yn9_X13_init ⟨Nat.le_of_ble_eq_true rfl, Nat.le_of_ble_eq_true rfl⟩ rfl (Nat.le_of_ble_eq_true rfl) rfl rfl rfl ⟨Nat.le_of_ble_eq_true rfl, Nat.le_of_ble_eq_true rfl⟩ dL_law_12 (fun H locs hz hP hS => ?_)
  refine lv_astore_n (lv' := [(2, .ref (z0 + 82)), (1, .ref z0), (0, .ref b)]) hx hb dL_law_15 rfl hl (by decide) rfl (fun ls hl => ?_)
  refine lv_iconst (v := 1) hx hb dL_law_16 (by decide) ?_
  refine n_newa (atype := .long) (i := 2) (cA := cJ) (N := 1) (a0 := (1, .inr (.inl (fun _ => 0)))) (q := z0 + 127) (ws' := l1 ++ l2 ++ [(.inl (cJ, 1, .inr (.inl (fun _ => 0))) : va_E)]) (c1 := 128) (s1 := 7013) X hK hz hP hS rfl (fun _ h => h) (lawC_in wsL_law0_r1 (List.mem_of_getElem? (i := 0) rfl) _ (by decide +kernel)) (fun _ => rfl) (by decide) (by decide) (Nat.le_of_ble_eq_true rfl) (by rw [List.length_append, e1, e2]) rfl rfl rfl ⟨Nat.le_of_ble_eq_true rfl, Nat.le_of_ble_eq_true rfl⟩ dL_law_17 (fun H hz hP hS => ?_)
  refine lv_astore_n (lv' := [(3, .ref (z0 + 127)), (2, .ref (z0 + 82)), (1, .ref z0), (0, .ref b)]) hx hb dL_law_19 rfl hl (by decide) rfl (fun ls hl => ?_)
  refine lv_iconst (v := 0) hx hb dL_law_20 (by decide) ?_
  refine lv_istore (lv' := [(4, .int 0), (3, .ref (z0 + 127)), (2, .ref (z0 + 82)), (1, .ref z0), (0, .ref b)]) hx hb dL_law_21 hl (by decide) rfl (fun ls hl => ?_)
  refine va_forget (fun q hq => by rw [← hz0]; exact hS.2.2 q hq) ?_
  have a0 : ad 0 = z0 := by rw [had]; exact adF_at (by decide)
  have a82 : ad 82 = z0 + 82 := by rw [had]; exact adF_at (by decide)
  have a127 : ad 127 = z0 + 127 := by rw [had]; exact adF_at (by decide)
  have hl9 : lv_has ls 8 [(0, .ref b), (1, .ref (ad 0)), (2, .ref (ad 82)), (3, .ref (ad 127)), (4, .int (nI (6 * 0)))] := by
    rw [a0, a82, a127]
    exact lv_sub hl [4, 3, 2, 1, 0] rfl
  have hP9 : va_P D vwCl (ip ad 128 (pl ad cB cI cJ A00 V00 R00 L00)) H := by
    rw [hl1, hl2] at hP
    subst had
    exact st_P z0 w t v c4 c5 cB cI cJ hP
  have hS9 : va_S (ipA ad 128) s.heap H [] := ⟨hS.1, fun q h1 h2 => hS.2.1 q h1 (fun h => absurd h (by rw [hz0]; exact Nat.not_le.mpr h1)), fun q hq => absurd hq List.not_mem_nil⟩
  exact law_loop hlt Y hL (fun i hi => by rw [← hz0]; exact hge i hi) (fun H ls => lw_ret hx hb hr hlocks dL_law_1698) 600 0 (by omega) (by omega) A00 V00 R00 L00 H [] ls 128 7013 INV_00 hP9 hS9 hl9 (Nat.le_of_ble_eq_true rfl) (Nat.le_of_ble_eq_true rfl)
set_option maxHeartbeats 4000000 in
theorem lw_walk (l : Launch) (hflags : l.flags = flags0) (b : Addr) (xs : List Int32) : MetFree l x (headSpec (Jvm.Cond.code x code maxLocals ret :: tables_1) room_1) (lw_P b xs) (fun _ _ _ _ _ => True) lw_Q := by
  refine MetFree.of_bodyS (code := code) (maxLocals := maxLocals) (ret := ret) (by decide) ?_ ?_
  · intro args s m h hn
    obtain ⟨meth, c, h1, h2, h3, h4, h5, h6, -, -⟩ := Cond.code_spec hn (atoms_spec (ws := Jvm.Cond.code x code maxLocals ret :: tables_1) h _ List.mem_cons_self)
    exact ⟨meth, c, h1, h2, h3, h4, h5, h6⟩
  · intro p e s m args below meth c s₁ B hml0 hP _
    obtain ⟨rfl, hx, hbd, hgv⟩ := hP
    obtain ⟨scr, harrAt, hlist, hof, hsmall⟩ := hx
    obtain ⟨hcb, hkn, -, -⟩ := State.arrayAt?_spec harrAt
    have hown : s.vm.findClass R_law = some m.cls := findClass_of_methodNamed B.named
    have hts0 : ∀ c ∈ (Jvm.Cond.code x code maxLocals ret :: tables_1), c.before #[Value.ref b] s = true := atoms_spec (ws := Jvm.Cond.code x code maxLocals ret :: tables_1) B.pre
    have hts : ∀ w ∈ lw_tbl, w.before #[Value.ref b] s = true := k2_hts_sels lw_privs (fun w hw => hts0 w (List.mem_cons_of_mem _ hw)) lw_privs_ok
    have hml : c.maxLocals = 8 := B.maxLocals_eq (hts0 _ List.mem_cons_self)
    have X₀ : Stand p l e room_1 s m #[Value.ref b] below meth c s₁ [] 0 0 := Stand.of_body B
    have hh0 : s₁.heap = s.heap := by rw [B.state]; rfl
    have hsz : scr.slots.size = xs.length := by rw [← Array.length_toList, hlist, List.length_map]
    have hval : ∀ j : Nat, j < xs.length → scr.slots[j]? = some (.int (xs.getD j 0)) := fun j hj => by
      rw [← Array.getElem?_toList, hlist]
      simp [hj]
    have hbl : b < s.heap.size := (Array.getElem?_eq_some_iff.mp hcb).1
    have hX : va_X b xs.length (fun j => xs.getD j 0) s s.heap := ⟨scr, hcb, hof, hkn, hsz, hval⟩
    have K : W p l e room_1 s m #[Value.ref b] below meth c s₁.heap [] 0 0 (lw_Z below #[Value.ref b] s) (entryFrame m ([Value.ref b] : List Value).toArray 8) := by
      rw [hh0]
      exact whole_start l hflags hbd ⟨B.exec, B.bytes, B.returns, hml, hown, hts, hX, hbl, B.notSynchronized, hgv⟩
    obtain ⟨t, a1, o, b1, b2, b3⟩ := K s₁ rfl X₀
    exact ⟨t, o, a1, b1, b2, b3⟩
theorem lw_pre_spec {args : Array Value} {s : State} (h : (Jvm.Cond.and given_1 narrow_1).before args s = true) (hr : rest_1_c.before args s = true) : ∃ (b : Addr) (xs : List Int32), lw_P b xs args s := by
  have hs := flat_of_before _ h
  have hq := flat_of_before _ hr
  have hc : (Cond.count 1).before args s = true := hs _ (by decide +kernel)
  have harr : (Cond.arrayOf (.arg 0) .int).before args s = true := hs _ (by decide +kernel)
  have hle : (Cond.le (.length (.arg 0)) (.int 3072)).before args s = true := hs _ (by decide +kernel)
  have hlen : (Cond.isInt (.length (.arg 0))).before args s = true := hq _ (by decide +kernel)
  have hall : (Cond.all (.arg 0) (.isInt (.elem (.arg 0) (.index 0)))).before args s = true := hq _ (by decide +kernel)
  obtain ⟨b, xs, hb, hx⟩ := State.ints_of_pre rfl harr hlen hall
  have hsm : xs.length < 2 ^ 31 := hx.choose_spec.2.2.2
  have hev : (Term.length (.arg 0)).eval args s none [] s = some (.int xs.length.toInt32) := hx.length_eval hb
  have hv := Cond.le_ints hev (show (Term.int 3072).eval args s none [] s = some (.int 3072) from rfl)
  have hd : xs.length.toInt32 ≤ 3072 := by
    simpa [Cond.before, Cond.holds, hv] using hle
  have hN : xs.length ≤ 3072 := (Int32.ofNat_le_ofNat hsm (by decide)).mp (show Int32.ofNat xs.length ≤ Int32.ofNat 3072 from hd)
  exact ⟨b, xs, Cond.one_arg hc (show args[0]? = some (.ref b) from hb), hx, hN, h⟩
theorem lw_comes (l : Launch) (hflags : l.flags = flags0) : Comes l x (Jvm.Cond.code x code maxLocals ret :: tables_1) room_1 (fun tb e args s => Calls_1 tb e args s ∧ rest_1 tb e args s ∧ Pre_1 tb e args s)
    (fun _ _ args s o t => lw_Q args s o t) := by
  intro p e ha hc hk s m args below hf hfit hheap happ hpre
  obtain ⟨b, xs, hP⟩ := lw_pre_spec hpre.2.2 hpre.2.1
  obtain ⟨k, o, h1, h2, h3, hQ⟩ := lw_walk l hflags b xs p e ha hc hk s m args below hf ((Spec.applies_iff_loose hf).mp happ).1 hP trivial
  exact ⟨k, o, h1, h2, h3, hQ⟩
theorem lw_frame {s t : State} {o : Outcome} {args : Array Value} (h : Framed s o t [] 601024 7293034) :
    Framed s o t (fieldLocs frame_1_writes args s ++ arrayLocs frame_1_arrays args s ++ staticLocs frame_1_statics s) 601024 7293034 := h
theorem lw_limb (L : Cond) (hL : ∀ (args : Array Value) (s t : State), L.after args s (.returned (some (.int 1))) t = true) :
    ArmFor flags0 classFile x code maxLocals ret World_1 tables_1 room_1 Calls_1 rest_1 Pre_1
      (fun tb e a s o t => postC L tb e a s o t ∧ Framed s o t (fieldLocs frame_1_writes a s ++ arrayLocs frame_1_arrays a s ++ staticLocs frame_1_statics s) 601024 7293034) := by
  intro l hflags _ _ p e ha hc hk s m args below hf hfit hheap happ hpre
  obtain ⟨k, o, h1, h2, h3, rfl, hF⟩ := lw_comes l hflags p e ha hc hk s m args below hf hfit hheap happ hpre
  exact ⟨k, _, h1, h2, h3, hL args s _, lw_frame hF⟩
theorem i_vc : Claimed_1_1 ∧ Claimed_1_2 := ⟨lw_limb limb_1_1 (fun args s t => by simp [limb_1_1, Cond.after, Cond.holds, Cond.value]), lw_limb limb_1_2 (fun args s t => Cond.after_iff.mpr (by
  first | (rw [show limb_1_2 = Cond.eq .result (.int 1) from rfl, Cond.eq_ints (x := 1) (y := 1) rfl rfl]; simp; done) | (simp [limb_1_2, Cond.value, Term.eval]; done)))⟩
