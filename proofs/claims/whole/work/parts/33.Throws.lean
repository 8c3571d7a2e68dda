/-! PoundsOver: where it throws -/
/-- it threw E0; what was there ahead is as it was -/
def XE (E0 : String) : String → State → State → Prop := fun E st t => E = E0 ∧ st.heap.size ≤ t.heap.size ∧ ∀ q : Nat, q < st.heap.size → t.heap[q]? = st.heap[q]?
abbrev rmX (fr lo : Nat) : Room := { frames := fr, cells := 1, slots := 6, locals := lo }
def cX (l : Launch) (D : va_G) (cB cI cJ : ClassId) (ad : Nat → Nat) (n : Nat) (M : Nat → va_E) (y : MethodName) (ws : List Cond) (fr lo : Nat) (As : List Value) (E0 : String) : Prop :=
  vx_Met l y ws (rmX fr lo) (va_Pc As (ipW D cB cI cJ ad n M)) (fun _ _ _ _ => False) (XE E0) 1 6 (fun _ => False)
theorem q_bodyX {l : Launch} {D : va_G} {cB cI cJ : ClassId} {ad : Nat → Nat} {n : Nat} {M : Nat → va_E} {y : MethodName} {ws ws' : List Cond} {fr lo : Nat} {As : List Value} {cc : ByteArray} {maxL : Nat} {ret : Option FieldType} {E0 : String}
    (hy : plainName y.cls = true) (hw : ws = Cond.code y cc maxL ret :: ws') (hlen : (lg_sl As).length ≤ maxL)
    (body : ∀ (p : Program) (e : Env) (s : State) (m : MethodId) (args : Array Value) (below : List Frame) (meth : Method) (c : Code) (ls : Array Slot),
      CallFix p m c cc maxL s args ws y.cls → meth.locks = false → (∀ x ∈ c.exceptionTable.toList, False) → (vK D cB cI cJ s ∧ sW ad n s s.heap) → va_P D vwCl (ip ad n M) s.heap → lv_has ls maxL (lv_args 0 As) →
      W p l e (rmX fr lo) s m args below meth c s.heap [] 0 0 (vx_MQ below (fun _ _ _ _ => False) (XE E0) args s 1 6 (fun _ => False)) (F0 m 0 ls [])) :
    cX l D cB cI cJ ad n M y ws fr lo As E0 := by
  refine vx_ofW (cc := cc) (maxL := maxL) (ret := ret) hy hw ?_
  intro p e s m args below meth c s₁ B hml ht hv
  obtain ⟨rfl, hP, hK⟩ := hv
  have hl := lv_entry As (n := maxL) hlen
  rw [lg_entry_eq]
  exact body p e s m _ below meth c _ ⟨B.exec, B.bytes, hml, findClass_of_methodNamed B.named, atoms_spec (ws := ws) B.pre⟩ B.notSynchronized ht hK hP hl
section QX
variable {p : Program} {l : Launch} {e : Env} {R : Room} {s : State} {m : MethodId} {args : Array Value} {below : List Frame} {meth : Method} {c : Code}
variable {cc : ByteArray} {pc nL : Nat} {ls : Array Slot} {rest st : List Value} {D : va_G} {cB cI cJ : ClassId} {ad : Nat → Nat} {n : Nat} {M : Nat → va_E} {Ts : List Cond} {own : String}
variable {y : MethodName} {ws ws' : List Cond} {bytes : ByteArray} {maxL fr lo index ci i : Nat} {ret : Option FieldType} {As : List Value} {fs : List Value} {E0 : String}
theorem q_throwX {ik ic : Nat} (X : CallFix p m c cc nL s args Ts own) (hls : ls.size = nL) (hlt : l.stackTraces = false) (hlocks : meth.locks = false) (ht : ∀ x ∈ c.exceptionTable.toList, False) (hK : vK D cB cI cJ s ∧ sW ad n s s.heap) (hcls : Bundle.fit E0 = true) (hE : E0 ∈ sCs)
    (hk : Cond.classLink own ik E0 ∈ Ts) (hini : Cond.initialized E0 ∈ Ts) (h1 : ∀ w ∈ (vx_at0 own ic E0 ["java/lang/RuntimeException", "java/lang/Exception"]).filter goodWord, w ∈ Ts) (h2 : ∀ w ∈ (vx_at0 own ic E0 ["java/lang/RuntimeException", "java/lang/Exception"]).filter (fun w => !goodWord w), w ∈ Cond.castable E0 E0 :: sDc.map (fun q => Cond.declares ⟨q, "<init>", "()V"⟩))
    (hg : ∀ w ∈ Cond.classLink own ik E0 :: Cond.initialized E0 :: vx_at0 own ic E0 ["java/lang/RuntimeException", "java/lang/Exception"], vx_ot w = true)
    (d0 : decode cc pc = .ok (.new ik, 3)) (d3 : decode cc (pc + 3) = .ok (.dup, 1)) (d4 : decode cc (pc + 4) = .ok (.invokespecial ic, 3)) (d7 : decode cc (pc + 7) = .ok (.athrow, 1)) (hRf : 5 < R.frames) (hRl : 89 ≤ R.locals) (hRc : 1 ≤ R.cells) (hRs : 6 ≤ R.slots) (hcat : (rest.map fun v => v.category).sum ≤ 8) :
    W p l e R s m args below meth c s.heap [] 0 0 (vx_MQ below (fun _ _ _ _ => False) (XE E0) args s 1 6 (fun _ => False)) (F0 m pc ls rest) := by
  obtain ⟨hx, hb, hml, hown, hts⟩ := X
  refine vx_throw0 (A := ipA ad n) (names := ["java/lang/RuntimeException", "java/lang/Exception"]) hx hb hlt hown hcls (by decide +kernel) (hts _ hk) (hts _ hini) (vx_hat (fun w hw => hts _ (h1 w hw)) h2 (fun w hw => ?_)) hg hK.2.1.2.2.2.2.2.2.2.1 hK.2.1.2.2.2.2.2.2.2.2 va_S.rf (hls.trans hml.symm) d0 d3 d4 d7 (fun x hx9 => (ht x hx9).elim) (by simpa using hRf) (by simp only [List.length_cons, List.length_nil]; omega) (by omega) (by omega) hlocks (fun t _ g1 g2 => ⟨rfl, g1, g2⟩) (fun z hz => nomatch hz) (by omega) (by omega)
  rcases List.mem_cons.mp hw with h | h
  · rw [h]; exact va_Nw.use rfl (hK.2.2.2.2.2.1 E0 hE)
  · obtain ⟨q, hq, rfl⟩ := List.mem_map.mp h
    exact va_Nw.use rfl (hK.2.2.2.2.1 q hq)
theorem q_callX (hlocks : meth.locks = false) (ht : ∀ x ∈ c.exceptionTable.toList, False) (h : vx_Run p l e R s m args below meth c s.heap [] 0 0 1 6 (F0 m pc ls st) rest (fun _ _ _ => False) (XE E0) (fun _ => False)) :
    W p l e R s m args below meth c s.heap [] 0 0 (vx_MQ below (fun _ _ _ _ => False) (XE E0) args s 1 6 (fun _ => False)) (F0 m pc ls st) := by
  intro T hT X9
  rcases h T hT X9 with ⟨v, st₀, t, T', L, h0, X', hL, e1, e2, hq, st1⟩ | ⟨q, st₀, t, T', L, E, ce, h0, X', hL, e1, e2, hx, hce, hcv, hcl, st1⟩
  · exact hq.elim
  · obtain ⟨rfl, g1, g2⟩ := hx
    rw [h0] at g1 g2
    obtain ⟨t2, a1, b1⟩ := vx_out (pc := pc) (ls := ls) (rest := rest) (XC := XE E) (Qc := fun _ _ _ _ => False) (mc := 1) (ms := 6) (free := fun _ => False) (args := args) (below := below) (fun x hx9 => (ht x hx9).elim) hlocks (H := T'.heap) (q := q) (ce := ce) (by rw [e1]; exact hce) hcv hcl (fun t3 ht3 _ => ⟨rfl, by rw [ht3, e1]; exact g1, fun a ha => by rw [ht3, e1]; exact g2 a ha⟩) (fun z hz => (hL z (by simpa using hz)).elim) (by simp) (by simp) T' rfl X'
    exact ⟨t2, st1.trans a1, b1⟩
theorem q_rdVX (hM : cX l D cB cI cJ ad n M y ws fr lo (.ref (ad i) :: As) E0) (X : CallFix p m c cc nL s args Ts own) (hlocks : meth.locks = false) (ht : ∀ x ∈ c.exceptionTable.toList, False) (hK : vK D cB cI cJ s ∧ sW ad n s s.heap) (hP : va_P D vwCl (ip ad n M) s.heap) (hls : ls.size = nL) (hw : ws = Cond.code y bytes maxL ret :: ws') (hG : GoodIn Ts (wsV own index y.cls y ws)) (hy : YD y As.length)
    (hR : fr + 1 ≤ R.frames ∧ 8 + (maxL + 11) + lo ≤ R.locals) (hi : i < n) (hMi : M i = .inr (ci, fs)) (hcl : (vwCl[ci]?).map (fun q => q.1) = some y.cls) (hst : st = As.reverse ++ .ref (ad i) :: rest) (hcat : (rest.map fun v => v.category).sum ≤ 8) (hf : 1 ≤ R.cells ∧ 6 ≤ R.slots) (hdg : decode cc pc = .ok (.invokevirtual index, 3)) :
    W p l e R s m args below meth c s.heap [] 0 0 (vx_MQ below (fun _ _ _ _ => False) (XE E0) args s 1 6 (fun _ => False)) (F0 m pc ls st) := by
  subst hst
  exact q_callX (rest := rest) hlocks ht (vx_runV (As := As) (rest := rest) X hM (cwV As.length X.2.2.2.2 hG hw rfl rfl ⟨rfl, hy⟩ hR) ⟨ip_blind, q_recv hK hP hi hMi hcl, fun U hU hW => ⟨rfl, ip_call hK hP va_S.rf hU hW⟩⟩ rfl rfl hls rfl (lv_room hcat) hdg ⟨by omega, by omega⟩)
theorem q_rdSX (hM : cX l D cB cI cJ ad n M y ws fr lo As E0) (X : CallFix p m c cc nL s args Ts own) (hlocks : meth.locks = false) (ht : ∀ x ∈ c.exceptionTable.toList, False) (hK : vK D cB cI cJ s ∧ sW ad n s s.heap) (hP : va_P D vwCl (ip ad n M) s.heap) (hls : ls.size = nL) (hw : ws = Cond.code y bytes maxL ret :: ws') (hG : GoodIn Ts (va_wsS own index y ws)) (hy : YD y As.length)
    (hR : fr + 1 ≤ R.frames ∧ 8 + (maxL + 11) + lo ≤ R.locals) (hst : st = As.reverse ++ rest) (hcat : (rest.map fun v => v.category).sum ≤ 8) (hf : 1 ≤ R.cells ∧ 6 ≤ R.slots) (hdg : decode cc pc = .ok (.invokestatic index, 3)) :
    W p l e R s m args below meth c s.heap [] 0 0 (vx_MQ below (fun _ _ _ _ => False) (XE E0) args s 1 6 (fun _ => False)) (F0 m pc ls st) := by
  subst hst
  exact q_callX (rest := rest) hlocks ht (vx_runS (As := As) (rest := rest) X hM (va_cwS As.length X.2.2.2.2 hG hw rfl rfl hy hR) ⟨ip_blind, fun U hU hW => ⟨rfl, ip_call hK hP va_S.rf hU hW⟩⟩ rfl rfl hls rfl (lv_room hcat) hdg ⟨by omega, by omega⟩)
end QX

