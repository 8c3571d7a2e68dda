/-! a caller that catches -/
noncomputable section
def zN (U : State) : Prop := va_Nc "java/lang/IllegalArgumentException" "java/util/NoSuchElementException" U
def ipZ (D : va_G) (cB cI cJ : ClassId) (ad : Nat → Nat) (n : Nat) (M : Nat → va_E) (U : State) : Prop := ipW D cB cI cJ ad n M U ∧ zN U
theorem ipZ_blind {D : va_G} {cB cI cJ : ClassId} {ad : Nat → Nat} {n : Nat} {M : Nat → va_E} {As : List Value} : FrameBlind (va_Pc As (ipZ D cB cI cJ ad n M)) := fun a U g mk q => by
  obtain ⟨q0, q1, q2⟩ := q
  exact ⟨q0, (ip_blind (As := As) a U g mk ⟨q0, q1⟩).2, va_Nc.moved (u := U) (Vm.Alike.refl U.vm) q2⟩
theorem ipZ_call {D : va_G} {cB cI cJ : ClassId} {ad : Nat → Nat} {n : Nat} {M : Nat → va_E} {s U : State} {H : Heap} {locs : List Loc} (hK : vK D cB cI cJ s ∧ sW ad n s s.heap) (hZ : zN s) (hP : va_P D vwCl (ip ad n M) H) (hS : va_S (ipA ad n) s.heap H locs) (hU : U.heap = H) (hW : s.WarmedH U.vm) : ipZ D cB cI cJ ad n M U :=
  ⟨ip_call hK hP hS hU hW, va_Nc.moved hW.alike hZ⟩
def hXC : String → State → State → Prop := vx_X (S := Unit) (fun _ => False) (fun _ _ _ => True) (fun _ => False)
def cH (l : Launch) (D : va_G) (cB cI cJ : ClassId) (ad : Nat → Nat) (n : Nat) (M : Nat → va_E) (y : MethodName) (ws : List Cond) (fr lo : Nat) (As : List Value) (post : Int32 → (Nat → va_E) → Prop) : Prop :=
  vx_Met l y ws (rmX fr lo) (va_Pc As (ipZ D cB cI cJ ad n M)) (va_Qi post (fun M' t => va_P D vwCl (ip ad n M') t.heap) (ipA ad n)) hXC 1 6 (ipA ad n)
theorem q_bodyH {l : Launch} {D : va_G} {cB cI cJ : ClassId} {ad : Nat → Nat} {n : Nat} {M : Nat → va_E} {y : MethodName} {ws ws' : List Cond} {fr lo : Nat} {As : List Value} {cc : ByteArray} {maxL : Nat} {ret : Option FieldType} {hh : List (Nat × Nat × Nat × Nat)} {post : Int32 → (Nat → va_E) → Prop}
    (hy : plainName y.cls = true) (hw : ws = Cond.codeWith y cc maxL ret hh :: ws') (hlen : (lg_sl As).length ≤ maxL)
    (body : ∀ (p : Program) (e : Env) (s : State) (m : MethodId) (args : Array Value) (below : List Frame) (meth : Method) (c : Code) (ls : Array Slot),
      CallFix p m c cc maxL s args ws y.cls → meth.sig.returnType = ret → meth.locks = false → c.exceptionTable.toList = tableOf hh → (vK D cB cI cJ s ∧ sW ad n s s.heap) → zN s → va_P D vwCl (ip ad n M) s.heap → lv_has ls maxL (lv_args 0 As) →
      W p l e (rmX fr lo) s m args below meth c s.heap [] 0 0 (vx_MQ below (va_Qi post (fun M' t => va_P D vwCl (ip ad n M') t.heap) (ipA ad n)) hXC args s 1 6 (ipA ad n)) (F0 m 0 ls [])) :
    cH l D cB cI cJ ad n M y ws fr lo As post := by
  refine vx_ofWH (cc := cc) (maxL := maxL) (ret := ret) hy hw ?_
  intro p e s m args below meth c s₁ B hml hv
  have hT := vx_table (x := y) B (atoms_spec (ws := ws) B.pre _ (by rw [hw]; exact List.mem_cons_self))
  obtain ⟨rfl, ⟨hP, hK⟩, hZ⟩ := hv
  have hl := lv_entry As (n := maxL) hlen
  rw [lg_entry_eq]
  exact body p e s m _ below meth c _ ⟨B.exec, B.bytes, hml, findClass_of_methodNamed B.named, atoms_spec (ws := ws) B.pre⟩ B.returns B.notSynchronized hT hK hZ hP hl
section QH
variable {p : Program} {l : Launch} {e : Env} {R : Room} {s : State} {m : MethodId} {args : Array Value} {below : List Frame} {meth : Method} {c : Code} {H : Heap} {locs : List Loc} {cells slots : Nat} {Q : State → Prop}
variable {cc : ByteArray} {pc nL : Nat} {ls : Array Slot} {rest st : List Value} {D : va_G} {cB cI cJ : ClassId} {ad : Nat → Nat} {n : Nat} {M : Nat → va_E} {Ts : List Cond} {own : String}
variable {y : MethodName} {ws ws' : List Cond} {bytes : ByteArray} {maxL fr lo index ci i : Nat} {ret : Option FieldType} {As : List Value} {fs : List Value} {E0 : String}
theorem q_hret {v : Int32} {post : Int32 → (Nat → va_E) → Prop} (X : CallFix p m c cc nL s args Ts own) (hr : meth.sig.returnType = some .int) (hlocks : meth.locks = false) (hP : va_P D vwCl (ip ad n M) H) (hS : va_S (ipA ad n) s.heap H locs) (hp : post v M) (hc : cells ≤ 1) (hsl : slots ≤ 6) (hdg : decode cc pc = .ok (.ireturn, 1)) :
    W p l e R s m args below meth c H locs cells slots (vx_MQ below (va_Qi post (fun M' t => va_P D vwCl (ip ad n M') t.heap) (ipA ad n)) hXC args s 1 6 (ipA ad n)) (F0 m pc ls [.int v]) :=
  W.widen hc hsl (vx_ret (W.zret X.1 X.2.1 hr rfl (fun t ht _ => ⟨⟨v, M, rfl, hp, by show va_P D vwCl (ip ad n M) t.heap; rw [ht]; exact hP⟩, hS.F ht⟩) hS.2.2 hdg hlocks))
theorem q_catX (X : CallFix p m c cc nL s args Ts own) (hK : vK D cB cI cJ s ∧ sW ad n s s.heap) (hP : va_P D vwCl (ip ad n M) s.heap) (hE : E0 ∈ sCs) (pre : List ExceptionTableEntry) (x : ExceptionTableEntry) (suf : List ExceptionTableEntry) (hsplit : c.exceptionTable.toList = pre ++ x :: suf)
    (hpass : ∀ z ∈ pre, covers z pc = false ∨ (z.catchType ≠ 0 ∧ ∃ nm : String, (Cond.classLink own z.catchType nm).before args s = true ∧ va_Nc E0 nm s)) (hx : covers x pc = true) (h0 : x.catchType ≠ 0) (hlink : Cond.classLink own x.catchType E0 ∈ Ts)
    (h : vx_Run p l e R s m args below meth c s.heap [] 0 0 1 6 (F0 m pc ls st) rest (fun _ _ _ => False) (XE E0) (fun _ => False))
    (kk : ∀ (H1 : Heap) (locs1 : List Loc) (q : Addr), va_P D vwCl (ip ad n M) H1 → va_S (ipA ad n) s.heap H1 locs1 → W p l e R s m args below meth c H1 locs1 1 6 Q (F0 m x.handlerPc ls [.ref q])) : W p l e R s m args below meth c s.heap [] 0 0 Q (F0 m pc ls st) := by
  intro T hT X9
  rcases h T hT X9 with ⟨v, st₀, t, T', L, h0', X', hL, e1, e2, hq, st1⟩ | ⟨q, st₀, t, T', L, E, ce, h0', X', hL, e1, e2, hx', hce, hcv, hcl, st1⟩
  · exact hq.elim
  · obtain ⟨rfl, g1, g2⟩ := hx'
    rw [h0'] at g1 g2
    have g3 : ∀ a : Nat, a < s.heap.size → T'.heap[a]? = s.heap[a]? := fun a ha => by rw [e1]; exact g2 a ha
    have hP1 : va_P D vwCl (ip ad n M) T'.heap := hP.kept (fun k w hk => g3 _ ((hP k w hk).lt))
    have hS1 : va_S (ipA ad n) s.heap T'.heap (([] : List Loc) ++ L) := ⟨by rw [e1]; exact g1, fun a ha _ => g3 a ha, fun z hz => (hL z (by simpa using hz)).elim⟩
    obtain ⟨t2, a1, b1⟩ := vx_catch (pc := pc) (ls := ls) (rest := rest) X.2.2.2.1 pre x suf hsplit hpass hx h0 (X.2.2.2.2 _ hlink) (va_Nw.use rfl (hK.2.2.2.2.2.1 _ hE)) (H := T'.heap) (q := q) (ce := ce) (by rw [e1]; exact hce) hcv hcl (kk T'.heap _ q hP1 hS1) T' rfl X'
    exact ⟨t2, st1.trans a1, b1⟩
/-- a call that throws, caught here -/
theorem q_catV (hM : cX l D cB cI cJ ad n M y ws fr lo (.ref (ad i) :: As) E0) (X : CallFix p m c cc nL s args Ts own) (hK : vK D cB cI cJ s ∧ sW ad n s s.heap) (hP : va_P D vwCl (ip ad n M) s.heap) (hls : ls.size = nL) (hw : ws = Cond.code y bytes maxL ret :: ws') (hG : GoodIn Ts (wsV own index y.cls y ws)) (hy : YD y As.length)
    (hR : fr + 1 ≤ R.frames ∧ 8 + (maxL + 11) + lo ≤ R.locals) (hi : i < n) (hMi : M i = .inr (ci, fs)) (hcl : (vwCl[ci]?).map (fun q => q.1) = some y.cls) (hst : st = As.reverse ++ .ref (ad i) :: rest) (hcat : (rest.map fun v => v.category).sum ≤ 8) (hf : 1 ≤ R.cells ∧ 6 ≤ R.slots) (hdg : decode cc pc = .ok (.invokevirtual index, 3))
    (hE : E0 ∈ sCs) (pre : List ExceptionTableEntry) (x : ExceptionTableEntry) (suf : List ExceptionTableEntry) (hsplit : c.exceptionTable.toList = pre ++ x :: suf)
    (hpass : ∀ z ∈ pre, covers z pc = false ∨ (z.catchType ≠ 0 ∧ ∃ nm : String, (Cond.classLink own z.catchType nm).before args s = true ∧ va_Nc E0 nm s)) (hx : covers x pc = true) (h0 : x.catchType ≠ 0) (hlink : Cond.classLink own x.catchType E0 ∈ Ts)
    (kk : ∀ (H1 : Heap) (locs1 : List Loc) (q : Addr), va_P D vwCl (ip ad n M) H1 → va_S (ipA ad n) s.heap H1 locs1 → W p l e R s m args below meth c H1 locs1 1 6 Q (F0 m x.handlerPc ls [.ref q])) : W p l e R s m args below meth c s.heap [] 0 0 Q (F0 m pc ls st) := by
  subst hst
  exact q_catX (rest := rest) X hK hP hE pre x suf hsplit hpass hx h0 hlink (vx_runV (As := As) (rest := rest) X hM (cwV As.length X.2.2.2.2 hG hw rfl rfl ⟨rfl, hy⟩ hR) ⟨ip_blind, q_recv hK hP hi hMi hcl, fun U hU hW => ⟨rfl, ip_call hK hP va_S.rf hU hW⟩⟩ rfl rfl hls rfl (lv_room hcat) hdg ⟨by omega, by omega⟩) kk
/-- a static call of what catches -/
theorem q_callH {hh : List (Nat × Nat × Nat × Nat)} {post : Int32 → (Nat → va_E) → Prop} (hM : cH l D cB cI cJ ad n M y ws fr lo As post) (X : CallFix p m c cc nL s args Ts own) (hK : vK D cB cI cJ s ∧ sW ad n s s.heap) (hZ : zN s) (hP : va_P D vwCl (ip ad n M) H) (hS : va_S (ipA ad n) s.heap H locs) (hls : ls.size = nL) (hw : ws = Cond.codeWith y bytes maxL ret hh :: ws') (hG : GoodIn Ts (va_wsS own index y ws)) (hy : YD y As.length)
    (hR : fr + 1 ≤ R.frames ∧ 8 + (maxL + 11) + lo ≤ R.locals) (hst : st = As.reverse ++ rest) (hcat : (rest.map fun v => v.category).sum ≤ 8) (hf : cells + 1 ≤ R.cells ∧ slots + 6 ≤ R.slots) (hdg : decode cc pc = .ok (.invokestatic index, 3))
    (kk : ∀ (r : Int32) (M' : Nat → va_E) (H1 : Heap) (locs1 : List Loc), post r M' → va_P D vwCl (ip ad n M') H1 → va_S (ipA ad n) s.heap H1 locs1 → W p l e R s m args below meth c H1 locs1 (cells + 1) (slots + 6) Q (F0 m (pc + 3) ls (.int r :: rest))) : W p l e R s m args below meth c H locs cells slots Q (F0 m pc ls st) := by
  subst hst
  refine vx_calli (vx_runSX (As := As) (rest := rest) X hM (vx_cwSW As.length X.2.2.2.2 hG hw rfl rfl hy hR) ⟨ipZ_blind, fun U hU hW => ⟨rfl, ipZ_call hK hZ hP hS hU hW⟩⟩ rfl rfl hls rfl (lv_room hcat) hdg ⟨hf.1, hf.2⟩) hS (fun _ _ h => h) (fun _ h => h) (fun _ _ h => h.elim) (fun E ce q9 u t H1 locs1 _ _ h _ _ _ _ _ _ _ => h.elim) (fun r M' t H1 locs1 ht _ hp hP1 _ _ hS1 => ?_)
  exact kk r M' H1 locs1 hp (by rw [← ht]; exact hP1) hS1
end QH
end
