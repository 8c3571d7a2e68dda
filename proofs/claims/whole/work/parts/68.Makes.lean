/-! constructors: the cells that are made stand one behind another, from z on, in the order in which they are made -/
noncomputable section
def nW : Nat → List va_E → va_W
  | _, [] => []
  | z, e :: l => (z, e) :: nW (z + 1) l
theorem nW_at : ∀ (l : List va_E) (z k : Nat), (nW z l)[k]? = (l[k]?).map (fun e => (z + k, e))
  | [], _, k => by simp [nW]
  | e :: l, z, 0 => by simp [nW]
  | e :: l, z, k + 1 => by
    rw [nW, List.getElem?_cons_succ, List.getElem?_cons_succ, nW_at l (z + 1) k]
    congr 1
    funext x
    rw [show z + 1 + k = z + (k + 1) by omega]
theorem nW_app : ∀ (l r : List va_E) (z : Nat), nW z (l ++ r) = nW z l ++ nW (z + l.length) r
  | [], r, z => by simp [nW]
  | e :: l, r, z => by
    rw [List.cons_append, nW, nW, nW_app l r (z + 1), List.cons_append, List.length_cons, show z + 1 + l.length = z + (l.length + 1) by omega]
theorem nW_len : ∀ (l : List va_E) (z : Nat), (nW z l).length = l.length
  | [], _ => rfl
  | e :: l, z => by rw [nW, List.length_cons, List.length_cons, nW_len l (z + 1)]
theorem nW_set : ∀ (l : List va_E) (z k : Nat) (e : va_E), (nW z l).set k (z + k, e) = nW z (l.set k e)
  | [], _, _, _ => rfl
  | a :: l, z, 0, e => rfl
  | a :: l, z, k + 1, e => by
    rw [nW, List.set_cons_succ, List.set_cons_succ, nW, show z + (k + 1) = z + 1 + k by omega, nW_set l (z + 1) k e]
theorem nW_some {l : List va_E} {z k : Nat} {q : Nat × va_E} (h : (nW z l)[k]? = some q) : q.1 = z + k ∧ k < l.length := by
  rw [nW_at] at h
  cases e : l[k]? with
  | none => rw [e] at h; cases h
  | some x => rw [e] at h; cases h; exact ⟨rfl, (List.getElem?_eq_some_iff.mp e).1⟩
theorem nW_D (z : Nat) (l : List va_E) : va_D (fun q => z ≤ q) (nW z l) := by
  refine ⟨fun i j p q hi hj hpq => ?_, fun k q hk => ?_⟩
  · have h1 := (nW_some hi).1
    have h2 := (nW_some hj).1
    omega
  · have := (nW_some hk).1
    show z ≤ q.1
    omega
def nP (D : va_G) (z : Nat) (l : List va_E) (H : Heap) : Prop := Array.size H = z + l.length ∧ va_P D vwCl (nW z l) H
def nK (D : va_G) (cB cI cJ : ClassId) (ad : Nat → Nat) (z0 : Nat) (U : State) : Prop := vK D cB cI cJ U ∧ sH ad (fun q => z0 ≤ q) U U.heap ∧ sV ad U ∧ va_AO "java/lang/String" U
def nU (D : va_G) (cB cI cJ : ClassId) (ad : Nat → Nat) (z0 z : Nat) (l1 : List va_E) (U : State) : Prop := z0 ≤ z ∧ nP D z l1 U.heap ∧ nK D cB cI cJ ad z0 U
abbrev rmN (fr mc ms lo : Nat) : Room := { frames := fr, cells := mc, slots := ms, locals := lo }
def cN (l : Launch) (D : va_G) (cB cI cJ : ClassId) (ad : Nat → Nat) (z0 z : Nat) (l1 l2 : List va_E) (y : MethodName) (ws : List Cond) (fr lo mc ms : Nat) (As : List Value) : Prop :=
  Met l y ws (rmN fr mc ms lo) (va_Pc As (nU D cB cI cJ ad z0 z l1)) (va_Qv (fun _ : Unit => True) (fun _ t => nP D z l2 t.heap) (fun q => z ≤ q)) mc ms (fun q => z ≤ q)
theorem n_body {l : Launch} {D : va_G} {cB cI cJ : ClassId} {ad : Nat → Nat} {z0 z : Nat} {l1 : List va_E} {y : MethodName} {ws ws' : List Cond} {fr lo mc ms : Nat} {As : List Value} {cc : ByteArray} {maxL : Nat} {ret : Option FieldType} {Qc : Array Value → State → Outcome → State → Prop} {free : Addr → Prop}
    (hy : plainName y.cls = true) (hw : ws = Cond.code y cc maxL ret :: ws') (hlen : (lg_sl As).length ≤ maxL)
    (body : ∀ (p : Program) (e : Env) (s : State) (m : MethodId) (args : Array Value) (below : List Frame) (meth : Method) (c : Code) (ls : Array Slot),
      CallFix p m c cc maxL s args ws y.cls → meth.sig.returnType = ret → meth.locks = false → meth.name = y.name → z0 ≤ z → nK D cB cI cJ ad z0 s → Array.size s.heap = z + l1.length → va_P D vwCl (nW z l1) s.heap → lv_has ls maxL (lv_args 0 As) →
      W p l e (rmN fr mc ms lo) s m args below meth c s.heap [] 0 0 (MQ below Qc args s mc ms free) (F0 m 0 ls [])) :
    Met l y ws (rmN fr mc ms lo) (va_Pc As (nU D cB cI cJ ad z0 z l1)) Qc mc ms free := by
  refine Met.ofW (cc := cc) (maxL := maxL) (ret := ret) hy hw ?_
  intro p e s m args below meth c s₁ B hml hv
  obtain ⟨rfl, h0, ⟨hz, hP⟩, hK⟩ := hv
  have hl := lv_entry As (n := maxL) hlen
  rw [lg_entry_eq]
  exact body p e s m _ below meth c _ ⟨B.exec, B.bytes, hml, findClass_of_methodNamed B.named, atoms_spec (ws := ws) B.pre⟩ B.returns B.notSynchronized (name_of_methodNamed B.named B.method).1 h0 hK hz hP hl
section NR
variable {p : Program} {l : Launch} {e : Env} {R : Room} {s : State} {m : MethodId} {args : Array Value} {below : List Frame} {meth : Method} {c : Code} {H : Heap} {locs : List Loc} {cells slots : Nat} {Q : State → Prop}
variable {cc : ByteArray} {pc nL : Nat} {ls : Array Slot} {rest : List Value} {D : va_G} {cB cI cJ : ClassId} {ad : Nat → Nat} {z0 z : Nat} {ws : List va_E} {Ts : List Cond} {own : String}
theorem n_obj (X : CallFix p m c cc nL s args Ts own) (hls : ls.size = nL) {idx a : Nat} (h1 : Cond.methodLink own idx objectInit ∈ Ts) (h2 : Cond.instanceMethod objectInit ∈ Ts) (h3 : Cond.code objectInit ⟨#[0xb1]⟩ 1 none ∈ Ts) (hdg : decode cc pc = .ok (.invokespecial idx, 3)) (hR : 1 ≤ R.frames ∧ 20 ≤ R.locals)
    (kk : W p l e R s m args below meth c H locs cells slots Q (F0 m (pc + 3) ls [])) : W p l e R s m args below meth c H locs cells slots Q (F0 m pc ls [.ref a]) := by
  obtain ⟨hx, hb, hml, hown, hts⟩ := X
  exact W.objInit hx hb hown (hts _ h1) (hts _ h2) (hts _ h3) rfl (hls.trans hml.symm) rfl hdg hR.1 (show 12 ≤ R.locals from Nat.le_trans (by decide) hR.2) kk
theorem n_new (X : CallFix p m c cc nL s args Ts own) (hK : nK D cB cI cJ ad z0 s) (hz : Array.size H = z + ws.length) (hP : va_P D vwCl (nW z ws) H) (hS : va_S (fun q => z ≤ q) s.heap H locs) {C : String} {T : u_T} {N ci index : Nat} (hc : vwCl[ci]? = some (C, T, N)) (hin : ∀ w ∈ u_ws C T N, w ∈ Ts) (ty : Nat → FieldType) (hty : ∀ k, k < N → parseFieldDescriptor (T k).2.2.1 = some (ty k)) (hcl : Cond.classLink own index C ∈ Ts) (hinst : Cond.instantiable C N ∈ Ts) (hini : Cond.initialized C ∈ Ts)
    {fs : List Value} (hfs : ∀ j, j < N → defaultValue (ty j) = vp_V fs j) {q c1 s1 : Nat} (hq : z + ws.length = q) {ws' : List va_E} (hws : ws ++ [(.inr (ci, fs) : va_E)] = ws') (hc1 : cells + 1 = c1) (hs1 : slots + N = s1) (hf : c1 ≤ R.cells ∧ s1 ≤ R.slots) (hdg : decode cc pc = .ok (.new index, 3))
    (kk : ∀ H1 : Heap, Array.size H1 = z + ws'.length → va_P D vwCl (nW z ws') H1 → va_S (fun q => z ≤ q) s.heap H1 locs → W p l e R s m args below meth c H1 locs c1 s1 Q (F0 m (pc + 3) ls (.ref q :: rest))) : W p l e R s m args below meth c H locs cells slots Q (F0 m pc ls rest) := by
  subst hq hws hc1 hs1
  obtain ⟨hx, hb, hml, hown, hts⟩ := X
  have hKn := hK.1.1.1 ci _ hc
  refine W.newcK hx hb hown (hts _ hcl) (hts _ hinst) (hts _ hini) rfl hdg hf.1 hf.2 hKn.2.1 hz fun H1 kC hkC e1 z1 o1 => ?_
  have hk : ∀ (k : Nat) (x : Nat × va_E), (nW z ws)[k]? = some x → H1[x.1]? = H[x.1]? := fun k x hx => o1 x.1 (by have := nW_some hx; omega)
  refine kk H1 (by rw [z1, List.length_append]; show _ = z + (ws.length + 1); omega) ?_ ⟨Nat.le_trans hS.1 (by omega), fun x h1 h2 => (o1 x (by have := hS.1; omega)).trans (hS.2.1 x h1 h2), hS.2.2⟩
  rw [nW_app]
  refine (hP.kept hk).app (fun k x hx => ?_)
  have hz1 : k < 1 := (List.getElem?_eq_some_iff.mp hx).1
  rw [show k = 0 by omega] at hx
  cases hx
  exact ⟨_, hc, (u_born ty hts hin hKn hkC e1 hty).to hfs⟩
theorem n_newa (X : CallFix p m c cc nL s args Ts own) (hK : nK D cB cI cJ ad z0 s) (hz : Array.size H = z + ws.length) (hP : va_P D vwCl (nW z ws) H) (hS : va_S (fun q => z ≤ q) s.heap H locs) {atype : ArrayType} {i : Nat} {cA : ClassId} (hi : (ty3 cB cI cJ)[i]? = some (cA, newarray.typeOf atype)) (hra : ∀ cA : ClassId, va_RA s cA (newarray.typeOf atype) → s.vm.findClass ("[" ++ (newarray.typeOf atype).toString) = some cA) (harr : Cond.arrayClass (newarray.typeOf atype) ∈ Ts)
    {k : Int32} {N : Nat} {a0 : vp_A} (ha : ∀ cA : ClassId, vp_cell cA a0 = arrV cA N (fun _ => defaultValue (newarray.typeOf atype))) (hn : ¬ k < 0) (hN : k.toNatClampNeg = N) (hbytes : N * componentBytes (newarray.typeOf atype) ≤ 536870912) {q c1 s1 : Nat} (hq : z + ws.length = q) {ws' : List va_E} (hws : ws ++ [(.inl (cA, a0) : va_E)] = ws') (hc1 : cells + 1 = c1) (hs1 : slots + N = s1) (hf : c1 ≤ R.cells ∧ s1 ≤ R.slots) (hdg : decode cc pc = .ok (.newarray atype, 2))
    (kk : ∀ H1 : Heap, Array.size H1 = z + ws'.length → va_P D vwCl (nW z ws') H1 → va_S (fun q => z ≤ q) s.heap H1 locs → W p l e R s m args below meth c H1 locs c1 s1 Q (F0 m (pc + 2) ls (.ref q :: rest))) : W p l e R s m args below meth c H locs cells slots Q (F0 m pc ls (.int k :: rest)) := by
  subst hq hws hc1 hs1
  obtain ⟨hx, hb, hml, hown, hts⟩ := X
  refine va_newaK hx hb (hts _ harr) rfl hdg rfl hn hN hbytes hf.1 hf.2 hz fun H1 cA1 e1 z1 o1 hAr hNm => ?_
  have hk : ∀ (k : Nat) (x : Nat × va_E), (nW z ws)[k]? = some x → H1[x.1]? = H[x.1]? := fun k x hx => o1 x.1 (by have := nW_some hx; omega)
  have hcA : cA1 = cA := Option.some.inj (hNm.symm.trans (hra cA (hK.1.1.2 i _ hi).2))
  refine kk H1 (by rw [z1, List.length_append]; show _ = z + (ws.length + 1); omega) ?_ ⟨Nat.le_trans hS.1 (by omega), fun x h1 h2 => (o1 x (by have := hS.1; omega)).trans (hS.2.1 x h1 h2), hS.2.2⟩
  rw [nW_app]
  refine (hP.kept hk).app (fun k x hx => ?_)
  have hz1 : k < 1 := (List.getElem?_eq_some_iff.mp hx).1
  rw [show k = 0 by omega] at hx
  cases hx
  show H1[z + ws.length]? = some (vp_cell _ _)
  rw [ha, ← hcA]
  exact e1
theorem n_put (X : CallFix p m c cc nL s args Ts own) (hK : nK D cB cI cJ ad z0 s) (hz : Array.size H = z + ws.length) (hP : va_P D vwCl (nW z ws) H) (hS : va_S (fun q => z ≤ q) s.heap H locs) {i ci k index a : Nat} {fs fs' : List Value} {v : Value} {ty : FieldType} (F : FL Ts own index ci k) (G : FW ci k ty) (hM : ws[i]? = some (.inr (ci, fs))) (ha : a = z + i) (hn : narrow ty v = v) (hfit : fits ty v = true) (hl : k < fs.length) (hfs : fs.set k v = fs') {ws' : List va_E} (hws : ws.set i (.inr (ci, fs')) = ws') (hdg : decode cc pc = .ok (.putfield index, 3))
    (kk : ∀ (H1 : Heap) (locs1 : List Loc), Array.size H1 = z + ws'.length → va_P D vwCl (nW z ws') H1 → va_S (fun q => z ≤ q) s.heap H1 locs1 → W p l e R s m args below meth c H1 locs1 cells slots Q (F0 m (pc + 3) ls rest)) : W p l e R s m args below meth c H locs cells slots Q (F0 m pc ls (v :: .ref a :: rest)) := by
  obtain ⟨hx, hb, hml, hown, hts⟩ := X
  obtain ⟨C, T, N, h1, h2, h3, h4⟩ := F
  obtain ⟨C', T', N', t, g1, g2, g3, g4, g5, g6⟩ := G
  obtain ⟨rfl, rfl, rfl⟩ : C' = C ∧ T' = T ∧ N' = N := by
    have := g1.symm.trans h1
    simp only [Option.some.injEq, Prod.mk.injEq] at this
    exact this
  subst ha hfs hws
  have hw : (nW z ws)[i]? = some (z + i, .inr (ci, fs)) := by rw [nW_at, hM]; rfl
  have hD := nW_D z ws
  have hap := va_apart (own := own) hts h2 t g2 g3 hK.1.1 h1
  obtain ⟨r, r1, cell, q1, q2, q3, q4⟩ := hP i _ hw
  obtain rfl : r = (C', T', N') := Option.some.inj (r1.symm.trans h1)
  obtain ⟨hL, hfc, kC, hkC, hkind⟩ := hK.1.1.1 ci _ h1
  obtain ⟨cf, kf, fi, f, hi, hsl⟩ := hL k h3
  have hlay := hts _ (h2 _ (u_in_lay h3))
  unfold u_lay at hlay
  rw [if_neg (by rw [g5]; decide)] at hlay
  have hst := (u_facts hfc hkC (u_lays hts h2 h3) hi).1
  have h6 := u_store hfc hkC hkind hlay hi g6 hn hfit
  refine W.putK hx hb (f := f) ⟨hown, hts _ h4, ⟨_, _, _, hi⟩, hst⟩ (by rw [q2]; exact h6) q1 q3 (by rw [hsl]; exact k2_hasslot (q4 k h3)) rfl rfl hdg fun H1 e1 e2 e3 => ?_
  rw [hsl] at e1 ⊢
  have hP1 := hP.set hD hw (e := .inr (ci, fs.set k v)) ⟨_, h1, t_OB.to (V := updV (vp_V fs) k v) ⟨_, e1, q2, q3, t_set q4 hap h3 v⟩ (fun j _ => vp_updV_set hl v j)⟩ e3
  rw [nW_set] at hP1
  exact kk H1 _ (by rw [e2, List.length_set]; exact hz) hP1 (hS.put e2 e3 (Nat.le_add_right z i))
theorem n_putF (X : CallFix p m c cc nL s args Ts own) (hK : nK D cB cI cJ ad z0 s) (hz : Array.size H = z + ws.length) (hP : va_P D vwCl (nW z ws) H) (hS : va_S (fun q => z ≤ q) s.heap H locs) {i ci k index a : Nat} {fs fs' : List Value} {v : Value} {ty : FieldType} (F : FL Ts own index ci k) (G : FF own ci k ty) (hin : meth.name = "<init>") (hM : ws[i]? = some (.inr (ci, fs))) (ha : a = z + i) (hn : narrow ty v = v) (hfit : fits ty v = true) (hl : k < fs.length) (hfs : fs.set k v = fs') {ws' : List va_E} (hws : ws.set i (.inr (ci, fs')) = ws') (hdg : decode cc pc = .ok (.putfield index, 3))
    (kk : ∀ (H1 : Heap) (locs1 : List Loc), Array.size H1 = z + ws'.length → va_P D vwCl (nW z ws') H1 → va_S (fun q => z ≤ q) s.heap H1 locs1 → W p l e R s m args below meth c H1 locs1 cells slots Q (F0 m (pc + 3) ls rest)) : W p l e R s m args below meth c H locs cells slots Q (F0 m pc ls (v :: .ref a :: rest)) := by
  obtain ⟨hx, hb, hml, hown, hts⟩ := X
  obtain ⟨C, T, N, h1, h2, h3, h4⟩ := F
  obtain ⟨C', T', N', t, g1, g2, g3, g4, g5, g6, g7⟩ := G
  obtain ⟨rfl, rfl, rfl⟩ : C' = C ∧ T' = T ∧ N' = N := by
    have := g1.symm.trans h1
    simp only [Option.some.injEq, Prod.mk.injEq] at this
    exact this
  subst ha hfs hws
  have hw : (nW z ws)[i]? = some (z + i, .inr (ci, fs)) := by rw [nW_at, hM]; rfl
  have hD := nW_D z ws
  have hap := va_apart (own := own) hts h2 t g2 g3 hK.1.1 h1
  obtain ⟨r, r1, cell, q1, q2, q3, q4⟩ := hP i _ hw
  obtain rfl : r = (C', T', N') := Option.some.inj (r1.symm.trans h1)
  obtain ⟨hL, hfc, kC, hkC, hkind⟩ := hK.1.1.1 ci _ h1
  obtain ⟨cf, kf, fi, f, hi, hsl⟩ := hL k h3
  have hlay := hts _ (h2 _ (u_in_lay h3))
  unfold u_lay at hlay
  rw [if_pos g5] at hlay
  have hst := (u_facts hfc hkC (u_lays hts h2 h3) hi).1
  have hcf : m.cls = cf := by
    obtain ⟨_, _, c1, _, _, _, -, -, hf1, -, -, -, hown2, -⟩ := Cond.laysFinal_spec hlay
    have e1 : c1 = cf := by have := hi.symm.trans hf1; simp at this; exact this.1.symm
    rw [g6] at hown2
    rw [← e1]
    exact Option.some.inj (hown.symm.trans hown2)
  have h6 := u_fits hfc hkC hkind (Or.inr hlay) hi g7 hn hfit
  refine W.putFinK hx hb hown (hts _ h4) hi hst hcf hin (by rw [q2]; exact h6) q1 q3 (by rw [hsl]; exact k2_hasslot (q4 k h3)) rfl rfl hdg fun H1 e1 e2 e3 => ?_
  rw [hsl] at e1 ⊢
  have hP1 := hP.set hD hw (e := .inr (ci, fs.set k v)) ⟨_, h1, t_OB.to (V := updV (vp_V fs) k v) ⟨_, e1, q2, q3, t_set q4 hap h3 v⟩ (fun j _ => vp_updV_set hl v j)⟩ e3
  rw [nW_set] at hP1
  exact kk H1 _ (by rw [e2, List.length_set]; exact hz) hP1 (hS.put e2 e3 (Nat.le_add_right z i))
theorem n_get (X : CallFix p m c cc nL s args Ts own) (hK : nK D cB cI cJ ad z0 s) (hP : va_P D vwCl (nW z ws) H) {i ci k index a : Nat} {fs : List Value} {v : Value} (F : FL Ts own index ci k) (hM : ws[i]? = some (.inr (ci, fs))) (ha : a = z + i) (hv : fs[k]? = some v) (hdg : decode cc pc = .ok (.getfield index, 3))
    (kk : W p l e R s m args below meth c H locs cells slots Q (F0 m (pc + 3) ls (v :: rest))) : W p l e R s m args below meth c H locs cells slots Q (F0 m pc ls (.ref a :: rest)) := by
  obtain ⟨hx, hb, -, hown, hts⟩ := X
  obtain ⟨C, T, N, h1, h2, h3, h4⟩ := F
  subst ha
  exact va_get (C := C) (T := T) (N := N) hx hb hts h2 hown hK.1.1 hP i (show (nW z ws)[i]? = some (z + i, .inr (ci, fs)) by rw [nW_at, hM]; rfl) h1 k h3 (hts _ h4) (fun _ h9 => h9) hv hdg kk
theorem n_ret (X : CallFix p m c cc nL s args Ts own) (hr : meth.sig.returnType = none) (hlocks : meth.locks = false) {l2 : List va_E} (hz : Array.size H = z + ws.length) (hP : va_P D vwCl (nW z ws) H) (hS : va_S (fun q => z ≤ q) s.heap H locs) (he : ws = l2) (hdg : decode cc pc = .ok (.return_, 1)) :
    W p l e R s m args below meth c H locs cells slots (MQ below (va_Qv (fun _ : Unit => True) (fun _ t => nP D z l2 t.heap) (fun q => z ≤ q)) args s cells slots (fun q => z ≤ q)) (F0 m pc ls []) := by
  subst he
  exact W.vret X.1 X.2.1 hr (fun t ht hW => ⟨⟨(), rfl, trivial, by show nP D z ws t.heap; rw [ht]; exact ⟨hz, hP⟩⟩, hS.F ht⟩) hS.2.2 hdg hlocks
theorem nU_blind {As : List Value} {l1 : List va_E} : FrameBlind (va_Pc As (nU D cB cI cJ ad z0 z l1)) := fun a U g mk q => by
  obtain ⟨q0, h0, hP, hK, hS, hV, hO⟩ := q
  exact ⟨q0, h0, hP, ⟨va_K.moved (u := U) (U := U.calling g mk a) (Vm.Alike.refl U.vm) hK.1, vN.same (U := U.calling g mk a) rfl hK.2⟩, sH.moved (u := U) (U := U.calling g mk a) (Vm.Alike.refl U.vm) hS, sV.same (U := U.calling g mk a) rfl hV, va_AO.moved (u := U) (U := U.calling g mk a) (Vm.Alike.refl U.vm) hO⟩
theorem n_gsE (X : CallFix p m c cc nL s args Ts own) (h0 : z0 ≤ z) (hK : nK D cB cI cJ ad z0 s) (hS : va_S (fun q => z ≤ q) s.heap H locs) {nm : String} {i index : Nat} (hi : i < 20) (hnm : wNm.getD i "" = nm) (hw : Cond.fieldLink own index "PoundsOver$Word" nm "LPoundsOver$Word;" ∈ Ts) (hdg : decode cc pc = .ok (.getstatic index, 3))
    (kk : W p l e R s m args below meth c H locs cells slots Q (F0 m (pc + 3) ls (.ref (ad (1000 + i)) :: rest))) : W p l e R s m args below meth c H locs cells slots Q (F0 m pc ls rest) := by
  obtain ⟨hx, hb, -, hown, hts⟩ := X
  have h1 := (hK.2.1.1.1 i hi).1
  rw [hnm] at h1
  have hS0 : va_S (fun q => z0 ≤ q) s.heap H locs := ⟨hS.1, fun q h1 h2 => hS.2.1 q h1 (fun h => h2 (Nat.le_trans h0 h)), fun l hl => Nat.le_trans h0 (hS.2.2 l hl)⟩
  exact va_gets hx hb h1 hS0 hown (hts _ hw) (fun _ h => h) hdg kk
theorem n_newS (X : CallFix p m c cc nL s args Ts own) (hK : nK D cB cI cJ ad z0 s) (hz : Array.size H = z + ws.length) (hP : va_P D vwCl (nW z ws) H) (hS : va_S (fun q => z ≤ q) s.heap H locs) {index : Nat} (hcl : Cond.classLink own index "java/lang/String" ∈ Ts) {k : Int32} {N : Nat} (hn : ¬ k < 0) (hN : k.toNatClampNeg = N) (hbytes : N * 4 ≤ 536870912) {q c1 s1 : Nat} (hq : z + ws.length = q) {ws' : List va_E} (hws : ws ++ [(.inl (ad 5000, N, .inr (.inr (.inr (.inr (fun _ => none))))) : va_E)] = ws') (hc1 : cells + 1 = c1) (hs1 : slots + N = s1) (hf : c1 ≤ R.cells ∧ s1 ≤ R.slots) (hdg : decode cc pc = .ok (.anewarray index, 3))
    (kk : ∀ H1 : Heap, Array.size H1 = z + ws'.length → va_P D vwCl (nW z ws') H1 → va_S (fun q => z ≤ q) s.heap H1 locs → W p l e R s m args below meth c H1 locs c1 s1 Q (F0 m (pc + 3) ls (.ref q :: rest))) : W p l e R s m args below meth c H locs cells slots Q (F0 m pc ls (.int k :: rest)) := by
  subst hq hws hc1 hs1
  obtain ⟨hx, hb, hml, hown, hts⟩ := X
  subst hN
  refine W.anew hx hb hown (hts _ hcl) (va_AO.use hK.2.2.2) rfl hdg rfl hn hbytes hf.1 hf.2 fun cA kA comp f1 f2 f3 f4 => ?_
  generalize hH1 : H.push ({ cls := cA, slots := Array.replicate k.toNatClampNeg .null, vm := .none } : Cell) = H1
  have z1 : Array.size H1 = Array.size H + 1 := by rw [← hH1, Array.size_push]
  have e1 : H1[Array.size H]? = some (arrV cA k.toNatClampNeg (fun _ => .null)) := by rw [← hH1, Array.getElem?_push_size, ← arrV_new]
  have o1 : ∀ q : Nat, q < Array.size H → H1[q]? = H[q]? := fun q hq => by rw [← hH1, Array.getElem?_push, if_neg (Nat.ne_of_lt hq)]
  have hk : ∀ (k : Nat) (x : Nat × va_E), (nW z ws)[k]? = some x → H1[x.1]? = H[x.1]? := fun k x hx => o1 x.1 (by have := nW_some hx; omega)
  have hcA : cA = ad 5000 := by
    obtain ⟨kA2, comp2, g1, g2, g3, g4⟩ := hK.2.2.1.2.2.2.2.2.2
    exact Option.some.inj (f1.symm.trans g4)
  have hzz : Array.size H = z + ws.length := hz
  rw [hzz]
  refine kk H1 (by rw [z1, List.length_append]; show _ = z + (ws.length + 1); omega) ?_ ⟨Nat.le_trans hS.1 (by omega), fun x h1 h2 => (o1 x (by have := hS.1; omega)).trans (hS.2.1 x h1 h2), hS.2.2⟩
  rw [nW_app]
  refine (hP.kept hk).app (fun k x hx => ?_)
  have hz1 : k < 1 := (List.getElem?_eq_some_iff.mp hx).1
  rw [show k = 0 by omega] at hx
  cases hx
  show H1[z + ws.length]? = some (vp_cell _ _)
  rw [vp_cell_q, ← hcA, ← hzz]
  exact e1
theorem n_ldcS (X : CallFix p m c cc nL s args Ts "PoundsOverModel") (hK : nK D cB cI cJ ad z0 s) {tx : String} {index i : Nat} (hq : (index, tx, i) ∈ wRs) (hdg : decode cc pc = .ok (.ldc index, 2))
    (kk : W p l e R s m args below meth c H locs cells slots Q (F0 m (pc + 2) ls (.ref (ad (2000 + i)) :: rest))) : W p l e R s m args below meth c H locs cells slots Q (F0 m pc ls rest) :=
  va_ldcS X.1 X.2.1 X.2.2.2.1 (hK.2.2.1.2.2.2.2.1 (index, tx, i) hq) hdg kk
theorem n_astS (X : CallFix p m c cc nL s args Ts own) (h0 : z0 ≤ z) (hK : nK D cB cI cJ ad z0 s) (hz : Array.size H = z + ws.length) (hP : va_P D vwCl (nW z ws) H) (hS : va_S (fun q => z ≤ q) s.heap H locs) {i k j t a : Nat} {f : Nat → Option Nat} (hM : ws[i]? = some (.inl (ad 5000, k, .inr (.inr (.inr (.inr f)))))) (ha : a = z + i) (hj : j < k) (hk : k < 2 ^ 31) (ht : t < 20) {v : Int32} (hv : v = nI j) {ws' : List va_E} (hws : ws.set i (.inl (ad 5000, k, .inr (.inr (.inr (.inr (va_up f j (some (ad (2000 + t))))))))) = ws') (hdg : decode cc pc = .ok (.aastore, 1))
    (kk : ∀ (H1 : Heap) (locs1 : List Loc), Array.size H1 = z + ws'.length → va_P D vwCl (nW z ws') H1 → va_S (fun q => z ≤ q) s.heap H1 locs1 → W p l e R s m args below meth c H1 locs1 cells slots Q (F0 m (pc + 1) ls rest)) : W p l e R s m args below meth c H locs cells slots Q (F0 m pc ls (.ref (ad (2000 + t)) :: .int v :: .ref a :: rest)) := by
  subst ha hws hv
  have hw : (nW z ws)[i]? = some (z + i, .inl (ad 5000, k, .inr (.inr (.inr (.inr f))))) := by rw [nW_at, hM]; rfl
  have hjc : (nI j).toNatClampNeg = j := nI_clamp (by omega)
  obtain ⟨cellV, g1, g3, g2, g4⟩ := (hK.2.1.2.2.1.1 t ht).1
  have hlt : ad (2000 + t) < Array.size s.heap := (Array.getElem?_eq_some_iff.mp g1).1
  have g1' : H[ad (2000 + t)]? = some cellV := (hS.2.1 _ hlt (fun h => g4 (Nat.le_trans h0 h))).trans g1
  obtain ⟨kA, comp, k1, k2, k3, k4⟩ := hK.2.2.1.2.2.2.2.2.2
  obtain ⟨kE, hkE, -⟩ := Vm.findClass_spec k3
  obtain ⟨kC, hkC, -⟩ := Vm.findClass_spec g2
  refine W.aast X.1 X.2.1 (hP i _ hw) (fun q h => by cases h) (fun h => by cases h) k1 k2 rfl hkE ⟨nI_pos (by omega), by show _ < (arrV _ _ _).slots.size; rw [arrV_size, hjc]; exact hj⟩ g1' (fun q h => by rw [h] at g3; cases g3) hkC (vb_asgS _ _ k3 g2) rfl rfl hdg fun H1 e z1 oq => ?_
  have hP1 := hP.set (nW_D z ws) hw (e := .inl (ad 5000, k, .inr (.inr (.inr (.inr (va_up f j (some (ad (2000 + t))))))))) ?_ oq
  · rw [nW_set] at hP1
    exact kk H1 _ (by rw [z1, List.length_set]; exact hz) hP1 (hS.put z1 oq (Nat.le_add_right z i))
  · show H1[z + i]? = some (vp_cell _ _)
    rw [e, vp_cell_q, vp_cell_q, arrV_store, hjc]
    congr 2
    funext q
    by_cases hq : q = j
    · subst hq
      simp [updV, va_up, va_rf]
    · simp [updV, va_up, hq]
/-- the world of a constructor that is called on the last cell -/
theorem nU_call {pre : List va_E} {l1 : List va_E} {U : State} (h0 : z0 ≤ z) (hK : nK D cB cI cJ ad z0 s) (hz : Array.size H = z + (pre ++ l1).length) (hP : va_P D vwCl (nW z (pre ++ l1)) H) (hS : va_S (fun q => z ≤ q) s.heap H locs) (hU : U.heap = H) (hW : s.WarmedH U.vm) : nU D cB cI cJ ad z0 (z + pre.length) l1 U := by
  refine ⟨by omega, ⟨by rw [hU, hz, List.length_append]; omega, ?_⟩, ⟨va_K.moved hW.alike hK.1.1, vN.warm hW hK.1.2⟩, sH.moved hW.alike (hK.2.1.kept (fun a h1 h2 => ?_)), sV.warm hW hK.2.2.1, va_AO.moved hW.alike hK.2.2.2⟩
  · rw [hU]
    intro k q hk
    refine hP (pre.length + k) q ?_
    rw [nW_app, List.getElem?_append_right (by rw [nW_len]; omega), nW_len, show pre.length + k - pre.length = k by omega]
    exact hk
  · rw [hU]
    exact hS.2.1 a h1 (fun h => h2 (Nat.le_trans h0 h))
theorem n_after {pre l2 : List va_E} {H1 : Heap} (hP : va_P D vwCl (nW z (pre ++ ws)) H) (h2 : nP D (z + pre.length) l2 H1) (hsz : Array.size H ≤ Array.size H1) (hz : Array.size H = z + (pre ++ ws).length) (hk : ∀ q : Nat, q < Array.size H → ¬ (z + pre.length ≤ q) → H1[q]? = H[q]?) : Array.size H1 = z + (pre ++ l2).length ∧ va_P D vwCl (nW z (pre ++ l2)) H1 := by
  refine ⟨by rw [h2.1, List.length_append]; omega, ?_⟩
  rw [nW_app]
  refine va_P.app (va_P.kept (H := H) (fun k q hk2 => hP k q ?_) (fun k q hk2 => ?_)) h2.2
  · rw [nW_app, List.getElem?_append_left (List.getElem?_eq_some_iff.mp hk2).1]
    exact hk2
  · have h3 := nW_some hk2
    exact hk q.1 (by rw [hz, List.length_append]; omega) (by omega)
theorem n_callI {pre l1 l2 : List va_E} {y : MethodName} {wsY wsY' : List Cond} {bytes : ByteArray} {maxL fr lo mc ms index b : Nat} {As st : List Value} (hM : cN l D cB cI cJ ad z0 (z + pre.length) l1 l2 y wsY fr lo mc ms (.ref b :: As)) (X : CallFix p m c cc nL s args Ts own) (h0 : z0 ≤ z) (hK : nK D cB cI cJ ad z0 s) {ws' : List va_E} {c1 s1 : Nat} (hwi : pre ++ l1 = ws) (hz : Array.size H = z + ws.length) (hP : va_P D vwCl (nW z ws) H) (hS : va_S (fun q => z ≤ q) s.heap H locs) (hls : ls.size = nL) (hw : wsY = Cond.code y bytes maxL none :: wsY') (hG : GoodIn Ts wsY) (hini : Cond.initialized y.cls ∈ Ts) (hlk : Cond.methodLink own index y ∈ Ts) (hinst : Cond.instanceMethod y ∈ Ts) (hnm : y.name = "<init>") (hy : YD y As.length)
    (hR : fr + 1 ≤ R.frames ∧ 8 + (maxL + 11) + lo ≤ R.locals) (hst : st = As.reverse ++ .ref b :: rest) (hcat : (rest.map fun v => v.category).sum ≤ 8) (hws : pre ++ l2 = ws') (hc1 : cells + mc = c1) (hs1 : slots + ms = s1) (hf : c1 ≤ R.cells ∧ s1 ≤ R.slots) (hdg : decode cc pc = .ok (.invokespecial index, 3))
    (kk : ∀ (H1 : Heap) (locs1 : List Loc), Array.size H1 = z + ws'.length → va_P D vwCl (nW z ws') H1 → va_S (fun q => z ≤ q) s.heap H1 locs1 → W p l e R s m args below meth c H1 locs1 c1 s1 Q (F0 m (pc + 3) ls rest)) : W p l e R s m args below meth c H locs cells slots Q (F0 m pc ls st) := by
  subst hst hwi hws hc1 hs1
  refine va_callv (va_runI (As := As) (rest := rest) X hM (cwI As.length X.2.2.2.2 hG hw rfl rfl (X.2.2.2.2 _ hini) (X.2.2.2.2 _ hlk) (X.2.2.2.2 _ hinst) hnm hy hR) ⟨nU_blind, fun U hU hW => ⟨rfl, nU_call h0 hK hz hP hS hU hW⟩⟩ rfl rfl hls rfl (lv_room hcat) hdg hf) hS (fun q _ h => Nat.le_trans (Nat.le_add_right _ _) h) (fun q h => Nat.le_trans (Nat.le_add_right _ _) h) (fun u t H1 locs1 ht _ _ hB hsz hk hS1 => ?_)
  obtain ⟨hz1, hP1⟩ := n_after hP (by rw [← ht]; exact hB) hsz hz hk
  exact kk H1 locs1 hz1 hP1 hS1
theorem n_callN {pre l1 l2 : List va_E} {y : MethodName} {wsY wsY' : List Cond} {bytes : ByteArray} {maxL fr lo mc ms index b : Nat} {As st : List Value} (hM : cN l D cB cI cJ ad z0 (z + pre.length) l1 l2 y wsY fr lo mc ms (.ref b :: As)) (X : CallFix p m c cc nL s args Ts own) (h0 : z0 ≤ z) (hK : nK D cB cI cJ ad z0 s) {ws' : List va_E} {c1 s1 : Nat} (hwi : pre ++ l1 = ws) (hz : Array.size H = z + ws.length) (hP : va_P D vwCl (nW z ws) H) (hS : va_S (fun q => z ≤ q) s.heap H locs) (hls : ls.size = nL) (hw : wsY = Cond.code y bytes maxL none :: wsY') (hG : GoodIn Ts wsY) (hini : Cond.initialized y.cls ∈ Ts) {host : String} (hlk : va_Nw (.methodLinkNest own index y host) s) (hinst : Cond.instanceMethod y ∈ Ts) (hnm : y.name = "<init>") (hy : YD y As.length)
    (hR : fr + 1 ≤ R.frames ∧ 8 + (maxL + 11) + lo ≤ R.locals) (hst : st = As.reverse ++ .ref b :: rest) (hcat : (rest.map fun v => v.category).sum ≤ 8) (hws : pre ++ l2 = ws') (hc1 : cells + mc = c1) (hs1 : slots + ms = s1) (hf : c1 ≤ R.cells ∧ s1 ≤ R.slots) (hdg : decode cc pc = .ok (.invokespecial index, 3))
    (kk : ∀ (H1 : Heap) (locs1 : List Loc), Array.size H1 = z + ws'.length → va_P D vwCl (nW z ws') H1 → va_S (fun q => z ≤ q) s.heap H1 locs1 → W p l e R s m args below meth c H1 locs1 c1 s1 Q (F0 m (pc + 3) ls rest)) : W p l e R s m args below meth c H locs cells slots Q (F0 m pc ls st) := by
  subst hst hwi hws hc1 hs1
  refine va_callv (va_runIN (As := As) (rest := rest) X hM ⟨va_cnB As.length X.2.2.2.2 hG hw rfl rfl hlk (X.2.2.2.2 _ hini) hy hR, hnm, X.2.2.2.2 _ hinst⟩ ⟨nU_blind, fun U hU hW => ⟨rfl, nU_call h0 hK hz hP hS hU hW⟩⟩ rfl rfl hls rfl (lv_room hcat) hdg hf) hS (fun q _ h => Nat.le_trans (Nat.le_add_right _ _) h) (fun q h => Nat.le_trans (Nat.le_add_right _ _) h) (fun u t H1 locs1 ht _ _ hB hsz hk hS1 => ?_)
  obtain ⟨hz1, hP1⟩ := n_after hP (by rw [← ht]; exact hB) hsz hz hk
  exact kk H1 locs1 hz1 hP1 hS1
end NR
end
