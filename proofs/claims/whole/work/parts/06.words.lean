/-! The words' constants: rows. A constant is named by its place i < 20; it stands at ad (1000 + i). -/
theorem w_len : wNm.length = 20 := rfl
theorem w_ln : ∀ i : Nat, i < 20 → wLn.getD i 0 ≤ 6 := by decide +kernel
/-- a text's bytes are signs of ASCII -/
theorem w_by : ∀ i : Nat, i < 20 → ∀ k : Nat, k < wLn.getD i 0 → ((((wBy.getD i []).getD k 0 &&& 255) : Int32).toUInt32 % 65536).toInt32 = (wBy.getD i []).getD k 0 := by decide +kernel
def cRe (l : Launch) (D : va_G) (cB cI cJ : ClassId) (ad : Nat → Nat) (n : Nat) (M : Nat → va_E) (y : MethodName) (ws : List Cond) (fr lo : Nat) (As : List Value) (r : Nat) : Prop :=
  Met l y ws (rmOf fr lo) (va_Pc As (ipW D cB cI cJ ad n M)) (va_Se ad (fun x => x = some r)) 0 0 (fun _ => False)
def cRv (l : Launch) (D : va_G) (cB cI cJ : ClassId) (ad : Nat → Nat) (n : Nat) (M : Nat → va_E) (y : MethodName) (ws : List Cond) (fr lo : Nat) (As : List Value) : Prop :=
  Met l y ws (rmOf fr lo) (va_Pc As (ipW D cB cI cJ ad n M)) (va_Sv (fun _ => True)) 0 0 (fun _ => False)
theorem w_nc {i k : Nat} (hi : i < 20) (hk : k < wLn.getD i 0) : narrow .char (.int ((wBy.getD i []).getD k 0)) = .int ((wBy.getD i []).getD k 0) := by
  rw [← w_by i hi k hk]
  exact pk_nc _
theorem w_sh : ∀ i : Nat, i < 20 → (nI (wLn.getD i 0) >>> ((0 : Int32) &&& 31)) = nI (wLn.getD i 0) := by decide +kernel
section QW
variable {p : Program} {l : Launch} {e : Env} {R : Room} {s : State} {m : MethodId} {args : Array Value} {below : List Frame} {meth : Method} {c : Code} {H : Heap} {locs : List Loc} {cells slots : Nat} {Q : State → Prop}
variable {cc : ByteArray} {pc nL : Nat} {ls : Array Slot} {rest st : List Value} {D : va_G} {cB cI cJ : ClassId} {ad : Nat → Nat} {n : Nat} {M : Nat → va_E} {Ts : List Cond} {own : String}
variable {y : MethodName} {ws ws' : List Cond} {bytes : ByteArray} {maxL fr lo index i : Nat} {ret : Option FieldType} {As : List Value}
/-- getstatic of a word's constant -/
theorem q_gsE (X : CallFix p m c cc nL s args Ts own) (hK : vK D cB cI cJ s ∧ sW ad n s s.heap) (hS : va_S (ipA ad n) s.heap H locs) {nm : String} (hi : i < 20) (hnm : wNm.getD i "" = nm) (hw : Cond.fieldLink own index "PoundsOver$Word" nm "LPoundsOver$Word;" ∈ Ts) (hdg : decode cc pc = .ok (.getstatic index, 3))
    (kk : W p l e R s m args below meth c H locs cells slots Q (F0 m (pc + 3) ls (.ref (ad (1000 + i)) :: rest))) : W p l e R s m args below meth c H locs cells slots Q (F0 m pc ls rest) := by
  obtain ⟨hx, hb, -, hown, hts⟩ := X
  have h1 := (hK.2.1.1.1 i hi).1
  rw [hnm] at h1
  exact va_gets hx hb h1 hS hown (hts _ hw) (fun _ h => h) hdg kk
/-- getstatic of the array of them all, as a nest mate -/
theorem q_gsW (X : CallFix p m c cc nL s args Ts "PoundsOver$Tape") (hK : vK D cB cI cJ s ∧ sW ad n s s.heap) (hS : va_S (ipA ad n) s.heap H locs) (hdg : decode cc pc = .ok (.getstatic 68, 3))
    (kk : W p l e R s m args below meth c H locs cells slots Q (F0 m (pc + 3) ls (.ref (ad 4000) :: rest))) : W p l e R s m args below meth c H locs cells slots Q (F0 m pc ls rest) := by
  obtain ⟨hx, hb, -, hown, hts⟩ := X
  exact va_getsN hx hb hK.2.1.2.2.2.1 hS hown (va_Nw.use rfl hK.2.2.1) (fun _ h => h) hdg kk
theorem q_alenW (X : CallFix p m c cc nL s args Ts own) (hK : vK D cB cI cJ s ∧ sW ad n s s.heap) (hS : va_S (ipA ad n) s.heap H locs) (hdg : decode cc pc = .ok (.arraylength, 1))
    (kk : W p l e R s m args below meth c H locs cells slots Q (F0 m (pc + 1) ls (.int 20 :: rest))) : W p l e R s m args below meth c H locs cells slots Q (F0 m pc ls (.ref (ad 4000) :: rest)) :=
  va_tlen X.1 X.2.1 hK.2.1.2.2.2.2.1 hS rfl hdg kk
theorem q_aaldW (X : CallFix p m c cc nL s args Ts own) (hK : vK D cB cI cJ s ∧ sW ad n s s.heap) (hS : va_S (ipA ad n) s.heap H locs) (hi : i < 20) (hdg : decode cc pc = .ok (.aaload, 1))
    (kk : W p l e R s m args below meth c H locs cells slots Q (F0 m (pc + 1) ls (.ref (ad (1000 + i)) :: rest))) : W p l e R s m args below meth c H locs cells slots Q (F0 m pc ls (.int (nI i) :: .ref (ad 4000) :: rest)) :=
  vb_tq X.1 X.2.1 hK.2.1.2.2.2.2.1 hS (vp_in_nI hi (by decide)) (by rw [nI_clamp (by omega)]) hdg kk
/-- a word's number of a kind, of a value -/
theorem q_getK (X : CallFix p m c cc nL s args Ts own) (hK : vK D cB cI cJ s ∧ sW ad n s s.heap) (hS : va_S (ipA ad n) s.heap H locs) (hi : i < 20) (hw : Cond.fieldLink own index "PoundsOver$Word" "thingKind" "I" ∈ Ts) (hdg : decode cc pc = .ok (.getfield index, 3))
    (kk : W p l e R s m args below meth c H locs cells slots Q (F0 m (pc + 3) ls (.int (wKd.getD i 0) :: rest))) : W p l e R s m args below meth c H locs cells slots Q (F0 m pc ls (.ref (ad (1000 + i)) :: rest)) :=
  va_getE (ad := fun i => ad (1000 + i)) (i := i) (F := wFl) (q := ("PoundsOver$Word", "thingKind", "I", wKd)) X.1 X.2.1 hK.2.1.1 hi hS X.2.2.2.1 (List.mem_cons_of_mem _ List.mem_cons_self) (X.2.2.2.2 _ hw) (fun _ h => h) hdg kk
theorem q_getV (X : CallFix p m c cc nL s args Ts own) (hK : vK D cB cI cJ s ∧ sW ad n s s.heap) (hS : va_S (ipA ad n) s.heap H locs) (hi : i < 20) (hw : Cond.fieldLink own index "PoundsOver$Word" "valueNumber" "I" ∈ Ts) (hdg : decode cc pc = .ok (.getfield index, 3))
    (kk : W p l e R s m args below meth c H locs cells slots Q (F0 m (pc + 3) ls (.int (wVl.getD i 0) :: rest))) : W p l e R s m args below meth c H locs cells slots Q (F0 m pc ls (.ref (ad (1000 + i)) :: rest)) :=
  va_getE (ad := fun i => ad (1000 + i)) (i := i) (F := wFl) (q := ("PoundsOver$Word", "valueNumber", "I", wVl)) X.1 X.2.1 hK.2.1.1 hi hS X.2.2.2.1 (List.mem_cons_of_mem _ (List.mem_cons_of_mem _ List.mem_cons_self)) (X.2.2.2.2 _ hw) (fun _ h => h) hdg kk
/-- a word's text -/
theorem q_getX (X : CallFix p m c cc nL s args Ts own) (hK : vK D cB cI cJ s ∧ sW ad n s s.heap) (hS : va_S (ipA ad n) s.heap H locs) (hi : i < 20) (hw : Cond.fieldLink own index "PoundsOver$Word" "letters" "Ljava/lang/String;" ∈ Ts) (hdg : decode cc pc = .ok (.getfield index, 3))
    (kk : W p l e R s m args below meth c H locs cells slots Q (F0 m (pc + 3) ls (.ref (ad (2000 + i)) :: rest))) : W p l e R s m args below meth c H locs cells slots Q (F0 m pc ls (.ref (ad (1000 + i)) :: rest)) :=
  va_getX (ad := fun i => ad (1000 + i)) (i := i) X.1 X.2.1 hK.2.1.2.1 hi hS X.2.2.2.1 (X.2.2.2.2 _ hw) (fun _ h => h) hdg kk
/-- a text's fields, its bytes -/
theorem q_strC (X : CallFix p m c cc nL s args Ts own) (hK : vK D cB cI cJ s ∧ sW ad n s s.heap) (hS : va_S (ipA ad n) s.heap H locs) (hi : i < 20) (hw : Cond.fieldLink own index "java/lang/String" "coder" "B" ∈ Ts) (hdg : decode cc pc = .ok (.getfield index, 3))
    (kk : W p l e R s m args below meth c H locs cells slots Q (F0 m (pc + 3) ls (.int 0 :: rest))) : W p l e R s m args below meth c H locs cells slots Q (F0 m pc ls (.ref (ad (2000 + i)) :: rest)) :=
  vk_getf X.1 X.2.1 (hK.2.1.2.2.1.1 i hi).2.1 hS X.2.2.2.1 (X.2.2.2.2 _ hw) (fun _ h => h) hdg kk
theorem q_strV (X : CallFix p m c cc nL s args Ts own) (hK : vK D cB cI cJ s ∧ sW ad n s s.heap) (hS : va_S (ipA ad n) s.heap H locs) (hi : i < 20) (hw : Cond.fieldLink own index "java/lang/String" "value" "[B" ∈ Ts) (hdg : decode cc pc = .ok (.getfield index, 3))
    (kk : W p l e R s m args below meth c H locs cells slots Q (F0 m (pc + 3) ls (.ref (ad (3000 + i)) :: rest))) : W p l e R s m args below meth c H locs cells slots Q (F0 m pc ls (.ref (ad (2000 + i)) :: rest)) :=
  vk_getf X.1 X.2.1 (hK.2.1.2.2.1.1 i hi).2.2.1 hS X.2.2.2.1 (X.2.2.2.2 _ hw) (fun _ h => h) hdg kk
theorem q_strL (X : CallFix p m c cc nL s args Ts own) (hK : vK D cB cI cJ s ∧ sW ad n s s.heap) (hS : va_S (ipA ad n) s.heap H locs) (hi : i < 20) (hdg : decode cc pc = .ok (.arraylength, 1))
    (kk : W p l e R s m args below meth c H locs cells slots Q (F0 m (pc + 1) ls (.int (nI (wLn.getD i 0)) :: rest))) : W p l e R s m args below meth c H locs cells slots Q (F0 m pc ls (.ref (ad (3000 + i)) :: rest)) :=
  va_tlen X.1 X.2.1 (hK.2.1.2.2.1.1 i hi).2.2.2 hS rfl hdg kk
theorem q_strB (X : CallFix p m c cc nL s args Ts own) (hK : vK D cB cI cJ s ∧ sW ad n s s.heap) (hS : va_S (ipA ad n) s.heap H locs) (hi : i < 20) {k : Nat} (hk : k < wLn.getD i 0) (hdg : decode cc pc = .ok (.baload, 1))
    (kk : W p l e R s m args below meth c H locs cells slots Q (F0 m (pc + 1) ls (.int ((wBy.getD i []).getD k 0) :: rest))) : W p l e R s m args below meth c H locs cells slots Q (F0 m pc ls (.int (nI k) :: .ref (ad (3000 + i)) :: rest)) :=
  va_tb X.1 X.2.1 (hK.2.1.2.2.1.1 i hi).2.2.2 hS (vp_in_nI hk (by have := w_ln i hi; omega)) (by have := w_ln i hi; rw [nI_clamp (by omega)]) hdg kk
/-- getstatic String.COMPACT_STRINGS -/
theorem q_gsC (X : CallFix p m c cc nL s args Ts own) (hK : vK D cB cI cJ s ∧ sW ad n s s.heap) (hS : va_S (ipA ad n) s.heap H locs) (hw : Cond.fieldLink own index "java/lang/String" "COMPACT_STRINGS" "Z" ∈ Ts) (hdg : decode cc pc = .ok (.getstatic index, 3))
    (kk : W p l e R s m args below meth c H locs cells slots Q (F0 m (pc + 3) ls (.int 1 :: rest))) : W p l e R s m args below meth c H locs cells slots Q (F0 m pc ls rest) :=
  va_gets X.1 X.2.1 hK.2.1.2.2.2.2.2.1 hS X.2.2.2.1 (X.2.2.2.2 _ hw) (fun _ h => h) hdg kk
/-- getstatic of the formatter of index faults: null or some reference -/
theorem q_gsF (X : CallFix p m c cc nL s args Ts own) (hK : vK D cB cI cJ s ∧ sW ad n s s.heap) (hS : va_S (ipA ad n) s.heap H locs) (hw : Cond.fieldLink own index "jdk/internal/util/Preconditions" "SIOOBE_FORMATTER" "Ljava/util/function/BiFunction;" ∈ Ts) (hdg : decode cc pc = .ok (.getstatic index, 3))
    (kn : W p l e R s m args below meth c H locs cells slots Q (F0 m (pc + 3) ls (.null :: rest))) (kk : ∀ t : Nat, W p l e R s m args below meth c H locs cells slots Q (F0 m (pc + 3) ls (.ref t :: rest))) : W p l e R s m args below meth c H locs cells slots Q (F0 m pc ls rest) := by
  rcases hK.2.1.2.2.2.2.2.2.1 with h | ⟨t, h⟩
  · exact va_gets X.1 X.2.1 h hS X.2.2.2.1 (X.2.2.2.2 _ hw) (fun _ h => h) hdg kn
  · exact va_gets X.1 X.2.1 h hS X.2.2.2.1 (X.2.2.2.2 _ hw) (fun _ h => h) hdg (kk t)
/-- two constants, compared -/
theorem w_inj (hK : vK D cB cI cJ s ∧ sW ad n s s.heap) {i j : Nat} (hi : i < 20) (hj : j < 20) : some (ad (1000 + i)) = some (ad (1000 + j)) ↔ i = j :=
  ⟨fun h => hK.2.1.1.2 i j hi hj (Option.some.inj h), fun h => by rw [h]⟩
theorem q_acmp_eq (X : CallFix p m c cc nL s args Ts own) (hK : vK D cB cI cJ s ∧ sW ad n s s.heap) {i j : Nat} (hi : i < 20) (hj : j < 20) {off : Int} {tgt : Nat} (hdg : decode cc pc = .ok (.if_acmp .eq off, 3)) (ht : (pc : Int) + off = (tgt : Int))
    (kt : i = j → W p l e R s m args below meth c H locs cells slots Q (F0 m tgt ls rest)) (kf : ¬ i = j → W p l e R s m args below meth c H locs cells slots Q (F0 m (pc + 3) ls rest)) : W p l e R s m args below meth c H locs cells slots Q (F0 m pc ls (.ref (ad (1000 + j)) :: .ref (ad (1000 + i)) :: rest)) :=
  lv_acmp_eq (rx := some (ad (1000 + i))) (ry := some (ad (1000 + j))) X.1 X.2.1 hdg ht (fun h => kt ((w_inj hK hi hj).mp h)) (fun h => kf (fun z => h ((w_inj hK hi hj).mpr z)))
theorem q_acmp_ne (X : CallFix p m c cc nL s args Ts own) (hK : vK D cB cI cJ s ∧ sW ad n s s.heap) {i j : Nat} (hi : i < 20) (hj : j < 20) {off : Int} {tgt : Nat} (hdg : decode cc pc = .ok (.if_acmp .ne off, 3)) (ht : (pc : Int) + off = (tgt : Int))
    (kt : ¬ i = j → W p l e R s m args below meth c H locs cells slots Q (F0 m tgt ls rest)) (kf : i = j → W p l e R s m args below meth c H locs cells slots Q (F0 m (pc + 3) ls rest)) : W p l e R s m args below meth c H locs cells slots Q (F0 m pc ls (.ref (ad (1000 + j)) :: .ref (ad (1000 + i)) :: rest)) :=
  lv_acmp_ne (rx := some (ad (1000 + i))) (ry := some (ad (1000 + j))) X.1 X.2.1 hdg ht (fun h => kt (fun z => h ((w_inj hK hi hj).mpr z))) (fun h => kf ((w_inj hK hi hj).mp h))
/-- a call on a text -/
theorem q_rdT {r : Int32} (hM : cR l D cB cI cJ ad n M y ws fr lo (.ref (ad (2000 + i)) :: As) r) (X : CallFix p m c cc nL s args Ts own) (hK : vK D cB cI cJ s ∧ sW ad n s s.heap) (hP : va_P D vwCl (ip ad n M) H) (hS : va_S (ipA ad n) s.heap H locs) (hls : ls.size = nL) (hw : ws = Cond.code y bytes maxL ret :: ws') (hG : GoodIn Ts (wsV own index y.cls y ws)) (hy : YD y As.length)
    (hR : fr + 1 ≤ R.frames ∧ 8 + (maxL + 11) + lo ≤ R.locals) (hi : i < 20) (hcl : y.cls = "java/lang/String") (hst : st = As.reverse ++ .ref (ad (2000 + i)) :: rest) (hcat : (rest.map fun v => v.category).sum ≤ 8) (hf : cells ≤ R.cells ∧ slots ≤ R.slots) (hdg : decode cc pc = .ok (.invokevirtual index, 3))
    (kk : W p l e R s m args below meth c H locs cells slots Q (F0 m (pc + 3) ls (.int r :: rest))) : W p l e R s m args below meth c H locs cells slots Q (F0 m pc ls st) := by
  subst hst
  refine vp_callSi (W.runV (As := As) (rest := rest) X hM (cwV As.length X.2.2.2.2 hG hw rfl rfl ⟨rfl, hy⟩ hR) ⟨ip_blind, by rw [hcl]; exact vk_recv (adK := fun i => ad (2000 + i)) (i := i) hK.2.1.2.2.1 hi hS, fun U hU hW => ⟨rfl, ip_call hK hP hS hU hW⟩⟩ rfl rfl hls rfl (lv_room hcat) hdg ⟨hf.1, hf.2⟩) (fun x hx => ?_)
  rw [hx]
  exact kk
/-- a call that answers a reference -/
theorem q_rdVe {r ci i : Nat} {fs : List Value} (hM : cRe l D cB cI cJ ad n M y ws fr lo (.ref (ad i) :: As) r) (X : CallFix p m c cc nL s args Ts own) (hK : vK D cB cI cJ s ∧ sW ad n s s.heap) (hP : va_P D vwCl (ip ad n M) H) (hS : va_S (ipA ad n) s.heap H locs) (hls : ls.size = nL) (hw : ws = Cond.code y bytes maxL ret :: ws') (hG : GoodIn Ts (wsV own index y.cls y ws)) (hy : YD y As.length)
    (hR : fr + 1 ≤ R.frames ∧ 8 + (maxL + 11) + lo ≤ R.locals) (hi : i < n) (hMi : M i = .inr (ci, fs)) (hcl : (vwCl[ci]?).map (fun q => q.1) = some y.cls) (hst : st = As.reverse ++ .ref (ad i) :: rest) (hcat : (rest.map fun v => v.category).sum ≤ 8) (hf : cells ≤ R.cells ∧ slots ≤ R.slots) (hdg : decode cc pc = .ok (.invokevirtual index, 3))
    (kk : W p l e R s m args below meth c H locs cells slots Q (F0 m (pc + 3) ls (.ref (ad r) :: rest))) : W p l e R s m args below meth c H locs cells slots Q (F0 m pc ls st) := by
  subst hst
  refine va_cse (W.runV (As := As) (rest := rest) X hM (cwV As.length X.2.2.2.2 hG hw rfl rfl ⟨rfl, hy⟩ hR) ⟨ip_blind, q_recv hK hP hi hMi hcl, fun U hU hW => ⟨rfl, ip_call hK hP hS hU hW⟩⟩ rfl rfl hls rfl (lv_room hcat) hdg ⟨hf.1, hf.2⟩) (fun x hx => ?_)
  rw [hx]
  exact kk
theorem q_aret {v r : Nat} {C : String} (X : CallFix p m c cc nL s args Ts own) (hr : meth.sig.returnType = some (.object C)) (hlocks : meth.locks = false) (hv : v = r) (hdg : decode cc pc = .ok (.areturn, 1)) :
    W p l e R s m args below meth c s.heap [] 0 0 (MQ below (va_Se ad (fun x => x = some r)) args s 0 0 (fun _ => False)) (F0 m pc ls [.ref (ad v)]) :=
  W.aret X.1 X.2.1 hr (Or.inl ⟨C, rfl⟩) (Or.inr ⟨_, rfl⟩) (fun t ht _ => ⟨some v, rfl, by rw [hv], ht⟩) (fun q h => nomatch h) hdg hlocks
theorem q_rdSv (hM : cRv l D cB cI cJ ad n M y ws fr lo As) (X : CallFix p m c cc nL s args Ts own) (hK : vK D cB cI cJ s ∧ sW ad n s s.heap) (hP : va_P D vwCl (ip ad n M) H) (hS : va_S (ipA ad n) s.heap H locs) (hls : ls.size = nL) (hw : ws = Cond.code y bytes maxL ret :: ws') (hG : GoodIn Ts (va_wsS own index y ws)) (hy : YD y As.length)
    (hR : fr + 1 ≤ R.frames ∧ 8 + (maxL + 11) + lo ≤ R.locals) (hst : st = As.reverse ++ rest) (hcat : (rest.map fun v => v.category).sum ≤ 8) (hf : cells ≤ R.cells ∧ slots ≤ R.slots) (hdg : decode cc pc = .ok (.invokestatic index, 3))
    (kk : W p l e R s m args below meth c H locs cells slots Q (F0 m (pc + 3) ls rest)) : W p l e R s m args below meth c H locs cells slots Q (F0 m pc ls st) := by
  subst hst
  exact va_csv (q_S hM X hG hw rfl rfl hy hR ⟨ip_blind, fun U hU hW => ⟨rfl, ip_call hK hP hS hU hW⟩⟩ hls hcat hdg ⟨hf.1, hf.2⟩) (fun _ => kk)
theorem q_vret (X : CallFix p m c cc nL s args Ts own) (hr : meth.sig.returnType = none) (hlocks : meth.locks = false) (hdg : decode cc pc = .ok (.return_, 1)) :
    W p l e R s m args below meth c s.heap [] 0 0 (MQ below (va_Sv (fun _ => True)) args s 0 0 (fun _ => False)) (F0 m pc ls []) :=
  W.vret X.1 X.2.1 hr (fun t ht _ => ⟨rfl, trivial, ht⟩) (fun q h => nomatch h) hdg hlocks
theorem q_ldcS (X : CallFix p m c cc nL s args Ts "PoundsOverModel") (hK : vK D cB cI cJ s ∧ sW ad n s s.heap) {tx : String} (hq : (index, tx, i) ∈ wRs) (hdg : decode cc pc = .ok (.ldc index, 2))
    (kk : W p l e R s m args below meth c H locs cells slots Q (F0 m (pc + 2) ls (.ref (ad (2000 + i)) :: rest))) : W p l e R s m args below meth c H locs cells slots Q (F0 m pc ls rest) :=
  va_ldcS X.1 X.2.1 X.2.2.2.1 (hK.2.2.2.2.2.2.1 (index, tx, i) hq) hdg kk
/-- rows of texts in the pool -/
theorem q_KS (hK : vK D cB cI cJ s ∧ sW ad n s s.heap) : va_K D vwCl [(ad 5000, .object "java/lang/String")] s := ⟨hK.1.1.1, fun k q hk => by
  cases k with
  | zero => cases hk; exact hK.2.2.2.2.2.2.2
  | succ k => simp at hk⟩
theorem q_aaldS (X : CallFix p m c cc nL s args Ts own) (hK : vK D cB cI cJ s ∧ sW ad n s s.heap) (hP : va_P D vwCl (ip ad n M) H) {i k j t : Nat} {f : Nat → Option Nat} (hi : i < n) (hM : M i = .inl (ad 5000, k, .inr (.inr (.inr (.inr f))))) (hj : j < k) (hk : k < 2 ^ 31) (hr : f j = some (ad t)) (hdg : decode cc pc = .ok (.aaload, 1))
    (kk : W p l e R s m args below meth c H locs cells slots Q (F0 m (pc + 1) ls (.ref (ad t) :: rest))) : W p l e R s m args below meth c H locs cells slots Q (F0 m pc ls (.int (nI j) :: .ref (ad i) :: rest)) := by
  refine va_aldq X.1 X.2.1 (q_KS hK) hP i 0 (ip_at hi hM) rfl (vp_in_nI hj hk) hdg ?_
  rw [nI_clamp (by omega), hr]
  exact kk
theorem q_alenS (X : CallFix p m c cc nL s args Ts own) (hK : vK D cB cI cJ s ∧ sW ad n s s.heap) (hP : va_P D vwCl (ip ad n M) H) {i k : Nat} {f : Nat → Option Nat} (hi : i < n) (hM : M i = .inl (ad 5000, k, .inr (.inr (.inr (.inr f))))) {v : Int32} (hv : Int32.ofNat k = v) (hdg : decode cc pc = .ok (.arraylength, 1))
    (kk : W p l e R s m args below meth c H locs cells slots Q (F0 m (pc + 1) ls (.int v :: rest))) : W p l e R s m args below meth c H locs cells slots Q (F0 m pc ls (.ref (ad i) :: rest)) :=
  va_alen X.1 X.2.1 (q_KS hK) hP i 0 (ip_at hi hM) (ty := .object "java/lang/String") rfl hv hdg kk
end QW
