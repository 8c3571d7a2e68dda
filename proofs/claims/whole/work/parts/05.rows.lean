/-! The worlds of this proof: a pool by index. ad i is the address of the cell of index i, M i what it holds; a world is the cells 0 .. n-1. -/
def ip (ad : Nat → Nat) (n : Nat) (M : Nat → va_E) : va_W := (List.range n).map (fun i => (ad i, M i))
def ipA (ad : Nat → Nat) (n : Nat) : Nat → Prop := fun q => ∃ i, i < n ∧ q = ad i
def ipI (ad : Nat → Nat) (n : Nat) : Prop := ∀ i j, i < n → j < n → ad i = ad j → i = j
theorem ip_at {ad : Nat → Nat} {n : Nat} {M : Nat → va_E} {i : Nat} {e : va_E} (h : i < n) (hM : M i = e) : (ip ad n M)[i]? = some (ad i, e) := by
  subst hM
  unfold ip
  rw [List.getElem?_map, List.getElem?_range h]
  rfl
theorem ip_some {ad : Nat → Nat} {n : Nat} {M : Nat → va_E} {k : Nat} {q : Nat × va_E} (h : (ip ad n M)[k]? = some q) : k < n ∧ q = (ad k, M k) := by
  have hk : k < n := by
    have := (List.getElem?_eq_some_iff.mp h).1
    simpa [ip] using this
  rw [ip_at hk rfl] at h
  exact ⟨hk, (Option.some.inj h).symm⟩
theorem ip_set {ad : Nat → Nat} {n : Nat} {M : Nat → va_E} {i : Nat} {e : va_E} (h : i < n) : (ip ad n M).set i (ad i, e) = ip ad n (va_up M i e) := by
  refine List.ext_getElem? (fun j => ?_)
  by_cases hj : j < n
  · rw [ip_at (M := va_up M i e) hj rfl]
    by_cases hij : i = j
    · subst hij
      rw [List.getElem?_set_self (by simpa [ip] using h), va_up_self]
    · rw [List.getElem?_set_ne hij, ip_at hj rfl, va_up_ne _ _ (Ne.symm hij)]
  · rw [List.getElem?_eq_none (by simp [ip]; omega), List.getElem?_eq_none (by simp [ip]; omega)]
theorem ip_D {ad : Nat → Nat} {n : Nat} {M : Nat → va_E} (h : ipI ad n) : va_D (ipA ad n) (ip ad n M) := by
  refine ⟨fun i j p q hi hj hpq => ?_, fun k q hk => ?_⟩
  · obtain ⟨h1, rfl⟩ := ip_some hi
    obtain ⟨h2, rfl⟩ := ip_some hj
    exact h i j h1 h2 hpq
  · obtain ⟨h1, rfl⟩ := ip_some hk
    exact ⟨k, h1, rfl⟩
abbrev ty3 (cB cI cJ : ClassId) : List (ClassId × FieldType) := [(cB, .byte), (cI, .int), (cJ, .long)]
/-- the links to private members of nest mates -/
def vN (U : State) : Prop := va_Nw (.fieldLinkNest "PoundsOver$Packing" 37 "PoundsOver$Standing" "hall" "LPoundsOver$Hall;" "PoundsOver") U ∧ va_Nw (.fieldLinkNest "PoundsOver$Plans" 46 "PoundsOver$Standing" "hall" "LPoundsOver$Hall;" "PoundsOver") U ∧ va_Nw (.fieldLinkNest "PoundsOver$Scale" 19 "PoundsOver$Standing" "hall" "LPoundsOver$Hall;" "PoundsOver") U ∧ va_Nw (.fieldLinkNest "PoundsOver$Trial" 27 "PoundsOver$Standing" "hall" "LPoundsOver$Hall;" "PoundsOver") U
theorem vN.warm {s U : State} (hW : s.WarmedH U.vm) (h : vN s) : vN U := ⟨va_Nw.warmF hW h.1, va_Nw.warmF hW h.2.1, va_Nw.warmF hW h.2.2.1, va_Nw.warmF hW h.2.2.2⟩
theorem vN.same {s U : State} (hv : s.vm = U.vm) (h : vN s) : vN U := ⟨va_Nw.same rfl hv h.1, va_Nw.same rfl hv h.2.1, va_Nw.same rfl hv h.2.2.1, va_Nw.same rfl hv h.2.2.2⟩
/-- the tables, as a method's start has them -/
def vK (D : va_G) (cB cI cJ : ClassId) (U : State) : Prop := va_K D vwCl (ty3 cB cI cJ) U ∧ vN U
/-- the words' constants: their names, their numbers, their texts; a constant of place i stands at ad (1000 + i), its text at ad (2000 + i), the text's bytes at ad (3000 + i), the array of them all at ad 4000 -/
def wNm : List String := ["OTHER", "PERSON", "CASE", "BOARD", "THING", "COAT", "SHARP", "GLASS", "FOOD", "SHIRT", "POST", "LOOKS", "FEE", "OR", "AND", "NOT", "OVER", "WEIGHT", "LIMIT", "THINGS"]
def wKd : List Int32 := [(-1), (-1), (-1), (-1), 0, 1, 2, 3, 4, 5, (-1), (-1), (-1), (-1), (-1), (-1), (-1), (-1), (-1), (-1)]
def wVl : List Int32 := [(-1), (-1), (-1), 4, (-1), (-1), (-1), (-1), (-1), (-1), (-1), (-1), (-1), (-1), (-1), (-1), 0, 1, 2, 3]
def wFl : List (String × String × String × List Int32) := [("java/lang/Enum", "ordinal", "I", [0, 1, 2, 3, 4, 5, 6, 7, 8, 9, 10, 11, 12, 13, 14, 15, 16, 17, 18, 19]), ("PoundsOver$Word", "thingKind", "I", wKd), ("PoundsOver$Word", "valueNumber", "I", wVl)]
def wLn : List Nat := [0, 6, 4, 5, 5, 4, 5, 5, 4, 5, 4, 5, 3, 2, 3, 3, 4, 6, 5, 6]
def wBy : List (List Int32) := [[], [112, 101, 114, 115, 111, 110], [99, 97, 115, 101], [98, 111, 97, 114, 100], [116, 104, 105, 110, 103], [99, 111, 97, 116], [115, 104, 97, 114, 112], [103, 108, 97, 115, 115], [102, 111, 111, 100], [115, 104, 105, 114, 116], [112, 111, 115, 116], [108, 111, 111, 107, 115], [102, 101, 101], [111, 114], [97, 110, 100], [110, 111, 116], [111, 118, 101, 114], [119, 101, 105, 103, 104, 116], [108, 105, 109, 105, 116], [116, 104, 105, 110, 103, 115]]
def wRs : List (Nat × String × Nat) := [(9, "thing", 4), (11, "coat", 5), (13, "sharp", 6), (15, "glass", 7), (17, "food", 8), (19, "shirt", 9), (27, "over", 16), (29, "weight", 17), (31, "limit", 18), (33, "things", 19), (35, "board", 3), (275, "not", 15), (283, "and", 14), (288, "or", 13), (296, "looks", 11), (298, "fee", 12), (303, "person", 1), (308, "case", 2), (313, "post", 10)]
/-- what lies on the heap outside the pool and never changes -/
def sH (ad : Nat → Nat) (A : Nat → Prop) (U : State) (H : Heap) : Prop :=
  va_En "PoundsOver$Word" "LPoundsOver$Word;" wNm wFl (fun i => ad (1000 + i)) A U H ∧ va_Ef 20 "PoundsOver$Word" "letters" "Ljava/lang/String;" (fun i => .ref (ad (2000 + i))) (fun i => ad (1000 + i)) A U H ∧ vk_S 20 wLn wBy (fun i => ad (2000 + i)) (fun i => ad (3000 + i)) A U H ∧ va_Z "PoundsOver" "WORDS" "[LPoundsOver$Word;" (.ref (ad 4000)) A U H ∧ va_T (.object "PoundsOver$Word") (ad 4000) 20 (fun j => .ref (ad (1000 + j))) A U H ∧ va_Z "java/lang/String" "COMPACT_STRINGS" "Z" (.int 1) A U H ∧ va_Zq "jdk/internal/util/Preconditions" "SIOOBE_FORMATTER" "Ljava/util/function/BiFunction;" A U H ∧ vx_Zq Bundle.tN "UNASSIGNED_STACK" Bundle.steD A U H ∧ vx_Zq Bundle.tN "SUPPRESSED_SENTINEL" Bundle.listD A U H
theorem sH.kept {ad : Nat → Nat} {A : Nat → Prop} {U : State} {H H1 : Heap} (h : sH ad A U H) (hq : ∀ a : Nat, a < H.size → ¬ A a → H1[a]? = H[a]?) : sH ad A U H1 := by
  obtain ⟨h1, h2, h3, h4, h5, h6, h7, h8, h9⟩ := h
  exact ⟨h1.kept hq, h2.kept hq, h3.kept hq, h4.kept hq, h5.kept hq, h6.kept hq, h7.kept hq, h8.kept hq, h9.kept hq⟩
theorem sH.moved {ad : Nat → Nat} {A : Nat → Prop} {u U : State} {H : Heap} (hv : u.vm.Alike U.vm) (h : sH ad A u H) : sH ad A U H := by
  obtain ⟨h1, h2, h3, h4, h5, h6, h7, h8, h9⟩ := h
  exact ⟨va_En.moved hv h1, va_Ef.moved hv h2, vk_S.moved hv h3, va_Z.moved hv h4, va_T.moved hv h5, va_Z.moved hv h6, va_Zq.moved hv h7, vx_Zq.moved hv h8, vx_Zq.moved hv h9⟩
def sNm : List (String × Nat × MethodName) := [("PoundsOver", 11, ⟨"PoundsOver$Tape", "<init>", "()V"⟩), ("PoundsOver", 18, ⟨"PoundsOver$Hall", "<init>", "()V"⟩), ("PoundsOver", 46, ⟨"PoundsOver$Log", "<init>", "()V"⟩), ("PoundsOver", 63, ⟨"PoundsOver$Packing", "<init>", "()V"⟩), ("PoundsOver", 70, ⟨"PoundsOver$Plans", "<init>", "()V"⟩), ("PoundsOver$Hall", 31, ⟨"PoundsOver$Rule", "<init>", "()V"⟩)]
def sDc : List String := ["java/lang/RuntimeException", "java/lang/Exception", "java/lang/Throwable"]
def sCs : List String := ["java/util/NoSuchElementException", "java/lang/IllegalArgumentException"]
/-- what the tables say and no method's list does: links to private members of nest mates, constructors' classes, the texts' entries, the class of rows of texts (its number is ad 5000) -/
def sV (ad : Nat → Nat) (U : State) : Prop :=
  va_Nw (.fieldLinkNest "PoundsOver$Tape" 68 "PoundsOver" "WORDS" "[LPoundsOver$Word;" "PoundsOver") U ∧ (∀ q ∈ sNm, va_Nw (.methodLinkNest q.1 q.2.1 q.2.2 "PoundsOver") U) ∧ (∀ q ∈ sDc, va_Nw (.declares ⟨q, "<init>", "()V"⟩) U) ∧ (∀ q ∈ sCs, va_Nw (.castable q q) U) ∧ (∀ q ∈ wRs, vk_R "PoundsOverModel" q.1 q.2.1 (ad (2000 + q.2.2)) U) ∧ ArrOfT U (ad 5000) (.object "java/lang/String") ∧ va_RA U (ad 5000) (.object "java/lang/String")
theorem sV.warm {ad : Nat → Nat} {s U : State} (hW : s.WarmedH U.vm) (h : sV ad s) : sV ad U :=
  ⟨va_Nw.warmF hW h.1, fun q hq => va_Nw.warmM hW (h.2.1 q hq), fun q hq => va_Nw.warmD hW (h.2.2.1 q hq), fun q hq => va_Nw.warmC hW (h.2.2.2.1 q hq), fun q hq => vk_R.warm hW (h.2.2.2.2.1 q hq), arrOfT_moved hW.alike h.2.2.2.2.2.1, h.2.2.2.2.2.2.moved hW.alike⟩
theorem sV.same {ad : Nat → Nat} {s U : State} (hv : s.vm = U.vm) (h : sV ad s) : sV ad U :=
  ⟨va_Nw.same rfl hv h.1, fun q hq => va_Nw.same rfl hv (h.2.1 q hq), fun q hq => va_Nw.same rfl hv (h.2.2.1 q hq), fun q hq => va_Nw.same rfl hv (h.2.2.2.1 q hq), fun q hq => vk_R.same hv.symm (h.2.2.2.2.1 q hq), arrOfT_moved (by rw [← hv]; exact Vm.Alike.refl _) h.2.2.2.2.2.1, h.2.2.2.2.2.2.moved (by rw [← hv]; exact Vm.Alike.refl _)⟩
/-- what never changes outside the pool -/
def sW (ad : Nat → Nat) (n : Nat) (U : State) (H : Heap) : Prop := sH ad (ipA ad n) U H ∧ sV ad U
theorem sW.kept {ad : Nat → Nat} {n : Nat} {U : State} {H H1 : Heap} {locs : List Loc} (hS : va_S (ipA ad n) H H1 locs) (h : sW ad n U H) : sW ad n U H1 := ⟨h.1.kept hS.2.1, h.2⟩
theorem sW.warm {ad : Nat → Nat} {n : Nat} {s U : State} {H : Heap} (hW : s.WarmedH U.vm) (h : sW ad n s H) : sW ad n U H := ⟨sH.moved hW.alike h.1, sV.warm hW h.2⟩
theorem sW.same {ad : Nat → Nat} {n : Nat} {s U : State} {H : Heap} (hv : s.vm = U.vm) (h : sW ad n s H) : sW ad n U H := ⟨sH.moved (by rw [← hv]; exact Vm.Alike.refl _) h.1, sV.same hv h.2⟩
/-- what a method's state holds: the pool, the tables, and what never changes -/
def ipW (D : va_G) (cB cI cJ : ClassId) (ad : Nat → Nat) (n : Nat) (M : Nat → va_E) (U : State) : Prop := va_P D vwCl (ip ad n M) U.heap ∧ vK D cB cI cJ U ∧ sW ad n U U.heap
theorem ip_blind {D : va_G} {cB cI cJ : ClassId} {ad : Nat → Nat} {n : Nat} {M : Nat → va_E} {As : List Value} : FrameBlind (va_Pc As (ipW D cB cI cJ ad n M)) := fun a U g mk q => by
  obtain ⟨q0, qP, qK, qS⟩ := q
  exact ⟨q0, qP, ⟨va_K.moved (u := U) (U := U.calling g mk a) (Vm.Alike.refl U.vm) qK.1, vN.same (U := U.calling g mk a) rfl qK.2⟩, sW.same (U := U.calling g mk a) rfl qS⟩
/-- the world of a call -/
theorem ip_call {D : va_G} {cB cI cJ : ClassId} {ad : Nat → Nat} {n : Nat} {M : Nat → va_E} {s U : State} {H : Heap} {locs : List Loc} (hK : vK D cB cI cJ s ∧ sW ad n s s.heap) (hP : va_P D vwCl (ip ad n M) H) (hS : va_S (ipA ad n) s.heap H locs) (hU : U.heap = H) (hW : s.WarmedH U.vm) : ipW D cB cI cJ ad n M U :=
  ⟨by rw [hU]; exact hP, ⟨va_K.moved hW.alike hK.1.1, vN.warm hW hK.1.2⟩, sW.warm hW (by rw [hU]; exact sW.kept hS hK.2)⟩
/-- the field k of the objects of the class of number ci, by the pool constant 'index' of the class 'own' -/
def FL (Ts : List Cond) (own : String) (index ci k : Nat) : Prop := ∃ (C : String) (T : u_T) (N : Nat), vwCl[ci]? = some (C, T, N) ∧ (∀ w ∈ u_ws C T N, w ∈ Ts) ∧ k < N ∧ Cond.fieldLink own index (T k).1 (T k).2.1 (T k).2.2.1 ∈ Ts
/-- it may be written, and takes values of this type -/
def FW (ci k : Nat) (ty : FieldType) : Prop := ∃ (C : String) (T : u_T) (N : Nat) (t : Nat → FieldType), vwCl[ci]? = some (C, T, N) ∧ (∀ k, k < N → parseFieldDescriptor (T k).2.2.1 = some (t k)) ∧ (∀ a, a < N → ∀ b, b < N → a ≠ b → (T a).2.1 ≠ (T b).2.1) ∧ k < N ∧ (T k).2.2.2 = false ∧ parseFieldDescriptor (T k).2.2.1 = some ty
/-- it is final, the class's own -/
def FF (own : String) (ci k : Nat) (ty : FieldType) : Prop := ∃ (C : String) (T : u_T) (N : Nat) (t : Nat → FieldType), vwCl[ci]? = some (C, T, N) ∧ (∀ k, k < N → parseFieldDescriptor (T k).2.2.1 = some (t k)) ∧ (∀ a, a < N → ∀ b, b < N → a ≠ b → (T a).2.1 ≠ (T b).2.1) ∧ k < N ∧ (T k).2.2.2 = true ∧ (T k).1 = own ∧ parseFieldDescriptor (T k).2.2.1 = some ty
/-- the class of a method and how many arguments it takes -/
def YD (y : MethodName) (n : Nat) : Prop := y.cls ≠ "java/lang/invoke/MethodHandle" ∧ y.cls ≠ "java/lang/invoke/VarHandle" ∧ (parseMethodDescriptor y.desc).map (fun d => d.parameters.length) = some n

/-! contracts: cR, cRl read and answer one int, long; cWi, cWv may write the pool's cells -/
abbrev rmOf (fr lo : Nat) : Room := { frames := fr, cells := 0, slots := 0, locals := lo }
def cR (l : Launch) (D : va_G) (cB cI cJ : ClassId) (ad : Nat → Nat) (n : Nat) (M : Nat → va_E) (y : MethodName) (ws : List Cond) (fr lo : Nat) (As : List Value) (r : Int32) : Prop :=
  Met l y ws (rmOf fr lo) (va_Pc As (ipW D cB cI cJ ad n M)) (vp_Si (fun x => x = r)) 0 0 (fun _ => False)
def cRl (l : Launch) (D : va_G) (cB cI cJ : ClassId) (ad : Nat → Nat) (n : Nat) (M : Nat → va_E) (y : MethodName) (ws : List Cond) (fr lo : Nat) (As : List Value) (r : Int64) : Prop :=
  Met l y ws (rmOf fr lo) (va_Pc As (ipW D cB cI cJ ad n M)) (vp_Sl (fun x => x = r)) 0 0 (fun _ => False)
def cWi (l : Launch) (D : va_G) (cB cI cJ : ClassId) (ad : Nat → Nat) (n : Nat) (M : Nat → va_E) (y : MethodName) (ws : List Cond) (fr lo : Nat) (As : List Value) (post : Int32 → (Nat → va_E) → Prop) : Prop :=
  Met l y ws (rmOf fr lo) (va_Pc As (ipW D cB cI cJ ad n M)) (va_Qi post (fun M' t => va_P D vwCl (ip ad n M') t.heap) (ipA ad n)) 0 0 (ipA ad n)
def cWl (l : Launch) (D : va_G) (cB cI cJ : ClassId) (ad : Nat → Nat) (n : Nat) (M : Nat → va_E) (y : MethodName) (ws : List Cond) (fr lo : Nat) (As : List Value) (post : Int64 → (Nat → va_E) → Prop) : Prop :=
  Met l y ws (rmOf fr lo) (va_Pc As (ipW D cB cI cJ ad n M)) (va_Ql post (fun M' t => va_P D vwCl (ip ad n M') t.heap) (ipA ad n)) 0 0 (ipA ad n)
def cWv (l : Launch) (D : va_G) (cB cI cJ : ClassId) (ad : Nat → Nat) (n : Nat) (M : Nat → va_E) (y : MethodName) (ws : List Cond) (fr lo : Nat) (As : List Value) (post : (Nat → va_E) → Prop) : Prop :=
  Met l y ws (rmOf fr lo) (va_Pc As (ipW D cB cI cJ ad n M)) (va_Qv post (fun M' t => va_P D vwCl (ip ad n M') t.heap) (ipA ad n)) 0 0 (ipA ad n)

/-- a method's body: from its entry -/
theorem q_body {l : Launch} {D : va_G} {cB cI cJ : ClassId} {ad : Nat → Nat} {n : Nat} {M : Nat → va_E} {y : MethodName} {ws ws' : List Cond} {fr lo : Nat} {As : List Value} {cc : ByteArray} {maxL : Nat} {ret : Option FieldType} {Qc : Array Value → State → Outcome → State → Prop} {free : Addr → Prop}
    (hy : plainName y.cls = true) (hw : ws = Cond.code y cc maxL ret :: ws') (hlen : (lg_sl As).length ≤ maxL)
    (body : ∀ (p : Program) (e : Env) (s : State) (m : MethodId) (args : Array Value) (below : List Frame) (meth : Method) (c : Code) (ls : Array Slot),
      CallFix p m c cc maxL s args ws y.cls → meth.sig.returnType = ret → meth.locks = false → (vK D cB cI cJ s ∧ sW ad n s s.heap) → va_P D vwCl (ip ad n M) s.heap → lv_has ls maxL (lv_args 0 As) →
      W p l e (rmOf fr lo) s m args below meth c s.heap [] 0 0 (MQ below Qc args s 0 0 free) (F0 m 0 ls [])) :
    Met l y ws (rmOf fr lo) (va_Pc As (ipW D cB cI cJ ad n M)) Qc 0 0 free := by
  refine Met.ofW (cc := cc) (maxL := maxL) (ret := ret) hy hw ?_
  intro p e s m args below meth c s₁ B hml hv
  obtain ⟨rfl, hP, hK⟩ := hv
  have hl := lv_entry As (n := maxL) hlen
  rw [lg_entry_eq]
  exact body p e s m _ below meth c _ ⟨B.exec, B.bytes, hml, findClass_of_methodNamed B.named, atoms_spec (ws := ws) B.pre⟩ B.returns B.notSynchronized hK hP hl
section QR
variable {p : Program} {l : Launch} {e : Env} {R : Room} {s : State} {m : MethodId} {args : Array Value} {below : List Frame} {meth : Method} {c : Code} {H : Heap} {locs : List Loc} {cells slots : Nat} {Q : State → Prop}
variable {cc : ByteArray} {pc nL : Nat} {ls : Array Slot} {rest : List Value} {D : va_G} {cB cI cJ : ClassId} {ad : Nat → Nat} {n : Nat} {M : Nat → va_E} {H0 : Heap} {Ts : List Cond} {own : String}
theorem q_get (X : CallFix p m c cc nL s args Ts own) (hK : vK D cB cI cJ s ∧ sW ad n s s.heap) (hP : va_P D vwCl (ip ad n M) H) {i ci k index : Nat} {fs : List Value} {v : Value} (F : FL Ts own index ci k) (hi : i < n) (hM : M i = .inr (ci, fs)) (hv : fs[k]? = some v) (hdg : decode cc pc = .ok (.getfield index, 3))
    (kk : W p l e R s m args below meth c H locs cells slots Q (F0 m (pc + 3) ls (v :: rest))) : W p l e R s m args below meth c H locs cells slots Q (F0 m pc ls (.ref (ad i) :: rest)) := by
  obtain ⟨hx, hb, -, hown, hts⟩ := X
  obtain ⟨C, T, N, h1, h2, h3, h4⟩ := F
  exact va_get (C := C) (T := T) (N := N) hx hb hts h2 hown hK.1.1 hP i (ip_at hi hM) h1 k h3 (hts _ h4) (fun _ h9 => h9) hv hdg kk
theorem q_getN (X : CallFix p m c cc nL s args Ts own) (hK : vK D cB cI cJ s ∧ sW ad n s s.heap) (hP : va_P D vwCl (ip ad n M) H) {i ci k index : Nat} {C host : String} {T : u_T} {N : Nat} {fs : List Value} {v : Value} (hN : va_Nw (.fieldLinkNest own index (T k).1 (T k).2.1 (T k).2.2.1 host) s) (hcl : vwCl[ci]? = some (C, T, N)) (h2 : ∀ w ∈ u_ws C T N, w ∈ Ts) (hk : k < N) (hi : i < n) (hM : M i = .inr (ci, fs)) (hv : fs[k]? = some v) (hdg : decode cc pc = .ok (.getfield index, 3))
    (kk : W p l e R s m args below meth c H locs cells slots Q (F0 m (pc + 3) ls (v :: rest))) : W p l e R s m args below meth c H locs cells slots Q (F0 m pc ls (.ref (ad i) :: rest)) := by
  obtain ⟨hx, hb, -, hown, hts⟩ := X
  exact va_getN (C := C) (T := T) (N := N) hx hb hts h2 hown hK.1.1 hP i (ip_at hi hM) hcl k hk (va_Nw.use rfl hN) (fun _ h9 => h9) hv hdg kk
theorem q_put (X : CallFix p m c cc nL s args Ts own) (hK : vK D cB cI cJ s ∧ sW ad n s s.heap) (hI : ipI ad n) (hP : va_P D vwCl (ip ad n M) H) (hS : va_S (ipA ad n) H0 H locs) {i ci k index : Nat} {fs fs' : List Value} {v : Value} {ty : FieldType} (F : FL Ts own index ci k) (G : FW ci k ty) (hi : i < n) (hM : M i = .inr (ci, fs)) (hn : narrow ty v = v) (hfit : fits ty v = true) (hl : k < fs.length) (hfs : fs.set k v = fs') (hdg : decode cc pc = .ok (.putfield index, 3))
    (kk : ∀ (H1 : Heap) (locs1 : List Loc), va_P D vwCl (ip ad n (va_up M i (.inr (ci, fs')))) H1 → va_S (ipA ad n) H0 H1 locs1 → W p l e R s m args below meth c H1 locs1 cells slots Q (F0 m (pc + 3) ls rest)) : W p l e R s m args below meth c H locs cells slots Q (F0 m pc ls (v :: .ref (ad i) :: rest)) := by
  obtain ⟨hx, hb, -, hown, hts⟩ := X
  obtain ⟨C, T, N, h1, h2, h3, h4⟩ := F
  obtain ⟨C', T', N', t, g1, g2, g3, g4, g5, g6⟩ := G
  obtain ⟨rfl, rfl, rfl⟩ : C' = C ∧ T' = T ∧ N' = N := by
    have := g1.symm.trans h1
    simp only [Option.some.injEq, Prod.mk.injEq] at this
    exact this
  subst hfs
  refine va_put (ty := ty) hx hb hts h2 t g2 g3 hown hK.1.1 hP (ip_D hI) hS i (ip_at hi hM) h1 k h3 (hts _ h4) (fun _ h9 => h9) g5 g6 hn hfit hl hdg (fun H1 locs1 hP1 _ hS1 => ?_)
  rw [ip_set hi] at hP1
  exact kk H1 locs1 hP1 hS1
theorem q_iald (X : CallFix p m c cc nL s args Ts own) (hK : vK D cB cI cJ s ∧ sW ad n s s.heap) (hP : va_P D vwCl (ip ad n M) H) {i k : Nat} {f : Nat → Int32} {x : Int32} (hi : i < n) (hM : M i = .inl (cI, k, .inl f)) (hin : vp_in x k) (hdg : decode cc pc = .ok (.iaload, 1))
    (kk : W p l e R s m args below meth c H locs cells slots Q (F0 m (pc + 1) ls (.int (f x.toNatClampNeg) :: rest))) : W p l e R s m args below meth c H locs cells slots Q (F0 m pc ls (.int x :: .ref (ad i) :: rest)) :=
  va_iald X.1 X.2.1 hK.1.1 hP i 1 (ip_at hi hM) rfl hin hdg kk
theorem q_bald (X : CallFix p m c cc nL s args Ts own) (hK : vK D cB cI cJ s ∧ sW ad n s s.heap) (hP : va_P D vwCl (ip ad n M) H) {i k : Nat} {f : Nat → Int32} {x : Int32} (hi : i < n) (hM : M i = .inl (cB, k, .inl f)) (hin : vp_in x k) (hdg : decode cc pc = .ok (.baload, 1))
    (kk : W p l e R s m args below meth c H locs cells slots Q (F0 m (pc + 1) ls (.int (f x.toNatClampNeg) :: rest))) : W p l e R s m args below meth c H locs cells slots Q (F0 m pc ls (.int x :: .ref (ad i) :: rest)) :=
  va_bald X.1 X.2.1 hK.1.1 hP i 0 (ip_at hi hM) rfl hin hdg kk
theorem q_lald (X : CallFix p m c cc nL s args Ts own) (hK : vK D cB cI cJ s ∧ sW ad n s s.heap) (hP : va_P D vwCl (ip ad n M) H) {i k : Nat} {f : Nat → Int64} {x : Int32} (hi : i < n) (hM : M i = .inl (cJ, k, .inr (.inl f))) (hin : vp_in x k) (hdg : decode cc pc = .ok (.laload, 1))
    (kk : W p l e R s m args below meth c H locs cells slots Q (F0 m (pc + 1) ls (.long (f x.toNatClampNeg) :: rest))) : W p l e R s m args below meth c H locs cells slots Q (F0 m pc ls (.int x :: .ref (ad i) :: rest)) :=
  va_lald X.1 X.2.1 hK.1.1 hP i 2 (ip_at hi hM) rfl hin hdg kk
theorem q_iast (X : CallFix p m c cc nL s args Ts own) (hK : vK D cB cI cJ s ∧ sW ad n s s.heap) (hI : ipI ad n) (hP : va_P D vwCl (ip ad n M) H) (hS : va_S (ipA ad n) H0 H locs) {i k : Nat} {f : Nat → Int32} {x y : Int32} (hi : i < n) (hM : M i = .inl (cI, k, .inl f)) (hin : vp_in x k) (hdg : decode cc pc = .ok (.iastore, 1))
    (kk : ∀ (H1 : Heap) (locs1 : List Loc), va_P D vwCl (ip ad n (va_up M i (.inl (cI, k, .inl (upd f x.toNatClampNeg y))))) H1 → va_S (ipA ad n) H0 H1 locs1 → W p l e R s m args below meth c H1 locs1 cells slots Q (F0 m (pc + 1) ls rest)) : W p l e R s m args below meth c H locs cells slots Q (F0 m pc ls (.int y :: .int x :: .ref (ad i) :: rest)) := by
  refine va_iast X.1 X.2.1 hK.1.1 hP (ip_D hI) hS i 1 (ip_at hi hM) rfl hin hdg (fun H1 locs1 hP1 _ hS1 => ?_)
  rw [ip_set hi] at hP1
  exact kk H1 locs1 hP1 hS1
theorem q_bast (X : CallFix p m c cc nL s args Ts own) (hK : vK D cB cI cJ s ∧ sW ad n s s.heap) (hI : ipI ad n) (hP : va_P D vwCl (ip ad n M) H) (hS : va_S (ipA ad n) H0 H locs) {i k : Nat} {f : Nat → Int32} {x y : Int32} (hi : i < n) (hM : M i = .inl (cB, k, .inl f)) (hin : vp_in x k) (hdg : decode cc pc = .ok (.bastore, 1))
    (kk : ∀ (H1 : Heap) (locs1 : List Loc), va_P D vwCl (ip ad n (va_up M i (.inl (cB, k, .inl (upd f x.toNatClampNeg (vp_nar .byte y)))))) H1 → va_S (ipA ad n) H0 H1 locs1 → W p l e R s m args below meth c H1 locs1 cells slots Q (F0 m (pc + 1) ls rest)) : W p l e R s m args below meth c H locs cells slots Q (F0 m pc ls (.int y :: .int x :: .ref (ad i) :: rest)) := by
  refine va_bast X.1 X.2.1 hK.1.1 hP (ip_D hI) hS i 0 (ip_at hi hM) rfl hin hdg (fun H1 locs1 hP1 _ hS1 => ?_)
  rw [ip_set hi] at hP1
  exact kk H1 locs1 hP1 hS1
theorem q_last (X : CallFix p m c cc nL s args Ts own) (hK : vK D cB cI cJ s ∧ sW ad n s s.heap) (hI : ipI ad n) (hP : va_P D vwCl (ip ad n M) H) (hS : va_S (ipA ad n) H0 H locs) {i k : Nat} {f : Nat → Int64} {x : Int32} {y : Int64} (hi : i < n) (hM : M i = .inl (cJ, k, .inr (.inl f))) (hin : vp_in x k) (hdg : decode cc pc = .ok (.lastore, 1))
    (kk : ∀ (H1 : Heap) (locs1 : List Loc), va_P D vwCl (ip ad n (va_up M i (.inl (cJ, k, .inr (.inl (vp_updL f x.toNatClampNeg y)))))) H1 → va_S (ipA ad n) H0 H1 locs1 → W p l e R s m args below meth c H1 locs1 cells slots Q (F0 m (pc + 1) ls rest)) : W p l e R s m args below meth c H locs cells slots Q (F0 m pc ls (.long y :: .int x :: .ref (ad i) :: rest)) := by
  refine va_last X.1 X.2.1 hK.1.1 hP (ip_D hI) hS i 2 (ip_at hi hM) rfl hin hdg (fun H1 locs1 hP1 _ hS1 => ?_)
  rw [ip_set hi] at hP1
  exact kk H1 locs1 hP1 hS1
theorem q_alen (X : CallFix p m c cc nL s args Ts own) (hK : vK D cB cI cJ s ∧ sW ad n s s.heap) (hP : va_P D vwCl (ip ad n M) H) {i k : Nat} {f : Nat → Int32} (hi : i < n) (hM : M i = .inl (cI, k, .inl f)) {v : Int32} (hv : Int32.ofNat k = v) (hdg : decode cc pc = .ok (.arraylength, 1))
    (kk : W p l e R s m args below meth c H locs cells slots Q (F0 m (pc + 1) ls (.int v :: rest))) : W p l e R s m args below meth c H locs cells slots Q (F0 m pc ls (.ref (ad i) :: rest)) :=
  va_alen X.1 X.2.1 hK.1.1 hP i 1 (ip_at hi hM) (ty := .int) rfl hv hdg kk
theorem q_alenB (X : CallFix p m c cc nL s args Ts own) (hK : vK D cB cI cJ s ∧ sW ad n s s.heap) (hP : va_P D vwCl (ip ad n M) H) {i k : Nat} {f : Nat → Int32} (hi : i < n) (hM : M i = .inl (cB, k, .inl f)) {v : Int32} (hv : Int32.ofNat k = v) (hdg : decode cc pc = .ok (.arraylength, 1))
    (kk : W p l e R s m args below meth c H locs cells slots Q (F0 m (pc + 1) ls (.int v :: rest))) : W p l e R s m args below meth c H locs cells slots Q (F0 m pc ls (.ref (ad i) :: rest)) :=
  va_alen X.1 X.2.1 hK.1.1 hP i 0 (ip_at hi hM) (ty := .byte) rfl hv hdg kk
theorem q_alenJ (X : CallFix p m c cc nL s args Ts own) (hK : vK D cB cI cJ s ∧ sW ad n s s.heap) (hP : va_P D vwCl (ip ad n M) H) {i k : Nat} {f : Nat → Int64} (hi : i < n) (hM : M i = .inl (cJ, k, .inr (.inl f))) {v : Int32} (hv : Int32.ofNat k = v) (hdg : decode cc pc = .ok (.arraylength, 1))
    (kk : W p l e R s m args below meth c H locs cells slots Q (F0 m (pc + 1) ls (.int v :: rest))) : W p l e R s m args below meth c H locs cells slots Q (F0 m pc ls (.ref (ad i) :: rest)) :=
  va_alen X.1 X.2.1 hK.1.1 hP i 2 (ip_at hi hM) (ty := .long) rfl hv hdg kk
/-- ends -/
theorem q_iret {v r : Int32} (hb : c.code = cc) (hx : p.tables.exec = Jvm.exec) (hr : meth.sig.returnType = some .int) (hlocks : meth.locks = false) (hv : v = r) (hdg : decode cc pc = .ok (.ireturn, 1)) :
    W p l e R s m args below meth c s.heap [] 0 0 (MQ below (vp_Si (fun x => x = r)) args s 0 0 (fun _ => False)) (F0 m pc ls [.int v]) :=
  W.iret hx hb hr (fun t ht _ => ⟨v, rfl, hv, ht⟩) (fun q h => nomatch h) hdg hlocks
end QR
section QC
variable {p : Program} {l : Launch} {e : Env} {R : Room} {s : State} {m : MethodId} {args : Array Value} {below : List Frame} {meth : Method} {c : Code} {H : Heap} {locs : List Loc} {cells slots : Nat} {Q : State → Prop}
variable {cc : ByteArray} {pc nL : Nat} {ls : Array Slot} {rest st : List Value} {D : va_G} {cB cI cJ : ClassId} {ad : Nat → Nat} {n : Nat} {M : Nat → va_E} {Ts : List Cond} {own : String}
variable {y : MethodName} {ws ws' : List Cond} {bytes : ByteArray} {maxL fr lo index ci i : Nat} {ret : Option FieldType} {As : List Value} {fs : List Value}
theorem q_recv (hK : vK D cB cI cJ s ∧ sW ad n s s.heap) (hP : va_P D vwCl (ip ad n M) H) (hi : i < n) (hMi : M i = .inr (ci, fs)) {C : String} (hcl : (vwCl[ci]?).map (fun q => q.1) = some C) : ∃ cell : Cell, H[ad i]? = some cell ∧ cell.vm.isStatics = false ∧ s.vm.findClass C = some cell.cls := by
  cases hq : vwCl[ci]? with
  | none => rw [hq] at hcl; cases hcl
  | some q =>
    rw [hq] at hcl
    obtain ⟨cell, h1, h2, h3⟩ := va_recv hK.1.1 hP hq (ip_at hi hMi)
    exact ⟨cell, h1, h2, by rw [← (Option.some.inj hcl : q.1 = C)]; exact h3⟩
/-- calls of what only reads -/
theorem q_rdV {r : Int32} (hM : cR l D cB cI cJ ad n M y ws fr lo (.ref (ad i) :: As) r) (X : CallFix p m c cc nL s args Ts own) (hK : vK D cB cI cJ s ∧ sW ad n s s.heap) (hP : va_P D vwCl (ip ad n M) H) (hS : va_S (ipA ad n) s.heap H locs) (hls : ls.size = nL) (hw : ws = Cond.code y bytes maxL ret :: ws') (hG : GoodIn Ts (wsV own index y.cls y ws)) (hy : YD y As.length)
    (hR : fr + 1 ≤ R.frames ∧ 8 + (maxL + 11) + lo ≤ R.locals) (hi : i < n) (hMi : M i = .inr (ci, fs)) (hcl : (vwCl[ci]?).map (fun q => q.1) = some y.cls) (hst : st = As.reverse ++ .ref (ad i) :: rest) (hcat : (rest.map fun v => v.category).sum ≤ 8) (hf : cells ≤ R.cells ∧ slots ≤ R.slots) (hdg : decode cc pc = .ok (.invokevirtual index, 3))
    (kk : W p l e R s m args below meth c H locs cells slots Q (F0 m (pc + 3) ls (.int r :: rest))) : W p l e R s m args below meth c H locs cells slots Q (F0 m pc ls st) := by
  subst hst
  refine vp_callSi (W.runV (As := As) (rest := rest) X hM (cwV As.length X.2.2.2.2 hG hw rfl rfl ⟨rfl, hy⟩ hR) ⟨ip_blind, q_recv hK hP hi hMi hcl, fun U hU hW => ⟨rfl, ip_call hK hP hS hU hW⟩⟩ rfl rfl hls rfl (lv_room hcat) hdg ⟨hf.1, hf.2⟩) (fun x hx => ?_)
  rw [hx]
  exact kk
theorem q_rdVl {r : Int64} (hM : cRl l D cB cI cJ ad n M y ws fr lo (.ref (ad i) :: As) r) (X : CallFix p m c cc nL s args Ts own) (hK : vK D cB cI cJ s ∧ sW ad n s s.heap) (hP : va_P D vwCl (ip ad n M) H) (hS : va_S (ipA ad n) s.heap H locs) (hls : ls.size = nL) (hw : ws = Cond.code y bytes maxL ret :: ws') (hG : GoodIn Ts (wsV own index y.cls y ws)) (hy : YD y As.length)
    (hR : fr + 1 ≤ R.frames ∧ 8 + (maxL + 11) + lo ≤ R.locals) (hi : i < n) (hMi : M i = .inr (ci, fs)) (hcl : (vwCl[ci]?).map (fun q => q.1) = some y.cls) (hst : st = As.reverse ++ .ref (ad i) :: rest) (hcat : (rest.map fun v => v.category).sum ≤ 8) (hf : cells ≤ R.cells ∧ slots ≤ R.slots) (hdg : decode cc pc = .ok (.invokevirtual index, 3))
    (kk : W p l e R s m args below meth c H locs cells slots Q (F0 m (pc + 3) ls (.long r :: rest))) : W p l e R s m args below meth c H locs cells slots Q (F0 m pc ls st) := by
  subst hst
  refine vp_callSl (W.runV (As := As) (rest := rest) X hM (cwV As.length X.2.2.2.2 hG hw rfl rfl ⟨rfl, hy⟩ hR) ⟨ip_blind, q_recv hK hP hi hMi hcl, fun U hU hW => ⟨rfl, ip_call hK hP hS hU hW⟩⟩ rfl rfl hls rfl (lv_room hcat) hdg ⟨hf.1, hf.2⟩) (fun x hx => ?_)
  rw [hx]
  exact kk
theorem q_S {mc ms : Nat} {Pc : Array Value → State → Prop} {Qc : Array Value → State → Outcome → State → Prop} {free : Addr → Prop} {rm : Room} (hM : Met l y ws rm Pc Qc mc ms free) (X : CallFix p m c cc nL s args Ts own) (hG : GoodIn Ts (va_wsS own index y ws)) (hw : ws = Cond.code y bytes maxL ret :: ws') (hrc : rm.cells = mc) (hrs : rm.slots = ms) (hy : YD y As.length) (hR : rm.frames + 1 ≤ R.frames ∧ 8 + (maxL + 11) + rm.locals ≤ R.locals) (hp : PreS s H Pc As) (hls : ls.size = nL) (hcat : (rest.map fun v => v.category).sum ≤ 8) (hdg : decode cc pc = .ok (.invokestatic index, 3)) (hf : cells + mc ≤ R.cells ∧ slots + ms ≤ R.slots) :
    CallRun p l e R s m args below meth c H locs cells slots mc ms (F0 m pc ls (As.reverse ++ rest)) rest (Qc As.toArray) (free) :=
  W.runS (As := As) (rest := rest) X hM (va_cwS As.length X.2.2.2.2 hG hw hrc hrs hy hR) hp rfl rfl hls rfl (lv_room hcat) hdg hf
theorem q_rdS {r : Int32} (hM : cR l D cB cI cJ ad n M y ws fr lo As r) (X : CallFix p m c cc nL s args Ts own) (hK : vK D cB cI cJ s ∧ sW ad n s s.heap) (hP : va_P D vwCl (ip ad n M) H) (hS : va_S (ipA ad n) s.heap H locs) (hls : ls.size = nL) (hw : ws = Cond.code y bytes maxL ret :: ws') (hG : GoodIn Ts (va_wsS own index y ws)) (hy : YD y As.length)
    (hR : fr + 1 ≤ R.frames ∧ 8 + (maxL + 11) + lo ≤ R.locals) (hst : st = As.reverse ++ rest) (hcat : (rest.map fun v => v.category).sum ≤ 8) (hf : cells ≤ R.cells ∧ slots ≤ R.slots) (hdg : decode cc pc = .ok (.invokestatic index, 3))
    (kk : W p l e R s m args below meth c H locs cells slots Q (F0 m (pc + 3) ls (.int r :: rest))) : W p l e R s m args below meth c H locs cells slots Q (F0 m pc ls st) := by
  subst hst
  refine vp_callSi (q_S hM X hG hw rfl rfl hy hR ⟨ip_blind, fun U hU hW => ⟨rfl, ip_call hK hP hS hU hW⟩⟩ hls hcat hdg ⟨hf.1, hf.2⟩) (fun x hx => ?_)
  rw [hx]
  exact kk
theorem q_rdSl {r : Int64} (hM : cRl l D cB cI cJ ad n M y ws fr lo As r) (X : CallFix p m c cc nL s args Ts own) (hK : vK D cB cI cJ s ∧ sW ad n s s.heap) (hP : va_P D vwCl (ip ad n M) H) (hS : va_S (ipA ad n) s.heap H locs) (hls : ls.size = nL) (hw : ws = Cond.code y bytes maxL ret :: ws') (hG : GoodIn Ts (va_wsS own index y ws)) (hy : YD y As.length)
    (hR : fr + 1 ≤ R.frames ∧ 8 + (maxL + 11) + lo ≤ R.locals) (hst : st = As.reverse ++ rest) (hcat : (rest.map fun v => v.category).sum ≤ 8) (hf : cells ≤ R.cells ∧ slots ≤ R.slots) (hdg : decode cc pc = .ok (.invokestatic index, 3))
    (kk : W p l e R s m args below meth c H locs cells slots Q (F0 m (pc + 3) ls (.long r :: rest))) : W p l e R s m args below meth c H locs cells slots Q (F0 m pc ls st) := by
  subst hst
  refine vp_callSl (q_S hM X hG hw rfl rfl hy hR ⟨ip_blind, fun U hU hW => ⟨rfl, ip_call hK hP hS hU hW⟩⟩ hls hcat hdg ⟨hf.1, hf.2⟩) (fun x hx => ?_)
  rw [hx]
  exact kk
/-- calls of what writes cells of the pool -/
theorem q_wrVi {post : Int32 → (Nat → va_E) → Prop} (hM : cWi l D cB cI cJ ad n M y ws fr lo (.ref (ad i) :: As) post) (X : CallFix p m c cc nL s args Ts own) (hK : vK D cB cI cJ s ∧ sW ad n s s.heap) (hP : va_P D vwCl (ip ad n M) H) (hS : va_S (ipA ad n) s.heap H locs) (hls : ls.size = nL) (hw : ws = Cond.code y bytes maxL ret :: ws') (hG : GoodIn Ts (wsV own index y.cls y ws)) (hy : YD y As.length)
    (hR : fr + 1 ≤ R.frames ∧ 8 + (maxL + 11) + lo ≤ R.locals) (hi : i < n) (hMi : M i = .inr (ci, fs)) (hcl : (vwCl[ci]?).map (fun q => q.1) = some y.cls) (hst : st = As.reverse ++ .ref (ad i) :: rest) (hcat : (rest.map fun v => v.category).sum ≤ 8) (hf : cells ≤ R.cells ∧ slots ≤ R.slots) (hdg : decode cc pc = .ok (.invokevirtual index, 3))
    (kk : ∀ (r : Int32) (M' : Nat → va_E) (H1 : Heap) (locs1 : List Loc), post r M' → va_P D vwCl (ip ad n M') H1 → va_S (ipA ad n) s.heap H1 locs1 → W p l e R s m args below meth c H1 locs1 cells slots Q (F0 m (pc + 3) ls (.int r :: rest))) : W p l e R s m args below meth c H locs cells slots Q (F0 m pc ls st) := by
  subst hst
  refine va_calli (va_runV (As := As) (rest := rest) X hM (cwV As.length X.2.2.2.2 hG hw rfl rfl ⟨rfl, hy⟩ hR) ⟨ip_blind, q_recv hK hP hi hMi hcl, fun U hU hW => ⟨rfl, ip_call hK hP hS hU hW⟩⟩ rfl rfl hls rfl (lv_room hcat) hdg ⟨hf.1, hf.2⟩) hS (fun _ _ h => h) (fun _ h => h) (fun r M' t H1 locs1 ht _ hp hP1 _ _ hS1 => ?_)
  exact kk r M' H1 locs1 hp (by rw [← ht]; exact hP1) hS1
theorem q_wrVl {post : Int64 → (Nat → va_E) → Prop} (hM : cWl l D cB cI cJ ad n M y ws fr lo (.ref (ad i) :: As) post) (X : CallFix p m c cc nL s args Ts own) (hK : vK D cB cI cJ s ∧ sW ad n s s.heap) (hP : va_P D vwCl (ip ad n M) H) (hS : va_S (ipA ad n) s.heap H locs) (hls : ls.size = nL) (hw : ws = Cond.code y bytes maxL ret :: ws') (hG : GoodIn Ts (wsV own index y.cls y ws)) (hy : YD y As.length)
    (hR : fr + 1 ≤ R.frames ∧ 8 + (maxL + 11) + lo ≤ R.locals) (hi : i < n) (hMi : M i = .inr (ci, fs)) (hcl : (vwCl[ci]?).map (fun q => q.1) = some y.cls) (hst : st = As.reverse ++ .ref (ad i) :: rest) (hcat : (rest.map fun v => v.category).sum ≤ 8) (hf : cells ≤ R.cells ∧ slots ≤ R.slots) (hdg : decode cc pc = .ok (.invokevirtual index, 3))
    (kk : ∀ (r : Int64) (M' : Nat → va_E) (H1 : Heap) (locs1 : List Loc), post r M' → va_P D vwCl (ip ad n M') H1 → va_S (ipA ad n) s.heap H1 locs1 → W p l e R s m args below meth c H1 locs1 cells slots Q (F0 m (pc + 3) ls (.long r :: rest))) : W p l e R s m args below meth c H locs cells slots Q (F0 m pc ls st) := by
  subst hst
  refine va_calll (va_runV (As := As) (rest := rest) X hM (cwV As.length X.2.2.2.2 hG hw rfl rfl ⟨rfl, hy⟩ hR) ⟨ip_blind, q_recv hK hP hi hMi hcl, fun U hU hW => ⟨rfl, ip_call hK hP hS hU hW⟩⟩ rfl rfl hls rfl (lv_room hcat) hdg ⟨hf.1, hf.2⟩) hS (fun _ _ h => h) (fun _ h => h) (fun r M' t H1 locs1 ht _ hp hP1 _ _ hS1 => ?_)
  exact kk r M' H1 locs1 hp (by rw [← ht]; exact hP1) hS1
theorem q_wrVv {post : (Nat → va_E) → Prop} (hM : cWv l D cB cI cJ ad n M y ws fr lo (.ref (ad i) :: As) post) (X : CallFix p m c cc nL s args Ts own) (hK : vK D cB cI cJ s ∧ sW ad n s s.heap) (hP : va_P D vwCl (ip ad n M) H) (hS : va_S (ipA ad n) s.heap H locs) (hls : ls.size = nL) (hw : ws = Cond.code y bytes maxL ret :: ws') (hG : GoodIn Ts (wsV own index y.cls y ws)) (hy : YD y As.length)
    (hR : fr + 1 ≤ R.frames ∧ 8 + (maxL + 11) + lo ≤ R.locals) (hi : i < n) (hMi : M i = .inr (ci, fs)) (hcl : (vwCl[ci]?).map (fun q => q.1) = some y.cls) (hst : st = As.reverse ++ .ref (ad i) :: rest) (hcat : (rest.map fun v => v.category).sum ≤ 8) (hf : cells ≤ R.cells ∧ slots ≤ R.slots) (hdg : decode cc pc = .ok (.invokevirtual index, 3))
    (kk : ∀ (M' : Nat → va_E) (H1 : Heap) (locs1 : List Loc), post M' → va_P D vwCl (ip ad n M') H1 → va_S (ipA ad n) s.heap H1 locs1 → W p l e R s m args below meth c H1 locs1 cells slots Q (F0 m (pc + 3) ls rest)) : W p l e R s m args below meth c H locs cells slots Q (F0 m pc ls st) := by
  subst hst
  refine va_callv (va_runV (As := As) (rest := rest) X hM (cwV As.length X.2.2.2.2 hG hw rfl rfl ⟨rfl, hy⟩ hR) ⟨ip_blind, q_recv hK hP hi hMi hcl, fun U hU hW => ⟨rfl, ip_call hK hP hS hU hW⟩⟩ rfl rfl hls rfl (lv_room hcat) hdg ⟨hf.1, hf.2⟩) hS (fun _ _ h => h) (fun _ h => h) (fun M' t H1 locs1 ht _ hp hP1 _ _ hS1 => ?_)
  exact kk M' H1 locs1 hp (by rw [← ht]; exact hP1) hS1
theorem q_wrSv {post : (Nat → va_E) → Prop} (hM : cWv l D cB cI cJ ad n M y ws fr lo As post) (X : CallFix p m c cc nL s args Ts own) (hK : vK D cB cI cJ s ∧ sW ad n s s.heap) (hP : va_P D vwCl (ip ad n M) H) (hS : va_S (ipA ad n) s.heap H locs) (hls : ls.size = nL) (hw : ws = Cond.code y bytes maxL ret :: ws') (hG : GoodIn Ts (va_wsS own index y ws)) (hy : YD y As.length)
    (hR : fr + 1 ≤ R.frames ∧ 8 + (maxL + 11) + lo ≤ R.locals) (hst : st = As.reverse ++ rest) (hcat : (rest.map fun v => v.category).sum ≤ 8) (hf : cells ≤ R.cells ∧ slots ≤ R.slots) (hdg : decode cc pc = .ok (.invokestatic index, 3))
    (kk : ∀ (M' : Nat → va_E) (H1 : Heap) (locs1 : List Loc), post M' → va_P D vwCl (ip ad n M') H1 → va_S (ipA ad n) s.heap H1 locs1 → W p l e R s m args below meth c H1 locs1 cells slots Q (F0 m (pc + 3) ls rest)) : W p l e R s m args below meth c H locs cells slots Q (F0 m pc ls st) := by
  subst hst
  refine va_callv (va_runS (As := As) (rest := rest) X hM (va_cwS As.length X.2.2.2.2 hG hw rfl rfl hy hR) ⟨ip_blind, fun U hU hW => ⟨rfl, ip_call hK hP hS hU hW⟩⟩ rfl rfl hls rfl (lv_room hcat) hdg ⟨hf.1, hf.2⟩) hS (fun _ _ h => h) (fun _ h => h) (fun M' t H1 locs1 ht _ hp hP1 _ _ hS1 => ?_)
  exact kk M' H1 locs1 hp (by rw [← ht]; exact hP1) hS1
/-- Math.max, Math.min -/
theorem q_max (X : CallFix p m c cc nL s args Ts own) (hls : ls.size = nL) (hl : Cond.methodLink own index Lib.Math.max.name ∈ Ts) (h1 : Cond.static Lib.Math.max.name ∈ Ts) (h2 : Cond.initialized "java/lang/Math" ∈ Ts) (h3 : Cond.code Lib.Math.max.name Lib.Math.max.code 2 (some .int) ∈ Ts) (hR : 1 ≤ R.frames ∧ 21 ≤ R.locals) (hcat : (rest.map fun v => v.category).sum ≤ 8) (hf : cells ≤ R.cells ∧ slots ≤ R.slots) {x y : Int32} (hdg : decode cc pc = .ok (.invokestatic index, 3))
    (kk : W p l e R s m args below meth c H locs cells slots Q (F0 m (pc + 3) ls (.int (if x < y then y else x) :: rest))) : W p l e R s m args below meth c H locs cells slots Q (F0 m pc ls (.int y :: .int x :: rest)) := by
  obtain ⟨hx, hb, hml, hown, hts⟩ := X
  exact va_mmax hx hb (hml.trans hls.symm) hown (hts _ hl) (hts _ h1) (hts _ h2) (hts _ h3) hR.1 (by omega) hf.1 hf.2 hdg kk
theorem q_min (X : CallFix p m c cc nL s args Ts own) (hls : ls.size = nL) (hl : Cond.methodLink own index Lib.Math.min.name ∈ Ts) (h1 : Cond.static Lib.Math.min.name ∈ Ts) (h2 : Cond.initialized "java/lang/Math" ∈ Ts) (h3 : Cond.code Lib.Math.min.name Lib.Math.min.code 2 (some .int) ∈ Ts) (hR : 1 ≤ R.frames ∧ 21 ≤ R.locals) (hcat : (rest.map fun v => v.category).sum ≤ 8) (hf : cells ≤ R.cells ∧ slots ≤ R.slots) {x y : Int32} (hdg : decode cc pc = .ok (.invokestatic index, 3))
    (kk : W p l e R s m args below meth c H locs cells slots Q (F0 m (pc + 3) ls (.int (if y < x then y else x) :: rest))) : W p l e R s m args below meth c H locs cells slots Q (F0 m pc ls (.int y :: .int x :: rest)) := by
  obtain ⟨hx, hb, hml, hown, hts⟩ := X
  exact va_mmin hx hb (hml.trans hls.symm) hown (hts _ hl) (hts _ h1) (hts _ h2) (hts _ h3) hR.1 (by omega) hf.1 hf.2 hdg kk
/-- ends -/
theorem q_zret {v r : Int32} (X : CallFix p m c cc nL s args Ts own) {ty : FieldType} (hr : meth.sig.returnType = some ty) (hlocks : meth.locks = false) (hn : narrow ty (.int v) = .int v) (hv : v = r) (hdg : decode cc pc = .ok (.ireturn, 1)) :
    W p l e R s m args below meth c s.heap [] 0 0 (MQ below (vp_Si (fun x => x = r)) args s 0 0 (fun _ => False)) (F0 m pc ls [.int v]) :=
  W.zret X.1 X.2.1 hr hn (fun t ht _ => ⟨v, rfl, hv, ht⟩) (fun q h => nomatch h) hdg hlocks
theorem q_lret {v r : Int64} (X : CallFix p m c cc nL s args Ts own) (hr : meth.sig.returnType = some .long) (hlocks : meth.locks = false) (hv : v = r) (hdg : decode cc pc = .ok (.lreturn, 1)) :
    W p l e R s m args below meth c s.heap [] 0 0 (MQ below (vp_Sl (fun x => x = r)) args s 0 0 (fun _ => False)) (F0 m pc ls [.long v]) :=
  W.lret X.1 X.2.1 hr (fun t ht _ => ⟨v, rfl, hv, ht⟩) (fun q h => nomatch h) hdg hlocks
theorem q_wzret {v : Int32} {post : Int32 → (Nat → va_E) → Prop} (X : CallFix p m c cc nL s args Ts own) {ty : FieldType} (hr : meth.sig.returnType = some ty) (hlocks : meth.locks = false) (hP : va_P D vwCl (ip ad n M) H) (hS : va_S (ipA ad n) s.heap H locs) (hn : narrow ty (.int v) = .int v) (hp : post v M) (hdg : decode cc pc = .ok (.ireturn, 1)) :
    W p l e R s m args below meth c H locs 0 0 (MQ below (va_Qi post (fun M' t => va_P D vwCl (ip ad n M') t.heap) (ipA ad n)) args s 0 0 (ipA ad n)) (F0 m pc ls [.int v]) :=
  W.zret X.1 X.2.1 hr hn (fun t ht _ => ⟨⟨v, M, rfl, hp, by show va_P D vwCl (ip ad n M) t.heap; rw [ht]; exact hP⟩, hS.F ht⟩) hS.2.2 hdg hlocks
theorem q_wlret {v : Int64} {post : Int64 → (Nat → va_E) → Prop} (X : CallFix p m c cc nL s args Ts own) (hr : meth.sig.returnType = some .long) (hlocks : meth.locks = false) (hP : va_P D vwCl (ip ad n M) H) (hS : va_S (ipA ad n) s.heap H locs) (hp : post v M) (hdg : decode cc pc = .ok (.lreturn, 1)) :
    W p l e R s m args below meth c H locs 0 0 (MQ below (va_Ql post (fun M' t => va_P D vwCl (ip ad n M') t.heap) (ipA ad n)) args s 0 0 (ipA ad n)) (F0 m pc ls [.long v]) :=
  W.lret X.1 X.2.1 hr (fun t ht _ => ⟨⟨v, M, rfl, hp, by show va_P D vwCl (ip ad n M) t.heap; rw [ht]; exact hP⟩, hS.F ht⟩) hS.2.2 hdg hlocks
theorem q_wvret {post : (Nat → va_E) → Prop} (X : CallFix p m c cc nL s args Ts own) (hr : meth.sig.returnType = none) (hlocks : meth.locks = false) (hP : va_P D vwCl (ip ad n M) H) (hS : va_S (ipA ad n) s.heap H locs) (hp : post M) (hdg : decode cc pc = .ok (.return_, 1)) :
    W p l e R s m args below meth c H locs 0 0 (MQ below (va_Qv post (fun M' t => va_P D vwCl (ip ad n M') t.heap) (ipA ad n)) args s 0 0 (ipA ad n)) (F0 m pc ls []) :=
  W.vret X.1 X.2.1 hr (fun t ht _ => ⟨⟨M, rfl, hp, by show va_P D vwCl (ip ad n M) t.heap; rw [ht]; exact hP⟩, hS.F ht⟩) hS.2.2 hdg hlocks
end QC
theorem va_up_id {α : Type} (f : Nat → α) (k : Nat) (v : α) (h : f k = v) : va_up f k v = f := by
  funext j
  by_cases hj : j = k
  · subst hj; rw [va_up_self, h]
  · rw [va_up_ne _ _ hj]
/-- an array's content counts below its length alone -/
theorem ip_swap {D : va_G} {cl : List vw_C} {ad : Nat → Nat} {n : Nat} {M : Nat → va_E} {H : Heap} {i k : Nat} {cA : ClassId} {f g : Nat → Int32} (hP : va_P D cl (ip ad n M) H) (hi : i < n) (hM : M i = .inl (cA, k, .inl f)) (h : ∀ j, j < k → f j = g j) : va_P D cl (ip ad n (va_up M i (.inl (cA, k, .inl g)))) H := by
  intro q e hq
  obtain ⟨hk, rfl⟩ := ip_some hq
  by_cases hqi : q = i
  · subst hqi
    rw [va_up_self]
    have h1 : va_at D cl (ad q, .inl (cA, k, .inl f)) H := by have := hP q _ (ip_at hi rfl); rw [hM] at this; exact this
    have h2 : vp_cell cA (k, .inl f) = vp_cell cA (k, .inl g) := by
      unfold vp_cell arrV
      simp only []
      congr 1
      refine Array.ext (by simp) (fun j h1 h2 => ?_)
      simp only [Array.getElem_ofFn, Array.size_ofFn] at h1 h2 ⊢
      first | exact congrArg Value.int (h j (by simpa using h1)) | (congr 1; exact h j (by simpa using h1))
    show H[ad q]? = some (vp_cell cA (k, .inl g))
    rw [← h2]
    exact h1
  · rw [va_up_ne _ _ hqi]
    exact hP q _ (ip_at hk rfl)
/-! more rows: arrays at a known place, compares of longs with the branch behind them -/
section Q2
variable {p : Program} {l : Launch} {e : Env} {R : Room} {s : State} {m : MethodId} {args : Array Value} {below : List Frame} {meth : Method} {c : Code} {H : Heap} {locs : List Loc} {cells slots : Nat} {Q : State → Prop}
variable {cc : ByteArray} {pc nL : Nat} {ls : Array Slot} {rest : List Value} {D : va_G} {cB cI cJ : ClassId} {ad : Nat → Nat} {n : Nat} {M : Nat → va_E} {H0 : Heap} {Ts : List Cond} {own : String}
theorem q_ialdN (X : CallFix p m c cc nL s args Ts own) (hK : vK D cB cI cJ s ∧ sW ad n s s.heap) (hP : va_P D vwCl (ip ad n M) H) {i k : Nat} {f : Nat → Int32} (j : Nat) (hi : i < n) (hM : M i = .inl (cI, k, .inl f)) (hj : j < k) (hk : k < 2 ^ 31) (hdg : decode cc pc = .ok (.iaload, 1))
    (kk : W p l e R s m args below meth c H locs cells slots Q (F0 m (pc + 1) ls (.int (f j) :: rest))) : W p l e R s m args below meth c H locs cells slots Q (F0 m pc ls (.int (nI j) :: .ref (ad i) :: rest)) := by
  refine q_iald X hK hP hi hM (vp_in_nI hj hk) hdg ?_
  rw [nI_clamp (by omega)]
  exact kk
theorem q_iastN (X : CallFix p m c cc nL s args Ts own) (hK : vK D cB cI cJ s ∧ sW ad n s s.heap) (hI : ipI ad n) (hP : va_P D vwCl (ip ad n M) H) (hS : va_S (ipA ad n) H0 H locs) {i k : Nat} {f : Nat → Int32} {y : Int32} (j : Nat) (hi : i < n) (hM : M i = .inl (cI, k, .inl f)) (hj : j < k) (hk : k < 2 ^ 31) (hdg : decode cc pc = .ok (.iastore, 1))
    (kk : ∀ (H1 : Heap) (locs1 : List Loc), va_P D vwCl (ip ad n (va_up M i (.inl (cI, k, .inl (upd f j y))))) H1 → va_S (ipA ad n) H0 H1 locs1 → W p l e R s m args below meth c H1 locs1 cells slots Q (F0 m (pc + 1) ls rest)) : W p l e R s m args below meth c H locs cells slots Q (F0 m pc ls (.int y :: .int (nI j) :: .ref (ad i) :: rest)) := by
  refine q_iast X hK hI hP hS hi hM (vp_in_nI hj hk) hdg (fun H1 locs1 h1 h2 => ?_)
  rw [nI_clamp (by omega)] at h1
  exact kk H1 locs1 h1 h2
theorem q_laldN (X : CallFix p m c cc nL s args Ts own) (hK : vK D cB cI cJ s ∧ sW ad n s s.heap) (hP : va_P D vwCl (ip ad n M) H) {i k : Nat} {f : Nat → Int64} (j : Nat) (hi : i < n) (hM : M i = .inl (cJ, k, .inr (.inl f))) (hj : j < k) (hk : k < 2 ^ 31) (hdg : decode cc pc = .ok (.laload, 1))
    (kk : W p l e R s m args below meth c H locs cells slots Q (F0 m (pc + 1) ls (.long (f j) :: rest))) : W p l e R s m args below meth c H locs cells slots Q (F0 m pc ls (.int (nI j) :: .ref (ad i) :: rest)) := by
  refine q_lald X hK hP hi hM (vp_in_nI hj hk) hdg ?_
  rw [nI_clamp (by omega)]
  exact kk
theorem q_lastN (X : CallFix p m c cc nL s args Ts own) (hK : vK D cB cI cJ s ∧ sW ad n s s.heap) (hI : ipI ad n) (hP : va_P D vwCl (ip ad n M) H) (hS : va_S (ipA ad n) H0 H locs) {i k : Nat} {f : Nat → Int64} {y : Int64} (j : Nat) (hi : i < n) (hM : M i = .inl (cJ, k, .inr (.inl f))) (hj : j < k) (hk : k < 2 ^ 31) (hdg : decode cc pc = .ok (.lastore, 1))
    (kk : ∀ (H1 : Heap) (locs1 : List Loc), va_P D vwCl (ip ad n (va_up M i (.inl (cJ, k, .inr (.inl (vp_updL f j y)))))) H1 → va_S (ipA ad n) H0 H1 locs1 → W p l e R s m args below meth c H1 locs1 cells slots Q (F0 m (pc + 1) ls rest)) : W p l e R s m args below meth c H locs cells slots Q (F0 m pc ls (.long y :: .int (nI j) :: .ref (ad i) :: rest)) := by
  refine q_last X hK hI hP hS hi hM (vp_in_nI hj hk) hdg (fun H1 locs1 h1 h2 => ?_)
  rw [nI_clamp (by omega)] at h1
  exact kk H1 locs1 h1 h2
theorem q_lcmp_eq (hx : p.tables.exec = Jvm.exec) (hb : c.code = cc) {x y : Int64} {off : Int} {tgt : Nat} (hdg : decode cc pc = .ok (.lcmp, 1)) (hdb : decode cc (pc + 1) = .ok (.ifCond .eq off, 3)) (ht : ((pc + 1 : Nat) : Int) + off = (tgt : Int))
    (kt : x = y → W p l e R s m args below meth c H locs cells slots Q (F0 m tgt ls rest)) (kf : ¬ x = y → W p l e R s m args below meth c H locs cells slots Q (F0 m (pc + 1 + 3) ls rest)) : W p l e R s m args below meth c H locs cells slots Q (F0 m pc ls (.long y :: .long x :: rest)) :=
  W.lcmp hx hb hdg (lv_if_eq hx hb hdb ht (fun h => kt ((lg_cmp_eq x y).mp h)) (fun h => kf (fun q => h ((lg_cmp_eq x y).mpr q))))
theorem q_lcmp_lt (hx : p.tables.exec = Jvm.exec) (hb : c.code = cc) {x y : Int64} {off : Int} {tgt : Nat} (hdg : decode cc pc = .ok (.lcmp, 1)) (hdb : decode cc (pc + 1) = .ok (.ifCond .lt off, 3)) (ht : ((pc + 1 : Nat) : Int) + off = (tgt : Int))
    (kt : x < y → W p l e R s m args below meth c H locs cells slots Q (F0 m tgt ls rest)) (kf : ¬ x < y → W p l e R s m args below meth c H locs cells slots Q (F0 m (pc + 1 + 3) ls rest)) : W p l e R s m args below meth c H locs cells slots Q (F0 m pc ls (.long y :: .long x :: rest)) :=
  W.lcmp hx hb hdg (lv_if_lt hx hb hdb ht (fun h => kt ((lg_cmp_lt x y).mp h)) (fun h => kf (fun q => h ((lg_cmp_lt x y).mpr q))))
theorem q_lcmp_ge (hx : p.tables.exec = Jvm.exec) (hb : c.code = cc) {x y : Int64} {off : Int} {tgt : Nat} (hdg : decode cc pc = .ok (.lcmp, 1)) (hdb : decode cc (pc + 1) = .ok (.ifCond .ge off, 3)) (ht : ((pc + 1 : Nat) : Int) + off = (tgt : Int))
    (kt : y ≤ x → W p l e R s m args below meth c H locs cells slots Q (F0 m tgt ls rest)) (kf : ¬ y ≤ x → W p l e R s m args below meth c H locs cells slots Q (F0 m (pc + 1 + 3) ls rest)) : W p l e R s m args below meth c H locs cells slots Q (F0 m pc ls (.long y :: .long x :: rest)) :=
  W.lcmp hx hb hdg (lv_if_ge hx hb hdb ht (fun h => kt ((lg_cmp_ge x y).mp h)) (fun h => kf (fun q => h ((lg_cmp_ge x y).mpr q))))
theorem q_lcmp_gt (hx : p.tables.exec = Jvm.exec) (hb : c.code = cc) {x y : Int64} {off : Int} {tgt : Nat} (hdg : decode cc pc = .ok (.lcmp, 1)) (hdb : decode cc (pc + 1) = .ok (.ifCond .gt off, 3)) (ht : ((pc + 1 : Nat) : Int) + off = (tgt : Int))
    (kt : y < x → W p l e R s m args below meth c H locs cells slots Q (F0 m tgt ls rest)) (kf : ¬ y < x → W p l e R s m args below meth c H locs cells slots Q (F0 m (pc + 1 + 3) ls rest)) : W p l e R s m args below meth c H locs cells slots Q (F0 m pc ls (.long y :: .long x :: rest)) :=
  W.lcmp hx hb hdg (lv_if_gt hx hb hdb ht (fun h => kt ((lg_cmp_gt x y).mp h)) (fun h => kf (fun q => h ((lg_cmp_gt x y).mpr q))))
theorem q_lcmp_le (hx : p.tables.exec = Jvm.exec) (hb : c.code = cc) {x y : Int64} {off : Int} {tgt : Nat} (hdg : decode cc pc = .ok (.lcmp, 1)) (hdb : decode cc (pc + 1) = .ok (.ifCond .le off, 3)) (ht : ((pc + 1 : Nat) : Int) + off = (tgt : Int))
    (kt : x ≤ y → W p l e R s m args below meth c H locs cells slots Q (F0 m tgt ls rest)) (kf : ¬ x ≤ y → W p l e R s m args below meth c H locs cells slots Q (F0 m (pc + 1 + 3) ls rest)) : W p l e R s m args below meth c H locs cells slots Q (F0 m pc ls (.long y :: .long x :: rest)) :=
  W.lcmp hx hb hdg (lv_if_le hx hb hdb ht (fun h => kt ((lg_cmp_le x y).mp h)) (fun h => kf (fun q => h ((lg_cmp_le x y).mpr q))))
theorem q_lcmp_ne (hx : p.tables.exec = Jvm.exec) (hb : c.code = cc) {x y : Int64} {off : Int} {tgt : Nat} (hdg : decode cc pc = .ok (.lcmp, 1)) (hdb : decode cc (pc + 1) = .ok (.ifCond .ne off, 3)) (ht : ((pc + 1 : Nat) : Int) + off = (tgt : Int))
    (kt : ¬ x = y → W p l e R s m args below meth c H locs cells slots Q (F0 m tgt ls rest)) (kf : x = y → W p l e R s m args below meth c H locs cells slots Q (F0 m (pc + 1 + 3) ls rest)) : W p l e R s m args below meth c H locs cells slots Q (F0 m pc ls (.long y :: .long x :: rest)) :=
  W.lcmp hx hb hdg (lv_if_ne hx hb hdb ht (fun h => kt (fun q => h ((lg_cmp_eq x y).mpr q))) (fun h => kf ((lg_cmp_eq x y).mp h)))
/-- calls of a static method that reads alone and answers a boolean or an int need q_rdS; of one that is called with a long among its arguments likewise -/
theorem q_wret {v : Int32} {post : Int32 → (Nat → va_E) → Prop} (X : CallFix p m c cc nL s args Ts own) (hr : meth.sig.returnType = some .int) (hlocks : meth.locks = false) (hP : va_P D vwCl (ip ad n M) H) (hS : va_S (ipA ad n) s.heap H locs) (hp : post v M) (hdg : decode cc pc = .ok (.ireturn, 1)) :
    W p l e R s m args below meth c H locs 0 0 (MQ below (va_Qi post (fun M' t => va_P D vwCl (ip ad n M') t.heap) (ipA ad n)) args s 0 0 (ipA ad n)) (F0 m pc ls [.int v]) :=
  q_wzret X hr hlocks hP hS rfl hp hdg
end Q2
