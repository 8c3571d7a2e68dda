/-! PoundsOver$Table -/
/-- what a row of k numbers answers at an index: 0 outside -/
def tat (k : Nat) (f : Nat → Int32) (x : Int32) : Int32 := if x < 0 then 0 else if nI k ≤ x then 0 else f x.toNatClampNeg
def tset (k : Nat) (f : Nat → Int32) (x v : Int32) : Nat → Int32 := if x < 0 then f else if nI k ≤ x then f else upd f x.toNatClampNeg v
def tfill (i : Nat) (f : Nat → Int32) (v : Int32) : Nat → Int32 := fun q => if q < i then v else f q
def tcopy (i : Nat) (f g : Nat → Int32) : Nat → Int32 := fun q => if q < i then g q else f q
def imax (x y : Int32) : Int32 := if x < y then y else x
def imin (x y : Int32) : Int32 := if y < x then y else x
theorem vp_in_d {k : Nat} {x : Int32} (hk : k < 2 ^ 31) (h1 : ¬ x < 0) (h2 : ¬ nI k ≤ x) : vp_in x k := by
  obtain ⟨j, hj, rfl⟩ := nI_of h1
  exact vp_in_nI (Nat.lt_of_not_le (fun q => h2 ((nI_leI hk hj).mpr q))) hk
theorem tat_in {k : Nat} {f : Nat → Int32} {j : Nat} (hj : j < k) (hk : k < 2 ^ 31) : tat k f (nI j) = f j := by
  rw [tat, if_neg (nI_pos (by omega)), if_neg (nI_ge hj hk), nI_clamp (by omega)]
theorem tset_in {k : Nat} {f : Nat → Int32} {j : Nat} {v : Int32} (hj : j < k) (hk : k < 2 ^ 31) : tset k f (nI j) v = upd f j v := by
  rw [tset, if_neg (nI_pos (by omega)), if_neg (nI_ge hj hk), nI_clamp (by omega)]
theorem tfill_0 (f : Nat → Int32) (v : Int32) : tfill 0 f v = f := by funext q; simp [tfill]
theorem tfill_1 (i : Nat) (f : Nat → Int32) (v : Int32) : upd (tfill i f v) i v = tfill (i + 1) f v := by
  funext q
  by_cases h : q = i
  · subst h; simp [upd, tfill]
  · have : q < i + 1 ↔ q < i := by omega
    simp [upd, tfill, h, this]
theorem tcopy_0 (f g : Nat → Int32) : tcopy 0 f g = f := by funext q; simp [tcopy]
theorem tcopy_1 (i : Nat) (f g : Nat → Int32) : upd (tcopy i f g) i (g i) = tcopy (i + 1) f g := by
  funext q
  by_cases h : q = i
  · subst h; simp [upd, tcopy]
  · have : q < i + 1 ↔ q < i := by omega
    simp [upd, tcopy, h, this]
theorem ip_oa {M : Nat → va_E} {i j : Nat} {o : Nat × List Value} {a : ClassId × vp_A} (h1 : M i = .inr o) (h2 : M j = .inl a) : i ≠ j := fun h => by subst h; rw [h1] at h2; cases h2
theorem lt_of_nlt {t k : Nat} (h : ¬ nI k ≤ nI t) (hk : k < 2 ^ 31) (ht : t ≤ k) : t < k := Nat.lt_of_not_le (fun q => h ((nI_leI hk (by omega)).mpr q))
theorem eq_of_le {t k : Nat} (h : nI k ≤ nI t) (hk : k < 2 ^ 31) (ht : t ≤ k) : t = k := Nat.le_antisymm ht ((nI_leI hk (by omega)).mp h)
set_option maxRecDepth 20000 in
theorem fX8_at_19 : FL wsX8_at RX8 19 8 1 := ⟨RX8, TX8, 2, rfl, by decide +kernel, by decide, by decide +kernel⟩
set_option maxHeartbeats 4000000 in
set_option maxRecDepth 100000 in
theorem c_X8_at (l : Launch) (D : va_G) (cB cI cJ : ClassId) (ad : Nat → Nat) (n : Nat) (M : Nat → va_E) (i j k : Nat) (co : Int32) (f : Nat → Int32) (x : Int32) (h_i : i < n) (h_j : j < n) (m_i : M i = .inr (8, [.int co, .ref (ad j)])) (m_j : M j = .inl (cI, k, .inl f)) (hk : k < 2 ^ 31) : cR l D cB cI cJ ad n M yX8_at wsX8_at 0 0 [.ref (ad i), .int x] (tat k f x) := by
  refine q_body (cc := cX8_at) (maxL := 2) (ret := (some .int)) (by decide) rfl (Nat.le_of_ble_eq_true rfl) ?_
  intro p e s m args below meth c ls X hr hlocks hK hP hl
  obtain ⟨hx, hb, hml, hown, hts⟩ := id X
  have hS : va_S (ipA ad n) s.heap s.heap [] := va_S.rf
  have hl : lv_has ls 2 [(0, .ref (ad i)), (1, .int x)] := hl
  refine lv_iload_n hx hb dX8_at_0 rfl (lv_at hl 1 rfl) ?_
  refine lv_if_lt (tgt := 22) hx hb dX8_at_1 (by decide) (fun c_1 => ?_) (fun c_1 => ?_)
  · skip
    refine lv_iconst (v := 0) hx hb dX8_at_22 (by decide) ?_
    exact q_iret hb hx hr hlocks (by rw [tat, if_pos c_1]) dX8_at_23
  · skip
    refine lv_iload_n hx hb dX8_at_4 rfl (lv_at hl 1 rfl) ?_
    refine lv_aload_n hx hb dX8_at_5 rfl (lv_at hl 0 rfl) ?_
    refine q_get (v := .ref (ad j)) (fs := [.int co, .ref (ad j)]) X hK hP fX8_at_19 h_i m_i rfl dX8_at_6 ?_
    refine q_alen (f := f) (k := k) (v := (nI k)) X hK hP h_j m_j rfl dX8_at_9 ?_
    refine lv_icmp_ge (tgt := 22) hx hb dX8_at_10 (by decide) (fun c_10 => ?_) (fun c_10 => ?_)
    · skip
      refine lv_iconst (v := 0) hx hb dX8_at_22 (by decide) ?_
      exact q_iret hb hx hr hlocks (by rw [tat, if_neg c_1, if_pos c_10]) dX8_at_23
    · skip
      refine lv_aload_n hx hb dX8_at_13 rfl (lv_at hl 0 rfl) ?_
      refine q_get (v := .ref (ad j)) (fs := [.int co, .ref (ad j)]) X hK hP fX8_at_19 h_i m_i rfl dX8_at_14 ?_
      refine lv_iload_n hx hb dX8_at_17 rfl (lv_at hl 1 rfl) ?_
      refine q_iald (f := f) (k := k) X hK hP h_j m_j (vp_in_d hk c_1 c_10) dX8_at_18 ?_
      refine lv_goto (tgt := 23) hx hb dX8_at_19 (by decide) ?_
      exact q_iret hb hx hr hlocks (by rw [tat, if_neg c_1, if_neg c_10]) dX8_at_23
set_option maxRecDepth 20000 in
theorem fX8_at__7 : FL wsX8_at_ RX8 7 8 0 := ⟨RX8, TX8, 2, rfl, by decide +kernel, by decide, by decide +kernel⟩
set_option maxRecDepth 20000 in
theorem fX8_at__19 : FL wsX8_at_ RX8 19 8 1 := ⟨RX8, TX8, 2, rfl, by decide +kernel, by decide, by decide +kernel⟩
set_option maxHeartbeats 4000000 in
set_option maxRecDepth 100000 in
theorem c_X8_at_ (l : Launch) (D : va_G) (cB cI cJ : ClassId) (ad : Nat → Nat) (n : Nat) (M : Nat → va_E) (i j k : Nat) (co : Int32) (f : Nat → Int32) (a b : Int32) (h_i : i < n) (h_j : j < n) (m_i : M i = .inr (8, [.int co, .ref (ad j)])) (m_j : M j = .inl (cI, k, .inl f)) (hk : k < 2 ^ 31) : cR l D cB cI cJ ad n M yX8_at_ wsX8_at_ 0 0 [.ref (ad i), .int a, .int b] (tat k f (a * co + b)) := by
  refine q_body (cc := cX8_at_) (maxL := 4) (ret := (some .int)) (by decide) rfl (Nat.le_of_ble_eq_true rfl) ?_
  intro p e s m args below meth c ls X hr hlocks hK hP hl
  obtain ⟨hx, hb, hml, hown, hts⟩ := id X
  have hS : va_S (ipA ad n) s.heap s.heap [] := va_S.rf
  have hl : lv_has ls 4 [(0, .ref (ad i)), (1, .int a), (2, .int b)] := hl
  refine lv_iload_n hx hb dX8_at__0 rfl (lv_at hl 1 rfl) ?_
  refine lv_aload_n hx hb dX8_at__1 rfl (lv_at hl 0 rfl) ?_
  refine q_get (v := .int co) (fs := [.int co, .ref (ad j)]) X hK hP fX8_at__7 h_i m_i rfl dX8_at__2 ?_
  refine lv_imul hx hb dX8_at__5 ?_
  refine lv_iload_n hx hb dX8_at__6 rfl (lv_at hl 2 rfl) ?_
  refine lv_iadd hx hb dX8_at__7 ?_
  refine lv_istore_n (lv' := [(3, .int ((a * co) + b)), (0, .ref (ad i)), (1, .int a), (2, .int b)]) hx hb dX8_at__8 rfl hl (by decide) rfl (fun ls hl => ?_)
  refine lv_iload_n hx hb dX8_at__9 rfl (lv_at hl 0 rfl) ?_
  refine lv_if_lt (tgt := 31) hx hb dX8_at__10 (by decide) (fun c_10 => ?_) (fun c_10 => ?_)
  · skip
    refine lv_iconst (v := 0) hx hb dX8_at__31 (by decide) ?_
    exact q_iret hb hx hr hlocks (by rw [tat, if_pos c_10]) dX8_at__32
  · skip
    refine lv_iload_n hx hb dX8_at__13 rfl (lv_at hl 0 rfl) ?_
    refine lv_aload_n hx hb dX8_at__14 rfl (lv_at hl 1 rfl) ?_
    refine q_get (v := .ref (ad j)) (fs := [.int co, .ref (ad j)]) X hK hP fX8_at__19 h_i m_i rfl dX8_at__15 ?_
    refine q_alen (f := f) (k := k) (v := (nI k)) X hK hP h_j m_j rfl dX8_at__18 ?_
    refine lv_icmp_ge (tgt := 31) hx hb dX8_at__19 (by decide) (fun c_19 => ?_) (fun c_19 => ?_)
    · skip
      refine lv_iconst (v := 0) hx hb dX8_at__31 (by decide) ?_
      exact q_iret hb hx hr hlocks (by rw [tat, if_neg c_10, if_pos c_19]) dX8_at__32
    · skip
      refine lv_aload_n hx hb dX8_at__22 rfl (lv_at hl 1 rfl) ?_
      refine q_get (v := .ref (ad j)) (fs := [.int co, .ref (ad j)]) X hK hP fX8_at__19 h_i m_i rfl dX8_at__23 ?_
      refine lv_iload_n hx hb dX8_at__26 rfl (lv_at hl 0 rfl) ?_
      refine q_iald (f := f) (k := k) X hK hP h_j m_j (vp_in_d hk c_10 c_19) dX8_at__27 ?_
      refine lv_goto (tgt := 32) hx hb dX8_at__28 (by decide) ?_
      exact q_iret hb hx hr hlocks (by rw [tat, if_neg c_10, if_neg c_19]) dX8_at__32
set_option maxRecDepth 20000 in
theorem fX8_set_19 : FL wsX8_set RX8 19 8 1 := ⟨RX8, TX8, 2, rfl, by decide +kernel, by decide, by decide +kernel⟩
set_option maxHeartbeats 4000000 in
set_option maxRecDepth 100000 in
theorem c_X8_set (l : Launch) (D : va_G) (cB cI cJ : ClassId) (ad : Nat → Nat) (n : Nat) (M : Nat → va_E) (hI : ipI ad n) (i j k : Nat) (co : Int32) (f : Nat → Int32) (x v : Int32) (h_i : i < n) (h_j : j < n) (m_i : M i = .inr (8, [.int co, .ref (ad j)])) (m_j : M j = .inl (cI, k, .inl f)) (hk : k < 2 ^ 31) : cWv l D cB cI cJ ad n M yX8_set wsX8_set 0 0 [.ref (ad i), .int x, .int v] (fun M' => M' j = .inl (cI, k, .inl (tset k f x v)) ∧ ∀ q : Nat, q ≠ j → M' q = M q) := by
  refine q_body (cc := cX8_set) (maxL := 3) (ret := none) (by decide) rfl (Nat.le_of_ble_eq_true rfl) ?_
  intro p e s m args below meth c ls X hr hlocks hK hP hl
  obtain ⟨hx, hb, hml, hown, hts⟩ := id X
  have hS : va_S (ipA ad n) s.heap s.heap [] := va_S.rf
  have hl : lv_has ls 3 [(0, .ref (ad i)), (1, .int x), (2, .int v)] := hl
  have hij : i ≠ j := ip_oa m_i m_j
  refine lv_iload_n hx hb dX8_set_0 rfl (lv_at hl 1 rfl) ?_
  refine lv_if_lt (tgt := 20) hx hb dX8_set_1 (by decide) (fun c_1 => ?_) (fun c_1 => ?_)
  · skip
    exact q_wvret X hr hlocks hP hS ⟨(by rw [tset, if_pos c_1]; exact m_j), (fun q n0 => rfl)⟩ dX8_set_20
  · skip
    refine lv_iload_n hx hb dX8_set_4 rfl (lv_at hl 1 rfl) ?_
    refine lv_aload_n hx hb dX8_set_5 rfl (lv_at hl 0 rfl) ?_
    refine q_get (v := .ref (ad j)) (fs := [.int co, .ref (ad j)]) X hK hP fX8_set_19 h_i m_i rfl dX8_set_6 ?_
    refine q_alen (f := f) (k := k) (v := (nI k)) X hK hP h_j m_j rfl dX8_set_9 ?_
    refine lv_icmp_ge (tgt := 20) hx hb dX8_set_10 (by decide) (fun c_10 => ?_) (fun c_10 => ?_)
    · skip
      exact q_wvret X hr hlocks hP hS ⟨(by rw [tset, if_neg c_1, if_pos c_10]; exact m_j), (fun q n0 => rfl)⟩ dX8_set_20
    · skip
      refine lv_aload_n hx hb dX8_set_13 rfl (lv_at hl 0 rfl) ?_
      refine q_get (v := .ref (ad j)) (fs := [.int co, .ref (ad j)]) X hK hP fX8_set_19 h_i m_i rfl dX8_set_14 ?_
      refine lv_iload_n hx hb dX8_set_17 rfl (lv_at hl 1 rfl) ?_
      refine lv_iload_n hx hb dX8_set_18 rfl (lv_at hl 2 rfl) ?_
      refine q_iast (f := f) (k := k) X hK hI hP hS h_j m_j (vp_in_d hk c_1 c_10) dX8_set_19 (fun H locs hP hS => ?_)
      exact q_wvret X hr hlocks hP hS ⟨(by rw [tset, if_neg c_1, if_neg c_10]; exact (va_up_self M j (.inl (cI, k, .inl (upd f x.toNatClampNeg v))))), (fun q n0 => (va_up_ne _ _ n0))⟩ dX8_set_20
set_option maxRecDepth 20000 in
theorem fX8_set__7 : FL wsX8_set_ RX8 7 8 0 := ⟨RX8, TX8, 2, rfl, by decide +kernel, by decide, by decide +kernel⟩
set_option maxRecDepth 20000 in
theorem fX8_set__19 : FL wsX8_set_ RX8 19 8 1 := ⟨RX8, TX8, 2, rfl, by decide +kernel, by decide, by decide +kernel⟩
set_option maxHeartbeats 4000000 in
set_option maxRecDepth 100000 in
theorem c_X8_set_ (l : Launch) (D : va_G) (cB cI cJ : ClassId) (ad : Nat → Nat) (n : Nat) (M : Nat → va_E) (hI : ipI ad n) (i j k : Nat) (co : Int32) (f : Nat → Int32) (a b v : Int32) (h_i : i < n) (h_j : j < n) (m_i : M i = .inr (8, [.int co, .ref (ad j)])) (m_j : M j = .inl (cI, k, .inl f)) (hk : k < 2 ^ 31) : cWv l D cB cI cJ ad n M yX8_set_ wsX8_set_ 0 0 [.ref (ad i), .int a, .int b, .int v] (fun M' => M' j = .inl (cI, k, .inl (tset k f (a * co + b) v)) ∧ ∀ q : Nat, q ≠ j → M' q = M q) := by
  refine q_body (cc := cX8_set_) (maxL := 5) (ret := none) (by decide) rfl (Nat.le_of_ble_eq_true rfl) ?_
  intro p e s m args below meth c ls X hr hlocks hK hP hl
  obtain ⟨hx, hb, hml, hown, hts⟩ := id X
  have hS : va_S (ipA ad n) s.heap s.heap [] := va_S.rf
  have hl : lv_has ls 5 [(0, .ref (ad i)), (1, .int a), (2, .int b), (3, .int v)] := hl
  have hij : i ≠ j := ip_oa m_i m_j
  refine lv_iload_n hx hb dX8_set__0 rfl (lv_at hl 1 rfl) ?_
  refine lv_aload_n hx hb dX8_set__1 rfl (lv_at hl 0 rfl) ?_
  refine q_get (v := .int co) (fs := [.int co, .ref (ad j)]) X hK hP fX8_set__7 h_i m_i rfl dX8_set__2 ?_
  refine lv_imul hx hb dX8_set__5 ?_
  refine lv_iload_n hx hb dX8_set__6 rfl (lv_at hl 2 rfl) ?_
  refine lv_iadd hx hb dX8_set__7 ?_
  refine lv_istore (lv' := [(4, .int ((a * co) + b)), (0, .ref (ad i)), (1, .int a), (2, .int b), (3, .int v)]) hx hb dX8_set__8 hl (by decide) rfl (fun ls hl => ?_)
  refine lv_iload hx hb dX8_set__10 (lv_at hl 0 rfl) ?_
  refine lv_if_lt (tgt := 33) hx hb dX8_set__12 (by decide) (fun c_12 => ?_) (fun c_12 => ?_)
  · skip
    exact q_wvret X hr hlocks hP hS ⟨(by rw [tset, if_pos c_12]; exact m_j), (fun q n0 => rfl)⟩ dX8_set__33
  · skip
    refine lv_iload hx hb dX8_set__15 (lv_at hl 0 rfl) ?_
    refine lv_aload_n hx hb dX8_set__17 rfl (lv_at hl 1 rfl) ?_
    refine q_get (v := .ref (ad j)) (fs := [.int co, .ref (ad j)]) X hK hP fX8_set__19 h_i m_i rfl dX8_set__18 ?_
    refine q_alen (f := f) (k := k) (v := (nI k)) X hK hP h_j m_j rfl dX8_set__21 ?_
    refine lv_icmp_ge (tgt := 33) hx hb dX8_set__22 (by decide) (fun c_22 => ?_) (fun c_22 => ?_)
    · skip
      exact q_wvret X hr hlocks hP hS ⟨(by rw [tset, if_neg c_12, if_pos c_22]; exact m_j), (fun q n0 => rfl)⟩ dX8_set__33
    · skip
      refine lv_aload_n hx hb dX8_set__25 rfl (lv_at hl 1 rfl) ?_
      refine q_get (v := .ref (ad j)) (fs := [.int co, .ref (ad j)]) X hK hP fX8_set__19 h_i m_i rfl dX8_set__26 ?_
      refine lv_iload hx hb dX8_set__29 (lv_at hl 0 rfl) ?_
      refine lv_iload_n hx hb dX8_set__31 rfl (lv_at hl 4 rfl) ?_
      refine q_iast (f := f) (k := k) X hK hI hP hS h_j m_j (vp_in_d hk c_12 c_22) dX8_set__32 (fun H locs hP hS => ?_)
      exact q_wvret X hr hlocks hP hS ⟨(by rw [tset, if_neg c_12, if_neg c_22]; exact (va_up_self M j (.inl (cI, k, .inl (upd f ((a * co) + b).toNatClampNeg v))))), (fun q n0 => (va_up_ne _ _ n0))⟩ dX8_set__33
set_option maxRecDepth 20000 in
theorem fX8_fill_19 : FL wsX8_fill RX8 19 8 1 := ⟨RX8, TX8, 2, rfl, by decide +kernel, by decide, by decide +kernel⟩
set_option maxHeartbeats 4000000 in
set_option maxRecDepth 100000 in
theorem c_X8_fill (l : Launch) (D : va_G) (cB cI cJ : ClassId) (ad : Nat → Nat) (n : Nat) (M : Nat → va_E) (hI : ipI ad n) (i j k : Nat) (co : Int32) (f : Nat → Int32) (v : Int32) (h_i : i < n) (h_j : j < n) (m_i : M i = .inr (8, [.int co, .ref (ad j)])) (m_j : M j = .inl (cI, k, .inl f)) (hk : k < 2 ^ 31) : cWv l D cB cI cJ ad n M yX8_fill wsX8_fill 0 0 [.ref (ad i), .int v] (fun M' => M' j = .inl (cI, k, .inl (fun _ => v)) ∧ ∀ q : Nat, q ≠ j → M' q = M q) := by
  refine q_body (cc := cX8_fill) (maxL := 3) (ret := none) (by decide) rfl (Nat.le_of_ble_eq_true rfl) ?_
  intro p e s m args below meth c ls X hr hlocks hK hP hl
  obtain ⟨hx, hb, hml, hown, hts⟩ := id X
  have hS : va_S (ipA ad n) s.heap s.heap [] := va_S.rf
  have hl : lv_has ls 3 [(0, .ref (ad i)), (1, .int v)] := hl
  have hij : i ≠ j := ip_oa m_i m_j
  refine lv_iconst (v := 0) hx hb dX8_fill_0 (by decide) ?_
  refine lv_istore_n (lv' := [(2, .int 0), (0, .ref (ad i)), (1, .int v)]) hx hb dX8_fill_1 rfl hl (by decide) rfl (fun ls hl => ?_)
  have loop_2 : ∀ (fuel : Nat) (t : Nat) (x2 : Int32), k - t < fuel → (t ≤ k) → x2 = nI t → ∀ (ML2 : Nat → va_E) (H : Heap) (locs : List Loc), ML2 j = .inl (cI, k, .inl (tfill t f v)) → (∀ q : Nat, q ≠ j → ML2 q = M q) → va_P D vwCl (ip ad n ML2) H → va_S (ipA ad n) s.heap H locs → ∀ (ls : Array Slot), lv_has ls 3 [(0, .ref (ad i)), (1, .int v), (2, .int x2)] → W p l e (rmOf 0 0) s m args below meth c H locs 0 0 (MQ below (va_Qv (fun M' => M' j = .inl (cI, k, .inl (fun _ => v)) ∧ ∀ q : Nat, q ≠ j → M' q = M q) (fun M' t => va_P D vwCl (ip ad n M') t.heap) (ipA ad n)) args s 0 0 (ipA ad n)) (F0 m 2 ls []) := by
    intro fuel
    induction fuel with
    | zero =>
      intro t x2 hz
      exact absurd hz (Nat.not_lt_zero _)
    | succ fuel ih_2 =>
      intro t x2 hz_2 ht e2 ML2 H locs mL2_0 fL2 hP hS ls hl
      subst e2
      skip
      refine lv_iload_n hx hb dX8_fill_2 rfl (lv_at hl 2 rfl) ?_
      refine lv_aload_n hx hb dX8_fill_3 rfl (lv_at hl 0 rfl) ?_
      refine q_get (v := .ref (ad j)) (fs := [.int co, .ref (ad j)]) X hK hP fX8_fill_19 h_i ((fL2 i (by omega)).trans m_i) rfl dX8_fill_4 ?_
      refine q_alen (f := (tfill t f v)) (k := k) (v := (nI k)) X hK hP h_j mL2_0 rfl dX8_fill_7 ?_
      refine lv_icmp_ge (tgt := 24) hx hb dX8_fill_8 (by decide) (fun c_8 => ?_) (fun c_8 => ?_)
      · skip
        have hP := ip_swap (g := (fun _ => v)) hP h_j mL2_0 (fun q hq => by have h9 : t = k := eq_of_le c_8 hk ht; subst h9; simp [tfill, hq])
        exact q_wvret X hr hlocks hP hS ⟨(va_up_self ML2 j (.inl (cI, k, .inl (fun _ => v)))), (fun q n0 => ((va_up_ne _ _ n0).trans (fL2 q n0)))⟩ dX8_fill_24
      · skip
        refine lv_aload_n hx hb dX8_fill_11 rfl (lv_at hl 0 rfl) ?_
        refine q_get (v := .ref (ad j)) (fs := [.int co, .ref (ad j)]) X hK hP fX8_fill_19 h_i ((fL2 i (by omega)).trans m_i) rfl dX8_fill_12 ?_
        refine lv_iload_n hx hb dX8_fill_15 rfl (lv_at hl 2 rfl) ?_
        refine lv_iload_n hx hb dX8_fill_16 rfl (lv_at hl 1 rfl) ?_
        refine q_iast (f := (tfill t f v)) (k := k) X hK hI hP hS h_j mL2_0 (vp_in_nI (lt_of_nlt c_8 hk ht) hk) dX8_fill_17 (fun H locs hP hS => ?_)
        refine lv_iinc (v := ((nI t) + 1)) (lv' := [(2, .int ((nI t) + 1)), (0, .ref (ad i)), (1, .int v)]) hx hb dX8_fill_18 hl (k := 2) rfl rfl (by decide) rfl (fun ls hl => ?_)
        refine lv_goto (tgt := 2) hx hb dX8_fill_21 (by decide) ?_
        exact ih_2 (t + 1) ((nI t) + 1) (by have := lt_of_nlt c_8 hk ht; omega) (by have := lt_of_nlt c_8 hk ht; omega) (by first | rfl | exact nI_0.symm | exact nI_1 _) _ _ _ (by refine (va_up_self ML2 j (.inl (cI, k, .inl (upd (tfill t f v) (nI t).toNatClampNeg v)))).trans ?_; rw [nI_clamp (by omega), tfill_1]) (fun q n0 => ((va_up_ne _ _ n0).trans (fL2 q n0))) hP hS ls (lv_sub hl [1, 2, 0] rfl)
  exact loop_2 (k + 1) 0 0 (by omega) (by omega) (by first | rfl | exact nI_0.symm | exact nI_1 _) _ _ _ (by rw [tfill_0]; exact m_j) (fun q n0 => rfl) hP hS ls (lv_sub hl [1, 2, 0] rfl)
set_option maxRecDepth 20000 in
theorem fX8_become_19 : FL wsX8_become RX8 19 8 1 := ⟨RX8, TX8, 2, rfl, by decide +kernel, by decide, by decide +kernel⟩
theorem yd_X8_at : YD yX8_at 1 := ⟨by decide +kernel, by decide +kernel, by decide +kernel⟩
set_option maxHeartbeats 4000000 in
set_option maxRecDepth 100000 in
theorem c_X8_become (l : Launch) (D : va_G) (cB cI cJ : ClassId) (ad : Nat → Nat) (n : Nat) (M : Nat → va_E) (hI : ipI ad n) (i j k i2 j2 k2 : Nat) (co co2 : Int32) (f f2 : Nat → Int32) (h_i : i < n) (h_j : j < n) (h_i2 : i2 < n) (h_j2 : j2 < n) (m_i : M i = .inr (8, [.int co, .ref (ad j)])) (m_j : M j = .inl (cI, k, .inl f)) (m_i2 : M i2 = .inr (8, [.int co2, .ref (ad j2)])) (m_j2 : M j2 = .inl (cI, k2, .inl f2)) (hk : k < 2 ^ 31) (hk2 : k2 < 2 ^ 31) (hn1 : j2 ≠ j) : cWv l D cB cI cJ ad n M yX8_become wsX8_become 1 21 [.ref (ad i), .ref (ad i2)] (fun M' => M' j = .inl (cI, k, .inl (fun q => tat k2 f2 (nI q))) ∧ ∀ q : Nat, q ≠ j → M' q = M q) := by
  refine q_body (cc := cX8_become) (maxL := 3) (ret := none) (by decide) rfl (Nat.le_of_ble_eq_true rfl) ?_
  intro p e s m args below meth c ls X hr hlocks hK hP hl
  obtain ⟨hx, hb, hml, hown, hts⟩ := id X
  have hS : va_S (ipA ad n) s.heap s.heap [] := va_S.rf
  have hl : lv_has ls 3 [(0, .ref (ad i)), (1, .ref (ad i2))] := hl
  have hij : i ≠ j := ip_oa m_i m_j
  have hn0 : i2 ≠ j := ip_oa m_i2 m_j
  refine lv_iconst (v := 0) hx hb dX8_become_0 (by decide) ?_
  refine lv_istore_n (lv' := [(2, .int 0), (0, .ref (ad i)), (1, .ref (ad i2))]) hx hb dX8_become_1 rfl hl (by decide) rfl (fun ls hl => ?_)
  have loop_2 : ∀ (fuel : Nat) (t : Nat) (x2 : Int32), k - t < fuel → (t ≤ k) → x2 = nI t → ∀ (ML2 : Nat → va_E) (H : Heap) (locs : List Loc), ML2 j = .inl (cI, k, .inl (tcopy t f (fun q => tat k2 f2 (nI q)))) → (∀ q : Nat, q ≠ j → ML2 q = M q) → va_P D vwCl (ip ad n ML2) H → va_S (ipA ad n) s.heap H locs → ∀ (ls : Array Slot), lv_has ls 3 [(0, .ref (ad i)), (1, .ref (ad i2)), (2, .int x2)] → W p l e (rmOf 1 21) s m args below meth c H locs 0 0 (MQ below (va_Qv (fun M' => M' j = .inl (cI, k, .inl (fun q => tat k2 f2 (nI q))) ∧ ∀ q : Nat, q ≠ j → M' q = M q) (fun M' t => va_P D vwCl (ip ad n M') t.heap) (ipA ad n)) args s 0 0 (ipA ad n)) (F0 m 2 ls []) := by
    intro fuel
    induction fuel with
    | zero =>
      intro t x2 hz
      exact absurd hz (Nat.not_lt_zero _)
    | succ fuel ih_2 =>
      intro t x2 hz_2 ht e2 ML2 H locs mL2_0 fL2 hP hS ls hl
      subst e2
      skip
      refine lv_iload_n hx hb dX8_become_2 rfl (lv_at hl 2 rfl) ?_
      refine lv_aload_n hx hb dX8_become_3 rfl (lv_at hl 0 rfl) ?_
      refine q_get (v := .ref (ad j)) (fs := [.int co, .ref (ad j)]) X hK hP fX8_become_19 h_i ((fL2 i (by omega)).trans m_i) rfl dX8_become_4 ?_
      refine q_alen (f := (tcopy t f (fun q => tat k2 f2 (nI q)))) (k := k) (v := (nI k)) X hK hP h_j mL2_0 rfl dX8_become_7 ?_
      refine lv_icmp_ge (tgt := 28) hx hb dX8_become_8 (by decide) (fun c_8 => ?_) (fun c_8 => ?_)
      · skip
        have hP := ip_swap (g := (fun q => tat k2 f2 (nI q))) hP h_j mL2_0 (fun q hq => by have h9 : t = k := eq_of_le c_8 hk ht; subst h9; simp [tcopy, hq])
        exact q_wvret X hr hlocks hP hS ⟨(va_up_self ML2 j (.inl (cI, k, .inl (fun q => tat k2 f2 (nI q))))), (fun q n0 => ((va_up_ne _ _ n0).trans (fL2 q n0)))⟩ dX8_become_28
      · skip
        refine lv_aload_n hx hb dX8_become_11 rfl (lv_at hl 0 rfl) ?_
        refine q_get (v := .ref (ad j)) (fs := [.int co, .ref (ad j)]) X hK hP fX8_become_19 h_i ((fL2 i (by omega)).trans m_i) rfl dX8_become_12 ?_
        refine lv_iload_n hx hb dX8_become_15 rfl (lv_at hl 2 rfl) ?_
        refine lv_aload_n hx hb dX8_become_16 rfl (lv_at hl 1 rfl) ?_
        refine lv_iload_n hx hb dX8_become_17 rfl (lv_at hl 2 rfl) ?_
        refine q_rdV (As := [.int (nI t)]) (rest := [.int (nI t), .ref (ad j)]) (c_X8_at l D cB cI cJ ad n ML2 i2 j2 k2 co2 f2 (nI t) h_i2 h_j2 ((fL2 i2 (by omega)).trans m_i2) ((fL2 j2 (by omega)).trans m_j2) hk2) X hK hP hS hl.1 rfl gX8_become_X8_at yd_X8_at ⟨Nat.le_of_ble_eq_true rfl, Nat.le_of_ble_eq_true rfl⟩ h_i2 ((fL2 i2 (by omega)).trans m_i2) (ci := 8) rfl rfl (Nat.le_of_ble_eq_true rfl) ⟨Nat.zero_le _, Nat.zero_le _⟩ dX8_become_18 ?_
        refine q_iast (f := (tcopy t f (fun q => tat k2 f2 (nI q)))) (k := k) X hK hI hP hS h_j mL2_0 (vp_in_nI (lt_of_nlt c_8 hk ht) hk) dX8_become_21 (fun H locs hP hS => ?_)
        refine lv_iinc (v := ((nI t) + 1)) (lv' := [(2, .int ((nI t) + 1)), (0, .ref (ad i)), (1, .ref (ad i2))]) hx hb dX8_become_22 hl (k := 2) rfl rfl (by decide) rfl (fun ls hl => ?_)
        refine lv_goto (tgt := 2) hx hb dX8_become_25 (by decide) ?_
        exact ih_2 (t + 1) ((nI t) + 1) (by have := lt_of_nlt c_8 hk ht; omega) (by have := lt_of_nlt c_8 hk ht; omega) (by first | rfl | exact nI_0.symm | exact nI_1 _) _ _ _ (by refine (va_up_self ML2 j (.inl (cI, k, .inl (upd (tcopy t f (fun q => tat k2 f2 (nI q))) (nI t).toNatClampNeg (tat k2 f2 (nI t)))))).trans ?_; rw [nI_clamp (by omega), tcopy_1 t f (fun q => tat k2 f2 (nI q))]) (fun q n0 => ((va_up_ne _ _ n0).trans (fL2 q n0))) hP hS ls (lv_sub hl [1, 2, 0] rfl)
  exact loop_2 (k + 1) 0 0 (by omega) (by omega) (by first | rfl | exact nI_0.symm | exact nI_1 _) _ _ _ (by rw [tcopy_0]; exact m_j) (fun q n0 => rfl) hP hS ls (lv_sub hl [1, 2, 0] rfl)
