/-! the law's own methods, of contracts that may write -/
noncomputable section
set_option maxRecDepth 100000 in
theorem hw_count (l : Launch) (D : va_G) (cB cI cJ : ClassId) (ad : Nat → Nat) (n : Nat) (M : Nat → va_E) (hI : ipI ad n) (po ou : Nat) (fs : List Value) (f : Nat → Int64) (x : Int32) {fr lo : Nat} {post : Int32 → (Nat → va_E) → Prop} (hM : cWi l D cB cI cJ ad n M yX12_count wsX12_count fr lo [.ref (ad po), .int x] post) (hpo : ∀ (r : Int32) (M1 : Nat → va_E), post r M1 → M1 ou = .inl (cJ, 1, .inr (.inl f))) (h_po : po < n) (h_ou : ou < n) (m_po : M po = .inr (11, fs)) : cH l D cB cI cJ ad n M yL_count wsL_count (fr + 1) (lo + 40) [.ref (ad po), .int x, .ref (ad ou)] (fun v M' => v = 0 ∧ ∃ (r : Int32) (M1 : Nat → va_E), post r M1 ∧ M' = va_up M1 ou (.inl (cJ, 1, .inr (.inl (vp_updL f 0 r.toInt64))))) := by
  refine q_bodyH (cc := cL_count) (maxL := 4) (ret := some .int) (by decide) rfl (Nat.le_of_ble_eq_true rfl) ?_
  intro p e s m args below meth c ls X hr hlocks hT hK hZ hP hl
  obtain ⟨hx, hb, hml, hown, hts⟩ := id X
  have hS : va_S (ipA ad n) s.heap s.heap [] := va_S.rf
  have hl : lv_has ls 4 [(0, .ref (ad po)), (1, .int x), (2, .ref (ad ou))] := hl
  refine lv_aload_n hx hb dL_count_0 rfl (lv_at hl 2 rfl) ?_
  refine lv_iconst (v := 0) hx hb dL_count_1 (by decide) ?_
  refine lv_aload_n hx hb dL_count_2 rfl (lv_at hl 0 rfl) ?_
  refine lv_iload_n hx hb dL_count_3 rfl (lv_at hl 1 rfl) ?_
  refine q_wrVi (As := [.int x]) (rest := [.int 0, .ref (ad ou)]) hM X hK hP hS hl.1 rfl gL_count_X12_count ydx_count ⟨by show _ ≤ _; exact Nat.le_refl _, by show 8 + (2 + 11) + lo ≤ lo + 40; omega⟩ h_po m_po (ci := 11) rfl rfl (Nat.le_of_ble_eq_true rfl) ⟨Nat.zero_le _, Nat.zero_le _⟩ dL_count_4 (fun r M1 H1 locs1 hp hP hS => ?_)
  refine lv_i2l hx hb dL_count_7 rfl ?_
  refine q_lastN (f := f) (k := 1) (y := r.toInt64) X hK hI hP hS 0 h_ou (hpo r M1 hp) (by decide) (by decide) dL_count_8 (fun H2 locs2 hP hS => ?_)
  refine lv_goto (tgt := 15) hx hb dL_count_9 (by decide) ?_
  refine lv_iconst (v := 0) hx hb dL_count_15 (by decide) ?_
  exact q_hret X hr hlocks hP hS ⟨rfl, r, M1, hp, rfl⟩ (by decide) (by decide) dL_count_16
set_option maxRecDepth 100000 in
theorem hw_person (l : Launch) (D : va_G) (cB cI cJ : ClassId) (ad : Nat → Nat) (n : Nat) (M : Nat → va_E) (hI : ipI ad n) (po ou : Nat) (fs : List Value) (f : Nat → Int64) (x y : Int32) {fr lo : Nat} {post : Int32 → (Nat → va_E) → Prop} (hM : cWi l D cB cI cJ ad n M yX12_person wsX12_person fr lo [.ref (ad po), .int x, .int y] post) (hpo : ∀ (r : Int32) (M1 : Nat → va_E), post r M1 → M1 ou = .inl (cJ, 1, .inr (.inl f))) (h_po : po < n) (h_ou : ou < n) (m_po : M po = .inr (11, fs)) : cH l D cB cI cJ ad n M yL_person wsL_person (fr + 1) (lo + 40) [.ref (ad po), .int x, .int y, .ref (ad ou)] (fun v M' => v = 0 ∧ ∃ (r : Int32) (M1 : Nat → va_E), post r M1 ∧ M' = va_up M1 ou (.inl (cJ, 1, .inr (.inl (vp_updL f 0 r.toInt64))))) := by
  refine q_bodyH (cc := cL_person) (maxL := 5) (ret := some .int) (by decide) rfl (Nat.le_of_ble_eq_true rfl) ?_
  intro p e s m args below meth c ls X hr hlocks hT hK hZ hP hl
  obtain ⟨hx, hb, hml, hown, hts⟩ := id X
  have hS : va_S (ipA ad n) s.heap s.heap [] := va_S.rf
  have hl : lv_has ls 5 [(0, .ref (ad po)), (1, .int x), (2, .int y), (3, .ref (ad ou))] := hl
  refine lv_aload_n hx hb dL_person_0 rfl (lv_at hl 3 rfl) ?_
  refine lv_iconst (v := 0) hx hb dL_person_1 (by decide) ?_
  refine lv_aload_n hx hb dL_person_2 rfl (lv_at hl 0 rfl) ?_
  refine lv_iload_n hx hb dL_person_3 rfl (lv_at hl 1 rfl) ?_
  refine lv_iload_n hx hb dL_person_4 rfl (lv_at hl 2 rfl) ?_
  refine q_wrVi (As := [.int x, .int y]) (rest := [.int 0, .ref (ad ou)]) hM X hK hP hS hl.1 rfl gL_person_X12_person ydx_person ⟨by show _ ≤ _; exact Nat.le_refl _, by show 8 + (3 + 11) + lo ≤ lo + 40; omega⟩ h_po m_po (ci := 11) rfl rfl (Nat.le_of_ble_eq_true rfl) ⟨Nat.zero_le _, Nat.zero_le _⟩ dL_person_5 (fun r M1 H1 locs1 hp hP hS => ?_)
  refine lv_i2l hx hb dL_person_8 rfl ?_
  refine q_lastN (f := f) (k := 1) (y := r.toInt64) X hK hI hP hS 0 h_ou (hpo r M1 hp) (by decide) (by decide) dL_person_9 (fun H2 locs2 hP hS => ?_)
  refine lv_goto (tgt := 17) hx hb dL_person_10 (by decide) ?_
  refine lv_iconst (v := 0) hx hb dL_person_17 (by decide) ?_
  exact q_hret X hr hlocks hP hS ⟨rfl, r, M1, hp, rfl⟩ (by decide) (by decide) dL_person_18
set_option maxRecDepth 100000 in
theorem hw_thing (l : Launch) (D : va_G) (cB cI cJ : ClassId) (ad : Nat → Nat) (n : Nat) (M : Nat → va_E) (hI : ipI ad n) (po ou : Nat) (fs : List Value) (f : Nat → Int64) (x y : Int32) {fr lo : Nat} {post : Int32 → (Nat → va_E) → Prop} (hM : cWi l D cB cI cJ ad n M yX12_thing wsX12_thing fr lo [.ref (ad po), .int x, .int y] post) (hpo : ∀ (r : Int32) (M1 : Nat → va_E), post r M1 → M1 ou = .inl (cJ, 1, .inr (.inl f))) (h_po : po < n) (h_ou : ou < n) (m_po : M po = .inr (11, fs)) : cH l D cB cI cJ ad n M yL_thing wsL_thing (fr + 1) (lo + 40) [.ref (ad po), .int x, .int y, .ref (ad ou)] (fun v M' => v = 0 ∧ ∃ (r : Int32) (M1 : Nat → va_E), post r M1 ∧ M' = va_up M1 ou (.inl (cJ, 1, .inr (.inl (vp_updL f 0 r.toInt64))))) := by
  refine q_bodyH (cc := cL_thing) (maxL := 5) (ret := some .int) (by decide) rfl (Nat.le_of_ble_eq_true rfl) ?_
  intro p e s m args below meth c ls X hr hlocks hT hK hZ hP hl
  obtain ⟨hx, hb, hml, hown, hts⟩ := id X
  have hS : va_S (ipA ad n) s.heap s.heap [] := va_S.rf
  have hl : lv_has ls 5 [(0, .ref (ad po)), (1, .int x), (2, .int y), (3, .ref (ad ou))] := hl
  refine lv_aload_n hx hb dL_thing_0 rfl (lv_at hl 3 rfl) ?_
  refine lv_iconst (v := 0) hx hb dL_thing_1 (by decide) ?_
  refine lv_aload_n hx hb dL_thing_2 rfl (lv_at hl 0 rfl) ?_
  refine lv_iload_n hx hb dL_thing_3 rfl (lv_at hl 1 rfl) ?_
  refine lv_iload_n hx hb dL_thing_4 rfl (lv_at hl 2 rfl) ?_
  refine q_wrVi (As := [.int x, .int y]) (rest := [.int 0, .ref (ad ou)]) hM X hK hP hS hl.1 rfl gL_thing_X12_thing ydx_thing ⟨by show _ ≤ _; exact Nat.le_refl _, by show 8 + (3 + 11) + lo ≤ lo + 40; omega⟩ h_po m_po (ci := 11) rfl rfl (Nat.le_of_ble_eq_true rfl) ⟨Nat.zero_le _, Nat.zero_le _⟩ dL_thing_5 (fun r M1 H1 locs1 hp hP hS => ?_)
  refine lv_i2l hx hb dL_thing_8 rfl ?_
  refine q_lastN (f := f) (k := 1) (y := r.toInt64) X hK hI hP hS 0 h_ou (hpo r M1 hp) (by decide) (by decide) dL_thing_9 (fun H2 locs2 hP hS => ?_)
  refine lv_goto (tgt := 17) hx hb dL_thing_10 (by decide) ?_
  refine lv_iconst (v := 0) hx hb dL_thing_17 (by decide) ?_
  exact q_hret X hr hlocks hP hS ⟨rfl, r, M1, hp, rfl⟩ (by decide) (by decide) dL_thing_18
set_option maxRecDepth 100000 in
theorem hw_may (l : Launch) (D : va_G) (cB cI cJ : ClassId) (ad : Nat → Nat) (n : Nat) (M : Nat → va_E) (hI : ipI ad n) (po ou : Nat) (fs : List Value) (f : Nat → Int64) (x y : Int32) {fr lo : Nat} {post : Int32 → (Nat → va_E) → Prop} (hM : cWi l D cB cI cJ ad n M yX12_may wsX12_may fr lo [.ref (ad po), .int x, .int y] post) (hpo : ∀ (r : Int32) (M1 : Nat → va_E), post r M1 → M1 ou = .inl (cJ, 1, .inr (.inl f))) (h_po : po < n) (h_ou : ou < n) (m_po : M po = .inr (11, fs)) : cH l D cB cI cJ ad n M yL_may wsL_may (fr + 1) (lo + 40) [.ref (ad po), .int x, .int y, .ref (ad ou)] (fun v M' => v = 0 ∧ ∃ (r : Int32) (M1 : Nat → va_E), post r M1 ∧ M' = va_up M1 ou (.inl (cJ, 1, .inr (.inl (vp_updL f 0 (if r = 0 then 0 else 1)))))) := by
  refine q_bodyH (cc := cL_may) (maxL := 5) (ret := some .int) (by decide) rfl (Nat.le_of_ble_eq_true rfl) ?_
  intro p e s m args below meth c ls X hr hlocks hT hK hZ hP hl
  obtain ⟨hx, hb, hml, hown, hts⟩ := id X
  have hS : va_S (ipA ad n) s.heap s.heap [] := va_S.rf
  have hl : lv_has ls 5 [(0, .ref (ad po)), (1, .int x), (2, .int y), (3, .ref (ad ou))] := hl
  refine lv_aload_n hx hb dL_may_0 rfl (lv_at hl 3 rfl) ?_
  refine lv_iconst (v := 0) hx hb dL_may_1 (by decide) ?_
  refine lv_aload_n hx hb dL_may_2 rfl (lv_at hl 0 rfl) ?_
  refine lv_iload_n hx hb dL_may_3 rfl (lv_at hl 1 rfl) ?_
  refine lv_iload_n hx hb dL_may_4 rfl (lv_at hl 2 rfl) ?_
  refine q_wrVi (As := [.int x, .int y]) (rest := [.int 0, .ref (ad ou)]) hM X hK hP hS hl.1 rfl gL_may_X12_may ydx_may ⟨by show _ ≤ _; exact Nat.le_refl _, by show 8 + (3 + 11) + lo ≤ lo + 40; omega⟩ h_po m_po (ci := 11) rfl rfl (Nat.le_of_ble_eq_true rfl) ⟨Nat.zero_le _, Nat.zero_le _⟩ dL_may_5 (fun r M1 H1 locs1 hp hP hS => ?_)
  refine lv_if_eq (tgt := 15) hx hb dL_may_8 (by decide) (fun c0 => ?_) (fun c0 => ?_)
  · refine lv_lconst (v := 0) hx hb dL_may_15 (by decide) ?_
    refine q_lastN (f := f) (k := 1) (y := 0) X hK hI hP hS 0 h_ou (hpo r M1 hp) (by decide) (by decide) dL_may_16 (fun H2 locs2 hP hS => ?_)
    refine lv_goto (tgt := 24) hx hb dL_may_17 (by decide) ?_
    refine lv_iconst (v := 0) hx hb dL_may_24 (by decide) ?_
    exact q_hret X hr hlocks hP hS ⟨rfl, r, M1, hp, by rw [if_pos c0]⟩ (by decide) (by decide) dL_may_25
  · refine lv_lconst (v := 1) hx hb dL_may_11 (by decide) ?_
    refine lv_goto (tgt := 16) hx hb dL_may_12 (by decide) ?_
    refine q_lastN (f := f) (k := 1) (y := 1) X hK hI hP hS 0 h_ou (hpo r M1 hp) (by decide) (by decide) dL_may_16 (fun H2 locs2 hP hS => ?_)
    refine lv_goto (tgt := 24) hx hb dL_may_17 (by decide) ?_
    refine lv_iconst (v := 0) hx hb dL_may_24 (by decide) ?_
    exact q_hret X hr hlocks hP hS ⟨rfl, r, M1, hp, by rw [if_neg c0]⟩ (by decide) (by decide) dL_may_25
set_option maxRecDepth 100000 in
theorem hw_two (l : Launch) (D : va_G) (cB cI cJ : ClassId) (ad : Nat → Nat) (n : Nat) (M : Nat → va_E) (hI : ipI ad n) (po ou : Nat) (fs : List Value) (f : Nat → Int64) (x y : Int32) {fr lo : Nat} {post : Int32 → (Nat → va_E) → Prop} (hM : cWi l D cB cI cJ ad n M yX12_two wsX12_two fr lo [.ref (ad po), .int x, .int y] post) (hpo : ∀ (r : Int32) (M1 : Nat → va_E), post r M1 → M1 ou = .inl (cJ, 1, .inr (.inl f))) (h_po : po < n) (h_ou : ou < n) (m_po : M po = .inr (11, fs)) : cH l D cB cI cJ ad n M yL_two wsL_two (fr + 1) (lo + 40) [.ref (ad po), .int x, .int y, .ref (ad ou)] (fun v M' => v = 0 ∧ ∃ (r : Int32) (M1 : Nat → va_E), post r M1 ∧ M' = va_up M1 ou (.inl (cJ, 1, .inr (.inl (vp_updL f 0 r.toInt64))))) := by
  refine q_bodyH (cc := cL_two) (maxL := 5) (ret := some .int) (by decide) rfl (Nat.le_of_ble_eq_true rfl) ?_
  intro p e s m args below meth c ls X hr hlocks hT hK hZ hP hl
  obtain ⟨hx, hb, hml, hown, hts⟩ := id X
  have hS : va_S (ipA ad n) s.heap s.heap [] := va_S.rf
  have hl : lv_has ls 5 [(0, .ref (ad po)), (1, .int x), (2, .int y), (3, .ref (ad ou))] := hl
  refine lv_aload_n hx hb dL_two_0 rfl (lv_at hl 3 rfl) ?_
  refine lv_iconst (v := 0) hx hb dL_two_1 (by decide) ?_
  refine lv_aload_n hx hb dL_two_2 rfl (lv_at hl 0 rfl) ?_
  refine lv_iload_n hx hb dL_two_3 rfl (lv_at hl 1 rfl) ?_
  refine lv_iload_n hx hb dL_two_4 rfl (lv_at hl 2 rfl) ?_
  refine q_wrVi (As := [.int x, .int y]) (rest := [.int 0, .ref (ad ou)]) hM X hK hP hS hl.1 rfl gL_two_X12_two ydx_two ⟨by show _ ≤ _; exact Nat.le_refl _, by show 8 + (3 + 11) + lo ≤ lo + 40; omega⟩ h_po m_po (ci := 11) rfl rfl (Nat.le_of_ble_eq_true rfl) ⟨Nat.zero_le _, Nat.zero_le _⟩ dL_two_5 (fun r M1 H1 locs1 hp hP hS => ?_)
  refine lv_i2l hx hb dL_two_8 rfl ?_
  refine q_lastN (f := f) (k := 1) (y := r.toInt64) X hK hI hP hS 0 h_ou (hpo r M1 hp) (by decide) (by decide) dL_two_9 (fun H2 locs2 hP hS => ?_)
  refine lv_goto (tgt := 21) hx hb dL_two_10 (by decide) ?_
  refine lv_iconst (v := 0) hx hb dL_two_21 (by decide) ?_
  exact q_hret X hr hlocks hP hS ⟨rfl, r, M1, hp, rfl⟩ (by decide) (by decide) dL_two_22
set_option maxRecDepth 100000 in
theorem hw_fate (l : Launch) (D : va_G) (cB cI cJ : ClassId) (ad : Nat → Nat) (n : Nat) (M : Nat → va_E) (hI : ipI ad n) (po ou : Nat) (fs : List Value) (f : Nat → Int64) (x : Int32) {fr lo : Nat} {post : Int32 → (Nat → va_E) → Prop} (hM : cWi l D cB cI cJ ad n M yX12_fate wsX12_fate fr lo [.ref (ad po), .int x] post) (hpo : ∀ (r : Int32) (M1 : Nat → va_E), post r M1 → M1 ou = .inl (cJ, 1, .inr (.inl f))) (h_po : po < n) (h_ou : ou < n) (m_po : M po = .inr (11, fs)) : cH l D cB cI cJ ad n M yL_fate wsL_fate (fr + 1) (lo + 40) [.ref (ad po), .int x, .ref (ad ou)] (fun v M' => v = 0 ∧ ∃ (r : Int32) (M1 : Nat → va_E), post r M1 ∧ M' = va_up M1 ou (.inl (cJ, 1, .inr (.inl (vp_updL f 0 r.toInt64))))) := by
  refine q_bodyH (cc := cL_fate) (maxL := 4) (ret := some .int) (by decide) rfl (Nat.le_of_ble_eq_true rfl) ?_
  intro p e s m args below meth c ls X hr hlocks hT hK hZ hP hl
  obtain ⟨hx, hb, hml, hown, hts⟩ := id X
  have hS : va_S (ipA ad n) s.heap s.heap [] := va_S.rf
  have hl : lv_has ls 4 [(0, .ref (ad po)), (1, .int x), (2, .ref (ad ou))] := hl
  refine lv_aload_n hx hb dL_fate_0 rfl (lv_at hl 2 rfl) ?_
  refine lv_iconst (v := 0) hx hb dL_fate_1 (by decide) ?_
  refine lv_aload_n hx hb dL_fate_2 rfl (lv_at hl 0 rfl) ?_
  refine lv_iload_n hx hb dL_fate_3 rfl (lv_at hl 1 rfl) ?_
  refine q_wrVi (As := [.int x]) (rest := [.int 0, .ref (ad ou)]) hM X hK hP hS hl.1 rfl gL_fate_X12_fate ydx_fate ⟨by show _ ≤ _; exact Nat.le_refl _, by show 8 + (2 + 11) + lo ≤ lo + 40; omega⟩ h_po m_po (ci := 11) rfl rfl (Nat.le_of_ble_eq_true rfl) ⟨Nat.zero_le _, Nat.zero_le _⟩ dL_fate_4 (fun r M1 H1 locs1 hp hP hS => ?_)
  refine lv_i2l hx hb dL_fate_7 rfl ?_
  refine q_lastN (f := f) (k := 1) (y := r.toInt64) X hK hI hP hS 0 h_ou (hpo r M1 hp) (by decide) (by decide) dL_fate_8 (fun H2 locs2 hP hS => ?_)
  refine lv_goto (tgt := 15) hx hb dL_fate_9 (by decide) ?_
  refine lv_iconst (v := 0) hx hb dL_fate_15 (by decide) ?_
  exact q_hret X hr hlocks hP hS ⟨rfl, r, M1, hp, rfl⟩ (by decide) (by decide) dL_fate_16
set_option maxRecDepth 100000 in
theorem hw_lost (l : Launch) (D : va_G) (cB cI cJ : ClassId) (ad : Nat → Nat) (n : Nat) (M : Nat → va_E) (hI : ipI ad n) (po ou : Nat) (fs : List Value) (f : Nat → Int64) (x : Int32) {fr lo : Nat} {post : Int32 → (Nat → va_E) → Prop} (hM : cWi l D cB cI cJ ad n M yX12_lost wsX12_lost fr lo [.ref (ad po), .int x] post) (hpo : ∀ (r : Int32) (M1 : Nat → va_E), post r M1 → M1 ou = .inl (cJ, 1, .inr (.inl f))) (h_po : po < n) (h_ou : ou < n) (m_po : M po = .inr (11, fs)) : cH l D cB cI cJ ad n M yL_lost wsL_lost (fr + 1) (lo + 40) [.ref (ad po), .int x, .ref (ad ou)] (fun v M' => v = 0 ∧ ∃ (r : Int32) (M1 : Nat → va_E), post r M1 ∧ M' = va_up M1 ou (.inl (cJ, 1, .inr (.inl (vp_updL f 0 r.toInt64))))) := by
  refine q_bodyH (cc := cL_lost) (maxL := 4) (ret := some .int) (by decide) rfl (Nat.le_of_ble_eq_true rfl) ?_
  intro p e s m args below meth c ls X hr hlocks hT hK hZ hP hl
  obtain ⟨hx, hb, hml, hown, hts⟩ := id X
  have hS : va_S (ipA ad n) s.heap s.heap [] := va_S.rf
  have hl : lv_has ls 4 [(0, .ref (ad po)), (1, .int x), (2, .ref (ad ou))] := hl
  refine lv_aload_n hx hb dL_lost_0 rfl (lv_at hl 2 rfl) ?_
  refine lv_iconst (v := 0) hx hb dL_lost_1 (by decide) ?_
  refine lv_aload_n hx hb dL_lost_2 rfl (lv_at hl 0 rfl) ?_
  refine lv_iload_n hx hb dL_lost_3 rfl (lv_at hl 1 rfl) ?_
  refine q_wrVi (As := [.int x]) (rest := [.int 0, .ref (ad ou)]) hM X hK hP hS hl.1 rfl gL_lost_X12_lost ydx_lost ⟨by show _ ≤ _; exact Nat.le_refl _, by show 8 + (2 + 11) + lo ≤ lo + 40; omega⟩ h_po m_po (ci := 11) rfl rfl (Nat.le_of_ble_eq_true rfl) ⟨Nat.zero_le _, Nat.zero_le _⟩ dL_lost_4 (fun r M1 H1 locs1 hp hP hS => ?_)
  refine lv_i2l hx hb dL_lost_7 rfl ?_
  refine q_lastN (f := f) (k := 1) (y := r.toInt64) X hK hI hP hS 0 h_ou (hpo r M1 hp) (by decide) (by decide) dL_lost_8 (fun H2 locs2 hP hS => ?_)
  refine lv_goto (tgt := 15) hx hb dL_lost_9 (by decide) ?_
  refine lv_iconst (v := 0) hx hb dL_lost_15 (by decide) ?_
  exact q_hret X hr hlocks hP hS ⟨rfl, r, M1, hp, rfl⟩ (by decide) (by decide) dL_lost_16
set_option maxRecDepth 100000 in
theorem hw_wear (l : Launch) (D : va_G) (cB cI cJ : ClassId) (ad : Nat → Nat) (n : Nat) (M : Nat → va_E) (hI : ipI ad n) (po ou : Nat) (fs : List Value) (f : Nat → Int64) (x y z : Int32) {fr lo : Nat} {post : Int32 → (Nat → va_E) → Prop} (hM : cWi l D cB cI cJ ad n M yX12_wear wsX12_wear fr lo [.ref (ad po), .int x, .int y, .int z] post) (hpo : ∀ (r : Int32) (M1 : Nat → va_E), post r M1 → M1 ou = .inl (cJ, 1, .inr (.inl f))) (h_po : po < n) (h_ou : ou < n) (m_po : M po = .inr (11, fs)) : cH l D cB cI cJ ad n M yL_wear wsL_wear (fr + 1) (lo + 40) [.ref (ad po), .int x, .int y, .int z, .ref (ad ou)] (fun v M' => v = 0 ∧ ∃ (r : Int32) (M1 : Nat → va_E), post r M1 ∧ M' = va_up M1 ou (.inl (cJ, 1, .inr (.inl (vp_updL f 0 r.toInt64))))) := by
  refine q_bodyH (cc := cL_wear) (maxL := 6) (ret := some .int) (by decide) rfl (Nat.le_of_ble_eq_true rfl) ?_
  intro p e s m args below meth c ls X hr hlocks hT hK hZ hP hl
  obtain ⟨hx, hb, hml, hown, hts⟩ := id X
  have hS : va_S (ipA ad n) s.heap s.heap [] := va_S.rf
  have hl : lv_has ls 6 [(0, .ref (ad po)), (1, .int x), (2, .int y), (3, .int z), (4, .ref (ad ou))] := hl
  refine lv_aload hx hb dL_wear_0 (lv_at hl 4 rfl) ?_
  refine lv_iconst (v := 0) hx hb dL_wear_2 (by decide) ?_
  refine lv_aload_n hx hb dL_wear_3 rfl (lv_at hl 0 rfl) ?_
  refine lv_iload_n hx hb dL_wear_4 rfl (lv_at hl 1 rfl) ?_
  refine lv_iload_n hx hb dL_wear_5 rfl (lv_at hl 2 rfl) ?_
  refine lv_iload_n hx hb dL_wear_6 rfl (lv_at hl 3 rfl) ?_
  refine q_wrVi (As := [.int x, .int y, .int z]) (rest := [.int 0, .ref (ad ou)]) hM X hK hP hS hl.1 rfl gL_wear_X12_wear ydx_wear ⟨by show _ ≤ _; exact Nat.le_refl _, by show 8 + (5 + 11) + lo ≤ lo + 40; omega⟩ h_po m_po (ci := 11) rfl rfl (Nat.le_of_ble_eq_true rfl) ⟨Nat.zero_le _, Nat.zero_le _⟩ dL_wear_7 (fun r M1 H1 locs1 hp hP hS => ?_)
  refine lv_i2l hx hb dL_wear_10 rfl ?_
  refine q_lastN (f := f) (k := 1) (y := r.toInt64) X hK hI hP hS 0 h_ou (hpo r M1 hp) (by decide) (by decide) dL_wear_11 (fun H2 locs2 hP hS => ?_)
  refine lv_goto (tgt := 23) hx hb dL_wear_12 (by decide) ?_
  refine lv_iconst (v := 0) hx hb dL_wear_23 (by decide) ?_
  exact q_hret X hr hlocks hP hS ⟨rfl, r, M1, hp, rfl⟩ (by decide) (by decide) dL_wear_24
set_option maxRecDepth 100000 in
theorem hw_carrier (l : Launch) (D : va_G) (cB cI cJ : ClassId) (ad : Nat → Nat) (n : Nat) (M : Nat → va_E) (hI : ipI ad n) (po ou : Nat) (fs : List Value) (f : Nat → Int64) (x : Int32) {fr lo : Nat} {post : Int32 → (Nat → va_E) → Prop} (hM : cWi l D cB cI cJ ad n M yX12_carrier wsX12_carrier fr lo [.ref (ad po), .int x] post) (hpo : ∀ (r : Int32) (M1 : Nat → va_E), post r M1 → M1 ou = .inl (cJ, 1, .inr (.inl f))) (h_po : po < n) (h_ou : ou < n) (m_po : M po = .inr (11, fs)) : cH l D cB cI cJ ad n M yL_carrier wsL_carrier (fr + 1) (lo + 40) [.ref (ad po), .int x, .ref (ad ou)] (fun v M' => v = 0 ∧ ∃ (r : Int32) (M1 : Nat → va_E), post r M1 ∧ M' = va_up M1 ou (.inl (cJ, 1, .inr (.inl (vp_updL f 0 r.toInt64))))) := by
  refine q_bodyH (cc := cL_carrier) (maxL := 4) (ret := some .int) (by decide) rfl (Nat.le_of_ble_eq_true rfl) ?_
  intro p e s m args below meth c ls X hr hlocks hT hK hZ hP hl
  obtain ⟨hx, hb, hml, hown, hts⟩ := id X
  have hS : va_S (ipA ad n) s.heap s.heap [] := va_S.rf
  have hl : lv_has ls 4 [(0, .ref (ad po)), (1, .int x), (2, .ref (ad ou))] := hl
  refine lv_aload_n hx hb dL_carrier_0 rfl (lv_at hl 2 rfl) ?_
  refine lv_iconst (v := 0) hx hb dL_carrier_1 (by decide) ?_
  refine lv_aload_n hx hb dL_carrier_2 rfl (lv_at hl 0 rfl) ?_
  refine lv_iload_n hx hb dL_carrier_3 rfl (lv_at hl 1 rfl) ?_
  refine q_wrVi (As := [.int x]) (rest := [.int 0, .ref (ad ou)]) hM X hK hP hS hl.1 rfl gL_carrier_X12_carrier ydx_carrier ⟨by show _ ≤ _; exact Nat.le_refl _, by show 8 + (2 + 11) + lo ≤ lo + 40; omega⟩ h_po m_po (ci := 11) rfl rfl (Nat.le_of_ble_eq_true rfl) ⟨Nat.zero_le _, Nat.zero_le _⟩ dL_carrier_4 (fun r M1 H1 locs1 hp hP hS => ?_)
  refine lv_i2l hx hb dL_carrier_7 rfl ?_
  refine q_lastN (f := f) (k := 1) (y := r.toInt64) X hK hI hP hS 0 h_ou (hpo r M1 hp) (by decide) (by decide) dL_carrier_8 (fun H2 locs2 hP hS => ?_)
  refine lv_goto (tgt := 15) hx hb dL_carrier_9 (by decide) ?_
  refine lv_iconst (v := 0) hx hb dL_carrier_15 (by decide) ?_
  exact q_hret X hr hlocks hP hS ⟨rfl, r, M1, hp, rfl⟩ (by decide) (by decide) dL_carrier_16
end
