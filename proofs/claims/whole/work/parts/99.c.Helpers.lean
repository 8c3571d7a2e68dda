/-! the law's own methods: each calls one of the class and catches what it throws -/
noncomputable section
theorem ydx_hall : YD yX12_hall 1 := ⟨by decide +kernel, by decide +kernel, by decide +kernel⟩
theorem ydL_hall : YD yL_hall 3 := ⟨by decide +kernel, by decide +kernel, by decide +kernel⟩
set_option maxRecDepth 100000 in
theorem h_hall (l : Launch) (D : va_G) (cB cI cJ : ClassId) (ad : Nat → Nat) (n : Nat) (M : Nat → va_E) (hI : ipI ad n) (po ou : Nat) (fs : List Value) (f : Nat → Int64) (x : Int32) {fr lo : Nat} {post : Int32 → (Nat → va_E) → Prop} (hM : cWi l D cB cI cJ ad n M yX12_hall wsX12_hall fr lo [.ref (ad po), .int x] post) (hpo : ∀ (r : Int32) (M1 : Nat → va_E), post r M1 → M1 ou = .inl (cJ, 1, .inr (.inl f))) (h_po : po < n) (h_ou : ou < n) (m_po : M po = .inr (11, fs)) : cH l D cB cI cJ ad n M yL_hall wsL_hall (fr + 1) (lo + 40) [.ref (ad po), .int x, .ref (ad ou)] (fun v M' => v = 0 ∧ ∃ (r : Int32) (M1 : Nat → va_E), post r M1 ∧ M' = va_up M1 ou (.inl (cJ, 1, .inr (.inl (vp_updL f 0 r.toInt64))))) := by
  refine q_bodyH (cc := cL_hall) (maxL := 4) (ret := some .int) (by decide) rfl (Nat.le_of_ble_eq_true rfl) ?_
  intro p e s m args below meth c ls X hr hlocks hT hK hZ hP hl
  obtain ⟨hx, hb, hml, hown, hts⟩ := id X
  have hS : va_S (ipA ad n) s.heap s.heap [] := va_S.rf
  have hl : lv_has ls 4 [(0, .ref (ad po)), (1, .int x), (2, .ref (ad ou))] := hl
  refine lv_aload_n hx hb dL_hall_0 rfl (lv_at hl 2 rfl) ?_
  refine lv_iconst (v := 0) hx hb dL_hall_1 (by decide) ?_
  refine lv_aload_n hx hb dL_hall_2 rfl (lv_at hl 0 rfl) ?_
  refine lv_iload_n hx hb dL_hall_3 rfl (lv_at hl 1 rfl) ?_
  refine q_wrVi (As := [.int x]) (rest := [.int 0, .ref (ad ou)]) hM X hK hP hS hl.1 rfl gL_hall_X12_hall ydx_hall ⟨by show _ ≤ _; exact Nat.le_refl _, by show 8 + (3 + 11) + lo ≤ lo + 40; omega⟩ h_po m_po (ci := 11) rfl rfl (Nat.le_of_ble_eq_true rfl) ⟨Nat.zero_le _, Nat.zero_le _⟩ dL_hall_4 (fun r M1 H1 locs1 hp hP hS => ?_)
  refine lv_i2l hx hb dL_hall_7 rfl ?_
  refine q_lastN (f := f) (k := 1) (y := r.toInt64) X hK hI hP hS 0 h_ou (hpo r M1 hp) (by decide) (by decide) dL_hall_8 (fun H2 locs2 hP hS => ?_)
  refine lv_goto (tgt := 15) hx hb dL_hall_9 (by decide) ?_
  refine lv_iconst (v := 0) hx hb dL_hall_15 (by decide) ?_
  exact q_hret X hr hlocks hP hS ⟨rfl, r, M1, hp, rfl⟩ (by decide) (by decide) dL_hall_16
set_option maxRecDepth 100000 in
theorem hx_hall (l : Launch) (D : va_G) (cB cI cJ : ClassId) (ad : Nat → Nat) (n : Nat) (M : Nat → va_E) (hI : ipI ad n) (po ou : Nat) (fs : List Value) (f : Nat → Int64) (x : Int32) {fr lo : Nat} (hM : cX l D cB cI cJ ad n M yX12_hall wsX12_hall fr lo [.ref (ad po), .int x] "java/lang/IllegalArgumentException") (h_po : po < n) (m_po : M po = .inr (11, fs)) : cH l D cB cI cJ ad n M yL_hall wsL_hall (fr + 1) (lo + 40) [.ref (ad po), .int x, .ref (ad ou)] (fun v M' => v = 1 ∧ M' = M) := by
  refine q_bodyH (cc := cL_hall) (maxL := 4) (ret := some .int) (by decide) rfl (Nat.le_of_ble_eq_true rfl) ?_
  intro p e s m args below meth c ls X hr hlocks hT hK hZ hP hl
  obtain ⟨hx, hb, hml, hown, hts⟩ := id X
  have hS : va_S (ipA ad n) s.heap s.heap [] := va_S.rf
  have hl : lv_has ls 4 [(0, .ref (ad po)), (1, .int x), (2, .ref (ad ou))] := hl
  refine lv_aload_n hx hb dL_hall_0 rfl (lv_at hl 2 rfl) ?_
  refine lv_iconst (v := 0) hx hb dL_hall_1 (by decide) ?_
  refine lv_aload_n hx hb dL_hall_2 rfl (lv_at hl 0 rfl) ?_
  refine lv_iload_n hx hb dL_hall_3 rfl (lv_at hl 1 rfl) ?_
  refine q_catV (As := [.int x]) (rest := [.int 0, .ref (ad ou)]) hM X hK hP hl.1 rfl gL_hall_X12_hall ydx_hall ⟨by show _ ≤ _; exact Nat.le_refl _, by show 8 + (3 + 11) + lo ≤ lo + 40; omega⟩ h_po m_po (ci := 11) rfl rfl (Nat.le_of_ble_eq_true rfl) ⟨Nat.le_refl _, Nat.le_refl _⟩ dL_hall_4 (by decide) [] ⟨0, 9, 12, 13⟩ [] hT (fun z hz => nomatch hz) (by decide) (by decide) (by decide +kernel) (fun H1 locs1 q hP hS => ?_)
  refine lv_astore_n (lv' := [(3, .ref q), (0, .ref (ad po)), (1, .int x), (2, .ref (ad ou))]) hx hb dL_hall_12 rfl hl (by decide) rfl (fun ls hl => ?_)
  refine lv_iconst (v := 1) hx hb dL_hall_13 (by decide) ?_
  exact q_hret X hr hlocks hP hS ⟨rfl, rfl⟩ (Nat.le_refl _) (Nat.le_refl _) dL_hall_14
theorem ydx_count : YD yX12_count 1 := ⟨by decide +kernel, by decide +kernel, by decide +kernel⟩
theorem ydL_count : YD yL_count 3 := ⟨by decide +kernel, by decide +kernel, by decide +kernel⟩
set_option maxRecDepth 100000 in
theorem h_count (l : Launch) (D : va_G) (cB cI cJ : ClassId) (ad : Nat → Nat) (n : Nat) (M : Nat → va_E) (hI : ipI ad n) (po ou : Nat) (fs : List Value) (f : Nat → Int64) (x : Int32) {fr lo : Nat} {r : Int32} (hM : cR l D cB cI cJ ad n M yX12_count wsX12_count fr lo [.ref (ad po), .int x] r) (h_po : po < n) (h_ou : ou < n) (m_po : M po = .inr (11, fs)) (m_ou : M ou = .inl (cJ, 1, .inr (.inl f))) : cH l D cB cI cJ ad n M yL_count wsL_count (fr + 1) (lo + 40) [.ref (ad po), .int x, .ref (ad ou)] (fun v M' => v = 0 ∧ M' = va_up M ou (.inl (cJ, 1, .inr (.inl (vp_updL f 0 r.toInt64))))) := by
  refine q_bodyH (cc := cL_count) (maxL := 4) (ret := some .int) (by decide) rfl (Nat.le_of_ble_eq_true rfl) ?_
  intro p e s m args below meth c ls X hr hlocks hT hK hZ hP hl
  obtain ⟨hx, hb, hml, hown, hts⟩ := id X
  have hS : va_S (ipA ad n) s.heap s.heap [] := va_S.rf
  have hl : lv_has ls 4 [(0, .ref (ad po)), (1, .int x), (2, .ref (ad ou))] := hl
  refine lv_aload_n hx hb dL_count_0 rfl (lv_at hl 2 rfl) ?_
  refine lv_iconst (v := 0) hx hb dL_count_1 (by decide) ?_
  refine lv_aload_n hx hb dL_count_2 rfl (lv_at hl 0 rfl) ?_
  refine lv_iload_n hx hb dL_count_3 rfl (lv_at hl 1 rfl) ?_
  refine q_rdV (As := [.int x]) (rest := [.int 0, .ref (ad ou)]) hM X hK hP hS hl.1 rfl gL_count_X12_count ydx_count ⟨by show _ ≤ _; exact Nat.le_refl _, by show 8 + (2 + 11) + lo ≤ lo + 40; omega⟩ h_po m_po (ci := 11) rfl rfl (Nat.le_of_ble_eq_true rfl) ⟨Nat.zero_le _, Nat.zero_le _⟩ dL_count_4 ?_
  refine lv_i2l hx hb dL_count_7 rfl ?_
  refine q_lastN (f := f) (k := 1) (y := r.toInt64) X hK hI hP hS 0 h_ou m_ou (by decide) (by decide) dL_count_8 (fun H2 locs2 hP hS => ?_)
  refine lv_goto (tgt := 15) hx hb dL_count_9 (by decide) ?_
  refine lv_iconst (v := 0) hx hb dL_count_15 (by decide) ?_
  exact q_hret X hr hlocks hP hS ⟨rfl, rfl⟩ (by decide) (by decide) dL_count_16
set_option maxRecDepth 100000 in
theorem hx_count (l : Launch) (D : va_G) (cB cI cJ : ClassId) (ad : Nat → Nat) (n : Nat) (M : Nat → va_E) (hI : ipI ad n) (po ou : Nat) (fs : List Value) (f : Nat → Int64) (x : Int32) {fr lo : Nat} (hM : cX l D cB cI cJ ad n M yX12_count wsX12_count fr lo [.ref (ad po), .int x] "java/util/NoSuchElementException") (h_po : po < n) (m_po : M po = .inr (11, fs)) : cH l D cB cI cJ ad n M yL_count wsL_count (fr + 1) (lo + 40) [.ref (ad po), .int x, .ref (ad ou)] (fun v M' => v = 1 ∧ M' = M) := by
  refine q_bodyH (cc := cL_count) (maxL := 4) (ret := some .int) (by decide) rfl (Nat.le_of_ble_eq_true rfl) ?_
  intro p e s m args below meth c ls X hr hlocks hT hK hZ hP hl
  obtain ⟨hx, hb, hml, hown, hts⟩ := id X
  have hS : va_S (ipA ad n) s.heap s.heap [] := va_S.rf
  have hl : lv_has ls 4 [(0, .ref (ad po)), (1, .int x), (2, .ref (ad ou))] := hl
  refine lv_aload_n hx hb dL_count_0 rfl (lv_at hl 2 rfl) ?_
  refine lv_iconst (v := 0) hx hb dL_count_1 (by decide) ?_
  refine lv_aload_n hx hb dL_count_2 rfl (lv_at hl 0 rfl) ?_
  refine lv_iload_n hx hb dL_count_3 rfl (lv_at hl 1 rfl) ?_
  refine q_catV (As := [.int x]) (rest := [.int 0, .ref (ad ou)]) hM X hK hP hl.1 rfl gL_count_X12_count ydx_count ⟨by show _ ≤ _; exact Nat.le_refl _, by show 8 + (2 + 11) + lo ≤ lo + 40; omega⟩ h_po m_po (ci := 11) rfl rfl (Nat.le_of_ble_eq_true rfl) ⟨Nat.le_refl _, Nat.le_refl _⟩ dL_count_4 (by decide) [] ⟨0, 9, 12, 18⟩ [] hT (fun z hz => nomatch hz) (by decide) (by decide) (by decide +kernel) (fun H1 locs1 q hP hS => ?_)
  refine lv_astore_n (lv' := [(3, .ref q), (0, .ref (ad po)), (1, .int x), (2, .ref (ad ou))]) hx hb dL_count_12 rfl hl (by decide) rfl (fun ls hl => ?_)
  refine lv_iconst (v := 1) hx hb dL_count_13 (by decide) ?_
  exact q_hret X hr hlocks hP hS ⟨rfl, rfl⟩ (Nat.le_refl _) (Nat.le_refl _) dL_count_14
theorem ydx_person : YD yX12_person 2 := ⟨by decide +kernel, by decide +kernel, by decide +kernel⟩
theorem ydL_person : YD yL_person 4 := ⟨by decide +kernel, by decide +kernel, by decide +kernel⟩
set_option maxRecDepth 100000 in
theorem h_person (l : Launch) (D : va_G) (cB cI cJ : ClassId) (ad : Nat → Nat) (n : Nat) (M : Nat → va_E) (hI : ipI ad n) (po ou : Nat) (fs : List Value) (f : Nat → Int64) (x y : Int32) {fr lo : Nat} {r : Int32} (hM : cR l D cB cI cJ ad n M yX12_person wsX12_person fr lo [.ref (ad po), .int x, .int y] r) (h_po : po < n) (h_ou : ou < n) (m_po : M po = .inr (11, fs)) (m_ou : M ou = .inl (cJ, 1, .inr (.inl f))) : cH l D cB cI cJ ad n M yL_person wsL_person (fr + 1) (lo + 40) [.ref (ad po), .int x, .int y, .ref (ad ou)] (fun v M' => v = 0 ∧ M' = va_up M ou (.inl (cJ, 1, .inr (.inl (vp_updL f 0 r.toInt64))))) := by
  refine q_bodyH (cc := cL_person) (maxL := 5) (ret := some .int) (by decide) rfl (Nat.le_of_ble_eq_true rfl) ?_
  intro p e s m args below meth c ls X hr hlocks hT hK hZ hP hl
  obtain ⟨hx, hb, hml, hown, hts⟩ := id X
  have hS : va_S (ipA ad n) s.heap s.heap [] := va_S.rf
  have hl : lv_has ls 5 [(0, .ref (ad po)), (1, .int x), (2, .int y), (3, .ref (ad ou))] := hl
  refine lv_aload_n hx hb dL_person_0 rfl (lv_at hl 3 rfl) ?_
  refine lv_iconst (v := 0) hx hb dL_person_1 (by decide) ?_
  refine lv_aload_n hx hb dL_person_2 rfl (lv_at hl 0 rfl) ?_
  refine lv_iload_n hx hb dL_person_3 rfl (lv_at hl 1 rfl) ?_
  refine lv_iload_n hx hb dL_person_4 rfl (lv_at hl 2 rfl) ?_
  refine q_rdV (As := [.int x, .int y]) (rest := [.int 0, .ref (ad ou)]) hM X hK hP hS hl.1 rfl gL_person_X12_person ydx_person ⟨by show _ ≤ _; exact Nat.le_refl _, by show 8 + (3 + 11) + lo ≤ lo + 40; omega⟩ h_po m_po (ci := 11) rfl rfl (Nat.le_of_ble_eq_true rfl) ⟨Nat.zero_le _, Nat.zero_le _⟩ dL_person_5 ?_
  refine lv_i2l hx hb dL_person_8 rfl ?_
  refine q_lastN (f := f) (k := 1) (y := r.toInt64) X hK hI hP hS 0 h_ou m_ou (by decide) (by decide) dL_person_9 (fun H2 locs2 hP hS => ?_)
  refine lv_goto (tgt := 17) hx hb dL_person_10 (by decide) ?_
  refine lv_iconst (v := 0) hx hb dL_person_17 (by decide) ?_
  exact q_hret X hr hlocks hP hS ⟨rfl, rfl⟩ (by decide) (by decide) dL_person_18
set_option maxRecDepth 100000 in
theorem hx_person (l : Launch) (D : va_G) (cB cI cJ : ClassId) (ad : Nat → Nat) (n : Nat) (M : Nat → va_E) (hI : ipI ad n) (po ou : Nat) (fs : List Value) (f : Nat → Int64) (x y : Int32) {fr lo : Nat} (hM : cX l D cB cI cJ ad n M yX12_person wsX12_person fr lo [.ref (ad po), .int x, .int y] "java/util/NoSuchElementException") (h_po : po < n) (m_po : M po = .inr (11, fs)) : cH l D cB cI cJ ad n M yL_person wsL_person (fr + 1) (lo + 40) [.ref (ad po), .int x, .int y, .ref (ad ou)] (fun v M' => v = 1 ∧ M' = M) := by
  refine q_bodyH (cc := cL_person) (maxL := 5) (ret := some .int) (by decide) rfl (Nat.le_of_ble_eq_true rfl) ?_
  intro p e s m args below meth c ls X hr hlocks hT hK hZ hP hl
  obtain ⟨hx, hb, hml, hown, hts⟩ := id X
  have hS : va_S (ipA ad n) s.heap s.heap [] := va_S.rf
  have hl : lv_has ls 5 [(0, .ref (ad po)), (1, .int x), (2, .int y), (3, .ref (ad ou))] := hl
  refine lv_aload_n hx hb dL_person_0 rfl (lv_at hl 3 rfl) ?_
  refine lv_iconst (v := 0) hx hb dL_person_1 (by decide) ?_
  refine lv_aload_n hx hb dL_person_2 rfl (lv_at hl 0 rfl) ?_
  refine lv_iload_n hx hb dL_person_3 rfl (lv_at hl 1 rfl) ?_
  refine lv_iload_n hx hb dL_person_4 rfl (lv_at hl 2 rfl) ?_
  refine q_catV (As := [.int x, .int y]) (rest := [.int 0, .ref (ad ou)]) hM X hK hP hl.1 rfl gL_person_X12_person ydx_person ⟨by show _ ≤ _; exact Nat.le_refl _, by show 8 + (3 + 11) + lo ≤ lo + 40; omega⟩ h_po m_po (ci := 11) rfl rfl (Nat.le_of_ble_eq_true rfl) ⟨Nat.le_refl _, Nat.le_refl _⟩ dL_person_5 (by decide) [] ⟨0, 10, 13, 18⟩ [] hT (fun z hz => nomatch hz) (by decide) (by decide) (by decide +kernel) (fun H1 locs1 q hP hS => ?_)
  refine lv_astore (lv' := [(4, .ref q), (0, .ref (ad po)), (1, .int x), (2, .int y), (3, .ref (ad ou))]) hx hb dL_person_13 hl (by decide) rfl (fun ls hl => ?_)
  refine lv_iconst (v := 1) hx hb dL_person_15 (by decide) ?_
  exact q_hret X hr hlocks hP hS ⟨rfl, rfl⟩ (Nat.le_refl _) (Nat.le_refl _) dL_person_16
theorem ydx_box : YD yX12_box 2 := ⟨by decide +kernel, by decide +kernel, by decide +kernel⟩
theorem ydL_box : YD yL_box 4 := ⟨by decide +kernel, by decide +kernel, by decide +kernel⟩
set_option maxRecDepth 100000 in
theorem h_box (l : Launch) (D : va_G) (cB cI cJ : ClassId) (ad : Nat → Nat) (n : Nat) (M : Nat → va_E) (hI : ipI ad n) (po ou : Nat) (fs : List Value) (f : Nat → Int64) (x y : Int32) {fr lo : Nat} {post : Int32 → (Nat → va_E) → Prop} (hM : cWi l D cB cI cJ ad n M yX12_box wsX12_box fr lo [.ref (ad po), .int x, .int y] post) (hpo : ∀ (r : Int32) (M1 : Nat → va_E), post r M1 → M1 ou = .inl (cJ, 1, .inr (.inl f))) (h_po : po < n) (h_ou : ou < n) (m_po : M po = .inr (11, fs)) : cH l D cB cI cJ ad n M yL_box wsL_box (fr + 1) (lo + 40) [.ref (ad po), .int x, .int y, .ref (ad ou)] (fun v M' => v = 0 ∧ ∃ (r : Int32) (M1 : Nat → va_E), post r M1 ∧ M' = va_up M1 ou (.inl (cJ, 1, .inr (.inl (vp_updL f 0 r.toInt64))))) := by
  refine q_bodyH (cc := cL_box) (maxL := 5) (ret := some .int) (by decide) rfl (Nat.le_of_ble_eq_true rfl) ?_
  intro p e s m args below meth c ls X hr hlocks hT hK hZ hP hl
  obtain ⟨hx, hb, hml, hown, hts⟩ := id X
  have hS : va_S (ipA ad n) s.heap s.heap [] := va_S.rf
  have hl : lv_has ls 5 [(0, .ref (ad po)), (1, .int x), (2, .int y), (3, .ref (ad ou))] := hl
  refine lv_aload_n hx hb dL_box_0 rfl (lv_at hl 3 rfl) ?_
  refine lv_iconst (v := 0) hx hb dL_box_1 (by decide) ?_
  refine lv_aload_n hx hb dL_box_2 rfl (lv_at hl 0 rfl) ?_
  refine lv_iload_n hx hb dL_box_3 rfl (lv_at hl 1 rfl) ?_
  refine lv_iload_n hx hb dL_box_4 rfl (lv_at hl 2 rfl) ?_
  refine q_wrVi (As := [.int x, .int y]) (rest := [.int 0, .ref (ad ou)]) hM X hK hP hS hl.1 rfl gL_box_X12_box ydx_box ⟨by show _ ≤ _; exact Nat.le_refl _, by show 8 + (3 + 11) + lo ≤ lo + 40; omega⟩ h_po m_po (ci := 11) rfl rfl (Nat.le_of_ble_eq_true rfl) ⟨Nat.zero_le _, Nat.zero_le _⟩ dL_box_5 (fun r M1 H1 locs1 hp hP hS => ?_)
  refine lv_i2l hx hb dL_box_8 rfl ?_
  refine q_lastN (f := f) (k := 1) (y := r.toInt64) X hK hI hP hS 0 h_ou (hpo r M1 hp) (by decide) (by decide) dL_box_9 (fun H2 locs2 hP hS => ?_)
  refine lv_goto (tgt := 17) hx hb dL_box_10 (by decide) ?_
  refine lv_iconst (v := 0) hx hb dL_box_17 (by decide) ?_
  exact q_hret X hr hlocks hP hS ⟨rfl, r, M1, hp, rfl⟩ (by decide) (by decide) dL_box_18
set_option maxRecDepth 100000 in
theorem hx_box (l : Launch) (D : va_G) (cB cI cJ : ClassId) (ad : Nat → Nat) (n : Nat) (M : Nat → va_E) (hI : ipI ad n) (po ou : Nat) (fs : List Value) (f : Nat → Int64) (x y : Int32) {fr lo : Nat} (hM : cX l D cB cI cJ ad n M yX12_box wsX12_box fr lo [.ref (ad po), .int x, .int y] "java/util/NoSuchElementException") (h_po : po < n) (m_po : M po = .inr (11, fs)) : cH l D cB cI cJ ad n M yL_box wsL_box (fr + 1) (lo + 40) [.ref (ad po), .int x, .int y, .ref (ad ou)] (fun v M' => v = 1 ∧ M' = M) := by
  refine q_bodyH (cc := cL_box) (maxL := 5) (ret := some .int) (by decide) rfl (Nat.le_of_ble_eq_true rfl) ?_
  intro p e s m args below meth c ls X hr hlocks hT hK hZ hP hl
  obtain ⟨hx, hb, hml, hown, hts⟩ := id X
  have hS : va_S (ipA ad n) s.heap s.heap [] := va_S.rf
  have hl : lv_has ls 5 [(0, .ref (ad po)), (1, .int x), (2, .int y), (3, .ref (ad ou))] := hl
  refine lv_aload_n hx hb dL_box_0 rfl (lv_at hl 3 rfl) ?_
  refine lv_iconst (v := 0) hx hb dL_box_1 (by decide) ?_
  refine lv_aload_n hx hb dL_box_2 rfl (lv_at hl 0 rfl) ?_
  refine lv_iload_n hx hb dL_box_3 rfl (lv_at hl 1 rfl) ?_
  refine lv_iload_n hx hb dL_box_4 rfl (lv_at hl 2 rfl) ?_
  refine q_catV (As := [.int x, .int y]) (rest := [.int 0, .ref (ad ou)]) hM X hK hP hl.1 rfl gL_box_X12_box ydx_box ⟨by show _ ≤ _; exact Nat.le_refl _, by show 8 + (3 + 11) + lo ≤ lo + 40; omega⟩ h_po m_po (ci := 11) rfl rfl (Nat.le_of_ble_eq_true rfl) ⟨Nat.le_refl _, Nat.le_refl _⟩ dL_box_5 (by decide) [] ⟨0, 10, 13, 18⟩ [] hT (fun z hz => nomatch hz) (by decide) (by decide) (by decide +kernel) (fun H1 locs1 q hP hS => ?_)
  refine lv_astore (lv' := [(4, .ref q), (0, .ref (ad po)), (1, .int x), (2, .int y), (3, .ref (ad ou))]) hx hb dL_box_13 hl (by decide) rfl (fun ls hl => ?_)
  refine lv_iconst (v := 1) hx hb dL_box_15 (by decide) ?_
  exact q_hret X hr hlocks hP hS ⟨rfl, rfl⟩ (Nat.le_refl _) (Nat.le_refl _) dL_box_16
theorem ydx_thing : YD yX12_thing 2 := ⟨by decide +kernel, by decide +kernel, by decide +kernel⟩
theorem ydL_thing : YD yL_thing 4 := ⟨by decide +kernel, by decide +kernel, by decide +kernel⟩
set_option maxRecDepth 100000 in
theorem h_thing (l : Launch) (D : va_G) (cB cI cJ : ClassId) (ad : Nat → Nat) (n : Nat) (M : Nat → va_E) (hI : ipI ad n) (po ou : Nat) (fs : List Value) (f : Nat → Int64) (x y : Int32) {fr lo : Nat} {r : Int32} (hM : cR l D cB cI cJ ad n M yX12_thing wsX12_thing fr lo [.ref (ad po), .int x, .int y] r) (h_po : po < n) (h_ou : ou < n) (m_po : M po = .inr (11, fs)) (m_ou : M ou = .inl (cJ, 1, .inr (.inl f))) : cH l D cB cI cJ ad n M yL_thing wsL_thing (fr + 1) (lo + 40) [.ref (ad po), .int x, .int y, .ref (ad ou)] (fun v M' => v = 0 ∧ M' = va_up M ou (.inl (cJ, 1, .inr (.inl (vp_updL f 0 r.toInt64))))) := by
  refine q_bodyH (cc := cL_thing) (maxL := 5) (ret := some .int) (by decide) rfl (Nat.le_of_ble_eq_true rfl) ?_
  intro p e s m args below meth c ls X hr hlocks hT hK hZ hP hl
  obtain ⟨hx, hb, hml, hown, hts⟩ := id X
  have hS : va_S (ipA ad n) s.heap s.heap [] := va_S.rf
  have hl : lv_has ls 5 [(0, .ref (ad po)), (1, .int x), (2, .int y), (3, .ref (ad ou))] := hl
  refine lv_aload_n hx hb dL_thing_0 rfl (lv_at hl 3 rfl) ?_
  refine lv_iconst (v := 0) hx hb dL_thing_1 (by decide) ?_
  refine lv_aload_n hx hb dL_thing_2 rfl (lv_at hl 0 rfl) ?_
  refine lv_iload_n hx hb dL_thing_3 rfl (lv_at hl 1 rfl) ?_
  refine lv_iload_n hx hb dL_thing_4 rfl (lv_at hl 2 rfl) ?_
  refine q_rdV (As := [.int x, .int y]) (rest := [.int 0, .ref (ad ou)]) hM X hK hP hS hl.1 rfl gL_thing_X12_thing ydx_thing ⟨by show _ ≤ _; exact Nat.le_refl _, by show 8 + (3 + 11) + lo ≤ lo + 40; omega⟩ h_po m_po (ci := 11) rfl rfl (Nat.le_of_ble_eq_true rfl) ⟨Nat.zero_le _, Nat.zero_le _⟩ dL_thing_5 ?_
  refine lv_i2l hx hb dL_thing_8 rfl ?_
  refine q_lastN (f := f) (k := 1) (y := r.toInt64) X hK hI hP hS 0 h_ou m_ou (by decide) (by decide) dL_thing_9 (fun H2 locs2 hP hS => ?_)
  refine lv_goto (tgt := 17) hx hb dL_thing_10 (by decide) ?_
  refine lv_iconst (v := 0) hx hb dL_thing_17 (by decide) ?_
  exact q_hret X hr hlocks hP hS ⟨rfl, rfl⟩ (by decide) (by decide) dL_thing_18
set_option maxRecDepth 100000 in
theorem hx_thing (l : Launch) (D : va_G) (cB cI cJ : ClassId) (ad : Nat → Nat) (n : Nat) (M : Nat → va_E) (hI : ipI ad n) (po ou : Nat) (fs : List Value) (f : Nat → Int64) (x y : Int32) {fr lo : Nat} (hM : cX l D cB cI cJ ad n M yX12_thing wsX12_thing fr lo [.ref (ad po), .int x, .int y] "java/util/NoSuchElementException") (h_po : po < n) (m_po : M po = .inr (11, fs)) : cH l D cB cI cJ ad n M yL_thing wsL_thing (fr + 1) (lo + 40) [.ref (ad po), .int x, .int y, .ref (ad ou)] (fun v M' => v = 1 ∧ M' = M) := by
  refine q_bodyH (cc := cL_thing) (maxL := 5) (ret := some .int) (by decide) rfl (Nat.le_of_ble_eq_true rfl) ?_
  intro p e s m args below meth c ls X hr hlocks hT hK hZ hP hl
  obtain ⟨hx, hb, hml, hown, hts⟩ := id X
  have hS : va_S (ipA ad n) s.heap s.heap [] := va_S.rf
  have hl : lv_has ls 5 [(0, .ref (ad po)), (1, .int x), (2, .int y), (3, .ref (ad ou))] := hl
  refine lv_aload_n hx hb dL_thing_0 rfl (lv_at hl 3 rfl) ?_
  refine lv_iconst (v := 0) hx hb dL_thing_1 (by decide) ?_
  refine lv_aload_n hx hb dL_thing_2 rfl (lv_at hl 0 rfl) ?_
  refine lv_iload_n hx hb dL_thing_3 rfl (lv_at hl 1 rfl) ?_
  refine lv_iload_n hx hb dL_thing_4 rfl (lv_at hl 2 rfl) ?_
  refine q_catV (As := [.int x, .int y]) (rest := [.int 0, .ref (ad ou)]) hM X hK hP hl.1 rfl gL_thing_X12_thing ydx_thing ⟨by show _ ≤ _; exact Nat.le_refl _, by show 8 + (3 + 11) + lo ≤ lo + 40; omega⟩ h_po m_po (ci := 11) rfl rfl (Nat.le_of_ble_eq_true rfl) ⟨Nat.le_refl _, Nat.le_refl _⟩ dL_thing_5 (by decide) [] ⟨0, 10, 13, 18⟩ [] hT (fun z hz => nomatch hz) (by decide) (by decide) (by decide +kernel) (fun H1 locs1 q hP hS => ?_)
  refine lv_astore (lv' := [(4, .ref q), (0, .ref (ad po)), (1, .int x), (2, .int y), (3, .ref (ad ou))]) hx hb dL_thing_13 hl (by decide) rfl (fun ls hl => ?_)
  refine lv_iconst (v := 1) hx hb dL_thing_15 (by decide) ?_
  exact q_hret X hr hlocks hP hS ⟨rfl, rfl⟩ (Nat.le_refl _) (Nat.le_refl _) dL_thing_16
theorem ydx_may : YD yX12_may 2 := ⟨by decide +kernel, by decide +kernel, by decide +kernel⟩
theorem ydL_may : YD yL_may 4 := ⟨by decide +kernel, by decide +kernel, by decide +kernel⟩
set_option maxRecDepth 100000 in
theorem h_may (l : Launch) (D : va_G) (cB cI cJ : ClassId) (ad : Nat → Nat) (n : Nat) (M : Nat → va_E) (hI : ipI ad n) (po ou : Nat) (fs : List Value) (f : Nat → Int64) (x y : Int32) {fr lo : Nat} {r : Int32} (hM : cR l D cB cI cJ ad n M yX12_may wsX12_may fr lo [.ref (ad po), .int x, .int y] r) (h_po : po < n) (h_ou : ou < n) (m_po : M po = .inr (11, fs)) (m_ou : M ou = .inl (cJ, 1, .inr (.inl f))) : cH l D cB cI cJ ad n M yL_may wsL_may (fr + 1) (lo + 40) [.ref (ad po), .int x, .int y, .ref (ad ou)] (fun v M' => v = 0 ∧ M' = va_up M ou (.inl (cJ, 1, .inr (.inl (vp_updL f 0 (if r = 0 then 0 else 1)))))) := by
  refine q_bodyH (cc := cL_may) (maxL := 5) (ret := some .int) (by decide) rfl (Nat.le_of_ble_eq_true rfl) ?_
  intro p e s m args below meth c ls X hr hlocks hT hK hZ hP hl
  obtain ⟨hx, hb, hml, hown, hts⟩ := id X
  have hS : va_S (ipA ad n) s.heap s.heap [] := va_S.rf
  have hl : lv_has ls 5 [(0, .ref (ad po)), (1, .int x), (2, .int y), (3, .ref (ad ou))] := hl
  refine lv_aload_n hx hb dL_may_0 rfl (lv_at hl 3 rfl) ?_
  refine lv_iconst (v := 0) hx hb dL_may_1 (by decide) ?_
  refine lv_aload_n hx hb dL_may_2 rfl (lv_at hl 0 rfl) ?_
  refine lv_iload_n hx hb dL_may_3 rfl (lv_at hl 1 rfl) ?_
  refine lv_iload_n hx hb dL_may_4 rfl (lv_at hl 2 rfl) ?_
  refine q_rdV (As := [.int x, .int y]) (rest := [.int 0, .ref (ad ou)]) hM X hK hP hS hl.1 rfl gL_may_X12_may ydx_may ⟨by show _ ≤ _; exact Nat.le_refl _, by show 8 + (3 + 11) + lo ≤ lo + 40; omega⟩ h_po m_po (ci := 11) rfl rfl (Nat.le_of_ble_eq_true rfl) ⟨Nat.zero_le _, Nat.zero_le _⟩ dL_may_5 ?_
  refine lv_if_eq (tgt := 15) hx hb dL_may_8 (by decide) (fun c0 => ?_) (fun c0 => ?_)
  · refine lv_lconst (v := 0) hx hb dL_may_15 (by decide) ?_
    refine q_lastN (f := f) (k := 1) (y := 0) X hK hI hP hS 0 h_ou m_ou (by decide) (by decide) dL_may_16 (fun H2 locs2 hP hS => ?_)
    refine lv_goto (tgt := 24) hx hb dL_may_17 (by decide) ?_
    refine lv_iconst (v := 0) hx hb dL_may_24 (by decide) ?_
    exact q_hret X hr hlocks hP hS ⟨rfl, by rw [if_pos c0]⟩ (by decide) (by decide) dL_may_25
  · refine lv_lconst (v := 1) hx hb dL_may_11 (by decide) ?_
    refine lv_goto (tgt := 16) hx hb dL_may_12 (by decide) ?_
    refine q_lastN (f := f) (k := 1) (y := 1) X hK hI hP hS 0 h_ou m_ou (by decide) (by decide) dL_may_16 (fun H2 locs2 hP hS => ?_)
    refine lv_goto (tgt := 24) hx hb dL_may_17 (by decide) ?_
    refine lv_iconst (v := 0) hx hb dL_may_24 (by decide) ?_
    exact q_hret X hr hlocks hP hS ⟨rfl, by rw [if_neg c0]⟩ (by decide) (by decide) dL_may_25
set_option maxRecDepth 100000 in
theorem hx_may (l : Launch) (D : va_G) (cB cI cJ : ClassId) (ad : Nat → Nat) (n : Nat) (M : Nat → va_E) (hI : ipI ad n) (po ou : Nat) (fs : List Value) (f : Nat → Int64) (x y : Int32) {fr lo : Nat} (hM : cX l D cB cI cJ ad n M yX12_may wsX12_may fr lo [.ref (ad po), .int x, .int y] "java/util/NoSuchElementException") (h_po : po < n) (m_po : M po = .inr (11, fs)) : cH l D cB cI cJ ad n M yL_may wsL_may (fr + 1) (lo + 40) [.ref (ad po), .int x, .int y, .ref (ad ou)] (fun v M' => v = 1 ∧ M' = M) := by
  refine q_bodyH (cc := cL_may) (maxL := 5) (ret := some .int) (by decide) rfl (Nat.le_of_ble_eq_true rfl) ?_
  intro p e s m args below meth c ls X hr hlocks hT hK hZ hP hl
  obtain ⟨hx, hb, hml, hown, hts⟩ := id X
  have hS : va_S (ipA ad n) s.heap s.heap [] := va_S.rf
  have hl : lv_has ls 5 [(0, .ref (ad po)), (1, .int x), (2, .int y), (3, .ref (ad ou))] := hl
  refine lv_aload_n hx hb dL_may_0 rfl (lv_at hl 3 rfl) ?_
  refine lv_iconst (v := 0) hx hb dL_may_1 (by decide) ?_
  refine lv_aload_n hx hb dL_may_2 rfl (lv_at hl 0 rfl) ?_
  refine lv_iload_n hx hb dL_may_3 rfl (lv_at hl 1 rfl) ?_
  refine lv_iload_n hx hb dL_may_4 rfl (lv_at hl 2 rfl) ?_
  refine q_catV (As := [.int x, .int y]) (rest := [.int 0, .ref (ad ou)]) hM X hK hP hl.1 rfl gL_may_X12_may ydx_may ⟨by show _ ≤ _; exact Nat.le_refl _, by show 8 + (3 + 11) + lo ≤ lo + 40; omega⟩ h_po m_po (ci := 11) rfl rfl (Nat.le_of_ble_eq_true rfl) ⟨Nat.le_refl _, Nat.le_refl _⟩ dL_may_5 (by decide) [] ⟨0, 17, 20, 18⟩ [] hT (fun z hz => nomatch hz) (by decide) (by decide) (by decide +kernel) (fun H1 locs1 q hP hS => ?_)
  refine lv_astore (lv' := [(4, .ref q), (0, .ref (ad po)), (1, .int x), (2, .int y), (3, .ref (ad ou))]) hx hb dL_may_20 hl (by decide) rfl (fun ls hl => ?_)
  refine lv_iconst (v := 1) hx hb dL_may_22 (by decide) ?_
  exact q_hret X hr hlocks hP hS ⟨rfl, rfl⟩ (Nat.le_refl _) (Nat.le_refl _) dL_may_23
theorem ydx_shift : YD yX12_shift 2 := ⟨by decide +kernel, by decide +kernel, by decide +kernel⟩
theorem ydL_shift : YD yL_shift 4 := ⟨by decide +kernel, by decide +kernel, by decide +kernel⟩
set_option maxRecDepth 100000 in
theorem h_shift (l : Launch) (D : va_G) (cB cI cJ : ClassId) (ad : Nat → Nat) (n : Nat) (M : Nat → va_E) (hI : ipI ad n) (po ou : Nat) (fs : List Value) (f : Nat → Int64) (x y : Int32) {fr lo : Nat} {post : Int32 → (Nat → va_E) → Prop} (hM : cWi l D cB cI cJ ad n M yX12_shift wsX12_shift fr lo [.ref (ad po), .int x, .int y] post) (hpo : ∀ (r : Int32) (M1 : Nat → va_E), post r M1 → M1 ou = .inl (cJ, 1, .inr (.inl f))) (h_po : po < n) (h_ou : ou < n) (m_po : M po = .inr (11, fs)) : cH l D cB cI cJ ad n M yL_shift wsL_shift (fr + 1) (lo + 40) [.ref (ad po), .int x, .int y, .ref (ad ou)] (fun v M' => v = 0 ∧ ∃ (r : Int32) (M1 : Nat → va_E), post r M1 ∧ M' = va_up M1 ou (.inl (cJ, 1, .inr (.inl (vp_updL f 0 r.toInt64))))) := by
  refine q_bodyH (cc := cL_shift) (maxL := 5) (ret := some .int) (by decide) rfl (Nat.le_of_ble_eq_true rfl) ?_
  intro p e s m args below meth c ls X hr hlocks hT hK hZ hP hl
  obtain ⟨hx, hb, hml, hown, hts⟩ := id X
  have hS : va_S (ipA ad n) s.heap s.heap [] := va_S.rf
  have hl : lv_has ls 5 [(0, .ref (ad po)), (1, .int x), (2, .int y), (3, .ref (ad ou))] := hl
  refine lv_aload_n hx hb dL_shift_0 rfl (lv_at hl 3 rfl) ?_
  refine lv_iconst (v := 0) hx hb dL_shift_1 (by decide) ?_
  refine lv_aload_n hx hb dL_shift_2 rfl (lv_at hl 0 rfl) ?_
  refine lv_iload_n hx hb dL_shift_3 rfl (lv_at hl 1 rfl) ?_
  refine lv_iload_n hx hb dL_shift_4 rfl (lv_at hl 2 rfl) ?_
  refine q_wrVi (As := [.int x, .int y]) (rest := [.int 0, .ref (ad ou)]) hM X hK hP hS hl.1 rfl gL_shift_X12_shift ydx_shift ⟨by show _ ≤ _; exact Nat.le_refl _, by show 8 + (4 + 11) + lo ≤ lo + 40; omega⟩ h_po m_po (ci := 11) rfl rfl (Nat.le_of_ble_eq_true rfl) ⟨Nat.zero_le _, Nat.zero_le _⟩ dL_shift_5 (fun r M1 H1 locs1 hp hP hS => ?_)
  refine lv_i2l hx hb dL_shift_8 rfl ?_
  refine q_lastN (f := f) (k := 1) (y := r.toInt64) X hK hI hP hS 0 h_ou (hpo r M1 hp) (by decide) (by decide) dL_shift_9 (fun H2 locs2 hP hS => ?_)
  refine lv_goto (tgt := 17) hx hb dL_shift_10 (by decide) ?_
  refine lv_iconst (v := 0) hx hb dL_shift_17 (by decide) ?_
  exact q_hret X hr hlocks hP hS ⟨rfl, r, M1, hp, rfl⟩ (by decide) (by decide) dL_shift_18
set_option maxRecDepth 100000 in
theorem hx_shift (l : Launch) (D : va_G) (cB cI cJ : ClassId) (ad : Nat → Nat) (n : Nat) (M : Nat → va_E) (hI : ipI ad n) (po ou : Nat) (fs : List Value) (f : Nat → Int64) (x y : Int32) {fr lo : Nat} (hM : cX l D cB cI cJ ad n M yX12_shift wsX12_shift fr lo [.ref (ad po), .int x, .int y] "java/util/NoSuchElementException") (h_po : po < n) (m_po : M po = .inr (11, fs)) : cH l D cB cI cJ ad n M yL_shift wsL_shift (fr + 1) (lo + 40) [.ref (ad po), .int x, .int y, .ref (ad ou)] (fun v M' => v = 1 ∧ M' = M) := by
  refine q_bodyH (cc := cL_shift) (maxL := 5) (ret := some .int) (by decide) rfl (Nat.le_of_ble_eq_true rfl) ?_
  intro p e s m args below meth c ls X hr hlocks hT hK hZ hP hl
  obtain ⟨hx, hb, hml, hown, hts⟩ := id X
  have hS : va_S (ipA ad n) s.heap s.heap [] := va_S.rf
  have hl : lv_has ls 5 [(0, .ref (ad po)), (1, .int x), (2, .int y), (3, .ref (ad ou))] := hl
  refine lv_aload_n hx hb dL_shift_0 rfl (lv_at hl 3 rfl) ?_
  refine lv_iconst (v := 0) hx hb dL_shift_1 (by decide) ?_
  refine lv_aload_n hx hb dL_shift_2 rfl (lv_at hl 0 rfl) ?_
  refine lv_iload_n hx hb dL_shift_3 rfl (lv_at hl 1 rfl) ?_
  refine lv_iload_n hx hb dL_shift_4 rfl (lv_at hl 2 rfl) ?_
  refine q_catV (As := [.int x, .int y]) (rest := [.int 0, .ref (ad ou)]) hM X hK hP hl.1 rfl gL_shift_X12_shift ydx_shift ⟨by show _ ≤ _; exact Nat.le_refl _, by show 8 + (4 + 11) + lo ≤ lo + 40; omega⟩ h_po m_po (ci := 11) rfl rfl (Nat.le_of_ble_eq_true rfl) ⟨Nat.le_refl _, Nat.le_refl _⟩ dL_shift_5 (by decide) [] ⟨0, 10, 13, 18⟩ [] hT (fun z hz => nomatch hz) (by decide) (by decide) (by decide +kernel) (fun H1 locs1 q hP hS => ?_)
  refine lv_astore (lv' := [(4, .ref q), (0, .ref (ad po)), (1, .int x), (2, .int y), (3, .ref (ad ou))]) hx hb dL_shift_13 hl (by decide) rfl (fun ls hl => ?_)
  refine lv_iconst (v := 1) hx hb dL_shift_15 (by decide) ?_
  exact q_hret X hr hlocks hP hS ⟨rfl, rfl⟩ (Nat.le_refl _) (Nat.le_refl _) dL_shift_16
theorem ydx_two : YD yX12_two 2 := ⟨by decide +kernel, by decide +kernel, by decide +kernel⟩
theorem ydL_two : YD yL_two 4 := ⟨by decide +kernel, by decide +kernel, by decide +kernel⟩
set_option maxRecDepth 100000 in
theorem h_two (l : Launch) (D : va_G) (cB cI cJ : ClassId) (ad : Nat → Nat) (n : Nat) (M : Nat → va_E) (hI : ipI ad n) (po ou : Nat) (fs : List Value) (f : Nat → Int64) (x y : Int32) {fr lo : Nat} {r : Int32} (hM : cR l D cB cI cJ ad n M yX12_two wsX12_two fr lo [.ref (ad po), .int x, .int y] r) (h_po : po < n) (h_ou : ou < n) (m_po : M po = .inr (11, fs)) (m_ou : M ou = .inl (cJ, 1, .inr (.inl f))) : cH l D cB cI cJ ad n M yL_two wsL_two (fr + 1) (lo + 40) [.ref (ad po), .int x, .int y, .ref (ad ou)] (fun v M' => v = 0 ∧ M' = va_up M ou (.inl (cJ, 1, .inr (.inl (vp_updL f 0 r.toInt64))))) := by
  refine q_bodyH (cc := cL_two) (maxL := 5) (ret := some .int) (by decide) rfl (Nat.le_of_ble_eq_true rfl) ?_
  intro p e s m args below meth c ls X hr hlocks hT hK hZ hP hl
  obtain ⟨hx, hb, hml, hown, hts⟩ := id X
  have hS : va_S (ipA ad n) s.heap s.heap [] := va_S.rf
  have hl : lv_has ls 5 [(0, .ref (ad po)), (1, .int x), (2, .int y), (3, .ref (ad ou))] := hl
  refine lv_aload_n hx hb dL_two_0 rfl (lv_at hl 3 rfl) ?_
  refine lv_iconst (v := 0) hx hb dL_two_1 (by decide) ?_
  refine lv_aload_n hx hb dL_two_2 rfl (lv_at hl 0 rfl) ?_
  refine lv_iload_n hx hb dL_two_3 rfl (lv_at hl 1 rfl) ?_
  refine lv_iload_n hx hb dL_two_4 rfl (lv_at hl 2 rfl) ?_
  refine q_rdV (As := [.int x, .int y]) (rest := [.int 0, .ref (ad ou)]) hM X hK hP hS hl.1 rfl gL_two_X12_two ydx_two ⟨by show _ ≤ _; exact Nat.le_refl _, by show 8 + (3 + 11) + lo ≤ lo + 40; omega⟩ h_po m_po (ci := 11) rfl rfl (Nat.le_of_ble_eq_true rfl) ⟨Nat.zero_le _, Nat.zero_le _⟩ dL_two_5 ?_
  refine lv_i2l hx hb dL_two_8 rfl ?_
  refine q_lastN (f := f) (k := 1) (y := r.toInt64) X hK hI hP hS 0 h_ou m_ou (by decide) (by decide) dL_two_9 (fun H2 locs2 hP hS => ?_)
  refine lv_goto (tgt := 21) hx hb dL_two_10 (by decide) ?_
  refine lv_iconst (v := 0) hx hb dL_two_21 (by decide) ?_
  exact q_hret X hr hlocks hP hS ⟨rfl, rfl⟩ (by decide) (by decide) dL_two_22
set_option maxRecDepth 100000 in
theorem hx_two (l : Launch) (D : va_G) (cB cI cJ : ClassId) (ad : Nat → Nat) (n : Nat) (M : Nat → va_E) (hI : ipI ad n) (po ou : Nat) (fs : List Value) (f : Nat → Int64) (x y : Int32) {fr lo : Nat} (hM : cX l D cB cI cJ ad n M yX12_two wsX12_two fr lo [.ref (ad po), .int x, .int y] "java/util/NoSuchElementException") (h_po : po < n) (m_po : M po = .inr (11, fs)) : cH l D cB cI cJ ad n M yL_two wsL_two (fr + 1) (lo + 40) [.ref (ad po), .int x, .int y, .ref (ad ou)] (fun v M' => v = 1 ∧ M' = M) := by
  refine q_bodyH (cc := cL_two) (maxL := 5) (ret := some .int) (by decide) rfl (Nat.le_of_ble_eq_true rfl) ?_
  intro p e s m args below meth c ls X hr hlocks hT hK hZ hP hl
  obtain ⟨hx, hb, hml, hown, hts⟩ := id X
  have hS : va_S (ipA ad n) s.heap s.heap [] := va_S.rf
  have hl : lv_has ls 5 [(0, .ref (ad po)), (1, .int x), (2, .int y), (3, .ref (ad ou))] := hl
  refine lv_aload_n hx hb dL_two_0 rfl (lv_at hl 3 rfl) ?_
  refine lv_iconst (v := 0) hx hb dL_two_1 (by decide) ?_
  refine lv_aload_n hx hb dL_two_2 rfl (lv_at hl 0 rfl) ?_
  refine lv_iload_n hx hb dL_two_3 rfl (lv_at hl 1 rfl) ?_
  refine lv_iload_n hx hb dL_two_4 rfl (lv_at hl 2 rfl) ?_
  refine q_catV (As := [.int x, .int y]) (rest := [.int 0, .ref (ad ou)]) hM X hK hP hl.1 rfl gL_two_X12_two ydx_two ⟨by show _ ≤ _; exact Nat.le_refl _, by show 8 + (3 + 11) + lo ≤ lo + 40; omega⟩ h_po m_po (ci := 11) rfl rfl (Nat.le_of_ble_eq_true rfl) ⟨Nat.le_refl _, Nat.le_refl _⟩ dL_two_5 (by decide) [] ⟨0, 10, 13, 18⟩ [⟨0, 10, 17, 13⟩] hT (fun z hz => nomatch hz) (by decide) (by decide) (by decide +kernel) (fun H1 locs1 q hP hS => ?_)
  refine lv_astore (lv' := [(4, .ref q), (0, .ref (ad po)), (1, .int x), (2, .int y), (3, .ref (ad ou))]) hx hb dL_two_13 hl (by decide) rfl (fun ls hl => ?_)
  refine lv_iconst (v := 1) hx hb dL_two_15 (by decide) ?_
  exact q_hret X hr hlocks hP hS ⟨rfl, rfl⟩ (Nat.le_refl _) (Nat.le_refl _) dL_two_16
set_option maxRecDepth 100000 in
theorem hx_two2 (l : Launch) (D : va_G) (cB cI cJ : ClassId) (ad : Nat → Nat) (n : Nat) (M : Nat → va_E) (hI : ipI ad n) (po ou : Nat) (fs : List Value) (f : Nat → Int64) (x y : Int32) {fr lo : Nat} (hM : cX l D cB cI cJ ad n M yX12_two wsX12_two fr lo [.ref (ad po), .int x, .int y] "java/lang/IllegalArgumentException") (h_po : po < n) (m_po : M po = .inr (11, fs)) : cH l D cB cI cJ ad n M yL_two wsL_two (fr + 1) (lo + 40) [.ref (ad po), .int x, .int y, .ref (ad ou)] (fun v M' => v = 2 ∧ M' = M) := by
  refine q_bodyH (cc := cL_two) (maxL := 5) (ret := some .int) (by decide) rfl (Nat.le_of_ble_eq_true rfl) ?_
  intro p e s m args below meth c ls X hr hlocks hT hK hZ hP hl
  obtain ⟨hx, hb, hml, hown, hts⟩ := id X
  have hS : va_S (ipA ad n) s.heap s.heap [] := va_S.rf
  have hl : lv_has ls 5 [(0, .ref (ad po)), (1, .int x), (2, .int y), (3, .ref (ad ou))] := hl
  refine lv_aload_n hx hb dL_two_0 rfl (lv_at hl 3 rfl) ?_
  refine lv_iconst (v := 0) hx hb dL_two_1 (by decide) ?_
  refine lv_aload_n hx hb dL_two_2 rfl (lv_at hl 0 rfl) ?_
  refine lv_iload_n hx hb dL_two_3 rfl (lv_at hl 1 rfl) ?_
  refine lv_iload_n hx hb dL_two_4 rfl (lv_at hl 2 rfl) ?_
  refine q_catV (As := [.int x, .int y]) (rest := [.int 0, .ref (ad ou)]) hM X hK hP hl.1 rfl gL_two_X12_two ydx_two ⟨by show _ ≤ _; exact Nat.le_refl _, by show 8 + (3 + 11) + lo ≤ lo + 40; omega⟩ h_po m_po (ci := 11) rfl rfl (Nat.le_of_ble_eq_true rfl) ⟨Nat.le_refl _, Nat.le_refl _⟩ dL_two_5 (by decide) [⟨0, 10, 13, 18⟩] ⟨0, 10, 17, 13⟩ [] hT (fun z hz => by
    rcases List.mem_singleton.mp hz with rfl
    exact Or.inr ⟨by decide, "java/util/NoSuchElementException", hts _ (by decide +kernel), hZ⟩) (by decide) (by decide) (by decide +kernel) (fun H1 locs1 q hP hS => ?_)
  refine lv_astore (lv' := [(4, .ref q), (0, .ref (ad po)), (1, .int x), (2, .int y), (3, .ref (ad ou))]) hx hb dL_two_17 hl (by decide) rfl (fun ls hl => ?_)
  refine lv_iconst (v := 2) hx hb dL_two_19 (by decide) ?_
  exact q_hret X hr hlocks hP hS ⟨rfl, rfl⟩ (Nat.le_refl _) (Nat.le_refl _) dL_two_20
theorem ydx_cheap : YD yX12_cheap 1 := ⟨by decide +kernel, by decide +kernel, by decide +kernel⟩
theorem ydL_cheap : YD yL_cheap 3 := ⟨by decide +kernel, by decide +kernel, by decide +kernel⟩
set_option maxRecDepth 100000 in
theorem h_cheap (l : Launch) (D : va_G) (cB cI cJ : ClassId) (ad : Nat → Nat) (n : Nat) (M : Nat → va_E) (hI : ipI ad n) (po ou : Nat) (fs : List Value) (f : Nat → Int64) (x : Int32) {fr lo : Nat} {post : Int32 → (Nat → va_E) → Prop} (hM : cWi l D cB cI cJ ad n M yX12_cheap wsX12_cheap fr lo [.ref (ad po), .int x] post) (hpo : ∀ (r : Int32) (M1 : Nat → va_E), post r M1 → M1 ou = .inl (cJ, 1, .inr (.inl f))) (h_po : po < n) (h_ou : ou < n) (m_po : M po = .inr (11, fs)) : cH l D cB cI cJ ad n M yL_cheap wsL_cheap (fr + 1) (lo + 40) [.ref (ad po), .int x, .ref (ad ou)] (fun v M' => v = 0 ∧ ∃ (r : Int32) (M1 : Nat → va_E), post r M1 ∧ M' = va_up M1 ou (.inl (cJ, 1, .inr (.inl (vp_updL f 0 r.toInt64))))) := by
  refine q_bodyH (cc := cL_cheap) (maxL := 4) (ret := some .int) (by decide) rfl (Nat.le_of_ble_eq_true rfl) ?_
  intro p e s m args below meth c ls X hr hlocks hT hK hZ hP hl
  obtain ⟨hx, hb, hml, hown, hts⟩ := id X
  have hS : va_S (ipA ad n) s.heap s.heap [] := va_S.rf
  have hl : lv_has ls 4 [(0, .ref (ad po)), (1, .int x), (2, .ref (ad ou))] := hl
  refine lv_aload_n hx hb dL_cheap_0 rfl (lv_at hl 2 rfl) ?_
  refine lv_iconst (v := 0) hx hb dL_cheap_1 (by decide) ?_
  refine lv_aload_n hx hb dL_cheap_2 rfl (lv_at hl 0 rfl) ?_
  refine lv_iload_n hx hb dL_cheap_3 rfl (lv_at hl 1 rfl) ?_
  refine q_wrVi (As := [.int x]) (rest := [.int 0, .ref (ad ou)]) hM X hK hP hS hl.1 rfl gL_cheap_X12_cheap ydx_cheap ⟨by show _ ≤ _; exact Nat.le_refl _, by show 8 + (2 + 11) + lo ≤ lo + 40; omega⟩ h_po m_po (ci := 11) rfl rfl (Nat.le_of_ble_eq_true rfl) ⟨Nat.zero_le _, Nat.zero_le _⟩ dL_cheap_4 (fun r M1 H1 locs1 hp hP hS => ?_)
  refine lv_i2l hx hb dL_cheap_7 rfl ?_
  refine q_lastN (f := f) (k := 1) (y := r.toInt64) X hK hI hP hS 0 h_ou (hpo r M1 hp) (by decide) (by decide) dL_cheap_8 (fun H2 locs2 hP hS => ?_)
  refine lv_goto (tgt := 15) hx hb dL_cheap_9 (by decide) ?_
  refine lv_iconst (v := 0) hx hb dL_cheap_15 (by decide) ?_
  exact q_hret X hr hlocks hP hS ⟨rfl, r, M1, hp, rfl⟩ (by decide) (by decide) dL_cheap_16
set_option maxRecDepth 100000 in
theorem hx_cheap (l : Launch) (D : va_G) (cB cI cJ : ClassId) (ad : Nat → Nat) (n : Nat) (M : Nat → va_E) (hI : ipI ad n) (po ou : Nat) (fs : List Value) (f : Nat → Int64) (x : Int32) {fr lo : Nat} (hM : cX l D cB cI cJ ad n M yX12_cheap wsX12_cheap fr lo [.ref (ad po), .int x] "java/util/NoSuchElementException") (h_po : po < n) (m_po : M po = .inr (11, fs)) : cH l D cB cI cJ ad n M yL_cheap wsL_cheap (fr + 1) (lo + 40) [.ref (ad po), .int x, .ref (ad ou)] (fun v M' => v = 1 ∧ M' = M) := by
  refine q_bodyH (cc := cL_cheap) (maxL := 4) (ret := some .int) (by decide) rfl (Nat.le_of_ble_eq_true rfl) ?_
  intro p e s m args below meth c ls X hr hlocks hT hK hZ hP hl
  obtain ⟨hx, hb, hml, hown, hts⟩ := id X
  have hS : va_S (ipA ad n) s.heap s.heap [] := va_S.rf
  have hl : lv_has ls 4 [(0, .ref (ad po)), (1, .int x), (2, .ref (ad ou))] := hl
  refine lv_aload_n hx hb dL_cheap_0 rfl (lv_at hl 2 rfl) ?_
  refine lv_iconst (v := 0) hx hb dL_cheap_1 (by decide) ?_
  refine lv_aload_n hx hb dL_cheap_2 rfl (lv_at hl 0 rfl) ?_
  refine lv_iload_n hx hb dL_cheap_3 rfl (lv_at hl 1 rfl) ?_
  refine q_catV (As := [.int x]) (rest := [.int 0, .ref (ad ou)]) hM X hK hP hl.1 rfl gL_cheap_X12_cheap ydx_cheap ⟨by show _ ≤ _; exact Nat.le_refl _, by show 8 + (2 + 11) + lo ≤ lo + 40; omega⟩ h_po m_po (ci := 11) rfl rfl (Nat.le_of_ble_eq_true rfl) ⟨Nat.le_refl _, Nat.le_refl _⟩ dL_cheap_4 (by decide) [] ⟨0, 9, 12, 18⟩ [] hT (fun z hz => nomatch hz) (by decide) (by decide) (by decide +kernel) (fun H1 locs1 q hP hS => ?_)
  refine lv_astore_n (lv' := [(3, .ref q), (0, .ref (ad po)), (1, .int x), (2, .ref (ad ou))]) hx hb dL_cheap_12 rfl hl (by decide) rfl (fun ls hl => ?_)
  refine lv_iconst (v := 1) hx hb dL_cheap_13 (by decide) ?_
  exact q_hret X hr hlocks hP hS ⟨rfl, rfl⟩ (Nat.le_refl _) (Nat.le_refl _) dL_cheap_14
theorem ydx_fate : YD yX12_fate 1 := ⟨by decide +kernel, by decide +kernel, by decide +kernel⟩
theorem ydL_fate : YD yL_fate 3 := ⟨by decide +kernel, by decide +kernel, by decide +kernel⟩
set_option maxRecDepth 100000 in
theorem h_fate (l : Launch) (D : va_G) (cB cI cJ : ClassId) (ad : Nat → Nat) (n : Nat) (M : Nat → va_E) (hI : ipI ad n) (po ou : Nat) (fs : List Value) (f : Nat → Int64) (x : Int32) {fr lo : Nat} {r : Int32} (hM : cR l D cB cI cJ ad n M yX12_fate wsX12_fate fr lo [.ref (ad po), .int x] r) (h_po : po < n) (h_ou : ou < n) (m_po : M po = .inr (11, fs)) (m_ou : M ou = .inl (cJ, 1, .inr (.inl f))) : cH l D cB cI cJ ad n M yL_fate wsL_fate (fr + 1) (lo + 40) [.ref (ad po), .int x, .ref (ad ou)] (fun v M' => v = 0 ∧ M' = va_up M ou (.inl (cJ, 1, .inr (.inl (vp_updL f 0 r.toInt64))))) := by
  refine q_bodyH (cc := cL_fate) (maxL := 4) (ret := some .int) (by decide) rfl (Nat.le_of_ble_eq_true rfl) ?_
  intro p e s m args below meth c ls X hr hlocks hT hK hZ hP hl
  obtain ⟨hx, hb, hml, hown, hts⟩ := id X
  have hS : va_S (ipA ad n) s.heap s.heap [] := va_S.rf
  have hl : lv_has ls 4 [(0, .ref (ad po)), (1, .int x), (2, .ref (ad ou))] := hl
  refine lv_aload_n hx hb dL_fate_0 rfl (lv_at hl 2 rfl) ?_
  refine lv_iconst (v := 0) hx hb dL_fate_1 (by decide) ?_
  refine lv_aload_n hx hb dL_fate_2 rfl (lv_at hl 0 rfl) ?_
  refine lv_iload_n hx hb dL_fate_3 rfl (lv_at hl 1 rfl) ?_
  refine q_rdV (As := [.int x]) (rest := [.int 0, .ref (ad ou)]) hM X hK hP hS hl.1 rfl gL_fate_X12_fate ydx_fate ⟨by show _ ≤ _; exact Nat.le_refl _, by show 8 + (2 + 11) + lo ≤ lo + 40; omega⟩ h_po m_po (ci := 11) rfl rfl (Nat.le_of_ble_eq_true rfl) ⟨Nat.zero_le _, Nat.zero_le _⟩ dL_fate_4 ?_
  refine lv_i2l hx hb dL_fate_7 rfl ?_
  refine q_lastN (f := f) (k := 1) (y := r.toInt64) X hK hI hP hS 0 h_ou m_ou (by decide) (by decide) dL_fate_8 (fun H2 locs2 hP hS => ?_)
  refine lv_goto (tgt := 15) hx hb dL_fate_9 (by decide) ?_
  refine lv_iconst (v := 0) hx hb dL_fate_15 (by decide) ?_
  exact q_hret X hr hlocks hP hS ⟨rfl, rfl⟩ (by decide) (by decide) dL_fate_16
set_option maxRecDepth 100000 in
theorem hx_fate (l : Launch) (D : va_G) (cB cI cJ : ClassId) (ad : Nat → Nat) (n : Nat) (M : Nat → va_E) (hI : ipI ad n) (po ou : Nat) (fs : List Value) (f : Nat → Int64) (x : Int32) {fr lo : Nat} (hM : cX l D cB cI cJ ad n M yX12_fate wsX12_fate fr lo [.ref (ad po), .int x] "java/util/NoSuchElementException") (h_po : po < n) (m_po : M po = .inr (11, fs)) : cH l D cB cI cJ ad n M yL_fate wsL_fate (fr + 1) (lo + 40) [.ref (ad po), .int x, .ref (ad ou)] (fun v M' => v = 1 ∧ M' = M) := by
  refine q_bodyH (cc := cL_fate) (maxL := 4) (ret := some .int) (by decide) rfl (Nat.le_of_ble_eq_true rfl) ?_
  intro p e s m args below meth c ls X hr hlocks hT hK hZ hP hl
  obtain ⟨hx, hb, hml, hown, hts⟩ := id X
  have hS : va_S (ipA ad n) s.heap s.heap [] := va_S.rf
  have hl : lv_has ls 4 [(0, .ref (ad po)), (1, .int x), (2, .ref (ad ou))] := hl
  refine lv_aload_n hx hb dL_fate_0 rfl (lv_at hl 2 rfl) ?_
  refine lv_iconst (v := 0) hx hb dL_fate_1 (by decide) ?_
  refine lv_aload_n hx hb dL_fate_2 rfl (lv_at hl 0 rfl) ?_
  refine lv_iload_n hx hb dL_fate_3 rfl (lv_at hl 1 rfl) ?_
  refine q_catV (As := [.int x]) (rest := [.int 0, .ref (ad ou)]) hM X hK hP hl.1 rfl gL_fate_X12_fate ydx_fate ⟨by show _ ≤ _; exact Nat.le_refl _, by show 8 + (2 + 11) + lo ≤ lo + 40; omega⟩ h_po m_po (ci := 11) rfl rfl (Nat.le_of_ble_eq_true rfl) ⟨Nat.le_refl _, Nat.le_refl _⟩ dL_fate_4 (by decide) [] ⟨0, 9, 12, 18⟩ [] hT (fun z hz => nomatch hz) (by decide) (by decide) (by decide +kernel) (fun H1 locs1 q hP hS => ?_)
  refine lv_astore_n (lv' := [(3, .ref q), (0, .ref (ad po)), (1, .int x), (2, .ref (ad ou))]) hx hb dL_fate_12 rfl hl (by decide) rfl (fun ls hl => ?_)
  refine lv_iconst (v := 1) hx hb dL_fate_13 (by decide) ?_
  exact q_hret X hr hlocks hP hS ⟨rfl, rfl⟩ (Nat.le_refl _) (Nat.le_refl _) dL_fate_14
theorem ydx_sure : YD yX12_sure 2 := ⟨by decide +kernel, by decide +kernel, by decide +kernel⟩
theorem ydL_sure : YD yL_sure 4 := ⟨by decide +kernel, by decide +kernel, by decide +kernel⟩
set_option maxRecDepth 100000 in
theorem h_sure (l : Launch) (D : va_G) (cB cI cJ : ClassId) (ad : Nat → Nat) (n : Nat) (M : Nat → va_E) (hI : ipI ad n) (po ou : Nat) (fs : List Value) (f : Nat → Int64) (x y : Int32) {fr lo : Nat} {post : Int64 → (Nat → va_E) → Prop} (hM : cWl l D cB cI cJ ad n M yX12_sure wsX12_sure fr lo [.ref (ad po), .int x, .int y] post) (hpo : ∀ (r : Int64) (M1 : Nat → va_E), post r M1 → M1 ou = .inl (cJ, 1, .inr (.inl f))) (h_po : po < n) (h_ou : ou < n) (m_po : M po = .inr (11, fs)) : cH l D cB cI cJ ad n M yL_sure wsL_sure (fr + 1) (lo + 40) [.ref (ad po), .int x, .int y, .ref (ad ou)] (fun v M' => v = 0 ∧ ∃ (r : Int64) (M1 : Nat → va_E), post r M1 ∧ M' = va_up M1 ou (.inl (cJ, 1, .inr (.inl (vp_updL f 0 r))))) := by
  refine q_bodyH (cc := cL_sure) (maxL := 5) (ret := some .int) (by decide) rfl (Nat.le_of_ble_eq_true rfl) ?_
  intro p e s m args below meth c ls X hr hlocks hT hK hZ hP hl
  obtain ⟨hx, hb, hml, hown, hts⟩ := id X
  have hS : va_S (ipA ad n) s.heap s.heap [] := va_S.rf
  have hl : lv_has ls 5 [(0, .ref (ad po)), (1, .int x), (2, .int y), (3, .ref (ad ou))] := hl
  refine lv_aload_n hx hb dL_sure_0 rfl (lv_at hl 3 rfl) ?_
  refine lv_iconst (v := 0) hx hb dL_sure_1 (by decide) ?_
  refine lv_aload_n hx hb dL_sure_2 rfl (lv_at hl 0 rfl) ?_
  refine lv_iload_n hx hb dL_sure_3 rfl (lv_at hl 1 rfl) ?_
  refine lv_iload_n hx hb dL_sure_4 rfl (lv_at hl 2 rfl) ?_
  refine q_wrVl (As := [.int x, .int y]) (rest := [.int 0, .ref (ad ou)]) hM X hK hP hS hl.1 rfl gL_sure_X12_sure ydx_sure ⟨by show _ ≤ _; exact Nat.le_refl _, by show 8 + (3 + 11) + lo ≤ lo + 40; omega⟩ h_po m_po (ci := 11) rfl rfl (Nat.le_of_ble_eq_true rfl) ⟨Nat.zero_le _, Nat.zero_le _⟩ dL_sure_5 (fun r M1 H1 locs1 hp hP hS => ?_)
  refine q_lastN (f := f) (k := 1) (y := r) X hK hI hP hS 0 h_ou (hpo r M1 hp) (by decide) (by decide) dL_sure_8 (fun H2 locs2 hP hS => ?_)
  refine lv_goto (tgt := 16) hx hb dL_sure_9 (by decide) ?_
  refine lv_iconst (v := 0) hx hb dL_sure_16 (by decide) ?_
  exact q_hret X hr hlocks hP hS ⟨rfl, r, M1, hp, rfl⟩ (by decide) (by decide) dL_sure_17
set_option maxRecDepth 100000 in
theorem hx_sure (l : Launch) (D : va_G) (cB cI cJ : ClassId) (ad : Nat → Nat) (n : Nat) (M : Nat → va_E) (hI : ipI ad n) (po ou : Nat) (fs : List Value) (f : Nat → Int64) (x y : Int32) {fr lo : Nat} (hM : cX l D cB cI cJ ad n M yX12_sure wsX12_sure fr lo [.ref (ad po), .int x, .int y] "java/util/NoSuchElementException") (h_po : po < n) (m_po : M po = .inr (11, fs)) : cH l D cB cI cJ ad n M yL_sure wsL_sure (fr + 1) (lo + 40) [.ref (ad po), .int x, .int y, .ref (ad ou)] (fun v M' => v = 1 ∧ M' = M) := by
  refine q_bodyH (cc := cL_sure) (maxL := 5) (ret := some .int) (by decide) rfl (Nat.le_of_ble_eq_true rfl) ?_
  intro p e s m args below meth c ls X hr hlocks hT hK hZ hP hl
  obtain ⟨hx, hb, hml, hown, hts⟩ := id X
  have hS : va_S (ipA ad n) s.heap s.heap [] := va_S.rf
  have hl : lv_has ls 5 [(0, .ref (ad po)), (1, .int x), (2, .int y), (3, .ref (ad ou))] := hl
  refine lv_aload_n hx hb dL_sure_0 rfl (lv_at hl 3 rfl) ?_
  refine lv_iconst (v := 0) hx hb dL_sure_1 (by decide) ?_
  refine lv_aload_n hx hb dL_sure_2 rfl (lv_at hl 0 rfl) ?_
  refine lv_iload_n hx hb dL_sure_3 rfl (lv_at hl 1 rfl) ?_
  refine lv_iload_n hx hb dL_sure_4 rfl (lv_at hl 2 rfl) ?_
  refine q_catV (As := [.int x, .int y]) (rest := [.int 0, .ref (ad ou)]) hM X hK hP hl.1 rfl gL_sure_X12_sure ydx_sure ⟨by show _ ≤ _; exact Nat.le_refl _, by show 8 + (3 + 11) + lo ≤ lo + 40; omega⟩ h_po m_po (ci := 11) rfl rfl (Nat.le_of_ble_eq_true rfl) ⟨Nat.le_refl _, Nat.le_refl _⟩ dL_sure_5 (by decide) [] ⟨0, 9, 12, 18⟩ [] hT (fun z hz => nomatch hz) (by decide) (by decide) (by decide +kernel) (fun H1 locs1 q hP hS => ?_)
  refine lv_astore (lv' := [(4, .ref q), (0, .ref (ad po)), (1, .int x), (2, .int y), (3, .ref (ad ou))]) hx hb dL_sure_12 hl (by decide) rfl (fun ls hl => ?_)
  refine lv_iconst (v := 1) hx hb dL_sure_14 (by decide) ?_
  exact q_hret X hr hlocks hP hS ⟨rfl, rfl⟩ (Nat.le_refl _) (Nat.le_refl _) dL_sure_15
theorem ydx_weigh : YD yX12_weigh 2 := ⟨by decide +kernel, by decide +kernel, by decide +kernel⟩
theorem ydL_weigh : YD yL_weigh 4 := ⟨by decide +kernel, by decide +kernel, by decide +kernel⟩
set_option maxRecDepth 100000 in
theorem h_weigh (l : Launch) (D : va_G) (cB cI cJ : ClassId) (ad : Nat → Nat) (n : Nat) (M : Nat → va_E) (hI : ipI ad n) (po ou : Nat) (fs : List Value) (f : Nat → Int64) (x y : Int32) {fr lo : Nat} {post : Int32 → (Nat → va_E) → Prop} (hM : cWi l D cB cI cJ ad n M yX12_weigh wsX12_weigh fr lo [.ref (ad po), .int x, .int y] post) (hpo : ∀ (r : Int32) (M1 : Nat → va_E), post r M1 → M1 ou = .inl (cJ, 1, .inr (.inl f))) (h_po : po < n) (h_ou : ou < n) (m_po : M po = .inr (11, fs)) : cH l D cB cI cJ ad n M yL_weigh wsL_weigh (fr + 1) (lo + 40) [.ref (ad po), .int x, .int y, .ref (ad ou)] (fun v M' => v = 0 ∧ ∃ (r : Int32) (M1 : Nat → va_E), post r M1 ∧ M' = va_up M1 ou (.inl (cJ, 1, .inr (.inl (vp_updL f 0 r.toInt64))))) := by
  refine q_bodyH (cc := cL_weigh) (maxL := 5) (ret := some .int) (by decide) rfl (Nat.le_of_ble_eq_true rfl) ?_
  intro p e s m args below meth c ls X hr hlocks hT hK hZ hP hl
  obtain ⟨hx, hb, hml, hown, hts⟩ := id X
  have hS : va_S (ipA ad n) s.heap s.heap [] := va_S.rf
  have hl : lv_has ls 5 [(0, .ref (ad po)), (1, .int x), (2, .int y), (3, .ref (ad ou))] := hl
  refine lv_aload_n hx hb dL_weigh_0 rfl (lv_at hl 3 rfl) ?_
  refine lv_iconst (v := 0) hx hb dL_weigh_1 (by decide) ?_
  refine lv_aload_n hx hb dL_weigh_2 rfl (lv_at hl 0 rfl) ?_
  refine lv_iload_n hx hb dL_weigh_3 rfl (lv_at hl 1 rfl) ?_
  refine lv_iload_n hx hb dL_weigh_4 rfl (lv_at hl 2 rfl) ?_
  refine q_wrVi (As := [.int x, .int y]) (rest := [.int 0, .ref (ad ou)]) hM X hK hP hS hl.1 rfl gL_weigh_X12_weigh ydx_weigh ⟨by show _ ≤ _; exact Nat.le_refl _, by show 8 + (3 + 11) + lo ≤ lo + 40; omega⟩ h_po m_po (ci := 11) rfl rfl (Nat.le_of_ble_eq_true rfl) ⟨Nat.zero_le _, Nat.zero_le _⟩ dL_weigh_5 (fun r M1 H1 locs1 hp hP hS => ?_)
  refine lv_i2l hx hb dL_weigh_8 rfl ?_
  refine q_lastN (f := f) (k := 1) (y := r.toInt64) X hK hI hP hS 0 h_ou (hpo r M1 hp) (by decide) (by decide) dL_weigh_9 (fun H2 locs2 hP hS => ?_)
  refine lv_goto (tgt := 17) hx hb dL_weigh_10 (by decide) ?_
  refine lv_iconst (v := 0) hx hb dL_weigh_17 (by decide) ?_
  exact q_hret X hr hlocks hP hS ⟨rfl, r, M1, hp, rfl⟩ (by decide) (by decide) dL_weigh_18
set_option maxRecDepth 100000 in
theorem hx_weigh (l : Launch) (D : va_G) (cB cI cJ : ClassId) (ad : Nat → Nat) (n : Nat) (M : Nat → va_E) (hI : ipI ad n) (po ou : Nat) (fs : List Value) (f : Nat → Int64) (x y : Int32) {fr lo : Nat} (hM : cX l D cB cI cJ ad n M yX12_weigh wsX12_weigh fr lo [.ref (ad po), .int x, .int y] "java/util/NoSuchElementException") (h_po : po < n) (m_po : M po = .inr (11, fs)) : cH l D cB cI cJ ad n M yL_weigh wsL_weigh (fr + 1) (lo + 40) [.ref (ad po), .int x, .int y, .ref (ad ou)] (fun v M' => v = 1 ∧ M' = M) := by
  refine q_bodyH (cc := cL_weigh) (maxL := 5) (ret := some .int) (by decide) rfl (Nat.le_of_ble_eq_true rfl) ?_
  intro p e s m args below meth c ls X hr hlocks hT hK hZ hP hl
  obtain ⟨hx, hb, hml, hown, hts⟩ := id X
  have hS : va_S (ipA ad n) s.heap s.heap [] := va_S.rf
  have hl : lv_has ls 5 [(0, .ref (ad po)), (1, .int x), (2, .int y), (3, .ref (ad ou))] := hl
  refine lv_aload_n hx hb dL_weigh_0 rfl (lv_at hl 3 rfl) ?_
  refine lv_iconst (v := 0) hx hb dL_weigh_1 (by decide) ?_
  refine lv_aload_n hx hb dL_weigh_2 rfl (lv_at hl 0 rfl) ?_
  refine lv_iload_n hx hb dL_weigh_3 rfl (lv_at hl 1 rfl) ?_
  refine lv_iload_n hx hb dL_weigh_4 rfl (lv_at hl 2 rfl) ?_
  refine q_catV (As := [.int x, .int y]) (rest := [.int 0, .ref (ad ou)]) hM X hK hP hl.1 rfl gL_weigh_X12_weigh ydx_weigh ⟨by show _ ≤ _; exact Nat.le_refl _, by show 8 + (3 + 11) + lo ≤ lo + 40; omega⟩ h_po m_po (ci := 11) rfl rfl (Nat.le_of_ble_eq_true rfl) ⟨Nat.le_refl _, Nat.le_refl _⟩ dL_weigh_5 (by decide) [] ⟨0, 10, 13, 18⟩ [] hT (fun z hz => nomatch hz) (by decide) (by decide) (by decide +kernel) (fun H1 locs1 q hP hS => ?_)
  refine lv_astore (lv' := [(4, .ref q), (0, .ref (ad po)), (1, .int x), (2, .int y), (3, .ref (ad ou))]) hx hb dL_weigh_13 hl (by decide) rfl (fun ls hl => ?_)
  refine lv_iconst (v := 1) hx hb dL_weigh_15 (by decide) ?_
  exact q_hret X hr hlocks hP hS ⟨rfl, rfl⟩ (Nat.le_refl _) (Nat.le_refl _) dL_weigh_16
theorem ydx_lost : YD yX12_lost 1 := ⟨by decide +kernel, by decide +kernel, by decide +kernel⟩
theorem ydL_lost : YD yL_lost 3 := ⟨by decide +kernel, by decide +kernel, by decide +kernel⟩
set_option maxRecDepth 100000 in
theorem h_lost (l : Launch) (D : va_G) (cB cI cJ : ClassId) (ad : Nat → Nat) (n : Nat) (M : Nat → va_E) (hI : ipI ad n) (po ou : Nat) (fs : List Value) (f : Nat → Int64) (x : Int32) {fr lo : Nat} {r : Int32} (hM : cR l D cB cI cJ ad n M yX12_lost wsX12_lost fr lo [.ref (ad po), .int x] r) (h_po : po < n) (h_ou : ou < n) (m_po : M po = .inr (11, fs)) (m_ou : M ou = .inl (cJ, 1, .inr (.inl f))) : cH l D cB cI cJ ad n M yL_lost wsL_lost (fr + 1) (lo + 40) [.ref (ad po), .int x, .ref (ad ou)] (fun v M' => v = 0 ∧ M' = va_up M ou (.inl (cJ, 1, .inr (.inl (vp_updL f 0 r.toInt64))))) := by
  refine q_bodyH (cc := cL_lost) (maxL := 4) (ret := some .int) (by decide) rfl (Nat.le_of_ble_eq_true rfl) ?_
  intro p e s m args below meth c ls X hr hlocks hT hK hZ hP hl
  obtain ⟨hx, hb, hml, hown, hts⟩ := id X
  have hS : va_S (ipA ad n) s.heap s.heap [] := va_S.rf
  have hl : lv_has ls 4 [(0, .ref (ad po)), (1, .int x), (2, .ref (ad ou))] := hl
  refine lv_aload_n hx hb dL_lost_0 rfl (lv_at hl 2 rfl) ?_
  refine lv_iconst (v := 0) hx hb dL_lost_1 (by decide) ?_
  refine lv_aload_n hx hb dL_lost_2 rfl (lv_at hl 0 rfl) ?_
  refine lv_iload_n hx hb dL_lost_3 rfl (lv_at hl 1 rfl) ?_
  refine q_rdV (As := [.int x]) (rest := [.int 0, .ref (ad ou)]) hM X hK hP hS hl.1 rfl gL_lost_X12_lost ydx_lost ⟨by show _ ≤ _; exact Nat.le_refl _, by show 8 + (2 + 11) + lo ≤ lo + 40; omega⟩ h_po m_po (ci := 11) rfl rfl (Nat.le_of_ble_eq_true rfl) ⟨Nat.zero_le _, Nat.zero_le _⟩ dL_lost_4 ?_
  refine lv_i2l hx hb dL_lost_7 rfl ?_
  refine q_lastN (f := f) (k := 1) (y := r.toInt64) X hK hI hP hS 0 h_ou m_ou (by decide) (by decide) dL_lost_8 (fun H2 locs2 hP hS => ?_)
  refine lv_goto (tgt := 15) hx hb dL_lost_9 (by decide) ?_
  refine lv_iconst (v := 0) hx hb dL_lost_15 (by decide) ?_
  exact q_hret X hr hlocks hP hS ⟨rfl, rfl⟩ (by decide) (by decide) dL_lost_16
set_option maxRecDepth 100000 in
theorem hx_lost (l : Launch) (D : va_G) (cB cI cJ : ClassId) (ad : Nat → Nat) (n : Nat) (M : Nat → va_E) (hI : ipI ad n) (po ou : Nat) (fs : List Value) (f : Nat → Int64) (x : Int32) {fr lo : Nat} (hM : cX l D cB cI cJ ad n M yX12_lost wsX12_lost fr lo [.ref (ad po), .int x] "java/util/NoSuchElementException") (h_po : po < n) (m_po : M po = .inr (11, fs)) : cH l D cB cI cJ ad n M yL_lost wsL_lost (fr + 1) (lo + 40) [.ref (ad po), .int x, .ref (ad ou)] (fun v M' => v = 1 ∧ M' = M) := by
  refine q_bodyH (cc := cL_lost) (maxL := 4) (ret := some .int) (by decide) rfl (Nat.le_of_ble_eq_true rfl) ?_
  intro p e s m args below meth c ls X hr hlocks hT hK hZ hP hl
  obtain ⟨hx, hb, hml, hown, hts⟩ := id X
  have hS : va_S (ipA ad n) s.heap s.heap [] := va_S.rf
  have hl : lv_has ls 4 [(0, .ref (ad po)), (1, .int x), (2, .ref (ad ou))] := hl
  refine lv_aload_n hx hb dL_lost_0 rfl (lv_at hl 2 rfl) ?_
  refine lv_iconst (v := 0) hx hb dL_lost_1 (by decide) ?_
  refine lv_aload_n hx hb dL_lost_2 rfl (lv_at hl 0 rfl) ?_
  refine lv_iload_n hx hb dL_lost_3 rfl (lv_at hl 1 rfl) ?_
  refine q_catV (As := [.int x]) (rest := [.int 0, .ref (ad ou)]) hM X hK hP hl.1 rfl gL_lost_X12_lost ydx_lost ⟨by show _ ≤ _; exact Nat.le_refl _, by show 8 + (2 + 11) + lo ≤ lo + 40; omega⟩ h_po m_po (ci := 11) rfl rfl (Nat.le_of_ble_eq_true rfl) ⟨Nat.le_refl _, Nat.le_refl _⟩ dL_lost_4 (by decide) [] ⟨0, 9, 12, 18⟩ [] hT (fun z hz => nomatch hz) (by decide) (by decide) (by decide +kernel) (fun H1 locs1 q hP hS => ?_)
  refine lv_astore_n (lv' := [(3, .ref q), (0, .ref (ad po)), (1, .int x), (2, .ref (ad ou))]) hx hb dL_lost_12 rfl hl (by decide) rfl (fun ls hl => ?_)
  refine lv_iconst (v := 1) hx hb dL_lost_13 (by decide) ?_
  exact q_hret X hr hlocks hP hS ⟨rfl, rfl⟩ (Nat.le_refl _) (Nat.le_refl _) dL_lost_14
theorem ydx_wear : YD yX12_wear 3 := ⟨by decide +kernel, by decide +kernel, by decide +kernel⟩
theorem ydL_wear : YD yL_wear 5 := ⟨by decide +kernel, by decide +kernel, by decide +kernel⟩
set_option maxRecDepth 100000 in
theorem h_wear (l : Launch) (D : va_G) (cB cI cJ : ClassId) (ad : Nat → Nat) (n : Nat) (M : Nat → va_E) (hI : ipI ad n) (po ou : Nat) (fs : List Value) (f : Nat → Int64) (x y z : Int32) {fr lo : Nat} {r : Int32} (hM : cR l D cB cI cJ ad n M yX12_wear wsX12_wear fr lo [.ref (ad po), .int x, .int y, .int z] r) (h_po : po < n) (h_ou : ou < n) (m_po : M po = .inr (11, fs)) (m_ou : M ou = .inl (cJ, 1, .inr (.inl f))) : cH l D cB cI cJ ad n M yL_wear wsL_wear (fr + 1) (lo + 40) [.ref (ad po), .int x, .int y, .int z, .ref (ad ou)] (fun v M' => v = 0 ∧ M' = va_up M ou (.inl (cJ, 1, .inr (.inl (vp_updL f 0 r.toInt64))))) := by
  refine q_bodyH (cc := cL_wear) (maxL := 6) (ret := some .int) (by decide) rfl (Nat.le_of_ble_eq_true rfl) ?_
  intro p e s m args below meth c ls X hr hlocks hT hK hZ hP hl
  obtain ⟨hx, hb, hml, hown, hts⟩ := id X
  have hS : va_S (ipA ad n) s.heap s.heap [] := va_S.rf
  have hl : lv_has ls 6 [(0, .ref (ad po)), (1, .int x), (2, .int y), (3, .int z), (4, .ref (ad ou))] := hl
  refine lv_aload hx hb dL_wear_0 (lv_at hl 4 rfl) ?_
  refine lv_iconst (v := 0) hx hb dL_wear_2 (by decide) ?_
  refine lv_aload_n hx hb dL_wear_3 rfl (lv_at hl 0 rfl) ?_
  refine lv_iload_n hx hb dL_wear_4 rfl (lv_at hl 1 rfl) ?_
  refine lv_iload_n hx hb dL_wear_5 rfl (lv_at hl 2 rfl) ?_
  refine lv_iload_n hx hb dL_wear_6 rfl (lv_at hl 3 rfl) ?_
  refine q_rdV (As := [.int x, .int y, .int z]) (rest := [.int 0, .ref (ad ou)]) hM X hK hP hS hl.1 rfl gL_wear_X12_wear ydx_wear ⟨by show _ ≤ _; exact Nat.le_refl _, by show 8 + (5 + 11) + lo ≤ lo + 40; omega⟩ h_po m_po (ci := 11) rfl rfl (Nat.le_of_ble_eq_true rfl) ⟨Nat.zero_le _, Nat.zero_le _⟩ dL_wear_7 ?_
  refine lv_i2l hx hb dL_wear_10 rfl ?_
  refine q_lastN (f := f) (k := 1) (y := r.toInt64) X hK hI hP hS 0 h_ou m_ou (by decide) (by decide) dL_wear_11 (fun H2 locs2 hP hS => ?_)
  refine lv_goto (tgt := 23) hx hb dL_wear_12 (by decide) ?_
  refine lv_iconst (v := 0) hx hb dL_wear_23 (by decide) ?_
  exact q_hret X hr hlocks hP hS ⟨rfl, rfl⟩ (by decide) (by decide) dL_wear_24
set_option maxRecDepth 100000 in
theorem hx_wear (l : Launch) (D : va_G) (cB cI cJ : ClassId) (ad : Nat → Nat) (n : Nat) (M : Nat → va_E) (hI : ipI ad n) (po ou : Nat) (fs : List Value) (f : Nat → Int64) (x y z : Int32) {fr lo : Nat} (hM : cX l D cB cI cJ ad n M yX12_wear wsX12_wear fr lo [.ref (ad po), .int x, .int y, .int z] "java/util/NoSuchElementException") (h_po : po < n) (m_po : M po = .inr (11, fs)) : cH l D cB cI cJ ad n M yL_wear wsL_wear (fr + 1) (lo + 40) [.ref (ad po), .int x, .int y, .int z, .ref (ad ou)] (fun v M' => v = 1 ∧ M' = M) := by
  refine q_bodyH (cc := cL_wear) (maxL := 6) (ret := some .int) (by decide) rfl (Nat.le_of_ble_eq_true rfl) ?_
  intro p e s m args below meth c ls X hr hlocks hT hK hZ hP hl
  obtain ⟨hx, hb, hml, hown, hts⟩ := id X
  have hS : va_S (ipA ad n) s.heap s.heap [] := va_S.rf
  have hl : lv_has ls 6 [(0, .ref (ad po)), (1, .int x), (2, .int y), (3, .int z), (4, .ref (ad ou))] := hl
  refine lv_aload hx hb dL_wear_0 (lv_at hl 4 rfl) ?_
  refine lv_iconst (v := 0) hx hb dL_wear_2 (by decide) ?_
  refine lv_aload_n hx hb dL_wear_3 rfl (lv_at hl 0 rfl) ?_
  refine lv_iload_n hx hb dL_wear_4 rfl (lv_at hl 1 rfl) ?_
  refine lv_iload_n hx hb dL_wear_5 rfl (lv_at hl 2 rfl) ?_
  refine lv_iload_n hx hb dL_wear_6 rfl (lv_at hl 3 rfl) ?_
  refine q_catV (As := [.int x, .int y, .int z]) (rest := [.int 0, .ref (ad ou)]) hM X hK hP hl.1 rfl gL_wear_X12_wear ydx_wear ⟨by show _ ≤ _; exact Nat.le_refl _, by show 8 + (5 + 11) + lo ≤ lo + 40; omega⟩ h_po m_po (ci := 11) rfl rfl (Nat.le_of_ble_eq_true rfl) ⟨Nat.le_refl _, Nat.le_refl _⟩ dL_wear_7 (by decide) [] ⟨0, 12, 15, 18⟩ [⟨0, 12, 19, 13⟩] hT (fun z hz => nomatch hz) (by decide) (by decide) (by decide +kernel) (fun H1 locs1 q hP hS => ?_)
  refine lv_astore (lv' := [(5, .ref q), (0, .ref (ad po)), (1, .int x), (2, .int y), (3, .int z), (4, .ref (ad ou))]) hx hb dL_wear_15 hl (by decide) rfl (fun ls hl => ?_)
  refine lv_iconst (v := 1) hx hb dL_wear_17 (by decide) ?_
  exact q_hret X hr hlocks hP hS ⟨rfl, rfl⟩ (Nat.le_refl _) (Nat.le_refl _) dL_wear_18
set_option maxRecDepth 100000 in
theorem hx_wear2 (l : Launch) (D : va_G) (cB cI cJ : ClassId) (ad : Nat → Nat) (n : Nat) (M : Nat → va_E) (hI : ipI ad n) (po ou : Nat) (fs : List Value) (f : Nat → Int64) (x y z : Int32) {fr lo : Nat} (hM : cX l D cB cI cJ ad n M yX12_wear wsX12_wear fr lo [.ref (ad po), .int x, .int y, .int z] "java/lang/IllegalArgumentException") (h_po : po < n) (m_po : M po = .inr (11, fs)) : cH l D cB cI cJ ad n M yL_wear wsL_wear (fr + 1) (lo + 40) [.ref (ad po), .int x, .int y, .int z, .ref (ad ou)] (fun v M' => v = 2 ∧ M' = M) := by
  refine q_bodyH (cc := cL_wear) (maxL := 6) (ret := some .int) (by decide) rfl (Nat.le_of_ble_eq_true rfl) ?_
  intro p e s m args below meth c ls X hr hlocks hT hK hZ hP hl
  obtain ⟨hx, hb, hml, hown, hts⟩ := id X
  have hS : va_S (ipA ad n) s.heap s.heap [] := va_S.rf
  have hl : lv_has ls 6 [(0, .ref (ad po)), (1, .int x), (2, .int y), (3, .int z), (4, .ref (ad ou))] := hl
  refine lv_aload hx hb dL_wear_0 (lv_at hl 4 rfl) ?_
  refine lv_iconst (v := 0) hx hb dL_wear_2 (by decide) ?_
  refine lv_aload_n hx hb dL_wear_3 rfl (lv_at hl 0 rfl) ?_
  refine lv_iload_n hx hb dL_wear_4 rfl (lv_at hl 1 rfl) ?_
  refine lv_iload_n hx hb dL_wear_5 rfl (lv_at hl 2 rfl) ?_
  refine lv_iload_n hx hb dL_wear_6 rfl (lv_at hl 3 rfl) ?_
  refine q_catV (As := [.int x, .int y, .int z]) (rest := [.int 0, .ref (ad ou)]) hM X hK hP hl.1 rfl gL_wear_X12_wear ydx_wear ⟨by show _ ≤ _; exact Nat.le_refl _, by show 8 + (5 + 11) + lo ≤ lo + 40; omega⟩ h_po m_po (ci := 11) rfl rfl (Nat.le_of_ble_eq_true rfl) ⟨Nat.le_refl _, Nat.le_refl _⟩ dL_wear_7 (by decide) [⟨0, 12, 15, 18⟩] ⟨0, 12, 19, 13⟩ [] hT (fun z hz => by
    rcases List.mem_singleton.mp hz with rfl
    exact Or.inr ⟨by decide, "java/util/NoSuchElementException", hts _ (by decide +kernel), hZ⟩) (by decide) (by decide) (by decide +kernel) (fun H1 locs1 q hP hS => ?_)
  refine lv_astore (lv' := [(5, .ref q), (0, .ref (ad po)), (1, .int x), (2, .int y), (3, .int z), (4, .ref (ad ou))]) hx hb dL_wear_19 hl (by decide) rfl (fun ls hl => ?_)
  refine lv_iconst (v := 2) hx hb dL_wear_21 (by decide) ?_
  exact q_hret X hr hlocks hP hS ⟨rfl, rfl⟩ (Nat.le_refl _) (Nat.le_refl _) dL_wear_22
theorem ydx_carrier : YD yX12_carrier 1 := ⟨by decide +kernel, by decide +kernel, by decide +kernel⟩
theorem ydL_carrier : YD yL_carrier 3 := ⟨by decide +kernel, by decide +kernel, by decide +kernel⟩
set_option maxRecDepth 100000 in
theorem h_carrier (l : Launch) (D : va_G) (cB cI cJ : ClassId) (ad : Nat → Nat) (n : Nat) (M : Nat → va_E) (hI : ipI ad n) (po ou : Nat) (fs : List Value) (f : Nat → Int64) (x : Int32) {fr lo : Nat} {r : Int32} (hM : cR l D cB cI cJ ad n M yX12_carrier wsX12_carrier fr lo [.ref (ad po), .int x] r) (h_po : po < n) (h_ou : ou < n) (m_po : M po = .inr (11, fs)) (m_ou : M ou = .inl (cJ, 1, .inr (.inl f))) : cH l D cB cI cJ ad n M yL_carrier wsL_carrier (fr + 1) (lo + 40) [.ref (ad po), .int x, .ref (ad ou)] (fun v M' => v = 0 ∧ M' = va_up M ou (.inl (cJ, 1, .inr (.inl (vp_updL f 0 r.toInt64))))) := by
  refine q_bodyH (cc := cL_carrier) (maxL := 4) (ret := some .int) (by decide) rfl (Nat.le_of_ble_eq_true rfl) ?_
  intro p e s m args below meth c ls X hr hlocks hT hK hZ hP hl
  obtain ⟨hx, hb, hml, hown, hts⟩ := id X
  have hS : va_S (ipA ad n) s.heap s.heap [] := va_S.rf
  have hl : lv_has ls 4 [(0, .ref (ad po)), (1, .int x), (2, .ref (ad ou))] := hl
  refine lv_aload_n hx hb dL_carrier_0 rfl (lv_at hl 2 rfl) ?_
  refine lv_iconst (v := 0) hx hb dL_carrier_1 (by decide) ?_
  refine lv_aload_n hx hb dL_carrier_2 rfl (lv_at hl 0 rfl) ?_
  refine lv_iload_n hx hb dL_carrier_3 rfl (lv_at hl 1 rfl) ?_
  refine q_rdV (As := [.int x]) (rest := [.int 0, .ref (ad ou)]) hM X hK hP hS hl.1 rfl gL_carrier_X12_carrier ydx_carrier ⟨by show _ ≤ _; exact Nat.le_refl _, by show 8 + (2 + 11) + lo ≤ lo + 40; omega⟩ h_po m_po (ci := 11) rfl rfl (Nat.le_of_ble_eq_true rfl) ⟨Nat.zero_le _, Nat.zero_le _⟩ dL_carrier_4 ?_
  refine lv_i2l hx hb dL_carrier_7 rfl ?_
  refine q_lastN (f := f) (k := 1) (y := r.toInt64) X hK hI hP hS 0 h_ou m_ou (by decide) (by decide) dL_carrier_8 (fun H2 locs2 hP hS => ?_)
  refine lv_goto (tgt := 15) hx hb dL_carrier_9 (by decide) ?_
  refine lv_iconst (v := 0) hx hb dL_carrier_15 (by decide) ?_
  exact q_hret X hr hlocks hP hS ⟨rfl, rfl⟩ (by decide) (by decide) dL_carrier_16
set_option maxRecDepth 100000 in
theorem hx_carrier (l : Launch) (D : va_G) (cB cI cJ : ClassId) (ad : Nat → Nat) (n : Nat) (M : Nat → va_E) (hI : ipI ad n) (po ou : Nat) (fs : List Value) (f : Nat → Int64) (x : Int32) {fr lo : Nat} (hM : cX l D cB cI cJ ad n M yX12_carrier wsX12_carrier fr lo [.ref (ad po), .int x] "java/util/NoSuchElementException") (h_po : po < n) (m_po : M po = .inr (11, fs)) : cH l D cB cI cJ ad n M yL_carrier wsL_carrier (fr + 1) (lo + 40) [.ref (ad po), .int x, .ref (ad ou)] (fun v M' => v = 1 ∧ M' = M) := by
  refine q_bodyH (cc := cL_carrier) (maxL := 4) (ret := some .int) (by decide) rfl (Nat.le_of_ble_eq_true rfl) ?_
  intro p e s m args below meth c ls X hr hlocks hT hK hZ hP hl
  obtain ⟨hx, hb, hml, hown, hts⟩ := id X
  have hS : va_S (ipA ad n) s.heap s.heap [] := va_S.rf
  have hl : lv_has ls 4 [(0, .ref (ad po)), (1, .int x), (2, .ref (ad ou))] := hl
  refine lv_aload_n hx hb dL_carrier_0 rfl (lv_at hl 2 rfl) ?_
  refine lv_iconst (v := 0) hx hb dL_carrier_1 (by decide) ?_
  refine lv_aload_n hx hb dL_carrier_2 rfl (lv_at hl 0 rfl) ?_
  refine lv_iload_n hx hb dL_carrier_3 rfl (lv_at hl 1 rfl) ?_
  refine q_catV (As := [.int x]) (rest := [.int 0, .ref (ad ou)]) hM X hK hP hl.1 rfl gL_carrier_X12_carrier ydx_carrier ⟨by show _ ≤ _; exact Nat.le_refl _, by show 8 + (2 + 11) + lo ≤ lo + 40; omega⟩ h_po m_po (ci := 11) rfl rfl (Nat.le_of_ble_eq_true rfl) ⟨Nat.le_refl _, Nat.le_refl _⟩ dL_carrier_4 (by decide) [] ⟨0, 9, 12, 18⟩ [] hT (fun z hz => nomatch hz) (by decide) (by decide) (by decide +kernel) (fun H1 locs1 q hP hS => ?_)
  refine lv_astore_n (lv' := [(3, .ref q), (0, .ref (ad po)), (1, .int x), (2, .ref (ad ou))]) hx hb dL_carrier_12 rfl hl (by decide) rfl (fun ls hl => ?_)
  refine lv_iconst (v := 1) hx hb dL_carrier_13 (by decide) ?_
  exact q_hret X hr hlocks hP hS ⟨rfl, rfl⟩ (Nat.le_refl _) (Nat.le_refl _) dL_carrier_14
theorem ydx_look : YD yX12_look 2 := ⟨by decide +kernel, by decide +kernel, by decide +kernel⟩
theorem ydL_look : YD yL_look 4 := ⟨by decide +kernel, by decide +kernel, by decide +kernel⟩
set_option maxRecDepth 100000 in
theorem h_look (l : Launch) (D : va_G) (cB cI cJ : ClassId) (ad : Nat → Nat) (n : Nat) (M : Nat → va_E) (hI : ipI ad n) (po ou : Nat) (fs : List Value) (f : Nat → Int64) (x y : Int32) {fr lo : Nat} {post : Int32 → (Nat → va_E) → Prop} (hM : cWi l D cB cI cJ ad n M yX12_look wsX12_look fr lo [.ref (ad po), .int x, .int y] post) (hpo : ∀ (r : Int32) (M1 : Nat → va_E), post r M1 → M1 ou = .inl (cJ, 1, .inr (.inl f))) (h_po : po < n) (h_ou : ou < n) (m_po : M po = .inr (11, fs)) : cH l D cB cI cJ ad n M yL_look wsL_look (fr + 1) (lo + 40) [.ref (ad po), .int x, .int y, .ref (ad ou)] (fun v M' => v = 0 ∧ ∃ (r : Int32) (M1 : Nat → va_E), post r M1 ∧ M' = va_up M1 ou (.inl (cJ, 1, .inr (.inl (vp_updL f 0 r.toInt64))))) := by
  refine q_bodyH (cc := cL_look) (maxL := 5) (ret := some .int) (by decide) rfl (Nat.le_of_ble_eq_true rfl) ?_
  intro p e s m args below meth c ls X hr hlocks hT hK hZ hP hl
  obtain ⟨hx, hb, hml, hown, hts⟩ := id X
  have hS : va_S (ipA ad n) s.heap s.heap [] := va_S.rf
  have hl : lv_has ls 5 [(0, .ref (ad po)), (1, .int x), (2, .int y), (3, .ref (ad ou))] := hl
  refine lv_aload_n hx hb dL_look_0 rfl (lv_at hl 3 rfl) ?_
  refine lv_iconst (v := 0) hx hb dL_look_1 (by decide) ?_
  refine lv_aload_n hx hb dL_look_2 rfl (lv_at hl 0 rfl) ?_
  refine lv_iload_n hx hb dL_look_3 rfl (lv_at hl 1 rfl) ?_
  refine lv_iload_n hx hb dL_look_4 rfl (lv_at hl 2 rfl) ?_
  refine q_wrVi (As := [.int x, .int y]) (rest := [.int 0, .ref (ad ou)]) hM X hK hP hS hl.1 rfl gL_look_X12_look ydx_look ⟨by show _ ≤ _; exact Nat.le_refl _, by show 8 + (5 + 11) + lo ≤ lo + 40; omega⟩ h_po m_po (ci := 11) rfl rfl (Nat.le_of_ble_eq_true rfl) ⟨Nat.zero_le _, Nat.zero_le _⟩ dL_look_5 (fun r M1 H1 locs1 hp hP hS => ?_)
  refine lv_i2l hx hb dL_look_8 rfl ?_
  refine q_lastN (f := f) (k := 1) (y := r.toInt64) X hK hI hP hS 0 h_ou (hpo r M1 hp) (by decide) (by decide) dL_look_9 (fun H2 locs2 hP hS => ?_)
  refine lv_goto (tgt := 17) hx hb dL_look_10 (by decide) ?_
  refine lv_iconst (v := 0) hx hb dL_look_17 (by decide) ?_
  exact q_hret X hr hlocks hP hS ⟨rfl, r, M1, hp, rfl⟩ (by decide) (by decide) dL_look_18
set_option maxRecDepth 100000 in
theorem hx_look (l : Launch) (D : va_G) (cB cI cJ : ClassId) (ad : Nat → Nat) (n : Nat) (M : Nat → va_E) (hI : ipI ad n) (po ou : Nat) (fs : List Value) (f : Nat → Int64) (x y : Int32) {fr lo : Nat} (hM : cX l D cB cI cJ ad n M yX12_look wsX12_look fr lo [.ref (ad po), .int x, .int y] "java/util/NoSuchElementException") (h_po : po < n) (m_po : M po = .inr (11, fs)) : cH l D cB cI cJ ad n M yL_look wsL_look (fr + 1) (lo + 40) [.ref (ad po), .int x, .int y, .ref (ad ou)] (fun v M' => v = 1 ∧ M' = M) := by
  refine q_bodyH (cc := cL_look) (maxL := 5) (ret := some .int) (by decide) rfl (Nat.le_of_ble_eq_true rfl) ?_
  intro p e s m args below meth c ls X hr hlocks hT hK hZ hP hl
  obtain ⟨hx, hb, hml, hown, hts⟩ := id X
  have hS : va_S (ipA ad n) s.heap s.heap [] := va_S.rf
  have hl : lv_has ls 5 [(0, .ref (ad po)), (1, .int x), (2, .int y), (3, .ref (ad ou))] := hl
  refine lv_aload_n hx hb dL_look_0 rfl (lv_at hl 3 rfl) ?_
  refine lv_iconst (v := 0) hx hb dL_look_1 (by decide) ?_
  refine lv_aload_n hx hb dL_look_2 rfl (lv_at hl 0 rfl) ?_
  refine lv_iload_n hx hb dL_look_3 rfl (lv_at hl 1 rfl) ?_
  refine lv_iload_n hx hb dL_look_4 rfl (lv_at hl 2 rfl) ?_
  refine q_catV (As := [.int x, .int y]) (rest := [.int 0, .ref (ad ou)]) hM X hK hP hl.1 rfl gL_look_X12_look ydx_look ⟨by show _ ≤ _; exact Nat.le_refl _, by show 8 + (5 + 11) + lo ≤ lo + 40; omega⟩ h_po m_po (ci := 11) rfl rfl (Nat.le_of_ble_eq_true rfl) ⟨Nat.le_refl _, Nat.le_refl _⟩ dL_look_5 (by decide) [] ⟨0, 10, 13, 18⟩ [] hT (fun z hz => nomatch hz) (by decide) (by decide) (by decide +kernel) (fun H1 locs1 q hP hS => ?_)
  refine lv_astore (lv' := [(4, .ref q), (0, .ref (ad po)), (1, .int x), (2, .int y), (3, .ref (ad ou))]) hx hb dL_look_13 hl (by decide) rfl (fun ls hl => ?_)
  refine lv_iconst (v := 1) hx hb dL_look_15 (by decide) ?_
  exact q_hret X hr hlocks hP hS ⟨rfl, rfl⟩ (Nat.le_refl _) (Nat.le_refl _) dL_look_16
theorem ydx_see : YD yX12_see 2 := ⟨by decide +kernel, by decide +kernel, by decide +kernel⟩
theorem ydL_see : YD yL_see 4 := ⟨by decide +kernel, by decide +kernel, by decide +kernel⟩
set_option maxRecDepth 100000 in
theorem h_see (l : Launch) (D : va_G) (cB cI cJ : ClassId) (ad : Nat → Nat) (n : Nat) (M : Nat → va_E) (hI : ipI ad n) (po ou : Nat) (fs : List Value) (f : Nat → Int64) (x y : Int32) {fr lo : Nat} {post : Int32 → (Nat → va_E) → Prop} (hM : cWi l D cB cI cJ ad n M yX12_see wsX12_see fr lo [.ref (ad po), .int x, .int y] post) (hpo : ∀ (r : Int32) (M1 : Nat → va_E), post r M1 → M1 ou = .inl (cJ, 1, .inr (.inl f))) (h_po : po < n) (h_ou : ou < n) (m_po : M po = .inr (11, fs)) : cH l D cB cI cJ ad n M yL_see wsL_see (fr + 1) (lo + 40) [.ref (ad po), .int x, .int y, .ref (ad ou)] (fun v M' => v = 0 ∧ ∃ (r : Int32) (M1 : Nat → va_E), post r M1 ∧ M' = va_up M1 ou (.inl (cJ, 1, .inr (.inl (vp_updL f 0 r.toInt64))))) := by
  refine q_bodyH (cc := cL_see) (maxL := 5) (ret := some .int) (by decide) rfl (Nat.le_of_ble_eq_true rfl) ?_
  intro p e s m args below meth c ls X hr hlocks hT hK hZ hP hl
  obtain ⟨hx, hb, hml, hown, hts⟩ := id X
  have hS : va_S (ipA ad n) s.heap s.heap [] := va_S.rf
  have hl : lv_has ls 5 [(0, .ref (ad po)), (1, .int x), (2, .int y), (3, .ref (ad ou))] := hl
  refine lv_aload_n hx hb dL_see_0 rfl (lv_at hl 3 rfl) ?_
  refine lv_iconst (v := 0) hx hb dL_see_1 (by decide) ?_
  refine lv_aload_n hx hb dL_see_2 rfl (lv_at hl 0 rfl) ?_
  refine lv_iload_n hx hb dL_see_3 rfl (lv_at hl 1 rfl) ?_
  refine lv_iload_n hx hb dL_see_4 rfl (lv_at hl 2 rfl) ?_
  refine q_wrVi (As := [.int x, .int y]) (rest := [.int 0, .ref (ad ou)]) hM X hK hP hS hl.1 rfl gL_see_X12_see ydx_see ⟨by show _ ≤ _; exact Nat.le_refl _, by show 8 + (3 + 11) + lo ≤ lo + 40; omega⟩ h_po m_po (ci := 11) rfl rfl (Nat.le_of_ble_eq_true rfl) ⟨Nat.zero_le _, Nat.zero_le _⟩ dL_see_5 (fun r M1 H1 locs1 hp hP hS => ?_)
  refine lv_i2l hx hb dL_see_8 rfl ?_
  refine q_lastN (f := f) (k := 1) (y := r.toInt64) X hK hI hP hS 0 h_ou (hpo r M1 hp) (by decide) (by decide) dL_see_9 (fun H2 locs2 hP hS => ?_)
  refine lv_goto (tgt := 17) hx hb dL_see_10 (by decide) ?_
  refine lv_iconst (v := 0) hx hb dL_see_17 (by decide) ?_
  exact q_hret X hr hlocks hP hS ⟨rfl, r, M1, hp, rfl⟩ (by decide) (by decide) dL_see_18
set_option maxRecDepth 100000 in
theorem hx_see (l : Launch) (D : va_G) (cB cI cJ : ClassId) (ad : Nat → Nat) (n : Nat) (M : Nat → va_E) (hI : ipI ad n) (po ou : Nat) (fs : List Value) (f : Nat → Int64) (x y : Int32) {fr lo : Nat} (hM : cX l D cB cI cJ ad n M yX12_see wsX12_see fr lo [.ref (ad po), .int x, .int y] "java/util/NoSuchElementException") (h_po : po < n) (m_po : M po = .inr (11, fs)) : cH l D cB cI cJ ad n M yL_see wsL_see (fr + 1) (lo + 40) [.ref (ad po), .int x, .int y, .ref (ad ou)] (fun v M' => v = 1 ∧ M' = M) := by
  refine q_bodyH (cc := cL_see) (maxL := 5) (ret := some .int) (by decide) rfl (Nat.le_of_ble_eq_true rfl) ?_
  intro p e s m args below meth c ls X hr hlocks hT hK hZ hP hl
  obtain ⟨hx, hb, hml, hown, hts⟩ := id X
  have hS : va_S (ipA ad n) s.heap s.heap [] := va_S.rf
  have hl : lv_has ls 5 [(0, .ref (ad po)), (1, .int x), (2, .int y), (3, .ref (ad ou))] := hl
  refine lv_aload_n hx hb dL_see_0 rfl (lv_at hl 3 rfl) ?_
  refine lv_iconst (v := 0) hx hb dL_see_1 (by decide) ?_
  refine lv_aload_n hx hb dL_see_2 rfl (lv_at hl 0 rfl) ?_
  refine lv_iload_n hx hb dL_see_3 rfl (lv_at hl 1 rfl) ?_
  refine lv_iload_n hx hb dL_see_4 rfl (lv_at hl 2 rfl) ?_
  refine q_catV (As := [.int x, .int y]) (rest := [.int 0, .ref (ad ou)]) hM X hK hP hl.1 rfl gL_see_X12_see ydx_see ⟨by show _ ≤ _; exact Nat.le_refl _, by show 8 + (3 + 11) + lo ≤ lo + 40; omega⟩ h_po m_po (ci := 11) rfl rfl (Nat.le_of_ble_eq_true rfl) ⟨Nat.le_refl _, Nat.le_refl _⟩ dL_see_5 (by decide) [] ⟨0, 10, 13, 18⟩ [] hT (fun z hz => nomatch hz) (by decide) (by decide) (by decide +kernel) (fun H1 locs1 q hP hS => ?_)
  refine lv_astore (lv' := [(4, .ref q), (0, .ref (ad po)), (1, .int x), (2, .int y), (3, .ref (ad ou))]) hx hb dL_see_13 hl (by decide) rfl (fun ls hl => ?_)
  refine lv_iconst (v := 1) hx hb dL_see_15 (by decide) ?_
  exact q_hret X hr hlocks hP hS ⟨rfl, rfl⟩ (Nat.le_refl _) (Nat.le_refl _) dL_see_16
theorem ydx_fits : YD yX12_fits 1 := ⟨by decide +kernel, by decide +kernel, by decide +kernel⟩
theorem ydL_fits : YD yL_fits 3 := ⟨by decide +kernel, by decide +kernel, by decide +kernel⟩
set_option maxRecDepth 100000 in
theorem h_fits (l : Launch) (D : va_G) (cB cI cJ : ClassId) (ad : Nat → Nat) (n : Nat) (M : Nat → va_E) (hI : ipI ad n) (po ou : Nat) (fs : List Value) (f : Nat → Int64) (x : Int32) {fr lo : Nat} {post : Int32 → (Nat → va_E) → Prop} (hM : cWi l D cB cI cJ ad n M yX12_fits wsX12_fits fr lo [.ref (ad po), .int x] post) (hpo : ∀ (r : Int32) (M1 : Nat → va_E), post r M1 → M1 ou = .inl (cJ, 1, .inr (.inl f))) (h_po : po < n) (h_ou : ou < n) (m_po : M po = .inr (11, fs)) : cH l D cB cI cJ ad n M yL_fits wsL_fits (fr + 1) (lo + 40) [.ref (ad po), .int x, .ref (ad ou)] (fun v M' => v = 0 ∧ ∃ (r : Int32) (M1 : Nat → va_E), post r M1 ∧ M' = va_up M1 ou (.inl (cJ, 1, .inr (.inl (vp_updL f 0 r.toInt64))))) := by
  refine q_bodyH (cc := cL_fits) (maxL := 4) (ret := some .int) (by decide) rfl (Nat.le_of_ble_eq_true rfl) ?_
  intro p e s m args below meth c ls X hr hlocks hT hK hZ hP hl
  obtain ⟨hx, hb, hml, hown, hts⟩ := id X
  have hS : va_S (ipA ad n) s.heap s.heap [] := va_S.rf
  have hl : lv_has ls 4 [(0, .ref (ad po)), (1, .int x), (2, .ref (ad ou))] := hl
  refine lv_aload_n hx hb dL_fits_0 rfl (lv_at hl 2 rfl) ?_
  refine lv_iconst (v := 0) hx hb dL_fits_1 (by decide) ?_
  refine lv_aload_n hx hb dL_fits_2 rfl (lv_at hl 0 rfl) ?_
  refine lv_iload_n hx hb dL_fits_3 rfl (lv_at hl 1 rfl) ?_
  refine q_wrVi (As := [.int x]) (rest := [.int 0, .ref (ad ou)]) hM X hK hP hS hl.1 rfl gL_fits_X12_fits ydx_fits ⟨by show _ ≤ _; exact Nat.le_refl _, by show 8 + (2 + 11) + lo ≤ lo + 40; omega⟩ h_po m_po (ci := 11) rfl rfl (Nat.le_of_ble_eq_true rfl) ⟨Nat.zero_le _, Nat.zero_le _⟩ dL_fits_4 (fun r M1 H1 locs1 hp hP hS => ?_)
  refine lv_i2l hx hb dL_fits_7 rfl ?_
  refine q_lastN (f := f) (k := 1) (y := r.toInt64) X hK hI hP hS 0 h_ou (hpo r M1 hp) (by decide) (by decide) dL_fits_8 (fun H2 locs2 hP hS => ?_)
  refine lv_goto (tgt := 15) hx hb dL_fits_9 (by decide) ?_
  refine lv_iconst (v := 0) hx hb dL_fits_15 (by decide) ?_
  exact q_hret X hr hlocks hP hS ⟨rfl, r, M1, hp, rfl⟩ (by decide) (by decide) dL_fits_16
set_option maxRecDepth 100000 in
theorem hx_fits (l : Launch) (D : va_G) (cB cI cJ : ClassId) (ad : Nat → Nat) (n : Nat) (M : Nat → va_E) (hI : ipI ad n) (po ou : Nat) (fs : List Value) (f : Nat → Int64) (x : Int32) {fr lo : Nat} (hM : cX l D cB cI cJ ad n M yX12_fits wsX12_fits fr lo [.ref (ad po), .int x] "java/util/NoSuchElementException") (h_po : po < n) (m_po : M po = .inr (11, fs)) : cH l D cB cI cJ ad n M yL_fits wsL_fits (fr + 1) (lo + 40) [.ref (ad po), .int x, .ref (ad ou)] (fun v M' => v = 1 ∧ M' = M) := by
  refine q_bodyH (cc := cL_fits) (maxL := 4) (ret := some .int) (by decide) rfl (Nat.le_of_ble_eq_true rfl) ?_
  intro p e s m args below meth c ls X hr hlocks hT hK hZ hP hl
  obtain ⟨hx, hb, hml, hown, hts⟩ := id X
  have hS : va_S (ipA ad n) s.heap s.heap [] := va_S.rf
  have hl : lv_has ls 4 [(0, .ref (ad po)), (1, .int x), (2, .ref (ad ou))] := hl
  refine lv_aload_n hx hb dL_fits_0 rfl (lv_at hl 2 rfl) ?_
  refine lv_iconst (v := 0) hx hb dL_fits_1 (by decide) ?_
  refine lv_aload_n hx hb dL_fits_2 rfl (lv_at hl 0 rfl) ?_
  refine lv_iload_n hx hb dL_fits_3 rfl (lv_at hl 1 rfl) ?_
  refine q_catV (As := [.int x]) (rest := [.int 0, .ref (ad ou)]) hM X hK hP hl.1 rfl gL_fits_X12_fits ydx_fits ⟨by show _ ≤ _; exact Nat.le_refl _, by show 8 + (2 + 11) + lo ≤ lo + 40; omega⟩ h_po m_po (ci := 11) rfl rfl (Nat.le_of_ble_eq_true rfl) ⟨Nat.le_refl _, Nat.le_refl _⟩ dL_fits_4 (by decide) [] ⟨0, 9, 12, 18⟩ [] hT (fun z hz => nomatch hz) (by decide) (by decide) (by decide +kernel) (fun H1 locs1 q hP hS => ?_)
  refine lv_astore_n (lv' := [(3, .ref q), (0, .ref (ad po)), (1, .int x), (2, .ref (ad ou))]) hx hb dL_fits_12 rfl hl (by decide) rfl (fun ls hl => ?_)
  refine lv_iconst (v := 1) hx hb dL_fits_13 (by decide) ?_
  exact q_hret X hr hlocks hP hS ⟨rfl, rfl⟩ (Nat.le_refl _) (Nat.le_refl _) dL_fits_14
theorem ydx_best : YD yX12_best 1 := ⟨by decide +kernel, by decide +kernel, by decide +kernel⟩
theorem ydL_best : YD yL_best 3 := ⟨by decide +kernel, by decide +kernel, by decide +kernel⟩
set_option maxRecDepth 100000 in
theorem h_best (l : Launch) (D : va_G) (cB cI cJ : ClassId) (ad : Nat → Nat) (n : Nat) (M : Nat → va_E) (hI : ipI ad n) (po ou : Nat) (fs : List Value) (f : Nat → Int64) (x : Int32) {fr lo : Nat} {post : Int32 → (Nat → va_E) → Prop} (hM : cWi l D cB cI cJ ad n M yX12_best wsX12_best fr lo [.ref (ad po), .int x] post) (hpo : ∀ (r : Int32) (M1 : Nat → va_E), post r M1 → M1 ou = .inl (cJ, 1, .inr (.inl f))) (h_po : po < n) (h_ou : ou < n) (m_po : M po = .inr (11, fs)) : cH l D cB cI cJ ad n M yL_best wsL_best (fr + 1) (lo + 40) [.ref (ad po), .int x, .ref (ad ou)] (fun v M' => v = 0 ∧ ∃ (r : Int32) (M1 : Nat → va_E), post r M1 ∧ M' = va_up M1 ou (.inl (cJ, 1, .inr (.inl (vp_updL f 0 r.toInt64))))) := by
  refine q_bodyH (cc := cL_best) (maxL := 4) (ret := some .int) (by decide) rfl (Nat.le_of_ble_eq_true rfl) ?_
  intro p e s m args below meth c ls X hr hlocks hT hK hZ hP hl
  obtain ⟨hx, hb, hml, hown, hts⟩ := id X
  have hS : va_S (ipA ad n) s.heap s.heap [] := va_S.rf
  have hl : lv_has ls 4 [(0, .ref (ad po)), (1, .int x), (2, .ref (ad ou))] := hl
  refine lv_aload_n hx hb dL_best_0 rfl (lv_at hl 2 rfl) ?_
  refine lv_iconst (v := 0) hx hb dL_best_1 (by decide) ?_
  refine lv_aload_n hx hb dL_best_2 rfl (lv_at hl 0 rfl) ?_
  refine lv_iload_n hx hb dL_best_3 rfl (lv_at hl 1 rfl) ?_
  refine q_wrVi (As := [.int x]) (rest := [.int 0, .ref (ad ou)]) hM X hK hP hS hl.1 rfl gL_best_X12_best ydx_best ⟨by show _ ≤ _; exact Nat.le_refl _, by show 8 + (2 + 11) + lo ≤ lo + 40; omega⟩ h_po m_po (ci := 11) rfl rfl (Nat.le_of_ble_eq_true rfl) ⟨Nat.zero_le _, Nat.zero_le _⟩ dL_best_4 (fun r M1 H1 locs1 hp hP hS => ?_)
  refine lv_i2l hx hb dL_best_7 rfl ?_
  refine q_lastN (f := f) (k := 1) (y := r.toInt64) X hK hI hP hS 0 h_ou (hpo r M1 hp) (by decide) (by decide) dL_best_8 (fun H2 locs2 hP hS => ?_)
  refine lv_goto (tgt := 15) hx hb dL_best_9 (by decide) ?_
  refine lv_iconst (v := 0) hx hb dL_best_15 (by decide) ?_
  exact q_hret X hr hlocks hP hS ⟨rfl, r, M1, hp, rfl⟩ (by decide) (by decide) dL_best_16
set_option maxRecDepth 100000 in
theorem hx_best (l : Launch) (D : va_G) (cB cI cJ : ClassId) (ad : Nat → Nat) (n : Nat) (M : Nat → va_E) (hI : ipI ad n) (po ou : Nat) (fs : List Value) (f : Nat → Int64) (x : Int32) {fr lo : Nat} (hM : cX l D cB cI cJ ad n M yX12_best wsX12_best fr lo [.ref (ad po), .int x] "java/util/NoSuchElementException") (h_po : po < n) (m_po : M po = .inr (11, fs)) : cH l D cB cI cJ ad n M yL_best wsL_best (fr + 1) (lo + 40) [.ref (ad po), .int x, .ref (ad ou)] (fun v M' => v = 1 ∧ M' = M) := by
  refine q_bodyH (cc := cL_best) (maxL := 4) (ret := some .int) (by decide) rfl (Nat.le_of_ble_eq_true rfl) ?_
  intro p e s m args below meth c ls X hr hlocks hT hK hZ hP hl
  obtain ⟨hx, hb, hml, hown, hts⟩ := id X
  have hS : va_S (ipA ad n) s.heap s.heap [] := va_S.rf
  have hl : lv_has ls 4 [(0, .ref (ad po)), (1, .int x), (2, .ref (ad ou))] := hl
  refine lv_aload_n hx hb dL_best_0 rfl (lv_at hl 2 rfl) ?_
  refine lv_iconst (v := 0) hx hb dL_best_1 (by decide) ?_
  refine lv_aload_n hx hb dL_best_2 rfl (lv_at hl 0 rfl) ?_
  refine lv_iload_n hx hb dL_best_3 rfl (lv_at hl 1 rfl) ?_
  refine q_catV (As := [.int x]) (rest := [.int 0, .ref (ad ou)]) hM X hK hP hl.1 rfl gL_best_X12_best ydx_best ⟨by show _ ≤ _; exact Nat.le_refl _, by show 8 + (2 + 11) + lo ≤ lo + 40; omega⟩ h_po m_po (ci := 11) rfl rfl (Nat.le_of_ble_eq_true rfl) ⟨Nat.le_refl _, Nat.le_refl _⟩ dL_best_4 (by decide) [] ⟨0, 9, 12, 18⟩ [] hT (fun z hz => nomatch hz) (by decide) (by decide) (by decide +kernel) (fun H1 locs1 q hP hS => ?_)
  refine lv_astore_n (lv' := [(3, .ref q), (0, .ref (ad po)), (1, .int x), (2, .ref (ad ou))]) hx hb dL_best_12 rfl hl (by decide) rfl (fun ls hl => ?_)
  refine lv_iconst (v := 1) hx hb dL_best_13 (by decide) ?_
  exact q_hret X hr hlocks hP hS ⟨rfl, rfl⟩ (Nat.le_refl _) (Nat.le_refl _) dL_best_14
theorem ydx_counter : YD yX12_counter 3 := ⟨by decide +kernel, by decide +kernel, by decide +kernel⟩
theorem ydL_counter : YD yL_counter 5 := ⟨by decide +kernel, by decide +kernel, by decide +kernel⟩
set_option maxRecDepth 100000 in
theorem h_counter (l : Launch) (D : va_G) (cB cI cJ : ClassId) (ad : Nat → Nat) (n : Nat) (M : Nat → va_E) (hI : ipI ad n) (po ou : Nat) (fs : List Value) (f : Nat → Int64) (x y z : Int32) {fr lo : Nat} {post : Int32 → (Nat → va_E) → Prop} (hM : cWi l D cB cI cJ ad n M yX12_counter wsX12_counter fr lo [.ref (ad po), .int x, .int y, .int z] post) (hpo : ∀ (r : Int32) (M1 : Nat → va_E), post r M1 → M1 ou = .inl (cJ, 1, .inr (.inl f))) (h_po : po < n) (h_ou : ou < n) (m_po : M po = .inr (11, fs)) : cH l D cB cI cJ ad n M yL_counter wsL_counter (fr + 1) (lo + 40) [.ref (ad po), .int x, .int y, .int z, .ref (ad ou)] (fun v M' => v = 0 ∧ ∃ (r : Int32) (M1 : Nat → va_E), post r M1 ∧ M' = va_up M1 ou (.inl (cJ, 1, .inr (.inl (vp_updL f 0 r.toInt64))))) := by
  refine q_bodyH (cc := cL_counter) (maxL := 6) (ret := some .int) (by decide) rfl (Nat.le_of_ble_eq_true rfl) ?_
  intro p e s m args below meth c ls X hr hlocks hT hK hZ hP hl
  obtain ⟨hx, hb, hml, hown, hts⟩ := id X
  have hS : va_S (ipA ad n) s.heap s.heap [] := va_S.rf
  have hl : lv_has ls 6 [(0, .ref (ad po)), (1, .int x), (2, .int y), (3, .int z), (4, .ref (ad ou))] := hl
  refine lv_aload hx hb dL_counter_0 (lv_at hl 4 rfl) ?_
  refine lv_iconst (v := 0) hx hb dL_counter_2 (by decide) ?_
  refine lv_aload_n hx hb dL_counter_3 rfl (lv_at hl 0 rfl) ?_
  refine lv_iload_n hx hb dL_counter_4 rfl (lv_at hl 1 rfl) ?_
  refine lv_iload_n hx hb dL_counter_5 rfl (lv_at hl 2 rfl) ?_
  refine lv_iload_n hx hb dL_counter_6 rfl (lv_at hl 3 rfl) ?_
  refine q_wrVi (As := [.int x, .int y, .int z]) (rest := [.int 0, .ref (ad ou)]) hM X hK hP hS hl.1 rfl gL_counter_X12_counter ydx_counter ⟨by show _ ≤ _; exact Nat.le_refl _, by show 8 + (4 + 11) + lo ≤ lo + 40; omega⟩ h_po m_po (ci := 11) rfl rfl (Nat.le_of_ble_eq_true rfl) ⟨Nat.zero_le _, Nat.zero_le _⟩ dL_counter_7 (fun r M1 H1 locs1 hp hP hS => ?_)
  refine lv_i2l hx hb dL_counter_10 rfl ?_
  refine q_lastN (f := f) (k := 1) (y := r.toInt64) X hK hI hP hS 0 h_ou (hpo r M1 hp) (by decide) (by decide) dL_counter_11 (fun H2 locs2 hP hS => ?_)
  refine lv_goto (tgt := 23) hx hb dL_counter_12 (by decide) ?_
  refine lv_iconst (v := 0) hx hb dL_counter_23 (by decide) ?_
  exact q_hret X hr hlocks hP hS ⟨rfl, r, M1, hp, rfl⟩ (by decide) (by decide) dL_counter_24
set_option maxRecDepth 100000 in
theorem hx_counter (l : Launch) (D : va_G) (cB cI cJ : ClassId) (ad : Nat → Nat) (n : Nat) (M : Nat → va_E) (hI : ipI ad n) (po ou : Nat) (fs : List Value) (f : Nat → Int64) (x y z : Int32) {fr lo : Nat} (hM : cX l D cB cI cJ ad n M yX12_counter wsX12_counter fr lo [.ref (ad po), .int x, .int y, .int z] "java/util/NoSuchElementException") (h_po : po < n) (m_po : M po = .inr (11, fs)) : cH l D cB cI cJ ad n M yL_counter wsL_counter (fr + 1) (lo + 40) [.ref (ad po), .int x, .int y, .int z, .ref (ad ou)] (fun v M' => v = 1 ∧ M' = M) := by
  refine q_bodyH (cc := cL_counter) (maxL := 6) (ret := some .int) (by decide) rfl (Nat.le_of_ble_eq_true rfl) ?_
  intro p e s m args below meth c ls X hr hlocks hT hK hZ hP hl
  obtain ⟨hx, hb, hml, hown, hts⟩ := id X
  have hS : va_S (ipA ad n) s.heap s.heap [] := va_S.rf
  have hl : lv_has ls 6 [(0, .ref (ad po)), (1, .int x), (2, .int y), (3, .int z), (4, .ref (ad ou))] := hl
  refine lv_aload hx hb dL_counter_0 (lv_at hl 4 rfl) ?_
  refine lv_iconst (v := 0) hx hb dL_counter_2 (by decide) ?_
  refine lv_aload_n hx hb dL_counter_3 rfl (lv_at hl 0 rfl) ?_
  refine lv_iload_n hx hb dL_counter_4 rfl (lv_at hl 1 rfl) ?_
  refine lv_iload_n hx hb dL_counter_5 rfl (lv_at hl 2 rfl) ?_
  refine lv_iload_n hx hb dL_counter_6 rfl (lv_at hl 3 rfl) ?_
  refine q_catV (As := [.int x, .int y, .int z]) (rest := [.int 0, .ref (ad ou)]) hM X hK hP hl.1 rfl gL_counter_X12_counter ydx_counter ⟨by show _ ≤ _; exact Nat.le_refl _, by show 8 + (4 + 11) + lo ≤ lo + 40; omega⟩ h_po m_po (ci := 11) rfl rfl (Nat.le_of_ble_eq_true rfl) ⟨Nat.le_refl _, Nat.le_refl _⟩ dL_counter_7 (by decide) [] ⟨0, 12, 15, 18⟩ [⟨0, 12, 19, 13⟩] hT (fun z hz => nomatch hz) (by decide) (by decide) (by decide +kernel) (fun H1 locs1 q hP hS => ?_)
  refine lv_astore (lv' := [(5, .ref q), (0, .ref (ad po)), (1, .int x), (2, .int y), (3, .int z), (4, .ref (ad ou))]) hx hb dL_counter_15 hl (by decide) rfl (fun ls hl => ?_)
  refine lv_iconst (v := 1) hx hb dL_counter_17 (by decide) ?_
  exact q_hret X hr hlocks hP hS ⟨rfl, rfl⟩ (Nat.le_refl _) (Nat.le_refl _) dL_counter_18
set_option maxRecDepth 100000 in
theorem hx_counter2 (l : Launch) (D : va_G) (cB cI cJ : ClassId) (ad : Nat → Nat) (n : Nat) (M : Nat → va_E) (hI : ipI ad n) (po ou : Nat) (fs : List Value) (f : Nat → Int64) (x y z : Int32) {fr lo : Nat} (hM : cX l D cB cI cJ ad n M yX12_counter wsX12_counter fr lo [.ref (ad po), .int x, .int y, .int z] "java/lang/IllegalArgumentException") (h_po : po < n) (m_po : M po = .inr (11, fs)) : cH l D cB cI cJ ad n M yL_counter wsL_counter (fr + 1) (lo + 40) [.ref (ad po), .int x, .int y, .int z, .ref (ad ou)] (fun v M' => v = 2 ∧ M' = M) := by
  refine q_bodyH (cc := cL_counter) (maxL := 6) (ret := some .int) (by decide) rfl (Nat.le_of_ble_eq_true rfl) ?_
  intro p e s m args below meth c ls X hr hlocks hT hK hZ hP hl
  obtain ⟨hx, hb, hml, hown, hts⟩ := id X
  have hS : va_S (ipA ad n) s.heap s.heap [] := va_S.rf
  have hl : lv_has ls 6 [(0, .ref (ad po)), (1, .int x), (2, .int y), (3, .int z), (4, .ref (ad ou))] := hl
  refine lv_aload hx hb dL_counter_0 (lv_at hl 4 rfl) ?_
  refine lv_iconst (v := 0) hx hb dL_counter_2 (by decide) ?_
  refine lv_aload_n hx hb dL_counter_3 rfl (lv_at hl 0 rfl) ?_
  refine lv_iload_n hx hb dL_counter_4 rfl (lv_at hl 1 rfl) ?_
  refine lv_iload_n hx hb dL_counter_5 rfl (lv_at hl 2 rfl) ?_
  refine lv_iload_n hx hb dL_counter_6 rfl (lv_at hl 3 rfl) ?_
  refine q_catV (As := [.int x, .int y, .int z]) (rest := [.int 0, .ref (ad ou)]) hM X hK hP hl.1 rfl gL_counter_X12_counter ydx_counter ⟨by show _ ≤ _; exact Nat.le_refl _, by show 8 + (4 + 11) + lo ≤ lo + 40; omega⟩ h_po m_po (ci := 11) rfl rfl (Nat.le_of_ble_eq_true rfl) ⟨Nat.le_refl _, Nat.le_refl _⟩ dL_counter_7 (by decide) [⟨0, 12, 15, 18⟩] ⟨0, 12, 19, 13⟩ [] hT (fun z hz => by
    rcases List.mem_singleton.mp hz with rfl
    exact Or.inr ⟨by decide, "java/util/NoSuchElementException", hts _ (by decide +kernel), hZ⟩) (by decide) (by decide) (by decide +kernel) (fun H1 locs1 q hP hS => ?_)
  refine lv_astore (lv' := [(5, .ref q), (0, .ref (ad po)), (1, .int x), (2, .int y), (3, .int z), (4, .ref (ad ou))]) hx hb dL_counter_19 hl (by decide) rfl (fun ls hl => ?_)
  refine lv_iconst (v := 2) hx hb dL_counter_21 (by decide) ?_
  exact q_hret X hr hlocks hP hS ⟨rfl, rfl⟩ (Nat.le_refl _) (Nat.le_refl _) dL_counter_22
end
