/-! PoundsOver: who throws what -/
set_option maxHeartbeats 4000000 in
set_option maxRecDepth 100000 in
theorem x_X12_needPerson (l : Launch) (D : va_G) (cB cI cJ : ClassId) (ad : Nat → Nat) (n : Nat) (M : Nat → va_E) (hlt : l.stackTraces = false) (po ta h h2 re g o g2 o2 kb an sc tr : Nat) (ik fp : Int32) (hv : Nat → Int32) (x : Int32) (h_po : po < n) (h_h : h < n) (m_po : M po = .inr (11, poF ad po ta h h2 re g o g2 o2 ik fp kb an sc tr)) (m_h : M h = .inr (0, hallF ad h hv)) (gbx : x < 0 ∨ (hv 5) ≤ x) : cX l D cB cI cJ ad n M yX12_needPerson wsX12_needPerson 6 89 [.ref (ad po), .int x] "java/util/NoSuchElementException" := by
  refine q_bodyX (cc := cX12_needPerson) (maxL := 2) (ret := none) (by decide) rfl (Nat.le_of_ble_eq_true rfl) ?_
  intro p e s m args below meth c ls X hlocks ht hK hP hl
  obtain ⟨hx, hb, hml, hown, hts⟩ := id X
  have hS : va_S (ipA ad n) s.heap s.heap [] := va_S.rf
  have hl : lv_has ls 2 [(0, .ref (ad po)), (1, .int x)] := hl
  refine lv_iload_n hx hb dX12_needPerson_0 rfl (lv_at hl 1 rfl) ?_
  refine lv_if_lt (tgt := 15) hx hb dX12_needPerson_1 (by decide) (fun c_1 => ?_) (fun c_1 => ?_)
  · skip
    exact q_throwX (ik := 159) (ic := 161) (rest := []) X hl.1 hlt hlocks ht hK (by decide +kernel) (by decide) (by decide +kernel) (by decide +kernel) (by decide +kernel) (by decide +kernel) (by decide +kernel) dX12_needPerson_15 dX12_needPerson_18 dX12_needPerson_19 dX12_needPerson_22 (Nat.le_of_ble_eq_true rfl) (Nat.le_of_ble_eq_true rfl) (Nat.le_of_ble_eq_true rfl) (Nat.le_of_ble_eq_true rfl) (Nat.le_of_ble_eq_true rfl)
  · skip
    refine lv_iload_n hx hb dX12_needPerson_4 rfl (lv_at hl 1 rfl) ?_
    refine lv_aload_n hx hb dX12_needPerson_5 rfl (lv_at hl 0 rfl) ?_
    refine q_get (v := .ref (ad h)) (fs := poF ad po ta h h2 re g o g2 o2 ik fp kb an sc tr) X hK hP fX12_needPerson_19 h_po m_po rfl dX12_needPerson_6 ?_
    refine q_get (v := .int (hv 5)) (fs := hallF ad h hv) X hK hP fX12_needPerson_122 h_h m_h rfl dX12_needPerson_9 ?_
    refine lv_icmp_lt (tgt := 23) hx hb dX12_needPerson_12 (by decide) (fun c_12 => ?_) (fun c_12 => ?_)
    · exact gbx.elim (fun q => absurd q c_1) (fun q => absurd c_12 (Int32.not_lt.mpr q))
    · skip
      exact q_throwX (ik := 159) (ic := 161) (rest := []) X hl.1 hlt hlocks ht hK (by decide +kernel) (by decide) (by decide +kernel) (by decide +kernel) (by decide +kernel) (by decide +kernel) (by decide +kernel) dX12_needPerson_15 dX12_needPerson_18 dX12_needPerson_19 dX12_needPerson_22 (Nat.le_of_ble_eq_true rfl) (Nat.le_of_ble_eq_true rfl) (Nat.le_of_ble_eq_true rfl) (Nat.le_of_ble_eq_true rfl) (Nat.le_of_ble_eq_true rfl)
set_option maxHeartbeats 4000000 in
set_option maxRecDepth 100000 in
theorem x_X12_needCase (l : Launch) (D : va_G) (cB cI cJ : ClassId) (ad : Nat → Nat) (n : Nat) (M : Nat → va_E) (hlt : l.stackTraces = false) (po ta h h2 re g o g2 o2 kb an sc tr : Nat) (ik fp : Int32) (hv : Nat → Int32) (x : Int32) (h_po : po < n) (h_h : h < n) (m_po : M po = .inr (11, poF ad po ta h h2 re g o g2 o2 ik fp kb an sc tr)) (m_h : M h = .inr (0, hallF ad h hv)) (gbx : x < 0 ∨ (hv 6) ≤ x) : cX l D cB cI cJ ad n M yX12_needCase wsX12_needCase 6 89 [.ref (ad po), .int x] "java/util/NoSuchElementException" := by
  refine q_bodyX (cc := cX12_needCase) (maxL := 2) (ret := none) (by decide) rfl (Nat.le_of_ble_eq_true rfl) ?_
  intro p e s m args below meth c ls X hlocks ht hK hP hl
  obtain ⟨hx, hb, hml, hown, hts⟩ := id X
  have hS : va_S (ipA ad n) s.heap s.heap [] := va_S.rf
  have hl : lv_has ls 2 [(0, .ref (ad po)), (1, .int x)] := hl
  refine lv_iload_n hx hb dX12_needCase_0 rfl (lv_at hl 1 rfl) ?_
  refine lv_if_lt (tgt := 15) hx hb dX12_needCase_1 (by decide) (fun c_1 => ?_) (fun c_1 => ?_)
  · skip
    exact q_throwX (ik := 159) (ic := 161) (rest := []) X hl.1 hlt hlocks ht hK (by decide +kernel) (by decide) (by decide +kernel) (by decide +kernel) (by decide +kernel) (by decide +kernel) (by decide +kernel) dX12_needCase_15 dX12_needCase_18 dX12_needCase_19 dX12_needCase_22 (Nat.le_of_ble_eq_true rfl) (Nat.le_of_ble_eq_true rfl) (Nat.le_of_ble_eq_true rfl) (Nat.le_of_ble_eq_true rfl) (Nat.le_of_ble_eq_true rfl)
  · skip
    refine lv_iload_n hx hb dX12_needCase_4 rfl (lv_at hl 1 rfl) ?_
    refine lv_aload_n hx hb dX12_needCase_5 rfl (lv_at hl 0 rfl) ?_
    refine q_get (v := .ref (ad h)) (fs := poF ad po ta h h2 re g o g2 o2 ik fp kb an sc tr) X hK hP fX12_needCase_19 h_po m_po rfl dX12_needCase_6 ?_
    refine q_get (v := .int (hv 6)) (fs := hallF ad h hv) X hK hP fX12_needCase_125 h_h m_h rfl dX12_needCase_9 ?_
    refine lv_icmp_lt (tgt := 23) hx hb dX12_needCase_12 (by decide) (fun c_12 => ?_) (fun c_12 => ?_)
    · exact gbx.elim (fun q => absurd q c_1) (fun q => absurd c_12 (Int32.not_lt.mpr q))
    · skip
      exact q_throwX (ik := 159) (ic := 161) (rest := []) X hl.1 hlt hlocks ht hK (by decide +kernel) (by decide) (by decide +kernel) (by decide +kernel) (by decide +kernel) (by decide +kernel) (by decide +kernel) dX12_needCase_15 dX12_needCase_18 dX12_needCase_19 dX12_needCase_22 (Nat.le_of_ble_eq_true rfl) (Nat.le_of_ble_eq_true rfl) (Nat.le_of_ble_eq_true rfl) (Nat.le_of_ble_eq_true rfl) (Nat.le_of_ble_eq_true rfl)
set_option maxHeartbeats 4000000 in
set_option maxRecDepth 100000 in
theorem x_X12_needThing (l : Launch) (D : va_G) (cB cI cJ : ClassId) (ad : Nat → Nat) (n : Nat) (M : Nat → va_E) (hlt : l.stackTraces = false) (po ta h h2 re g o g2 o2 kb an sc tr : Nat) (ik fp : Int32) (hv : Nat → Int32) (x : Int32) (h_po : po < n) (h_h : h < n) (m_po : M po = .inr (11, poF ad po ta h h2 re g o g2 o2 ik fp kb an sc tr)) (m_h : M h = .inr (0, hallF ad h hv)) (gbx : x < 0 ∨ (hv 7) ≤ x) : cX l D cB cI cJ ad n M yX12_needThing wsX12_needThing 6 89 [.ref (ad po), .int x] "java/util/NoSuchElementException" := by
  refine q_bodyX (cc := cX12_needThing) (maxL := 2) (ret := none) (by decide) rfl (Nat.le_of_ble_eq_true rfl) ?_
  intro p e s m args below meth c ls X hlocks ht hK hP hl
  obtain ⟨hx, hb, hml, hown, hts⟩ := id X
  have hS : va_S (ipA ad n) s.heap s.heap [] := va_S.rf
  have hl : lv_has ls 2 [(0, .ref (ad po)), (1, .int x)] := hl
  refine lv_iload_n hx hb dX12_needThing_0 rfl (lv_at hl 1 rfl) ?_
  refine lv_if_lt (tgt := 15) hx hb dX12_needThing_1 (by decide) (fun c_1 => ?_) (fun c_1 => ?_)
  · skip
    exact q_throwX (ik := 159) (ic := 161) (rest := []) X hl.1 hlt hlocks ht hK (by decide +kernel) (by decide) (by decide +kernel) (by decide +kernel) (by decide +kernel) (by decide +kernel) (by decide +kernel) dX12_needThing_15 dX12_needThing_18 dX12_needThing_19 dX12_needThing_22 (Nat.le_of_ble_eq_true rfl) (Nat.le_of_ble_eq_true rfl) (Nat.le_of_ble_eq_true rfl) (Nat.le_of_ble_eq_true rfl) (Nat.le_of_ble_eq_true rfl)
  · skip
    refine lv_iload_n hx hb dX12_needThing_4 rfl (lv_at hl 1 rfl) ?_
    refine lv_aload_n hx hb dX12_needThing_5 rfl (lv_at hl 0 rfl) ?_
    refine q_get (v := .ref (ad h)) (fs := poF ad po ta h h2 re g o g2 o2 ik fp kb an sc tr) X hK hP fX12_needThing_19 h_po m_po rfl dX12_needThing_6 ?_
    refine q_get (v := .int (hv 7)) (fs := hallF ad h hv) X hK hP fX12_needThing_128 h_h m_h rfl dX12_needThing_9 ?_
    refine lv_icmp_lt (tgt := 23) hx hb dX12_needThing_12 (by decide) (fun c_12 => ?_) (fun c_12 => ?_)
    · exact gbx.elim (fun q => absurd q c_1) (fun q => absurd c_12 (Int32.not_lt.mpr q))
    · skip
      exact q_throwX (ik := 159) (ic := 161) (rest := []) X hl.1 hlt hlocks ht hK (by decide +kernel) (by decide) (by decide +kernel) (by decide +kernel) (by decide +kernel) (by decide +kernel) (by decide +kernel) dX12_needThing_15 dX12_needThing_18 dX12_needThing_19 dX12_needThing_22 (Nat.le_of_ble_eq_true rfl) (Nat.le_of_ble_eq_true rfl) (Nat.le_of_ble_eq_true rfl) (Nat.le_of_ble_eq_true rfl) (Nat.le_of_ble_eq_true rfl)
set_option maxHeartbeats 4000000 in
set_option maxRecDepth 100000 in
theorem x_X12_needWhat (l : Launch) (D : va_G) (cB cI cJ : ClassId) (ad : Nat → Nat) (n : Nat) (M : Nat → va_E) (hlt : l.stackTraces = false) (x y : Int32)   (gbw : x < 0 ∨ y ≤ x) : cX l D cB cI cJ ad n M yX12_needWhat wsX12_needWhat 6 89 [.int x, .int y] "java/util/NoSuchElementException" := by
  refine q_bodyX (cc := cX12_needWhat) (maxL := 2) (ret := none) (by decide) rfl (Nat.le_of_ble_eq_true rfl) ?_
  intro p e s m args below meth c ls X hlocks ht hK hP hl
  obtain ⟨hx, hb, hml, hown, hts⟩ := id X
  have hS : va_S (ipA ad n) s.heap s.heap [] := va_S.rf
  have hl : lv_has ls 2 [(0, .int x), (1, .int y)] := hl
  refine lv_iload_n hx hb dX12_needWhat_0 rfl (lv_at hl 0 rfl) ?_
  refine lv_if_lt (tgt := 9) hx hb dX12_needWhat_1 (by decide) (fun c_1 => ?_) (fun c_1 => ?_)
  · skip
    exact q_throwX (ik := 159) (ic := 161) (rest := []) X hl.1 hlt hlocks ht hK (by decide +kernel) (by decide) (by decide +kernel) (by decide +kernel) (by decide +kernel) (by decide +kernel) (by decide +kernel) dX12_needWhat_9 dX12_needWhat_12 dX12_needWhat_13 dX12_needWhat_16 (Nat.le_of_ble_eq_true rfl) (Nat.le_of_ble_eq_true rfl) (Nat.le_of_ble_eq_true rfl) (Nat.le_of_ble_eq_true rfl) (Nat.le_of_ble_eq_true rfl)
  · skip
    refine lv_iload_n hx hb dX12_needWhat_4 rfl (lv_at hl 0 rfl) ?_
    refine lv_iload_n hx hb dX12_needWhat_5 rfl (lv_at hl 1 rfl) ?_
    refine lv_icmp_lt (tgt := 17) hx hb dX12_needWhat_6 (by decide) (fun c_6 => ?_) (fun c_6 => ?_)
    · exact gbw.elim (fun q => absurd q c_1) (fun q => absurd c_6 (Int32.not_lt.mpr q))
    · skip
      exact q_throwX (ik := 159) (ic := 161) (rest := []) X hl.1 hlt hlocks ht hK (by decide +kernel) (by decide) (by decide +kernel) (by decide +kernel) (by decide +kernel) (by decide +kernel) (by decide +kernel) dX12_needWhat_9 dX12_needWhat_12 dX12_needWhat_13 dX12_needWhat_16 (Nat.le_of_ble_eq_true rfl) (Nat.le_of_ble_eq_true rfl) (Nat.le_of_ble_eq_true rfl) (Nat.le_of_ble_eq_true rfl) (Nat.le_of_ble_eq_true rfl)
set_option maxHeartbeats 4000000 in
set_option maxRecDepth 100000 in
theorem x_X12_mayA (l : Launch) (D : va_G) (cB cI cJ : ClassId) (ad : Nat → Nat) (n : Nat) (M : Nat → va_E) (hlt : l.stackTraces = false) (po ta h h2 re g o g2 o2 kb an sc tr : Nat) (ik fp : Int32) (hv : Nat → Int32) (x y : Int32) (h_po : po < n) (h_h : h < n) (m_po : M po = .inr (11, poF ad po ta h h2 re g o g2 o2 ik fp kb an sc tr)) (m_h : M h = .inr (0, hallF ad h hv)) (gbx : x < 0 ∨ (hv 7) ≤ x) : cX l D cB cI cJ ad n M yX12_may wsX12_may 7 110 [.ref (ad po), .int x, .int y] "java/util/NoSuchElementException" := by
  refine q_bodyX (cc := cX12_may) (maxL := 3) (ret := (some .boolean)) (by decide) rfl (Nat.le_of_ble_eq_true rfl) ?_
  intro p e s m args below meth c ls X hlocks ht hK hP hl
  obtain ⟨hx, hb, hml, hown, hts⟩ := id X
  have hS : va_S (ipA ad n) s.heap s.heap [] := va_S.rf
  have hl : lv_has ls 3 [(0, .ref (ad po)), (1, .int x), (2, .int y)] := hl
  refine lv_aload_n hx hb dX12_may_0 rfl (lv_at hl 0 rfl) ?_
  refine lv_iload_n hx hb dX12_may_1 rfl (lv_at hl 1 rfl) ?_
  exact q_rdVX (As := [.int x]) (rest := []) (x_X12_needThing l D cB cI cJ ad n M hlt po ta h h2 re g o g2 o2 kb an sc tr ik fp hv x h_po h_h m_po m_h gbx) X hlocks ht hK hP hl.1 rfl gX12_may_X12_needThing yd_X12_needThing ⟨Nat.le_of_ble_eq_true rfl, Nat.le_of_ble_eq_true rfl⟩ h_po m_po (ci := 11) rfl rfl (Nat.le_of_ble_eq_true rfl) ⟨(Nat.le_of_ble_eq_true rfl), (Nat.le_of_ble_eq_true rfl)⟩ dX12_may_2
set_option maxHeartbeats 4000000 in
set_option maxRecDepth 100000 in
theorem x_X12_shiftA (l : Launch) (D : va_G) (cB cI cJ : ClassId) (ad : Nat → Nat) (n : Nat) (M : Nat → va_E) (hlt : l.stackTraces = false) (po ta h h2 re g o g2 o2 kb an sc tr : Nat) (ik fp : Int32) (hv : Nat → Int32) (x y : Int32) (h_po : po < n) (h_h : h < n) (m_po : M po = .inr (11, poF ad po ta h h2 re g o g2 o2 ik fp kb an sc tr)) (m_h : M h = .inr (0, hallF ad h hv)) (gbx : x < 0 ∨ (hv 7) ≤ x) : cX l D cB cI cJ ad n M yX12_shift wsX12_shift 7 110 [.ref (ad po), .int x, .int y] "java/util/NoSuchElementException" := by
  refine q_bodyX (cc := cX12_shift) (maxL := 4) (ret := (some .int)) (by decide) rfl (Nat.le_of_ble_eq_true rfl) ?_
  intro p e s m args below meth c ls X hlocks ht hK hP hl
  obtain ⟨hx, hb, hml, hown, hts⟩ := id X
  have hS : va_S (ipA ad n) s.heap s.heap [] := va_S.rf
  have hl : lv_has ls 4 [(0, .ref (ad po)), (1, .int x), (2, .int y)] := hl
  refine lv_aload_n hx hb dX12_shift_0 rfl (lv_at hl 0 rfl) ?_
  refine lv_iload_n hx hb dX12_shift_1 rfl (lv_at hl 1 rfl) ?_
  exact q_rdVX (As := [.int x]) (rest := []) (x_X12_needThing l D cB cI cJ ad n M hlt po ta h h2 re g o g2 o2 kb an sc tr ik fp hv x h_po h_h m_po m_h gbx) X hlocks ht hK hP hl.1 rfl gX12_shift_X12_needThing yd_X12_needThing ⟨Nat.le_of_ble_eq_true rfl, Nat.le_of_ble_eq_true rfl⟩ h_po m_po (ci := 11) rfl rfl (Nat.le_of_ble_eq_true rfl) ⟨(Nat.le_of_ble_eq_true rfl), (Nat.le_of_ble_eq_true rfl)⟩ dX12_shift_2
set_option maxHeartbeats 4000000 in
set_option maxRecDepth 100000 in
theorem x_X12_twoA (l : Launch) (D : va_G) (cB cI cJ : ClassId) (ad : Nat → Nat) (n : Nat) (M : Nat → va_E) (hlt : l.stackTraces = false) (po ta h h2 re g o g2 o2 kb an sc tr : Nat) (ik fp : Int32) (hv : Nat → Int32) (x y : Int32) (h_po : po < n) (h_h : h < n) (m_po : M po = .inr (11, poF ad po ta h h2 re g o g2 o2 ik fp kb an sc tr)) (m_h : M h = .inr (0, hallF ad h hv)) (gbx : x < 0 ∨ (hv 6) ≤ x) : cX l D cB cI cJ ad n M yX12_two wsX12_two 7 110 [.ref (ad po), .int x, .int y] "java/util/NoSuchElementException" := by
  refine q_bodyX (cc := cX12_two) (maxL := 3) (ret := (some .int)) (by decide) rfl (Nat.le_of_ble_eq_true rfl) ?_
  intro p e s m args below meth c ls X hlocks ht hK hP hl
  obtain ⟨hx, hb, hml, hown, hts⟩ := id X
  have hS : va_S (ipA ad n) s.heap s.heap [] := va_S.rf
  have hl : lv_has ls 3 [(0, .ref (ad po)), (1, .int x), (2, .int y)] := hl
  refine lv_aload_n hx hb dX12_two_0 rfl (lv_at hl 0 rfl) ?_
  refine lv_iload_n hx hb dX12_two_1 rfl (lv_at hl 1 rfl) ?_
  exact q_rdVX (As := [.int x]) (rest := []) (x_X12_needCase l D cB cI cJ ad n M hlt po ta h h2 re g o g2 o2 kb an sc tr ik fp hv x h_po h_h m_po m_h gbx) X hlocks ht hK hP hl.1 rfl gX12_two_X12_needCase yd_X12_needCase ⟨Nat.le_of_ble_eq_true rfl, Nat.le_of_ble_eq_true rfl⟩ h_po m_po (ci := 11) rfl rfl (Nat.le_of_ble_eq_true rfl) ⟨(Nat.le_of_ble_eq_true rfl), (Nat.le_of_ble_eq_true rfl)⟩ dX12_two_2
set_option maxHeartbeats 4000000 in
set_option maxRecDepth 100000 in
theorem x_X12_cheapA (l : Launch) (D : va_G) (cB cI cJ : ClassId) (ad : Nat → Nat) (n : Nat) (M : Nat → va_E) (hlt : l.stackTraces = false) (po ta h h2 re g o g2 o2 kb an sc tr : Nat) (ik fp : Int32) (hv : Nat → Int32) (x : Int32) (h_po : po < n) (h_h : h < n) (m_po : M po = .inr (11, poF ad po ta h h2 re g o g2 o2 ik fp kb an sc tr)) (m_h : M h = .inr (0, hallF ad h hv)) (gbx : x < 0 ∨ (hv 6) ≤ x) : cX l D cB cI cJ ad n M yX12_cheap wsX12_cheap 7 110 [.ref (ad po), .int x] "java/util/NoSuchElementException" := by
  refine q_bodyX (cc := cX12_cheap) (maxL := 2) (ret := (some .int)) (by decide) rfl (Nat.le_of_ble_eq_true rfl) ?_
  intro p e s m args below meth c ls X hlocks ht hK hP hl
  obtain ⟨hx, hb, hml, hown, hts⟩ := id X
  have hS : va_S (ipA ad n) s.heap s.heap [] := va_S.rf
  have hl : lv_has ls 2 [(0, .ref (ad po)), (1, .int x)] := hl
  refine lv_aload_n hx hb dX12_cheap_0 rfl (lv_at hl 0 rfl) ?_
  refine lv_iload_n hx hb dX12_cheap_1 rfl (lv_at hl 1 rfl) ?_
  exact q_rdVX (As := [.int x]) (rest := []) (x_X12_needCase l D cB cI cJ ad n M hlt po ta h h2 re g o g2 o2 kb an sc tr ik fp hv x h_po h_h m_po m_h gbx) X hlocks ht hK hP hl.1 rfl gX12_cheap_X12_needCase yd_X12_needCase ⟨Nat.le_of_ble_eq_true rfl, Nat.le_of_ble_eq_true rfl⟩ h_po m_po (ci := 11) rfl rfl (Nat.le_of_ble_eq_true rfl) ⟨(Nat.le_of_ble_eq_true rfl), (Nat.le_of_ble_eq_true rfl)⟩ dX12_cheap_2
set_option maxHeartbeats 4000000 in
set_option maxRecDepth 100000 in
theorem x_X12_fateA (l : Launch) (D : va_G) (cB cI cJ : ClassId) (ad : Nat → Nat) (n : Nat) (M : Nat → va_E) (hlt : l.stackTraces = false) (po ta h h2 re g o g2 o2 kb an sc tr : Nat) (ik fp : Int32) (hv : Nat → Int32) (x : Int32) (h_po : po < n) (h_h : h < n) (m_po : M po = .inr (11, poF ad po ta h h2 re g o g2 o2 ik fp kb an sc tr)) (m_h : M h = .inr (0, hallF ad h hv)) (gbx : x < 0 ∨ (hv 7) ≤ x) : cX l D cB cI cJ ad n M yX12_fate wsX12_fate 7 110 [.ref (ad po), .int x] "java/util/NoSuchElementException" := by
  refine q_bodyX (cc := cX12_fate) (maxL := 2) (ret := (some .int)) (by decide) rfl (Nat.le_of_ble_eq_true rfl) ?_
  intro p e s m args below meth c ls X hlocks ht hK hP hl
  obtain ⟨hx, hb, hml, hown, hts⟩ := id X
  have hS : va_S (ipA ad n) s.heap s.heap [] := va_S.rf
  have hl : lv_has ls 2 [(0, .ref (ad po)), (1, .int x)] := hl
  refine lv_aload_n hx hb dX12_fate_0 rfl (lv_at hl 0 rfl) ?_
  refine lv_iload_n hx hb dX12_fate_1 rfl (lv_at hl 1 rfl) ?_
  exact q_rdVX (As := [.int x]) (rest := []) (x_X12_needThing l D cB cI cJ ad n M hlt po ta h h2 re g o g2 o2 kb an sc tr ik fp hv x h_po h_h m_po m_h gbx) X hlocks ht hK hP hl.1 rfl gX12_fate_X12_needThing yd_X12_needThing ⟨Nat.le_of_ble_eq_true rfl, Nat.le_of_ble_eq_true rfl⟩ h_po m_po (ci := 11) rfl rfl (Nat.le_of_ble_eq_true rfl) ⟨(Nat.le_of_ble_eq_true rfl), (Nat.le_of_ble_eq_true rfl)⟩ dX12_fate_2
set_option maxHeartbeats 4000000 in
set_option maxRecDepth 100000 in
theorem x_X12_lostA (l : Launch) (D : va_G) (cB cI cJ : ClassId) (ad : Nat → Nat) (n : Nat) (M : Nat → va_E) (hlt : l.stackTraces = false) (po ta h h2 re g o g2 o2 kb an sc tr : Nat) (ik fp : Int32) (hv : Nat → Int32) (x : Int32) (h_po : po < n) (h_h : h < n) (m_po : M po = .inr (11, poF ad po ta h h2 re g o g2 o2 ik fp kb an sc tr)) (m_h : M h = .inr (0, hallF ad h hv)) (gbx : x < 0 ∨ (hv 6) ≤ x) : cX l D cB cI cJ ad n M yX12_lost wsX12_lost 7 110 [.ref (ad po), .int x] "java/util/NoSuchElementException" := by
  refine q_bodyX (cc := cX12_lost) (maxL := 2) (ret := (some .int)) (by decide) rfl (Nat.le_of_ble_eq_true rfl) ?_
  intro p e s m args below meth c ls X hlocks ht hK hP hl
  obtain ⟨hx, hb, hml, hown, hts⟩ := id X
  have hS : va_S (ipA ad n) s.heap s.heap [] := va_S.rf
  have hl : lv_has ls 2 [(0, .ref (ad po)), (1, .int x)] := hl
  refine lv_aload_n hx hb dX12_lost_0 rfl (lv_at hl 0 rfl) ?_
  refine lv_iload_n hx hb dX12_lost_1 rfl (lv_at hl 1 rfl) ?_
  exact q_rdVX (As := [.int x]) (rest := []) (x_X12_needCase l D cB cI cJ ad n M hlt po ta h h2 re g o g2 o2 kb an sc tr ik fp hv x h_po h_h m_po m_h gbx) X hlocks ht hK hP hl.1 rfl gX12_lost_X12_needCase yd_X12_needCase ⟨Nat.le_of_ble_eq_true rfl, Nat.le_of_ble_eq_true rfl⟩ h_po m_po (ci := 11) rfl rfl (Nat.le_of_ble_eq_true rfl) ⟨(Nat.le_of_ble_eq_true rfl), (Nat.le_of_ble_eq_true rfl)⟩ dX12_lost_2
set_option maxHeartbeats 4000000 in
set_option maxRecDepth 100000 in
theorem x_X12_wearA (l : Launch) (D : va_G) (cB cI cJ : ClassId) (ad : Nat → Nat) (n : Nat) (M : Nat → va_E) (hlt : l.stackTraces = false) (po ta h h2 re g o g2 o2 kb an sc tr : Nat) (ik fp : Int32) (hv : Nat → Int32) (x y z : Int32) (h_po : po < n) (h_h : h < n) (m_po : M po = .inr (11, poF ad po ta h h2 re g o g2 o2 ik fp kb an sc tr)) (m_h : M h = .inr (0, hallF ad h hv)) (gbx : x < 0 ∨ (hv 5) ≤ x) : cX l D cB cI cJ ad n M yX12_wear wsX12_wear 7 110 [.ref (ad po), .int x, .int y, .int z] "java/util/NoSuchElementException" := by
  refine q_bodyX (cc := cX12_wear) (maxL := 5) (ret := (some .int)) (by decide) rfl (Nat.le_of_ble_eq_true rfl) ?_
  intro p e s m args below meth c ls X hlocks ht hK hP hl
  obtain ⟨hx, hb, hml, hown, hts⟩ := id X
  have hS : va_S (ipA ad n) s.heap s.heap [] := va_S.rf
  have hl : lv_has ls 5 [(0, .ref (ad po)), (1, .int x), (2, .int y), (3, .int z)] := hl
  refine lv_aload_n hx hb dX12_wear_0 rfl (lv_at hl 0 rfl) ?_
  refine lv_iload_n hx hb dX12_wear_1 rfl (lv_at hl 1 rfl) ?_
  exact q_rdVX (As := [.int x]) (rest := []) (x_X12_needPerson l D cB cI cJ ad n M hlt po ta h h2 re g o g2 o2 kb an sc tr ik fp hv x h_po h_h m_po m_h gbx) X hlocks ht hK hP hl.1 rfl gX12_wear_X12_needPerson yd_X12_needPerson ⟨Nat.le_of_ble_eq_true rfl, Nat.le_of_ble_eq_true rfl⟩ h_po m_po (ci := 11) rfl rfl (Nat.le_of_ble_eq_true rfl) ⟨(Nat.le_of_ble_eq_true rfl), (Nat.le_of_ble_eq_true rfl)⟩ dX12_wear_2
set_option maxHeartbeats 4000000 in
set_option maxRecDepth 100000 in
theorem x_X12_carrierA (l : Launch) (D : va_G) (cB cI cJ : ClassId) (ad : Nat → Nat) (n : Nat) (M : Nat → va_E) (hlt : l.stackTraces = false) (po ta h h2 re g o g2 o2 kb an sc tr : Nat) (ik fp : Int32) (hv : Nat → Int32) (x : Int32) (h_po : po < n) (h_h : h < n) (m_po : M po = .inr (11, poF ad po ta h h2 re g o g2 o2 ik fp kb an sc tr)) (m_h : M h = .inr (0, hallF ad h hv)) (gbx : x < 0 ∨ (hv 6) ≤ x) : cX l D cB cI cJ ad n M yX12_carrier wsX12_carrier 7 110 [.ref (ad po), .int x] "java/util/NoSuchElementException" := by
  refine q_bodyX (cc := cX12_carrier) (maxL := 2) (ret := (some .int)) (by decide) rfl (Nat.le_of_ble_eq_true rfl) ?_
  intro p e s m args below meth c ls X hlocks ht hK hP hl
  obtain ⟨hx, hb, hml, hown, hts⟩ := id X
  have hS : va_S (ipA ad n) s.heap s.heap [] := va_S.rf
  have hl : lv_has ls 2 [(0, .ref (ad po)), (1, .int x)] := hl
  refine lv_aload_n hx hb dX12_carrier_0 rfl (lv_at hl 0 rfl) ?_
  refine lv_iload_n hx hb dX12_carrier_1 rfl (lv_at hl 1 rfl) ?_
  exact q_rdVX (As := [.int x]) (rest := []) (x_X12_needCase l D cB cI cJ ad n M hlt po ta h h2 re g o g2 o2 kb an sc tr ik fp hv x h_po h_h m_po m_h gbx) X hlocks ht hK hP hl.1 rfl gX12_carrier_X12_needCase yd_X12_needCase ⟨Nat.le_of_ble_eq_true rfl, Nat.le_of_ble_eq_true rfl⟩ h_po m_po (ci := 11) rfl rfl (Nat.le_of_ble_eq_true rfl) ⟨(Nat.le_of_ble_eq_true rfl), (Nat.le_of_ble_eq_true rfl)⟩ dX12_carrier_2
set_option maxHeartbeats 4000000 in
set_option maxRecDepth 100000 in
theorem x_X12_seeA (l : Launch) (D : va_G) (cB cI cJ : ClassId) (ad : Nat → Nat) (n : Nat) (M : Nat → va_E) (hlt : l.stackTraces = false) (po ta h h2 re g o g2 o2 kb an sc tr : Nat) (ik fp : Int32) (hv : Nat → Int32) (x y : Int32) (h_po : po < n) (h_h : h < n) (m_po : M po = .inr (11, poF ad po ta h h2 re g o g2 o2 ik fp kb an sc tr)) (m_h : M h = .inr (0, hallF ad h hv)) (gbx : x < 0 ∨ (hv 6) ≤ x) : cX l D cB cI cJ ad n M yX12_see wsX12_see 7 110 [.ref (ad po), .int x, .int y] "java/util/NoSuchElementException" := by
  refine q_bodyX (cc := cX12_see) (maxL := 3) (ret := (some .int)) (by decide) rfl (Nat.le_of_ble_eq_true rfl) ?_
  intro p e s m args below meth c ls X hlocks ht hK hP hl
  obtain ⟨hx, hb, hml, hown, hts⟩ := id X
  have hS : va_S (ipA ad n) s.heap s.heap [] := va_S.rf
  have hl : lv_has ls 3 [(0, .ref (ad po)), (1, .int x), (2, .int y)] := hl
  refine lv_aload_n hx hb dX12_see_0 rfl (lv_at hl 0 rfl) ?_
  refine lv_iload_n hx hb dX12_see_1 rfl (lv_at hl 1 rfl) ?_
  exact q_rdVX (As := [.int x]) (rest := []) (x_X12_needCase l D cB cI cJ ad n M hlt po ta h h2 re g o g2 o2 kb an sc tr ik fp hv x h_po h_h m_po m_h gbx) X hlocks ht hK hP hl.1 rfl gX12_see_X12_needCase yd_X12_needCase ⟨Nat.le_of_ble_eq_true rfl, Nat.le_of_ble_eq_true rfl⟩ h_po m_po (ci := 11) rfl rfl (Nat.le_of_ble_eq_true rfl) ⟨(Nat.le_of_ble_eq_true rfl), (Nat.le_of_ble_eq_true rfl)⟩ dX12_see_2
set_option maxHeartbeats 4000000 in
set_option maxRecDepth 100000 in
theorem x_X12_sureA (l : Launch) (D : va_G) (cB cI cJ : ClassId) (ad : Nat → Nat) (n : Nat) (M : Nat → va_E) (hlt : l.stackTraces = false) (po ta h h2 re g o g2 o2 kb an sc tr : Nat) (ik fp : Int32) (hv : Nat → Int32) (x y : Int32) (h_po : po < n) (h_h : h < n) (m_po : M po = .inr (11, poF ad po ta h h2 re g o g2 o2 ik fp kb an sc tr)) (m_h : M h = .inr (0, hallF ad h hv)) (gbx : x < 0 ∨ (hv 6) ≤ x) : cX l D cB cI cJ ad n M yX12_sure wsX12_sure 7 110 [.ref (ad po), .int x, .int y] "java/util/NoSuchElementException" := by
  refine q_bodyX (cc := cX12_sure) (maxL := 3) (ret := (some .long)) (by decide) rfl (Nat.le_of_ble_eq_true rfl) ?_
  intro p e s m args below meth c ls X hlocks ht hK hP hl
  obtain ⟨hx, hb, hml, hown, hts⟩ := id X
  have hS : va_S (ipA ad n) s.heap s.heap [] := va_S.rf
  have hl : lv_has ls 3 [(0, .ref (ad po)), (1, .int x), (2, .int y)] := hl
  refine lv_aload_n hx hb dX12_sure_0 rfl (lv_at hl 0 rfl) ?_
  refine lv_iload_n hx hb dX12_sure_1 rfl (lv_at hl 1 rfl) ?_
  exact q_rdVX (As := [.int x]) (rest := []) (x_X12_needCase l D cB cI cJ ad n M hlt po ta h h2 re g o g2 o2 kb an sc tr ik fp hv x h_po h_h m_po m_h gbx) X hlocks ht hK hP hl.1 rfl gX12_sure_X12_needCase yd_X12_needCase ⟨Nat.le_of_ble_eq_true rfl, Nat.le_of_ble_eq_true rfl⟩ h_po m_po (ci := 11) rfl rfl (Nat.le_of_ble_eq_true rfl) ⟨(Nat.le_of_ble_eq_true rfl), (Nat.le_of_ble_eq_true rfl)⟩ dX12_sure_2
set_option maxHeartbeats 4000000 in
set_option maxRecDepth 100000 in
theorem x_X12_sureB (l : Launch) (D : va_G) (cB cI cJ : ClassId) (ad : Nat → Nat) (n : Nat) (M : Nat → va_E) (hlt : l.stackTraces = false) (po ta h h2 re g o g2 o2 kb an sc tr : Nat) (ik fp : Int32) (hv : Nat → Int32) (x y : Int32) (h_po : po < n) (h_h : h < n) (m_po : M po = .inr (11, poF ad po ta h h2 re g o g2 o2 ik fp kb an sc tr)) (m_h : M h = .inr (0, hallF ad h hv)) (gx0 : ¬ x < 0) (gx1 : x < (hv 6)) (gbw : y < 0 ∨ 5 ≤ y) : cX l D cB cI cJ ad n M yX12_sure wsX12_sure 7 110 [.ref (ad po), .int x, .int y] "java/util/NoSuchElementException" := by
  refine q_bodyX (cc := cX12_sure) (maxL := 3) (ret := (some .long)) (by decide) rfl (Nat.le_of_ble_eq_true rfl) ?_
  intro p e s m args below meth c ls X hlocks ht hK hP hl
  obtain ⟨hx, hb, hml, hown, hts⟩ := id X
  have hS : va_S (ipA ad n) s.heap s.heap [] := va_S.rf
  have hl : lv_has ls 3 [(0, .ref (ad po)), (1, .int x), (2, .int y)] := hl
  refine lv_aload_n hx hb dX12_sure_0 rfl (lv_at hl 0 rfl) ?_
  refine lv_iload_n hx hb dX12_sure_1 rfl (lv_at hl 1 rfl) ?_
  refine q_rdVv (As := [.int x]) (rest := []) (c_X12_needCase l D cB cI cJ ad n M po ta h h2 re g o g2 o2 kb an sc tr ik fp hv x h_po h_h m_po m_h gx0 gx1) X hK hP hS hl.1 rfl gX12_sure_X12_needCase yd_X12_needCase ⟨Nat.le_of_ble_eq_true rfl, Nat.le_of_ble_eq_true rfl⟩ h_po m_po (ci := 11) rfl rfl (Nat.le_of_ble_eq_true rfl) ⟨Nat.zero_le _, Nat.zero_le _⟩ dX12_sure_2 ?_
  refine lv_iload_n hx hb dX12_sure_5 rfl (lv_at hl 2 rfl) ?_
  refine lv_iconst (v := 5) hx hb dX12_sure_6 (by decide) ?_
  exact q_rdSX (As := [.int y, .int 5]) (rest := []) (x_X12_needWhat l D cB cI cJ ad n M hlt y 5   gbw) X hlocks ht hK hP hl.1 rfl gX12_sure_X12_needWhat yd_X12_needWhat ⟨Nat.le_of_ble_eq_true rfl, Nat.le_of_ble_eq_true rfl⟩ rfl (Nat.le_of_ble_eq_true rfl) ⟨(Nat.le_of_ble_eq_true rfl), (Nat.le_of_ble_eq_true rfl)⟩ dX12_sure_7
set_option maxHeartbeats 4000000 in
set_option maxRecDepth 100000 in
theorem x_X12_weighA (l : Launch) (D : va_G) (cB cI cJ : ClassId) (ad : Nat → Nat) (n : Nat) (M : Nat → va_E) (hlt : l.stackTraces = false) (po ta h h2 re g o g2 o2 kb an sc tr : Nat) (ik fp : Int32) (hv : Nat → Int32) (x y : Int32) (h_po : po < n) (h_h : h < n) (m_po : M po = .inr (11, poF ad po ta h h2 re g o g2 o2 ik fp kb an sc tr)) (m_h : M h = .inr (0, hallF ad h hv)) (gbx : x < 0 ∨ (hv 6) ≤ x) : cX l D cB cI cJ ad n M yX12_weigh wsX12_weigh 7 110 [.ref (ad po), .int x, .int y] "java/util/NoSuchElementException" := by
  refine q_bodyX (cc := cX12_weigh) (maxL := 3) (ret := (some .int)) (by decide) rfl (Nat.le_of_ble_eq_true rfl) ?_
  intro p e s m args below meth c ls X hlocks ht hK hP hl
  obtain ⟨hx, hb, hml, hown, hts⟩ := id X
  have hS : va_S (ipA ad n) s.heap s.heap [] := va_S.rf
  have hl : lv_has ls 3 [(0, .ref (ad po)), (1, .int x), (2, .int y)] := hl
  refine lv_aload_n hx hb dX12_weigh_0 rfl (lv_at hl 0 rfl) ?_
  refine lv_iload_n hx hb dX12_weigh_1 rfl (lv_at hl 1 rfl) ?_
  exact q_rdVX (As := [.int x]) (rest := []) (x_X12_needCase l D cB cI cJ ad n M hlt po ta h h2 re g o g2 o2 kb an sc tr ik fp hv x h_po h_h m_po m_h gbx) X hlocks ht hK hP hl.1 rfl gX12_weigh_X12_needCase yd_X12_needCase ⟨Nat.le_of_ble_eq_true rfl, Nat.le_of_ble_eq_true rfl⟩ h_po m_po (ci := 11) rfl rfl (Nat.le_of_ble_eq_true rfl) ⟨(Nat.le_of_ble_eq_true rfl), (Nat.le_of_ble_eq_true rfl)⟩ dX12_weigh_2
set_option maxHeartbeats 4000000 in
set_option maxRecDepth 100000 in
theorem x_X12_weighB (l : Launch) (D : va_G) (cB cI cJ : ClassId) (ad : Nat → Nat) (n : Nat) (M : Nat → va_E) (hlt : l.stackTraces = false) (po ta h h2 re g o g2 o2 kb an sc tr : Nat) (ik fp : Int32) (hv : Nat → Int32) (x y : Int32) (h_po : po < n) (h_h : h < n) (m_po : M po = .inr (11, poF ad po ta h h2 re g o g2 o2 ik fp kb an sc tr)) (m_h : M h = .inr (0, hallF ad h hv)) (gx0 : ¬ x < 0) (gx1 : x < (hv 6)) (gbw : y < 0 ∨ 3 ≤ y) : cX l D cB cI cJ ad n M yX12_weigh wsX12_weigh 7 110 [.ref (ad po), .int x, .int y] "java/util/NoSuchElementException" := by
  refine q_bodyX (cc := cX12_weigh) (maxL := 3) (ret := (some .int)) (by decide) rfl (Nat.le_of_ble_eq_true rfl) ?_
  intro p e s m args below meth c ls X hlocks ht hK hP hl
  obtain ⟨hx, hb, hml, hown, hts⟩ := id X
  have hS : va_S (ipA ad n) s.heap s.heap [] := va_S.rf
  have hl : lv_has ls 3 [(0, .ref (ad po)), (1, .int x), (2, .int y)] := hl
  refine lv_aload_n hx hb dX12_weigh_0 rfl (lv_at hl 0 rfl) ?_
  refine lv_iload_n hx hb dX12_weigh_1 rfl (lv_at hl 1 rfl) ?_
  refine q_rdVv (As := [.int x]) (rest := []) (c_X12_needCase l D cB cI cJ ad n M po ta h h2 re g o g2 o2 kb an sc tr ik fp hv x h_po h_h m_po m_h gx0 gx1) X hK hP hS hl.1 rfl gX12_weigh_X12_needCase yd_X12_needCase ⟨Nat.le_of_ble_eq_true rfl, Nat.le_of_ble_eq_true rfl⟩ h_po m_po (ci := 11) rfl rfl (Nat.le_of_ble_eq_true rfl) ⟨Nat.zero_le _, Nat.zero_le _⟩ dX12_weigh_2 ?_
  refine lv_iload_n hx hb dX12_weigh_5 rfl (lv_at hl 2 rfl) ?_
  refine lv_iconst (v := 3) hx hb dX12_weigh_6 (by decide) ?_
  exact q_rdSX (As := [.int y, .int 3]) (rest := []) (x_X12_needWhat l D cB cI cJ ad n M hlt y 3   gbw) X hlocks ht hK hP hl.1 rfl gX12_weigh_X12_needWhat yd_X12_needWhat ⟨Nat.le_of_ble_eq_true rfl, Nat.le_of_ble_eq_true rfl⟩ rfl (Nat.le_of_ble_eq_true rfl) ⟨(Nat.le_of_ble_eq_true rfl), (Nat.le_of_ble_eq_true rfl)⟩ dX12_weigh_7
set_option maxHeartbeats 4000000 in
set_option maxRecDepth 100000 in
theorem x_X12_lookA (l : Launch) (D : va_G) (cB cI cJ : ClassId) (ad : Nat → Nat) (n : Nat) (M : Nat → va_E) (hlt : l.stackTraces = false) (po ta h h2 re g o g2 o2 kb an sc tr : Nat) (ik fp : Int32) (hv : Nat → Int32) (x y : Int32) (h_po : po < n) (h_h : h < n) (m_po : M po = .inr (11, poF ad po ta h h2 re g o g2 o2 ik fp kb an sc tr)) (m_h : M h = .inr (0, hallF ad h hv)) (gbx : x < 0 ∨ (hv 6) ≤ x) : cX l D cB cI cJ ad n M yX12_look wsX12_look 7 110 [.ref (ad po), .int x, .int y] "java/util/NoSuchElementException" := by
  refine q_bodyX (cc := cX12_look) (maxL := 5) (ret := (some .int)) (by decide) rfl (Nat.le_of_ble_eq_true rfl) ?_
  intro p e s m args below meth c ls X hlocks ht hK hP hl
  obtain ⟨hx, hb, hml, hown, hts⟩ := id X
  have hS : va_S (ipA ad n) s.heap s.heap [] := va_S.rf
  have hl : lv_has ls 5 [(0, .ref (ad po)), (1, .int x), (2, .int y)] := hl
  refine lv_aload_n hx hb dX12_look_0 rfl (lv_at hl 0 rfl) ?_
  refine lv_iload_n hx hb dX12_look_1 rfl (lv_at hl 1 rfl) ?_
  exact q_rdVX (As := [.int x]) (rest := []) (x_X12_needCase l D cB cI cJ ad n M hlt po ta h h2 re g o g2 o2 kb an sc tr ik fp hv x h_po h_h m_po m_h gbx) X hlocks ht hK hP hl.1 rfl gX12_look_X12_needCase yd_X12_needCase ⟨Nat.le_of_ble_eq_true rfl, Nat.le_of_ble_eq_true rfl⟩ h_po m_po (ci := 11) rfl rfl (Nat.le_of_ble_eq_true rfl) ⟨(Nat.le_of_ble_eq_true rfl), (Nat.le_of_ble_eq_true rfl)⟩ dX12_look_2
set_option maxHeartbeats 4000000 in
set_option maxRecDepth 100000 in
theorem x_X12_lookB (l : Launch) (D : va_G) (cB cI cJ : ClassId) (ad : Nat → Nat) (n : Nat) (M : Nat → va_E) (hlt : l.stackTraces = false) (po ta h h2 re g o g2 o2 kb an sc tr : Nat) (ik fp : Int32) (hv : Nat → Int32) (x y : Int32) (h_po : po < n) (h_h : h < n) (m_po : M po = .inr (11, poF ad po ta h h2 re g o g2 o2 ik fp kb an sc tr)) (m_h : M h = .inr (0, hallF ad h hv)) (gx0 : ¬ x < 0) (gx1 : x < (hv 6)) (gbw : y < 0 ∨ 2 ≤ y) : cX l D cB cI cJ ad n M yX12_look wsX12_look 7 110 [.ref (ad po), .int x, .int y] "java/util/NoSuchElementException" := by
  refine q_bodyX (cc := cX12_look) (maxL := 5) (ret := (some .int)) (by decide) rfl (Nat.le_of_ble_eq_true rfl) ?_
  intro p e s m args below meth c ls X hlocks ht hK hP hl
  obtain ⟨hx, hb, hml, hown, hts⟩ := id X
  have hS : va_S (ipA ad n) s.heap s.heap [] := va_S.rf
  have hl : lv_has ls 5 [(0, .ref (ad po)), (1, .int x), (2, .int y)] := hl
  refine lv_aload_n hx hb dX12_look_0 rfl (lv_at hl 0 rfl) ?_
  refine lv_iload_n hx hb dX12_look_1 rfl (lv_at hl 1 rfl) ?_
  refine q_rdVv (As := [.int x]) (rest := []) (c_X12_needCase l D cB cI cJ ad n M po ta h h2 re g o g2 o2 kb an sc tr ik fp hv x h_po h_h m_po m_h gx0 gx1) X hK hP hS hl.1 rfl gX12_look_X12_needCase yd_X12_needCase ⟨Nat.le_of_ble_eq_true rfl, Nat.le_of_ble_eq_true rfl⟩ h_po m_po (ci := 11) rfl rfl (Nat.le_of_ble_eq_true rfl) ⟨Nat.zero_le _, Nat.zero_le _⟩ dX12_look_2 ?_
  refine lv_iload_n hx hb dX12_look_5 rfl (lv_at hl 2 rfl) ?_
  refine lv_iconst (v := 2) hx hb dX12_look_6 (by decide) ?_
  exact q_rdSX (As := [.int y, .int 2]) (rest := []) (x_X12_needWhat l D cB cI cJ ad n M hlt y 2   gbw) X hlocks ht hK hP hl.1 rfl gX12_look_X12_needWhat yd_X12_needWhat ⟨Nat.le_of_ble_eq_true rfl, Nat.le_of_ble_eq_true rfl⟩ rfl (Nat.le_of_ble_eq_true rfl) ⟨(Nat.le_of_ble_eq_true rfl), (Nat.le_of_ble_eq_true rfl)⟩ dX12_look_7
set_option maxHeartbeats 4000000 in
set_option maxRecDepth 100000 in
theorem x_X12_personA (l : Launch) (D : va_G) (cB cI cJ : ClassId) (ad : Nat → Nat) (n : Nat) (M : Nat → va_E) (hlt : l.stackTraces = false) (po ta h h2 re g o g2 o2 kb an sc tr : Nat) (ik fp : Int32) (hv : Nat → Int32) (x y : Int32) (h_po : po < n) (h_h : h < n) (m_po : M po = .inr (11, poF ad po ta h h2 re g o g2 o2 ik fp kb an sc tr)) (m_h : M h = .inr (0, hallF ad h hv)) (gbx : x < 0 ∨ (hv 5) ≤ x) : cX l D cB cI cJ ad n M yX12_person wsX12_person 7 110 [.ref (ad po), .int x, .int y] "java/util/NoSuchElementException" := by
  refine q_bodyX (cc := cX12_person) (maxL := 3) (ret := (some .int)) (by decide) rfl (Nat.le_of_ble_eq_true rfl) ?_
  intro p e s m args below meth c ls X hlocks ht hK hP hl
  obtain ⟨hx, hb, hml, hown, hts⟩ := id X
  have hS : va_S (ipA ad n) s.heap s.heap [] := va_S.rf
  have hl : lv_has ls 3 [(0, .ref (ad po)), (1, .int x), (2, .int y)] := hl
  refine lv_aload_n hx hb dX12_person_0 rfl (lv_at hl 0 rfl) ?_
  refine lv_iload_n hx hb dX12_person_1 rfl (lv_at hl 1 rfl) ?_
  exact q_rdVX (As := [.int x]) (rest := []) (x_X12_needPerson l D cB cI cJ ad n M hlt po ta h h2 re g o g2 o2 kb an sc tr ik fp hv x h_po h_h m_po m_h gbx) X hlocks ht hK hP hl.1 rfl gX12_person_X12_needPerson yd_X12_needPerson ⟨Nat.le_of_ble_eq_true rfl, Nat.le_of_ble_eq_true rfl⟩ h_po m_po (ci := 11) rfl rfl (Nat.le_of_ble_eq_true rfl) ⟨(Nat.le_of_ble_eq_true rfl), (Nat.le_of_ble_eq_true rfl)⟩ dX12_person_2
set_option maxHeartbeats 4000000 in
set_option maxRecDepth 100000 in
theorem x_X12_personB (l : Launch) (D : va_G) (cB cI cJ : ClassId) (ad : Nat → Nat) (n : Nat) (M : Nat → va_E) (hlt : l.stackTraces = false) (po ta h h2 re g o g2 o2 kb an sc tr : Nat) (ik fp : Int32) (hv : Nat → Int32) (x y : Int32) (h_po : po < n) (h_h : h < n) (m_po : M po = .inr (11, poF ad po ta h h2 re g o g2 o2 ik fp kb an sc tr)) (m_h : M h = .inr (0, hallF ad h hv)) (gx0 : ¬ x < 0) (gx1 : x < (hv 5)) (gbw : y < 0 ∨ 6 ≤ y) : cX l D cB cI cJ ad n M yX12_person wsX12_person 7 110 [.ref (ad po), .int x, .int y] "java/util/NoSuchElementException" := by
  refine q_bodyX (cc := cX12_person) (maxL := 3) (ret := (some .int)) (by decide) rfl (Nat.le_of_ble_eq_true rfl) ?_
  intro p e s m args below meth c ls X hlocks ht hK hP hl
  obtain ⟨hx, hb, hml, hown, hts⟩ := id X
  have hS : va_S (ipA ad n) s.heap s.heap [] := va_S.rf
  have hl : lv_has ls 3 [(0, .ref (ad po)), (1, .int x), (2, .int y)] := hl
  refine lv_aload_n hx hb dX12_person_0 rfl (lv_at hl 0 rfl) ?_
  refine lv_iload_n hx hb dX12_person_1 rfl (lv_at hl 1 rfl) ?_
  refine q_rdVv (As := [.int x]) (rest := []) (c_X12_needPerson l D cB cI cJ ad n M po ta h h2 re g o g2 o2 kb an sc tr ik fp hv x h_po h_h m_po m_h gx0 gx1) X hK hP hS hl.1 rfl gX12_person_X12_needPerson yd_X12_needPerson ⟨Nat.le_of_ble_eq_true rfl, Nat.le_of_ble_eq_true rfl⟩ h_po m_po (ci := 11) rfl rfl (Nat.le_of_ble_eq_true rfl) ⟨Nat.zero_le _, Nat.zero_le _⟩ dX12_person_2 ?_
  refine lv_iload_n hx hb dX12_person_5 rfl (lv_at hl 2 rfl) ?_
  refine lv_bipush (v := 6) hx hb dX12_person_6 (by decide) ?_
  exact q_rdSX (As := [.int y, .int 6]) (rest := []) (x_X12_needWhat l D cB cI cJ ad n M hlt y 6   gbw) X hlocks ht hK hP hl.1 rfl gX12_person_X12_needWhat yd_X12_needWhat ⟨Nat.le_of_ble_eq_true rfl, Nat.le_of_ble_eq_true rfl⟩ rfl (Nat.le_of_ble_eq_true rfl) ⟨(Nat.le_of_ble_eq_true rfl), (Nat.le_of_ble_eq_true rfl)⟩ dX12_person_8
set_option maxHeartbeats 4000000 in
set_option maxRecDepth 100000 in
theorem x_X12_boxA (l : Launch) (D : va_G) (cB cI cJ : ClassId) (ad : Nat → Nat) (n : Nat) (M : Nat → va_E) (hlt : l.stackTraces = false) (po ta h h2 re g o g2 o2 kb an sc tr : Nat) (ik fp : Int32) (hv : Nat → Int32) (x y : Int32) (h_po : po < n) (h_h : h < n) (m_po : M po = .inr (11, poF ad po ta h h2 re g o g2 o2 ik fp kb an sc tr)) (m_h : M h = .inr (0, hallF ad h hv)) (gbx : x < 0 ∨ (hv 6) ≤ x) : cX l D cB cI cJ ad n M yX12_box wsX12_box 7 110 [.ref (ad po), .int x, .int y] "java/util/NoSuchElementException" := by
  refine q_bodyX (cc := cX12_box) (maxL := 3) (ret := (some .int)) (by decide) rfl (Nat.le_of_ble_eq_true rfl) ?_
  intro p e s m args below meth c ls X hlocks ht hK hP hl
  obtain ⟨hx, hb, hml, hown, hts⟩ := id X
  have hS : va_S (ipA ad n) s.heap s.heap [] := va_S.rf
  have hl : lv_has ls 3 [(0, .ref (ad po)), (1, .int x), (2, .int y)] := hl
  refine lv_aload_n hx hb dX12_box_0 rfl (lv_at hl 0 rfl) ?_
  refine lv_iload_n hx hb dX12_box_1 rfl (lv_at hl 1 rfl) ?_
  exact q_rdVX (As := [.int x]) (rest := []) (x_X12_needCase l D cB cI cJ ad n M hlt po ta h h2 re g o g2 o2 kb an sc tr ik fp hv x h_po h_h m_po m_h gbx) X hlocks ht hK hP hl.1 rfl gX12_box_X12_needCase yd_X12_needCase ⟨Nat.le_of_ble_eq_true rfl, Nat.le_of_ble_eq_true rfl⟩ h_po m_po (ci := 11) rfl rfl (Nat.le_of_ble_eq_true rfl) ⟨(Nat.le_of_ble_eq_true rfl), (Nat.le_of_ble_eq_true rfl)⟩ dX12_box_2
set_option maxHeartbeats 4000000 in
set_option maxRecDepth 100000 in
theorem x_X12_boxB (l : Launch) (D : va_G) (cB cI cJ : ClassId) (ad : Nat → Nat) (n : Nat) (M : Nat → va_E) (hlt : l.stackTraces = false) (po ta h h2 re g o g2 o2 kb an sc tr : Nat) (ik fp : Int32) (hv : Nat → Int32) (x y : Int32) (h_po : po < n) (h_h : h < n) (m_po : M po = .inr (11, poF ad po ta h h2 re g o g2 o2 ik fp kb an sc tr)) (m_h : M h = .inr (0, hallF ad h hv)) (gx0 : ¬ x < 0) (gx1 : x < (hv 6)) (gbw : y < 0 ∨ 10 ≤ y) : cX l D cB cI cJ ad n M yX12_box wsX12_box 7 110 [.ref (ad po), .int x, .int y] "java/util/NoSuchElementException" := by
  refine q_bodyX (cc := cX12_box) (maxL := 3) (ret := (some .int)) (by decide) rfl (Nat.le_of_ble_eq_true rfl) ?_
  intro p e s m args below meth c ls X hlocks ht hK hP hl
  obtain ⟨hx, hb, hml, hown, hts⟩ := id X
  have hS : va_S (ipA ad n) s.heap s.heap [] := va_S.rf
  have hl : lv_has ls 3 [(0, .ref (ad po)), (1, .int x), (2, .int y)] := hl
  refine lv_aload_n hx hb dX12_box_0 rfl (lv_at hl 0 rfl) ?_
  refine lv_iload_n hx hb dX12_box_1 rfl (lv_at hl 1 rfl) ?_
  refine q_rdVv (As := [.int x]) (rest := []) (c_X12_needCase l D cB cI cJ ad n M po ta h h2 re g o g2 o2 kb an sc tr ik fp hv x h_po h_h m_po m_h gx0 gx1) X hK hP hS hl.1 rfl gX12_box_X12_needCase yd_X12_needCase ⟨Nat.le_of_ble_eq_true rfl, Nat.le_of_ble_eq_true rfl⟩ h_po m_po (ci := 11) rfl rfl (Nat.le_of_ble_eq_true rfl) ⟨Nat.zero_le _, Nat.zero_le _⟩ dX12_box_2 ?_
  refine lv_iload_n hx hb dX12_box_5 rfl (lv_at hl 2 rfl) ?_
  refine lv_bipush (v := 10) hx hb dX12_box_6 (by decide) ?_
  exact q_rdSX (As := [.int y, .int 10]) (rest := []) (x_X12_needWhat l D cB cI cJ ad n M hlt y 10   gbw) X hlocks ht hK hP hl.1 rfl gX12_box_X12_needWhat yd_X12_needWhat ⟨Nat.le_of_ble_eq_true rfl, Nat.le_of_ble_eq_true rfl⟩ rfl (Nat.le_of_ble_eq_true rfl) ⟨(Nat.le_of_ble_eq_true rfl), (Nat.le_of_ble_eq_true rfl)⟩ dX12_box_8
set_option maxHeartbeats 4000000 in
set_option maxRecDepth 100000 in
theorem x_X12_thingA (l : Launch) (D : va_G) (cB cI cJ : ClassId) (ad : Nat → Nat) (n : Nat) (M : Nat → va_E) (hlt : l.stackTraces = false) (po ta h h2 re g o g2 o2 kb an sc tr : Nat) (ik fp : Int32) (hv : Nat → Int32) (x y : Int32) (h_po : po < n) (h_h : h < n) (m_po : M po = .inr (11, poF ad po ta h h2 re g o g2 o2 ik fp kb an sc tr)) (m_h : M h = .inr (0, hallF ad h hv)) (gbx : x < 0 ∨ (hv 7) ≤ x) : cX l D cB cI cJ ad n M yX12_thing wsX12_thing 7 110 [.ref (ad po), .int x, .int y] "java/util/NoSuchElementException" := by
  refine q_bodyX (cc := cX12_thing) (maxL := 3) (ret := (some .int)) (by decide) rfl (Nat.le_of_ble_eq_true rfl) ?_
  intro p e s m args below meth c ls X hlocks ht hK hP hl
  obtain ⟨hx, hb, hml, hown, hts⟩ := id X
  have hS : va_S (ipA ad n) s.heap s.heap [] := va_S.rf
  have hl : lv_has ls 3 [(0, .ref (ad po)), (1, .int x), (2, .int y)] := hl
  refine lv_aload_n hx hb dX12_thing_0 rfl (lv_at hl 0 rfl) ?_
  refine lv_iload_n hx hb dX12_thing_1 rfl (lv_at hl 1 rfl) ?_
  exact q_rdVX (As := [.int x]) (rest := []) (x_X12_needThing l D cB cI cJ ad n M hlt po ta h h2 re g o g2 o2 kb an sc tr ik fp hv x h_po h_h m_po m_h gbx) X hlocks ht hK hP hl.1 rfl gX12_thing_X12_needThing yd_X12_needThing ⟨Nat.le_of_ble_eq_true rfl, Nat.le_of_ble_eq_true rfl⟩ h_po m_po (ci := 11) rfl rfl (Nat.le_of_ble_eq_true rfl) ⟨(Nat.le_of_ble_eq_true rfl), (Nat.le_of_ble_eq_true rfl)⟩ dX12_thing_2
set_option maxHeartbeats 4000000 in
set_option maxRecDepth 100000 in
theorem x_X12_thingB (l : Launch) (D : va_G) (cB cI cJ : ClassId) (ad : Nat → Nat) (n : Nat) (M : Nat → va_E) (hlt : l.stackTraces = false) (po ta h h2 re g o g2 o2 kb an sc tr : Nat) (ik fp : Int32) (hv : Nat → Int32) (x y : Int32) (h_po : po < n) (h_h : h < n) (m_po : M po = .inr (11, poF ad po ta h h2 re g o g2 o2 ik fp kb an sc tr)) (m_h : M h = .inr (0, hallF ad h hv)) (gx0 : ¬ x < 0) (gx1 : x < (hv 7)) (gbw : y < 0 ∨ 8 ≤ y) : cX l D cB cI cJ ad n M yX12_thing wsX12_thing 7 110 [.ref (ad po), .int x, .int y] "java/util/NoSuchElementException" := by
  refine q_bodyX (cc := cX12_thing) (maxL := 3) (ret := (some .int)) (by decide) rfl (Nat.le_of_ble_eq_true rfl) ?_
  intro p e s m args below meth c ls X hlocks ht hK hP hl
  obtain ⟨hx, hb, hml, hown, hts⟩ := id X
  have hS : va_S (ipA ad n) s.heap s.heap [] := va_S.rf
  have hl : lv_has ls 3 [(0, .ref (ad po)), (1, .int x), (2, .int y)] := hl
  refine lv_aload_n hx hb dX12_thing_0 rfl (lv_at hl 0 rfl) ?_
  refine lv_iload_n hx hb dX12_thing_1 rfl (lv_at hl 1 rfl) ?_
  refine q_rdVv (As := [.int x]) (rest := []) (c_X12_needThing l D cB cI cJ ad n M po ta h h2 re g o g2 o2 kb an sc tr ik fp hv x h_po h_h m_po m_h gx0 gx1) X hK hP hS hl.1 rfl gX12_thing_X12_needThing yd_X12_needThing ⟨Nat.le_of_ble_eq_true rfl, Nat.le_of_ble_eq_true rfl⟩ h_po m_po (ci := 11) rfl rfl (Nat.le_of_ble_eq_true rfl) ⟨Nat.zero_le _, Nat.zero_le _⟩ dX12_thing_2 ?_
  refine lv_iload_n hx hb dX12_thing_5 rfl (lv_at hl 2 rfl) ?_
  refine lv_bipush (v := 8) hx hb dX12_thing_6 (by decide) ?_
  exact q_rdSX (As := [.int y, .int 8]) (rest := []) (x_X12_needWhat l D cB cI cJ ad n M hlt y 8   gbw) X hlocks ht hK hP hl.1 rfl gX12_thing_X12_needWhat yd_X12_needWhat ⟨Nat.le_of_ble_eq_true rfl, Nat.le_of_ble_eq_true rfl⟩ rfl (Nat.le_of_ble_eq_true rfl) ⟨(Nat.le_of_ble_eq_true rfl), (Nat.le_of_ble_eq_true rfl)⟩ dX12_thing_8
set_option maxHeartbeats 4000000 in
set_option maxRecDepth 100000 in
theorem x_X12_twoB (l : Launch) (D : va_G) (cB cI cJ : ClassId) (ad : Nat → Nat) (n : Nat) (M : Nat → va_E) (hlt : l.stackTraces = false) (po ta h h2 re g o g2 o2 kb an sc tr : Nat) (ik fp : Int32) (hv : Nat → Int32) (x y : Int32) (h_po : po < n) (h_h : h < n) (m_po : M po = .inr (11, poF ad po ta h h2 re g o g2 o2 ik fp kb an sc tr)) (m_h : M h = .inr (0, hallF ad h hv)) (gx0 : ¬ x < 0) (gx1 : x < (hv 6)) (gby : y < 0 ∨ (hv 6) ≤ y) : cX l D cB cI cJ ad n M yX12_two wsX12_two 7 110 [.ref (ad po), .int x, .int y] "java/util/NoSuchElementException" := by
  refine q_bodyX (cc := cX12_two) (maxL := 3) (ret := (some .int)) (by decide) rfl (Nat.le_of_ble_eq_true rfl) ?_
  intro p e s m args below meth c ls X hlocks ht hK hP hl
  obtain ⟨hx, hb, hml, hown, hts⟩ := id X
  have hS : va_S (ipA ad n) s.heap s.heap [] := va_S.rf
  have hl : lv_has ls 3 [(0, .ref (ad po)), (1, .int x), (2, .int y)] := hl
  refine lv_aload_n hx hb dX12_two_0 rfl (lv_at hl 0 rfl) ?_
  refine lv_iload_n hx hb dX12_two_1 rfl (lv_at hl 1 rfl) ?_
  refine q_rdVv (As := [.int x]) (rest := []) (c_X12_needCase l D cB cI cJ ad n M po ta h h2 re g o g2 o2 kb an sc tr ik fp hv x h_po h_h m_po m_h gx0 gx1) X hK hP hS hl.1 rfl gX12_two_X12_needCase yd_X12_needCase ⟨Nat.le_of_ble_eq_true rfl, Nat.le_of_ble_eq_true rfl⟩ h_po m_po (ci := 11) rfl rfl (Nat.le_of_ble_eq_true rfl) ⟨Nat.zero_le _, Nat.zero_le _⟩ dX12_two_2 ?_
  refine lv_aload_n hx hb dX12_two_5 rfl (lv_at hl 0 rfl) ?_
  refine lv_iload_n hx hb dX12_two_6 rfl (lv_at hl 2 rfl) ?_
  exact q_rdVX (As := [.int y]) (rest := []) (x_X12_needCase l D cB cI cJ ad n M hlt po ta h h2 re g o g2 o2 kb an sc tr ik fp hv y h_po h_h m_po m_h gby) X hlocks ht hK hP hl.1 rfl gX12_two_X12_needCase yd_X12_needCase ⟨Nat.le_of_ble_eq_true rfl, Nat.le_of_ble_eq_true rfl⟩ h_po m_po (ci := 11) rfl rfl (Nat.le_of_ble_eq_true rfl) ⟨(Nat.le_of_ble_eq_true rfl), (Nat.le_of_ble_eq_true rfl)⟩ dX12_two_7
set_option maxHeartbeats 4000000 in
set_option maxRecDepth 100000 in
theorem x_X12_twoC (l : Launch) (D : va_G) (cB cI cJ : ClassId) (ad : Nat → Nat) (n : Nat) (M : Nat → va_E) (hlt : l.stackTraces = false) (po ta h h2 re g o g2 o2 kb an sc tr : Nat) (ik fp : Int32) (hv : Nat → Int32) (x y : Int32) (h_po : po < n) (h_h : h < n) (m_po : M po = .inr (11, poF ad po ta h h2 re g o g2 o2 ik fp kb an sc tr)) (m_h : M h = .inr (0, hallF ad h hv)) (gx0 : ¬ x < 0) (gx1 : x < (hv 6)) (gy0 : ¬ y < 0) (gy1 : y < (hv 6)) (gxy : x = y) : cX l D cB cI cJ ad n M yX12_two wsX12_two 6 89 [.ref (ad po), .int x, .int y] "java/lang/IllegalArgumentException" := by
  refine q_bodyX (cc := cX12_two) (maxL := 3) (ret := (some .int)) (by decide) rfl (Nat.le_of_ble_eq_true rfl) ?_
  intro p e s m args below meth c ls X hlocks ht hK hP hl
  obtain ⟨hx, hb, hml, hown, hts⟩ := id X
  have hS : va_S (ipA ad n) s.heap s.heap [] := va_S.rf
  have hl : lv_has ls 3 [(0, .ref (ad po)), (1, .int x), (2, .int y)] := hl
  refine lv_aload_n hx hb dX12_two_0 rfl (lv_at hl 0 rfl) ?_
  refine lv_iload_n hx hb dX12_two_1 rfl (lv_at hl 1 rfl) ?_
  refine q_rdVv (As := [.int x]) (rest := []) (c_X12_needCase l D cB cI cJ ad n M po ta h h2 re g o g2 o2 kb an sc tr ik fp hv x h_po h_h m_po m_h gx0 gx1) X hK hP hS hl.1 rfl gX12_two_X12_needCase yd_X12_needCase ⟨Nat.le_of_ble_eq_true rfl, Nat.le_of_ble_eq_true rfl⟩ h_po m_po (ci := 11) rfl rfl (Nat.le_of_ble_eq_true rfl) ⟨Nat.zero_le _, Nat.zero_le _⟩ dX12_two_2 ?_
  refine lv_aload_n hx hb dX12_two_5 rfl (lv_at hl 0 rfl) ?_
  refine lv_iload_n hx hb dX12_two_6 rfl (lv_at hl 2 rfl) ?_
  refine q_rdVv (As := [.int y]) (rest := []) (c_X12_needCase l D cB cI cJ ad n M po ta h h2 re g o g2 o2 kb an sc tr ik fp hv y h_po h_h m_po m_h gy0 gy1) X hK hP hS hl.1 rfl gX12_two_X12_needCase yd_X12_needCase ⟨Nat.le_of_ble_eq_true rfl, Nat.le_of_ble_eq_true rfl⟩ h_po m_po (ci := 11) rfl rfl (Nat.le_of_ble_eq_true rfl) ⟨Nat.zero_le _, Nat.zero_le _⟩ dX12_two_7 ?_
  refine lv_iload_n hx hb dX12_two_10 rfl (lv_at hl 1 rfl) ?_
  refine lv_iload_n hx hb dX12_two_11 rfl (lv_at hl 2 rfl) ?_
  refine lv_icmp_ne (tgt := 23) hx hb dX12_two_12 (by decide) (fun c_12 => ?_) (fun c_12 => ?_)
  · exact absurd gxy c_12
  · skip
    exact q_throwX (ik := 96) (ic := 98) (rest := []) X hl.1 hlt hlocks ht hK (by decide +kernel) (by decide) (by decide +kernel) (by decide +kernel) (by decide +kernel) (by decide +kernel) (by decide +kernel) dX12_two_15 dX12_two_18 dX12_two_19 dX12_two_22 (Nat.le_of_ble_eq_true rfl) (Nat.le_of_ble_eq_true rfl) (Nat.le_of_ble_eq_true rfl) (Nat.le_of_ble_eq_true rfl) (Nat.le_of_ble_eq_true rfl)
set_option maxHeartbeats 4000000 in
set_option maxRecDepth 100000 in
theorem x_X12_fateB (l : Launch) (D : va_G) (cB cI cJ : ClassId) (ad : Nat → Nat) (n : Nat) (M : Nat → va_E) (hlt : l.stackTraces = false) (po ta h h2 re g o g2 o2 kb an sc tr : Nat) (ik fp : Int32) (tof fk ck : Int32) (hv : Nat → Int32) (x : Int32) (h_po : po < n) (h_an : an < n) (h_h : h < n) (m_po : M po = .inr (11, poF ad po ta h h2 re g o g2 o2 ik fp kb an sc tr)) (m_an : M an = .inr (3, plansF ad an tof fk ck)) (m_h : M h = .inr (0, hallF ad h hv)) (gx0 : ¬ x < 0) (gx1 : x < (hv 7)) (gf : s_X3_hasFateOf tof fk x = 0) : cX l D cB cI cJ ad n M yX12_fate wsX12_fate 6 89 [.ref (ad po), .int x] "java/util/NoSuchElementException" := by
  refine q_bodyX (cc := cX12_fate) (maxL := 2) (ret := (some .int)) (by decide) rfl (Nat.le_of_ble_eq_true rfl) ?_
  intro p e s m args below meth c ls X hlocks ht hK hP hl
  obtain ⟨hx, hb, hml, hown, hts⟩ := id X
  have hS : va_S (ipA ad n) s.heap s.heap [] := va_S.rf
  have hl : lv_has ls 2 [(0, .ref (ad po)), (1, .int x)] := hl
  refine lv_aload_n hx hb dX12_fate_0 rfl (lv_at hl 0 rfl) ?_
  refine lv_iload_n hx hb dX12_fate_1 rfl (lv_at hl 1 rfl) ?_
  refine q_rdVv (As := [.int x]) (rest := []) (c_X12_needThing l D cB cI cJ ad n M po ta h h2 re g o g2 o2 kb an sc tr ik fp hv x h_po h_h m_po m_h gx0 gx1) X hK hP hS hl.1 rfl gX12_fate_X12_needThing yd_X12_needThing ⟨Nat.le_of_ble_eq_true rfl, Nat.le_of_ble_eq_true rfl⟩ h_po m_po (ci := 11) rfl rfl (Nat.le_of_ble_eq_true rfl) ⟨Nat.zero_le _, Nat.zero_le _⟩ dX12_fate_2 ?_
  refine lv_aload_n hx hb dX12_fate_5 rfl (lv_at hl 0 rfl) ?_
  refine q_get (v := .ref (ad an)) (fs := poF ad po ta h h2 re g o g2 o2 ik fp kb an sc tr) X hK hP fX12_fate_71 h_po m_po rfl dX12_fate_6 ?_
  refine lv_iload_n hx hb dX12_fate_9 rfl (lv_at hl 1 rfl) ?_
  refine q_rdV (As := [.int x]) (rest := []) (c_X3_hasFateOf l D cB cI cJ ad n M an tof fk ck x h_an m_an ) X hK hP hS hl.1 rfl gX12_fate_X3_hasFateOf yd_X3_hasFateOf ⟨Nat.le_of_ble_eq_true rfl, Nat.le_of_ble_eq_true rfl⟩ h_an m_an (ci := 3) rfl rfl (Nat.le_of_ble_eq_true rfl) ⟨Nat.zero_le _, Nat.zero_le _⟩ dX12_fate_10 ?_
  refine lv_if_ne (tgt := 24) hx hb dX12_fate_13 (by decide) (fun c_13 => ?_) (fun c_13 => ?_)
  · exact absurd gf c_13
  · skip
    exact q_throwX (ik := 159) (ic := 161) (rest := []) X hl.1 hlt hlocks ht hK (by decide +kernel) (by decide) (by decide +kernel) (by decide +kernel) (by decide +kernel) (by decide +kernel) (by decide +kernel) dX12_fate_16 dX12_fate_19 dX12_fate_20 dX12_fate_23 (Nat.le_of_ble_eq_true rfl) (Nat.le_of_ble_eq_true rfl) (Nat.le_of_ble_eq_true rfl) (Nat.le_of_ble_eq_true rfl) (Nat.le_of_ble_eq_true rfl)
set_option maxHeartbeats 4000000 in
set_option maxRecDepth 100000 in
theorem x_X12_carrierB (l : Launch) (D : va_G) (cB cI cJ : ClassId) (ad : Nat → Nat) (n : Nat) (M : Nat → va_E) (hlt : l.stackTraces = false) (po ta h h2 re g o g2 o2 kb an sc tr : Nat) (ik fp : Int32) (tof fk ck : Int32) (hv : Nat → Int32) (x : Int32) (h_po : po < n) (h_an : an < n) (h_h : h < n) (m_po : M po = .inr (11, poF ad po ta h h2 re g o g2 o2 ik fp kb an sc tr)) (m_an : M an = .inr (3, plansF ad an tof fk ck)) (m_h : M h = .inr (0, hallF ad h hv)) (gx0 : ¬ x < 0) (gx1 : x < (hv 6)) (gck : ck = 0) : cX l D cB cI cJ ad n M yX12_carrier wsX12_carrier 6 89 [.ref (ad po), .int x] "java/util/NoSuchElementException" := by
  refine q_bodyX (cc := cX12_carrier) (maxL := 2) (ret := (some .int)) (by decide) rfl (Nat.le_of_ble_eq_true rfl) ?_
  intro p e s m args below meth c ls X hlocks ht hK hP hl
  obtain ⟨hx, hb, hml, hown, hts⟩ := id X
  have hS : va_S (ipA ad n) s.heap s.heap [] := va_S.rf
  have hl : lv_has ls 2 [(0, .ref (ad po)), (1, .int x)] := hl
  refine lv_aload_n hx hb dX12_carrier_0 rfl (lv_at hl 0 rfl) ?_
  refine lv_iload_n hx hb dX12_carrier_1 rfl (lv_at hl 1 rfl) ?_
  refine q_rdVv (As := [.int x]) (rest := []) (c_X12_needCase l D cB cI cJ ad n M po ta h h2 re g o g2 o2 kb an sc tr ik fp hv x h_po h_h m_po m_h gx0 gx1) X hK hP hS hl.1 rfl gX12_carrier_X12_needCase yd_X12_needCase ⟨Nat.le_of_ble_eq_true rfl, Nat.le_of_ble_eq_true rfl⟩ h_po m_po (ci := 11) rfl rfl (Nat.le_of_ble_eq_true rfl) ⟨Nat.zero_le _, Nat.zero_le _⟩ dX12_carrier_2 ?_
  refine lv_aload_n hx hb dX12_carrier_5 rfl (lv_at hl 0 rfl) ?_
  refine q_get (v := .ref (ad an)) (fs := poF ad po ta h h2 re g o g2 o2 ik fp kb an sc tr) X hK hP fX12_carrier_71 h_po m_po rfl dX12_carrier_6 ?_
  refine q_get (v := .int ck) (fs := plansF ad an tof fk ck) X hK hP fX12_carrier_299 h_an m_an rfl dX12_carrier_9 ?_
  refine lv_if_ne (tgt := 23) hx hb dX12_carrier_12 (by decide) (fun c_12 => ?_) (fun c_12 => ?_)
  · exact absurd gck c_12
  · skip
    exact q_throwX (ik := 159) (ic := 161) (rest := []) X hl.1 hlt hlocks ht hK (by decide +kernel) (by decide) (by decide +kernel) (by decide +kernel) (by decide +kernel) (by decide +kernel) (by decide +kernel) dX12_carrier_15 dX12_carrier_18 dX12_carrier_19 dX12_carrier_22 (Nat.le_of_ble_eq_true rfl) (Nat.le_of_ble_eq_true rfl) (Nat.le_of_ble_eq_true rfl) (Nat.le_of_ble_eq_true rfl) (Nat.le_of_ble_eq_true rfl)
set_option maxHeartbeats 4000000 in
set_option maxRecDepth 100000 in
theorem x_X12_wearB (l : Launch) (D : va_G) (cB cI cJ : ClassId) (ad : Nat → Nat) (n : Nat) (M : Nat → va_E) (hlt : l.stackTraces = false) (po ta h h2 re g o g2 o2 kb an sc tr : Nat) (ik fp : Int32) (hv : Nat → Int32) (x y z : Int32) (h_po : po < n) (h_h : h < n) (m_po : M po = .inr (11, poF ad po ta h h2 re g o g2 o2 ik fp kb an sc tr)) (m_h : M h = .inr (0, hallF ad h hv)) (gx0 : ¬ x < 0) (gx1 : x < (hv 5)) (gp : y < 0 ∨ 200 < y) : cX l D cB cI cJ ad n M yX12_wear wsX12_wear 6 89 [.ref (ad po), .int x, .int y, .int z] "java/lang/IllegalArgumentException" := by
  refine q_bodyX (cc := cX12_wear) (maxL := 5) (ret := (some .int)) (by decide) rfl (Nat.le_of_ble_eq_true rfl) ?_
  intro p e s m args below meth c ls X hlocks ht hK hP hl
  obtain ⟨hx, hb, hml, hown, hts⟩ := id X
  have hS : va_S (ipA ad n) s.heap s.heap [] := va_S.rf
  have hl : lv_has ls 5 [(0, .ref (ad po)), (1, .int x), (2, .int y), (3, .int z)] := hl
  refine lv_aload_n hx hb dX12_wear_0 rfl (lv_at hl 0 rfl) ?_
  refine lv_iload_n hx hb dX12_wear_1 rfl (lv_at hl 1 rfl) ?_
  refine q_rdVv (As := [.int x]) (rest := []) (c_X12_needPerson l D cB cI cJ ad n M po ta h h2 re g o g2 o2 kb an sc tr ik fp hv x h_po h_h m_po m_h gx0 gx1) X hK hP hS hl.1 rfl gX12_wear_X12_needPerson yd_X12_needPerson ⟨Nat.le_of_ble_eq_true rfl, Nat.le_of_ble_eq_true rfl⟩ h_po m_po (ci := 11) rfl rfl (Nat.le_of_ble_eq_true rfl) ⟨Nat.zero_le _, Nat.zero_le _⟩ dX12_wear_2 ?_
  refine lv_iload_n hx hb dX12_wear_5 rfl (lv_at hl 2 rfl) ?_
  refine lv_if_lt (tgt := 16) hx hb dX12_wear_6 (by decide) (fun c_6 => ?_) (fun c_6 => ?_)
  · skip
    exact q_throwX (ik := 96) (ic := 98) (rest := []) X hl.1 hlt hlocks ht hK (by decide +kernel) (by decide) (by decide +kernel) (by decide +kernel) (by decide +kernel) (by decide +kernel) (by decide +kernel) dX12_wear_16 dX12_wear_19 dX12_wear_20 dX12_wear_23 (Nat.le_of_ble_eq_true rfl) (Nat.le_of_ble_eq_true rfl) (Nat.le_of_ble_eq_true rfl) (Nat.le_of_ble_eq_true rfl) (Nat.le_of_ble_eq_true rfl)
  · skip
    refine lv_iload_n hx hb dX12_wear_9 rfl (lv_at hl 2 rfl) ?_
    refine lv_sipush (v := 200) hx hb dX12_wear_10 (by decide) ?_
    refine lv_icmp_le (tgt := 24) hx hb dX12_wear_13 (by decide) (fun c_13 => ?_) (fun c_13 => ?_)
    · exact gp.elim (fun q => absurd q c_6) (fun q => absurd c_13 (Int32.not_le.mpr q))
    · skip
      exact q_throwX (ik := 96) (ic := 98) (rest := []) X hl.1 hlt hlocks ht hK (by decide +kernel) (by decide) (by decide +kernel) (by decide +kernel) (by decide +kernel) (by decide +kernel) (by decide +kernel) dX12_wear_16 dX12_wear_19 dX12_wear_20 dX12_wear_23 (Nat.le_of_ble_eq_true rfl) (Nat.le_of_ble_eq_true rfl) (Nat.le_of_ble_eq_true rfl) (Nat.le_of_ble_eq_true rfl) (Nat.le_of_ble_eq_true rfl)
set_option maxHeartbeats 4000000 in
set_option maxRecDepth 100000 in
theorem x_X12_fitsA (l : Launch) (D : va_G) (cB cI cJ : ClassId) (ad : Nat → Nat) (n : Nat) (M : Nat → va_E) (hlt : l.stackTraces = false) (po ta h h2 re g o g2 o2 kb an sc tr : Nat) (ik fp : Int32) (x : Int32) (h_po : po < n) (m_po : M po = .inr (11, poF ad po ta h h2 re g o g2 o2 ik fp kb an sc tr)) (gbw : x < 0 ∨ 3 ≤ x) : cX l D cB cI cJ ad n M yX12_fits wsX12_fits 7 110 [.ref (ad po), .int x] "java/util/NoSuchElementException" := by
  refine q_bodyX (cc := cX12_fits) (maxL := 2) (ret := (some .int)) (by decide) rfl (Nat.le_of_ble_eq_true rfl) ?_
  intro p e s m args below meth c ls X hlocks ht hK hP hl
  obtain ⟨hx, hb, hml, hown, hts⟩ := id X
  have hS : va_S (ipA ad n) s.heap s.heap [] := va_S.rf
  have hl : lv_has ls 2 [(0, .ref (ad po)), (1, .int x)] := hl
  refine lv_iload_n hx hb dX12_fits_0 rfl (lv_at hl 1 rfl) ?_
  refine lv_iconst (v := 3) hx hb dX12_fits_1 (by decide) ?_
  exact q_rdSX (As := [.int x, .int 3]) (rest := []) (x_X12_needWhat l D cB cI cJ ad n M hlt x 3   gbw) X hlocks ht hK hP hl.1 rfl gX12_fits_X12_needWhat yd_X12_needWhat ⟨Nat.le_of_ble_eq_true rfl, Nat.le_of_ble_eq_true rfl⟩ rfl (Nat.le_of_ble_eq_true rfl) ⟨(Nat.le_of_ble_eq_true rfl), (Nat.le_of_ble_eq_true rfl)⟩ dX12_fits_2
set_option maxHeartbeats 4000000 in
set_option maxRecDepth 100000 in
theorem x_X12_bestA (l : Launch) (D : va_G) (cB cI cJ : ClassId) (ad : Nat → Nat) (n : Nat) (M : Nat → va_E) (hlt : l.stackTraces = false) (po ta h h2 re g o g2 o2 kb an sc tr : Nat) (ik fp : Int32) (x : Int32) (h_po : po < n) (m_po : M po = .inr (11, poF ad po ta h h2 re g o g2 o2 ik fp kb an sc tr)) (gbw : x < 0 ∨ 3 ≤ x) : cX l D cB cI cJ ad n M yX12_best wsX12_best 7 110 [.ref (ad po), .int x] "java/util/NoSuchElementException" := by
  refine q_bodyX (cc := cX12_best) (maxL := 2) (ret := (some .int)) (by decide) rfl (Nat.le_of_ble_eq_true rfl) ?_
  intro p e s m args below meth c ls X hlocks ht hK hP hl
  obtain ⟨hx, hb, hml, hown, hts⟩ := id X
  have hS : va_S (ipA ad n) s.heap s.heap [] := va_S.rf
  have hl : lv_has ls 2 [(0, .ref (ad po)), (1, .int x)] := hl
  refine lv_iload_n hx hb dX12_best_0 rfl (lv_at hl 1 rfl) ?_
  refine lv_iconst (v := 3) hx hb dX12_best_1 (by decide) ?_
  exact q_rdSX (As := [.int x, .int 3]) (rest := []) (x_X12_needWhat l D cB cI cJ ad n M hlt x 3   gbw) X hlocks ht hK hP hl.1 rfl gX12_best_X12_needWhat yd_X12_needWhat ⟨Nat.le_of_ble_eq_true rfl, Nat.le_of_ble_eq_true rfl⟩ rfl (Nat.le_of_ble_eq_true rfl) ⟨(Nat.le_of_ble_eq_true rfl), (Nat.le_of_ble_eq_true rfl)⟩ dX12_best_2
set_option maxHeartbeats 4000000 in
set_option maxRecDepth 100000 in
theorem x_X12_counterA (l : Launch) (D : va_G) (cB cI cJ : ClassId) (ad : Nat → Nat) (n : Nat) (M : Nat → va_E) (hlt : l.stackTraces = false) (po ta h h2 re g o g2 o2 kb an sc tr : Nat) (ik fp : Int32) (x y z : Int32) (h_po : po < n) (m_po : M po = .inr (11, poF ad po ta h h2 re g o g2 o2 ik fp kb an sc tr)) (gbw : z < 0 ∨ 2 ≤ z) : cX l D cB cI cJ ad n M yX12_counter wsX12_counter 7 110 [.ref (ad po), .int x, .int y, .int z] "java/util/NoSuchElementException" := by
  refine q_bodyX (cc := cX12_counter) (maxL := 4) (ret := (some .int)) (by decide) rfl (Nat.le_of_ble_eq_true rfl) ?_
  intro p e s m args below meth c ls X hlocks ht hK hP hl
  obtain ⟨hx, hb, hml, hown, hts⟩ := id X
  have hS : va_S (ipA ad n) s.heap s.heap [] := va_S.rf
  have hl : lv_has ls 4 [(0, .ref (ad po)), (1, .int x), (2, .int y), (3, .int z)] := hl
  refine lv_iload_n hx hb dX12_counter_0 rfl (lv_at hl 3 rfl) ?_
  refine lv_iconst (v := 2) hx hb dX12_counter_1 (by decide) ?_
  exact q_rdSX (As := [.int z, .int 2]) (rest := []) (x_X12_needWhat l D cB cI cJ ad n M hlt z 2   gbw) X hlocks ht hK hP hl.1 rfl gX12_counter_X12_needWhat yd_X12_needWhat ⟨Nat.le_of_ble_eq_true rfl, Nat.le_of_ble_eq_true rfl⟩ rfl (Nat.le_of_ble_eq_true rfl) ⟨(Nat.le_of_ble_eq_true rfl), (Nat.le_of_ble_eq_true rfl)⟩ dX12_counter_2
set_option maxHeartbeats 4000000 in
set_option maxRecDepth 100000 in
theorem x_X12_counterB (l : Launch) (D : va_G) (cB cI cJ : ClassId) (ad : Nat → Nat) (n : Nat) (M : Nat → va_E) (hlt : l.stackTraces = false) (po ta h h2 re g o g2 o2 kb an sc tr : Nat) (ik fp : Int32) (x y z : Int32) (h_po : po < n) (m_po : M po = .inr (11, poF ad po ta h h2 re g o g2 o2 ik fp kb an sc tr)) (gw0 : ¬ z < 0) (gw1 : z < 2) (gp : y < 0 ∨ 200 < y) : cX l D cB cI cJ ad n M yX12_counter wsX12_counter 6 89 [.ref (ad po), .int x, .int y, .int z] "java/lang/IllegalArgumentException" := by
  refine q_bodyX (cc := cX12_counter) (maxL := 4) (ret := (some .int)) (by decide) rfl (Nat.le_of_ble_eq_true rfl) ?_
  intro p e s m args below meth c ls X hlocks ht hK hP hl
  obtain ⟨hx, hb, hml, hown, hts⟩ := id X
  have hS : va_S (ipA ad n) s.heap s.heap [] := va_S.rf
  have hl : lv_has ls 4 [(0, .ref (ad po)), (1, .int x), (2, .int y), (3, .int z)] := hl
  refine lv_iload_n hx hb dX12_counter_0 rfl (lv_at hl 3 rfl) ?_
  refine lv_iconst (v := 2) hx hb dX12_counter_1 (by decide) ?_
  refine q_rdSv (As := [.int z, .int 2]) (rest := []) (c_X12_needWhat l D cB cI cJ ad n M z 2   gw0 gw1) X hK hP hS hl.1 rfl gX12_counter_X12_needWhat yd_X12_needWhat ⟨Nat.le_of_ble_eq_true rfl, Nat.le_of_ble_eq_true rfl⟩ rfl (Nat.le_of_ble_eq_true rfl) ⟨Nat.zero_le _, Nat.zero_le _⟩ dX12_counter_2 ?_
  refine lv_iload_n hx hb dX12_counter_5 rfl (lv_at hl 2 rfl) ?_
  refine lv_if_lt (tgt := 16) hx hb dX12_counter_6 (by decide) (fun c_6 => ?_) (fun c_6 => ?_)
  · skip
    exact q_throwX (ik := 96) (ic := 98) (rest := []) X hl.1 hlt hlocks ht hK (by decide +kernel) (by decide) (by decide +kernel) (by decide +kernel) (by decide +kernel) (by decide +kernel) (by decide +kernel) dX12_counter_16 dX12_counter_19 dX12_counter_20 dX12_counter_23 (Nat.le_of_ble_eq_true rfl) (Nat.le_of_ble_eq_true rfl) (Nat.le_of_ble_eq_true rfl) (Nat.le_of_ble_eq_true rfl) (Nat.le_of_ble_eq_true rfl)
  · skip
    refine lv_iload_n hx hb dX12_counter_9 rfl (lv_at hl 2 rfl) ?_
    refine lv_sipush (v := 200) hx hb dX12_counter_10 (by decide) ?_
    refine lv_icmp_le (tgt := 24) hx hb dX12_counter_13 (by decide) (fun c_13 => ?_) (fun c_13 => ?_)
    · exact gp.elim (fun q => absurd q c_6) (fun q => absurd c_13 (Int32.not_le.mpr q))
    · skip
      exact q_throwX (ik := 96) (ic := 98) (rest := []) X hl.1 hlt hlocks ht hK (by decide +kernel) (by decide) (by decide +kernel) (by decide +kernel) (by decide +kernel) (by decide +kernel) (by decide +kernel) dX12_counter_16 dX12_counter_19 dX12_counter_20 dX12_counter_23 (Nat.le_of_ble_eq_true rfl) (Nat.le_of_ble_eq_true rfl) (Nat.le_of_ble_eq_true rfl) (Nat.le_of_ble_eq_true rfl) (Nat.le_of_ble_eq_true rfl)
set_option maxHeartbeats 4000000 in
set_option maxRecDepth 100000 in
theorem x_X12_countA (l : Launch) (D : va_G) (cB cI cJ : ClassId) (ad : Nat → Nat) (n : Nat) (M : Nat → va_E) (hlt : l.stackTraces = false) (po ta h h2 re g o g2 o2 kb an sc tr : Nat) (ik fp : Int32) (x : Int32) (h_po : po < n) (m_po : M po = .inr (11, poF ad po ta h h2 re g o g2 o2 ik fp kb an sc tr)) (gbw : x < 0 ∨ 13 ≤ x) : cX l D cB cI cJ ad n M yX12_count wsX12_count 6 89 [.ref (ad po), .int x] "java/util/NoSuchElementException" := by
  refine q_bodyX (cc := cX12_count) (maxL := 2) (ret := (some .int)) (by decide) rfl (Nat.le_of_ble_eq_true rfl) ?_
  intro p e s m args below meth c ls X hlocks ht hK hP hl
  obtain ⟨hx, hb, hml, hown, hts⟩ := id X
  have hS : va_S (ipA ad n) s.heap s.heap [] := va_S.rf
  have hl : lv_has ls 2 [(0, .ref (ad po)), (1, .int x)] := hl
  refine lv_iload_n hx hb dX12_count_0 rfl (lv_at hl 1 rfl) ?_
  by_cases c_1_0 : x = 0
  · refine lv_tableIn (off := 67) (tgt := 68) hx hb dX12_count_1 (by rw [c_1_0]; decide) (by rw [c_1_0]; decide) (by rw [c_1_0]; decide) (by decide) ?_
    rw [c_1_0] at gbw; exact absurd gbw (by decide)
  by_cases c_1_1 : x = 1
  · refine lv_tableIn (off := 75) (tgt := 76) hx hb dX12_count_1 (by rw [c_1_1]; decide) (by rw [c_1_1]; decide) (by rw [c_1_1]; decide) (by decide) ?_
    rw [c_1_1] at gbw; exact absurd gbw (by decide)
  by_cases c_1_2 : x = 2
  · refine lv_tableIn (off := 83) (tgt := 84) hx hb dX12_count_1 (by rw [c_1_2]; decide) (by rw [c_1_2]; decide) (by rw [c_1_2]; decide) (by decide) ?_
    rw [c_1_2] at gbw; exact absurd gbw (by decide)
  by_cases c_1_3 : x = 3
  · refine lv_tableIn (off := 91) (tgt := 92) hx hb dX12_count_1 (by rw [c_1_3]; decide) (by rw [c_1_3]; decide) (by rw [c_1_3]; decide) (by decide) ?_
    rw [c_1_3] at gbw; exact absurd gbw (by decide)
  by_cases c_1_4 : x = 4
  · refine lv_tableIn (off := 99) (tgt := 100) hx hb dX12_count_1 (by rw [c_1_4]; decide) (by rw [c_1_4]; decide) (by rw [c_1_4]; decide) (by decide) ?_
    rw [c_1_4] at gbw; exact absurd gbw (by decide)
  by_cases c_1_5 : x = 5
  · refine lv_tableIn (off := 107) (tgt := 108) hx hb dX12_count_1 (by rw [c_1_5]; decide) (by rw [c_1_5]; decide) (by rw [c_1_5]; decide) (by decide) ?_
    rw [c_1_5] at gbw; exact absurd gbw (by decide)
  by_cases c_1_6 : x = 6
  · refine lv_tableIn (off := 115) (tgt := 116) hx hb dX12_count_1 (by rw [c_1_6]; decide) (by rw [c_1_6]; decide) (by rw [c_1_6]; decide) (by decide) ?_
    rw [c_1_6] at gbw; exact absurd gbw (by decide)
  by_cases c_1_7 : x = 7
  · refine lv_tableIn (off := 123) (tgt := 124) hx hb dX12_count_1 (by rw [c_1_7]; decide) (by rw [c_1_7]; decide) (by rw [c_1_7]; decide) (by decide) ?_
    rw [c_1_7] at gbw; exact absurd gbw (by decide)
  by_cases c_1_8 : x = 8
  · refine lv_tableIn (off := 131) (tgt := 132) hx hb dX12_count_1 (by rw [c_1_8]; decide) (by rw [c_1_8]; decide) (by rw [c_1_8]; decide) (by decide) ?_
    rw [c_1_8] at gbw; exact absurd gbw (by decide)
  by_cases c_1_9 : x = 9
  · refine lv_tableIn (off := 139) (tgt := 140) hx hb dX12_count_1 (by rw [c_1_9]; decide) (by rw [c_1_9]; decide) (by rw [c_1_9]; decide) (by decide) ?_
    rw [c_1_9] at gbw; exact absurd gbw (by decide)
  by_cases c_1_10 : x = 10
  · refine lv_tableIn (off := 147) (tgt := 148) hx hb dX12_count_1 (by rw [c_1_10]; decide) (by rw [c_1_10]; decide) (by rw [c_1_10]; decide) (by decide) ?_
    rw [c_1_10] at gbw; exact absurd gbw (by decide)
  by_cases c_1_11 : x = 11
  · refine lv_tableIn (off := 147) (tgt := 148) hx hb dX12_count_1 (by rw [c_1_11]; decide) (by rw [c_1_11]; decide) (by rw [c_1_11]; decide) (by decide) ?_
    rw [c_1_11] at gbw; exact absurd gbw (by decide)
  by_cases c_1_12 : x = 12
  · refine lv_tableIn (off := 147) (tgt := 148) hx hb dX12_count_1 (by rw [c_1_12]; decide) (by rw [c_1_12]; decide) (by rw [c_1_12]; decide) (by decide) ?_
    rw [c_1_12] at gbw; exact absurd gbw (by decide)
  have n_0 := lv_neT (a := 0) c_1_0 (by decide); have n_1 := lv_neT (a := 1) c_1_1 (by decide); have n_2 := lv_neT (a := 2) c_1_2 (by decide); have n_3 := lv_neT (a := 3) c_1_3 (by decide); have n_4 := lv_neT (a := 4) c_1_4 (by decide); have n_5 := lv_neT (a := 5) c_1_5 (by decide); have n_6 := lv_neT (a := 6) c_1_6 (by decide); have n_7 := lv_neT (a := 7) c_1_7 (by decide); have n_8 := lv_neT (a := 8) c_1_8 (by decide); have n_9 := lv_neT (a := 9) c_1_9 (by decide); have n_10 := lv_neT (a := 10) c_1_10 (by decide); have n_11 := lv_neT (a := 11) c_1_11 (by decide); have n_12 := lv_neT (a := 12) c_1_12 (by decide)
  refine lv_tableOut (tgt := 163) hx hb dX12_count_1 (by omega) (by decide) ?_
  exact q_throwX (ik := 159) (ic := 161) (rest := []) X hl.1 hlt hlocks ht hK (by decide +kernel) (by decide) (by decide +kernel) (by decide +kernel) (by decide +kernel) (by decide +kernel) (by decide +kernel) dX12_count_163 dX12_count_166 dX12_count_167 dX12_count_170 (Nat.le_of_ble_eq_true rfl) (Nat.le_of_ble_eq_true rfl) (Nat.le_of_ble_eq_true rfl) (Nat.le_of_ble_eq_true rfl) (Nat.le_of_ble_eq_true rfl)
