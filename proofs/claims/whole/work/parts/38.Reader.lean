/-! PoundsOver$Reader: the token that is scanned from x on: where it stands, what stands behind it, its kind, its number, its word -/
noncomputable section
theorem pX_ex : ∃ f : Nat → (Nat → Int32) → Nat → Nat, ∀ (en : Nat) (bf : Nat → Int32) (x : Nat), f en bf x = skS en bf 701 x := ⟨fun en bf x => skS en bf 701 x, fun _ _ _ => rfl⟩
def pX (en : Nat) (bf : Nat → Int32) (x : Nat) : Nat := Classical.choose pX_ex en bf x
theorem pX_d (en : Nat) (bf : Nat → Int32) (x : Nat) : pX en bf x = skS en bf 701 x := Classical.choose_spec pX_ex en bf x
theorem nX_ex : ∃ f : Nat → (Nat → Int32) → Nat → Nat, ∀ (en : Nat) (bf : Nat → Int32) (x : Nat), f en bf x = avN en bf (pX en bf x) := ⟨fun en bf x => avN en bf (pX en bf x), fun _ _ _ => rfl⟩
def nX (en : Nat) (bf : Nat → Int32) (x : Nat) : Nat := Classical.choose nX_ex en bf x
theorem nX_d (en : Nat) (bf : Nat → Int32) (x : Nat) : nX en bf x = avN en bf (pX en bf x) := Classical.choose_spec nX_ex en bf x
theorem kX_ex : ∃ f : Nat → (Nat → Int32) → Nat → Int32, ∀ (en : Nat) (bf : Nat → Int32) (x : Nat), f en bf x = avK en bf (pX en bf x) := ⟨fun en bf x => avK en bf (pX en bf x), fun _ _ _ => rfl⟩
def kX (en : Nat) (bf : Nat → Int32) (x : Nat) : Int32 := Classical.choose kX_ex en bf x
theorem kX_d (en : Nat) (bf : Nat → Int32) (x : Nat) : kX en bf x = avK en bf (pX en bf x) := Classical.choose_spec kX_ex en bf x
theorem uX_ex : ∃ f : Nat → (Nat → Int32) → Nat → Int32 → Int32, ∀ (en : Nat) (bf : Nat → Int32) (x : Nat) (nu : Int32), f en bf x nu = avU en bf (pX en bf x) nu := ⟨fun en bf x nu => avU en bf (pX en bf x) nu, fun _ _ _ _ => rfl⟩
def uX (en : Nat) (bf : Nat → Int32) (x : Nat) (nu : Int32) : Int32 := Classical.choose uX_ex en bf x nu
theorem uX_d (en : Nat) (bf : Nat → Int32) (x : Nat) (nu : Int32) : uX en bf x nu = avU en bf (pX en bf x) nu := Classical.choose_spec uX_ex en bf x nu
theorem wX_ex : ∃ f : Nat → (Nat → Int32) → Nat → Nat, ∀ (en : Nat) (bf : Nat → Int32) (x : Nat), f en bf x = avW en bf (pX en bf x) := ⟨fun en bf x => avW en bf (pX en bf x), fun _ _ _ => rfl⟩
def wX (en : Nat) (bf : Nat → Int32) (x : Nat) : Nat := Classical.choose wX_ex en bf x
theorem wX_d (en : Nat) (bf : Nat → Int32) (x : Nat) : wX en bf x = avW en bf (pX en bf x) := Classical.choose_spec wX_ex en bf x
theorem wX_lt (en : Nat) (bf : Nat → Int32) (x : Nat) : wX en bf x < 20 := by rw [wX_d]; exact avW_lt _ _ _
/-- the tape when the token that is scanned from x on is read; nu: the number that was read ahead -/
def tapeX (ad : Nat → Nat) (ta : Nat) (ln : Int32) (en : Nat) (bf : Nat → Int32) (x : Nat) (nu : Int32) : List Value := tapeF ad ta ln (nI en) (nI (nX en bf x)) (nI (pX en bf x)) (kX en bf x) (uX en bf x nu) (wX en bf x)
theorem skS_le {en : Nat} {bf : Nat → Int32} (he : en ≤ 700) : ∀ (r x : Nat), x ≤ en → skS en bf r x ≤ en
  | 0, x, h => h
  | r + 1, x, h => by
    rw [skS]
    by_cases h1 : nI en ≤ nI x
    · rw [if_pos h1]; exact h
    · have h2 : x < en := Nat.lt_of_not_le (fun q => h1 (nI_le q (by omega)))
      rw [if_neg h1]
      (repeat' split) <;> first | exact skS_le he r (x + 1) (by omega) | exact h
theorem rgS_le {en : Nat} {bf : Nat → Int32} {le di : Int32} (he : en ≤ 700) : ∀ (r x : Nat), x ≤ en → x ≤ rgS en bf le di r x ∧ rgS en bf le di r x ≤ en
  | 0, x, h => ⟨Nat.le_refl _, h⟩
  | r + 1, x, h => by
    rw [rgS]
    by_cases h1 : nI en ≤ nI x
    · rw [if_pos h1]; exact ⟨Nat.le_refl _, h⟩
    · have h2 : x < en := Nat.lt_of_not_le (fun q => h1 (nI_le q (by omega)))
      have h3 := rgS_le (bf := bf) (le := le) (di := di) he r (x + 1) (by omega)
      rw [if_neg h1]
      (repeat' split) <;> first | exact ⟨by omega, h3.2⟩ | exact ⟨Nat.le_refl _, h⟩
theorem skS_ge {en : Nat} {bf : Nat → Int32} : ∀ (r x : Nat), x ≤ skS en bf r x
  | 0, x => Nat.le_refl _
  | r + 1, x => by
    rw [skS]
    have h3 := skS_ge (en := en) (bf := bf) r (x + 1)
    (repeat' split) <;> omega
theorem nX_le {en : Nat} {bf : Nat → Int32} {x : Nat} (hx : x ≤ en) (he : en ≤ 700) : nX en bf x ≤ en := by
  have h1 : pX en bf x ≤ en := by rw [pX_d]; exact skS_le (bf := bf) he 701 x hx
  rw [nX_d]
  unfold avN
  split
  · exact h1
  · rename_i h2
    have h3 := bA_lt he (by omega) h2
    exact (rgS_le he 701 _ (by omega)).2
theorem nX_ge {en : Nat} {bf : Nat → Int32} {x : Nat} (hx : x ≤ en) (he : en ≤ 700) : x ≤ nX en bf x := by
  have h1 : pX en bf x ≤ en := by rw [pX_d]; exact skS_le (bf := bf) he 701 x hx
  have h0 : x ≤ pX en bf x := by rw [pX_d]; exact skS_ge (en := en) (bf := bf) 701 x
  rw [nX_d]
  unfold avN
  split
  · exact h0
  · rename_i h2
    have h3 := bA_lt he (by omega) h2
    have h4 := (rgS_le (bf := bf) (le := s_X9_isLetter (s_X9_byteAt (nI en) bf (nI (pX en bf x)))) (di := s_X9_isDigit (s_X9_byteAt (nI en) bf (nI (pX en bf x)))) he 701 (pX en bf x + 1) (by omega)).1
    omega
/-- where a token is, it is gone over -/
theorem nX_gt {en : Nat} {bf : Nat → Int32} {x : Nat} (hx : x ≤ en) (he : en ≤ 700) (hk : ¬ kX en bf x = 0) : x < nX en bf x := by
  have h1 : pX en bf x ≤ en := by rw [pX_d]; exact skS_le (bf := bf) he 701 x hx
  have h0 : x ≤ pX en bf x := by rw [pX_d]; exact skS_ge (en := en) (bf := bf) 701 x
  rw [kX_d] at hk
  unfold avK at hk
  rw [nX_d]
  unfold avN
  split
  · rename_i h2; rw [if_pos h2] at hk; exact absurd rfl hk
  · rename_i h2
    have h3 := bA_lt he (by omega) h2
    have h4 := (rgS_le (bf := bf) (le := s_X9_isLetter (s_X9_byteAt (nI en) bf (nI (pX en bf x)))) (di := s_X9_isDigit (s_X9_byteAt (nI en) bf (nI (pX en bf x)))) he 701 (pX en bf x + 1) (by omega)).1
    omega
theorem wX_k {en : Nat} {bf : Nat → Int32} {x : Nat} (hw : ¬ wX en bf x = 0) : kX en bf x = 1 := by
  rw [wX_d] at hw
  unfold avW at hw
  rw [kX_d]
  unfold avK
  split at hw
  · exact absurd rfl hw
  · split at hw
    · exact absurd rfl hw
    · rename_i h1 h2; rw [if_neg h1, if_neg h2]
theorem wX_gt {en : Nat} {bf : Nat → Int32} {x : Nat} (hx : x ≤ en) (he : en ≤ 700) (hw : ¬ wX en bf x = 0) : x < nX en bf x := nX_gt hx he (by rw [wX_k hw]; decide)
theorem nmX_ex : ∃ f : Nat → (Nat → Int32) → Nat → Int32, ∀ (en : Nat) (bf : Nat → Int32) (x : Nat), f en bf x = fnS (nI en) bf (pX en bf x) (nX en bf x) := ⟨fun en bf x => fnS (nI en) bf (pX en bf x) (nX en bf x), fun _ _ _ => rfl⟩
def nmX (en : Nat) (bf : Nat → Int32) (x : Nat) : Int32 := Classical.choose nmX_ex en bf x
theorem nmX_d (en : Nat) (bf : Nat → Int32) (x : Nat) : nmX en bf x = fnS (nI en) bf (pX en bf x) (nX en bf x) := Classical.choose_spec nmX_ex en bf x
theorem uX_num {en : Nat} {bf : Nat → Int32} {x : Nat} {nu : Int32} (hk : kX en bf x = 2) : uX en bf x nu = nmX en bf x := by
  rw [kX_d] at hk
  unfold avK at hk
  rw [uX_d, nmX_d, nX_d]
  unfold avU
  split at hk
  · exact absurd hk (by decide)
  · rename_i h1
    rw [if_neg h1]
    split at hk
    · rename_i h2
      rw [if_pos h2]
      split at hk
      · split at hk
        · exact absurd hk (by decide)
        · rename_i h4
          exact absurd (by rw [hk]; decide) h4
      · rename_i h3
        rw [if_neg h3]
    · exact absurd hk (by decide)
def pk0 {α : Type} (c : Int32) (a b : α) : α := if c = 0 then a else b
theorem pk0_t {α : Type} {c : Int32} (h : c = 0) (a b : α) : pk0 c a b = a := if_pos h
theorem pk0_f {α : Type} {c : Int32} (h : ¬ c = 0) (a b : α) : pk0 c a b = b := if_neg h
theorem pk0_z {α : Type} (a b : α) : pk0 (0 : Int32) a b = a := pk0_t rfl a b
theorem pk0_o {α : Type} (a b : α) : pk0 (1 : Int32) a b = b := pk0_f (by decide) a b
/-- what is wrong where a number isn't as it should be -/
def fkN (en : Nat) (bf : Nat → Int32) (x : Nat) : Int32 := if kX en bf x = 2 then 2 else 1
theorem c_X9_adv (l : Launch) (D : va_G) (cB cI cJ : ClassId) (ad : Nat → Nat) (n : Nat) (M : Nat → va_E) (hI : ipI ad n) (ta en x : Nat) (ln nu : Int32) (bf : Nat → Int32) (h_ta : ta < n) (h_ta_1 : ta + 1 < n) (m_ta : M ta = .inr (9, tapeX ad ta ln en bf x nu)) (m_ta_1 : M (ta + 1) = .inl (cB, 700, .inl bf)) (hxe : x ≤ en) (hen : en ≤ 700) : cWv l D cB cI cJ ad n M yX9_advance wsX9_advance 5 109 [.ref (ad ta)] (fun M' => M' ta = .inr (9, tapeX ad ta ln en bf (nX en bf x) (uX en bf x nu)) ∧ ∀ q : Nat, q ≠ ta → M' q = M q) := by
  have h := c_X9_advance l D cB cI cJ ad n M hI ta en (nX en bf x) (wX en bf x) ln (kX en bf x) (uX en bf x nu) bf (nI (pX en bf x)) h_ta h_ta_1 m_ta m_ta_1 (nX_le hxe hen) hen
  simp only [← pX_d, ← nX_d, ← kX_d, ← uX_d, ← wX_d] at h
  exact h
set_option maxRecDepth 20000 in
theorem fX4_refuse_24 : FL wsX4_refuse RX4 24 4 2 := ⟨RX4, TX4, 3, rfl, by decide +kernel, by decide, by decide +kernel⟩
theorem fw_4_2 : FW 4 2 .int := ⟨RX4, TX4, 3, tyX4, rfl, tyX4_ok, nmX4, by decide, rfl, by decide +kernel⟩
set_option maxHeartbeats 2000000 in
set_option maxRecDepth 100000 in
theorem c_X4_refuse (l : Launch) (D : va_G) (cB cI cJ : ClassId) (ad : Nat → Nat) (n : Nat) (M : Nat → va_E) (hI : ipI ad n) (rd ta h en x : Nat) (ln nu ft : Int32) (bf : Nat → Int32) (z : Int32) (h_ta : ta < n) (h_ta_1 : ta + 1 < n) (h_rd : rd < n) (m_ta : M ta = .inr (9, tapeX ad ta ln en bf x nu)) (m_ta_1 : M (ta + 1) = .inl (cB, 700, .inl bf)) (m_rd : M rd = .inr (4, [.ref (ad ta), .ref (ad h), .int ft])) (hxe : x ≤ en) (hen : en ≤ 700) (srt : rd < ta ∨ ta + 1 < rd) : cWi l D cB cI cJ ad n M yX4_refuse wsX4_refuse 0 0 [.ref (ad rd), .int z] (fun r M' => r = 0 ∧ M' rd = .inr (4, [.ref (ad ta), .ref (ad h), .int z]) ∧ ∀ q : Nat, q ≠ rd → M' q = M q) := by
  refine q_body (cc := cX4_refuse) (maxL := 2) (ret := (some .boolean)) (by decide) rfl (Nat.le_of_ble_eq_true rfl) ?_
  intro p e s m args below meth c ls X hr hlocks hK hP hl
  obtain ⟨hx, hb, hml, hown, hts⟩ := id X
  have hS : va_S (ipA ad n) s.heap s.heap [] := va_S.rf
  have hl : lv_has ls 2 [(0, .ref (ad rd)), (1, .int z)] := hl
  refine lv_aload_n hx hb dX4_refuse_0 rfl (lv_at hl 0 rfl) ?_
  refine lv_iload_n hx hb dX4_refuse_1 rfl (lv_at hl 1 rfl) ?_
  refine q_put (fs := [.ref (ad ta), .ref (ad h), .int ft]) (fs' := [.ref (ad ta), .ref (ad h), .int z]) X hK hI hP hS fX4_refuse_24 fw_4_2 h_rd m_rd rfl rfl (Nat.le_of_ble_eq_true rfl) rfl dX4_refuse_2 (fun H locs hP hS => ?_)
  refine lv_iconst (v := 0) hx hb dX4_refuse_5 (by decide) ?_
  exact q_wzret X hr hlocks hP hS (rfl) ⟨(by rfl), (va_up_self M rd (.inr (4, [.ref (ad ta), .ref (ad h), .int z]))), (fun q n0 => (va_up_ne _ _ n0))⟩ dX4_refuse_6
set_option maxRecDepth 20000 in
theorem fX4_takeLineEnd_9 : FL wsX4_takeLineEnd RX4 9 4 0 := ⟨RX4, TX4, 3, rfl, by decide +kernel, by decide, by decide +kernel⟩
set_option maxRecDepth 20000 in
theorem fX4_takeLineEnd_34 : FL wsX4_takeLineEnd RX4 34 9 5 := ⟨RX9, TX9, 8, rfl, by decide +kernel, by decide, by decide +kernel⟩
theorem yd_X9_advance : YD yX9_advance 0 := ⟨by decide +kernel, by decide +kernel, by decide +kernel⟩
theorem yd_X4_refuse : YD yX4_refuse 1 := ⟨by decide +kernel, by decide +kernel, by decide +kernel⟩
def s_X4_takeLineEnd (en : Nat) (x : Nat) (bf : Nat → Int32) : Int32 := if (kX en bf x) = 59 then 1 else (0)
set_option maxHeartbeats 2000000 in
set_option maxRecDepth 100000 in
theorem c_X4_takeLineEnd (l : Launch) (D : va_G) (cB cI cJ : ClassId) (ad : Nat → Nat) (n : Nat) (M : Nat → va_E) (hI : ipI ad n) (rd ta h en x : Nat) (ln nu ft : Int32) (bf : Nat → Int32) (h_ta : ta < n) (h_ta_1 : ta + 1 < n) (h_rd : rd < n) (m_ta : M ta = .inr (9, tapeX ad ta ln en bf x nu)) (m_ta_1 : M (ta + 1) = .inl (cB, 700, .inl bf)) (m_rd : M rd = .inr (4, [.ref (ad ta), .ref (ad h), .int ft])) (hxe : x ≤ en) (hen : en ≤ 700) (srt : rd < ta ∨ ta + 1 < rd) : cWi l D cB cI cJ ad n M yX4_takeLineEnd wsX4_takeLineEnd 6 132 [.ref (ad rd)] (fun r M' => ∃ (v0 : Int32), r = s_X4_takeLineEnd en x bf ∧ M' ta = .inr (9, tapeX ad ta ln en bf (pk0 (s_X4_takeLineEnd en x bf) x (nX en bf x)) v0) ∧ M' rd = .inr (4, [.ref (ad ta), .ref (ad h), .int (pk0 (s_X4_takeLineEnd en x bf) 1 ft)]) ∧ ∀ q : Nat, q ≠ ta → q ≠ rd → M' q = M q) := by
  refine q_body (cc := cX4_takeLineEnd) (maxL := 1) (ret := (some .boolean)) (by decide) rfl (Nat.le_of_ble_eq_true rfl) ?_
  intro p e s m args below meth c ls X hr hlocks hK hP hl
  obtain ⟨hx, hb, hml, hown, hts⟩ := id X
  have hS : va_S (ipA ad n) s.heap s.heap [] := va_S.rf
  have hl : lv_has ls 1 [(0, .ref (ad rd))] := hl
  refine lv_aload_n hx hb dX4_takeLineEnd_0 rfl (lv_at hl 0 rfl) ?_
  refine q_get (v := .ref (ad ta)) (fs := [.ref (ad ta), .ref (ad h), .int ft]) X hK hP fX4_takeLineEnd_9 h_rd m_rd rfl dX4_takeLineEnd_1 ?_
  refine q_get (v := .int (kX en bf x)) (fs := tapeX ad ta ln en bf x nu) X hK hP fX4_takeLineEnd_34 h_ta m_ta rfl dX4_takeLineEnd_4 ?_
  refine lv_bipush (v := 59) hx hb dX4_takeLineEnd_7 (by decide) ?_
  refine lv_icmp_eq (tgt := 18) hx hb dX4_takeLineEnd_9 (by decide) (fun c_9 => ?_) (fun c_9 => ?_)
  · skip
    refine lv_aload_n hx hb dX4_takeLineEnd_18 rfl (lv_at hl 0 rfl) ?_
    refine q_get (v := .ref (ad ta)) (fs := [.ref (ad ta), .ref (ad h), .int ft]) X hK hP fX4_takeLineEnd_9 h_rd m_rd rfl dX4_takeLineEnd_19 ?_
    refine q_wrVv (As := []) (rest := []) (c_X9_adv l D cB cI cJ ad n M hI ta en x ln nu bf h_ta h_ta_1 m_ta m_ta_1 hxe hen) X hK hP hS hl.1 rfl gX4_takeLineEnd_X9_advance yd_X9_advance ⟨Nat.le_of_ble_eq_true rfl, Nat.le_of_ble_eq_true rfl⟩ h_ta m_ta (ci := 9) rfl rfl (Nat.le_of_ble_eq_true rfl) ⟨Nat.zero_le _, Nat.zero_le _⟩ dX4_takeLineEnd_22 (fun M2 H locs hp1 hP hS => ?_)
    obtain ⟨g4, fr5⟩ := hp1
    refine lv_iconst (v := 1) hx hb dX4_takeLineEnd_25 (by decide) ?_
    exact q_wzret X hr hlocks hP hS (rfl) ⟨(uX en bf x nu), (by rw [s_X4_takeLineEnd, if_pos c_9]), (by refine g4.trans ?_; rw [s_X4_takeLineEnd, if_pos c_9]; simp only [pk0_z, pk0_o]), (by refine ((fr5 rd (by omega)).trans m_rd).trans ?_; rw [s_X4_takeLineEnd, if_pos c_9]; simp only [pk0_z, pk0_o]), (fun q n0 n1 => (fr5 q n0))⟩ dX4_takeLineEnd_26
  · skip
    refine lv_aload_n hx hb dX4_takeLineEnd_12 rfl (lv_at hl 0 rfl) ?_
    refine lv_iconst (v := 1) hx hb dX4_takeLineEnd_13 (by decide) ?_
    refine q_wrVi (As := [.int 1]) (rest := []) (c_X4_refuse l D cB cI cJ ad n M hI rd ta h en x ln nu ft bf 1 h_ta h_ta_1 h_rd m_ta m_ta_1 m_rd hxe hen srt) X hK hP hS hl.1 rfl gX4_takeLineEnd_X4_refuse yd_X4_refuse ⟨Nat.le_of_ble_eq_true rfl, Nat.le_of_ble_eq_true rfl⟩ h_rd m_rd (ci := 4) rfl rfl (Nat.le_of_ble_eq_true rfl) ⟨Nat.zero_le _, Nat.zero_le _⟩ dX4_takeLineEnd_14 (fun r8 M7 H locs hp6 hP hS => ?_)
    obtain ⟨rfl, g9, fr10⟩ := hp6
    exact q_wzret X hr hlocks hP hS (rfl) ⟨nu, (by rw [s_X4_takeLineEnd, if_neg c_9]), (by refine ((fr10 ta (by omega)).trans m_ta).trans ?_; rw [s_X4_takeLineEnd, if_neg c_9]; simp only [pk0_z, pk0_o]), (by refine g9.trans ?_; rw [s_X4_takeLineEnd, if_neg c_9]; simp only [pk0_z, pk0_o]), (fun q n0 n1 => (fr10 q n1))⟩ dX4_takeLineEnd_17
set_option maxRecDepth 20000 in
theorem fX4_isNumber_9 : FL wsX4_isNumber RX4 9 4 0 := ⟨RX4, TX4, 3, rfl, by decide +kernel, by decide, by decide +kernel⟩
set_option maxRecDepth 20000 in
theorem fX4_isNumber_34 : FL wsX4_isNumber RX4 34 9 5 := ⟨RX9, TX9, 8, rfl, by decide +kernel, by decide, by decide +kernel⟩
set_option maxRecDepth 20000 in
theorem fX4_isNumber_93 : FL wsX4_isNumber RX4 93 9 6 := ⟨RX9, TX9, 8, rfl, by decide +kernel, by decide, by decide +kernel⟩
def s_X4_isNumber (en : Nat) (x : Nat) (bf : Nat → Int32) (z1 : Int32) (z2 : Int32) : Int32 := if (kX en bf x) = 2 then if (nmX en bf x) < z1 then 0 else if (nmX en bf x) ≤ z2 then 1 else 0 else (0)
set_option maxHeartbeats 2000000 in
set_option maxRecDepth 100000 in
theorem c_X4_isNumber (l : Launch) (D : va_G) (cB cI cJ : ClassId) (ad : Nat → Nat) (n : Nat) (M : Nat → va_E) (hI : ipI ad n) (rd ta h en x : Nat) (ln nu ft : Int32) (bf : Nat → Int32) (z1 : Int32) (z2 : Int32) (h_ta : ta < n) (h_ta_1 : ta + 1 < n) (h_rd : rd < n) (m_ta : M ta = .inr (9, tapeX ad ta ln en bf x nu)) (m_ta_1 : M (ta + 1) = .inl (cB, 700, .inl bf)) (m_rd : M rd = .inr (4, [.ref (ad ta), .ref (ad h), .int ft])) (hxe : x ≤ en) (hen : en ≤ 700) (srt : rd < ta ∨ ta + 1 < rd) : cWi l D cB cI cJ ad n M yX4_isNumber wsX4_isNumber 1 21 [.ref (ad rd), .int z1, .int z2] (fun r M' => r = s_X4_isNumber en x bf z1 z2 ∧ M' rd = .inr (4, [.ref (ad ta), .ref (ad h), .int (pk0 (s_X4_isNumber en x bf z1 z2) (fkN en bf x) ft)]) ∧ ∀ q : Nat, q ≠ rd → M' q = M q) := by
  refine q_body (cc := cX4_isNumber) (maxL := 3) (ret := (some .boolean)) (by decide) rfl (Nat.le_of_ble_eq_true rfl) ?_
  intro p e s m args below meth c ls X hr hlocks hK hP hl
  obtain ⟨hx, hb, hml, hown, hts⟩ := id X
  have hS : va_S (ipA ad n) s.heap s.heap [] := va_S.rf
  have hl : lv_has ls 3 [(0, .ref (ad rd)), (1, .int z1), (2, .int z2)] := hl
  refine lv_aload_n hx hb dX4_isNumber_0 rfl (lv_at hl 0 rfl) ?_
  refine q_get (v := .ref (ad ta)) (fs := [.ref (ad ta), .ref (ad h), .int ft]) X hK hP fX4_isNumber_9 h_rd m_rd rfl dX4_isNumber_1 ?_
  refine q_get (v := .int (kX en bf x)) (fs := tapeX ad ta ln en bf x nu) X hK hP fX4_isNumber_34 h_ta m_ta rfl dX4_isNumber_4 ?_
  refine lv_iconst (v := 2) hx hb dX4_isNumber_7 (by decide) ?_
  refine lv_icmp_eq (tgt := 17) hx hb dX4_isNumber_8 (by decide) (fun c_8 => ?_) (fun c_8 => ?_)
  · skip
    refine lv_aload_n hx hb dX4_isNumber_17 rfl (lv_at hl 0 rfl) ?_
    refine q_get (v := .ref (ad ta)) (fs := [.ref (ad ta), .ref (ad h), .int ft]) X hK hP fX4_isNumber_9 h_rd m_rd rfl dX4_isNumber_18 ?_
    refine q_get (v := .int (uX en bf x nu)) (fs := tapeX ad ta ln en bf x nu) X hK hP fX4_isNumber_93 h_ta m_ta rfl dX4_isNumber_21 ?_
    refine lv_topi (fun z1 e2 => ?_)
    obtain rfl : z1 = (nmX en bf x) := e2.trans (uX_num c_8 : (uX en bf x nu) = (nmX en bf x))
    refine lv_iload_n hx hb dX4_isNumber_24 rfl (lv_at hl 1 rfl) ?_
    refine lv_icmp_lt (tgt := 39) hx hb dX4_isNumber_25 (by decide) (fun c_25 => ?_) (fun c_25 => ?_)
    · skip
      refine lv_aload_n hx hb dX4_isNumber_39 rfl (lv_at hl 0 rfl) ?_
      refine lv_iconst (v := 2) hx hb dX4_isNumber_40 (by decide) ?_
      refine q_wrVi (As := [.int 2]) (rest := []) (c_X4_refuse l D cB cI cJ ad n M hI rd ta h en x ln nu ft bf 2 h_ta h_ta_1 h_rd m_ta m_ta_1 m_rd hxe hen srt) X hK hP hS hl.1 rfl gX4_isNumber_X4_refuse yd_X4_refuse ⟨Nat.le_of_ble_eq_true rfl, Nat.le_of_ble_eq_true rfl⟩ h_rd m_rd (ci := 4) rfl rfl (Nat.le_of_ble_eq_true rfl) ⟨Nat.zero_le _, Nat.zero_le _⟩ dX4_isNumber_41 (fun r5 M4 H locs hp3 hP hS => ?_)
      obtain ⟨rfl, g6, fr7⟩ := hp3
      refine lv_if_eq (tgt := 51) hx hb dX4_isNumber_44 (by decide) (fun c_44 => ?_) (fun c_44 => ?_)
      · clear c_44
        refine lv_iconst (v := 0) hx hb dX4_isNumber_51 (by decide) ?_
        exact q_wzret X hr hlocks hP hS (rfl) ⟨(by rw [s_X4_isNumber, if_pos c_8, if_pos c_25]), (by refine g6.trans ?_; simp only [s_X4_isNumber, fkN, if_pos c_8, if_pos c_25, pk0_z, pk0_o]), (fun q n0 => (fr7 q n0))⟩ dX4_isNumber_52
      · exact absurd c_44 (by decide)
    · skip
      refine lv_aload_n hx hb dX4_isNumber_28 rfl (lv_at hl 0 rfl) ?_
      refine q_get (v := .ref (ad ta)) (fs := [.ref (ad ta), .ref (ad h), .int ft]) X hK hP fX4_isNumber_9 h_rd m_rd rfl dX4_isNumber_29 ?_
      refine q_get (v := .int (uX en bf x nu)) (fs := tapeX ad ta ln en bf x nu) X hK hP fX4_isNumber_93 h_ta m_ta rfl dX4_isNumber_32 ?_
      refine lv_topi (fun z8 e9 => ?_)
      obtain rfl : z8 = (nmX en bf x) := e9.trans (uX_num c_8 : (uX en bf x nu) = (nmX en bf x))
      refine lv_iload_n hx hb dX4_isNumber_35 rfl (lv_at hl 2 rfl) ?_
      refine lv_icmp_le (tgt := 47) hx hb dX4_isNumber_36 (by decide) (fun c_36 => ?_) (fun c_36 => ?_)
      · skip
        refine lv_iconst (v := 1) hx hb dX4_isNumber_47 (by decide) ?_
        refine lv_goto (tgt := 52) hx hb dX4_isNumber_48 (by decide) ?_
        exact q_wzret X hr hlocks hP hS (rfl) ⟨(by rw [s_X4_isNumber, if_pos c_8, if_neg c_25, if_pos c_36]), (by refine m_rd.trans ?_; simp only [s_X4_isNumber, fkN, if_pos c_8, if_neg c_25, if_pos c_36, pk0_z, pk0_o]), (fun q n0 => rfl)⟩ dX4_isNumber_52
      · skip
        refine lv_aload_n hx hb dX4_isNumber_39 rfl (lv_at hl 0 rfl) ?_
        refine lv_iconst (v := 2) hx hb dX4_isNumber_40 (by decide) ?_
        refine q_wrVi (As := [.int 2]) (rest := []) (c_X4_refuse l D cB cI cJ ad n M hI rd ta h en x ln nu ft bf 2 h_ta h_ta_1 h_rd m_ta m_ta_1 m_rd hxe hen srt) X hK hP hS hl.1 rfl gX4_isNumber_X4_refuse yd_X4_refuse ⟨Nat.le_of_ble_eq_true rfl, Nat.le_of_ble_eq_true rfl⟩ h_rd m_rd (ci := 4) rfl rfl (Nat.le_of_ble_eq_true rfl) ⟨Nat.zero_le _, Nat.zero_le _⟩ dX4_isNumber_41 (fun r12 M11 H locs hp10 hP hS => ?_)
        obtain ⟨rfl, g13, fr14⟩ := hp10
        refine lv_if_eq (tgt := 51) hx hb dX4_isNumber_44 (by decide) (fun c_44 => ?_) (fun c_44 => ?_)
        · clear c_44
          refine lv_iconst (v := 0) hx hb dX4_isNumber_51 (by decide) ?_
          exact q_wzret X hr hlocks hP hS (rfl) ⟨(by rw [s_X4_isNumber, if_pos c_8, if_neg c_25, if_neg c_36]), (by refine g13.trans ?_; simp only [s_X4_isNumber, fkN, if_pos c_8, if_neg c_25, if_neg c_36, pk0_z, pk0_o]), (fun q n0 => (fr14 q n0))⟩ dX4_isNumber_52
        · exact absurd c_44 (by decide)
  · skip
    refine lv_aload_n hx hb dX4_isNumber_11 rfl (lv_at hl 0 rfl) ?_
    refine lv_iconst (v := 1) hx hb dX4_isNumber_12 (by decide) ?_
    refine q_wrVi (As := [.int 1]) (rest := []) (c_X4_refuse l D cB cI cJ ad n M hI rd ta h en x ln nu ft bf 1 h_ta h_ta_1 h_rd m_ta m_ta_1 m_rd hxe hen srt) X hK hP hS hl.1 rfl gX4_isNumber_X4_refuse yd_X4_refuse ⟨Nat.le_of_ble_eq_true rfl, Nat.le_of_ble_eq_true rfl⟩ h_rd m_rd (ci := 4) rfl rfl (Nat.le_of_ble_eq_true rfl) ⟨Nat.zero_le _, Nat.zero_le _⟩ dX4_isNumber_13 (fun r17 M16 H locs hp15 hP hS => ?_)
    obtain ⟨rfl, g18, fr19⟩ := hp15
    exact q_wzret X hr hlocks hP hS (rfl) ⟨(by rw [s_X4_isNumber, if_neg c_8]), (by refine g18.trans ?_; simp only [s_X4_isNumber, fkN, if_neg c_8, pk0_z, pk0_o]), (fun q n0 => (fr19 q n0))⟩ dX4_isNumber_16
theorem isN01 {en x : Nat} {z1 z2 : Int32} {bf : Nat → Int32} (h : ¬ s_X4_isNumber en x bf z1 z2 = 0) : s_X4_isNumber en x bf z1 z2 = 1 := by
  unfold s_X4_isNumber at *
  (repeat' split) <;> simp_all
theorem isN_k {en x : Nat} {z1 z2 : Int32} {bf : Nat → Int32} (h : ¬ s_X4_isNumber en x bf z1 z2 = 0) : kX en bf x = 2 := Classical.byContradiction fun q => h (by rw [s_X4_isNumber, if_neg q])
def fkT (en x : Nat) (bf : Nat → Int32) : Int32 := if s_X4_isNumber en x bf 0 9999 = 0 then fkN en bf x else 3
theorem yd_X4_isNumber : YD yX4_isNumber 2 := ⟨by decide +kernel, by decide +kernel, by decide +kernel⟩
set_option maxRecDepth 20000 in
theorem fX4_isTold_9 : FL wsX4_isTold RX4 9 4 0 := ⟨RX4, TX4, 3, rfl, by decide +kernel, by decide, by decide +kernel⟩
set_option maxRecDepth 20000 in
theorem fX4_isTold_93 : FL wsX4_isTold RX4 93 9 6 := ⟨RX9, TX9, 8, rfl, by decide +kernel, by decide, by decide +kernel⟩
def s_X4_isTold (en : Nat) (x : Nat) (bf : Nat → Int32) (z : Int32) : Int32 := if (s_X4_isNumber en x bf 0 9999) = 0 then 0 else if (nmX en bf x) < z then 1 else 0
set_option maxHeartbeats 2000000 in
set_option maxRecDepth 100000 in
theorem c_X4_isTold (l : Launch) (D : va_G) (cB cI cJ : ClassId) (ad : Nat → Nat) (n : Nat) (M : Nat → va_E) (hI : ipI ad n) (rd ta h en x : Nat) (ln nu ft : Int32) (bf : Nat → Int32) (z : Int32) (h_ta : ta < n) (h_ta_1 : ta + 1 < n) (h_rd : rd < n) (m_ta : M ta = .inr (9, tapeX ad ta ln en bf x nu)) (m_ta_1 : M (ta + 1) = .inl (cB, 700, .inl bf)) (m_rd : M rd = .inr (4, [.ref (ad ta), .ref (ad h), .int ft])) (hxe : x ≤ en) (hen : en ≤ 700) (srt : rd < ta ∨ ta + 1 < rd) : cWi l D cB cI cJ ad n M yX4_isTold wsX4_isTold 2 43 [.ref (ad rd), .int z] (fun r M' => r = s_X4_isTold en x bf z ∧ M' rd = .inr (4, [.ref (ad ta), .ref (ad h), .int (pk0 (s_X4_isTold en x bf z) (fkT en x bf) ft)]) ∧ ∀ q : Nat, q ≠ rd → M' q = M q) := by
  refine q_body (cc := cX4_isTold) (maxL := 2) (ret := (some .boolean)) (by decide) rfl (Nat.le_of_ble_eq_true rfl) ?_
  intro p e s m args below meth c ls X hr hlocks hK hP hl
  obtain ⟨hx, hb, hml, hown, hts⟩ := id X
  have hS : va_S (ipA ad n) s.heap s.heap [] := va_S.rf
  have hl : lv_has ls 2 [(0, .ref (ad rd)), (1, .int z)] := hl
  refine lv_aload_n hx hb dX4_isTold_0 rfl (lv_at hl 0 rfl) ?_
  refine lv_iconst (v := 0) hx hb dX4_isTold_1 (by decide) ?_
  refine lv_sipush (v := 9999) hx hb dX4_isTold_2 (by decide) ?_
  refine q_wrVi (As := [.int 0, .int 9999]) (rest := []) (c_X4_isNumber l D cB cI cJ ad n M hI rd ta h en x ln nu ft bf 0 9999 h_ta h_ta_1 h_rd m_ta m_ta_1 m_rd hxe hen srt) X hK hP hS hl.1 rfl gX4_isTold_X4_isNumber yd_X4_isNumber ⟨Nat.le_of_ble_eq_true rfl, Nat.le_of_ble_eq_true rfl⟩ h_rd m_rd (ci := 4) rfl rfl (Nat.le_of_ble_eq_true rfl) ⟨Nat.zero_le _, Nat.zero_le _⟩ dX4_isTold_5 (fun r3 M2 H locs hp1 hP hS => ?_)
  obtain ⟨rfl, g4, fr5⟩ := hp1
  refine lv_if_eq (tgt := 34) hx hb dX4_isTold_8 (by decide) (fun c_8 => ?_) (fun c_8 => ?_)
  · skip
    have g6 : M2 rd = .inr (4, [.ref (ad ta), .ref (ad h), .int (fkN en bf x)]) := by refine g4.trans ?_; simp only [pk0_t c_8]
    refine lv_iconst (v := 0) hx hb dX4_isTold_34 (by decide) ?_
    exact q_wzret X hr hlocks hP hS (rfl) ⟨(by rw [s_X4_isTold, if_pos c_8]), (by refine g6.trans ?_; simp only [s_X4_isTold, fkT, if_pos c_8, pk0_z, pk0_o]), (fun q n0 => (fr5 q n0))⟩ dX4_isTold_35
  · skip
    have g7 : M2 rd = .inr (4, [.ref (ad ta), .ref (ad h), .int ft]) := by refine g4.trans ?_; simp only [pk0_f c_8]
    refine lv_aload_n hx hb dX4_isTold_11 rfl (lv_at hl 0 rfl) ?_
    refine q_get (v := .ref (ad ta)) (fs := [.ref (ad ta), .ref (ad h), .int ft]) X hK hP fX4_isTold_9 h_rd g7 rfl dX4_isTold_12 ?_
    refine q_get (v := .int (uX en bf x nu)) (fs := tapeX ad ta ln en bf x nu) X hK hP fX4_isTold_93 h_ta ((fr5 ta (by omega)).trans m_ta) rfl dX4_isTold_15 ?_
    refine lv_topi (fun z8 e9 => ?_)
    obtain rfl : z8 = (nmX en bf x) := e9.trans (uX_num (isN_k c_8) : (uX en bf x nu) = (nmX en bf x))
    refine lv_iload_n hx hb dX4_isTold_18 rfl (lv_at hl 1 rfl) ?_
    refine lv_icmp_lt (tgt := 30) hx hb dX4_isTold_19 (by decide) (fun c_19 => ?_) (fun c_19 => ?_)
    · skip
      refine lv_iconst (v := 1) hx hb dX4_isTold_30 (by decide) ?_
      refine lv_goto (tgt := 35) hx hb dX4_isTold_31 (by decide) ?_
      exact q_wzret X hr hlocks hP hS (rfl) ⟨(by rw [s_X4_isTold, if_neg c_8, if_pos c_19]), (by refine g7.trans ?_; simp only [s_X4_isTold, fkT, if_neg c_8, if_pos c_19, pk0_z, pk0_o]), (fun q n0 => (fr5 q n0))⟩ dX4_isTold_35
    · skip
      refine lv_aload_n hx hb dX4_isTold_22 rfl (lv_at hl 0 rfl) ?_
      refine lv_iconst (v := 3) hx hb dX4_isTold_23 (by decide) ?_
      refine q_wrVi (As := [.int 3]) (rest := []) (c_X4_refuse l D cB cI cJ ad n M2 hI rd ta h en x ln nu ft bf 3 h_ta h_ta_1 h_rd ((fr5 ta (by omega)).trans m_ta) ((fr5 (ta + 1) (by omega)).trans m_ta_1) g7 hxe hen srt) X hK hP hS hl.1 rfl gX4_isTold_X4_refuse yd_X4_refuse ⟨Nat.le_of_ble_eq_true rfl, Nat.le_of_ble_eq_true rfl⟩ h_rd g7 (ci := 4) rfl rfl (Nat.le_of_ble_eq_true rfl) ⟨Nat.zero_le _, Nat.zero_le _⟩ dX4_isTold_24 (fun r12 M11 H locs hp10 hP hS => ?_)
      obtain ⟨rfl, g13, fr14⟩ := hp10
      refine lv_if_eq (tgt := 34) hx hb dX4_isTold_27 (by decide) (fun c_27 => ?_) (fun c_27 => ?_)
      · clear c_27
        refine lv_iconst (v := 0) hx hb dX4_isTold_34 (by decide) ?_
        exact q_wzret X hr hlocks hP hS (rfl) ⟨(by rw [s_X4_isTold, if_neg c_8, if_neg c_19]), (by refine g13.trans ?_; simp only [s_X4_isTold, fkT, if_neg c_8, if_neg c_19, pk0_z, pk0_o]), (fun q n0 => ((fr14 q n0).trans (fr5 q n0)))⟩ dX4_isTold_35
      · exact absurd c_27 (by decide)
theorem isT_k {en x : Nat} {z : Int32} {bf : Nat → Int32} (h : ¬ s_X4_isTold en x bf z = 0) : kX en bf x = 2 := isN_k (fun q => h (by rw [s_X4_isTold, if_pos q]))
set_option maxRecDepth 20000 in
theorem fX4_readNumber_9 : FL wsX4_readNumber RX4 9 4 0 := ⟨RX4, TX4, 3, rfl, by decide +kernel, by decide, by decide +kernel⟩
set_option maxRecDepth 20000 in
theorem fX4_readNumber_93 : FL wsX4_readNumber RX4 93 9 6 := ⟨RX9, TX9, 8, rfl, by decide +kernel, by decide, by decide +kernel⟩
set_option maxHeartbeats 2000000 in
set_option maxRecDepth 100000 in
theorem c_X4_readNumber (l : Launch) (D : va_G) (cB cI cJ : ClassId) (ad : Nat → Nat) (n : Nat) (M : Nat → va_E) (hI : ipI ad n) (rd ta h en x : Nat) (ln nu ft : Int32) (bf : Nat → Int32) (k1 : Nat) (cn : Int32) (gf : Nat → Int32) (tb : Nat) (z1 : Int32) (z2 : Int32) (z3 : Int32) (z4 : Int32) (h_ta : ta < n) (h_ta_1 : ta + 1 < n) (h_rd : rd < n) (h_tb : tb < n) (h_tb_1 : tb + 1 < n) (m_ta : M ta = .inr (9, tapeX ad ta ln en bf x nu)) (m_ta_1 : M (ta + 1) = .inl (cB, 700, .inl bf)) (m_rd : M rd = .inr (4, [.ref (ad ta), .ref (ad h), .int ft])) (m_tb : M tb = .inr (8, [.int cn, .ref (ad (tb + 1))])) (m_tb_1 : M (tb + 1) = .inl (cI, k1, .inl gf)) (hxe : x ≤ en) (hen : en ≤ 700) (srt : rd < ta ∨ ta + 1 < rd) (hk1 : k1 < 2 ^ 31) (stb : ta + 1 < tb ∨ tb + 1 < ta) (srb : rd < tb ∨ tb + 1 < rd) : cWi l D cB cI cJ ad n M yX4_readNumber wsX4_readNumber 6 132 [.ref (ad rd), .ref (ad tb), .int z1, .int z2, .int z3, .int z4] (fun r M' => ∃ (v0 : Int32), r = (s_X4_isNumber en x bf z3 z4) ∧ M' ta = .inr (9, tapeX ad ta ln en bf (pk0 (s_X4_isNumber en x bf z3 z4) x (nX en bf x)) v0) ∧ M' rd = .inr (4, [.ref (ad ta), .ref (ad h), .int (pk0 (s_X4_isNumber en x bf z3 z4) (fkN en bf x) ft)]) ∧ M' (tb + 1) = .inl (cI, k1, .inl (pk0 (s_X4_isNumber en x bf z3 z4) gf (tset k1 gf (z1 * cn + z2) (nmX en bf x)))) ∧ ∀ q : Nat, q ≠ ta → q ≠ rd → q ≠ tb + 1 → M' q = M q) := by
  refine q_body (cc := cX4_readNumber) (maxL := 6) (ret := (some .boolean)) (by decide) rfl (Nat.le_of_ble_eq_true rfl) ?_
  intro p e s m args below meth c ls X hr hlocks hK hP hl
  obtain ⟨hx, hb, hml, hown, hts⟩ := id X
  have hS : va_S (ipA ad n) s.heap s.heap [] := va_S.rf
  have hl : lv_has ls 6 [(0, .ref (ad rd)), (1, .ref (ad tb)), (2, .int z1), (3, .int z2), (4, .int z3), (5, .int z4)] := hl
  refine lv_aload_n hx hb dX4_readNumber_0 rfl (lv_at hl 0 rfl) ?_
  refine lv_iload hx hb dX4_readNumber_1 (lv_at hl 4 rfl) ?_
  refine lv_iload hx hb dX4_readNumber_3 (lv_at hl 5 rfl) ?_
  refine q_wrVi (As := [.int z3, .int z4]) (rest := []) (c_X4_isNumber l D cB cI cJ ad n M hI rd ta h en x ln nu ft bf z3 z4 h_ta h_ta_1 h_rd m_ta m_ta_1 m_rd hxe hen srt) X hK hP hS hl.1 rfl gX4_readNumber_X4_isNumber yd_X4_isNumber ⟨Nat.le_of_ble_eq_true rfl, Nat.le_of_ble_eq_true rfl⟩ h_rd m_rd (ci := 4) rfl rfl (Nat.le_of_ble_eq_true rfl) ⟨Nat.zero_le _, Nat.zero_le _⟩ dX4_readNumber_5 (fun r3 M2 H locs hp1 hP hS => ?_)
  obtain ⟨rfl, g4, fr5⟩ := hp1
  refine lv_if_ne (tgt := 13) hx hb dX4_readNumber_8 (by decide) (fun c_8 => ?_) (fun c_8 => ?_)
  · skip
    have g6 : M2 rd = .inr (4, [.ref (ad ta), .ref (ad h), .int ft]) := by refine g4.trans ?_; simp only [pk0_f c_8]
    refine lv_aload_n hx hb dX4_readNumber_13 rfl (lv_at hl 1 rfl) ?_
    refine lv_iload_n hx hb dX4_readNumber_14 rfl (lv_at hl 2 rfl) ?_
    refine lv_iload_n hx hb dX4_readNumber_15 rfl (lv_at hl 3 rfl) ?_
    refine lv_aload_n hx hb dX4_readNumber_16 rfl (lv_at hl 0 rfl) ?_
    refine q_get (v := .ref (ad ta)) (fs := [.ref (ad ta), .ref (ad h), .int ft]) X hK hP fX4_readNumber_9 h_rd g6 rfl dX4_readNumber_17 ?_
    refine q_get (v := .int (uX en bf x nu)) (fs := tapeX ad ta ln en bf x nu) X hK hP fX4_readNumber_93 h_ta ((fr5 ta (by omega)).trans m_ta) rfl dX4_readNumber_20 ?_
    refine lv_topi (fun z7 e8 => ?_)
    obtain rfl : z7 = (nmX en bf x) := e8.trans (uX_num (isN_k c_8) : (uX en bf x nu) = (nmX en bf x))
    refine q_wrVv (As := [.int z1, .int z2, .int (nmX en bf x)]) (rest := []) (c_X8_set_ l D cB cI cJ ad n M2 hI tb (tb + 1) k1 cn gf z1 z2 (nmX en bf x) h_tb h_tb_1 ((fr5 tb (by omega)).trans m_tb) ((fr5 (tb + 1) (by omega)).trans m_tb_1) hk1) X hK hP hS hl.1 rfl gX4_readNumber_X8_set_ yd_X8_set_ ⟨Nat.le_of_ble_eq_true rfl, Nat.le_of_ble_eq_true rfl⟩ h_tb ((fr5 tb (by omega)).trans m_tb) (ci := 8) rfl rfl (Nat.le_of_ble_eq_true rfl) ⟨Nat.zero_le _, Nat.zero_le _⟩ dX4_readNumber_23 (fun M10 H locs hp9 hP hS => ?_)
    obtain ⟨g12, fr13⟩ := hp9
    refine lv_aload_n hx hb dX4_readNumber_26 rfl (lv_at hl 0 rfl) ?_
    refine q_get (v := .ref (ad ta)) (fs := [.ref (ad ta), .ref (ad h), .int ft]) X hK hP fX4_readNumber_9 h_rd ((fr13 rd (by omega)).trans g6) rfl dX4_readNumber_27 ?_
    refine q_wrVv (As := []) (rest := []) (c_X9_adv l D cB cI cJ ad n M10 hI ta en x ln nu bf h_ta h_ta_1 ((fr13 ta (by omega)).trans ((fr5 ta (by omega)).trans m_ta)) ((fr13 (ta + 1) (by omega)).trans ((fr5 (ta + 1) (by omega)).trans m_ta_1)) hxe hen) X hK hP hS hl.1 rfl gX4_readNumber_X9_advance yd_X9_advance ⟨Nat.le_of_ble_eq_true rfl, Nat.le_of_ble_eq_true rfl⟩ h_ta ((fr13 ta (by omega)).trans ((fr5 ta (by omega)).trans m_ta)) (ci := 9) rfl rfl (Nat.le_of_ble_eq_true rfl) ⟨Nat.zero_le _, Nat.zero_le _⟩ dX4_readNumber_30 (fun M15 H locs hp14 hP hS => ?_)
    obtain ⟨g17, fr18⟩ := hp14
    refine lv_iconst (v := 1) hx hb dX4_readNumber_33 (by decide) ?_
    exact q_wzret X hr hlocks hP hS (rfl) ⟨(uX en bf x nu), (by exact (isN01 c_8).symm), (by refine g17.trans ?_; simp only [pk0_f c_8]), (by refine ((fr18 rd (by omega)).trans ((fr13 rd (by omega)).trans g6)).trans ?_; simp only [pk0_f c_8]), (by refine ((fr18 (tb + 1) (by omega)).trans g12).trans ?_; simp only [pk0_f c_8]), (fun q n0 n1 n2 => ((fr18 q n0).trans ((fr13 q n2).trans (fr5 q n1))))⟩ dX4_readNumber_34
  · skip
    have g19 : M2 rd = .inr (4, [.ref (ad ta), .ref (ad h), .int (fkN en bf x)]) := by refine g4.trans ?_; simp only [pk0_t c_8]
    refine lv_iconst (v := 0) hx hb dX4_readNumber_11 (by decide) ?_
    exact q_wzret X hr hlocks hP hS (rfl) ⟨nu, (by rw [c_8]), (by refine ((fr5 ta (by omega)).trans m_ta).trans ?_; simp only [pk0_t c_8]), (by refine g19.trans ?_; simp only [pk0_t c_8]), (by refine ((fr5 (tb + 1) (by omega)).trans m_tb_1).trans ?_; simp only [pk0_t c_8]), (fun q n0 n1 n2 => (fr5 q n1))⟩ dX4_readNumber_12
set_option maxRecDepth 20000 in
theorem fX4_takeNumber_9 : FL wsX4_takeNumber RX4 9 4 0 := ⟨RX4, TX4, 3, rfl, by decide +kernel, by decide, by decide +kernel⟩
set_option maxRecDepth 20000 in
theorem fX4_takeNumber_93 : FL wsX4_takeNumber RX4 93 9 6 := ⟨RX9, TX9, 8, rfl, by decide +kernel, by decide, by decide +kernel⟩
set_option maxHeartbeats 2000000 in
set_option maxRecDepth 100000 in
theorem c_X4_takeNumber (l : Launch) (D : va_G) (cB cI cJ : ClassId) (ad : Nat → Nat) (n : Nat) (M : Nat → va_E) (hI : ipI ad n) (rd ta h en x : Nat) (ln nu ft : Int32) (bf : Nat → Int32) (k1 : Nat) (cn : Int32) (gf : Nat → Int32) (tb : Nat) (z1 : Int32) (z2 : Int32) (h_ta : ta < n) (h_ta_1 : ta + 1 < n) (h_rd : rd < n) (h_tb : tb < n) (h_tb_1 : tb + 1 < n) (m_ta : M ta = .inr (9, tapeX ad ta ln en bf x nu)) (m_ta_1 : M (ta + 1) = .inl (cB, 700, .inl bf)) (m_rd : M rd = .inr (4, [.ref (ad ta), .ref (ad h), .int ft])) (m_tb : M tb = .inr (8, [.int cn, .ref (ad (tb + 1))])) (m_tb_1 : M (tb + 1) = .inl (cI, k1, .inl gf)) (hxe : x ≤ en) (hen : en ≤ 700) (srt : rd < ta ∨ ta + 1 < rd) (hk1 : k1 < 2 ^ 31) (stb : ta + 1 < tb ∨ tb + 1 < ta) (srb : rd < tb ∨ tb + 1 < rd) (hk2 : kX en bf x = 2) : cWi l D cB cI cJ ad n M yX4_takeNumber wsX4_takeNumber 6 132 [.ref (ad rd), .ref (ad tb), .int z1, .int z2] (fun r M' => ∃ (v0 : Int32), r = 1 ∧ M' ta = .inr (9, tapeX ad ta ln en bf (nX en bf x) v0) ∧ M' (tb + 1) = .inl (cI, k1, .inl (tset k1 gf (z1 * cn + z2) (nmX en bf x))) ∧ ∀ q : Nat, q ≠ ta → q ≠ tb + 1 → M' q = M q) := by
  refine q_body (cc := cX4_takeNumber) (maxL := 4) (ret := (some .boolean)) (by decide) rfl (Nat.le_of_ble_eq_true rfl) ?_
  intro p e s m args below meth c ls X hr hlocks hK hP hl
  obtain ⟨hx, hb, hml, hown, hts⟩ := id X
  have hS : va_S (ipA ad n) s.heap s.heap [] := va_S.rf
  have hl : lv_has ls 4 [(0, .ref (ad rd)), (1, .ref (ad tb)), (2, .int z1), (3, .int z2)] := hl
  refine lv_aload_n hx hb dX4_takeNumber_0 rfl (lv_at hl 1 rfl) ?_
  refine lv_iload_n hx hb dX4_takeNumber_1 rfl (lv_at hl 2 rfl) ?_
  refine lv_iload_n hx hb dX4_takeNumber_2 rfl (lv_at hl 3 rfl) ?_
  refine lv_aload_n hx hb dX4_takeNumber_3 rfl (lv_at hl 0 rfl) ?_
  refine q_get (v := .ref (ad ta)) (fs := [.ref (ad ta), .ref (ad h), .int ft]) X hK hP fX4_takeNumber_9 h_rd m_rd rfl dX4_takeNumber_4 ?_
  refine q_get (v := .int (uX en bf x nu)) (fs := tapeX ad ta ln en bf x nu) X hK hP fX4_takeNumber_93 h_ta m_ta rfl dX4_takeNumber_7 ?_
  refine lv_topi (fun z1 e2 => ?_)
  obtain rfl : z1 = (nmX en bf x) := e2.trans (uX_num hk2 : (uX en bf x nu) = (nmX en bf x))
  refine q_wrVv (As := [.int z1, .int z2, .int (nmX en bf x)]) (rest := []) (c_X8_set_ l D cB cI cJ ad n M hI tb (tb + 1) k1 cn gf z1 z2 (nmX en bf x) h_tb h_tb_1 m_tb m_tb_1 hk1) X hK hP hS hl.1 rfl gX4_takeNumber_X8_set_ yd_X8_set_ ⟨Nat.le_of_ble_eq_true rfl, Nat.le_of_ble_eq_true rfl⟩ h_tb m_tb (ci := 8) rfl rfl (Nat.le_of_ble_eq_true rfl) ⟨Nat.zero_le _, Nat.zero_le _⟩ dX4_takeNumber_10 (fun M4 H locs hp3 hP hS => ?_)
  obtain ⟨g6, fr7⟩ := hp3
  refine lv_aload_n hx hb dX4_takeNumber_13 rfl (lv_at hl 0 rfl) ?_
  refine q_get (v := .ref (ad ta)) (fs := [.ref (ad ta), .ref (ad h), .int ft]) X hK hP fX4_takeNumber_9 h_rd ((fr7 rd (by omega)).trans m_rd) rfl dX4_takeNumber_14 ?_
  refine q_wrVv (As := []) (rest := []) (c_X9_adv l D cB cI cJ ad n M4 hI ta en x ln nu bf h_ta h_ta_1 ((fr7 ta (by omega)).trans m_ta) ((fr7 (ta + 1) (by omega)).trans m_ta_1) hxe hen) X hK hP hS hl.1 rfl gX4_takeNumber_X9_advance yd_X9_advance ⟨Nat.le_of_ble_eq_true rfl, Nat.le_of_ble_eq_true rfl⟩ h_ta ((fr7 ta (by omega)).trans m_ta) (ci := 9) rfl rfl (Nat.le_of_ble_eq_true rfl) ⟨Nat.zero_le _, Nat.zero_le _⟩ dX4_takeNumber_17 (fun M9 H locs hp8 hP hS => ?_)
  obtain ⟨g11, fr12⟩ := hp8
  refine lv_iconst (v := 1) hx hb dX4_takeNumber_20 (by decide) ?_
  exact q_wzret X hr hlocks hP hS (rfl) ⟨(uX en bf x nu), (by rfl), g11, ((fr12 (tb + 1) (by omega)).trans g6), (fun q n0 n1 => ((fr12 q n0).trans (fr7 q n1)))⟩ dX4_takeNumber_21
end
