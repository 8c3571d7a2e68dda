/-! things put anew into cases: what the class's table tells -/
noncomputable section
theorem nI_xor {a b : Nat} (ha : a < 2 ^ 31) (hb : b < 2 ^ 31) : nI a ^^^ nI b = nI (a ^^^ b) := by
  have hx : a ^^^ b < 2 ^ 31 := Nat.xor_lt_two_pow ha hb
  refine b_ext (fun i hi => ?_)
  rw [b_xor, bt_nI (by omega) hi, bt_nI (by omega) hi, bt_nI (by omega) hi, Nat.testBit_xor]
theorem sb_bit {p m : Nat} : p &&& m = p ↔ ∀ i : Nat, p.testBit i = true → m.testBit i = true := by
  constructor
  · intro h i hi
    rw [← h, Nat.testBit_and, Bool.and_eq_true] at hi
    exact hi.2
  · intro h
    refine Nat.eq_of_testBit_eq (fun i => ?_)
    rw [Nat.testBit_and]
    cases hp : p.testBit i with
    | false => rfl
    | true => rw [h i hp]; rfl
theorem sb_le {p m : Nat} (h : p &&& m = p) : p ≤ m := by rw [← h]; exact Nat.and_le_right
theorem xr_le {p m : Nat} (h : p &&& m = p) : m ^^^ p ≤ m := by
  refine sb_le (sb_bit.mpr (fun i hi => ?_))
  rw [Nat.testBit_xor] at hi
  cases hm : m.testBit i with
  | true => rfl
  | false =>
    cases hp : p.testBit i with
    | true => rw [sb_bit.mp h i hp] at hm; exact absurd hm (by decide)
    | false => rw [hm, hp] at hi; exact absurd hi (by decide)
theorem xr_ne {p m : Nat} (h : 0 < p) : m ^^^ p ≠ m := fun e => by
  have : p = 0 := Nat.eq_of_testBit_eq (fun i => by
    have := congrArg (fun z => z.testBit i) e
    simp only [Nat.testBit_xor] at this
    rw [Nat.zero_testBit]
    cases hp : p.testBit i with
    | false => rfl
    | true => rw [hp] at this; cases hm : m.testBit i <;> rw [hm] at this <;> exact absurd this (by decide))
  omega
theorem sb_next : ∀ n q w p : Nat, q < 2 ^ n → q &&& w = q → p &&& w = p → p < q → p ≤ (q - 1) &&& w
  | 0, q, w, p, h, _, _, h4 => by rw [Nat.pow_zero] at h; omega
  | n + 1, q, w, p, h, h2, h3, h4 => by
    rw [Nat.pow_succ] at h
    have q2 : (q / 2) &&& (w / 2) = q / 2 := by rw [← Nat.and_div_two, h2]
    have p2 : (p / 2) &&& (w / 2) = p / 2 := by rw [← Nat.and_div_two, h3]
    have pw : p % 2 = 1 → w % 2 = 1 := fun e => by
      rw [← h3] at e
      exact (Nat.and_mod_two_eq_one.mp e).2
    have dv : ((q - 1) &&& w) / 2 = ((q - 1) / 2) &&& (w / 2) := Nat.and_div_two
    rcases Nat.mod_two_eq_zero_or_one q with e | e
    · have ih := sb_next n (q / 2) (w / 2) (p / 2) (by omega) q2 p2 (by omega)
      rw [show (q - 1) / 2 = q / 2 - 1 by omega] at dv
      have md : p % 2 = 1 → ((q - 1) &&& w) % 2 = 1 := fun z => Nat.and_mod_two_eq_one.mpr ⟨by omega, pw z⟩
      omega
    · rw [show (q - 1) / 2 = q / 2 by omega, q2] at dv
      omega
theorem wdI_s {tkf : Nat → Int32} {w : Nat} (hw : w < 256) (h0 : 0 < w) : ∀ (r q : Nat) (rf : Nat → Int32), q ≤ r → q ≤ w → q &&& w = q → (∀ m : Nat, m ≠ w → wdI tkf w r q rf m = rf m) ∧ (¬ wdI tkf w r q rf w = 0 ↔ ¬ rf w = 0 ∨ ∃ p : Nat, 0 < p ∧ p ≤ q ∧ p &&& w = p ∧ ¬ tkf p = 0 ∧ ¬ rf (w ^^^ p) = 0)
  | 0, q, rf, h1, _, _ => ⟨fun m _ => rfl, ⟨fun h => Or.inl h, fun h => h.elim id (fun ⟨p, a, b, _⟩ => absurd a (by omega))⟩⟩
  | r + 1, q, rf, h1, h2, h3 => by
    rw [wdI]
    by_cases q0 : nI q ≤ 0
    · have : q = 0 := zero_of_le (by omega) q0
      subst this
      rw [if_pos q0]
      exact ⟨fun m _ => rfl, ⟨fun h => Or.inl h, fun h => h.elim id (fun ⟨p, a, b, _⟩ => absurd a (by omega))⟩⟩
    · have hq : 0 < q := pos_of_nle q0
      have qx : w ^^^ q ≤ w := xr_le h3
      rw [if_neg q0, tat_in (by omega) (by decide), tat_in (by omega) (by decide), nI_xor (by omega) (by omega), tat_in (by omega) (by decide)]
      by_cases c : rf w = 0
      · rw [if_pos c]
        have ih := wdI_s hw h0 (tkf := tkf) r ((q - 1) &&& w) (if tkf q = 0 then rf else if rf (w ^^^ q) = 0 then rf else tset 256 rf (nI w) 1) (by have : (q - 1) &&& w ≤ q - 1 := Nat.and_le_left; omega) Nat.and_le_right (by rw [Nat.and_assoc, Nat.and_self])
        have oth : ∀ m : Nat, m ≠ w → (if tkf q = 0 then rf else if rf (w ^^^ q) = 0 then rf else tset 256 rf (nI w) 1) m = rf m := fun m hm => by
          by_cases a : tkf q = 0
          · rw [if_pos a]
          · rw [if_neg a]
            by_cases b : rf (w ^^^ q) = 0
            · rw [if_pos b]
            · rw [if_neg b, tset_in (by omega) (by decide), pk_un hm]
        have own : ¬ (if tkf q = 0 then rf else if rf (w ^^^ q) = 0 then rf else tset 256 rf (nI w) 1) w = 0 ↔ ¬ tkf q = 0 ∧ ¬ rf (w ^^^ q) = 0 := by
          by_cases a : tkf q = 0
          · rw [if_pos a]; exact ⟨fun h => absurd c h, fun h => absurd a h.1⟩
          · rw [if_neg a]
            by_cases b : rf (w ^^^ q) = 0
            · rw [if_pos b]; exact ⟨fun h => absurd c h, fun h => absurd b h.2⟩
            · rw [if_neg b, tset_in (by omega) (by decide), pk_us]
              exact ⟨fun _ => ⟨a, b⟩, fun _ => by decide⟩
        refine ⟨fun m hm => (ih.1 m hm).trans (oth m hm), ih.2.trans ?_⟩
        rw [own]
        have al : (q - 1) &&& w ≤ q - 1 := Nat.and_le_left
        constructor
        · rintro (⟨a, b⟩ | ⟨p, a, b, d, e, g⟩)
          · exact Or.inr ⟨q, hq, Nat.le_refl _, h3, a, b⟩
          · rw [oth _ (xr_ne a)] at g
            exact Or.inr ⟨p, a, by omega, d, e, g⟩
        · rintro (h | ⟨p, a, b, d, e, g⟩)
          · exact absurd c h
          · by_cases z : p = q
            · subst z; exact Or.inl ⟨e, g⟩
            · refine Or.inr ⟨p, a, sb_next 8 q w p (by omega) h3 d (by omega), d, e, ?_⟩
              rw [oth _ (xr_ne a)]; exact g
      · rw [if_neg c]
        exact ⟨fun m _ => rfl, ⟨fun h => Or.inl h, fun _ => c⟩⟩
theorem wdO_s {tkf : Nat → Int32} : ∀ (a : Nat) (rf : Nat → Int32), a < 256 → (∀ m : Nat, m = 0 ∨ a < m → wdO tkf a rf m = rf m) ∧ ∀ m : Nat, 0 < m → m ≤ a → (¬ wdO tkf a rf m = 0 ↔ ¬ rf m = 0 ∨ ∃ p : Nat, 0 < p ∧ p &&& m = p ∧ ¬ tkf p = 0 ∧ ¬ rf (m ^^^ p) = 0)
  | 0, rf, _ => ⟨fun m _ => rfl, fun m h1 h2 => absurd h1 (by omega)⟩
  | a + 1, rf, ha => by
    obtain ⟨w1, w2⟩ := wdI_s (tkf := tkf) (w := a + 1) ha (by omega) (a + 1) (a + 1) rf (Nat.le_refl _) (Nat.le_refl _) (Nat.and_self _)
    obtain ⟨i1, i2⟩ := wdO_s (tkf := tkf) a (wdI tkf (a + 1) (a + 1) (a + 1) rf) (by omega)
    rw [wdO]
    refine ⟨fun m hm => ?_, fun m h1 h2 => ?_⟩
    · rw [i1 m (by omega), w1 m (by omega)]
    · by_cases e : m = a + 1
      · subst e
        rw [i1 (a + 1) (by omega), w2]
        constructor
        · rintro (h | ⟨p, x1, x2, x3⟩)
          · exact Or.inl h
          · exact Or.inr ⟨p, x1, x3⟩
        · rintro (h | ⟨p, x1, x3⟩)
          · exact Or.inl h
          · exact Or.inr ⟨p, x1, sb_le x3.1, x3⟩
      · rw [i2 m h1 (by omega), w1 m e]
        constructor
        · rintro (h | ⟨p, x1, x2, x3, x4⟩)
          · exact Or.inl h
          · have := xr_le x2
            rw [w1 _ (by omega)] at x4
            exact Or.inr ⟨p, x1, x2, x3, x4⟩
        · rintro (h | ⟨p, x1, x2, x3, x4⟩)
          · exact Or.inl h
          · have := xr_le x2
            exact Or.inr ⟨p, x1, x2, x3, by rw [w1 _ (by omega)]; exact x4⟩
/-- shared out among the first places -/
def Qp (okP : Nat → Nat → Prop) (j m : Nat) : Prop := ∃ f : Nat → Nat, (∀ i : Nat, m.testBit i = true → f i < j) ∧ ∀ k : Nat, k < j → ∀ p : Nat, (∀ i : Nat, p.testBit i = true ↔ m.testBit i = true ∧ f i = k) → p = 0 ∨ okP k p
theorem ms_ex {m : Nat} (hm : m < 256) (f : Nat → Nat) (k : Nat) : ∃ p : Nat, ∀ i : Nat, (p.testBit i = true ↔ m.testBit i = true ∧ f i = k) := by
  obtain ⟨γ, -, h⟩ := fin_sp (fun i => if m.testBit i = true ∧ f i = k then 1 else 0) 8
  refine ⟨γ, fun i => ?_⟩
  rw [h i]
  constructor
  · rintro ⟨-, b⟩
    exact Classical.byContradiction fun z => b (if_neg z)
  · intro z
    refine ⟨Nat.lt_of_not_le (fun q => ?_), by rw [if_pos z]; decide⟩
    rw [Nat.testBit_lt_two_pow (Nat.lt_of_lt_of_le (show m < 2 ^ 8 from hm) (Nat.pow_le_pow_right (by decide) q))] at z
    exact absurd z.1 (by decide)
theorem Q_s {okP : Nat → Nat → Prop} {j m : Nat} (hm : m < 256) : Qp okP (j + 1) m ↔ Qp okP j m ∨ ∃ p : Nat, 0 < p ∧ p &&& m = p ∧ okP j p ∧ Qp okP j (m ^^^ p) := by
  constructor
  · rintro ⟨f, f1, f2⟩
    obtain ⟨p, hp⟩ := ms_ex hm f j
    have lt : ∀ i : Nat, m.testBit i = true → ¬ p.testBit i = true → f i < j := fun i h1 h2 => by
      have := f1 i h1
      have : ¬ f i = j := fun e => h2 ((hp i).mpr ⟨h1, e⟩)
      omega
    by_cases p0 : p = 0
    · subst p0
      exact Or.inl ⟨f, fun i hi => lt i hi (by rw [Nat.zero_testBit]; decide), fun k hk p2 h2 => f2 k (by omega) p2 h2⟩
    · refine Or.inr ⟨p, by omega, sb_bit.mpr (fun i hi => ((hp i).mp hi).1), (f2 j (by omega) p hp).resolve_left p0, f, fun i hi => ?_, fun k hk p2 h2 => f2 k (by omega) p2 (fun i => ?_)⟩
      · rw [Nat.testBit_xor] at hi
        cases a : m.testBit i with
        | false =>
          cases b : p.testBit i with
          | false => rw [a, b] at hi; exact absurd hi (by decide)
          | true => rw [((hp i).mp b).1] at a; exact absurd a (by decide)
        | true =>
          cases b : p.testBit i with
          | false => exact lt i a (by rw [b]; decide)
          | true => rw [a, b] at hi; exact absurd hi (by decide)
      · rw [h2 i, Nat.testBit_xor]
        constructor
        · rintro ⟨a, b⟩
          refine ⟨?_, b⟩
          cases z : p.testBit i with
          | true => exact absurd (((hp i).mp z).2.symm.trans b) (by omega)
          | false => rw [z] at a; rw [← a]; exact (Bool.xor_false _).symm
        · rintro ⟨a, b⟩
          refine ⟨?_, b⟩
          cases z : p.testBit i with
          | true => exact absurd (((hp i).mp z).2.symm.trans b) (by omega)
          | false => rw [a]; rfl
  · rintro (⟨f, f1, f2⟩ | ⟨p, h0, hs, ho, f, f1, f2⟩)
    · refine ⟨f, fun i hi => by have := f1 i hi; omega, fun k hk p hp => ?_⟩
      by_cases e : k = j
      · subst e
        refine Or.inl (Nat.eq_of_testBit_eq (fun i => ?_))
        rw [Nat.zero_testBit]
        cases z : p.testBit i with
        | false => rfl
        | true =>
          obtain ⟨a, b⟩ := (hp i).mp z
          have := f1 i a
          omega
      · exact f2 k (by omega) p hp
    · have xb : ∀ i : Nat, (m ^^^ p).testBit i = true ↔ m.testBit i = true ∧ ¬ p.testBit i = true := fun i => by
        rw [Nat.testBit_xor]
        have := sb_bit.mp hs i
        cases a : m.testBit i <;> cases b : p.testBit i <;> simp_all
      refine ⟨fun i => if p.testBit i = true then j else f i, fun i hi => ?_, fun k hk p2 hp2 => ?_⟩
      · show (if p.testBit i = true then j else f i) < j + 1
        by_cases b : p.testBit i = true
        · rw [if_pos b]; omega
        · rw [if_neg b]
          have := f1 i ((xb i).mpr ⟨hi, b⟩)
          omega
      · by_cases e : k = j
        · subst e
          have : p2 = p := Nat.eq_of_testBit_eq (fun i => by
            have h1 := hp2 i
            have : (m.testBit i = true ∧ (if p.testBit i = true then k else f i) = k) ↔ p.testBit i = true := by
              by_cases b : p.testBit i = true
              · rw [if_pos b]; exact ⟨fun _ => b, fun _ => ⟨sb_bit.mp hs i b, rfl⟩⟩
              · rw [if_neg b]
                refine ⟨fun ⟨z1, z2⟩ => ?_, fun z => absurd z b⟩
                have := f1 i ((xb i).mpr ⟨z1, b⟩)
                omega
            exact Bool.eq_iff_iff.mpr (h1.trans this))
          subst this
          exact Or.inr ho
        · refine f2 k (by omega) p2 (fun i => (hp2 i).trans ?_)
          show (m.testBit i = true ∧ (if p.testBit i = true then j else f i) = k) ↔ _
          rw [xb i]
          by_cases b : p.testBit i = true
          · rw [if_pos b]; exact ⟨fun z => absurd z.2 (by omega), fun z => absurd b z.1.2⟩
          · rw [if_neg b]; exact ⟨fun z => ⟨⟨z.1, b⟩, z.2⟩, fun z => ⟨z.1.1, z.2⟩⟩
theorem Q_0 {okP : Nat → Nat → Prop} {m : Nat} : Qp okP 0 m ↔ m = 0 := by
  constructor
  · rintro ⟨f, f1, -⟩
    refine Nat.eq_of_testBit_eq (fun i => ?_)
    rw [Nat.zero_testBit]
    cases z : m.testBit i with
    | false => rfl
    | true => exact absurd (f1 i z) (Nat.not_lt_zero _)
  · rintro rfl
    exact ⟨fun _ => 0, fun i hi => by rw [Nat.zero_testBit] at hi; exact absurd hi (by decide), fun k hk => absurd hk (Nat.not_lt_zero _)⟩
def rQt (okP : Nat → Nat → Prop) (a j : Nat) (R : Nat → Int32) : Prop := ∀ m : Nat, m ≤ a → (¬ R m = 0 ↔ Qp okP j m)
theorem Qt_0 {okP : Nat → Nat → Prop} {a : Nat} : rQt okP a 0 (tset 256 (fun _ => 0) 0 1) := fun m _ => by
  have e : tset 256 (fun _ => (0 : Int32)) 0 1 = upd (fun _ => (0 : Int32)) 0 1 := tset_in (j := 0) (by decide) (by decide)
  rw [Q_0, e]
  by_cases z : m = 0
  · subst z; rw [pk_us]; exact ⟨fun _ => rfl, fun _ => by decide⟩
  · rw [pk_un z]; exact ⟨fun h => absurd rfl h, fun h => absurd h z⟩
theorem Qt_no {okP : Nat → Nat → Prop} {a j : Nat} {R : Nat → Int32} (ha : a < 256) (h : rQt okP a j R) (hn : ∀ p : Nat, 0 < p → ¬ okP j p) : rQt okP a (j + 1) R := fun m hm => by
  rw [Q_s (by omega), h m hm]
  exact ⟨fun z => Or.inl z, fun z => z.elim id (fun ⟨p, p1, _, p3, _⟩ => absurd p3 (hn p p1))⟩
theorem Qt_s {okP : Nat → Nat → Prop} {a j : Nat} {R tkf : Nat → Int32} (ha : a < 256) (h : rQt okP a j R) (ht : ∀ p : Nat, p ≤ a → (¬ tkf p = 0 ↔ okP j p)) : rQt okP a (j + 1) (wdO tkf a R) := fun m hm => by
  obtain ⟨w1, w2⟩ := wdO_s (tkf := tkf) a R ha
  rw [Q_s (by omega)]
  by_cases z : m = 0
  · subst z
    rw [w1 0 (Or.inl rfl), h 0 hm]
    exact ⟨fun z => Or.inl z, fun z => z.elim id (fun ⟨p, p1, p2, _⟩ => by rw [Nat.and_zero] at p2; omega)⟩
  · rw [w2 m (by omega) hm, h m hm]
    constructor
    · rintro (x | ⟨p, p1, p2, p3, p4⟩)
      · exact Or.inl x
      · have l1 := sb_le p2
        have l2 := xr_le p2
        exact Or.inr ⟨p, p1, p2, (ht p (by omega)).mp p3, (h _ (by omega)).mp p4⟩
    · rintro (x | ⟨p, p1, p2, p3, p4⟩)
      · exact Or.inl x
      · have l1 := sb_le p2
        have l2 := xr_le p2
        exact Or.inr ⟨p, p1, p2, (ht p (by omega)).mpr p3, (h _ (by omega)).mpr p4⟩
theorem tic_at {nt : Nat} {cf tf it z0 : Nat → Int32} {x : Int32} : ∀ n : Nat, n ≤ 256 → ∀ m : Nat, m < n → s_X2_takeIntoCase_3 nt cf tf it x z0 n m = if gwS nt cf tf x (s_X2_thingsOf it (nI m)) = 0 then 0 else 1
  | 0, _, m, h => absurd h (Nat.not_lt_zero _)
  | n + 1, hn, m, h => by
    rw [s_X2_takeIntoCase_3]
    unfold s_X2_takeIntoCase_3s
    rw [tset_in (by omega) (by decide), tset_in (by omega) (by decide)]
    by_cases e : m = n
    · subst e
      by_cases c : gwS nt cf tf x (s_X2_thingsOf it (nI m)) = 0
      · rw [if_pos c, if_pos c, pk_us]
      · rw [if_neg c, if_neg c, pk_us]
    · have ih := tic_at (nt := nt) (cf := cf) (tf := tf) (it := it) (z0 := z0) (x := x) n (by omega) m (by omega)
      by_cases c : gwS nt cf tf x (s_X2_thingsOf it (nI n)) = 0
      · rw [if_pos c, pk_un e, ih]
      · rw [if_neg c, pk_un e, ih]
def wrS (nt : Nat) (pf tf plf : Nat → Int32) (x S : Int32) : Int32 := if S &&& ((okS tf 1 nt) ^^^ (-1)) = 0 then (if tat 12 pf (x * 3 + 2) - heS nt tf plf x < smS tf S 6 nt then 0 else 1) else 0
theorem top_at {nt : Nat} {pf tf plf it z0 : Nat → Int32} {x : Int32} : ∀ n : Nat, n ≤ 256 → ∀ m : Nat, m < n → s_X2_takeOnPerson_33 nt pf tf plf it x z0 n m = wrS nt pf tf plf x (s_X2_thingsOf it (nI m))
  | 0, _, m, h => absurd h (Nat.not_lt_zero _)
  | n + 1, hn, m, h => by
    rw [s_X2_takeOnPerson_33]
    have es : s_X2_takeOnPerson_33s nt pf tf plf it x n (s_X2_takeOnPerson_33 nt pf tf plf it x z0 n) = upd (s_X2_takeOnPerson_33 nt pf tf plf it x z0 n) n (wrS nt pf tf plf x (s_X2_thingsOf it (nI n))) := by
      unfold s_X2_takeOnPerson_33s wrS
      rw [tset_in (by omega) (by decide), tset_in (by omega) (by decide)]
      by_cases c : (s_X2_thingsOf it (nI n)) &&& ((okS tf 1 nt) ^^^ (-1)) = 0
      · rw [if_pos c, if_pos c]
        by_cases d : tat 12 pf (x * 3 + 2) - heS nt tf plf x < smS tf (s_X2_thingsOf it (nI n)) 6 nt
        · rw [if_pos d, if_pos d]
        · rw [if_neg d, if_neg d]
      · rw [if_neg c, if_neg c]
    rw [es]
    by_cases e : m = n
    · subst e; rw [pk_us]
    · rw [pk_un e]; exact top_at n (by omega) m (by omega)
theorem al_n : ∀ n : Nat, n ≤ 8 → ((1 : Int32) <<< (nI n &&& 31)) - 1 = nI (2 ^ n - 1) ∧ 2 ^ n - 1 < 256 := by decide +kernel
def okPl (nt nc : Nat) (pf cf tf plf it : Nat → Int32) (z ow : Int32) (k p : Nat) : Prop := if k < nc then (bt z k = true ∧ ¬ gwS nt cf tf (nI k) (s_X2_thingsOf it (nI p)) = 0) else (bt ow (k - nc) = true ∧ ¬ wrS nt pf tf plf (nI (k - nc)) (s_X2_thingsOf it (nI p)) = 0)
theorem pack_Q {nt nc np : Nat} (hnc : nc ≤ 5) (hnp : np ≤ 4) {pf cf tf plf itf tkf : Nat → Int32} {z y : Int32} (hn : cntI y 12 ≤ 8) : ¬ s_X2_canPack nt nc np pf cf tf plf itf tkf z y = 0 ↔ Qp (okPl nt nc pf cf tf plf ((s_X2_listItems_4 y 0 itf 12).2) z ((s_X2_canPack_34 nt cf tf itf z y 0 tkf (tset 256 (fun _ => 0) 0 1) nc).1)) (nc + np) (2 ^ (cntI y 12) - 1) := by
  obtain ⟨a1, a2⟩ := al_n _ hn
  have ei : ((1 : Int32) <<< ((s_X2_listItems itf y) &&& 31)) - 1 = nI (2 ^ (cntI y 12) - 1) := by rw [listItems_n]; exact a1
  generalize hown : (s_X2_canPack_34 nt cf tf itf z y 0 tkf (tset 256 (fun _ => 0) 0 1) nc).1 = own
  generalize ha : 2 ^ (cntI y 12) - 1 = a at ei a2 ⊢
  have k1 : ∀ n : Nat, n ≤ nc → rQt (okPl nt nc pf cf tf plf ((s_X2_listItems_4 y 0 itf 12).2) z own) a n ((s_X2_canPack_34 nt cf tf itf z y 0 tkf (tset 256 (fun _ => 0) 0 1) n).2.2) := by
    intro n
    induction n with
    | zero => intro _; exact Qt_0
    | succ n ih =>
      intro hn9
      have ih := ih (by omega)
      rw [s_X2_canPack_34]
      unfold s_X2_canPack_34s
      by_cases c : (z >>> (nI n &&& 31)) &&& 1 = 0
      · rw [if_pos c]
        refine Qt_no a2 ih (fun p _ h => ?_)
        unfold okPl at h
        rw [if_pos (show n < nc by omega), (bt_tst (by omega)).mp c] at h
        exact absurd h.1 (by decide)
      · rw [if_neg c, ei, nI_clamp (by omega)]
        refine Qt_s a2 ih (fun p hp => ?_)
        have cb : bt z n = true := by cases q : bt z n with
          | true => rfl
          | false => exact absurd ((bt_tst (by omega)).mpr q) c
        rw [tic_at (a + 1) (by omega) p (by omega)]
        unfold okPl
        rw [if_pos (show n < nc by omega), cb]
        by_cases d : gwS nt cf tf (nI n) (s_X2_thingsOf (s_X2_listItems_4 y 0 itf 12).2 (nI p)) = 0
        · rw [if_pos d]; exact ⟨fun h => absurd rfl h, fun h => absurd d h.2⟩
        · rw [if_neg d]; exact ⟨fun _ => ⟨rfl, d⟩, fun _ => by decide⟩
  have k2 : ∀ n : Nat, n ≤ np → rQt (okPl nt nc pf cf tf plf ((s_X2_listItems_4 y 0 itf 12).2) z own) a (nc + n) ((s_X2_canPack_102 nt nc pf cf tf plf itf tkf z y ((s_X2_canPack_34 nt cf tf itf z y 0 tkf (tset 256 (fun _ => 0) 0 1) nc).2.1) ((s_X2_canPack_34 nt cf tf itf z y 0 tkf (tset 256 (fun _ => 0) 0 1) nc).2.2) n).2) := by
    intro n
    induction n with
    | zero => intro _; exact k1 nc (Nat.le_refl _)
    | succ n ih =>
      intro hn9
      have ih := ih (by omega)
      rw [s_X2_canPack_102]
      unfold s_X2_canPack_102s
      rw [hown]
      by_cases c : (own >>> (nI n &&& 31)) &&& 1 = 0
      · rw [if_pos c]
        refine Qt_no (j := nc + n) a2 ih (fun p _ h => ?_)
        unfold okPl at h
        rw [if_neg (show ¬ nc + n < nc by omega), show nc + n - nc = n by omega, (bt_tst (by omega)).mp c] at h
        exact absurd h.1 (by decide)
      · rw [if_neg c, ei, nI_clamp (by omega)]
        refine Qt_s (j := nc + n) a2 ih (fun p hp => ?_)
        have cb : bt own n = true := by cases q : bt own n with
          | true => rfl
          | false => exact absurd ((bt_tst (by omega)).mpr q) c
        rw [top_at (a + 1) (by omega) p (by omega)]
        unfold okPl
        rw [if_neg (show ¬ nc + n < nc by omega), show nc + n - nc = n by omega, cb]
        exact ⟨fun h => ⟨rfl, h⟩, fun h => h.2⟩
  have k3 := k2 np (Nat.le_refl _) a (Nat.le_refl _)
  unfold s_X2_canPack
  rw [ei, tat_in (by omega) (by decide), ← k3]
  generalize (s_X2_canPack_102 nt nc pf cf tf plf itf tkf z y ((s_X2_canPack_34 nt cf tf itf z y 0 tkf (tset 256 (fun _ => 0) 0 1) nc).2.1) ((s_X2_canPack_34 nt cf tf itf z y 0 tkf (tset 256 (fun _ => 0) 0 1) nc).2.2) np).2 a = v
  by_cases c : v = 0
  · rw [if_pos c]; exact ⟨fun h => absurd rfl h, fun h => absurd c h⟩
  · rw [if_neg c]; exact ⟨fun _ => c, fun _ => by decide⟩
end
