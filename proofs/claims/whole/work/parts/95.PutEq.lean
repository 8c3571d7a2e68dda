/-! things put anew into cases: the class's table and the reference's search tell the same -/
noncomputable section
/-- items: their numbers -/
theorem ct_mo (x : Int32) (t : Nat) : ∀ r : Nat, cntI x t ≤ cntI x (t + r)
  | 0 => Nat.le_refl _
  | r + 1 => by
    have := ct_mo x t r
    rw [← Nat.add_assoc, cntI]
    split <;> omega
theorem ct_lt {x : Int32} {t N : Nat} (ht : t < 32) (hb : bt x t = true) (hN : t < N) : cntI x t < cntI x N := by
  have h1 : cntI x (t + 1) = cntI x t + 1 := by
    rw [cntI, if_neg (fun q => by rw [(bt_tst ht).mp q] at hb; exact absurd hb (by decide))]
  have h2 := ct_mo x (t + 1) (N - (t + 1))
  rw [show t + 1 + (N - (t + 1)) = N by omega] at h2
  omega
theorem ct_su {x : Int32} : ∀ N : Nat, N ≤ 12 → ∀ i : Nat, i < cntI x N → ∃ t : Nat, t < N ∧ bt x t = true ∧ cntI x t = i
  | 0, _, i, h => absurd h (Nat.not_lt_zero _)
  | N + 1, hN, i, h => by
    have ih := ct_su (x := x) N (by omega)
    rw [cntI] at h
    by_cases c : (x >>> (nI N &&& 31)) &&& 1 = 0
    · rw [if_pos c] at h
      obtain ⟨t, a, b⟩ := ih i h
      exact ⟨t, by omega, b⟩
    · rw [if_neg c] at h
      by_cases e : i = cntI x N
      · refine ⟨N, by omega, ?_, e.symm⟩
        cases q : bt x N with
        | true => rfl
        | false => exact absurd ((bt_tst (by omega)).mpr q) c
      · obtain ⟨t, a, b⟩ := ih i (by omega)
        exact ⟨t, by omega, b⟩
theorem ct_in {x : Int32} {t u : Nat} (ht : t < 12) (hu : u < 12) (hb : bt x t = true) (hc : bt x u = true) (e : cntI x t = cntI x u) : t = u := by
  rcases Nat.lt_trichotomy t u with h | h | h
  · have := ct_lt (by omega) hb h; omega
  · exact h
  · have := ct_lt (by omega) hc h; omega
theorem li_at {x : Int32} {itf : Nat → Int32} (h8 : cntI x 12 ≤ 8) : ∀ N : Nat, N ≤ 12 → (s_X2_listItems_4 x 0 itf N).1 = nI (cntI x N) ∧ ∀ t : Nat, t < N → bt x t = true → (s_X2_listItems_4 x 0 itf N).2 (cntI x t) = nI t
  | 0, _ => ⟨rfl, fun t h => absurd h (Nat.not_lt_zero _)⟩
  | N + 1, hN => by
    obtain ⟨i1, i2⟩ := li_at (itf := itf) h8 N (by omega)
    have m1 := ct_mo x (N + 1) (12 - (N + 1))
    rw [show N + 1 + (12 - (N + 1)) = 12 by omega] at m1
    rw [s_X2_listItems_4, cntI]
    rw [cntI] at m1
    unfold s_X2_listItems_4s
    by_cases c : (x >>> (nI N &&& 31)) &&& 1 = 0
    · rw [if_pos c, if_pos c]
      refine ⟨i1, fun t ht hb => i2 t ?_ hb⟩
      have : t ≠ N := fun e => by subst e; rw [(bt_tst (by omega)).mp c] at hb; exact absurd hb (by decide)
      omega
    · rw [if_neg c, if_neg c]
      rw [if_neg c] at m1
      refine ⟨by show _ + 1 = _; rw [i1, nI_1], fun t ht hb => ?_⟩
      show tset 8 _ _ (nI N) (cntI x t) = _
      rw [i1, tset_in (by omega) (by decide)]
      by_cases e : t = N
      · subst e; rw [pk_us]
      · have := ct_lt (by omega) hb (show t < N by omega)
        rw [pk_un (by omega)]
        exact i2 t (by omega) hb
/-- the things of some items -/
theorem to_bt {it : Nat → Int32} {p : Nat} (hp : p < 256) (hit : ∀ i : Nat, i < 8 → p.testBit i = true → ∃ t : Nat, t < 12 ∧ it i = nI t) {u : Nat} (hu : u < 32) : ∀ n : Nat, n ≤ 8 → (bt (s_X2_thingsOf_4 it (nI p) 0 n) u = true ↔ ∃ i : Nat, i < n ∧ p.testBit i = true ∧ it i = nI u)
  | 0, _ => by
    rw [s_X2_thingsOf_4, b_0]
    exact ⟨fun h => absurd h (by decide), fun ⟨i, h, _⟩ => absurd h (Nat.not_lt_zero _)⟩
  | n + 1, hn => by
    have ih := to_bt hp hit hu n (by omega)
    rw [s_X2_thingsOf_4]
    unfold s_X2_thingsOf_4s
    by_cases c : p.testBit n = true
    · obtain ⟨t, ht, e⟩ := hit n (by omega) c
      rw [if_neg (fun q => ((g_bit (by omega) (by omega)).mp q) c), tat_in (by omega) (by decide), e, b_or, bt_one (by omega) hu]
      constructor
      · intro h
        rcases (Bool.or_eq_true _ _).mp h with h | h
        · obtain ⟨i, a, b⟩ := ih.mp h
          exact ⟨i, by omega, b⟩
        · have h := of_decide_eq_true h
          subst h
          exact ⟨n, by omega, c, e⟩
      · rintro ⟨i, a, b, d⟩
        by_cases z : i = n
        · subst z
          have : t = u := (nI_eq (by omega) (by omega)).mp (e.symm.trans d)
          exact (Bool.or_eq_true _ _).mpr (Or.inr (decide_eq_true this.symm))
        · exact (Bool.or_eq_true _ _).mpr (Or.inl (ih.mpr ⟨i, by omega, b, d⟩))
    · rw [if_pos ((g_bit (by omega) (by omega)).mpr c), ih]
      constructor
      · rintro ⟨i, a, b⟩; exact ⟨i, by omega, b⟩
      · rintro ⟨i, a, b, d⟩
        by_cases z : i = n
        · subst z; exact absurd b c
        · exact ⟨i, by omega, b, d⟩
def sB (w : Nat → Nat) (S : Int32) : Nat → Nat
  | 0 => 0
  | t + 1 => sB w S t + (if bt S t = true then w t else 0)
theorem sm_sB {nt : Nat} (hnt : nt ≤ 12) {tf : Nat → Int32} {col : Int32} {w : Nat → Nat} {S : Int32} (h : ∀ t : Nat, t < nt → tat 84 tf (nI t * 7 + col) = nI (w t)) : ∀ n : Nat, n ≤ nt → smS tf S col n = nI (sB w S n)
  | 0, _ => rfl
  | n + 1, hn => by
    rw [smS, sB, sm_sB hnt h n (by omega), h n (by omega)]
    by_cases c : (S >>> (nI n &&& 31)) &&& 1 = 0
    · rw [if_pos c, (bt_tst (by omega)).mp c, if_neg (by decide), Nat.add_zero]
    · have cb : bt S n = true := by cases q : bt S n with
        | true => rfl
        | false => exact absurd ((bt_tst (by omega)).mpr q) c
      rw [if_neg c, cb, if_pos rfl, nI_add]
theorem sN_sB {w : Nat → Nat} {P pl : Nat → Int32} {d : Int32} {S : Int32} {nt : Nat} (h : ∀ u : Nat, u < nt → (P u = d ↔ pl u = d ∨ bt S u = true)) (h2 : ∀ u : Nat, u < nt → pl u = d → ¬ bt S u = true) : ∀ n : Nat, n ≤ nt → sN w P d n = sN w pl d n + sB w S n
  | 0, _ => rfl
  | n + 1, hn => by
    have ih := sN_sB (w := w) h h2 n (by omega)
    have h1 := h n (by omega)
    have h3 := h2 n (by omega)
    rw [sN, sN, sB, ih]
    by_cases c : P n = d
    · rw [if_pos c]
      rcases h1.mp c with a | a
      · rw [if_pos a, if_neg (h3 a)]; omega
      · rw [if_neg (fun q => h3 q a), if_pos a]; omega
    · rw [if_neg c, if_neg (fun q => c (h1.mpr (Or.inl q))), if_neg (fun q => c (h1.mpr (Or.inr q)))]; omega
theorem sN_no {w : Nat → Nat} {pl : Nat → Int32} {d : Int32} {nt : Nat} (h : ∀ u : Nat, u < nt → ¬ pl u = d) : ∀ n : Nat, n ≤ nt → sN w pl d n = 0
  | 0, _ => rfl
  | n + 1, hn => by rw [sN, sN_no h n (by omega), if_neg (h n (by omega))]
theorem own_b {nt nc np : Nat} (hnc : nc ≤ 5) (hnp : np ≤ 4) {cf tf itf tkf z0 ow li ho co bo : Nat → Int32} {z y : Int32} (hC : rlC nc cf ow li ho co bo) (hO : ∀ c : Nat, c < nc → ∃ k : Nat, ow c = nI k ∧ k < np) {q : Nat} (hq : q < 32) : ∀ n : Nat, n ≤ nc → (bt (s_X2_canPack_34 nt cf tf itf z y 0 tkf z0 n).1 q = true ↔ ∃ c : Nat, c < n ∧ bt z c = true ∧ ow c = nI q)
  | 0, _ => by
    show bt (0 : Int32) q = true ↔ _
    rw [b_0]
    exact ⟨fun h => absurd h (by decide), fun ⟨i, h, _⟩ => absurd h (Nat.not_lt_zero _)⟩
  | n + 1, hn => by
    have ih := own_b (nt := nt) hnc hnp (tf := tf) (itf := itf) (tkf := tkf) (z0 := z0) (z := z) (y := y) hC hO hq n (by omega)
    rw [s_X2_canPack_34]
    unfold s_X2_canPack_34s
    by_cases c : (z >>> (nI n &&& 31)) &&& 1 = 0
    · rw [if_pos c]
      refine ih.trans ⟨fun ⟨i, a, b⟩ => ⟨i, by omega, b⟩, fun ⟨i, a, b, d⟩ => ?_⟩
      by_cases e : i = n
      · subst e; rw [(bt_tst (by omega)).mp c] at b; exact absurd b (by decide)
      · exact ⟨i, by omega, b, d⟩
    · have cb : bt z n = true := by cases q : bt z n with
        | true => rfl
        | false => exact absurd ((bt_tst (by omega)).mpr q) c
      rw [if_neg c]
      obtain ⟨k, e1, e2⟩ := hO n (by omega)
      have e3 : tat 25 cf (nI n * 5 + 0) = nI k := by rw [ta3 5 0 rfl 5 0 rfl rfl (by omega) (by decide), ← (hC n (by omega)).1, e1]
      show bt (_ ||| (1 <<< ((tat 25 cf (nI n * 5 + 0)) &&& 31))) q = true ↔ _
      rw [e3, b_or, bt_one (by omega) hq]
      constructor
      · intro h
        rcases (Bool.or_eq_true _ _).mp h with h | h
        · obtain ⟨i, a, b⟩ := ih.mp h
          exact ⟨i, by omega, b⟩
        · have h := of_decide_eq_true h
          subst h
          exact ⟨n, by omega, cb, e1⟩
      · rintro ⟨i, a, b, d⟩
        by_cases e : i = n
        · subst e
          have := (nI_eq (by omega) (by omega)).mp (e1.symm.trans d)
          exact (Bool.or_eq_true _ _).mpr (Or.inr (decide_eq_true this.symm))
        · exact (Bool.or_eq_true _ _).mpr (Or.inl (ih.mpr ⟨i, by omega, b, d⟩))
/-- both tell the same -/
theorem eq_pack {nt nc np : Nat} {w h g Ho Li Be : Nat → Nat} {tf cf pf plf itf tkf ki he un wi va ht pl ow li ho co bo own po be : Nat → Int32} {z y : Int32} (hD : pOK9 nt nc np w h g Ho Li Be be ow li ho bo ki he wi ht) (hT : rlT nt tf ki he un wi va ht) (hC : rlC nc cf ow li ho co bo) (hP : rlP np pf own po be) (hL : rlL nt plf pl) (hO : ∀ c : Nat, c < nc → ∃ k : Nat, ow c = nI k ∧ k < np)
    (hy : ∀ u : Nat, u < 32 → (bt y u = true ↔ u < nt ∧ ∃ c : Nat, c < nc ∧ bt z c = true ∧ pl u = nI c)) (h8 : cntI y 12 ≤ 8) :
    ¬ s_X2_canPack nt nc np pf cf tf plf itf tkf z y = 0 ↔ ∃ P : Nat → Int32, gdP nt nc np w h g Ho Li Be ki bo ow y z 0 (gbF y pl nt) P := by
  obtain ⟨d1, d2, d3, d4, d5, d6, d7, d8, d9⟩ := id hD
  rw [pack_Q d2 d3 h8]
  generalize hown : (s_X2_canPack_34 nt cf tf itf z y 0 tkf (tset 256 (fun _ => 0) 0 1) nc).1 = ob
  have ob9 : ∀ q : Nat, q < 32 → (bt ob q = true ↔ ∃ c : Nat, c < nc ∧ bt z c = true ∧ ow c = nI q) := fun q hq => by
    rw [← hown]; exact own_b d2 d3 hC hO hq nc (Nat.le_refl _)
  obtain ⟨-, li9⟩ := li_at (itf := itf) h8 12 (Nat.le_refl _)
  generalize (s_X2_listItems_4 y 0 itf 12).2 = it at li9 ⊢
  have y12 : ∀ u : Nat, u < 32 → bt y u = true → u < nt := fun u hu hb => ((hy u hu).mp hb).1
  have ybig : ∀ u : Nat, bt y u = true → u < nt := fun u hb => by
    by_cases q : u < 32
    · exact y12 u q hb
    · rw [b_big (by omega)] at hb; exact absurd hb (by decide)
  have n8 : 2 ^ (cntI y 12) - 1 < 2 ^ (cntI y 12) := by have := Nat.two_pow_pos (cntI y 12); omega
  have p256 : 2 ^ (cntI y 12) ≤ 256 := Nat.pow_le_pow_right (n := 2) (by decide) h8
  have tb : ∀ i : Nat, (2 ^ (cntI y 12) - 1).testBit i = true ↔ i < cntI y 12 := fun i => by
    rw [Nat.testBit_two_pow_sub_one, decide_eq_true_eq]
  -- places that were taken out
  have gb : ∀ u : Nat, u < nt → gbF y pl nt u = if bt y u = true then -1 else pl u := fun u hu => by
    unfold gbF
    rw [if_pos hu]
    by_cases q : bt y u = true
    · rw [if_pos q, if_pos ((bt_tst1 (by omega)).mpr q)]
    · rw [if_neg q, if_neg (fun z9 => q ((bt_tst1 (by omega)).mp z9))]
  -- sets by bits and by places
  have a1 : ∀ t : Nat, t < nt → tat 84 tf (nI t * 7 + 1) = nI (h t) := fun t ht9 => by rw [ta3 7 1 rfl 7 1 rfl rfl (by omega) (by decide), ← (hT t ht9).2.1, (d5 t ht9).1]
  have a3 : ∀ t : Nat, t < nt → tat 84 tf (nI t * 7 + 3) = nI (w t) := fun t ht9 => by rw [ta3 7 3 rfl 7 3 rfl rfl (by omega) (by decide), ← (hT t ht9).2.2.2.1, (d4 t ht9).1]
  have a6 : ∀ t : Nat, t < nt → tat 84 tf (nI t * 7 + 6) = nI (g t) := fun t ht9 => by rw [ta3 7 6 rfl 7 6 rfl rfl (by omega) (by decide), ← (hT t ht9).2.2.2.2.2, (d6 t ht9).1]
  have kt : ∀ t : Nat, t < nt → ki t = tf (7 * t + 0) := fun t ht9 => (hT t ht9).1
  have okC : ∀ (c : Nat) (S : Int32) (P : Nat → Int32), c < nc → bt z c = true → (∀ u : Nat, u < 32 → (bt S u = true ↔ bt y u = true ∧ P u = nI c)) → (∀ u : Nat, u < nt → ¬ bt y u = true → P u = pl u) → (¬ gwS nt cf tf (nI c) S = 0 ↔ (sN w P (nI c) nt ≤ Ho c ∧ sN h P (nI c) nt ≤ Li c) ∧ ∀ u : Nat, bt S u = true → ¬ (ki u = 2 ∧ bo c = 1)) := fun c S P hc hz hS hPl => by
    have sp : ∀ u : Nat, u < nt → (P u = nI c ↔ (fun _ => (-1 : Int32)) u = nI c ∨ bt S u = true) := fun u hu => by
      constructor
      · intro e
        refine Or.inr ((hS u (by omega)).mpr ⟨?_, e⟩)
        by_cases q : bt y u = true
        · exact q
        · rw [hPl u hu q] at e
          exact absurd ((hy u (by omega)).mpr ⟨hu, c, hc, hz, e⟩) q
      · rintro (e | e)
        · exact absurd (show (-1 : Int32) = nI c from e).symm (nI_n1 (by omega))
        · exact ((hS u (by omega)).mp e).2
    have nn : ∀ u : Nat, u < nt → (fun _ => (-1 : Int32)) u = nI c → ¬ bt S u = true := fun u _ e => absurd (show (-1 : Int32) = nI c from e).symm (nI_n1 (by omega))
    have n0 : ∀ u : Nat, u < nt → ¬ (fun _ => (-1 : Int32)) u = nI c := fun u _ e => nI_n1 (by omega) (show (-1 : Int32) = nI c from e).symm
    have eW := sN_sB (w := w) sp nn nt (Nat.le_refl _)
    have eH := sN_sB (w := h) sp nn nt (Nat.le_refl _)
    rw [sN_no n0 nt (Nat.le_refl _), Nat.zero_add] at eW eH
    have bW := sN_b (w := w) (pl := P) (p := nI c) (fun t h => (d4 t h).2) nt (Nat.le_refl _)
    have bH := sN_b (w := h) (pl := P) (p := nI c) (fun t h => (d5 t h).2) nt (Nat.le_refl _)
    obtain ⟨e1, e2, e3, e4, e5⟩ := d8 c hc
    obtain ⟨-, c1, c2, -, c4⟩ := hC c hc
    have oS : ∀ i : Nat, nt ≤ i → i < 32 → bt S i = false := fun i h1 h2 => by
      cases q : bt S i with
      | false => rfl
      | true => exact absurd (y12 i h2 ((hS i h2).mp q).1) (by omega)
    have hz9 : S &&& okS tf 2 nt = 0 ↔ ¬ ∃ t : Nat, t < nt ∧ bt S t = true ∧ tf (7 * t + 0) = 2 := by
      rw [← hk_iff (tf := tf) (k := 2) d1 oS]
      unfold hkS
      by_cases q : S &&& okS tf 2 nt = 0
      · rw [if_pos q]; exact ⟨fun _ => rfl, fun _ => q⟩
      · rw [if_neg q]; exact ⟨fun h => absurd h q, fun h => absurd h (by decide)⟩
    have sS : ∀ u : Nat, bt S u = true → u < nt := fun u hu => by
      by_cases q : u < 32
      · exact Nat.lt_of_not_le (fun z9 => by rw [oS u z9 q] at hu; exact absurd hu (by decide))
      · rw [b_big (by omega)] at hu; exact absurd hu (by decide)
    unfold gwS
    rw [ta3 5 1 rfl 5 1 rfl rfl (by omega) (by decide), ta3 5 2 rfl 5 2 rfl rfl (by omega) (by decide), ta3 5 4 rfl 5 4 rfl rfl (by omega) (by decide), ← c1, ← c2, ← c4, e1, e3, sm_sB d1 a1 nt (Nat.le_refl _), sm_sB d1 a3 nt (Nat.le_refl _), ← eW, ← eH]
    by_cases q1 : Li c < sN h P (nI c) nt
    · rw [if_pos ((nI_ltI (by omega) (by omega)).mpr q1)]
      exact ⟨fun h => absurd rfl h, fun h => absurd h.1.2 (by omega)⟩
    · rw [if_neg (fun q => q1 ((nI_ltI (by omega) (by omega)).mp q))]
      by_cases q2 : Ho c < sN w P (nI c) nt
      · rw [if_pos ((nI_ltI (by omega) (by omega)).mpr q2)]
        exact ⟨fun h => absurd rfl h, fun h => absurd h.1.1 (by omega)⟩
      · rw [if_neg (fun q => q2 ((nI_ltI (by omega) (by omega)).mp q))]
        rcases e5 with b0 | b1
        · rw [if_pos b0]
          exact ⟨fun _ => ⟨⟨by omega, by omega⟩, fun u _ k => by rw [b0] at k; exact absurd k.2 (by decide)⟩, fun _ => by decide⟩
        · rw [if_neg (by rw [b1]; decide)]
          by_cases q3 : S &&& okS tf 2 nt = 0
          · rw [if_pos q3]
            refine ⟨fun _ => ⟨⟨by omega, by omega⟩, fun u hu k => ?_⟩, fun _ => by decide⟩
            exact (hz9.mp q3) ⟨u, sS u hu, hu, by rw [← kt u (sS u hu)]; exact k.1⟩
          · rw [if_neg q3]
            refine ⟨fun h => absurd rfl h, fun h => absurd (hz9.mpr ?_) q3⟩
            rintro ⟨u, h1, h2, h3⟩
            exact h.2 u h2 ⟨by rw [kt u h1]; exact h3, b1⟩
  have okW : ∀ (p : Nat) (S : Int32) (P : Nat → Int32), p < np → (∀ u : Nat, u < 32 → (bt S u = true ↔ bt y u = true ∧ P u = nI (10 + p))) → (∀ u : Nat, u < nt → ¬ bt y u = true → P u = pl u) → (¬ wrS nt pf tf plf (nI p) S = 0 ↔ sN g P (nI (10 + p)) nt ≤ Be p ∧ ∀ u : Nat, bt S u = true → ki u = 1) := fun p S P hp hS hPl => by
    have sp : ∀ u : Nat, u < nt → (P u = nI (10 + p) ↔ pl u = nI (10 + p) ∨ bt S u = true) := fun u hu => by
      constructor
      · intro e
        by_cases q : bt y u = true
        · exact Or.inr ((hS u (by omega)).mpr ⟨q, e⟩)
        · rw [hPl u hu q] at e; exact Or.inl e
      · rintro (e | e)
        · by_cases q : bt y u = true
          · obtain ⟨-, c, hc, -, e9⟩ := (hy u (by omega)).mp q
            exact absurd ((nI_eq (by omega) (by omega)).mp (e9.symm.trans e)) (by omega)
          · rw [hPl u hu q]; exact e
        · exact ((hS u (by omega)).mp e).2
    have nn : ∀ u : Nat, u < nt → pl u = nI (10 + p) → ¬ bt S u = true := fun u hu e q => by
      obtain ⟨-, c, hc, -, e9⟩ := (hy u (by omega)).mp ((hS u (by omega)).mp q).1
      exact absurd ((nI_eq (by omega) (by omega)).mp (e9.symm.trans e)) (by omega)
    have eG := sN_sB (w := g) sp nn nt (Nat.le_refl _)
    have bG := sN_b (w := g) (pl := P) (p := nI (10 + p)) (fun t h => (d6 t h).2) nt (Nat.le_refl _)
    obtain ⟨e1, e2⟩ := d9 p hp
    have eh : heS nt tf plf (nI p) = nI (sN g pl (nI (10 + p)) nt) := by
      have q1 := eq_heat (p := nI (10 + p)) d1 hT hL d7
      rw [sN_3 (fun t h => (d6 t h).1) d7] at q1
      unfold heS
      rw [show (10 : Int32) + nI p = nI (10 + p) by rw [show (10 : Int32) = nI 10 from rfl, nI_add]]
      exact q1.symm
    have eb : tat 12 pf (nI p * 3 + 2) = nI (Be p) := by rw [ta3 3 2 rfl 3 2 rfl rfl (by omega) (by decide), ← (hP p hp).2.2, e1]
    have oS : ∀ i : Nat, nt ≤ i → i < 32 → bt S i = false := fun i h1 h2 => by
      cases q : bt S i with
      | false => rfl
      | true => exact absurd (y12 i h2 ((hS i h2).mp q).1) (by omega)
    have lin : (nI (Be p) - nI (sN g pl (nI (10 + p)) nt) < nI (sB g S nt)) ↔ Be p < sN g pl (nI (10 + p)) nt + sB g S nt := by
      rw [Int32.lt_iff_toInt_lt, pk_sub_toInt (by omega) (by omega), nI_toInt (by omega)]
      omega
    have ct : S &&& ((okS tf 1 nt) ^^^ (-1)) = 0 ↔ ∀ u : Nat, bt S u = true → ki u = 1 := by
      constructor
      · intro e u hu
        have u32 : u < 32 := Nat.lt_of_not_le (fun q => by rw [b_big q] at hu; exact absurd hu (by decide))
        have un9 : u < nt := Nat.lt_of_not_le (fun z9 => by rw [oS u z9 u32] at hu; exact absurd hu (by decide))
        have := sub_bt e u32 hu
        rw [ok_bt (by omega) nt d1] at this
        rw [kt u un9]; exact (of_decide_eq_true this).2
      · intro e
        refine bt_sub (fun i hi hb => ?_)
        have un9 : i < nt := Nat.lt_of_not_le (fun z9 => by rw [oS i z9 hi] at hb; exact absurd hb (by decide))
        rw [ok_bt (by omega) nt d1]
        exact decide_eq_true ⟨un9, by rw [← kt i un9]; exact e i hb⟩
    unfold wrS
    rw [eb, eh, sm_sB d1 a6 nt (Nat.le_refl _)]
    by_cases q1 : S &&& ((okS tf 1 nt) ^^^ (-1)) = 0
    · rw [if_pos q1]
      by_cases q2 : Be p < sN g pl (nI (10 + p)) nt + sB g S nt
      · rw [if_pos (lin.mpr q2)]
        exact ⟨fun h => absurd rfl h, fun h => absurd h.1 (by omega)⟩
      · rw [if_neg (fun q => q2 (lin.mp q))]
        exact ⟨fun _ => ⟨by omega, ct.mp q1⟩, fun _ => by decide⟩
    · rw [if_neg q1]
      exact ⟨fun h => absurd rfl h, fun h => absurd (ct.mpr h.2) q1⟩
  -- a set of items and its things
  have tob : ∀ (p : Nat), (∀ i : Nat, p.testBit i = true → i < cntI y 12) → ∀ u : Nat, u < 32 → (bt (s_X2_thingsOf it (nI p)) u = true ↔ bt y u = true ∧ p.testBit (cntI y u) = true) := fun p hp u hu => by
    have pl9 : p < 256 := Nat.lt_of_lt_of_le (Nat.lt_pow_two_of_testBit p (n := cntI y 12) (fun i hi => by
      cases q : p.testBit i with
      | false => rfl
      | true => exact absurd (hp i q) (by omega))) p256
    unfold s_X2_thingsOf
    rw [to_bt pl9 (fun i h1 h2 => by
      obtain ⟨t, t1, t2, t3⟩ := ct_su 12 (Nat.le_refl _) i (hp i h2)
      exact ⟨t, t1, by rw [← t3]; exact li9 t t1 t2⟩) hu 8 (Nat.le_refl _)]
    constructor
    · rintro ⟨i, h1, h2, h3⟩
      obtain ⟨t, t1, t2, t3⟩ := ct_su 12 (Nat.le_refl _) i (hp i h2)
      have e : nI t = nI u := by rw [← li9 t t1 t2, t3]; exact h3
      have : t = u := (nI_eq (by omega) (by omega)).mp e
      subst this
      rw [t3]; exact ⟨t2, h2⟩
    · rintro ⟨h1, h2⟩
      have un9 := y12 u hu h1
      have := hp _ h2
      exact ⟨cntI y u, by omega, h2, li9 u (by omega) h1⟩
  constructor
  · rintro ⟨f, f1, f2⟩
    -- places out of the shares
    refine ⟨fun u => if bt y u = true then (if f (cntI y u) < nc then nI (f (cntI y u)) else nI (10 + (f (cntI y u) - nc))) else gbF y pl nt u, ?_, ?_, ?_, ?_⟩
    · intro u hu h9
      show (if bt y u = true then _ else _) = _
      rcases h9 with h9 | h9
      · rw [h9, if_neg (by decide)]
      · omega
    all_goals
      have Pv : ∀ u : Nat, bt y u = true → (fun u => if bt y u = true then (if f (cntI y u) < nc then nI (f (cntI y u)) else nI (10 + (f (cntI y u) - nc))) else gbF y pl nt u) u = if f (cntI y u) < nc then nI (f (cntI y u)) else nI (10 + (f (cntI y u) - nc)) := fun u hb => if_pos hb
      have Pn : ∀ u : Nat, u < nt → ¬ bt y u = true → (fun u => if bt y u = true then (if f (cntI y u) < nc then nI (f (cntI y u)) else nI (10 + (f (cntI y u) - nc))) else gbF y pl nt u) u = pl u := fun u hu hb => by
        show (if bt y u = true then _ else _) = _
        rw [if_neg hb, gb u hu, if_neg hb]
      generalize (fun u => if bt y u = true then (if f (cntI y u) < nc then nI (f (cntI y u)) else nI (10 + (f (cntI y u) - nc))) else gbF y pl nt u) = P at Pv Pn ⊢
      have fl : ∀ u : Nat, bt y u = true → f (cntI y u) < nc + np := fun u hb => f1 _ ((tb _).mpr (ct_lt (by have := ybig u hb; omega) hb (by have := ybig u hb; omega)))
      have ms : ∀ k : Nat, ∃ p : Nat, (∀ i : Nat, (p.testBit i = true ↔ (2 ^ (cntI y 12) - 1).testBit i = true ∧ f i = k)) := fun k => ms_ex (by omega) f k
      -- what holds of a place that something comes to
      have use : ∀ u : Nat, bt y u = true → ∃ S : Int32, (∀ v : Nat, v < 32 → (bt S v = true ↔ bt y v = true ∧ f (cntI y v) = f (cntI y u))) ∧ (if f (cntI y u) < nc then bt z (f (cntI y u)) = true ∧ ¬ gwS nt cf tf (nI (f (cntI y u))) S = 0 else bt ob (f (cntI y u) - nc) = true ∧ ¬ wrS nt pf tf plf (nI (f (cntI y u) - nc)) S = 0) := fun u hb => by
        obtain ⟨p, hp⟩ := ms (f (cntI y u))
        have un9 := ybig u hb
        have cu : cntI y u < cntI y 12 := ct_lt (by omega) hb (by omega)
        have p0 : ¬ p = 0 := fun e => by
          have := (hp (cntI y u)).mpr ⟨(tb _).mpr cu, rfl⟩
          rw [e, Nat.zero_testBit] at this
          exact absurd this (by decide)
        have ok := (f2 _ (fl u hb) p hp).resolve_left p0
        refine ⟨s_X2_thingsOf it (nI p), fun v hv => ?_, ?_⟩
        · rw [tob p (fun i hi => (tb i).mp ((hp i).mp hi).1) v hv]
          constructor
          · rintro ⟨a, b⟩; exact ⟨a, ((hp _).mp b).2⟩
          · rintro ⟨a, b⟩
            exact ⟨a, (hp _).mpr ⟨(tb _).mpr (ct_lt hv a (by have := y12 v hv a; omega)), b⟩⟩
        · unfold okPl at ok
          exact ok
      have eqf : ∀ u v : Nat, bt y u = true → bt y v = true → (P v = P u ↔ f (cntI y v) = f (cntI y u)) := fun u v hu hv => by
        have l1 := fl u hu
        have l2 := fl v hv
        rw [Pv u hu, Pv v hv]
        by_cases q1 : f (cntI y v) < nc <;> by_cases q2 : f (cntI y u) < nc <;> simp only [if_pos, if_neg, q1, q2, if_true, if_false] <;> rw [nI_eq (by omega) (by omega)] <;> omega
      have caseU : ∀ u : Nat, bt y u = true → f (cntI y u) < nc → bt z (f (cntI y u)) = true ∧ (sN w P (nI (f (cntI y u))) nt ≤ Ho (f (cntI y u)) ∧ sN h P (nI (f (cntI y u))) nt ≤ Li (f (cntI y u))) ∧ ¬ (ki u = 2 ∧ bo (f (cntI y u)) = 1) := fun u hb hlt => by
        obtain ⟨S, hS, hk⟩ := use u hb
        rw [if_pos hlt] at hk
        have Pu : P u = nI (f (cntI y u)) := by rw [Pv u hb, if_pos hlt]
        have r := (okC (f (cntI y u)) S P hlt hk.1 (fun v hv => by
          rw [hS v hv]
          constructor
          · rintro ⟨a, b⟩; exact ⟨a, by rw [← Pu]; exact (eqf u v hb a).mpr b⟩
          · rintro ⟨a, b⟩; exact ⟨a, (eqf u v hb a).mp (b.trans Pu.symm)⟩) Pn).mp hk.2
        exact ⟨hk.1, r.1, r.2 u ((hS u (by have := ybig u hb; omega)).mpr ⟨hb, rfl⟩)⟩
      have persU : ∀ u : Nat, bt y u = true → ¬ f (cntI y u) < nc → (∃ c : Nat, c < nc ∧ bt z c = true ∧ ow c = nI (f (cntI y u) - nc)) ∧ sN g P (nI (10 + (f (cntI y u) - nc))) nt ≤ Be (f (cntI y u) - nc) ∧ ki u = 1 := fun u hb hlt => by
        obtain ⟨S, hS, hk⟩ := use u hb
        have l1 := fl u hb
        rw [if_neg hlt] at hk
        have Pu : P u = nI (10 + (f (cntI y u) - nc)) := by rw [Pv u hb, if_neg hlt]
        have r := (okW (f (cntI y u) - nc) S P (by omega) (fun v hv => by
          rw [hS v hv]
          constructor
          · rintro ⟨a, b⟩; exact ⟨a, by rw [← Pu]; exact (eqf u v hb a).mpr b⟩
          · rintro ⟨a, b⟩; exact ⟨a, (eqf u v hb a).mp (b.trans Pu.symm)⟩) Pn).mp hk.2
        exact ⟨(ob9 _ (by omega)).mp hk.1, r.1, r.2 u ((hS u (by have := ybig u hb; omega)).mpr ⟨hb, rfl⟩)⟩
    · intro u _ hu hb
      have l1 := fl u hb
      by_cases q : f (cntI y u) < nc
      · obtain ⟨r1, -, r3⟩ := caseU u hb q
        exact Or.inl ⟨_, q, by rw [Pv u hb, if_pos q], r1, r3⟩
      · obtain ⟨r1, -, r3⟩ := persU u hb q
        exact Or.inr ⟨r3, _, by omega, by rw [Pv u hb, if_neg q], r1⟩
    · rintro c hc ⟨u, -, hu, hb, e⟩
      have l1 := fl u hb
      by_cases q : f (cntI y u) < nc
      · rw [Pv u hb, if_pos q, nI_eq (by omega) (by omega)] at e
        obtain ⟨-, r2, -⟩ := caseU u hb q
        rw [e] at r2
        exact r2
      · rw [Pv u hb, if_neg q, nI_eq (by omega) (by omega)] at e
        omega
    · rintro c hc ⟨u, -, hu, hb, e⟩
      have l1 := fl u hb
      by_cases q : f (cntI y u) < nc
      · rw [Pv u hb, if_pos q, nI_eq (by omega) (by omega)] at e
        omega
      · rw [Pv u hb, if_neg q, nI_eq (by omega) (by omega)] at e
        obtain ⟨-, r2, -⟩ := persU u hb q
        rw [show f (cntI y u) - nc = c by omega] at r2
        exact r2
  · rintro ⟨P, g1, g2, g3, g4⟩
    have g1 : ∀ u : Nat, u < nt → ¬ bt y u = true → P u = pl u := fun u hu hb => by
      rw [g1 u hu (Or.inl (by cases q : bt y u with
        | false => rfl
        | true => exact absurd q hb)), gb u hu, if_neg hb]
    have g2 : ∀ u : Nat, bt y u = true → (∃ c : Nat, c < nc ∧ P u = nI c ∧ bt z c = true ∧ ¬ (ki u = 2 ∧ bo c = 1)) ∨ (ki u = 1 ∧ ∃ p : Nat, p < np ∧ P u = nI (10 + p) ∧ ∃ c : Nat, c < nc ∧ bt z c = true ∧ ow c = nI p) := fun u hb => g2 u (Nat.zero_le _) (ybig u hb) hb
    refine ⟨fun i => if (P (it i).toNatClampNeg).toNatClampNeg < 10 then (P (it i).toNatClampNeg).toNatClampNeg else nc + ((P (it i).toNatClampNeg).toNatClampNeg - 10), ?_, ?_⟩
    all_goals
      have fv : ∀ u : Nat, bt y u = true → (fun i => if (P (it i).toNatClampNeg).toNatClampNeg < 10 then (P (it i).toNatClampNeg).toNatClampNeg else nc + ((P (it i).toNatClampNeg).toNatClampNeg - 10)) (cntI y u) = if (P u).toNatClampNeg < 10 then (P u).toNatClampNeg else nc + ((P u).toNatClampNeg - 10) := fun u hb => by
        have un9 := ybig u hb
        show (if (P (it (cntI y u)).toNatClampNeg).toNatClampNeg < 10 then _ else _) = _
        rw [li9 u (by omega) hb, nI_clamp (by omega)]
      generalize (fun i => if (P (it i).toNatClampNeg).toNatClampNeg < 10 then (P (it i).toNatClampNeg).toNatClampNeg else nc + ((P (it i).toNatClampNeg).toNatClampNeg - 10)) = f at fv ⊢
      have fC : ∀ u c : Nat, bt y u = true → c < nc → P u = nI c → f (cntI y u) = c := fun u c hb hc e => by rw [fv u hb, e, nI_clamp (by omega), if_pos (by omega)]
      have fP : ∀ u p : Nat, bt y u = true → p < np → P u = nI (10 + p) → f (cntI y u) = nc + p := fun u p hb hp e => by rw [fv u hb, e, nI_clamp (by omega), if_neg (by omega)]; omega
    · intro i hi
      obtain ⟨t, t1, t2, t3⟩ := ct_su 12 (Nat.le_refl _) i ((tb i).mp hi)
      rw [← t3]
      rcases g2 t t2 with ⟨c, hc, e, -⟩ | ⟨-, p, hp, e, -⟩
      · rw [fC t c t2 hc e]; omega
      · rw [fP t p t2 hp e]; omega
    · intro k hk p hp
      by_cases p0 : p = 0
      · exact Or.inl p0
      · refine Or.inr ?_
        have lt9 : ∀ i : Nat, p.testBit i = true → i < cntI y 12 := fun i hi => (tb i).mp ((hp i).mp hi).1
        have hS := tob p lt9
        have hS2 : ∀ u : Nat, u < 32 → (bt (s_X2_thingsOf it (nI p)) u = true ↔ bt y u = true ∧ f (cntI y u) = k) := fun u hu => by
          rw [hS u hu]
          constructor
          · rintro ⟨a, b⟩; exact ⟨a, ((hp _).mp b).2⟩
          · rintro ⟨a, b⟩
            exact ⟨a, (hp _).mpr ⟨(tb _).mpr (ct_lt hu a (by have := y12 u hu a; omega)), b⟩⟩
        obtain ⟨i, hi⟩ : ∃ i : Nat, p.testBit i = true := Classical.byContradiction fun q => p0 (Nat.eq_of_testBit_eq (fun i => by
          rw [Nat.zero_testBit]
          cases z9 : p.testBit i with
          | false => rfl
          | true => exact absurd ⟨i, z9⟩ q))
        obtain ⟨t, t1, t2, t3⟩ := ct_su 12 (Nat.le_refl _) i (lt9 i hi)
        have ft : f (cntI y t) = k := by rw [t3]; exact ((hp i).mp hi).2
        unfold okPl
        by_cases q : k < nc
        · rw [if_pos q]
          have Pk : ∀ u : Nat, bt y u = true → (f (cntI y u) = k ↔ P u = nI k) := fun u hb => by
            constructor
            · intro e
              rcases g2 u hb with ⟨c, hc, e9, -⟩ | ⟨-, p9, hp9, e9, -⟩
              · rw [fC u c hb hc e9] at e; rw [e9, e]
              · rw [fP u p9 hb hp9 e9] at e; omega
            · exact fun e => fC u k hb q e
          have zk : bt z k = true := by
            rcases g2 t t2 with ⟨c, hc, e9, e10, -⟩ | ⟨-, p9, hp9, e9, -⟩
            · have := fC t c t2 hc e9
              rw [ft] at this
              rw [this]; exact e10
            · have := fP t p9 t2 hp9 e9
              omega
          refine ⟨zk, (okC k _ P q zk (fun u hu => by
            rw [hS2 u hu]
            exact ⟨fun ⟨a, b⟩ => ⟨a, (Pk u a).mp b⟩, fun ⟨a, b⟩ => ⟨a, (Pk u a).mpr b⟩⟩) g1).mpr ⟨g3 k q ⟨t, Nat.zero_le _, ybig t t2, t2, (Pk t t2).mp ft⟩, fun u hu => ?_⟩⟩
          have u32 : u < 32 := Nat.lt_of_not_le (fun z9 => by rw [b_big z9] at hu; exact absurd hu (by decide))
          obtain ⟨a, b⟩ := (hS2 u u32).mp hu
          rcases g2 u a with ⟨c, hc, e9, -, e11⟩ | ⟨-, p9, hp9, e9, -⟩
          · have := fC u c a hc e9
            rw [b] at this
            rw [this]; exact e11
          · have := fP u p9 a hp9 e9
            omega
        · rw [if_neg q]
          have Pk : ∀ u : Nat, bt y u = true → (f (cntI y u) = k ↔ P u = nI (10 + (k - nc))) := fun u hb => by
            constructor
            · intro e
              rcases g2 u hb with ⟨c, hc, e9, -⟩ | ⟨-, p9, hp9, e9, -⟩
              · rw [fC u c hb hc e9] at e; omega
              · rw [fP u p9 hb hp9 e9] at e; rw [e9, show k - nc = p9 by omega]
            · intro e
              rw [fP u (k - nc) hb (by omega) e]; omega
          have ok : bt ob (k - nc) = true := by
            rcases g2 t t2 with ⟨c, hc, e9, -⟩ | ⟨-, p9, hp9, e9, e10⟩
            · have := fC t c t2 hc e9
              omega
            · have := fP t p9 t2 hp9 e9
              rw [show k - nc = p9 by omega]
              exact (ob9 p9 (by omega)).mpr e10
          refine ⟨ok, (okW (k - nc) _ P (by omega) (fun u hu => by
            rw [hS2 u hu]
            exact ⟨fun ⟨a, b⟩ => ⟨a, (Pk u a).mp b⟩, fun ⟨a, b⟩ => ⟨a, (Pk u a).mpr b⟩⟩) g1).mpr ⟨g4 (k - nc) (by omega) ⟨t, Nat.zero_le _, ybig t t2, t2, (Pk t t2).mp ft⟩, fun u hu => ?_⟩⟩
          have u32 : u < 32 := Nat.lt_of_not_le (fun z9 => by rw [b_big z9] at hu; exact absurd hu (by decide))
          obtain ⟨a, b⟩ := (hS2 u u32).mp hu
          rcases g2 u a with ⟨c, hc, e9, -⟩ | ⟨e10, -⟩
          · have := fC u c a hc e9
            omega
          · exact e10
end
