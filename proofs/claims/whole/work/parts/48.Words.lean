/-! the words: what the class finds is what the reference asks -/
noncomputable section
/-- the token of letters from pb on, ps - pb of them, is the word of number i -/
def wFull (en : Nat) (bf : Nat → Int32) (pb ps i : Nat) : Prop := wLn.getD i 0 = ps - pb ∧ ∀ k : Nat, k < wLn.getD i 0 → (wBy.getD i []).getD k 0 = s_X9_byteAt (nI en) bf (nI (pb + k))
theorem wFull_1 {en pb ps i j : Nat} {bf : Nat → Int32} (hi : i < 20) (hj : j < 20) (h1 : wFull en bf pb ps i) (h2 : wFull en bf pb ps j) : i = j := by
  have hl : ∀ i : Nat, i < 20 → (wBy.getD i []).length = wLn.getD i 0 := by decide
  have hu : ∀ i : Nat, i < 20 → ∀ j : Nat, j < 20 → wBy.getD i [] = wBy.getD j [] → i = j := by decide
  refine hu i hi j hj (List.ext_getElem (by rw [hl i hi, hl j hj, h1.1, h2.1]) (fun k a b => ?_))
  have e1 := h1.2 k (by rw [← hl i hi]; exact a)
  have e2 := h2.2 k (by rw [← hl j hj]; exact b)
  have e3 : ((wBy.getD i [])[k]?).getD 0 = ((wBy.getD j [])[k]?).getD 0 := e1.trans e2.symm
  rw [List.getElem?_eq_getElem a, List.getElem?_eq_getElem b] at e3
  exact e3
theorem wmS_spec {en pb i : Nat} {bf : Nat → Int32} {lt : Int32} {L : Nat} (hL : lt = nI L) (hL2 : L < 2 ^ 30) (hw : wLn.getD i 0 ≤ 6) : ∀ (r k : Nat), k ≤ 7 → 7 ≤ k + r → k ≤ wLn.getD i 0 → k ≤ L →
    k ≤ wmS (nI en) bf (nI pb) lt i r k ∧ wmS (nI en) bf (nI pb) lt i r k ≤ wLn.getD i 0 ∧ wmS (nI en) bf (nI pb) lt i r k ≤ L ∧ (∀ q : Nat, k ≤ q → q < wmS (nI en) bf (nI pb) lt i r k → (wBy.getD i []).getD q 0 = s_X9_byteAt (nI en) bf (nI (pb + q))) ∧
    (wmS (nI en) bf (nI pb) lt i r k < L → wmS (nI en) bf (nI pb) lt i r k < wLn.getD i 0 → ¬ (wBy.getD i []).getD (wmS (nI en) bf (nI pb) lt i r k) 0 = s_X9_byteAt (nI en) bf (nI (pb + wmS (nI en) bf (nI pb) lt i r k)))
  | 0, k, _, h2, h3, _ => by omega
  | r + 1, k, h1, h2, h3, h4 => by
    rw [wmS]
    by_cases c1 : lt ≤ nI k
    · rw [if_pos c1]
      rw [hL] at c1
      have c1' := (nI_leI (by omega) (by omega)).mp c1
      exact ⟨Nat.le_refl _, h3, h4, fun q a b => absurd b (by omega), fun a _ => absurd a (by omega)⟩
    · rw [if_neg c1]
      rw [hL] at c1
      have c1' : k < L := Nat.lt_of_not_le (fun q => c1 (nI_le q (by omega)))
      by_cases c2 : nI (wLn.getD i 0) ≤ nI k
      · rw [if_pos c2]
        have c2' := (nI_leI (by omega) (by omega)).mp c2
        exact ⟨Nat.le_refl _, h3, h4, fun q a b => absurd b (by omega), fun _ b => absurd b (by omega)⟩
      · rw [if_neg c2]
        have c2' : k < wLn.getD i 0 := Nat.lt_of_not_le (fun q => c2 (nI_le q (by omega)))
        rw [nI_add]
        by_cases c3 : (wBy.getD i []).getD k 0 = s_X9_byteAt (nI en) bf (nI (pb + k))
        · rw [if_pos c3]
          obtain ⟨g1, g2, g3, g4, g5⟩ := wmS_spec (en := en) (pb := pb) (bf := bf) hL hL2 hw r (k + 1) (by omega) (by omega) (by omega) (by omega)
          refine ⟨by omega, g2, g3, fun q a b => ?_, g5⟩
          by_cases hq : q = k
          · rw [hq]; exact c3
          · exact g4 q (by omega) b
        · rw [if_neg c3]
          exact ⟨Nat.le_refl _, h3, h4, fun q a b => absurd b (by omega), fun _ _ => c3⟩
theorem wmS_full {en pb ps i : Nat} {bf : Nat → Int32} (hps : pb ≤ ps) (hps2 : ps ≤ 700) (hi : i < 20) : (nI (wmS (nI en) bf (nI pb) (nI ps - nI pb) i 7 0) = nI ps - nI pb ∧ nI (wmS (nI en) bf (nI pb) (nI ps - nI pb) i 7 0) = nI (wLn.getD i 0)) ↔ wFull en bf pb ps i := by
  have hw := w_ln i hi
  rw [pk_sub hps]
  obtain ⟨g1, g2, g3, g4, g5⟩ := wmS_spec (en := en) (pb := pb) (bf := bf) (lt := nI (ps - pb)) (i := i) rfl (by omega) hw 7 0 (by omega) (by omega) (Nat.zero_le _) (Nat.zero_le _)
  constructor
  · rintro ⟨a, b⟩
    have a' := (nI_eq (by omega) (by omega)).mp a
    have b' := (nI_eq (by omega) (by omega)).mp b
    exact ⟨by omega, fun k hk => g4 k (Nat.zero_le _) (by omega)⟩
  · rintro ⟨a, b⟩
    have e : wmS (nI en) bf (nI pb) (nI (ps - pb)) i 7 0 = ps - pb := by
      by_cases q : wmS (nI en) bf (nI pb) (nI (ps - pb)) i 7 0 < ps - pb
      · exact absurd (b _ (by omega)) (g5 q (by omega))
      · omega
    exact ⟨by rw [e], by rw [e, a]⟩
theorem fwS_full {en pb ps : Nat} {bf : Nat → Int32} (hps : pb ≤ ps) (hps2 : ps ≤ 700) : ∀ (r t : Nat), r + t = 20 → (∀ i : Nat, t ≤ i → i < 20 → wFull en bf pb ps i → fwS (nI en) bf (nI pb) (nI ps - nI pb) r t = i) ∧ (fwS (nI en) bf (nI pb) (nI ps - nI pb) r t = 0 ∨ wFull en bf pb ps (fwS (nI en) bf (nI pb) (nI ps - nI pb) r t))
  | 0, t, ht => ⟨fun i a b => absurd b (by omega), Or.inl rfl⟩
  | r + 1, t, ht => by
    have ih := fwS_full (en := en) (bf := bf) hps hps2 r (t + 1) (by omega)
    have hf := wmS_full (en := en) (bf := bf) hps hps2 (i := t) (by omega)
    rw [fwS]
    by_cases c1 : nI (wmS (nI en) bf (nI pb) (nI ps - nI pb) t 7 0) = nI ps - nI pb
    · rw [if_pos c1]
      by_cases c2 : nI (wmS (nI en) bf (nI pb) (nI ps - nI pb) t 7 0) = nI (wLn.getD t 0)
      · rw [if_pos c2]
        have hF := hf.mp ⟨c1, c2⟩
        exact ⟨fun i a b hi => wFull_1 (by omega) b hF hi, Or.inr hF⟩
      · rw [if_neg c2]
        refine ⟨fun i a b hi => ?_, ih.2⟩
        by_cases q : i = t
        · rw [q] at hi; exact absurd (hf.mpr hi).2 c2
        · exact ih.1 i (by omega) b hi
    · rw [if_neg c1]
      refine ⟨fun i a b hi => ?_, ih.2⟩
      by_cases q : i = t
      · rw [q] at hi; exact absurd (hf.mpr hi).1 c1
      · exact ih.1 i (by omega) b hi
theorem wX_full {en x i : Nat} {bf : Nat → Int32} (hx : x ≤ en) (he : en ≤ 700) (hi : i < 20) (h0 : 0 < i) : wX en bf x = i ↔ kX en bf x = 1 ∧ wFull en bf (pX en bf x) (nX en bf x) i := by
  obtain ⟨p1, p2, p3, p4⟩ := pX_nX (bf := bf) hx he
  have p5 := nX_le (bf := bf) hx he
  have hF := fwS_full (en := en) (bf := bf) p3 (by omega) 20 0 rfl
  have hw : kX en bf x = 1 → wX en bf x = fwS (nI en) bf (nI (pX en bf x)) (nI (nX en bf x) - nI (pX en bf x)) 20 0 := by
    intro hk
    rw [kX_d] at hk
    unfold avK at hk
    rw [wX_d, nX_d]
    unfold avW
    split at hk
    · exact absurd hk (by decide)
    · rename_i a
      rw [if_neg a]
      split at hk
      · exfalso
        split at hk
        · split at hk
          · exact absurd hk (by decide)
          · rename_i b; exact absurd (by rw [hk]; decide) b
        · exact absurd hk (by decide)
      · rename_i b; rw [if_neg b]
  constructor
  · intro h
    have hk := wX_k (en := en) (bf := bf) (x := x) (by omega)
    rw [hw hk] at h
    refine ⟨hk, ?_⟩
    rcases hF.2 with q | q
    · omega
    · rw [h] at q; exact q
  · rintro ⟨hk, hf⟩
    rw [hw hk]
    exact hF.1 i (Nat.zero_le _) hi hf
theorem mtS_full {bf : Nat → Int32} {pb i : Nat} : ∀ (r k : Nat), pb + k + r < 2 ^ 30 → (mtS bf (nI pb) i r k = 1 ↔ ∀ q : Nat, k ≤ q → q < k + r → (wBy.getD i []).getD q 0 = bf (pb + q))
  | 0, k, _ => ⟨fun _ q a b => absurd b (by omega), fun _ => rfl⟩
  | r + 1, k, h => by
    have ih := mtS_full (bf := bf) (pb := pb) (i := i) r (k + 1) (by omega)
    rw [mtS, nI_add, nI_clamp (by omega)]
    by_cases c : (wBy.getD i []).getD k 0 = bf (pb + k)
    · rw [if_pos c, ih]
      constructor
      · intro f q a b
        by_cases e : q = k
        · rw [e]; exact c
        · exact f q (by omega) (by omega)
      · intro f q a b
        exact f q (by omega) (by omega)
    · rw [if_neg c]
      exact ⟨fun q => absurd q (by decide), fun f => absurd (f k (Nat.le_refl _) (by omega)) c⟩
/-! numbers: what the class reads is what the reference reads -/
theorem kX_cases (en : Nat) (bf : Nat → Int32) (x : Nat) : (kX en bf x = 0 ∧ s_X9_byteAt (nI en) bf (nI (pX en bf x)) = -1) ∨ kX en bf x = 1 ∨ (kX en bf x = 2 ∧ s_X9_isLetter (s_X9_byteAt (nI en) bf (nI (pX en bf x))) = 0 ∧ ¬ s_X9_isDigit (s_X9_byteAt (nI en) bf (nI (pX en bf x))) = 0) ∨ kX en bf x = 3 ∨ (kX en bf x = s_X9_byteAt (nI en) bf (nI (pX en bf x)) ∧ ¬ s_X9_isSign (s_X9_byteAt (nI en) bf (nI (pX en bf x))) = 0) := by
  rw [kX_d]
  unfold avK
  split
  · rename_i a; exact Or.inl ⟨rfl, a⟩
  · split
    · rename_i b
      split
      · split
        · exact Or.inr (Or.inr (Or.inr (Or.inl rfl)))
        · rename_i d; exact Or.inr (Or.inr (Or.inr (Or.inr ⟨rfl, d⟩)))
      · rename_i c; exact Or.inr (Or.inr (Or.inl ⟨rfl, b, c⟩))
    · exact Or.inr (Or.inl rfl)
/-- between a number's ends there are digits alone -/
theorem rg_digits {en : Nat} {bf : Nat → Int32} {di : Int32} (he : en ≤ 700) : ∀ (r x : Nat), x ≤ en → ∀ q : Nat, x ≤ q → q < rgS en bf 0 di r x → ¬ s_X9_isDigit (s_X9_byteAt (nI en) bf (nI q)) = 0
  | 0, x, _, q, a, b => by rw [rgS] at b; omega
  | r + 1, x, hx, q, a, b => by
    rw [rgS] at b
    split at b
    · omega
    · rename_i h1
      have h2 : x < en := Nat.lt_of_not_le (fun q => h1 (nI_le q (by omega)))
      rw [if_pos rfl] at b
      split at b
      · omega
      · split at b
        · omega
        · rename_i h4
          by_cases e : q = x
          · rw [e]; exact h4
          · exact rg_digits he r (x + 1) (by omega) q (by omega) b
theorem num_digits {en x : Nat} {bf : Nat → Int32} (hx : x ≤ en) (he : en ≤ 700) (hk : kX en bf x = 2) : ∀ q : Nat, pX en bf x ≤ q → q < nX en bf x → ¬ s_X9_isDigit (s_X9_byteAt (nI en) bf (nI q)) = 0 := by
  intro q a b
  obtain ⟨p1, p2, p3, p4⟩ := pX_nX (bf := bf) hx he
  rcases kX_cases en bf x with h | h | h | h | h
  · rw [h.1] at hk; exact absurd hk (by decide)
  · rw [h] at hk; exact absurd hk (by decide)
  · have hd := tk_dig h.2.1 h.2.2
    by_cases e : q = pX en bf x
    · rw [e]; exact h.2.2
    · rw [hd.2] at b
      exact rg_digits he _ _ (bA_lt he (by omega) (fun z => h.2.2 (by rw [z]; decide))) q (by omega) b
  · rw [h] at hk; exact absurd hk (by decide)
  · rw [hk] at h; exact absurd (by rw [← h.1]; decide) h.2
theorem dig_n {b : Int32} (h : ¬ s_X9_isDigit b = 0) : ∃ d : Nat, d ≤ 9 ∧ b = nI (48 + d) := by
  unfold s_X9_isDigit at h
  split at h
  · exact absurd rfl h
  · rename_i h1
    split at h
    · exact absurd rfl h
    · rename_i h2
      obtain ⟨j, hj, e⟩ := nI_of (x := b) (fun q => h1 (Int32.lt_trans q (by decide)))
      rw [e] at h1 h2
      have h3 : ¬ j < 48 := fun q => h1 ((nI_ltI (b := 48) (by omega) (by decide)).mpr q)
      have h4 : ¬ 57 < j := fun q => h2 ((nI_ltI (a := 57) (by decide) (by omega)).mpr q)
      exact ⟨j - 48, by omega, by rw [e]; congr 1; omega⟩
theorem num_4 {en pl : Nat} {bf : Nat → Int32} : ∀ t : Nat, t ≤ 4 → (∀ q : Nat, pl ≤ q → q < pl + t → ¬ s_X9_isDigit (s_X9_byteAt (nI en) bf (nI q)) = 0) → ∃ v : Nat, v < 10 ^ t ∧ numS (nI en) bf pl t = nI v ∧ mnS en bf pl t = nI v
  | 0, _, _ => ⟨0, by decide, rfl, rfl⟩
  | t + 1, ht, hd => by
    obtain ⟨v, h1, h2, h3⟩ := num_4 (en := en) (pl := pl) (bf := bf) t (by omega) (fun q a b => hd q a (by omega))
    obtain ⟨d, hd9, e⟩ := dig_n (hd (pl + t) (by omega) (by omega))
    have hv : v < 1000 := Nat.lt_of_lt_of_le h1 (Nat.le_trans (Nat.pow_le_pow_right (by decide) (show t ≤ 3 by omega)) (by decide))
    have hp : v * 10 + d < 10 ^ (t + 1) := by rw [Nat.pow_succ]; omega
    refine ⟨v * 10 + d, hp, ?_, ?_⟩
    · rw [numS, h2, e, show (10 : Int32) = nI 10 from rfl, show (48 : Int32) = nI 48 from rfl, pk_mul, nI_add, pk_sub (by omega)]
      congr 1; omega
    · rw [mnS, h3, e, show (10 : Int32) = nI 10 from rfl, show (48 : Int32) = nI 48 from rfl, show (100000 : Int32) = nI 100000 from rfl, pk_mul, nI_add, pk_sub (by omega)]
      unfold imin
      rw [if_pos (nI_lt (by omega) (by decide))]
      congr 1; omega
theorem num_R {en x : Nat} {bf : Nat → Int32} (hx : x ≤ en) (he : en ≤ 700) (hk : kX en bf x = 2) : (nX en bf x - pX en bf x ≤ 4 → ∃ v : Nat, v ≤ 9999 ∧ nmX en bf x = nI v ∧ mnS en bf (pX en bf x) (nX en bf x - pX en bf x) = nI v) ∧ (4 < nX en bf x - pX en bf x → nmX en bf x = 10000) := by
  obtain ⟨p1, p2, p3, p4⟩ := pX_nX (bf := bf) hx he
  have p5 := nX_le (bf := bf) hx he
  have hd := num_digits hx he hk
  rw [nmX_d]
  unfold fnS
  rw [pk_sub p3]
  constructor
  · intro h
    obtain ⟨v, h1, h2, h3⟩ := num_4 (en := en) (bf := bf) (pl := pX en bf x) (nX en bf x - pX en bf x) h (fun q a b => hd q a (by omega))
    have hv : v < 10000 := Nat.lt_of_lt_of_le h1 (Nat.le_trans (Nat.pow_le_pow_right (by decide) h) (by decide))
    exact ⟨v, by omega, by rw [if_pos (show nI (nX en bf x - pX en bf x) ≤ (4 : Int32) from nI_le (b := 4) h (by decide))]; exact h2, h3⟩
  · intro h
    rw [if_neg (fun q => by have := (nI_leI (b := 4) (by omega) (by decide)).mp q; omega)]
/-- the reference's numbers where the token scanned from x on is read; f: its fault -/
def mR (en : Nat) (bf mv : Nat → Int32) (x : Nat) (f nu : Int32) : Nat → Int32 := upd (upd (upd (upd (upd (upd (upd mv 25 (nI (nX en bf x))) 27 (mkT (kX en bf x))) 28 (mnX en bf x nu)) 29 (nI (pX en bf x))) 30 (nI (nX en bf x))) 31 f) 32 (if f = 0 then mv 32 else nI (pX en bf x))
theorem mR_wrong {en : Nat} {bf mv : Nat → Int32} {x : Nat} {nu f : Int32} (hf : ¬ f = 0) : s_X13_wrong_0_1 (mR en bf mv x 0 nu) f = mR en bf mv x f nu := by
  unfold s_X13_wrong_0_1
  rw [if_pos (show mR en bf mv x 0 nu 31 = 0 from rfl)]
  funext j
  show upd (upd (mR en bf mv x 0 nu) 31 f) 32 (nI (pX en bf x)) j = _
  unfold mR
  rw [if_neg hf, if_pos rfl]
  simp only [upd] <;> (repeat' split) <;> first | rfl | (exfalso; omega)
theorem mR_bad {en : Nat} {bf mv : Nat → Int32} {x : Nat} {nu f g : Int32} (hf : ¬ f = 0) : s_X13_wrong_0_1 (mR en bf mv x f nu) g = mR en bf mv x f nu := if_neg hf
theorem mI_R {en : Nat} {bf mv : Nat → Int32} {x : Nat} {nu f : Int32} (hx : x ≤ en) (he : en ≤ 700) (h26 : mv 26 = nI en) : mI en (mR en bf mv x f nu) := by
  obtain ⟨p1, p2, p3, p4⟩ := pX_nX (bf := bf) hx he
  have p5 := nX_le (bf := bf) hx he
  refine ⟨h26, ⟨_, p5, rfl⟩, _, _, rfl, rfl, p3, p5, fun q => ?_⟩
  have q' : mkT (kX en bf x) = 3 := q
  have h6 : ¬ kX en bf x = 0 := fun q0 => by rw [q0] at q'; exact absurd q' (by decide)
  have := p4 h6
  omega
theorem mS_R {en : Nat} {bf mv : Nat → Int32} {x : Nat} {nu : Int32} (hx : x ≤ en) (he : en ≤ 700) : mS en bf (mR en bf mv x 0 nu) = mR en bf mv (nX en bf x) 0 (mnX en bf x nu) := by
  have p5 := nX_le (bf := bf) hx he
  unfold mS
  rw [show mR en bf mv x 0 nu 25 = nI (nX en bf x) from rfl, nI_clamp (by omega)]
  unfold mvS
  rw [show mR en bf mv x 0 nu 28 = mnX en bf x nu from rfl]
  funext j
  unfold mR
  rw [if_pos rfl, if_pos rfl]
  simp only [upd] <;> (repeat' split) <;> first | rfl | (exfalso; omega)
/-- a mark, on such a state -/
def mkR (en : Nat) (bf : Nat → Int32) (f : Int32) (x : Nat) (z : Int32) : Int32 := if f = 0 then (if kX en bf x = z then 1 else 0) else 0
theorem mk_R {en : Nat} {bf mv : Nat → Int32} {x : Nat} {nu f z : Int32} (hx : x ≤ en) (he : en ≤ 700) (hT : bOK bf) (hz : ¬ s_X9_isSign z = 0) : s_X13_isMarked (mR en bf mv x f nu) bf z = mkR en bf f x z := by
  obtain ⟨p1, p2, p3, p4⟩ := pX_nX (bf := bf) hx he
  have hz' := sgn_k hz
  unfold s_X13_isMarked mkR
  rw [show mR en bf mv x f nu 31 = f from rfl, show mR en bf mv x f nu 27 = mkT (kX en bf x) from rfl, show mR en bf mv x f nu 29 = nI (pX en bf x) from rfl, nI_clamp (by omega)]
  by_cases hf : f = 0
  · rw [if_pos hf, if_pos hf]
    rcases kX_cases en bf x with h | h | h | h | h
    · rw [h.1, if_neg (by decide), if_neg (fun q => hz'.1 q.symm)]
    · rw [h, if_neg (by decide), if_neg (fun q => hz'.2.1 q.symm)]
    · rw [h.1, if_neg (by decide), if_neg (fun q => hz'.2.2.1 q.symm)]
    · rw [h, if_neg (by decide), if_neg (fun q => hz'.2.2.2 q.symm)]
    · have hs := sgn_k h.2
      rw [← h.1] at hs
      have hm : mkT (kX en bf x) = 3 := by unfold mkT; rw [if_neg hs.1, if_neg hs.2.1, if_neg hs.2.2.1, if_neg hs.2.2.2]
      have hlt : pX en bf x < en := bA_lt he (by omega) (fun q => h.2 (by rw [q]; decide))
      rw [hm, if_pos rfl, h.1, bA_in hT hlt he]
  · rw [if_neg hf, if_neg hf]
/-- a word, on such a state -/
def wdR (en : Nat) (bf : Nat → Int32) (f : Int32) (x i : Nat) : Int32 := if f = 0 then (if wX en bf x = i then 1 else 0) else 0
theorem wd_R {en : Nat} {bf mv : Nat → Int32} {x i : Nat} {nu f : Int32} (hx : x ≤ en) (he : en ≤ 700) (hT : bOK bf) (hi : i < 20) (h0 : 0 < i) : isW (mR en bf mv x f nu) bf i = wdR en bf f x i := by
  obtain ⟨p1, p2, p3, p4⟩ := pX_nX (bf := bf) hx he
  have p5 := nX_le (bf := bf) hx he
  have hw := wX_full (bf := bf) hx he hi h0
  have hl := w_ln i hi
  unfold isW wdR
  rw [show mR en bf mv x f nu 31 = f from rfl, show mR en bf mv x f nu 27 = mkT (kX en bf x) from rfl, show mR en bf mv x f nu 29 = nI (pX en bf x) from rfl, show mR en bf mv x f nu 30 = nI (nX en bf x) from rfl, pk_sub p3]
  by_cases hf : f = 0
  · rw [if_pos hf, if_pos hf]
    by_cases hk : kX en bf x = 1
    · rw [hk, if_pos (by decide)]
      by_cases hL : nI (wLn.getD i 0) = nI (nX en bf x - pX en bf x)
      · rw [if_pos hL]
        have hL' := (nI_eq (by omega) (by omega)).mp hL
        have hm := mtS_full (bf := bf) (pb := pX en bf x) (i := i) (wLn.getD i 0) 0 (by omega)
        have hiff : mtS bf (nI (pX en bf x)) i (wLn.getD i 0) 0 = 1 ↔ wX en bf x = i := by
          rw [hm, hw]
          constructor
          · intro f'
            exact ⟨hk, hL', fun k a => by rw [f' k (Nat.zero_le _) (by omega)]; exact (bA_in hT (by omega) he).symm⟩
          · rintro ⟨-, -, f'⟩ q - b
            rw [f' q (by omega)]; exact bA_in hT (by omega) he
        rcases mtS_01 bf (nI (pX en bf x)) i (wLn.getD i 0) 0 with q | q
        · rw [q, if_neg (fun z => by rw [hiff.mpr z] at q; exact absurd q (by decide))]
        · rw [q, if_pos (hiff.mp q)]
      · rw [if_neg hL, if_neg (fun z => hL (by rw [(hw.mp z).2.1]))]
    · rw [if_neg (fun z => hk (Classical.byContradiction fun n => by
        unfold mkT at z
        (repeat' split at z) <;> first | contradiction | exact absurd z (by decide))), if_neg (fun z => hk (hw.mp z).1)]
  · rw [if_neg hf, if_neg hf]
/-- a number, on such a state -/
theorem nn_R {en : Nat} {bf mv : Nat → Int32} {x : Nat} {nu z1 z2 : Int32} (hx : x ≤ en) (he : en ≤ 700) (h1 : 0 ≤ z1) (h2 : z2 ≤ 9999) : s_X13_numberNow (mR en bf mv x 0 nu) z1 z2 = (if s_X4_isNumber en x bf z1 z2 = 0 then 0 else nmX en bf x) ∧ s_X13_numberNow_0_1 (mR en bf mv x 0 nu) z1 z2 = mR en bf mv x (if s_X4_isNumber en x bf z1 z2 = 0 then fkN en bf x else 0) nu := by
  obtain ⟨p1, p2, p3, p4⟩ := pX_nX (bf := bf) hx he
  have p5 := nX_le (bf := bf) hx he
  have e2 := mR_wrong (en := en) (bf := bf) (mv := mv) (x := x) (nu := nu) (f := 2) (by decide)
  have e1 := mR_wrong (en := en) (bf := bf) (mv := mv) (x := x) (nu := nu) (f := 1) (by decide)
  unfold s_X13_numberNow s_X13_numberNow_0_1 s_X4_isNumber fkN
  rw [e1, e2]
  rw [show mR en bf mv x 0 nu 31 = 0 from rfl, show mR en bf mv x 0 nu 27 = mkT (kX en bf x) from rfl, show mR en bf mv x 0 nu 29 = nI (pX en bf x) from rfl, show mR en bf mv x 0 nu 30 = nI (nX en bf x) from rfl, show mR en bf mv x 0 nu 28 = mnX en bf x nu from rfl, show mR en bf mv x 2 nu 31 = 2 from rfl, show mR en bf mv x 1 nu 31 = 1 from rfl, pk_sub p3]
  have d0 : (0 : Int32) = 0 := rfl
  have d1 : ¬ (1 : Int32) = 0 := by decide
  have d2 : ¬ (2 : Int32) = 0 := by decide
  by_cases hk : kX en bf x = 2
  · have hm : mkT (kX en bf x) = 2 := by rw [hk]; rfl
    have hn := num_R hx he hk
    simp only [if_pos hk, hm, if_pos d0, if_neg d2, ↓reduceIte]
    by_cases h4 : nX en bf x - pX en bf x ≤ 4
    · obtain ⟨v, v1, v2, v3⟩ := hn.1 h4
      have hmn : mnX en bf x nu = nI v := by unfold mnX; rw [if_pos hk]; exact v3
      have q4 : ¬ (4 : Int32) < nI (nX en bf x - pX en bf x) := nI_nlt (a := 4) h4 (by decide)
      rw [if_neg q4, if_neg q4, hmn, v2]
      (repeat' split) <;> simp_all
    · have q4 : (4 : Int32) < nI (nX en bf x - pX en bf x) := nI_lt (a := 4) (by omega) (by omega)
      rw [if_pos q4, if_pos q4, hn.2 (by omega)]
      have h5 : ¬ (10000 : Int32) ≤ z2 := fun q => absurd (Int32.le_trans q h2) (by decide)
      simp only [if_neg h5, ite_self]
      exact ⟨rfl, rfl⟩
  · have hm : ¬ mkT (kX en bf x) = 2 := fun z => hk (Classical.byContradiction fun n => by
      unfold mkT at z
      (repeat' split at z) <;> first | contradiction | exact absurd z (by decide))
    simp only [if_neg hk, if_neg hm, if_pos d0, if_neg d1, ↓reduceIte]
    exact ⟨trivial, trivial⟩
end
