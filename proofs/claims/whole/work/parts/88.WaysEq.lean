/-! in how many ways a case goes: one in both -/
noncomputable section
def vS (W : Nat → Nat) : Nat → Nat → Nat
  | 0, i => W i
  | d + 1, i => vS W d i + (if d + 1 ≤ i then W (i - (d + 1)) else 0)
def wyS (d : Nat → Nat) : Nat → Nat → Nat
  | 0, i => if i = 0 then 1 else 0
  | t + 1, i => vS (wyS d t) (d t) i
def nwS (d : Nat → Nat) : Nat → Nat
  | 0 => 1
  | t + 1 => nwS d t + d t
def smN (f : Nat → Nat) : Nat → Nat
  | 0 => 0
  | n + 1 => smN f n + f n
def pdS (d : Nat → Nat) : Nat → Nat
  | 0 => 1
  | t + 1 => pdS d t * (d t + 1)
theorem vS_out {W : Nat → Nat} {n : Nat} (h : ∀ i : Nat, n ≤ i → W i = 0) : ∀ d i : Nat, n + d ≤ i → vS W d i = 0
  | 0, i, hi => h i hi
  | d + 1, i, hi => by rw [vS, vS_out h d i (by omega), if_pos (by omega), h _ (by omega)]
theorem wy_out {d : Nat → Nat} : ∀ t i : Nat, nwS d t ≤ i → wyS d t i = 0
  | 0, i, hi => by rw [nwS] at hi; rw [wyS, if_neg (by omega)]
  | t + 1, i, hi => by rw [nwS] at hi; rw [wyS]; exact vS_out (fun j hj => wy_out t j hj) _ i hi
theorem nw_1 {d : Nat → Nat} : ∀ t : Nat, 1 ≤ nwS d t
  | 0 => Nat.le_refl _
  | t + 1 => by have := nw_1 (d := d) t; rw [nwS]; omega
theorem smN_out {f : Nat → Nat} {n : Nat} (h : ∀ i : Nat, n ≤ i → f i = 0) : ∀ m : Nat, smN f (n + m) = smN f n
  | 0 => rfl
  | m + 1 => by rw [← Nat.add_assoc, smN, smN_out h m, h _ (by omega), Nat.add_zero]
theorem smN_add (f g : Nat → Nat) : ∀ n : Nat, smN (fun i => f i + g i) n = smN f n + smN g n
  | 0 => rfl
  | n + 1 => by
    have ih := smN_add f g n
    rw [smN, smN, smN, ih]
    show smN f n + smN g n + (f n + g n) = smN f n + f n + (smN g n + g n)
    omega
theorem smN_sh (W : Nat → Nat) (k : Nat) : ∀ N : Nat, smN (fun i => if k ≤ i then W (i - k) else 0) N = smN W (N - k)
  | 0 => by rw [Nat.zero_sub]; rfl
  | N + 1 => by
    have ih := smN_sh W k N
    rw [smN, ih]
    by_cases c : k ≤ N
    · rw [show N + 1 - k = (N - k) + 1 by omega, smN]
      show smN W (N - k) + (if k ≤ N then W (N - k) else 0) = _
      rw [if_pos c]
    · rw [show N + 1 - k = 0 by omega]
      show smN W (N - k) + (if k ≤ N then W (N - k) else 0) = _
      rw [if_neg c, Nat.add_zero, show N - k = 0 by omega]
theorem vS_sum {W : Nat → Nat} {n : Nat} (h : ∀ i : Nat, n ≤ i → W i = 0) : ∀ d N : Nat, n + d ≤ N → smN (vS W d) N = smN W n * (d + 1)
  | 0, N, hN => by
    rw [Nat.zero_add, Nat.mul_one, show N = n + (N - n) by omega]
    exact smN_out h _
  | d + 1, N, hN => by
    have e : vS W (d + 1) = fun i => vS W d i + (fun i => if d + 1 ≤ i then W (i - (d + 1)) else 0) i := funext fun i => rfl
    rw [e, smN_add, vS_sum h d N (by omega), smN_sh, show N - (d + 1) = n + (N - (d + 1) - n) by omega, smN_out h, Nat.mul_succ (smN W n) (d + 1)]
theorem wy_sum {d : Nat → Nat} : ∀ t : Nat, smN (wyS d t) (nwS d t) = pdS d t
  | 0 => rfl
  | t + 1 => by
    have e : wyS d (t + 1) = vS (wyS d t) (d t) := funext fun i => rfl
    rw [e, nwS, pdS, vS_sum (fun i hi => wy_out t i hi) (d t) _ (Nat.le_refl _), wy_sum t]
theorem pd_b {d : Nat → Nat} {nt : Nat} (h : ∀ t : Nat, t < nt → d t ≤ 18) : ∀ t : Nat, t ≤ nt → 1 ≤ pdS d t ∧ pdS d t ≤ 19 ^ t
  | 0, _ => ⟨Nat.le_refl _, Nat.le_refl _⟩
  | t + 1, ht => by
    obtain ⟨h1, h2⟩ := pd_b h t (by omega)
    have := h t (by omega)
    rw [pdS, Nat.pow_succ]
    exact ⟨Nat.mul_pos h1 (by omega), Nat.mul_le_mul h2 (by omega)⟩
theorem nw_b {d : Nat → Nat} {nt : Nat} (h : ∀ t : Nat, t < nt → d t ≤ 18) : ∀ t : Nat, t ≤ nt → nwS d t ≤ 1 + 18 * t
  | 0, _ => Nat.le_refl _
  | t + 1, ht => by
    have h2 := nw_b h t (by omega)
    have := h t (by omega)
    rw [nwS]; omega
/-- the class's rows -/
theorem isum_l (f : Nat → Int64) (lo : Nat) : ∀ n : Nat, isum f lo (n + 1) = f lo + isum f (lo + 1) n
  | 0 => by
    show isum f lo 0 + f (lo + 0) = f lo + isum f (lo + 1) 0
    rw [isum, isum, Int64.zero_add, Int64.add_zero, Nat.add_zero]
  | n + 1 => by
    have ih := isum_l f lo n
    show isum f lo (n + 1) + f (lo + (n + 1)) = f lo + (isum f (lo + 1) n + f (lo + 1 + n))
    rw [ih, Int64.add_assoc, show lo + 1 + n = lo + (n + 1) by omega]
theorem isum_v {f : Nat → Int64} {W : Nat → Nat} {i : Nat} (h : ∀ j : Nat, j ≤ i → f j = lN (W j)) : ∀ w : Nat, isum f (i - w) (i - (i - w) + 1) = lN (vS W w i)
  | 0 => by
    rw [Nat.sub_zero, Nat.sub_self]
    show isum f i 0 + f (i + 0) = lN (W i)
    rw [isum, Int64.zero_add, Nat.add_zero, h i (Nat.le_refl _)]
  | w + 1 => by
    have ih := isum_v h w
    rw [vS]
    by_cases c : w + 1 ≤ i
    · rw [if_pos c, show i - (i - (w + 1)) + 1 = (i - (i - w) + 1) + 1 by omega, isum_l, show i - (w + 1) + 1 = i - w by omega, ih, h _ (by omega), lN_add, Nat.add_comm]
    · rw [if_neg c, show i - (w + 1) = i - w by omega, ih, Nat.add_zero]
theorem isum_ag {f g : Nat → Int64} {lo : Nat} : ∀ n : Nat, (∀ j : Nat, j < n → f (lo + j) = g (lo + j)) → isum f lo n = isum g lo n
  | 0, _ => rfl
  | n + 1, h => by rw [isum, isum, isum_ag n (fun j hj => h j (by omega)), h n (by omega)]
theorem au_at {w : Nat} : ∀ (n : Nat) (f : Nat → Int64) (i : Nat), auS w n f i = if i < n then isum f (i - w) (i - (i - w) + 1) else f i
  | 0, f, i => by rw [if_neg (Nat.not_lt_zero _)]; rfl
  | k + 1, f, i => by
    rw [auS, au_at k]
    by_cases c : i < k
    · rw [if_pos c, if_pos (by omega)]
      exact isum_ag _ (fun j hj => pk_uLn (by omega))
    · rw [if_neg c]
      by_cases e : i = k
      · subst e; rw [pk_uLs, if_pos (by omega)]
      · rw [pk_uLn e, if_neg (by omega)]
theorem cw_2 (wf : Nat → Int64) : ∀ n i : Nat, n ≤ 217 → i < n → s_X6_countWays_2 wf n i = if i = 0 then 1 else 0
  | 0, i, _, h => absurd h (Nat.not_lt_zero _)
  | n + 1, i, hn, h => by
    rw [s_X6_countWays_2]
    unfold s_X6_countWays_2s
    by_cases e : i = n
    · subst e
      by_cases z : i = 0
      · subst z; rw [if_pos nI_0, if_pos rfl, pk_uLs]
      · rw [if_neg (nI_ne0 (by omega) (by omega)), if_neg z, pk_uLs]
    · have ih := cw_2 wf n i (by omega) (by omega)
      by_cases z : nI n = 0
      · rw [if_pos z, pk_uLn e, ih]
      · rw [if_neg z, pk_uLn e, ih]
theorem ways_c {nt : Nat} {th : Int32} {tf : Nat → Int32} {d : Nat → Nat} {wf : Nat → Int64} (h0 : ∀ t : Nat, t < nt → (th >>> ((nI t) &&& 31)) &&& 1 = 0 → d t = 0) (h1 : ∀ t : Nat, t < nt → ¬ (th >>> ((nI t) &&& 31)) &&& 1 = 0 → (2 * (tat 84 tf ((nI t) * 7 + 2))).toNatClampNeg = d t) : ∀ t : Nat, t ≤ nt → ∀ i : Nat, i < 217 → s_X6_countWays_34 th tf (s_X6_countWays_2 wf 217) t i = lN (wyS d t i)
  | 0, _, i, hi => by
    rw [s_X6_countWays_34, cw_2 wf 217 i (Nat.le_refl _) hi, wyS]
    by_cases z : i = 0
    · rw [if_pos z, if_pos z]; rfl
    · rw [if_neg z, if_neg z]; rfl
  | t + 1, ht, i, hi => by
    have ih := ways_c (wf := wf) h0 h1 t (by omega)
    rw [s_X6_countWays_34, wyS]
    unfold s_X6_countWays_34s
    by_cases c : (th >>> ((nI t) &&& 31)) &&& 1 = 0
    · rw [if_pos c, h0 t (by omega) c, ih i hi, vS]
    · rw [if_neg c, h1 t (by omega) c, au_at, if_pos hi]
      exact isum_v (fun j hj => ih j (by omega)) _
def gG (b e : Nat) (W : Nat → Nat) (i : Nat) : Nat := if b < e + i then 0 else W i
theorem fc_16 {nt b e : Nat} (hb : b < 2 ^ 20) (he : e < 2 ^ 20) {th : Int32} {tf : Nat → Int32} {wf : Nat → Int64} {W : Nat → Nat} (h : ∀ i : Nat, i < 217 → s_X6_countWays_34 th tf (s_X6_countWays_2 wf 217) nt i = lN (W i)) : ∀ n : Nat, n ≤ 217 → s_X6_findChance_16 nt th (nI b) (nI e) tf wf 0 0 n = (lN (smN (gG b e W) n), lN (smN W n))
  | 0, _ => rfl
  | n + 1, hn => by
    have ih := fc_16 hb he h n (by omega)
    rw [s_X6_findChance_16, ih]
    unfold s_X6_findChance_16s
    rw [h n (by omega), nI_add, smN, smN, lN_add]
    by_cases c : b < e + n
    · rw [if_pos ((nI_ltI (by omega) (by omega)).mpr c)]
      unfold gG
      rw [if_pos c]
      show (lN _ + 0, _) = _
      rw [Int64.add_zero, Nat.add_zero]
    · rw [if_neg (fun q => c ((nI_ltI (by omega) (by omega)).mp q)), lN_add]
      unfold gG
      rw [if_neg c]
/-- the reference's rows -/
def rS (W : Nat → Nat) (k : Nat) : Nat → Nat
  | 0 => 0
  | m + 1 => rS W k m + W (k - m)
theorem rS_v {W : Nat → Nat} {k : Nat} : ∀ d : Nat, vS W d k = rS W k (min (d + 1) (k + 1))
  | 0 => by
    rw [show min (0 + 1) (k + 1) = 0 + 1 by omega, rS, rS, vS, Nat.zero_add, Nat.sub_zero]
  | d + 1 => by
    have ih := rS_v (W := W) (k := k) d
    rw [vS, ih]
    by_cases c : d + 1 ≤ k
    · rw [if_pos c, show min (d + 1 + 1) (k + 1) = (d + 1) + 1 by omega, show min (d + 1) (k + 1) = d + 1 by omega]
      rfl
    · rw [if_neg c, Nat.add_zero, show min (d + 1 + 1) (k + 1) = min (d + 1) (k + 1) by omega]
theorem isN_r {f : Nat → Int64} {W : Nat → Nat} {k n : Nat} (h : ∀ q : Nat, q < n → f q = lN (W q)) (i0 : Nat) : ∀ t : Nat, (∀ j : Nat, j < t → k - (i0 + j) < n) → lN (rS W k i0) + isN f k i0 t = lN (rS W k (i0 + t))
  | 0, _ => by rw [isN, Int64.add_zero]; rfl
  | t + 1, hj => by
    have ih := isN_r h i0 t (fun j q => hj j (by omega))
    rw [isN, ← Int64.add_assoc, ih, h _ (hj t (by omega)), lN_add]
    rfl
theorem rS_0 {W : Nat → Nat} {k n : Nat} (h : ∀ i : Nat, n ≤ i → W i = 0) : ∀ m : Nat, m ≤ k + 1 - n → rS W k m = 0
  | 0, _ => rfl
  | m + 1, hm => by rw [rS, rS_0 h m (by omega), h _ (by omega)]
theorem isV_v {f : Nat → Int64} {W : Nat → Nat} {k n d : Nat} (h : ∀ q : Nat, q < n → f q = lN (W q)) (h0 : ∀ i : Nat, n ≤ i → W i = 0) (hn : 1 ≤ n) (hk : k < n + d) : isV n (d + 1) f k = lN (vS W d k) := by
  have := isN_r (k := k) h (k + 1 - n) (min (d + 1) (k + 1) - (k + 1 - n)) (fun j hj => by omega)
  rw [rS_0 h0 _ (Nat.le_refl _), show k + 1 - n + (min (d + 1) (k + 1) - (k + 1 - n)) = min (d + 1) (k + 1) by omega, ← rS_v] at this
  unfold isV
  rw [← this]
  exact (Int64.zero_add _).symm
theorem rx_at {nt : Nat} {pl : Nat → Int32} {x : Int32} {uN d : Nat → Nat} {f g : Nat → Int64} (h0 : ∀ t : Nat, t < nt → pl t = x → d t = 2 * uN t) (h1 : ∀ t : Nat, t < nt → ¬ pl t = x → d t = 0) : ∀ t : Nat, t ≤ nt → nWS pl x uN t = nwS d t ∧ ∀ q : Nat, q < nwS d t → (rxS pl x uN f g t).1 q = lN (wyS d t q)
  | 0, _ => ⟨rfl, fun q hq => by
    rw [nwS] at hq
    have : q = 0 := by omega
    subst this
    exact (show vp_updL f 0 1 0 = lN 1 from if_pos rfl)⟩
  | t + 1, ht => by
    obtain ⟨i1, i2⟩ := rx_at (f := f) (g := g) h0 h1 t (by omega)
    rw [nWS, nwS, rxS]
    by_cases c : pl t = x
    · have hd := h0 t (by omega) c
      rw [if_pos c, if_pos c, i1, ← hd]
      refine ⟨rfl, fun q hq => ?_⟩
      show cpL (nwS d t + d t) _ _ q = _
      unfold cpL
      rw [if_pos hq, nxS_at _ q hq, wyS]
      exact isV_v i2 (fun i hi => wy_out t i hi) (nw_1 t) hq
    · have hd := h1 t (by omega) c
      rw [if_neg c, if_neg c, hd]
      refine ⟨i1, fun q hq => ?_⟩
      rw [wyS, hd, vS]
      exact i2 q hq
theorem ww_p {nt : Nat} {pl : Nat → Int32} {x : Int32} {uN d : Nat → Nat} (hu : ∀ t : Nat, t < nt → uN t ≤ 9) (h0 : ∀ t : Nat, t < nt → pl t = x → d t = 2 * uN t) (h1 : ∀ t : Nat, t < nt → ¬ pl t = x → d t = 0) : ∀ t : Nat, t ≤ nt → wWS pl x uN t = lN (pdS d t)
  | 0, _ => rfl
  | t + 1, ht => by
    have ih := ww_p hu h0 h1 t (by omega)
    have := hu t (by omega)
    rw [wWS, pdS, ih]
    by_cases c : pl t = x
    · rw [if_pos c, h0 t (by omega) c, nI_l (by omega), lN_mul]
    · rw [if_neg c, h1 t (by omega) c, Nat.zero_add, Nat.mul_one]
theorem gw_eq {f : Nat → Int64} {W : Nat → Nat} {b e n : Nat} (hb : b < 2 ^ 20) (he : e < 2 ^ 20) (hn : n < 2 ^ 20) (h : ∀ q : Nat, q < n → f q = lN (W q)) : ∀ r k : Nat, k + r ≤ n → gwS2 (nI b) (nI e) f r k (lN (smN (gG b e W) k)) = lN (smN (gG b e W) (k + r))
  | 0, k, _ => rfl
  | r + 1, k, hk => by
    rw [gwS2, nI_add]
    by_cases c : b < e + k
    · rw [if_pos ((nI_ltI (by omega) (by omega)).mpr c), smN_out (n := k) (fun i hi => by unfold gG; rw [if_pos (by omega)])]
    · rw [if_neg (fun q => c ((nI_ltI (by omega) (by omega)).mp q)), h k (by omega), lN_add]
      have e1 : smN (gG b e W) k + W k = smN (gG b e W) (k + 1) := by
        rw [smN]; unfold gG; rw [if_neg c]
      rw [e1, gw_eq hb he hn h r (k + 1) (by omega), show k + 1 + r = k + (r + 1) by omega]
theorem gG_le {b e : Nat} {W : Nat → Nat} : ∀ n : Nat, smN (gG b e W) n ≤ smN W n
  | 0 => Nat.le_refl _
  | n + 1 => by
    have ih := gG_le (b := b) (e := e) (W := W) n
    rw [smN, smN]
    unfold gG at ih ⊢
    split <;> omega
/-- Euclid -/
theorem gcd_st (a b : Nat) : Nat.gcd a b = Nat.gcd b (a % b) := by rw [Nat.gcd_comm, Nat.gcd_rec b a, Nat.gcd_comm]
theorem eu_gcd : ∀ k r a b : Nat, 2 * k + 1 ≤ r → a < 2 ^ 62 → b < 2 ^ k → b < 2 ^ 62 → euS r (lN a) (lN b) = lN (Nat.gcd a b)
  | 0, r, a, b, hr, ha, hb, hb2 => by
    have : b = 0 := by omega
    subst this
    rw [Nat.gcd_zero_right]
    exact euS_0 r (lN a)
  | k + 1, r, a, b, hr, ha, hb, hb2 => by
    obtain ⟨r, rfl⟩ : ∃ q : Nat, r = q + 2 := ⟨r - 2, by omega⟩
    by_cases b0 : b = 0
    · subst b0
      rw [Nat.gcd_zero_right]
      exact euS_0 _ (lN a)
    · have nb : ¬ lN b = 0 := fun q => b0 ((pk_lEQ (b := 0) (by omega) (by decide)).mp q)
      rw [euS, if_neg nb, pk_lRem (by omega) (by omega) (by omega), gcd_st]
      have hm := Nat.mod_lt a (Nat.pos_of_ne_zero b0)
      generalize a % b = m at hm
      by_cases m0 : m = 0
      · subst m0
        rw [Nat.gcd_zero_right]
        exact euS_0 _ (lN b)
      · have nm : ¬ lN m = 0 := fun q => m0 ((pk_lEQ (b := 0) (by omega) (by decide)).mp q)
        rw [euS, if_neg nm, pk_lRem (by omega) (by omega) (by omega), gcd_st]
        have h1 := Nat.mod_lt b (Nat.pos_of_ne_zero m0)
        have h2 := Nat.div_add_mod b m
        have h3 : 0 < b / m := Nat.div_pos (by omega) (by omega)
        have h4 : m * 1 ≤ m * (b / m) := Nat.mul_le_mul_left m h3
        rw [Nat.pow_succ] at hb
        exact eu_gcd k r m (b % m) (by omega) (by omega) (by omega) (by omega)
theorem rd_eq {a b c : Nat} (ha : a < 2 ^ 62) (hb : b < 2 ^ 62) (hc : c < 2 ^ 62) (h0 : 0 < b) : rdS (lN a) (lN b) (lN c) = lN (c / Nat.gcd a b) := by
  have hg : 0 < Nat.gcd a b := Nat.gcd_pos_of_pos_right a h0
  have hl : Nat.gcd a b ≤ b := Nat.gcd_le_right a h0
  unfold rdS
  rw [eu_gcd 62 200 a b (by decide) ha hb hb, show (1 : Int64) = lN 1 from rfl]
  by_cases q : Nat.gcd a b ≤ 1
  · rw [if_pos ((pk_lLE (b := 1) (by omega) (by decide)).mpr q), show Nat.gcd a b = 1 by omega, Nat.div_one]
  · rw [if_neg (fun z => q ((pk_lLE (b := 1) (by omega) (by decide)).mp z)), pk_lDiv (by omega) hg (by omega)]
theorem eq_unsure {nt : Nat} (hnt : nt ≤ 12) {tf plf ki he un wi va ht pl : Nat → Int32} {p : Int32} (hT : rlT nt tf ki he un wi va ht) (hL : rlL nt plf pl) : s_X13_unsureAt nt un pl p = smS tf (taS plf p nt) 2 nt := by
  have key : ∀ n : Nat, n ≤ nt → s_X13_unsureAt_4 un pl p 0 n = smS tf (taS plf p nt) 2 n := by
    intro n
    induction n with
    | zero => intro _; rfl
    | succ n ih =>
      intro hn
      rw [s_X13_unsureAt_4, smS, ih (by omega), ta3 7 2 rfl 7 2 rfl rfl (by omega) (by decide), ← (hT n (by omega)).2.2.1]
      unfold s_X13_unsureAt_4s
      by_cases e : pl n = p
      · rw [if_pos e, if_neg (fun q => ?_)]
        have := (bt_tst (x := taS plf p nt) (t := n) (by omega)).mp q
        rw [ta_bt (by omega) nt hnt, decide_eq_true ⟨by omega, by rw [← hL n (by omega)]; exact e⟩] at this
        exact absurd this (by decide)
      · rw [if_neg e, if_pos ((bt_tst (by omega)).mpr ?_), Int32.add_zero]
        rw [ta_bt (by omega) nt hnt, decide_eq_false (fun q => e (by rw [hL n (by omega)]; exact q.2))]
  exact key nt (Nat.le_refl _)
theorem sm_wu {nt : Nat} {tf : Nat → Int32} (h : wtOK nt tf) (bits : Int32) : ∀ n : Nat, n ≤ nt → ∃ w u : Nat, smS tf bits 1 n = nI w ∧ smS tf bits 2 n = nI u ∧ u ≤ w ∧ w ≤ 60 * n ∧ u ≤ 9 * n
  | 0, _ => ⟨0, 0, rfl, rfl, Nat.le_refl _, by omega, by omega⟩
  | n + 1, hn => by
    obtain ⟨w, u, e1, e2, h1, h2, h3⟩ := sm_wu h bits n (by omega)
    obtain ⟨g1, g2, g3, g4, g5⟩ := h n (by omega)
    rw [smS, smS, e1, e2]
    by_cases c : (bits >>> (nI n &&& 31)) &&& 1 = 0
    · rw [if_pos c, if_pos c]
      exact ⟨w, u, rfl, rfl, h1, by omega, by omega⟩
    · rw [if_neg c, if_neg c, g1, g2, nI_add, nI_add]
      exact ⟨_, _, rfl, rfl, by omega, by omega, by omega⟩
theorem eq_sure {nt nc c : Nat} (hnt : nt ≤ 12) (hnc : nc ≤ 5) {to tf cf plf ki he un wi va ht pl ow li ho co bo : Nat → Int32} {rf9 rg9 wf : Nat → Int64} {uN : Nat → Nat} {y : Int32} (hT : rlT nt tf ki he un wi va ht) (hC : rlC nc cf ow li ho co bo) (hL : rlL nt plf pl) (hW : wtOK nt tf) (hl : liOK nc cf) (k1 : to 1 = nI nc) (hc : c < nc) (hu : ∀ t : Nat, t < nt → un t = nI (uN t) ∧ uN t ≤ 9) (hy : y = 0 ∨ y = 1 ∨ y = 2 ∨ y = 3 ∨ y = 4) :
    s_X13_sure nt to li ki he un wi ht pl rf9 rg9 uN (nI c) y = s_X12_sure nt cf tf plf wf (nI c) y := by
  have hi := cs_in k1 (by omega) hc rfl
  have e1 : s_X13_sumAt nt ki he wi ht pl (nI c) 1 = smS tf (taS plf (nI c) nt) 1 nt := eq_weight hnt hT hL
  have e2 : s_X13_unsureAt nt un pl (nI c) = smS tf (taS plf (nI c) nt) 2 nt := eq_unsure hnt hT hL
  obtain ⟨b, hb, eb⟩ := hl c hc
  have e3 : tat 25 cf (nI c * 5 + 1) = nI b := by rw [ta3 5 1 rfl 5 1 rfl rfl (by omega) (by decide), eb]
  have e4 : li c = nI b := (hC c hc).2.1.trans eb
  have cl : (nI c).toNatClampNeg = c := nI_clamp (by omega)
  obtain ⟨w, u, s1, s2, h1, h2, h3⟩ := sm_wu hW (taS plf (nI c) nt) nt (Nat.le_refl _)
  have le : nI w - nI u = nI (w - u) := pk_sub h1
  unfold s_X13_sure s_X12_sure
  rw [if_neg hi, e1, e2, cl, e4, e3, s1, s2]
  obtain ⟨m0, m1, m2, m3, m4⟩ : (¬ s_X13_isIn (Int32.toInt64 0) 0 4 = 0) ∧ (¬ s_X13_isIn (Int32.toInt64 1) 0 4 = 0) ∧ (¬ s_X13_isIn (Int32.toInt64 2) 0 4 = 0) ∧ (¬ s_X13_isIn (Int32.toInt64 3) 0 4 = 0) ∧ (¬ s_X13_isIn (Int32.toInt64 4) 0 4 = 0) := by decide +kernel
  rcases hy with rfl | rfl | rfl | rfl | rfl
  · rw [if_neg m0, if_neg (by decide), if_pos rfl, if_pos rfl, Int32.sub_eq_add_neg]
  · rw [if_neg m1, if_neg (by decide), if_neg (by decide), if_neg (by decide), if_pos rfl]
  · rw [if_neg m2, if_pos (by decide), if_pos rfl, if_neg (by decide), if_neg (by decide), if_pos rfl]
    unfold s_X13_sureOf s_X6_known
    rw [e1, e2, cl, e4, s1, s2]
  all_goals
    let d : Nat → Nat := fun t => if pl t = nI c then 2 * uN t else 0
    have d0 : ∀ t : Nat, t < nt → pl t = nI c → d t = 2 * uN t := fun t _ h => if_pos h
    have d1 : ∀ t : Nat, t < nt → ¬ pl t = nI c → d t = 0 := fun t _ h => if_neg h
    have hd : ∀ t : Nat, t < nt → d t ≤ 18 := fun t h => by
      have := (hu t h).2
      by_cases q : pl t = nI c
      · rw [d0 t h q]; omega
      · rw [d1 t h q]; omega
    have bit : ∀ t : Nat, t < nt → (((taS plf (nI c) nt) >>> ((nI t) &&& 31)) &&& 1 = 0 ↔ ¬ pl t = nI c) := fun t h => by
      rw [bt_tst (by omega), ta_bt (by omega) nt hnt, hL t h]
      by_cases q : plf t = nI c
      · rw [decide_eq_true ⟨h, q⟩]; exact ⟨fun z => absurd z (by decide), fun z => absurd q z⟩
      · rw [decide_eq_false (fun z => q z.2)]; exact ⟨fun _ => q, fun _ => rfl⟩
    have wc := ways_c (wf := wf) (d := d) (nt := nt) (th := taS plf (nI c) nt) (tf := tf) (fun t h q => d1 t h ((bit t h).mp q)) (fun t h q => by
      have hp : pl t = nI c := Classical.not_not.mp (fun z => q ((bit t h).mpr z))
      obtain ⟨u1, u2⟩ := hu t h
      rw [d0 t h hp, ta3 7 2 rfl 7 2 rfl rfl (by omega) (by decide), ← (hT t h).2.2.1, u1, show (2 : Int32) = nI 2 from rfl, pk_mul, nI_clamp (by omega)]) nt (Nat.le_refl _)
    have fc := fc_16 (b := b) (e := w - u) (by omega) (by omega) wc 217 (Nat.le_refl _)
    obtain ⟨n1, n2⟩ := rx_at (f := rf9) (g := rg9) d0 d1 nt (Nat.le_refl _)
    have nb := nw_b hd nt (Nat.le_refl _)
    have ge := gw_eq (b := b) (e := w - u) (by omega) (by omega) (by omega) n2 (nwS d nt) 0 (by omega)
    have wp := ww_p (fun t h => (hu t h).2) d0 d1 nt (Nat.le_refl _)
    have s217 : smN (wyS d nt) 217 = pdS d nt := by
      rw [show (217 : Nat) = nwS d nt + (217 - nwS d nt) by omega, smN_out (fun i hi => wy_out nt i hi), wy_sum]
    have g217 : smN (gG b (w - u) (wyS d nt)) 217 = smN (gG b (w - u) (wyS d nt)) (0 + nwS d nt) := by
      rw [Nat.zero_add, show (217 : Nat) = nwS d nt + (217 - nwS d nt) by omega, smN_out (fun i hi => by unfold gG; rw [wy_out nt i hi, ite_self])]
    obtain ⟨p1, p2⟩ := pd_b hd nt (Nat.le_refl _)
    have p3 := p19 hnt
    have gl := gG_le (b := b) (e := w - u) (W := wyS d nt) 217
    rw [g217, s217] at fc gl
    generalize smN (gG b (w - u) (wyS d nt)) (0 + nwS d nt) = G at fc gl ge
    generalize pdS d nt = T at fc gl wp p1 p2
    have ge2 : gwS2 (nI b) (nI (w - u)) (rxS pl (nI c) uN rf9 rg9 nt).1 (nwS d nt) 0 0 = lN G := ge
    have gp : 0 < Nat.gcd G T := Nat.gcd_pos_of_pos_right G p1
    have gq : Nat.gcd G T ≤ T := Nat.gcd_le_right G p1
    rw [le, fc, n1, ge2, wp]
    rw [lNt (by omega), lNt (by omega), Int.toNat_natCast, Int.toNat_natCast, Nat.gcd_comm T G]
  · rw [if_neg m3, if_pos (by decide), if_neg (by decide), if_pos rfl, if_neg (by decide), if_neg (by decide), if_neg (by decide), if_pos rfl, rd_eq (by omega) (by omega) (by omega) (by omega), pk_lDiv (by omega) gp (by omega)]
  · rw [if_neg m4, if_pos (by decide), if_neg (by decide), if_neg (by decide), if_neg (by decide), if_neg (by decide), if_neg (by decide), if_neg (by decide), rd_eq (by omega) (by omega) (by omega) (by omega), pk_lDiv (by omega) gp (by omega)]
end
