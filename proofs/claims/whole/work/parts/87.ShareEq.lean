/-! shares of what is carried: one in both -/
noncomputable section
def dgS (np nc t c : Nat) : Nat := t / np ^ (nc - 1 - c) % np
theorem dg_lt {np nc t c : Nat} (h0 : 0 < np) : dgS np nc t c < np := Nat.mod_lt _ h0
theorem mod_s {q np : Nat} (h0 : 0 < np) : (q % np + 1 = np → (q + 1) % np = 0) ∧ (¬ q % np + 1 = np → (q + 1) % np = q % np + 1) := by
  have h1 := Nat.mod_lt q h0
  constructor
  · intro h; rw [← Nat.mod_add_mod, h, Nat.mod_self]
  · intro h; rw [← Nat.mod_add_mod, Nat.mod_eq_of_lt (by omega)]
theorem gn_1 {np nc t : Nat} (h0 : 0 < np) (hnp : np ≤ 4) (hnc : nc ≤ 5) : ∀ (k : Nat) (cy : Int32) (f : Nat → Int32), k ≤ nc → (cy = 0 ∨ cy = 1) → (cy = 0 → ¬ np ^ (nc - k) ∣ t + 1) → (cy = 1 → np ^ (nc - k) ∣ t + 1) → (∀ c : Nat, c < k → f c = nI (dgS np nc t c)) → (∀ c : Nat, k ≤ c → c < nc → f c = nI (dgS np nc (t + 1) c)) → ∀ c : Nat, c < nc → gnS (nI np) k cy f c = nI (dgS np nc (t + 1) c)
  | 0, cy, f, _, _, _, _, _, h5, c, hc => h5 c (Nat.zero_le _) hc
  | k + 1, cy, f, hk, hcy, hn, hd, h4, h5, c, hc => by
    rw [gnS]
    by_cases c0 : cy = 0
    · rw [if_pos c0]
      by_cases q : c < k + 1
      · rw [h4 c q]
        have nd : ¬ np ^ (nc - 1 - c) ∣ t + 1 := fun z => hn c0 (Nat.dvd_trans (Nat.pow_dvd_pow np (by omega)) z)
        unfold dgS
        rw [Nat.succ_div_of_not_dvd nd]
      · exact h5 c (by omega) hc
    · rw [if_neg c0]
      have c1 := hcy.resolve_left c0
      have dv : np ^ (nc - 1 - k) ∣ t + 1 := by
        have := hd c1
        rw [show nc - (k + 1) = nc - 1 - k by omega] at this
        exact this
      have hq : (t + 1) / np ^ (nc - 1 - k) = t / np ^ (nc - 1 - k) + 1 := Nat.succ_div_of_dvd dv
      obtain ⟨m1, m2⟩ := mod_s (q := t / np ^ (nc - 1 - k)) h0
      have hlt : dgS np nc t k < np := dg_lt h0
      have fk : tat 5 f (nI k) + 1 = nI (dgS np nc t k + 1) := by rw [tat_in (by omega) (by decide), h4 k (by omega), nI_1]
      have pw : np ^ (nc - k) = np ^ (nc - 1 - k) * np := by rw [show nc - k = (nc - 1 - k) + 1 by omega, Nat.pow_succ]
      have fac : t + 1 = np ^ (nc - 1 - k) * ((t + 1) / np ^ (nc - 1 - k)) := (Nat.mul_div_cancel' dv).symm
      rw [fk]
      by_cases e : dgS np nc t k + 1 = np
      · rw [if_pos (by rw [e])]
        refine gn_1 h0 hnp hnc k 1 _ (by omega) (Or.inr rfl) (fun z => absurd z (by decide)) (fun _ => ?_) (fun c9 h9 => ?_) (fun c9 h8 h9 => ?_) c hc
        · have z := Nat.dvd_of_mod_eq_zero (m1 e)
          rw [pw, fac, hq]
          exact Nat.mul_dvd_mul_left _ z
        · rw [tset_in (by omega) (by decide), pk_un (by omega)]; exact h4 c9 (by omega)
        · rw [tset_in (by omega) (by decide)]
          by_cases z : c9 = k
          · subst z
            rw [pk_us]
            unfold dgS
            rw [hq, m1 e]; rfl
          · rw [pk_un z]; exact h5 c9 (by omega) h9
      · rw [if_neg (fun z => e ((nI_eq (by omega) (by omega)).mp z))]
        have m2 := m2 e
        refine gn_1 h0 hnp hnc k 0 _ (by omega) (Or.inl rfl) (fun _ z => ?_) (fun z => absurd z (by decide)) (fun c9 h9 => ?_) (fun c9 h8 h9 => ?_) c hc
        · rw [pw] at z
          obtain ⟨u, hu⟩ := z
          rw [Nat.mul_assoc] at hu
          have hp : 0 < np ^ (nc - 1 - k) := Nat.pow_pos h0
          have : (t + 1) / np ^ (nc - 1 - k) = np * u := by rw [hu]; exact Nat.mul_div_cancel_left _ hp
          rw [hq] at this
          rw [this, Nat.mul_mod_right] at m2
          omega
        · rw [tset_in (by omega) (by decide), pk_un (by omega)]; exact h4 c9 (by omega)
        · rw [tset_in (by omega) (by decide)]
          by_cases z : c9 = k
          · subst z
            rw [pk_us]
            unfold dgS
            rw [hq, m2]
          · rw [pk_un z]; exact h5 c9 (by omega) h9
/-- sums from both ends -/
def upS (g : Nat → Int32) : Nat → Int32
  | 0 => 0
  | n + 1 => upS g n + g n
def dnS (g : Nat → Int32) (m : Nat) : Nat → Int32
  | 0 => 0
  | n + 1 => dnS g m n + g (m - 1 - n)
theorem up_dn (g : Nat → Int32) (m : Nat) : ∀ n : Nat, n ≤ m → upS g (m - n) + dnS g m n = upS g m
  | 0, _ => by rw [dnS, Int32.add_zero, Nat.sub_zero]
  | n + 1, h => by
    have ih := up_dn g m n (by omega)
    rw [show m - n = (m - (n + 1)) + 1 by omega, upS] at ih
    rw [dnS, ← ih, show m - 1 - n = m - (n + 1) by omega, Int32.add_assoc, Int32.add_comm (dnS g m n)]
def ldG (np nc r p : Nat) (w : Nat → Int32) (c : Nat) : Int32 := if dgS np nc r c = p then w c else 0
theorem gs_18 {np nc r p : Nat} {rw9 we w : Nat → Int32} (h0 : 0 < np) (hnp : np ≤ 4) (hnc : nc ≤ 5) (hp : p < np) (h1 : ∀ c : Nat, c < nc → rw9 c = nI (dgS np nc r c)) (h2 : ∀ c : Nat, c < nc → we c = w c) : ∀ n : Nat, n ≤ nc → s_X3_greatestShare_18 rw9 we p 0 n = upS (ldG np nc r p w) n
  | 0, _ => rfl
  | n + 1, hn => by
    have hd : dgS np nc r n < np := dg_lt h0
    rw [s_X3_greatestShare_18, upS, gs_18 h0 hnp hnc hp h1 h2 n (by omega)]
    unfold s_X3_greatestShare_18s ldG
    rw [tat_in (by omega) (by decide), tat_in (by omega) (by decide), h1 n (by omega), h2 n (by omega)]
    by_cases e : dgS np nc r n = p
    · rw [if_pos (by rw [e]), if_pos e]
    · rw [if_neg (fun z => e ((nI_eq (by omega) (by omega)).mp z)), if_neg e]
theorem ls_dn {np nc r p : Nat} {w : Nat → Int32} : ∀ n : Nat, n ≤ nc → lsS np nc w r (fun _ => 0) n p = dnS (ldG np nc r p w) nc n
  | 0, _ => rfl
  | n + 1, hn => by
    have ih := ls_dn (np := np) (nc := nc) (r := r) (p := p) (w := w) n (by omega)
    rw [lsS, dnS, ← ih]
    unfold ldG dgS
    rw [show nc - 1 - (nc - 1 - n) = n by omega]
    by_cases e : r / np ^ n % np = p
    · rw [if_pos e, e, pk_us]
    · rw [if_neg e, pk_un (fun z => e z.symm), Int32.add_zero]
theorem ld_eq {np nc r p : Nat} {rw9 we w : Nat → Int32} (h0 : 0 < np) (hnp : np ≤ 4) (hnc : nc ≤ 5) (hp : p < np) (h1 : ∀ c : Nat, c < nc → rw9 c = nI (dgS np nc r c)) (h2 : ∀ c : Nat, c < nc → we c = w c) : s_X3_greatestShare_18 rw9 we p 0 nc = lsS np nc w r (fun _ => 0) nc p := by
  rw [gs_18 h0 hnp hnc hp h1 h2 nc (Nat.le_refl _), ls_dn nc (Nat.le_refl _)]
  have := up_dn (ldG np nc r p w) nc nc (Nat.le_refl _)
  rw [Nat.sub_self, upS, Int32.zero_add] at this
  exact this.symm
theorem gr_eq {np nc r : Nat} {pf own rw9 we w : Nat → Int32} (h0 : 0 < np) (hnp : np ≤ 4) (hnc : nc ≤ 5) (ho : ∀ p : Nat, p < np → own p = pf (3 * p + 0) ∧ ∃ k : Nat, own p = nI k ∧ 1 ≤ k ∧ k ≤ 300) (h1 : ∀ c : Nat, c < nc → rw9 c = nI (dgS np nc r c)) (h2 : ∀ c : Nat, c < nc → we c = w c) : s_X3_greatestShare np nc pf rw9 we = moX np nc w own r := by
  have key : ∀ n : Nat, n ≤ np → s_X3_greatestShare_4 nc pf rw9 we 0 n = moR (lsS np nc w r (fun _ => 0) nc) own n := by
    intro n
    induction n with
    | zero => intro _; rfl
    | succ n ih =>
      intro hn
      obtain ⟨o1, k, o2, o3, o4⟩ := ho n (by omega)
      rw [s_X3_greatestShare_4, moR, ih (by omega)]
      unfold s_X3_greatestShare_4s
      rw [ta3 3 0 rfl 3 0 rfl rfl (by omega) (by decide), ← o1, ld_eq h0 hnp hnc (by omega) h1 h2, if_neg (by rw [o2]; exact nI_nle (by omega) (by omega))]
  exact key np (Nat.le_refl _)
theorem ca_at {np nc row : Nat} {f : Nat → Int32} : ∀ n : Nat, n ≤ nc → ∀ c : Nat, nc - n ≤ c → c < nc → caS np nc row f n c = nI (dgS np nc row c)
  | 0, _, c, h1, h2 => absurd h1 (by omega)
  | n + 1, hn, c, h1, h2 => by
    rw [caS]
    by_cases e : c = nc - 1 - n
    · subst e
      rw [pk_us]
      unfold dgS
      rw [show nc - 1 - (nc - 1 - n) = n by omega]
    · rw [pk_un e]
      exact ca_at n (by omega) c (by omega) h2
theorem ls19 {nt np nc : Nat} (hnc : nc ≤ 5) {hv tf plf we : Nat → Int32} (h5 : hv 5 = nI np) : ∀ n : Nat, n ≤ nc → (s_X3_leastShare_19 nt hv tf plf 1 we n).1 = nI (np ^ n) ∧ ∀ c : Nat, c < n → (s_X3_leastShare_19 nt hv tf plf 1 we n).2 c = wiS nt tf plf (nI c)
  | 0, _ => ⟨rfl, fun c h => absurd h (Nat.not_lt_zero _)⟩
  | n + 1, hn => by
    obtain ⟨i1, i2⟩ := ls19 hnc (nt := nt) (tf := tf) (plf := plf) (we := we) h5 n (by omega)
    rw [s_X3_leastShare_19]
    unfold s_X3_leastShare_19s
    refine ⟨by show _ * hv 5 = _; rw [i1, h5, pk_mul, Nat.pow_succ], fun c hc => ?_⟩
    show tset 5 _ (nI n) _ c = _
    rw [tset_in (by omega) (by decide)]
    by_cases e : c = n
    · subst e; rw [pk_us]
    · rw [pk_un e]; exact i2 c (by omega)
theorem eq_share {nt np nc : Nat} (hnt : nt ≤ 12) (hnc : nc ≤ 5) (hnp : np ≤ 4) (h0 : 0 < np) {hv tf pf plf caf we ki he un wi va ht pl own co : Nat → Int32} (hT : rlT nt tf ki he un wi va ht) (hL : rlL nt plf pl) (h5 : hv 5 = nI np) (ho : ∀ p : Nat, p < np → own p = pf (3 * p + 0) ∧ ∃ k : Nat, own p = nI k ∧ 1 ≤ k ∧ k ≤ 300) :
    s_X12_share (np ^ nc) nt nc np hv pf tf plf caf we = (shS (moX np nc (fun c => s_X13_sumAt nt ki he wi ht pl (nI c) 1) own) (np ^ nc)).1 ∧ ∀ c : Nat, c < nc → s_X3_leastShare_1_f (np ^ nc) nt nc np hv pf tf plf caf we c = caS np nc (shS (moX np nc (fun c => s_X13_sumAt nt ki he wi ht pl (nI c) 1) own) (np ^ nc)).2 co nc c := by
  have ew : (fun c : Nat => s_X13_sumAt nt ki he wi ht pl (nI c) 1) = fun c : Nat => wiS nt tf plf (nI c) := funext fun c => eq_weight hnt hT hL
  have n0 : ¬ hv 5 = 0 := by rw [h5]; exact nI_ne0 h0 (by omega)
  rw [ew]
  obtain ⟨-, l2⟩ := ls19 (np := np) hnc (nt := nt) (tf := tf) (plf := plf) (we := we) h5 nc (Nat.le_refl _)
  have gr : ∀ (r : Nat) (rw9 : Nat → Int32), (∀ c : Nat, c < nc → rw9 c = nI (dgS np nc r c)) → s_X3_greatestShare np nc pf rw9 ((s_X3_leastShare_19 nt hv tf plf 1 we nc).2) = moX np nc (fun c : Nat => wiS nt tf plf (nI c)) own r := fun r rw9 h1 => gr_eq h0 hnp hnc ho h1 l2
  have key : ∀ r : Nat, (s_X3_leastShare_70 nt nc np hv pf tf plf we (-1) caf (fun _ => 0) r).1 = (shS (moX np nc (fun c : Nat => wiS nt tf plf (nI c)) own) r).1 ∧ (r = 0 ∨ ∀ c : Nat, c < nc → (s_X3_leastShare_70 nt nc np hv pf tf plf we (-1) caf (fun _ => 0) r).2.1 c = nI (dgS np nc (shS (moX np nc (fun c : Nat => wiS nt tf plf (nI c)) own) r).2 c)) ∧ ∀ c : Nat, c < nc → (s_X3_leastShare_70 nt nc np hv pf tf plf we (-1) caf (fun _ => 0) r).2.2 c = nI (dgS np nc r c) := by
    intro r
    induction r with
    | zero =>
      refine ⟨rfl, Or.inl rfl, fun c hc => ?_⟩
      show (0 : Int32) = nI (dgS np nc 0 c)
      unfold dgS
      rw [Nat.zero_div, Nat.zero_mod]; rfl
    | succ r ih =>
      obtain ⟨i1, i2, i3⟩ := ih
      rw [s_X3_leastShare_70, shS]
      generalize s_X3_leastShare_70 nt nc np hv pf tf plf we (-1) caf (fun _ => 0) r = S at i1 i2 i3
      generalize hb : shS (moX np nc (fun c : Nat => wiS nt tf plf (nI c)) own) r = b at i1 i2
      unfold s_X3_leastShare_70s
      have e3 : ∀ c : Nat, c < nc → gnS (hv 5) nc 1 S.2.2 c = nI (dgS np nc (r + 1) c) := by
        rw [h5]
        refine gn_1 h0 hnp hnc nc 1 S.2.2 (Nat.le_refl _) (Or.inr rfl) (fun z => absurd z (by decide)) (fun _ => ?_) i3 (fun c h8 h9 => absurd h9 (by omega))
        rw [Nat.sub_self, Nat.pow_zero]; exact Nat.one_dvd _
      have cp : ∀ c : Nat, c < nc → (fun q => tat 5 S.2.2 (nI q)) c = nI (dgS np nc r c) := fun c hc => by
        show tat 5 S.2.2 (nI c) = _
        rw [tat_in (by omega) (by decide)]; exact i3 c hc
      rw [gr r S.2.2 i3]
      by_cases c1 : b.1 = -1
      · rw [if_pos (i1.trans c1), if_pos c1]
        exact ⟨rfl, Or.inr cp, e3⟩
      · rw [if_neg (fun z => c1 (i1.symm.trans z)), if_neg c1, i1]
        by_cases c2 : moX np nc (fun c : Nat => wiS nt tf plf (nI c)) own r < b.1
        · rw [if_neg (Int32.not_le.mpr c2), if_pos c2]
          exact ⟨rfl, Or.inr cp, e3⟩
        · rw [if_pos (Int32.not_lt.mp c2), if_neg c2]
          refine ⟨rfl, Or.inr (i2.resolve_left (fun z => ?_)), e3⟩
          subst z
          rw [← hb] at c1
          exact c1 rfl
  obtain ⟨k1, k2, -⟩ := key (np ^ nc)
  have hp : ¬ np ^ nc = 0 := Nat.ne_of_gt (Nat.pow_pos h0)
  refine ⟨?_, fun c hc => ?_⟩
  · unfold s_X12_share s_X3_leastShare
    rw [if_neg n0]; exact k1
  · unfold s_X3_leastShare_1_f
    rw [if_neg n0, k2.resolve_left hp c hc, ca_at nc (Nat.le_refl _) c (by omega) hc]
end
