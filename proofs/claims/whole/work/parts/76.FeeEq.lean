/-! what is paid for a case, and the bill: one in both -/
noncomputable section
/-- the rule in both: its code cs, the reference's signs f -/
def rlF (nl : Nat) (td : Int32) (rf f : Nat → Int32) : Prop := ∃ cs : List Int32, cs.length = nl ∧ nl ≤ 700 ∧ ((td = 0 ∧ nl = 0) ∨ (¬ td = 0 ∧ ¬ nl = 0 ∧ rpS cs 0 31 1)) ∧ (∀ t : Nat, t < nl → rf t = cs.getD t 0) ∧ ∀ t : Nat, t < nl → f t = mC (cs.getD t 0)
theorem fe_c {nl : Nat} {td : Int32} {rf f : Nat → Int32} (h : rlF nl td rf f) : ruleOK nl rf td := by
  obtain ⟨cs, rfl, h1, h2, h3, h4⟩ := h
  exact rk_c h1 (fun q => (h2.resolve_left (fun z => q z.1)).2.2) h3
theorem fe_ok {nl : Nat} {td : Int32} {rf f : Nat → Int32} (h : rlF nl td rf f) : mOK f nl := by
  obtain ⟨cs, rfl, h1, h2, h3, h4⟩ := h
  exact rk_ok h1 (fun q => (h2.resolve_left (fun z => q z.2)).2.2) h4
theorem fe_m {nl : Nat} {td : Int32} {rf f : Nat → Int32} (h : rlF nl td rf f) (ov w li th bo : Int32) (a sf : Nat → Int32) (h0 : ¬ nl = 0) : vmN (asks a ov w li th bo) f sf nl 0 = feeM nl f ov w li th bo := by
  obtain ⟨cs, rfl, h1, h2, h3, h4⟩ := h
  exact rk_m h1 (h2.resolve_left (fun z => h0 z.2)).2.2 h4 ov w li th bo a sf
theorem bc_up : ∀ n : Nat, n < 12 → ∀ k : Nat, k < 2 ^ n → bcI (nI k ||| (1 <<< (nI n &&& 31))) = bcI (nI k) + 1 := by decide +kernel
theorem eq_bc {nt : Nat} (hnt : nt ≤ 12) {plf ki he wi ht pl : Nat → Int32} {p : Int32} (hL : rlL nt plf pl) : ∀ n : Nat, n ≤ nt → s_X13_sumAt_5 ki he wi ht pl p 0 0 n = bcI (taS plf p n)
  | 0, _ => (show (0 : Int32) = bcI 0 by decide)
  | n + 1, h => by
    have ih := eq_bc hnt (ki := ki) (he := he) (wi := wi) (ht := ht) (p := p) hL n (by omega)
    obtain ⟨-, k, hk, e⟩ := eq_bits hnt (ki := ki) (he := he) (wi := wi) (ht := ht) (p := p) hL n (by omega)
    have hs : ∀ a : Int32, s_X13_sumAt_5s ki he wi ht pl p 0 n a = if pl n = p then a + 1 else a := by
      intro a
      unfold s_X13_sumAt_5s
      simp only [if_true, ite_self]
    rw [s_X13_sumAt_5, hs, ih, taS, tat_in (by omega) (by decide), ← hL n (by omega)]
    by_cases c : pl n = p
    · rw [if_pos c, if_pos c, e, bc_up n (by omega) k hk]
    · rw [if_neg c, if_neg c]
theorem eq_many {nt : Nat} (hnt : nt ≤ 12) {plf ki he wi ht pl : Nat → Int32} {p : Int32} (hL : rlL nt plf pl) : s_X13_sumAt nt ki he wi ht pl p 0 = bcI (taS plf p nt) := eq_bc hnt hL nt (Nat.le_refl _)
/-- what is reckoned with is small -/
def liOK (nc : Nat) (cf : Nat → Int32) : Prop := ∀ c : Nat, c < nc → ∃ k : Nat, k ≤ 200 ∧ cf (5 * c + 1) = nI k
theorem sm_60 {nt : Nat} {tf : Nat → Int32} (h : wtOK nt tf) (bits : Int32) : ∀ n : Nat, n ≤ nt → ∃ k : Nat, k ≤ 60 * n ∧ smS tf bits 1 n = nI k
  | 0, _ => ⟨0, by omega, rfl⟩
  | n + 1, hn => by
    obtain ⟨k, hk, e⟩ := sm_60 h bits n (by omega)
    rw [smS, e]
    by_cases c : (bits >>> (nI n &&& 31)) &&& 1 = 0
    · rw [if_pos c]; exact ⟨k, by omega, rfl⟩
    · rw [if_neg c]
      obtain ⟨h1, -, -, h4, -⟩ := h n (by omega)
      rw [h1, nI_add]
      exact ⟨_, by omega, rfl⟩
theorem fee_eq {nl : Nat} {td to6 : Int32} {rf f li bo to : Nat → Int32} (h : rlF nl td rf f) (h6 : to 6 = nI nl) {c a b : Nat} (hc : c < 5) {w th : Int32} (hw : w = nI a) (ha : a ≤ 720) (hl : li c = nI b) (hb : b ≤ 200) : feeByS nl to f li bo (nI c) w th = feeS nl rf td w (li c) th (bo c) := by
  unfold feeByS feeS feeR
  rw [nI_clamp (by omega), h6]
  unfold imax
  by_cases d : 0 < w - li c
  · obtain ⟨k, hk, e⟩ : ∃ k : Nat, k ≤ 720 ∧ w - li c = nI k := by
      rw [hw, hl] at d ⊢
      rcases Nat.lt_or_ge a b with q | q
      · exact absurd (Int32.lt_trans d (pk_sneg (by omega) q)) (by decide)
      · exact ⟨a - b, by omega, pk_sub q⟩
    rw [if_pos d, if_pos d]
    have d0 : ¬ w - li c = 0 := fun q => by rw [q] at d; exact absurd d (by decide)
    rw [if_neg d0]
    obtain ⟨cs, rfl, h1, h2, h3, h4⟩ := h
    rcases h2 with h2 | h2
    · rw [h2.2, if_pos nI_0, if_pos h2.1, e]
      unfold imin
      rw [if_pos]
      rw [show (10 : Int32) = nI 10 from rfl, show (9999 : Int32) = nI 9999 from rfl, pk_mul]
      exact nI_lt (by omega) (by omega)
    · have q0 : ¬ nI cs.length = 0 := nI_ne0 (by omega) (by omega)
      rw [if_neg q0, if_neg h2.1]
      have key : feeM cs.length f (w - li c) w (li c) th (bo c) = tat 31 (rkN (vals (w - li c) w (li c) th (bo c) (fun _ => 0)) rf (fun _ => 0) cs.length).1 0 := (rk_end h1 h2.2.2 h3 h4).symm
      rw [key]
  · rw [if_neg d, if_pos rfl, if_neg d]
/-- both sides' tables -/
theorem fee_of {nl nt nc : Nat} {td : Int32} {rf f to tf cf plf ki he un wi va ht pl ow li ho co bo : Nat → Int32} (h : rlF nl td rf f) (h6 : to 6 = nI nl) (hnt : nt ≤ 12) (hnc : nc ≤ 5) (hT : rlT nt tf ki he un wi va ht) (hC : rlC nc cf ow li ho co bo) (hL : rlL nt plf pl) (hW : wtOK nt tf) (hl : liOK nc cf) {c : Nat} (hc : c < nc) : s_X13_feeOf nt to li bo ki he wi ht pl f nl (nI c) = feeS nl rf td (smS tf (taS plf (nI c) nt) 1 nt) (tat 25 cf (nI c * 5 + 1)) (bcI (taS plf (nI c) nt)) (tat 25 cf (nI c * 5 + 4)) := by
  unfold s_X13_feeOf
  rw [eq_weight hnt hT hL, eq_many hnt hL]
  obtain ⟨a, ha, ea⟩ := sm_60 hW (taS plf (nI c) nt) nt (Nat.le_refl _)
  obtain ⟨b, hb, eb⟩ := hl c hc
  obtain ⟨-, c2, -, -, c5⟩ := hC c hc
  rw [ta3 5 1 rfl 5 1 rfl rfl (by omega) (by decide), ta3 5 4 rfl 5 4 rfl rfl (by omega) (by decide), ← c2, ← c5]
  unfold wiS
  exact fee_eq (to6 := 0) h h6 (by omega) ea (by omega) (c2.trans eb) hb
theorem tc_eq {nc : Nat} (hnc : nc ≤ 5) {mv co : Nat → Int32} {G fee cost : Nat → Int32} (hG : ∀ c : Nat, c < nc → G c = fee c) (hc : ∀ c : Nat, c < nc → co c = cost c) {S : Nat → Int32 → Int32} {F : Nat → Int32} (hS : ∀ c : Nat, ∀ a : Int32, S c a = if ((mv 36) >>> (nI c &&& 31)) &&& 1 = 1 then a + (G c + co c) else a + (G c + 0)) (hF0 : F 0 = 0) (hF : ∀ c : Nat, F (c + 1) = S c (F c)) : ∀ n : Nat, n ≤ nc → F n = tcS fee cost (mv 36) n
  | 0, _ => hF0
  | n + 1, h => by
    rw [hF, hS, tcS, tc_eq hnc hG hc hS hF0 hF n (by omega), hG n (by omega), hc n (by omega)]
    by_cases b : bt (mv 36) n = true
    · rw [if_pos ((bt_tst1 (by omega)).mpr b), if_neg (fun q => by rw [(bt_tst (by omega)).mp q] at b; exact absurd b (by decide)), Int32.add_assoc]
    · have b' : bt (mv 36) n = false := by cases q : bt (mv 36) n with
        | true => exact absurd q b
        | false => rfl
      rw [if_neg (fun q => b ((bt_tst1 (by omega)).mp q)), if_pos ((bt_tst (by omega)).mpr b'), Int32.add_zero]
/-- the bill -/
theorem eq_bill {nl nt nc nq : Nat} {td : Int32} {rf f to mv tf cf qf plf ki he un wi va ht pl ow li ho co bo pt pr : Nat → Int32} (h : rlF nl td rf f) (h6 : to 6 = nI nl) (hnt : nt ≤ 12) (hnc : nc ≤ 5) (hnq : nq ≤ 6) (hT : rlT nt tf ki he un wi va ht) (hC : rlC nc cf ow li ho co bo) (hQ : rlQ nq qf pt pr) (hL : rlL nt plf pl) (hW : wtOK nt tf) (hl : liOK nc cf) : s_X13_billNow nt nc nq mv to li co bo ki he wi va ht pl pt pr f nl = s_X12_bill nl nt nc nq (mv 36) td cf tf qf rf plf := by
  have k1 : s_X13_billNow_4 nt mv to li co bo ki he wi ht pl f nl 0 nc = tcS (fun c => feeS nl rf td (smS tf (taS plf (nI c) nt) 1 nt) (tat 25 cf (nI c * 5 + 1)) (bcI (taS plf (nI c) nt)) (tat 25 cf (nI c * 5 + 4))) (fun c => tat 25 cf (nI c * 5 + 3)) (mv 36) nc := by
    refine tc_eq hnc (co := co) (G := fun c => s_X13_feeOf nt to li bo ki he wi ht pl f nl (nI c)) (fun c hc => fee_of h h6 hnt hnc hT hC hL hW hl hc) (fun c hc => ?_) (S := s_X13_billNow_4s nt mv to li co bo ki he wi ht pl f nl) (F := s_X13_billNow_4 nt mv to li co bo ki he wi ht pl f nl 0) (fun c a => rfl) rfl (fun c => rfl) nc (Nat.le_refl _)
    show co c = tat 25 cf (nI c * 5 + 3)
    rw [ta3 5 3 rfl 5 3 rfl rfl (by omega) (by decide), (hC c hc).2.2.2.1]
  unfold s_X13_billNow s_X12_bill
  rw [k1]
  generalize tcS (fun c => feeS nl rf td (smS tf (taS plf (nI c) nt) 1 nt) (tat 25 cf (nI c * 5 + 1)) (bcI (taS plf (nI c) nt)) (tat 25 cf (nI c * 5 + 4))) (fun c => tat 25 cf (nI c * 5 + 3)) (mv 36) nc = z
  have key : ∀ n : Nat, n ≤ nt → s_X13_billNow_53 nq he va pl pt pr z n = ttS (fun t => tat 12 plf (nI t)) (fun t => prS qf (tat 84 tf (nI t * 7 + 1)) nq 0) (fun t => tat 84 tf (nI t * 7 + 4)) z n := by
    intro n
    induction n with
    | zero => intro _; rfl
    | succ n ih =>
      intro hn
      rw [s_X13_billNow_53, ttS, ih (by omega)]
      unfold s_X13_billNow_53s
      rw [tat_in (show n < 12 by omega) (by decide), ← hL n (by omega), eq_price hnt hnq hT hQ (by omega), ta3 7 4 rfl 7 4 rfl rfl (by omega) (by decide), (hT n (by omega)).2.2.2.2.1]
      by_cases c1 : pl n = 20
      · rw [if_pos c1, if_neg (fun q => by rw [c1] at q; exact absurd q (by decide)), if_pos c1]
      · rw [if_neg c1, if_neg c1]
        by_cases c2 : pl n = 21
        · rw [if_pos c2, if_pos c2]
        · rw [if_neg c2, if_neg c2, Int32.add_zero]
  exact key nt (Nat.le_refl _)
end
