/-! the cases to be paid for so that all go: one in both -/
noncomputable section
theorem th_eq {nt nc s : Nat} (hnt : nt ≤ 12) (hnc : nc ≤ 5) {plf ki he wi ht pl : Nat → Int32} (hL : rlL nt plf pl) : ∀ n : Nat, n ≤ nc → thS (fun c => s_X13_sumAt nt ki he wi ht pl (nI c) 5) (nI s) n = s_X2_thingsIn_5 nt plf (nI s) 0 n
  | 0, _ => rfl
  | n + 1, hn => by
    have e : s_X13_sumAt nt ki he wi ht pl (nI n) 5 = taS plf (nI n) nt := (eq_bits hnt hL nt (Nat.le_refl _)).1
    rw [thS, s_X2_thingsIn_5, th_eq hnt hnc hL n (by omega)]
    unfold s_X2_thingsIn_5s
    show (if _ then _ ||| s_X13_sumAt nt ki he wi ht pl (nI n) 5 else _) = _
    rw [e]
    by_cases c : bt (nI s) n = true
    · rw [if_pos ((bt_tst1 (by omega)).mpr c), if_neg (fun q => by rw [(bt_tst (by omega)).mp q] at c; exact absurd c (by decide))]
    · have c2 : bt (nI s) n = false := by cases q : bt (nI s) n with
        | false => rfl
        | true => exact absurd q c
      rw [if_neg (fun q => c ((bt_tst1 (by omega)).mp q)), if_pos ((bt_tst (by omega)).mpr c2), or_z]
theorem ti_bt {nt nc : Nat} (hnt : nt ≤ 12) (hnc : nc ≤ 5) {plf : Nat → Int32} {z : Int32} {u : Nat} (hu : u < 32) : ∀ n : Nat, n ≤ nc → (bt (s_X2_thingsIn_5 nt plf z 0 n) u = true ↔ u < nt ∧ ∃ c : Nat, c < n ∧ bt z c = true ∧ plf u = nI c)
  | 0, _ => by
    rw [s_X2_thingsIn_5, b_0]
    exact ⟨fun h => absurd h (by decide), fun ⟨_, c, h, _⟩ => absurd h (Nat.not_lt_zero _)⟩
  | n + 1, hn => by
    have ih := ti_bt hnt hnc (plf := plf) (z := z) hu n (by omega)
    rw [s_X2_thingsIn_5]
    unfold s_X2_thingsIn_5s
    by_cases c : (z >>> (nI n &&& 31)) &&& 1 = 0
    · rw [if_pos c, ih]
      refine ⟨fun ⟨a, i, b, d⟩ => ⟨a, i, by omega, d⟩, fun ⟨a, i, b, d, e⟩ => ?_⟩
      by_cases q : i = n
      · subst q; rw [(bt_tst (by omega)).mp c] at d; exact absurd d (by decide)
      · exact ⟨a, i, by omega, d, e⟩
    · have cb : bt z n = true := by cases q : bt z n with
        | true => rfl
        | false => exact absurd ((bt_tst (by omega)).mpr q) c
      rw [if_neg c, b_or, ta_bt hu nt hnt]
      constructor
      · intro h
        rcases (Bool.or_eq_true _ _).mp h with h | h
        · obtain ⟨a, i, b, d⟩ := ih.mp h
          exact ⟨a, i, by omega, d⟩
        · have h := of_decide_eq_true h
          exact ⟨h.1, n, by omega, cb, h.2⟩
      · rintro ⟨a, i, b, d, e⟩
        by_cases q : i = n
        · subst q; exact (Bool.or_eq_true _ _).mpr (Or.inr (decide_eq_true ⟨a, e⟩))
        · exact (Bool.or_eq_true _ _).mpr (Or.inl (ih.mpr ⟨a, i, by omega, d, e⟩))
theorem co_eq {nc : Nat} (hnc : nc ≤ 5) {mv cf ow li ho co bo : Nat → Int32} {x : Int32} (hC : rlC nc cf ow li ho co bo) (h99 : ∀ c : Nat, c < nc → ∃ k : Nat, cf (5 * c + 3) = nI k ∧ k ≤ 99) : ∀ n : Nat, n ≤ nc → s_X13_costBy_4 mv co x 0 n = s_X2_costOf_15 (mv 36) cf x 0 n ∧ ∃ k : Nat, k ≤ 99 * n ∧ s_X2_costOf_15 (mv 36) cf x 0 n = nI k
  | 0, _ => ⟨rfl, 0, by omega, rfl⟩
  | n + 1, hn => by
    obtain ⟨i1, k, hk, i2⟩ := co_eq hnc (mv := mv) (x := x) hC h99 n (by omega)
    obtain ⟨v, e1, e2⟩ := h99 n (by omega)
    have e3 : co n = nI v := (hC n (by omega)).2.2.2.1.trans e1
    rw [s_X13_costBy_4, s_X2_costOf_15, i1, i2]
    unfold s_X13_costBy_4s s_X2_costOf_15s
    rw [ta3 5 3 rfl 5 3 rfl rfl (by omega) (by decide), e1, e3]
    have hb : bt (x &&& (mv 36 ^^^ (-1))) n = (bt x n && !bt (mv 36) n) := by
      rw [b_and, b_xor, b_m1 n (by omega), Bool.xor_true]
    by_cases a : bt x n = true
    · rw [if_pos ((bt_tst1 (by omega)).mpr a)]
      by_cases b : bt (mv 36) n = true
      · rw [if_neg (fun q => by rw [(bt_tst (by omega)).mp q] at b; exact absurd b (by decide)), if_pos ((bt_tst (by omega)).mpr (by rw [hb, a, b]; rfl)), Int32.add_zero]
        exact ⟨rfl, k, by omega, rfl⟩
      · have b2 : bt (mv 36) n = false := by cases q : bt (mv 36) n with
          | false => rfl
          | true => exact absurd q b
        rw [if_pos ((bt_tst (by omega)).mpr b2), if_neg (fun q => by
          have := (bt_tst (by omega)).mp q
          rw [hb, a, b2] at this
          exact absurd this (by decide)), nI_add]
        exact ⟨rfl, k + v, by omega, rfl⟩
    · have a2 : bt x n = false := by cases q : bt x n with
        | false => rfl
        | true => exact absurd q a
      rw [if_neg (fun q => a ((bt_tst1 (by omega)).mp q)), if_pos ((bt_tst (by omega)).mpr (by rw [hb, a2]; rfl)), Int32.add_zero]
      exact ⟨rfl, k, by omega, rfl⟩
theorem og_eq {nt nc : Nat} (hnt : nt ≤ 12) (hnc : nc ≤ 5) {tf cf plf ki he un wi va ht pl ow li ho co bo : Nat → Int32} {x : Int32} (hT : rlT nt tf ki he un wi va ht) (hC : rlC nc cf ow li ho co bo) (hL : rlL nt plf pl) : s_X13_othersGo nt nc li ki he wi ht pl x = s_X2_othersGo nt nc cf tf plf x := by
  have key : ∀ r c : Nat, c + r = nc → s_X13_othersGo_2 nt li ki he wi ht pl x r c = s_X2_othersGo_2 nt cf tf plf x r c := by
    intro r
    induction r with
    | zero => intro c _; rfl
    | succ r ih =>
      intro c hc
      have eo : s_X13_overOf nt li ki he wi ht pl (nI c) = ovS nt cf tf plf (nI c) := by
        unfold s_X13_overOf
        rw [nI_clamp (by omega)]
        exact eq_over hnt hT hC hL (by omega) hnc
      rw [s_X13_othersGo_2, s_X2_othersGo_2, eo, ih (c + 1) (by omega)]
  exact key nc 0 (Nat.zero_add _)
theorem bc_5 : ∀ s : Nat, s < 32 → cntI (nI s) 12 ≤ 5 := by decide +kernel
theorem eq_opened {nt nc np nz : Nat} {w h g Ho Li Be : Nat → Nat} {mv tf cf pf plf itf ref tkf ki he un wi va ht pl ow li ho co bo own po be : Nat → Int32} (hD : pOK9 nt nc np w h g Ho Li Be be ow li ho bo ki he wi ht) (hT : rlT nt tf ki he un wi va ht) (hC : rlC nc cf ow li ho co bo) (hP : rlP np pf own po be) (hL : rlL nt plf pl) (hO : ∀ c : Nat, c < nc → ∃ k : Nat, ow c = nI k ∧ k < np) (h99 : ∀ c : Nat, c < nc → ∃ k : Nat, cf (5 * c + 3) = nI k ∧ k ≤ 99) (hnz : nz ≤ 32) :
    opdS (s_X13_costBy nc mv co) (fun x => boS x.toBitVec.toNat x) (fun s => thS (fun c => s_X13_sumAt nt ki he wi ht pl (nI c) 5) s nc) (s_X13_othersGo nt nc li ki he wi ht pl) (fun z y => (cpS (pcC nt nc be ow li ho bo ki he wi ht z) (pcP nt nc be ow li ho bo ki he wi ht z) ki y nc np nt 0 (gbF y pl nt))) nz 0 (-1) = s_X12_opened nz nt nc np (mv 36) pf cf tf plf itf ref tkf := by
  obtain ⟨d1, d2, d3, -⟩ := id hD
  have gb : ∀ (s : Nat) (it tk : Nat → Int32), s < 32 → bcI (s_X2_thingsIn nt nc plf (nI s)) ≤ 8 → (cpS (pcC nt nc be ow li ho bo ki he wi ht (nI s)) (pcP nt nc be ow li ho bo ki he wi ht (nI s)) ki (s_X2_thingsIn nt nc plf (nI s)) nc np nt 0 (gbF (s_X2_thingsIn nt nc plf (nI s)) pl nt) = 0 ↔ s_X2_canPack nt nc np pf cf tf plf it tk (nI s) (s_X2_thingsIn nt nc plf (nI s)) = 0) := fun s it tk hs hb => by
    have h8 := cnt_in d1 plf (nI s) hb
    have hy : ∀ u : Nat, u < 32 → (bt (s_X2_thingsIn nt nc plf (nI s)) u = true ↔ u < nt ∧ ∃ c : Nat, c < nc ∧ bt (nI s) c = true ∧ pl u = nI c) := fun u hu => by
      have := ti_bt d1 d2 (plf := plf) (z := nI s) hu nc (Nat.le_refl _)
      unfold s_X2_thingsIn
      rw [this]
      constructor
      · rintro ⟨a, c, b, d, e⟩; exact ⟨a, c, b, d, by rw [hL u a]; exact e⟩
      · rintro ⟨a, c, b, d, e⟩; exact ⟨a, c, b, d, by rw [← hL u a]; exact e⟩
    have p1 := eq_pack (itf := it) (tkf := tk) hD hT hC hP hL hO hy h8
    have p2 := put_s (y := s_X2_thingsIn nt nc plf (nI s)) (z := nI s) hD nt 0 (Nat.zero_add _) (gbF (s_X2_thingsIn nt nc plf (nI s)) pl nt) (fun u _ hu hb9 => by
      unfold gbF
      rw [if_pos hu, if_pos ((bt_tst1 (by omega)).mpr hb9)])
    have p3 := p2.trans p1.symm
    exact ⟨fun q => Classical.byContradiction fun z => (p3.mpr z) q, fun q => Classical.byContradiction fun z => (p3.mp z) q⟩
  obtain ⟨C, hCs⟩ : ∃ C : Nat → Nat, ∀ s : Nat, s_X13_costBy nc mv co (nI s) = nI (C s) ∧ s_X2_costOf nc (mv 36) cf (nI s) = nI (C s) ∧ C s ≤ 495 := by
    refine ⟨fun s => (s_X2_costOf nc (mv 36) cf (nI s)).toNatClampNeg, fun s => ?_⟩
    obtain ⟨i1, k, hk, i2⟩ := co_eq d2 (mv := mv) (x := nI s) hC h99 nc (Nat.le_refl _)
    have j1 : s_X13_costBy nc mv co (nI s) = nI k := i1.trans i2
    have j2 : s_X2_costOf nc (mv 36) cf (nI s) = nI k := i2
    show _ = nI (s_X2_costOf nc (mv 36) cf (nI s)).toNatClampNeg ∧ _ = nI (s_X2_costOf nc (mv 36) cf (nI s)).toNatClampNeg ∧ (s_X2_costOf nc (mv 36) cf (nI s)).toNatClampNeg ≤ 495
    rw [j1, j2, nI_clamp (by omega)]
    exact ⟨rfl, rfl, by omega⟩
  have hB : ∀ s : Nat, s < 32 → bcI (nI s) = nI (cntI (nI s) 12) ∧ boS (nI s).toBitVec.toNat (nI s) = nI (cntI (nI s) 12) ∧ cntI (nI s) 12 ≤ 5 := fun s hs => by
    have := bc_ct (k := s) (by omega)
    exact ⟨this, by rw [bo_eq (by omega), this], bc_5 s hs⟩
  have key : ∀ (r s : Nat) (b x3 : Int32) (tk it re : Nat → Int32), s + r ≤ 32 → (b = -1 ∨ ∃ j : Nat, j < 32 ∧ b = nI j ∧ x3 = nI (C j * 6 + cntI (nI j) 12)) → opdS (s_X13_costBy nc mv co) (fun x => boS x.toBitVec.toNat x) (fun s => thS (fun c => s_X13_sumAt nt ki he wi ht pl (nI c) 5) s nc) (s_X13_othersGo nt nc li ki he wi ht pl) (fun z y => (cpS (pcC nt nc be ow li ho bo ki he wi ht z) (pcP nt nc be ow li ho bo ki he wi ht z) ki y nc np nt 0 (gbF y pl nt))) r s b = s_X2_cheapestSet_7 nt nc np (mv 36) pf cf tf plf r s x3 b tk it re := by
    intro r
    induction r with
    | zero => intro s b x3 tk it re _ _; rfl
    | succ r ih =>
      intro s b x3 tk it re hs hb
      obtain ⟨s1, s2, s3⟩ := hCs s
      obtain ⟨b1, b2, b3⟩ := hB s (by omega)
      have et : thS (fun c => s_X13_sumAt nt ki he wi ht pl (nI c) 5) (nI s) nc = s_X2_thingsIn nt nc plf (nI s) := th_eq d1 d2 hL nc (Nat.le_refl _)
      obtain ⟨k, hk, ek⟩ := thingsIn_n nt d1 plf (nI s) nc
      have ek : s_X2_thingsIn nt nc plf (nI s) = nI k := ek
      have eb : boS (s_X2_thingsIn nt nc plf (nI s)).toBitVec.toNat (s_X2_thingsIn nt nc plf (nI s)) = bcI (s_X2_thingsIn nt nc plf (nI s)) := by rw [ek]; exact bo_eq hk
      have eo := og_eq (x := nI s) d1 d2 hT hC hL
      rw [opdS, s_X2_cheapestSet_7]
      have rank : s_X2_costOf nc (mv 36) cf (nI s) * 6 + bcI (nI s) = nI (C s * 6 + cntI (nI s) 12) := by rw [s2, b1, show (6 : Int32) = nI 6 from rfl, pk_mul, nI_add]
      have stay : opdS (s_X13_costBy nc mv co) (fun x => boS x.toBitVec.toNat x) (fun s => thS (fun c => s_X13_sumAt nt ki he wi ht pl (nI c) 5) s nc) (s_X13_othersGo nt nc li ki he wi ht pl) (fun z y => (cpS (pcC nt nc be ow li ho bo ki he wi ht z) (pcP nt nc be ow li ho bo ki he wi ht z) ki y nc np nt 0 (gbF y pl nt))) r (s + 1) b = s_X2_cheapestSet_7 nt nc np (mv 36) pf cf tf plf r (s + 1) x3 b tk it re := ih (s + 1) b x3 tk it re (by omega) hb
      -- whether it is asked at all
      by_cases ask : opK (s_X13_costBy nc mv co) (fun x => boS x.toBitVec.toNat x) (nI s) b = 0
      · rw [if_pos ask]
        rcases hb with hb | ⟨j, hj, ej, ex⟩
        · unfold opK at ask
          rw [if_pos hb] at ask
          exact absurd ask (by decide)
        · obtain ⟨j1, j2, j3⟩ := hCs j
          obtain ⟨c1, c2, c3⟩ := hB j hj
          have nb : ¬ b = -1 := by rw [ej]; exact nI_n1 (by omega)
          unfold opK at ask
          rw [if_neg nb, ej, j1, s1] at ask
          have nr : ¬ nI (C s * 6 + cntI (nI s) 12) < x3 := fun q => by
            rw [ex, nI_ltI (by omega) (by omega)] at q
            by_cases q1 : C j < C s
            · omega
            · rw [if_neg (fun z => q1 ((nI_ltI (by omega) (by omega)).mp z))] at ask
              by_cases q2 : C s = C j
              · rw [if_pos (by rw [q2])] at ask
                have e9 : boS (nI s).toBitVec.toNat (nI s) < boS (nI j).toBitVec.toNat (nI j) := by
                  rw [b2, c2, nI_ltI (by omega) (by omega)]; omega
                rw [if_pos e9] at ask
                exact absurd ask (by decide)
              · rw [if_neg (fun z => q2 ((nI_eq (by omega) (by omega)).mp z))] at ask
                exact absurd ask (by decide)
          rw [if_neg nb, rank, if_neg nr]
          exact stay
      · rw [if_neg ask]
        show (if boS (thS (fun c => s_X13_sumAt nt ki he wi ht pl (nI c) 5) (nI s) nc).toBitVec.toNat (thS (fun c => s_X13_sumAt nt ki he wi ht pl (nI c) 5) (nI s) nc) ≤ 8 then (if s_X13_othersGo nt nc li ki he wi ht pl (nI s) = 0 then _ else if cpS (pcC nt nc be ow li ho bo ki he wi ht (nI s)) (pcP nt nc be ow li ho bo ki he wi ht (nI s)) ki (thS (fun c => s_X13_sumAt nt ki he wi ht pl (nI c) 5) (nI s) nc) nc np nt 0 (gbF (thS (fun c => s_X13_sumAt nt ki he wi ht pl (nI c) 5) (nI s) nc) pl nt) = 0 then _ else _) else _) = _
        rw [et, eb, eo]
        have go : ∀ (tk2 it2 re2 : Nat → Int32), opdS (s_X13_costBy nc mv co) (fun x => boS x.toBitVec.toNat x) (fun s => thS (fun c => s_X13_sumAt nt ki he wi ht pl (nI c) 5) s nc) (s_X13_othersGo nt nc li ki he wi ht pl) (fun z y => (cpS (pcC nt nc be ow li ho bo ki he wi ht z) (pcP nt nc be ow li ho bo ki he wi ht z) ki y nc np nt 0 (gbF y pl nt))) r (s + 1) (nI s) = s_X2_cheapestSet_7 nt nc np (mv 36) pf cf tf plf r (s + 1) (nI (C s * 6 + cntI (nI s) 12)) (nI s) tk2 it2 re2 := fun tk2 it2 re2 => ih (s + 1) (nI s) _ tk2 it2 re2 (by omega) (Or.inr ⟨s, by omega, rfl, rfl⟩)
        have st2 : ∀ (tk2 it2 re2 : Nat → Int32), opdS (s_X13_costBy nc mv co) (fun x => boS x.toBitVec.toNat x) (fun s => thS (fun c => s_X13_sumAt nt ki he wi ht pl (nI c) 5) s nc) (s_X13_othersGo nt nc li ki he wi ht pl) (fun z y => (cpS (pcC nt nc be ow li ho bo ki he wi ht z) (pcP nt nc be ow li ho bo ki he wi ht z) ki y nc np nt 0 (gbF y pl nt))) r (s + 1) b = s_X2_cheapestSet_7 nt nc np (mv 36) pf cf tf plf r (s + 1) x3 b tk2 it2 re2 := fun tk2 it2 re2 => ih (s + 1) b x3 tk2 it2 re2 (by omega) hb
        rw [rank]
        have yes : b = -1 ∨ (¬ b = -1 ∧ nI (C s * 6 + cntI (nI s) 12) < x3) := by
          rcases hb with hb | ⟨j, hj, ej, ex⟩
          · exact Or.inl hb
          · obtain ⟨j1, j2, j3⟩ := hCs j
            obtain ⟨c1, c2, c3⟩ := hB j hj
            have nb : ¬ b = -1 := by rw [ej]; exact nI_n1 (by omega)
            refine Or.inr ⟨nb, ?_⟩
            rw [ex, nI_ltI (by omega) (by omega)]
            unfold opK at ask
            rw [if_neg nb, ej, j1, s1] at ask
            by_cases q1 : C j < C s
            · rw [if_pos ((nI_ltI (by omega) (by omega)).mpr q1)] at ask
              exact absurd rfl ask
            · rw [if_neg (fun z => q1 ((nI_ltI (by omega) (by omega)).mp z))] at ask
              by_cases q2 : C s = C j
              · rw [if_pos (by rw [q2])] at ask
                by_cases e9 : boS (nI s).toBitVec.toNat (nI s) < boS (nI j).toBitVec.toNat (nI j)
                · rw [b2, c2, nI_ltI (by omega) (by omega)] at e9; omega
                · rw [if_neg e9] at ask; exact absurd rfl ask
              · omega
        by_cases c8 : bcI (s_X2_thingsIn nt nc plf (nI s)) ≤ 8
        · have g9 := gb s it tk (by omega) c8
          rcases yes with yb | ⟨yb, yr⟩
          · rw [if_pos yb, if_pos c8, if_pos c8]
            by_cases o9 : s_X2_othersGo nt nc cf tf plf (nI s) = 0
            · rw [if_pos o9, if_pos o9]; exact stay
            · rw [if_neg o9, if_neg o9]
              by_cases q9 : s_X2_canPack nt nc np pf cf tf plf it tk (nI s) (s_X2_thingsIn nt nc plf (nI s)) = 0
              · rw [if_pos (g9.mpr q9), if_pos q9]; exact st2 _ _ _
              · rw [if_neg (fun z => q9 (g9.mp z)), if_neg q9]; exact go _ _ _
          · rw [if_neg yb, if_pos yr, if_pos c8, if_pos c8]
            by_cases o9 : s_X2_othersGo nt nc cf tf plf (nI s) = 0
            · rw [if_pos o9, if_pos o9]; exact stay
            · rw [if_neg o9, if_neg o9]
              by_cases q9 : s_X2_canPack nt nc np pf cf tf plf it tk (nI s) (s_X2_thingsIn nt nc plf (nI s)) = 0
              · rw [if_pos (g9.mpr q9), if_pos q9]; exact st2 _ _ _
              · rw [if_neg (fun z => q9 (g9.mp z)), if_neg q9]; exact go _ _ _
        · rcases yes with yb | ⟨yb, yr⟩
          · rw [if_neg c8, if_pos yb, if_neg c8]
          · rw [if_neg c8, if_neg yb, if_pos yr, if_neg c8]
  exact key nz 0 (-1) 0 tkf itf ref (by omega) (Or.inl rfl)
end
