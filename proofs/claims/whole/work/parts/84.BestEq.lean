/-! the best shift: one in both -/
noncomputable section
def rB (z : Int32 × Int32 × Int32 × Int32) (b : Int32 × Int32 × Int32) : Prop := z.1 = b.2.2 ∧ z.2.1 = b.1 ∧ z.2.2.1 = b.2.1 ∧ z.2.2.2 = (if b.1 = -1 then -1 else b.2.2) ∧ (b.1 = -1 → b.2.1 = -1)
theorem eq_best {nl nt nc np nq : Nat} (hnt : nt ≤ 12) (hnc : nc ≤ 5) (hnp : np ≤ 4) (hnq : nq ≤ 6) {td : Int32} {rf f to hv mv tf cf pf qf plf ki he un wi va ht pl ow li ho co bo own po be pt pr : Nat → Int32} {x : Int32} (h : rlF nl td rf f) (k6 : to 6 = nI nl) (hT : rlT nt tf ki he un wi va ht) (hC : rlC nc cf ow li ho co bo) (hP : rlP np pf own po be) (hQ : rlQ nq qf pt pr) (hL : rlL nt plf pl) (hz : ∀ t : Nat, t < nt → ¬ ki t = 1 → ht t = 0) (hW : wtOK nt tf) (hl : liOK nc cf)
    (k0 : to 0 = nI np) (k1 : to 1 = nI nc) (h5 : hv 5 = nI np) (h6 : hv 6 = nI nc) {B : Int32 × Int32 × Int32} (hB : B = beS (fun t c => s_X13_mayBe nt nq to po be ho bo ki he wi ht pl pt pr (nI t) (nI c)) (fun t p => s_X13_billNow nt nc nq (s_X13_put_0_1 (upd mv 2 0) to pl (nI t) (nI p)) to li co bo ki he wi va ht (upd pl t (nI p)) pt pr f nl) (s_X13_billNow nt nc nq (upd mv 2 0) to li co bo ki he wi va ht pl pt pr f nl) nt) :
    s_X12_best nt nc nq (mv 36) nl td hv pf cf tf qf rf plf x = if B.1 = -1 then -1 else if x = 0 then B.1 else if x = 1 then B.2.1 else B.2.2 := by
  have b0 : s_X13_billNow nt nc nq (upd mv 2 0) to li co bo ki he wi va ht pl pt pr f nl = s_X12_bill nl nt nc nq (mv 36) td cf tf qf rf plf := eq_bill (un := un) (ow := ow) (ho := ho) h k6 hnt hnc hnq hT hC hQ hL hW hl
  have vv : ∀ t p : Nat, t < nt → s_X12_bill nl nt nc nq (oiS_0_2 (oiS_0_2 (mv 36) hv (pl t)) hv (nI p)) td cf tf qf rf (tset 12 (fun q => tat 12 plf (nI q)) (nI t) (nI p)) = s_X13_billNow nt nc nq (s_X13_put_0_1 (upd mv 2 0) to pl (nI t) (nI p)) to li co bo ki he wi va ht (upd pl t (nI p)) pt pr f nl := by
    intro t p ht9
    have e := (eq_put (mv := upd mv 2 0) (pl := pl) (y := nI p) (hv := hv) k1 h6 hnc (show t < 12 by omega)).1
    rw [show upd mv 2 0 36 = mv 36 from pk_un (by decide)] at e
    rw [← e]
    exact (eq_bill (un := un) (ow := ow) (ho := ho) h k6 hnt hnc hnq hT hC hQ (tr_L (y := nI p) hnt ht9 hL) hW hl).symm
  have inn : ∀ t : Nat, t < nt → ∀ (z : Int32 × Int32 × Int32 × Int32) (b : Int32 × Int32 × Int32), rB z b → ∀ n : Nat, n ≤ 23 →
      rB (s_X10_findBest_36 nl nt nc nq (mv 36) td hv pf cf tf qf rf plf t z.1 z.2.1 z.2.2.1 z.2.2.2 n) (beI (fun t c => s_X13_mayBe nt nq to po be ho bo ki he wi ht pl pt pr (nI t) (nI c)) (fun t p => s_X13_billNow nt nc nq (s_X13_put_0_1 (upd mv 2 0) to pl (nI t) (nI p)) to li co bo ki he wi va ht (upd pl t (nI p)) pt pr f nl) t b n) := by
    intro t ht9 z b hzb n
    induction n with
    | zero => intro _; exact hzb
    | succ n ih =>
      intro hn
      obtain ⟨i1, i2, i3, i4, i5⟩ := ih (by omega)
      rw [s_X10_findBest_36, beI]
      generalize s_X10_findBest_36 nl nt nc nq (mv 36) td hv pf cf tf qf rf plf t z.1 z.2.1 z.2.2.1 z.2.2.2 n = Z at i1 i2 i3 i4 i5
      generalize beI (fun t c => s_X13_mayBe nt nq to po be ho bo ki he wi ht pl pt pr (nI t) (nI c)) (fun t p => s_X13_billNow nt nc nq (s_X13_put_0_1 (upd mv 2 0) to pl (nI t) (nI p)) to li co bo ki he wi va ht (upd pl t (nI p)) pt pr f nl) t b n = Y at i1 i2 i3 i4 i5
      have em := eq_may hnt hnc hnp hnq (y := nI n) (co := co) (li := li) (ow := ow) (own := own) (un := un) (va := va) hT hC hP hQ hL hz k0 k1 h5 h6 ht9
      have hb := vv t n ht9
      have epl : tat 12 (fun q => tat 12 plf (nI q)) (nI t) = pl t := by
        rw [tat_in (show t < 12 by omega) (by decide), tat_in (show t < 12 by omega) (by decide)]
        exact (hL t ht9).symm
      unfold s_X10_findBest_36s s_X10_tries
      unfold s_X12_bill at hb
      rw [epl, hb, em]
      generalize s_X13_billNow nt nc nq (s_X13_put_0_1 (upd mv 2 0) to pl (nI t) (nI n)) to li co bo ki he wi va ht (upd pl t (nI n)) pt pr f nl = V
      by_cases c1 : mcS nt nq hv pf cf tf qf plf (nI t) (nI n) = 0
      · simp only [if_pos c1, if_true, if_pos (Int32.le_refl Z.1)]
        exact ⟨i1, i2, i3, i4, i5⟩
      · simp only [if_neg c1, show ¬ (1 : Int32) = 0 from by decide, if_false]
        by_cases c2 : Z.1 ≤ V
        · have c3 : ¬ V < Y.2.2 := fun q => absurd (Int32.lt_of_lt_of_le (i1 ▸ q) c2) Int32.lt_irrefl
          simp only [if_pos c2, if_neg c3]
          exact ⟨i1, i2, i3, i4, i5⟩
        · have c3 : V < Y.2.2 := by rw [← i1]; exact Int32.not_le.mp c2
          simp only [if_neg c2, if_pos c3]
          exact ⟨rfl, rfl, rfl, (if_neg (nI_n1 (by omega))).symm, fun q => absurd q (nI_n1 (by omega))⟩
  have out : ∀ n : Nat, n ≤ nt → rB (s_X10_findBest_22 nl nt nc nq (mv 36) td hv pf cf tf qf rf plf (s_X12_bill nl nt nc nq (mv 36) td cf tf qf rf plf) (-1) (-1) (-1) n) (beS (fun t c => s_X13_mayBe nt nq to po be ho bo ki he wi ht pl pt pr (nI t) (nI c)) (fun t p => s_X13_billNow nt nc nq (s_X13_put_0_1 (upd mv 2 0) to pl (nI t) (nI p)) to li co bo ki he wi va ht (upd pl t (nI p)) pt pr f nl) (s_X13_billNow nt nc nq (upd mv 2 0) to li co bo ki he wi va ht pl pt pr f nl) n) := by
    intro n
    induction n with
    | zero => intro _; exact ⟨b0.symm, rfl, rfl, rfl, fun _ => rfl⟩
    | succ n ih =>
      intro hn
      have ih := ih (by omega)
      rw [s_X10_findBest_22, beS]
      generalize s_X10_findBest_22 nl nt nc nq (mv 36) td hv pf cf tf qf rf plf (s_X12_bill nl nt nc nq (mv 36) td cf tf qf rf plf) (-1) (-1) (-1) n = Z at ih ⊢
      generalize beS (fun t c => s_X13_mayBe nt nq to po be ho bo ki he wi ht pl pt pr (nI t) (nI c)) (fun t p => s_X13_billNow nt nc nq (s_X13_put_0_1 (upd mv 2 0) to pl (nI t) (nI p)) to li co bo ki he wi va ht (upd pl t (nI p)) pt pr f nl) (s_X13_billNow nt nc nq (upd mv 2 0) to li co bo ki he wi va ht pl pt pr f nl) n = Y at ih ⊢
      obtain ⟨z1, z2, z3, z4⟩ := Z
      have go : rB (s_X10_findBest_36 nl nt nc nq (mv 36) td hv pf cf tf qf rf plf n z1 z2 z3 z4 23) (beI (fun t c => s_X13_mayBe nt nq to po be ho bo ki he wi ht pl pt pr (nI t) (nI c)) (fun t p => s_X13_billNow nt nc nq (s_X13_put_0_1 (upd mv 2 0) to pl (nI t) (nI p)) to li co bo ki he wi va ht (upd pl t (nI p)) pt pr f nl) n Y 23) := inn n (by omega) (z1, z2, z3, z4) Y ih 23 (Nat.le_refl _)
      show rB (s_X10_findBest_22s nl nt nc nq (mv 36) td hv pf cf tf qf rf plf n z1 z2 z3 z4) _
      unfold s_X10_findBest_22s
      generalize s_X10_findBest_36 nl nt nc nq (mv 36) td hv pf cf tf qf rf plf n z1 z2 z3 z4 23 = p at go ⊢
      generalize beI (fun t c => s_X13_mayBe nt nq to po be ho bo ki he wi ht pl pt pr (nI t) (nI c)) (fun t p => s_X13_billNow nt nc nq (s_X13_put_0_1 (upd mv 2 0) to pl (nI t) (nI p)) to li co bo ki he wi va ht (upd pl t (nI p)) pt pr f nl) n Y 23 = q at go ⊢
      exact go
  obtain ⟨o1, o2, o3, o4, o5⟩ := out nt (Nat.le_refl _)
  rw [← hB] at o1 o2 o3 o4 o5
  unfold s_X12_best
  unfold s_X12_bill at o1 o2 o3 o4
  rw [o2, o3, o4]
  by_cases c : B.1 = -1
  · rw [if_pos c, if_pos c, o5 c, c]
    simp only [ite_self]
  · rw [if_neg c, if_neg c]
end
