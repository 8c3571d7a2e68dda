/-! a good text is taken over: what holds between two calls holds again -/
noncomputable section
theorem bgS_eq {plf tf : Nat → Int32} : ∀ n : Nat, n ≤ 12 → ∀ t : Nat, t < n → bgS plf tf n t = tf (7 * t + 5)
  | 0, _, t, h => absurd h (Nat.not_lt_zero _)
  | n + 1, hn, t, h => by
    rw [bgS, tset_in (by omega) (by decide)]
    by_cases c : t = n
    · rw [show upd (bgS plf tf n) n _ t = _ from if_pos c, c, ta3 7 5 rfl 7 5 rfl rfl (by omega) (by decide)]
    · rw [show upd (bgS plf tf n) n _ t = bgS plf tf n t from if_neg c]
      exact bgS_eq n (by omega) t (by omega)
theorem INV_hallG {A V : Nat → Nat → Int32} {R : Nat → Nat} {k : Nat} (hk : k = 50 ∨ k = 66) {RD : RS} {en a0 a1 a2 a3 : Nat} {dn9 : Int32} {toldG ownG pocketsG bearsG ownerG limitG holdsG costG boardG kindG heavyG unsureG wideG valueG hotG placeG postToG priceG plf c0 s0 : Nat → Int32} (hw : wfS en RD) (hen : en ≤ 700)
    (hQ : cQ a0 a1 a2 a3 RD.2.2.1 RD.2.2.2.1 RD.2.2.2.2.1 RD.2.1 RD.2.2.2.2.2.1 RD.2.2.2.2.2.2.1 RD.2.2.2.2.2.2.2.1 RD.2.2.2.2.2.2.2.2 dn9 toldG ownG pocketsG bearsG ownerG limitG holdsG costG boardG kindG heavyG unsureG wideG valueG hotG placeG postToG priceG)
    (eR0 : R 0 = k) (eR4 : R 4 = k) (e09 : V 0 9 = -1) (e08 : V 0 8 = 0) (e11 : V 1 1 = 0) (eh : V k = RD.2.2.1) (er1 : V (k + 9) 1 = nI RD.2.2.2.2.1.length) (er2 : V (k + 9) 2 = RD.2.2.2.1) (e42 : V 4 2 = 0) (e71 : V 7 1 = 0) (e73 : V 7 3 = 0) (e312 : V 31 2 = 0) (e316 : V 31 6 = 0)
    (hmv : V 82 2 = 0 ∧ V 82 24 = 0 ∧ V 82 33 = -1 ∧ V 82 36 = 0 ∧ V 82 37 = 0 ∧ V 82 38 = 0 ∧ V 82 45 = -1 ∧ V 82 53 = 0 ∧ V 82 56 = 0)
    (b2 : A (k + 2) = RD.2.2.2.2.2.1) (b4 : A (k + 4) = RD.2.2.2.2.2.2.1) (b6 : A (k + 6) = RD.2.2.2.2.2.2.2.1) (b8 : A (k + 8) = RD.2.2.2.2.2.2.2.2) (b11 : A (k + 11) = layC RD.2.2.2.2.1 c0) (p6 : A 6 = bgS plf RD.2.2.2.2.2.2.2.1 (RD.2.2.1 7).toNatClampNeg)
    (g85 : A 85 = thF 7 toldG 7) (g86 : A 86 = thF 4 ownG 4) (g87 : A 87 = thF 4 pocketsG 4) (g88 : A 88 = thF 4 bearsG 4) (g89 : A 89 = thF 5 ownerG 5) (g90 : A 90 = thF 5 limitG 5) (g91 : A 91 = thF 5 holdsG 5) (g92 : A 92 = thF 5 costG 5) (g93 : A 93 = thF 5 boardG 5) (g94 : A 94 = thF 12 kindG 12) (g95 : A 95 = thF 12 heavyG 12) (g96 : A 96 = thF 12 unsureG 12) (g97 : A 97 = thF 12 wideG 12) (g98 : A 98 = thF 12 valueG 12) (g99 : A 99 = thF 12 hotG 12) (g100 : A 100 = thF 12 placeG 12) (g101 : A 101 = thF 6 postToG 6) (g102 : A 102 = thF 6 priceG 6) (g103 : A 103 = thF 700 (layM RD.2.2.2.2.1 s0) 700)
    (t4 : bqR (A 2) (A 105)) (t5 : bOK (A 105)) (hoA : okA (A 108)) (h3 : rl3 (A 104) (A 13)) : INV A V R := by
  obtain ⟨⟨⟨q1, q2, q3⟩, ⟨q4, q5, q6⟩, ⟨q7, q8, q9⟩, ⟨q10, q11, q12⟩⟩, ⟨q13, q14, q15, -, q16⟩, cP, ⟨cC, -⟩, cT, cQ9⟩ := hQ
  obtain ⟨w1, w2, hA9⟩ := hw
  obtain ⟨a, b, c, d, ⟨x1, y1⟩, ⟨x2, y2⟩, ⟨x3, y3⟩, ⟨x4, y4⟩, wP, wC, wT, wQ, -, -, -⟩ := id hA9
  obtain rfl : a = a0 := (nI_eq (by omega) (by omega)).mp (y1.symm.trans q2)
  obtain rfl : b = a1 := (nI_eq (by omega) (by omega)).mp (y2.symm.trans q5)
  obtain rfl : c = a2 := (nI_eq (by omega) (by omega)).mp (y3.symm.trans q8)
  obtain rfl : d = a3 := (nI_eq (by omega) (by omega)).mp (y4.symm.trans q11)
  obtain ⟨m2, m24, m33, m36, m37, m38, m45, m53, m56⟩ := hmv
  obtain ⟨hT, hPl⟩ := to_T q7 cT
  have hcs : RD.2.2.2.2.1.length ≤ 700 := by omega
  have hpl : ∀ t : Nat, t < c → bgS plf RD.2.2.2.2.2.2.2.1 c t = RD.2.2.2.2.2.2.2.1 (7 * t + 5) := bgS_eq c q7
  have hc7 : (RD.2.2.1 7).toNatClampNeg = c := by rw [q8, nI_clamp (by omega)]
  refine ⟨k, c, b, a, d, RD.2.2.2.2.1.length, 0, 0, 0, ⟨hk, eR0, eR4, e09.trans m33.symm⟩, ⟨e11, m24, by omega, t4, t5⟩, ⟨by rw [eh]; exact q2, by rw [eh]; exact q5, by rw [eh]; exact q8, by rw [eh]; exact q11, by rw [g85]; exact q3, by rw [g85]; exact q6, by rw [g85]; exact q9, by rw [g85]; exact q12, by rw [g85, eh]; exact q13, by rw [g85, eh]; exact q14, by rw [g85]; exact q15, er1, q1, q4, q7, q10, hcs⟩, ⟨?_, ?_, ?_, ?_, ?_, ?_, ?_, ?_, ?_⟩, ⟨m36.trans e42.symm, ?_, ?_⟩, ⟨e71, m37, by omega, fun i hi => absurd hi (Nat.not_lt_zero _), hoA, e73, m38, by omega, fun i hi => absurd hi (Nat.not_lt_zero _), h3⟩, ⟨m56.trans e08.symm, Or.inl e08⟩, Or.inl ⟨e312, m45⟩, ⟨m53.trans e316.symm, Or.inl e316⟩⟩
  · rw [b6, g94, g95, g96, g97, g98, g99]; exact hT
  · rw [b4, g89, g90, g91, g92, g93]; exact to_C q4 cC
  · rw [b2, g86, g87, g88]; exact to_P q1 cP
  · rw [b8, g101, g102]; exact to_Q q10 cQ9
  · rw [er2, b11, g103]; exact rl_F hA9 hcs
  · rw [b2]; exact wP
  · rw [b4]; exact wC
  · rw [b6]; exact wT
  · rw [b8]; exact wQ
  · intro t ht
    rw [p6, g100, hc7, hpl t ht, hPl t ht]
  · intro t ht
    obtain ⟨-, -, -, ⟨z, e, hz⟩, -⟩ := wT t ht
    rw [g100, hPl t ht]
    exact ⟨z, by omega, e⟩
end
