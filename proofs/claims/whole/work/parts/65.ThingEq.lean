/-! a line, in the class and in the reference: one; THINGS, looks and fee *-/
noncomputable section
theorem un9 {f : Nat → Int32} {k j : Nat} {v : Int32} (h : j ≠ k) : upd f k v j = f j := if_neg h
theorem th_body {a : Nat} {z v1 v2 v3 v4 v5 v6 : Int32} {tf ki he un wi va pl ht G : Nat → Int32} (hT : cqT a tf ki he un wi va pl ht) (hG : ∀ q : Nat, G q = if q = 7 * a + 6 then v6 else (upd (upd (upd (upd (upd (upd tf (7 * a + 0) z) (7 * a + 1) v1) (7 * a + 2) v2) (7 * a + 3) v3) (7 * a + 4) v4) (7 * a + 5) v5) q) : cqT (a + 1) G (upd ki (12 + a) z) (upd he (12 + a) v1) (upd un (12 + a) v2) (upd wi (12 + a) v3) (upd va (12 + a) v4) (upd pl (12 + a) v5) (upd ht (12 + a) v6) := by
  intro p hp
  by_cases e : p = a
  · subst e
    refine ⟨?_, ?_, ?_, ?_, ?_, ?_, ?_⟩
    · rw [upd_at9, hG, if_neg (show ¬ 7 * p + 0 = 7 * p + 6 by omega), un9 (show 7 * p + 0 ≠ 7 * p + 5 by omega), un9 (show 7 * p + 0 ≠ 7 * p + 4 by omega), un9 (show 7 * p + 0 ≠ 7 * p + 3 by omega), un9 (show 7 * p + 0 ≠ 7 * p + 2 by omega), un9 (show 7 * p + 0 ≠ 7 * p + 1 by omega), upd_at9]
    · rw [upd_at9, hG, if_neg (show ¬ 7 * p + 1 = 7 * p + 6 by omega), un9 (show 7 * p + 1 ≠ 7 * p + 5 by omega), un9 (show 7 * p + 1 ≠ 7 * p + 4 by omega), un9 (show 7 * p + 1 ≠ 7 * p + 3 by omega), un9 (show 7 * p + 1 ≠ 7 * p + 2 by omega), upd_at9]
    · rw [upd_at9, hG, if_neg (show ¬ 7 * p + 2 = 7 * p + 6 by omega), un9 (show 7 * p + 2 ≠ 7 * p + 5 by omega), un9 (show 7 * p + 2 ≠ 7 * p + 4 by omega), un9 (show 7 * p + 2 ≠ 7 * p + 3 by omega), upd_at9]
    · rw [upd_at9, hG, if_neg (show ¬ 7 * p + 3 = 7 * p + 6 by omega), un9 (show 7 * p + 3 ≠ 7 * p + 5 by omega), un9 (show 7 * p + 3 ≠ 7 * p + 4 by omega), upd_at9]
    · rw [upd_at9, hG, if_neg (show ¬ 7 * p + 4 = 7 * p + 6 by omega), un9 (show 7 * p + 4 ≠ 7 * p + 5 by omega), upd_at9]
    · rw [upd_at9, hG, if_neg (show ¬ 7 * p + 5 = 7 * p + 6 by omega), upd_at9]
    · rw [upd_at9, hG, if_pos rfl]
  · refine ⟨?_, ?_, ?_, ?_, ?_, ?_, ?_⟩
    · rw [un9 (show 12 + p ≠ 12 + a by omega), hG, if_neg (show ¬ 7 * p + 0 = 7 * a + 6 by omega), un9 (show 7 * p + 0 ≠ 7 * a + 5 by omega), un9 (show 7 * p + 0 ≠ 7 * a + 4 by omega), un9 (show 7 * p + 0 ≠ 7 * a + 3 by omega), un9 (show 7 * p + 0 ≠ 7 * a + 2 by omega), un9 (show 7 * p + 0 ≠ 7 * a + 1 by omega), un9 (show 7 * p + 0 ≠ 7 * a + 0 by omega)]; exact (hT p (by omega)).1
    · rw [un9 (show 12 + p ≠ 12 + a by omega), hG, if_neg (show ¬ 7 * p + 1 = 7 * a + 6 by omega), un9 (show 7 * p + 1 ≠ 7 * a + 5 by omega), un9 (show 7 * p + 1 ≠ 7 * a + 4 by omega), un9 (show 7 * p + 1 ≠ 7 * a + 3 by omega), un9 (show 7 * p + 1 ≠ 7 * a + 2 by omega), un9 (show 7 * p + 1 ≠ 7 * a + 1 by omega), un9 (show 7 * p + 1 ≠ 7 * a + 0 by omega)]; exact (hT p (by omega)).2.1
    · rw [un9 (show 12 + p ≠ 12 + a by omega), hG, if_neg (show ¬ 7 * p + 2 = 7 * a + 6 by omega), un9 (show 7 * p + 2 ≠ 7 * a + 5 by omega), un9 (show 7 * p + 2 ≠ 7 * a + 4 by omega), un9 (show 7 * p + 2 ≠ 7 * a + 3 by omega), un9 (show 7 * p + 2 ≠ 7 * a + 2 by omega), un9 (show 7 * p + 2 ≠ 7 * a + 1 by omega), un9 (show 7 * p + 2 ≠ 7 * a + 0 by omega)]; exact (hT p (by omega)).2.2.1
    · rw [un9 (show 12 + p ≠ 12 + a by omega), hG, if_neg (show ¬ 7 * p + 3 = 7 * a + 6 by omega), un9 (show 7 * p + 3 ≠ 7 * a + 5 by omega), un9 (show 7 * p + 3 ≠ 7 * a + 4 by omega), un9 (show 7 * p + 3 ≠ 7 * a + 3 by omega), un9 (show 7 * p + 3 ≠ 7 * a + 2 by omega), un9 (show 7 * p + 3 ≠ 7 * a + 1 by omega), un9 (show 7 * p + 3 ≠ 7 * a + 0 by omega)]; exact (hT p (by omega)).2.2.2.1
    · rw [un9 (show 12 + p ≠ 12 + a by omega), hG, if_neg (show ¬ 7 * p + 4 = 7 * a + 6 by omega), un9 (show 7 * p + 4 ≠ 7 * a + 5 by omega), un9 (show 7 * p + 4 ≠ 7 * a + 4 by omega), un9 (show 7 * p + 4 ≠ 7 * a + 3 by omega), un9 (show 7 * p + 4 ≠ 7 * a + 2 by omega), un9 (show 7 * p + 4 ≠ 7 * a + 1 by omega), un9 (show 7 * p + 4 ≠ 7 * a + 0 by omega)]; exact (hT p (by omega)).2.2.2.2.1
    · rw [un9 (show 12 + p ≠ 12 + a by omega), hG, if_neg (show ¬ 7 * p + 5 = 7 * a + 6 by omega), un9 (show 7 * p + 5 ≠ 7 * a + 5 by omega), un9 (show 7 * p + 5 ≠ 7 * a + 4 by omega), un9 (show 7 * p + 5 ≠ 7 * a + 3 by omega), un9 (show 7 * p + 5 ≠ 7 * a + 2 by omega), un9 (show 7 * p + 5 ≠ 7 * a + 1 by omega), un9 (show 7 * p + 5 ≠ 7 * a + 0 by omega)]; exact (hT p (by omega)).2.2.2.2.2.1
    · rw [un9 (show 12 + p ≠ 12 + a by omega), hG, if_neg (show ¬ 7 * p + 6 = 7 * a + 6 by omega), un9 (show 7 * p + 6 ≠ 7 * a + 5 by omega), un9 (show 7 * p + 6 ≠ 7 * a + 4 by omega), un9 (show 7 * p + 6 ≠ 7 * a + 3 by omega), un9 (show 7 * p + 6 ≠ 7 * a + 2 by omega), un9 (show 7 * p + 6 ≠ 7 * a + 1 by omega), un9 (show 7 * p + 6 ≠ 7 * a + 0 by omega)]; exact (hT p (by omega)).2.2.2.2.2.2
theorem th_G7 {a : Nat} {z v1 v2 v3 v4 v5 : Int32} {tf : Nat → Int32} (q : Nat) : (upd (upd (upd (upd (upd (upd (upd tf (7 * a + 0) z) (7 * a + 6) 0) (7 * a + 1) v1) (7 * a + 2) v2) (7 * a + 3) v3) (7 * a + 4) v4) (7 * a + 5) v5) q = if q = 7 * a + 6 then 0 else (upd (upd (upd (upd (upd (upd tf (7 * a + 0) z) (7 * a + 1) v1) (7 * a + 2) v2) (7 * a + 3) v3) (7 * a + 4) v4) (7 * a + 5) v5) q := by
  by_cases e : q = 7 * a + 6
  · subst e
    rw [if_pos rfl, un9 (show 7 * a + 6 ≠ 7 * a + 5 by omega), un9 (show 7 * a + 6 ≠ 7 * a + 4 by omega), un9 (show 7 * a + 6 ≠ 7 * a + 3 by omega), un9 (show 7 * a + 6 ≠ 7 * a + 2 by omega), un9 (show 7 * a + 6 ≠ 7 * a + 1 by omega), upd_at9]
  · rw [if_neg e]
    simp only [upd, if_neg e]
theorem th_G8 {a : Nat} {z v1 v2 v3 v4 v5 v6 : Int32} {tf : Nat → Int32} (q : Nat) : (upd (upd (upd (upd (upd (upd (upd (upd tf (7 * a + 0) z) (7 * a + 6) 0) (7 * a + 1) v1) (7 * a + 2) v2) (7 * a + 3) v3) (7 * a + 4) v4) (7 * a + 5) v5) (7 * a + 6) v6) q = if q = 7 * a + 6 then v6 else (upd (upd (upd (upd (upd (upd tf (7 * a + 0) z) (7 * a + 1) v1) (7 * a + 2) v2) (7 * a + 3) v3) (7 * a + 4) v4) (7 * a + 5) v5) q := by
  by_cases e : q = 7 * a + 6
  · subst e
    rw [if_pos rfl, upd_at9]
  · rw [if_neg e]
    simp only [upd, if_neg e]
theorem th_bad {en x a : Nat} {bf to wi pl bo ho : Nat → Int32} {nu z F : Int32} {Y : Nat} (hF : (oF en bf (t4Q en bf x nu).1 (t4Q en bf x nu).2.1 (to 8)) = F) (hn : ¬ F = 0) (hY : (t4Q en bf x nu).2.1 = Y) : s_X13_readThingR_8_mx en x to bf wi pl bo ho nu a z = Y ∧ s_X13_readThingR_8_mf en x to bf wi pl bo ho nu a z = F := by
  unfold s_X13_readThingR_8_mx s_X13_readThingR_8_mf
  rw [hF, hY, if_neg hn, if_neg hn, (gn_f hn).1, (gn_f hn).2.1, ite_self, ite_self]
  exact ⟨rfl, rfl⟩
theorem th_good {en x a : Nat} {bf to wi pl bo ho ht : Nat → Int32} {nu z : Int32} {Y : Nat} (hF : (oF en bf (t4Q en bf x nu).1 (t4Q en bf x nu).2.1 (to 8)) = 0) (hY : (t4Q en bf x nu).2.1 = Y) :
    s_X13_readThingR_8_mx en x to bf wi pl bo ho nu a z = (if (if z = 2 then (if bo (5 + (oV en bf (t4Q en bf x nu).1 (t4Q en bf x nu).2.1 (to 8))).toNatClampNeg = 1 then (0 : Int32) else if (s_X13_readThingR_107 en x to bf wi pl nu a (upd wi (12 + a) (t3Q en bf x nu).2.2.1 (12 + a)) (12 + a - 12)) ≤ ho (5 + (oV en bf (t4Q en bf x nu).1 (t4Q en bf x nu).2.1 (to 8))).toNatClampNeg then 1 else 0) else if (s_X13_readThingR_107 en x to bf wi pl nu a (upd wi (12 + a) (t3Q en bf x nu).2.2.1 (12 + a)) (12 + a - 12)) ≤ ho (5 + (oV en bf (t4Q en bf x nu).1 (t4Q en bf x nu).2.1 (to 8))).toNatClampNeg then 1 else 0) = 0 then Y else if z = 1 then gX en bf 0 (nX en bf Y) 1 9 else nX en bf Y)
    ∧ s_X13_readThingR_8_mf en x to bf wi pl bo ho nu a z = (if (if z = 2 then (if bo (5 + (oV en bf (t4Q en bf x nu).1 (t4Q en bf x nu).2.1 (to 8))).toNatClampNeg = 1 then (0 : Int32) else if (s_X13_readThingR_107 en x to bf wi pl nu a (upd wi (12 + a) (t3Q en bf x nu).2.2.1 (12 + a)) (12 + a - 12)) ≤ ho (5 + (oV en bf (t4Q en bf x nu).1 (t4Q en bf x nu).2.1 (to 8))).toNatClampNeg then 1 else 0) else if (s_X13_readThingR_107 en x to bf wi pl nu a (upd wi (12 + a) (t3Q en bf x nu).2.2.1 (12 + a)) (12 + a - 12)) ≤ ho (5 + (oV en bf (t4Q en bf x nu).1 (t4Q en bf x nu).2.1 (to 8))).toNatClampNeg then 1 else 0) = 0 then 6 else if z = 1 then gF en bf 0 (nX en bf Y) 1 9 else 0)
    ∧ (¬ (if z = 2 then (if bo (5 + (oV en bf (t4Q en bf x nu).1 (t4Q en bf x nu).2.1 (to 8))).toNatClampNeg = 1 then (0 : Int32) else if (s_X13_readThingR_107 en x to bf wi pl nu a (upd wi (12 + a) (t3Q en bf x nu).2.2.1 (12 + a)) (12 + a - 12)) ≤ ho (5 + (oV en bf (t4Q en bf x nu).1 (t4Q en bf x nu).2.1 (to 8))).toNatClampNeg then 1 else 0) else if (s_X13_readThingR_107 en x to bf wi pl nu a (upd wi (12 + a) (t3Q en bf x nu).2.2.1 (12 + a)) (12 + a - 12)) ≤ ho (5 + (oV en bf (t4Q en bf x nu).1 (t4Q en bf x nu).2.1 (to 8))).toNatClampNeg then 1 else 0) = 0 → s_X13_readThingR_7_f en x to bf wi pl ht bo ho nu a z = (if z = 1 then upd ht (12 + a) (gV en bf 0 (nX en bf Y) 1 9) else upd ht (12 + a) 0)) := by
  have g6 := gn_f (en := en) (bf := bf) (x := Y) (z1 := 1) (z2 := 9) (show ¬ (6 : Int32) = 0 by decide)
  have h10 : ¬ (1 : Int32) = 0 := by decide
  unfold s_X13_readThingR_8_mx s_X13_readThingR_8_mf s_X13_readThingR_7_f
  rw [hF, hY]
  simp only [if_true, g6.1, g6.2.1, ite_self]
  by_cases c1 : z = 2
  · simp only [if_pos c1]
    by_cases c2 : bo (5 + (oV en bf (t4Q en bf x nu).1 (t4Q en bf x nu).2.1 (to 8))).toNatClampNeg = 1
    · rw [hY] at c2
      simp only [if_pos c2, if_true]
      exact ⟨trivial, trivial, fun q => absurd trivial q⟩
    · rw [hY] at c2
      simp only [if_neg c2]
      by_cases c3 : (s_X13_readThingR_107 en x to bf wi pl nu a (upd wi (12 + a) (t3Q en bf x nu).2.2.1 (12 + a)) (12 + a - 12)) ≤ ho (5 + (oV en bf (t4Q en bf x nu).1 (t4Q en bf x nu).2.1 (to 8))).toNatClampNeg
      · rw [hY] at c3
        simp only [if_pos c3, if_neg h10]
        exact ⟨trivial, trivial, fun _ => trivial⟩
      · rw [hY] at c3
        simp only [if_neg c3, if_true]
        exact ⟨trivial, trivial, fun q => absurd trivial q⟩
  · simp only [if_neg c1]
    by_cases c3 : (s_X13_readThingR_107 en x to bf wi pl nu a (upd wi (12 + a) (t3Q en bf x nu).2.2.1 (12 + a)) (12 + a - 12)) ≤ ho (5 + (oV en bf (t4Q en bf x nu).1 (t4Q en bf x nu).2.1 (to 8))).toNatClampNeg
    · rw [hY] at c3
      simp only [if_pos c3, if_neg h10]
      exact ⟨trivial, trivial, fun _ => trivial⟩
    · rw [hY] at c3
      simp only [if_neg c3, if_true]
      exact ⟨trivial, trivial, fun q => absurd trivial q⟩
theorem rm_loop {en x a : Nat} {bf to wi pl tf : Nat → Int32} {nu c z0 : Int32} (hc : (oV en bf (t4Q en bf x nu).1 (t4Q en bf x nu).2.1 (to 8)) = c) (h : ∀ t : Nat, t < a → pl (12 + t) = tat 84 tf (nI t * 7 + 5) ∧ wi (12 + t) = tat 84 tf (nI t * 7 + 3)) : ∀ t : Nat, t ≤ a → s_X13_readThingR_107 en x to bf wi pl nu a z0 t = s_X4_isRoomFor_54 tf c z0 t
  | 0, _ => rfl
  | t + 1, ht => by
    rw [s_X13_readThingR_107, s_X4_isRoomFor_54, rm_loop hc h t (by omega), s_X13_readThingR_107s, s_X4_isRoomFor_54s, hc, Nat.add_comm t 12, (h t (by omega)).1]
    simp only [upd]
    rw [if_neg (show ¬ 12 + t = 12 + a by omega), (h t (by omega)).2]
    split
    · rfl
    · exact Int32.add_zero _
/-- a THING -/
theorem ln_thing {en x a a1 : Nat} {bf hv to cf tf ow li ho co bo ki he un wi va pl ht : Nat → Int32} {nu z : Int32} (h7 : hv 7 = nI a) (ha : a < 12) (h6 : hv 6 = nI a1) (h61 : a1 ≤ 5) (h8 : to 8 = hv 6) (hC : cqC a1 cf ow li ho co bo) (hb : ∀ c : Nat, c < a1 → cf (5 * c + 4) = 0 ∨ cf (5 * c + 4) = 1) (hT : cqT a tf ki he un wi va pl ht) :
    s_X13_readThingR_8_mx en x to bf wi pl bo ho nu a z = s_X4_readThing_0_4 en x bf hv a cf tf z
    ∧ s_X13_readThingR_8_mf en x to bf wi pl bo ho nu a z = s_X4_readThing_1_2 en x 0 bf hv a cf tf z
    ∧ s_X4_readThing_2_1 en x bf hv a cf tf z = upd hv 7 (hv 7 + 1)
    ∧ (s_X4_readThing_1_2 en x 0 bf hv a cf tf z = 0 → cqT (a + 1) (s_X4_readThing_3_f en x bf hv a cf tf z) (upd ki (12 + a) z) (upd he (12 + a) (t1Q en bf x nu).2.2.1) (upd un (12 + a) (t2Q en bf x nu).2.2.1) (upd wi (12 + a) (t3Q en bf x nu).2.2.1) (upd va (12 + a) (t4Q en bf x nu).2.2.1) (upd pl (12 + a) (oV en bf (t4Q en bf x nu).1 (t4Q en bf x nu).2.1 (to 8))) (s_X13_readThingR_7_f en x to bf wi pl ht bo ho nu a z)) := by
  have hlt : hv 7 < 12 := by rw [h7]; exact nI_lt (b := 12) ha (by decide)
  have k0 := fkN_0 en bf
  have k1 := fkT_0 en
  have e11 : (t1Q en bf x nu).1 = gF en bf 0 (nX en bf x) 0 60 := by rw [t1Q_d]; rfl
  have e12 : (t1Q en bf x nu).2.1 = gX en bf 0 (nX en bf x) 0 60 := by rw [t1Q_d]; rfl
  have e13 : (t1Q en bf x nu).2.2.1 = gV en bf 0 (nX en bf x) 0 60 := by rw [t1Q_d]; rfl
  have e21 : (t2Q en bf x nu).1 = gF en bf (t1Q en bf x nu).1 (t1Q en bf x nu).2.1 0 (imin 9 (t1Q en bf x nu).2.2.1) := by rw [t2Q_d]; rfl
  have e22 : (t2Q en bf x nu).2.1 = gX en bf (t1Q en bf x nu).1 (t1Q en bf x nu).2.1 0 (imin 9 (t1Q en bf x nu).2.2.1) := by rw [t2Q_d]; rfl
  have e23 : (t2Q en bf x nu).2.2.1 = gV en bf (t1Q en bf x nu).1 (t1Q en bf x nu).2.1 0 (imin 9 (t1Q en bf x nu).2.2.1) := by rw [t2Q_d]; rfl
  have e31 : (t3Q en bf x nu).1 = gF en bf (t2Q en bf x nu).1 (t2Q en bf x nu).2.1 0 20 := by rw [t3Q_d]; rfl
  have e32 : (t3Q en bf x nu).2.1 = gX en bf (t2Q en bf x nu).1 (t2Q en bf x nu).2.1 0 20 := by rw [t3Q_d]; rfl
  have e33 : (t3Q en bf x nu).2.2.1 = gV en bf (t2Q en bf x nu).1 (t2Q en bf x nu).2.1 0 20 := by rw [t3Q_d]; rfl
  have e41 : (t4Q en bf x nu).1 = gF en bf (t3Q en bf x nu).1 (t3Q en bf x nu).2.1 0 999 := by rw [t4Q_d]; rfl
  have e42 : (t4Q en bf x nu).2.1 = gX en bf (t3Q en bf x nu).1 (t3Q en bf x nu).2.1 0 999 := by rw [t4Q_d]; rfl
  have e43 : (t4Q en bf x nu).2.2.1 = gV en bf (t3Q en bf x nu).1 (t3Q en bf x nu).2.1 0 999 := by rw [t4Q_d]; rfl
  have et : tat 84 (tset 84 (tset 84 (tset 84 tf ((hv 7) * 7 + 0) z) ((hv 7) * 7 + 6) 0) ((hv 7) * 7 + 1) (nmX en bf (nX en bf x))) ((hv 7) * 7 + 1) = (nmX en bf (nX en bf x)) := by
    rw [ta3 7 1 h7 7 1 rfl rfl (by omega) (by decide), ts3 7 1 h7 7 1 rfl rfl (by omega) (by decide)]
    exact upd_at9 _ _ _
  have u21 : s_X4_readThing_2_1 en x bf hv a cf tf z = upd hv 7 (hv 7 + 1) := by
    unfold s_X4_readThing_2_1
    rw [if_pos hlt]
    (repeat' split) <;> rfl
  have fin : ∀ (F : Int32) (Y : Nat), ¬ F = 0 → (oF en bf (t4Q en bf x nu).1 (t4Q en bf x nu).2.1 (to 8)) = F → (t4Q en bf x nu).2.1 = Y → s_X4_readThing_0_4 en x bf hv a cf tf z = Y → s_X4_readThing_1_2 en x 0 bf hv a cf tf z = F → s_X13_readThingR_8_mx en x to bf wi pl bo ho nu a z = s_X4_readThing_0_4 en x bf hv a cf tf z ∧ s_X13_readThingR_8_mf en x to bf wi pl bo ho nu a z = s_X4_readThing_1_2 en x 0 bf hv a cf tf z ∧ s_X4_readThing_2_1 en x bf hv a cf tf z = upd hv 7 (hv 7 + 1) ∧ (s_X4_readThing_1_2 en x 0 bf hv a cf tf z = 0 → cqT (a + 1) (s_X4_readThing_3_f en x bf hv a cf tf z) (upd ki (12 + a) z) (upd he (12 + a) (t1Q en bf x nu).2.2.1) (upd un (12 + a) (t2Q en bf x nu).2.2.1) (upd wi (12 + a) (t3Q en bf x nu).2.2.1) (upd va (12 + a) (t4Q en bf x nu).2.2.1) (upd pl (12 + a) (oV en bf (t4Q en bf x nu).1 (t4Q en bf x nu).2.1 (to 8))) (s_X13_readThingR_7_f en x to bf wi pl ht bo ho nu a z)) := by
    intro F Y hF h1 h2 h3 h4
    obtain ⟨b1, b2⟩ := th_bad (a := a) (wi := wi) (pl := pl) (bo := bo) (ho := ho) (z := z) h1 hF h2
    exact ⟨b1.trans h3.symm, b2.trans h4.symm, u21, fun q => absurd (h4.symm.trans q) hF⟩
  have oFf : ∀ (F : Int32) (Y : Nat), ¬ F = 0 → (t4Q en bf x nu).1 = F → (oF en bf (t4Q en bf x nu).1 (t4Q en bf x nu).2.1 (to 8)) = F := by
    intro F Y hF h
    rw [oF_d, h, if_neg hF]
  by_cases h1 : s_X4_isNumber en (nX en bf x) bf 0 60 = 0
  · skip
    have f1 : (t1Q en bf x nu).1 = (fkN en bf (nX en bf x)) := by rw [e11]; exact (gn_bad h1).2.1
    have y1 : (t1Q en bf x nu).2.1 = (nX en bf x) := by rw [e12]; exact (gn_bad h1).1
    have f2 : (t2Q en bf x nu).1 = (fkN en bf (nX en bf x)) := by rw [e21, f1, y1]; exact (gn_f (k0 _)).2.1
    have y2 : (t2Q en bf x nu).2.1 = (nX en bf x) := by rw [e22, f1, y1]; exact (gn_f (k0 _)).1
    have f3 : (t3Q en bf x nu).1 = (fkN en bf (nX en bf x)) := by rw [e31, f2, y2]; exact (gn_f (k0 _)).2.1
    have y3 : (t3Q en bf x nu).2.1 = (nX en bf x) := by rw [e32, f2, y2]; exact (gn_f (k0 _)).1
    have f4 : (t4Q en bf x nu).1 = (fkN en bf (nX en bf x)) := by rw [e41, f3, y3]; exact (gn_f (k0 _)).2.1
    have y4 : (t4Q en bf x nu).2.1 = (nX en bf x) := by rw [e42, f3, y3]; exact (gn_f (k0 _)).1
    refine fin _ _ (k0 _) (oFf _ x (k0 _) f4) y4 ?_ ?_
    · unfold s_X4_readThing_0_4; simp only [if_pos hlt, et, if_pos h1]
    · unfold s_X4_readThing_1_2; simp only [if_pos hlt, et, if_pos h1]
  have p11 : (t1Q en bf x nu).1 = 0 := by rw [e11]; exact (gn_ok h1).2.1
  have p12 : (t1Q en bf x nu).2.1 = (nX en bf (nX en bf x)) := by rw [e12]; exact (gn_ok h1).1
  have p13 : (t1Q en bf x nu).2.2.1 = (nmX en bf (nX en bf x)) := by rw [e13]; exact (gn_ok h1).2.2
  by_cases h2 : s_X4_isNumber en (nX en bf (nX en bf x)) bf 0 (imin 9 (nmX en bf (nX en bf x))) = 0
  · skip
    have f2 : (t2Q en bf x nu).1 = (fkN en bf (nX en bf (nX en bf x))) := by rw [e21, p11, p12, p13]; exact (gn_bad h2).2.1
    have y2 : (t2Q en bf x nu).2.1 = (nX en bf (nX en bf x)) := by rw [e22, p11, p12, p13]; exact (gn_bad h2).1
    have f3 : (t3Q en bf x nu).1 = (fkN en bf (nX en bf (nX en bf x))) := by rw [e31, f2, y2]; exact (gn_f (k0 _)).2.1
    have y3 : (t3Q en bf x nu).2.1 = (nX en bf (nX en bf x)) := by rw [e32, f2, y2]; exact (gn_f (k0 _)).1
    have f4 : (t4Q en bf x nu).1 = (fkN en bf (nX en bf (nX en bf x))) := by rw [e41, f3, y3]; exact (gn_f (k0 _)).2.1
    have y4 : (t4Q en bf x nu).2.1 = (nX en bf (nX en bf x)) := by rw [e42, f3, y3]; exact (gn_f (k0 _)).1
    refine fin _ _ (k0 _) (oFf _ x (k0 _) f4) y4 ?_ ?_
    · unfold s_X4_readThing_0_4; simp only [if_pos hlt, et, if_neg h1, if_pos h2]
    · unfold s_X4_readThing_1_2; simp only [if_pos hlt, et, if_neg h1, if_pos h2]
  have p21 : (t2Q en bf x nu).1 = 0 := by rw [e21, p11, p12, p13]; exact (gn_ok h2).2.1
  have p22 : (t2Q en bf x nu).2.1 = (nX en bf (nX en bf (nX en bf x))) := by rw [e22, p11, p12, p13]; exact (gn_ok h2).1
  have p23 : (t2Q en bf x nu).2.2.1 = (nmX en bf (nX en bf (nX en bf x))) := by rw [e23, p11, p12, p13]; exact (gn_ok h2).2.2
  by_cases h3 : s_X4_isNumber en (nX en bf (nX en bf (nX en bf x))) bf 0 20 = 0
  · skip
    have f3 : (t3Q en bf x nu).1 = (fkN en bf (nX en bf (nX en bf (nX en bf x)))) := by rw [e31, p21, p22]; exact (gn_bad h3).2.1
    have y3 : (t3Q en bf x nu).2.1 = (nX en bf (nX en bf (nX en bf x))) := by rw [e32, p21, p22]; exact (gn_bad h3).1
    have f4 : (t4Q en bf x nu).1 = (fkN en bf (nX en bf (nX en bf (nX en bf x)))) := by rw [e41, f3, y3]; exact (gn_f (k0 _)).2.1
    have y4 : (t4Q en bf x nu).2.1 = (nX en bf (nX en bf (nX en bf x))) := by rw [e42, f3, y3]; exact (gn_f (k0 _)).1
    refine fin _ _ (k0 _) (oFf _ x (k0 _) f4) y4 ?_ ?_
    · unfold s_X4_readThing_0_4; simp only [if_pos hlt, et, if_neg h1, if_neg h2, if_pos h3]
    · unfold s_X4_readThing_1_2; simp only [if_pos hlt, et, if_neg h1, if_neg h2, if_pos h3]
  have p31 : (t3Q en bf x nu).1 = 0 := by rw [e31, p21, p22]; exact (gn_ok h3).2.1
  have p32 : (t3Q en bf x nu).2.1 = (nX en bf (nX en bf (nX en bf (nX en bf x)))) := by rw [e32, p21, p22]; exact (gn_ok h3).1
  have p33 : (t3Q en bf x nu).2.2.1 = (nmX en bf (nX en bf (nX en bf (nX en bf x)))) := by rw [e33, p21, p22]; exact (gn_ok h3).2.2
  by_cases h4 : s_X4_isNumber en (nX en bf (nX en bf (nX en bf (nX en bf x)))) bf 0 999 = 0
  · skip
    have f4 : (t4Q en bf x nu).1 = (fkN en bf (nX en bf (nX en bf (nX en bf (nX en bf x))))) := by rw [e41, p31, p32]; exact (gn_bad h4).2.1
    have y4 : (t4Q en bf x nu).2.1 = (nX en bf (nX en bf (nX en bf (nX en bf x)))) := by rw [e42, p31, p32]; exact (gn_bad h4).1
    refine fin _ _ (k0 _) (oFf _ x (k0 _) f4) y4 ?_ ?_
    · unfold s_X4_readThing_0_4; simp only [if_pos hlt, et, if_neg h1, if_neg h2, if_neg h3, if_pos h4]
    · unfold s_X4_readThing_1_2; simp only [if_pos hlt, et, if_neg h1, if_neg h2, if_neg h3, if_pos h4]
  have p41 : (t4Q en bf x nu).1 = 0 := by rw [e41, p31, p32]; exact (gn_ok h4).2.1
  have p42 : (t4Q en bf x nu).2.1 = (nX en bf (nX en bf (nX en bf (nX en bf (nX en bf x))))) := by rw [e42, p31, p32]; exact (gn_ok h4).1
  have p43 : (t4Q en bf x nu).2.2.1 = (nmX en bf (nX en bf (nX en bf (nX en bf (nX en bf x))))) := by rw [e43, p31, p32]; exact (gn_ok h4).2.2
  by_cases h5 : s_X4_isTold en (nX en bf (nX en bf (nX en bf (nX en bf (nX en bf x))))) bf (hv 6) = 0
  · have f5 : (oF en bf (t4Q en bf x nu).1 (t4Q en bf x nu).2.1 (to 8)) = fkT en (nX en bf (nX en bf (nX en bf (nX en bf (nX en bf x))))) bf := by rw [oF_d, p41, p42, h8, if_pos rfl, if_pos h5]
    refine fin _ _ (k1 _ _) f5 p42 ?_ ?_
    · unfold s_X4_readThing_0_4; simp only [if_pos hlt, et, if_neg h1, if_neg h2, if_neg h3, if_neg h4, if_pos h5]
    · unfold s_X4_readThing_1_2; simp only [if_pos hlt, et, if_neg h1, if_neg h2, if_neg h3, if_neg h4, if_pos h5]
  have f5 : (oF en bf (t4Q en bf x nu).1 (t4Q en bf x nu).2.1 (to 8)) = 0 := by rw [oF_d, p41, p42, h8, if_pos rfl, if_neg h5]
  have v5 : (oV en bf (t4Q en bf x nu).1 (t4Q en bf x nu).2.1 (to 8)) = (nmX en bf (nX en bf (nX en bf (nX en bf (nX en bf (nX en bf x)))))) := by rw [oV_d, p41, p42, h8, if_pos rfl, if_neg h5]
  obtain ⟨c, hc1, hc2⟩ := oV_n (h8.trans h6) (by omega) f5
  rw [v5] at hc2
  obtain ⟨g1, g2, g3⟩ := th_good (a := a) (wi := wi) (pl := pl) (bo := bo) (ho := ho) (ht := ht) (z := z) f5 p42
  have hR : (if z = 2 then (if bo (5 + (oV en bf (t4Q en bf x nu).1 (t4Q en bf x nu).2.1 (to 8))).toNatClampNeg = 1 then (0 : Int32) else if (s_X13_readThingR_107 en x to bf wi pl nu a (upd wi (12 + a) (t3Q en bf x nu).2.2.1 (12 + a)) (12 + a - 12)) ≤ ho (5 + (oV en bf (t4Q en bf x nu).1 (t4Q en bf x nu).2.1 (to 8))).toNatClampNeg then 1 else 0) else if (s_X13_readThingR_107 en x to bf wi pl nu a (upd wi (12 + a) (t3Q en bf x nu).2.2.1 (12 + a)) (12 + a - 12)) ≤ ho (5 + (oV en bf (t4Q en bf x nu).1 (t4Q en bf x nu).2.1 (to 8))).toNatClampNeg then 1 else 0) = s_X4_isRoomFor a cf (tset 84 (tset 84 (tset 84 (tset 84 (tset 84 (tset 84 tf ((hv 7) * 7 + 0) z) ((hv 7) * 7 + 6) 0) ((hv 7) * 7 + 1) (nmX en bf (nX en bf x))) ((hv 7) * 7 + 2) (nmX en bf (nX en bf (nX en bf x)))) ((hv 7) * 7 + 3) (nmX en bf (nX en bf (nX en bf (nX en bf x))))) ((hv 7) * 7 + 4) (nmX en bf (nX en bf (nX en bf (nX en bf (nX en bf x)))))) (hv 7) (nmX en bf (nX en bf (nX en bf (nX en bf (nX en bf (nX en bf x)))))) := by
    have ea : ∀ r : Nat, r < 7 → ∀ t : Nat, t < a → tat 84 (tset 84 (tset 84 (tset 84 (tset 84 (tset 84 (tset 84 tf ((hv 7) * 7 + 0) z) ((hv 7) * 7 + 6) 0) ((hv 7) * 7 + 1) (nmX en bf (nX en bf x))) ((hv 7) * 7 + 2) (nmX en bf (nX en bf (nX en bf x)))) ((hv 7) * 7 + 3) (nmX en bf (nX en bf (nX en bf (nX en bf x))))) ((hv 7) * 7 + 4) (nmX en bf (nX en bf (nX en bf (nX en bf (nX en bf x)))))) (nI t * 7 + nI r) = tf (7 * t + r) := by
      intro r hr t ht
      rw [ta3 7 r rfl 7 (nI r) rfl rfl (by omega) (by decide), ts3 7 0 h7 7 0 rfl rfl (by omega) (by decide), ts3 7 6 h7 7 6 rfl rfl (by omega) (by decide), ts3 7 1 h7 7 1 rfl rfl (by omega) (by decide), ts3 7 2 h7 7 2 rfl rfl (by omega) (by decide), ts3 7 3 h7 7 3 rfl rfl (by omega) (by decide), ts3 7 4 h7 7 4 rfl rfl (by omega) (by decide)]
      simp only [upd]
      rw [if_neg (by omega), if_neg (by omega), if_neg (by omega), if_neg (by omega), if_neg (by omega), if_neg (by omega)]
    have el : (s_X13_readThingR_107 en x to bf wi pl nu a (upd wi (12 + a) (t3Q en bf x nu).2.2.1 (12 + a)) (12 + a - 12)) = s_X4_isRoomFor_54 (tset 84 (tset 84 (tset 84 (tset 84 (tset 84 (tset 84 tf ((hv 7) * 7 + 0) z) ((hv 7) * 7 + 6) 0) ((hv 7) * 7 + 1) (nmX en bf (nX en bf x))) ((hv 7) * 7 + 2) (nmX en bf (nX en bf (nX en bf x)))) ((hv 7) * 7 + 3) (nmX en bf (nX en bf (nX en bf (nX en bf x))))) ((hv 7) * 7 + 4) (nmX en bf (nX en bf (nX en bf (nX en bf (nX en bf x)))))) (nmX en bf (nX en bf (nX en bf (nX en bf (nX en bf (nX en bf x)))))) (nmX en bf (nX en bf (nX en bf (nX en bf x)))) a := by
      rw [upd_at9, p33, show 12 + a - 12 = a by omega]
      refine rm_loop v5 (fun t ht => ⟨?_, ?_⟩) a (Nat.le_refl _)
      · exact (hT t ht).2.2.2.2.2.1.trans (ea 5 (by decide) t ht).symm
      · exact (hT t ht).2.2.2.1.trans (ea 3 (by decide) t ht).symm
    have e0 : tat 84 (tset 84 (tset 84 (tset 84 (tset 84 (tset 84 (tset 84 tf ((hv 7) * 7 + 0) z) ((hv 7) * 7 + 6) 0) ((hv 7) * 7 + 1) (nmX en bf (nX en bf x))) ((hv 7) * 7 + 2) (nmX en bf (nX en bf (nX en bf x)))) ((hv 7) * 7 + 3) (nmX en bf (nX en bf (nX en bf (nX en bf x))))) ((hv 7) * 7 + 4) (nmX en bf (nX en bf (nX en bf (nX en bf (nX en bf x)))))) (hv 7 * 7 + 0) = z := by
      rw [ta3 7 0 h7 7 0 rfl rfl (by omega) (by decide), ts3 7 0 h7 7 0 rfl rfl (by omega) (by decide), ts3 7 6 h7 7 6 rfl rfl (by omega) (by decide), ts3 7 1 h7 7 1 rfl rfl (by omega) (by decide), ts3 7 2 h7 7 2 rfl rfl (by omega) (by decide), ts3 7 3 h7 7 3 rfl rfl (by omega) (by decide), ts3 7 4 h7 7 4 rfl rfl (by omega) (by decide)]
      simp only [upd]
      rw [if_neg (by omega), if_neg (by omega), if_neg (by omega), if_neg (by omega), if_neg (by omega)]
      simp
    have e3 : tat 84 (tset 84 (tset 84 (tset 84 (tset 84 (tset 84 (tset 84 tf ((hv 7) * 7 + 0) z) ((hv 7) * 7 + 6) 0) ((hv 7) * 7 + 1) (nmX en bf (nX en bf x))) ((hv 7) * 7 + 2) (nmX en bf (nX en bf (nX en bf x)))) ((hv 7) * 7 + 3) (nmX en bf (nX en bf (nX en bf (nX en bf x))))) ((hv 7) * 7 + 4) (nmX en bf (nX en bf (nX en bf (nX en bf (nX en bf x)))))) (hv 7 * 7 + 3) = (nmX en bf (nX en bf (nX en bf (nX en bf x)))) := by
      rw [ta3 7 3 h7 7 3 rfl rfl (by omega) (by decide), ts3 7 0 h7 7 0 rfl rfl (by omega) (by decide), ts3 7 6 h7 7 6 rfl rfl (by omega) (by decide), ts3 7 1 h7 7 1 rfl rfl (by omega) (by decide), ts3 7 2 h7 7 2 rfl rfl (by omega) (by decide), ts3 7 3 h7 7 3 rfl rfl (by omega) (by decide), ts3 7 4 h7 7 4 rfl rfl (by omega) (by decide)]
      simp only [upd]
      rw [if_neg (by omega)]
      simp
    have e5 : (5 + (nmX en bf (nX en bf (nX en bf (nX en bf (nX en bf (nX en bf x))))))).toNatClampNeg = 5 + c := by rw [hc2, show (5 : Int32) = nI 5 from rfl, nI_add, nI_clamp (by omega)]
    have e6 : tat 25 cf ((nmX en bf (nX en bf (nX en bf (nX en bf (nX en bf (nX en bf x)))))) * 5 + 4) = bo (5 + c) := by rw [ta3 5 4 hc2 5 4 rfl rfl (by omega) (by decide), (hC c hc1).2.2.2.2]
    have e7 : tat 25 cf ((nmX en bf (nX en bf (nX en bf (nX en bf (nX en bf (nX en bf x)))))) * 5 + 2) = ho (5 + c) := by rw [ta3 5 2 hc2 5 2 rfl rfl (by omega) (by decide), (hC c hc1).2.2.1]
    have e8 : bo (5 + c) = 0 ∨ bo (5 + c) = 1 := by rw [(hC c hc1).2.2.2.2]; exact hb c hc1
    unfold s_X4_isRoomFor
    rw [el, v5, e0, e3, e5, e6, e7]
    by_cases c1 : z = 2
    · simp only [if_pos c1]
      rcases e8 with e8 | e8
      · rw [e8]; simp
      · rw [e8]; simp
    · simp only [if_neg c1]
  rw [hR] at g1 g2 g3
  by_cases h6' : s_X4_isRoomFor a cf (tset 84 (tset 84 (tset 84 (tset 84 (tset 84 (tset 84 tf ((hv 7) * 7 + 0) z) ((hv 7) * 7 + 6) 0) ((hv 7) * 7 + 1) (nmX en bf (nX en bf x))) ((hv 7) * 7 + 2) (nmX en bf (nX en bf (nX en bf x)))) ((hv 7) * 7 + 3) (nmX en bf (nX en bf (nX en bf (nX en bf x))))) ((hv 7) * 7 + 4) (nmX en bf (nX en bf (nX en bf (nX en bf (nX en bf x)))))) (hv 7) (nmX en bf (nX en bf (nX en bf (nX en bf (nX en bf (nX en bf x)))))) = 0
  · rw [if_pos h6'] at g1 g2
    refine ⟨g1.trans ?_, g2.trans ?_, u21, fun q => absurd q ?_⟩
    · unfold s_X4_readThing_0_4; simp only [if_pos hlt, et, if_neg h1, if_neg h2, if_neg h3, if_neg h4, if_neg h5, if_pos h6']
    · unfold s_X4_readThing_1_2; simp only [if_pos hlt, et, if_neg h1, if_neg h2, if_neg h3, if_neg h4, if_neg h5, if_pos h6']
    · unfold s_X4_readThing_1_2; simp only [if_pos hlt, et, if_neg h1, if_neg h2, if_neg h3, if_neg h4, if_neg h5, if_pos h6']; decide
  rw [if_neg h6'] at g1 g2
  have g4 := g3 h6'
  by_cases hz : z = 1
  · rw [if_pos hz] at g1 g2 g4
    by_cases h9 : s_X4_isNumber en (nX en bf (nX en bf (nX en bf (nX en bf (nX en bf (nX en bf x)))))) bf 1 9 = 0
    · rw [(gn_bad h9).1] at g1
      rw [(gn_bad h9).2.1] at g2
      refine ⟨g1.trans ?_, g2.trans ?_, u21, fun q => absurd q ?_⟩
      · unfold s_X4_readThing_0_4; simp only [if_pos hlt, et, if_neg h1, if_neg h2, if_neg h3, if_neg h4, if_neg h5, if_neg h6', if_pos hz, if_pos h9]
      · unfold s_X4_readThing_1_2; simp only [if_pos hlt, et, if_neg h1, if_neg h2, if_neg h3, if_neg h4, if_neg h5, if_neg h6', if_pos hz, if_pos h9]
      · unfold s_X4_readThing_1_2; simp only [if_pos hlt, et, if_neg h1, if_neg h2, if_neg h3, if_neg h4, if_neg h5, if_neg h6', if_pos hz, if_pos h9]; exact k0 _
    · rw [(gn_ok h9).1] at g1
      rw [(gn_ok h9).2.1] at g2
      rw [(gn_ok h9).2.2] at g4
      refine ⟨g1.trans ?_, g2.trans ?_, u21, fun _ => ?_⟩
      · unfold s_X4_readThing_0_4; simp only [if_pos hlt, et, if_neg h1, if_neg h2, if_neg h3, if_neg h4, if_neg h5, if_neg h6', if_pos hz, if_neg h9]
      · unfold s_X4_readThing_1_2; simp only [if_pos hlt, et, if_neg h1, if_neg h2, if_neg h3, if_neg h4, if_neg h5, if_neg h6', if_pos hz, if_neg h9]
      · rw [g4]
        unfold s_X4_readThing_3_f; simp only [if_pos hlt, et, if_neg h1, if_neg h2, if_neg h3, if_neg h4, if_neg h5, if_neg h6', if_pos hz, if_neg h9]
        rw [ts3 7 0 h7 7 0 rfl rfl (by omega) (by decide), ts3 7 6 h7 7 6 rfl rfl (by omega) (by decide), ts3 7 1 h7 7 1 rfl rfl (by omega) (by decide), ts3 7 2 h7 7 2 rfl rfl (by omega) (by decide), ts3 7 3 h7 7 3 rfl rfl (by omega) (by decide), ts3 7 4 h7 7 4 rfl rfl (by omega) (by decide), ts3 7 5 h7 7 5 rfl rfl (by omega) (by decide), ts3 7 6 h7 7 6 rfl rfl (by omega) (by decide), p13, p23, p33, p43, v5]
        exact th_body hT (fun q => th_G8 q)
  · rw [if_neg hz] at g1 g2 g4
    refine ⟨g1.trans ?_, g2.trans ?_, u21, fun _ => ?_⟩
    · unfold s_X4_readThing_0_4; simp only [if_pos hlt, et, if_neg h1, if_neg h2, if_neg h3, if_neg h4, if_neg h5, if_neg h6', if_neg hz]
    · unfold s_X4_readThing_1_2; simp only [if_pos hlt, et, if_neg h1, if_neg h2, if_neg h3, if_neg h4, if_neg h5, if_neg h6', if_neg hz]
    · rw [g4]
      unfold s_X4_readThing_3_f; simp only [if_pos hlt, et, if_neg h1, if_neg h2, if_neg h3, if_neg h4, if_neg h5, if_neg h6', if_neg hz]
      rw [ts3 7 0 h7 7 0 rfl rfl (by omega) (by decide), ts3 7 6 h7 7 6 rfl rfl (by omega) (by decide), ts3 7 1 h7 7 1 rfl rfl (by omega) (by decide), ts3 7 2 h7 7 2 rfl rfl (by omega) (by decide), ts3 7 3 h7 7 3 rfl rfl (by omega) (by decide), ts3 7 4 h7 7 4 rfl rfl (by omega) (by decide), ts3 7 5 h7 7 5 rfl rfl (by omega) (by decide), p13, p23, p33, p43, v5]
      exact th_body hT (fun q => th_G7 q)
end
