noncomputable section
/-! PoundsOver$Reader: the rule's text. A result is a fault (0: none), where the token behind it is scanned from, and the code -/
def wV (en : Nat) (bf : Nat → Int32) (x : Nat) : Int32 := wVl.getD (wX en bf x) 0
def eCl (en : Nat) (bf : Nat → Int32) (r : Int32 × Nat × List Int32) : Int32 × Nat × List Int32 := if r.1 = 0 then (if kX en bf r.2.1 = 41 then (0, nX en bf r.2.1, r.2.2) else (1, r.2.1, r.2.2)) else r
def ePart (en : Nat) (bf : Nat → Int32) (E : Nat → List Int32 → Int32 × Nat × List Int32) (x : Nat) (cs : List Int32) : Int32 × Nat × List Int32 :=
  if kX en bf x = 1 then (if wV en bf x = -1 then (3, x, cs) else (0, nX en bf x, cs ++ [-1 - wV en bf x]))
  else if kX en bf x = 2 then (if 9999 < nmX en bf x then (2, x, cs) else (0, nX en bf x, cs ++ [nmX en bf x]))
  else if kX en bf x = 40 then eCl en bf (E (nX en bf x) cs) else (1, x, cs)
def eIf (r : Int32 × Nat × List Int32) (v : Int32) : Int32 × Nat × List Int32 := (r.1, r.2.1, if r.1 = 0 then r.2.2 ++ [v] else r.2.2)
def eLoop (en : Nat) (bf : Nat → Int32) (op : Nat → Int32) (S : Nat → List Int32 → Int32 × Nat × List Int32) : Nat → Int32 × Nat × List Int32 → Int32 × Nat × List Int32
  | 0, r => r
  | k + 1, r => if r.1 = 0 then (if op r.2.1 = 0 then r else eLoop en bf op S k (eIf (S (nX en bf r.2.1) r.2.2) (op r.2.1))) else r
def opP (en : Nat) (bf : Nat → Int32) (x : Nat) : Int32 := if kX en bf x = 42 then -17 else if kX en bf x = 47 then -18 else 0
def opS (en : Nat) (bf : Nat → Int32) (x : Nat) : Int32 := if kX en bf x = 43 then -15 else if kX en bf x = 45 then -16 else 0
def opA (en : Nat) (bf : Nat → Int32) (x : Nat) : Int32 := if wX en bf x = 14 then -11 else 0
def opO (en : Nat) (bf : Nat → Int32) (x : Nat) : Int32 := if wX en bf x = 13 then -10 else 0
def opT (en : Nat) (bf : Nat → Int32) (x : Nat) : Int32 := if kX en bf x = 60 then -13 else if kX en bf x = 61 then -14 else 0
def eProd (en : Nat) (bf : Nat → Int32) (E : Nat → List Int32 → Int32 × Nat × List Int32) (x : Nat) (cs : List Int32) : Int32 × Nat × List Int32 := eLoop en bf (opP en bf) (ePart en bf E) 700 (ePart en bf E x cs)
def eSum (en : Nat) (bf : Nat → Int32) (E : Nat → List Int32 → Int32 × Nat × List Int32) (x : Nat) (cs : List Int32) : Int32 × Nat × List Int32 := eLoop en bf (opS en bf) (eProd en bf E) 700 (eProd en bf E x cs)
def eTest (en : Nat) (bf : Nat → Int32) (E : Nat → List Int32 → Int32 × Nat × List Int32) (x : Nat) (cs : List Int32) : Int32 × Nat × List Int32 := eLoop en bf (opT en bf) (eSum en bf E) 1 (eSum en bf E x cs)
def eNotX (en : Nat) (bf : Nat → Int32) : Nat → Nat → Nat
  | 0, x => x
  | k + 1, x => if wX en bf x = 15 then eNotX en bf k (nX en bf x) else x
def eNotN (en : Nat) (bf : Nat → Int32) : Nat → Nat → Nat
  | 0, _ => 0
  | k + 1, x => if wX en bf x = 15 then eNotN en bf k (nX en bf x) + 1 else 0
def eRep (cs : List Int32) : Nat → List Int32
  | 0 => cs
  | k + 1 => eRep cs k ++ [-12]
def eNot (en : Nat) (bf : Nat → Int32) (E : Nat → List Int32 → Int32 × Nat × List Int32) (x : Nat) (cs : List Int32) : Int32 × Nat × List Int32 :=
  if wX en bf (eNotX en bf 6 x) = 15 then (2, eNotX en bf 6 x, cs) else ((eTest en bf E (eNotX en bf 6 x) cs).1, (eTest en bf E (eNotX en bf 6 x) cs).2.1, eRep (eTest en bf E (eNotX en bf 6 x) cs).2.2 (eNotN en bf 6 x))
def eAnd (en : Nat) (bf : Nat → Int32) (E : Nat → List Int32 → Int32 × Nat × List Int32) (x : Nat) (cs : List Int32) : Int32 × Nat × List Int32 := eLoop en bf (opA en bf) (eNot en bf E) 700 (eNot en bf E x cs)
def eOr (en : Nat) (bf : Nat → Int32) (E : Nat → List Int32 → Int32 × Nat × List Int32) (x : Nat) (cs : List Int32) : Int32 × Nat × List Int32 := eLoop en bf (opO en bf) (eAnd en bf E) 700 (eAnd en bf E x cs)
def eE (en : Nat) (bf : Nat → Int32) : Nat → Nat → List Int32 → Int32 × Nat × List Int32
  | 0, x, cs => (if kX en bf x = 2 then 2 else if kX en bf x = 1 then 2 else if kX en bf x = 40 then 2 else 1, x, cs)
  | d + 1, x, cs => eOr en bf (eE en bf d) x cs
/-- it goes forward, not beyond the end, and lays no more code than it goes -/
def eB (en : Nat) (S : Nat → List Int32 → Int32 × Nat × List Int32) : Prop := ∀ (x : Nat) (cs : List Int32), x ≤ en → x ≤ (S x cs).2.1 ∧ (S x cs).2.1 ≤ en ∧ (S x cs).2.2.length + x ≤ cs.length + (S x cs).2.1
theorem eIf_t {r : Int32 × Nat × List Int32} {v : Int32} (h : r.1 = 0) : (eIf r v).2.2 = r.2.2 ++ [v] := if_pos h
theorem eIf_f {r : Int32 × Nat × List Int32} {v : Int32} (h : ¬ r.1 = 0) : (eIf r v).2.2 = r.2.2 := if_neg h
theorem eIf_len (r : Int32 × Nat × List Int32) (v : Int32) : (eIf r v).2.2.length ≤ r.2.2.length + 1 := by
  unfold eIf
  show (if r.1 = 0 then r.2.2 ++ [v] else r.2.2).length ≤ _
  split
  · simp
  · omega
theorem ePart_B {en : Nat} {bf : Nat → Int32} {E : Nat → List Int32 → Int32 × Nat × List Int32} (he : en ≤ 700) (hE : eB en E) : eB en (ePart en bf E) := by
  intro x cs hx
  have h3 := nX_le (bf := bf) hx he
  unfold ePart
  split
  · rename_i h1
    have h2 := nX_gt hx he (by rw [h1]; decide : ¬ kX en bf x = 0)
    split
    · exact ⟨Nat.le_refl _, hx, Nat.le_refl _⟩
    · exact ⟨Nat.le_of_lt h2, h3, by simp only [List.length_append, List.length_singleton]; omega⟩
  · split
    · rename_i h1
      have h2 := nX_gt hx he (by rw [h1]; decide : ¬ kX en bf x = 0)
      split
      · exact ⟨Nat.le_refl _, hx, Nat.le_refl _⟩
      · exact ⟨Nat.le_of_lt h2, h3, by simp only [List.length_append, List.length_singleton]; omega⟩
    · split
      · rename_i h1
        have h2 := nX_gt hx he (by rw [h1]; decide : ¬ kX en bf x = 0)
        obtain ⟨h4, h5, h6⟩ := hE (nX en bf x) cs h3
        have h7 := nX_le (bf := bf) h5 he
        have h8 := nX_ge (bf := bf) h5 he
        unfold eCl
        (repeat' split) <;> exact ⟨by first | omega | (simp only []; omega), by first | omega | (simp only []; omega), by first | omega | (simp only []; omega)⟩
      · exact ⟨Nat.le_refl _, hx, Nat.le_refl _⟩
def opB (en : Nat) (bf : Nat → Int32) (op : Nat → Int32) : Prop := ∀ x : Nat, x ≤ en → ¬ op x = 0 → x < nX en bf x
theorem eLoop_B {en : Nat} {bf : Nat → Int32} {op : Nat → Int32} {S : Nat → List Int32 → Int32 × Nat × List Int32} (he : en ≤ 700) (hS : eB en S) (ho : opB en bf op) : ∀ (k : Nat) (r : Int32 × Nat × List Int32), r.2.1 ≤ en → r.2.1 ≤ (eLoop en bf op S k r).2.1 ∧ (eLoop en bf op S k r).2.1 ≤ en ∧ (eLoop en bf op S k r).2.2.length + r.2.1 ≤ r.2.2.length + (eLoop en bf op S k r).2.1
  | 0, r, hr => ⟨Nat.le_refl _, hr, Nat.le_refl _⟩
  | k + 1, r, hr => by
    rw [eLoop]
    split
    · split
      · exact ⟨Nat.le_refl _, hr, Nat.le_refl _⟩
      · rename_i h0 h1
        have h2 := ho r.2.1 hr h1
        have h3 := nX_le (bf := bf) hr he
        obtain ⟨h4, h5, h6⟩ := hS (nX en bf r.2.1) r.2.2 h3
        have h7 := eIf_len (S (nX en bf r.2.1) r.2.2) (op r.2.1)
        obtain ⟨h8, h9, h10⟩ := eLoop_B he hS ho k (eIf (S (nX en bf r.2.1) r.2.2) (op r.2.1)) h5
        have h11 : (eIf (S (nX en bf r.2.1) r.2.2) (op r.2.1)).2.1 = (S (nX en bf r.2.1) r.2.2).2.1 := rfl
        rw [h11] at h8 h10
        exact ⟨by omega, h9, by omega⟩
    · exact ⟨Nat.le_refl _, hr, Nat.le_refl _⟩
theorem eLp_B {en : Nat} {bf : Nat → Int32} {op : Nat → Int32} {S : Nat → List Int32 → Int32 × Nat × List Int32} (he : en ≤ 700) (hS : eB en S) (ho : opB en bf op) (k : Nat) : eB en (fun x cs => eLoop en bf op S k (S x cs)) := by
  intro x cs hx
  obtain ⟨h1, h2, h3⟩ := hS x cs hx
  obtain ⟨h4, h5, h6⟩ := eLoop_B he hS ho k (S x cs) h2
  exact ⟨by show x ≤ (eLoop en bf op S k (S x cs)).2.1; omega, h5, by show (eLoop en bf op S k (S x cs)).2.2.length + x ≤ cs.length + (eLoop en bf op S k (S x cs)).2.1; omega⟩
theorem opP_B {en : Nat} {bf : Nat → Int32} (he : en ≤ 700) : opB en bf (opP en bf) := fun x hx h => nX_gt hx he (fun q => h (by rw [opP, q]; decide))
theorem opS_B {en : Nat} {bf : Nat → Int32} (he : en ≤ 700) : opB en bf (opS en bf) := fun x hx h => nX_gt hx he (fun q => h (by rw [opS, q]; decide))
theorem opT_B {en : Nat} {bf : Nat → Int32} (he : en ≤ 700) : opB en bf (opT en bf) := fun x hx h => nX_gt hx he (fun q => h (by rw [opT, q]; decide))
theorem opA_B {en : Nat} {bf : Nat → Int32} (he : en ≤ 700) : opB en bf (opA en bf) := fun x hx h => wX_gt hx he (fun q => h (by rw [opA, q]; decide))
theorem opO_B {en : Nat} {bf : Nat → Int32} (he : en ≤ 700) : opB en bf (opO en bf) := fun x hx h => wX_gt hx he (fun q => h (by rw [opO, q]; decide))
theorem eProd_B {en : Nat} {bf : Nat → Int32} {E : Nat → List Int32 → Int32 × Nat × List Int32} (he : en ≤ 700) (hE : eB en E) : eB en (eProd en bf E) := eLp_B he (ePart_B he hE) (opP_B he) 700
theorem eSum_B {en : Nat} {bf : Nat → Int32} {E : Nat → List Int32 → Int32 × Nat × List Int32} (he : en ≤ 700) (hE : eB en E) : eB en (eSum en bf E) := eLp_B he (eProd_B he hE) (opS_B he) 700
theorem eTest_B {en : Nat} {bf : Nat → Int32} {E : Nat → List Int32 → Int32 × Nat × List Int32} (he : en ≤ 700) (hE : eB en E) : eB en (eTest en bf E) := eLp_B he (eSum_B he hE) (opT_B he) 1
theorem eNotX_B {en : Nat} {bf : Nat → Int32} (he : en ≤ 700) : ∀ (k x : Nat), x ≤ en → x + eNotN en bf k x ≤ eNotX en bf k x ∧ eNotX en bf k x ≤ en
  | 0, x, h => ⟨Nat.le_refl _, h⟩
  | k + 1, x, h => by
    rw [eNotX, eNotN]
    split
    · rename_i h1
      have h2 := wX_gt h he (by rw [h1]; decide : ¬ wX en bf x = 0)
      have h3 := eNotX_B (bf := bf) he k _ (nX_le (bf := bf) h he)
      omega
    · exact ⟨Nat.le_refl _, h⟩
theorem eNotN_le {en : Nat} {bf : Nat → Int32} : ∀ (k x : Nat), eNotN en bf k x ≤ k
  | 0, _ => Nat.le_refl _
  | k + 1, x => by
    rw [eNotN]
    split
    · have := eNotN_le (en := en) (bf := bf) k (nX en bf x); omega
    · omega
theorem eRep_len (cs : List Int32) : ∀ k : Nat, (eRep cs k).length = cs.length + k
  | 0 => rfl
  | k + 1 => by rw [eRep, List.length_append, eRep_len cs k]; rfl
theorem eNot_B {en : Nat} {bf : Nat → Int32} {E : Nat → List Int32 → Int32 × Nat × List Int32} (he : en ≤ 700) (hE : eB en E) : eB en (eNot en bf E) := by
  intro x cs hx
  have h1 := eNotX_B (bf := bf) he 6 x hx
  obtain ⟨h2, h3, h4⟩ := eTest_B (bf := bf) he hE (eNotX en bf 6 x) cs h1.2
  unfold eNot
  split
  · exact ⟨by simp only []; omega, h1.2, by simp only []; omega⟩
  · exact ⟨by simp only []; omega, h3, by simp only [eRep_len]; omega⟩
theorem eAnd_B {en : Nat} {bf : Nat → Int32} {E : Nat → List Int32 → Int32 × Nat × List Int32} (he : en ≤ 700) (hE : eB en E) : eB en (eAnd en bf E) := eLp_B he (eNot_B he hE) (opA_B he) 700
theorem eOr_B {en : Nat} {bf : Nat → Int32} {E : Nat → List Int32 → Int32 × Nat × List Int32} (he : en ≤ 700) (hE : eB en E) : eB en (eOr en bf E) := eLp_B he (eAnd_B he hE) (opO_B he) 700
theorem eE_B {en : Nat} {bf : Nat → Int32} (he : en ≤ 700) : ∀ d : Nat, eB en (eE en bf d)
  | 0 => fun x cs hx => ⟨Nat.le_refl _, hx, Nat.le_refl _⟩
  | d + 1 => eOr_B he (eE_B he d)
/-- the code that is laid, ahead of what was there -/
def layC (cs : List Int32) (c0 : Nat → Int32) : Nat → Int32 := fun q => if q < cs.length then cs.getD q 0 else c0 q
theorem layC_put {cs : List Int32} {c0 : Nat → Int32} {v : Int32} (h : cs.length < 700) : tset 700 (layC cs c0) (nI cs.length) v = layC (cs ++ [v]) c0 := by
  unfold tset
  rw [if_neg (nI_pos (by omega)), if_neg (fun q => by have := (nI_leI (a := 700) (by omega) (by omega)).mp q; omega), nI_clamp (by omega)]
  funext q
  by_cases hq : q = cs.length
  · subst hq
    simp [upd, layC]
  · simp only [upd, layC, hq, if_false, List.length_append, List.length_singleton]
    by_cases h2 : q < cs.length
    · rw [if_pos h2, if_pos (by omega)]
      simp [List.getD, List.getElem?_append_left h2]
    · rw [if_neg h2, if_neg (by omega)]
theorem layC_nil (c0 : Nat → Int32) : layC [] c0 = c0 := rfl
theorem len_put (cs : List Int32) (v : Int32) : nI cs.length + 1 = nI (cs ++ [v]).length := by rw [List.length_append]; exact (nI_succ _).symm
theorem eLoop_bad {en : Nat} {bf : Nat → Int32} {op : Nat → Int32} {S : Nat → List Int32 → Int32 × Nat × List Int32} {r : Int32 × Nat × List Int32} (h : ¬ r.1 = 0) : ∀ k : Nat, eLoop en bf op S k r = r
  | 0 => rfl
  | k + 1 => by rw [eLoop, if_neg h]
theorem eLoop_op {en : Nat} {bf : Nat → Int32} {op : Nat → Int32} {S : Nat → List Int32 → Int32 × Nat × List Int32} {r : Int32 × Nat × List Int32} (h : op r.2.1 = 0) : ∀ k : Nat, eLoop en bf op S k r = r
  | 0 => rfl
  | k + 1 => by rw [eLoop, if_pos h, ite_self]
theorem eLoop_on {en : Nat} {bf : Nat → Int32} {op : Nat → Int32} {S : Nat → List Int32 → Int32 × Nat × List Int32} {r : Int32 × Nat × List Int32} (h0 : r.1 = 0) (h : ¬ op r.2.1 = 0) (k : Nat) : eLoop en bf op S (k + 1) r = eLoop en bf op S k (eIf (S (nX en bf r.2.1) r.2.2) (op r.2.1)) := by rw [eLoop, if_pos h0, if_neg h]
def okI (f : Int32) : Int32 := if f = 0 then 1 else 0
theorem okI_z {f : Int32} (h : okI f = 0) : ¬ f = 0 := fun q => by rw [okI, if_pos q] at h; exact absurd h (by decide)
theorem okI_o {f : Int32} (h : ¬ okI f = 0) : f = 0 := Classical.byContradiction fun q => h (if_neg q)
theorem okI_1 {f : Int32} (h : f = 0) : okI f = 1 := if_pos h
theorem okI_0 {f : Int32} (h : ¬ f = 0) : okI f = 0 := if_neg h
theorem okI_nb (f : Int32) : narrow .boolean (.int (okI f)) = .int (okI f) := by
  unfold okI
  split <;> rfl
/-- the reader's fault *-/
def flt (ft f : Int32) : Int32 := if f = 0 then ft else f
theorem flt_0 {ft f : Int32} (h : f = 0) : flt ft f = ft := if_pos h
theorem flt_z (ft : Int32) : flt ft 0 = ft := if_pos rfl
theorem flt_o (ft : Int32) : flt ft 1 = 1 := if_neg (by decide)
theorem flt_w (ft : Int32) : flt ft 2 = 2 := if_neg (by decide)
theorem flt_h (ft : Int32) : flt ft 3 = 3 := if_neg (by decide)
theorem okI_zz : okI 0 = 1 := rfl
theorem okI_oo : okI 1 = 0 := rfl
theorem okI_ww : okI 2 = 0 := rfl
theorem okI_hh : okI 3 = 0 := rfl
theorem eIf_x (r : Int32 × Nat × List Int32) (v : Int32) : (eIf r v).2.1 = r.2.1 := rfl
theorem eIf_1 (r : Int32 × Nat × List Int32) (v : Int32) : (eIf r v).1 = r.1 := rfl
theorem flt_1 {ft f : Int32} (h : ¬ f = 0) : flt ft f = f := if_neg h
set_option maxRecDepth 20000 in
theorem fX4_takeClosing_9 : FL wsX4_takeClosing RX4 9 4 0 := ⟨RX4, TX4, 3, rfl, by decide +kernel, by decide, by decide +kernel⟩
set_option maxRecDepth 20000 in
theorem fX4_takeClosing_34 : FL wsX4_takeClosing RX4 34 9 5 := ⟨RX9, TX9, 8, rfl, by decide +kernel, by decide, by decide +kernel⟩
def s_X4_takeClosing (en : Nat) (x : Nat) (bf : Nat → Int32) : Int32 := if (kX en bf x) = 41 then 1 else (0)
set_option maxHeartbeats 600000 in
set_option maxRecDepth 100000 in
theorem c_X4_takeClosing (l : Launch) (D : va_G) (cB cI cJ : ClassId) (ad : Nat → Nat) (n : Nat) (M : Nat → va_E) (hI : ipI ad n) (rd ta h en x : Nat) (ln nu ft : Int32) (bf : Nat → Int32) (h_ta : ta < n) (h_ta_1 : ta + 1 < n) (h_rd : rd < n) (m_ta : M ta = .inr (9, tapeX ad ta ln en bf x nu)) (m_ta_1 : M (ta + 1) = .inl (cB, 700, .inl bf)) (m_rd : M rd = .inr (4, [.ref (ad ta), .ref (ad h), .int ft])) (hxe : x ≤ en) (hen : en ≤ 700) (srt : rd < ta ∨ ta + 1 < rd) : cWi l D cB cI cJ ad n M yX4_takeClosing wsX4_takeClosing 6 132 [.ref (ad rd)] (fun r M' => ∃ (v0 : Int32), r = s_X4_takeClosing en x bf ∧ M' ta = .inr (9, tapeX ad ta ln en bf (pk0 (s_X4_takeClosing en x bf) x (nX en bf x)) v0) ∧ M' rd = .inr (4, [.ref (ad ta), .ref (ad h), .int (pk0 (s_X4_takeClosing en x bf) 1 ft)]) ∧ ∀ q : Nat, q ≠ ta → q ≠ rd → M' q = M q) := by
  refine q_body (cc := cX4_takeClosing) (maxL := 1) (ret := (some .boolean)) (by decide) rfl (Nat.le_of_ble_eq_true rfl) ?_
  intro p e s m args below meth c ls X hr hlocks hK hP hl
  obtain ⟨hx, hb, hml, hown, hts⟩ := id X
  have hS : va_S (ipA ad n) s.heap s.heap [] := va_S.rf
  have hl : lv_has ls 1 [(0, .ref (ad rd))] := hl
  refine lv_aload_n hx hb dX4_takeClosing_0 rfl (lv_at hl 0 rfl) ?_
  refine q_get (v := .ref (ad ta)) (fs := [.ref (ad ta), .ref (ad h), .int ft]) X hK hP fX4_takeClosing_9 h_rd m_rd rfl dX4_takeClosing_1 ?_
  refine q_get (v := .int (kX en bf x)) (fs := tapeX ad ta ln en bf x nu) X hK hP fX4_takeClosing_34 h_ta m_ta rfl dX4_takeClosing_4 ?_
  refine lv_bipush (v := 41) hx hb dX4_takeClosing_7 (by decide) ?_
  refine lv_icmp_eq (tgt := 18) hx hb dX4_takeClosing_9 (by decide) (fun c_9 => ?_) (fun c_9 => ?_)
  · skip
    refine lv_aload_n hx hb dX4_takeClosing_18 rfl (lv_at hl 0 rfl) ?_
    refine q_get (v := .ref (ad ta)) (fs := [.ref (ad ta), .ref (ad h), .int ft]) X hK hP fX4_takeClosing_9 h_rd m_rd rfl dX4_takeClosing_19 ?_
    refine q_wrVv (As := []) (rest := []) (c_X9_adv l D cB cI cJ ad n M hI ta en x ln nu bf h_ta h_ta_1 m_ta m_ta_1 hxe hen) X hK hP hS hl.1 rfl gX4_takeClosing_X9_advance yd_X9_advance ⟨Nat.le_of_ble_eq_true rfl, Nat.le_of_ble_eq_true rfl⟩ h_ta m_ta (ci := 9) rfl rfl (Nat.le_of_ble_eq_true rfl) ⟨Nat.zero_le _, Nat.zero_le _⟩ dX4_takeClosing_22 (fun M2 H locs hp1 hP hS => ?_)
    obtain ⟨g4, fr5⟩ := hp1
    refine lv_iconst (v := 1) hx hb dX4_takeClosing_25 (by decide) ?_
    exact q_wzret X hr hlocks hP hS (rfl) ⟨(uX en bf x nu), (by rw [s_X4_takeClosing, if_pos c_9]), (by refine g4.trans ?_; rw [s_X4_takeClosing, if_pos c_9]; simp only [pk0_z, pk0_o]), (by refine ((fr5 rd (by omega)).trans m_rd).trans ?_; rw [s_X4_takeClosing, if_pos c_9]; simp only [pk0_z, pk0_o]), (fun q n0 n1 => (fr5 q n0))⟩ dX4_takeClosing_26
  · skip
    refine lv_aload_n hx hb dX4_takeClosing_12 rfl (lv_at hl 0 rfl) ?_
    refine lv_iconst (v := 1) hx hb dX4_takeClosing_13 (by decide) ?_
    refine q_wrVi (As := [.int 1]) (rest := []) (c_X4_refuse l D cB cI cJ ad n M hI rd ta h en x ln nu ft bf 1 h_ta h_ta_1 h_rd m_ta m_ta_1 m_rd hxe hen srt) X hK hP hS hl.1 rfl gX4_takeClosing_X4_refuse yd_X4_refuse ⟨Nat.le_of_ble_eq_true rfl, Nat.le_of_ble_eq_true rfl⟩ h_rd m_rd (ci := 4) rfl rfl (Nat.le_of_ble_eq_true rfl) ⟨Nat.zero_le _, Nat.zero_le _⟩ dX4_takeClosing_14 (fun r8 M7 H locs hp6 hP hS => ?_)
    obtain ⟨rfl, g9, fr10⟩ := hp6
    exact q_wzret X hr hlocks hP hS (rfl) ⟨nu, (by rw [s_X4_takeClosing, if_neg c_9]), (by refine ((fr10 ta (by omega)).trans m_ta).trans ?_; rw [s_X4_takeClosing, if_neg c_9]; simp only [pk0_z, pk0_o]), (by refine g9.trans ?_; rw [s_X4_takeClosing, if_neg c_9]; simp only [pk0_z, pk0_o]), (fun q n0 n1 => (fr10 q n1))⟩ dX4_takeClosing_17
theorem tcl_t {en : Nat} {bf : Nat → Int32} {x : Nat} (h : s_X4_takeClosing en x bf = 0) : ¬ kX en bf x = 41 := fun q => by rw [s_X4_takeClosing, if_pos q] at h; exact absurd h (by decide)
theorem tcl_f {en : Nat} {bf : Nat → Int32} {x : Nat} (h : ¬ s_X4_takeClosing en x bf = 0) : kX en bf x = 41 := Classical.byContradiction fun q => h (by rw [s_X4_takeClosing, if_neg q])
set_option maxRecDepth 20000 in
theorem fX4_put_15 : FL wsX4_put RX4 15 4 1 := ⟨RX4, TX4, 3, rfl, by decide +kernel, by decide, by decide +kernel⟩
set_option maxRecDepth 20000 in
theorem fX4_put_170 : FL wsX4_put RX4 170 0 4 := ⟨RX0, TX0, 12, rfl, by decide +kernel, by decide, by decide +kernel⟩
theorem yd_X5_append : YD yX5_append 1 := ⟨by decide +kernel, by decide +kernel, by decide +kernel⟩
set_option maxHeartbeats 600000 in
set_option maxRecDepth 100000 in
theorem c_X4_put (l : Launch) (D : va_G) (cB cI cJ : ClassId) (ad : Nat → Nat) (n : Nat) (M : Nat → va_E) (hI : ipI ad n) (rd ta h en x : Nat) (ln nu ft : Int32) (bf : Nat → Int32) (hv : Nat → Int32) (td hg : Int32) (c0 : Nat → Int32) (cs : List Int32) (z : Int32) (h_ta : ta < n) (h_ta_1 : ta + 1 < n) (h_rd : rd < n) (h_h : h < n) (h_h_9 : h + 9 < n) (h_h_10 : h + 10 < n) (h_h_11 : h + 11 < n) (m_ta : M ta = .inr (9, tapeX ad ta ln en bf x nu)) (m_ta_1 : M (ta + 1) = .inl (cB, 700, .inl bf)) (m_rd : M rd = .inr (4, [.ref (ad ta), .ref (ad h), .int ft])) (m_h : M h = .inr (0, hallF ad h hv)) (m_h_9 : M (h + 9) = .inr (5, ruleF ad (h + 9) (nI cs.length) td hg)) (m_h_10 : M (h + 10) = .inr (8, [.int 1, .ref (ad (h + 9 + 2))])) (m_h_11 : M (h + 11) = .inl (cI, 700, .inl (layC cs c0))) (hxe : x ≤ en) (hen : en ≤ 700) (srt : rd < ta ∨ ta + 1 < rd) (srh : rd < h ∨ h + 15 < rd) (sth : ta + 1 < h ∨ h + 15 < ta) (hc7 : cs.length < 700) : cWi l D cB cI cJ ad n M yX4_put wsX4_put 2 43 [.ref (ad rd), .int z] (fun r M' => r = 1 ∧ M' (h + 9) = .inr (5, ruleF ad (h + 9) (nI (cs ++ [z]).length) td hg) ∧ M' (h + 11) = .inl (cI, 700, .inl (layC (cs ++ [z]) c0)) ∧ ∀ q : Nat, q ≠ h + 9 → q ≠ h + 11 → M' q = M q) := by
  refine q_body (cc := cX4_put) (maxL := 2) (ret := (some .boolean)) (by decide) rfl (Nat.le_of_ble_eq_true rfl) ?_
  intro p e s m args below meth c ls X hr hlocks hK hP hl
  obtain ⟨hx, hb, hml, hown, hts⟩ := id X
  have hS : va_S (ipA ad n) s.heap s.heap [] := va_S.rf
  have hl : lv_has ls 2 [(0, .ref (ad rd)), (1, .int z)] := hl
  refine lv_aload_n hx hb dX4_put_0 rfl (lv_at hl 0 rfl) ?_
  refine q_get (v := .ref (ad h)) (fs := [.ref (ad ta), .ref (ad h), .int ft]) X hK hP fX4_put_15 h_rd m_rd rfl dX4_put_1 ?_
  refine q_get (v := .ref (ad (h + 9))) (fs := hallF ad h hv) X hK hP fX4_put_170 h_h m_h rfl dX4_put_4 ?_
  refine lv_iload_n hx hb dX4_put_7 rfl (lv_at hl 1 rfl) ?_
  refine q_wrVv (As := [.int z]) (rest := []) (c_X5_append l D cB cI cJ ad n M hI (h + 9) (nI cs.length) td hg z (layC cs c0) h_h_9 h_h_10 h_h_11 m_h_9 m_h_10 m_h_11 ) X hK hP hS hl.1 rfl gX4_put_X5_append yd_X5_append ⟨Nat.le_of_ble_eq_true rfl, Nat.le_of_ble_eq_true rfl⟩ h_h_9 m_h_9 (ci := 5) rfl rfl (Nat.le_of_ble_eq_true rfl) ⟨Nat.zero_le _, Nat.zero_le _⟩ dX4_put_8 (fun M2 H locs hp1 hP hS => ?_)
  obtain ⟨g4, g5, fr6⟩ := hp1
  refine lv_iconst (v := 1) hx hb dX4_put_11 (by decide) ?_
  exact q_wzret X hr hlocks hP hS (rfl) ⟨(by rfl), (by refine g5.trans ?_; rw [len_put]), (by refine g4.trans ?_; rw [layC_put hc7]), (fun q n0 n1 => (fr6 q n1 n0))⟩ dX4_put_12
set_option maxRecDepth 20000 in
theorem fX4_take_9 : FL wsX4_take RX4 9 4 0 := ⟨RX4, TX4, 3, rfl, by decide +kernel, by decide, by decide +kernel⟩
theorem yd_X4_put : YD yX4_put 1 := ⟨by decide +kernel, by decide +kernel, by decide +kernel⟩
set_option maxHeartbeats 600000 in
set_option maxRecDepth 100000 in
theorem c_X4_take (l : Launch) (D : va_G) (cB cI cJ : ClassId) (ad : Nat → Nat) (n : Nat) (M : Nat → va_E) (hI : ipI ad n) (rd ta h en x : Nat) (ln nu ft : Int32) (bf : Nat → Int32) (hv : Nat → Int32) (td hg : Int32) (c0 : Nat → Int32) (cs : List Int32) (z : Int32) (h_ta : ta < n) (h_ta_1 : ta + 1 < n) (h_rd : rd < n) (h_h : h < n) (h_h_9 : h + 9 < n) (h_h_10 : h + 10 < n) (h_h_11 : h + 11 < n) (m_ta : M ta = .inr (9, tapeX ad ta ln en bf x nu)) (m_ta_1 : M (ta + 1) = .inl (cB, 700, .inl bf)) (m_rd : M rd = .inr (4, [.ref (ad ta), .ref (ad h), .int ft])) (m_h : M h = .inr (0, hallF ad h hv)) (m_h_9 : M (h + 9) = .inr (5, ruleF ad (h + 9) (nI cs.length) td hg)) (m_h_10 : M (h + 10) = .inr (8, [.int 1, .ref (ad (h + 9 + 2))])) (m_h_11 : M (h + 11) = .inl (cI, 700, .inl (layC cs c0))) (hxe : x ≤ en) (hen : en ≤ 700) (srt : rd < ta ∨ ta + 1 < rd) (srh : rd < h ∨ h + 15 < rd) (sth : ta + 1 < h ∨ h + 15 < ta) (hc7 : cs.length < 700) : cWi l D cB cI cJ ad n M yX4_take wsX4_take 6 132 [.ref (ad rd), .int z] (fun r M' => r = 1 ∧ M' ta = .inr (9, tapeX ad ta ln en bf (nX en bf x) (uX en bf x nu)) ∧ M' (h + 9) = .inr (5, ruleF ad (h + 9) (nI (cs ++ [z]).length) td hg) ∧ M' (h + 11) = .inl (cI, 700, .inl (layC (cs ++ [z]) c0)) ∧ ∀ q : Nat, q ≠ ta → q ≠ h + 9 → q ≠ h + 11 → M' q = M q) := by
  refine q_body (cc := cX4_take) (maxL := 2) (ret := (some .boolean)) (by decide) rfl (Nat.le_of_ble_eq_true rfl) ?_
  intro p e s m args below meth c ls X hr hlocks hK hP hl
  obtain ⟨hx, hb, hml, hown, hts⟩ := id X
  have hS : va_S (ipA ad n) s.heap s.heap [] := va_S.rf
  have hl : lv_has ls 2 [(0, .ref (ad rd)), (1, .int z)] := hl
  refine lv_aload_n hx hb dX4_take_0 rfl (lv_at hl 0 rfl) ?_
  refine q_get (v := .ref (ad ta)) (fs := [.ref (ad ta), .ref (ad h), .int ft]) X hK hP fX4_take_9 h_rd m_rd rfl dX4_take_1 ?_
  refine q_wrVv (As := []) (rest := []) (c_X9_adv l D cB cI cJ ad n M hI ta en x ln nu bf h_ta h_ta_1 m_ta m_ta_1 hxe hen) X hK hP hS hl.1 rfl gX4_take_X9_advance yd_X9_advance ⟨Nat.le_of_ble_eq_true rfl, Nat.le_of_ble_eq_true rfl⟩ h_ta m_ta (ci := 9) rfl rfl (Nat.le_of_ble_eq_true rfl) ⟨Nat.zero_le _, Nat.zero_le _⟩ dX4_take_4 (fun M2 H locs hp1 hP hS => ?_)
  obtain ⟨g4, fr5⟩ := hp1
  refine lv_aload_n hx hb dX4_take_7 rfl (lv_at hl 0 rfl) ?_
  refine lv_iload_n hx hb dX4_take_8 rfl (lv_at hl 1 rfl) ?_
  refine q_wrVi (As := [.int z]) (rest := []) (c_X4_put l D cB cI cJ ad n M2 hI rd ta h en (nX en bf x) ln (uX en bf x nu) ft bf hv td hg c0 cs z h_ta h_ta_1 h_rd h_h h_h_9 h_h_10 h_h_11 g4 ((fr5 (ta + 1) (by omega)).trans m_ta_1) ((fr5 rd (by omega)).trans m_rd) ((fr5 h (by omega)).trans m_h) ((fr5 (h + 9) (by omega)).trans m_h_9) ((fr5 (h + 10) (by omega)).trans m_h_10) ((fr5 (h + 11) (by omega)).trans m_h_11) (by first | omega | assumption | (apply nX_le <;> (repeat' (first | assumption | apply nX_le))) | (repeat' (first | assumption | apply nX_le | exact isN_k (by assumption) | exact isT_k (by assumption))) | exact vp_in_nI (by omega) (by decide)) hen srt srh sth hc7) X hK hP hS hl.1 rfl gX4_take_X4_put yd_X4_put ⟨Nat.le_of_ble_eq_true rfl, Nat.le_of_ble_eq_true rfl⟩ h_rd ((fr5 rd (by omega)).trans m_rd) (ci := 4) rfl rfl (Nat.le_of_ble_eq_true rfl) ⟨Nat.zero_le _, Nat.zero_le _⟩ dX4_take_9 (fun r8 M7 H locs hp6 hP hS => ?_)
  obtain ⟨rfl, g9, g10, fr11⟩ := hp6
  exact q_wzret X hr hlocks hP hS (rfl) ⟨(by rfl), ((fr11 ta (by omega) (by omega)).trans g4), g9, g10, (fun q n0 n1 n2 => ((fr11 q n1 n2).trans (fr5 q n0)))⟩ dX4_take_12
def eCon (l : Launch) (D : va_G) (cB cI cJ : ClassId) (ad : Nat → Nat) (n : Nat) (y : MethodName) (ws : List Cond) (fE lE : Nat) (rd ta h en : Nat) (ln : Int32) (bf hv : Nat → Int32) (td hg : Int32) (c0 : Nat → Int32) (dp : Int32) (E : Nat → List Int32 → Int32 × Nat × List Int32) : Prop := ∀ (M : Nat → va_E) (_ : ipI ad n) (x : Nat) (cs : List Int32) (nu ft : Int32) (_ : ta < n) (_ : ta + 1 < n) (_ : rd < n) (_ : h < n) (_ : h + 9 < n) (_ : h + 10 < n) (_ : h + 11 < n) (_ : M ta = .inr (9, tapeX ad ta ln en bf x nu)) (_ : M (ta + 1) = .inl (cB, 700, .inl bf)) (_ : M rd = .inr (4, [.ref (ad ta), .ref (ad h), .int ft])) (_ : M h = .inr (0, hallF ad h hv)) (_ : M (h + 9) = .inr (5, ruleF ad (h + 9) (nI cs.length) td hg)) (_ : M (h + 10) = .inr (8, [.int 1, .ref (ad (h + 9 + 2))])) (_ : M (h + 11) = .inl (cI, 700, .inl (layC cs c0))) (_ : x ≤ en) (_ : en ≤ 700) (_ : rd < ta ∨ ta + 1 < rd) (_ : rd < h ∨ h + 15 < rd) (_ : ta + 1 < h ∨ h + 15 < ta) (_ : cs.length ≤ x), cWi l D cB cI cJ ad n M y ws fE lE [.ref (ad rd), .int dp] (fun r M' => ∃ (v0 : Int32), r = okI (E x cs).1 ∧ M' ta = .inr (9, tapeX ad ta ln en bf ((E x cs).2.1) v0) ∧ M' rd = .inr (4, [.ref (ad ta), .ref (ad h), .int (flt ft (E x cs).1)]) ∧ M' (h + 9) = .inr (5, ruleF ad (h + 9) (nI (E x cs).2.2.length) td hg) ∧ M' (h + 11) = .inl (cI, 700, .inl (layC (E x cs).2.2 c0)) ∧ ∀ q : Nat, q ≠ ta → q ≠ rd → q ≠ h + 9 → q ≠ h + 11 → M' q = M q)
set_option maxRecDepth 20000 in
theorem fX4_readPart_9 : FL wsX4_readPart RX4 9 4 0 := ⟨RX4, TX4, 3, rfl, by decide +kernel, by decide, by decide +kernel⟩
set_option maxRecDepth 20000 in
theorem fX4_readPart_34 : FL wsX4_readPart RX4 34 9 5 := ⟨RX9, TX9, 8, rfl, by decide +kernel, by decide, by decide +kernel⟩
set_option maxRecDepth 20000 in
theorem fX4_readPart_44 : FL wsX4_readPart RX4 44 9 7 := ⟨RX9, TX9, 8, rfl, by decide +kernel, by decide, by decide +kernel⟩
theorem yd_X4_take : YD yX4_take 1 := ⟨by decide +kernel, by decide +kernel, by decide +kernel⟩
set_option maxRecDepth 20000 in
theorem fX4_readPart_93 : FL wsX4_readPart RX4 93 9 6 := ⟨RX9, TX9, 8, rfl, by decide +kernel, by decide, by decide +kernel⟩
theorem yd_X4_readExpr : YD yX4_readExpr 1 := ⟨by decide +kernel, by decide +kernel, by decide +kernel⟩
theorem yd_X4_takeClosing : YD yX4_takeClosing 0 := ⟨by decide +kernel, by decide +kernel, by decide +kernel⟩
set_option maxHeartbeats 600000 in
set_option maxRecDepth 100000 in
theorem c_X4_readPart (l : Launch) (D : va_G) (cB cI cJ : ClassId) (ad : Nat → Nat) (n : Nat) (M : Nat → va_E) (hI : ipI ad n) (rd ta h en x : Nat) (ln nu ft : Int32) (bf : Nat → Int32) (hv : Nat → Int32) (td hg : Int32) (c0 : Nat → Int32) (cs : List Int32) (fE lE : Nat) (E : Nat → List Int32 → Int32 × Nat × List Int32) (dp : Int32) (h_ta : ta < n) (h_ta_1 : ta + 1 < n) (h_rd : rd < n) (h_h : h < n) (h_h_9 : h + 9 < n) (h_h_10 : h + 10 < n) (h_h_11 : h + 11 < n) (m_ta : M ta = .inr (9, tapeX ad ta ln en bf x nu)) (m_ta_1 : M (ta + 1) = .inl (cB, 700, .inl bf)) (m_rd : M rd = .inr (4, [.ref (ad ta), .ref (ad h), .int ft])) (m_h : M h = .inr (0, hallF ad h hv)) (m_h_9 : M (h + 9) = .inr (5, ruleF ad (h + 9) (nI cs.length) td hg)) (m_h_10 : M (h + 10) = .inr (8, [.int 1, .ref (ad (h + 9 + 2))])) (m_h_11 : M (h + 11) = .inl (cI, 700, .inl (layC cs c0))) (hxe : x ≤ en) (hen : en ≤ 700) (srt : rd < ta ∨ ta + 1 < rd) (srh : rd < h ∨ h + 15 < rd) (sth : ta + 1 < h ∨ h + 15 < ta) (hcx : cs.length ≤ x) (hEB : eB en E) (hfE : 10 ≤ fE) (hlE : 200 ≤ lE) (hE : eCon l D cB cI cJ ad n yX4_readExpr wsX4_readExpr fE lE rd ta h en ln bf hv td hg c0 (dp + 1) E) : cWi l D cB cI cJ ad n M yX4_readPart wsX4_readPart (fE + 1) (lE + 23) [.ref (ad rd), .int dp] (fun r M' => ∃ (v0 : Int32), r = okI (ePart en bf E x cs).1 ∧ M' ta = .inr (9, tapeX ad ta ln en bf ((ePart en bf E x cs).2.1) v0) ∧ M' rd = .inr (4, [.ref (ad ta), .ref (ad h), .int (flt ft (ePart en bf E x cs).1)]) ∧ M' (h + 9) = .inr (5, ruleF ad (h + 9) (nI (ePart en bf E x cs).2.2.length) td hg) ∧ M' (h + 11) = .inl (cI, 700, .inl (layC (ePart en bf E x cs).2.2 c0)) ∧ ∀ q : Nat, q ≠ ta → q ≠ rd → q ≠ h + 9 → q ≠ h + 11 → M' q = M q) := by
  refine q_body (cc := cX4_readPart) (maxL := 3) (ret := (some .boolean)) (by decide) rfl (Nat.le_of_ble_eq_true rfl) ?_
  intro p e s m args below meth c ls X hr hlocks hK hP hl
  obtain ⟨hx, hb, hml, hown, hts⟩ := id X
  have hS : va_S (ipA ad n) s.heap s.heap [] := va_S.rf
  have hl : lv_has ls 3 [(0, .ref (ad rd)), (1, .int dp)] := hl
  refine lv_aload_n hx hb dX4_readPart_0 rfl (lv_at hl 0 rfl) ?_
  refine q_get (v := .ref (ad ta)) (fs := [.ref (ad ta), .ref (ad h), .int ft]) X hK hP fX4_readPart_9 h_rd m_rd rfl dX4_readPart_1 ?_
  refine q_get (v := .int (kX en bf x)) (fs := tapeX ad ta ln en bf x nu) X hK hP fX4_readPart_34 h_ta m_ta rfl dX4_readPart_4 ?_
  by_cases c_7_0 : (kX en bf x) = 1
  · refine lv_lookup (off := 66) (tgt := 73) hx hb dX4_readPart_7 (by decide) (by rw [c_7_0]; decide) (by decide) ?_
    have hgt := nX_gt hxe hen (by rw [c_7_0]; decide : ¬ kX en bf x = 0); have hle := nX_le (bf := bf) hxe hen
    refine lv_aload_n hx hb dX4_readPart_73 rfl (lv_at hl 0 rfl) ?_
    refine q_get (v := .ref (ad ta)) (fs := [.ref (ad ta), .ref (ad h), .int ft]) X hK hP fX4_readPart_9 h_rd m_rd rfl dX4_readPart_74 ?_
    refine q_get (v := .ref (ad (1000 + (wX en bf x)))) (fs := tapeX ad ta ln en bf x nu) X hK hP fX4_readPart_44 h_ta m_ta rfl dX4_readPart_77 ?_
    refine q_getV (i := (wX en bf x)) X hK hS (by first | omega | assumption | exact fwS_lt .. | exact wX_lt ..) (by decide +kernel) dX4_readPart_80 ?_
    refine lv_istore_n (lv' := [(2, .int (wVl.getD (wX en bf x) 0)), (0, .ref (ad rd)), (1, .int dp)]) hx hb dX4_readPart_83 rfl hl (by decide) rfl (fun ls hl => ?_)
    refine lv_iload_n hx hb dX4_readPart_84 rfl (lv_at hl 0 rfl) ?_
    refine lv_iconst (v := (-1)) hx hb dX4_readPart_85 (by decide) ?_
    refine lv_icmp_eq (tgt := 99) hx hb dX4_readPart_86 (by decide) (fun c_86 => ?_) (fun c_86 => ?_)
    · skip
      refine lv_aload_n hx hb dX4_readPart_99 rfl (lv_at hl 1 rfl) ?_
      refine lv_iconst (v := 3) hx hb dX4_readPart_100 (by decide) ?_
      refine q_wrVi (As := [.int 3]) (rest := []) (c_X4_refuse l D cB cI cJ ad n M hI rd ta h en x ln nu ft bf 3 h_ta h_ta_1 h_rd m_ta m_ta_1 m_rd hxe hen srt) X hK hP hS hl.1 rfl gX4_readPart_X4_refuse yd_X4_refuse ⟨by show 0 + 1 ≤ fE + 1; omega, by show 8 + (2 + 11) + (0) ≤ lE + 23; omega⟩ h_rd m_rd (ci := 4) rfl rfl (Nat.le_of_ble_eq_true rfl) ⟨Nat.zero_le _, Nat.zero_le _⟩ dX4_readPart_101 (fun r3 M2 H locs hp1 hP hS => ?_)
      obtain ⟨rfl, g4, fr5⟩ := hp1
      exact q_wzret X hr hlocks hP hS (rfl) ⟨nu, (by first | (rw [ePart, if_pos c_7_0, wV, if_pos c_86]; done) | (rw [ePart, if_pos c_7_0, wV, if_neg c_86]; done) | (rw [ePart, if_pos c_7_0, wV, if_pos c_86]; simp only [flt_z, flt_o, flt_w, flt_h, okI_zz, okI_oo, okI_ww, okI_hh]; done) | (rw [ePart, if_pos c_7_0, wV, if_neg c_86]; simp only [flt_z, flt_o, flt_w, flt_h, okI_zz, okI_oo, okI_ww, okI_hh]; done)), (by refine ((fr5 ta (by omega)).trans m_ta).trans ?_; first | (rw [ePart, if_pos c_7_0, wV, if_pos c_86]; done) | (rw [ePart, if_pos c_7_0, wV, if_neg c_86]; done) | (rw [ePart, if_pos c_7_0, wV, if_pos c_86]; simp only [flt_z, flt_o, flt_w, flt_h, okI_zz, okI_oo, okI_ww, okI_hh]; done) | (rw [ePart, if_pos c_7_0, wV, if_neg c_86]; simp only [flt_z, flt_o, flt_w, flt_h, okI_zz, okI_oo, okI_ww, okI_hh]; done)), (by refine g4.trans ?_; first | (rw [ePart, if_pos c_7_0, wV, if_pos c_86]; done) | (rw [ePart, if_pos c_7_0, wV, if_neg c_86]; done) | (rw [ePart, if_pos c_7_0, wV, if_pos c_86]; simp only [flt_z, flt_o, flt_w, flt_h, okI_zz, okI_oo, okI_ww, okI_hh]; done) | (rw [ePart, if_pos c_7_0, wV, if_neg c_86]; simp only [flt_z, flt_o, flt_w, flt_h, okI_zz, okI_oo, okI_ww, okI_hh]; done)), (by refine ((fr5 (h + 9) (by omega)).trans m_h_9).trans ?_; first | (rw [ePart, if_pos c_7_0, wV, if_pos c_86]; done) | (rw [ePart, if_pos c_7_0, wV, if_neg c_86]; done) | (rw [ePart, if_pos c_7_0, wV, if_pos c_86]; simp only [flt_z, flt_o, flt_w, flt_h, okI_zz, okI_oo, okI_ww, okI_hh]; done) | (rw [ePart, if_pos c_7_0, wV, if_neg c_86]; simp only [flt_z, flt_o, flt_w, flt_h, okI_zz, okI_oo, okI_ww, okI_hh]; done)), (by refine ((fr5 (h + 11) (by omega)).trans m_h_11).trans ?_; first | (rw [ePart, if_pos c_7_0, wV, if_pos c_86]; done) | (rw [ePart, if_pos c_7_0, wV, if_neg c_86]; done) | (rw [ePart, if_pos c_7_0, wV, if_pos c_86]; simp only [flt_z, flt_o, flt_w, flt_h, okI_zz, okI_oo, okI_ww, okI_hh]; done) | (rw [ePart, if_pos c_7_0, wV, if_neg c_86]; simp only [flt_z, flt_o, flt_w, flt_h, okI_zz, okI_oo, okI_ww, okI_hh]; done)), (fun q n0 n1 n2 n3 => (fr5 q n1))⟩ dX4_readPart_104
    · skip
      refine lv_aload_n hx hb dX4_readPart_89 rfl (lv_at hl 1 rfl) ?_
      refine lv_iconst (v := (-1)) hx hb dX4_readPart_90 (by decide) ?_
      refine lv_iload_n hx hb dX4_readPart_91 rfl (lv_at hl 0 rfl) ?_
      refine lv_isub hx hb dX4_readPart_92 ?_
      refine q_wrVi (As := [.int ((-1) - (wVl.getD (wX en bf x) 0))]) (rest := []) (c_X4_take l D cB cI cJ ad n M hI rd ta h en x ln nu ft bf hv td hg c0 cs ((-1) - (wVl.getD (wX en bf x) 0)) h_ta h_ta_1 h_rd h_h h_h_9 h_h_10 h_h_11 m_ta m_ta_1 m_rd m_h m_h_9 m_h_10 m_h_11 hxe hen srt srh sth (by first | omega | assumption | (apply nX_le <;> (repeat' (first | assumption | apply nX_le))) | (repeat' (first | assumption | apply nX_le | exact isN_k (by assumption) | exact isT_k (by assumption))) | exact vp_in_nI (by omega) (by decide))) X hK hP hS hl.1 rfl gX4_readPart_X4_take yd_X4_take ⟨by show 6 + 1 ≤ fE + 1; omega, by show 8 + (2 + 11) + (132) ≤ lE + 23; omega⟩ h_rd m_rd (ci := 4) rfl rfl (Nat.le_of_ble_eq_true rfl) ⟨Nat.zero_le _, Nat.zero_le _⟩ dX4_readPart_93 (fun r8 M7 H locs hp6 hP hS => ?_)
      obtain ⟨rfl, g9, g10, g11, fr12⟩ := hp6
      refine lv_goto (tgt := 104) hx hb dX4_readPart_96 (by decide) ?_
      exact q_wzret X hr hlocks hP hS (rfl) ⟨(uX en bf x nu), (by first | (rw [ePart, if_pos c_7_0, wV, if_pos c_86]; done) | (rw [ePart, if_pos c_7_0, wV, if_neg c_86]; done) | (rw [ePart, if_pos c_7_0, wV, if_pos c_86]; simp only [flt_z, flt_o, flt_w, flt_h, okI_zz, okI_oo, okI_ww, okI_hh]; done) | (rw [ePart, if_pos c_7_0, wV, if_neg c_86]; simp only [flt_z, flt_o, flt_w, flt_h, okI_zz, okI_oo, okI_ww, okI_hh]; done)), (by refine g9.trans ?_; first | (rw [ePart, if_pos c_7_0, wV, if_pos c_86]; done) | (rw [ePart, if_pos c_7_0, wV, if_neg c_86]; done) | (rw [ePart, if_pos c_7_0, wV, if_pos c_86]; simp only [flt_z, flt_o, flt_w, flt_h, okI_zz, okI_oo, okI_ww, okI_hh]; done) | (rw [ePart, if_pos c_7_0, wV, if_neg c_86]; simp only [flt_z, flt_o, flt_w, flt_h, okI_zz, okI_oo, okI_ww, okI_hh]; done)), (by refine ((fr12 rd (by omega) (by omega) (by omega)).trans m_rd).trans ?_; first | (rw [ePart, if_pos c_7_0, wV, if_pos c_86]; done) | (rw [ePart, if_pos c_7_0, wV, if_neg c_86]; done) | (rw [ePart, if_pos c_7_0, wV, if_pos c_86]; simp only [flt_z, flt_o, flt_w, flt_h, okI_zz, okI_oo, okI_ww, okI_hh]; done) | (rw [ePart, if_pos c_7_0, wV, if_neg c_86]; simp only [flt_z, flt_o, flt_w, flt_h, okI_zz, okI_oo, okI_ww, okI_hh]; done)), (by refine g10.trans ?_; first | (rw [ePart, if_pos c_7_0, wV, if_pos c_86]; done) | (rw [ePart, if_pos c_7_0, wV, if_neg c_86]; done) | (rw [ePart, if_pos c_7_0, wV, if_pos c_86]; simp only [flt_z, flt_o, flt_w, flt_h, okI_zz, okI_oo, okI_ww, okI_hh]; done) | (rw [ePart, if_pos c_7_0, wV, if_neg c_86]; simp only [flt_z, flt_o, flt_w, flt_h, okI_zz, okI_oo, okI_ww, okI_hh]; done)), (by refine g11.trans ?_; first | (rw [ePart, if_pos c_7_0, wV, if_pos c_86]; done) | (rw [ePart, if_pos c_7_0, wV, if_neg c_86]; done) | (rw [ePart, if_pos c_7_0, wV, if_pos c_86]; simp only [flt_z, flt_o, flt_w, flt_h, okI_zz, okI_oo, okI_ww, okI_hh]; done) | (rw [ePart, if_pos c_7_0, wV, if_neg c_86]; simp only [flt_z, flt_o, flt_w, flt_h, okI_zz, okI_oo, okI_ww, okI_hh]; done)), (fun q n0 n1 n2 n3 => (fr12 q n0 n2 n3))⟩ dX4_readPart_104
  by_cases c_7_1 : (kX en bf x) = 2
  · refine lv_lookup (off := 33) (tgt := 40) hx hb dX4_readPart_7 (by decide) (by rw [c_7_1]; decide) (by decide) ?_
    have hgt := nX_gt hxe hen (by rw [c_7_1]; decide : ¬ kX en bf x = 0); have hle := nX_le (bf := bf) hxe hen
    refine lv_aload_n hx hb dX4_readPart_40 rfl (lv_at hl 0 rfl) ?_
    refine q_get (v := .ref (ad ta)) (fs := [.ref (ad ta), .ref (ad h), .int ft]) X hK hP fX4_readPart_9 h_rd m_rd rfl dX4_readPart_41 ?_
    refine q_get (v := .int (uX en bf x nu)) (fs := tapeX ad ta ln en bf x nu) X hK hP fX4_readPart_93 h_ta m_ta rfl dX4_readPart_44 ?_
    refine lv_topi (fun z13 e14 => ?_)
    obtain rfl : z13 = (nmX en bf x) := e14.trans (uX_num c_7_1 : (uX en bf x nu) = (nmX en bf x))
    refine lv_sipush (v := 9999) hx hb dX4_readPart_47 (by decide) ?_
    refine lv_icmp_gt (tgt := 67) hx hb dX4_readPart_50 (by decide) (fun c_50 => ?_) (fun c_50 => ?_)
    · skip
      refine lv_aload_n hx hb dX4_readPart_67 rfl (lv_at hl 0 rfl) ?_
      refine lv_iconst (v := 2) hx hb dX4_readPart_68 (by decide) ?_
      refine q_wrVi (As := [.int 2]) (rest := []) (c_X4_refuse l D cB cI cJ ad n M hI rd ta h en x ln nu ft bf 2 h_ta h_ta_1 h_rd m_ta m_ta_1 m_rd hxe hen srt) X hK hP hS hl.1 rfl gX4_readPart_X4_refuse yd_X4_refuse ⟨by show 0 + 1 ≤ fE + 1; omega, by show 8 + (2 + 11) + (0) ≤ lE + 23; omega⟩ h_rd m_rd (ci := 4) rfl rfl (Nat.le_of_ble_eq_true rfl) ⟨Nat.zero_le _, Nat.zero_le _⟩ dX4_readPart_69 (fun r17 M16 H locs hp15 hP hS => ?_)
      obtain ⟨rfl, g18, fr19⟩ := hp15
      exact q_wzret X hr hlocks hP hS (rfl) ⟨nu, (by first | (rw [ePart, if_neg c_7_0, if_pos c_7_1, if_pos c_50]; done) | (rw [ePart, if_neg c_7_0, if_pos c_7_1, if_neg c_50]; done) | (rw [ePart, if_neg c_7_0, if_pos c_7_1, if_pos c_50]; simp only [flt_z, flt_o, flt_w, flt_h, okI_zz, okI_oo, okI_ww, okI_hh]; done) | (rw [ePart, if_neg c_7_0, if_pos c_7_1, if_neg c_50]; simp only [flt_z, flt_o, flt_w, flt_h, okI_zz, okI_oo, okI_ww, okI_hh]; done)), (by refine ((fr19 ta (by omega)).trans m_ta).trans ?_; first | (rw [ePart, if_neg c_7_0, if_pos c_7_1, if_pos c_50]; done) | (rw [ePart, if_neg c_7_0, if_pos c_7_1, if_neg c_50]; done) | (rw [ePart, if_neg c_7_0, if_pos c_7_1, if_pos c_50]; simp only [flt_z, flt_o, flt_w, flt_h, okI_zz, okI_oo, okI_ww, okI_hh]; done) | (rw [ePart, if_neg c_7_0, if_pos c_7_1, if_neg c_50]; simp only [flt_z, flt_o, flt_w, flt_h, okI_zz, okI_oo, okI_ww, okI_hh]; done)), (by refine g18.trans ?_; first | (rw [ePart, if_neg c_7_0, if_pos c_7_1, if_pos c_50]; done) | (rw [ePart, if_neg c_7_0, if_pos c_7_1, if_neg c_50]; done) | (rw [ePart, if_neg c_7_0, if_pos c_7_1, if_pos c_50]; simp only [flt_z, flt_o, flt_w, flt_h, okI_zz, okI_oo, okI_ww, okI_hh]; done) | (rw [ePart, if_neg c_7_0, if_pos c_7_1, if_neg c_50]; simp only [flt_z, flt_o, flt_w, flt_h, okI_zz, okI_oo, okI_ww, okI_hh]; done)), (by refine ((fr19 (h + 9) (by omega)).trans m_h_9).trans ?_; first | (rw [ePart, if_neg c_7_0, if_pos c_7_1, if_pos c_50]; done) | (rw [ePart, if_neg c_7_0, if_pos c_7_1, if_neg c_50]; done) | (rw [ePart, if_neg c_7_0, if_pos c_7_1, if_pos c_50]; simp only [flt_z, flt_o, flt_w, flt_h, okI_zz, okI_oo, okI_ww, okI_hh]; done) | (rw [ePart, if_neg c_7_0, if_pos c_7_1, if_neg c_50]; simp only [flt_z, flt_o, flt_w, flt_h, okI_zz, okI_oo, okI_ww, okI_hh]; done)), (by refine ((fr19 (h + 11) (by omega)).trans m_h_11).trans ?_; first | (rw [ePart, if_neg c_7_0, if_pos c_7_1, if_pos c_50]; done) | (rw [ePart, if_neg c_7_0, if_pos c_7_1, if_neg c_50]; done) | (rw [ePart, if_neg c_7_0, if_pos c_7_1, if_pos c_50]; simp only [flt_z, flt_o, flt_w, flt_h, okI_zz, okI_oo, okI_ww, okI_hh]; done) | (rw [ePart, if_neg c_7_0, if_pos c_7_1, if_neg c_50]; simp only [flt_z, flt_o, flt_w, flt_h, okI_zz, okI_oo, okI_ww, okI_hh]; done)), (fun q n0 n1 n2 n3 => (fr19 q n1))⟩ dX4_readPart_72
    · skip
      refine lv_aload_n hx hb dX4_readPart_53 rfl (lv_at hl 0 rfl) ?_
      refine lv_aload_n hx hb dX4_readPart_54 rfl (lv_at hl 0 rfl) ?_
      refine q_get (v := .ref (ad ta)) (fs := [.ref (ad ta), .ref (ad h), .int ft]) X hK hP fX4_readPart_9 h_rd m_rd rfl dX4_readPart_55 ?_
      refine q_get (v := .int (uX en bf x nu)) (fs := tapeX ad ta ln en bf x nu) X hK hP fX4_readPart_93 h_ta m_ta rfl dX4_readPart_58 ?_
      refine lv_topi (fun z20 e21 => ?_)
      obtain rfl : z20 = (nmX en bf x) := e21.trans (uX_num c_7_1 : (uX en bf x nu) = (nmX en bf x))
      refine q_wrVi (As := [.int (nmX en bf x)]) (rest := []) (c_X4_take l D cB cI cJ ad n M hI rd ta h en x ln nu ft bf hv td hg c0 cs (nmX en bf x) h_ta h_ta_1 h_rd h_h h_h_9 h_h_10 h_h_11 m_ta m_ta_1 m_rd m_h m_h_9 m_h_10 m_h_11 hxe hen srt srh sth (by first | omega | assumption | (apply nX_le <;> (repeat' (first | assumption | apply nX_le))) | (repeat' (first | assumption | apply nX_le | exact isN_k (by assumption) | exact isT_k (by assumption))) | exact vp_in_nI (by omega) (by decide))) X hK hP hS hl.1 rfl gX4_readPart_X4_take yd_X4_take ⟨by show 6 + 1 ≤ fE + 1; omega, by show 8 + (2 + 11) + (132) ≤ lE + 23; omega⟩ h_rd m_rd (ci := 4) rfl rfl (Nat.le_of_ble_eq_true rfl) ⟨Nat.zero_le _, Nat.zero_le _⟩ dX4_readPart_61 (fun r24 M23 H locs hp22 hP hS => ?_)
      obtain ⟨rfl, g25, g26, g27, fr28⟩ := hp22
      refine lv_goto (tgt := 72) hx hb dX4_readPart_64 (by decide) ?_
      exact q_wzret X hr hlocks hP hS (rfl) ⟨(uX en bf x nu), (by first | (rw [ePart, if_neg c_7_0, if_pos c_7_1, if_pos c_50]; done) | (rw [ePart, if_neg c_7_0, if_pos c_7_1, if_neg c_50]; done) | (rw [ePart, if_neg c_7_0, if_pos c_7_1, if_pos c_50]; simp only [flt_z, flt_o, flt_w, flt_h, okI_zz, okI_oo, okI_ww, okI_hh]; done) | (rw [ePart, if_neg c_7_0, if_pos c_7_1, if_neg c_50]; simp only [flt_z, flt_o, flt_w, flt_h, okI_zz, okI_oo, okI_ww, okI_hh]; done)), (by refine g25.trans ?_; first | (rw [ePart, if_neg c_7_0, if_pos c_7_1, if_pos c_50]; done) | (rw [ePart, if_neg c_7_0, if_pos c_7_1, if_neg c_50]; done) | (rw [ePart, if_neg c_7_0, if_pos c_7_1, if_pos c_50]; simp only [flt_z, flt_o, flt_w, flt_h, okI_zz, okI_oo, okI_ww, okI_hh]; done) | (rw [ePart, if_neg c_7_0, if_pos c_7_1, if_neg c_50]; simp only [flt_z, flt_o, flt_w, flt_h, okI_zz, okI_oo, okI_ww, okI_hh]; done)), (by refine ((fr28 rd (by omega) (by omega) (by omega)).trans m_rd).trans ?_; first | (rw [ePart, if_neg c_7_0, if_pos c_7_1, if_pos c_50]; done) | (rw [ePart, if_neg c_7_0, if_pos c_7_1, if_neg c_50]; done) | (rw [ePart, if_neg c_7_0, if_pos c_7_1, if_pos c_50]; simp only [flt_z, flt_o, flt_w, flt_h, okI_zz, okI_oo, okI_ww, okI_hh]; done) | (rw [ePart, if_neg c_7_0, if_pos c_7_1, if_neg c_50]; simp only [flt_z, flt_o, flt_w, flt_h, okI_zz, okI_oo, okI_ww, okI_hh]; done)), (by refine g26.trans ?_; first | (rw [ePart, if_neg c_7_0, if_pos c_7_1, if_pos c_50]; done) | (rw [ePart, if_neg c_7_0, if_pos c_7_1, if_neg c_50]; done) | (rw [ePart, if_neg c_7_0, if_pos c_7_1, if_pos c_50]; simp only [flt_z, flt_o, flt_w, flt_h, okI_zz, okI_oo, okI_ww, okI_hh]; done) | (rw [ePart, if_neg c_7_0, if_pos c_7_1, if_neg c_50]; simp only [flt_z, flt_o, flt_w, flt_h, okI_zz, okI_oo, okI_ww, okI_hh]; done)), (by refine g27.trans ?_; first | (rw [ePart, if_neg c_7_0, if_pos c_7_1, if_pos c_50]; done) | (rw [ePart, if_neg c_7_0, if_pos c_7_1, if_neg c_50]; done) | (rw [ePart, if_neg c_7_0, if_pos c_7_1, if_pos c_50]; simp only [flt_z, flt_o, flt_w, flt_h, okI_zz, okI_oo, okI_ww, okI_hh]; done) | (rw [ePart, if_neg c_7_0, if_pos c_7_1, if_neg c_50]; simp only [flt_z, flt_o, flt_w, flt_h, okI_zz, okI_oo, okI_ww, okI_hh]; done)), (fun q n0 n1 n2 n3 => (fr28 q n0 n2 n3))⟩ dX4_readPart_72
  by_cases c_7_2 : (kX en bf x) = 40
  · refine lv_lookup (off := 98) (tgt := 105) hx hb dX4_readPart_7 (by decide) (by rw [c_7_2]; decide) (by decide) ?_
    have hgt := nX_gt hxe hen (by rw [c_7_2]; decide : ¬ kX en bf x = 0); have hle := nX_le (bf := bf) hxe hen; have hbd := hEB (nX en bf x) cs hle
    refine lv_aload_n hx hb dX4_readPart_105 rfl (lv_at hl 0 rfl) ?_
    refine q_get (v := .ref (ad ta)) (fs := [.ref (ad ta), .ref (ad h), .int ft]) X hK hP fX4_readPart_9 h_rd m_rd rfl dX4_readPart_106 ?_
    refine q_wrVv (As := []) (rest := []) (c_X9_adv l D cB cI cJ ad n M hI ta en x ln nu bf h_ta h_ta_1 m_ta m_ta_1 hxe hen) X hK hP hS hl.1 rfl gX4_readPart_X9_advance yd_X9_advance ⟨by show 5 + 1 ≤ fE + 1; omega, by show 8 + (4 + 11) + (109) ≤ lE + 23; omega⟩ h_ta m_ta (ci := 9) rfl rfl (Nat.le_of_ble_eq_true rfl) ⟨Nat.zero_le _, Nat.zero_le _⟩ dX4_readPart_109 (fun M30 H locs hp29 hP hS => ?_)
    obtain ⟨g32, fr33⟩ := hp29
    refine lv_aload_n hx hb dX4_readPart_112 rfl (lv_at hl 0 rfl) ?_
    refine lv_iload_n hx hb dX4_readPart_113 rfl (lv_at hl 1 rfl) ?_
    refine lv_iconst (v := 1) hx hb dX4_readPart_114 (by decide) ?_
    refine lv_iadd hx hb dX4_readPart_115 ?_
    refine q_wrVi (As := [.int (dp + 1)]) (rest := []) (hE M30 hI (nX en bf x) cs (uX en bf x nu) ft h_ta h_ta_1 h_rd h_h h_h_9 h_h_10 h_h_11 g32 ((fr33 (ta + 1) (by omega)).trans m_ta_1) ((fr33 rd (by omega)).trans m_rd) ((fr33 h (by omega)).trans m_h) ((fr33 (h + 9) (by omega)).trans m_h_9) ((fr33 (h + 10) (by omega)).trans m_h_10) ((fr33 (h + 11) (by omega)).trans m_h_11) (by first | omega | assumption | (apply nX_le <;> (repeat' (first | assumption | apply nX_le))) | (repeat' (first | assumption | apply nX_le | exact isN_k (by assumption) | exact isT_k (by assumption))) | exact vp_in_nI (by omega) (by decide)) hen srt srh sth (by first | omega | assumption | (apply nX_le <;> (repeat' (first | assumption | apply nX_le))) | (repeat' (first | assumption | apply nX_le | exact isN_k (by assumption) | exact isT_k (by assumption))) | exact vp_in_nI (by omega) (by decide))) X hK hP hS hl.1 rfl gX4_readPart_X4_readExpr yd_X4_readExpr ⟨by show fE + 1 ≤ fE + 1; omega, by show 8 + (4 + 11) + (lE) ≤ lE + 23; omega⟩ h_rd ((fr33 rd (by omega)).trans m_rd) (ci := 4) rfl rfl (Nat.le_of_ble_eq_true rfl) ⟨Nat.zero_le _, Nat.zero_le _⟩ dX4_readPart_116 (fun r36 M35 H locs hp34 hP hS => ?_)
    obtain ⟨v0_37, rfl, g38, g39, g40, g41, fr42⟩ := hp34
    refine lv_if_eq (tgt := 133) hx hb dX4_readPart_119 (by decide) (fun c_119 => ?_) (fun c_119 => ?_)
    · skip
      refine lv_iconst (v := 0) hx hb dX4_readPart_133 (by decide) ?_
      exact q_wzret X hr hlocks hP hS (rfl) ⟨v0_37, (by first | (rw [ePart, if_neg c_7_0, if_neg c_7_1, if_pos c_7_2, eCl, if_neg (okI_z c_119)]; done) | (rw [ePart, if_neg c_7_0, if_neg c_7_1, if_pos c_7_2, eCl, if_neg (okI_z c_119), okI_0 (okI_z c_119)]; done) | (rw [ePart, if_neg c_7_0, if_neg c_7_1, if_pos c_7_2, eCl, if_pos (okI_o c_119), if_neg (tcl_t c_126)]; done) | (rw [ePart, if_neg c_7_0, if_neg c_7_1, if_pos c_7_2, eCl, if_pos (okI_o c_119), if_pos (tcl_f c_126)]; done) | (rw [ePart, if_neg c_7_0, if_neg c_7_1, if_pos c_7_2, eCl, if_pos (okI_o c_119), if_pos (tcl_f c_126), flt_0 (okI_o c_119)]; done) | (rw [ePart, if_neg c_7_0, if_neg c_7_1, if_pos c_7_2, eCl, if_neg (okI_z c_119)]; simp only [flt_z, flt_o, flt_w, flt_h, okI_zz, okI_oo, okI_ww, okI_hh]; done) | (rw [ePart, if_neg c_7_0, if_neg c_7_1, if_pos c_7_2, eCl, if_neg (okI_z c_119), okI_0 (okI_z c_119)]; simp only [flt_z, flt_o, flt_w, flt_h, okI_zz, okI_oo, okI_ww, okI_hh]; done) | (rw [ePart, if_neg c_7_0, if_neg c_7_1, if_pos c_7_2, eCl, if_pos (okI_o c_119), if_neg (tcl_t c_126)]; simp only [flt_z, flt_o, flt_w, flt_h, okI_zz, okI_oo, okI_ww, okI_hh]; done) | (rw [ePart, if_neg c_7_0, if_neg c_7_1, if_pos c_7_2, eCl, if_pos (okI_o c_119), if_pos (tcl_f c_126)]; simp only [flt_z, flt_o, flt_w, flt_h, okI_zz, okI_oo, okI_ww, okI_hh]; done) | (rw [ePart, if_neg c_7_0, if_neg c_7_1, if_pos c_7_2, eCl, if_pos (okI_o c_119), if_pos (tcl_f c_126), flt_0 (okI_o c_119)]; simp only [flt_z, flt_o, flt_w, flt_h, okI_zz, okI_oo, okI_ww, okI_hh]; done)), (by refine g38.trans ?_; first | (rw [ePart, if_neg c_7_0, if_neg c_7_1, if_pos c_7_2, eCl, if_neg (okI_z c_119)]; done) | (rw [ePart, if_neg c_7_0, if_neg c_7_1, if_pos c_7_2, eCl, if_neg (okI_z c_119), okI_0 (okI_z c_119)]; done) | (rw [ePart, if_neg c_7_0, if_neg c_7_1, if_pos c_7_2, eCl, if_pos (okI_o c_119), if_neg (tcl_t c_126)]; done) | (rw [ePart, if_neg c_7_0, if_neg c_7_1, if_pos c_7_2, eCl, if_pos (okI_o c_119), if_pos (tcl_f c_126)]; done) | (rw [ePart, if_neg c_7_0, if_neg c_7_1, if_pos c_7_2, eCl, if_pos (okI_o c_119), if_pos (tcl_f c_126), flt_0 (okI_o c_119)]; done) | (rw [ePart, if_neg c_7_0, if_neg c_7_1, if_pos c_7_2, eCl, if_neg (okI_z c_119)]; simp only [flt_z, flt_o, flt_w, flt_h, okI_zz, okI_oo, okI_ww, okI_hh]; done) | (rw [ePart, if_neg c_7_0, if_neg c_7_1, if_pos c_7_2, eCl, if_neg (okI_z c_119), okI_0 (okI_z c_119)]; simp only [flt_z, flt_o, flt_w, flt_h, okI_zz, okI_oo, okI_ww, okI_hh]; done) | (rw [ePart, if_neg c_7_0, if_neg c_7_1, if_pos c_7_2, eCl, if_pos (okI_o c_119), if_neg (tcl_t c_126)]; simp only [flt_z, flt_o, flt_w, flt_h, okI_zz, okI_oo, okI_ww, okI_hh]; done) | (rw [ePart, if_neg c_7_0, if_neg c_7_1, if_pos c_7_2, eCl, if_pos (okI_o c_119), if_pos (tcl_f c_126)]; simp only [flt_z, flt_o, flt_w, flt_h, okI_zz, okI_oo, okI_ww, okI_hh]; done) | (rw [ePart, if_neg c_7_0, if_neg c_7_1, if_pos c_7_2, eCl, if_pos (okI_o c_119), if_pos (tcl_f c_126), flt_0 (okI_o c_119)]; simp only [flt_z, flt_o, flt_w, flt_h, okI_zz, okI_oo, okI_ww, okI_hh]; done)), (by refine g39.trans ?_; first | (rw [ePart, if_neg c_7_0, if_neg c_7_1, if_pos c_7_2, eCl, if_neg (okI_z c_119)]; done) | (rw [ePart, if_neg c_7_0, if_neg c_7_1, if_pos c_7_2, eCl, if_neg (okI_z c_119), okI_0 (okI_z c_119)]; done) | (rw [ePart, if_neg c_7_0, if_neg c_7_1, if_pos c_7_2, eCl, if_pos (okI_o c_119), if_neg (tcl_t c_126)]; done) | (rw [ePart, if_neg c_7_0, if_neg c_7_1, if_pos c_7_2, eCl, if_pos (okI_o c_119), if_pos (tcl_f c_126)]; done) | (rw [ePart, if_neg c_7_0, if_neg c_7_1, if_pos c_7_2, eCl, if_pos (okI_o c_119), if_pos (tcl_f c_126), flt_0 (okI_o c_119)]; done) | (rw [ePart, if_neg c_7_0, if_neg c_7_1, if_pos c_7_2, eCl, if_neg (okI_z c_119)]; simp only [flt_z, flt_o, flt_w, flt_h, okI_zz, okI_oo, okI_ww, okI_hh]; done) | (rw [ePart, if_neg c_7_0, if_neg c_7_1, if_pos c_7_2, eCl, if_neg (okI_z c_119), okI_0 (okI_z c_119)]; simp only [flt_z, flt_o, flt_w, flt_h, okI_zz, okI_oo, okI_ww, okI_hh]; done) | (rw [ePart, if_neg c_7_0, if_neg c_7_1, if_pos c_7_2, eCl, if_pos (okI_o c_119), if_neg (tcl_t c_126)]; simp only [flt_z, flt_o, flt_w, flt_h, okI_zz, okI_oo, okI_ww, okI_hh]; done) | (rw [ePart, if_neg c_7_0, if_neg c_7_1, if_pos c_7_2, eCl, if_pos (okI_o c_119), if_pos (tcl_f c_126)]; simp only [flt_z, flt_o, flt_w, flt_h, okI_zz, okI_oo, okI_ww, okI_hh]; done) | (rw [ePart, if_neg c_7_0, if_neg c_7_1, if_pos c_7_2, eCl, if_pos (okI_o c_119), if_pos (tcl_f c_126), flt_0 (okI_o c_119)]; simp only [flt_z, flt_o, flt_w, flt_h, okI_zz, okI_oo, okI_ww, okI_hh]; done)), (by refine g40.trans ?_; first | (rw [ePart, if_neg c_7_0, if_neg c_7_1, if_pos c_7_2, eCl, if_neg (okI_z c_119)]; done) | (rw [ePart, if_neg c_7_0, if_neg c_7_1, if_pos c_7_2, eCl, if_neg (okI_z c_119), okI_0 (okI_z c_119)]; done) | (rw [ePart, if_neg c_7_0, if_neg c_7_1, if_pos c_7_2, eCl, if_pos (okI_o c_119), if_neg (tcl_t c_126)]; done) | (rw [ePart, if_neg c_7_0, if_neg c_7_1, if_pos c_7_2, eCl, if_pos (okI_o c_119), if_pos (tcl_f c_126)]; done) | (rw [ePart, if_neg c_7_0, if_neg c_7_1, if_pos c_7_2, eCl, if_pos (okI_o c_119), if_pos (tcl_f c_126), flt_0 (okI_o c_119)]; done) | (rw [ePart, if_neg c_7_0, if_neg c_7_1, if_pos c_7_2, eCl, if_neg (okI_z c_119)]; simp only [flt_z, flt_o, flt_w, flt_h, okI_zz, okI_oo, okI_ww, okI_hh]; done) | (rw [ePart, if_neg c_7_0, if_neg c_7_1, if_pos c_7_2, eCl, if_neg (okI_z c_119), okI_0 (okI_z c_119)]; simp only [flt_z, flt_o, flt_w, flt_h, okI_zz, okI_oo, okI_ww, okI_hh]; done) | (rw [ePart, if_neg c_7_0, if_neg c_7_1, if_pos c_7_2, eCl, if_pos (okI_o c_119), if_neg (tcl_t c_126)]; simp only [flt_z, flt_o, flt_w, flt_h, okI_zz, okI_oo, okI_ww, okI_hh]; done) | (rw [ePart, if_neg c_7_0, if_neg c_7_1, if_pos c_7_2, eCl, if_pos (okI_o c_119), if_pos (tcl_f c_126)]; simp only [flt_z, flt_o, flt_w, flt_h, okI_zz, okI_oo, okI_ww, okI_hh]; done) | (rw [ePart, if_neg c_7_0, if_neg c_7_1, if_pos c_7_2, eCl, if_pos (okI_o c_119), if_pos (tcl_f c_126), flt_0 (okI_o c_119)]; simp only [flt_z, flt_o, flt_w, flt_h, okI_zz, okI_oo, okI_ww, okI_hh]; done)), (by refine g41.trans ?_; first | (rw [ePart, if_neg c_7_0, if_neg c_7_1, if_pos c_7_2, eCl, if_neg (okI_z c_119)]; done) | (rw [ePart, if_neg c_7_0, if_neg c_7_1, if_pos c_7_2, eCl, if_neg (okI_z c_119), okI_0 (okI_z c_119)]; done) | (rw [ePart, if_neg c_7_0, if_neg c_7_1, if_pos c_7_2, eCl, if_pos (okI_o c_119), if_neg (tcl_t c_126)]; done) | (rw [ePart, if_neg c_7_0, if_neg c_7_1, if_pos c_7_2, eCl, if_pos (okI_o c_119), if_pos (tcl_f c_126)]; done) | (rw [ePart, if_neg c_7_0, if_neg c_7_1, if_pos c_7_2, eCl, if_pos (okI_o c_119), if_pos (tcl_f c_126), flt_0 (okI_o c_119)]; done) | (rw [ePart, if_neg c_7_0, if_neg c_7_1, if_pos c_7_2, eCl, if_neg (okI_z c_119)]; simp only [flt_z, flt_o, flt_w, flt_h, okI_zz, okI_oo, okI_ww, okI_hh]; done) | (rw [ePart, if_neg c_7_0, if_neg c_7_1, if_pos c_7_2, eCl, if_neg (okI_z c_119), okI_0 (okI_z c_119)]; simp only [flt_z, flt_o, flt_w, flt_h, okI_zz, okI_oo, okI_ww, okI_hh]; done) | (rw [ePart, if_neg c_7_0, if_neg c_7_1, if_pos c_7_2, eCl, if_pos (okI_o c_119), if_neg (tcl_t c_126)]; simp only [flt_z, flt_o, flt_w, flt_h, okI_zz, okI_oo, okI_ww, okI_hh]; done) | (rw [ePart, if_neg c_7_0, if_neg c_7_1, if_pos c_7_2, eCl, if_pos (okI_o c_119), if_pos (tcl_f c_126)]; simp only [flt_z, flt_o, flt_w, flt_h, okI_zz, okI_oo, okI_ww, okI_hh]; done) | (rw [ePart, if_neg c_7_0, if_neg c_7_1, if_pos c_7_2, eCl, if_pos (okI_o c_119), if_pos (tcl_f c_126), flt_0 (okI_o c_119)]; simp only [flt_z, flt_o, flt_w, flt_h, okI_zz, okI_oo, okI_ww, okI_hh]; done)), (fun q n0 n1 n2 n3 => ((fr42 q n0 n1 n2 n3).trans (fr33 q n0)))⟩ dX4_readPart_134
    · skip
      refine lv_aload_n hx hb dX4_readPart_122 rfl (lv_at hl 0 rfl) ?_
      refine q_wrVi (As := []) (rest := []) (c_X4_takeClosing l D cB cI cJ ad n M35 hI rd ta h en ((E (nX en bf x) cs).2.1) ln v0_37 (flt ft (E (nX en bf x) cs).1) bf h_ta h_ta_1 h_rd g38 ((fr42 (ta + 1) (by omega) (by omega) (by omega) (by omega)).trans ((fr33 (ta + 1) (by omega)).trans m_ta_1)) g39 (by first | omega | assumption | (apply nX_le <;> (repeat' (first | assumption | apply nX_le))) | (repeat' (first | assumption | apply nX_le | exact isN_k (by assumption) | exact isT_k (by assumption))) | exact vp_in_nI (by omega) (by decide)) hen srt) X hK hP hS hl.1 rfl gX4_readPart_X4_takeClosing yd_X4_takeClosing ⟨by show 6 + 1 ≤ fE + 1; omega, by show 8 + (1 + 11) + (132) ≤ lE + 23; omega⟩ h_rd g39 (ci := 4) rfl rfl (Nat.le_of_ble_eq_true rfl) ⟨Nat.zero_le _, Nat.zero_le _⟩ dX4_readPart_123 (fun r45 M44 H locs hp43 hP hS => ?_)
      obtain ⟨v0_46, rfl, g47, g48, fr49⟩ := hp43
      refine lv_if_eq (tgt := 133) hx hb dX4_readPart_126 (by decide) (fun c_126 => ?_) (fun c_126 => ?_)
      · skip
        have g50 : M44 ta = .inr (9, tapeX ad ta ln en bf ((E (nX en bf x) cs).2.1) v0_46) := by refine g47.trans ?_; simp only [pk0_t c_126]
        have g51 : M44 rd = .inr (4, [.ref (ad ta), .ref (ad h), .int 1]) := by refine g48.trans ?_; simp only [pk0_t c_126]
        refine lv_iconst (v := 0) hx hb dX4_readPart_133 (by decide) ?_
        exact q_wzret X hr hlocks hP hS (rfl) ⟨v0_46, (by first | (rw [ePart, if_neg c_7_0, if_neg c_7_1, if_pos c_7_2, eCl, if_neg (okI_z c_119)]; done) | (rw [ePart, if_neg c_7_0, if_neg c_7_1, if_pos c_7_2, eCl, if_neg (okI_z c_119), okI_0 (okI_z c_119)]; done) | (rw [ePart, if_neg c_7_0, if_neg c_7_1, if_pos c_7_2, eCl, if_pos (okI_o c_119), if_neg (tcl_t c_126)]; done) | (rw [ePart, if_neg c_7_0, if_neg c_7_1, if_pos c_7_2, eCl, if_pos (okI_o c_119), if_pos (tcl_f c_126)]; done) | (rw [ePart, if_neg c_7_0, if_neg c_7_1, if_pos c_7_2, eCl, if_pos (okI_o c_119), if_pos (tcl_f c_126), flt_0 (okI_o c_119)]; done) | (rw [ePart, if_neg c_7_0, if_neg c_7_1, if_pos c_7_2, eCl, if_neg (okI_z c_119)]; simp only [flt_z, flt_o, flt_w, flt_h, okI_zz, okI_oo, okI_ww, okI_hh]; done) | (rw [ePart, if_neg c_7_0, if_neg c_7_1, if_pos c_7_2, eCl, if_neg (okI_z c_119), okI_0 (okI_z c_119)]; simp only [flt_z, flt_o, flt_w, flt_h, okI_zz, okI_oo, okI_ww, okI_hh]; done) | (rw [ePart, if_neg c_7_0, if_neg c_7_1, if_pos c_7_2, eCl, if_pos (okI_o c_119), if_neg (tcl_t c_126)]; simp only [flt_z, flt_o, flt_w, flt_h, okI_zz, okI_oo, okI_ww, okI_hh]; done) | (rw [ePart, if_neg c_7_0, if_neg c_7_1, if_pos c_7_2, eCl, if_pos (okI_o c_119), if_pos (tcl_f c_126)]; simp only [flt_z, flt_o, flt_w, flt_h, okI_zz, okI_oo, okI_ww, okI_hh]; done) | (rw [ePart, if_neg c_7_0, if_neg c_7_1, if_pos c_7_2, eCl, if_pos (okI_o c_119), if_pos (tcl_f c_126), flt_0 (okI_o c_119)]; simp only [flt_z, flt_o, flt_w, flt_h, okI_zz, okI_oo, okI_ww, okI_hh]; done)), (by refine g50.trans ?_; first | (rw [ePart, if_neg c_7_0, if_neg c_7_1, if_pos c_7_2, eCl, if_neg (okI_z c_119)]; done) | (rw [ePart, if_neg c_7_0, if_neg c_7_1, if_pos c_7_2, eCl, if_neg (okI_z c_119), okI_0 (okI_z c_119)]; done) | (rw [ePart, if_neg c_7_0, if_neg c_7_1, if_pos c_7_2, eCl, if_pos (okI_o c_119), if_neg (tcl_t c_126)]; done) | (rw [ePart, if_neg c_7_0, if_neg c_7_1, if_pos c_7_2, eCl, if_pos (okI_o c_119), if_pos (tcl_f c_126)]; done) | (rw [ePart, if_neg c_7_0, if_neg c_7_1, if_pos c_7_2, eCl, if_pos (okI_o c_119), if_pos (tcl_f c_126), flt_0 (okI_o c_119)]; done) | (rw [ePart, if_neg c_7_0, if_neg c_7_1, if_pos c_7_2, eCl, if_neg (okI_z c_119)]; simp only [flt_z, flt_o, flt_w, flt_h, okI_zz, okI_oo, okI_ww, okI_hh]; done) | (rw [ePart, if_neg c_7_0, if_neg c_7_1, if_pos c_7_2, eCl, if_neg (okI_z c_119), okI_0 (okI_z c_119)]; simp only [flt_z, flt_o, flt_w, flt_h, okI_zz, okI_oo, okI_ww, okI_hh]; done) | (rw [ePart, if_neg c_7_0, if_neg c_7_1, if_pos c_7_2, eCl, if_pos (okI_o c_119), if_neg (tcl_t c_126)]; simp only [flt_z, flt_o, flt_w, flt_h, okI_zz, okI_oo, okI_ww, okI_hh]; done) | (rw [ePart, if_neg c_7_0, if_neg c_7_1, if_pos c_7_2, eCl, if_pos (okI_o c_119), if_pos (tcl_f c_126)]; simp only [flt_z, flt_o, flt_w, flt_h, okI_zz, okI_oo, okI_ww, okI_hh]; done) | (rw [ePart, if_neg c_7_0, if_neg c_7_1, if_pos c_7_2, eCl, if_pos (okI_o c_119), if_pos (tcl_f c_126), flt_0 (okI_o c_119)]; simp only [flt_z, flt_o, flt_w, flt_h, okI_zz, okI_oo, okI_ww, okI_hh]; done)), (by refine g51.trans ?_; first | (rw [ePart, if_neg c_7_0, if_neg c_7_1, if_pos c_7_2, eCl, if_neg (okI_z c_119)]; done) | (rw [ePart, if_neg c_7_0, if_neg c_7_1, if_pos c_7_2, eCl, if_neg (okI_z c_119), okI_0 (okI_z c_119)]; done) | (rw [ePart, if_neg c_7_0, if_neg c_7_1, if_pos c_7_2, eCl, if_pos (okI_o c_119), if_neg (tcl_t c_126)]; done) | (rw [ePart, if_neg c_7_0, if_neg c_7_1, if_pos c_7_2, eCl, if_pos (okI_o c_119), if_pos (tcl_f c_126)]; done) | (rw [ePart, if_neg c_7_0, if_neg c_7_1, if_pos c_7_2, eCl, if_pos (okI_o c_119), if_pos (tcl_f c_126), flt_0 (okI_o c_119)]; done) | (rw [ePart, if_neg c_7_0, if_neg c_7_1, if_pos c_7_2, eCl, if_neg (okI_z c_119)]; simp only [flt_z, flt_o, flt_w, flt_h, okI_zz, okI_oo, okI_ww, okI_hh]; done) | (rw [ePart, if_neg c_7_0, if_neg c_7_1, if_pos c_7_2, eCl, if_neg (okI_z c_119), okI_0 (okI_z c_119)]; simp only [flt_z, flt_o, flt_w, flt_h, okI_zz, okI_oo, okI_ww, okI_hh]; done) | (rw [ePart, if_neg c_7_0, if_neg c_7_1, if_pos c_7_2, eCl, if_pos (okI_o c_119), if_neg (tcl_t c_126)]; simp only [flt_z, flt_o, flt_w, flt_h, okI_zz, okI_oo, okI_ww, okI_hh]; done) | (rw [ePart, if_neg c_7_0, if_neg c_7_1, if_pos c_7_2, eCl, if_pos (okI_o c_119), if_pos (tcl_f c_126)]; simp only [flt_z, flt_o, flt_w, flt_h, okI_zz, okI_oo, okI_ww, okI_hh]; done) | (rw [ePart, if_neg c_7_0, if_neg c_7_1, if_pos c_7_2, eCl, if_pos (okI_o c_119), if_pos (tcl_f c_126), flt_0 (okI_o c_119)]; simp only [flt_z, flt_o, flt_w, flt_h, okI_zz, okI_oo, okI_ww, okI_hh]; done)), (by refine ((fr49 (h + 9) (by omega) (by omega)).trans g40).trans ?_; first | (rw [ePart, if_neg c_7_0, if_neg c_7_1, if_pos c_7_2, eCl, if_neg (okI_z c_119)]; done) | (rw [ePart, if_neg c_7_0, if_neg c_7_1, if_pos c_7_2, eCl, if_neg (okI_z c_119), okI_0 (okI_z c_119)]; done) | (rw [ePart, if_neg c_7_0, if_neg c_7_1, if_pos c_7_2, eCl, if_pos (okI_o c_119), if_neg (tcl_t c_126)]; done) | (rw [ePart, if_neg c_7_0, if_neg c_7_1, if_pos c_7_2, eCl, if_pos (okI_o c_119), if_pos (tcl_f c_126)]; done) | (rw [ePart, if_neg c_7_0, if_neg c_7_1, if_pos c_7_2, eCl, if_pos (okI_o c_119), if_pos (tcl_f c_126), flt_0 (okI_o c_119)]; done) | (rw [ePart, if_neg c_7_0, if_neg c_7_1, if_pos c_7_2, eCl, if_neg (okI_z c_119)]; simp only [flt_z, flt_o, flt_w, flt_h, okI_zz, okI_oo, okI_ww, okI_hh]; done) | (rw [ePart, if_neg c_7_0, if_neg c_7_1, if_pos c_7_2, eCl, if_neg (okI_z c_119), okI_0 (okI_z c_119)]; simp only [flt_z, flt_o, flt_w, flt_h, okI_zz, okI_oo, okI_ww, okI_hh]; done) | (rw [ePart, if_neg c_7_0, if_neg c_7_1, if_pos c_7_2, eCl, if_pos (okI_o c_119), if_neg (tcl_t c_126)]; simp only [flt_z, flt_o, flt_w, flt_h, okI_zz, okI_oo, okI_ww, okI_hh]; done) | (rw [ePart, if_neg c_7_0, if_neg c_7_1, if_pos c_7_2, eCl, if_pos (okI_o c_119), if_pos (tcl_f c_126)]; simp only [flt_z, flt_o, flt_w, flt_h, okI_zz, okI_oo, okI_ww, okI_hh]; done) | (rw [ePart, if_neg c_7_0, if_neg c_7_1, if_pos c_7_2, eCl, if_pos (okI_o c_119), if_pos (tcl_f c_126), flt_0 (okI_o c_119)]; simp only [flt_z, flt_o, flt_w, flt_h, okI_zz, okI_oo, okI_ww, okI_hh]; done)), (by refine ((fr49 (h + 11) (by omega) (by omega)).trans g41).trans ?_; first | (rw [ePart, if_neg c_7_0, if_neg c_7_1, if_pos c_7_2, eCl, if_neg (okI_z c_119)]; done) | (rw [ePart, if_neg c_7_0, if_neg c_7_1, if_pos c_7_2, eCl, if_neg (okI_z c_119), okI_0 (okI_z c_119)]; done) | (rw [ePart, if_neg c_7_0, if_neg c_7_1, if_pos c_7_2, eCl, if_pos (okI_o c_119), if_neg (tcl_t c_126)]; done) | (rw [ePart, if_neg c_7_0, if_neg c_7_1, if_pos c_7_2, eCl, if_pos (okI_o c_119), if_pos (tcl_f c_126)]; done) | (rw [ePart, if_neg c_7_0, if_neg c_7_1, if_pos c_7_2, eCl, if_pos (okI_o c_119), if_pos (tcl_f c_126), flt_0 (okI_o c_119)]; done) | (rw [ePart, if_neg c_7_0, if_neg c_7_1, if_pos c_7_2, eCl, if_neg (okI_z c_119)]; simp only [flt_z, flt_o, flt_w, flt_h, okI_zz, okI_oo, okI_ww, okI_hh]; done) | (rw [ePart, if_neg c_7_0, if_neg c_7_1, if_pos c_7_2, eCl, if_neg (okI_z c_119), okI_0 (okI_z c_119)]; simp only [flt_z, flt_o, flt_w, flt_h, okI_zz, okI_oo, okI_ww, okI_hh]; done) | (rw [ePart, if_neg c_7_0, if_neg c_7_1, if_pos c_7_2, eCl, if_pos (okI_o c_119), if_neg (tcl_t c_126)]; simp only [flt_z, flt_o, flt_w, flt_h, okI_zz, okI_oo, okI_ww, okI_hh]; done) | (rw [ePart, if_neg c_7_0, if_neg c_7_1, if_pos c_7_2, eCl, if_pos (okI_o c_119), if_pos (tcl_f c_126)]; simp only [flt_z, flt_o, flt_w, flt_h, okI_zz, okI_oo, okI_ww, okI_hh]; done) | (rw [ePart, if_neg c_7_0, if_neg c_7_1, if_pos c_7_2, eCl, if_pos (okI_o c_119), if_pos (tcl_f c_126), flt_0 (okI_o c_119)]; simp only [flt_z, flt_o, flt_w, flt_h, okI_zz, okI_oo, okI_ww, okI_hh]; done)), (fun q n0 n1 n2 n3 => ((fr49 q n0 n1).trans ((fr42 q n0 n1 n2 n3).trans (fr33 q n0))))⟩ dX4_readPart_134
      · skip
        have g52 : M44 ta = .inr (9, tapeX ad ta ln en bf (nX en bf ((E (nX en bf x) cs).2.1)) v0_46) := by refine g47.trans ?_; simp only [pk0_f c_126]
        have g53 : M44 rd = .inr (4, [.ref (ad ta), .ref (ad h), .int (flt ft (E (nX en bf x) cs).1)]) := by refine g48.trans ?_; simp only [pk0_f c_126]
        refine lv_iconst (v := 1) hx hb dX4_readPart_129 (by decide) ?_
        refine lv_goto (tgt := 134) hx hb dX4_readPart_130 (by decide) ?_
        exact q_wzret X hr hlocks hP hS (rfl) ⟨v0_46, (by first | (rw [ePart, if_neg c_7_0, if_neg c_7_1, if_pos c_7_2, eCl, if_neg (okI_z c_119)]; done) | (rw [ePart, if_neg c_7_0, if_neg c_7_1, if_pos c_7_2, eCl, if_neg (okI_z c_119), okI_0 (okI_z c_119)]; done) | (rw [ePart, if_neg c_7_0, if_neg c_7_1, if_pos c_7_2, eCl, if_pos (okI_o c_119), if_neg (tcl_t c_126)]; done) | (rw [ePart, if_neg c_7_0, if_neg c_7_1, if_pos c_7_2, eCl, if_pos (okI_o c_119), if_pos (tcl_f c_126)]; done) | (rw [ePart, if_neg c_7_0, if_neg c_7_1, if_pos c_7_2, eCl, if_pos (okI_o c_119), if_pos (tcl_f c_126), flt_0 (okI_o c_119)]; done) | (rw [ePart, if_neg c_7_0, if_neg c_7_1, if_pos c_7_2, eCl, if_neg (okI_z c_119)]; simp only [flt_z, flt_o, flt_w, flt_h, okI_zz, okI_oo, okI_ww, okI_hh]; done) | (rw [ePart, if_neg c_7_0, if_neg c_7_1, if_pos c_7_2, eCl, if_neg (okI_z c_119), okI_0 (okI_z c_119)]; simp only [flt_z, flt_o, flt_w, flt_h, okI_zz, okI_oo, okI_ww, okI_hh]; done) | (rw [ePart, if_neg c_7_0, if_neg c_7_1, if_pos c_7_2, eCl, if_pos (okI_o c_119), if_neg (tcl_t c_126)]; simp only [flt_z, flt_o, flt_w, flt_h, okI_zz, okI_oo, okI_ww, okI_hh]; done) | (rw [ePart, if_neg c_7_0, if_neg c_7_1, if_pos c_7_2, eCl, if_pos (okI_o c_119), if_pos (tcl_f c_126)]; simp only [flt_z, flt_o, flt_w, flt_h, okI_zz, okI_oo, okI_ww, okI_hh]; done) | (rw [ePart, if_neg c_7_0, if_neg c_7_1, if_pos c_7_2, eCl, if_pos (okI_o c_119), if_pos (tcl_f c_126), flt_0 (okI_o c_119)]; simp only [flt_z, flt_o, flt_w, flt_h, okI_zz, okI_oo, okI_ww, okI_hh]; done)), (by refine g52.trans ?_; first | (rw [ePart, if_neg c_7_0, if_neg c_7_1, if_pos c_7_2, eCl, if_neg (okI_z c_119)]; done) | (rw [ePart, if_neg c_7_0, if_neg c_7_1, if_pos c_7_2, eCl, if_neg (okI_z c_119), okI_0 (okI_z c_119)]; done) | (rw [ePart, if_neg c_7_0, if_neg c_7_1, if_pos c_7_2, eCl, if_pos (okI_o c_119), if_neg (tcl_t c_126)]; done) | (rw [ePart, if_neg c_7_0, if_neg c_7_1, if_pos c_7_2, eCl, if_pos (okI_o c_119), if_pos (tcl_f c_126)]; done) | (rw [ePart, if_neg c_7_0, if_neg c_7_1, if_pos c_7_2, eCl, if_pos (okI_o c_119), if_pos (tcl_f c_126), flt_0 (okI_o c_119)]; done) | (rw [ePart, if_neg c_7_0, if_neg c_7_1, if_pos c_7_2, eCl, if_neg (okI_z c_119)]; simp only [flt_z, flt_o, flt_w, flt_h, okI_zz, okI_oo, okI_ww, okI_hh]; done) | (rw [ePart, if_neg c_7_0, if_neg c_7_1, if_pos c_7_2, eCl, if_neg (okI_z c_119), okI_0 (okI_z c_119)]; simp only [flt_z, flt_o, flt_w, flt_h, okI_zz, okI_oo, okI_ww, okI_hh]; done) | (rw [ePart, if_neg c_7_0, if_neg c_7_1, if_pos c_7_2, eCl, if_pos (okI_o c_119), if_neg (tcl_t c_126)]; simp only [flt_z, flt_o, flt_w, flt_h, okI_zz, okI_oo, okI_ww, okI_hh]; done) | (rw [ePart, if_neg c_7_0, if_neg c_7_1, if_pos c_7_2, eCl, if_pos (okI_o c_119), if_pos (tcl_f c_126)]; simp only [flt_z, flt_o, flt_w, flt_h, okI_zz, okI_oo, okI_ww, okI_hh]; done) | (rw [ePart, if_neg c_7_0, if_neg c_7_1, if_pos c_7_2, eCl, if_pos (okI_o c_119), if_pos (tcl_f c_126), flt_0 (okI_o c_119)]; simp only [flt_z, flt_o, flt_w, flt_h, okI_zz, okI_oo, okI_ww, okI_hh]; done)), (by refine g53.trans ?_; first | (rw [ePart, if_neg c_7_0, if_neg c_7_1, if_pos c_7_2, eCl, if_neg (okI_z c_119)]; done) | (rw [ePart, if_neg c_7_0, if_neg c_7_1, if_pos c_7_2, eCl, if_neg (okI_z c_119), okI_0 (okI_z c_119)]; done) | (rw [ePart, if_neg c_7_0, if_neg c_7_1, if_pos c_7_2, eCl, if_pos (okI_o c_119), if_neg (tcl_t c_126)]; done) | (rw [ePart, if_neg c_7_0, if_neg c_7_1, if_pos c_7_2, eCl, if_pos (okI_o c_119), if_pos (tcl_f c_126)]; done) | (rw [ePart, if_neg c_7_0, if_neg c_7_1, if_pos c_7_2, eCl, if_pos (okI_o c_119), if_pos (tcl_f c_126), flt_0 (okI_o c_119)]; done) | (rw [ePart, if_neg c_7_0, if_neg c_7_1, if_pos c_7_2, eCl, if_neg (okI_z c_119)]; simp only [flt_z, flt_o, flt_w, flt_h, okI_zz, okI_oo, okI_ww, okI_hh]; done) | (rw [ePart, if_neg c_7_0, if_neg c_7_1, if_pos c_7_2, eCl, if_neg (okI_z c_119), okI_0 (okI_z c_119)]; simp only [flt_z, flt_o, flt_w, flt_h, okI_zz, okI_oo, okI_ww, okI_hh]; done) | (rw [ePart, if_neg c_7_0, if_neg c_7_1, if_pos c_7_2, eCl, if_pos (okI_o c_119), if_neg (tcl_t c_126)]; simp only [flt_z, flt_o, flt_w, flt_h, okI_zz, okI_oo, okI_ww, okI_hh]; done) | (rw [ePart, if_neg c_7_0, if_neg c_7_1, if_pos c_7_2, eCl, if_pos (okI_o c_119), if_pos (tcl_f c_126)]; simp only [flt_z, flt_o, flt_w, flt_h, okI_zz, okI_oo, okI_ww, okI_hh]; done) | (rw [ePart, if_neg c_7_0, if_neg c_7_1, if_pos c_7_2, eCl, if_pos (okI_o c_119), if_pos (tcl_f c_126), flt_0 (okI_o c_119)]; simp only [flt_z, flt_o, flt_w, flt_h, okI_zz, okI_oo, okI_ww, okI_hh]; done)), (by refine ((fr49 (h + 9) (by omega) (by omega)).trans g40).trans ?_; first | (rw [ePart, if_neg c_7_0, if_neg c_7_1, if_pos c_7_2, eCl, if_neg (okI_z c_119)]; done) | (rw [ePart, if_neg c_7_0, if_neg c_7_1, if_pos c_7_2, eCl, if_neg (okI_z c_119), okI_0 (okI_z c_119)]; done) | (rw [ePart, if_neg c_7_0, if_neg c_7_1, if_pos c_7_2, eCl, if_pos (okI_o c_119), if_neg (tcl_t c_126)]; done) | (rw [ePart, if_neg c_7_0, if_neg c_7_1, if_pos c_7_2, eCl, if_pos (okI_o c_119), if_pos (tcl_f c_126)]; done) | (rw [ePart, if_neg c_7_0, if_neg c_7_1, if_pos c_7_2, eCl, if_pos (okI_o c_119), if_pos (tcl_f c_126), flt_0 (okI_o c_119)]; done) | (rw [ePart, if_neg c_7_0, if_neg c_7_1, if_pos c_7_2, eCl, if_neg (okI_z c_119)]; simp only [flt_z, flt_o, flt_w, flt_h, okI_zz, okI_oo, okI_ww, okI_hh]; done) | (rw [ePart, if_neg c_7_0, if_neg c_7_1, if_pos c_7_2, eCl, if_neg (okI_z c_119), okI_0 (okI_z c_119)]; simp only [flt_z, flt_o, flt_w, flt_h, okI_zz, okI_oo, okI_ww, okI_hh]; done) | (rw [ePart, if_neg c_7_0, if_neg c_7_1, if_pos c_7_2, eCl, if_pos (okI_o c_119), if_neg (tcl_t c_126)]; simp only [flt_z, flt_o, flt_w, flt_h, okI_zz, okI_oo, okI_ww, okI_hh]; done) | (rw [ePart, if_neg c_7_0, if_neg c_7_1, if_pos c_7_2, eCl, if_pos (okI_o c_119), if_pos (tcl_f c_126)]; simp only [flt_z, flt_o, flt_w, flt_h, okI_zz, okI_oo, okI_ww, okI_hh]; done) | (rw [ePart, if_neg c_7_0, if_neg c_7_1, if_pos c_7_2, eCl, if_pos (okI_o c_119), if_pos (tcl_f c_126), flt_0 (okI_o c_119)]; simp only [flt_z, flt_o, flt_w, flt_h, okI_zz, okI_oo, okI_ww, okI_hh]; done)), (by refine ((fr49 (h + 11) (by omega) (by omega)).trans g41).trans ?_; first | (rw [ePart, if_neg c_7_0, if_neg c_7_1, if_pos c_7_2, eCl, if_neg (okI_z c_119)]; done) | (rw [ePart, if_neg c_7_0, if_neg c_7_1, if_pos c_7_2, eCl, if_neg (okI_z c_119), okI_0 (okI_z c_119)]; done) | (rw [ePart, if_neg c_7_0, if_neg c_7_1, if_pos c_7_2, eCl, if_pos (okI_o c_119), if_neg (tcl_t c_126)]; done) | (rw [ePart, if_neg c_7_0, if_neg c_7_1, if_pos c_7_2, eCl, if_pos (okI_o c_119), if_pos (tcl_f c_126)]; done) | (rw [ePart, if_neg c_7_0, if_neg c_7_1, if_pos c_7_2, eCl, if_pos (okI_o c_119), if_pos (tcl_f c_126), flt_0 (okI_o c_119)]; done) | (rw [ePart, if_neg c_7_0, if_neg c_7_1, if_pos c_7_2, eCl, if_neg (okI_z c_119)]; simp only [flt_z, flt_o, flt_w, flt_h, okI_zz, okI_oo, okI_ww, okI_hh]; done) | (rw [ePart, if_neg c_7_0, if_neg c_7_1, if_pos c_7_2, eCl, if_neg (okI_z c_119), okI_0 (okI_z c_119)]; simp only [flt_z, flt_o, flt_w, flt_h, okI_zz, okI_oo, okI_ww, okI_hh]; done) | (rw [ePart, if_neg c_7_0, if_neg c_7_1, if_pos c_7_2, eCl, if_pos (okI_o c_119), if_neg (tcl_t c_126)]; simp only [flt_z, flt_o, flt_w, flt_h, okI_zz, okI_oo, okI_ww, okI_hh]; done) | (rw [ePart, if_neg c_7_0, if_neg c_7_1, if_pos c_7_2, eCl, if_pos (okI_o c_119), if_pos (tcl_f c_126)]; simp only [flt_z, flt_o, flt_w, flt_h, okI_zz, okI_oo, okI_ww, okI_hh]; done) | (rw [ePart, if_neg c_7_0, if_neg c_7_1, if_pos c_7_2, eCl, if_pos (okI_o c_119), if_pos (tcl_f c_126), flt_0 (okI_o c_119)]; simp only [flt_z, flt_o, flt_w, flt_h, okI_zz, okI_oo, okI_ww, okI_hh]; done)), (fun q n0 n1 n2 n3 => ((fr49 q n0 n1).trans ((fr42 q n0 n1 n2 n3).trans (fr33 q n0))))⟩ dX4_readPart_134
  have n_0 := lv_neT (a := 1) c_7_0 (by decide); have n_1 := lv_neT (a := 2) c_7_1 (by decide); have n_2 := lv_neT (a := 40) c_7_2 (by decide)
  refine lv_lookup (off := 128) (tgt := 135) hx hb dX4_readPart_7 (by decide) (by simp [Op.lookupswitch.offset, Ne.symm n_0, Ne.symm n_1, Ne.symm n_2]) (by decide) ?_
  refine lv_aload_n hx hb dX4_readPart_135 rfl (lv_at hl 0 rfl) ?_
  refine lv_iconst (v := 1) hx hb dX4_readPart_136 (by decide) ?_
  refine q_wrVi (As := [.int 1]) (rest := []) (c_X4_refuse l D cB cI cJ ad n M hI rd ta h en x ln nu ft bf 1 h_ta h_ta_1 h_rd m_ta m_ta_1 m_rd hxe hen srt) X hK hP hS hl.1 rfl gX4_readPart_X4_refuse yd_X4_refuse ⟨by show 0 + 1 ≤ fE + 1; omega, by show 8 + (2 + 11) + (0) ≤ lE + 23; omega⟩ h_rd m_rd (ci := 4) rfl rfl (Nat.le_of_ble_eq_true rfl) ⟨Nat.zero_le _, Nat.zero_le _⟩ dX4_readPart_137 (fun r56 M55 H locs hp54 hP hS => ?_)
  obtain ⟨rfl, g57, fr58⟩ := hp54
  exact q_wzret X hr hlocks hP hS (rfl) ⟨nu, (by first | (rw [ePart, if_neg c_7_0, if_neg c_7_1, if_neg c_7_2]; done) | (rw [ePart, if_neg c_7_0, if_neg c_7_1, if_neg c_7_2]; simp only [flt_z, flt_o, flt_w, flt_h, okI_zz, okI_oo, okI_ww, okI_hh]; done)), (by refine ((fr58 ta (by omega)).trans m_ta).trans ?_; first | (rw [ePart, if_neg c_7_0, if_neg c_7_1, if_neg c_7_2]; done) | (rw [ePart, if_neg c_7_0, if_neg c_7_1, if_neg c_7_2]; simp only [flt_z, flt_o, flt_w, flt_h, okI_zz, okI_oo, okI_ww, okI_hh]; done)), (by refine g57.trans ?_; first | (rw [ePart, if_neg c_7_0, if_neg c_7_1, if_neg c_7_2]; done) | (rw [ePart, if_neg c_7_0, if_neg c_7_1, if_neg c_7_2]; simp only [flt_z, flt_o, flt_w, flt_h, okI_zz, okI_oo, okI_ww, okI_hh]; done)), (by refine ((fr58 (h + 9) (by omega)).trans m_h_9).trans ?_; first | (rw [ePart, if_neg c_7_0, if_neg c_7_1, if_neg c_7_2]; done) | (rw [ePart, if_neg c_7_0, if_neg c_7_1, if_neg c_7_2]; simp only [flt_z, flt_o, flt_w, flt_h, okI_zz, okI_oo, okI_ww, okI_hh]; done)), (by refine ((fr58 (h + 11) (by omega)).trans m_h_11).trans ?_; first | (rw [ePart, if_neg c_7_0, if_neg c_7_1, if_neg c_7_2]; done) | (rw [ePart, if_neg c_7_0, if_neg c_7_1, if_neg c_7_2]; simp only [flt_z, flt_o, flt_w, flt_h, okI_zz, okI_oo, okI_ww, okI_hh]; done)), (fun q n0 n1 n2 n3 => (fr58 q n1))⟩ dX4_readPart_140
theorem yd_X4_readPart : YD yX4_readPart 1 := ⟨by decide +kernel, by decide +kernel, by decide +kernel⟩
set_option maxRecDepth 20000 in
theorem fX4_readProduct_9 : FL wsX4_readProduct RX4 9 4 0 := ⟨RX4, TX4, 3, rfl, by decide +kernel, by decide, by decide +kernel⟩
set_option maxRecDepth 20000 in
theorem fX4_readProduct_34 : FL wsX4_readProduct RX4 34 9 5 := ⟨RX9, TX9, 8, rfl, by decide +kernel, by decide, by decide +kernel⟩
set_option maxHeartbeats 600000 in
set_option maxRecDepth 100000 in
theorem c_X4_readProduct (l : Launch) (D : va_G) (cB cI cJ : ClassId) (ad : Nat → Nat) (n : Nat) (M : Nat → va_E) (hI : ipI ad n) (rd ta h en x : Nat) (ln nu ft : Int32) (bf : Nat → Int32) (hv : Nat → Int32) (td hg : Int32) (c0 : Nat → Int32) (cs : List Int32) (fE lE : Nat) (E : Nat → List Int32 → Int32 × Nat × List Int32) (dp : Int32) (h_ta : ta < n) (h_ta_1 : ta + 1 < n) (h_rd : rd < n) (h_h : h < n) (h_h_9 : h + 9 < n) (h_h_10 : h + 10 < n) (h_h_11 : h + 11 < n) (m_ta : M ta = .inr (9, tapeX ad ta ln en bf x nu)) (m_ta_1 : M (ta + 1) = .inl (cB, 700, .inl bf)) (m_rd : M rd = .inr (4, [.ref (ad ta), .ref (ad h), .int ft])) (m_h : M h = .inr (0, hallF ad h hv)) (m_h_9 : M (h + 9) = .inr (5, ruleF ad (h + 9) (nI cs.length) td hg)) (m_h_10 : M (h + 10) = .inr (8, [.int 1, .ref (ad (h + 9 + 2))])) (m_h_11 : M (h + 11) = .inl (cI, 700, .inl (layC cs c0))) (hxe : x ≤ en) (hen : en ≤ 700) (srt : rd < ta ∨ ta + 1 < rd) (srh : rd < h ∨ h + 15 < rd) (sth : ta + 1 < h ∨ h + 15 < ta) (hcx : cs.length ≤ x) (hEB : eB en E) (hfE : 10 ≤ fE) (hlE : 200 ≤ lE) (hE : eCon l D cB cI cJ ad n yX4_readExpr wsX4_readExpr fE lE rd ta h en ln bf hv td hg c0 (dp + 1) E) : cWi l D cB cI cJ ad n M yX4_readProduct wsX4_readProduct (fE + 2) (lE + 45) [.ref (ad rd), .int dp] (fun r M' => ∃ (v0 : Int32), r = okI (eProd en bf E x cs).1 ∧ M' ta = .inr (9, tapeX ad ta ln en bf ((eProd en bf E x cs).2.1) v0) ∧ M' rd = .inr (4, [.ref (ad ta), .ref (ad h), .int (flt ft (eProd en bf E x cs).1)]) ∧ M' (h + 9) = .inr (5, ruleF ad (h + 9) (nI (eProd en bf E x cs).2.2.length) td hg) ∧ M' (h + 11) = .inl (cI, 700, .inl (layC (eProd en bf E x cs).2.2 c0)) ∧ ∀ q : Nat, q ≠ ta → q ≠ rd → q ≠ h + 9 → q ≠ h + 11 → M' q = M q) := by
  refine q_body (cc := cX4_readProduct) (maxL := 5) (ret := (some .boolean)) (by decide) rfl (Nat.le_of_ble_eq_true rfl) ?_
  intro p e s m args below meth c ls X hr hlocks hK hP hl
  obtain ⟨hx, hb, hml, hown, hts⟩ := id X
  have hS : va_S (ipA ad n) s.heap s.heap [] := va_S.rf
  have hl : lv_has ls 5 [(0, .ref (ad rd)), (1, .int dp)] := hl
  have hSB : eB en (ePart en bf E) := ePart_B hen hEB
  refine lv_aload_n hx hb dX4_readProduct_0 rfl (lv_at hl 0 rfl) ?_
  refine lv_iload_n hx hb dX4_readProduct_1 rfl (lv_at hl 1 rfl) ?_
  refine q_wrVi (As := [.int dp]) (rest := []) (c_X4_readPart l D cB cI cJ ad n M hI rd ta h en x ln nu ft bf hv td hg c0 cs fE lE E dp h_ta h_ta_1 h_rd h_h h_h_9 h_h_10 h_h_11 m_ta m_ta_1 m_rd m_h m_h_9 m_h_10 m_h_11 hxe hen srt srh sth hcx hEB hfE hlE hE) X hK hP hS hl.1 rfl gX4_readProduct_X4_readPart yd_X4_readPart ⟨by show fE + 1 + 1 ≤ fE + 2; omega, by show 8 + (3 + 11) + (lE + 23) ≤ lE + 45; omega⟩ h_rd m_rd (ci := 4) rfl rfl (Nat.le_of_ble_eq_true rfl) ⟨Nat.zero_le _, Nat.zero_le _⟩ dX4_readProduct_2 (fun r3 M2 H locs hp1 hP hS => ?_)
  obtain ⟨v0_4, rfl, g5, g6, g7, g8, fr9⟩ := hp1
  refine lv_istore_n (lv' := [(2, .int (okI (ePart en bf E x cs).1)), (0, .ref (ad rd)), (1, .int dp)]) hx hb dX4_readProduct_5 rfl hl (by decide) rfl (fun ls hl => ?_)
  refine lv_iconst (v := 0) hx hb dX4_readProduct_6 (by decide) ?_
  refine lv_istore_n (lv' := [(3, .int 0), (2, .int (okI (ePart en bf E x cs).1)), (0, .ref (ad rd)), (1, .int dp)]) hx hb dX4_readProduct_7 rfl hl (by decide) rfl (fun ls hl => ?_)
  have loop_8 : ∀ (fuel : Nat) (t : Nat) (r3 : Int32 × Nat × List Int32) (nu1 : Int32) (x2 : Int32) (x3 : Int32), 700 - t < fuel → (t ≤ 700) → (r3.2.1 ≤ en) → (r3.2.2.length ≤ r3.2.1) → (eLoop en bf (opP en bf) (ePart en bf E) (700 - t) r3 = eProd en bf E x cs) → x2 = okI r3.1 → x3 = nI t → ∀ (ML8 : Nat → va_E) (H : Heap) (locs : List Loc), ML8 ta = .inr (9, tapeX ad ta ln en bf r3.2.1 nu1) → ML8 rd = .inr (4, [.ref (ad ta), .ref (ad h), .int (flt ft r3.1)]) → ML8 (h + 9) = .inr (5, ruleF ad (h + 9) (nI r3.2.2.length) td hg) → ML8 (h + 11) = .inl (cI, 700, .inl (layC r3.2.2 c0)) → (∀ q : Nat, q ≠ ta → q ≠ rd → q ≠ h + 9 → q ≠ h + 11 → ML8 q = M q) → va_P D vwCl (ip ad n ML8) H → va_S (ipA ad n) s.heap H locs → ∀ (ls : Array Slot), lv_has ls 5 [(0, .ref (ad rd)), (1, .int dp), (2, .int x2), (3, .int x3)] → W p l e (rmOf (fE + 2) (lE + 45)) s m args below meth c H locs 0 0 (MQ below (va_Qi (fun r M' => ∃ (v0 : Int32), r = okI (eProd en bf E x cs).1 ∧ M' ta = .inr (9, tapeX ad ta ln en bf ((eProd en bf E x cs).2.1) v0) ∧ M' rd = .inr (4, [.ref (ad ta), .ref (ad h), .int (flt ft (eProd en bf E x cs).1)]) ∧ M' (h + 9) = .inr (5, ruleF ad (h + 9) (nI (eProd en bf E x cs).2.2.length) td hg) ∧ M' (h + 11) = .inl (cI, 700, .inl (layC (eProd en bf E x cs).2.2 c0)) ∧ ∀ q : Nat, q ≠ ta → q ≠ rd → q ≠ h + 9 → q ≠ h + 11 → M' q = M q) (fun M' t => va_P D vwCl (ip ad n M') t.heap) (ipA ad n)) args s 0 0 (ipA ad n)) (F0 m 8 ls []) := by
    intro fuel
    induction fuel with
    | zero =>
      intro t r3 nu1 x2 x3 hz
      exact absurd hz (Nat.not_lt_zero _)
    | succ fuel ih_8 =>
      intro t r3 nu1 x2 x3 hz_8 ht hx3 hc3 he e2 e3 ML8 H locs mL8_0 mL8_1 mL8_2 mL8_3 fL8 hP hS ls hl
      subst e2
      subst e3
      skip
      refine lv_iload_n hx hb dX4_readProduct_8 rfl (lv_at hl 3 rfl) ?_
      refine lv_sipush (v := 700) hx hb dX4_readProduct_9 (by decide) ?_
      refine lv_icmp_ge (tgt := 100) hx hb dX4_readProduct_12 (by decide) (fun c_12 => ?_) (fun c_12 => ?_)
      · skip
        have hfin : r3 = eProd en bf E x cs := by have h9 := eq_of_le (k := 700) c_12 (by decide) ht; rw [← he, h9]; rfl
        refine lv_iload_n hx hb dX4_readProduct_100 rfl (lv_at hl 2 rfl) ?_
        exact q_wzret X hr hlocks hP hS (okI_nb _) ⟨nu1, (by rw [← hfin]), (by rw [← hfin]; exact mL8_0), (by rw [← hfin]; exact mL8_1), (by rw [← hfin]; exact mL8_2), (by rw [← hfin]; exact mL8_3), (fun q n0 n1 n2 n3 => (fL8 q n0 n1 n2 n3))⟩ dX4_readProduct_101
      · skip
        have ht9 := lt_of_nlt (k := 700) c_12 (by decide) ht
        refine lv_iload_n hx hb dX4_readProduct_15 rfl (lv_at hl 2 rfl) ?_
        refine lv_if_eq (tgt := 100) hx hb dX4_readProduct_16 (by decide) (fun c_16 => ?_) (fun c_16 => ?_)
        · skip
          have hfin : r3 = eProd en bf E x cs := (eLoop_bad (okI_z c_16) _).symm.trans he
          refine lv_iload_n hx hb dX4_readProduct_100 rfl (lv_at hl 2 rfl) ?_
          exact q_wzret X hr hlocks hP hS (okI_nb _) ⟨nu1, (by rw [← hfin]), (by rw [← hfin]; exact mL8_0), (by rw [← hfin]; exact mL8_1), (by rw [← hfin]; exact mL8_2), (by rw [← hfin]; exact mL8_3), (fun q n0 n1 n2 n3 => (fL8 q n0 n1 n2 n3))⟩ dX4_readProduct_101
        · skip
          refine lv_aload_n hx hb dX4_readProduct_19 rfl (lv_at hl 0 rfl) ?_
          refine q_get (v := .ref (ad ta)) (fs := [.ref (ad ta), .ref (ad h), .int (flt ft r3.1)]) X hK hP fX4_readProduct_9 h_rd mL8_1 rfl dX4_readProduct_20 ?_
          refine q_get (v := .int (kX en bf r3.2.1)) (fs := tapeX ad ta ln en bf r3.2.1 nu1) X hK hP fX4_readProduct_34 h_ta mL8_0 rfl dX4_readProduct_23 ?_
          refine lv_bipush (v := 42) hx hb dX4_readProduct_26 (by decide) ?_
          refine lv_icmp_eq (tgt := 43) hx hb dX4_readProduct_28 (by decide) (fun c_28 => ?_) (fun c_28 => ?_)
          · skip
            have hop : opP en bf r3.2.1 = (-17) := (by rw [opP, if_pos c_28]); have hop0 : ¬ opP en bf r3.2.1 = 0 := (by rw [hop]; decide); have hgt := opP_B (bf := bf) hen r3.2.1 hx3 hop0; have hle := nX_le (bf := bf) hx3 hen; have hbd := hSB (nX en bf r3.2.1) r3.2.2 hle
            refine lv_aload_n hx hb dX4_readProduct_43 rfl (lv_at hl 0 rfl) ?_
            refine q_get (v := .ref (ad ta)) (fs := [.ref (ad ta), .ref (ad h), .int (flt ft r3.1)]) X hK hP fX4_readProduct_9 h_rd mL8_1 rfl dX4_readProduct_44 ?_
            refine q_get (v := .int (kX en bf r3.2.1)) (fs := tapeX ad ta ln en bf r3.2.1 nu1) X hK hP fX4_readProduct_34 h_ta mL8_0 rfl dX4_readProduct_47 ?_
            refine lv_bipush (v := 42) hx hb dX4_readProduct_50 (by decide) ?_
            refine lv_icmp_ne (tgt := 60) hx hb dX4_readProduct_52 (by decide) (fun c_52 => ?_) (fun c_52 => ?_)
            · exact absurd c_28 c_52
            · skip
              refine lv_bipush (v := (-17)) hx hb dX4_readProduct_55 (by decide) ?_
              refine lv_goto (tgt := 62) hx hb dX4_readProduct_57 (by decide) ?_
              refine lv_istore (lv' := [(4, .int (-17)), (0, .ref (ad rd)), (1, .int dp), (2, .int (okI r3.1)), (3, .int (nI t))]) hx hb dX4_readProduct_62 hl (by decide) rfl (fun ls hl => ?_)
              refine lv_aload_n hx hb dX4_readProduct_64 rfl (lv_at hl 1 rfl) ?_
              refine q_get (v := .ref (ad ta)) (fs := [.ref (ad ta), .ref (ad h), .int (flt ft r3.1)]) X hK hP fX4_readProduct_9 h_rd mL8_1 rfl dX4_readProduct_65 ?_
              refine q_wrVv (As := []) (rest := []) (c_X9_adv l D cB cI cJ ad n ML8 hI ta en r3.2.1 ln nu1 bf h_ta h_ta_1 mL8_0 ((fL8 (ta + 1) (by omega) (by omega) (by omega) (by omega)).trans m_ta_1) (by first | omega | assumption | (apply nX_le <;> (repeat' (first | assumption | apply nX_le))) | (repeat' (first | assumption | apply nX_le | exact isN_k (by assumption) | exact isT_k (by assumption))) | exact vp_in_nI (by omega) (by decide)) hen) X hK hP hS hl.1 rfl gX4_readProduct_X9_advance yd_X9_advance ⟨by show 5 + 1 ≤ fE + 2; omega, by show 8 + (4 + 11) + (109) ≤ lE + 45; omega⟩ h_ta mL8_0 (ci := 9) rfl rfl (Nat.le_of_ble_eq_true rfl) ⟨Nat.zero_le _, Nat.zero_le _⟩ dX4_readProduct_68 (fun M11 H locs hp10 hP hS => ?_)
              obtain ⟨g13, fr14⟩ := hp10
              refine lv_aload_n hx hb dX4_readProduct_71 rfl (lv_at hl 1 rfl) ?_
              refine lv_iload_n hx hb dX4_readProduct_72 rfl (lv_at hl 2 rfl) ?_
              refine q_wrVi (As := [.int dp]) (rest := []) (c_X4_readPart l D cB cI cJ ad n M11 hI rd ta h en (nX en bf r3.2.1) ln (uX en bf r3.2.1 nu1) (flt ft r3.1) bf hv td hg c0 r3.2.2 fE lE E dp h_ta h_ta_1 h_rd h_h h_h_9 h_h_10 h_h_11 g13 ((fr14 (ta + 1) (by omega)).trans ((fL8 (ta + 1) (by omega) (by omega) (by omega) (by omega)).trans m_ta_1)) ((fr14 rd (by omega)).trans mL8_1) ((fr14 h (by omega)).trans ((fL8 h (by omega) (by omega) (by omega) (by omega)).trans m_h)) ((fr14 (h + 9) (by omega)).trans mL8_2) ((fr14 (h + 10) (by omega)).trans ((fL8 (h + 10) (by omega) (by omega) (by omega) (by omega)).trans m_h_10)) ((fr14 (h + 11) (by omega)).trans mL8_3) (by first | omega | assumption | (apply nX_le <;> (repeat' (first | assumption | apply nX_le))) | (repeat' (first | assumption | apply nX_le | exact isN_k (by assumption) | exact isT_k (by assumption))) | exact vp_in_nI (by omega) (by decide)) hen srt srh sth (by first | omega | assumption | (apply nX_le <;> (repeat' (first | assumption | apply nX_le))) | (repeat' (first | assumption | apply nX_le | exact isN_k (by assumption) | exact isT_k (by assumption))) | exact vp_in_nI (by omega) (by decide)) hEB hfE hlE hE) X hK hP hS hl.1 rfl gX4_readProduct_X4_readPart yd_X4_readPart ⟨by show fE + 1 + 1 ≤ fE + 2; omega, by show 8 + (3 + 11) + (lE + 23) ≤ lE + 45; omega⟩ h_rd ((fr14 rd (by omega)).trans mL8_1) (ci := 4) rfl rfl (Nat.le_of_ble_eq_true rfl) ⟨Nat.zero_le _, Nat.zero_le _⟩ dX4_readProduct_73 (fun r17 M16 H locs hp15 hP hS => ?_)
              obtain ⟨v0_18, rfl, g19, g20, g21, g22, fr23⟩ := hp15
              refine lv_if_eq (tgt := 92) hx hb dX4_readProduct_76 (by decide) (fun c_76 => ?_) (fun c_76 => ?_)
              · skip
                refine lv_iconst (v := 0) hx hb dX4_readProduct_92 (by decide) ?_
                refine lv_istore_n (lv' := [(2, .int 0), (4, .int (-17)), (0, .ref (ad rd)), (1, .int dp), (3, .int (nI t))]) hx hb dX4_readProduct_93 rfl hl (by decide) rfl (fun ls hl => ?_)
                refine lv_iinc (v := ((nI t) + 1)) (lv' := [(3, .int ((nI t) + 1)), (2, .int 0), (4, .int (-17)), (0, .ref (ad rd)), (1, .int dp)]) hx hb dX4_readProduct_94 hl (k := 4) rfl rfl (by decide) rfl (fun ls hl => ?_)
                refine lv_goto (tgt := 8) hx hb dX4_readProduct_97 (by decide) ?_
                exact ih_8 (t + 1) (eIf (ePart en bf E (nX en bf r3.2.1) r3.2.2) (opP en bf r3.2.1)) v0_18 0 ((nI t) + 1) (by omega) (by omega) (by rw [eIf_x]; exact hbd.2.1) (by have := eIf_len (ePart en bf E (nX en bf r3.2.1) r3.2.2) (opP en bf r3.2.1); rw [eIf_x]; omega) (by rw [← he, show 700 - t = (700 - (t + 1)) + 1 by omega, eLoop_on (okI_o c_16) hop0]) (by first | (rw [eIf_1, okI_1 (okI_o c_76)]; done) | (rw [eIf_1, okI_0 (okI_z c_76)]; done)) (by exact nI_1 _) _ _ _ (by rw [eIf_x]; exact g19) (by refine g20.trans ?_; rw [eIf_1]; first | (rw [flt_0 (okI_o c_16), flt_0 (okI_o c_76)]; done) | (rw [flt_0 (okI_o c_16)]; done)) (by refine g21.trans ?_; first | (rw [eIf_t (okI_o c_76), hop]; done) | (rw [eIf_f (okI_z c_76)]; done)) (by refine g22.trans ?_; first | (rw [eIf_t (okI_o c_76), hop]; done) | (rw [eIf_f (okI_z c_76)]; done)) (fun q n0 n1 n2 n3 => ((fr23 q n0 n1 n2 n3).trans ((fr14 q n0).trans (fL8 q n0 n1 n2 n3)))) hP hS ls (lv_sub hl [3, 4, 1, 0] rfl)
              · skip
                refine lv_aload_n hx hb dX4_readProduct_79 rfl (lv_at hl 1 rfl) ?_
                refine lv_iload hx hb dX4_readProduct_80 (lv_at hl 0 rfl) ?_
                refine q_wrVi (As := [.int (-17)]) (rest := []) (c_X4_put l D cB cI cJ ad n M16 hI rd ta h en ((ePart en bf E (nX en bf r3.2.1) r3.2.2).2.1) ln v0_18 (flt (flt ft r3.1) (ePart en bf E (nX en bf r3.2.1) r3.2.2).1) bf hv td hg c0 ((ePart en bf E (nX en bf r3.2.1) r3.2.2).2.2) (-17) h_ta h_ta_1 h_rd h_h h_h_9 h_h_10 h_h_11 g19 ((fr23 (ta + 1) (by omega) (by omega) (by omega) (by omega)).trans ((fr14 (ta + 1) (by omega)).trans ((fL8 (ta + 1) (by omega) (by omega) (by omega) (by omega)).trans m_ta_1))) g20 ((fr23 h (by omega) (by omega) (by omega) (by omega)).trans ((fr14 h (by omega)).trans ((fL8 h (by omega) (by omega) (by omega) (by omega)).trans m_h))) g21 ((fr23 (h + 10) (by omega) (by omega) (by omega) (by omega)).trans ((fr14 (h + 10) (by omega)).trans ((fL8 (h + 10) (by omega) (by omega) (by omega) (by omega)).trans m_h_10))) g22 (by first | omega | assumption | (apply nX_le <;> (repeat' (first | assumption | apply nX_le))) | (repeat' (first | assumption | apply nX_le | exact isN_k (by assumption) | exact isT_k (by assumption))) | exact vp_in_nI (by omega) (by decide)) hen srt srh sth (by first | omega | assumption | (apply nX_le <;> (repeat' (first | assumption | apply nX_le))) | (repeat' (first | assumption | apply nX_le | exact isN_k (by assumption) | exact isT_k (by assumption))) | exact vp_in_nI (by omega) (by decide))) X hK hP hS hl.1 rfl gX4_readProduct_X4_put yd_X4_put ⟨by show 2 + 1 ≤ fE + 2; omega, by show 8 + (2 + 11) + (43) ≤ lE + 45; omega⟩ h_rd g20 (ci := 4) rfl rfl (Nat.le_of_ble_eq_true rfl) ⟨Nat.zero_le _, Nat.zero_le _⟩ dX4_readProduct_82 (fun r26 M25 H locs hp24 hP hS => ?_)
                obtain ⟨rfl, g27, g28, fr29⟩ := hp24
                refine lv_if_eq (tgt := 92) hx hb dX4_readProduct_85 (by decide) (fun c_85 => ?_) (fun c_85 => ?_)
                · exact absurd c_85 (by decide)
                · clear c_85
                  refine lv_iconst (v := 1) hx hb dX4_readProduct_88 (by decide) ?_
                  refine lv_goto (tgt := 93) hx hb dX4_readProduct_89 (by decide) ?_
                  refine lv_istore_n (lv' := [(2, .int 1), (4, .int (-17)), (0, .ref (ad rd)), (1, .int dp), (3, .int (nI t))]) hx hb dX4_readProduct_93 rfl hl (by decide) rfl (fun ls hl => ?_)
                  refine lv_iinc (v := ((nI t) + 1)) (lv' := [(3, .int ((nI t) + 1)), (2, .int 1), (4, .int (-17)), (0, .ref (ad rd)), (1, .int dp)]) hx hb dX4_readProduct_94 hl (k := 4) rfl rfl (by decide) rfl (fun ls hl => ?_)
                  refine lv_goto (tgt := 8) hx hb dX4_readProduct_97 (by decide) ?_
                  exact ih_8 (t + 1) (eIf (ePart en bf E (nX en bf r3.2.1) r3.2.2) (opP en bf r3.2.1)) v0_18 1 ((nI t) + 1) (by omega) (by omega) (by rw [eIf_x]; exact hbd.2.1) (by have := eIf_len (ePart en bf E (nX en bf r3.2.1) r3.2.2) (opP en bf r3.2.1); rw [eIf_x]; omega) (by rw [← he, show 700 - t = (700 - (t + 1)) + 1 by omega, eLoop_on (okI_o c_16) hop0]) (by first | (rw [eIf_1, okI_1 (okI_o c_76)]; done) | (rw [eIf_1, okI_0 (okI_z c_76)]; done)) (by exact nI_1 _) _ _ _ (by rw [eIf_x]; exact ((fr29 ta (by omega) (by omega)).trans g19)) (by refine ((fr29 rd (by omega) (by omega)).trans g20).trans ?_; rw [eIf_1]; first | (rw [flt_0 (okI_o c_16), flt_0 (okI_o c_76)]; done) | (rw [flt_0 (okI_o c_16)]; done)) (by refine g27.trans ?_; first | (rw [eIf_t (okI_o c_76), hop]; done) | (rw [eIf_f (okI_z c_76)]; done)) (by refine g28.trans ?_; first | (rw [eIf_t (okI_o c_76), hop]; done) | (rw [eIf_f (okI_z c_76)]; done)) (fun q n0 n1 n2 n3 => ((fr29 q n2 n3).trans ((fr23 q n0 n1 n2 n3).trans ((fr14 q n0).trans (fL8 q n0 n1 n2 n3))))) hP hS ls (lv_sub hl [3, 4, 1, 0] rfl)
          · skip
            refine lv_aload_n hx hb dX4_readProduct_31 rfl (lv_at hl 0 rfl) ?_
            refine q_get (v := .ref (ad ta)) (fs := [.ref (ad ta), .ref (ad h), .int (flt ft r3.1)]) X hK hP fX4_readProduct_9 h_rd mL8_1 rfl dX4_readProduct_32 ?_
            refine q_get (v := .int (kX en bf r3.2.1)) (fs := tapeX ad ta ln en bf r3.2.1 nu1) X hK hP fX4_readProduct_34 h_ta mL8_0 rfl dX4_readProduct_35 ?_
            refine lv_bipush (v := 47) hx hb dX4_readProduct_38 (by decide) ?_
            refine lv_icmp_ne (tgt := 100) hx hb dX4_readProduct_40 (by decide) (fun c_40 => ?_) (fun c_40 => ?_)
            · skip
              have hfin : r3 = eProd en bf E x cs := (eLoop_op (by rw [opP, if_neg c_28, if_neg c_40]) _).symm.trans he
              refine lv_iload_n hx hb dX4_readProduct_100 rfl (lv_at hl 2 rfl) ?_
              exact q_wzret X hr hlocks hP hS (okI_nb _) ⟨nu1, (by rw [← hfin]), (by rw [← hfin]; exact mL8_0), (by rw [← hfin]; exact mL8_1), (by rw [← hfin]; exact mL8_2), (by rw [← hfin]; exact mL8_3), (fun q n0 n1 n2 n3 => (fL8 q n0 n1 n2 n3))⟩ dX4_readProduct_101
            · skip
              have hop : opP en bf r3.2.1 = (-18) := (by rw [opP, if_neg c_28, if_pos c_40]); have hop0 : ¬ opP en bf r3.2.1 = 0 := (by rw [hop]; decide); have hgt := opP_B (bf := bf) hen r3.2.1 hx3 hop0; have hle := nX_le (bf := bf) hx3 hen; have hbd := hSB (nX en bf r3.2.1) r3.2.2 hle
              refine lv_aload_n hx hb dX4_readProduct_43 rfl (lv_at hl 0 rfl) ?_
              refine q_get (v := .ref (ad ta)) (fs := [.ref (ad ta), .ref (ad h), .int (flt ft r3.1)]) X hK hP fX4_readProduct_9 h_rd mL8_1 rfl dX4_readProduct_44 ?_
              refine q_get (v := .int (kX en bf r3.2.1)) (fs := tapeX ad ta ln en bf r3.2.1 nu1) X hK hP fX4_readProduct_34 h_ta mL8_0 rfl dX4_readProduct_47 ?_
              refine lv_bipush (v := 42) hx hb dX4_readProduct_50 (by decide) ?_
              refine lv_icmp_ne (tgt := 60) hx hb dX4_readProduct_52 (by decide) (fun c_52 => ?_) (fun c_52 => ?_)
              · skip
                refine lv_bipush (v := (-18)) hx hb dX4_readProduct_60 (by decide) ?_
                refine lv_istore (lv' := [(4, .int (-18)), (0, .ref (ad rd)), (1, .int dp), (2, .int (okI r3.1)), (3, .int (nI t))]) hx hb dX4_readProduct_62 hl (by decide) rfl (fun ls hl => ?_)
                refine lv_aload_n hx hb dX4_readProduct_64 rfl (lv_at hl 1 rfl) ?_
                refine q_get (v := .ref (ad ta)) (fs := [.ref (ad ta), .ref (ad h), .int (flt ft r3.1)]) X hK hP fX4_readProduct_9 h_rd mL8_1 rfl dX4_readProduct_65 ?_
                refine q_wrVv (As := []) (rest := []) (c_X9_adv l D cB cI cJ ad n ML8 hI ta en r3.2.1 ln nu1 bf h_ta h_ta_1 mL8_0 ((fL8 (ta + 1) (by omega) (by omega) (by omega) (by omega)).trans m_ta_1) (by first | omega | assumption | (apply nX_le <;> (repeat' (first | assumption | apply nX_le))) | (repeat' (first | assumption | apply nX_le | exact isN_k (by assumption) | exact isT_k (by assumption))) | exact vp_in_nI (by omega) (by decide)) hen) X hK hP hS hl.1 rfl gX4_readProduct_X9_advance yd_X9_advance ⟨by show 5 + 1 ≤ fE + 2; omega, by show 8 + (4 + 11) + (109) ≤ lE + 45; omega⟩ h_ta mL8_0 (ci := 9) rfl rfl (Nat.le_of_ble_eq_true rfl) ⟨Nat.zero_le _, Nat.zero_le _⟩ dX4_readProduct_68 (fun M31 H locs hp30 hP hS => ?_)
                obtain ⟨g33, fr34⟩ := hp30
                refine lv_aload_n hx hb dX4_readProduct_71 rfl (lv_at hl 1 rfl) ?_
                refine lv_iload_n hx hb dX4_readProduct_72 rfl (lv_at hl 2 rfl) ?_
                refine q_wrVi (As := [.int dp]) (rest := []) (c_X4_readPart l D cB cI cJ ad n M31 hI rd ta h en (nX en bf r3.2.1) ln (uX en bf r3.2.1 nu1) (flt ft r3.1) bf hv td hg c0 r3.2.2 fE lE E dp h_ta h_ta_1 h_rd h_h h_h_9 h_h_10 h_h_11 g33 ((fr34 (ta + 1) (by omega)).trans ((fL8 (ta + 1) (by omega) (by omega) (by omega) (by omega)).trans m_ta_1)) ((fr34 rd (by omega)).trans mL8_1) ((fr34 h (by omega)).trans ((fL8 h (by omega) (by omega) (by omega) (by omega)).trans m_h)) ((fr34 (h + 9) (by omega)).trans mL8_2) ((fr34 (h + 10) (by omega)).trans ((fL8 (h + 10) (by omega) (by omega) (by omega) (by omega)).trans m_h_10)) ((fr34 (h + 11) (by omega)).trans mL8_3) (by first | omega | assumption | (apply nX_le <;> (repeat' (first | assumption | apply nX_le))) | (repeat' (first | assumption | apply nX_le | exact isN_k (by assumption) | exact isT_k (by assumption))) | exact vp_in_nI (by omega) (by decide)) hen srt srh sth (by first | omega | assumption | (apply nX_le <;> (repeat' (first | assumption | apply nX_le))) | (repeat' (first | assumption | apply nX_le | exact isN_k (by assumption) | exact isT_k (by assumption))) | exact vp_in_nI (by omega) (by decide)) hEB hfE hlE hE) X hK hP hS hl.1 rfl gX4_readProduct_X4_readPart yd_X4_readPart ⟨by show fE + 1 + 1 ≤ fE + 2; omega, by show 8 + (3 + 11) + (lE + 23) ≤ lE + 45; omega⟩ h_rd ((fr34 rd (by omega)).trans mL8_1) (ci := 4) rfl rfl (Nat.le_of_ble_eq_true rfl) ⟨Nat.zero_le _, Nat.zero_le _⟩ dX4_readProduct_73 (fun r37 M36 H locs hp35 hP hS => ?_)
                obtain ⟨v0_38, rfl, g39, g40, g41, g42, fr43⟩ := hp35
                refine lv_if_eq (tgt := 92) hx hb dX4_readProduct_76 (by decide) (fun c_76 => ?_) (fun c_76 => ?_)
                · skip
                  refine lv_iconst (v := 0) hx hb dX4_readProduct_92 (by decide) ?_
                  refine lv_istore_n (lv' := [(2, .int 0), (4, .int (-18)), (0, .ref (ad rd)), (1, .int dp), (3, .int (nI t))]) hx hb dX4_readProduct_93 rfl hl (by decide) rfl (fun ls hl => ?_)
                  refine lv_iinc (v := ((nI t) + 1)) (lv' := [(3, .int ((nI t) + 1)), (2, .int 0), (4, .int (-18)), (0, .ref (ad rd)), (1, .int dp)]) hx hb dX4_readProduct_94 hl (k := 4) rfl rfl (by decide) rfl (fun ls hl => ?_)
                  refine lv_goto (tgt := 8) hx hb dX4_readProduct_97 (by decide) ?_
                  exact ih_8 (t + 1) (eIf (ePart en bf E (nX en bf r3.2.1) r3.2.2) (opP en bf r3.2.1)) v0_38 0 ((nI t) + 1) (by omega) (by omega) (by rw [eIf_x]; exact hbd.2.1) (by have := eIf_len (ePart en bf E (nX en bf r3.2.1) r3.2.2) (opP en bf r3.2.1); rw [eIf_x]; omega) (by rw [← he, show 700 - t = (700 - (t + 1)) + 1 by omega, eLoop_on (okI_o c_16) hop0]) (by first | (rw [eIf_1, okI_1 (okI_o c_76)]; done) | (rw [eIf_1, okI_0 (okI_z c_76)]; done)) (by exact nI_1 _) _ _ _ (by rw [eIf_x]; exact g39) (by refine g40.trans ?_; rw [eIf_1]; first | (rw [flt_0 (okI_o c_16), flt_0 (okI_o c_76)]; done) | (rw [flt_0 (okI_o c_16)]; done)) (by refine g41.trans ?_; first | (rw [eIf_t (okI_o c_76), hop]; done) | (rw [eIf_f (okI_z c_76)]; done)) (by refine g42.trans ?_; first | (rw [eIf_t (okI_o c_76), hop]; done) | (rw [eIf_f (okI_z c_76)]; done)) (fun q n0 n1 n2 n3 => ((fr43 q n0 n1 n2 n3).trans ((fr34 q n0).trans (fL8 q n0 n1 n2 n3)))) hP hS ls (lv_sub hl [3, 4, 1, 0] rfl)
                · skip
                  refine lv_aload_n hx hb dX4_readProduct_79 rfl (lv_at hl 1 rfl) ?_
                  refine lv_iload hx hb dX4_readProduct_80 (lv_at hl 0 rfl) ?_
                  refine q_wrVi (As := [.int (-18)]) (rest := []) (c_X4_put l D cB cI cJ ad n M36 hI rd ta h en ((ePart en bf E (nX en bf r3.2.1) r3.2.2).2.1) ln v0_38 (flt (flt ft r3.1) (ePart en bf E (nX en bf r3.2.1) r3.2.2).1) bf hv td hg c0 ((ePart en bf E (nX en bf r3.2.1) r3.2.2).2.2) (-18) h_ta h_ta_1 h_rd h_h h_h_9 h_h_10 h_h_11 g39 ((fr43 (ta + 1) (by omega) (by omega) (by omega) (by omega)).trans ((fr34 (ta + 1) (by omega)).trans ((fL8 (ta + 1) (by omega) (by omega) (by omega) (by omega)).trans m_ta_1))) g40 ((fr43 h (by omega) (by omega) (by omega) (by omega)).trans ((fr34 h (by omega)).trans ((fL8 h (by omega) (by omega) (by omega) (by omega)).trans m_h))) g41 ((fr43 (h + 10) (by omega) (by omega) (by omega) (by omega)).trans ((fr34 (h + 10) (by omega)).trans ((fL8 (h + 10) (by omega) (by omega) (by omega) (by omega)).trans m_h_10))) g42 (by first | omega | assumption | (apply nX_le <;> (repeat' (first | assumption | apply nX_le))) | (repeat' (first | assumption | apply nX_le | exact isN_k (by assumption) | exact isT_k (by assumption))) | exact vp_in_nI (by omega) (by decide)) hen srt srh sth (by first | omega | assumption | (apply nX_le <;> (repeat' (first | assumption | apply nX_le))) | (repeat' (first | assumption | apply nX_le | exact isN_k (by assumption) | exact isT_k (by assumption))) | exact vp_in_nI (by omega) (by decide))) X hK hP hS hl.1 rfl gX4_readProduct_X4_put yd_X4_put ⟨by show 2 + 1 ≤ fE + 2; omega, by show 8 + (2 + 11) + (43) ≤ lE + 45; omega⟩ h_rd g40 (ci := 4) rfl rfl (Nat.le_of_ble_eq_true rfl) ⟨Nat.zero_le _, Nat.zero_le _⟩ dX4_readProduct_82 (fun r46 M45 H locs hp44 hP hS => ?_)
                  obtain ⟨rfl, g47, g48, fr49⟩ := hp44
                  refine lv_if_eq (tgt := 92) hx hb dX4_readProduct_85 (by decide) (fun c_85 => ?_) (fun c_85 => ?_)
                  · exact absurd c_85 (by decide)
                  · clear c_85
                    refine lv_iconst (v := 1) hx hb dX4_readProduct_88 (by decide) ?_
                    refine lv_goto (tgt := 93) hx hb dX4_readProduct_89 (by decide) ?_
                    refine lv_istore_n (lv' := [(2, .int 1), (4, .int (-18)), (0, .ref (ad rd)), (1, .int dp), (3, .int (nI t))]) hx hb dX4_readProduct_93 rfl hl (by decide) rfl (fun ls hl => ?_)
                    refine lv_iinc (v := ((nI t) + 1)) (lv' := [(3, .int ((nI t) + 1)), (2, .int 1), (4, .int (-18)), (0, .ref (ad rd)), (1, .int dp)]) hx hb dX4_readProduct_94 hl (k := 4) rfl rfl (by decide) rfl (fun ls hl => ?_)
                    refine lv_goto (tgt := 8) hx hb dX4_readProduct_97 (by decide) ?_
                    exact ih_8 (t + 1) (eIf (ePart en bf E (nX en bf r3.2.1) r3.2.2) (opP en bf r3.2.1)) v0_38 1 ((nI t) + 1) (by omega) (by omega) (by rw [eIf_x]; exact hbd.2.1) (by have := eIf_len (ePart en bf E (nX en bf r3.2.1) r3.2.2) (opP en bf r3.2.1); rw [eIf_x]; omega) (by rw [← he, show 700 - t = (700 - (t + 1)) + 1 by omega, eLoop_on (okI_o c_16) hop0]) (by first | (rw [eIf_1, okI_1 (okI_o c_76)]; done) | (rw [eIf_1, okI_0 (okI_z c_76)]; done)) (by exact nI_1 _) _ _ _ (by rw [eIf_x]; exact ((fr49 ta (by omega) (by omega)).trans g39)) (by refine ((fr49 rd (by omega) (by omega)).trans g40).trans ?_; rw [eIf_1]; first | (rw [flt_0 (okI_o c_16), flt_0 (okI_o c_76)]; done) | (rw [flt_0 (okI_o c_16)]; done)) (by refine g47.trans ?_; first | (rw [eIf_t (okI_o c_76), hop]; done) | (rw [eIf_f (okI_z c_76)]; done)) (by refine g48.trans ?_; first | (rw [eIf_t (okI_o c_76), hop]; done) | (rw [eIf_f (okI_z c_76)]; done)) (fun q n0 n1 n2 n3 => ((fr49 q n2 n3).trans ((fr43 q n0 n1 n2 n3).trans ((fr34 q n0).trans (fL8 q n0 n1 n2 n3))))) hP hS ls (lv_sub hl [3, 4, 1, 0] rfl)
              · exact absurd c_52 c_28
  exact loop_8 (701) 0 (ePart en bf E x cs) v0_4 (okI (ePart en bf E x cs).1) 0 (by omega) (by omega) (by exact (hSB x cs hxe).2.1) (by have := hSB x cs hxe; omega) (by rfl) (by rfl) (by rfl) _ _ _ g5 g6 g7 g8 (fun q n0 n1 n2 n3 => (fr9 q n0 n1 n2 n3)) hP hS ls (lv_sub hl [2, 3, 1, 0] rfl)
theorem yd_X4_readProduct : YD yX4_readProduct 1 := ⟨by decide +kernel, by decide +kernel, by decide +kernel⟩
set_option maxRecDepth 20000 in
theorem fX4_readSum_9 : FL wsX4_readSum RX4 9 4 0 := ⟨RX4, TX4, 3, rfl, by decide +kernel, by decide, by decide +kernel⟩
set_option maxRecDepth 20000 in
theorem fX4_readSum_34 : FL wsX4_readSum RX4 34 9 5 := ⟨RX9, TX9, 8, rfl, by decide +kernel, by decide, by decide +kernel⟩
set_option maxHeartbeats 600000 in
set_option maxRecDepth 100000 in
theorem c_X4_readSum (l : Launch) (D : va_G) (cB cI cJ : ClassId) (ad : Nat → Nat) (n : Nat) (M : Nat → va_E) (hI : ipI ad n) (rd ta h en x : Nat) (ln nu ft : Int32) (bf : Nat → Int32) (hv : Nat → Int32) (td hg : Int32) (c0 : Nat → Int32) (cs : List Int32) (fE lE : Nat) (E : Nat → List Int32 → Int32 × Nat × List Int32) (dp : Int32) (h_ta : ta < n) (h_ta_1 : ta + 1 < n) (h_rd : rd < n) (h_h : h < n) (h_h_9 : h + 9 < n) (h_h_10 : h + 10 < n) (h_h_11 : h + 11 < n) (m_ta : M ta = .inr (9, tapeX ad ta ln en bf x nu)) (m_ta_1 : M (ta + 1) = .inl (cB, 700, .inl bf)) (m_rd : M rd = .inr (4, [.ref (ad ta), .ref (ad h), .int ft])) (m_h : M h = .inr (0, hallF ad h hv)) (m_h_9 : M (h + 9) = .inr (5, ruleF ad (h + 9) (nI cs.length) td hg)) (m_h_10 : M (h + 10) = .inr (8, [.int 1, .ref (ad (h + 9 + 2))])) (m_h_11 : M (h + 11) = .inl (cI, 700, .inl (layC cs c0))) (hxe : x ≤ en) (hen : en ≤ 700) (srt : rd < ta ∨ ta + 1 < rd) (srh : rd < h ∨ h + 15 < rd) (sth : ta + 1 < h ∨ h + 15 < ta) (hcx : cs.length ≤ x) (hEB : eB en E) (hfE : 10 ≤ fE) (hlE : 200 ≤ lE) (hE : eCon l D cB cI cJ ad n yX4_readExpr wsX4_readExpr fE lE rd ta h en ln bf hv td hg c0 (dp + 1) E) : cWi l D cB cI cJ ad n M yX4_readSum wsX4_readSum (fE + 3) (lE + 69) [.ref (ad rd), .int dp] (fun r M' => ∃ (v0 : Int32), r = okI (eSum en bf E x cs).1 ∧ M' ta = .inr (9, tapeX ad ta ln en bf ((eSum en bf E x cs).2.1) v0) ∧ M' rd = .inr (4, [.ref (ad ta), .ref (ad h), .int (flt ft (eSum en bf E x cs).1)]) ∧ M' (h + 9) = .inr (5, ruleF ad (h + 9) (nI (eSum en bf E x cs).2.2.length) td hg) ∧ M' (h + 11) = .inl (cI, 700, .inl (layC (eSum en bf E x cs).2.2 c0)) ∧ ∀ q : Nat, q ≠ ta → q ≠ rd → q ≠ h + 9 → q ≠ h + 11 → M' q = M q) := by
  refine q_body (cc := cX4_readSum) (maxL := 5) (ret := (some .boolean)) (by decide) rfl (Nat.le_of_ble_eq_true rfl) ?_
  intro p e s m args below meth c ls X hr hlocks hK hP hl
  obtain ⟨hx, hb, hml, hown, hts⟩ := id X
  have hS : va_S (ipA ad n) s.heap s.heap [] := va_S.rf
  have hl : lv_has ls 5 [(0, .ref (ad rd)), (1, .int dp)] := hl
  have hSB : eB en (eProd en bf E) := eProd_B hen hEB
  refine lv_aload_n hx hb dX4_readSum_0 rfl (lv_at hl 0 rfl) ?_
  refine lv_iload_n hx hb dX4_readSum_1 rfl (lv_at hl 1 rfl) ?_
  refine q_wrVi (As := [.int dp]) (rest := []) (c_X4_readProduct l D cB cI cJ ad n M hI rd ta h en x ln nu ft bf hv td hg c0 cs fE lE E dp h_ta h_ta_1 h_rd h_h h_h_9 h_h_10 h_h_11 m_ta m_ta_1 m_rd m_h m_h_9 m_h_10 m_h_11 hxe hen srt srh sth hcx hEB hfE hlE hE) X hK hP hS hl.1 rfl gX4_readSum_X4_readProduct yd_X4_readProduct ⟨by show fE + 2 + 1 ≤ fE + 3; omega, by show 8 + (5 + 11) + (lE + 45) ≤ lE + 69; omega⟩ h_rd m_rd (ci := 4) rfl rfl (Nat.le_of_ble_eq_true rfl) ⟨Nat.zero_le _, Nat.zero_le _⟩ dX4_readSum_2 (fun r3 M2 H locs hp1 hP hS => ?_)
  obtain ⟨v0_4, rfl, g5, g6, g7, g8, fr9⟩ := hp1
  refine lv_istore_n (lv' := [(2, .int (okI (eProd en bf E x cs).1)), (0, .ref (ad rd)), (1, .int dp)]) hx hb dX4_readSum_5 rfl hl (by decide) rfl (fun ls hl => ?_)
  refine lv_iconst (v := 0) hx hb dX4_readSum_6 (by decide) ?_
  refine lv_istore_n (lv' := [(3, .int 0), (2, .int (okI (eProd en bf E x cs).1)), (0, .ref (ad rd)), (1, .int dp)]) hx hb dX4_readSum_7 rfl hl (by decide) rfl (fun ls hl => ?_)
  have loop_8 : ∀ (fuel : Nat) (t : Nat) (r3 : Int32 × Nat × List Int32) (nu1 : Int32) (x2 : Int32) (x3 : Int32), 700 - t < fuel → (t ≤ 700) → (r3.2.1 ≤ en) → (r3.2.2.length ≤ r3.2.1) → (eLoop en bf (opS en bf) (eProd en bf E) (700 - t) r3 = eSum en bf E x cs) → x2 = okI r3.1 → x3 = nI t → ∀ (ML8 : Nat → va_E) (H : Heap) (locs : List Loc), ML8 ta = .inr (9, tapeX ad ta ln en bf r3.2.1 nu1) → ML8 rd = .inr (4, [.ref (ad ta), .ref (ad h), .int (flt ft r3.1)]) → ML8 (h + 9) = .inr (5, ruleF ad (h + 9) (nI r3.2.2.length) td hg) → ML8 (h + 11) = .inl (cI, 700, .inl (layC r3.2.2 c0)) → (∀ q : Nat, q ≠ ta → q ≠ rd → q ≠ h + 9 → q ≠ h + 11 → ML8 q = M q) → va_P D vwCl (ip ad n ML8) H → va_S (ipA ad n) s.heap H locs → ∀ (ls : Array Slot), lv_has ls 5 [(0, .ref (ad rd)), (1, .int dp), (2, .int x2), (3, .int x3)] → W p l e (rmOf (fE + 3) (lE + 69)) s m args below meth c H locs 0 0 (MQ below (va_Qi (fun r M' => ∃ (v0 : Int32), r = okI (eSum en bf E x cs).1 ∧ M' ta = .inr (9, tapeX ad ta ln en bf ((eSum en bf E x cs).2.1) v0) ∧ M' rd = .inr (4, [.ref (ad ta), .ref (ad h), .int (flt ft (eSum en bf E x cs).1)]) ∧ M' (h + 9) = .inr (5, ruleF ad (h + 9) (nI (eSum en bf E x cs).2.2.length) td hg) ∧ M' (h + 11) = .inl (cI, 700, .inl (layC (eSum en bf E x cs).2.2 c0)) ∧ ∀ q : Nat, q ≠ ta → q ≠ rd → q ≠ h + 9 → q ≠ h + 11 → M' q = M q) (fun M' t => va_P D vwCl (ip ad n M') t.heap) (ipA ad n)) args s 0 0 (ipA ad n)) (F0 m 8 ls []) := by
    intro fuel
    induction fuel with
    | zero =>
      intro t r3 nu1 x2 x3 hz
      exact absurd hz (Nat.not_lt_zero _)
    | succ fuel ih_8 =>
      intro t r3 nu1 x2 x3 hz_8 ht hx3 hc3 he e2 e3 ML8 H locs mL8_0 mL8_1 mL8_2 mL8_3 fL8 hP hS ls hl
      subst e2
      subst e3
      skip
      refine lv_iload_n hx hb dX4_readSum_8 rfl (lv_at hl 3 rfl) ?_
      refine lv_sipush (v := 700) hx hb dX4_readSum_9 (by decide) ?_
      refine lv_icmp_ge (tgt := 100) hx hb dX4_readSum_12 (by decide) (fun c_12 => ?_) (fun c_12 => ?_)
      · skip
        have hfin : r3 = eSum en bf E x cs := by have h9 := eq_of_le (k := 700) c_12 (by decide) ht; rw [← he, h9]; rfl
        refine lv_iload_n hx hb dX4_readSum_100 rfl (lv_at hl 2 rfl) ?_
        exact q_wzret X hr hlocks hP hS (okI_nb _) ⟨nu1, (by rw [← hfin]), (by rw [← hfin]; exact mL8_0), (by rw [← hfin]; exact mL8_1), (by rw [← hfin]; exact mL8_2), (by rw [← hfin]; exact mL8_3), (fun q n0 n1 n2 n3 => (fL8 q n0 n1 n2 n3))⟩ dX4_readSum_101
      · skip
        have ht9 := lt_of_nlt (k := 700) c_12 (by decide) ht
        refine lv_iload_n hx hb dX4_readSum_15 rfl (lv_at hl 2 rfl) ?_
        refine lv_if_eq (tgt := 100) hx hb dX4_readSum_16 (by decide) (fun c_16 => ?_) (fun c_16 => ?_)
        · skip
          have hfin : r3 = eSum en bf E x cs := (eLoop_bad (okI_z c_16) _).symm.trans he
          refine lv_iload_n hx hb dX4_readSum_100 rfl (lv_at hl 2 rfl) ?_
          exact q_wzret X hr hlocks hP hS (okI_nb _) ⟨nu1, (by rw [← hfin]), (by rw [← hfin]; exact mL8_0), (by rw [← hfin]; exact mL8_1), (by rw [← hfin]; exact mL8_2), (by rw [← hfin]; exact mL8_3), (fun q n0 n1 n2 n3 => (fL8 q n0 n1 n2 n3))⟩ dX4_readSum_101
        · skip
          refine lv_aload_n hx hb dX4_readSum_19 rfl (lv_at hl 0 rfl) ?_
          refine q_get (v := .ref (ad ta)) (fs := [.ref (ad ta), .ref (ad h), .int (flt ft r3.1)]) X hK hP fX4_readSum_9 h_rd mL8_1 rfl dX4_readSum_20 ?_
          refine q_get (v := .int (kX en bf r3.2.1)) (fs := tapeX ad ta ln en bf r3.2.1 nu1) X hK hP fX4_readSum_34 h_ta mL8_0 rfl dX4_readSum_23 ?_
          refine lv_bipush (v := 43) hx hb dX4_readSum_26 (by decide) ?_
          refine lv_icmp_eq (tgt := 43) hx hb dX4_readSum_28 (by decide) (fun c_28 => ?_) (fun c_28 => ?_)
          · skip
            have hop : opS en bf r3.2.1 = (-15) := (by rw [opS, if_pos c_28]); have hop0 : ¬ opS en bf r3.2.1 = 0 := (by rw [hop]; decide); have hgt := opS_B (bf := bf) hen r3.2.1 hx3 hop0; have hle := nX_le (bf := bf) hx3 hen; have hbd := hSB (nX en bf r3.2.1) r3.2.2 hle
            refine lv_aload_n hx hb dX4_readSum_43 rfl (lv_at hl 0 rfl) ?_
            refine q_get (v := .ref (ad ta)) (fs := [.ref (ad ta), .ref (ad h), .int (flt ft r3.1)]) X hK hP fX4_readSum_9 h_rd mL8_1 rfl dX4_readSum_44 ?_
            refine q_get (v := .int (kX en bf r3.2.1)) (fs := tapeX ad ta ln en bf r3.2.1 nu1) X hK hP fX4_readSum_34 h_ta mL8_0 rfl dX4_readSum_47 ?_
            refine lv_bipush (v := 43) hx hb dX4_readSum_50 (by decide) ?_
            refine lv_icmp_ne (tgt := 60) hx hb dX4_readSum_52 (by decide) (fun c_52 => ?_) (fun c_52 => ?_)
            · exact absurd c_28 c_52
            · skip
              refine lv_bipush (v := (-15)) hx hb dX4_readSum_55 (by decide) ?_
              refine lv_goto (tgt := 62) hx hb dX4_readSum_57 (by decide) ?_
              refine lv_istore (lv' := [(4, .int (-15)), (0, .ref (ad rd)), (1, .int dp), (2, .int (okI r3.1)), (3, .int (nI t))]) hx hb dX4_readSum_62 hl (by decide) rfl (fun ls hl => ?_)
              refine lv_aload_n hx hb dX4_readSum_64 rfl (lv_at hl 1 rfl) ?_
              refine q_get (v := .ref (ad ta)) (fs := [.ref (ad ta), .ref (ad h), .int (flt ft r3.1)]) X hK hP fX4_readSum_9 h_rd mL8_1 rfl dX4_readSum_65 ?_
              refine q_wrVv (As := []) (rest := []) (c_X9_adv l D cB cI cJ ad n ML8 hI ta en r3.2.1 ln nu1 bf h_ta h_ta_1 mL8_0 ((fL8 (ta + 1) (by omega) (by omega) (by omega) (by omega)).trans m_ta_1) (by first | omega | assumption | (apply nX_le <;> (repeat' (first | assumption | apply nX_le))) | (repeat' (first | assumption | apply nX_le | exact isN_k (by assumption) | exact isT_k (by assumption))) | exact vp_in_nI (by omega) (by decide)) hen) X hK hP hS hl.1 rfl gX4_readSum_X9_advance yd_X9_advance ⟨by show 5 + 1 ≤ fE + 3; omega, by show 8 + (4 + 11) + (109) ≤ lE + 69; omega⟩ h_ta mL8_0 (ci := 9) rfl rfl (Nat.le_of_ble_eq_true rfl) ⟨Nat.zero_le _, Nat.zero_le _⟩ dX4_readSum_68 (fun M11 H locs hp10 hP hS => ?_)
              obtain ⟨g13, fr14⟩ := hp10
              refine lv_aload_n hx hb dX4_readSum_71 rfl (lv_at hl 1 rfl) ?_
              refine lv_iload_n hx hb dX4_readSum_72 rfl (lv_at hl 2 rfl) ?_
              refine q_wrVi (As := [.int dp]) (rest := []) (c_X4_readProduct l D cB cI cJ ad n M11 hI rd ta h en (nX en bf r3.2.1) ln (uX en bf r3.2.1 nu1) (flt ft r3.1) bf hv td hg c0 r3.2.2 fE lE E dp h_ta h_ta_1 h_rd h_h h_h_9 h_h_10 h_h_11 g13 ((fr14 (ta + 1) (by omega)).trans ((fL8 (ta + 1) (by omega) (by omega) (by omega) (by omega)).trans m_ta_1)) ((fr14 rd (by omega)).trans mL8_1) ((fr14 h (by omega)).trans ((fL8 h (by omega) (by omega) (by omega) (by omega)).trans m_h)) ((fr14 (h + 9) (by omega)).trans mL8_2) ((fr14 (h + 10) (by omega)).trans ((fL8 (h + 10) (by omega) (by omega) (by omega) (by omega)).trans m_h_10)) ((fr14 (h + 11) (by omega)).trans mL8_3) (by first | omega | assumption | (apply nX_le <;> (repeat' (first | assumption | apply nX_le))) | (repeat' (first | assumption | apply nX_le | exact isN_k (by assumption) | exact isT_k (by assumption))) | exact vp_in_nI (by omega) (by decide)) hen srt srh sth (by first | omega | assumption | (apply nX_le <;> (repeat' (first | assumption | apply nX_le))) | (repeat' (first | assumption | apply nX_le | exact isN_k (by assumption) | exact isT_k (by assumption))) | exact vp_in_nI (by omega) (by decide)) hEB hfE hlE hE) X hK hP hS hl.1 rfl gX4_readSum_X4_readProduct yd_X4_readProduct ⟨by show fE + 2 + 1 ≤ fE + 3; omega, by show 8 + (5 + 11) + (lE + 45) ≤ lE + 69; omega⟩ h_rd ((fr14 rd (by omega)).trans mL8_1) (ci := 4) rfl rfl (Nat.le_of_ble_eq_true rfl) ⟨Nat.zero_le _, Nat.zero_le _⟩ dX4_readSum_73 (fun r17 M16 H locs hp15 hP hS => ?_)
              obtain ⟨v0_18, rfl, g19, g20, g21, g22, fr23⟩ := hp15
              refine lv_if_eq (tgt := 92) hx hb dX4_readSum_76 (by decide) (fun c_76 => ?_) (fun c_76 => ?_)
              · skip
                refine lv_iconst (v := 0) hx hb dX4_readSum_92 (by decide) ?_
                refine lv_istore_n (lv' := [(2, .int 0), (4, .int (-15)), (0, .ref (ad rd)), (1, .int dp), (3, .int (nI t))]) hx hb dX4_readSum_93 rfl hl (by decide) rfl (fun ls hl => ?_)
                refine lv_iinc (v := ((nI t) + 1)) (lv' := [(3, .int ((nI t) + 1)), (2, .int 0), (4, .int (-15)), (0, .ref (ad rd)), (1, .int dp)]) hx hb dX4_readSum_94 hl (k := 4) rfl rfl (by decide) rfl (fun ls hl => ?_)
                refine lv_goto (tgt := 8) hx hb dX4_readSum_97 (by decide) ?_
                exact ih_8 (t + 1) (eIf (eProd en bf E (nX en bf r3.2.1) r3.2.2) (opS en bf r3.2.1)) v0_18 0 ((nI t) + 1) (by omega) (by omega) (by rw [eIf_x]; exact hbd.2.1) (by have := eIf_len (eProd en bf E (nX en bf r3.2.1) r3.2.2) (opS en bf r3.2.1); rw [eIf_x]; omega) (by rw [← he, show 700 - t = (700 - (t + 1)) + 1 by omega, eLoop_on (okI_o c_16) hop0]) (by first | (rw [eIf_1, okI_1 (okI_o c_76)]; done) | (rw [eIf_1, okI_0 (okI_z c_76)]; done)) (by exact nI_1 _) _ _ _ (by rw [eIf_x]; exact g19) (by refine g20.trans ?_; rw [eIf_1]; first | (rw [flt_0 (okI_o c_16), flt_0 (okI_o c_76)]; done) | (rw [flt_0 (okI_o c_16)]; done)) (by refine g21.trans ?_; first | (rw [eIf_t (okI_o c_76), hop]; done) | (rw [eIf_f (okI_z c_76)]; done)) (by refine g22.trans ?_; first | (rw [eIf_t (okI_o c_76), hop]; done) | (rw [eIf_f (okI_z c_76)]; done)) (fun q n0 n1 n2 n3 => ((fr23 q n0 n1 n2 n3).trans ((fr14 q n0).trans (fL8 q n0 n1 n2 n3)))) hP hS ls (lv_sub hl [3, 4, 1, 0] rfl)
              · skip
                refine lv_aload_n hx hb dX4_readSum_79 rfl (lv_at hl 1 rfl) ?_
                refine lv_iload hx hb dX4_readSum_80 (lv_at hl 0 rfl) ?_
                refine q_wrVi (As := [.int (-15)]) (rest := []) (c_X4_put l D cB cI cJ ad n M16 hI rd ta h en ((eProd en bf E (nX en bf r3.2.1) r3.2.2).2.1) ln v0_18 (flt (flt ft r3.1) (eProd en bf E (nX en bf r3.2.1) r3.2.2).1) bf hv td hg c0 ((eProd en bf E (nX en bf r3.2.1) r3.2.2).2.2) (-15) h_ta h_ta_1 h_rd h_h h_h_9 h_h_10 h_h_11 g19 ((fr23 (ta + 1) (by omega) (by omega) (by omega) (by omega)).trans ((fr14 (ta + 1) (by omega)).trans ((fL8 (ta + 1) (by omega) (by omega) (by omega) (by omega)).trans m_ta_1))) g20 ((fr23 h (by omega) (by omega) (by omega) (by omega)).trans ((fr14 h (by omega)).trans ((fL8 h (by omega) (by omega) (by omega) (by omega)).trans m_h))) g21 ((fr23 (h + 10) (by omega) (by omega) (by omega) (by omega)).trans ((fr14 (h + 10) (by omega)).trans ((fL8 (h + 10) (by omega) (by omega) (by omega) (by omega)).trans m_h_10))) g22 (by first | omega | assumption | (apply nX_le <;> (repeat' (first | assumption | apply nX_le))) | (repeat' (first | assumption | apply nX_le | exact isN_k (by assumption) | exact isT_k (by assumption))) | exact vp_in_nI (by omega) (by decide)) hen srt srh sth (by first | omega | assumption | (apply nX_le <;> (repeat' (first | assumption | apply nX_le))) | (repeat' (first | assumption | apply nX_le | exact isN_k (by assumption) | exact isT_k (by assumption))) | exact vp_in_nI (by omega) (by decide))) X hK hP hS hl.1 rfl gX4_readSum_X4_put yd_X4_put ⟨by show 2 + 1 ≤ fE + 3; omega, by show 8 + (2 + 11) + (43) ≤ lE + 69; omega⟩ h_rd g20 (ci := 4) rfl rfl (Nat.le_of_ble_eq_true rfl) ⟨Nat.zero_le _, Nat.zero_le _⟩ dX4_readSum_82 (fun r26 M25 H locs hp24 hP hS => ?_)
                obtain ⟨rfl, g27, g28, fr29⟩ := hp24
                refine lv_if_eq (tgt := 92) hx hb dX4_readSum_85 (by decide) (fun c_85 => ?_) (fun c_85 => ?_)
                · exact absurd c_85 (by decide)
                · clear c_85
                  refine lv_iconst (v := 1) hx hb dX4_readSum_88 (by decide) ?_
                  refine lv_goto (tgt := 93) hx hb dX4_readSum_89 (by decide) ?_
                  refine lv_istore_n (lv' := [(2, .int 1), (4, .int (-15)), (0, .ref (ad rd)), (1, .int dp), (3, .int (nI t))]) hx hb dX4_readSum_93 rfl hl (by decide) rfl (fun ls hl => ?_)
                  refine lv_iinc (v := ((nI t) + 1)) (lv' := [(3, .int ((nI t) + 1)), (2, .int 1), (4, .int (-15)), (0, .ref (ad rd)), (1, .int dp)]) hx hb dX4_readSum_94 hl (k := 4) rfl rfl (by decide) rfl (fun ls hl => ?_)
                  refine lv_goto (tgt := 8) hx hb dX4_readSum_97 (by decide) ?_
                  exact ih_8 (t + 1) (eIf (eProd en bf E (nX en bf r3.2.1) r3.2.2) (opS en bf r3.2.1)) v0_18 1 ((nI t) + 1) (by omega) (by omega) (by rw [eIf_x]; exact hbd.2.1) (by have := eIf_len (eProd en bf E (nX en bf r3.2.1) r3.2.2) (opS en bf r3.2.1); rw [eIf_x]; omega) (by rw [← he, show 700 - t = (700 - (t + 1)) + 1 by omega, eLoop_on (okI_o c_16) hop0]) (by first | (rw [eIf_1, okI_1 (okI_o c_76)]; done) | (rw [eIf_1, okI_0 (okI_z c_76)]; done)) (by exact nI_1 _) _ _ _ (by rw [eIf_x]; exact ((fr29 ta (by omega) (by omega)).trans g19)) (by refine ((fr29 rd (by omega) (by omega)).trans g20).trans ?_; rw [eIf_1]; first | (rw [flt_0 (okI_o c_16), flt_0 (okI_o c_76)]; done) | (rw [flt_0 (okI_o c_16)]; done)) (by refine g27.trans ?_; first | (rw [eIf_t (okI_o c_76), hop]; done) | (rw [eIf_f (okI_z c_76)]; done)) (by refine g28.trans ?_; first | (rw [eIf_t (okI_o c_76), hop]; done) | (rw [eIf_f (okI_z c_76)]; done)) (fun q n0 n1 n2 n3 => ((fr29 q n2 n3).trans ((fr23 q n0 n1 n2 n3).trans ((fr14 q n0).trans (fL8 q n0 n1 n2 n3))))) hP hS ls (lv_sub hl [3, 4, 1, 0] rfl)
          · skip
            refine lv_aload_n hx hb dX4_readSum_31 rfl (lv_at hl 0 rfl) ?_
            refine q_get (v := .ref (ad ta)) (fs := [.ref (ad ta), .ref (ad h), .int (flt ft r3.1)]) X hK hP fX4_readSum_9 h_rd mL8_1 rfl dX4_readSum_32 ?_
            refine q_get (v := .int (kX en bf r3.2.1)) (fs := tapeX ad ta ln en bf r3.2.1 nu1) X hK hP fX4_readSum_34 h_ta mL8_0 rfl dX4_readSum_35 ?_
            refine lv_bipush (v := 45) hx hb dX4_readSum_38 (by decide) ?_
            refine lv_icmp_ne (tgt := 100) hx hb dX4_readSum_40 (by decide) (fun c_40 => ?_) (fun c_40 => ?_)
            · skip
              have hfin : r3 = eSum en bf E x cs := (eLoop_op (by rw [opS, if_neg c_28, if_neg c_40]) _).symm.trans he
              refine lv_iload_n hx hb dX4_readSum_100 rfl (lv_at hl 2 rfl) ?_
              exact q_wzret X hr hlocks hP hS (okI_nb _) ⟨nu1, (by rw [← hfin]), (by rw [← hfin]; exact mL8_0), (by rw [← hfin]; exact mL8_1), (by rw [← hfin]; exact mL8_2), (by rw [← hfin]; exact mL8_3), (fun q n0 n1 n2 n3 => (fL8 q n0 n1 n2 n3))⟩ dX4_readSum_101
            · skip
              have hop : opS en bf r3.2.1 = (-16) := (by rw [opS, if_neg c_28, if_pos c_40]); have hop0 : ¬ opS en bf r3.2.1 = 0 := (by rw [hop]; decide); have hgt := opS_B (bf := bf) hen r3.2.1 hx3 hop0; have hle := nX_le (bf := bf) hx3 hen; have hbd := hSB (nX en bf r3.2.1) r3.2.2 hle
              refine lv_aload_n hx hb dX4_readSum_43 rfl (lv_at hl 0 rfl) ?_
              refine q_get (v := .ref (ad ta)) (fs := [.ref (ad ta), .ref (ad h), .int (flt ft r3.1)]) X hK hP fX4_readSum_9 h_rd mL8_1 rfl dX4_readSum_44 ?_
              refine q_get (v := .int (kX en bf r3.2.1)) (fs := tapeX ad ta ln en bf r3.2.1 nu1) X hK hP fX4_readSum_34 h_ta mL8_0 rfl dX4_readSum_47 ?_
              refine lv_bipush (v := 43) hx hb dX4_readSum_50 (by decide) ?_
              refine lv_icmp_ne (tgt := 60) hx hb dX4_readSum_52 (by decide) (fun c_52 => ?_) (fun c_52 => ?_)
              · skip
                refine lv_bipush (v := (-16)) hx hb dX4_readSum_60 (by decide) ?_
                refine lv_istore (lv' := [(4, .int (-16)), (0, .ref (ad rd)), (1, .int dp), (2, .int (okI r3.1)), (3, .int (nI t))]) hx hb dX4_readSum_62 hl (by decide) rfl (fun ls hl => ?_)
                refine lv_aload_n hx hb dX4_readSum_64 rfl (lv_at hl 1 rfl) ?_
                refine q_get (v := .ref (ad ta)) (fs := [.ref (ad ta), .ref (ad h), .int (flt ft r3.1)]) X hK hP fX4_readSum_9 h_rd mL8_1 rfl dX4_readSum_65 ?_
                refine q_wrVv (As := []) (rest := []) (c_X9_adv l D cB cI cJ ad n ML8 hI ta en r3.2.1 ln nu1 bf h_ta h_ta_1 mL8_0 ((fL8 (ta + 1) (by omega) (by omega) (by omega) (by omega)).trans m_ta_1) (by first | omega | assumption | (apply nX_le <;> (repeat' (first | assumption | apply nX_le))) | (repeat' (first | assumption | apply nX_le | exact isN_k (by assumption) | exact isT_k (by assumption))) | exact vp_in_nI (by omega) (by decide)) hen) X hK hP hS hl.1 rfl gX4_readSum_X9_advance yd_X9_advance ⟨by show 5 + 1 ≤ fE + 3; omega, by show 8 + (4 + 11) + (109) ≤ lE + 69; omega⟩ h_ta mL8_0 (ci := 9) rfl rfl (Nat.le_of_ble_eq_true rfl) ⟨Nat.zero_le _, Nat.zero_le _⟩ dX4_readSum_68 (fun M31 H locs hp30 hP hS => ?_)
                obtain ⟨g33, fr34⟩ := hp30
                refine lv_aload_n hx hb dX4_readSum_71 rfl (lv_at hl 1 rfl) ?_
                refine lv_iload_n hx hb dX4_readSum_72 rfl (lv_at hl 2 rfl) ?_
                refine q_wrVi (As := [.int dp]) (rest := []) (c_X4_readProduct l D cB cI cJ ad n M31 hI rd ta h en (nX en bf r3.2.1) ln (uX en bf r3.2.1 nu1) (flt ft r3.1) bf hv td hg c0 r3.2.2 fE lE E dp h_ta h_ta_1 h_rd h_h h_h_9 h_h_10 h_h_11 g33 ((fr34 (ta + 1) (by omega)).trans ((fL8 (ta + 1) (by omega) (by omega) (by omega) (by omega)).trans m_ta_1)) ((fr34 rd (by omega)).trans mL8_1) ((fr34 h (by omega)).trans ((fL8 h (by omega) (by omega) (by omega) (by omega)).trans m_h)) ((fr34 (h + 9) (by omega)).trans mL8_2) ((fr34 (h + 10) (by omega)).trans ((fL8 (h + 10) (by omega) (by omega) (by omega) (by omega)).trans m_h_10)) ((fr34 (h + 11) (by omega)).trans mL8_3) (by first | omega | assumption | (apply nX_le <;> (repeat' (first | assumption | apply nX_le))) | (repeat' (first | assumption | apply nX_le | exact isN_k (by assumption) | exact isT_k (by assumption))) | exact vp_in_nI (by omega) (by decide)) hen srt srh sth (by first | omega | assumption | (apply nX_le <;> (repeat' (first | assumption | apply nX_le))) | (repeat' (first | assumption | apply nX_le | exact isN_k (by assumption) | exact isT_k (by assumption))) | exact vp_in_nI (by omega) (by decide)) hEB hfE hlE hE) X hK hP hS hl.1 rfl gX4_readSum_X4_readProduct yd_X4_readProduct ⟨by show fE + 2 + 1 ≤ fE + 3; omega, by show 8 + (5 + 11) + (lE + 45) ≤ lE + 69; omega⟩ h_rd ((fr34 rd (by omega)).trans mL8_1) (ci := 4) rfl rfl (Nat.le_of_ble_eq_true rfl) ⟨Nat.zero_le _, Nat.zero_le _⟩ dX4_readSum_73 (fun r37 M36 H locs hp35 hP hS => ?_)
                obtain ⟨v0_38, rfl, g39, g40, g41, g42, fr43⟩ := hp35
                refine lv_if_eq (tgt := 92) hx hb dX4_readSum_76 (by decide) (fun c_76 => ?_) (fun c_76 => ?_)
                · skip
                  refine lv_iconst (v := 0) hx hb dX4_readSum_92 (by decide) ?_
                  refine lv_istore_n (lv' := [(2, .int 0), (4, .int (-16)), (0, .ref (ad rd)), (1, .int dp), (3, .int (nI t))]) hx hb dX4_readSum_93 rfl hl (by decide) rfl (fun ls hl => ?_)
                  refine lv_iinc (v := ((nI t) + 1)) (lv' := [(3, .int ((nI t) + 1)), (2, .int 0), (4, .int (-16)), (0, .ref (ad rd)), (1, .int dp)]) hx hb dX4_readSum_94 hl (k := 4) rfl rfl (by decide) rfl (fun ls hl => ?_)
                  refine lv_goto (tgt := 8) hx hb dX4_readSum_97 (by decide) ?_
                  exact ih_8 (t + 1) (eIf (eProd en bf E (nX en bf r3.2.1) r3.2.2) (opS en bf r3.2.1)) v0_38 0 ((nI t) + 1) (by omega) (by omega) (by rw [eIf_x]; exact hbd.2.1) (by have := eIf_len (eProd en bf E (nX en bf r3.2.1) r3.2.2) (opS en bf r3.2.1); rw [eIf_x]; omega) (by rw [← he, show 700 - t = (700 - (t + 1)) + 1 by omega, eLoop_on (okI_o c_16) hop0]) (by first | (rw [eIf_1, okI_1 (okI_o c_76)]; done) | (rw [eIf_1, okI_0 (okI_z c_76)]; done)) (by exact nI_1 _) _ _ _ (by rw [eIf_x]; exact g39) (by refine g40.trans ?_; rw [eIf_1]; first | (rw [flt_0 (okI_o c_16), flt_0 (okI_o c_76)]; done) | (rw [flt_0 (okI_o c_16)]; done)) (by refine g41.trans ?_; first | (rw [eIf_t (okI_o c_76), hop]; done) | (rw [eIf_f (okI_z c_76)]; done)) (by refine g42.trans ?_; first | (rw [eIf_t (okI_o c_76), hop]; done) | (rw [eIf_f (okI_z c_76)]; done)) (fun q n0 n1 n2 n3 => ((fr43 q n0 n1 n2 n3).trans ((fr34 q n0).trans (fL8 q n0 n1 n2 n3)))) hP hS ls (lv_sub hl [3, 4, 1, 0] rfl)
                · skip
                  refine lv_aload_n hx hb dX4_readSum_79 rfl (lv_at hl 1 rfl) ?_
                  refine lv_iload hx hb dX4_readSum_80 (lv_at hl 0 rfl) ?_
                  refine q_wrVi (As := [.int (-16)]) (rest := []) (c_X4_put l D cB cI cJ ad n M36 hI rd ta h en ((eProd en bf E (nX en bf r3.2.1) r3.2.2).2.1) ln v0_38 (flt (flt ft r3.1) (eProd en bf E (nX en bf r3.2.1) r3.2.2).1) bf hv td hg c0 ((eProd en bf E (nX en bf r3.2.1) r3.2.2).2.2) (-16) h_ta h_ta_1 h_rd h_h h_h_9 h_h_10 h_h_11 g39 ((fr43 (ta + 1) (by omega) (by omega) (by omega) (by omega)).trans ((fr34 (ta + 1) (by omega)).trans ((fL8 (ta + 1) (by omega) (by omega) (by omega) (by omega)).trans m_ta_1))) g40 ((fr43 h (by omega) (by omega) (by omega) (by omega)).trans ((fr34 h (by omega)).trans ((fL8 h (by omega) (by omega) (by omega) (by omega)).trans m_h))) g41 ((fr43 (h + 10) (by omega) (by omega) (by omega) (by omega)).trans ((fr34 (h + 10) (by omega)).trans ((fL8 (h + 10) (by omega) (by omega) (by omega) (by omega)).trans m_h_10))) g42 (by first | omega | assumption | (apply nX_le <;> (repeat' (first | assumption | apply nX_le))) | (repeat' (first | assumption | apply nX_le | exact isN_k (by assumption) | exact isT_k (by assumption))) | exact vp_in_nI (by omega) (by decide)) hen srt srh sth (by first | omega | assumption | (apply nX_le <;> (repeat' (first | assumption | apply nX_le))) | (repeat' (first | assumption | apply nX_le | exact isN_k (by assumption) | exact isT_k (by assumption))) | exact vp_in_nI (by omega) (by decide))) X hK hP hS hl.1 rfl gX4_readSum_X4_put yd_X4_put ⟨by show 2 + 1 ≤ fE + 3; omega, by show 8 + (2 + 11) + (43) ≤ lE + 69; omega⟩ h_rd g40 (ci := 4) rfl rfl (Nat.le_of_ble_eq_true rfl) ⟨Nat.zero_le _, Nat.zero_le _⟩ dX4_readSum_82 (fun r46 M45 H locs hp44 hP hS => ?_)
                  obtain ⟨rfl, g47, g48, fr49⟩ := hp44
                  refine lv_if_eq (tgt := 92) hx hb dX4_readSum_85 (by decide) (fun c_85 => ?_) (fun c_85 => ?_)
                  · exact absurd c_85 (by decide)
                  · clear c_85
                    refine lv_iconst (v := 1) hx hb dX4_readSum_88 (by decide) ?_
                    refine lv_goto (tgt := 93) hx hb dX4_readSum_89 (by decide) ?_
                    refine lv_istore_n (lv' := [(2, .int 1), (4, .int (-16)), (0, .ref (ad rd)), (1, .int dp), (3, .int (nI t))]) hx hb dX4_readSum_93 rfl hl (by decide) rfl (fun ls hl => ?_)
                    refine lv_iinc (v := ((nI t) + 1)) (lv' := [(3, .int ((nI t) + 1)), (2, .int 1), (4, .int (-16)), (0, .ref (ad rd)), (1, .int dp)]) hx hb dX4_readSum_94 hl (k := 4) rfl rfl (by decide) rfl (fun ls hl => ?_)
                    refine lv_goto (tgt := 8) hx hb dX4_readSum_97 (by decide) ?_
                    exact ih_8 (t + 1) (eIf (eProd en bf E (nX en bf r3.2.1) r3.2.2) (opS en bf r3.2.1)) v0_38 1 ((nI t) + 1) (by omega) (by omega) (by rw [eIf_x]; exact hbd.2.1) (by have := eIf_len (eProd en bf E (nX en bf r3.2.1) r3.2.2) (opS en bf r3.2.1); rw [eIf_x]; omega) (by rw [← he, show 700 - t = (700 - (t + 1)) + 1 by omega, eLoop_on (okI_o c_16) hop0]) (by first | (rw [eIf_1, okI_1 (okI_o c_76)]; done) | (rw [eIf_1, okI_0 (okI_z c_76)]; done)) (by exact nI_1 _) _ _ _ (by rw [eIf_x]; exact ((fr49 ta (by omega) (by omega)).trans g39)) (by refine ((fr49 rd (by omega) (by omega)).trans g40).trans ?_; rw [eIf_1]; first | (rw [flt_0 (okI_o c_16), flt_0 (okI_o c_76)]; done) | (rw [flt_0 (okI_o c_16)]; done)) (by refine g47.trans ?_; first | (rw [eIf_t (okI_o c_76), hop]; done) | (rw [eIf_f (okI_z c_76)]; done)) (by refine g48.trans ?_; first | (rw [eIf_t (okI_o c_76), hop]; done) | (rw [eIf_f (okI_z c_76)]; done)) (fun q n0 n1 n2 n3 => ((fr49 q n2 n3).trans ((fr43 q n0 n1 n2 n3).trans ((fr34 q n0).trans (fL8 q n0 n1 n2 n3))))) hP hS ls (lv_sub hl [3, 4, 1, 0] rfl)
              · exact absurd c_52 c_28
  exact loop_8 (701) 0 (eProd en bf E x cs) v0_4 (okI (eProd en bf E x cs).1) 0 (by omega) (by omega) (by exact (hSB x cs hxe).2.1) (by have := hSB x cs hxe; omega) (by rfl) (by rfl) (by rfl) _ _ _ g5 g6 g7 g8 (fun q n0 n1 n2 n3 => (fr9 q n0 n1 n2 n3)) hP hS ls (lv_sub hl [2, 3, 1, 0] rfl)
theorem yd_X4_readSum : YD yX4_readSum 1 := ⟨by decide +kernel, by decide +kernel, by decide +kernel⟩
set_option maxRecDepth 20000 in
theorem fX4_readTest_9 : FL wsX4_readTest RX4 9 4 0 := ⟨RX4, TX4, 3, rfl, by decide +kernel, by decide, by decide +kernel⟩
set_option maxRecDepth 20000 in
theorem fX4_readTest_34 : FL wsX4_readTest RX4 34 9 5 := ⟨RX9, TX9, 8, rfl, by decide +kernel, by decide, by decide +kernel⟩
set_option maxHeartbeats 600000 in
set_option maxRecDepth 100000 in
theorem c_X4_readTest (l : Launch) (D : va_G) (cB cI cJ : ClassId) (ad : Nat → Nat) (n : Nat) (M : Nat → va_E) (hI : ipI ad n) (rd ta h en x : Nat) (ln nu ft : Int32) (bf : Nat → Int32) (hv : Nat → Int32) (td hg : Int32) (c0 : Nat → Int32) (cs : List Int32) (fE lE : Nat) (E : Nat → List Int32 → Int32 × Nat × List Int32) (dp : Int32) (h_ta : ta < n) (h_ta_1 : ta + 1 < n) (h_rd : rd < n) (h_h : h < n) (h_h_9 : h + 9 < n) (h_h_10 : h + 10 < n) (h_h_11 : h + 11 < n) (m_ta : M ta = .inr (9, tapeX ad ta ln en bf x nu)) (m_ta_1 : M (ta + 1) = .inl (cB, 700, .inl bf)) (m_rd : M rd = .inr (4, [.ref (ad ta), .ref (ad h), .int ft])) (m_h : M h = .inr (0, hallF ad h hv)) (m_h_9 : M (h + 9) = .inr (5, ruleF ad (h + 9) (nI cs.length) td hg)) (m_h_10 : M (h + 10) = .inr (8, [.int 1, .ref (ad (h + 9 + 2))])) (m_h_11 : M (h + 11) = .inl (cI, 700, .inl (layC cs c0))) (hxe : x ≤ en) (hen : en ≤ 700) (srt : rd < ta ∨ ta + 1 < rd) (srh : rd < h ∨ h + 15 < rd) (sth : ta + 1 < h ∨ h + 15 < ta) (hcx : cs.length ≤ x) (hEB : eB en E) (hfE : 10 ≤ fE) (hlE : 200 ≤ lE) (hE : eCon l D cB cI cJ ad n yX4_readExpr wsX4_readExpr fE lE rd ta h en ln bf hv td hg c0 (dp + 1) E) : cWi l D cB cI cJ ad n M yX4_readTest wsX4_readTest (fE + 4) (lE + 93) [.ref (ad rd), .int dp] (fun r M' => ∃ (v0 : Int32), r = okI (eTest en bf E x cs).1 ∧ M' ta = .inr (9, tapeX ad ta ln en bf ((eTest en bf E x cs).2.1) v0) ∧ M' rd = .inr (4, [.ref (ad ta), .ref (ad h), .int (flt ft (eTest en bf E x cs).1)]) ∧ M' (h + 9) = .inr (5, ruleF ad (h + 9) (nI (eTest en bf E x cs).2.2.length) td hg) ∧ M' (h + 11) = .inl (cI, 700, .inl (layC (eTest en bf E x cs).2.2 c0)) ∧ ∀ q : Nat, q ≠ ta → q ≠ rd → q ≠ h + 9 → q ≠ h + 11 → M' q = M q) := by
  refine q_body (cc := cX4_readTest) (maxL := 4) (ret := (some .boolean)) (by decide) rfl (Nat.le_of_ble_eq_true rfl) ?_
  intro p e s m args below meth c ls X hr hlocks hK hP hl
  obtain ⟨hx, hb, hml, hown, hts⟩ := id X
  have hS : va_S (ipA ad n) s.heap s.heap [] := va_S.rf
  have hl : lv_has ls 4 [(0, .ref (ad rd)), (1, .int dp)] := hl
  have hSB : eB en (eSum en bf E) := eSum_B hen hEB
  have hb1 := hSB x cs hxe
  refine lv_aload_n hx hb dX4_readTest_0 rfl (lv_at hl 0 rfl) ?_
  refine lv_iload_n hx hb dX4_readTest_1 rfl (lv_at hl 1 rfl) ?_
  refine q_wrVi (As := [.int dp]) (rest := []) (c_X4_readSum l D cB cI cJ ad n M hI rd ta h en x ln nu ft bf hv td hg c0 cs fE lE E dp h_ta h_ta_1 h_rd h_h h_h_9 h_h_10 h_h_11 m_ta m_ta_1 m_rd m_h m_h_9 m_h_10 m_h_11 hxe hen srt srh sth hcx hEB hfE hlE hE) X hK hP hS hl.1 rfl gX4_readTest_X4_readSum yd_X4_readSum ⟨by show fE + 3 + 1 ≤ fE + 4; omega, by show 8 + (5 + 11) + (lE + 69) ≤ lE + 93; omega⟩ h_rd m_rd (ci := 4) rfl rfl (Nat.le_of_ble_eq_true rfl) ⟨Nat.zero_le _, Nat.zero_le _⟩ dX4_readTest_2 (fun r3 M2 H locs hp1 hP hS => ?_)
  obtain ⟨v0_4, rfl, g5, g6, g7, g8, fr9⟩ := hp1
  refine lv_istore_n (lv' := [(2, .int (okI (eSum en bf E x cs).1)), (0, .ref (ad rd)), (1, .int dp)]) hx hb dX4_readTest_5 rfl hl (by decide) rfl (fun ls hl => ?_)
  refine lv_aload_n hx hb dX4_readTest_6 rfl (lv_at hl 1 rfl) ?_
  refine q_get (v := .ref (ad ta)) (fs := [.ref (ad ta), .ref (ad h), .int (flt ft (eSum en bf E x cs).1)]) X hK hP fX4_readTest_9 h_rd g6 rfl dX4_readTest_7 ?_
  refine q_get (v := .int (kX en bf ((eSum en bf E x cs).2.1))) (fs := tapeX ad ta ln en bf ((eSum en bf E x cs).2.1) v0_4) X hK hP fX4_readTest_34 h_ta g5 rfl dX4_readTest_10 ?_
  refine lv_istore_n (lv' := [(3, .int (kX en bf ((eSum en bf E x cs).2.1))), (2, .int (okI (eSum en bf E x cs).1)), (0, .ref (ad rd)), (1, .int dp)]) hx hb dX4_readTest_13 rfl hl (by decide) rfl (fun ls hl => ?_)
  refine lv_iload_n hx hb dX4_readTest_14 rfl (lv_at hl 1 rfl) ?_
  refine lv_if_eq (tgt := 71) hx hb dX4_readTest_15 (by decide) (fun c_15 => ?_) (fun c_15 => ?_)
  · skip
    have hfin : eTest en bf E x cs = (eSum en bf E x cs) := eLoop_bad (okI_z c_15) 1
    refine lv_iload_n hx hb dX4_readTest_71 rfl (lv_at hl 1 rfl) ?_
    exact q_wzret X hr hlocks hP hS (okI_nb _) ⟨v0_4, (by first | (rw [hfin]; done) | (rw [hfin, eIf_1, okI_1 (okI_o c_42)]; done) | (rw [hfin, eIf_1, okI_0 (okI_z c_42)]; done)), (by rw [hfin]; first | (rw [eIf_x]; exact g5) | exact g5), (by rw [hfin]; first | (refine g6.trans ?_; rw [eIf_1]; first | (rw [flt_0 (okI_o c_15), flt_0 (okI_o c_42)]; done) | (rw [flt_0 (okI_o c_15)]; done)) | exact g6), (by rw [hfin]; first | (refine g7.trans ?_; first | (rw [eIf_t (okI_o c_42), hop]; done) | (rw [eIf_f (okI_z c_42)]; done)) | exact g7), (by rw [hfin]; first | (refine g8.trans ?_; first | (rw [eIf_t (okI_o c_42), hop]; done) | (rw [eIf_f (okI_z c_42)]; done)) | exact g8), (fun q n0 n1 n2 n3 => (fr9 q n0 n1 n2 n3))⟩ dX4_readTest_72
  · skip
    refine lv_iload_n hx hb dX4_readTest_18 rfl (lv_at hl 0 rfl) ?_
    refine lv_bipush (v := 60) hx hb dX4_readTest_19 (by decide) ?_
    refine lv_icmp_eq (tgt := 30) hx hb dX4_readTest_21 (by decide) (fun c_21 => ?_) (fun c_21 => ?_)
    · skip
      have hop : opT en bf (eSum en bf E x cs).2.1 = (-13) := (by rw [opT, if_pos c_21]); have hop0 : ¬ opT en bf (eSum en bf E x cs).2.1 = 0 := (by rw [hop]; decide); have hgt := opT_B (bf := bf) hen (eSum en bf E x cs).2.1 hb1.2.1 hop0; have hle := nX_le (bf := bf) hb1.2.1 hen; have hbd := hSB (nX en bf (eSum en bf E x cs).2.1) (eSum en bf E x cs).2.2 hle; have hfin : eTest en bf E x cs = eIf (eSum en bf E (nX en bf (eSum en bf E x cs).2.1) (eSum en bf E x cs).2.2) (opT en bf (eSum en bf E x cs).2.1) := (by rw [eTest, eLoop_on (okI_o c_15) hop0]; rfl)
      refine lv_aload_n hx hb dX4_readTest_30 rfl (lv_at hl 2 rfl) ?_
      refine q_get (v := .ref (ad ta)) (fs := [.ref (ad ta), .ref (ad h), .int (flt ft (eSum en bf E x cs).1)]) X hK hP fX4_readTest_9 h_rd g6 rfl dX4_readTest_31 ?_
      refine q_wrVv (As := []) (rest := []) (c_X9_adv l D cB cI cJ ad n M2 hI ta en ((eSum en bf E x cs).2.1) ln v0_4 bf h_ta h_ta_1 g5 ((fr9 (ta + 1) (by omega) (by omega) (by omega) (by omega)).trans m_ta_1) (by first | omega | assumption | (apply nX_le <;> (repeat' (first | assumption | apply nX_le))) | (repeat' (first | assumption | apply nX_le | exact isN_k (by assumption) | exact isT_k (by assumption))) | exact vp_in_nI (by omega) (by decide)) hen) X hK hP hS hl.1 rfl gX4_readTest_X9_advance yd_X9_advance ⟨by show 5 + 1 ≤ fE + 4; omega, by show 8 + (4 + 11) + (109) ≤ lE + 93; omega⟩ h_ta g5 (ci := 9) rfl rfl (Nat.le_of_ble_eq_true rfl) ⟨Nat.zero_le _, Nat.zero_le _⟩ dX4_readTest_34 (fun M11 H locs hp10 hP hS => ?_)
      obtain ⟨g13, fr14⟩ := hp10
      refine lv_aload_n hx hb dX4_readTest_37 rfl (lv_at hl 2 rfl) ?_
      refine lv_iload_n hx hb dX4_readTest_38 rfl (lv_at hl 3 rfl) ?_
      refine q_wrVi (As := [.int dp]) (rest := []) (c_X4_readSum l D cB cI cJ ad n M11 hI rd ta h en (nX en bf ((eSum en bf E x cs).2.1)) ln (uX en bf ((eSum en bf E x cs).2.1) v0_4) (flt ft (eSum en bf E x cs).1) bf hv td hg c0 ((eSum en bf E x cs).2.2) fE lE E dp h_ta h_ta_1 h_rd h_h h_h_9 h_h_10 h_h_11 g13 ((fr14 (ta + 1) (by omega)).trans ((fr9 (ta + 1) (by omega) (by omega) (by omega) (by omega)).trans m_ta_1)) ((fr14 rd (by omega)).trans g6) ((fr14 h (by omega)).trans ((fr9 h (by omega) (by omega) (by omega) (by omega)).trans m_h)) ((fr14 (h + 9) (by omega)).trans g7) ((fr14 (h + 10) (by omega)).trans ((fr9 (h + 10) (by omega) (by omega) (by omega) (by omega)).trans m_h_10)) ((fr14 (h + 11) (by omega)).trans g8) (by first | omega | assumption | (apply nX_le <;> (repeat' (first | assumption | apply nX_le))) | (repeat' (first | assumption | apply nX_le | exact isN_k (by assumption) | exact isT_k (by assumption))) | exact vp_in_nI (by omega) (by decide)) hen srt srh sth (by first | omega | assumption | (apply nX_le <;> (repeat' (first | assumption | apply nX_le))) | (repeat' (first | assumption | apply nX_le | exact isN_k (by assumption) | exact isT_k (by assumption))) | exact vp_in_nI (by omega) (by decide)) hEB hfE hlE hE) X hK hP hS hl.1 rfl gX4_readTest_X4_readSum yd_X4_readSum ⟨by show fE + 3 + 1 ≤ fE + 4; omega, by show 8 + (5 + 11) + (lE + 69) ≤ lE + 93; omega⟩ h_rd ((fr14 rd (by omega)).trans g6) (ci := 4) rfl rfl (Nat.le_of_ble_eq_true rfl) ⟨Nat.zero_le _, Nat.zero_le _⟩ dX4_readTest_39 (fun r17 M16 H locs hp15 hP hS => ?_)
      obtain ⟨v0_18, rfl, g19, g20, g21, g22, fr23⟩ := hp15
      refine lv_if_eq (tgt := 69) hx hb dX4_readTest_42 (by decide) (fun c_42 => ?_) (fun c_42 => ?_)
      · skip
        refine lv_iconst (v := 0) hx hb dX4_readTest_69 (by decide) ?_
        refine lv_istore_n (lv' := [(2, .int 0), (3, .int (kX en bf ((eSum en bf E x cs).2.1))), (0, .ref (ad rd)), (1, .int dp)]) hx hb dX4_readTest_70 rfl hl (by decide) rfl (fun ls hl => ?_)
        refine lv_iload_n hx hb dX4_readTest_71 rfl (lv_at hl 0 rfl) ?_
        exact q_wzret X hr hlocks hP hS (rfl) ⟨v0_18, (by first | (rw [hfin]; done) | (rw [hfin, eIf_1, okI_1 (okI_o c_42)]; done) | (rw [hfin, eIf_1, okI_0 (okI_z c_42)]; done)), (by rw [hfin]; first | (rw [eIf_x]; exact g19) | exact g19), (by rw [hfin]; first | (refine g20.trans ?_; rw [eIf_1]; first | (rw [flt_0 (okI_o c_15), flt_0 (okI_o c_42)]; done) | (rw [flt_0 (okI_o c_15)]; done)) | exact g20), (by rw [hfin]; first | (refine g21.trans ?_; first | (rw [eIf_t (okI_o c_42), hop]; done) | (rw [eIf_f (okI_z c_42)]; done)) | exact g21), (by rw [hfin]; first | (refine g22.trans ?_; first | (rw [eIf_t (okI_o c_42), hop]; done) | (rw [eIf_f (okI_z c_42)]; done)) | exact g22), (fun q n0 n1 n2 n3 => ((fr23 q n0 n1 n2 n3).trans ((fr14 q n0).trans (fr9 q n0 n1 n2 n3))))⟩ dX4_readTest_72
      · skip
        refine lv_aload_n hx hb dX4_readTest_45 rfl (lv_at hl 2 rfl) ?_
        refine lv_iload_n hx hb dX4_readTest_46 rfl (lv_at hl 0 rfl) ?_
        refine lv_bipush (v := 60) hx hb dX4_readTest_47 (by decide) ?_
        refine lv_icmp_ne (tgt := 57) hx hb dX4_readTest_49 (by decide) (fun c_49 => ?_) (fun c_49 => ?_)
        · exact absurd c_21 c_49
        · skip
          refine lv_bipush (v := (-13)) hx hb dX4_readTest_52 (by decide) ?_
          refine lv_goto (tgt := 59) hx hb dX4_readTest_54 (by decide) ?_
          refine q_wrVi (As := [.int (-13)]) (rest := []) (c_X4_put l D cB cI cJ ad n M16 hI rd ta h en ((eSum en bf E (nX en bf ((eSum en bf E x cs).2.1)) ((eSum en bf E x cs).2.2)).2.1) ln v0_18 (flt (flt ft (eSum en bf E x cs).1) (eSum en bf E (nX en bf ((eSum en bf E x cs).2.1)) ((eSum en bf E x cs).2.2)).1) bf hv td hg c0 ((eSum en bf E (nX en bf ((eSum en bf E x cs).2.1)) ((eSum en bf E x cs).2.2)).2.2) (-13) h_ta h_ta_1 h_rd h_h h_h_9 h_h_10 h_h_11 g19 ((fr23 (ta + 1) (by omega) (by omega) (by omega) (by omega)).trans ((fr14 (ta + 1) (by omega)).trans ((fr9 (ta + 1) (by omega) (by omega) (by omega) (by omega)).trans m_ta_1))) g20 ((fr23 h (by omega) (by omega) (by omega) (by omega)).trans ((fr14 h (by omega)).trans ((fr9 h (by omega) (by omega) (by omega) (by omega)).trans m_h))) g21 ((fr23 (h + 10) (by omega) (by omega) (by omega) (by omega)).trans ((fr14 (h + 10) (by omega)).trans ((fr9 (h + 10) (by omega) (by omega) (by omega) (by omega)).trans m_h_10))) g22 (by first | omega | assumption | (apply nX_le <;> (repeat' (first | assumption | apply nX_le))) | (repeat' (first | assumption | apply nX_le | exact isN_k (by assumption) | exact isT_k (by assumption))) | exact vp_in_nI (by omega) (by decide)) hen srt srh sth (by first | omega | assumption | (apply nX_le <;> (repeat' (first | assumption | apply nX_le))) | (repeat' (first | assumption | apply nX_le | exact isN_k (by assumption) | exact isT_k (by assumption))) | exact vp_in_nI (by omega) (by decide))) X hK hP hS hl.1 rfl gX4_readTest_X4_put yd_X4_put ⟨by show 2 + 1 ≤ fE + 4; omega, by show 8 + (2 + 11) + (43) ≤ lE + 93; omega⟩ h_rd g20 (ci := 4) rfl rfl (Nat.le_of_ble_eq_true rfl) ⟨Nat.zero_le _, Nat.zero_le _⟩ dX4_readTest_59 (fun r26 M25 H locs hp24 hP hS => ?_)
          obtain ⟨rfl, g27, g28, fr29⟩ := hp24
          refine lv_if_eq (tgt := 69) hx hb dX4_readTest_62 (by decide) (fun c_62 => ?_) (fun c_62 => ?_)
          · exact absurd c_62 (by decide)
          · clear c_62
            refine lv_iconst (v := 1) hx hb dX4_readTest_65 (by decide) ?_
            refine lv_goto (tgt := 70) hx hb dX4_readTest_66 (by decide) ?_
            refine lv_istore_n (lv' := [(2, .int 1), (3, .int (kX en bf ((eSum en bf E x cs).2.1))), (0, .ref (ad rd)), (1, .int dp)]) hx hb dX4_readTest_70 rfl hl (by decide) rfl (fun ls hl => ?_)
            refine lv_iload_n hx hb dX4_readTest_71 rfl (lv_at hl 0 rfl) ?_
            exact q_wzret X hr hlocks hP hS (rfl) ⟨v0_18, (by first | (rw [hfin]; done) | (rw [hfin, eIf_1, okI_1 (okI_o c_42)]; done) | (rw [hfin, eIf_1, okI_0 (okI_z c_42)]; done)), (by rw [hfin]; first | (rw [eIf_x]; exact ((fr29 ta (by omega) (by omega)).trans g19)) | exact ((fr29 ta (by omega) (by omega)).trans g19)), (by rw [hfin]; first | (refine ((fr29 rd (by omega) (by omega)).trans g20).trans ?_; rw [eIf_1]; first | (rw [flt_0 (okI_o c_15), flt_0 (okI_o c_42)]; done) | (rw [flt_0 (okI_o c_15)]; done)) | exact ((fr29 rd (by omega) (by omega)).trans g20)), (by rw [hfin]; first | (refine g27.trans ?_; first | (rw [eIf_t (okI_o c_42), hop]; done) | (rw [eIf_f (okI_z c_42)]; done)) | exact g27), (by rw [hfin]; first | (refine g28.trans ?_; first | (rw [eIf_t (okI_o c_42), hop]; done) | (rw [eIf_f (okI_z c_42)]; done)) | exact g28), (fun q n0 n1 n2 n3 => ((fr29 q n2 n3).trans ((fr23 q n0 n1 n2 n3).trans ((fr14 q n0).trans (fr9 q n0 n1 n2 n3)))))⟩ dX4_readTest_72
    · skip
      refine lv_iload_n hx hb dX4_readTest_24 rfl (lv_at hl 0 rfl) ?_
      refine lv_bipush (v := 61) hx hb dX4_readTest_25 (by decide) ?_
      refine lv_icmp_ne (tgt := 71) hx hb dX4_readTest_27 (by decide) (fun c_27 => ?_) (fun c_27 => ?_)
      · skip
        have hfin : eTest en bf E x cs = (eSum en bf E x cs) := eLoop_op (by rw [opT, if_neg c_21, if_neg c_27]) 1
        refine lv_iload_n hx hb dX4_readTest_71 rfl (lv_at hl 1 rfl) ?_
        exact q_wzret X hr hlocks hP hS (okI_nb _) ⟨v0_4, (by first | (rw [hfin]; done) | (rw [hfin, eIf_1, okI_1 (okI_o c_42)]; done) | (rw [hfin, eIf_1, okI_0 (okI_z c_42)]; done)), (by rw [hfin]; first | (rw [eIf_x]; exact g5) | exact g5), (by rw [hfin]; first | (refine g6.trans ?_; rw [eIf_1]; first | (rw [flt_0 (okI_o c_15), flt_0 (okI_o c_42)]; done) | (rw [flt_0 (okI_o c_15)]; done)) | exact g6), (by rw [hfin]; first | (refine g7.trans ?_; first | (rw [eIf_t (okI_o c_42), hop]; done) | (rw [eIf_f (okI_z c_42)]; done)) | exact g7), (by rw [hfin]; first | (refine g8.trans ?_; first | (rw [eIf_t (okI_o c_42), hop]; done) | (rw [eIf_f (okI_z c_42)]; done)) | exact g8), (fun q n0 n1 n2 n3 => (fr9 q n0 n1 n2 n3))⟩ dX4_readTest_72
      · skip
        have hop : opT en bf (eSum en bf E x cs).2.1 = (-14) := (by rw [opT, if_neg c_21, if_pos c_27]); have hop0 : ¬ opT en bf (eSum en bf E x cs).2.1 = 0 := (by rw [hop]; decide); have hgt := opT_B (bf := bf) hen (eSum en bf E x cs).2.1 hb1.2.1 hop0; have hle := nX_le (bf := bf) hb1.2.1 hen; have hbd := hSB (nX en bf (eSum en bf E x cs).2.1) (eSum en bf E x cs).2.2 hle; have hfin : eTest en bf E x cs = eIf (eSum en bf E (nX en bf (eSum en bf E x cs).2.1) (eSum en bf E x cs).2.2) (opT en bf (eSum en bf E x cs).2.1) := (by rw [eTest, eLoop_on (okI_o c_15) hop0]; rfl)
        refine lv_aload_n hx hb dX4_readTest_30 rfl (lv_at hl 2 rfl) ?_
        refine q_get (v := .ref (ad ta)) (fs := [.ref (ad ta), .ref (ad h), .int (flt ft (eSum en bf E x cs).1)]) X hK hP fX4_readTest_9 h_rd g6 rfl dX4_readTest_31 ?_
        refine q_wrVv (As := []) (rest := []) (c_X9_adv l D cB cI cJ ad n M2 hI ta en ((eSum en bf E x cs).2.1) ln v0_4 bf h_ta h_ta_1 g5 ((fr9 (ta + 1) (by omega) (by omega) (by omega) (by omega)).trans m_ta_1) (by first | omega | assumption | (apply nX_le <;> (repeat' (first | assumption | apply nX_le))) | (repeat' (first | assumption | apply nX_le | exact isN_k (by assumption) | exact isT_k (by assumption))) | exact vp_in_nI (by omega) (by decide)) hen) X hK hP hS hl.1 rfl gX4_readTest_X9_advance yd_X9_advance ⟨by show 5 + 1 ≤ fE + 4; omega, by show 8 + (4 + 11) + (109) ≤ lE + 93; omega⟩ h_ta g5 (ci := 9) rfl rfl (Nat.le_of_ble_eq_true rfl) ⟨Nat.zero_le _, Nat.zero_le _⟩ dX4_readTest_34 (fun M31 H locs hp30 hP hS => ?_)
        obtain ⟨g33, fr34⟩ := hp30
        refine lv_aload_n hx hb dX4_readTest_37 rfl (lv_at hl 2 rfl) ?_
        refine lv_iload_n hx hb dX4_readTest_38 rfl (lv_at hl 3 rfl) ?_
        refine q_wrVi (As := [.int dp]) (rest := []) (c_X4_readSum l D cB cI cJ ad n M31 hI rd ta h en (nX en bf ((eSum en bf E x cs).2.1)) ln (uX en bf ((eSum en bf E x cs).2.1) v0_4) (flt ft (eSum en bf E x cs).1) bf hv td hg c0 ((eSum en bf E x cs).2.2) fE lE E dp h_ta h_ta_1 h_rd h_h h_h_9 h_h_10 h_h_11 g33 ((fr34 (ta + 1) (by omega)).trans ((fr9 (ta + 1) (by omega) (by omega) (by omega) (by omega)).trans m_ta_1)) ((fr34 rd (by omega)).trans g6) ((fr34 h (by omega)).trans ((fr9 h (by omega) (by omega) (by omega) (by omega)).trans m_h)) ((fr34 (h + 9) (by omega)).trans g7) ((fr34 (h + 10) (by omega)).trans ((fr9 (h + 10) (by omega) (by omega) (by omega) (by omega)).trans m_h_10)) ((fr34 (h + 11) (by omega)).trans g8) (by first | omega | assumption | (apply nX_le <;> (repeat' (first | assumption | apply nX_le))) | (repeat' (first | assumption | apply nX_le | exact isN_k (by assumption) | exact isT_k (by assumption))) | exact vp_in_nI (by omega) (by decide)) hen srt srh sth (by first | omega | assumption | (apply nX_le <;> (repeat' (first | assumption | apply nX_le))) | (repeat' (first | assumption | apply nX_le | exact isN_k (by assumption) | exact isT_k (by assumption))) | exact vp_in_nI (by omega) (by decide)) hEB hfE hlE hE) X hK hP hS hl.1 rfl gX4_readTest_X4_readSum yd_X4_readSum ⟨by show fE + 3 + 1 ≤ fE + 4; omega, by show 8 + (5 + 11) + (lE + 69) ≤ lE + 93; omega⟩ h_rd ((fr34 rd (by omega)).trans g6) (ci := 4) rfl rfl (Nat.le_of_ble_eq_true rfl) ⟨Nat.zero_le _, Nat.zero_le _⟩ dX4_readTest_39 (fun r37 M36 H locs hp35 hP hS => ?_)
        obtain ⟨v0_38, rfl, g39, g40, g41, g42, fr43⟩ := hp35
        refine lv_if_eq (tgt := 69) hx hb dX4_readTest_42 (by decide) (fun c_42 => ?_) (fun c_42 => ?_)
        · skip
          refine lv_iconst (v := 0) hx hb dX4_readTest_69 (by decide) ?_
          refine lv_istore_n (lv' := [(2, .int 0), (3, .int (kX en bf ((eSum en bf E x cs).2.1))), (0, .ref (ad rd)), (1, .int dp)]) hx hb dX4_readTest_70 rfl hl (by decide) rfl (fun ls hl => ?_)
          refine lv_iload_n hx hb dX4_readTest_71 rfl (lv_at hl 0 rfl) ?_
          exact q_wzret X hr hlocks hP hS (rfl) ⟨v0_38, (by first | (rw [hfin]; done) | (rw [hfin, eIf_1, okI_1 (okI_o c_42)]; done) | (rw [hfin, eIf_1, okI_0 (okI_z c_42)]; done)), (by rw [hfin]; first | (rw [eIf_x]; exact g39) | exact g39), (by rw [hfin]; first | (refine g40.trans ?_; rw [eIf_1]; first | (rw [flt_0 (okI_o c_15), flt_0 (okI_o c_42)]; done) | (rw [flt_0 (okI_o c_15)]; done)) | exact g40), (by rw [hfin]; first | (refine g41.trans ?_; first | (rw [eIf_t (okI_o c_42), hop]; done) | (rw [eIf_f (okI_z c_42)]; done)) | exact g41), (by rw [hfin]; first | (refine g42.trans ?_; first | (rw [eIf_t (okI_o c_42), hop]; done) | (rw [eIf_f (okI_z c_42)]; done)) | exact g42), (fun q n0 n1 n2 n3 => ((fr43 q n0 n1 n2 n3).trans ((fr34 q n0).trans (fr9 q n0 n1 n2 n3))))⟩ dX4_readTest_72
        · skip
          refine lv_aload_n hx hb dX4_readTest_45 rfl (lv_at hl 2 rfl) ?_
          refine lv_iload_n hx hb dX4_readTest_46 rfl (lv_at hl 0 rfl) ?_
          refine lv_bipush (v := 60) hx hb dX4_readTest_47 (by decide) ?_
          refine lv_icmp_ne (tgt := 57) hx hb dX4_readTest_49 (by decide) (fun c_49 => ?_) (fun c_49 => ?_)
          · skip
            refine lv_bipush (v := (-14)) hx hb dX4_readTest_57 (by decide) ?_
            refine q_wrVi (As := [.int (-14)]) (rest := []) (c_X4_put l D cB cI cJ ad n M36 hI rd ta h en ((eSum en bf E (nX en bf ((eSum en bf E x cs).2.1)) ((eSum en bf E x cs).2.2)).2.1) ln v0_38 (flt (flt ft (eSum en bf E x cs).1) (eSum en bf E (nX en bf ((eSum en bf E x cs).2.1)) ((eSum en bf E x cs).2.2)).1) bf hv td hg c0 ((eSum en bf E (nX en bf ((eSum en bf E x cs).2.1)) ((eSum en bf E x cs).2.2)).2.2) (-14) h_ta h_ta_1 h_rd h_h h_h_9 h_h_10 h_h_11 g39 ((fr43 (ta + 1) (by omega) (by omega) (by omega) (by omega)).trans ((fr34 (ta + 1) (by omega)).trans ((fr9 (ta + 1) (by omega) (by omega) (by omega) (by omega)).trans m_ta_1))) g40 ((fr43 h (by omega) (by omega) (by omega) (by omega)).trans ((fr34 h (by omega)).trans ((fr9 h (by omega) (by omega) (by omega) (by omega)).trans m_h))) g41 ((fr43 (h + 10) (by omega) (by omega) (by omega) (by omega)).trans ((fr34 (h + 10) (by omega)).trans ((fr9 (h + 10) (by omega) (by omega) (by omega) (by omega)).trans m_h_10))) g42 (by first | omega | assumption | (apply nX_le <;> (repeat' (first | assumption | apply nX_le))) | (repeat' (first | assumption | apply nX_le | exact isN_k (by assumption) | exact isT_k (by assumption))) | exact vp_in_nI (by omega) (by decide)) hen srt srh sth (by first | omega | assumption | (apply nX_le <;> (repeat' (first | assumption | apply nX_le))) | (repeat' (first | assumption | apply nX_le | exact isN_k (by assumption) | exact isT_k (by assumption))) | exact vp_in_nI (by omega) (by decide))) X hK hP hS hl.1 rfl gX4_readTest_X4_put yd_X4_put ⟨by show 2 + 1 ≤ fE + 4; omega, by show 8 + (2 + 11) + (43) ≤ lE + 93; omega⟩ h_rd g40 (ci := 4) rfl rfl (Nat.le_of_ble_eq_true rfl) ⟨Nat.zero_le _, Nat.zero_le _⟩ dX4_readTest_59 (fun r46 M45 H locs hp44 hP hS => ?_)
            obtain ⟨rfl, g47, g48, fr49⟩ := hp44
            refine lv_if_eq (tgt := 69) hx hb dX4_readTest_62 (by decide) (fun c_62 => ?_) (fun c_62 => ?_)
            · exact absurd c_62 (by decide)
            · clear c_62
              refine lv_iconst (v := 1) hx hb dX4_readTest_65 (by decide) ?_
              refine lv_goto (tgt := 70) hx hb dX4_readTest_66 (by decide) ?_
              refine lv_istore_n (lv' := [(2, .int 1), (3, .int (kX en bf ((eSum en bf E x cs).2.1))), (0, .ref (ad rd)), (1, .int dp)]) hx hb dX4_readTest_70 rfl hl (by decide) rfl (fun ls hl => ?_)
              refine lv_iload_n hx hb dX4_readTest_71 rfl (lv_at hl 0 rfl) ?_
              exact q_wzret X hr hlocks hP hS (rfl) ⟨v0_38, (by first | (rw [hfin]; done) | (rw [hfin, eIf_1, okI_1 (okI_o c_42)]; done) | (rw [hfin, eIf_1, okI_0 (okI_z c_42)]; done)), (by rw [hfin]; first | (rw [eIf_x]; exact ((fr49 ta (by omega) (by omega)).trans g39)) | exact ((fr49 ta (by omega) (by omega)).trans g39)), (by rw [hfin]; first | (refine ((fr49 rd (by omega) (by omega)).trans g40).trans ?_; rw [eIf_1]; first | (rw [flt_0 (okI_o c_15), flt_0 (okI_o c_42)]; done) | (rw [flt_0 (okI_o c_15)]; done)) | exact ((fr49 rd (by omega) (by omega)).trans g40)), (by rw [hfin]; first | (refine g47.trans ?_; first | (rw [eIf_t (okI_o c_42), hop]; done) | (rw [eIf_f (okI_z c_42)]; done)) | exact g47), (by rw [hfin]; first | (refine g48.trans ?_; first | (rw [eIf_t (okI_o c_42), hop]; done) | (rw [eIf_f (okI_z c_42)]; done)) | exact g48), (fun q n0 n1 n2 n3 => ((fr49 q n2 n3).trans ((fr43 q n0 n1 n2 n3).trans ((fr34 q n0).trans (fr9 q n0 n1 n2 n3)))))⟩ dX4_readTest_72
          · exact absurd c_49 c_21
set_option maxRecDepth 20000 in
theorem fX4_readNot_9 : FL wsX4_readNot RX4 9 4 0 := ⟨RX4, TX4, 3, rfl, by decide +kernel, by decide, by decide +kernel⟩
set_option maxRecDepth 20000 in
theorem fX4_readNot_44 : FL wsX4_readNot RX4 44 9 7 := ⟨RX9, TX9, 8, rfl, by decide +kernel, by decide, by decide +kernel⟩
theorem yd_X4_readTest : YD yX4_readTest 1 := ⟨by decide +kernel, by decide +kernel, by decide +kernel⟩
set_option maxHeartbeats 600000 in
set_option maxRecDepth 100000 in
theorem c_X4_readNot (l : Launch) (D : va_G) (cB cI cJ : ClassId) (ad : Nat → Nat) (n : Nat) (M : Nat → va_E) (hI : ipI ad n) (rd ta h en x : Nat) (ln nu ft : Int32) (bf : Nat → Int32) (hv : Nat → Int32) (td hg : Int32) (c0 : Nat → Int32) (cs : List Int32) (fE lE : Nat) (E : Nat → List Int32 → Int32 × Nat × List Int32) (dp : Int32) (h_ta : ta < n) (h_ta_1 : ta + 1 < n) (h_rd : rd < n) (h_h : h < n) (h_h_9 : h + 9 < n) (h_h_10 : h + 10 < n) (h_h_11 : h + 11 < n) (m_ta : M ta = .inr (9, tapeX ad ta ln en bf x nu)) (m_ta_1 : M (ta + 1) = .inl (cB, 700, .inl bf)) (m_rd : M rd = .inr (4, [.ref (ad ta), .ref (ad h), .int ft])) (m_h : M h = .inr (0, hallF ad h hv)) (m_h_9 : M (h + 9) = .inr (5, ruleF ad (h + 9) (nI cs.length) td hg)) (m_h_10 : M (h + 10) = .inr (8, [.int 1, .ref (ad (h + 9 + 2))])) (m_h_11 : M (h + 11) = .inl (cI, 700, .inl (layC cs c0))) (hxe : x ≤ en) (hen : en ≤ 700) (srt : rd < ta ∨ ta + 1 < rd) (srh : rd < h ∨ h + 15 < rd) (sth : ta + 1 < h ∨ h + 15 < ta) (hcx : cs.length ≤ x) (hEB : eB en E) (hfE : 10 ≤ fE) (hlE : 200 ≤ lE) (hE : eCon l D cB cI cJ ad n yX4_readExpr wsX4_readExpr fE lE rd ta h en ln bf hv td hg c0 (dp + 1) E) : cWi l D cB cI cJ ad n M yX4_readNot wsX4_readNot (fE + 5) (lE + 116) [.ref (ad rd), .int dp] (fun r M' => ∃ (v0 : Int32), r = okI (eNot en bf E x cs).1 ∧ M' ta = .inr (9, tapeX ad ta ln en bf ((eNot en bf E x cs).2.1) v0) ∧ M' rd = .inr (4, [.ref (ad ta), .ref (ad h), .int (flt ft (eNot en bf E x cs).1)]) ∧ M' (h + 9) = .inr (5, ruleF ad (h + 9) (nI (eNot en bf E x cs).2.2.length) td hg) ∧ M' (h + 11) = .inl (cI, 700, .inl (layC (eNot en bf E x cs).2.2 c0)) ∧ ∀ q : Nat, q ≠ ta → q ≠ rd → q ≠ h + 9 → q ≠ h + 11 → M' q = M q) := by
  refine q_body (cc := cX4_readNot) (maxL := 5) (ret := (some .boolean)) (by decide) rfl (Nat.le_of_ble_eq_true rfl) ?_
  intro p e s m args below meth c ls X hr hlocks hK hP hl
  obtain ⟨hx, hb, hml, hown, hts⟩ := id X
  have hS : va_S (ipA ad n) s.heap s.heap [] := va_S.rf
  have hl : lv_has ls 5 [(0, .ref (ad rd)), (1, .int dp)] := hl
  have hSB : eB en (eTest en bf E) := eTest_B hen hEB
  have hbX := eNotX_B (bf := bf) hen 6 x hxe
  have hbT := hSB (eNotX en bf 6 x) cs hbX.2
  have hn6 : eNotN en bf 6 x ≤ 6 := eNotN_le 6 x
  refine lv_iconst (v := 0) hx hb dX4_readNot_0 (by decide) ?_
  refine lv_istore_n (lv' := [(2, .int 0), (0, .ref (ad rd)), (1, .int dp)]) hx hb dX4_readNot_1 rfl hl (by decide) rfl (fun ls hl => ?_)
  have loop_2 : ∀ (fuel : Nat) (k x1 : Nat) (nu1 : Int32) (x2 : Int32), 6 - k < fuel → (k ≤ 6) → (x1 ≤ en) → (cs.length ≤ x1) → (eNotX en bf (6 - k) x1 = (eNotX en bf 6 x)) → (k + eNotN en bf (6 - k) x1 = eNotN en bf 6 x) → x2 = nI k → ∀ (ML2 : Nat → va_E) (H : Heap) (locs : List Loc), ML2 ta = .inr (9, tapeX ad ta ln en bf x1 nu1) → ML2 rd = .inr (4, [.ref (ad ta), .ref (ad h), .int ft]) → ML2 (h + 9) = .inr (5, ruleF ad (h + 9) (nI cs.length) td hg) → ML2 (h + 11) = .inl (cI, 700, .inl (layC cs c0)) → (∀ q : Nat, q ≠ ta → q ≠ rd → q ≠ h + 9 → q ≠ h + 11 → ML2 q = M q) → va_P D vwCl (ip ad n ML2) H → va_S (ipA ad n) s.heap H locs → ∀ (ls : Array Slot), lv_has ls 5 [(0, .ref (ad rd)), (1, .int dp), (2, .int x2)] → W p l e (rmOf (fE + 5) (lE + 116)) s m args below meth c H locs 0 0 (MQ below (va_Qi (fun r M' => ∃ (v0 : Int32), r = okI (eNot en bf E x cs).1 ∧ M' ta = .inr (9, tapeX ad ta ln en bf ((eNot en bf E x cs).2.1) v0) ∧ M' rd = .inr (4, [.ref (ad ta), .ref (ad h), .int (flt ft (eNot en bf E x cs).1)]) ∧ M' (h + 9) = .inr (5, ruleF ad (h + 9) (nI (eNot en bf E x cs).2.2.length) td hg) ∧ M' (h + 11) = .inl (cI, 700, .inl (layC (eNot en bf E x cs).2.2 c0)) ∧ ∀ q : Nat, q ≠ ta → q ≠ rd → q ≠ h + 9 → q ≠ h + 11 → M' q = M q) (fun M' t => va_P D vwCl (ip ad n M') t.heap) (ipA ad n)) args s 0 0 (ipA ad n)) (F0 m 2 ls []) := by
    intro fuel
    induction fuel with
    | zero =>
      intro k x1 nu1 x2 hz
      exact absurd hz (Nat.not_lt_zero _)
    | succ fuel ih_2 =>
      intro k x1 nu1 x2 hz_2 hk hx1 hc1 he hn e2 ML2 H locs mL2_0 mL2_1 mL2_2 mL2_3 fL2 hP hS ls hl
      subst e2
      skip
      refine lv_iload_n hx hb dX4_readNot_2 rfl (lv_at hl 2 rfl) ?_
      refine lv_bipush (v := 6) hx hb dX4_readNot_3 (by decide) ?_
      refine lv_icmp_ge (tgt := 34) hx hb dX4_readNot_5 (by decide) (fun c_5 => ?_) (fun c_5 => ?_)
      · skip
        have h9 : k = 6 := eq_of_le (k := 6) c_5 (by decide) hk; have hx9 : x1 = (eNotX en bf 6 x) := (by rw [← he, h9]; rfl); have hk9 : k = eNotN en bf 6 x := (by rw [← hn, h9]; rfl)
        have g1 : ML2 ta = .inr (9, tapeX ad ta ln en bf (eNotX en bf 6 x) nu1) := by refine mL2_0.trans ?_; rw [hx9]
        refine lv_aload_n hx hb dX4_readNot_34 rfl (lv_at hl 0 rfl) ?_
        refine q_get (v := .ref (ad ta)) (fs := [.ref (ad ta), .ref (ad h), .int ft]) X hK hP fX4_readNot_9 h_rd mL2_1 rfl dX4_readNot_35 ?_
        refine q_get (v := .ref (ad (1000 + (wX en bf (eNotX en bf 6 x))))) (fs := tapeX ad ta ln en bf (eNotX en bf 6 x) nu1) X hK hP fX4_readNot_44 h_ta g1 rfl dX4_readNot_38 ?_
        refine q_gsE (i := 15) (nm := "NOT") X hK hS (by decide) rfl (by decide +kernel) dX4_readNot_41 ?_
        refine q_acmp_ne (i := (wX en bf (eNotX en bf 6 x))) (j := 15) (tgt := 53) X hK (by first | omega | assumption | exact fwS_lt .. | exact wX_lt ..) (by decide) dX4_readNot_44 (by decide) (fun c_44 => ?_) (fun c_44 => ?_)
        · skip
          have hfin : eNot en bf E x cs = ((eTest en bf E (eNotX en bf 6 x) cs).1, (eTest en bf E (eNotX en bf 6 x) cs).2.1, eRep (eTest en bf E (eNotX en bf 6 x) cs).2.2 (eNotN en bf 6 x)) := by rw [eNot, if_neg c_44]
          refine lv_aload_n hx hb dX4_readNot_53 rfl (lv_at hl 0 rfl) ?_
          refine lv_iload_n hx hb dX4_readNot_54 rfl (lv_at hl 1 rfl) ?_
          refine q_wrVi (As := [.int dp]) (rest := []) (c_X4_readTest l D cB cI cJ ad n ML2 hI rd ta h en (eNotX en bf 6 x) ln nu1 ft bf hv td hg c0 cs fE lE E dp h_ta h_ta_1 h_rd h_h h_h_9 h_h_10 h_h_11 g1 ((fL2 (ta + 1) (by omega) (by omega) (by omega) (by omega)).trans m_ta_1) mL2_1 ((fL2 h (by omega) (by omega) (by omega) (by omega)).trans m_h) mL2_2 ((fL2 (h + 10) (by omega) (by omega) (by omega) (by omega)).trans m_h_10) mL2_3 (by first | omega | assumption | (apply nX_le <;> (repeat' (first | assumption | apply nX_le))) | (repeat' (first | assumption | apply nX_le | exact isN_k (by assumption) | exact isT_k (by assumption))) | exact vp_in_nI (by omega) (by decide)) hen srt srh sth (by first | omega | assumption | (apply nX_le <;> (repeat' (first | assumption | apply nX_le))) | (repeat' (first | assumption | apply nX_le | exact isN_k (by assumption) | exact isT_k (by assumption))) | exact vp_in_nI (by omega) (by decide)) hEB hfE hlE hE) X hK hP hS hl.1 rfl gX4_readNot_X4_readTest yd_X4_readTest ⟨by show fE + 4 + 1 ≤ fE + 5; omega, by show 8 + (4 + 11) + (lE + 93) ≤ lE + 116; omega⟩ h_rd mL2_1 (ci := 4) rfl rfl (Nat.le_of_ble_eq_true rfl) ⟨Nat.zero_le _, Nat.zero_le _⟩ dX4_readNot_55 (fun r4 M3 H locs hp2 hP hS => ?_)
          obtain ⟨v0_5, rfl, g6, g7, g8, g9, fr10⟩ := hp2
          refine lv_istore_n (lv' := [(3, .int (okI (eTest en bf E (eNotX en bf 6 x) cs).1)), (0, .ref (ad rd)), (1, .int dp), (2, .int (nI k))]) hx hb dX4_readNot_58 rfl hl (by decide) rfl (fun ls hl => ?_)
          refine lv_iconst (v := 0) hx hb dX4_readNot_59 (by decide) ?_
          refine lv_istore (lv' := [(4, .int 0), (3, .int (okI (eTest en bf E (eNotX en bf 6 x) cs).1)), (0, .ref (ad rd)), (1, .int dp), (2, .int (nI k))]) hx hb dX4_readNot_60 hl (by decide) rfl (fun ls hl => ?_)
          have loop_62 : ∀ (fuel : Nat) (j k2 : Nat) (nu2 : Int32) (x4 : Int32), k2 - j < fuel → (j ≤ k2) → (k2 = eNotN en bf 6 x) → x4 = nI j → ∀ (ML62 : Nat → va_E) (H : Heap) (locs : List Loc), ML62 ta = .inr (9, tapeX ad ta ln en bf ((eTest en bf E (eNotX en bf 6 x) cs).2.1) nu2) → ML62 rd = .inr (4, [.ref (ad ta), .ref (ad h), .int (flt ft (eTest en bf E (eNotX en bf 6 x) cs).1)]) → ML62 (h + 9) = .inr (5, ruleF ad (h + 9) (nI (eRep (eTest en bf E (eNotX en bf 6 x) cs).2.2 j).length) td hg) → ML62 (h + 11) = .inl (cI, 700, .inl (layC (eRep (eTest en bf E (eNotX en bf 6 x) cs).2.2 j) c0)) → (∀ q : Nat, q ≠ ta → q ≠ rd → q ≠ h + 9 → q ≠ h + 11 → ML62 q = M q) → va_P D vwCl (ip ad n ML62) H → va_S (ipA ad n) s.heap H locs → ∀ (ls : Array Slot), lv_has ls 5 [(0, .ref (ad rd)), (2, .int (nI k2)), (3, .int (okI (eTest en bf E (eNotX en bf 6 x) cs).1)), (4, .int x4)] → W p l e (rmOf (fE + 5) (lE + 116)) s m args below meth c H locs 0 0 (MQ below (va_Qi (fun r M' => ∃ (v0 : Int32), r = okI (eNot en bf E x cs).1 ∧ M' ta = .inr (9, tapeX ad ta ln en bf ((eNot en bf E x cs).2.1) v0) ∧ M' rd = .inr (4, [.ref (ad ta), .ref (ad h), .int (flt ft (eNot en bf E x cs).1)]) ∧ M' (h + 9) = .inr (5, ruleF ad (h + 9) (nI (eNot en bf E x cs).2.2.length) td hg) ∧ M' (h + 11) = .inl (cI, 700, .inl (layC (eNot en bf E x cs).2.2 c0)) ∧ ∀ q : Nat, q ≠ ta → q ≠ rd → q ≠ h + 9 → q ≠ h + 11 → M' q = M q) (fun M' t => va_P D vwCl (ip ad n M') t.heap) (ipA ad n)) args s 0 0 (ipA ad n)) (F0 m 62 ls []) := by
            intro fuel
            induction fuel with
            | zero =>
              intro j k2 nu2 x4 hz
              exact absurd hz (Nat.not_lt_zero _)
            | succ fuel ih_62 =>
              intro j k2 nu2 x4 hz_62 hj0 hk2 e4 ML62 H locs mL62_0 mL62_1 mL62_2 mL62_3 fL62 hP hS ls hl
              subst e4
              skip
              refine lv_iload hx hb dX4_readNot_62 (lv_at hl 3 rfl) ?_
              refine lv_iload_n hx hb dX4_readNot_64 rfl (lv_at hl 1 rfl) ?_
              refine lv_icmp_ge (tgt := 81) hx hb dX4_readNot_65 (by decide) (fun c_65 => ?_) (fun c_65 => ?_)
              · skip
                have hj : j = eNotN en bf 6 x := (by rw [← hk2]; exact eq_of_le c_65 (by omega) hj0)
                refine lv_iload_n hx hb dX4_readNot_81 rfl (lv_at hl 2 rfl) ?_
                exact q_wzret X hr hlocks hP hS (okI_nb _) ⟨nu2, (by rw [hfin]), (by first | (refine mL62_0.trans ?_; rw [hfin, hj]; done) | (refine mL62_0.trans ?_; rw [hfin]; done)), (by first | (refine mL62_1.trans ?_; rw [hfin, hj]; done) | (refine mL62_1.trans ?_; rw [hfin]; done)), (by first | (refine mL62_2.trans ?_; rw [hfin, hj]; done) | (refine mL62_2.trans ?_; rw [hfin]; done)), (by first | (refine mL62_3.trans ?_; rw [hfin, hj]; done) | (refine mL62_3.trans ?_; rw [hfin]; done)), (fun q n0 n1 n2 n3 => (fL62 q n0 n1 n2 n3))⟩ dX4_readNot_82
              · skip
                have ht9 := lt_of_nlt c_65 (by omega) hj0; have hl9 := eRep_len (eTest en bf E (eNotX en bf 6 x) cs).2.2 j
                refine lv_aload_n hx hb dX4_readNot_68 rfl (lv_at hl 0 rfl) ?_
                refine lv_bipush (v := (-12)) hx hb dX4_readNot_69 (by decide) ?_
                refine q_wrVi (As := [.int (-12)]) (rest := []) (c_X4_put l D cB cI cJ ad n ML62 hI rd ta h en ((eTest en bf E (eNotX en bf 6 x) cs).2.1) ln nu2 (flt ft (eTest en bf E (eNotX en bf 6 x) cs).1) bf hv td hg c0 (eRep (eTest en bf E (eNotX en bf 6 x) cs).2.2 j) (-12) h_ta h_ta_1 h_rd h_h h_h_9 h_h_10 h_h_11 mL62_0 ((fL62 (ta + 1) (by omega) (by omega) (by omega) (by omega)).trans m_ta_1) mL62_1 ((fL62 h (by omega) (by omega) (by omega) (by omega)).trans m_h) mL62_2 ((fL62 (h + 10) (by omega) (by omega) (by omega) (by omega)).trans m_h_10) mL62_3 (by first | omega | assumption | (apply nX_le <;> (repeat' (first | assumption | apply nX_le))) | (repeat' (first | assumption | apply nX_le | exact isN_k (by assumption) | exact isT_k (by assumption))) | exact vp_in_nI (by omega) (by decide)) hen srt srh sth (by first | omega | assumption | (apply nX_le <;> (repeat' (first | assumption | apply nX_le))) | (repeat' (first | assumption | apply nX_le | exact isN_k (by assumption) | exact isT_k (by assumption))) | exact vp_in_nI (by omega) (by decide))) X hK hP hS hl.1 rfl gX4_readNot_X4_put yd_X4_put ⟨by show 2 + 1 ≤ fE + 5; omega, by show 8 + (2 + 11) + (43) ≤ lE + 116; omega⟩ h_rd mL62_1 (ci := 4) rfl rfl (Nat.le_of_ble_eq_true rfl) ⟨Nat.zero_le _, Nat.zero_le _⟩ dX4_readNot_71 (fun r13 M12 H locs hp11 hP hS => ?_)
                obtain ⟨rfl, g14, g15, fr16⟩ := hp11
                refine lv_pop hx hb dX4_readNot_74 rfl ?_
                refine lv_iinc (v := ((nI j) + 1)) (lv' := [(4, .int ((nI j) + 1)), (0, .ref (ad rd)), (2, .int (nI k2)), (3, .int (okI (eTest en bf E (eNotX en bf 6 x) cs).1))]) hx hb dX4_readNot_75 hl (k := 3) rfl rfl (by decide) rfl (fun ls hl => ?_)
                refine lv_goto (tgt := 62) hx hb dX4_readNot_78 (by decide) ?_
                exact ih_62 (j + 1) k2 nu2 ((nI j) + 1) (by omega) (by omega) (by exact hk2) (by exact nI_1 _) _ _ _ ((fr16 ta (by omega) (by omega)).trans mL62_0) ((fr16 rd (by omega) (by omega)).trans mL62_1) g14 g15 (fun q n0 n1 n2 n3 => ((fr16 q n2 n3).trans (fL62 q n0 n1 n2 n3))) hP hS ls (lv_sub hl [1, 2, 3, 0] rfl)
          exact loop_62 (7) 0 k v0_5 0 (by omega) (by omega) (by exact hk9) (by rfl) _ _ _ g6 g7 g8 g9 (fun q n0 n1 n2 n3 => ((fr10 q n0 n1 n2 n3).trans (fL2 q n0 n1 n2 n3))) hP hS ls (lv_sub hl [2, 4, 1, 0] rfl)
        · skip
          refine lv_aload_n hx hb dX4_readNot_47 rfl (lv_at hl 0 rfl) ?_
          refine lv_iconst (v := 2) hx hb dX4_readNot_48 (by decide) ?_
          refine q_wrVi (As := [.int 2]) (rest := []) (c_X4_refuse l D cB cI cJ ad n ML2 hI rd ta h en (eNotX en bf 6 x) ln nu1 ft bf 2 h_ta h_ta_1 h_rd g1 ((fL2 (ta + 1) (by omega) (by omega) (by omega) (by omega)).trans m_ta_1) mL2_1 (by first | omega | assumption | (apply nX_le <;> (repeat' (first | assumption | apply nX_le))) | (repeat' (first | assumption | apply nX_le | exact isN_k (by assumption) | exact isT_k (by assumption))) | exact vp_in_nI (by omega) (by decide)) hen srt) X hK hP hS hl.1 rfl gX4_readNot_X4_refuse yd_X4_refuse ⟨by show 0 + 1 ≤ fE + 5; omega, by show 8 + (2 + 11) + (0) ≤ lE + 116; omega⟩ h_rd mL2_1 (ci := 4) rfl rfl (Nat.le_of_ble_eq_true rfl) ⟨Nat.zero_le _, Nat.zero_le _⟩ dX4_readNot_49 (fun r19 M18 H locs hp17 hP hS => ?_)
          obtain ⟨rfl, g20, fr21⟩ := hp17
          exact q_wzret X hr hlocks hP hS (rfl) ⟨nu1, (by rw [eNot, if_pos c_44, okI_ww]), (by refine ((fr21 ta (by omega)).trans g1).trans ?_; first | (rw [eNot, if_pos c_44]; done) | (rw [eNot, if_pos c_44, flt_w]; done)), (by refine g20.trans ?_; first | (rw [eNot, if_pos c_44]; done) | (rw [eNot, if_pos c_44, flt_w]; done)), (by refine ((fr21 (h + 9) (by omega)).trans mL2_2).trans ?_; first | (rw [eNot, if_pos c_44]; done) | (rw [eNot, if_pos c_44, flt_w]; done)), (by refine ((fr21 (h + 11) (by omega)).trans mL2_3).trans ?_; first | (rw [eNot, if_pos c_44]; done) | (rw [eNot, if_pos c_44, flt_w]; done)), (fun q n0 n1 n2 n3 => ((fr21 q n1).trans (fL2 q n0 n1 n2 n3)))⟩ dX4_readNot_52
      · skip
        have ht9 := lt_of_nlt (k := 6) c_5 (by decide) hk
        refine lv_aload_n hx hb dX4_readNot_8 rfl (lv_at hl 0 rfl) ?_
        refine q_get (v := .ref (ad ta)) (fs := [.ref (ad ta), .ref (ad h), .int ft]) X hK hP fX4_readNot_9 h_rd mL2_1 rfl dX4_readNot_9 ?_
        refine q_get (v := .ref (ad (1000 + (wX en bf x1)))) (fs := tapeX ad ta ln en bf x1 nu1) X hK hP fX4_readNot_44 h_ta mL2_0 rfl dX4_readNot_12 ?_
        refine q_gsE (i := 15) (nm := "NOT") X hK hS (by decide) rfl (by decide +kernel) dX4_readNot_15 ?_
        refine q_acmp_ne (i := (wX en bf x1)) (j := 15) (tgt := 34) X hK (by first | omega | assumption | exact fwS_lt .. | exact wX_lt ..) (by decide) dX4_readNot_18 (by decide) (fun c_18 => ?_) (fun c_18 => ?_)
        · skip
          have hx9 : x1 = (eNotX en bf 6 x) := (by rw [← he, show 6 - k = (6 - (k + 1)) + 1 by omega, eNotX, if_neg c_18]); have hk9 : k = eNotN en bf 6 x := (by rw [← hn, show 6 - k = (6 - (k + 1)) + 1 by omega, eNotN, if_neg c_18]; rfl)
          have g22 : ML2 ta = .inr (9, tapeX ad ta ln en bf (eNotX en bf 6 x) nu1) := by refine mL2_0.trans ?_; rw [hx9]
          refine lv_aload_n hx hb dX4_readNot_34 rfl (lv_at hl 0 rfl) ?_
          refine q_get (v := .ref (ad ta)) (fs := [.ref (ad ta), .ref (ad h), .int ft]) X hK hP fX4_readNot_9 h_rd mL2_1 rfl dX4_readNot_35 ?_
          refine q_get (v := .ref (ad (1000 + (wX en bf (eNotX en bf 6 x))))) (fs := tapeX ad ta ln en bf (eNotX en bf 6 x) nu1) X hK hP fX4_readNot_44 h_ta g22 rfl dX4_readNot_38 ?_
          refine q_gsE (i := 15) (nm := "NOT") X hK hS (by decide) rfl (by decide +kernel) dX4_readNot_41 ?_
          refine q_acmp_ne (i := (wX en bf (eNotX en bf 6 x))) (j := 15) (tgt := 53) X hK (by first | omega | assumption | exact fwS_lt .. | exact wX_lt ..) (by decide) dX4_readNot_44 (by decide) (fun c_44 => ?_) (fun c_44 => ?_)
          · skip
            have hfin : eNot en bf E x cs = ((eTest en bf E (eNotX en bf 6 x) cs).1, (eTest en bf E (eNotX en bf 6 x) cs).2.1, eRep (eTest en bf E (eNotX en bf 6 x) cs).2.2 (eNotN en bf 6 x)) := by rw [eNot, if_neg c_44]
            refine lv_aload_n hx hb dX4_readNot_53 rfl (lv_at hl 0 rfl) ?_
            refine lv_iload_n hx hb dX4_readNot_54 rfl (lv_at hl 1 rfl) ?_
            refine q_wrVi (As := [.int dp]) (rest := []) (c_X4_readTest l D cB cI cJ ad n ML2 hI rd ta h en (eNotX en bf 6 x) ln nu1 ft bf hv td hg c0 cs fE lE E dp h_ta h_ta_1 h_rd h_h h_h_9 h_h_10 h_h_11 g22 ((fL2 (ta + 1) (by omega) (by omega) (by omega) (by omega)).trans m_ta_1) mL2_1 ((fL2 h (by omega) (by omega) (by omega) (by omega)).trans m_h) mL2_2 ((fL2 (h + 10) (by omega) (by omega) (by omega) (by omega)).trans m_h_10) mL2_3 (by first | omega | assumption | (apply nX_le <;> (repeat' (first | assumption | apply nX_le))) | (repeat' (first | assumption | apply nX_le | exact isN_k (by assumption) | exact isT_k (by assumption))) | exact vp_in_nI (by omega) (by decide)) hen srt srh sth (by first | omega | assumption | (apply nX_le <;> (repeat' (first | assumption | apply nX_le))) | (repeat' (first | assumption | apply nX_le | exact isN_k (by assumption) | exact isT_k (by assumption))) | exact vp_in_nI (by omega) (by decide)) hEB hfE hlE hE) X hK hP hS hl.1 rfl gX4_readNot_X4_readTest yd_X4_readTest ⟨by show fE + 4 + 1 ≤ fE + 5; omega, by show 8 + (4 + 11) + (lE + 93) ≤ lE + 116; omega⟩ h_rd mL2_1 (ci := 4) rfl rfl (Nat.le_of_ble_eq_true rfl) ⟨Nat.zero_le _, Nat.zero_le _⟩ dX4_readNot_55 (fun r25 M24 H locs hp23 hP hS => ?_)
            obtain ⟨v0_26, rfl, g27, g28, g29, g30, fr31⟩ := hp23
            refine lv_istore_n (lv' := [(3, .int (okI (eTest en bf E (eNotX en bf 6 x) cs).1)), (0, .ref (ad rd)), (1, .int dp), (2, .int (nI k))]) hx hb dX4_readNot_58 rfl hl (by decide) rfl (fun ls hl => ?_)
            refine lv_iconst (v := 0) hx hb dX4_readNot_59 (by decide) ?_
            refine lv_istore (lv' := [(4, .int 0), (3, .int (okI (eTest en bf E (eNotX en bf 6 x) cs).1)), (0, .ref (ad rd)), (1, .int dp), (2, .int (nI k))]) hx hb dX4_readNot_60 hl (by decide) rfl (fun ls hl => ?_)
            have loop_62 : ∀ (fuel : Nat) (j k2 : Nat) (nu2 : Int32) (x4 : Int32), k2 - j < fuel → (j ≤ k2) → (k2 = eNotN en bf 6 x) → x4 = nI j → ∀ (ML62 : Nat → va_E) (H : Heap) (locs : List Loc), ML62 ta = .inr (9, tapeX ad ta ln en bf ((eTest en bf E (eNotX en bf 6 x) cs).2.1) nu2) → ML62 rd = .inr (4, [.ref (ad ta), .ref (ad h), .int (flt ft (eTest en bf E (eNotX en bf 6 x) cs).1)]) → ML62 (h + 9) = .inr (5, ruleF ad (h + 9) (nI (eRep (eTest en bf E (eNotX en bf 6 x) cs).2.2 j).length) td hg) → ML62 (h + 11) = .inl (cI, 700, .inl (layC (eRep (eTest en bf E (eNotX en bf 6 x) cs).2.2 j) c0)) → (∀ q : Nat, q ≠ ta → q ≠ rd → q ≠ h + 9 → q ≠ h + 11 → ML62 q = M q) → va_P D vwCl (ip ad n ML62) H → va_S (ipA ad n) s.heap H locs → ∀ (ls : Array Slot), lv_has ls 5 [(0, .ref (ad rd)), (2, .int (nI k2)), (3, .int (okI (eTest en bf E (eNotX en bf 6 x) cs).1)), (4, .int x4)] → W p l e (rmOf (fE + 5) (lE + 116)) s m args below meth c H locs 0 0 (MQ below (va_Qi (fun r M' => ∃ (v0 : Int32), r = okI (eNot en bf E x cs).1 ∧ M' ta = .inr (9, tapeX ad ta ln en bf ((eNot en bf E x cs).2.1) v0) ∧ M' rd = .inr (4, [.ref (ad ta), .ref (ad h), .int (flt ft (eNot en bf E x cs).1)]) ∧ M' (h + 9) = .inr (5, ruleF ad (h + 9) (nI (eNot en bf E x cs).2.2.length) td hg) ∧ M' (h + 11) = .inl (cI, 700, .inl (layC (eNot en bf E x cs).2.2 c0)) ∧ ∀ q : Nat, q ≠ ta → q ≠ rd → q ≠ h + 9 → q ≠ h + 11 → M' q = M q) (fun M' t => va_P D vwCl (ip ad n M') t.heap) (ipA ad n)) args s 0 0 (ipA ad n)) (F0 m 62 ls []) := by
              intro fuel
              induction fuel with
              | zero =>
                intro j k2 nu2 x4 hz
                exact absurd hz (Nat.not_lt_zero _)
              | succ fuel ih_62 =>
                intro j k2 nu2 x4 hz_62 hj0 hk2 e4 ML62 H locs mL62_0 mL62_1 mL62_2 mL62_3 fL62 hP hS ls hl
                subst e4
                skip
                refine lv_iload hx hb dX4_readNot_62 (lv_at hl 3 rfl) ?_
                refine lv_iload_n hx hb dX4_readNot_64 rfl (lv_at hl 1 rfl) ?_
                refine lv_icmp_ge (tgt := 81) hx hb dX4_readNot_65 (by decide) (fun c_65 => ?_) (fun c_65 => ?_)
                · skip
                  have hj : j = eNotN en bf 6 x := (by rw [← hk2]; exact eq_of_le c_65 (by omega) hj0)
                  refine lv_iload_n hx hb dX4_readNot_81 rfl (lv_at hl 2 rfl) ?_
                  exact q_wzret X hr hlocks hP hS (okI_nb _) ⟨nu2, (by rw [hfin]), (by first | (refine mL62_0.trans ?_; rw [hfin, hj]; done) | (refine mL62_0.trans ?_; rw [hfin]; done)), (by first | (refine mL62_1.trans ?_; rw [hfin, hj]; done) | (refine mL62_1.trans ?_; rw [hfin]; done)), (by first | (refine mL62_2.trans ?_; rw [hfin, hj]; done) | (refine mL62_2.trans ?_; rw [hfin]; done)), (by first | (refine mL62_3.trans ?_; rw [hfin, hj]; done) | (refine mL62_3.trans ?_; rw [hfin]; done)), (fun q n0 n1 n2 n3 => (fL62 q n0 n1 n2 n3))⟩ dX4_readNot_82
                · skip
                  have ht9 := lt_of_nlt c_65 (by omega) hj0; have hl9 := eRep_len (eTest en bf E (eNotX en bf 6 x) cs).2.2 j
                  refine lv_aload_n hx hb dX4_readNot_68 rfl (lv_at hl 0 rfl) ?_
                  refine lv_bipush (v := (-12)) hx hb dX4_readNot_69 (by decide) ?_
                  refine q_wrVi (As := [.int (-12)]) (rest := []) (c_X4_put l D cB cI cJ ad n ML62 hI rd ta h en ((eTest en bf E (eNotX en bf 6 x) cs).2.1) ln nu2 (flt ft (eTest en bf E (eNotX en bf 6 x) cs).1) bf hv td hg c0 (eRep (eTest en bf E (eNotX en bf 6 x) cs).2.2 j) (-12) h_ta h_ta_1 h_rd h_h h_h_9 h_h_10 h_h_11 mL62_0 ((fL62 (ta + 1) (by omega) (by omega) (by omega) (by omega)).trans m_ta_1) mL62_1 ((fL62 h (by omega) (by omega) (by omega) (by omega)).trans m_h) mL62_2 ((fL62 (h + 10) (by omega) (by omega) (by omega) (by omega)).trans m_h_10) mL62_3 (by first | omega | assumption | (apply nX_le <;> (repeat' (first | assumption | apply nX_le))) | (repeat' (first | assumption | apply nX_le | exact isN_k (by assumption) | exact isT_k (by assumption))) | exact vp_in_nI (by omega) (by decide)) hen srt srh sth (by first | omega | assumption | (apply nX_le <;> (repeat' (first | assumption | apply nX_le))) | (repeat' (first | assumption | apply nX_le | exact isN_k (by assumption) | exact isT_k (by assumption))) | exact vp_in_nI (by omega) (by decide))) X hK hP hS hl.1 rfl gX4_readNot_X4_put yd_X4_put ⟨by show 2 + 1 ≤ fE + 5; omega, by show 8 + (2 + 11) + (43) ≤ lE + 116; omega⟩ h_rd mL62_1 (ci := 4) rfl rfl (Nat.le_of_ble_eq_true rfl) ⟨Nat.zero_le _, Nat.zero_le _⟩ dX4_readNot_71 (fun r34 M33 H locs hp32 hP hS => ?_)
                  obtain ⟨rfl, g35, g36, fr37⟩ := hp32
                  refine lv_pop hx hb dX4_readNot_74 rfl ?_
                  refine lv_iinc (v := ((nI j) + 1)) (lv' := [(4, .int ((nI j) + 1)), (0, .ref (ad rd)), (2, .int (nI k2)), (3, .int (okI (eTest en bf E (eNotX en bf 6 x) cs).1))]) hx hb dX4_readNot_75 hl (k := 3) rfl rfl (by decide) rfl (fun ls hl => ?_)
                  refine lv_goto (tgt := 62) hx hb dX4_readNot_78 (by decide) ?_
                  exact ih_62 (j + 1) k2 nu2 ((nI j) + 1) (by omega) (by omega) (by exact hk2) (by exact nI_1 _) _ _ _ ((fr37 ta (by omega) (by omega)).trans mL62_0) ((fr37 rd (by omega) (by omega)).trans mL62_1) g35 g36 (fun q n0 n1 n2 n3 => ((fr37 q n2 n3).trans (fL62 q n0 n1 n2 n3))) hP hS ls (lv_sub hl [1, 2, 3, 0] rfl)
            exact loop_62 (7) 0 k v0_26 0 (by omega) (by omega) (by exact hk9) (by rfl) _ _ _ g27 g28 g29 g30 (fun q n0 n1 n2 n3 => ((fr31 q n0 n1 n2 n3).trans (fL2 q n0 n1 n2 n3))) hP hS ls (lv_sub hl [2, 4, 1, 0] rfl)
          · skip
            refine lv_aload_n hx hb dX4_readNot_47 rfl (lv_at hl 0 rfl) ?_
            refine lv_iconst (v := 2) hx hb dX4_readNot_48 (by decide) ?_
            refine q_wrVi (As := [.int 2]) (rest := []) (c_X4_refuse l D cB cI cJ ad n ML2 hI rd ta h en (eNotX en bf 6 x) ln nu1 ft bf 2 h_ta h_ta_1 h_rd g22 ((fL2 (ta + 1) (by omega) (by omega) (by omega) (by omega)).trans m_ta_1) mL2_1 (by first | omega | assumption | (apply nX_le <;> (repeat' (first | assumption | apply nX_le))) | (repeat' (first | assumption | apply nX_le | exact isN_k (by assumption) | exact isT_k (by assumption))) | exact vp_in_nI (by omega) (by decide)) hen srt) X hK hP hS hl.1 rfl gX4_readNot_X4_refuse yd_X4_refuse ⟨by show 0 + 1 ≤ fE + 5; omega, by show 8 + (2 + 11) + (0) ≤ lE + 116; omega⟩ h_rd mL2_1 (ci := 4) rfl rfl (Nat.le_of_ble_eq_true rfl) ⟨Nat.zero_le _, Nat.zero_le _⟩ dX4_readNot_49 (fun r40 M39 H locs hp38 hP hS => ?_)
            obtain ⟨rfl, g41, fr42⟩ := hp38
            exact q_wzret X hr hlocks hP hS (rfl) ⟨nu1, (by rw [eNot, if_pos c_44, okI_ww]), (by refine ((fr42 ta (by omega)).trans g22).trans ?_; first | (rw [eNot, if_pos c_44]; done) | (rw [eNot, if_pos c_44, flt_w]; done)), (by refine g41.trans ?_; first | (rw [eNot, if_pos c_44]; done) | (rw [eNot, if_pos c_44, flt_w]; done)), (by refine ((fr42 (h + 9) (by omega)).trans mL2_2).trans ?_; first | (rw [eNot, if_pos c_44]; done) | (rw [eNot, if_pos c_44, flt_w]; done)), (by refine ((fr42 (h + 11) (by omega)).trans mL2_3).trans ?_; first | (rw [eNot, if_pos c_44]; done) | (rw [eNot, if_pos c_44, flt_w]; done)), (fun q n0 n1 n2 n3 => ((fr42 q n1).trans (fL2 q n0 n1 n2 n3)))⟩ dX4_readNot_52
        · skip
          refine lv_iinc (v := ((nI k) + 1)) (lv' := [(2, .int ((nI k) + 1)), (0, .ref (ad rd)), (1, .int dp)]) hx hb dX4_readNot_21 hl (k := 2) rfl rfl (by decide) rfl (fun ls hl => ?_)
          refine lv_aload_n hx hb dX4_readNot_24 rfl (lv_at hl 1 rfl) ?_
          refine q_get (v := .ref (ad ta)) (fs := [.ref (ad ta), .ref (ad h), .int ft]) X hK hP fX4_readNot_9 h_rd mL2_1 rfl dX4_readNot_25 ?_
          refine q_wrVv (As := []) (rest := []) (c_X9_adv l D cB cI cJ ad n ML2 hI ta en x1 ln nu1 bf h_ta h_ta_1 mL2_0 ((fL2 (ta + 1) (by omega) (by omega) (by omega) (by omega)).trans m_ta_1) (by first | omega | assumption | (apply nX_le <;> (repeat' (first | assumption | apply nX_le))) | (repeat' (first | assumption | apply nX_le | exact isN_k (by assumption) | exact isT_k (by assumption))) | exact vp_in_nI (by omega) (by decide)) hen) X hK hP hS hl.1 rfl gX4_readNot_X9_advance yd_X9_advance ⟨by show 5 + 1 ≤ fE + 5; omega, by show 8 + (4 + 11) + (109) ≤ lE + 116; omega⟩ h_ta mL2_0 (ci := 9) rfl rfl (Nat.le_of_ble_eq_true rfl) ⟨Nat.zero_le _, Nat.zero_le _⟩ dX4_readNot_28 (fun M44 H locs hp43 hP hS => ?_)
          obtain ⟨g46, fr47⟩ := hp43
          refine lv_goto (tgt := 2) hx hb dX4_readNot_31 (by decide) ?_
          exact ih_2 (k + 1) (nX en bf x1) (uX en bf x1 nu1) ((nI k) + 1) (by omega) (by omega) (by exact nX_le hx1 hen) (by have := nX_ge (bf := bf) hx1 hen; omega) (by rw [← he, show 6 - k = (6 - (k + 1)) + 1 by omega, eNotX, if_pos c_18]) (by rw [← hn, show 6 - k = (6 - (k + 1)) + 1 by omega, eNotN, if_pos c_18]; omega) (by exact nI_1 _) _ _ _ g46 ((fr47 rd (by omega)).trans mL2_1) ((fr47 (h + 9) (by omega)).trans mL2_2) ((fr47 (h + 11) (by omega)).trans mL2_3) (fun q n0 n1 n2 n3 => ((fr47 q n0).trans (fL2 q n0 n1 n2 n3))) hP hS ls (lv_sub hl [1, 2, 0] rfl)
  exact loop_2 (7) 0 x nu 0 (by omega) (by omega) (by omega) (by omega) (by rfl) (by exact Nat.zero_add _) (by rfl) _ _ _ m_ta m_rd m_h_9 m_h_11 (fun q n0 n1 n2 n3 => rfl) hP hS ls (lv_sub hl [1, 2, 0] rfl)
theorem yd_X4_readNot : YD yX4_readNot 1 := ⟨by decide +kernel, by decide +kernel, by decide +kernel⟩
set_option maxRecDepth 20000 in
theorem fX4_readAnd_9 : FL wsX4_readAnd RX4 9 4 0 := ⟨RX4, TX4, 3, rfl, by decide +kernel, by decide, by decide +kernel⟩
set_option maxRecDepth 20000 in
theorem fX4_readAnd_44 : FL wsX4_readAnd RX4 44 9 7 := ⟨RX9, TX9, 8, rfl, by decide +kernel, by decide, by decide +kernel⟩
set_option maxHeartbeats 600000 in
set_option maxRecDepth 100000 in
theorem c_X4_readAnd (l : Launch) (D : va_G) (cB cI cJ : ClassId) (ad : Nat → Nat) (n : Nat) (M : Nat → va_E) (hI : ipI ad n) (rd ta h en x : Nat) (ln nu ft : Int32) (bf : Nat → Int32) (hv : Nat → Int32) (td hg : Int32) (c0 : Nat → Int32) (cs : List Int32) (fE lE : Nat) (E : Nat → List Int32 → Int32 × Nat × List Int32) (dp : Int32) (h_ta : ta < n) (h_ta_1 : ta + 1 < n) (h_rd : rd < n) (h_h : h < n) (h_h_9 : h + 9 < n) (h_h_10 : h + 10 < n) (h_h_11 : h + 11 < n) (m_ta : M ta = .inr (9, tapeX ad ta ln en bf x nu)) (m_ta_1 : M (ta + 1) = .inl (cB, 700, .inl bf)) (m_rd : M rd = .inr (4, [.ref (ad ta), .ref (ad h), .int ft])) (m_h : M h = .inr (0, hallF ad h hv)) (m_h_9 : M (h + 9) = .inr (5, ruleF ad (h + 9) (nI cs.length) td hg)) (m_h_10 : M (h + 10) = .inr (8, [.int 1, .ref (ad (h + 9 + 2))])) (m_h_11 : M (h + 11) = .inl (cI, 700, .inl (layC cs c0))) (hxe : x ≤ en) (hen : en ≤ 700) (srt : rd < ta ∨ ta + 1 < rd) (srh : rd < h ∨ h + 15 < rd) (sth : ta + 1 < h ∨ h + 15 < ta) (hcx : cs.length ≤ x) (hEB : eB en E) (hfE : 10 ≤ fE) (hlE : 200 ≤ lE) (hE : eCon l D cB cI cJ ad n yX4_readExpr wsX4_readExpr fE lE rd ta h en ln bf hv td hg c0 (dp + 1) E) : cWi l D cB cI cJ ad n M yX4_readAnd wsX4_readAnd (fE + 6) (lE + 140) [.ref (ad rd), .int dp] (fun r M' => ∃ (v0 : Int32), r = okI (eAnd en bf E x cs).1 ∧ M' ta = .inr (9, tapeX ad ta ln en bf ((eAnd en bf E x cs).2.1) v0) ∧ M' rd = .inr (4, [.ref (ad ta), .ref (ad h), .int (flt ft (eAnd en bf E x cs).1)]) ∧ M' (h + 9) = .inr (5, ruleF ad (h + 9) (nI (eAnd en bf E x cs).2.2.length) td hg) ∧ M' (h + 11) = .inl (cI, 700, .inl (layC (eAnd en bf E x cs).2.2 c0)) ∧ ∀ q : Nat, q ≠ ta → q ≠ rd → q ≠ h + 9 → q ≠ h + 11 → M' q = M q) := by
  refine q_body (cc := cX4_readAnd) (maxL := 4) (ret := (some .boolean)) (by decide) rfl (Nat.le_of_ble_eq_true rfl) ?_
  intro p e s m args below meth c ls X hr hlocks hK hP hl
  obtain ⟨hx, hb, hml, hown, hts⟩ := id X
  have hS : va_S (ipA ad n) s.heap s.heap [] := va_S.rf
  have hl : lv_has ls 4 [(0, .ref (ad rd)), (1, .int dp)] := hl
  have hSB : eB en (eNot en bf E) := eNot_B hen hEB
  refine lv_aload_n hx hb dX4_readAnd_0 rfl (lv_at hl 0 rfl) ?_
  refine lv_iload_n hx hb dX4_readAnd_1 rfl (lv_at hl 1 rfl) ?_
  refine q_wrVi (As := [.int dp]) (rest := []) (c_X4_readNot l D cB cI cJ ad n M hI rd ta h en x ln nu ft bf hv td hg c0 cs fE lE E dp h_ta h_ta_1 h_rd h_h h_h_9 h_h_10 h_h_11 m_ta m_ta_1 m_rd m_h m_h_9 m_h_10 m_h_11 hxe hen srt srh sth hcx hEB hfE hlE hE) X hK hP hS hl.1 rfl gX4_readAnd_X4_readNot yd_X4_readNot ⟨by show fE + 5 + 1 ≤ fE + 6; omega, by show 8 + (5 + 11) + (lE + 116) ≤ lE + 140; omega⟩ h_rd m_rd (ci := 4) rfl rfl (Nat.le_of_ble_eq_true rfl) ⟨Nat.zero_le _, Nat.zero_le _⟩ dX4_readAnd_2 (fun r3 M2 H locs hp1 hP hS => ?_)
  obtain ⟨v0_4, rfl, g5, g6, g7, g8, fr9⟩ := hp1
  refine lv_istore_n (lv' := [(2, .int (okI (eNot en bf E x cs).1)), (0, .ref (ad rd)), (1, .int dp)]) hx hb dX4_readAnd_5 rfl hl (by decide) rfl (fun ls hl => ?_)
  refine lv_iconst (v := 0) hx hb dX4_readAnd_6 (by decide) ?_
  refine lv_istore_n (lv' := [(3, .int 0), (2, .int (okI (eNot en bf E x cs).1)), (0, .ref (ad rd)), (1, .int dp)]) hx hb dX4_readAnd_7 rfl hl (by decide) rfl (fun ls hl => ?_)
  have loop_8 : ∀ (fuel : Nat) (t : Nat) (r3 : Int32 × Nat × List Int32) (nu1 : Int32) (x2 : Int32) (x3 : Int32), 700 - t < fuel → (t ≤ 700) → (r3.2.1 ≤ en) → (r3.2.2.length ≤ r3.2.1) → (eLoop en bf (opA en bf) (eNot en bf E) (700 - t) r3 = eAnd en bf E x cs) → x2 = okI r3.1 → x3 = nI t → ∀ (ML8 : Nat → va_E) (H : Heap) (locs : List Loc), ML8 ta = .inr (9, tapeX ad ta ln en bf r3.2.1 nu1) → ML8 rd = .inr (4, [.ref (ad ta), .ref (ad h), .int (flt ft r3.1)]) → ML8 (h + 9) = .inr (5, ruleF ad (h + 9) (nI r3.2.2.length) td hg) → ML8 (h + 11) = .inl (cI, 700, .inl (layC r3.2.2 c0)) → (∀ q : Nat, q ≠ ta → q ≠ rd → q ≠ h + 9 → q ≠ h + 11 → ML8 q = M q) → va_P D vwCl (ip ad n ML8) H → va_S (ipA ad n) s.heap H locs → ∀ (ls : Array Slot), lv_has ls 4 [(0, .ref (ad rd)), (1, .int dp), (2, .int x2), (3, .int x3)] → W p l e (rmOf (fE + 6) (lE + 140)) s m args below meth c H locs 0 0 (MQ below (va_Qi (fun r M' => ∃ (v0 : Int32), r = okI (eAnd en bf E x cs).1 ∧ M' ta = .inr (9, tapeX ad ta ln en bf ((eAnd en bf E x cs).2.1) v0) ∧ M' rd = .inr (4, [.ref (ad ta), .ref (ad h), .int (flt ft (eAnd en bf E x cs).1)]) ∧ M' (h + 9) = .inr (5, ruleF ad (h + 9) (nI (eAnd en bf E x cs).2.2.length) td hg) ∧ M' (h + 11) = .inl (cI, 700, .inl (layC (eAnd en bf E x cs).2.2 c0)) ∧ ∀ q : Nat, q ≠ ta → q ≠ rd → q ≠ h + 9 → q ≠ h + 11 → M' q = M q) (fun M' t => va_P D vwCl (ip ad n M') t.heap) (ipA ad n)) args s 0 0 (ipA ad n)) (F0 m 8 ls []) := by
    intro fuel
    induction fuel with
    | zero =>
      intro t r3 nu1 x2 x3 hz
      exact absurd hz (Nat.not_lt_zero _)
    | succ fuel ih_8 =>
      intro t r3 nu1 x2 x3 hz_8 ht hx3 hc3 he e2 e3 ML8 H locs mL8_0 mL8_1 mL8_2 mL8_3 fL8 hP hS ls hl
      subst e2
      subst e3
      skip
      refine lv_iload_n hx hb dX4_readAnd_8 rfl (lv_at hl 3 rfl) ?_
      refine lv_sipush (v := 700) hx hb dX4_readAnd_9 (by decide) ?_
      refine lv_icmp_ge (tgt := 68) hx hb dX4_readAnd_12 (by decide) (fun c_12 => ?_) (fun c_12 => ?_)
      · skip
        have hfin : r3 = eAnd en bf E x cs := by have h9 := eq_of_le (k := 700) c_12 (by decide) ht; rw [← he, h9]; rfl
        refine lv_iload_n hx hb dX4_readAnd_68 rfl (lv_at hl 2 rfl) ?_
        exact q_wzret X hr hlocks hP hS (okI_nb _) ⟨nu1, (by rw [← hfin]), (by rw [← hfin]; exact mL8_0), (by rw [← hfin]; exact mL8_1), (by rw [← hfin]; exact mL8_2), (by rw [← hfin]; exact mL8_3), (fun q n0 n1 n2 n3 => (fL8 q n0 n1 n2 n3))⟩ dX4_readAnd_69
      · skip
        have ht9 := lt_of_nlt (k := 700) c_12 (by decide) ht
        refine lv_iload_n hx hb dX4_readAnd_15 rfl (lv_at hl 2 rfl) ?_
        refine lv_if_eq (tgt := 68) hx hb dX4_readAnd_16 (by decide) (fun c_16 => ?_) (fun c_16 => ?_)
        · skip
          have hfin : r3 = eAnd en bf E x cs := (eLoop_bad (okI_z c_16) _).symm.trans he
          refine lv_iload_n hx hb dX4_readAnd_68 rfl (lv_at hl 2 rfl) ?_
          exact q_wzret X hr hlocks hP hS (okI_nb _) ⟨nu1, (by rw [← hfin]), (by rw [← hfin]; exact mL8_0), (by rw [← hfin]; exact mL8_1), (by rw [← hfin]; exact mL8_2), (by rw [← hfin]; exact mL8_3), (fun q n0 n1 n2 n3 => (fL8 q n0 n1 n2 n3))⟩ dX4_readAnd_69
        · skip
          refine lv_aload_n hx hb dX4_readAnd_19 rfl (lv_at hl 0 rfl) ?_
          refine q_get (v := .ref (ad ta)) (fs := [.ref (ad ta), .ref (ad h), .int (flt ft r3.1)]) X hK hP fX4_readAnd_9 h_rd mL8_1 rfl dX4_readAnd_20 ?_
          refine q_get (v := .ref (ad (1000 + (wX en bf r3.2.1)))) (fs := tapeX ad ta ln en bf r3.2.1 nu1) X hK hP fX4_readAnd_44 h_ta mL8_0 rfl dX4_readAnd_23 ?_
          refine q_gsE (i := 14) (nm := "AND") X hK hS (by decide) rfl (by decide +kernel) dX4_readAnd_26 ?_
          refine q_acmp_ne (i := (wX en bf r3.2.1)) (j := 14) (tgt := 68) X hK (by first | omega | assumption | exact fwS_lt .. | exact wX_lt ..) (by decide) dX4_readAnd_29 (by decide) (fun c_29 => ?_) (fun c_29 => ?_)
          · skip
            have hfin : r3 = eAnd en bf E x cs := (eLoop_op (by rw [opA, if_neg c_29]) _).symm.trans he
            refine lv_iload_n hx hb dX4_readAnd_68 rfl (lv_at hl 2 rfl) ?_
            exact q_wzret X hr hlocks hP hS (okI_nb _) ⟨nu1, (by rw [← hfin]), (by rw [← hfin]; exact mL8_0), (by rw [← hfin]; exact mL8_1), (by rw [← hfin]; exact mL8_2), (by rw [← hfin]; exact mL8_3), (fun q n0 n1 n2 n3 => (fL8 q n0 n1 n2 n3))⟩ dX4_readAnd_69
          · skip
            have hop : opA en bf r3.2.1 = (-11) := (by rw [opA, if_pos c_29]); have hop0 : ¬ opA en bf r3.2.1 = 0 := (by rw [hop]; decide); have hgt := opA_B (bf := bf) hen r3.2.1 hx3 hop0; have hle := nX_le (bf := bf) hx3 hen; have hbd := hSB (nX en bf r3.2.1) r3.2.2 hle
            refine lv_aload_n hx hb dX4_readAnd_32 rfl (lv_at hl 0 rfl) ?_
            refine q_get (v := .ref (ad ta)) (fs := [.ref (ad ta), .ref (ad h), .int (flt ft r3.1)]) X hK hP fX4_readAnd_9 h_rd mL8_1 rfl dX4_readAnd_33 ?_
            refine q_wrVv (As := []) (rest := []) (c_X9_adv l D cB cI cJ ad n ML8 hI ta en r3.2.1 ln nu1 bf h_ta h_ta_1 mL8_0 ((fL8 (ta + 1) (by omega) (by omega) (by omega) (by omega)).trans m_ta_1) (by first | omega | assumption | (apply nX_le <;> (repeat' (first | assumption | apply nX_le))) | (repeat' (first | assumption | apply nX_le | exact isN_k (by assumption) | exact isT_k (by assumption))) | exact vp_in_nI (by omega) (by decide)) hen) X hK hP hS hl.1 rfl gX4_readAnd_X9_advance yd_X9_advance ⟨by show 5 + 1 ≤ fE + 6; omega, by show 8 + (4 + 11) + (109) ≤ lE + 140; omega⟩ h_ta mL8_0 (ci := 9) rfl rfl (Nat.le_of_ble_eq_true rfl) ⟨Nat.zero_le _, Nat.zero_le _⟩ dX4_readAnd_36 (fun M11 H locs hp10 hP hS => ?_)
            obtain ⟨g13, fr14⟩ := hp10
            refine lv_aload_n hx hb dX4_readAnd_39 rfl (lv_at hl 0 rfl) ?_
            refine lv_iload_n hx hb dX4_readAnd_40 rfl (lv_at hl 1 rfl) ?_
            refine q_wrVi (As := [.int dp]) (rest := []) (c_X4_readNot l D cB cI cJ ad n M11 hI rd ta h en (nX en bf r3.2.1) ln (uX en bf r3.2.1 nu1) (flt ft r3.1) bf hv td hg c0 r3.2.2 fE lE E dp h_ta h_ta_1 h_rd h_h h_h_9 h_h_10 h_h_11 g13 ((fr14 (ta + 1) (by omega)).trans ((fL8 (ta + 1) (by omega) (by omega) (by omega) (by omega)).trans m_ta_1)) ((fr14 rd (by omega)).trans mL8_1) ((fr14 h (by omega)).trans ((fL8 h (by omega) (by omega) (by omega) (by omega)).trans m_h)) ((fr14 (h + 9) (by omega)).trans mL8_2) ((fr14 (h + 10) (by omega)).trans ((fL8 (h + 10) (by omega) (by omega) (by omega) (by omega)).trans m_h_10)) ((fr14 (h + 11) (by omega)).trans mL8_3) (by first | omega | assumption | (apply nX_le <;> (repeat' (first | assumption | apply nX_le))) | (repeat' (first | assumption | apply nX_le | exact isN_k (by assumption) | exact isT_k (by assumption))) | exact vp_in_nI (by omega) (by decide)) hen srt srh sth (by first | omega | assumption | (apply nX_le <;> (repeat' (first | assumption | apply nX_le))) | (repeat' (first | assumption | apply nX_le | exact isN_k (by assumption) | exact isT_k (by assumption))) | exact vp_in_nI (by omega) (by decide)) hEB hfE hlE hE) X hK hP hS hl.1 rfl gX4_readAnd_X4_readNot yd_X4_readNot ⟨by show fE + 5 + 1 ≤ fE + 6; omega, by show 8 + (5 + 11) + (lE + 116) ≤ lE + 140; omega⟩ h_rd ((fr14 rd (by omega)).trans mL8_1) (ci := 4) rfl rfl (Nat.le_of_ble_eq_true rfl) ⟨Nat.zero_le _, Nat.zero_le _⟩ dX4_readAnd_41 (fun r17 M16 H locs hp15 hP hS => ?_)
            obtain ⟨v0_18, rfl, g19, g20, g21, g22, fr23⟩ := hp15
            refine lv_if_eq (tgt := 60) hx hb dX4_readAnd_44 (by decide) (fun c_44 => ?_) (fun c_44 => ?_)
            · skip
              refine lv_iconst (v := 0) hx hb dX4_readAnd_60 (by decide) ?_
              refine lv_istore_n (lv' := [(2, .int 0), (0, .ref (ad rd)), (1, .int dp), (3, .int (nI t))]) hx hb dX4_readAnd_61 rfl hl (by decide) rfl (fun ls hl => ?_)
              refine lv_iinc (v := ((nI t) + 1)) (lv' := [(3, .int ((nI t) + 1)), (2, .int 0), (0, .ref (ad rd)), (1, .int dp)]) hx hb dX4_readAnd_62 hl (k := 3) rfl rfl (by decide) rfl (fun ls hl => ?_)
              refine lv_goto (tgt := 8) hx hb dX4_readAnd_65 (by decide) ?_
              exact ih_8 (t + 1) (eIf (eNot en bf E (nX en bf r3.2.1) r3.2.2) (opA en bf r3.2.1)) v0_18 0 ((nI t) + 1) (by omega) (by omega) (by rw [eIf_x]; exact hbd.2.1) (by have := eIf_len (eNot en bf E (nX en bf r3.2.1) r3.2.2) (opA en bf r3.2.1); rw [eIf_x]; omega) (by rw [← he, show 700 - t = (700 - (t + 1)) + 1 by omega, eLoop_on (okI_o c_16) hop0]) (by first | (rw [eIf_1, okI_1 (okI_o c_44)]; done) | (rw [eIf_1, okI_0 (okI_z c_44)]; done)) (by exact nI_1 _) _ _ _ (by rw [eIf_x]; exact g19) (by refine g20.trans ?_; rw [eIf_1]; first | (rw [flt_0 (okI_o c_16), flt_0 (okI_o c_44)]; done) | (rw [flt_0 (okI_o c_16)]; done)) (by refine g21.trans ?_; first | (rw [eIf_t (okI_o c_44), hop]; done) | (rw [eIf_f (okI_z c_44)]; done)) (by refine g22.trans ?_; first | (rw [eIf_t (okI_o c_44), hop]; done) | (rw [eIf_f (okI_z c_44)]; done)) (fun q n0 n1 n2 n3 => ((fr23 q n0 n1 n2 n3).trans ((fr14 q n0).trans (fL8 q n0 n1 n2 n3)))) hP hS ls (lv_sub hl [2, 3, 1, 0] rfl)
            · skip
              refine lv_aload_n hx hb dX4_readAnd_47 rfl (lv_at hl 0 rfl) ?_
              refine lv_bipush (v := (-11)) hx hb dX4_readAnd_48 (by decide) ?_
              refine q_wrVi (As := [.int (-11)]) (rest := []) (c_X4_put l D cB cI cJ ad n M16 hI rd ta h en ((eNot en bf E (nX en bf r3.2.1) r3.2.2).2.1) ln v0_18 (flt (flt ft r3.1) (eNot en bf E (nX en bf r3.2.1) r3.2.2).1) bf hv td hg c0 ((eNot en bf E (nX en bf r3.2.1) r3.2.2).2.2) (-11) h_ta h_ta_1 h_rd h_h h_h_9 h_h_10 h_h_11 g19 ((fr23 (ta + 1) (by omega) (by omega) (by omega) (by omega)).trans ((fr14 (ta + 1) (by omega)).trans ((fL8 (ta + 1) (by omega) (by omega) (by omega) (by omega)).trans m_ta_1))) g20 ((fr23 h (by omega) (by omega) (by omega) (by omega)).trans ((fr14 h (by omega)).trans ((fL8 h (by omega) (by omega) (by omega) (by omega)).trans m_h))) g21 ((fr23 (h + 10) (by omega) (by omega) (by omega) (by omega)).trans ((fr14 (h + 10) (by omega)).trans ((fL8 (h + 10) (by omega) (by omega) (by omega) (by omega)).trans m_h_10))) g22 (by first | omega | assumption | (apply nX_le <;> (repeat' (first | assumption | apply nX_le))) | (repeat' (first | assumption | apply nX_le | exact isN_k (by assumption) | exact isT_k (by assumption))) | exact vp_in_nI (by omega) (by decide)) hen srt srh sth (by first | omega | assumption | (apply nX_le <;> (repeat' (first | assumption | apply nX_le))) | (repeat' (first | assumption | apply nX_le | exact isN_k (by assumption) | exact isT_k (by assumption))) | exact vp_in_nI (by omega) (by decide))) X hK hP hS hl.1 rfl gX4_readAnd_X4_put yd_X4_put ⟨by show 2 + 1 ≤ fE + 6; omega, by show 8 + (2 + 11) + (43) ≤ lE + 140; omega⟩ h_rd g20 (ci := 4) rfl rfl (Nat.le_of_ble_eq_true rfl) ⟨Nat.zero_le _, Nat.zero_le _⟩ dX4_readAnd_50 (fun r26 M25 H locs hp24 hP hS => ?_)
              obtain ⟨rfl, g27, g28, fr29⟩ := hp24
              refine lv_if_eq (tgt := 60) hx hb dX4_readAnd_53 (by decide) (fun c_53 => ?_) (fun c_53 => ?_)
              · exact absurd c_53 (by decide)
              · clear c_53
                refine lv_iconst (v := 1) hx hb dX4_readAnd_56 (by decide) ?_
                refine lv_goto (tgt := 61) hx hb dX4_readAnd_57 (by decide) ?_
                refine lv_istore_n (lv' := [(2, .int 1), (0, .ref (ad rd)), (1, .int dp), (3, .int (nI t))]) hx hb dX4_readAnd_61 rfl hl (by decide) rfl (fun ls hl => ?_)
                refine lv_iinc (v := ((nI t) + 1)) (lv' := [(3, .int ((nI t) + 1)), (2, .int 1), (0, .ref (ad rd)), (1, .int dp)]) hx hb dX4_readAnd_62 hl (k := 3) rfl rfl (by decide) rfl (fun ls hl => ?_)
                refine lv_goto (tgt := 8) hx hb dX4_readAnd_65 (by decide) ?_
                exact ih_8 (t + 1) (eIf (eNot en bf E (nX en bf r3.2.1) r3.2.2) (opA en bf r3.2.1)) v0_18 1 ((nI t) + 1) (by omega) (by omega) (by rw [eIf_x]; exact hbd.2.1) (by have := eIf_len (eNot en bf E (nX en bf r3.2.1) r3.2.2) (opA en bf r3.2.1); rw [eIf_x]; omega) (by rw [← he, show 700 - t = (700 - (t + 1)) + 1 by omega, eLoop_on (okI_o c_16) hop0]) (by first | (rw [eIf_1, okI_1 (okI_o c_44)]; done) | (rw [eIf_1, okI_0 (okI_z c_44)]; done)) (by exact nI_1 _) _ _ _ (by rw [eIf_x]; exact ((fr29 ta (by omega) (by omega)).trans g19)) (by refine ((fr29 rd (by omega) (by omega)).trans g20).trans ?_; rw [eIf_1]; first | (rw [flt_0 (okI_o c_16), flt_0 (okI_o c_44)]; done) | (rw [flt_0 (okI_o c_16)]; done)) (by refine g27.trans ?_; first | (rw [eIf_t (okI_o c_44), hop]; done) | (rw [eIf_f (okI_z c_44)]; done)) (by refine g28.trans ?_; first | (rw [eIf_t (okI_o c_44), hop]; done) | (rw [eIf_f (okI_z c_44)]; done)) (fun q n0 n1 n2 n3 => ((fr29 q n2 n3).trans ((fr23 q n0 n1 n2 n3).trans ((fr14 q n0).trans (fL8 q n0 n1 n2 n3))))) hP hS ls (lv_sub hl [2, 3, 1, 0] rfl)
  exact loop_8 (701) 0 (eNot en bf E x cs) v0_4 (okI (eNot en bf E x cs).1) 0 (by omega) (by omega) (by exact (hSB x cs hxe).2.1) (by have := hSB x cs hxe; omega) (by rfl) (by rfl) (by rfl) _ _ _ g5 g6 g7 g8 (fun q n0 n1 n2 n3 => (fr9 q n0 n1 n2 n3)) hP hS ls (lv_sub hl [2, 3, 1, 0] rfl)
theorem yd_X4_readAnd : YD yX4_readAnd 1 := ⟨by decide +kernel, by decide +kernel, by decide +kernel⟩
set_option maxRecDepth 20000 in
theorem fX4_readExpr_9 : FL wsX4_readExpr RX4 9 4 0 := ⟨RX4, TX4, 3, rfl, by decide +kernel, by decide, by decide +kernel⟩
set_option maxRecDepth 20000 in
theorem fX4_readExpr_44 : FL wsX4_readExpr RX4 44 9 7 := ⟨RX9, TX9, 8, rfl, by decide +kernel, by decide, by decide +kernel⟩
set_option maxHeartbeats 600000 in
set_option maxRecDepth 100000 in
theorem c_X4_readExpr (l : Launch) (D : va_G) (cB cI cJ : ClassId) (ad : Nat → Nat) (n : Nat) (M : Nat → va_E) (hI : ipI ad n) (rd ta h en x : Nat) (ln nu ft : Int32) (bf : Nat → Int32) (hv : Nat → Int32) (td hg : Int32) (c0 : Nat → Int32) (cs : List Int32) (fE lE : Nat) (E : Nat → List Int32 → Int32 × Nat × List Int32) (dp : Int32) (h_ta : ta < n) (h_ta_1 : ta + 1 < n) (h_rd : rd < n) (h_h : h < n) (h_h_9 : h + 9 < n) (h_h_10 : h + 10 < n) (h_h_11 : h + 11 < n) (m_ta : M ta = .inr (9, tapeX ad ta ln en bf x nu)) (m_ta_1 : M (ta + 1) = .inl (cB, 700, .inl bf)) (m_rd : M rd = .inr (4, [.ref (ad ta), .ref (ad h), .int ft])) (m_h : M h = .inr (0, hallF ad h hv)) (m_h_9 : M (h + 9) = .inr (5, ruleF ad (h + 9) (nI cs.length) td hg)) (m_h_10 : M (h + 10) = .inr (8, [.int 1, .ref (ad (h + 9 + 2))])) (m_h_11 : M (h + 11) = .inl (cI, 700, .inl (layC cs c0))) (hxe : x ≤ en) (hen : en ≤ 700) (srt : rd < ta ∨ ta + 1 < rd) (srh : rd < h ∨ h + 15 < rd) (sth : ta + 1 < h ∨ h + 15 < ta) (hcx : cs.length ≤ x) (hEB : eB en E) (hfE : 10 ≤ fE) (hlE : 200 ≤ lE) (hE : eCon l D cB cI cJ ad n yX4_readExpr wsX4_readExpr fE lE rd ta h en ln bf hv td hg c0 (dp + 1) E) (hdp : dp ≤ 5) : cWi l D cB cI cJ ad n M yX4_readExpr wsX4_readExpr (fE + 7) (lE + 163) [.ref (ad rd), .int dp] (fun r M' => ∃ (v0 : Int32), r = okI (eOr en bf E x cs).1 ∧ M' ta = .inr (9, tapeX ad ta ln en bf ((eOr en bf E x cs).2.1) v0) ∧ M' rd = .inr (4, [.ref (ad ta), .ref (ad h), .int (flt ft (eOr en bf E x cs).1)]) ∧ M' (h + 9) = .inr (5, ruleF ad (h + 9) (nI (eOr en bf E x cs).2.2.length) td hg) ∧ M' (h + 11) = .inl (cI, 700, .inl (layC (eOr en bf E x cs).2.2 c0)) ∧ ∀ q : Nat, q ≠ ta → q ≠ rd → q ≠ h + 9 → q ≠ h + 11 → M' q = M q) := by
  refine q_body (cc := cX4_readExpr) (maxL := 4) (ret := (some .boolean)) (by decide) rfl (Nat.le_of_ble_eq_true rfl) ?_
  intro p e s m args below meth c ls X hr hlocks hK hP hl
  obtain ⟨hx, hb, hml, hown, hts⟩ := id X
  have hS : va_S (ipA ad n) s.heap s.heap [] := va_S.rf
  have hl : lv_has ls 4 [(0, .ref (ad rd)), (1, .int dp)] := hl
  have hSB : eB en (eAnd en bf E) := eAnd_B hen hEB
  refine lv_iload_n hx hb dX4_readExpr_0 rfl (lv_at hl 1 rfl) ?_
  refine lv_iconst (v := 5) hx hb dX4_readExpr_1 (by decide) ?_
  refine lv_icmp_le (tgt := 59) hx hb dX4_readExpr_2 (by decide) (fun c_2 => ?_) (fun c_2 => ?_)
  · skip
    refine lv_aload_n hx hb dX4_readExpr_59 rfl (lv_at hl 0 rfl) ?_
    refine lv_iload_n hx hb dX4_readExpr_60 rfl (lv_at hl 1 rfl) ?_
    refine q_wrVi (As := [.int dp]) (rest := []) (c_X4_readAnd l D cB cI cJ ad n M hI rd ta h en x ln nu ft bf hv td hg c0 cs fE lE E dp h_ta h_ta_1 h_rd h_h h_h_9 h_h_10 h_h_11 m_ta m_ta_1 m_rd m_h m_h_9 m_h_10 m_h_11 hxe hen srt srh sth hcx hEB hfE hlE hE) X hK hP hS hl.1 rfl gX4_readExpr_X4_readAnd yd_X4_readAnd ⟨by show fE + 6 + 1 ≤ fE + 7; omega, by show 8 + (4 + 11) + (lE + 140) ≤ lE + 163; omega⟩ h_rd m_rd (ci := 4) rfl rfl (Nat.le_of_ble_eq_true rfl) ⟨Nat.zero_le _, Nat.zero_le _⟩ dX4_readExpr_61 (fun r3 M2 H locs hp1 hP hS => ?_)
    obtain ⟨v0_4, rfl, g5, g6, g7, g8, fr9⟩ := hp1
    refine lv_istore_n (lv' := [(2, .int (okI (eAnd en bf E x cs).1)), (0, .ref (ad rd)), (1, .int dp)]) hx hb dX4_readExpr_64 rfl hl (by decide) rfl (fun ls hl => ?_)
    refine lv_iconst (v := 0) hx hb dX4_readExpr_65 (by decide) ?_
    refine lv_istore_n (lv' := [(3, .int 0), (2, .int (okI (eAnd en bf E x cs).1)), (0, .ref (ad rd)), (1, .int dp)]) hx hb dX4_readExpr_66 rfl hl (by decide) rfl (fun ls hl => ?_)
    have loop_67 : ∀ (fuel : Nat) (t : Nat) (r3 : Int32 × Nat × List Int32) (nu1 : Int32) (x2 : Int32) (x3 : Int32), 700 - t < fuel → (t ≤ 700) → (r3.2.1 ≤ en) → (r3.2.2.length ≤ r3.2.1) → (eLoop en bf (opO en bf) (eAnd en bf E) (700 - t) r3 = eOr en bf E x cs) → x2 = okI r3.1 → x3 = nI t → ∀ (ML67 : Nat → va_E) (H : Heap) (locs : List Loc), ML67 ta = .inr (9, tapeX ad ta ln en bf r3.2.1 nu1) → ML67 rd = .inr (4, [.ref (ad ta), .ref (ad h), .int (flt ft r3.1)]) → ML67 (h + 9) = .inr (5, ruleF ad (h + 9) (nI r3.2.2.length) td hg) → ML67 (h + 11) = .inl (cI, 700, .inl (layC r3.2.2 c0)) → (∀ q : Nat, q ≠ ta → q ≠ rd → q ≠ h + 9 → q ≠ h + 11 → ML67 q = M q) → va_P D vwCl (ip ad n ML67) H → va_S (ipA ad n) s.heap H locs → ∀ (ls : Array Slot), lv_has ls 4 [(0, .ref (ad rd)), (1, .int dp), (2, .int x2), (3, .int x3)] → W p l e (rmOf (fE + 7) (lE + 163)) s m args below meth c H locs 0 0 (MQ below (va_Qi (fun r M' => ∃ (v0 : Int32), r = okI (eOr en bf E x cs).1 ∧ M' ta = .inr (9, tapeX ad ta ln en bf ((eOr en bf E x cs).2.1) v0) ∧ M' rd = .inr (4, [.ref (ad ta), .ref (ad h), .int (flt ft (eOr en bf E x cs).1)]) ∧ M' (h + 9) = .inr (5, ruleF ad (h + 9) (nI (eOr en bf E x cs).2.2.length) td hg) ∧ M' (h + 11) = .inl (cI, 700, .inl (layC (eOr en bf E x cs).2.2 c0)) ∧ ∀ q : Nat, q ≠ ta → q ≠ rd → q ≠ h + 9 → q ≠ h + 11 → M' q = M q) (fun M' t => va_P D vwCl (ip ad n M') t.heap) (ipA ad n)) args s 0 0 (ipA ad n)) (F0 m 67 ls []) := by
      intro fuel
      induction fuel with
      | zero =>
        intro t r3 nu1 x2 x3 hz
        exact absurd hz (Nat.not_lt_zero _)
      | succ fuel ih_67 =>
        intro t r3 nu1 x2 x3 hz_67 ht hx3 hc3 he e2 e3 ML67 H locs mL67_0 mL67_1 mL67_2 mL67_3 fL67 hP hS ls hl
        subst e2
        subst e3
        skip
        refine lv_iload_n hx hb dX4_readExpr_67 rfl (lv_at hl 3 rfl) ?_
        refine lv_sipush (v := 700) hx hb dX4_readExpr_68 (by decide) ?_
        refine lv_icmp_ge (tgt := 127) hx hb dX4_readExpr_71 (by decide) (fun c_71 => ?_) (fun c_71 => ?_)
        · skip
          have hfin : r3 = eOr en bf E x cs := by have h9 := eq_of_le (k := 700) c_71 (by decide) ht; rw [← he, h9]; rfl
          refine lv_iload_n hx hb dX4_readExpr_127 rfl (lv_at hl 2 rfl) ?_
          exact q_wzret X hr hlocks hP hS (okI_nb _) ⟨nu1, (by rw [← hfin]), (by rw [← hfin]; exact mL67_0), (by rw [← hfin]; exact mL67_1), (by rw [← hfin]; exact mL67_2), (by rw [← hfin]; exact mL67_3), (fun q n0 n1 n2 n3 => (fL67 q n0 n1 n2 n3))⟩ dX4_readExpr_128
        · skip
          have ht9 := lt_of_nlt (k := 700) c_71 (by decide) ht
          refine lv_iload_n hx hb dX4_readExpr_74 rfl (lv_at hl 2 rfl) ?_
          refine lv_if_eq (tgt := 127) hx hb dX4_readExpr_75 (by decide) (fun c_75 => ?_) (fun c_75 => ?_)
          · skip
            have hfin : r3 = eOr en bf E x cs := (eLoop_bad (okI_z c_75) _).symm.trans he
            refine lv_iload_n hx hb dX4_readExpr_127 rfl (lv_at hl 2 rfl) ?_
            exact q_wzret X hr hlocks hP hS (okI_nb _) ⟨nu1, (by rw [← hfin]), (by rw [← hfin]; exact mL67_0), (by rw [← hfin]; exact mL67_1), (by rw [← hfin]; exact mL67_2), (by rw [← hfin]; exact mL67_3), (fun q n0 n1 n2 n3 => (fL67 q n0 n1 n2 n3))⟩ dX4_readExpr_128
          · skip
            refine lv_aload_n hx hb dX4_readExpr_78 rfl (lv_at hl 0 rfl) ?_
            refine q_get (v := .ref (ad ta)) (fs := [.ref (ad ta), .ref (ad h), .int (flt ft r3.1)]) X hK hP fX4_readExpr_9 h_rd mL67_1 rfl dX4_readExpr_79 ?_
            refine q_get (v := .ref (ad (1000 + (wX en bf r3.2.1)))) (fs := tapeX ad ta ln en bf r3.2.1 nu1) X hK hP fX4_readExpr_44 h_ta mL67_0 rfl dX4_readExpr_82 ?_
            refine q_gsE (i := 13) (nm := "OR") X hK hS (by decide) rfl (by decide +kernel) dX4_readExpr_85 ?_
            refine q_acmp_ne (i := (wX en bf r3.2.1)) (j := 13) (tgt := 127) X hK (by first | omega | assumption | exact fwS_lt .. | exact wX_lt ..) (by decide) dX4_readExpr_88 (by decide) (fun c_88 => ?_) (fun c_88 => ?_)
            · skip
              have hfin : r3 = eOr en bf E x cs := (eLoop_op (by rw [opO, if_neg c_88]) _).symm.trans he
              refine lv_iload_n hx hb dX4_readExpr_127 rfl (lv_at hl 2 rfl) ?_
              exact q_wzret X hr hlocks hP hS (okI_nb _) ⟨nu1, (by rw [← hfin]), (by rw [← hfin]; exact mL67_0), (by rw [← hfin]; exact mL67_1), (by rw [← hfin]; exact mL67_2), (by rw [← hfin]; exact mL67_3), (fun q n0 n1 n2 n3 => (fL67 q n0 n1 n2 n3))⟩ dX4_readExpr_128
            · skip
              have hop : opO en bf r3.2.1 = (-10) := (by rw [opO, if_pos c_88]); have hop0 : ¬ opO en bf r3.2.1 = 0 := (by rw [hop]; decide); have hgt := opO_B (bf := bf) hen r3.2.1 hx3 hop0; have hle := nX_le (bf := bf) hx3 hen; have hbd := hSB (nX en bf r3.2.1) r3.2.2 hle
              refine lv_aload_n hx hb dX4_readExpr_91 rfl (lv_at hl 0 rfl) ?_
              refine q_get (v := .ref (ad ta)) (fs := [.ref (ad ta), .ref (ad h), .int (flt ft r3.1)]) X hK hP fX4_readExpr_9 h_rd mL67_1 rfl dX4_readExpr_92 ?_
              refine q_wrVv (As := []) (rest := []) (c_X9_adv l D cB cI cJ ad n ML67 hI ta en r3.2.1 ln nu1 bf h_ta h_ta_1 mL67_0 ((fL67 (ta + 1) (by omega) (by omega) (by omega) (by omega)).trans m_ta_1) (by first | omega | assumption | (apply nX_le <;> (repeat' (first | assumption | apply nX_le))) | (repeat' (first | assumption | apply nX_le | exact isN_k (by assumption) | exact isT_k (by assumption))) | exact vp_in_nI (by omega) (by decide)) hen) X hK hP hS hl.1 rfl gX4_readExpr_X9_advance yd_X9_advance ⟨by show 5 + 1 ≤ fE + 7; omega, by show 8 + (4 + 11) + (109) ≤ lE + 163; omega⟩ h_ta mL67_0 (ci := 9) rfl rfl (Nat.le_of_ble_eq_true rfl) ⟨Nat.zero_le _, Nat.zero_le _⟩ dX4_readExpr_95 (fun M11 H locs hp10 hP hS => ?_)
              obtain ⟨g13, fr14⟩ := hp10
              refine lv_aload_n hx hb dX4_readExpr_98 rfl (lv_at hl 0 rfl) ?_
              refine lv_iload_n hx hb dX4_readExpr_99 rfl (lv_at hl 1 rfl) ?_
              refine q_wrVi (As := [.int dp]) (rest := []) (c_X4_readAnd l D cB cI cJ ad n M11 hI rd ta h en (nX en bf r3.2.1) ln (uX en bf r3.2.1 nu1) (flt ft r3.1) bf hv td hg c0 r3.2.2 fE lE E dp h_ta h_ta_1 h_rd h_h h_h_9 h_h_10 h_h_11 g13 ((fr14 (ta + 1) (by omega)).trans ((fL67 (ta + 1) (by omega) (by omega) (by omega) (by omega)).trans m_ta_1)) ((fr14 rd (by omega)).trans mL67_1) ((fr14 h (by omega)).trans ((fL67 h (by omega) (by omega) (by omega) (by omega)).trans m_h)) ((fr14 (h + 9) (by omega)).trans mL67_2) ((fr14 (h + 10) (by omega)).trans ((fL67 (h + 10) (by omega) (by omega) (by omega) (by omega)).trans m_h_10)) ((fr14 (h + 11) (by omega)).trans mL67_3) (by first | omega | assumption | (apply nX_le <;> (repeat' (first | assumption | apply nX_le))) | (repeat' (first | assumption | apply nX_le | exact isN_k (by assumption) | exact isT_k (by assumption))) | exact vp_in_nI (by omega) (by decide)) hen srt srh sth (by first | omega | assumption | (apply nX_le <;> (repeat' (first | assumption | apply nX_le))) | (repeat' (first | assumption | apply nX_le | exact isN_k (by assumption) | exact isT_k (by assumption))) | exact vp_in_nI (by omega) (by decide)) hEB hfE hlE hE) X hK hP hS hl.1 rfl gX4_readExpr_X4_readAnd yd_X4_readAnd ⟨by show fE + 6 + 1 ≤ fE + 7; omega, by show 8 + (4 + 11) + (lE + 140) ≤ lE + 163; omega⟩ h_rd ((fr14 rd (by omega)).trans mL67_1) (ci := 4) rfl rfl (Nat.le_of_ble_eq_true rfl) ⟨Nat.zero_le _, Nat.zero_le _⟩ dX4_readExpr_100 (fun r17 M16 H locs hp15 hP hS => ?_)
              obtain ⟨v0_18, rfl, g19, g20, g21, g22, fr23⟩ := hp15
              refine lv_if_eq (tgt := 119) hx hb dX4_readExpr_103 (by decide) (fun c_103 => ?_) (fun c_103 => ?_)
              · skip
                refine lv_iconst (v := 0) hx hb dX4_readExpr_119 (by decide) ?_
                refine lv_istore_n (lv' := [(2, .int 0), (0, .ref (ad rd)), (1, .int dp), (3, .int (nI t))]) hx hb dX4_readExpr_120 rfl hl (by decide) rfl (fun ls hl => ?_)
                refine lv_iinc (v := ((nI t) + 1)) (lv' := [(3, .int ((nI t) + 1)), (2, .int 0), (0, .ref (ad rd)), (1, .int dp)]) hx hb dX4_readExpr_121 hl (k := 3) rfl rfl (by decide) rfl (fun ls hl => ?_)
                refine lv_goto (tgt := 67) hx hb dX4_readExpr_124 (by decide) ?_
                exact ih_67 (t + 1) (eIf (eAnd en bf E (nX en bf r3.2.1) r3.2.2) (opO en bf r3.2.1)) v0_18 0 ((nI t) + 1) (by omega) (by omega) (by rw [eIf_x]; exact hbd.2.1) (by have := eIf_len (eAnd en bf E (nX en bf r3.2.1) r3.2.2) (opO en bf r3.2.1); rw [eIf_x]; omega) (by rw [← he, show 700 - t = (700 - (t + 1)) + 1 by omega, eLoop_on (okI_o c_75) hop0]) (by first | (rw [eIf_1, okI_1 (okI_o c_103)]; done) | (rw [eIf_1, okI_0 (okI_z c_103)]; done)) (by exact nI_1 _) _ _ _ (by rw [eIf_x]; exact g19) (by refine g20.trans ?_; rw [eIf_1]; first | (rw [flt_0 (okI_o c_75), flt_0 (okI_o c_103)]; done) | (rw [flt_0 (okI_o c_75)]; done)) (by refine g21.trans ?_; first | (rw [eIf_t (okI_o c_103), hop]; done) | (rw [eIf_f (okI_z c_103)]; done)) (by refine g22.trans ?_; first | (rw [eIf_t (okI_o c_103), hop]; done) | (rw [eIf_f (okI_z c_103)]; done)) (fun q n0 n1 n2 n3 => ((fr23 q n0 n1 n2 n3).trans ((fr14 q n0).trans (fL67 q n0 n1 n2 n3)))) hP hS ls (lv_sub hl [2, 3, 1, 0] rfl)
              · skip
                refine lv_aload_n hx hb dX4_readExpr_106 rfl (lv_at hl 0 rfl) ?_
                refine lv_bipush (v := (-10)) hx hb dX4_readExpr_107 (by decide) ?_
                refine q_wrVi (As := [.int (-10)]) (rest := []) (c_X4_put l D cB cI cJ ad n M16 hI rd ta h en ((eAnd en bf E (nX en bf r3.2.1) r3.2.2).2.1) ln v0_18 (flt (flt ft r3.1) (eAnd en bf E (nX en bf r3.2.1) r3.2.2).1) bf hv td hg c0 ((eAnd en bf E (nX en bf r3.2.1) r3.2.2).2.2) (-10) h_ta h_ta_1 h_rd h_h h_h_9 h_h_10 h_h_11 g19 ((fr23 (ta + 1) (by omega) (by omega) (by omega) (by omega)).trans ((fr14 (ta + 1) (by omega)).trans ((fL67 (ta + 1) (by omega) (by omega) (by omega) (by omega)).trans m_ta_1))) g20 ((fr23 h (by omega) (by omega) (by omega) (by omega)).trans ((fr14 h (by omega)).trans ((fL67 h (by omega) (by omega) (by omega) (by omega)).trans m_h))) g21 ((fr23 (h + 10) (by omega) (by omega) (by omega) (by omega)).trans ((fr14 (h + 10) (by omega)).trans ((fL67 (h + 10) (by omega) (by omega) (by omega) (by omega)).trans m_h_10))) g22 (by first | omega | assumption | (apply nX_le <;> (repeat' (first | assumption | apply nX_le))) | (repeat' (first | assumption | apply nX_le | exact isN_k (by assumption) | exact isT_k (by assumption))) | exact vp_in_nI (by omega) (by decide)) hen srt srh sth (by first | omega | assumption | (apply nX_le <;> (repeat' (first | assumption | apply nX_le))) | (repeat' (first | assumption | apply nX_le | exact isN_k (by assumption) | exact isT_k (by assumption))) | exact vp_in_nI (by omega) (by decide))) X hK hP hS hl.1 rfl gX4_readExpr_X4_put yd_X4_put ⟨by show 2 + 1 ≤ fE + 7; omega, by show 8 + (2 + 11) + (43) ≤ lE + 163; omega⟩ h_rd g20 (ci := 4) rfl rfl (Nat.le_of_ble_eq_true rfl) ⟨Nat.zero_le _, Nat.zero_le _⟩ dX4_readExpr_109 (fun r26 M25 H locs hp24 hP hS => ?_)
                obtain ⟨rfl, g27, g28, fr29⟩ := hp24
                refine lv_if_eq (tgt := 119) hx hb dX4_readExpr_112 (by decide) (fun c_112 => ?_) (fun c_112 => ?_)
                · exact absurd c_112 (by decide)
                · clear c_112
                  refine lv_iconst (v := 1) hx hb dX4_readExpr_115 (by decide) ?_
                  refine lv_goto (tgt := 120) hx hb dX4_readExpr_116 (by decide) ?_
                  refine lv_istore_n (lv' := [(2, .int 1), (0, .ref (ad rd)), (1, .int dp), (3, .int (nI t))]) hx hb dX4_readExpr_120 rfl hl (by decide) rfl (fun ls hl => ?_)
                  refine lv_iinc (v := ((nI t) + 1)) (lv' := [(3, .int ((nI t) + 1)), (2, .int 1), (0, .ref (ad rd)), (1, .int dp)]) hx hb dX4_readExpr_121 hl (k := 3) rfl rfl (by decide) rfl (fun ls hl => ?_)
                  refine lv_goto (tgt := 67) hx hb dX4_readExpr_124 (by decide) ?_
                  exact ih_67 (t + 1) (eIf (eAnd en bf E (nX en bf r3.2.1) r3.2.2) (opO en bf r3.2.1)) v0_18 1 ((nI t) + 1) (by omega) (by omega) (by rw [eIf_x]; exact hbd.2.1) (by have := eIf_len (eAnd en bf E (nX en bf r3.2.1) r3.2.2) (opO en bf r3.2.1); rw [eIf_x]; omega) (by rw [← he, show 700 - t = (700 - (t + 1)) + 1 by omega, eLoop_on (okI_o c_75) hop0]) (by first | (rw [eIf_1, okI_1 (okI_o c_103)]; done) | (rw [eIf_1, okI_0 (okI_z c_103)]; done)) (by exact nI_1 _) _ _ _ (by rw [eIf_x]; exact ((fr29 ta (by omega) (by omega)).trans g19)) (by refine ((fr29 rd (by omega) (by omega)).trans g20).trans ?_; rw [eIf_1]; first | (rw [flt_0 (okI_o c_75), flt_0 (okI_o c_103)]; done) | (rw [flt_0 (okI_o c_75)]; done)) (by refine g27.trans ?_; first | (rw [eIf_t (okI_o c_103), hop]; done) | (rw [eIf_f (okI_z c_103)]; done)) (by refine g28.trans ?_; first | (rw [eIf_t (okI_o c_103), hop]; done) | (rw [eIf_f (okI_z c_103)]; done)) (fun q n0 n1 n2 n3 => ((fr29 q n2 n3).trans ((fr23 q n0 n1 n2 n3).trans ((fr14 q n0).trans (fL67 q n0 n1 n2 n3))))) hP hS ls (lv_sub hl [2, 3, 1, 0] rfl)
    exact loop_67 (701) 0 (eAnd en bf E x cs) v0_4 (okI (eAnd en bf E x cs).1) 0 (by omega) (by omega) (by exact (hSB x cs hxe).2.1) (by have := hSB x cs hxe; omega) (by rfl) (by rfl) (by rfl) _ _ _ g5 g6 g7 g8 (fun q n0 n1 n2 n3 => (fr9 q n0 n1 n2 n3)) hP hS ls (lv_sub hl [2, 3, 1, 0] rfl)
  · exact absurd hdp c_2
set_option maxRecDepth 20000 in
theorem fX4_readExpr_34 : FL wsX4_readExpr RX4 34 9 5 := ⟨RX9, TX9, 8, rfl, by decide +kernel, by decide, by decide +kernel⟩
set_option maxHeartbeats 600000 in
set_option maxRecDepth 100000 in
theorem c_X4_readExprZ (l : Launch) (D : va_G) (cB cI cJ : ClassId) (ad : Nat → Nat) (n : Nat) (M : Nat → va_E) (hI : ipI ad n) (rd ta h en x : Nat) (ln nu ft : Int32) (bf : Nat → Int32) (hv : Nat → Int32) (td hg : Int32) (c0 : Nat → Int32) (cs : List Int32) (dp : Int32) (h_ta : ta < n) (h_ta_1 : ta + 1 < n) (h_rd : rd < n) (h_h : h < n) (h_h_9 : h + 9 < n) (h_h_10 : h + 10 < n) (h_h_11 : h + 11 < n) (m_ta : M ta = .inr (9, tapeX ad ta ln en bf x nu)) (m_ta_1 : M (ta + 1) = .inl (cB, 700, .inl bf)) (m_rd : M rd = .inr (4, [.ref (ad ta), .ref (ad h), .int ft])) (m_h : M h = .inr (0, hallF ad h hv)) (m_h_9 : M (h + 9) = .inr (5, ruleF ad (h + 9) (nI cs.length) td hg)) (m_h_10 : M (h + 10) = .inr (8, [.int 1, .ref (ad (h + 9 + 2))])) (m_h_11 : M (h + 11) = .inl (cI, 700, .inl (layC cs c0))) (hxe : x ≤ en) (hen : en ≤ 700) (srt : rd < ta ∨ ta + 1 < rd) (srh : rd < h ∨ h + 15 < rd) (sth : ta + 1 < h ∨ h + 15 < ta) (hcx : cs.length ≤ x) (hdp : ¬ dp ≤ 5) : cWi l D cB cI cJ ad n M yX4_readExpr wsX4_readExpr 10 200 [.ref (ad rd), .int dp] (fun r M' => ∃ (v0 : Int32), r = okI (eE en bf 0 x cs).1 ∧ M' ta = .inr (9, tapeX ad ta ln en bf ((eE en bf 0 x cs).2.1) v0) ∧ M' rd = .inr (4, [.ref (ad ta), .ref (ad h), .int (flt ft (eE en bf 0 x cs).1)]) ∧ M' (h + 9) = .inr (5, ruleF ad (h + 9) (nI (eE en bf 0 x cs).2.2.length) td hg) ∧ M' (h + 11) = .inl (cI, 700, .inl (layC (eE en bf 0 x cs).2.2 c0)) ∧ ∀ q : Nat, q ≠ ta → q ≠ rd → q ≠ h + 9 → q ≠ h + 11 → M' q = M q) := by
  refine q_body (cc := cX4_readExpr) (maxL := 4) (ret := (some .boolean)) (by decide) rfl (Nat.le_of_ble_eq_true rfl) ?_
  intro p e s m args below meth c ls X hr hlocks hK hP hl
  obtain ⟨hx, hb, hml, hown, hts⟩ := id X
  have hS : va_S (ipA ad n) s.heap s.heap [] := va_S.rf
  have hl : lv_has ls 4 [(0, .ref (ad rd)), (1, .int dp)] := hl
  refine lv_iload_n hx hb dX4_readExpr_0 rfl (lv_at hl 1 rfl) ?_
  refine lv_iconst (v := 5) hx hb dX4_readExpr_1 (by decide) ?_
  refine lv_icmp_le (tgt := 59) hx hb dX4_readExpr_2 (by decide) (fun c_2 => ?_) (fun c_2 => ?_)
  · exact absurd c_2 hdp
  · skip
    refine lv_aload_n hx hb dX4_readExpr_5 rfl (lv_at hl 0 rfl) ?_
    refine q_get (v := .ref (ad ta)) (fs := [.ref (ad ta), .ref (ad h), .int ft]) X hK hP fX4_readExpr_9 h_rd m_rd rfl dX4_readExpr_6 ?_
    refine q_get (v := .int (kX en bf x)) (fs := tapeX ad ta ln en bf x nu) X hK hP fX4_readExpr_34 h_ta m_ta rfl dX4_readExpr_9 ?_
    refine lv_iconst (v := 2) hx hb dX4_readExpr_12 (by decide) ?_
    refine lv_icmp_eq (tgt := 39) hx hb dX4_readExpr_13 (by decide) (fun c_13 => ?_) (fun c_13 => ?_)
    · skip
      refine lv_iconst (v := 1) hx hb dX4_readExpr_39 (by decide) ?_
      refine lv_goto (tgt := 44) hx hb dX4_readExpr_40 (by decide) ?_
      refine lv_istore_n (lv' := [(2, .int 1), (0, .ref (ad rd)), (1, .int dp)]) hx hb dX4_readExpr_44 rfl hl (by decide) rfl (fun ls hl => ?_)
      refine lv_aload_n hx hb dX4_readExpr_45 rfl (lv_at hl 1 rfl) ?_
      refine lv_iload_n hx hb dX4_readExpr_46 rfl (lv_at hl 0 rfl) ?_
      refine lv_if_eq (tgt := 54) hx hb dX4_readExpr_47 (by decide) (fun c_47 => ?_) (fun c_47 => ?_)
      · exact absurd c_47 (by decide)
      · clear c_47
        refine lv_iconst (v := 2) hx hb dX4_readExpr_50 (by decide) ?_
        refine lv_goto (tgt := 55) hx hb dX4_readExpr_51 (by decide) ?_
        refine q_wrVi (As := [.int 2]) (rest := []) (c_X4_refuse l D cB cI cJ ad n M hI rd ta h en x ln nu ft bf 2 h_ta h_ta_1 h_rd m_ta m_ta_1 m_rd hxe hen srt) X hK hP hS hl.1 rfl gX4_readExpr_X4_refuse yd_X4_refuse ⟨by show 0 + 1 ≤ 10; omega, by show 8 + (2 + 11) + (0) ≤ 200; omega⟩ h_rd m_rd (ci := 4) rfl rfl (Nat.le_of_ble_eq_true rfl) ⟨Nat.zero_le _, Nat.zero_le _⟩ dX4_readExpr_55 (fun r3 M2 H locs hp1 hP hS => ?_)
        obtain ⟨rfl, g4, fr5⟩ := hp1
        exact q_wzret X hr hlocks hP hS (rfl) ⟨nu, (by rw [eE]; first | (rw [if_pos c_13]; simp only [okI_oo, okI_ww]; done)), (by refine ((fr5 ta (by omega)).trans m_ta).trans ?_; first | (rw [eE]; done) | (rw [eE, if_pos c_13]; simp only [flt_o, flt_w]; done)), (by refine g4.trans ?_; first | (rw [eE]; done) | (rw [eE, if_pos c_13]; simp only [flt_o, flt_w]; done)), (by refine ((fr5 (h + 9) (by omega)).trans m_h_9).trans ?_; first | (rw [eE]; done) | (rw [eE, if_pos c_13]; simp only [flt_o, flt_w]; done)), (by refine ((fr5 (h + 11) (by omega)).trans m_h_11).trans ?_; first | (rw [eE]; done) | (rw [eE, if_pos c_13]; simp only [flt_o, flt_w]; done)), (fun q n0 n1 n2 n3 => (fr5 q n1))⟩ dX4_readExpr_58
    · skip
      refine lv_aload_n hx hb dX4_readExpr_16 rfl (lv_at hl 0 rfl) ?_
      refine q_get (v := .ref (ad ta)) (fs := [.ref (ad ta), .ref (ad h), .int ft]) X hK hP fX4_readExpr_9 h_rd m_rd rfl dX4_readExpr_17 ?_
      refine q_get (v := .int (kX en bf x)) (fs := tapeX ad ta ln en bf x nu) X hK hP fX4_readExpr_34 h_ta m_ta rfl dX4_readExpr_20 ?_
      refine lv_iconst (v := 1) hx hb dX4_readExpr_23 (by decide) ?_
      refine lv_icmp_eq (tgt := 39) hx hb dX4_readExpr_24 (by decide) (fun c_24 => ?_) (fun c_24 => ?_)
      · skip
        refine lv_iconst (v := 1) hx hb dX4_readExpr_39 (by decide) ?_
        refine lv_goto (tgt := 44) hx hb dX4_readExpr_40 (by decide) ?_
        refine lv_istore_n (lv' := [(2, .int 1), (0, .ref (ad rd)), (1, .int dp)]) hx hb dX4_readExpr_44 rfl hl (by decide) rfl (fun ls hl => ?_)
        refine lv_aload_n hx hb dX4_readExpr_45 rfl (lv_at hl 1 rfl) ?_
        refine lv_iload_n hx hb dX4_readExpr_46 rfl (lv_at hl 0 rfl) ?_
        refine lv_if_eq (tgt := 54) hx hb dX4_readExpr_47 (by decide) (fun c_47 => ?_) (fun c_47 => ?_)
        · exact absurd c_47 (by decide)
        · clear c_47
          refine lv_iconst (v := 2) hx hb dX4_readExpr_50 (by decide) ?_
          refine lv_goto (tgt := 55) hx hb dX4_readExpr_51 (by decide) ?_
          refine q_wrVi (As := [.int 2]) (rest := []) (c_X4_refuse l D cB cI cJ ad n M hI rd ta h en x ln nu ft bf 2 h_ta h_ta_1 h_rd m_ta m_ta_1 m_rd hxe hen srt) X hK hP hS hl.1 rfl gX4_readExpr_X4_refuse yd_X4_refuse ⟨by show 0 + 1 ≤ 10; omega, by show 8 + (2 + 11) + (0) ≤ 200; omega⟩ h_rd m_rd (ci := 4) rfl rfl (Nat.le_of_ble_eq_true rfl) ⟨Nat.zero_le _, Nat.zero_le _⟩ dX4_readExpr_55 (fun r8 M7 H locs hp6 hP hS => ?_)
          obtain ⟨rfl, g9, fr10⟩ := hp6
          exact q_wzret X hr hlocks hP hS (rfl) ⟨nu, (by rw [eE]; first | (rw [if_neg c_13, if_pos c_24]; simp only [okI_oo, okI_ww]; done)), (by refine ((fr10 ta (by omega)).trans m_ta).trans ?_; first | (rw [eE]; done) | (rw [eE, if_neg c_13, if_pos c_24]; simp only [flt_o, flt_w]; done)), (by refine g9.trans ?_; first | (rw [eE]; done) | (rw [eE, if_neg c_13, if_pos c_24]; simp only [flt_o, flt_w]; done)), (by refine ((fr10 (h + 9) (by omega)).trans m_h_9).trans ?_; first | (rw [eE]; done) | (rw [eE, if_neg c_13, if_pos c_24]; simp only [flt_o, flt_w]; done)), (by refine ((fr10 (h + 11) (by omega)).trans m_h_11).trans ?_; first | (rw [eE]; done) | (rw [eE, if_neg c_13, if_pos c_24]; simp only [flt_o, flt_w]; done)), (fun q n0 n1 n2 n3 => (fr10 q n1))⟩ dX4_readExpr_58
      · skip
        refine lv_aload_n hx hb dX4_readExpr_27 rfl (lv_at hl 0 rfl) ?_
        refine q_get (v := .ref (ad ta)) (fs := [.ref (ad ta), .ref (ad h), .int ft]) X hK hP fX4_readExpr_9 h_rd m_rd rfl dX4_readExpr_28 ?_
        refine q_get (v := .int (kX en bf x)) (fs := tapeX ad ta ln en bf x nu) X hK hP fX4_readExpr_34 h_ta m_ta rfl dX4_readExpr_31 ?_
        refine lv_bipush (v := 40) hx hb dX4_readExpr_34 (by decide) ?_
        refine lv_icmp_ne (tgt := 43) hx hb dX4_readExpr_36 (by decide) (fun c_36 => ?_) (fun c_36 => ?_)
        · skip
          refine lv_iconst (v := 0) hx hb dX4_readExpr_43 (by decide) ?_
          refine lv_istore_n (lv' := [(2, .int 0), (0, .ref (ad rd)), (1, .int dp)]) hx hb dX4_readExpr_44 rfl hl (by decide) rfl (fun ls hl => ?_)
          refine lv_aload_n hx hb dX4_readExpr_45 rfl (lv_at hl 1 rfl) ?_
          refine lv_iload_n hx hb dX4_readExpr_46 rfl (lv_at hl 0 rfl) ?_
          refine lv_if_eq (tgt := 54) hx hb dX4_readExpr_47 (by decide) (fun c_47 => ?_) (fun c_47 => ?_)
          · clear c_47
            refine lv_iconst (v := 1) hx hb dX4_readExpr_54 (by decide) ?_
            refine q_wrVi (As := [.int 1]) (rest := []) (c_X4_refuse l D cB cI cJ ad n M hI rd ta h en x ln nu ft bf 1 h_ta h_ta_1 h_rd m_ta m_ta_1 m_rd hxe hen srt) X hK hP hS hl.1 rfl gX4_readExpr_X4_refuse yd_X4_refuse ⟨by show 0 + 1 ≤ 10; omega, by show 8 + (2 + 11) + (0) ≤ 200; omega⟩ h_rd m_rd (ci := 4) rfl rfl (Nat.le_of_ble_eq_true rfl) ⟨Nat.zero_le _, Nat.zero_le _⟩ dX4_readExpr_55 (fun r13 M12 H locs hp11 hP hS => ?_)
            obtain ⟨rfl, g14, fr15⟩ := hp11
            exact q_wzret X hr hlocks hP hS (rfl) ⟨nu, (by rw [eE]; first | (rw [if_neg c_13, if_neg c_24, if_neg c_36]; simp only [okI_oo, okI_ww]; done)), (by refine ((fr15 ta (by omega)).trans m_ta).trans ?_; first | (rw [eE]; done) | (rw [eE, if_neg c_13, if_neg c_24, if_neg c_36]; simp only [flt_o, flt_w]; done)), (by refine g14.trans ?_; first | (rw [eE]; done) | (rw [eE, if_neg c_13, if_neg c_24, if_neg c_36]; simp only [flt_o, flt_w]; done)), (by refine ((fr15 (h + 9) (by omega)).trans m_h_9).trans ?_; first | (rw [eE]; done) | (rw [eE, if_neg c_13, if_neg c_24, if_neg c_36]; simp only [flt_o, flt_w]; done)), (by refine ((fr15 (h + 11) (by omega)).trans m_h_11).trans ?_; first | (rw [eE]; done) | (rw [eE, if_neg c_13, if_neg c_24, if_neg c_36]; simp only [flt_o, flt_w]; done)), (fun q n0 n1 n2 n3 => (fr15 q n1))⟩ dX4_readExpr_58
          · exact absurd c_47 (by decide)
        · skip
          refine lv_iconst (v := 1) hx hb dX4_readExpr_39 (by decide) ?_
          refine lv_goto (tgt := 44) hx hb dX4_readExpr_40 (by decide) ?_
          refine lv_istore_n (lv' := [(2, .int 1), (0, .ref (ad rd)), (1, .int dp)]) hx hb dX4_readExpr_44 rfl hl (by decide) rfl (fun ls hl => ?_)
          refine lv_aload_n hx hb dX4_readExpr_45 rfl (lv_at hl 1 rfl) ?_
          refine lv_iload_n hx hb dX4_readExpr_46 rfl (lv_at hl 0 rfl) ?_
          refine lv_if_eq (tgt := 54) hx hb dX4_readExpr_47 (by decide) (fun c_47 => ?_) (fun c_47 => ?_)
          · exact absurd c_47 (by decide)
          · clear c_47
            refine lv_iconst (v := 2) hx hb dX4_readExpr_50 (by decide) ?_
            refine lv_goto (tgt := 55) hx hb dX4_readExpr_51 (by decide) ?_
            refine q_wrVi (As := [.int 2]) (rest := []) (c_X4_refuse l D cB cI cJ ad n M hI rd ta h en x ln nu ft bf 2 h_ta h_ta_1 h_rd m_ta m_ta_1 m_rd hxe hen srt) X hK hP hS hl.1 rfl gX4_readExpr_X4_refuse yd_X4_refuse ⟨by show 0 + 1 ≤ 10; omega, by show 8 + (2 + 11) + (0) ≤ 200; omega⟩ h_rd m_rd (ci := 4) rfl rfl (Nat.le_of_ble_eq_true rfl) ⟨Nat.zero_le _, Nat.zero_le _⟩ dX4_readExpr_55 (fun r18 M17 H locs hp16 hP hS => ?_)
            obtain ⟨rfl, g19, fr20⟩ := hp16
            exact q_wzret X hr hlocks hP hS (rfl) ⟨nu, (by rw [eE]; first | (rw [if_neg c_13, if_neg c_24, if_pos c_36]; simp only [okI_oo, okI_ww]; done)), (by refine ((fr20 ta (by omega)).trans m_ta).trans ?_; first | (rw [eE]; done) | (rw [eE, if_neg c_13, if_neg c_24, if_pos c_36]; simp only [flt_o, flt_w]; done)), (by refine g19.trans ?_; first | (rw [eE]; done) | (rw [eE, if_neg c_13, if_neg c_24, if_pos c_36]; simp only [flt_o, flt_w]; done)), (by refine ((fr20 (h + 9) (by omega)).trans m_h_9).trans ?_; first | (rw [eE]; done) | (rw [eE, if_neg c_13, if_neg c_24, if_pos c_36]; simp only [flt_o, flt_w]; done)), (by refine ((fr20 (h + 11) (by omega)).trans m_h_11).trans ?_; first | (rw [eE]; done) | (rw [eE, if_neg c_13, if_neg c_24, if_pos c_36]; simp only [flt_o, flt_w]; done)), (fun q n0 n1 n2 n3 => (fr20 q n1))⟩ dX4_readExpr_58
end
