/-! the class words of the law, and the words of its throws; all the law's words -/
theorem lwo_X120 : ∀ w ∈ wsX120, w ∈ lw_tbl := by decide +kernel
theorem lwo_X130 : ∀ w ∈ wsX130, w ∈ lw_tbl := by decide +kernel
theorem lwo_X90 : ∀ w ∈ wsX90, w ∈ lw_tbl := by decide +kernel
theorem lwo_X00 : ∀ w ∈ wsX00, w ∈ lw_tbl := by decide +kernel
theorem lwo_X40 : ∀ w ∈ wsX40, w ∈ lw_tbl := by decide +kernel
theorem lwo_X70 : ∀ w ∈ wsX70, w ∈ lw_tbl := by decide +kernel
theorem lwo_X10 : ∀ w ∈ wsX10, w ∈ lw_tbl := by decide +kernel
theorem lwo_X20 : ∀ w ∈ wsX20, w ∈ lw_tbl := by decide +kernel
theorem lwo_X30 : ∀ w ∈ wsX30, w ∈ lw_tbl := by decide +kernel
theorem lwo_X60 : ∀ w ∈ wsX60, w ∈ lw_tbl := by decide +kernel
theorem lwo_X100 : ∀ w ∈ wsX100, w ∈ lw_tbl := by decide +kernel
theorem lwo_X80 : ∀ w ∈ wsX80, w ∈ lw_tbl := by decide +kernel
theorem lwo_X50 : ∀ w ∈ wsX50, w ∈ lw_tbl := by decide +kernel
theorem lwo_x0 : ∀ w ∈ (vx_at0 RX12 98 "java/lang/IllegalArgumentException" ["java/lang/RuntimeException", "java/lang/Exception"]).filter goodWord, w ∈ lw_tbl := by decide +kernel
theorem lwo_x1 : ∀ w ∈ (vx_at0 RX12 161 "java/util/NoSuchElementException" ["java/lang/RuntimeException", "java/lang/Exception"]).filter goodWord, w ∈ lw_tbl := by decide +kernel
theorem fR_sub {big : List Cond} : ∀ cs : List (List Cond), (∀ c ∈ cs, ∀ w ∈ c, w ∈ big) → ∀ w ∈ fR cs, w ∈ big
  | [], _, _, h => absurd h List.not_mem_nil
  | [a], hc, w, h => hc a List.mem_cons_self w h
  | a :: b :: t, hc, w, h => (List.mem_append.mp h).elim (hc a List.mem_cons_self w) (fun h => fR_sub (b :: t) (fun c q => hc c (List.mem_cons_of_mem _ q)) w h)
theorem fL_sub {big : List Cond} : ∀ (cs : List (List Cond)) (b : List Cond), (∀ w ∈ b, w ∈ big) → (∀ c ∈ cs, ∀ w ∈ c, w ∈ big) → ∀ w ∈ cs.foldl (fun x y => x ++ y) b, w ∈ big
  | [], _, hb, _, w, h => hb w h
  | a :: t, b, hb, hc, w, h => fL_sub t (b ++ a) (fun w q => (List.mem_append.mp q).elim (hb w) (hc a List.mem_cons_self w)) (fun c q => hc c (List.mem_cons_of_mem _ q)) w h
theorem wsL_law_in : ∀ w ∈ wsL_law, w ∈ lw_tbl := fun w h => by
  rw [law_fL] at h
  refine fL_sub lawO (fR lawR) (fR_sub lawR lwr_all) (fun c hc => ?_) w h
  unfold lawO at hc
  simp only [List.mem_cons, List.not_mem_nil, or_false] at hc
  rcases hc with rfl | rfl | rfl | rfl | rfl | rfl | rfl | rfl | rfl | rfl | rfl | rfl | rfl | rfl | rfl | rfl
  · exact lwo_X120
  · exact lwo_X130
  · exact lwo_X90
  · exact lwo_X00
  · exact lwo_X40
  · exact lwo_X70
  · exact lwo_X10
  · exact lwo_X20
  · exact lwo_X30
  · exact lwo_X60
  · exact lwo_X100
  · exact lwo_X80
  · exact lwo_X50
  · exact fun w q => absurd q List.not_mem_nil
  · exact lwo_x0
  · exact lwo_x1
