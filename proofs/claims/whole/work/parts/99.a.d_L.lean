theorem goodIn_c {big : List Cond} (cs : List (List Cond)) (hc : ∀ c ∈ cs, ∀ w ∈ c, w ∈ big) (ws : List Cond) (ps : List (Nat × Nat)) (hp : ws = ps.filterMap (fun q => (cs[q.1]?).bind (fun c => c[q.2]?))) (h : ws.all goodWord = true) : GoodIn big ws := by
  intro w hw
  have h1 := List.all_eq_true.mp h w hw
  rw [hp] at hw
  obtain ⟨q, -, hq⟩ := List.mem_filterMap.mp hw
  obtain ⟨c, h2, h3⟩ := Option.bind_eq_some_iff.mp hq
  have m1 : c ∈ cs := by first | exact List.mem_of_getElem? h2 | exact List.getElem?_mem h2
  have m2 : w ∈ c := by first | exact List.mem_of_getElem? h3 | exact List.getElem?_mem h3
  exact ⟨hc c m1 w m2, good_of_word h1⟩
def fR : List (List Cond) → List Cond
  | [] => []
  | [a] => a
  | a :: b :: t => a ++ fR (b :: t)
theorem fR_in : ∀ (cs : List (List Cond)) (c : List Cond), c ∈ cs → ∀ w ∈ c, w ∈ fR cs
  | [], c, h, _, _ => absurd h List.not_mem_nil
  | [a], c, h, w, hw => by
    rcases List.mem_singleton.mp h with rfl
    exact hw
  | a :: b :: t, c, h, w, hw => by
    rcases List.mem_cons.mp h with rfl | h
    · exact List.mem_append_left _ hw
    · exact List.mem_append_right _ (fR_in (b :: t) c h w hw)
theorem fL_base : ∀ (cs : List (List Cond)) (b : List Cond) (w : Cond), w ∈ b → w ∈ cs.foldl (fun x y => x ++ y) b
  | [], _, _, h => h
  | a :: t, b, w, h => fL_base t (b ++ a) w (List.mem_append_left _ h)
theorem fL_in : ∀ (cs : List (List Cond)) (b c : List Cond), c ∈ cs → ∀ w ∈ c, w ∈ cs.foldl (fun x y => x ++ y) b
  | [], _, c, h, _, _ => absurd h List.not_mem_nil
  | a :: t, b, c, h, w, hw => by
    rcases List.mem_cons.mp h with rfl | h
    · exact fL_base t (b ++ c) w (List.mem_append_right _ hw)
    · exact fL_in t (b ++ a) c h w hw
def lawR : List (List Cond) := [wsL_law0_r1, wsL_law0_r2, wsL_law0_r3, wsL_law0_r4, wsL_law0_r5, wsL_law0_r6, wsL_law0_r7, wsL_law0_r8, wsL_law0_r9, wsL_law0_r10, wsL_law0_r11, wsL_law0_r12, wsL_law0_r13, wsL_law0_r14, wsL_law0_r15, wsL_law0_r16, wsL_law0_r17, wsL_law0_r18, wsL_law0_r19, wsL_law0_r20, wsL_law0_r21, wsL_law0_r22, wsL_law0_r23, wsL_law0_r24, wsL_law0_r25, wsL_law0_r26, wsL_law0_r27, wsL_law0_r28, wsL_law0_r29, wsL_law0_r30, wsL_law0_r31, wsL_law0_r32, wsL_law0_r33, wsL_law0_r34, wsL_law0_r35, wsL_law0_r36, wsL_law0_r37, wsL_law0_r38, wsL_law0_r39, wsL_law0_r40, wsL_law0_r41, wsL_law0_r42, wsL_law0_r43, wsL_law0_r44, wsL_law0_r45, wsL_law0_r46, wsL_law0_r47, wsL_law0_r48, wsL_law0_r49, wsL_law0_r50, wsL_law0_r51, wsL_law0_r52, wsL_law0_r53, wsL_law0_r54, wsL_law0_r55, wsL_law0_r56, wsL_law0_r57, wsL_law0_r58, wsL_law0_r59, wsL_law0_r60, wsL_law0_r61, wsL_law0_r62, wsL_law0_r63, wsL_law0_r64]
def lawO : List (List Cond) := [wsX120, wsX130, wsX90, wsX00, wsX40, wsX70, wsX10, wsX20, wsX30, wsX60, wsX100, wsX80, wsX50, ([] : List Cond), ((vx_at0 RX12 98 "java/lang/IllegalArgumentException" ["java/lang/RuntimeException", "java/lang/Exception"]).filter goodWord), ((vx_at0 RX12 161 "java/util/NoSuchElementException" ["java/lang/RuntimeException", "java/lang/Exception"]).filter goodWord)]
set_option maxRecDepth 100000 in
theorem law_fL : wsL_law = lawO.foldl (fun x y => x ++ y) (fR lawR) := rfl
def lawC : List (List Cond) := lawR ++ lawO
theorem lawC_in : ∀ c ∈ lawC, ∀ w ∈ c, w ∈ wsL_law := fun c hc w hw => by
  rw [law_fL]
  rcases List.mem_append.mp hc with h | h
  · exact fL_base _ _ w (fR_in _ c h w hw)
  · exact fL_in _ _ c h w hw
set_option maxRecDepth 20000 in
theorem ggL_hall_X12_hall : GoodIn wsL_hall wsX12_hall := goodIn_ca (goodIn_r _ [6, 7, 8, 9, 10, 11, 12, 13, 14, 15, 16, 17, 18, 19, 20, 21, 22, 23, 24, 25, 26, 27, 28, 29, 30, 31, 32, 33, 34, 35, 36, 37, 38, 39, 40, 41, 42, 43, 44, 45, 46, 47, 48, 49, 50, 51, 52, 53, 54, 55, 56, 57, 58, 59, 60, 61, 62, 63, 64, 65, 66, 67, 68, 69, 70, 71, 72, 73, 74, 75, 76, 77, 78, 79, 80, 81, 82, 83, 84, 85, 86, 87, 88, 89, 90, 91, 92, 93, 94, 95, 96, 97, 98, 99, 100, 101, 102, 103, 104, 105, 106, 107, 108, 109, 110, 111, 112, 113, 114, 115, 116, 117, 118, 119, 120, 121, 122, 123, 124, 125, 126, 127, 128, 129, 130, 131, 132, 133, 134, 135, 136, 137, 138, 139, 140, 141, 142, 143, 144, 145, 146, 147, 148, 149, 150, 151, 152, 153, 154, 155, 156, 157, 158, 159, 160, 161, 162, 163, 164, 165, 166, 167, 168, 169, 170, 171, 172, 173, 174, 175, 176, 177, 178, 179, 180, 181, 182, 183, 184, 185, 186, 187, 188, 189, 190, 191, 192, 193, 194, 195, 196, 197, 198, 199, 200, 201, 202, 203, 204, 205, 206, 207, 208, 209, 210, 211, 212, 213, 214, 215, 216, 217, 218, 219, 220, 221, 222, 223, 224, 225, 226, 227, 228, 229, 230, 231, 232, 233, 234, 235, 236, 237, 238, 239, 240, 241, 242, 243, 244, 245, 246, 247, 248, 249, 250, 251, 252, 253, 254, 255, 256, 257, 258, 259, 260, 261, 262, 263, 264, 265, 266, 267, 268, 269, 270, 271, 272, 273, 274, 275, 276, 277, 278, 279, 280, 281, 282, 283, 284, 285, 286, 287, 288, 289, 290, 291, 292, 293, 294, 295, 296, 297, 5, 298, 299, 300, 301, 302, 303, 304, 305, 306, 307, 308, 309, 310, 311, 312, 313, 314, 315, 316, 317, 318, 319, 320, 321, 322, 323, 324, 325, 326, 327, 328, 329, 330, 331, 332, 333, 334, 335, 336, 337, 338, 339, 340, 341, 342, 343, 344, 345, 346, 347, 348, 349, 350, 351, 352, 353, 354, 355, 356, 357, 358, 359, 360, 361, 362, 363, 364, 365, 366, 367, 368, 369, 370, 371, 372, 373, 374, 375, 376, 377, 378, 379, 380, 381, 382, 383, 384, 385, 386, 387, 388, 389] rfl (by decide +kernel)) (goodIn_sub (fun _ h => List.mem_cons_of_mem _ (List.mem_append_right _ h)) (by decide +kernel))
set_option maxRecDepth 20000 in
theorem gL_hall_X12_hall : GoodIn wsL_hall (wsV RL 7 RX12 yX12_hall wsX12_hall) := goodIn_app (goodIn_of _ (by decide +kernel)) ggL_hall_X12_hall
theorem dL_hall_0 : decode cL_hall 0 = .ok (.aload_n 2, 1) := by decide +kernel
theorem dL_hall_1 : decode cL_hall 1 = .ok (.iconst 0, 1) := by decide +kernel
theorem dL_hall_2 : decode cL_hall 2 = .ok (.aload_n 0, 1) := by decide +kernel
theorem dL_hall_3 : decode cL_hall 3 = .ok (.iload_n 1, 1) := by decide +kernel
theorem dL_hall_4 : decode cL_hall 4 = .ok (.invokevirtual 7, 3) := by decide +kernel
theorem dL_hall_7 : decode cL_hall 7 = .ok (.i2l, 1) := by decide +kernel
theorem dL_hall_8 : decode cL_hall 8 = .ok (.lastore, 1) := by decide +kernel
theorem dL_hall_9 : decode cL_hall 9 = .ok (.goto 6, 3) := by decide +kernel
theorem dL_hall_12 : decode cL_hall 12 = .ok (.astore_n 3, 1) := by decide +kernel
theorem dL_hall_13 : decode cL_hall 13 = .ok (.iconst 1, 1) := by decide +kernel
theorem dL_hall_14 : decode cL_hall 14 = .ok (.ireturn, 1) := by decide +kernel
theorem dL_hall_15 : decode cL_hall 15 = .ok (.iconst 0, 1) := by decide +kernel
theorem dL_hall_16 : decode cL_hall 16 = .ok (.ireturn, 1) := by decide +kernel
set_option maxRecDepth 20000 in
theorem ggL_count_X12_count : GoodIn wsL_count wsX12_count := goodIn_ca (goodIn_r _ [6, 7, 8, 9, 10, 11, 12, 13, 14, 15, 16, 17, 18, 19, 20, 21, 22, 23, 24, 25, 26, 27, 28, 29, 30, 31, 32, 33, 34, 35, 36, 37, 38, 39, 40, 41, 42, 43, 44, 45, 46, 47, 48, 49, 50, 51, 52, 53, 54, 55, 56, 57, 58, 59, 60, 61, 62, 63, 64, 65, 66, 67, 68, 69, 70, 71, 72, 73] rfl (by decide +kernel)) (goodIn_sub (fun _ h => List.mem_cons_of_mem _ (List.mem_append_right _ h)) (by decide +kernel))
set_option maxRecDepth 20000 in
theorem gL_count_X12_count : GoodIn wsL_count (wsV RL 15 RX12 yX12_count wsX12_count) := goodIn_app (goodIn_of _ (by decide +kernel)) ggL_count_X12_count
theorem dL_count_0 : decode cL_count 0 = .ok (.aload_n 2, 1) := by decide +kernel
theorem dL_count_1 : decode cL_count 1 = .ok (.iconst 0, 1) := by decide +kernel
theorem dL_count_2 : decode cL_count 2 = .ok (.aload_n 0, 1) := by decide +kernel
theorem dL_count_3 : decode cL_count 3 = .ok (.iload_n 1, 1) := by decide +kernel
theorem dL_count_4 : decode cL_count 4 = .ok (.invokevirtual 15, 3) := by decide +kernel
theorem dL_count_7 : decode cL_count 7 = .ok (.i2l, 1) := by decide +kernel
theorem dL_count_8 : decode cL_count 8 = .ok (.lastore, 1) := by decide +kernel
theorem dL_count_9 : decode cL_count 9 = .ok (.goto 6, 3) := by decide +kernel
theorem dL_count_12 : decode cL_count 12 = .ok (.astore_n 3, 1) := by decide +kernel
theorem dL_count_13 : decode cL_count 13 = .ok (.iconst 1, 1) := by decide +kernel
theorem dL_count_14 : decode cL_count 14 = .ok (.ireturn, 1) := by decide +kernel
theorem dL_count_15 : decode cL_count 15 = .ok (.iconst 0, 1) := by decide +kernel
theorem dL_count_16 : decode cL_count 16 = .ok (.ireturn, 1) := by decide +kernel
set_option maxRecDepth 20000 in
theorem ggL_person_X12_person : GoodIn wsL_person wsX12_person := goodIn_ca (goodIn_r _ [6, 7, 8, 9, 10, 11, 12, 5, 13, 14, 15, 16, 17, 18, 19, 20, 21, 22, 23, 24, 25, 26, 27, 28, 29, 30, 31, 32, 33, 34, 35, 36, 37, 38, 39, 40, 41, 42, 43, 44, 45, 46, 47, 48, 49, 50, 51, 52, 53, 54, 55, 56, 57, 58, 59, 60, 61, 62, 63, 64, 65, 66, 67, 68, 69, 70, 71, 72, 73, 74, 75, 76, 77, 78, 79, 80, 81, 82, 83, 84, 85, 86, 87, 88, 89, 90, 91, 92, 93, 94, 95, 96, 97, 98, 99, 100, 101] rfl (by decide +kernel)) (goodIn_sub (fun _ h => List.mem_cons_of_mem _ (List.mem_append_right _ h)) (by decide +kernel))
set_option maxRecDepth 20000 in
theorem gL_person_X12_person : GoodIn wsL_person (wsV RL 20 RX12 yX12_person wsX12_person) := goodIn_app (goodIn_of _ (by decide +kernel)) ggL_person_X12_person
theorem dL_person_0 : decode cL_person 0 = .ok (.aload_n 3, 1) := by decide +kernel
theorem dL_person_1 : decode cL_person 1 = .ok (.iconst 0, 1) := by decide +kernel
theorem dL_person_2 : decode cL_person 2 = .ok (.aload_n 0, 1) := by decide +kernel
theorem dL_person_3 : decode cL_person 3 = .ok (.iload_n 1, 1) := by decide +kernel
theorem dL_person_4 : decode cL_person 4 = .ok (.iload_n 2, 1) := by decide +kernel
theorem dL_person_5 : decode cL_person 5 = .ok (.invokevirtual 20, 3) := by decide +kernel
theorem dL_person_8 : decode cL_person 8 = .ok (.i2l, 1) := by decide +kernel
theorem dL_person_9 : decode cL_person 9 = .ok (.lastore, 1) := by decide +kernel
theorem dL_person_10 : decode cL_person 10 = .ok (.goto 7, 3) := by decide +kernel
theorem dL_person_13 : decode cL_person 13 = .ok (.astore 4, 2) := by decide +kernel
theorem dL_person_15 : decode cL_person 15 = .ok (.iconst 1, 1) := by decide +kernel
theorem dL_person_16 : decode cL_person 16 = .ok (.ireturn, 1) := by decide +kernel
theorem dL_person_17 : decode cL_person 17 = .ok (.iconst 0, 1) := by decide +kernel
theorem dL_person_18 : decode cL_person 18 = .ok (.ireturn, 1) := by decide +kernel
set_option maxRecDepth 20000 in
theorem ggL_box_X12_box : GoodIn wsL_box wsX12_box := goodIn_ca (goodIn_r _ [6, 7, 8, 9, 10, 11, 12, 5, 13, 14, 15, 16, 17, 18, 19, 20, 21, 22, 23, 24, 25, 26, 27, 28, 29, 30, 31, 32, 33, 34, 35, 36, 37, 38, 39, 40, 41, 42, 43, 44, 45, 46, 47, 48, 49, 50, 51, 52, 53, 54, 55, 56, 57, 58, 59, 60, 61, 62, 63, 64, 65, 66, 67, 68, 69, 70, 71, 72, 73, 74, 75, 76, 77, 78, 79, 80, 81, 82, 83, 84, 85, 86, 87, 88, 89, 90, 91, 92, 93, 94, 95, 96, 97, 98, 99, 100, 101, 102, 103, 104, 105, 106, 107, 108, 109, 110, 111, 112, 113, 114, 115, 116, 117, 118, 119, 120, 121, 122, 123, 124, 125, 126, 127, 128, 129, 130, 131, 132, 133, 134, 135, 136, 137, 138, 139, 140, 141, 142, 143, 144, 145, 146] rfl (by decide +kernel)) (goodIn_sub (fun _ h => List.mem_cons_of_mem _ (List.mem_append_right _ h)) (by decide +kernel))
set_option maxRecDepth 20000 in
theorem gL_box_X12_box : GoodIn wsL_box (wsV RL 24 RX12 yX12_box wsX12_box) := goodIn_app (goodIn_of _ (by decide +kernel)) ggL_box_X12_box
theorem dL_box_0 : decode cL_box 0 = .ok (.aload_n 3, 1) := by decide +kernel
theorem dL_box_1 : decode cL_box 1 = .ok (.iconst 0, 1) := by decide +kernel
theorem dL_box_2 : decode cL_box 2 = .ok (.aload_n 0, 1) := by decide +kernel
theorem dL_box_3 : decode cL_box 3 = .ok (.iload_n 1, 1) := by decide +kernel
theorem dL_box_4 : decode cL_box 4 = .ok (.iload_n 2, 1) := by decide +kernel
theorem dL_box_5 : decode cL_box 5 = .ok (.invokevirtual 24, 3) := by decide +kernel
theorem dL_box_8 : decode cL_box 8 = .ok (.i2l, 1) := by decide +kernel
theorem dL_box_9 : decode cL_box 9 = .ok (.lastore, 1) := by decide +kernel
theorem dL_box_10 : decode cL_box 10 = .ok (.goto 7, 3) := by decide +kernel
theorem dL_box_13 : decode cL_box 13 = .ok (.astore 4, 2) := by decide +kernel
theorem dL_box_15 : decode cL_box 15 = .ok (.iconst 1, 1) := by decide +kernel
theorem dL_box_16 : decode cL_box 16 = .ok (.ireturn, 1) := by decide +kernel
theorem dL_box_17 : decode cL_box 17 = .ok (.iconst 0, 1) := by decide +kernel
theorem dL_box_18 : decode cL_box 18 = .ok (.ireturn, 1) := by decide +kernel
set_option maxRecDepth 20000 in
theorem ggL_thing_X12_thing : GoodIn wsL_thing wsX12_thing := goodIn_ca (goodIn_r _ [6, 7, 8, 9, 10, 11, 12, 5, 13, 14, 15, 16, 17, 18, 19, 20, 21, 22, 23, 24, 25, 26, 27, 28, 29, 30, 31, 32, 33, 34, 35, 36, 37, 38, 39, 40, 41, 42, 43, 44, 45, 46, 47, 48, 49, 50, 51, 52, 53, 54, 55, 56, 57, 58, 59, 60, 61, 62, 63, 64, 65, 66, 67, 68, 69, 70, 71, 72, 73, 74, 75, 76] rfl (by decide +kernel)) (goodIn_sub (fun _ h => List.mem_cons_of_mem _ (List.mem_append_right _ h)) (by decide +kernel))
set_option maxRecDepth 20000 in
theorem gL_thing_X12_thing : GoodIn wsL_thing (wsV RL 27 RX12 yX12_thing wsX12_thing) := goodIn_app (goodIn_of _ (by decide +kernel)) ggL_thing_X12_thing
theorem dL_thing_0 : decode cL_thing 0 = .ok (.aload_n 3, 1) := by decide +kernel
theorem dL_thing_1 : decode cL_thing 1 = .ok (.iconst 0, 1) := by decide +kernel
theorem dL_thing_2 : decode cL_thing 2 = .ok (.aload_n 0, 1) := by decide +kernel
theorem dL_thing_3 : decode cL_thing 3 = .ok (.iload_n 1, 1) := by decide +kernel
theorem dL_thing_4 : decode cL_thing 4 = .ok (.iload_n 2, 1) := by decide +kernel
theorem dL_thing_5 : decode cL_thing 5 = .ok (.invokevirtual 27, 3) := by decide +kernel
theorem dL_thing_8 : decode cL_thing 8 = .ok (.i2l, 1) := by decide +kernel
theorem dL_thing_9 : decode cL_thing 9 = .ok (.lastore, 1) := by decide +kernel
theorem dL_thing_10 : decode cL_thing 10 = .ok (.goto 7, 3) := by decide +kernel
theorem dL_thing_13 : decode cL_thing 13 = .ok (.astore 4, 2) := by decide +kernel
theorem dL_thing_15 : decode cL_thing 15 = .ok (.iconst 1, 1) := by decide +kernel
theorem dL_thing_16 : decode cL_thing 16 = .ok (.ireturn, 1) := by decide +kernel
theorem dL_thing_17 : decode cL_thing 17 = .ok (.iconst 0, 1) := by decide +kernel
theorem dL_thing_18 : decode cL_thing 18 = .ok (.ireturn, 1) := by decide +kernel
set_option maxRecDepth 20000 in
theorem ggL_may_X12_may : GoodIn wsL_may wsX12_may := goodIn_ca (goodIn_r _ [6, 7, 8, 9, 10, 5, 11, 12, 13, 14, 15, 16, 17, 18, 19, 20, 21, 22, 23, 24, 25, 26, 27, 28, 29, 30, 31, 32, 33, 34, 35, 36, 37, 38, 39, 40, 41, 42, 43, 44, 45, 46, 47, 48, 49, 50, 51, 52, 53, 54, 55, 56, 57, 58, 59, 60, 61, 62, 63, 64, 65, 66, 67, 68, 69, 70, 71, 72, 73, 74, 75, 76, 77, 78, 79, 80, 81, 82, 83, 84, 85, 86, 87, 88, 89, 90, 91, 92, 93, 94, 95, 96, 97, 98, 99, 100] rfl (by decide +kernel)) (goodIn_sub (fun _ h => List.mem_cons_of_mem _ (List.mem_append_right _ h)) (by decide +kernel))
set_option maxRecDepth 20000 in
theorem gL_may_X12_may : GoodIn wsL_may (wsV RL 30 RX12 yX12_may wsX12_may) := goodIn_app (goodIn_of _ (by decide +kernel)) ggL_may_X12_may
theorem dL_may_0 : decode cL_may 0 = .ok (.aload_n 3, 1) := by decide +kernel
theorem dL_may_1 : decode cL_may 1 = .ok (.iconst 0, 1) := by decide +kernel
theorem dL_may_2 : decode cL_may 2 = .ok (.aload_n 0, 1) := by decide +kernel
theorem dL_may_3 : decode cL_may 3 = .ok (.iload_n 1, 1) := by decide +kernel
theorem dL_may_4 : decode cL_may 4 = .ok (.iload_n 2, 1) := by decide +kernel
theorem dL_may_5 : decode cL_may 5 = .ok (.invokevirtual 30, 3) := by decide +kernel
theorem dL_may_8 : decode cL_may 8 = .ok (.ifCond .eq 7, 3) := by decide +kernel
theorem dL_may_11 : decode cL_may 11 = .ok (.lconst 1, 1) := by decide +kernel
theorem dL_may_12 : decode cL_may 12 = .ok (.goto 4, 3) := by decide +kernel
theorem dL_may_15 : decode cL_may 15 = .ok (.lconst 0, 1) := by decide +kernel
theorem dL_may_16 : decode cL_may 16 = .ok (.lastore, 1) := by decide +kernel
theorem dL_may_17 : decode cL_may 17 = .ok (.goto 7, 3) := by decide +kernel
theorem dL_may_20 : decode cL_may 20 = .ok (.astore 4, 2) := by decide +kernel
theorem dL_may_22 : decode cL_may 22 = .ok (.iconst 1, 1) := by decide +kernel
theorem dL_may_23 : decode cL_may 23 = .ok (.ireturn, 1) := by decide +kernel
theorem dL_may_24 : decode cL_may 24 = .ok (.iconst 0, 1) := by decide +kernel
theorem dL_may_25 : decode cL_may 25 = .ok (.ireturn, 1) := by decide +kernel
set_option maxRecDepth 20000 in
theorem ggL_shift_X12_shift : GoodIn wsL_shift wsX12_shift := goodIn_ca (goodIn_r _ [6, 7, 8, 9, 10, 11, 12, 5, 13, 14, 15, 16, 17, 18, 19, 20, 21, 22, 23, 24, 25, 26, 27, 28, 29, 30, 31, 32, 33, 34, 35, 36, 37, 38, 39, 40, 41, 42, 43, 44, 45, 46, 47, 48, 49, 50, 51, 52, 53, 54, 55, 56, 57, 58, 59, 60, 61, 62, 63, 64, 65, 66, 67, 68, 69, 70, 71, 72, 73, 74, 75, 76, 77, 78, 79, 80, 81, 82, 83, 84, 85, 86, 87, 88, 89, 90, 91, 92, 93, 94, 95, 96, 97, 98, 99, 100, 101, 102, 103, 104, 105, 106, 107, 108, 109, 110, 111, 112, 113, 114, 115, 116, 117, 118, 119, 120, 121, 122, 123, 124, 125, 126, 127, 128, 129, 130, 131, 132, 133, 134, 135, 136, 137, 138, 139, 140, 141, 142, 143, 144, 145, 146] rfl (by decide +kernel)) (goodIn_sub (fun _ h => List.mem_cons_of_mem _ (List.mem_append_right _ h)) (by decide +kernel))
set_option maxRecDepth 20000 in
theorem gL_shift_X12_shift : GoodIn wsL_shift (wsV RL 34 RX12 yX12_shift wsX12_shift) := goodIn_app (goodIn_of _ (by decide +kernel)) ggL_shift_X12_shift
theorem dL_shift_0 : decode cL_shift 0 = .ok (.aload_n 3, 1) := by decide +kernel
theorem dL_shift_1 : decode cL_shift 1 = .ok (.iconst 0, 1) := by decide +kernel
theorem dL_shift_2 : decode cL_shift 2 = .ok (.aload_n 0, 1) := by decide +kernel
theorem dL_shift_3 : decode cL_shift 3 = .ok (.iload_n 1, 1) := by decide +kernel
theorem dL_shift_4 : decode cL_shift 4 = .ok (.iload_n 2, 1) := by decide +kernel
theorem dL_shift_5 : decode cL_shift 5 = .ok (.invokevirtual 34, 3) := by decide +kernel
theorem dL_shift_8 : decode cL_shift 8 = .ok (.i2l, 1) := by decide +kernel
theorem dL_shift_9 : decode cL_shift 9 = .ok (.lastore, 1) := by decide +kernel
theorem dL_shift_10 : decode cL_shift 10 = .ok (.goto 7, 3) := by decide +kernel
theorem dL_shift_13 : decode cL_shift 13 = .ok (.astore 4, 2) := by decide +kernel
theorem dL_shift_15 : decode cL_shift 15 = .ok (.iconst 1, 1) := by decide +kernel
theorem dL_shift_16 : decode cL_shift 16 = .ok (.ireturn, 1) := by decide +kernel
theorem dL_shift_17 : decode cL_shift 17 = .ok (.iconst 0, 1) := by decide +kernel
theorem dL_shift_18 : decode cL_shift 18 = .ok (.ireturn, 1) := by decide +kernel
set_option maxRecDepth 20000 in
theorem ggL_two_X12_two : GoodIn wsL_two wsX12_two := goodIn_ca (goodIn_ca (goodIn_r _ [7, 8, 9, 10, 11, 12, 13, 14, 6, 15, 16, 17, 18, 19, 20, 21, 22, 23, 24, 25, 26, 27, 28, 29, 30, 31, 32, 33, 34, 35, 36, 37, 38, 39, 40, 41, 42, 43, 44, 45, 46, 47, 48, 49, 50, 51, 52, 53, 54, 55, 56, 57, 58, 59, 60, 61, 62, 63, 64, 65, 66, 67, 68, 69, 70, 71, 72, 73, 74, 75, 76, 77, 78, 79, 80, 81, 82, 83, 84, 85, 86, 87, 88, 89, 90, 91, 92, 93, 94, 95, 96, 97] rfl (by decide +kernel)) (goodIn_sub (fun _ h => List.mem_cons_of_mem _ (List.mem_append_left _ (List.mem_append_right _ h))) (by decide +kernel))) (goodIn_sub (fun _ h => List.mem_cons_of_mem _ (List.mem_append_right _ h)) (by decide +kernel))
set_option maxRecDepth 20000 in
theorem gL_two_X12_two : GoodIn wsL_two (wsV RL 37 RX12 yX12_two wsX12_two) := goodIn_app (goodIn_of _ (by decide +kernel)) ggL_two_X12_two
theorem dL_two_0 : decode cL_two 0 = .ok (.aload_n 3, 1) := by decide +kernel
theorem dL_two_1 : decode cL_two 1 = .ok (.iconst 0, 1) := by decide +kernel
theorem dL_two_2 : decode cL_two 2 = .ok (.aload_n 0, 1) := by decide +kernel
theorem dL_two_3 : decode cL_two 3 = .ok (.iload_n 1, 1) := by decide +kernel
theorem dL_two_4 : decode cL_two 4 = .ok (.iload_n 2, 1) := by decide +kernel
theorem dL_two_5 : decode cL_two 5 = .ok (.invokevirtual 37, 3) := by decide +kernel
theorem dL_two_8 : decode cL_two 8 = .ok (.i2l, 1) := by decide +kernel
theorem dL_two_9 : decode cL_two 9 = .ok (.lastore, 1) := by decide +kernel
theorem dL_two_10 : decode cL_two 10 = .ok (.goto 11, 3) := by decide +kernel
theorem dL_two_13 : decode cL_two 13 = .ok (.astore 4, 2) := by decide +kernel
theorem dL_two_15 : decode cL_two 15 = .ok (.iconst 1, 1) := by decide +kernel
theorem dL_two_16 : decode cL_two 16 = .ok (.ireturn, 1) := by decide +kernel
theorem dL_two_17 : decode cL_two 17 = .ok (.astore 4, 2) := by decide +kernel
theorem dL_two_19 : decode cL_two 19 = .ok (.iconst 2, 1) := by decide +kernel
theorem dL_two_20 : decode cL_two 20 = .ok (.ireturn, 1) := by decide +kernel
theorem dL_two_21 : decode cL_two 21 = .ok (.iconst 0, 1) := by decide +kernel
theorem dL_two_22 : decode cL_two 22 = .ok (.ireturn, 1) := by decide +kernel
set_option maxRecDepth 20000 in
theorem ggL_cheap_X12_cheap : GoodIn wsL_cheap wsX12_cheap := goodIn_ca (goodIn_r _ [6, 7, 8, 9, 10, 11, 5, 12, 13, 14, 15, 16, 17, 18, 19, 20, 21, 22, 23, 24, 25, 26, 27, 28, 29, 30, 31, 32, 33, 34, 35, 36, 37, 38, 39, 40, 41, 42, 43, 44, 45, 46, 47, 48, 49, 50, 51, 52, 53, 54, 55, 56, 57, 58, 59, 60, 61, 62, 63, 64, 65, 66, 67, 68, 69, 70, 71, 72, 73, 74, 75, 76, 77, 78, 79, 80, 81, 82, 83, 84, 85, 86, 87, 88, 89, 90, 91, 92, 93, 94, 95, 96, 97, 98, 99, 100, 101, 102, 103, 104, 105, 106, 107, 108, 109, 110, 111, 112, 113, 114, 115, 116, 117, 118, 119, 120, 121, 122, 123, 124, 125, 126, 127, 128, 129, 130, 131, 132, 133, 134, 135, 136, 137, 138, 139, 140, 141, 142, 143, 144, 145, 146, 147, 148, 149, 150, 151, 152, 153, 154, 155, 156, 157, 158, 159, 160, 161, 162, 163, 164, 165, 166, 167, 168, 169, 170, 171, 172, 173, 174, 175, 176, 177, 178, 179] rfl (by decide +kernel)) (goodIn_sub (fun _ h => List.mem_cons_of_mem _ (List.mem_append_right _ h)) (by decide +kernel))
set_option maxRecDepth 20000 in
theorem gL_cheap_X12_cheap : GoodIn wsL_cheap (wsV RL 40 RX12 yX12_cheap wsX12_cheap) := goodIn_app (goodIn_of _ (by decide +kernel)) ggL_cheap_X12_cheap
theorem dL_cheap_0 : decode cL_cheap 0 = .ok (.aload_n 2, 1) := by decide +kernel
theorem dL_cheap_1 : decode cL_cheap 1 = .ok (.iconst 0, 1) := by decide +kernel
theorem dL_cheap_2 : decode cL_cheap 2 = .ok (.aload_n 0, 1) := by decide +kernel
theorem dL_cheap_3 : decode cL_cheap 3 = .ok (.iload_n 1, 1) := by decide +kernel
theorem dL_cheap_4 : decode cL_cheap 4 = .ok (.invokevirtual 40, 3) := by decide +kernel
theorem dL_cheap_7 : decode cL_cheap 7 = .ok (.i2l, 1) := by decide +kernel
theorem dL_cheap_8 : decode cL_cheap 8 = .ok (.lastore, 1) := by decide +kernel
theorem dL_cheap_9 : decode cL_cheap 9 = .ok (.goto 6, 3) := by decide +kernel
theorem dL_cheap_12 : decode cL_cheap 12 = .ok (.astore_n 3, 1) := by decide +kernel
theorem dL_cheap_13 : decode cL_cheap 13 = .ok (.iconst 1, 1) := by decide +kernel
theorem dL_cheap_14 : decode cL_cheap 14 = .ok (.ireturn, 1) := by decide +kernel
theorem dL_cheap_15 : decode cL_cheap 15 = .ok (.iconst 0, 1) := by decide +kernel
theorem dL_cheap_16 : decode cL_cheap 16 = .ok (.ireturn, 1) := by decide +kernel
set_option maxRecDepth 20000 in
theorem ggL_fate_X12_fate : GoodIn wsL_fate wsX12_fate := goodIn_ca (goodIn_r _ [6, 7, 8, 9, 10, 11, 12, 13, 5, 14, 15, 16, 17, 18, 19, 20, 21, 22, 23, 24, 25, 26, 27, 28, 29, 30, 31, 32, 33, 34, 35, 36, 37, 38, 39, 40, 41, 42, 43, 44, 45, 46, 47, 48, 49, 50, 51, 52, 53, 54, 55, 56, 57, 58, 59, 60, 61, 62, 63, 64, 65, 66] rfl (by decide +kernel)) (goodIn_sub (fun _ h => List.mem_cons_of_mem _ (List.mem_append_right _ h)) (by decide +kernel))
set_option maxRecDepth 20000 in
theorem gL_fate_X12_fate : GoodIn wsL_fate (wsV RL 43 RX12 yX12_fate wsX12_fate) := goodIn_app (goodIn_of _ (by decide +kernel)) ggL_fate_X12_fate
theorem dL_fate_0 : decode cL_fate 0 = .ok (.aload_n 2, 1) := by decide +kernel
theorem dL_fate_1 : decode cL_fate 1 = .ok (.iconst 0, 1) := by decide +kernel
theorem dL_fate_2 : decode cL_fate 2 = .ok (.aload_n 0, 1) := by decide +kernel
theorem dL_fate_3 : decode cL_fate 3 = .ok (.iload_n 1, 1) := by decide +kernel
theorem dL_fate_4 : decode cL_fate 4 = .ok (.invokevirtual 43, 3) := by decide +kernel
theorem dL_fate_7 : decode cL_fate 7 = .ok (.i2l, 1) := by decide +kernel
theorem dL_fate_8 : decode cL_fate 8 = .ok (.lastore, 1) := by decide +kernel
theorem dL_fate_9 : decode cL_fate 9 = .ok (.goto 6, 3) := by decide +kernel
theorem dL_fate_12 : decode cL_fate 12 = .ok (.astore_n 3, 1) := by decide +kernel
theorem dL_fate_13 : decode cL_fate 13 = .ok (.iconst 1, 1) := by decide +kernel
theorem dL_fate_14 : decode cL_fate 14 = .ok (.ireturn, 1) := by decide +kernel
theorem dL_fate_15 : decode cL_fate 15 = .ok (.iconst 0, 1) := by decide +kernel
theorem dL_fate_16 : decode cL_fate 16 = .ok (.ireturn, 1) := by decide +kernel
set_option maxRecDepth 20000 in
theorem ggL_sure_X12_sure : GoodIn wsL_sure wsX12_sure := goodIn_ca (goodIn_r _ [6, 7, 8, 9, 10, 11, 12, 13, 14, 15, 5, 16, 17, 18, 19, 20, 21, 22, 23, 24, 25, 26, 27, 28, 29, 30, 31, 32, 33, 34, 35, 36, 37, 38, 39, 40, 41, 42, 43, 44, 45, 46, 47, 48, 49, 50, 51, 52, 53, 54, 55, 56, 57, 58, 59, 60, 61, 62, 63, 64, 65, 66, 67, 68, 69, 70, 71, 72, 73, 74, 75, 76, 77, 78, 79, 80, 81, 82, 83, 84, 85, 86, 87, 88, 89, 90, 91, 92, 93, 94, 95, 96, 97, 98, 99, 100, 101, 102, 103, 104, 105, 106, 107, 108, 109, 110, 111, 112, 113, 114, 115, 116, 117, 118, 119, 120, 121, 122, 123, 124, 125, 126, 127, 128, 129, 130] rfl (by decide +kernel)) (goodIn_sub (fun _ h => List.mem_cons_of_mem _ (List.mem_append_right _ h)) (by decide +kernel))
set_option maxRecDepth 20000 in
theorem gL_sure_X12_sure : GoodIn wsL_sure (wsV RL 46 RX12 yX12_sure wsX12_sure) := goodIn_app (goodIn_of _ (by decide +kernel)) ggL_sure_X12_sure
theorem dL_sure_0 : decode cL_sure 0 = .ok (.aload_n 3, 1) := by decide +kernel
theorem dL_sure_1 : decode cL_sure 1 = .ok (.iconst 0, 1) := by decide +kernel
theorem dL_sure_2 : decode cL_sure 2 = .ok (.aload_n 0, 1) := by decide +kernel
theorem dL_sure_3 : decode cL_sure 3 = .ok (.iload_n 1, 1) := by decide +kernel
theorem dL_sure_4 : decode cL_sure 4 = .ok (.iload_n 2, 1) := by decide +kernel
theorem dL_sure_5 : decode cL_sure 5 = .ok (.invokevirtual 46, 3) := by decide +kernel
theorem dL_sure_8 : decode cL_sure 8 = .ok (.lastore, 1) := by decide +kernel
theorem dL_sure_9 : decode cL_sure 9 = .ok (.goto 7, 3) := by decide +kernel
theorem dL_sure_12 : decode cL_sure 12 = .ok (.astore 4, 2) := by decide +kernel
theorem dL_sure_14 : decode cL_sure 14 = .ok (.iconst 1, 1) := by decide +kernel
theorem dL_sure_15 : decode cL_sure 15 = .ok (.ireturn, 1) := by decide +kernel
theorem dL_sure_16 : decode cL_sure 16 = .ok (.iconst 0, 1) := by decide +kernel
theorem dL_sure_17 : decode cL_sure 17 = .ok (.ireturn, 1) := by decide +kernel
set_option maxRecDepth 20000 in
theorem ggL_weigh_X12_weigh : GoodIn wsL_weigh wsX12_weigh := goodIn_ca (goodIn_r _ [6, 7, 8, 9, 10, 11, 12, 13, 14, 5, 15, 16, 17, 18, 19, 20, 21, 22, 23, 24, 25, 26, 27, 28, 29, 30, 31, 32, 33, 34, 35, 36, 37, 38, 39, 40, 41, 42, 43, 44, 45, 46, 47, 48, 49, 50, 51, 52, 53, 54, 55, 56, 57, 58, 59, 60, 61, 62, 63, 64, 65, 66, 67, 68, 69, 70, 71, 72, 73, 74, 75, 76, 77, 78, 79, 80, 81, 82, 83, 84, 85, 86, 87, 88, 89, 90, 91, 92, 93, 94, 95, 96, 97, 98, 99, 100, 101, 102, 103, 104, 105, 106, 107, 108, 109, 110, 111, 112, 113, 114, 115, 116, 117, 118, 119, 120, 121, 122] rfl (by decide +kernel)) (goodIn_sub (fun _ h => List.mem_cons_of_mem _ (List.mem_append_right _ h)) (by decide +kernel))
set_option maxRecDepth 20000 in
theorem gL_weigh_X12_weigh : GoodIn wsL_weigh (wsV RL 50 RX12 yX12_weigh wsX12_weigh) := goodIn_app (goodIn_of _ (by decide +kernel)) ggL_weigh_X12_weigh
theorem dL_weigh_0 : decode cL_weigh 0 = .ok (.aload_n 3, 1) := by decide +kernel
theorem dL_weigh_1 : decode cL_weigh 1 = .ok (.iconst 0, 1) := by decide +kernel
theorem dL_weigh_2 : decode cL_weigh 2 = .ok (.aload_n 0, 1) := by decide +kernel
theorem dL_weigh_3 : decode cL_weigh 3 = .ok (.iload_n 1, 1) := by decide +kernel
theorem dL_weigh_4 : decode cL_weigh 4 = .ok (.iload_n 2, 1) := by decide +kernel
theorem dL_weigh_5 : decode cL_weigh 5 = .ok (.invokevirtual 50, 3) := by decide +kernel
theorem dL_weigh_8 : decode cL_weigh 8 = .ok (.i2l, 1) := by decide +kernel
theorem dL_weigh_9 : decode cL_weigh 9 = .ok (.lastore, 1) := by decide +kernel
theorem dL_weigh_10 : decode cL_weigh 10 = .ok (.goto 7, 3) := by decide +kernel
theorem dL_weigh_13 : decode cL_weigh 13 = .ok (.astore 4, 2) := by decide +kernel
theorem dL_weigh_15 : decode cL_weigh 15 = .ok (.iconst 1, 1) := by decide +kernel
theorem dL_weigh_16 : decode cL_weigh 16 = .ok (.ireturn, 1) := by decide +kernel
theorem dL_weigh_17 : decode cL_weigh 17 = .ok (.iconst 0, 1) := by decide +kernel
theorem dL_weigh_18 : decode cL_weigh 18 = .ok (.ireturn, 1) := by decide +kernel
set_option maxRecDepth 20000 in
theorem ggL_lost_X12_lost : GoodIn wsL_lost wsX12_lost := goodIn_ca (goodIn_r _ [6, 7, 8, 9, 10, 5, 11, 12, 13, 14, 15, 16, 17, 18, 19, 20, 21, 22, 23, 24, 25, 26, 27, 28, 29, 30, 31, 32, 33, 34, 35, 36, 37, 38, 39, 40, 41, 42, 43, 44, 45, 46, 47, 48, 49, 50, 51, 52, 53, 54, 55, 56, 57, 58, 59, 60, 61, 62, 63, 64, 65, 66, 67, 68, 69, 70, 71, 72, 73, 74, 75, 76, 77, 78, 79, 80, 81, 82, 83, 84, 85, 86, 87, 88] rfl (by decide +kernel)) (goodIn_sub (fun _ h => List.mem_cons_of_mem _ (List.mem_append_right _ h)) (by decide +kernel))
set_option maxRecDepth 20000 in
theorem gL_lost_X12_lost : GoodIn wsL_lost (wsV RL 53 RX12 yX12_lost wsX12_lost) := goodIn_app (goodIn_of _ (by decide +kernel)) ggL_lost_X12_lost
theorem dL_lost_0 : decode cL_lost 0 = .ok (.aload_n 2, 1) := by decide +kernel
theorem dL_lost_1 : decode cL_lost 1 = .ok (.iconst 0, 1) := by decide +kernel
theorem dL_lost_2 : decode cL_lost 2 = .ok (.aload_n 0, 1) := by decide +kernel
theorem dL_lost_3 : decode cL_lost 3 = .ok (.iload_n 1, 1) := by decide +kernel
theorem dL_lost_4 : decode cL_lost 4 = .ok (.invokevirtual 53, 3) := by decide +kernel
theorem dL_lost_7 : decode cL_lost 7 = .ok (.i2l, 1) := by decide +kernel
theorem dL_lost_8 : decode cL_lost 8 = .ok (.lastore, 1) := by decide +kernel
theorem dL_lost_9 : decode cL_lost 9 = .ok (.goto 6, 3) := by decide +kernel
theorem dL_lost_12 : decode cL_lost 12 = .ok (.astore_n 3, 1) := by decide +kernel
theorem dL_lost_13 : decode cL_lost 13 = .ok (.iconst 1, 1) := by decide +kernel
theorem dL_lost_14 : decode cL_lost 14 = .ok (.ireturn, 1) := by decide +kernel
theorem dL_lost_15 : decode cL_lost 15 = .ok (.iconst 0, 1) := by decide +kernel
theorem dL_lost_16 : decode cL_lost 16 = .ok (.ireturn, 1) := by decide +kernel
set_option maxRecDepth 20000 in
theorem ggL_wear_X12_wear : GoodIn wsL_wear wsX12_wear := goodIn_ca (goodIn_ca (goodIn_r _ [7, 8, 9, 10, 11, 12, 13, 14, 15, 6, 16, 17, 18, 19, 20, 21, 22, 23, 24, 25, 26, 27, 28, 29, 30, 31, 32, 33, 34, 35, 36, 37, 38, 39, 40, 41, 42, 43, 44, 45, 46, 47, 48, 49, 50, 51, 52, 53, 54, 55, 56, 57, 58, 59, 60, 61, 62, 63, 64, 65, 66, 67, 68, 69, 70, 71, 72, 73, 74, 75, 76, 77, 78, 79, 80, 81, 82, 83, 84, 85, 86, 87, 88, 89, 90, 91, 92, 93, 94, 95, 96, 97, 98, 99, 100] rfl (by decide +kernel)) (goodIn_sub (fun _ h => List.mem_cons_of_mem _ (List.mem_append_left _ (List.mem_append_right _ h))) (by decide +kernel))) (goodIn_sub (fun _ h => List.mem_cons_of_mem _ (List.mem_append_right _ h)) (by decide +kernel))
set_option maxRecDepth 20000 in
theorem gL_wear_X12_wear : GoodIn wsL_wear (wsV RL 56 RX12 yX12_wear wsX12_wear) := goodIn_app (goodIn_of _ (by decide +kernel)) ggL_wear_X12_wear
theorem dL_wear_0 : decode cL_wear 0 = .ok (.aload 4, 2) := by decide +kernel
theorem dL_wear_2 : decode cL_wear 2 = .ok (.iconst 0, 1) := by decide +kernel
theorem dL_wear_3 : decode cL_wear 3 = .ok (.aload_n 0, 1) := by decide +kernel
theorem dL_wear_4 : decode cL_wear 4 = .ok (.iload_n 1, 1) := by decide +kernel
theorem dL_wear_5 : decode cL_wear 5 = .ok (.iload_n 2, 1) := by decide +kernel
theorem dL_wear_6 : decode cL_wear 6 = .ok (.iload_n 3, 1) := by decide +kernel
theorem dL_wear_7 : decode cL_wear 7 = .ok (.invokevirtual 56, 3) := by decide +kernel
theorem dL_wear_10 : decode cL_wear 10 = .ok (.i2l, 1) := by decide +kernel
theorem dL_wear_11 : decode cL_wear 11 = .ok (.lastore, 1) := by decide +kernel
theorem dL_wear_12 : decode cL_wear 12 = .ok (.goto 11, 3) := by decide +kernel
theorem dL_wear_15 : decode cL_wear 15 = .ok (.astore 5, 2) := by decide +kernel
theorem dL_wear_17 : decode cL_wear 17 = .ok (.iconst 1, 1) := by decide +kernel
theorem dL_wear_18 : decode cL_wear 18 = .ok (.ireturn, 1) := by decide +kernel
theorem dL_wear_19 : decode cL_wear 19 = .ok (.astore 5, 2) := by decide +kernel
theorem dL_wear_21 : decode cL_wear 21 = .ok (.iconst 2, 1) := by decide +kernel
theorem dL_wear_22 : decode cL_wear 22 = .ok (.ireturn, 1) := by decide +kernel
theorem dL_wear_23 : decode cL_wear 23 = .ok (.iconst 0, 1) := by decide +kernel
theorem dL_wear_24 : decode cL_wear 24 = .ok (.ireturn, 1) := by decide +kernel
set_option maxRecDepth 20000 in
theorem ggL_carrier_X12_carrier : GoodIn wsL_carrier wsX12_carrier := goodIn_ca (goodIn_r _ [6, 7, 8, 9, 10, 11, 12, 13, 14, 5, 15, 16, 17, 18, 19, 20, 21, 22, 23, 24, 25, 26, 27, 28, 29, 30, 31, 32, 33, 34, 35, 36, 37, 38, 39, 40, 41, 42, 43, 44, 45, 46, 47, 48, 49, 50, 51, 52, 53, 54, 55, 56, 57, 58, 59, 60] rfl (by decide +kernel)) (goodIn_sub (fun _ h => List.mem_cons_of_mem _ (List.mem_append_right _ h)) (by decide +kernel))
set_option maxRecDepth 20000 in
theorem gL_carrier_X12_carrier : GoodIn wsL_carrier (wsV RL 60 RX12 yX12_carrier wsX12_carrier) := goodIn_app (goodIn_of _ (by decide +kernel)) ggL_carrier_X12_carrier
theorem dL_carrier_0 : decode cL_carrier 0 = .ok (.aload_n 2, 1) := by decide +kernel
theorem dL_carrier_1 : decode cL_carrier 1 = .ok (.iconst 0, 1) := by decide +kernel
theorem dL_carrier_2 : decode cL_carrier 2 = .ok (.aload_n 0, 1) := by decide +kernel
theorem dL_carrier_3 : decode cL_carrier 3 = .ok (.iload_n 1, 1) := by decide +kernel
theorem dL_carrier_4 : decode cL_carrier 4 = .ok (.invokevirtual 60, 3) := by decide +kernel
theorem dL_carrier_7 : decode cL_carrier 7 = .ok (.i2l, 1) := by decide +kernel
theorem dL_carrier_8 : decode cL_carrier 8 = .ok (.lastore, 1) := by decide +kernel
theorem dL_carrier_9 : decode cL_carrier 9 = .ok (.goto 6, 3) := by decide +kernel
theorem dL_carrier_12 : decode cL_carrier 12 = .ok (.astore_n 3, 1) := by decide +kernel
theorem dL_carrier_13 : decode cL_carrier 13 = .ok (.iconst 1, 1) := by decide +kernel
theorem dL_carrier_14 : decode cL_carrier 14 = .ok (.ireturn, 1) := by decide +kernel
theorem dL_carrier_15 : decode cL_carrier 15 = .ok (.iconst 0, 1) := by decide +kernel
theorem dL_carrier_16 : decode cL_carrier 16 = .ok (.ireturn, 1) := by decide +kernel
set_option maxRecDepth 20000 in
theorem ggL_look_X12_look : GoodIn wsL_look wsX12_look := goodIn_ca (goodIn_r _ [6, 7, 8, 9, 10, 11, 12, 13, 5, 14, 15, 16, 17, 18, 19, 20, 21, 22, 23, 24, 25, 26, 27, 28, 29, 30, 31, 32, 33, 34, 35, 36, 37, 38, 39, 40, 41, 42, 43, 44, 45, 46, 47, 48, 49, 50, 51, 52, 53, 54, 55, 56, 57, 58, 59, 60, 61, 62, 63, 64, 65, 66, 67, 68, 69, 70, 71, 72, 73, 74, 75, 76, 77, 78, 79, 80, 81, 82, 83, 84, 85, 86, 87, 88, 89, 90, 91, 92, 93, 94, 95, 96, 97, 98, 99, 100, 101, 102, 103, 104, 105, 106, 107, 108, 109, 110, 111, 112, 113, 114, 115, 116, 117, 118, 119, 120, 121, 122, 123, 124, 125, 126, 127, 128, 129, 130, 131, 132, 133, 134, 135, 136, 137, 138, 139, 140] rfl (by decide +kernel)) (goodIn_sub (fun _ h => List.mem_cons_of_mem _ (List.mem_append_right _ h)) (by decide +kernel))
set_option maxRecDepth 20000 in
theorem gL_look_X12_look : GoodIn wsL_look (wsV RL 63 RX12 yX12_look wsX12_look) := goodIn_app (goodIn_of _ (by decide +kernel)) ggL_look_X12_look
theorem dL_look_0 : decode cL_look 0 = .ok (.aload_n 3, 1) := by decide +kernel
theorem dL_look_1 : decode cL_look 1 = .ok (.iconst 0, 1) := by decide +kernel
theorem dL_look_2 : decode cL_look 2 = .ok (.aload_n 0, 1) := by decide +kernel
theorem dL_look_3 : decode cL_look 3 = .ok (.iload_n 1, 1) := by decide +kernel
theorem dL_look_4 : decode cL_look 4 = .ok (.iload_n 2, 1) := by decide +kernel
theorem dL_look_5 : decode cL_look 5 = .ok (.invokevirtual 63, 3) := by decide +kernel
theorem dL_look_8 : decode cL_look 8 = .ok (.i2l, 1) := by decide +kernel
theorem dL_look_9 : decode cL_look 9 = .ok (.lastore, 1) := by decide +kernel
theorem dL_look_10 : decode cL_look 10 = .ok (.goto 7, 3) := by decide +kernel
theorem dL_look_13 : decode cL_look 13 = .ok (.astore 4, 2) := by decide +kernel
theorem dL_look_15 : decode cL_look 15 = .ok (.iconst 1, 1) := by decide +kernel
theorem dL_look_16 : decode cL_look 16 = .ok (.ireturn, 1) := by decide +kernel
theorem dL_look_17 : decode cL_look 17 = .ok (.iconst 0, 1) := by decide +kernel
theorem dL_look_18 : decode cL_look 18 = .ok (.ireturn, 1) := by decide +kernel
set_option maxRecDepth 20000 in
theorem ggL_see_X12_see : GoodIn wsL_see wsX12_see := goodIn_ca (goodIn_r _ [6, 7, 8, 9, 10, 11, 5, 12, 13, 14, 15, 16, 17, 18, 19, 20, 21, 22, 23, 24, 25, 26, 27, 28, 29, 30, 31, 32, 33, 34, 35, 36, 37, 38, 39, 40, 41, 42, 43, 44, 45, 46, 47, 48, 49, 50, 51, 52, 53, 54, 55, 56, 57, 58, 59, 60, 61, 62, 63, 64, 65, 66, 67, 68, 69, 70, 71, 72, 73, 74, 75, 76] rfl (by decide +kernel)) (goodIn_sub (fun _ h => List.mem_cons_of_mem _ (List.mem_append_right _ h)) (by decide +kernel))
set_option maxRecDepth 20000 in
theorem gL_see_X12_see : GoodIn wsL_see (wsV RL 66 RX12 yX12_see wsX12_see) := goodIn_app (goodIn_of _ (by decide +kernel)) ggL_see_X12_see
theorem dL_see_0 : decode cL_see 0 = .ok (.aload_n 3, 1) := by decide +kernel
theorem dL_see_1 : decode cL_see 1 = .ok (.iconst 0, 1) := by decide +kernel
theorem dL_see_2 : decode cL_see 2 = .ok (.aload_n 0, 1) := by decide +kernel
theorem dL_see_3 : decode cL_see 3 = .ok (.iload_n 1, 1) := by decide +kernel
theorem dL_see_4 : decode cL_see 4 = .ok (.iload_n 2, 1) := by decide +kernel
theorem dL_see_5 : decode cL_see 5 = .ok (.invokevirtual 66, 3) := by decide +kernel
theorem dL_see_8 : decode cL_see 8 = .ok (.i2l, 1) := by decide +kernel
theorem dL_see_9 : decode cL_see 9 = .ok (.lastore, 1) := by decide +kernel
theorem dL_see_10 : decode cL_see 10 = .ok (.goto 7, 3) := by decide +kernel
theorem dL_see_13 : decode cL_see 13 = .ok (.astore 4, 2) := by decide +kernel
theorem dL_see_15 : decode cL_see 15 = .ok (.iconst 1, 1) := by decide +kernel
theorem dL_see_16 : decode cL_see 16 = .ok (.ireturn, 1) := by decide +kernel
theorem dL_see_17 : decode cL_see 17 = .ok (.iconst 0, 1) := by decide +kernel
theorem dL_see_18 : decode cL_see 18 = .ok (.ireturn, 1) := by decide +kernel
set_option maxRecDepth 20000 in
theorem ggL_fits_X12_fits : GoodIn wsL_fits wsX12_fits := goodIn_ca (goodIn_r _ [6, 7, 8, 9, 10, 11, 12, 13, 5, 14, 15, 16, 17, 18, 19, 20, 21, 22, 23, 24, 25, 26, 27, 28, 29, 30, 31, 32, 33, 34, 35, 36, 37, 38, 39, 40, 41, 42, 43, 44, 45, 46, 47, 48, 49, 50, 51, 52, 53, 54, 55, 56, 57, 58, 59, 60, 61, 62, 63, 64, 65, 66, 67, 68, 69, 70, 71, 72, 73, 74, 75, 76, 77, 78, 79, 80, 81, 82, 83, 84, 85, 86, 87, 88, 89, 90, 91, 92, 93, 94, 95, 96, 97, 98, 99, 100, 101, 102, 103, 104, 105, 106, 107, 108, 109, 110, 111, 112, 113, 114, 115, 116, 117, 118, 119, 120, 121, 122, 123, 124, 125, 126, 127, 128, 129, 130, 131, 132, 133, 134, 135, 136, 137, 138, 139, 140, 141, 142, 143, 144, 145, 146, 147, 148, 149, 150, 151, 152, 153, 154, 155, 156, 157, 158, 159, 160, 161, 162, 163, 164, 165, 166, 167, 168] rfl (by decide +kernel)) (goodIn_sub (fun _ h => List.mem_cons_of_mem _ (List.mem_append_right _ h)) (by decide +kernel))
set_option maxRecDepth 20000 in
theorem gL_fits_X12_fits : GoodIn wsL_fits (wsV RL 69 RX12 yX12_fits wsX12_fits) := goodIn_app (goodIn_of _ (by decide +kernel)) ggL_fits_X12_fits
theorem dL_fits_0 : decode cL_fits 0 = .ok (.aload_n 2, 1) := by decide +kernel
theorem dL_fits_1 : decode cL_fits 1 = .ok (.iconst 0, 1) := by decide +kernel
theorem dL_fits_2 : decode cL_fits 2 = .ok (.aload_n 0, 1) := by decide +kernel
theorem dL_fits_3 : decode cL_fits 3 = .ok (.iload_n 1, 1) := by decide +kernel
theorem dL_fits_4 : decode cL_fits 4 = .ok (.invokevirtual 69, 3) := by decide +kernel
theorem dL_fits_7 : decode cL_fits 7 = .ok (.i2l, 1) := by decide +kernel
theorem dL_fits_8 : decode cL_fits 8 = .ok (.lastore, 1) := by decide +kernel
theorem dL_fits_9 : decode cL_fits 9 = .ok (.goto 6, 3) := by decide +kernel
theorem dL_fits_12 : decode cL_fits 12 = .ok (.astore_n 3, 1) := by decide +kernel
theorem dL_fits_13 : decode cL_fits 13 = .ok (.iconst 1, 1) := by decide +kernel
theorem dL_fits_14 : decode cL_fits 14 = .ok (.ireturn, 1) := by decide +kernel
theorem dL_fits_15 : decode cL_fits 15 = .ok (.iconst 0, 1) := by decide +kernel
theorem dL_fits_16 : decode cL_fits 16 = .ok (.ireturn, 1) := by decide +kernel
set_option maxRecDepth 20000 in
theorem ggL_best_X12_best : GoodIn wsL_best wsX12_best := goodIn_ca (goodIn_r _ [6, 7, 8, 9, 10, 11, 12, 13, 5, 14, 15, 16, 17, 18, 19, 20, 21, 22, 23, 24, 25, 26, 27, 28, 29, 30, 31, 32, 33, 34, 35, 36, 37, 38, 39, 40, 41, 42, 43, 44, 45, 46, 47, 48, 49, 50, 51, 52, 53, 54, 55, 56, 57, 58, 59, 60, 61, 62, 63, 64, 65, 66, 67, 68, 69, 70, 71, 72, 73, 74, 75, 76, 77, 78, 79, 80, 81, 82, 83, 84, 85, 86, 87, 88, 89, 90, 91, 92, 93, 94, 95, 96, 97, 98, 99, 100, 101, 102, 103, 104, 105, 106, 107, 108, 109, 110, 111, 112, 113, 114, 115, 116, 117, 118, 119, 120, 121, 122, 123, 124, 125, 126, 127, 128, 129, 130, 131, 132, 133, 134, 135, 136, 137, 138, 139, 140, 141, 142, 143, 144, 145, 146, 147, 148, 149, 150, 151, 152, 153, 154, 155, 156, 157, 158, 159, 160, 161, 162, 163, 164, 165, 166, 167, 168, 169, 170, 171, 172, 173, 174, 175, 176, 177, 178, 179, 180, 181, 182, 183, 184, 185, 186, 187, 188, 189, 190, 191, 192, 193, 194, 195] rfl (by decide +kernel)) (goodIn_sub (fun _ h => List.mem_cons_of_mem _ (List.mem_append_right _ h)) (by decide +kernel))
set_option maxRecDepth 20000 in
theorem gL_best_X12_best : GoodIn wsL_best (wsV RL 72 RX12 yX12_best wsX12_best) := goodIn_app (goodIn_of _ (by decide +kernel)) ggL_best_X12_best
theorem dL_best_0 : decode cL_best 0 = .ok (.aload_n 2, 1) := by decide +kernel
theorem dL_best_1 : decode cL_best 1 = .ok (.iconst 0, 1) := by decide +kernel
theorem dL_best_2 : decode cL_best 2 = .ok (.aload_n 0, 1) := by decide +kernel
theorem dL_best_3 : decode cL_best 3 = .ok (.iload_n 1, 1) := by decide +kernel
theorem dL_best_4 : decode cL_best 4 = .ok (.invokevirtual 72, 3) := by decide +kernel
theorem dL_best_7 : decode cL_best 7 = .ok (.i2l, 1) := by decide +kernel
theorem dL_best_8 : decode cL_best 8 = .ok (.lastore, 1) := by decide +kernel
theorem dL_best_9 : decode cL_best 9 = .ok (.goto 6, 3) := by decide +kernel
theorem dL_best_12 : decode cL_best 12 = .ok (.astore_n 3, 1) := by decide +kernel
theorem dL_best_13 : decode cL_best 13 = .ok (.iconst 1, 1) := by decide +kernel
theorem dL_best_14 : decode cL_best 14 = .ok (.ireturn, 1) := by decide +kernel
theorem dL_best_15 : decode cL_best 15 = .ok (.iconst 0, 1) := by decide +kernel
theorem dL_best_16 : decode cL_best 16 = .ok (.ireturn, 1) := by decide +kernel
set_option maxRecDepth 20000 in
theorem ggL_counter_X12_counter : GoodIn wsL_counter wsX12_counter := goodIn_ca (goodIn_ca (goodIn_r _ [7, 8, 9, 10, 11, 12, 13, 14, 15, 6, 16, 17, 18, 19, 20, 21, 22, 23, 24, 25, 26, 27, 28, 29, 30, 31, 32, 33, 34, 35, 36, 37, 38, 39, 40, 41, 42, 43, 44, 45, 46, 47, 48, 49, 50, 51, 52, 53, 54, 55, 56, 57, 58, 59, 60, 61, 62, 63, 64, 65, 66, 67, 68, 69, 70, 71, 72, 73, 74, 75, 76, 77, 78, 79, 80, 81, 82, 83, 84, 85, 86, 87, 88, 89, 90, 91, 92, 93, 94, 95, 96, 97, 98, 99, 100, 101, 102, 103, 104, 105, 106, 107, 108, 109, 110, 111, 112, 113, 114, 115, 116, 117, 118, 119, 120, 121, 122, 123, 124, 125, 126, 127, 128, 129, 130, 131, 132, 133, 134, 135, 136, 137, 138, 139, 140, 141, 142, 143, 144, 145, 146, 147, 148, 149, 150, 151, 152, 153, 154, 155, 156, 157, 158, 159, 160, 161, 162, 163, 164, 165, 166, 167, 168, 169, 170] rfl (by decide +kernel)) (goodIn_sub (fun _ h => List.mem_cons_of_mem _ (List.mem_append_left _ (List.mem_append_right _ h))) (by decide +kernel))) (goodIn_sub (fun _ h => List.mem_cons_of_mem _ (List.mem_append_right _ h)) (by decide +kernel))
set_option maxRecDepth 20000 in
theorem gL_counter_X12_counter : GoodIn wsL_counter (wsV RL 75 RX12 yX12_counter wsX12_counter) := goodIn_app (goodIn_of _ (by decide +kernel)) ggL_counter_X12_counter
theorem dL_counter_0 : decode cL_counter 0 = .ok (.aload 4, 2) := by decide +kernel
theorem dL_counter_2 : decode cL_counter 2 = .ok (.iconst 0, 1) := by decide +kernel
theorem dL_counter_3 : decode cL_counter 3 = .ok (.aload_n 0, 1) := by decide +kernel
theorem dL_counter_4 : decode cL_counter 4 = .ok (.iload_n 1, 1) := by decide +kernel
theorem dL_counter_5 : decode cL_counter 5 = .ok (.iload_n 2, 1) := by decide +kernel
theorem dL_counter_6 : decode cL_counter 6 = .ok (.iload_n 3, 1) := by decide +kernel
theorem dL_counter_7 : decode cL_counter 7 = .ok (.invokevirtual 75, 3) := by decide +kernel
theorem dL_counter_10 : decode cL_counter 10 = .ok (.i2l, 1) := by decide +kernel
theorem dL_counter_11 : decode cL_counter 11 = .ok (.lastore, 1) := by decide +kernel
theorem dL_counter_12 : decode cL_counter 12 = .ok (.goto 11, 3) := by decide +kernel
theorem dL_counter_15 : decode cL_counter 15 = .ok (.astore 5, 2) := by decide +kernel
theorem dL_counter_17 : decode cL_counter 17 = .ok (.iconst 1, 1) := by decide +kernel
theorem dL_counter_18 : decode cL_counter 18 = .ok (.ireturn, 1) := by decide +kernel
theorem dL_counter_19 : decode cL_counter 19 = .ok (.astore 5, 2) := by decide +kernel
theorem dL_counter_21 : decode cL_counter 21 = .ok (.iconst 2, 1) := by decide +kernel
theorem dL_counter_22 : decode cL_counter 22 = .ok (.ireturn, 1) := by decide +kernel
theorem dL_counter_23 : decode cL_counter 23 = .ok (.iconst 0, 1) := by decide +kernel
theorem dL_counter_24 : decode cL_counter 24 = .ok (.ireturn, 1) := by decide +kernel
set_option maxRecDepth 20000 in
theorem ggL_law_X12_init : GoodIn wsL_law wsX12_init := goodIn_c lawC lawC_in _ [(0, 9), (0, 10), (0, 11), (0, 12), (0, 13), (0, 14), (0, 15), (0, 16), (0, 17), (0, 18), (0, 19), (0, 20), (0, 21), (0, 22), (0, 23), (1, 0), (1, 1), (1, 2), (1, 3), (1, 4), (1, 5), (1, 6), (1, 7), (1, 8), (1, 9), (1, 10), (1, 11), (1, 12), (1, 13), (1, 14), (1, 15), (1, 16), (1, 17), (1, 18), (1, 19), (1, 20), (1, 21), (1, 22), (1, 23), (2, 0), (2, 1), (2, 2), (2, 3), (2, 4), (2, 5), (2, 6), (2, 7), (2, 8), (2, 9), (2, 10), (2, 11), (2, 12), (2, 13), (2, 14), (2, 15), (2, 16), (2, 17), (2, 18), (2, 19), (2, 20), (2, 21), (2, 22), (2, 23), (3, 0), (3, 1), (3, 2), (3, 3), (3, 4), (3, 5), (3, 6), (3, 7), (3, 8), (3, 9), (3, 10), (3, 11), (3, 12), (3, 13), (3, 14), (3, 15), (3, 16), (3, 17), (3, 18), (3, 19), (3, 20), (3, 21), (3, 22), (3, 23), (4, 0), (4, 1), (4, 2), (4, 3), (4, 4), (4, 5), (4, 6), (4, 7), (4, 8), (4, 9), (4, 10), (4, 11), (4, 12), (4, 13), (4, 14), (4, 15), (4, 16), (4, 17), (4, 18), (4, 19), (4, 20), (4, 21), (4, 22), (4, 23), (5, 0), (5, 1), (5, 2), (5, 3), (5, 4), (5, 5), (5, 6), (5, 7), (5, 8), (5, 9), (5, 10), (5, 11), (5, 12), (5, 13), (5, 14), (5, 15), (5, 16), (5, 17), (0, 6), (5, 18), (5, 19), (5, 20), (5, 21), (5, 22), (5, 23), (6, 0), (6, 1), (6, 2), (66, 0), (66, 1), (66, 2), (66, 3), (66, 4), (66, 5), (66, 6), (66, 7), (64, 0), (64, 1), (64, 2), (64, 3), (64, 4), (64, 5), (64, 6), (64, 7), (64, 8), (64, 9), (64, 10), (64, 11), (64, 12), (64, 13), (67, 0), (67, 1), (67, 2), (67, 3), (67, 4), (67, 5), (67, 6), (67, 7), (67, 8), (67, 9), (67, 10), (67, 11), (68, 0), (68, 1), (68, 2), (69, 0), (69, 1), (69, 2), (70, 0), (70, 1), (70, 2), (70, 3), (70, 4), (71, 0), (71, 1), (71, 2), (72, 0), (72, 1), (72, 2), (72, 3), (72, 4), (72, 5), (72, 6), (72, 7), (72, 8), (73, 0), (73, 1), (73, 2), (73, 3), (73, 4), (73, 5), (73, 6), (73, 7), (73, 8), (74, 0), (74, 1), (74, 2), (74, 3), (74, 4), (74, 5), (74, 6), (74, 7), (74, 8), (75, 0), (75, 1), (76, 0), (76, 1), (76, 2), (76, 3), (76, 4), (76, 5)] rfl (by decide +kernel)
set_option maxRecDepth 20000 in
theorem gL_law_X12_init : GoodIn wsL_law (wsX12_init) := ggL_law_X12_init
set_option maxRecDepth 20000 in
theorem ggL_law_X13_init : GoodIn wsL_law wsX13_init := goodIn_c lawC lawC_in _ [(6, 5), (6, 6), (0, 11), (0, 12), (6, 7), (6, 8), (6, 9), (3, 11), (6, 10), (6, 11), (6, 12), (6, 13), (6, 14), (6, 15), (6, 16), (6, 17), (6, 18), (6, 19), (6, 20), (6, 21), (6, 22), (6, 23), (7, 0), (7, 1), (7, 2), (7, 3), (7, 4), (7, 5), (7, 6), (7, 7), (7, 8), (7, 9), (7, 10), (7, 11), (7, 12), (7, 13), (7, 14), (7, 15), (7, 16), (0, 6), (7, 17), (7, 18), (7, 19), (7, 20), (7, 21), (7, 22), (7, 23), (8, 0), (8, 1), (8, 2), (8, 3), (8, 4), (8, 5), (65, 0), (65, 1), (65, 2), (65, 3), (65, 4), (65, 5), (65, 6), (65, 7), (65, 8), (65, 9), (65, 10), (65, 11), (65, 12), (65, 13), (65, 14), (65, 15), (65, 16), (65, 17), (65, 18), (65, 19), (65, 20), (65, 21), (65, 22), (65, 23), (65, 24), (65, 25), (65, 26), (65, 27), (65, 28), (65, 29), (65, 30), (65, 31), (65, 32), (65, 33), (65, 34), (65, 35), (65, 36), (65, 37), (65, 38), (65, 39), (65, 40), (65, 41), (65, 42), (65, 43), (65, 44), (65, 45), (65, 46), (65, 47), (65, 48), (65, 49), (65, 50), (65, 51), (65, 52), (65, 53), (65, 54), (65, 55), (65, 56), (65, 57), (65, 58), (65, 59), (65, 60), (65, 61), (65, 62), (65, 63), (65, 64), (65, 65), (65, 66)] rfl (by decide +kernel)
set_option maxRecDepth 20000 in
theorem gL_law_X13_init : GoodIn wsL_law (wsX13_init) := ggL_law_X13_init
set_option maxRecDepth 20000 in
theorem ggL_law_X12_feed : GoodIn wsL_law wsX12_feed := goodIn_c lawC lawC_in _ [(8, 9), (0, 16), (8, 10), (8, 11), (8, 12), (8, 13), (0, 15), (8, 14), (8, 15), (2, 9), (64, 0), (64, 1), (64, 2), (64, 3), (64, 4), (64, 5), (64, 6), (64, 7), (64, 8), (64, 9), (64, 10), (64, 11), (64, 12), (64, 13), (66, 0), (66, 1), (66, 2), (66, 3), (66, 4), (66, 5), (66, 6), (66, 7)] rfl (by decide +kernel)
set_option maxRecDepth 20000 in
theorem gL_law_X12_feed : GoodIn wsL_law (wsV RL 83 RX12 yX12_feed wsX12_feed) := goodIn_app (goodIn_of _ (by decide +kernel)) ggL_law_X12_feed
set_option maxRecDepth 20000 in
theorem ggL_law_X13_feed : GoodIn wsL_law wsX13_feed := goodIn_c lawC lawC_in _ [(8, 19), (8, 20), (8, 21), (7, 6), (65, 0), (65, 1), (65, 2), (65, 3), (65, 4), (65, 5), (65, 6), (65, 7), (65, 8), (65, 9), (65, 10), (65, 11), (65, 12), (65, 13), (65, 14), (65, 15), (65, 16), (65, 17), (65, 18), (65, 19), (65, 20), (65, 21), (65, 22), (65, 23), (65, 24), (65, 25), (65, 26), (65, 27), (65, 28), (65, 29), (65, 30), (65, 31), (65, 32), (65, 33), (65, 34), (65, 35), (65, 36), (65, 37), (65, 38), (65, 39), (65, 40), (65, 41), (65, 42), (65, 43), (65, 44), (65, 45), (65, 46), (65, 47), (65, 48), (65, 49), (65, 50), (65, 51), (65, 52), (65, 53), (65, 54), (65, 55), (65, 56), (65, 57), (65, 58), (65, 59), (65, 60), (65, 61), (65, 62), (65, 63), (65, 64), (65, 65), (65, 66)] rfl (by decide +kernel)
set_option maxRecDepth 20000 in
theorem gL_law_X13_feed : GoodIn wsL_law (wsV RL 87 RX13 yX13_feed wsX13_feed) := goodIn_app (goodIn_of _ (by decide +kernel)) ggL_law_X13_feed
set_option maxRecDepth 20000 in
theorem ggL_law_L_hall : GoodIn wsL_law wsL_hall := goodIn_ca (goodIn_c lawC lawC_in _ [(9, 1), (9, 2), (9, 3), (9, 4), (9, 5), (0, 2), (9, 6), (9, 7), (9, 8), (0, 16), (8, 10), (1, 1), (0, 21), (9, 9), (1, 12), (1, 9), (9, 10), (9, 11), (9, 12), (1, 0), (9, 13), (4, 2), (9, 14), (4, 1), (9, 15), (9, 16), (9, 17), (9, 18), (0, 19), (9, 19), (3, 1), (9, 20), (9, 21), (9, 22), (9, 23), (10, 0), (10, 1), (10, 2), (10, 3), (10, 4), (10, 5), (3, 0), (10, 6), (10, 7), (10, 8), (10, 9), (10, 10), (10, 11), (0, 15), (10, 12), (10, 13), (10, 14), (10, 15), (10, 16), (10, 17), (10, 18), (10, 19), (2, 10), (2, 11), (10, 20), (10, 21), (10, 22), (10, 23), (11, 0), (11, 1), (2, 9), (11, 2), (11, 3), (11, 4), (11, 5), (11, 6), (11, 7), (11, 8), (11, 9), (11, 10), (11, 11), (11, 12), (11, 13), (11, 14), (11, 15), (11, 16), (11, 17), (11, 18), (11, 19), (11, 20), (11, 21), (11, 22), (11, 23), (12, 0), (12, 1), (12, 2), (12, 3), (12, 4), (12, 5), (12, 6), (12, 7), (12, 8), (12, 9), (12, 10), (12, 11), (12, 12), (12, 13), (12, 14), (12, 15), (12, 16), (12, 17), (12, 18), (12, 19), (12, 20), (12, 21), (12, 22), (12, 23), (13, 0), (13, 1), (13, 2), (13, 3), (13, 4), (13, 5), (13, 6), (13, 7), (13, 8), (13, 9), (13, 10), (13, 11), (13, 12), (13, 13), (13, 14), (13, 15), (13, 16), (13, 17), (13, 18), (13, 19), (13, 20), (13, 21), (13, 22), (13, 23), (14, 0), (14, 1), (14, 2), (14, 3), (14, 4), (14, 5), (14, 6), (14, 7), (14, 8), (14, 9), (14, 10), (14, 11), (14, 12), (14, 13), (14, 14), (14, 15), (3, 9), (14, 16), (14, 17), (14, 18), (14, 19), (14, 20), (14, 21), (14, 22), (14, 23), (15, 0), (15, 1), (15, 2), (2, 17), (15, 3), (3, 6), (3, 12), (15, 4), (15, 5), (15, 6), (15, 7), (15, 8), (15, 9), (15, 10), (15, 11), (15, 12), (15, 13), (15, 14), (15, 15), (15, 16), (15, 17), (15, 18), (15, 19), (15, 20), (15, 21), (15, 22), (15, 23), (16, 0), (16, 1), (16, 2), (16, 3), (16, 4), (16, 5), (16, 6), (16, 7), (16, 8), (16, 9), (16, 10), (16, 11), (16, 12), (16, 13), (16, 14), (16, 15), (16, 16), (16, 17), (16, 18), (16, 19), (16, 20), (16, 21), (16, 22), (16, 23), (17, 0), (17, 1), (17, 2), (17, 3), (17, 4), (17, 5), (17, 6), (17, 7), (17, 8), (17, 9), (17, 10), (17, 11), (17, 12), (17, 13), (17, 14), (17, 15), (17, 16), (17, 17), (17, 18), (17, 19), (17, 20), (17, 21), (17, 22), (17, 23), (18, 0), (18, 1), (18, 2), (18, 3), (18, 4), (18, 5), (18, 6), (3, 17), (18, 7), (18, 8), (18, 9), (18, 10), (18, 11), (18, 12), (18, 13), (18, 14), (18, 15), (18, 16), (18, 17), (18, 18), (18, 19), (18, 20), (18, 21), (18, 22), (18, 23), (19, 0), (19, 1), (19, 2), (19, 3), (19, 4), (19, 5), (19, 6), (19, 7), (19, 8), (19, 9), (19, 10), (19, 11), (19, 12), (19, 13), (19, 14), (19, 15), (19, 16), (19, 17), (19, 18), (19, 19), (19, 20), (19, 21), (19, 22), (19, 23), (20, 0), (20, 1), (1, 8), (20, 2), (4, 17), (20, 3), (20, 4), (20, 5), (20, 6), (20, 7), (20, 8), (20, 9), (20, 10), (20, 11), (0, 20), (1, 5), (1, 20), (20, 12), (20, 13), (20, 14), (20, 15), (1, 4), (20, 16), (4, 9), (20, 17), (20, 18), (4, 8), (20, 19), (20, 20), (20, 21), (20, 22), (20, 23), (21, 0), (21, 1), (21, 2), (21, 3), (21, 4), (21, 5), (21, 6), (1, 19), (21, 7), (21, 8), (21, 9), (64, 0), (64, 1), (64, 2), (64, 3), (64, 4), (64, 5), (64, 6), (64, 7), (64, 8), (64, 9), (64, 10), (64, 11), (64, 12), (64, 13), (66, 0), (66, 1), (66, 2), (66, 3), (66, 4), (66, 5), (66, 6), (66, 7), (68, 0), (68, 1), (68, 2), (67, 0), (67, 1), (67, 2), (67, 3), (67, 4), (67, 5), (67, 6), (67, 7), (67, 8), (67, 9), (67, 10), (67, 11), (76, 0), (76, 1), (76, 2), (76, 3), (76, 4), (76, 5), (75, 0), (75, 1), (70, 0), (70, 1), (70, 2), (70, 3), (70, 4), (69, 0), (69, 1), (69, 2), (72, 0), (72, 1), (72, 2), (72, 3), (72, 4), (72, 5), (72, 6), (72, 7), (72, 8)] rfl (by decide +kernel)) (goodIn_sub (fun _ h => List.mem_append_left _ (List.mem_append_right _ h)) (by decide +kernel))
set_option maxRecDepth 20000 in
theorem gL_law_L_hall : GoodIn wsL_law (va_wsS RL 88 yL_hall wsL_hall) := goodIn_app (goodIn_of _ (by decide +kernel)) ggL_law_L_hall
set_option maxRecDepth 20000 in
theorem ggL_law_X13_hall : GoodIn wsL_law wsX13_hall := goodIn_c lawC lawC_in _ [(21, 13), (8, 20), (8, 21), (21, 14), (21, 15), (21, 16), (7, 7), (6, 10), (21, 17), (21, 18), (7, 5), (21, 19), (21, 20), (21, 21), (0, 5), (21, 22), (21, 23), (22, 0), (22, 1), (22, 2), (22, 3), (22, 4), (22, 5), (22, 6), (14, 15), (3, 9), (14, 16), (22, 7), (22, 8), (22, 9), (22, 10), (22, 11), (7, 6), (22, 12), (22, 13), (22, 14), (22, 15), (22, 16), (22, 17), (22, 18), (22, 19), (22, 20), (22, 21), (22, 22), (22, 23), (23, 0), (6, 8), (23, 1), (23, 2), (23, 3), (23, 4), (23, 5), (11, 14), (11, 15), (11, 16), (11, 17), (11, 18), (11, 19), (11, 20), (11, 21), (11, 22), (11, 23), (12, 0), (23, 6), (12, 2), (12, 3), (12, 4), (12, 5), (12, 6), (12, 7), (12, 8), (12, 9), (12, 10), (12, 11), (12, 12), (12, 13), (12, 14), (12, 15), (12, 16), (12, 17), (12, 18), (12, 19), (12, 20), (12, 21), (12, 22), (12, 23), (13, 0), (13, 1), (13, 2), (13, 3), (13, 4), (13, 5), (13, 6), (13, 7), (13, 8), (13, 9), (13, 10), (13, 11), (13, 12), (13, 13), (23, 7), (23, 8), (23, 9), (23, 10), (23, 11), (23, 12), (23, 13), (23, 14), (23, 15), (23, 16), (23, 17), (23, 18), (23, 19), (23, 20), (23, 21), (23, 22), (23, 23), (24, 0), (24, 1), (24, 2), (24, 3), (24, 4), (24, 5), (24, 6), (24, 7), (24, 8), (24, 9), (24, 10), (24, 11), (24, 12), (24, 13), (7, 4), (24, 14), (24, 15), (24, 16), (24, 17), (24, 18), (24, 19), (24, 20), (24, 21), (24, 22), (6, 9), (24, 23), (25, 0), (25, 1), (25, 2), (25, 3), (25, 4), (25, 5), (25, 6), (25, 7), (25, 8), (25, 9), (25, 10), (25, 11), (25, 12), (25, 13), (25, 14), (6, 19), (6, 20), (6, 21), (6, 22), (6, 23), (7, 1), (6, 18), (6, 16), (7, 0), (25, 15), (25, 16), (25, 17), (25, 18), (25, 19), (25, 20), (25, 21), (25, 22), (25, 23), (26, 0), (26, 1), (26, 2), (6, 11), (6, 12), (6, 13), (26, 3), (26, 4), (26, 5), (26, 6), (6, 14), (6, 15), (6, 17), (26, 7), (26, 8), (26, 9), (26, 10), (7, 2), (7, 3), (26, 11), (26, 12), (26, 13), (26, 14), (26, 15), (26, 16), (26, 17), (7, 16), (26, 18), (26, 19), (26, 20), (26, 21), (26, 22), (65, 0), (65, 1), (65, 2), (65, 3), (65, 4), (65, 5), (65, 6), (65, 7), (65, 8), (65, 9), (65, 10), (65, 11), (65, 12), (65, 13), (65, 14), (65, 15), (65, 16), (65, 17), (65, 18), (65, 19), (65, 20), (65, 21), (65, 22), (65, 23), (65, 24), (65, 25), (65, 26), (65, 27), (65, 28), (65, 29), (65, 30), (65, 31), (65, 32), (65, 33), (65, 34), (65, 35), (65, 36), (65, 37), (65, 38), (65, 39), (65, 40), (65, 41), (65, 42), (65, 43), (65, 44), (65, 45), (65, 46), (65, 47), (65, 48), (65, 49), (65, 50), (65, 51), (65, 52), (65, 53), (65, 54), (65, 55), (65, 56), (65, 57), (65, 58), (65, 59), (65, 60), (65, 61), (65, 62), (65, 63), (65, 64), (65, 65), (65, 66)] rfl (by decide +kernel)
set_option maxRecDepth 20000 in
theorem gL_law_X13_hall : GoodIn wsL_law (wsV RL 93 RX13 yX13_hall wsX13_hall) := goodIn_app (goodIn_of _ (by decide +kernel)) ggL_law_X13_hall
set_option maxRecDepth 20000 in
theorem ggL_law_X13_thrown : GoodIn wsL_law wsX13_thrown := goodIn_c lawC lawC_in _ [(27, 2), (8, 20), (65, 0), (65, 1), (65, 2), (65, 3), (65, 4), (65, 5), (65, 6), (65, 7), (65, 8), (65, 9), (65, 10), (65, 11), (65, 12), (65, 13), (65, 14), (65, 15), (65, 16), (65, 17), (65, 18), (65, 19), (65, 20), (65, 21), (65, 22), (65, 23), (65, 24), (65, 25), (65, 26), (65, 27), (65, 28), (65, 29), (65, 30), (65, 31), (65, 32), (65, 33), (65, 34), (65, 35), (65, 36), (65, 37), (65, 38), (65, 39), (65, 40), (65, 41), (65, 42), (65, 43), (65, 44), (65, 45), (65, 46), (65, 47), (65, 48), (65, 49), (65, 50), (65, 51), (65, 52), (65, 53), (65, 54), (65, 55), (65, 56), (65, 57), (65, 58), (65, 59), (65, 60), (65, 61), (65, 62), (65, 63), (65, 64), (65, 65), (65, 66)] rfl (by decide +kernel)
set_option maxRecDepth 20000 in
theorem gL_law_X13_thrown : GoodIn wsL_law (wsV RL 94 RX13 yX13_thrown wsX13_thrown) := goodIn_app (goodIn_of _ (by decide +kernel)) ggL_law_X13_thrown
set_option maxRecDepth 20000 in
theorem ggL_law_X12_fault : GoodIn wsL_law wsX12_fault := goodIn_c lawC lawC_in _ [(27, 6), (1, 12), (64, 0), (64, 1), (64, 2), (64, 3), (64, 4), (64, 5), (64, 6), (64, 7), (64, 8), (64, 9), (64, 10), (64, 11), (64, 12), (64, 13)] rfl (by decide +kernel)
set_option maxRecDepth 20000 in
theorem gL_law_X12_fault : GoodIn wsL_law (wsV RL 98 RX12 yX12_fault wsX12_fault) := goodIn_app (goodIn_of _ (by decide +kernel)) ggL_law_X12_fault
set_option maxRecDepth 20000 in
theorem ggL_law_X13_fault : GoodIn wsL_law wsX13_fault := goodIn_c lawC lawC_in _ [(27, 10), (8, 20), (7, 7), (65, 0), (65, 1), (65, 2), (65, 3), (65, 4), (65, 5), (65, 6), (65, 7), (65, 8), (65, 9), (65, 10), (65, 11), (65, 12), (65, 13), (65, 14), (65, 15), (65, 16), (65, 17), (65, 18), (65, 19), (65, 20), (65, 21), (65, 22), (65, 23), (65, 24), (65, 25), (65, 26), (65, 27), (65, 28), (65, 29), (65, 30), (65, 31), (65, 32), (65, 33), (65, 34), (65, 35), (65, 36), (65, 37), (65, 38), (65, 39), (65, 40), (65, 41), (65, 42), (65, 43), (65, 44), (65, 45), (65, 46), (65, 47), (65, 48), (65, 49), (65, 50), (65, 51), (65, 52), (65, 53), (65, 54), (65, 55), (65, 56), (65, 57), (65, 58), (65, 59), (65, 60), (65, 61), (65, 62), (65, 63), (65, 64), (65, 65), (65, 66)] rfl (by decide +kernel)
set_option maxRecDepth 20000 in
theorem gL_law_X13_fault : GoodIn wsL_law (wsV RL 101 RX13 yX13_fault wsX13_fault) := goodIn_app (goodIn_of _ (by decide +kernel)) ggL_law_X13_fault
set_option maxRecDepth 20000 in
theorem ggL_law_L_count : GoodIn wsL_law wsL_count := goodIn_ca (goodIn_c lawC lawC_in _ [(27, 13), (27, 14), (27, 15), (27, 16), (27, 17), (0, 2), (27, 18), (27, 19), (27, 20), (0, 20), (27, 21), (27, 22), (27, 23), (28, 0), (28, 1), (28, 2), (1, 5), (28, 3), (1, 9), (28, 4), (28, 5), (0, 16), (8, 10), (28, 6), (28, 7), (20, 4), (20, 5), (2, 17), (20, 6), (3, 12), (64, 0), (64, 1), (64, 2), (64, 3), (64, 4), (64, 5), (64, 6), (64, 7), (64, 8), (64, 9), (64, 10), (64, 11), (64, 12), (64, 13), (67, 0), (67, 1), (67, 2), (67, 3), (67, 4), (67, 5), (67, 6), (67, 7), (67, 8), (67, 9), (67, 10), (67, 11), (69, 0), (69, 1), (69, 2), (70, 0), (70, 1), (70, 2), (70, 3), (70, 4), (66, 0), (66, 1), (66, 2), (66, 3), (66, 4), (66, 5), (66, 6), (66, 7), (75, 0), (75, 1)] rfl (by decide +kernel)) (goodIn_sub (fun _ h => List.mem_append_right _ h) (by decide +kernel))
set_option maxRecDepth 20000 in
theorem gL_law_L_count : GoodIn wsL_law (va_wsS RL 102 yL_count wsL_count) := goodIn_app (goodIn_of _ (by decide +kernel)) ggL_law_L_count
set_option maxRecDepth 20000 in
theorem ggL_law_X13_count : GoodIn wsL_law wsX13_count := goodIn_c lawC lawC_in _ [(28, 11), (8, 20), (28, 12), (6, 10), (26, 15), (26, 16), (26, 17), (8, 21), (7, 5), (28, 13), (28, 14), (0, 5), (28, 15), (21, 19), (21, 20), (21, 21), (21, 22), (65, 0), (65, 1), (65, 2), (65, 3), (65, 4), (65, 5), (65, 6), (65, 7), (65, 8), (65, 9), (65, 10), (65, 11), (65, 12), (65, 13), (65, 14), (65, 15), (65, 16), (65, 17), (65, 18), (65, 19), (65, 20), (65, 21), (65, 22), (65, 23), (65, 24), (65, 25), (65, 26), (65, 27), (65, 28), (65, 29), (65, 30), (65, 31), (65, 32), (65, 33), (65, 34), (65, 35), (65, 36), (65, 37), (65, 38), (65, 39), (65, 40), (65, 41), (65, 42), (65, 43), (65, 44), (65, 45), (65, 46), (65, 47), (65, 48), (65, 49), (65, 50), (65, 51), (65, 52), (65, 53), (65, 54), (65, 55), (65, 56), (65, 57), (65, 58), (65, 59), (65, 60), (65, 61), (65, 62), (65, 63), (65, 64), (65, 65), (65, 66)] rfl (by decide +kernel)
set_option maxRecDepth 20000 in
theorem gL_law_X13_count : GoodIn wsL_law (wsV RL 104 RX13 yX13_count wsX13_count) := goodIn_app (goodIn_of _ (by decide +kernel)) ggL_law_X13_count
set_option maxRecDepth 20000 in
theorem ggL_law_L_person : GoodIn wsL_law wsL_person := goodIn_ca (goodIn_c lawC lawC_in _ [(28, 18), (27, 14), (28, 19), (28, 20), (28, 21), (0, 2), (28, 22), (1, 5), (0, 20), (28, 23), (29, 0), (29, 1), (29, 2), (29, 3), (27, 19), (27, 20), (27, 21), (29, 4), (29, 5), (29, 6), (29, 7), (29, 8), (29, 9), (1, 4), (29, 10), (4, 9), (29, 11), (29, 12), (29, 13), (29, 14), (20, 18), (4, 8), (29, 15), (20, 4), (20, 5), (2, 17), (20, 6), (3, 12), (29, 16), (29, 17), (29, 18), (0, 19), (29, 19), (9, 22), (2, 20), (29, 20), (15, 13), (15, 14), (15, 15), (3, 6), (29, 21), (29, 22), (29, 23), (30, 0), (30, 1), (30, 2), (30, 3), (30, 4), (30, 5), (30, 6), (30, 7), (30, 8), (30, 9), (30, 10), (20, 20), (30, 11), (30, 12), (30, 13), (30, 14), (30, 15), (30, 16), (64, 0), (64, 1), (64, 2), (64, 3), (64, 4), (64, 5), (64, 6), (64, 7), (64, 8), (64, 9), (64, 10), (64, 11), (64, 12), (64, 13), (67, 0), (67, 1), (67, 2), (67, 3), (67, 4), (67, 5), (67, 6), (67, 7), (67, 8), (67, 9), (67, 10), (67, 11), (69, 0), (69, 1), (69, 2), (75, 0), (75, 1)] rfl (by decide +kernel)) (goodIn_sub (fun _ h => List.mem_append_right _ h) (by decide +kernel))
set_option maxRecDepth 20000 in
theorem gL_law_L_person : GoodIn wsL_law (va_wsS RL 105 yL_person wsL_person) := goodIn_app (goodIn_of _ (by decide +kernel)) ggL_law_L_person
set_option maxRecDepth 20000 in
theorem ggL_law_X13_person : GoodIn wsL_law wsX13_person := goodIn_c lawC lawC_in _ [(30, 20), (8, 20), (6, 11), (6, 12), (6, 13), (30, 21), (30, 22), (30, 23), (0, 5), (31, 0), (6, 10), (28, 13), (28, 14), (28, 15), (21, 19), (21, 20), (21, 21), (21, 22), (31, 1), (31, 2), (31, 3), (31, 4), (7, 1), (6, 19), (6, 20), (6, 22), (7, 0), (31, 5), (31, 6), (31, 7), (31, 8), (6, 14), (31, 9), (31, 10), (31, 11), (31, 12), (65, 0), (65, 1), (65, 2), (65, 3), (65, 4), (65, 5), (65, 6), (65, 7), (65, 8), (65, 9), (65, 10), (65, 11), (65, 12), (65, 13), (65, 14), (65, 15), (65, 16), (65, 17), (65, 18), (65, 19), (65, 20), (65, 21), (65, 22), (65, 23), (65, 24), (65, 25), (65, 26), (65, 27), (65, 28), (65, 29), (65, 30), (65, 31), (65, 32), (65, 33), (65, 34), (65, 35), (65, 36), (65, 37), (65, 38), (65, 39), (65, 40), (65, 41), (65, 42), (65, 43), (65, 44), (65, 45), (65, 46), (65, 47), (65, 48), (65, 49), (65, 50), (65, 51), (65, 52), (65, 53), (65, 54), (65, 55), (65, 56), (65, 57), (65, 58), (65, 59), (65, 60), (65, 61), (65, 62), (65, 63), (65, 64), (65, 65), (65, 66)] rfl (by decide +kernel)
set_option maxRecDepth 20000 in
theorem gL_law_X13_person : GoodIn wsL_law (wsV RL 108 RX13 yX13_person wsX13_person) := goodIn_app (goodIn_of _ (by decide +kernel)) ggL_law_X13_person
set_option maxRecDepth 20000 in
theorem ggL_law_L_box : GoodIn wsL_law wsL_box := goodIn_ca (goodIn_c lawC lawC_in _ [(31, 15), (27, 14), (31, 16), (31, 17), (31, 18), (0, 2), (31, 19), (1, 5), (0, 20), (31, 20), (31, 21), (31, 22), (31, 23), (32, 0), (27, 19), (27, 20), (27, 22), (29, 4), (29, 5), (29, 6), (32, 1), (32, 2), (32, 3), (1, 4), (32, 4), (4, 9), (29, 11), (29, 12), (29, 13), (29, 14), (20, 18), (4, 8), (29, 15), (20, 4), (20, 5), (2, 17), (20, 6), (3, 12), (29, 16), (29, 17), (29, 18), (0, 19), (29, 19), (9, 22), (2, 20), (29, 20), (15, 13), (15, 14), (15, 15), (3, 6), (32, 5), (32, 6), (32, 7), (32, 8), (32, 9), (32, 10), (32, 11), (32, 12), (30, 10), (32, 13), (3, 8), (3, 9), (3, 10), (32, 14), (20, 20), (32, 15), (32, 16), (32, 17), (32, 18), (32, 19), (32, 20), (32, 21), (32, 22), (32, 23), (33, 0), (33, 1), (33, 2), (33, 3), (33, 4), (33, 5), (33, 6), (33, 7), (33, 8), (33, 9), (3, 0), (33, 10), (10, 7), (3, 18), (33, 11), (10, 8), (3, 17), (3, 19), (33, 12), (14, 15), (14, 16), (33, 13), (18, 7), (18, 8), (18, 9), (18, 10), (33, 14), (33, 15), (33, 16), (33, 17), (33, 18), (33, 19), (33, 20), (33, 21), (33, 22), (30, 16), (64, 0), (64, 1), (64, 2), (64, 3), (64, 4), (64, 5), (64, 6), (64, 7), (64, 8), (64, 9), (64, 10), (64, 11), (64, 12), (64, 13), (67, 0), (67, 1), (67, 2), (67, 3), (67, 4), (67, 5), (67, 6), (67, 7), (67, 8), (67, 9), (67, 10), (67, 11), (69, 0), (69, 1), (69, 2), (75, 0), (75, 1), (76, 0), (76, 1), (76, 2), (76, 3), (76, 4), (76, 5)] rfl (by decide +kernel)) (goodIn_sub (fun _ h => List.mem_append_right _ h) (by decide +kernel))
set_option maxRecDepth 20000 in
theorem gL_law_L_box : GoodIn wsL_law (va_wsS RL 109 yL_box wsL_box) := goodIn_app (goodIn_of _ (by decide +kernel)) ggL_law_L_box
set_option maxRecDepth 20000 in
theorem ggL_law_X13_box : GoodIn wsL_law wsX13_box := goodIn_c lawC lawC_in _ [(34, 2), (8, 20), (6, 14), (6, 15), (6, 16), (6, 17), (6, 18), (31, 9), (31, 10), (31, 11), (0, 5), (31, 12), (6, 10), (28, 13), (28, 14), (28, 15), (21, 19), (21, 20), (21, 21), (21, 22), (31, 1), (31, 2), (31, 3), (31, 4), (7, 1), (6, 19), (6, 20), (6, 22), (7, 0), (34, 3), (34, 4), (34, 5), (34, 6), (34, 7), (3, 8), (3, 9), (3, 10), (34, 8), (34, 9), (34, 10), (34, 11), (34, 12), (34, 13), (34, 14), (34, 15), (22, 6), (14, 15), (14, 16), (7, 8), (34, 16), (34, 17), (34, 18), (34, 19), (7, 4), (7, 9), (34, 20), (34, 21), (34, 22), (65, 0), (65, 1), (65, 2), (65, 3), (65, 4), (65, 5), (65, 6), (65, 7), (65, 8), (65, 9), (65, 10), (65, 11), (65, 12), (65, 13), (65, 14), (65, 15), (65, 16), (65, 17), (65, 18), (65, 19), (65, 20), (65, 21), (65, 22), (65, 23), (65, 24), (65, 25), (65, 26), (65, 27), (65, 28), (65, 29), (65, 30), (65, 31), (65, 32), (65, 33), (65, 34), (65, 35), (65, 36), (65, 37), (65, 38), (65, 39), (65, 40), (65, 41), (65, 42), (65, 43), (65, 44), (65, 45), (65, 46), (65, 47), (65, 48), (65, 49), (65, 50), (65, 51), (65, 52), (65, 53), (65, 54), (65, 55), (65, 56), (65, 57), (65, 58), (65, 59), (65, 60), (65, 61), (65, 62), (65, 63), (65, 64), (65, 65), (65, 66)] rfl (by decide +kernel)
set_option maxRecDepth 20000 in
theorem gL_law_X13_box : GoodIn wsL_law (wsV RL 111 RX13 yX13_box wsX13_box) := goodIn_app (goodIn_of _ (by decide +kernel)) ggL_law_X13_box
set_option maxRecDepth 20000 in
theorem ggL_law_L_thing : GoodIn wsL_law wsL_thing := goodIn_ca (goodIn_c lawC lawC_in _ [(35, 1), (27, 14), (35, 2), (35, 3), (35, 4), (0, 2), (35, 5), (1, 5), (0, 20), (35, 6), (35, 7), (35, 8), (35, 9), (35, 10), (27, 19), (27, 20), (27, 23), (29, 4), (29, 5), (29, 6), (35, 11), (35, 12), (35, 13), (1, 4), (35, 14), (4, 8), (29, 15), (20, 4), (20, 5), (2, 17), (20, 6), (3, 12), (35, 15), (35, 16), (35, 17), (0, 19), (35, 18), (2, 20), (9, 23), (2, 21), (29, 20), (15, 13), (15, 14), (15, 15), (3, 6), (30, 16), (64, 0), (64, 1), (64, 2), (64, 3), (64, 4), (64, 5), (64, 6), (64, 7), (64, 8), (64, 9), (64, 10), (64, 11), (64, 12), (64, 13), (67, 0), (67, 1), (67, 2), (67, 3), (67, 4), (67, 5), (67, 6), (67, 7), (67, 8), (67, 9), (67, 10), (67, 11), (69, 0), (69, 1), (69, 2), (75, 0), (75, 1)] rfl (by decide +kernel)) (goodIn_sub (fun _ h => List.mem_append_right _ h) (by decide +kernel))
set_option maxRecDepth 20000 in
theorem gL_law_L_thing : GoodIn wsL_law (va_wsS RL 112 yL_thing wsL_thing) := goodIn_app (goodIn_of _ (by decide +kernel)) ggL_law_L_thing
set_option maxRecDepth 20000 in
theorem ggL_law_X13_thing : GoodIn wsL_law wsX13_thing := goodIn_c lawC lawC_in _ [(35, 22), (8, 20), (6, 19), (6, 20), (6, 21), (6, 22), (6, 23), (7, 1), (7, 0), (35, 23), (36, 0), (36, 1), (0, 5), (36, 2), (6, 10), (28, 13), (28, 14), (28, 15), (21, 19), (21, 20), (21, 21), (21, 22), (36, 3), (36, 4), (36, 5), (36, 6), (7, 2), (7, 3), (65, 0), (65, 1), (65, 2), (65, 3), (65, 4), (65, 5), (65, 6), (65, 7), (65, 8), (65, 9), (65, 10), (65, 11), (65, 12), (65, 13), (65, 14), (65, 15), (65, 16), (65, 17), (65, 18), (65, 19), (65, 20), (65, 21), (65, 22), (65, 23), (65, 24), (65, 25), (65, 26), (65, 27), (65, 28), (65, 29), (65, 30), (65, 31), (65, 32), (65, 33), (65, 34), (65, 35), (65, 36), (65, 37), (65, 38), (65, 39), (65, 40), (65, 41), (65, 42), (65, 43), (65, 44), (65, 45), (65, 46), (65, 47), (65, 48), (65, 49), (65, 50), (65, 51), (65, 52), (65, 53), (65, 54), (65, 55), (65, 56), (65, 57), (65, 58), (65, 59), (65, 60), (65, 61), (65, 62), (65, 63), (65, 64), (65, 65), (65, 66)] rfl (by decide +kernel)
set_option maxRecDepth 20000 in
theorem gL_law_X13_thing : GoodIn wsL_law (wsV RL 114 RX13 yX13_thing wsX13_thing) := goodIn_app (goodIn_of _ (by decide +kernel)) ggL_law_X13_thing
set_option maxRecDepth 20000 in
theorem ggL_law_L_may : GoodIn wsL_law wsL_may := goodIn_ca (goodIn_c lawC lawC_in _ [(36, 9), (27, 14), (36, 10), (36, 11), (36, 12), (0, 2), (36, 13), (1, 5), (35, 7), (35, 8), (35, 9), (35, 10), (27, 19), (27, 20), (0, 20), (27, 23), (36, 14), (36, 15), (36, 16), (1, 4), (36, 17), (4, 8), (4, 9), (20, 19), (29, 15), (20, 4), (20, 5), (2, 17), (20, 6), (3, 12), (36, 18), (35, 16), (35, 17), (0, 19), (35, 18), (2, 20), (9, 23), (2, 21), (29, 20), (15, 13), (15, 14), (15, 15), (3, 6), (20, 20), (36, 19), (36, 20), (36, 21), (36, 22), (30, 9), (30, 10), (29, 11), (29, 12), (29, 13), (29, 14), (20, 18), (29, 16), (29, 17), (29, 18), (29, 19), (9, 22), (36, 23), (37, 0), (37, 1), (37, 2), (37, 3), (37, 4), (30, 1), (30, 2), (30, 3), (30, 4), (64, 0), (64, 1), (64, 2), (64, 3), (64, 4), (64, 5), (64, 6), (64, 7), (64, 8), (64, 9), (64, 10), (64, 11), (64, 12), (64, 13), (67, 0), (67, 1), (67, 2), (67, 3), (67, 4), (67, 5), (67, 6), (67, 7), (67, 8), (67, 9), (67, 10), (67, 11), (69, 0), (69, 1), (69, 2), (75, 0), (75, 1)] rfl (by decide +kernel)) (goodIn_sub (fun _ h => List.mem_append_right _ h) (by decide +kernel))
set_option maxRecDepth 20000 in
theorem gL_law_L_may : GoodIn wsL_law (va_wsS RL 115 yL_may wsL_may) := goodIn_app (goodIn_of _ (by decide +kernel)) ggL_law_L_may
set_option maxRecDepth 20000 in
theorem ggL_law_X13_may : GoodIn wsL_law wsX13_may := goodIn_c lawC lawC_in _ [(37, 8), (8, 20), (35, 23), (36, 0), (36, 1), (0, 5), (36, 2), (6, 10), (28, 13), (28, 14), (28, 15), (37, 9), (37, 10), (37, 11), (37, 12), (7, 1), (6, 22), (6, 16), (6, 19), (6, 18), (7, 0), (6, 13), (6, 12), (31, 9), (31, 10), (31, 11), (31, 12), (31, 1), (31, 2), (31, 3), (31, 4), (6, 20), (30, 21), (30, 22), (30, 23), (31, 0), (36, 3), (36, 4), (36, 5), (36, 6), (7, 2), (7, 3), (65, 0), (65, 1), (65, 2), (65, 3), (65, 4), (65, 5), (65, 6), (65, 7), (65, 8), (65, 9), (65, 10), (65, 11), (65, 12), (65, 13), (65, 14), (65, 15), (65, 16), (65, 17), (65, 18), (65, 19), (65, 20), (65, 21), (65, 22), (65, 23), (65, 24), (65, 25), (65, 26), (65, 27), (65, 28), (65, 29), (65, 30), (65, 31), (65, 32), (65, 33), (65, 34), (65, 35), (65, 36), (65, 37), (65, 38), (65, 39), (65, 40), (65, 41), (65, 42), (65, 43), (65, 44), (65, 45), (65, 46), (65, 47), (65, 48), (65, 49), (65, 50), (65, 51), (65, 52), (65, 53), (65, 54), (65, 55), (65, 56), (65, 57), (65, 58), (65, 59), (65, 60), (65, 61), (65, 62), (65, 63), (65, 64), (65, 65), (65, 66)] rfl (by decide +kernel)
set_option maxRecDepth 20000 in
theorem gL_law_X13_may : GoodIn wsL_law (wsV RL 117 RX13 yX13_may wsX13_may) := goodIn_app (goodIn_of _ (by decide +kernel)) ggL_law_X13_may
set_option maxRecDepth 20000 in
theorem ggL_law_L_shift : GoodIn wsL_law wsL_shift := goodIn_ca (goodIn_c lawC lawC_in _ [(37, 15), (27, 14), (37, 16), (37, 17), (37, 18), (0, 2), (37, 19), (1, 5), (1, 9), (28, 3), (35, 7), (35, 8), (35, 9), (35, 10), (27, 19), (27, 20), (0, 20), (27, 23), (36, 14), (36, 15), (36, 16), (1, 4), (36, 17), (4, 8), (4, 9), (20, 19), (29, 15), (20, 4), (20, 5), (2, 17), (20, 6), (3, 12), (36, 18), (35, 16), (35, 17), (0, 19), (35, 18), (2, 20), (9, 23), (2, 21), (29, 20), (15, 13), (15, 14), (15, 15), (3, 6), (20, 20), (36, 19), (36, 20), (36, 21), (36, 22), (30, 9), (30, 10), (29, 11), (29, 12), (29, 13), (29, 14), (20, 18), (29, 16), (29, 17), (29, 18), (29, 19), (9, 22), (36, 23), (37, 0), (37, 1), (37, 2), (37, 3), (37, 4), (30, 1), (30, 2), (30, 3), (30, 4), (19, 23), (20, 0), (20, 1), (1, 8), (20, 2), (4, 17), (20, 3), (20, 7), (18, 8), (18, 9), (18, 10), (35, 11), (35, 12), (35, 13), (35, 14), (37, 20), (37, 21), (37, 22), (37, 23), (21, 2), (4, 15), (38, 0), (38, 1), (38, 2), (38, 3), (38, 4), (15, 1), (15, 2), (15, 3), (38, 5), (38, 6), (38, 7), (38, 8), (38, 9), (38, 10), (38, 11), (38, 12), (20, 17), (20, 21), (64, 0), (64, 1), (64, 2), (64, 3), (64, 4), (64, 5), (64, 6), (64, 7), (64, 8), (64, 9), (64, 10), (64, 11), (64, 12), (64, 13), (69, 0), (69, 1), (69, 2), (67, 0), (67, 1), (67, 2), (67, 3), (67, 4), (67, 5), (67, 6), (67, 7), (67, 8), (67, 9), (67, 10), (67, 11), (75, 0), (75, 1), (70, 0), (70, 1), (70, 2), (70, 3), (70, 4)] rfl (by decide +kernel)) (goodIn_sub (fun _ h => List.mem_append_right _ h) (by decide +kernel))
set_option maxRecDepth 20000 in
theorem gL_law_L_shift : GoodIn wsL_law (va_wsS RL 118 yL_shift wsL_shift) := goodIn_app (goodIn_of _ (by decide +kernel)) ggL_law_L_shift
set_option maxRecDepth 20000 in
theorem ggL_law_X13_shift : GoodIn wsL_law wsX13_shift := goodIn_c lawC lawC_in _ [(38, 16), (8, 20), (7, 1), (35, 23), (36, 0), (36, 1), (0, 5), (36, 2), (6, 10), (28, 13), (28, 14), (28, 15), (21, 19), (21, 20), (21, 21), (21, 22), (37, 9), (37, 10), (37, 11), (37, 12), (6, 22), (6, 16), (6, 19), (6, 18), (7, 0), (6, 13), (6, 12), (31, 9), (31, 10), (31, 11), (31, 12), (31, 1), (31, 2), (31, 3), (31, 4), (6, 20), (30, 21), (30, 22), (30, 23), (31, 0), (36, 3), (36, 4), (36, 5), (36, 6), (7, 2), (7, 3), (38, 17), (38, 18), (38, 19), (38, 20), (7, 5), (38, 21), (38, 22), (38, 23), (39, 0), (26, 16), (7, 10), (7, 11), (7, 12), (26, 15), (39, 1), (39, 2), (39, 3), (39, 4), (65, 0), (65, 1), (65, 2), (65, 3), (65, 4), (65, 5), (65, 6), (65, 7), (65, 8), (65, 9), (65, 10), (65, 11), (65, 12), (65, 13), (65, 14), (65, 15), (65, 16), (65, 17), (65, 18), (65, 19), (65, 20), (65, 21), (65, 22), (65, 23), (65, 24), (65, 25), (65, 26), (65, 27), (65, 28), (65, 29), (65, 30), (65, 31), (65, 32), (65, 33), (65, 34), (65, 35), (65, 36), (65, 37), (65, 38), (65, 39), (65, 40), (65, 41), (65, 42), (65, 43), (65, 44), (65, 45), (65, 46), (65, 47), (65, 48), (65, 49), (65, 50), (65, 51), (65, 52), (65, 53), (65, 54), (65, 55), (65, 56), (65, 57), (65, 58), (65, 59), (65, 60), (65, 61), (65, 62), (65, 63), (65, 64), (65, 65), (65, 66)] rfl (by decide +kernel)
set_option maxRecDepth 20000 in
theorem gL_law_X13_shift : GoodIn wsL_law (wsV RL 120 RX13 yX13_shift wsX13_shift) := goodIn_app (goodIn_of _ (by decide +kernel)) ggL_law_X13_shift
set_option maxRecDepth 20000 in
theorem ggL_law_X12_undo : GoodIn wsL_law wsX12_undo := goodIn_c lawC lawC_in _ [(39, 8), (1, 9), (28, 4), (1, 5), (39, 9), (39, 10), (39, 11), (1, 8), (39, 12), (21, 2), (4, 15), (39, 13), (15, 13), (15, 14), (2, 17), (15, 15), (3, 6), (3, 12), (39, 14), (39, 15), (39, 16), (1, 4), (39, 17), (4, 8), (20, 17), (20, 21), (18, 8), (18, 9), (18, 10), (64, 0), (64, 1), (64, 2), (64, 3), (64, 4), (64, 5), (64, 6), (64, 7), (64, 8), (64, 9), (64, 10), (64, 11), (64, 12), (64, 13), (70, 0), (70, 1), (70, 2), (70, 3), (70, 4), (75, 0), (75, 1), (69, 0), (69, 1), (69, 2)] rfl (by decide +kernel)
set_option maxRecDepth 20000 in
theorem gL_law_X12_undo : GoodIn wsL_law (wsV RL 121 RX12 yX12_undo wsX12_undo) := goodIn_app (goodIn_of _ (by decide +kernel)) ggL_law_X12_undo
set_option maxRecDepth 20000 in
theorem ggL_law_X13_undo : GoodIn wsL_law wsX13_undo := goodIn_c lawC lawC_in _ [(39, 21), (8, 20), (26, 16), (7, 1), (7, 10), (7, 11), (7, 12), (26, 15), (65, 0), (65, 1), (65, 2), (65, 3), (65, 4), (65, 5), (65, 6), (65, 7), (65, 8), (65, 9), (65, 10), (65, 11), (65, 12), (65, 13), (65, 14), (65, 15), (65, 16), (65, 17), (65, 18), (65, 19), (65, 20), (65, 21), (65, 22), (65, 23), (65, 24), (65, 25), (65, 26), (65, 27), (65, 28), (65, 29), (65, 30), (65, 31), (65, 32), (65, 33), (65, 34), (65, 35), (65, 36), (65, 37), (65, 38), (65, 39), (65, 40), (65, 41), (65, 42), (65, 43), (65, 44), (65, 45), (65, 46), (65, 47), (65, 48), (65, 49), (65, 50), (65, 51), (65, 52), (65, 53), (65, 54), (65, 55), (65, 56), (65, 57), (65, 58), (65, 59), (65, 60), (65, 61), (65, 62), (65, 63), (65, 64), (65, 65), (65, 66)] rfl (by decide +kernel)
set_option maxRecDepth 20000 in
theorem gL_law_X13_undo : GoodIn wsL_law (wsV RL 124 RX13 yX13_undo wsX13_undo) := goodIn_app (goodIn_of _ (by decide +kernel)) ggL_law_X13_undo
set_option maxRecDepth 20000 in
theorem ggL_law_X12_bill : GoodIn wsL_law wsX12_bill := goodIn_c lawC lawC_in _ [(40, 1), (1, 5), (40, 2), (40, 3), (40, 4), (1, 4), (40, 5), (4, 9), (30, 9), (20, 17), (30, 10), (20, 18), (4, 8), (20, 19), (29, 11), (29, 12), (29, 13), (29, 14), (29, 15), (20, 4), (20, 5), (2, 17), (20, 6), (3, 12), (32, 19), (32, 20), (32, 21), (32, 22), (32, 23), (29, 16), (29, 17), (29, 18), (0, 19), (29, 19), (9, 22), (2, 20), (29, 20), (15, 13), (15, 14), (15, 15), (3, 6), (20, 20), (33, 0), (33, 1), (33, 2), (33, 3), (33, 4), (33, 5), (33, 6), (33, 7), (33, 8), (33, 9), (3, 0), (33, 10), (10, 7), (3, 18), (33, 11), (10, 8), (3, 17), (3, 19), (33, 12), (14, 15), (3, 9), (14, 16), (33, 13), (3, 8), (3, 10), (18, 7), (18, 8), (18, 9), (18, 10), (33, 14), (33, 15), (33, 16), (33, 17), (33, 18), (33, 19), (33, 20), (33, 21), (36, 18), (35, 16), (35, 17), (35, 18), (9, 23), (2, 21), (64, 0), (64, 1), (64, 2), (64, 3), (64, 4), (64, 5), (64, 6), (64, 7), (64, 8), (64, 9), (64, 10), (64, 11), (64, 12), (64, 13), (69, 0), (69, 1), (69, 2), (67, 0), (67, 1), (67, 2), (67, 3), (67, 4), (67, 5), (67, 6), (67, 7), (67, 8), (67, 9), (67, 10), (67, 11), (75, 0), (75, 1), (76, 0), (76, 1), (76, 2), (76, 3), (76, 4), (76, 5)] rfl (by decide +kernel)
set_option maxRecDepth 20000 in
theorem gL_law_X12_bill : GoodIn wsL_law (wsV RL 125 RX12 yX12_bill wsX12_bill) := goodIn_app (goodIn_of _ (by decide +kernel)) ggL_law_X12_bill
set_option maxRecDepth 20000 in
theorem ggL_law_X13_bill : GoodIn wsL_law wsX13_bill := goodIn_c lawC lawC_in _ [(40, 9), (8, 20), (40, 10), (40, 11), (40, 12), (0, 5), (40, 13), (6, 10), (26, 15), (6, 17), (7, 1), (6, 23), (34, 8), (34, 9), (34, 10), (34, 11), (31, 1), (31, 2), (31, 3), (31, 4), (6, 19), (6, 20), (6, 22), (7, 0), (34, 12), (34, 13), (34, 14), (34, 15), (6, 15), (34, 7), (3, 8), (3, 9), (3, 10), (22, 6), (14, 15), (14, 16), (7, 8), (6, 18), (34, 16), (34, 17), (34, 18), (34, 19), (7, 4), (7, 9), (34, 20), (34, 21), (34, 22), (36, 3), (36, 4), (36, 5), (36, 6), (7, 2), (7, 3), (65, 0), (65, 1), (65, 2), (65, 3), (65, 4), (65, 5), (65, 6), (65, 7), (65, 8), (65, 9), (65, 10), (65, 11), (65, 12), (65, 13), (65, 14), (65, 15), (65, 16), (65, 17), (65, 18), (65, 19), (65, 20), (65, 21), (65, 22), (65, 23), (65, 24), (65, 25), (65, 26), (65, 27), (65, 28), (65, 29), (65, 30), (65, 31), (65, 32), (65, 33), (65, 34), (65, 35), (65, 36), (65, 37), (65, 38), (65, 39), (65, 40), (65, 41), (65, 42), (65, 43), (65, 44), (65, 45), (65, 46), (65, 47), (65, 48), (65, 49), (65, 50), (65, 51), (65, 52), (65, 53), (65, 54), (65, 55), (65, 56), (65, 57), (65, 58), (65, 59), (65, 60), (65, 61), (65, 62), (65, 63), (65, 64), (65, 65), (65, 66)] rfl (by decide +kernel)
set_option maxRecDepth 20000 in
theorem gL_law_X13_bill : GoodIn wsL_law (wsV RL 128 RX13 yX13_bill wsX13_bill) := goodIn_app (goodIn_of _ (by decide +kernel)) ggL_law_X13_bill
set_option maxRecDepth 20000 in
theorem ggL_law_X12_lawful : GoodIn wsL_law wsX12_lawful := goodIn_c lawC lawC_in _ [(40, 17), (1, 5), (40, 18), (40, 19), (40, 20), (1, 4), (40, 21), (4, 9), (30, 9), (40, 22), (40, 23), (41, 0), (41, 1), (41, 2), (32, 10), (32, 11), (32, 12), (30, 10), (32, 13), (3, 8), (3, 9), (3, 10), (32, 14), (32, 2), (32, 3), (32, 4), (29, 11), (29, 12), (29, 13), (29, 14), (20, 18), (4, 8), (29, 15), (20, 4), (20, 5), (2, 17), (20, 6), (3, 12), (29, 16), (29, 17), (29, 18), (0, 19), (29, 19), (9, 22), (2, 20), (29, 20), (15, 13), (15, 14), (15, 15), (3, 6), (20, 20), (30, 11), (30, 12), (30, 13), (30, 14), (30, 15), (30, 2), (30, 3), (30, 4), (64, 0), (64, 1), (64, 2), (64, 3), (64, 4), (64, 5), (64, 6), (64, 7), (64, 8), (64, 9), (64, 10), (64, 11), (64, 12), (64, 13), (69, 0), (69, 1), (69, 2), (67, 0), (67, 1), (67, 2), (67, 3), (67, 4), (67, 5), (67, 6), (67, 7), (67, 8), (67, 9), (67, 10), (67, 11), (75, 0), (75, 1)] rfl (by decide +kernel)
set_option maxRecDepth 20000 in
theorem gL_law_X12_lawful : GoodIn wsL_law (wsV RL 129 RX12 yX12_lawful wsX12_lawful) := goodIn_app (goodIn_of _ (by decide +kernel)) ggL_law_X12_lawful
set_option maxRecDepth 20000 in
theorem ggL_law_X13_lawful : GoodIn wsL_law wsX13_lawful := goodIn_c lawC lawC_in _ [(41, 6), (8, 20), (6, 10), (7, 1), (6, 19), (34, 3), (34, 4), (34, 5), (0, 5), (34, 6), (6, 15), (34, 7), (3, 8), (3, 9), (3, 10), (31, 1), (31, 2), (31, 3), (31, 4), (6, 20), (6, 22), (7, 0), (65, 0), (65, 1), (65, 2), (65, 3), (65, 4), (65, 5), (65, 6), (65, 7), (65, 8), (65, 9), (65, 10), (65, 11), (65, 12), (65, 13), (65, 14), (65, 15), (65, 16), (65, 17), (65, 18), (65, 19), (65, 20), (65, 21), (65, 22), (65, 23), (65, 24), (65, 25), (65, 26), (65, 27), (65, 28), (65, 29), (65, 30), (65, 31), (65, 32), (65, 33), (65, 34), (65, 35), (65, 36), (65, 37), (65, 38), (65, 39), (65, 40), (65, 41), (65, 42), (65, 43), (65, 44), (65, 45), (65, 46), (65, 47), (65, 48), (65, 49), (65, 50), (65, 51), (65, 52), (65, 53), (65, 54), (65, 55), (65, 56), (65, 57), (65, 58), (65, 59), (65, 60), (65, 61), (65, 62), (65, 63), (65, 64), (65, 65), (65, 66)] rfl (by decide +kernel)
set_option maxRecDepth 20000 in
theorem gL_law_X13_lawful : GoodIn wsL_law (wsV RL 132 RX13 yX13_lawful wsX13_lawful) := goodIn_app (goodIn_of _ (by decide +kernel)) ggL_law_X13_lawful
set_option maxRecDepth 20000 in
theorem ggL_law_L_two : GoodIn wsL_law wsL_two := goodIn_ca (goodIn_ca (goodIn_c lawC lawC_in _ [(41, 9), (27, 14), (9, 2), (41, 10), (41, 11), (41, 12), (0, 2), (41, 13), (9, 7), (9, 8), (1, 16), (1, 5), (31, 21), (31, 22), (31, 23), (32, 0), (27, 19), (27, 20), (0, 20), (27, 22), (41, 14), (41, 15), (41, 16), (1, 15), (41, 17), (41, 18), (29, 12), (29, 13), (1, 4), (29, 14), (4, 9), (20, 18), (4, 8), (29, 15), (20, 4), (20, 5), (2, 17), (20, 6), (3, 12), (41, 19), (33, 1), (33, 2), (33, 3), (33, 4), (33, 5), (33, 6), (41, 20), (41, 21), (41, 22), (0, 19), (41, 23), (2, 19), (42, 0), (29, 17), (29, 18), (29, 19), (9, 22), (2, 20), (29, 20), (15, 13), (15, 14), (15, 15), (3, 6), (30, 15), (30, 2), (30, 3), (30, 4), (64, 0), (64, 1), (64, 2), (64, 3), (64, 4), (64, 5), (64, 6), (64, 7), (64, 8), (64, 9), (64, 10), (64, 11), (64, 12), (64, 13), (67, 0), (67, 1), (67, 2), (67, 3), (67, 4), (67, 5), (67, 6), (67, 7), (67, 8), (67, 9), (67, 10), (67, 11), (69, 0), (69, 1), (69, 2), (75, 0), (75, 1)] rfl (by decide +kernel)) (goodIn_sub (fun _ h => List.mem_append_left _ (List.mem_append_right _ h)) (by decide +kernel))) (goodIn_sub (fun _ h => List.mem_append_right _ h) (by decide +kernel))
set_option maxRecDepth 20000 in
theorem gL_law_L_two : GoodIn wsL_law (va_wsS RL 133 yL_two wsL_two) := goodIn_app (goodIn_of _ (by decide +kernel)) ggL_law_L_two
set_option maxRecDepth 20000 in
theorem ggL_law_X13_two : GoodIn wsL_law wsX13_two := goodIn_c lawC lawC_in _ [(42, 4), (8, 20), (6, 10), (31, 9), (31, 10), (31, 11), (0, 5), (31, 12), (28, 13), (28, 14), (28, 15), (21, 19), (21, 20), (21, 21), (21, 22), (31, 1), (31, 2), (31, 3), (31, 4), (7, 1), (6, 19), (6, 20), (6, 22), (7, 0), (42, 5), (42, 6), (42, 7), (42, 8), (42, 9), (42, 10), (42, 11), (6, 18), (6, 15), (6, 16), (65, 0), (65, 1), (65, 2), (65, 3), (65, 4), (65, 5), (65, 6), (65, 7), (65, 8), (65, 9), (65, 10), (65, 11), (65, 12), (65, 13), (65, 14), (65, 15), (65, 16), (65, 17), (65, 18), (65, 19), (65, 20), (65, 21), (65, 22), (65, 23), (65, 24), (65, 25), (65, 26), (65, 27), (65, 28), (65, 29), (65, 30), (65, 31), (65, 32), (65, 33), (65, 34), (65, 35), (65, 36), (65, 37), (65, 38), (65, 39), (65, 40), (65, 41), (65, 42), (65, 43), (65, 44), (65, 45), (65, 46), (65, 47), (65, 48), (65, 49), (65, 50), (65, 51), (65, 52), (65, 53), (65, 54), (65, 55), (65, 56), (65, 57), (65, 58), (65, 59), (65, 60), (65, 61), (65, 62), (65, 63), (65, 64), (65, 65), (65, 66)] rfl (by decide +kernel)
set_option maxRecDepth 20000 in
theorem gL_law_X13_two : GoodIn wsL_law (wsV RL 135 RX13 yX13_two wsX13_two) := goodIn_app (goodIn_of _ (by decide +kernel)) ggL_law_X13_two
set_option maxRecDepth 20000 in
theorem ggL_law_X12_opened : GoodIn wsL_law wsX12_opened := goodIn_c lawC lawC_in _ [(42, 15), (1, 16), (1, 5), (42, 16), (42, 17), (42, 18), (1, 15), (42, 19), (42, 20), (42, 21), (42, 22), (42, 23), (43, 0), (43, 1), (43, 2), (43, 3), (15, 13), (15, 14), (2, 17), (15, 15), (3, 6), (3, 12), (41, 19), (33, 1), (33, 2), (33, 3), (33, 4), (33, 5), (33, 6), (43, 4), (43, 5), (43, 6), (43, 7), (41, 18), (29, 12), (29, 13), (1, 4), (29, 14), (4, 9), (20, 18), (4, 8), (29, 15), (20, 4), (20, 5), (20, 6), (43, 8), (43, 9), (43, 10), (43, 11), (43, 12), (32, 10), (32, 11), (32, 12), (30, 10), (32, 13), (3, 8), (3, 9), (3, 10), (32, 14), (32, 2), (32, 3), (32, 4), (29, 11), (29, 16), (29, 17), (29, 18), (0, 19), (29, 19), (9, 22), (2, 20), (29, 20), (20, 20), (43, 13), (43, 14), (43, 15), (43, 16), (5, 0), (43, 17), (43, 18), (43, 19), (43, 20), (43, 21), (4, 23), (43, 22), (18, 8), (18, 9), (18, 10), (43, 23), (44, 0), (44, 1), (44, 2), (44, 3), (44, 4), (44, 5), (44, 6), (5, 1), (44, 7), (44, 8), (44, 9), (44, 10), (44, 11), (41, 20), (41, 21), (41, 22), (41, 23), (2, 19), (42, 0), (30, 15), (30, 2), (30, 3), (30, 4), (44, 12), (44, 13), (44, 14), (44, 15), (44, 16), (44, 17), (44, 18), (44, 19), (44, 20), (44, 21), (29, 8), (29, 9), (29, 10), (44, 22), (44, 23), (64, 0), (64, 1), (64, 2), (64, 3), (64, 4), (64, 5), (64, 6), (64, 7), (64, 8), (64, 9), (64, 10), (64, 11), (64, 12), (64, 13), (69, 0), (69, 1), (69, 2), (67, 0), (67, 1), (67, 2), (67, 3), (67, 4), (67, 5), (67, 6), (67, 7), (67, 8), (67, 9), (67, 10), (67, 11), (75, 0), (75, 1), (71, 0), (71, 1), (71, 2)] rfl (by decide +kernel)
set_option maxRecDepth 20000 in
theorem gL_law_X12_opened : GoodIn wsL_law (wsV RL 136 RX12 yX12_opened wsX12_opened) := goodIn_app (goodIn_of _ (by decide +kernel)) ggL_law_X12_opened
set_option maxRecDepth 20000 in
theorem ggL_law_X13_opened : GoodIn wsL_law wsX13_opened := goodIn_c lawC lawC_in _ [(45, 3), (8, 20), (6, 10), (45, 4), (45, 5), (45, 6), (0, 5), (45, 7), (26, 15), (6, 17), (42, 5), (42, 6), (42, 7), (31, 1), (31, 2), (31, 3), (31, 4), (7, 1), (6, 19), (6, 20), (6, 22), (7, 0), (45, 8), (45, 9), (45, 10), (45, 11), (34, 3), (34, 4), (34, 5), (34, 6), (6, 15), (34, 7), (3, 8), (3, 9), (3, 10), (45, 12), (45, 13), (45, 14), (45, 15), (7, 13), (45, 16), (45, 17), (45, 18), (45, 19), (6, 18), (6, 16), (6, 13), (45, 20), (45, 21), (45, 22), (45, 23), (6, 14), (65, 0), (65, 1), (65, 2), (65, 3), (65, 4), (65, 5), (65, 6), (65, 7), (65, 8), (65, 9), (65, 10), (65, 11), (65, 12), (65, 13), (65, 14), (65, 15), (65, 16), (65, 17), (65, 18), (65, 19), (65, 20), (65, 21), (65, 22), (65, 23), (65, 24), (65, 25), (65, 26), (65, 27), (65, 28), (65, 29), (65, 30), (65, 31), (65, 32), (65, 33), (65, 34), (65, 35), (65, 36), (65, 37), (65, 38), (65, 39), (65, 40), (65, 41), (65, 42), (65, 43), (65, 44), (65, 45), (65, 46), (65, 47), (65, 48), (65, 49), (65, 50), (65, 51), (65, 52), (65, 53), (65, 54), (65, 55), (65, 56), (65, 57), (65, 58), (65, 59), (65, 60), (65, 61), (65, 62), (65, 63), (65, 64), (65, 65), (65, 66)] rfl (by decide +kernel)
set_option maxRecDepth 20000 in
theorem gL_law_X13_opened : GoodIn wsL_law (wsV RL 139 RX13 yX13_opened wsX13_opened) := goodIn_app (goodIn_of _ (by decide +kernel)) ggL_law_X13_opened
set_option maxRecDepth 20000 in
theorem ggL_law_L_cheap : GoodIn wsL_law wsL_cheap := goodIn_ca (goodIn_c lawC lawC_in _ [(46, 2), (27, 14), (46, 3), (46, 4), (46, 5), (0, 2), (46, 6), (1, 20), (1, 5), (31, 21), (31, 22), (31, 23), (32, 0), (27, 19), (27, 20), (0, 20), (27, 22), (46, 7), (46, 8), (46, 9), (1, 19), (46, 10), (46, 11), (21, 8), (46, 12), (46, 13), (46, 14), (46, 15), (46, 16), (46, 17), (5, 8), (5, 9), (46, 18), (15, 13), (15, 14), (2, 17), (15, 15), (3, 6), (3, 12), (46, 19), (35, 16), (35, 17), (0, 19), (35, 18), (2, 20), (9, 23), (2, 21), (29, 20), (46, 20), (18, 8), (18, 9), (18, 10), (46, 21), (29, 12), (29, 13), (1, 4), (29, 14), (4, 9), (20, 18), (4, 8), (29, 15), (20, 4), (20, 5), (20, 6), (46, 22), (32, 16), (32, 17), (32, 18), (29, 11), (32, 19), (32, 20), (32, 21), (32, 22), (32, 23), (30, 10), (29, 16), (29, 17), (29, 18), (29, 19), (9, 22), (20, 20), (33, 0), (33, 1), (33, 2), (33, 3), (33, 4), (33, 5), (33, 6), (33, 7), (33, 8), (33, 9), (3, 0), (33, 10), (10, 7), (3, 18), (33, 11), (10, 8), (3, 17), (3, 19), (33, 12), (14, 15), (3, 9), (14, 16), (33, 13), (3, 8), (3, 10), (18, 7), (33, 14), (33, 15), (33, 16), (33, 17), (33, 18), (33, 19), (33, 20), (33, 21), (46, 23), (47, 0), (47, 1), (47, 2), (47, 3), (47, 4), (47, 5), (47, 6), (47, 7), (47, 8), (47, 9), (47, 10), (47, 11), (47, 12), (47, 13), (47, 14), (47, 15), (47, 16), (5, 7), (64, 0), (64, 1), (64, 2), (64, 3), (64, 4), (64, 5), (64, 6), (64, 7), (64, 8), (64, 9), (64, 10), (64, 11), (64, 12), (64, 13), (67, 0), (67, 1), (67, 2), (67, 3), (67, 4), (67, 5), (67, 6), (67, 7), (67, 8), (67, 9), (67, 10), (67, 11), (69, 0), (69, 1), (69, 2), (72, 0), (72, 1), (72, 2), (72, 3), (72, 4), (72, 5), (72, 6), (72, 7), (72, 8), (75, 0), (75, 1), (76, 0), (76, 1), (76, 2), (76, 3), (76, 4), (76, 5)] rfl (by decide +kernel)) (goodIn_sub (fun _ h => List.mem_append_right _ h) (by decide +kernel))
set_option maxRecDepth 20000 in
theorem gL_law_L_cheap : GoodIn wsL_law (va_wsS RL 140 yL_cheap wsL_cheap) := goodIn_app (goodIn_of _ (by decide +kernel)) ggL_law_L_cheap
set_option maxRecDepth 20000 in
theorem ggL_law_X13_cheap : GoodIn wsL_law wsX13_cheap := goodIn_c lawC lawC_in _ [(47, 20), (8, 20), (47, 21), (7, 16), (47, 22), (47, 23), (31, 9), (31, 10), (31, 11), (0, 5), (31, 12), (6, 10), (28, 13), (28, 14), (28, 15), (21, 19), (21, 20), (21, 21), (21, 22), (31, 1), (31, 2), (31, 3), (31, 4), (7, 1), (6, 19), (6, 20), (6, 22), (7, 0), (48, 0), (48, 1), (48, 2), (48, 3), (7, 14), (7, 15), (6, 23), (34, 12), (34, 13), (34, 14), (34, 15), (6, 15), (34, 7), (3, 8), (3, 9), (3, 10), (22, 6), (14, 15), (14, 16), (7, 8), (6, 18), (34, 16), (34, 17), (34, 18), (34, 19), (7, 4), (7, 9), (34, 20), (34, 21), (34, 22), (36, 3), (36, 4), (36, 5), (36, 6), (7, 2), (7, 3), (65, 0), (65, 1), (65, 2), (65, 3), (65, 4), (65, 5), (65, 6), (65, 7), (65, 8), (65, 9), (65, 10), (65, 11), (65, 12), (65, 13), (65, 14), (65, 15), (65, 16), (65, 17), (65, 18), (65, 19), (65, 20), (65, 21), (65, 22), (65, 23), (65, 24), (65, 25), (65, 26), (65, 27), (65, 28), (65, 29), (65, 30), (65, 31), (65, 32), (65, 33), (65, 34), (65, 35), (65, 36), (65, 37), (65, 38), (65, 39), (65, 40), (65, 41), (65, 42), (65, 43), (65, 44), (65, 45), (65, 46), (65, 47), (65, 48), (65, 49), (65, 50), (65, 51), (65, 52), (65, 53), (65, 54), (65, 55), (65, 56), (65, 57), (65, 58), (65, 59), (65, 60), (65, 61), (65, 62), (65, 63), (65, 64), (65, 65), (65, 66)] rfl (by decide +kernel)
set_option maxRecDepth 20000 in
theorem gL_law_X13_cheap : GoodIn wsL_law (wsV RL 142 RX13 yX13_cheap wsX13_cheap) := goodIn_app (goodIn_of _ (by decide +kernel)) ggL_law_X13_cheap
set_option maxRecDepth 20000 in
theorem ggL_law_L_fate : GoodIn wsL_law wsL_fate := goodIn_ca (goodIn_c lawC lawC_in _ [(48, 6), (27, 14), (48, 7), (48, 8), (48, 9), (0, 2), (48, 10), (27, 19), (27, 20), (1, 20), (48, 11), (35, 7), (35, 8), (35, 9), (35, 10), (0, 20), (27, 23), (48, 12), (48, 13), (48, 14), (1, 19), (48, 15), (21, 8), (46, 11), (28, 7), (20, 4), (20, 5), (2, 17), (20, 6), (3, 12), (64, 0), (64, 1), (64, 2), (64, 3), (64, 4), (64, 5), (64, 6), (64, 7), (64, 8), (64, 9), (64, 10), (64, 11), (64, 12), (64, 13), (72, 0), (72, 1), (72, 2), (72, 3), (72, 4), (72, 5), (72, 6), (72, 7), (72, 8), (67, 0), (67, 1), (67, 2), (67, 3), (67, 4), (67, 5), (67, 6), (67, 7), (67, 8), (67, 9), (67, 10), (67, 11), (75, 0), (75, 1)] rfl (by decide +kernel)) (goodIn_sub (fun _ h => List.mem_append_right _ h) (by decide +kernel))
set_option maxRecDepth 20000 in
theorem gL_law_L_fate : GoodIn wsL_law (va_wsS RL 143 yL_fate wsL_fate) := goodIn_app (goodIn_of _ (by decide +kernel)) ggL_law_L_fate
set_option maxRecDepth 20000 in
theorem ggL_law_X13_fate : GoodIn wsL_law wsX13_fate := goodIn_c lawC lawC_in _ [(48, 19), (8, 20), (7, 16), (47, 22), (7, 14), (35, 23), (36, 0), (36, 1), (0, 5), (36, 2), (6, 10), (28, 13), (28, 14), (28, 15), (21, 19), (21, 20), (21, 21), (21, 22), (65, 0), (65, 1), (65, 2), (65, 3), (65, 4), (65, 5), (65, 6), (65, 7), (65, 8), (65, 9), (65, 10), (65, 11), (65, 12), (65, 13), (65, 14), (65, 15), (65, 16), (65, 17), (65, 18), (65, 19), (65, 20), (65, 21), (65, 22), (65, 23), (65, 24), (65, 25), (65, 26), (65, 27), (65, 28), (65, 29), (65, 30), (65, 31), (65, 32), (65, 33), (65, 34), (65, 35), (65, 36), (65, 37), (65, 38), (65, 39), (65, 40), (65, 41), (65, 42), (65, 43), (65, 44), (65, 45), (65, 46), (65, 47), (65, 48), (65, 49), (65, 50), (65, 51), (65, 52), (65, 53), (65, 54), (65, 55), (65, 56), (65, 57), (65, 58), (65, 59), (65, 60), (65, 61), (65, 62), (65, 63), (65, 64), (65, 65), (65, 66)] rfl (by decide +kernel)
set_option maxRecDepth 20000 in
theorem gL_law_X13_fate : GoodIn wsL_law (wsV RL 145 RX13 yX13_fate wsX13_fate) := goodIn_app (goodIn_of _ (by decide +kernel)) ggL_law_X13_fate
set_option maxRecDepth 20000 in
theorem ggL_law_L_sure : GoodIn wsL_law wsL_sure := goodIn_ca (goodIn_c lawC lawC_in _ [(48, 22), (27, 14), (48, 23), (49, 0), (49, 1), (0, 2), (49, 2), (2, 0), (1, 5), (49, 3), (49, 4), (49, 5), (49, 6), (31, 21), (31, 22), (31, 23), (32, 0), (27, 19), (27, 20), (0, 20), (27, 22), (29, 4), (29, 5), (29, 6), (49, 7), (49, 8), (49, 9), (1, 23), (49, 10), (5, 19), (49, 11), (49, 12), (49, 13), (49, 14), (49, 15), (49, 16), (29, 12), (29, 13), (1, 4), (29, 14), (4, 9), (20, 18), (4, 8), (29, 15), (20, 4), (20, 5), (2, 17), (20, 6), (3, 12), (49, 17), (15, 13), (15, 14), (15, 15), (3, 6), (49, 18), (29, 17), (29, 18), (0, 19), (29, 19), (9, 22), (2, 20), (29, 20), (49, 19), (49, 20), (49, 21), (49, 22), (49, 23), (50, 0), (50, 1), (50, 2), (50, 3), (50, 4), (5, 18), (50, 5), (50, 6), (50, 7), (50, 8), (50, 9), (50, 10), (50, 11), (50, 12), (50, 13), (50, 14), (50, 15), (3, 8), (3, 9), (3, 10), (50, 16), (50, 17), (50, 18), (50, 19), (64, 0), (64, 1), (64, 2), (64, 3), (64, 4), (64, 5), (64, 6), (64, 7), (64, 8), (64, 9), (64, 10), (64, 11), (64, 12), (64, 13), (73, 0), (73, 1), (73, 2), (73, 3), (73, 4), (73, 5), (73, 6), (73, 7), (73, 8), (67, 0), (67, 1), (67, 2), (67, 3), (67, 4), (67, 5), (67, 6), (67, 7), (67, 8), (67, 9), (67, 10), (67, 11), (69, 0), (69, 1), (69, 2), (75, 0), (75, 1)] rfl (by decide +kernel)) (goodIn_sub (fun _ h => List.mem_append_right _ h) (by decide +kernel))
set_option maxRecDepth 20000 in
theorem gL_law_L_sure : GoodIn wsL_law (va_wsS RL 146 yL_sure wsL_sure) := goodIn_app (goodIn_of _ (by decide +kernel)) ggL_law_L_sure
set_option maxRecDepth 20000 in
theorem ggL_law_X13_sure : GoodIn wsL_law wsX13_sure := goodIn_c lawC lawC_in _ [(50, 23), (8, 20), (51, 0), (31, 9), (31, 10), (31, 11), (0, 5), (31, 12), (6, 10), (28, 13), (28, 14), (28, 15), (21, 19), (21, 20), (21, 21), (21, 22), (31, 1), (31, 2), (31, 3), (31, 4), (7, 1), (6, 19), (6, 20), (6, 22), (7, 0), (51, 1), (51, 2), (51, 3), (51, 4), (6, 21), (51, 5), (51, 6), (51, 7), (51, 8), (6, 15), (51, 9), (51, 10), (51, 11), (51, 12), (7, 17), (7, 18), (34, 7), (3, 8), (3, 9), (3, 10), (51, 13), (51, 14), (51, 15), (65, 0), (65, 1), (65, 2), (65, 3), (65, 4), (65, 5), (65, 6), (65, 7), (65, 8), (65, 9), (65, 10), (65, 11), (65, 12), (65, 13), (65, 14), (65, 15), (65, 16), (65, 17), (65, 18), (65, 19), (65, 20), (65, 21), (65, 22), (65, 23), (65, 24), (65, 25), (65, 26), (65, 27), (65, 28), (65, 29), (65, 30), (65, 31), (65, 32), (65, 33), (65, 34), (65, 35), (65, 36), (65, 37), (65, 38), (65, 39), (65, 40), (65, 41), (65, 42), (65, 43), (65, 44), (65, 45), (65, 46), (65, 47), (65, 48), (65, 49), (65, 50), (65, 51), (65, 52), (65, 53), (65, 54), (65, 55), (65, 56), (65, 57), (65, 58), (65, 59), (65, 60), (65, 61), (65, 62), (65, 63), (65, 64), (65, 65), (65, 66)] rfl (by decide +kernel)
set_option maxRecDepth 20000 in
theorem gL_law_X13_sure : GoodIn wsL_law (wsV RL 148 RX13 yX13_sure wsX13_sure) := goodIn_app (goodIn_of _ (by decide +kernel)) ggL_law_X13_sure
set_option maxRecDepth 20000 in
theorem ggL_law_L_weigh : GoodIn wsL_law wsL_weigh := goodIn_ca (goodIn_c lawC lawC_in _ [(51, 18), (27, 14), (51, 19), (51, 20), (51, 21), (0, 2), (51, 22), (2, 0), (1, 5), (51, 23), (49, 5), (49, 6), (31, 21), (31, 22), (31, 23), (32, 0), (27, 19), (27, 20), (0, 20), (27, 22), (29, 4), (29, 5), (29, 6), (49, 7), (49, 8), (49, 9), (1, 23), (49, 10), (5, 19), (49, 11), (49, 12), (49, 13), (49, 14), (49, 15), (49, 16), (29, 12), (29, 13), (1, 4), (29, 14), (4, 9), (20, 18), (4, 8), (29, 15), (20, 4), (20, 5), (2, 17), (20, 6), (3, 12), (49, 17), (15, 13), (15, 14), (15, 15), (3, 6), (49, 18), (29, 17), (29, 18), (0, 19), (29, 19), (9, 22), (2, 20), (29, 20), (52, 0), (52, 1), (52, 2), (52, 3), (52, 4), (50, 3), (50, 4), (50, 9), (52, 5), (50, 10), (52, 6), (49, 20), (49, 21), (49, 22), (52, 7), (52, 8), (52, 9), (52, 10), (50, 16), (50, 17), (50, 18), (50, 19), (64, 0), (64, 1), (64, 2), (64, 3), (64, 4), (64, 5), (64, 6), (64, 7), (64, 8), (64, 9), (64, 10), (64, 11), (64, 12), (64, 13), (73, 0), (73, 1), (73, 2), (73, 3), (73, 4), (73, 5), (73, 6), (73, 7), (73, 8), (67, 0), (67, 1), (67, 2), (67, 3), (67, 4), (67, 5), (67, 6), (67, 7), (67, 8), (67, 9), (67, 10), (67, 11), (69, 0), (69, 1), (69, 2), (75, 0), (75, 1)] rfl (by decide +kernel)) (goodIn_sub (fun _ h => List.mem_append_right _ h) (by decide +kernel))
set_option maxRecDepth 20000 in
theorem gL_law_L_weigh : GoodIn wsL_law (va_wsS RL 149 yL_weigh wsL_weigh) := goodIn_app (goodIn_of _ (by decide +kernel)) ggL_law_L_weigh
set_option maxRecDepth 20000 in
theorem ggL_law_X13_weigh : GoodIn wsL_law wsX13_weigh := goodIn_c lawC lawC_in _ [(52, 14), (8, 20), (52, 15), (6, 10), (7, 1), (6, 21), (31, 9), (31, 10), (31, 11), (0, 5), (31, 12), (28, 13), (28, 14), (28, 15), (21, 19), (21, 20), (21, 21), (21, 22), (51, 5), (51, 6), (51, 7), (51, 8), (6, 15), (31, 1), (31, 2), (31, 3), (31, 4), (6, 19), (6, 20), (6, 22), (7, 0), (51, 1), (51, 2), (51, 3), (51, 4), (52, 16), (52, 17), (52, 18), (52, 19), (51, 13), (51, 14), (51, 15), (65, 0), (65, 1), (65, 2), (65, 3), (65, 4), (65, 5), (65, 6), (65, 7), (65, 8), (65, 9), (65, 10), (65, 11), (65, 12), (65, 13), (65, 14), (65, 15), (65, 16), (65, 17), (65, 18), (65, 19), (65, 20), (65, 21), (65, 22), (65, 23), (65, 24), (65, 25), (65, 26), (65, 27), (65, 28), (65, 29), (65, 30), (65, 31), (65, 32), (65, 33), (65, 34), (65, 35), (65, 36), (65, 37), (65, 38), (65, 39), (65, 40), (65, 41), (65, 42), (65, 43), (65, 44), (65, 45), (65, 46), (65, 47), (65, 48), (65, 49), (65, 50), (65, 51), (65, 52), (65, 53), (65, 54), (65, 55), (65, 56), (65, 57), (65, 58), (65, 59), (65, 60), (65, 61), (65, 62), (65, 63), (65, 64), (65, 65), (65, 66)] rfl (by decide +kernel)
set_option maxRecDepth 20000 in
theorem gL_law_X13_weigh : GoodIn wsL_law (wsV RL 151 RX13 yX13_weigh wsX13_weigh) := goodIn_app (goodIn_of _ (by decide +kernel)) ggL_law_X13_weigh
set_option maxRecDepth 20000 in
theorem ggL_law_L_lost : GoodIn wsL_law wsL_lost := goodIn_ca (goodIn_c lawC lawC_in _ [(52, 22), (27, 14), (52, 23), (53, 0), (53, 1), (0, 2), (53, 2), (1, 5), (31, 21), (31, 22), (31, 23), (32, 0), (27, 19), (27, 20), (0, 20), (27, 22), (53, 3), (53, 4), (53, 5), (1, 4), (53, 6), (4, 9), (37, 3), (53, 7), (30, 6), (30, 7), (30, 8), (30, 9), (30, 10), (29, 11), (29, 12), (29, 13), (29, 14), (20, 18), (4, 8), (29, 15), (20, 4), (20, 5), (2, 17), (20, 6), (3, 12), (20, 20), (15, 13), (15, 14), (15, 15), (3, 6), (30, 11), (30, 12), (30, 13), (0, 19), (30, 14), (30, 15), (30, 2), (30, 3), (30, 4), (9, 22), (2, 20), (29, 20), (64, 0), (64, 1), (64, 2), (64, 3), (64, 4), (64, 5), (64, 6), (64, 7), (64, 8), (64, 9), (64, 10), (64, 11), (64, 12), (64, 13), (67, 0), (67, 1), (67, 2), (67, 3), (67, 4), (67, 5), (67, 6), (67, 7), (67, 8), (67, 9), (67, 10), (67, 11), (69, 0), (69, 1), (69, 2), (75, 0), (75, 1)] rfl (by decide +kernel)) (goodIn_sub (fun _ h => List.mem_append_right _ h) (by decide +kernel))
set_option maxRecDepth 20000 in
theorem gL_law_L_lost : GoodIn wsL_law (va_wsS RL 152 yL_lost wsL_lost) := goodIn_app (goodIn_of _ (by decide +kernel)) ggL_law_L_lost
set_option maxRecDepth 20000 in
theorem ggL_law_X13_lost : GoodIn wsL_law wsX13_lost := goodIn_c lawC lawC_in _ [(53, 11), (8, 20), (31, 9), (31, 10), (31, 11), (0, 5), (31, 12), (6, 10), (28, 13), (28, 14), (28, 15), (53, 12), (53, 13), (53, 14), (53, 15), (31, 5), (31, 6), (31, 7), (31, 8), (6, 19), (7, 1), (6, 14), (21, 19), (21, 20), (21, 21), (21, 22), (65, 0), (65, 1), (65, 2), (65, 3), (65, 4), (65, 5), (65, 6), (65, 7), (65, 8), (65, 9), (65, 10), (65, 11), (65, 12), (65, 13), (65, 14), (65, 15), (65, 16), (65, 17), (65, 18), (65, 19), (65, 20), (65, 21), (65, 22), (65, 23), (65, 24), (65, 25), (65, 26), (65, 27), (65, 28), (65, 29), (65, 30), (65, 31), (65, 32), (65, 33), (65, 34), (65, 35), (65, 36), (65, 37), (65, 38), (65, 39), (65, 40), (65, 41), (65, 42), (65, 43), (65, 44), (65, 45), (65, 46), (65, 47), (65, 48), (65, 49), (65, 50), (65, 51), (65, 52), (65, 53), (65, 54), (65, 55), (65, 56), (65, 57), (65, 58), (65, 59), (65, 60), (65, 61), (65, 62), (65, 63), (65, 64), (65, 65), (65, 66)] rfl (by decide +kernel)
set_option maxRecDepth 20000 in
theorem gL_law_X13_lost : GoodIn wsL_law (wsV RL 154 RX13 yX13_lost wsX13_lost) := goodIn_app (goodIn_of _ (by decide +kernel)) ggL_law_X13_lost
set_option maxRecDepth 20000 in
theorem ggL_law_X12_safe : GoodIn wsL_law wsX12_safe := goodIn_c lawC lawC_in _ [(53, 19), (0, 20), (27, 22), (1, 5), (53, 3), (53, 4), (53, 5), (1, 4), (53, 6), (4, 9), (37, 3), (53, 7), (30, 6), (30, 7), (30, 8), (30, 9), (30, 10), (29, 11), (29, 12), (29, 13), (29, 14), (20, 18), (4, 8), (29, 15), (20, 4), (20, 5), (2, 17), (20, 6), (3, 12), (20, 20), (15, 13), (15, 14), (15, 15), (3, 6), (30, 11), (30, 12), (30, 13), (0, 19), (30, 14), (30, 15), (30, 2), (30, 3), (30, 4), (9, 22), (2, 20), (29, 20), (64, 0), (64, 1), (64, 2), (64, 3), (64, 4), (64, 5), (64, 6), (64, 7), (64, 8), (64, 9), (64, 10), (64, 11), (64, 12), (64, 13), (67, 0), (67, 1), (67, 2), (67, 3), (67, 4), (67, 5), (67, 6), (67, 7), (67, 8), (67, 9), (67, 10), (67, 11), (69, 0), (69, 1), (69, 2), (75, 0), (75, 1)] rfl (by decide +kernel)
set_option maxRecDepth 20000 in
theorem gL_law_X12_safe : GoodIn wsL_law (wsV RL 155 RX12 yX12_safe wsX12_safe) := goodIn_app (goodIn_of _ (by decide +kernel)) ggL_law_X12_safe
set_option maxRecDepth 20000 in
theorem ggL_law_X13_safe : GoodIn wsL_law wsX13_safe := goodIn_c lawC lawC_in _ [(53, 23), (8, 20), (6, 10), (53, 12), (53, 13), (53, 14), (0, 5), (53, 15), (31, 5), (31, 6), (31, 7), (31, 8), (6, 19), (7, 1), (6, 14), (31, 9), (31, 10), (31, 11), (31, 12), (28, 13), (28, 14), (28, 15), (65, 0), (65, 1), (65, 2), (65, 3), (65, 4), (65, 5), (65, 6), (65, 7), (65, 8), (65, 9), (65, 10), (65, 11), (65, 12), (65, 13), (65, 14), (65, 15), (65, 16), (65, 17), (65, 18), (65, 19), (65, 20), (65, 21), (65, 22), (65, 23), (65, 24), (65, 25), (65, 26), (65, 27), (65, 28), (65, 29), (65, 30), (65, 31), (65, 32), (65, 33), (65, 34), (65, 35), (65, 36), (65, 37), (65, 38), (65, 39), (65, 40), (65, 41), (65, 42), (65, 43), (65, 44), (65, 45), (65, 46), (65, 47), (65, 48), (65, 49), (65, 50), (65, 51), (65, 52), (65, 53), (65, 54), (65, 55), (65, 56), (65, 57), (65, 58), (65, 59), (65, 60), (65, 61), (65, 62), (65, 63), (65, 64), (65, 65), (65, 66)] rfl (by decide +kernel)
set_option maxRecDepth 20000 in
theorem gL_law_X13_safe : GoodIn wsL_law (wsV RL 158 RX13 yX13_safe wsX13_safe) := goodIn_app (goodIn_of _ (by decide +kernel)) ggL_law_X13_safe
set_option maxRecDepth 20000 in
theorem ggL_law_L_wear : GoodIn wsL_law wsL_wear := goodIn_ca (goodIn_ca (goodIn_c lawC lawC_in _ [(54, 2), (27, 14), (9, 2), (54, 3), (54, 4), (54, 5), (0, 2), (54, 6), (9, 7), (9, 8), (1, 20), (1, 5), (0, 20), (29, 0), (29, 1), (29, 2), (29, 3), (27, 19), (27, 20), (27, 21), (54, 7), (54, 8), (54, 9), (1, 19), (54, 10), (54, 11), (54, 12), (54, 13), (54, 14), (54, 15), (54, 16), (54, 17), (46, 18), (15, 13), (15, 14), (2, 17), (15, 15), (3, 6), (3, 12), (46, 21), (29, 12), (29, 13), (1, 4), (29, 14), (4, 9), (20, 18), (4, 8), (29, 15), (20, 4), (20, 5), (20, 6), (54, 18), (30, 2), (30, 3), (0, 19), (30, 4), (9, 22), (2, 20), (29, 20), (54, 19), (29, 8), (29, 9), (29, 10), (29, 11), (29, 16), (29, 17), (29, 18), (29, 19), (54, 20), (54, 21), (64, 0), (64, 1), (64, 2), (64, 3), (64, 4), (64, 5), (64, 6), (64, 7), (64, 8), (64, 9), (64, 10), (64, 11), (64, 12), (64, 13), (67, 0), (67, 1), (67, 2), (67, 3), (67, 4), (67, 5), (67, 6), (67, 7), (67, 8), (67, 9), (67, 10), (67, 11), (69, 0), (69, 1), (69, 2), (75, 0), (75, 1)] rfl (by decide +kernel)) (goodIn_sub (fun _ h => List.mem_append_left _ (List.mem_append_right _ h)) (by decide +kernel))) (goodIn_sub (fun _ h => List.mem_append_right _ h) (by decide +kernel))
set_option maxRecDepth 20000 in
theorem gL_law_L_wear : GoodIn wsL_law (va_wsS RL 159 yL_wear wsL_wear) := goodIn_app (goodIn_of _ (by decide +kernel)) ggL_law_L_wear
set_option maxRecDepth 20000 in
theorem ggL_law_X13_wear : GoodIn wsL_law wsX13_wear := goodIn_c lawC lawC_in _ [(55, 1), (8, 20), (55, 2), (6, 10), (6, 19), (7, 1), (6, 14), (6, 20), (7, 0), (6, 13), (30, 21), (30, 22), (30, 23), (0, 5), (31, 0), (28, 13), (28, 14), (28, 15), (21, 19), (21, 20), (21, 21), (21, 22), (31, 9), (31, 10), (31, 11), (31, 12), (31, 1), (31, 2), (31, 3), (31, 4), (6, 22), (65, 0), (65, 1), (65, 2), (65, 3), (65, 4), (65, 5), (65, 6), (65, 7), (65, 8), (65, 9), (65, 10), (65, 11), (65, 12), (65, 13), (65, 14), (65, 15), (65, 16), (65, 17), (65, 18), (65, 19), (65, 20), (65, 21), (65, 22), (65, 23), (65, 24), (65, 25), (65, 26), (65, 27), (65, 28), (65, 29), (65, 30), (65, 31), (65, 32), (65, 33), (65, 34), (65, 35), (65, 36), (65, 37), (65, 38), (65, 39), (65, 40), (65, 41), (65, 42), (65, 43), (65, 44), (65, 45), (65, 46), (65, 47), (65, 48), (65, 49), (65, 50), (65, 51), (65, 52), (65, 53), (65, 54), (65, 55), (65, 56), (65, 57), (65, 58), (65, 59), (65, 60), (65, 61), (65, 62), (65, 63), (65, 64), (65, 65), (65, 66)] rfl (by decide +kernel)
set_option maxRecDepth 20000 in
theorem gL_law_X13_wear : GoodIn wsL_law (wsV RL 162 RX13 yX13_wear wsX13_wear) := goodIn_app (goodIn_of _ (by decide +kernel)) ggL_law_X13_wear
set_option maxRecDepth 20000 in
theorem ggL_law_X12_share : GoodIn wsL_law wsX12_share := goodIn_c lawC lawC_in _ [(55, 6), (1, 20), (1, 5), (55, 7), (55, 8), (55, 9), (1, 19), (55, 10), (55, 11), (54, 16), (5, 12), (5, 11), (5, 10), (21, 9), (55, 12), (32, 2), (32, 3), (1, 4), (32, 4), (4, 9), (29, 11), (29, 12), (29, 13), (29, 14), (20, 18), (4, 8), (29, 15), (20, 4), (20, 5), (2, 17), (20, 6), (3, 12), (29, 16), (29, 17), (29, 18), (0, 19), (29, 19), (9, 22), (2, 20), (29, 20), (15, 13), (15, 14), (15, 15), (3, 6), (46, 20), (18, 8), (18, 9), (18, 10), (55, 13), (44, 0), (44, 1), (44, 2), (55, 14), (55, 15), (55, 16), (55, 17), (54, 11), (55, 18), (3, 8), (3, 9), (3, 10), (47, 3), (46, 18), (55, 19), (55, 20), (55, 21), (55, 22), (55, 23), (56, 0), (56, 1), (56, 2), (56, 3), (64, 0), (64, 1), (64, 2), (64, 3), (64, 4), (64, 5), (64, 6), (64, 7), (64, 8), (64, 9), (64, 10), (64, 11), (64, 12), (64, 13), (69, 0), (69, 1), (69, 2), (67, 0), (67, 1), (67, 2), (67, 3), (67, 4), (67, 5), (67, 6), (67, 7), (67, 8), (67, 9), (67, 10), (67, 11), (72, 0), (72, 1), (72, 2), (72, 3), (72, 4), (72, 5), (72, 6), (72, 7), (72, 8), (75, 0), (75, 1)] rfl (by decide +kernel)
set_option maxRecDepth 20000 in
theorem gL_law_X12_share : GoodIn wsL_law (wsV RL 163 RX12 yX12_share wsX12_share) := goodIn_app (goodIn_of _ (by decide +kernel)) ggL_law_X12_share
set_option maxRecDepth 20000 in
theorem ggL_law_X13_share : GoodIn wsL_law wsX13_share := goodIn_c lawC lawC_in _ [(56, 7), (8, 20), (6, 10), (7, 20), (6, 11), (34, 7), (3, 8), (3, 9), (3, 10), (26, 18), (7, 19), (31, 1), (31, 2), (31, 3), (0, 5), (31, 4), (7, 1), (6, 19), (6, 20), (6, 22), (7, 0), (65, 0), (65, 1), (65, 2), (65, 3), (65, 4), (65, 5), (65, 6), (65, 7), (65, 8), (65, 9), (65, 10), (65, 11), (65, 12), (65, 13), (65, 14), (65, 15), (65, 16), (65, 17), (65, 18), (65, 19), (65, 20), (65, 21), (65, 22), (65, 23), (65, 24), (65, 25), (65, 26), (65, 27), (65, 28), (65, 29), (65, 30), (65, 31), (65, 32), (65, 33), (65, 34), (65, 35), (65, 36), (65, 37), (65, 38), (65, 39), (65, 40), (65, 41), (65, 42), (65, 43), (65, 44), (65, 45), (65, 46), (65, 47), (65, 48), (65, 49), (65, 50), (65, 51), (65, 52), (65, 53), (65, 54), (65, 55), (65, 56), (65, 57), (65, 58), (65, 59), (65, 60), (65, 61), (65, 62), (65, 63), (65, 64), (65, 65), (65, 66)] rfl (by decide +kernel)
set_option maxRecDepth 20000 in
theorem gL_law_X13_share : GoodIn wsL_law (wsV RL 166 RX13 yX13_share wsX13_share) := goodIn_app (goodIn_of _ (by decide +kernel)) ggL_law_X13_share
set_option maxRecDepth 20000 in
theorem ggL_law_L_carrier : GoodIn wsL_law wsL_carrier := goodIn_ca (goodIn_c lawC lawC_in _ [(56, 10), (27, 14), (56, 11), (56, 12), (56, 13), (0, 2), (56, 14), (27, 19), (27, 20), (1, 20), (56, 15), (56, 16), (31, 21), (31, 22), (31, 23), (32, 0), (0, 20), (27, 22), (28, 7), (20, 4), (20, 5), (2, 17), (20, 6), (3, 12), (64, 0), (64, 1), (64, 2), (64, 3), (64, 4), (64, 5), (64, 6), (64, 7), (64, 8), (64, 9), (64, 10), (64, 11), (64, 12), (64, 13), (72, 0), (72, 1), (72, 2), (72, 3), (72, 4), (72, 5), (72, 6), (72, 7), (72, 8), (67, 0), (67, 1), (67, 2), (67, 3), (67, 4), (67, 5), (67, 6), (67, 7), (67, 8), (67, 9), (67, 10), (67, 11), (75, 0), (75, 1)] rfl (by decide +kernel)) (goodIn_sub (fun _ h => List.mem_append_right _ h) (by decide +kernel))
set_option maxRecDepth 20000 in
theorem gL_law_L_carrier : GoodIn wsL_law (va_wsS RL 167 yL_carrier wsL_carrier) := goodIn_app (goodIn_of _ (by decide +kernel)) ggL_law_L_carrier
set_option maxRecDepth 20000 in
theorem ggL_law_X13_carrier : GoodIn wsL_law wsX13_carrier := goodIn_c lawC lawC_in _ [(56, 20), (8, 20), (26, 18), (7, 19), (31, 9), (31, 10), (31, 11), (0, 5), (31, 12), (6, 10), (28, 13), (28, 14), (28, 15), (21, 19), (21, 20), (21, 21), (21, 22), (65, 0), (65, 1), (65, 2), (65, 3), (65, 4), (65, 5), (65, 6), (65, 7), (65, 8), (65, 9), (65, 10), (65, 11), (65, 12), (65, 13), (65, 14), (65, 15), (65, 16), (65, 17), (65, 18), (65, 19), (65, 20), (65, 21), (65, 22), (65, 23), (65, 24), (65, 25), (65, 26), (65, 27), (65, 28), (65, 29), (65, 30), (65, 31), (65, 32), (65, 33), (65, 34), (65, 35), (65, 36), (65, 37), (65, 38), (65, 39), (65, 40), (65, 41), (65, 42), (65, 43), (65, 44), (65, 45), (65, 46), (65, 47), (65, 48), (65, 49), (65, 50), (65, 51), (65, 52), (65, 53), (65, 54), (65, 55), (65, 56), (65, 57), (65, 58), (65, 59), (65, 60), (65, 61), (65, 62), (65, 63), (65, 64), (65, 65), (65, 66)] rfl (by decide +kernel)
set_option maxRecDepth 20000 in
theorem gL_law_X13_carrier : GoodIn wsL_law (wsV RL 169 RX13 yX13_carrier wsX13_carrier) := goodIn_app (goodIn_of _ (by decide +kernel)) ggL_law_X13_carrier
set_option maxRecDepth 20000 in
theorem ggL_law_L_look : GoodIn wsL_law wsL_look := goodIn_ca (goodIn_c lawC lawC_in _ [(56, 23), (27, 14), (57, 0), (57, 1), (57, 2), (0, 2), (57, 3), (1, 5), (0, 20), (28, 1), (28, 2), (31, 21), (31, 22), (31, 23), (32, 0), (27, 19), (27, 20), (27, 22), (29, 4), (29, 5), (29, 6), (32, 15), (32, 16), (32, 17), (1, 4), (32, 18), (29, 11), (29, 12), (29, 13), (29, 14), (4, 9), (20, 18), (4, 8), (29, 15), (20, 4), (20, 5), (2, 17), (20, 6), (3, 12), (32, 19), (32, 20), (32, 21), (32, 22), (32, 23), (30, 10), (29, 16), (29, 17), (29, 18), (0, 19), (29, 19), (9, 22), (2, 20), (29, 20), (15, 13), (15, 14), (15, 15), (3, 6), (20, 20), (33, 0), (33, 1), (33, 2), (33, 3), (33, 4), (33, 5), (33, 6), (33, 7), (33, 8), (33, 9), (3, 0), (33, 10), (10, 7), (3, 18), (33, 11), (10, 8), (3, 17), (3, 19), (33, 12), (14, 15), (3, 9), (14, 16), (33, 13), (3, 8), (3, 10), (18, 7), (18, 8), (18, 9), (18, 10), (33, 14), (33, 15), (33, 16), (33, 17), (33, 18), (33, 19), (33, 20), (33, 21), (32, 9), (32, 10), (32, 11), (32, 12), (32, 13), (32, 14), (32, 2), (32, 3), (32, 4), (64, 0), (64, 1), (64, 2), (64, 3), (64, 4), (64, 5), (64, 6), (64, 7), (64, 8), (64, 9), (64, 10), (64, 11), (64, 12), (64, 13), (67, 0), (67, 1), (67, 2), (67, 3), (67, 4), (67, 5), (67, 6), (67, 7), (67, 8), (67, 9), (67, 10), (67, 11), (69, 0), (69, 1), (69, 2), (75, 0), (75, 1), (76, 0), (76, 1), (76, 2), (76, 3), (76, 4), (76, 5)] rfl (by decide +kernel)) (goodIn_sub (fun _ h => List.mem_append_right _ h) (by decide +kernel))
set_option maxRecDepth 20000 in
theorem gL_law_L_look : GoodIn wsL_law (va_wsS RL 170 yL_look wsL_look) := goodIn_app (goodIn_of _ (by decide +kernel)) ggL_law_L_look
set_option maxRecDepth 20000 in
theorem ggL_law_X13_look : GoodIn wsL_law wsX13_look := goodIn_c lawC lawC_in _ [(57, 7), (8, 20), (6, 10), (31, 9), (31, 10), (31, 11), (0, 5), (31, 12), (28, 13), (28, 14), (28, 15), (21, 19), (21, 20), (21, 21), (21, 22), (34, 3), (34, 4), (34, 5), (34, 6), (6, 15), (34, 7), (3, 8), (3, 9), (3, 10), (31, 1), (31, 2), (31, 3), (31, 4), (7, 1), (6, 19), (6, 20), (6, 22), (7, 0), (34, 8), (34, 9), (34, 10), (34, 11), (34, 12), (34, 13), (34, 14), (34, 15), (22, 6), (14, 15), (14, 16), (7, 8), (6, 18), (34, 16), (34, 17), (34, 18), (34, 19), (7, 4), (7, 9), (34, 20), (34, 21), (34, 22), (65, 0), (65, 1), (65, 2), (65, 3), (65, 4), (65, 5), (65, 6), (65, 7), (65, 8), (65, 9), (65, 10), (65, 11), (65, 12), (65, 13), (65, 14), (65, 15), (65, 16), (65, 17), (65, 18), (65, 19), (65, 20), (65, 21), (65, 22), (65, 23), (65, 24), (65, 25), (65, 26), (65, 27), (65, 28), (65, 29), (65, 30), (65, 31), (65, 32), (65, 33), (65, 34), (65, 35), (65, 36), (65, 37), (65, 38), (65, 39), (65, 40), (65, 41), (65, 42), (65, 43), (65, 44), (65, 45), (65, 46), (65, 47), (65, 48), (65, 49), (65, 50), (65, 51), (65, 52), (65, 53), (65, 54), (65, 55), (65, 56), (65, 57), (65, 58), (65, 59), (65, 60), (65, 61), (65, 62), (65, 63), (65, 64), (65, 65), (65, 66)] rfl (by decide +kernel)
set_option maxRecDepth 20000 in
theorem gL_law_X13_look : GoodIn wsL_law (wsV RL 172 RX13 yX13_look wsX13_look) := goodIn_app (goodIn_of _ (by decide +kernel)) ggL_law_X13_look
set_option maxRecDepth 20000 in
theorem ggL_law_L_see : GoodIn wsL_law wsL_see := goodIn_ca (goodIn_c lawC lawC_in _ [(57, 10), (27, 14), (57, 11), (57, 12), (57, 13), (0, 2), (57, 14), (1, 9), (28, 5), (31, 21), (31, 22), (31, 23), (32, 0), (27, 19), (27, 20), (0, 20), (27, 22), (19, 23), (20, 0), (20, 1), (1, 8), (20, 2), (4, 17), (20, 3), (20, 4), (20, 5), (2, 17), (20, 6), (3, 12), (20, 7), (18, 8), (18, 9), (18, 10), (57, 15), (57, 16), (57, 17), (57, 18), (4, 16), (21, 3), (38, 4), (15, 1), (15, 2), (15, 3), (3, 6), (64, 0), (64, 1), (64, 2), (64, 3), (64, 4), (64, 5), (64, 6), (64, 7), (64, 8), (64, 9), (64, 10), (64, 11), (64, 12), (64, 13), (70, 0), (70, 1), (70, 2), (70, 3), (70, 4), (67, 0), (67, 1), (67, 2), (67, 3), (67, 4), (67, 5), (67, 6), (67, 7), (67, 8), (67, 9), (67, 10), (67, 11), (75, 0), (75, 1)] rfl (by decide +kernel)) (goodIn_sub (fun _ h => List.mem_append_right _ h) (by decide +kernel))
set_option maxRecDepth 20000 in
theorem gL_law_L_see : GoodIn wsL_law (va_wsS RL 173 yL_see wsL_see) := goodIn_app (goodIn_of _ (by decide +kernel)) ggL_law_L_see
set_option maxRecDepth 20000 in
theorem ggL_law_X13_see : GoodIn wsL_law wsX13_see := goodIn_c lawC lawC_in _ [(57, 22), (8, 20), (26, 17), (57, 23), (7, 21), (7, 22), (31, 9), (31, 10), (31, 11), (0, 5), (31, 12), (6, 10), (28, 13), (28, 14), (28, 15), (21, 19), (21, 20), (21, 21), (21, 22), (38, 17), (38, 18), (38, 19), (38, 20), (7, 5), (65, 0), (65, 1), (65, 2), (65, 3), (65, 4), (65, 5), (65, 6), (65, 7), (65, 8), (65, 9), (65, 10), (65, 11), (65, 12), (65, 13), (65, 14), (65, 15), (65, 16), (65, 17), (65, 18), (65, 19), (65, 20), (65, 21), (65, 22), (65, 23), (65, 24), (65, 25), (65, 26), (65, 27), (65, 28), (65, 29), (65, 30), (65, 31), (65, 32), (65, 33), (65, 34), (65, 35), (65, 36), (65, 37), (65, 38), (65, 39), (65, 40), (65, 41), (65, 42), (65, 43), (65, 44), (65, 45), (65, 46), (65, 47), (65, 48), (65, 49), (65, 50), (65, 51), (65, 52), (65, 53), (65, 54), (65, 55), (65, 56), (65, 57), (65, 58), (65, 59), (65, 60), (65, 61), (65, 62), (65, 63), (65, 64), (65, 65), (65, 66)] rfl (by decide +kernel)
set_option maxRecDepth 20000 in
theorem gL_law_X13_see : GoodIn wsL_law (wsV RL 175 RX13 yX13_see wsX13_see) := goodIn_app (goodIn_of _ (by decide +kernel)) ggL_law_X13_see
set_option maxRecDepth 20000 in
theorem ggL_law_X12_forget : GoodIn wsL_law wsX12_forget := goodIn_c lawC lawC_in _ [(58, 3), (1, 9), (28, 5), (64, 0), (64, 1), (64, 2), (64, 3), (64, 4), (64, 5), (64, 6), (64, 7), (64, 8), (64, 9), (64, 10), (64, 11), (64, 12), (64, 13), (70, 0), (70, 1), (70, 2), (70, 3), (70, 4)] rfl (by decide +kernel)
set_option maxRecDepth 20000 in
theorem gL_law_X12_forget : GoodIn wsL_law (wsV RL 176 RX12 yX12_forget wsX12_forget) := goodIn_app (goodIn_of _ (by decide +kernel)) ggL_law_X12_forget
set_option maxRecDepth 20000 in
theorem ggL_law_X13_forget : GoodIn wsL_law wsX13_forget := goodIn_c lawC lawC_in _ [(58, 7), (8, 20), (26, 17), (65, 0), (65, 1), (65, 2), (65, 3), (65, 4), (65, 5), (65, 6), (65, 7), (65, 8), (65, 9), (65, 10), (65, 11), (65, 12), (65, 13), (65, 14), (65, 15), (65, 16), (65, 17), (65, 18), (65, 19), (65, 20), (65, 21), (65, 22), (65, 23), (65, 24), (65, 25), (65, 26), (65, 27), (65, 28), (65, 29), (65, 30), (65, 31), (65, 32), (65, 33), (65, 34), (65, 35), (65, 36), (65, 37), (65, 38), (65, 39), (65, 40), (65, 41), (65, 42), (65, 43), (65, 44), (65, 45), (65, 46), (65, 47), (65, 48), (65, 49), (65, 50), (65, 51), (65, 52), (65, 53), (65, 54), (65, 55), (65, 56), (65, 57), (65, 58), (65, 59), (65, 60), (65, 61), (65, 62), (65, 63), (65, 64), (65, 65), (65, 66)] rfl (by decide +kernel)
set_option maxRecDepth 20000 in
theorem gL_law_X13_forget : GoodIn wsL_law (wsV RL 179 RX13 yX13_forget wsX13_forget) := goodIn_app (goodIn_of _ (by decide +kernel)) ggL_law_X13_forget
set_option maxRecDepth 20000 in
theorem ggL_law_L_fits : GoodIn wsL_law wsL_fits := goodIn_ca (goodIn_c lawC lawC_in _ [(58, 10), (27, 14), (58, 11), (58, 12), (58, 13), (0, 2), (58, 14), (1, 9), (1, 5), (2, 4), (58, 15), (58, 16), (29, 4), (29, 5), (29, 6), (27, 19), (27, 20), (58, 17), (58, 18), (58, 19), (1, 8), (58, 20), (21, 3), (4, 16), (39, 13), (15, 13), (15, 14), (2, 17), (15, 15), (3, 6), (3, 12), (58, 21), (32, 2), (32, 3), (1, 4), (32, 4), (4, 9), (29, 11), (29, 12), (29, 13), (29, 14), (20, 18), (4, 8), (29, 15), (20, 4), (20, 5), (20, 6), (29, 16), (29, 17), (29, 18), (0, 19), (29, 19), (9, 22), (2, 20), (29, 20), (58, 22), (58, 23), (59, 0), (2, 3), (59, 1), (59, 2), (59, 3), (59, 4), (59, 5), (6, 1), (59, 6), (35, 12), (35, 13), (35, 14), (59, 7), (59, 8), (59, 9), (59, 10), (59, 11), (36, 15), (36, 16), (36, 17), (20, 19), (36, 18), (35, 16), (35, 17), (35, 18), (9, 23), (2, 21), (20, 20), (36, 19), (36, 20), (36, 21), (36, 22), (30, 9), (30, 10), (36, 23), (37, 0), (37, 1), (37, 2), (37, 3), (37, 4), (30, 1), (30, 2), (30, 3), (30, 4), (59, 12), (59, 13), (59, 14), (59, 15), (20, 17), (59, 16), (55, 20), (55, 21), (55, 22), (55, 23), (59, 17), (38, 6), (38, 7), (38, 8), (38, 9), (38, 10), (38, 11), (38, 12), (20, 21), (18, 8), (18, 9), (18, 10), (59, 18), (64, 0), (64, 1), (64, 2), (64, 3), (64, 4), (64, 5), (64, 6), (64, 7), (64, 8), (64, 9), (64, 10), (64, 11), (64, 12), (64, 13), (74, 0), (74, 1), (74, 2), (74, 3), (74, 4), (74, 5), (74, 6), (74, 7), (74, 8), (70, 0), (70, 1), (70, 2), (70, 3), (70, 4), (75, 0), (75, 1), (69, 0), (69, 1), (69, 2), (67, 0), (67, 1), (67, 2), (67, 3), (67, 4), (67, 5), (67, 6), (67, 7), (67, 8), (67, 9), (67, 10), (67, 11)] rfl (by decide +kernel)) (goodIn_sub (fun _ h => List.mem_append_right _ h) (by decide +kernel))
set_option maxRecDepth 20000 in
theorem gL_law_L_fits : GoodIn wsL_law (va_wsS RL 180 yL_fits wsL_fits) := goodIn_app (goodIn_of _ (by decide +kernel)) ggL_law_L_fits
set_option maxRecDepth 20000 in
theorem ggL_law_X13_fits : GoodIn wsL_law wsX13_fits := goodIn_c lawC lawC_in _ [(59, 22), (8, 20), (6, 10), (7, 1), (21, 19), (21, 20), (21, 21), (0, 5), (21, 22), (59, 23), (60, 0), (60, 1), (60, 2), (26, 17), (7, 21), (7, 22), (31, 1), (31, 2), (31, 3), (31, 4), (6, 19), (6, 20), (6, 22), (7, 0), (31, 9), (31, 10), (31, 11), (31, 12), (28, 13), (28, 14), (28, 15), (37, 9), (37, 10), (37, 11), (37, 12), (6, 16), (6, 18), (6, 13), (6, 12), (30, 21), (30, 22), (30, 23), (31, 0), (36, 3), (36, 4), (36, 5), (36, 6), (7, 2), (7, 3), (65, 0), (65, 1), (65, 2), (65, 3), (65, 4), (65, 5), (65, 6), (65, 7), (65, 8), (65, 9), (65, 10), (65, 11), (65, 12), (65, 13), (65, 14), (65, 15), (65, 16), (65, 17), (65, 18), (65, 19), (65, 20), (65, 21), (65, 22), (65, 23), (65, 24), (65, 25), (65, 26), (65, 27), (65, 28), (65, 29), (65, 30), (65, 31), (65, 32), (65, 33), (65, 34), (65, 35), (65, 36), (65, 37), (65, 38), (65, 39), (65, 40), (65, 41), (65, 42), (65, 43), (65, 44), (65, 45), (65, 46), (65, 47), (65, 48), (65, 49), (65, 50), (65, 51), (65, 52), (65, 53), (65, 54), (65, 55), (65, 56), (65, 57), (65, 58), (65, 59), (65, 60), (65, 61), (65, 62), (65, 63), (65, 64), (65, 65), (65, 66)] rfl (by decide +kernel)
set_option maxRecDepth 20000 in
theorem gL_law_X13_fits : GoodIn wsL_law (wsV RL 182 RX13 yX13_fits wsX13_fits) := goodIn_app (goodIn_of _ (by decide +kernel)) ggL_law_X13_fits
set_option maxRecDepth 20000 in
theorem ggL_law_L_best : GoodIn wsL_law wsL_best := goodIn_ca (goodIn_c lawC lawC_in _ [(60, 5), (27, 14), (60, 6), (60, 7), (60, 8), (0, 2), (60, 9), (2, 4), (1, 5), (60, 10), (60, 11), (60, 12), (29, 4), (29, 5), (29, 6), (27, 19), (27, 20), (60, 13), (60, 14), (60, 15), (2, 3), (60, 16), (60, 17), (60, 18), (60, 19), (59, 4), (6, 1), (60, 20), (40, 3), (40, 4), (1, 4), (40, 5), (4, 9), (30, 9), (20, 17), (30, 10), (20, 18), (4, 8), (20, 19), (29, 11), (29, 12), (29, 13), (29, 14), (29, 15), (20, 4), (20, 5), (2, 17), (20, 6), (3, 12), (32, 19), (32, 20), (32, 21), (32, 22), (32, 23), (29, 16), (29, 17), (29, 18), (0, 19), (29, 19), (9, 22), (2, 20), (29, 20), (15, 13), (15, 14), (15, 15), (3, 6), (20, 20), (33, 0), (33, 1), (33, 2), (33, 3), (33, 4), (33, 5), (33, 6), (33, 7), (33, 8), (33, 9), (3, 0), (33, 10), (10, 7), (3, 18), (33, 11), (10, 8), (3, 17), (3, 19), (33, 12), (14, 15), (3, 9), (14, 16), (33, 13), (3, 8), (3, 10), (18, 7), (18, 8), (18, 9), (18, 10), (33, 14), (33, 15), (33, 16), (33, 17), (33, 18), (33, 19), (33, 20), (33, 21), (36, 18), (35, 16), (35, 17), (35, 18), (9, 23), (2, 21), (59, 7), (59, 8), (59, 9), (59, 10), (59, 11), (36, 15), (36, 16), (36, 17), (36, 19), (36, 20), (36, 21), (36, 22), (36, 23), (37, 0), (37, 1), (37, 2), (37, 3), (37, 4), (30, 1), (30, 2), (30, 3), (30, 4), (59, 12), (59, 13), (59, 14), (59, 15), (59, 16), (55, 20), (55, 21), (55, 22), (55, 23), (59, 17), (38, 6), (38, 7), (38, 8), (38, 9), (38, 10), (38, 11), (38, 12), (20, 21), (64, 0), (64, 1), (64, 2), (64, 3), (64, 4), (64, 5), (64, 6), (64, 7), (64, 8), (64, 9), (64, 10), (64, 11), (64, 12), (64, 13), (74, 0), (74, 1), (74, 2), (74, 3), (74, 4), (74, 5), (74, 6), (74, 7), (74, 8), (69, 0), (69, 1), (69, 2), (67, 0), (67, 1), (67, 2), (67, 3), (67, 4), (67, 5), (67, 6), (67, 7), (67, 8), (67, 9), (67, 10), (67, 11), (75, 0), (75, 1), (76, 0), (76, 1), (76, 2), (76, 3), (76, 4), (76, 5)] rfl (by decide +kernel)) (goodIn_sub (fun _ h => List.mem_append_right _ h) (by decide +kernel))
set_option maxRecDepth 20000 in
theorem gL_law_L_best : GoodIn wsL_law (va_wsS RL 183 yL_best wsL_best) := goodIn_app (goodIn_of _ (by decide +kernel)) ggL_law_L_best
set_option maxRecDepth 20000 in
theorem ggL_law_X13_best : GoodIn wsL_law wsX13_best := goodIn_c lawC lawC_in _ [(61, 0), (8, 20), (26, 15), (6, 10), (7, 1), (21, 19), (21, 20), (21, 21), (0, 5), (21, 22), (40, 10), (40, 11), (40, 12), (40, 13), (6, 17), (6, 23), (34, 8), (34, 9), (34, 10), (34, 11), (31, 1), (31, 2), (31, 3), (31, 4), (6, 19), (6, 20), (6, 22), (7, 0), (34, 12), (34, 13), (34, 14), (34, 15), (6, 15), (34, 7), (3, 8), (3, 9), (3, 10), (22, 6), (14, 15), (14, 16), (7, 8), (6, 18), (34, 16), (34, 17), (34, 18), (34, 19), (7, 4), (7, 9), (34, 20), (34, 21), (34, 22), (36, 3), (36, 4), (36, 5), (36, 6), (7, 2), (7, 3), (37, 9), (37, 10), (37, 11), (37, 12), (6, 16), (6, 13), (6, 12), (31, 9), (31, 10), (31, 11), (31, 12), (28, 13), (28, 14), (28, 15), (30, 21), (30, 22), (30, 23), (31, 0), (39, 1), (39, 2), (39, 3), (39, 4), (65, 0), (65, 1), (65, 2), (65, 3), (65, 4), (65, 5), (65, 6), (65, 7), (65, 8), (65, 9), (65, 10), (65, 11), (65, 12), (65, 13), (65, 14), (65, 15), (65, 16), (65, 17), (65, 18), (65, 19), (65, 20), (65, 21), (65, 22), (65, 23), (65, 24), (65, 25), (65, 26), (65, 27), (65, 28), (65, 29), (65, 30), (65, 31), (65, 32), (65, 33), (65, 34), (65, 35), (65, 36), (65, 37), (65, 38), (65, 39), (65, 40), (65, 41), (65, 42), (65, 43), (65, 44), (65, 45), (65, 46), (65, 47), (65, 48), (65, 49), (65, 50), (65, 51), (65, 52), (65, 53), (65, 54), (65, 55), (65, 56), (65, 57), (65, 58), (65, 59), (65, 60), (65, 61), (65, 62), (65, 63), (65, 64), (65, 65), (65, 66)] rfl (by decide +kernel)
set_option maxRecDepth 20000 in
theorem gL_law_X13_best : GoodIn wsL_law (wsV RL 185 RX13 yX13_best wsX13_best) := goodIn_app (goodIn_of _ (by decide +kernel)) ggL_law_X13_best
set_option maxRecDepth 20000 in
theorem ggL_law_L_counter : GoodIn wsL_law wsL_counter := goodIn_ca (goodIn_ca (goodIn_c lawC lawC_in _ [(61, 3), (27, 14), (9, 2), (61, 4), (61, 5), (61, 6), (0, 2), (61, 7), (9, 7), (9, 8), (2, 4), (1, 5), (61, 8), (61, 9), (29, 4), (29, 5), (29, 6), (27, 19), (27, 20), (61, 10), (61, 11), (61, 12), (2, 3), (61, 13), (6, 1), (61, 14), (61, 15), (61, 16), (59, 4), (59, 5), (59, 12), (59, 13), (59, 14), (1, 4), (59, 15), (4, 9), (4, 8), (20, 17), (59, 16), (55, 20), (55, 21), (2, 17), (55, 22), (3, 12), (55, 23), (20, 4), (20, 5), (20, 6), (61, 17), (61, 18), (61, 19), (61, 20), (61, 21), (59, 6), (35, 12), (35, 13), (35, 14), (29, 15), (59, 11), (36, 15), (36, 16), (36, 17), (20, 19), (36, 18), (35, 16), (35, 17), (0, 19), (35, 18), (2, 20), (9, 23), (2, 21), (29, 20), (15, 13), (15, 14), (15, 15), (3, 6), (20, 20), (36, 19), (36, 20), (36, 21), (36, 22), (30, 9), (30, 10), (29, 11), (29, 12), (29, 13), (29, 14), (20, 18), (29, 16), (29, 17), (29, 18), (29, 19), (9, 22), (36, 23), (37, 0), (37, 1), (37, 2), (37, 3), (37, 4), (30, 1), (30, 2), (30, 3), (30, 4), (59, 17), (38, 6), (38, 7), (38, 8), (38, 9), (38, 10), (38, 11), (38, 12), (20, 21), (18, 8), (18, 9), (18, 10), (61, 22), (40, 23), (41, 0), (41, 1), (41, 2), (32, 10), (32, 11), (32, 12), (32, 13), (3, 8), (3, 9), (3, 10), (32, 14), (32, 2), (32, 3), (32, 4), (64, 0), (64, 1), (64, 2), (64, 3), (64, 4), (64, 5), (64, 6), (64, 7), (64, 8), (64, 9), (64, 10), (64, 11), (64, 12), (64, 13), (74, 0), (74, 1), (74, 2), (74, 3), (74, 4), (74, 5), (74, 6), (74, 7), (74, 8), (69, 0), (69, 1), (69, 2), (67, 0), (67, 1), (67, 2), (67, 3), (67, 4), (67, 5), (67, 6), (67, 7), (67, 8), (67, 9), (67, 10), (67, 11), (75, 0), (75, 1)] rfl (by decide +kernel)) (goodIn_sub (fun _ h => List.mem_append_left _ (List.mem_append_right _ h)) (by decide +kernel))) (goodIn_sub (fun _ h => List.mem_append_right _ h) (by decide +kernel))
set_option maxRecDepth 20000 in
theorem gL_law_L_counter : GoodIn wsL_law (va_wsS RL 186 yL_counter wsL_counter) := goodIn_app (goodIn_of _ (by decide +kernel)) ggL_law_L_counter
set_option maxRecDepth 20000 in
theorem ggL_law_X13_counter : GoodIn wsL_law wsX13_counter := goodIn_c lawC lawC_in _ [(62, 2), (8, 20), (55, 2), (6, 10), (7, 13), (7, 1), (62, 3), (21, 19), (21, 20), (21, 21), (0, 5), (21, 22), (28, 13), (28, 14), (28, 15), (31, 9), (31, 10), (31, 11), (31, 12), (37, 9), (37, 10), (37, 11), (37, 12), (6, 22), (6, 16), (6, 19), (6, 18), (7, 0), (6, 13), (6, 12), (31, 1), (31, 2), (31, 3), (31, 4), (6, 20), (30, 21), (30, 22), (30, 23), (31, 0), (36, 3), (36, 4), (36, 5), (36, 6), (7, 2), (7, 3), (62, 4), (62, 5), (62, 6), (62, 7), (34, 3), (34, 4), (34, 5), (34, 6), (6, 15), (34, 7), (3, 8), (3, 9), (3, 10), (65, 0), (65, 1), (65, 2), (65, 3), (65, 4), (65, 5), (65, 6), (65, 7), (65, 8), (65, 9), (65, 10), (65, 11), (65, 12), (65, 13), (65, 14), (65, 15), (65, 16), (65, 17), (65, 18), (65, 19), (65, 20), (65, 21), (65, 22), (65, 23), (65, 24), (65, 25), (65, 26), (65, 27), (65, 28), (65, 29), (65, 30), (65, 31), (65, 32), (65, 33), (65, 34), (65, 35), (65, 36), (65, 37), (65, 38), (65, 39), (65, 40), (65, 41), (65, 42), (65, 43), (65, 44), (65, 45), (65, 46), (65, 47), (65, 48), (65, 49), (65, 50), (65, 51), (65, 52), (65, 53), (65, 54), (65, 55), (65, 56), (65, 57), (65, 58), (65, 59), (65, 60), (65, 61), (65, 62), (65, 63), (65, 64), (65, 65), (65, 66)] rfl (by decide +kernel)
set_option maxRecDepth 20000 in
theorem gL_law_X13_counter : GoodIn wsL_law (wsV RL 189 RX13 yX13_counter wsX13_counter) := goodIn_app (goodIn_of _ (by decide +kernel)) ggL_law_X13_counter
set_option maxRecDepth 20000 in
theorem ggL_law_X12_image : GoodIn wsL_law wsX12_image := goodIn_c lawC lawC_in _ [(62, 11), (1, 10), (1, 5), (1, 11), (1, 9), (20, 12), (62, 12), (59, 13), (59, 14), (1, 4), (59, 15), (4, 9), (4, 8), (20, 17), (59, 16), (55, 20), (55, 21), (2, 17), (55, 22), (3, 12), (55, 23), (20, 4), (20, 5), (20, 6), (62, 13), (62, 14), (62, 15), (1, 8), (62, 16), (4, 15), (21, 2), (4, 16), (21, 3), (4, 17), (62, 17), (64, 0), (64, 1), (64, 2), (64, 3), (64, 4), (64, 5), (64, 6), (64, 7), (64, 8), (64, 9), (64, 10), (64, 11), (64, 12), (64, 13), (69, 0), (69, 1), (69, 2), (75, 0), (75, 1), (70, 0), (70, 1), (70, 2), (70, 3), (70, 4)] rfl (by decide +kernel)
set_option maxRecDepth 20000 in
theorem gL_law_X12_image : GoodIn wsL_law (wsV RL 190 RX12 yX12_image wsX12_image) := goodIn_app (goodIn_of _ (by decide +kernel)) ggL_law_X12_image
set_option maxRecDepth 20000 in
theorem ggL_law_X13_image : GoodIn wsL_law wsX13_image := goodIn_c lawC lawC_in _ [(62, 21), (8, 20), (26, 19), (26, 15), (62, 22), (26, 16), (62, 23), (26, 17), (63, 0), (7, 23), (7, 1), (8, 0), (7, 10), (8, 1), (7, 11), (8, 2), (7, 12), (8, 3), (7, 21), (8, 4), (7, 22), (8, 5), (7, 5), (63, 1), (63, 2), (0, 5), (63, 3), (65, 0), (65, 1), (65, 2), (65, 3), (65, 4), (65, 5), (65, 6), (65, 7), (65, 8), (65, 9), (65, 10), (65, 11), (65, 12), (65, 13), (65, 14), (65, 15), (65, 16), (65, 17), (65, 18), (65, 19), (65, 20), (65, 21), (65, 22), (65, 23), (65, 24), (65, 25), (65, 26), (65, 27), (65, 28), (65, 29), (65, 30), (65, 31), (65, 32), (65, 33), (65, 34), (65, 35), (65, 36), (65, 37), (65, 38), (65, 39), (65, 40), (65, 41), (65, 42), (65, 43), (65, 44), (65, 45), (65, 46), (65, 47), (65, 48), (65, 49), (65, 50), (65, 51), (65, 52), (65, 53), (65, 54), (65, 55), (65, 56), (65, 57), (65, 58), (65, 59), (65, 60), (65, 61), (65, 62), (65, 63), (65, 64), (65, 65), (65, 66)] rfl (by decide +kernel)
set_option maxRecDepth 20000 in
theorem gL_law_X13_image : GoodIn wsL_law (wsV RL 193 RX13 yX13_image wsX13_image) := goodIn_app (goodIn_of _ (by decide +kernel)) ggL_law_X13_image
set_option maxRecDepth 20000 in
theorem ggL_law_X12_restore : GoodIn wsL_law wsX12_restore := goodIn_c lawC lawC_in _ [(63, 7), (20, 12), (1, 5), (1, 10), (1, 9), (1, 11), (62, 12), (59, 13), (59, 14), (1, 4), (59, 15), (4, 9), (4, 8), (20, 17), (59, 16), (55, 20), (55, 21), (2, 17), (55, 22), (3, 12), (55, 23), (20, 4), (20, 5), (20, 6), (62, 13), (62, 14), (62, 15), (1, 8), (62, 16), (4, 15), (21, 2), (4, 16), (21, 3), (4, 17), (62, 17), (64, 0), (64, 1), (64, 2), (64, 3), (64, 4), (64, 5), (64, 6), (64, 7), (64, 8), (64, 9), (64, 10), (64, 11), (64, 12), (64, 13), (69, 0), (69, 1), (69, 2), (75, 0), (75, 1), (70, 0), (70, 1), (70, 2), (70, 3), (70, 4)] rfl (by decide +kernel)
set_option maxRecDepth 20000 in
theorem gL_law_X12_restore : GoodIn wsL_law (wsV RL 194 RX12 yX12_restore wsX12_restore) := goodIn_app (goodIn_of _ (by decide +kernel)) ggL_law_X12_restore
set_option maxRecDepth 20000 in
theorem ggL_law_X13_restore : GoodIn wsL_law wsX13_restore := goodIn_c lawC lawC_in _ [(63, 11), (8, 20), (26, 19), (62, 22), (26, 15), (62, 23), (26, 16), (63, 0), (26, 17), (7, 1), (7, 23), (7, 10), (8, 0), (7, 11), (8, 1), (7, 12), (8, 2), (7, 21), (8, 3), (7, 22), (8, 4), (7, 5), (8, 5), (63, 1), (63, 2), (0, 5), (63, 3), (65, 0), (65, 1), (65, 2), (65, 3), (65, 4), (65, 5), (65, 6), (65, 7), (65, 8), (65, 9), (65, 10), (65, 11), (65, 12), (65, 13), (65, 14), (65, 15), (65, 16), (65, 17), (65, 18), (65, 19), (65, 20), (65, 21), (65, 22), (65, 23), (65, 24), (65, 25), (65, 26), (65, 27), (65, 28), (65, 29), (65, 30), (65, 31), (65, 32), (65, 33), (65, 34), (65, 35), (65, 36), (65, 37), (65, 38), (65, 39), (65, 40), (65, 41), (65, 42), (65, 43), (65, 44), (65, 45), (65, 46), (65, 47), (65, 48), (65, 49), (65, 50), (65, 51), (65, 52), (65, 53), (65, 54), (65, 55), (65, 56), (65, 57), (65, 58), (65, 59), (65, 60), (65, 61), (65, 62), (65, 63), (65, 64), (65, 65), (65, 66)] rfl (by decide +kernel)
set_option maxRecDepth 20000 in
theorem gL_law_X13_restore : GoodIn wsL_law (wsV RL 198 RX13 yX13_restore wsX13_restore) := goodIn_app (goodIn_of _ (by decide +kernel)) ggL_law_X13_restore
theorem dL_law_0 : decode cL_law 0 = .ok (.new 8, 3) := by decide +kernel
theorem dL_law_3 : decode cL_law 3 = .ok (.dup, 1) := by decide +kernel
theorem dL_law_4 : decode cL_law 4 = .ok (.invokespecial 79, 3) := by decide +kernel
theorem dL_law_7 : decode cL_law 7 = .ok (.astore_n 1, 1) := by decide +kernel
theorem dL_law_8 : decode cL_law 8 = .ok (.new 80, 3) := by decide +kernel
theorem dL_law_11 : decode cL_law 11 = .ok (.dup, 1) := by decide +kernel
theorem dL_law_12 : decode cL_law 12 = .ok (.invokespecial 82, 3) := by decide +kernel
theorem dL_law_15 : decode cL_law 15 = .ok (.astore_n 2, 1) := by decide +kernel
theorem dL_law_16 : decode cL_law 16 = .ok (.iconst 1, 1) := by decide +kernel
theorem dL_law_17 : decode cL_law 17 = .ok (.newarray .long, 2) := by decide +kernel
theorem dL_law_19 : decode cL_law 19 = .ok (.astore_n 3, 1) := by decide +kernel
theorem dL_law_20 : decode cL_law 20 = .ok (.iconst 0, 1) := by decide +kernel
theorem dL_law_21 : decode cL_law 21 = .ok (.istore 4, 2) := by decide +kernel
theorem dL_law_23 : decode cL_law 23 = .ok (.iload 4, 2) := by decide +kernel
theorem dL_law_25 : decode cL_law 25 = .ok (.aload_n 0, 1) := by decide +kernel
theorem dL_law_26 : decode cL_law 26 = .ok (.arraylength, 1) := by decide +kernel
theorem dL_law_27 : decode cL_law 27 = .ok (.bipush 6, 2) := by decide +kernel
theorem dL_law_29 : decode cL_law 29 = .ok (.isub, 1) := by decide +kernel
theorem dL_law_30 : decode cL_law 30 = .ok (.if_icmp .gt 1667, 3) := by decide +kernel
theorem dL_law_33 : decode cL_law 33 = .ok (.aload_n 0, 1) := by decide +kernel
theorem dL_law_34 : decode cL_law 34 = .ok (.iload 4, 2) := by decide +kernel
theorem dL_law_36 : decode cL_law 36 = .ok (.iaload, 1) := by decide +kernel
theorem dL_law_37 : decode cL_law 37 = .ok (.bipush 31, 2) := by decide +kernel
theorem dL_law_39 : decode cL_law 39 = .ok (.iand, 1) := by decide +kernel
theorem dL_law_40 : decode cL_law 40 = .ok (.tableswitch 1651 0 30 #[140, 213, 269, 282, 338, 406, 474, 542, 617, 685, 698, 711, 724, 792, 805, 861, 917, 984, 1052, 1108, 1121, 1217, 1230, 1286, 1354, 1422, 1435, 1491, 1547, 1627, 1638], 140) := by decide +kernel
theorem dL_law_180 : decode cL_law 180 = .ok (.aload_n 1, 1) := by decide +kernel
theorem dL_law_181 : decode cL_law 181 = .ok (.aload_n 0, 1) := by decide +kernel
theorem dL_law_182 : decode cL_law 182 = .ok (.iload 4, 2) := by decide +kernel
theorem dL_law_184 : decode cL_law 184 = .ok (.iconst 1, 1) := by decide +kernel
theorem dL_law_185 : decode cL_law 185 = .ok (.iadd, 1) := by decide +kernel
theorem dL_law_186 : decode cL_law 186 = .ok (.iaload, 1) := by decide +kernel
theorem dL_law_187 : decode cL_law 187 = .ok (.aload_n 0, 1) := by decide +kernel
theorem dL_law_188 : decode cL_law 188 = .ok (.iload 4, 2) := by decide +kernel
theorem dL_law_190 : decode cL_law 190 = .ok (.iconst 2, 1) := by decide +kernel
theorem dL_law_191 : decode cL_law 191 = .ok (.iadd, 1) := by decide +kernel
theorem dL_law_192 : decode cL_law 192 = .ok (.iaload, 1) := by decide +kernel
theorem dL_law_193 : decode cL_law 193 = .ok (.aload_n 0, 1) := by decide +kernel
theorem dL_law_194 : decode cL_law 194 = .ok (.iload 4, 2) := by decide +kernel
theorem dL_law_196 : decode cL_law 196 = .ok (.iconst 3, 1) := by decide +kernel
theorem dL_law_197 : decode cL_law 197 = .ok (.iadd, 1) := by decide +kernel
theorem dL_law_198 : decode cL_law 198 = .ok (.iaload, 1) := by decide +kernel
theorem dL_law_199 : decode cL_law 199 = .ok (.aload_n 0, 1) := by decide +kernel
theorem dL_law_200 : decode cL_law 200 = .ok (.iload 4, 2) := by decide +kernel
theorem dL_law_202 : decode cL_law 202 = .ok (.iconst 4, 1) := by decide +kernel
theorem dL_law_203 : decode cL_law 203 = .ok (.iadd, 1) := by decide +kernel
theorem dL_law_204 : decode cL_law 204 = .ok (.iaload, 1) := by decide +kernel
theorem dL_law_205 : decode cL_law 205 = .ok (.aload_n 0, 1) := by decide +kernel
theorem dL_law_206 : decode cL_law 206 = .ok (.iload 4, 2) := by decide +kernel
theorem dL_law_208 : decode cL_law 208 = .ok (.iconst 5, 1) := by decide +kernel
theorem dL_law_209 : decode cL_law 209 = .ok (.iadd, 1) := by decide +kernel
theorem dL_law_210 : decode cL_law 210 = .ok (.iaload, 1) := by decide +kernel
theorem dL_law_211 : decode cL_law 211 = .ok (.invokevirtual 83, 3) := by decide +kernel
theorem dL_law_214 : decode cL_law 214 = .ok (.aload_n 2, 1) := by decide +kernel
theorem dL_law_215 : decode cL_law 215 = .ok (.aload_n 0, 1) := by decide +kernel
theorem dL_law_216 : decode cL_law 216 = .ok (.iload 4, 2) := by decide +kernel
theorem dL_law_218 : decode cL_law 218 = .ok (.iconst 1, 1) := by decide +kernel
theorem dL_law_219 : decode cL_law 219 = .ok (.iadd, 1) := by decide +kernel
theorem dL_law_220 : decode cL_law 220 = .ok (.iaload, 1) := by decide +kernel
theorem dL_law_221 : decode cL_law 221 = .ok (.aload_n 0, 1) := by decide +kernel
theorem dL_law_222 : decode cL_law 222 = .ok (.iload 4, 2) := by decide +kernel
theorem dL_law_224 : decode cL_law 224 = .ok (.iconst 2, 1) := by decide +kernel
theorem dL_law_225 : decode cL_law 225 = .ok (.iadd, 1) := by decide +kernel
theorem dL_law_226 : decode cL_law 226 = .ok (.iaload, 1) := by decide +kernel
theorem dL_law_227 : decode cL_law 227 = .ok (.aload_n 0, 1) := by decide +kernel
theorem dL_law_228 : decode cL_law 228 = .ok (.iload 4, 2) := by decide +kernel
theorem dL_law_230 : decode cL_law 230 = .ok (.iconst 3, 1) := by decide +kernel
theorem dL_law_231 : decode cL_law 231 = .ok (.iadd, 1) := by decide +kernel
theorem dL_law_232 : decode cL_law 232 = .ok (.iaload, 1) := by decide +kernel
theorem dL_law_233 : decode cL_law 233 = .ok (.aload_n 0, 1) := by decide +kernel
theorem dL_law_234 : decode cL_law 234 = .ok (.iload 4, 2) := by decide +kernel
theorem dL_law_236 : decode cL_law 236 = .ok (.iconst 4, 1) := by decide +kernel
theorem dL_law_237 : decode cL_law 237 = .ok (.iadd, 1) := by decide +kernel
theorem dL_law_238 : decode cL_law 238 = .ok (.iaload, 1) := by decide +kernel
theorem dL_law_239 : decode cL_law 239 = .ok (.aload_n 0, 1) := by decide +kernel
theorem dL_law_240 : decode cL_law 240 = .ok (.iload 4, 2) := by decide +kernel
theorem dL_law_242 : decode cL_law 242 = .ok (.iconst 5, 1) := by decide +kernel
theorem dL_law_243 : decode cL_law 243 = .ok (.iadd, 1) := by decide +kernel
theorem dL_law_244 : decode cL_law 244 = .ok (.iaload, 1) := by decide +kernel
theorem dL_law_245 : decode cL_law 245 = .ok (.invokevirtual 87, 3) := by decide +kernel
theorem dL_law_248 : decode cL_law 248 = .ok (.if_icmp .eq 1443, 3) := by decide +kernel
theorem dL_law_251 : decode cL_law 251 = .ok (.iconst 0, 1) := by decide +kernel
theorem dL_law_252 : decode cL_law 252 = .ok (.ireturn, 1) := by decide +kernel
theorem dL_law_253 : decode cL_law 253 = .ok (.aload_n 1, 1) := by decide +kernel
theorem dL_law_254 : decode cL_law 254 = .ok (.aload_n 0, 1) := by decide +kernel
theorem dL_law_255 : decode cL_law 255 = .ok (.iload 4, 2) := by decide +kernel
theorem dL_law_257 : decode cL_law 257 = .ok (.iconst 1, 1) := by decide +kernel
theorem dL_law_258 : decode cL_law 258 = .ok (.iadd, 1) := by decide +kernel
theorem dL_law_259 : decode cL_law 259 = .ok (.iaload, 1) := by decide +kernel
theorem dL_law_260 : decode cL_law 260 = .ok (.aload_n 3, 1) := by decide +kernel
theorem dL_law_261 : decode cL_law 261 = .ok (.invokestatic 88, 3) := by decide +kernel
theorem dL_law_264 : decode cL_law 264 = .ok (.istore 5, 2) := by decide +kernel
theorem dL_law_266 : decode cL_law 266 = .ok (.aload_n 2, 1) := by decide +kernel
theorem dL_law_267 : decode cL_law 267 = .ok (.aload_n 0, 1) := by decide +kernel
theorem dL_law_268 : decode cL_law 268 = .ok (.iload 4, 2) := by decide +kernel
theorem dL_law_270 : decode cL_law 270 = .ok (.iconst 1, 1) := by decide +kernel
theorem dL_law_271 : decode cL_law 271 = .ok (.iadd, 1) := by decide +kernel
theorem dL_law_272 : decode cL_law 272 = .ok (.iaload, 1) := by decide +kernel
theorem dL_law_273 : decode cL_law 273 = .ok (.invokevirtual 93, 3) := by decide +kernel
theorem dL_law_276 : decode cL_law 276 = .ok (.istore 6, 2) := by decide +kernel
theorem dL_law_278 : decode cL_law 278 = .ok (.aload_n 2, 1) := by decide +kernel
theorem dL_law_279 : decode cL_law 279 = .ok (.invokevirtual 94, 3) := by decide +kernel
theorem dL_law_282 : decode cL_law 282 = .ok (.iload 5, 2) := by decide +kernel
theorem dL_law_284 : decode cL_law 284 = .ok (.if_icmp .eq 5, 3) := by decide +kernel
theorem dL_law_287 : decode cL_law 287 = .ok (.iconst 0, 1) := by decide +kernel
theorem dL_law_288 : decode cL_law 288 = .ok (.ireturn, 1) := by decide +kernel
theorem dL_law_289 : decode cL_law 289 = .ok (.iload 5, 2) := by decide +kernel
theorem dL_law_291 : decode cL_law 291 = .ok (.ifCond .ne 15, 3) := by decide +kernel
theorem dL_law_294 : decode cL_law 294 = .ok (.aload_n 3, 1) := by decide +kernel
theorem dL_law_295 : decode cL_law 295 = .ok (.iconst 0, 1) := by decide +kernel
theorem dL_law_296 : decode cL_law 296 = .ok (.laload, 1) := by decide +kernel
theorem dL_law_297 : decode cL_law 297 = .ok (.iload 6, 2) := by decide +kernel
theorem dL_law_299 : decode cL_law 299 = .ok (.i2l, 1) := by decide +kernel
theorem dL_law_300 : decode cL_law 300 = .ok (.lcmp, 1) := by decide +kernel
theorem dL_law_301 : decode cL_law 301 = .ok (.ifCond .eq 5, 3) := by decide +kernel
theorem dL_law_304 : decode cL_law 304 = .ok (.iconst 0, 1) := by decide +kernel
theorem dL_law_305 : decode cL_law 305 = .ok (.ireturn, 1) := by decide +kernel
theorem dL_law_306 : decode cL_law 306 = .ok (.goto 1385, 3) := by decide +kernel
theorem dL_law_309 : decode cL_law 309 = .ok (.aload_n 1, 1) := by decide +kernel
theorem dL_law_310 : decode cL_law 310 = .ok (.invokevirtual 98, 3) := by decide +kernel
theorem dL_law_313 : decode cL_law 313 = .ok (.aload_n 2, 1) := by decide +kernel
theorem dL_law_314 : decode cL_law 314 = .ok (.invokevirtual 101, 3) := by decide +kernel
theorem dL_law_317 : decode cL_law 317 = .ok (.if_icmp .eq 1374, 3) := by decide +kernel
theorem dL_law_320 : decode cL_law 320 = .ok (.iconst 0, 1) := by decide +kernel
theorem dL_law_321 : decode cL_law 321 = .ok (.ireturn, 1) := by decide +kernel
theorem dL_law_322 : decode cL_law 322 = .ok (.aload_n 1, 1) := by decide +kernel
theorem dL_law_323 : decode cL_law 323 = .ok (.aload_n 0, 1) := by decide +kernel
theorem dL_law_324 : decode cL_law 324 = .ok (.iload 4, 2) := by decide +kernel
theorem dL_law_326 : decode cL_law 326 = .ok (.iconst 1, 1) := by decide +kernel
theorem dL_law_327 : decode cL_law 327 = .ok (.iadd, 1) := by decide +kernel
theorem dL_law_328 : decode cL_law 328 = .ok (.iaload, 1) := by decide +kernel
theorem dL_law_329 : decode cL_law 329 = .ok (.aload_n 3, 1) := by decide +kernel
theorem dL_law_330 : decode cL_law 330 = .ok (.invokestatic 102, 3) := by decide +kernel
theorem dL_law_333 : decode cL_law 333 = .ok (.istore 5, 2) := by decide +kernel
theorem dL_law_335 : decode cL_law 335 = .ok (.aload_n 2, 1) := by decide +kernel
theorem dL_law_336 : decode cL_law 336 = .ok (.aload_n 0, 1) := by decide +kernel
theorem dL_law_337 : decode cL_law 337 = .ok (.iload 4, 2) := by decide +kernel
theorem dL_law_339 : decode cL_law 339 = .ok (.iconst 1, 1) := by decide +kernel
theorem dL_law_340 : decode cL_law 340 = .ok (.iadd, 1) := by decide +kernel
theorem dL_law_341 : decode cL_law 341 = .ok (.iaload, 1) := by decide +kernel
theorem dL_law_342 : decode cL_law 342 = .ok (.invokevirtual 104, 3) := by decide +kernel
theorem dL_law_345 : decode cL_law 345 = .ok (.istore 6, 2) := by decide +kernel
theorem dL_law_347 : decode cL_law 347 = .ok (.aload_n 2, 1) := by decide +kernel
theorem dL_law_348 : decode cL_law 348 = .ok (.invokevirtual 94, 3) := by decide +kernel
theorem dL_law_351 : decode cL_law 351 = .ok (.iload 5, 2) := by decide +kernel
theorem dL_law_353 : decode cL_law 353 = .ok (.if_icmp .eq 5, 3) := by decide +kernel
theorem dL_law_356 : decode cL_law 356 = .ok (.iconst 0, 1) := by decide +kernel
theorem dL_law_357 : decode cL_law 357 = .ok (.ireturn, 1) := by decide +kernel
theorem dL_law_358 : decode cL_law 358 = .ok (.iload 5, 2) := by decide +kernel
theorem dL_law_360 : decode cL_law 360 = .ok (.ifCond .ne 15, 3) := by decide +kernel
theorem dL_law_363 : decode cL_law 363 = .ok (.aload_n 3, 1) := by decide +kernel
theorem dL_law_364 : decode cL_law 364 = .ok (.iconst 0, 1) := by decide +kernel
theorem dL_law_365 : decode cL_law 365 = .ok (.laload, 1) := by decide +kernel
theorem dL_law_366 : decode cL_law 366 = .ok (.iload 6, 2) := by decide +kernel
theorem dL_law_368 : decode cL_law 368 = .ok (.i2l, 1) := by decide +kernel
theorem dL_law_369 : decode cL_law 369 = .ok (.lcmp, 1) := by decide +kernel
theorem dL_law_370 : decode cL_law 370 = .ok (.ifCond .eq 5, 3) := by decide +kernel
theorem dL_law_373 : decode cL_law 373 = .ok (.iconst 0, 1) := by decide +kernel
theorem dL_law_374 : decode cL_law 374 = .ok (.ireturn, 1) := by decide +kernel
theorem dL_law_375 : decode cL_law 375 = .ok (.goto 1316, 3) := by decide +kernel
theorem dL_law_378 : decode cL_law 378 = .ok (.aload_n 1, 1) := by decide +kernel
theorem dL_law_379 : decode cL_law 379 = .ok (.aload_n 0, 1) := by decide +kernel
theorem dL_law_380 : decode cL_law 380 = .ok (.iload 4, 2) := by decide +kernel
theorem dL_law_382 : decode cL_law 382 = .ok (.iconst 1, 1) := by decide +kernel
theorem dL_law_383 : decode cL_law 383 = .ok (.iadd, 1) := by decide +kernel
theorem dL_law_384 : decode cL_law 384 = .ok (.iaload, 1) := by decide +kernel
theorem dL_law_385 : decode cL_law 385 = .ok (.aload_n 0, 1) := by decide +kernel
theorem dL_law_386 : decode cL_law 386 = .ok (.iload 4, 2) := by decide +kernel
theorem dL_law_388 : decode cL_law 388 = .ok (.iconst 2, 1) := by decide +kernel
theorem dL_law_389 : decode cL_law 389 = .ok (.iadd, 1) := by decide +kernel
theorem dL_law_390 : decode cL_law 390 = .ok (.iaload, 1) := by decide +kernel
theorem dL_law_391 : decode cL_law 391 = .ok (.aload_n 3, 1) := by decide +kernel
theorem dL_law_392 : decode cL_law 392 = .ok (.invokestatic 105, 3) := by decide +kernel
theorem dL_law_395 : decode cL_law 395 = .ok (.istore 5, 2) := by decide +kernel
theorem dL_law_397 : decode cL_law 397 = .ok (.aload_n 2, 1) := by decide +kernel
theorem dL_law_398 : decode cL_law 398 = .ok (.aload_n 0, 1) := by decide +kernel
theorem dL_law_399 : decode cL_law 399 = .ok (.iload 4, 2) := by decide +kernel
theorem dL_law_401 : decode cL_law 401 = .ok (.iconst 1, 1) := by decide +kernel
theorem dL_law_402 : decode cL_law 402 = .ok (.iadd, 1) := by decide +kernel
theorem dL_law_403 : decode cL_law 403 = .ok (.iaload, 1) := by decide +kernel
theorem dL_law_404 : decode cL_law 404 = .ok (.aload_n 0, 1) := by decide +kernel
theorem dL_law_405 : decode cL_law 405 = .ok (.iload 4, 2) := by decide +kernel
theorem dL_law_407 : decode cL_law 407 = .ok (.iconst 2, 1) := by decide +kernel
theorem dL_law_408 : decode cL_law 408 = .ok (.iadd, 1) := by decide +kernel
theorem dL_law_409 : decode cL_law 409 = .ok (.iaload, 1) := by decide +kernel
theorem dL_law_410 : decode cL_law 410 = .ok (.invokevirtual 108, 3) := by decide +kernel
theorem dL_law_413 : decode cL_law 413 = .ok (.istore 6, 2) := by decide +kernel
theorem dL_law_415 : decode cL_law 415 = .ok (.aload_n 2, 1) := by decide +kernel
theorem dL_law_416 : decode cL_law 416 = .ok (.invokevirtual 94, 3) := by decide +kernel
theorem dL_law_419 : decode cL_law 419 = .ok (.iload 5, 2) := by decide +kernel
theorem dL_law_421 : decode cL_law 421 = .ok (.if_icmp .eq 5, 3) := by decide +kernel
theorem dL_law_424 : decode cL_law 424 = .ok (.iconst 0, 1) := by decide +kernel
theorem dL_law_425 : decode cL_law 425 = .ok (.ireturn, 1) := by decide +kernel
theorem dL_law_426 : decode cL_law 426 = .ok (.iload 5, 2) := by decide +kernel
theorem dL_law_428 : decode cL_law 428 = .ok (.ifCond .ne 15, 3) := by decide +kernel
theorem dL_law_431 : decode cL_law 431 = .ok (.aload_n 3, 1) := by decide +kernel
theorem dL_law_432 : decode cL_law 432 = .ok (.iconst 0, 1) := by decide +kernel
theorem dL_law_433 : decode cL_law 433 = .ok (.laload, 1) := by decide +kernel
theorem dL_law_434 : decode cL_law 434 = .ok (.iload 6, 2) := by decide +kernel
theorem dL_law_436 : decode cL_law 436 = .ok (.i2l, 1) := by decide +kernel
theorem dL_law_437 : decode cL_law 437 = .ok (.lcmp, 1) := by decide +kernel
theorem dL_law_438 : decode cL_law 438 = .ok (.ifCond .eq 5, 3) := by decide +kernel
theorem dL_law_441 : decode cL_law 441 = .ok (.iconst 0, 1) := by decide +kernel
theorem dL_law_442 : decode cL_law 442 = .ok (.ireturn, 1) := by decide +kernel
theorem dL_law_443 : decode cL_law 443 = .ok (.goto 1248, 3) := by decide +kernel
theorem dL_law_446 : decode cL_law 446 = .ok (.aload_n 1, 1) := by decide +kernel
theorem dL_law_447 : decode cL_law 447 = .ok (.aload_n 0, 1) := by decide +kernel
theorem dL_law_448 : decode cL_law 448 = .ok (.iload 4, 2) := by decide +kernel
theorem dL_law_450 : decode cL_law 450 = .ok (.iconst 1, 1) := by decide +kernel
theorem dL_law_451 : decode cL_law 451 = .ok (.iadd, 1) := by decide +kernel
theorem dL_law_452 : decode cL_law 452 = .ok (.iaload, 1) := by decide +kernel
theorem dL_law_453 : decode cL_law 453 = .ok (.aload_n 0, 1) := by decide +kernel
theorem dL_law_454 : decode cL_law 454 = .ok (.iload 4, 2) := by decide +kernel
theorem dL_law_456 : decode cL_law 456 = .ok (.iconst 2, 1) := by decide +kernel
theorem dL_law_457 : decode cL_law 457 = .ok (.iadd, 1) := by decide +kernel
theorem dL_law_458 : decode cL_law 458 = .ok (.iaload, 1) := by decide +kernel
theorem dL_law_459 : decode cL_law 459 = .ok (.aload_n 3, 1) := by decide +kernel
theorem dL_law_460 : decode cL_law 460 = .ok (.invokestatic 109, 3) := by decide +kernel
theorem dL_law_463 : decode cL_law 463 = .ok (.istore 5, 2) := by decide +kernel
theorem dL_law_465 : decode cL_law 465 = .ok (.aload_n 2, 1) := by decide +kernel
theorem dL_law_466 : decode cL_law 466 = .ok (.aload_n 0, 1) := by decide +kernel
theorem dL_law_467 : decode cL_law 467 = .ok (.iload 4, 2) := by decide +kernel
theorem dL_law_469 : decode cL_law 469 = .ok (.iconst 1, 1) := by decide +kernel
theorem dL_law_470 : decode cL_law 470 = .ok (.iadd, 1) := by decide +kernel
theorem dL_law_471 : decode cL_law 471 = .ok (.iaload, 1) := by decide +kernel
theorem dL_law_472 : decode cL_law 472 = .ok (.aload_n 0, 1) := by decide +kernel
theorem dL_law_473 : decode cL_law 473 = .ok (.iload 4, 2) := by decide +kernel
theorem dL_law_475 : decode cL_law 475 = .ok (.iconst 2, 1) := by decide +kernel
theorem dL_law_476 : decode cL_law 476 = .ok (.iadd, 1) := by decide +kernel
theorem dL_law_477 : decode cL_law 477 = .ok (.iaload, 1) := by decide +kernel
theorem dL_law_478 : decode cL_law 478 = .ok (.invokevirtual 111, 3) := by decide +kernel
theorem dL_law_481 : decode cL_law 481 = .ok (.istore 6, 2) := by decide +kernel
theorem dL_law_483 : decode cL_law 483 = .ok (.aload_n 2, 1) := by decide +kernel
theorem dL_law_484 : decode cL_law 484 = .ok (.invokevirtual 94, 3) := by decide +kernel
theorem dL_law_487 : decode cL_law 487 = .ok (.iload 5, 2) := by decide +kernel
theorem dL_law_489 : decode cL_law 489 = .ok (.if_icmp .eq 5, 3) := by decide +kernel
theorem dL_law_492 : decode cL_law 492 = .ok (.iconst 0, 1) := by decide +kernel
theorem dL_law_493 : decode cL_law 493 = .ok (.ireturn, 1) := by decide +kernel
theorem dL_law_494 : decode cL_law 494 = .ok (.iload 5, 2) := by decide +kernel
theorem dL_law_496 : decode cL_law 496 = .ok (.ifCond .ne 15, 3) := by decide +kernel
theorem dL_law_499 : decode cL_law 499 = .ok (.aload_n 3, 1) := by decide +kernel
theorem dL_law_500 : decode cL_law 500 = .ok (.iconst 0, 1) := by decide +kernel
theorem dL_law_501 : decode cL_law 501 = .ok (.laload, 1) := by decide +kernel
theorem dL_law_502 : decode cL_law 502 = .ok (.iload 6, 2) := by decide +kernel
theorem dL_law_504 : decode cL_law 504 = .ok (.i2l, 1) := by decide +kernel
theorem dL_law_505 : decode cL_law 505 = .ok (.lcmp, 1) := by decide +kernel
theorem dL_law_506 : decode cL_law 506 = .ok (.ifCond .eq 5, 3) := by decide +kernel
theorem dL_law_509 : decode cL_law 509 = .ok (.iconst 0, 1) := by decide +kernel
theorem dL_law_510 : decode cL_law 510 = .ok (.ireturn, 1) := by decide +kernel
theorem dL_law_511 : decode cL_law 511 = .ok (.goto 1180, 3) := by decide +kernel
theorem dL_law_514 : decode cL_law 514 = .ok (.aload_n 1, 1) := by decide +kernel
theorem dL_law_515 : decode cL_law 515 = .ok (.aload_n 0, 1) := by decide +kernel
theorem dL_law_516 : decode cL_law 516 = .ok (.iload 4, 2) := by decide +kernel
theorem dL_law_518 : decode cL_law 518 = .ok (.iconst 1, 1) := by decide +kernel
theorem dL_law_519 : decode cL_law 519 = .ok (.iadd, 1) := by decide +kernel
theorem dL_law_520 : decode cL_law 520 = .ok (.iaload, 1) := by decide +kernel
theorem dL_law_521 : decode cL_law 521 = .ok (.aload_n 0, 1) := by decide +kernel
theorem dL_law_522 : decode cL_law 522 = .ok (.iload 4, 2) := by decide +kernel
theorem dL_law_524 : decode cL_law 524 = .ok (.iconst 2, 1) := by decide +kernel
theorem dL_law_525 : decode cL_law 525 = .ok (.iadd, 1) := by decide +kernel
theorem dL_law_526 : decode cL_law 526 = .ok (.iaload, 1) := by decide +kernel
theorem dL_law_527 : decode cL_law 527 = .ok (.aload_n 3, 1) := by decide +kernel
theorem dL_law_528 : decode cL_law 528 = .ok (.invokestatic 112, 3) := by decide +kernel
theorem dL_law_531 : decode cL_law 531 = .ok (.istore 5, 2) := by decide +kernel
theorem dL_law_533 : decode cL_law 533 = .ok (.aload_n 2, 1) := by decide +kernel
theorem dL_law_534 : decode cL_law 534 = .ok (.aload_n 0, 1) := by decide +kernel
theorem dL_law_535 : decode cL_law 535 = .ok (.iload 4, 2) := by decide +kernel
theorem dL_law_537 : decode cL_law 537 = .ok (.iconst 1, 1) := by decide +kernel
theorem dL_law_538 : decode cL_law 538 = .ok (.iadd, 1) := by decide +kernel
theorem dL_law_539 : decode cL_law 539 = .ok (.iaload, 1) := by decide +kernel
theorem dL_law_540 : decode cL_law 540 = .ok (.aload_n 0, 1) := by decide +kernel
theorem dL_law_541 : decode cL_law 541 = .ok (.iload 4, 2) := by decide +kernel
theorem dL_law_543 : decode cL_law 543 = .ok (.iconst 2, 1) := by decide +kernel
theorem dL_law_544 : decode cL_law 544 = .ok (.iadd, 1) := by decide +kernel
theorem dL_law_545 : decode cL_law 545 = .ok (.iaload, 1) := by decide +kernel
theorem dL_law_546 : decode cL_law 546 = .ok (.invokevirtual 114, 3) := by decide +kernel
theorem dL_law_549 : decode cL_law 549 = .ok (.istore 6, 2) := by decide +kernel
theorem dL_law_551 : decode cL_law 551 = .ok (.aload_n 2, 1) := by decide +kernel
theorem dL_law_552 : decode cL_law 552 = .ok (.invokevirtual 94, 3) := by decide +kernel
theorem dL_law_555 : decode cL_law 555 = .ok (.iload 5, 2) := by decide +kernel
theorem dL_law_557 : decode cL_law 557 = .ok (.if_icmp .eq 5, 3) := by decide +kernel
theorem dL_law_560 : decode cL_law 560 = .ok (.iconst 0, 1) := by decide +kernel
theorem dL_law_561 : decode cL_law 561 = .ok (.ireturn, 1) := by decide +kernel
theorem dL_law_562 : decode cL_law 562 = .ok (.iload 5, 2) := by decide +kernel
theorem dL_law_564 : decode cL_law 564 = .ok (.ifCond .ne 15, 3) := by decide +kernel
theorem dL_law_567 : decode cL_law 567 = .ok (.aload_n 3, 1) := by decide +kernel
theorem dL_law_568 : decode cL_law 568 = .ok (.iconst 0, 1) := by decide +kernel
theorem dL_law_569 : decode cL_law 569 = .ok (.laload, 1) := by decide +kernel
theorem dL_law_570 : decode cL_law 570 = .ok (.iload 6, 2) := by decide +kernel
theorem dL_law_572 : decode cL_law 572 = .ok (.i2l, 1) := by decide +kernel
theorem dL_law_573 : decode cL_law 573 = .ok (.lcmp, 1) := by decide +kernel
theorem dL_law_574 : decode cL_law 574 = .ok (.ifCond .eq 5, 3) := by decide +kernel
theorem dL_law_577 : decode cL_law 577 = .ok (.iconst 0, 1) := by decide +kernel
theorem dL_law_578 : decode cL_law 578 = .ok (.ireturn, 1) := by decide +kernel
theorem dL_law_579 : decode cL_law 579 = .ok (.goto 1112, 3) := by decide +kernel
theorem dL_law_582 : decode cL_law 582 = .ok (.aload_n 1, 1) := by decide +kernel
theorem dL_law_583 : decode cL_law 583 = .ok (.aload_n 0, 1) := by decide +kernel
theorem dL_law_584 : decode cL_law 584 = .ok (.iload 4, 2) := by decide +kernel
theorem dL_law_586 : decode cL_law 586 = .ok (.iconst 1, 1) := by decide +kernel
theorem dL_law_587 : decode cL_law 587 = .ok (.iadd, 1) := by decide +kernel
theorem dL_law_588 : decode cL_law 588 = .ok (.iaload, 1) := by decide +kernel
theorem dL_law_589 : decode cL_law 589 = .ok (.aload_n 0, 1) := by decide +kernel
theorem dL_law_590 : decode cL_law 590 = .ok (.iload 4, 2) := by decide +kernel
theorem dL_law_592 : decode cL_law 592 = .ok (.iconst 2, 1) := by decide +kernel
theorem dL_law_593 : decode cL_law 593 = .ok (.iadd, 1) := by decide +kernel
theorem dL_law_594 : decode cL_law 594 = .ok (.iaload, 1) := by decide +kernel
theorem dL_law_595 : decode cL_law 595 = .ok (.aload_n 3, 1) := by decide +kernel
theorem dL_law_596 : decode cL_law 596 = .ok (.invokestatic 115, 3) := by decide +kernel
theorem dL_law_599 : decode cL_law 599 = .ok (.istore 5, 2) := by decide +kernel
theorem dL_law_601 : decode cL_law 601 = .ok (.aload_n 2, 1) := by decide +kernel
theorem dL_law_602 : decode cL_law 602 = .ok (.aload_n 0, 1) := by decide +kernel
theorem dL_law_603 : decode cL_law 603 = .ok (.iload 4, 2) := by decide +kernel
theorem dL_law_605 : decode cL_law 605 = .ok (.iconst 1, 1) := by decide +kernel
theorem dL_law_606 : decode cL_law 606 = .ok (.iadd, 1) := by decide +kernel
theorem dL_law_607 : decode cL_law 607 = .ok (.iaload, 1) := by decide +kernel
theorem dL_law_608 : decode cL_law 608 = .ok (.aload_n 0, 1) := by decide +kernel
theorem dL_law_609 : decode cL_law 609 = .ok (.iload 4, 2) := by decide +kernel
theorem dL_law_611 : decode cL_law 611 = .ok (.iconst 2, 1) := by decide +kernel
theorem dL_law_612 : decode cL_law 612 = .ok (.iadd, 1) := by decide +kernel
theorem dL_law_613 : decode cL_law 613 = .ok (.iaload, 1) := by decide +kernel
theorem dL_law_614 : decode cL_law 614 = .ok (.invokevirtual 117, 3) := by decide +kernel
theorem dL_law_617 : decode cL_law 617 = .ok (.istore 6, 2) := by decide +kernel
theorem dL_law_619 : decode cL_law 619 = .ok (.aload_n 2, 1) := by decide +kernel
theorem dL_law_620 : decode cL_law 620 = .ok (.invokevirtual 94, 3) := by decide +kernel
theorem dL_law_623 : decode cL_law 623 = .ok (.iload 5, 2) := by decide +kernel
theorem dL_law_625 : decode cL_law 625 = .ok (.if_icmp .eq 5, 3) := by decide +kernel
theorem dL_law_628 : decode cL_law 628 = .ok (.iconst 0, 1) := by decide +kernel
theorem dL_law_629 : decode cL_law 629 = .ok (.ireturn, 1) := by decide +kernel
theorem dL_law_630 : decode cL_law 630 = .ok (.iload 5, 2) := by decide +kernel
theorem dL_law_632 : decode cL_law 632 = .ok (.ifCond .ne 22, 3) := by decide +kernel
theorem dL_law_635 : decode cL_law 635 = .ok (.aload_n 3, 1) := by decide +kernel
theorem dL_law_636 : decode cL_law 636 = .ok (.iconst 0, 1) := by decide +kernel
theorem dL_law_637 : decode cL_law 637 = .ok (.laload, 1) := by decide +kernel
theorem dL_law_638 : decode cL_law 638 = .ok (.iload 6, 2) := by decide +kernel
theorem dL_law_640 : decode cL_law 640 = .ok (.ifCond .eq 7, 3) := by decide +kernel
theorem dL_law_643 : decode cL_law 643 = .ok (.lconst 1, 1) := by decide +kernel
theorem dL_law_644 : decode cL_law 644 = .ok (.goto 4, 3) := by decide +kernel
theorem dL_law_647 : decode cL_law 647 = .ok (.lconst 0, 1) := by decide +kernel
theorem dL_law_648 : decode cL_law 648 = .ok (.lcmp, 1) := by decide +kernel
theorem dL_law_649 : decode cL_law 649 = .ok (.ifCond .eq 5, 3) := by decide +kernel
theorem dL_law_652 : decode cL_law 652 = .ok (.iconst 0, 1) := by decide +kernel
theorem dL_law_653 : decode cL_law 653 = .ok (.ireturn, 1) := by decide +kernel
theorem dL_law_654 : decode cL_law 654 = .ok (.goto 1037, 3) := by decide +kernel
theorem dL_law_657 : decode cL_law 657 = .ok (.aload_n 1, 1) := by decide +kernel
theorem dL_law_658 : decode cL_law 658 = .ok (.aload_n 0, 1) := by decide +kernel
theorem dL_law_659 : decode cL_law 659 = .ok (.iload 4, 2) := by decide +kernel
theorem dL_law_661 : decode cL_law 661 = .ok (.iconst 1, 1) := by decide +kernel
theorem dL_law_662 : decode cL_law 662 = .ok (.iadd, 1) := by decide +kernel
theorem dL_law_663 : decode cL_law 663 = .ok (.iaload, 1) := by decide +kernel
theorem dL_law_664 : decode cL_law 664 = .ok (.aload_n 0, 1) := by decide +kernel
theorem dL_law_665 : decode cL_law 665 = .ok (.iload 4, 2) := by decide +kernel
theorem dL_law_667 : decode cL_law 667 = .ok (.iconst 2, 1) := by decide +kernel
theorem dL_law_668 : decode cL_law 668 = .ok (.iadd, 1) := by decide +kernel
theorem dL_law_669 : decode cL_law 669 = .ok (.iaload, 1) := by decide +kernel
theorem dL_law_670 : decode cL_law 670 = .ok (.aload_n 3, 1) := by decide +kernel
theorem dL_law_671 : decode cL_law 671 = .ok (.invokestatic 118, 3) := by decide +kernel
theorem dL_law_674 : decode cL_law 674 = .ok (.istore 5, 2) := by decide +kernel
theorem dL_law_676 : decode cL_law 676 = .ok (.aload_n 2, 1) := by decide +kernel
theorem dL_law_677 : decode cL_law 677 = .ok (.aload_n 0, 1) := by decide +kernel
theorem dL_law_678 : decode cL_law 678 = .ok (.iload 4, 2) := by decide +kernel
theorem dL_law_680 : decode cL_law 680 = .ok (.iconst 1, 1) := by decide +kernel
theorem dL_law_681 : decode cL_law 681 = .ok (.iadd, 1) := by decide +kernel
theorem dL_law_682 : decode cL_law 682 = .ok (.iaload, 1) := by decide +kernel
theorem dL_law_683 : decode cL_law 683 = .ok (.aload_n 0, 1) := by decide +kernel
theorem dL_law_684 : decode cL_law 684 = .ok (.iload 4, 2) := by decide +kernel
theorem dL_law_686 : decode cL_law 686 = .ok (.iconst 2, 1) := by decide +kernel
theorem dL_law_687 : decode cL_law 687 = .ok (.iadd, 1) := by decide +kernel
theorem dL_law_688 : decode cL_law 688 = .ok (.iaload, 1) := by decide +kernel
theorem dL_law_689 : decode cL_law 689 = .ok (.invokevirtual 120, 3) := by decide +kernel
theorem dL_law_692 : decode cL_law 692 = .ok (.istore 6, 2) := by decide +kernel
theorem dL_law_694 : decode cL_law 694 = .ok (.aload_n 2, 1) := by decide +kernel
theorem dL_law_695 : decode cL_law 695 = .ok (.invokevirtual 94, 3) := by decide +kernel
theorem dL_law_698 : decode cL_law 698 = .ok (.iload 5, 2) := by decide +kernel
theorem dL_law_700 : decode cL_law 700 = .ok (.if_icmp .eq 5, 3) := by decide +kernel
theorem dL_law_703 : decode cL_law 703 = .ok (.iconst 0, 1) := by decide +kernel
theorem dL_law_704 : decode cL_law 704 = .ok (.ireturn, 1) := by decide +kernel
theorem dL_law_705 : decode cL_law 705 = .ok (.iload 5, 2) := by decide +kernel
theorem dL_law_707 : decode cL_law 707 = .ok (.ifCond .ne 15, 3) := by decide +kernel
theorem dL_law_710 : decode cL_law 710 = .ok (.aload_n 3, 1) := by decide +kernel
theorem dL_law_711 : decode cL_law 711 = .ok (.iconst 0, 1) := by decide +kernel
theorem dL_law_712 : decode cL_law 712 = .ok (.laload, 1) := by decide +kernel
theorem dL_law_713 : decode cL_law 713 = .ok (.iload 6, 2) := by decide +kernel
theorem dL_law_715 : decode cL_law 715 = .ok (.i2l, 1) := by decide +kernel
theorem dL_law_716 : decode cL_law 716 = .ok (.lcmp, 1) := by decide +kernel
theorem dL_law_717 : decode cL_law 717 = .ok (.ifCond .eq 5, 3) := by decide +kernel
theorem dL_law_720 : decode cL_law 720 = .ok (.iconst 0, 1) := by decide +kernel
theorem dL_law_721 : decode cL_law 721 = .ok (.ireturn, 1) := by decide +kernel
theorem dL_law_722 : decode cL_law 722 = .ok (.goto 969, 3) := by decide +kernel
theorem dL_law_725 : decode cL_law 725 = .ok (.aload_n 1, 1) := by decide +kernel
theorem dL_law_726 : decode cL_law 726 = .ok (.invokevirtual 121, 3) := by decide +kernel
theorem dL_law_729 : decode cL_law 729 = .ok (.aload_n 2, 1) := by decide +kernel
theorem dL_law_730 : decode cL_law 730 = .ok (.invokevirtual 124, 3) := by decide +kernel
theorem dL_law_733 : decode cL_law 733 = .ok (.if_icmp .eq 958, 3) := by decide +kernel
theorem dL_law_736 : decode cL_law 736 = .ok (.iconst 0, 1) := by decide +kernel
theorem dL_law_737 : decode cL_law 737 = .ok (.ireturn, 1) := by decide +kernel
theorem dL_law_738 : decode cL_law 738 = .ok (.aload_n 1, 1) := by decide +kernel
theorem dL_law_739 : decode cL_law 739 = .ok (.invokevirtual 125, 3) := by decide +kernel
theorem dL_law_742 : decode cL_law 742 = .ok (.aload_n 2, 1) := by decide +kernel
theorem dL_law_743 : decode cL_law 743 = .ok (.invokevirtual 128, 3) := by decide +kernel
theorem dL_law_746 : decode cL_law 746 = .ok (.if_icmp .eq 945, 3) := by decide +kernel
theorem dL_law_749 : decode cL_law 749 = .ok (.iconst 0, 1) := by decide +kernel
theorem dL_law_750 : decode cL_law 750 = .ok (.ireturn, 1) := by decide +kernel
theorem dL_law_751 : decode cL_law 751 = .ok (.aload_n 1, 1) := by decide +kernel
theorem dL_law_752 : decode cL_law 752 = .ok (.invokevirtual 129, 3) := by decide +kernel
theorem dL_law_755 : decode cL_law 755 = .ok (.aload_n 2, 1) := by decide +kernel
theorem dL_law_756 : decode cL_law 756 = .ok (.invokevirtual 132, 3) := by decide +kernel
theorem dL_law_759 : decode cL_law 759 = .ok (.if_icmp .eq 932, 3) := by decide +kernel
theorem dL_law_762 : decode cL_law 762 = .ok (.iconst 0, 1) := by decide +kernel
theorem dL_law_763 : decode cL_law 763 = .ok (.ireturn, 1) := by decide +kernel
theorem dL_law_764 : decode cL_law 764 = .ok (.aload_n 1, 1) := by decide +kernel
theorem dL_law_765 : decode cL_law 765 = .ok (.aload_n 0, 1) := by decide +kernel
theorem dL_law_766 : decode cL_law 766 = .ok (.iload 4, 2) := by decide +kernel
theorem dL_law_768 : decode cL_law 768 = .ok (.iconst 1, 1) := by decide +kernel
theorem dL_law_769 : decode cL_law 769 = .ok (.iadd, 1) := by decide +kernel
theorem dL_law_770 : decode cL_law 770 = .ok (.iaload, 1) := by decide +kernel
theorem dL_law_771 : decode cL_law 771 = .ok (.aload_n 0, 1) := by decide +kernel
theorem dL_law_772 : decode cL_law 772 = .ok (.iload 4, 2) := by decide +kernel
theorem dL_law_774 : decode cL_law 774 = .ok (.iconst 2, 1) := by decide +kernel
theorem dL_law_775 : decode cL_law 775 = .ok (.iadd, 1) := by decide +kernel
theorem dL_law_776 : decode cL_law 776 = .ok (.iaload, 1) := by decide +kernel
theorem dL_law_777 : decode cL_law 777 = .ok (.aload_n 3, 1) := by decide +kernel
theorem dL_law_778 : decode cL_law 778 = .ok (.invokestatic 133, 3) := by decide +kernel
theorem dL_law_781 : decode cL_law 781 = .ok (.istore 5, 2) := by decide +kernel
theorem dL_law_783 : decode cL_law 783 = .ok (.aload_n 2, 1) := by decide +kernel
theorem dL_law_784 : decode cL_law 784 = .ok (.aload_n 0, 1) := by decide +kernel
theorem dL_law_785 : decode cL_law 785 = .ok (.iload 4, 2) := by decide +kernel
theorem dL_law_787 : decode cL_law 787 = .ok (.iconst 1, 1) := by decide +kernel
theorem dL_law_788 : decode cL_law 788 = .ok (.iadd, 1) := by decide +kernel
theorem dL_law_789 : decode cL_law 789 = .ok (.iaload, 1) := by decide +kernel
theorem dL_law_790 : decode cL_law 790 = .ok (.aload_n 0, 1) := by decide +kernel
theorem dL_law_791 : decode cL_law 791 = .ok (.iload 4, 2) := by decide +kernel
theorem dL_law_793 : decode cL_law 793 = .ok (.iconst 2, 1) := by decide +kernel
theorem dL_law_794 : decode cL_law 794 = .ok (.iadd, 1) := by decide +kernel
theorem dL_law_795 : decode cL_law 795 = .ok (.iaload, 1) := by decide +kernel
theorem dL_law_796 : decode cL_law 796 = .ok (.invokevirtual 135, 3) := by decide +kernel
theorem dL_law_799 : decode cL_law 799 = .ok (.istore 6, 2) := by decide +kernel
theorem dL_law_801 : decode cL_law 801 = .ok (.aload_n 2, 1) := by decide +kernel
theorem dL_law_802 : decode cL_law 802 = .ok (.invokevirtual 94, 3) := by decide +kernel
theorem dL_law_805 : decode cL_law 805 = .ok (.iload 5, 2) := by decide +kernel
theorem dL_law_807 : decode cL_law 807 = .ok (.if_icmp .eq 5, 3) := by decide +kernel
theorem dL_law_810 : decode cL_law 810 = .ok (.iconst 0, 1) := by decide +kernel
theorem dL_law_811 : decode cL_law 811 = .ok (.ireturn, 1) := by decide +kernel
theorem dL_law_812 : decode cL_law 812 = .ok (.iload 5, 2) := by decide +kernel
theorem dL_law_814 : decode cL_law 814 = .ok (.ifCond .ne 15, 3) := by decide +kernel
theorem dL_law_817 : decode cL_law 817 = .ok (.aload_n 3, 1) := by decide +kernel
theorem dL_law_818 : decode cL_law 818 = .ok (.iconst 0, 1) := by decide +kernel
theorem dL_law_819 : decode cL_law 819 = .ok (.laload, 1) := by decide +kernel
theorem dL_law_820 : decode cL_law 820 = .ok (.iload 6, 2) := by decide +kernel
theorem dL_law_822 : decode cL_law 822 = .ok (.i2l, 1) := by decide +kernel
theorem dL_law_823 : decode cL_law 823 = .ok (.lcmp, 1) := by decide +kernel
theorem dL_law_824 : decode cL_law 824 = .ok (.ifCond .eq 5, 3) := by decide +kernel
theorem dL_law_827 : decode cL_law 827 = .ok (.iconst 0, 1) := by decide +kernel
theorem dL_law_828 : decode cL_law 828 = .ok (.ireturn, 1) := by decide +kernel
theorem dL_law_829 : decode cL_law 829 = .ok (.goto 862, 3) := by decide +kernel
theorem dL_law_832 : decode cL_law 832 = .ok (.aload_n 1, 1) := by decide +kernel
theorem dL_law_833 : decode cL_law 833 = .ok (.invokevirtual 136, 3) := by decide +kernel
theorem dL_law_836 : decode cL_law 836 = .ok (.aload_n 2, 1) := by decide +kernel
theorem dL_law_837 : decode cL_law 837 = .ok (.invokevirtual 139, 3) := by decide +kernel
theorem dL_law_840 : decode cL_law 840 = .ok (.if_icmp .eq 851, 3) := by decide +kernel
theorem dL_law_843 : decode cL_law 843 = .ok (.iconst 0, 1) := by decide +kernel
theorem dL_law_844 : decode cL_law 844 = .ok (.ireturn, 1) := by decide +kernel
theorem dL_law_845 : decode cL_law 845 = .ok (.aload_n 1, 1) := by decide +kernel
theorem dL_law_846 : decode cL_law 846 = .ok (.aload_n 0, 1) := by decide +kernel
theorem dL_law_847 : decode cL_law 847 = .ok (.iload 4, 2) := by decide +kernel
theorem dL_law_849 : decode cL_law 849 = .ok (.iconst 1, 1) := by decide +kernel
theorem dL_law_850 : decode cL_law 850 = .ok (.iadd, 1) := by decide +kernel
theorem dL_law_851 : decode cL_law 851 = .ok (.iaload, 1) := by decide +kernel
theorem dL_law_852 : decode cL_law 852 = .ok (.aload_n 3, 1) := by decide +kernel
theorem dL_law_853 : decode cL_law 853 = .ok (.invokestatic 140, 3) := by decide +kernel
theorem dL_law_856 : decode cL_law 856 = .ok (.istore 5, 2) := by decide +kernel
theorem dL_law_858 : decode cL_law 858 = .ok (.aload_n 2, 1) := by decide +kernel
theorem dL_law_859 : decode cL_law 859 = .ok (.aload_n 0, 1) := by decide +kernel
theorem dL_law_860 : decode cL_law 860 = .ok (.iload 4, 2) := by decide +kernel
theorem dL_law_862 : decode cL_law 862 = .ok (.iconst 1, 1) := by decide +kernel
theorem dL_law_863 : decode cL_law 863 = .ok (.iadd, 1) := by decide +kernel
theorem dL_law_864 : decode cL_law 864 = .ok (.iaload, 1) := by decide +kernel
theorem dL_law_865 : decode cL_law 865 = .ok (.invokevirtual 142, 3) := by decide +kernel
theorem dL_law_868 : decode cL_law 868 = .ok (.istore 6, 2) := by decide +kernel
theorem dL_law_870 : decode cL_law 870 = .ok (.aload_n 2, 1) := by decide +kernel
theorem dL_law_871 : decode cL_law 871 = .ok (.invokevirtual 94, 3) := by decide +kernel
theorem dL_law_874 : decode cL_law 874 = .ok (.iload 5, 2) := by decide +kernel
theorem dL_law_876 : decode cL_law 876 = .ok (.if_icmp .eq 5, 3) := by decide +kernel
theorem dL_law_879 : decode cL_law 879 = .ok (.iconst 0, 1) := by decide +kernel
theorem dL_law_880 : decode cL_law 880 = .ok (.ireturn, 1) := by decide +kernel
theorem dL_law_881 : decode cL_law 881 = .ok (.iload 5, 2) := by decide +kernel
theorem dL_law_883 : decode cL_law 883 = .ok (.ifCond .ne 15, 3) := by decide +kernel
theorem dL_law_886 : decode cL_law 886 = .ok (.aload_n 3, 1) := by decide +kernel
theorem dL_law_887 : decode cL_law 887 = .ok (.iconst 0, 1) := by decide +kernel
theorem dL_law_888 : decode cL_law 888 = .ok (.laload, 1) := by decide +kernel
theorem dL_law_889 : decode cL_law 889 = .ok (.iload 6, 2) := by decide +kernel
theorem dL_law_891 : decode cL_law 891 = .ok (.i2l, 1) := by decide +kernel
theorem dL_law_892 : decode cL_law 892 = .ok (.lcmp, 1) := by decide +kernel
theorem dL_law_893 : decode cL_law 893 = .ok (.ifCond .eq 5, 3) := by decide +kernel
theorem dL_law_896 : decode cL_law 896 = .ok (.iconst 0, 1) := by decide +kernel
theorem dL_law_897 : decode cL_law 897 = .ok (.ireturn, 1) := by decide +kernel
theorem dL_law_898 : decode cL_law 898 = .ok (.goto 793, 3) := by decide +kernel
theorem dL_law_901 : decode cL_law 901 = .ok (.aload_n 1, 1) := by decide +kernel
theorem dL_law_902 : decode cL_law 902 = .ok (.aload_n 0, 1) := by decide +kernel
theorem dL_law_903 : decode cL_law 903 = .ok (.iload 4, 2) := by decide +kernel
theorem dL_law_905 : decode cL_law 905 = .ok (.iconst 1, 1) := by decide +kernel
theorem dL_law_906 : decode cL_law 906 = .ok (.iadd, 1) := by decide +kernel
theorem dL_law_907 : decode cL_law 907 = .ok (.iaload, 1) := by decide +kernel
theorem dL_law_908 : decode cL_law 908 = .ok (.aload_n 3, 1) := by decide +kernel
theorem dL_law_909 : decode cL_law 909 = .ok (.invokestatic 143, 3) := by decide +kernel
theorem dL_law_912 : decode cL_law 912 = .ok (.istore 5, 2) := by decide +kernel
theorem dL_law_914 : decode cL_law 914 = .ok (.aload_n 2, 1) := by decide +kernel
theorem dL_law_915 : decode cL_law 915 = .ok (.aload_n 0, 1) := by decide +kernel
theorem dL_law_916 : decode cL_law 916 = .ok (.iload 4, 2) := by decide +kernel
theorem dL_law_918 : decode cL_law 918 = .ok (.iconst 1, 1) := by decide +kernel
theorem dL_law_919 : decode cL_law 919 = .ok (.iadd, 1) := by decide +kernel
theorem dL_law_920 : decode cL_law 920 = .ok (.iaload, 1) := by decide +kernel
theorem dL_law_921 : decode cL_law 921 = .ok (.invokevirtual 145, 3) := by decide +kernel
theorem dL_law_924 : decode cL_law 924 = .ok (.istore 6, 2) := by decide +kernel
theorem dL_law_926 : decode cL_law 926 = .ok (.aload_n 2, 1) := by decide +kernel
theorem dL_law_927 : decode cL_law 927 = .ok (.invokevirtual 94, 3) := by decide +kernel
theorem dL_law_930 : decode cL_law 930 = .ok (.iload 5, 2) := by decide +kernel
theorem dL_law_932 : decode cL_law 932 = .ok (.if_icmp .eq 5, 3) := by decide +kernel
theorem dL_law_935 : decode cL_law 935 = .ok (.iconst 0, 1) := by decide +kernel
theorem dL_law_936 : decode cL_law 936 = .ok (.ireturn, 1) := by decide +kernel
theorem dL_law_937 : decode cL_law 937 = .ok (.iload 5, 2) := by decide +kernel
theorem dL_law_939 : decode cL_law 939 = .ok (.ifCond .ne 15, 3) := by decide +kernel
theorem dL_law_942 : decode cL_law 942 = .ok (.aload_n 3, 1) := by decide +kernel
theorem dL_law_943 : decode cL_law 943 = .ok (.iconst 0, 1) := by decide +kernel
theorem dL_law_944 : decode cL_law 944 = .ok (.laload, 1) := by decide +kernel
theorem dL_law_945 : decode cL_law 945 = .ok (.iload 6, 2) := by decide +kernel
theorem dL_law_947 : decode cL_law 947 = .ok (.i2l, 1) := by decide +kernel
theorem dL_law_948 : decode cL_law 948 = .ok (.lcmp, 1) := by decide +kernel
theorem dL_law_949 : decode cL_law 949 = .ok (.ifCond .eq 5, 3) := by decide +kernel
theorem dL_law_952 : decode cL_law 952 = .ok (.iconst 0, 1) := by decide +kernel
theorem dL_law_953 : decode cL_law 953 = .ok (.ireturn, 1) := by decide +kernel
theorem dL_law_954 : decode cL_law 954 = .ok (.goto 737, 3) := by decide +kernel
theorem dL_law_957 : decode cL_law 957 = .ok (.aload_n 1, 1) := by decide +kernel
theorem dL_law_958 : decode cL_law 958 = .ok (.aload_n 0, 1) := by decide +kernel
theorem dL_law_959 : decode cL_law 959 = .ok (.iload 4, 2) := by decide +kernel
theorem dL_law_961 : decode cL_law 961 = .ok (.iconst 1, 1) := by decide +kernel
theorem dL_law_962 : decode cL_law 962 = .ok (.iadd, 1) := by decide +kernel
theorem dL_law_963 : decode cL_law 963 = .ok (.iaload, 1) := by decide +kernel
theorem dL_law_964 : decode cL_law 964 = .ok (.aload_n 0, 1) := by decide +kernel
theorem dL_law_965 : decode cL_law 965 = .ok (.iload 4, 2) := by decide +kernel
theorem dL_law_967 : decode cL_law 967 = .ok (.iconst 2, 1) := by decide +kernel
theorem dL_law_968 : decode cL_law 968 = .ok (.iadd, 1) := by decide +kernel
theorem dL_law_969 : decode cL_law 969 = .ok (.iaload, 1) := by decide +kernel
theorem dL_law_970 : decode cL_law 970 = .ok (.aload_n 3, 1) := by decide +kernel
theorem dL_law_971 : decode cL_law 971 = .ok (.invokestatic 146, 3) := by decide +kernel
theorem dL_law_974 : decode cL_law 974 = .ok (.istore 5, 2) := by decide +kernel
theorem dL_law_976 : decode cL_law 976 = .ok (.aload_n 2, 1) := by decide +kernel
theorem dL_law_977 : decode cL_law 977 = .ok (.aload_n 0, 1) := by decide +kernel
theorem dL_law_978 : decode cL_law 978 = .ok (.iload 4, 2) := by decide +kernel
theorem dL_law_980 : decode cL_law 980 = .ok (.iconst 1, 1) := by decide +kernel
theorem dL_law_981 : decode cL_law 981 = .ok (.iadd, 1) := by decide +kernel
theorem dL_law_982 : decode cL_law 982 = .ok (.iaload, 1) := by decide +kernel
theorem dL_law_983 : decode cL_law 983 = .ok (.aload_n 0, 1) := by decide +kernel
theorem dL_law_984 : decode cL_law 984 = .ok (.iload 4, 2) := by decide +kernel
theorem dL_law_986 : decode cL_law 986 = .ok (.iconst 2, 1) := by decide +kernel
theorem dL_law_987 : decode cL_law 987 = .ok (.iadd, 1) := by decide +kernel
theorem dL_law_988 : decode cL_law 988 = .ok (.iaload, 1) := by decide +kernel
theorem dL_law_989 : decode cL_law 989 = .ok (.invokevirtual 148, 3) := by decide +kernel
theorem dL_law_992 : decode cL_law 992 = .ok (.lstore 6, 2) := by decide +kernel
theorem dL_law_994 : decode cL_law 994 = .ok (.aload_n 2, 1) := by decide +kernel
theorem dL_law_995 : decode cL_law 995 = .ok (.invokevirtual 94, 3) := by decide +kernel
theorem dL_law_998 : decode cL_law 998 = .ok (.iload 5, 2) := by decide +kernel
theorem dL_law_1000 : decode cL_law 1000 = .ok (.if_icmp .eq 5, 3) := by decide +kernel
theorem dL_law_1003 : decode cL_law 1003 = .ok (.iconst 0, 1) := by decide +kernel
theorem dL_law_1004 : decode cL_law 1004 = .ok (.ireturn, 1) := by decide +kernel
theorem dL_law_1005 : decode cL_law 1005 = .ok (.iload 5, 2) := by decide +kernel
theorem dL_law_1007 : decode cL_law 1007 = .ok (.ifCond .ne 14, 3) := by decide +kernel
theorem dL_law_1010 : decode cL_law 1010 = .ok (.aload_n 3, 1) := by decide +kernel
theorem dL_law_1011 : decode cL_law 1011 = .ok (.iconst 0, 1) := by decide +kernel
theorem dL_law_1012 : decode cL_law 1012 = .ok (.laload, 1) := by decide +kernel
theorem dL_law_1013 : decode cL_law 1013 = .ok (.lload 6, 2) := by decide +kernel
theorem dL_law_1015 : decode cL_law 1015 = .ok (.lcmp, 1) := by decide +kernel
theorem dL_law_1016 : decode cL_law 1016 = .ok (.ifCond .eq 5, 3) := by decide +kernel
theorem dL_law_1019 : decode cL_law 1019 = .ok (.iconst 0, 1) := by decide +kernel
theorem dL_law_1020 : decode cL_law 1020 = .ok (.ireturn, 1) := by decide +kernel
theorem dL_law_1021 : decode cL_law 1021 = .ok (.goto 670, 3) := by decide +kernel
theorem dL_law_1024 : decode cL_law 1024 = .ok (.aload_n 1, 1) := by decide +kernel
theorem dL_law_1025 : decode cL_law 1025 = .ok (.aload_n 0, 1) := by decide +kernel
theorem dL_law_1026 : decode cL_law 1026 = .ok (.iload 4, 2) := by decide +kernel
theorem dL_law_1028 : decode cL_law 1028 = .ok (.iconst 1, 1) := by decide +kernel
theorem dL_law_1029 : decode cL_law 1029 = .ok (.iadd, 1) := by decide +kernel
theorem dL_law_1030 : decode cL_law 1030 = .ok (.iaload, 1) := by decide +kernel
theorem dL_law_1031 : decode cL_law 1031 = .ok (.aload_n 0, 1) := by decide +kernel
theorem dL_law_1032 : decode cL_law 1032 = .ok (.iload 4, 2) := by decide +kernel
theorem dL_law_1034 : decode cL_law 1034 = .ok (.iconst 2, 1) := by decide +kernel
theorem dL_law_1035 : decode cL_law 1035 = .ok (.iadd, 1) := by decide +kernel
theorem dL_law_1036 : decode cL_law 1036 = .ok (.iaload, 1) := by decide +kernel
theorem dL_law_1037 : decode cL_law 1037 = .ok (.aload_n 3, 1) := by decide +kernel
theorem dL_law_1038 : decode cL_law 1038 = .ok (.invokestatic 149, 3) := by decide +kernel
theorem dL_law_1041 : decode cL_law 1041 = .ok (.istore 5, 2) := by decide +kernel
theorem dL_law_1043 : decode cL_law 1043 = .ok (.aload_n 2, 1) := by decide +kernel
theorem dL_law_1044 : decode cL_law 1044 = .ok (.aload_n 0, 1) := by decide +kernel
theorem dL_law_1045 : decode cL_law 1045 = .ok (.iload 4, 2) := by decide +kernel
theorem dL_law_1047 : decode cL_law 1047 = .ok (.iconst 1, 1) := by decide +kernel
theorem dL_law_1048 : decode cL_law 1048 = .ok (.iadd, 1) := by decide +kernel
theorem dL_law_1049 : decode cL_law 1049 = .ok (.iaload, 1) := by decide +kernel
theorem dL_law_1050 : decode cL_law 1050 = .ok (.aload_n 0, 1) := by decide +kernel
theorem dL_law_1051 : decode cL_law 1051 = .ok (.iload 4, 2) := by decide +kernel
theorem dL_law_1053 : decode cL_law 1053 = .ok (.iconst 2, 1) := by decide +kernel
theorem dL_law_1054 : decode cL_law 1054 = .ok (.iadd, 1) := by decide +kernel
theorem dL_law_1055 : decode cL_law 1055 = .ok (.iaload, 1) := by decide +kernel
theorem dL_law_1056 : decode cL_law 1056 = .ok (.invokevirtual 151, 3) := by decide +kernel
theorem dL_law_1059 : decode cL_law 1059 = .ok (.istore 6, 2) := by decide +kernel
theorem dL_law_1061 : decode cL_law 1061 = .ok (.aload_n 2, 1) := by decide +kernel
theorem dL_law_1062 : decode cL_law 1062 = .ok (.invokevirtual 94, 3) := by decide +kernel
theorem dL_law_1065 : decode cL_law 1065 = .ok (.iload 5, 2) := by decide +kernel
theorem dL_law_1067 : decode cL_law 1067 = .ok (.if_icmp .eq 5, 3) := by decide +kernel
theorem dL_law_1070 : decode cL_law 1070 = .ok (.iconst 0, 1) := by decide +kernel
theorem dL_law_1071 : decode cL_law 1071 = .ok (.ireturn, 1) := by decide +kernel
theorem dL_law_1072 : decode cL_law 1072 = .ok (.iload 5, 2) := by decide +kernel
theorem dL_law_1074 : decode cL_law 1074 = .ok (.ifCond .ne 15, 3) := by decide +kernel
theorem dL_law_1077 : decode cL_law 1077 = .ok (.aload_n 3, 1) := by decide +kernel
theorem dL_law_1078 : decode cL_law 1078 = .ok (.iconst 0, 1) := by decide +kernel
theorem dL_law_1079 : decode cL_law 1079 = .ok (.laload, 1) := by decide +kernel
theorem dL_law_1080 : decode cL_law 1080 = .ok (.iload 6, 2) := by decide +kernel
theorem dL_law_1082 : decode cL_law 1082 = .ok (.i2l, 1) := by decide +kernel
theorem dL_law_1083 : decode cL_law 1083 = .ok (.lcmp, 1) := by decide +kernel
theorem dL_law_1084 : decode cL_law 1084 = .ok (.ifCond .eq 5, 3) := by decide +kernel
theorem dL_law_1087 : decode cL_law 1087 = .ok (.iconst 0, 1) := by decide +kernel
theorem dL_law_1088 : decode cL_law 1088 = .ok (.ireturn, 1) := by decide +kernel
theorem dL_law_1089 : decode cL_law 1089 = .ok (.goto 602, 3) := by decide +kernel
theorem dL_law_1092 : decode cL_law 1092 = .ok (.aload_n 1, 1) := by decide +kernel
theorem dL_law_1093 : decode cL_law 1093 = .ok (.aload_n 0, 1) := by decide +kernel
theorem dL_law_1094 : decode cL_law 1094 = .ok (.iload 4, 2) := by decide +kernel
theorem dL_law_1096 : decode cL_law 1096 = .ok (.iconst 1, 1) := by decide +kernel
theorem dL_law_1097 : decode cL_law 1097 = .ok (.iadd, 1) := by decide +kernel
theorem dL_law_1098 : decode cL_law 1098 = .ok (.iaload, 1) := by decide +kernel
theorem dL_law_1099 : decode cL_law 1099 = .ok (.aload_n 3, 1) := by decide +kernel
theorem dL_law_1100 : decode cL_law 1100 = .ok (.invokestatic 152, 3) := by decide +kernel
theorem dL_law_1103 : decode cL_law 1103 = .ok (.istore 5, 2) := by decide +kernel
theorem dL_law_1105 : decode cL_law 1105 = .ok (.aload_n 2, 1) := by decide +kernel
theorem dL_law_1106 : decode cL_law 1106 = .ok (.aload_n 0, 1) := by decide +kernel
theorem dL_law_1107 : decode cL_law 1107 = .ok (.iload 4, 2) := by decide +kernel
theorem dL_law_1109 : decode cL_law 1109 = .ok (.iconst 1, 1) := by decide +kernel
theorem dL_law_1110 : decode cL_law 1110 = .ok (.iadd, 1) := by decide +kernel
theorem dL_law_1111 : decode cL_law 1111 = .ok (.iaload, 1) := by decide +kernel
theorem dL_law_1112 : decode cL_law 1112 = .ok (.invokevirtual 154, 3) := by decide +kernel
theorem dL_law_1115 : decode cL_law 1115 = .ok (.istore 6, 2) := by decide +kernel
theorem dL_law_1117 : decode cL_law 1117 = .ok (.aload_n 2, 1) := by decide +kernel
theorem dL_law_1118 : decode cL_law 1118 = .ok (.invokevirtual 94, 3) := by decide +kernel
theorem dL_law_1121 : decode cL_law 1121 = .ok (.iload 5, 2) := by decide +kernel
theorem dL_law_1123 : decode cL_law 1123 = .ok (.if_icmp .eq 5, 3) := by decide +kernel
theorem dL_law_1126 : decode cL_law 1126 = .ok (.iconst 0, 1) := by decide +kernel
theorem dL_law_1127 : decode cL_law 1127 = .ok (.ireturn, 1) := by decide +kernel
theorem dL_law_1128 : decode cL_law 1128 = .ok (.iload 5, 2) := by decide +kernel
theorem dL_law_1130 : decode cL_law 1130 = .ok (.ifCond .ne 15, 3) := by decide +kernel
theorem dL_law_1133 : decode cL_law 1133 = .ok (.aload_n 3, 1) := by decide +kernel
theorem dL_law_1134 : decode cL_law 1134 = .ok (.iconst 0, 1) := by decide +kernel
theorem dL_law_1135 : decode cL_law 1135 = .ok (.laload, 1) := by decide +kernel
theorem dL_law_1136 : decode cL_law 1136 = .ok (.iload 6, 2) := by decide +kernel
theorem dL_law_1138 : decode cL_law 1138 = .ok (.i2l, 1) := by decide +kernel
theorem dL_law_1139 : decode cL_law 1139 = .ok (.lcmp, 1) := by decide +kernel
theorem dL_law_1140 : decode cL_law 1140 = .ok (.ifCond .eq 5, 3) := by decide +kernel
theorem dL_law_1143 : decode cL_law 1143 = .ok (.iconst 0, 1) := by decide +kernel
theorem dL_law_1144 : decode cL_law 1144 = .ok (.ireturn, 1) := by decide +kernel
theorem dL_law_1145 : decode cL_law 1145 = .ok (.goto 546, 3) := by decide +kernel
theorem dL_law_1148 : decode cL_law 1148 = .ok (.aload_n 1, 1) := by decide +kernel
theorem dL_law_1149 : decode cL_law 1149 = .ok (.invokevirtual 155, 3) := by decide +kernel
theorem dL_law_1152 : decode cL_law 1152 = .ok (.aload_n 2, 1) := by decide +kernel
theorem dL_law_1153 : decode cL_law 1153 = .ok (.invokevirtual 158, 3) := by decide +kernel
theorem dL_law_1156 : decode cL_law 1156 = .ok (.if_icmp .eq 535, 3) := by decide +kernel
theorem dL_law_1159 : decode cL_law 1159 = .ok (.iconst 0, 1) := by decide +kernel
theorem dL_law_1160 : decode cL_law 1160 = .ok (.ireturn, 1) := by decide +kernel
theorem dL_law_1161 : decode cL_law 1161 = .ok (.aload_n 1, 1) := by decide +kernel
theorem dL_law_1162 : decode cL_law 1162 = .ok (.aload_n 0, 1) := by decide +kernel
theorem dL_law_1163 : decode cL_law 1163 = .ok (.iload 4, 2) := by decide +kernel
theorem dL_law_1165 : decode cL_law 1165 = .ok (.iconst 1, 1) := by decide +kernel
theorem dL_law_1166 : decode cL_law 1166 = .ok (.iadd, 1) := by decide +kernel
theorem dL_law_1167 : decode cL_law 1167 = .ok (.iaload, 1) := by decide +kernel
theorem dL_law_1168 : decode cL_law 1168 = .ok (.aload_n 0, 1) := by decide +kernel
theorem dL_law_1169 : decode cL_law 1169 = .ok (.iload 4, 2) := by decide +kernel
theorem dL_law_1171 : decode cL_law 1171 = .ok (.iconst 2, 1) := by decide +kernel
theorem dL_law_1172 : decode cL_law 1172 = .ok (.iadd, 1) := by decide +kernel
theorem dL_law_1173 : decode cL_law 1173 = .ok (.iaload, 1) := by decide +kernel
theorem dL_law_1174 : decode cL_law 1174 = .ok (.aload_n 0, 1) := by decide +kernel
theorem dL_law_1175 : decode cL_law 1175 = .ok (.iload 4, 2) := by decide +kernel
theorem dL_law_1177 : decode cL_law 1177 = .ok (.iconst 3, 1) := by decide +kernel
theorem dL_law_1178 : decode cL_law 1178 = .ok (.iadd, 1) := by decide +kernel
theorem dL_law_1179 : decode cL_law 1179 = .ok (.iaload, 1) := by decide +kernel
theorem dL_law_1180 : decode cL_law 1180 = .ok (.ifCond .eq 7, 3) := by decide +kernel
theorem dL_law_1183 : decode cL_law 1183 = .ok (.iconst 1, 1) := by decide +kernel
theorem dL_law_1184 : decode cL_law 1184 = .ok (.goto 4, 3) := by decide +kernel
theorem dL_law_1187 : decode cL_law 1187 = .ok (.iconst 0, 1) := by decide +kernel
theorem dL_law_1188 : decode cL_law 1188 = .ok (.aload_n 3, 1) := by decide +kernel
theorem dL_law_1189 : decode cL_law 1189 = .ok (.invokestatic 159, 3) := by decide +kernel
theorem dL_law_1192 : decode cL_law 1192 = .ok (.istore 5, 2) := by decide +kernel
theorem dL_law_1194 : decode cL_law 1194 = .ok (.aload_n 2, 1) := by decide +kernel
theorem dL_law_1195 : decode cL_law 1195 = .ok (.aload_n 0, 1) := by decide +kernel
theorem dL_law_1196 : decode cL_law 1196 = .ok (.iload 4, 2) := by decide +kernel
theorem dL_law_1198 : decode cL_law 1198 = .ok (.iconst 1, 1) := by decide +kernel
theorem dL_law_1199 : decode cL_law 1199 = .ok (.iadd, 1) := by decide +kernel
theorem dL_law_1200 : decode cL_law 1200 = .ok (.iaload, 1) := by decide +kernel
theorem dL_law_1201 : decode cL_law 1201 = .ok (.aload_n 0, 1) := by decide +kernel
theorem dL_law_1202 : decode cL_law 1202 = .ok (.iload 4, 2) := by decide +kernel
theorem dL_law_1204 : decode cL_law 1204 = .ok (.iconst 2, 1) := by decide +kernel
theorem dL_law_1205 : decode cL_law 1205 = .ok (.iadd, 1) := by decide +kernel
theorem dL_law_1206 : decode cL_law 1206 = .ok (.iaload, 1) := by decide +kernel
theorem dL_law_1207 : decode cL_law 1207 = .ok (.aload_n 0, 1) := by decide +kernel
theorem dL_law_1208 : decode cL_law 1208 = .ok (.iload 4, 2) := by decide +kernel
theorem dL_law_1210 : decode cL_law 1210 = .ok (.iconst 3, 1) := by decide +kernel
theorem dL_law_1211 : decode cL_law 1211 = .ok (.iadd, 1) := by decide +kernel
theorem dL_law_1212 : decode cL_law 1212 = .ok (.iaload, 1) := by decide +kernel
theorem dL_law_1213 : decode cL_law 1213 = .ok (.ifCond .eq 7, 3) := by decide +kernel
theorem dL_law_1216 : decode cL_law 1216 = .ok (.iconst 1, 1) := by decide +kernel
theorem dL_law_1217 : decode cL_law 1217 = .ok (.goto 4, 3) := by decide +kernel
theorem dL_law_1220 : decode cL_law 1220 = .ok (.iconst 0, 1) := by decide +kernel
theorem dL_law_1221 : decode cL_law 1221 = .ok (.invokevirtual 162, 3) := by decide +kernel
theorem dL_law_1224 : decode cL_law 1224 = .ok (.istore 6, 2) := by decide +kernel
theorem dL_law_1226 : decode cL_law 1226 = .ok (.aload_n 2, 1) := by decide +kernel
theorem dL_law_1227 : decode cL_law 1227 = .ok (.invokevirtual 94, 3) := by decide +kernel
theorem dL_law_1230 : decode cL_law 1230 = .ok (.iload 5, 2) := by decide +kernel
theorem dL_law_1232 : decode cL_law 1232 = .ok (.if_icmp .eq 5, 3) := by decide +kernel
theorem dL_law_1235 : decode cL_law 1235 = .ok (.iconst 0, 1) := by decide +kernel
theorem dL_law_1236 : decode cL_law 1236 = .ok (.ireturn, 1) := by decide +kernel
theorem dL_law_1237 : decode cL_law 1237 = .ok (.iload 5, 2) := by decide +kernel
theorem dL_law_1239 : decode cL_law 1239 = .ok (.ifCond .ne 15, 3) := by decide +kernel
theorem dL_law_1242 : decode cL_law 1242 = .ok (.aload_n 3, 1) := by decide +kernel
theorem dL_law_1243 : decode cL_law 1243 = .ok (.iconst 0, 1) := by decide +kernel
theorem dL_law_1244 : decode cL_law 1244 = .ok (.laload, 1) := by decide +kernel
theorem dL_law_1245 : decode cL_law 1245 = .ok (.iload 6, 2) := by decide +kernel
theorem dL_law_1247 : decode cL_law 1247 = .ok (.i2l, 1) := by decide +kernel
theorem dL_law_1248 : decode cL_law 1248 = .ok (.lcmp, 1) := by decide +kernel
theorem dL_law_1249 : decode cL_law 1249 = .ok (.ifCond .eq 5, 3) := by decide +kernel
theorem dL_law_1252 : decode cL_law 1252 = .ok (.iconst 0, 1) := by decide +kernel
theorem dL_law_1253 : decode cL_law 1253 = .ok (.ireturn, 1) := by decide +kernel
theorem dL_law_1254 : decode cL_law 1254 = .ok (.goto 437, 3) := by decide +kernel
theorem dL_law_1257 : decode cL_law 1257 = .ok (.aload_n 1, 1) := by decide +kernel
theorem dL_law_1258 : decode cL_law 1258 = .ok (.invokevirtual 163, 3) := by decide +kernel
theorem dL_law_1261 : decode cL_law 1261 = .ok (.aload_n 2, 1) := by decide +kernel
theorem dL_law_1262 : decode cL_law 1262 = .ok (.invokevirtual 166, 3) := by decide +kernel
theorem dL_law_1265 : decode cL_law 1265 = .ok (.if_icmp .eq 426, 3) := by decide +kernel
theorem dL_law_1268 : decode cL_law 1268 = .ok (.iconst 0, 1) := by decide +kernel
theorem dL_law_1269 : decode cL_law 1269 = .ok (.ireturn, 1) := by decide +kernel
theorem dL_law_1270 : decode cL_law 1270 = .ok (.aload_n 1, 1) := by decide +kernel
theorem dL_law_1271 : decode cL_law 1271 = .ok (.aload_n 0, 1) := by decide +kernel
theorem dL_law_1272 : decode cL_law 1272 = .ok (.iload 4, 2) := by decide +kernel
theorem dL_law_1274 : decode cL_law 1274 = .ok (.iconst 1, 1) := by decide +kernel
theorem dL_law_1275 : decode cL_law 1275 = .ok (.iadd, 1) := by decide +kernel
theorem dL_law_1276 : decode cL_law 1276 = .ok (.iaload, 1) := by decide +kernel
theorem dL_law_1277 : decode cL_law 1277 = .ok (.aload_n 3, 1) := by decide +kernel
theorem dL_law_1278 : decode cL_law 1278 = .ok (.invokestatic 167, 3) := by decide +kernel
theorem dL_law_1281 : decode cL_law 1281 = .ok (.istore 5, 2) := by decide +kernel
theorem dL_law_1283 : decode cL_law 1283 = .ok (.aload_n 2, 1) := by decide +kernel
theorem dL_law_1284 : decode cL_law 1284 = .ok (.aload_n 0, 1) := by decide +kernel
theorem dL_law_1285 : decode cL_law 1285 = .ok (.iload 4, 2) := by decide +kernel
theorem dL_law_1287 : decode cL_law 1287 = .ok (.iconst 1, 1) := by decide +kernel
theorem dL_law_1288 : decode cL_law 1288 = .ok (.iadd, 1) := by decide +kernel
theorem dL_law_1289 : decode cL_law 1289 = .ok (.iaload, 1) := by decide +kernel
theorem dL_law_1290 : decode cL_law 1290 = .ok (.invokevirtual 169, 3) := by decide +kernel
theorem dL_law_1293 : decode cL_law 1293 = .ok (.istore 6, 2) := by decide +kernel
theorem dL_law_1295 : decode cL_law 1295 = .ok (.aload_n 2, 1) := by decide +kernel
theorem dL_law_1296 : decode cL_law 1296 = .ok (.invokevirtual 94, 3) := by decide +kernel
theorem dL_law_1299 : decode cL_law 1299 = .ok (.iload 5, 2) := by decide +kernel
theorem dL_law_1301 : decode cL_law 1301 = .ok (.if_icmp .eq 5, 3) := by decide +kernel
theorem dL_law_1304 : decode cL_law 1304 = .ok (.iconst 0, 1) := by decide +kernel
theorem dL_law_1305 : decode cL_law 1305 = .ok (.ireturn, 1) := by decide +kernel
theorem dL_law_1306 : decode cL_law 1306 = .ok (.iload 5, 2) := by decide +kernel
theorem dL_law_1308 : decode cL_law 1308 = .ok (.ifCond .ne 15, 3) := by decide +kernel
theorem dL_law_1311 : decode cL_law 1311 = .ok (.aload_n 3, 1) := by decide +kernel
theorem dL_law_1312 : decode cL_law 1312 = .ok (.iconst 0, 1) := by decide +kernel
theorem dL_law_1313 : decode cL_law 1313 = .ok (.laload, 1) := by decide +kernel
theorem dL_law_1314 : decode cL_law 1314 = .ok (.iload 6, 2) := by decide +kernel
theorem dL_law_1316 : decode cL_law 1316 = .ok (.i2l, 1) := by decide +kernel
theorem dL_law_1317 : decode cL_law 1317 = .ok (.lcmp, 1) := by decide +kernel
theorem dL_law_1318 : decode cL_law 1318 = .ok (.ifCond .eq 5, 3) := by decide +kernel
theorem dL_law_1321 : decode cL_law 1321 = .ok (.iconst 0, 1) := by decide +kernel
theorem dL_law_1322 : decode cL_law 1322 = .ok (.ireturn, 1) := by decide +kernel
theorem dL_law_1323 : decode cL_law 1323 = .ok (.goto 368, 3) := by decide +kernel
theorem dL_law_1326 : decode cL_law 1326 = .ok (.aload_n 1, 1) := by decide +kernel
theorem dL_law_1327 : decode cL_law 1327 = .ok (.aload_n 0, 1) := by decide +kernel
theorem dL_law_1328 : decode cL_law 1328 = .ok (.iload 4, 2) := by decide +kernel
theorem dL_law_1330 : decode cL_law 1330 = .ok (.iconst 1, 1) := by decide +kernel
theorem dL_law_1331 : decode cL_law 1331 = .ok (.iadd, 1) := by decide +kernel
theorem dL_law_1332 : decode cL_law 1332 = .ok (.iaload, 1) := by decide +kernel
theorem dL_law_1333 : decode cL_law 1333 = .ok (.aload_n 0, 1) := by decide +kernel
theorem dL_law_1334 : decode cL_law 1334 = .ok (.iload 4, 2) := by decide +kernel
theorem dL_law_1336 : decode cL_law 1336 = .ok (.iconst 2, 1) := by decide +kernel
theorem dL_law_1337 : decode cL_law 1337 = .ok (.iadd, 1) := by decide +kernel
theorem dL_law_1338 : decode cL_law 1338 = .ok (.iaload, 1) := by decide +kernel
theorem dL_law_1339 : decode cL_law 1339 = .ok (.aload_n 3, 1) := by decide +kernel
theorem dL_law_1340 : decode cL_law 1340 = .ok (.invokestatic 170, 3) := by decide +kernel
theorem dL_law_1343 : decode cL_law 1343 = .ok (.istore 5, 2) := by decide +kernel
theorem dL_law_1345 : decode cL_law 1345 = .ok (.aload_n 2, 1) := by decide +kernel
theorem dL_law_1346 : decode cL_law 1346 = .ok (.aload_n 0, 1) := by decide +kernel
theorem dL_law_1347 : decode cL_law 1347 = .ok (.iload 4, 2) := by decide +kernel
theorem dL_law_1349 : decode cL_law 1349 = .ok (.iconst 1, 1) := by decide +kernel
theorem dL_law_1350 : decode cL_law 1350 = .ok (.iadd, 1) := by decide +kernel
theorem dL_law_1351 : decode cL_law 1351 = .ok (.iaload, 1) := by decide +kernel
theorem dL_law_1352 : decode cL_law 1352 = .ok (.aload_n 0, 1) := by decide +kernel
theorem dL_law_1353 : decode cL_law 1353 = .ok (.iload 4, 2) := by decide +kernel
theorem dL_law_1355 : decode cL_law 1355 = .ok (.iconst 2, 1) := by decide +kernel
theorem dL_law_1356 : decode cL_law 1356 = .ok (.iadd, 1) := by decide +kernel
theorem dL_law_1357 : decode cL_law 1357 = .ok (.iaload, 1) := by decide +kernel
theorem dL_law_1358 : decode cL_law 1358 = .ok (.invokevirtual 172, 3) := by decide +kernel
theorem dL_law_1361 : decode cL_law 1361 = .ok (.istore 6, 2) := by decide +kernel
theorem dL_law_1363 : decode cL_law 1363 = .ok (.aload_n 2, 1) := by decide +kernel
theorem dL_law_1364 : decode cL_law 1364 = .ok (.invokevirtual 94, 3) := by decide +kernel
theorem dL_law_1367 : decode cL_law 1367 = .ok (.iload 5, 2) := by decide +kernel
theorem dL_law_1369 : decode cL_law 1369 = .ok (.if_icmp .eq 5, 3) := by decide +kernel
theorem dL_law_1372 : decode cL_law 1372 = .ok (.iconst 0, 1) := by decide +kernel
theorem dL_law_1373 : decode cL_law 1373 = .ok (.ireturn, 1) := by decide +kernel
theorem dL_law_1374 : decode cL_law 1374 = .ok (.iload 5, 2) := by decide +kernel
theorem dL_law_1376 : decode cL_law 1376 = .ok (.ifCond .ne 15, 3) := by decide +kernel
theorem dL_law_1379 : decode cL_law 1379 = .ok (.aload_n 3, 1) := by decide +kernel
theorem dL_law_1380 : decode cL_law 1380 = .ok (.iconst 0, 1) := by decide +kernel
theorem dL_law_1381 : decode cL_law 1381 = .ok (.laload, 1) := by decide +kernel
theorem dL_law_1382 : decode cL_law 1382 = .ok (.iload 6, 2) := by decide +kernel
theorem dL_law_1384 : decode cL_law 1384 = .ok (.i2l, 1) := by decide +kernel
theorem dL_law_1385 : decode cL_law 1385 = .ok (.lcmp, 1) := by decide +kernel
theorem dL_law_1386 : decode cL_law 1386 = .ok (.ifCond .eq 5, 3) := by decide +kernel
theorem dL_law_1389 : decode cL_law 1389 = .ok (.iconst 0, 1) := by decide +kernel
theorem dL_law_1390 : decode cL_law 1390 = .ok (.ireturn, 1) := by decide +kernel
theorem dL_law_1391 : decode cL_law 1391 = .ok (.goto 300, 3) := by decide +kernel
theorem dL_law_1394 : decode cL_law 1394 = .ok (.aload_n 1, 1) := by decide +kernel
theorem dL_law_1395 : decode cL_law 1395 = .ok (.aload_n 0, 1) := by decide +kernel
theorem dL_law_1396 : decode cL_law 1396 = .ok (.iload 4, 2) := by decide +kernel
theorem dL_law_1398 : decode cL_law 1398 = .ok (.iconst 1, 1) := by decide +kernel
theorem dL_law_1399 : decode cL_law 1399 = .ok (.iadd, 1) := by decide +kernel
theorem dL_law_1400 : decode cL_law 1400 = .ok (.iaload, 1) := by decide +kernel
theorem dL_law_1401 : decode cL_law 1401 = .ok (.aload_n 0, 1) := by decide +kernel
theorem dL_law_1402 : decode cL_law 1402 = .ok (.iload 4, 2) := by decide +kernel
theorem dL_law_1404 : decode cL_law 1404 = .ok (.iconst 2, 1) := by decide +kernel
theorem dL_law_1405 : decode cL_law 1405 = .ok (.iadd, 1) := by decide +kernel
theorem dL_law_1406 : decode cL_law 1406 = .ok (.iaload, 1) := by decide +kernel
theorem dL_law_1407 : decode cL_law 1407 = .ok (.aload_n 3, 1) := by decide +kernel
theorem dL_law_1408 : decode cL_law 1408 = .ok (.invokestatic 173, 3) := by decide +kernel
theorem dL_law_1411 : decode cL_law 1411 = .ok (.istore 5, 2) := by decide +kernel
theorem dL_law_1413 : decode cL_law 1413 = .ok (.aload_n 2, 1) := by decide +kernel
theorem dL_law_1414 : decode cL_law 1414 = .ok (.aload_n 0, 1) := by decide +kernel
theorem dL_law_1415 : decode cL_law 1415 = .ok (.iload 4, 2) := by decide +kernel
theorem dL_law_1417 : decode cL_law 1417 = .ok (.iconst 1, 1) := by decide +kernel
theorem dL_law_1418 : decode cL_law 1418 = .ok (.iadd, 1) := by decide +kernel
theorem dL_law_1419 : decode cL_law 1419 = .ok (.iaload, 1) := by decide +kernel
theorem dL_law_1420 : decode cL_law 1420 = .ok (.aload_n 0, 1) := by decide +kernel
theorem dL_law_1421 : decode cL_law 1421 = .ok (.iload 4, 2) := by decide +kernel
theorem dL_law_1423 : decode cL_law 1423 = .ok (.iconst 2, 1) := by decide +kernel
theorem dL_law_1424 : decode cL_law 1424 = .ok (.iadd, 1) := by decide +kernel
theorem dL_law_1425 : decode cL_law 1425 = .ok (.iaload, 1) := by decide +kernel
theorem dL_law_1426 : decode cL_law 1426 = .ok (.invokevirtual 175, 3) := by decide +kernel
theorem dL_law_1429 : decode cL_law 1429 = .ok (.istore 6, 2) := by decide +kernel
theorem dL_law_1431 : decode cL_law 1431 = .ok (.aload_n 2, 1) := by decide +kernel
theorem dL_law_1432 : decode cL_law 1432 = .ok (.invokevirtual 94, 3) := by decide +kernel
theorem dL_law_1435 : decode cL_law 1435 = .ok (.iload 5, 2) := by decide +kernel
theorem dL_law_1437 : decode cL_law 1437 = .ok (.if_icmp .eq 5, 3) := by decide +kernel
theorem dL_law_1440 : decode cL_law 1440 = .ok (.iconst 0, 1) := by decide +kernel
theorem dL_law_1441 : decode cL_law 1441 = .ok (.ireturn, 1) := by decide +kernel
theorem dL_law_1442 : decode cL_law 1442 = .ok (.iload 5, 2) := by decide +kernel
theorem dL_law_1444 : decode cL_law 1444 = .ok (.ifCond .ne 15, 3) := by decide +kernel
theorem dL_law_1447 : decode cL_law 1447 = .ok (.aload_n 3, 1) := by decide +kernel
theorem dL_law_1448 : decode cL_law 1448 = .ok (.iconst 0, 1) := by decide +kernel
theorem dL_law_1449 : decode cL_law 1449 = .ok (.laload, 1) := by decide +kernel
theorem dL_law_1450 : decode cL_law 1450 = .ok (.iload 6, 2) := by decide +kernel
theorem dL_law_1452 : decode cL_law 1452 = .ok (.i2l, 1) := by decide +kernel
theorem dL_law_1453 : decode cL_law 1453 = .ok (.lcmp, 1) := by decide +kernel
theorem dL_law_1454 : decode cL_law 1454 = .ok (.ifCond .eq 5, 3) := by decide +kernel
theorem dL_law_1457 : decode cL_law 1457 = .ok (.iconst 0, 1) := by decide +kernel
theorem dL_law_1458 : decode cL_law 1458 = .ok (.ireturn, 1) := by decide +kernel
theorem dL_law_1459 : decode cL_law 1459 = .ok (.goto 232, 3) := by decide +kernel
theorem dL_law_1462 : decode cL_law 1462 = .ok (.aload_n 1, 1) := by decide +kernel
theorem dL_law_1463 : decode cL_law 1463 = .ok (.invokevirtual 176, 3) := by decide +kernel
theorem dL_law_1466 : decode cL_law 1466 = .ok (.aload_n 2, 1) := by decide +kernel
theorem dL_law_1467 : decode cL_law 1467 = .ok (.invokevirtual 179, 3) := by decide +kernel
theorem dL_law_1470 : decode cL_law 1470 = .ok (.if_icmp .eq 221, 3) := by decide +kernel
theorem dL_law_1473 : decode cL_law 1473 = .ok (.iconst 0, 1) := by decide +kernel
theorem dL_law_1474 : decode cL_law 1474 = .ok (.ireturn, 1) := by decide +kernel
theorem dL_law_1475 : decode cL_law 1475 = .ok (.aload_n 1, 1) := by decide +kernel
theorem dL_law_1476 : decode cL_law 1476 = .ok (.aload_n 0, 1) := by decide +kernel
theorem dL_law_1477 : decode cL_law 1477 = .ok (.iload 4, 2) := by decide +kernel
theorem dL_law_1479 : decode cL_law 1479 = .ok (.iconst 1, 1) := by decide +kernel
theorem dL_law_1480 : decode cL_law 1480 = .ok (.iadd, 1) := by decide +kernel
theorem dL_law_1481 : decode cL_law 1481 = .ok (.iaload, 1) := by decide +kernel
theorem dL_law_1482 : decode cL_law 1482 = .ok (.aload_n 3, 1) := by decide +kernel
theorem dL_law_1483 : decode cL_law 1483 = .ok (.invokestatic 180, 3) := by decide +kernel
theorem dL_law_1486 : decode cL_law 1486 = .ok (.istore 5, 2) := by decide +kernel
theorem dL_law_1488 : decode cL_law 1488 = .ok (.aload_n 2, 1) := by decide +kernel
theorem dL_law_1489 : decode cL_law 1489 = .ok (.aload_n 0, 1) := by decide +kernel
theorem dL_law_1490 : decode cL_law 1490 = .ok (.iload 4, 2) := by decide +kernel
theorem dL_law_1492 : decode cL_law 1492 = .ok (.iconst 1, 1) := by decide +kernel
theorem dL_law_1493 : decode cL_law 1493 = .ok (.iadd, 1) := by decide +kernel
theorem dL_law_1494 : decode cL_law 1494 = .ok (.iaload, 1) := by decide +kernel
theorem dL_law_1495 : decode cL_law 1495 = .ok (.invokevirtual 182, 3) := by decide +kernel
theorem dL_law_1498 : decode cL_law 1498 = .ok (.istore 6, 2) := by decide +kernel
theorem dL_law_1500 : decode cL_law 1500 = .ok (.aload_n 2, 1) := by decide +kernel
theorem dL_law_1501 : decode cL_law 1501 = .ok (.invokevirtual 94, 3) := by decide +kernel
theorem dL_law_1504 : decode cL_law 1504 = .ok (.iload 5, 2) := by decide +kernel
theorem dL_law_1506 : decode cL_law 1506 = .ok (.if_icmp .eq 5, 3) := by decide +kernel
theorem dL_law_1509 : decode cL_law 1509 = .ok (.iconst 0, 1) := by decide +kernel
theorem dL_law_1510 : decode cL_law 1510 = .ok (.ireturn, 1) := by decide +kernel
theorem dL_law_1511 : decode cL_law 1511 = .ok (.iload 5, 2) := by decide +kernel
theorem dL_law_1513 : decode cL_law 1513 = .ok (.ifCond .ne 15, 3) := by decide +kernel
theorem dL_law_1516 : decode cL_law 1516 = .ok (.aload_n 3, 1) := by decide +kernel
theorem dL_law_1517 : decode cL_law 1517 = .ok (.iconst 0, 1) := by decide +kernel
theorem dL_law_1518 : decode cL_law 1518 = .ok (.laload, 1) := by decide +kernel
theorem dL_law_1519 : decode cL_law 1519 = .ok (.iload 6, 2) := by decide +kernel
theorem dL_law_1521 : decode cL_law 1521 = .ok (.i2l, 1) := by decide +kernel
theorem dL_law_1522 : decode cL_law 1522 = .ok (.lcmp, 1) := by decide +kernel
theorem dL_law_1523 : decode cL_law 1523 = .ok (.ifCond .eq 5, 3) := by decide +kernel
theorem dL_law_1526 : decode cL_law 1526 = .ok (.iconst 0, 1) := by decide +kernel
theorem dL_law_1527 : decode cL_law 1527 = .ok (.ireturn, 1) := by decide +kernel
theorem dL_law_1528 : decode cL_law 1528 = .ok (.goto 163, 3) := by decide +kernel
theorem dL_law_1531 : decode cL_law 1531 = .ok (.aload_n 1, 1) := by decide +kernel
theorem dL_law_1532 : decode cL_law 1532 = .ok (.aload_n 0, 1) := by decide +kernel
theorem dL_law_1533 : decode cL_law 1533 = .ok (.iload 4, 2) := by decide +kernel
theorem dL_law_1535 : decode cL_law 1535 = .ok (.iconst 1, 1) := by decide +kernel
theorem dL_law_1536 : decode cL_law 1536 = .ok (.iadd, 1) := by decide +kernel
theorem dL_law_1537 : decode cL_law 1537 = .ok (.iaload, 1) := by decide +kernel
theorem dL_law_1538 : decode cL_law 1538 = .ok (.aload_n 3, 1) := by decide +kernel
theorem dL_law_1539 : decode cL_law 1539 = .ok (.invokestatic 183, 3) := by decide +kernel
theorem dL_law_1542 : decode cL_law 1542 = .ok (.istore 5, 2) := by decide +kernel
theorem dL_law_1544 : decode cL_law 1544 = .ok (.aload_n 2, 1) := by decide +kernel
theorem dL_law_1545 : decode cL_law 1545 = .ok (.aload_n 0, 1) := by decide +kernel
theorem dL_law_1546 : decode cL_law 1546 = .ok (.iload 4, 2) := by decide +kernel
theorem dL_law_1548 : decode cL_law 1548 = .ok (.iconst 1, 1) := by decide +kernel
theorem dL_law_1549 : decode cL_law 1549 = .ok (.iadd, 1) := by decide +kernel
theorem dL_law_1550 : decode cL_law 1550 = .ok (.iaload, 1) := by decide +kernel
theorem dL_law_1551 : decode cL_law 1551 = .ok (.invokevirtual 185, 3) := by decide +kernel
theorem dL_law_1554 : decode cL_law 1554 = .ok (.istore 6, 2) := by decide +kernel
theorem dL_law_1556 : decode cL_law 1556 = .ok (.aload_n 2, 1) := by decide +kernel
theorem dL_law_1557 : decode cL_law 1557 = .ok (.invokevirtual 94, 3) := by decide +kernel
theorem dL_law_1560 : decode cL_law 1560 = .ok (.iload 5, 2) := by decide +kernel
theorem dL_law_1562 : decode cL_law 1562 = .ok (.if_icmp .eq 5, 3) := by decide +kernel
theorem dL_law_1565 : decode cL_law 1565 = .ok (.iconst 0, 1) := by decide +kernel
theorem dL_law_1566 : decode cL_law 1566 = .ok (.ireturn, 1) := by decide +kernel
theorem dL_law_1567 : decode cL_law 1567 = .ok (.iload 5, 2) := by decide +kernel
theorem dL_law_1569 : decode cL_law 1569 = .ok (.ifCond .ne 15, 3) := by decide +kernel
theorem dL_law_1572 : decode cL_law 1572 = .ok (.aload_n 3, 1) := by decide +kernel
theorem dL_law_1573 : decode cL_law 1573 = .ok (.iconst 0, 1) := by decide +kernel
theorem dL_law_1574 : decode cL_law 1574 = .ok (.laload, 1) := by decide +kernel
theorem dL_law_1575 : decode cL_law 1575 = .ok (.iload 6, 2) := by decide +kernel
theorem dL_law_1577 : decode cL_law 1577 = .ok (.i2l, 1) := by decide +kernel
theorem dL_law_1578 : decode cL_law 1578 = .ok (.lcmp, 1) := by decide +kernel
theorem dL_law_1579 : decode cL_law 1579 = .ok (.ifCond .eq 5, 3) := by decide +kernel
theorem dL_law_1582 : decode cL_law 1582 = .ok (.iconst 0, 1) := by decide +kernel
theorem dL_law_1583 : decode cL_law 1583 = .ok (.ireturn, 1) := by decide +kernel
theorem dL_law_1584 : decode cL_law 1584 = .ok (.goto 107, 3) := by decide +kernel
theorem dL_law_1587 : decode cL_law 1587 = .ok (.aload_n 1, 1) := by decide +kernel
theorem dL_law_1588 : decode cL_law 1588 = .ok (.aload_n 0, 1) := by decide +kernel
theorem dL_law_1589 : decode cL_law 1589 = .ok (.iload 4, 2) := by decide +kernel
theorem dL_law_1591 : decode cL_law 1591 = .ok (.iconst 1, 1) := by decide +kernel
theorem dL_law_1592 : decode cL_law 1592 = .ok (.iadd, 1) := by decide +kernel
theorem dL_law_1593 : decode cL_law 1593 = .ok (.iaload, 1) := by decide +kernel
theorem dL_law_1594 : decode cL_law 1594 = .ok (.aload_n 0, 1) := by decide +kernel
theorem dL_law_1595 : decode cL_law 1595 = .ok (.iload 4, 2) := by decide +kernel
theorem dL_law_1597 : decode cL_law 1597 = .ok (.iconst 2, 1) := by decide +kernel
theorem dL_law_1598 : decode cL_law 1598 = .ok (.iadd, 1) := by decide +kernel
theorem dL_law_1599 : decode cL_law 1599 = .ok (.iaload, 1) := by decide +kernel
theorem dL_law_1600 : decode cL_law 1600 = .ok (.aload_n 0, 1) := by decide +kernel
theorem dL_law_1601 : decode cL_law 1601 = .ok (.iload 4, 2) := by decide +kernel
theorem dL_law_1603 : decode cL_law 1603 = .ok (.iconst 3, 1) := by decide +kernel
theorem dL_law_1604 : decode cL_law 1604 = .ok (.iadd, 1) := by decide +kernel
theorem dL_law_1605 : decode cL_law 1605 = .ok (.iaload, 1) := by decide +kernel
theorem dL_law_1606 : decode cL_law 1606 = .ok (.aload_n 3, 1) := by decide +kernel
theorem dL_law_1607 : decode cL_law 1607 = .ok (.invokestatic 186, 3) := by decide +kernel
theorem dL_law_1610 : decode cL_law 1610 = .ok (.istore 5, 2) := by decide +kernel
theorem dL_law_1612 : decode cL_law 1612 = .ok (.aload_n 2, 1) := by decide +kernel
theorem dL_law_1613 : decode cL_law 1613 = .ok (.aload_n 0, 1) := by decide +kernel
theorem dL_law_1614 : decode cL_law 1614 = .ok (.iload 4, 2) := by decide +kernel
theorem dL_law_1616 : decode cL_law 1616 = .ok (.iconst 1, 1) := by decide +kernel
theorem dL_law_1617 : decode cL_law 1617 = .ok (.iadd, 1) := by decide +kernel
theorem dL_law_1618 : decode cL_law 1618 = .ok (.iaload, 1) := by decide +kernel
theorem dL_law_1619 : decode cL_law 1619 = .ok (.aload_n 0, 1) := by decide +kernel
theorem dL_law_1620 : decode cL_law 1620 = .ok (.iload 4, 2) := by decide +kernel
theorem dL_law_1622 : decode cL_law 1622 = .ok (.iconst 2, 1) := by decide +kernel
theorem dL_law_1623 : decode cL_law 1623 = .ok (.iadd, 1) := by decide +kernel
theorem dL_law_1624 : decode cL_law 1624 = .ok (.iaload, 1) := by decide +kernel
theorem dL_law_1625 : decode cL_law 1625 = .ok (.aload_n 0, 1) := by decide +kernel
theorem dL_law_1626 : decode cL_law 1626 = .ok (.iload 4, 2) := by decide +kernel
theorem dL_law_1628 : decode cL_law 1628 = .ok (.iconst 3, 1) := by decide +kernel
theorem dL_law_1629 : decode cL_law 1629 = .ok (.iadd, 1) := by decide +kernel
theorem dL_law_1630 : decode cL_law 1630 = .ok (.iaload, 1) := by decide +kernel
theorem dL_law_1631 : decode cL_law 1631 = .ok (.invokevirtual 189, 3) := by decide +kernel
theorem dL_law_1634 : decode cL_law 1634 = .ok (.istore 6, 2) := by decide +kernel
theorem dL_law_1636 : decode cL_law 1636 = .ok (.aload_n 2, 1) := by decide +kernel
theorem dL_law_1637 : decode cL_law 1637 = .ok (.invokevirtual 94, 3) := by decide +kernel
theorem dL_law_1640 : decode cL_law 1640 = .ok (.iload 5, 2) := by decide +kernel
theorem dL_law_1642 : decode cL_law 1642 = .ok (.if_icmp .eq 5, 3) := by decide +kernel
theorem dL_law_1645 : decode cL_law 1645 = .ok (.iconst 0, 1) := by decide +kernel
theorem dL_law_1646 : decode cL_law 1646 = .ok (.ireturn, 1) := by decide +kernel
theorem dL_law_1647 : decode cL_law 1647 = .ok (.iload 5, 2) := by decide +kernel
theorem dL_law_1649 : decode cL_law 1649 = .ok (.ifCond .ne 15, 3) := by decide +kernel
theorem dL_law_1652 : decode cL_law 1652 = .ok (.aload_n 3, 1) := by decide +kernel
theorem dL_law_1653 : decode cL_law 1653 = .ok (.iconst 0, 1) := by decide +kernel
theorem dL_law_1654 : decode cL_law 1654 = .ok (.laload, 1) := by decide +kernel
theorem dL_law_1655 : decode cL_law 1655 = .ok (.iload 6, 2) := by decide +kernel
theorem dL_law_1657 : decode cL_law 1657 = .ok (.i2l, 1) := by decide +kernel
theorem dL_law_1658 : decode cL_law 1658 = .ok (.lcmp, 1) := by decide +kernel
theorem dL_law_1659 : decode cL_law 1659 = .ok (.ifCond .eq 5, 3) := by decide +kernel
theorem dL_law_1662 : decode cL_law 1662 = .ok (.iconst 0, 1) := by decide +kernel
theorem dL_law_1663 : decode cL_law 1663 = .ok (.ireturn, 1) := by decide +kernel
theorem dL_law_1664 : decode cL_law 1664 = .ok (.goto 27, 3) := by decide +kernel
theorem dL_law_1667 : decode cL_law 1667 = .ok (.aload_n 1, 1) := by decide +kernel
theorem dL_law_1668 : decode cL_law 1668 = .ok (.invokevirtual 190, 3) := by decide +kernel
theorem dL_law_1671 : decode cL_law 1671 = .ok (.aload_n 2, 1) := by decide +kernel
theorem dL_law_1672 : decode cL_law 1672 = .ok (.invokevirtual 193, 3) := by decide +kernel
theorem dL_law_1675 : decode cL_law 1675 = .ok (.goto 16, 3) := by decide +kernel
theorem dL_law_1678 : decode cL_law 1678 = .ok (.aload_n 1, 1) := by decide +kernel
theorem dL_law_1679 : decode cL_law 1679 = .ok (.invokevirtual 194, 3) := by decide +kernel
theorem dL_law_1682 : decode cL_law 1682 = .ok (.aload_n 2, 1) := by decide +kernel
theorem dL_law_1683 : decode cL_law 1683 = .ok (.invokevirtual 198, 3) := by decide +kernel
theorem dL_law_1686 : decode cL_law 1686 = .ok (.if_icmp .eq 5, 3) := by decide +kernel
theorem dL_law_1689 : decode cL_law 1689 = .ok (.iconst 0, 1) := by decide +kernel
theorem dL_law_1690 : decode cL_law 1690 = .ok (.ireturn, 1) := by decide +kernel
theorem dL_law_1691 : decode cL_law 1691 = .ok (.iinc 4 6, 3) := by decide +kernel
theorem dL_law_1694 : decode cL_law 1694 = .ok (.goto (-1671), 3) := by decide +kernel
theorem dL_law_1697 : decode cL_law 1697 = .ok (.iconst 1, 1) := by decide +kernel
theorem dL_law_1698 : decode cL_law 1698 = .ok (.ireturn, 1) := by decide +kernel

