theorem mem_at {big ws : List Cond} (ps : List Nat) (hp : ws = ps.filterMap (fun i => big[i]?)) : ∀ w ∈ ws, w ∈ big := by
  intro w hw
  rw [hp] at hw
  obtain ⟨i, -, hi⟩ := List.mem_filterMap.mp hw
  exact List.mem_of_getElem? hi
theorem in_wsL_law0_r1 : ∀ w ∈ wsL_law0_r1, w ∈ lw_tbl := mem_at [14, 15, 3, 395, 16, 17, 18, 19, 20, 21, 22, 23, 4, 91, 58, 59, 5, 92, 78, 79, 6, 93, 24, 25] (by decide +kernel)
theorem in_wsL_law0_r2 : ∀ w ∈ wsL_law0_r2, w ∈ lw_tbl := mem_at [26, 27, 57, 28, 30, 32, 34, 36, 38, 40, 60, 61, 62, 63, 64, 67, 68, 69, 66, 80, 81, 82, 83, 84] (by decide +kernel)
theorem in_wsL_law0_r3 : ∀ w ∈ wsL_law0_r3, w ∈ lw_tbl := mem_at [85, 110, 111, 2, 112, 101, 102, 103, 104, 35, 109, 105, 106, 107, 108, 117, 118, 119, 113, 114, 115, 116, 120, 121] (by decide +kernel)
theorem in_wsL_law0_r4 : ∀ w ∈ wsL_law0_r4, w ∈ lw_tbl := mem_at [122, 123, 29, 31, 33, 37, 39, 124, 125, 126, 127, 10, 195, 196, 197, 198, 11, 214, 215, 216, 217, 218, 219, 220] (by decide +kernel)
theorem in_wsL_law0_r5 : ∀ w ∈ wsL_law0_r5, w ∈ lw_tbl := mem_at [221, 222, 223, 224, 225, 226, 227, 12, 228, 229, 230, 231, 232, 233, 234, 235, 236, 238, 13, 237, 254, 255, 256, 257] (by decide +kernel)
theorem in_wsL_law0_r6 : ∀ w ∈ wsL_law0_r6, w ∈ lw_tbl := mem_at [258, 259, 260, 261, 262, 263, 264, 265, 266, 267, 268, 269, 270, 41, 271, 272, 273, 274, 275, 276, 277, 278, 279, 280] (by decide +kernel)
theorem in_wsL_law0_r7 : ∀ w ∈ wsL_law0_r7, w ∈ lw_tbl := mem_at [281, 282, 283, 284, 285, 286, 287, 288, 289, 290, 291, 292, 293, 294, 295, 296, 297, 298, 299, 300, 302, 303, 304, 305] (by decide +kernel)
theorem in_wsL_law0_r8 : ∀ w ∈ wsL_law0_r8, w ∈ lw_tbl := mem_at [306, 307, 308, 309, 310, 312, 1, 313, 315, 316, 317, 318, 360, 361, 362, 329, 330, 331, 332, 70, 333, 334, 335, 336] (by decide +kernel)
theorem in_wsL_law0_r9 : ∀ w ∈ wsL_law0_r9, w ∈ lw_tbl := mem_at [337, 338, 339, 340, 341, 342, 343, 344, 345, 346, 347, 348, 349, 350, 12, 351, 352, 353, 354, 355, 356, 357, 358, 359] (by decide +kernel)
theorem in_wsL_law0_r10a : ∀ w ∈ wsL_law0_r10a, w ∈ lw_tbl := mem_at [363, 364, 365, 327, 366, 367, 368, 369, 371, 372, 373, 374, 319, 320] (by decide +kernel)
theorem in_wsL_law0_r10b : ∀ w ∈ wsL_law0_r10b, w ∈ lw_tbl := fun w h => (List.mem_singleton.mp h) ▸ List.mem_of_getElem? (i := 321) (by rfl)
theorem in_wsL_law0_r10c : ∀ w ∈ wsL_law0_r10c, w ∈ lw_tbl := mem_at [328, 322, 323, 324, 325, 326, 375, 376] (by decide +kernel)
theorem in_wsL_law0_r10d : ∀ w ∈ wsL_law0_r10d, w ∈ lw_tbl := fun w h => (List.mem_singleton.mp h) ▸ List.mem_of_getElem? (i := 377) (by rfl)
theorem in_wsL_law0_r10 : ∀ w ∈ wsL_law0_r10, w ∈ lw_tbl := fun w h => (List.mem_append.mp h).elim (fun h => in_wsL_law0_r10a w h) (fun h => (List.mem_append.mp h).elim (fun h => in_wsL_law0_r10b w h) (fun h => (List.mem_append.mp h).elim (fun h => in_wsL_law0_r10c w h) (fun h => in_wsL_law0_r10d w h)))
theorem in_wsL_law0_r11 : ∀ w ∈ wsL_law0_r11, w ∈ lw_tbl := mem_at [378, 379, 380, 381, 382, 383, 384, 385, 386, 387, 388, 389, 390, 391, 392, 393, 394] (by decide +kernel)
theorem in_wsX00 : ∀ w ∈ wsX00, w ∈ lw_tbl := mem_at [42, 44, 46, 48, 50, 52, 54] (by decide +kernel)
theorem in_wsX10 : ∀ w ∈ wsX10, w ∈ lw_tbl := mem_at [71, 73, 75] (by decide +kernel)
theorem in_wsX20 : ∀ w ∈ wsX20, w ∈ lw_tbl := mem_at [86, 88] (by decide +kernel)
theorem in_wsX30 : ∀ w ∈ wsX30, w ∈ lw_tbl := mem_at [94, 96, 98] (by decide +kernel)
theorem wsL_law_in0 : ∀ w ∈ wsL_law0, w ∈ lw_tbl := fun w h => (List.mem_append.mp h).elim (fun h => (fun w h => (List.mem_append.mp h).elim (fun h => (fun w h => (List.mem_append.mp h).elim (fun h => (fun w h => (List.mem_append.mp h).elim (fun h => (fun w h => (List.mem_append.mp h).elim (fun h => (fun w h => (List.mem_append.mp h).elim (fun h => in_wsL_law0_r1 w h) (fun h => (List.mem_append.mp h).elim (fun h => in_wsL_law0_r2 w h) (fun h => (List.mem_append.mp h).elim (fun h => in_wsL_law0_r3 w h) (fun h => (List.mem_append.mp h).elim (fun h => in_wsL_law0_r4 w h) (fun h => (List.mem_append.mp h).elim (fun h => in_wsL_law0_r5 w h) (fun h => (List.mem_append.mp h).elim (fun h => in_wsL_law0_r6 w h) (fun h => (List.mem_append.mp h).elim (fun h => in_wsL_law0_r7 w h) (fun h => (List.mem_append.mp h).elim (fun h => in_wsL_law0_r8 w h) (fun h => (List.mem_append.mp h).elim (fun h => in_wsL_law0_r9 w h) (fun h => (List.mem_append.mp h).elim (fun h => in_wsL_law0_r10 w h) (fun h => in_wsL_law0_r11 w h))))))))))) w h) (fun h => in_wsX30 w h)) w h) (fun h => in_wsX00 w h)) w h) (fun h => in_wsX10 w h)) w h) (fun h => in_wsX20 w h)) w h) (fun h => absurd h List.not_mem_nil)
theorem wsL_law_x0 : ∀ w ∈ (vx_atS RX3 214 "java/lang/IndexOutOfBoundsException" ["java/lang/RuntimeException", "java/lang/Exception"]).filter goodWord, w ∈ lw_tbl := by decide +kernel
theorem wsL_law_x1 : ∀ w ∈ (vx_atS RX3 105 "java/lang/IllegalArgumentException" ["java/lang/RuntimeException", "java/lang/Exception"]).filter goodWord, w ∈ lw_tbl := by decide +kernel
theorem wsL_law_x2 : ∀ w ∈ (vx_atS RX3 46 "java/lang/IllegalStateException" ["java/lang/RuntimeException", "java/lang/Exception"]).filter goodWord, w ∈ lw_tbl := by decide +kernel
theorem wsL_law_in : ∀ w ∈ wsL_law, w ∈ lw_tbl := fun w h => (List.mem_append.mp h).elim (fun h => (List.mem_append.mp h).elim (fun h => (List.mem_append.mp h).elim (fun h => wsL_law_in0 w h) (fun h => wsL_law_x0 w h)) (fun h => wsL_law_x1 w h)) (fun h => wsL_law_x2 w h)
theorem inlX0 : ∀ w ∈ wsX00, w ∈ wsL_law := fun _ h => List.mem_append_left _ (List.mem_append_left _ (List.mem_append_left _ (List.mem_append_left _ (List.mem_append_left _ (List.mem_append_left _ (List.mem_append_right _ h))))))
theorem inX0 : ∀ w ∈ wsX00, w ∈ lw_tbl := fun w h => wsL_law_in w (inlX0 w h)
theorem inlX1 : ∀ w ∈ wsX10, w ∈ wsL_law := fun _ h => List.mem_append_left _ (List.mem_append_left _ (List.mem_append_left _ (List.mem_append_left _ (List.mem_append_left _ (List.mem_append_right _ h)))))
theorem inX1 : ∀ w ∈ wsX10, w ∈ lw_tbl := fun w h => wsL_law_in w (inlX1 w h)
theorem inlX2 : ∀ w ∈ wsX20, w ∈ wsL_law := fun _ h => List.mem_append_left _ (List.mem_append_left _ (List.mem_append_left _ (List.mem_append_left _ (List.mem_append_right _ h))))
theorem inX2 : ∀ w ∈ wsX20, w ∈ lw_tbl := fun w h => wsL_law_in w (inlX2 w h)
theorem inlX3 : ∀ w ∈ wsX30, w ∈ wsL_law := fun _ h => List.mem_append_left _ (List.mem_append_left _ (List.mem_append_left _ (List.mem_append_left _ (List.mem_append_left _ (List.mem_append_left _ (List.mem_append_left _ (List.mem_append_right _ h)))))))
theorem inX3 : ∀ w ∈ wsX30, w ∈ lw_tbl := fun w h => wsL_law_in w (inlX3 w h)
theorem inX4 : ∀ w ∈ wsX40, w ∈ lw_tbl := by decide +kernel
theorem inJ9 : ∀ w ∈ wsJ90, w ∈ lw_tbl := by decide +kernel
theorem inJ0 : ∀ w ∈ wsJ00, w ∈ lw_tbl := by decide +kernel

