theorem mem_at {big ws : List Cond} (ps : List Nat) (hp : ws = ps.filterMap (fun i => big[i]?)) : ∀ w ∈ ws, w ∈ big := by
  intro w hw
  rw [hp] at hw
  obtain ⟨i, -, hi⟩ := List.mem_filterMap.mp hw
  exact List.mem_of_getElem? hi
theorem in_wsL_law0_r1 : ∀ w ∈ wsL_law0_r1, w ∈ lw_tbl := mem_at [50, 51, 38, 517, 518, 42, 797, 52, 53, 54, 55, 56, 57, 58, 59, 39, 129, 94, 95, 40, 130, 114, 115, 41] (by decide +kernel)
theorem in_wsL_law0_r2 : ∀ w ∈ wsL_law0_r2, w ∈ lw_tbl := mem_at [131, 60, 61, 62, 63, 93, 64, 66, 68, 70, 72, 74, 76, 96, 97, 98, 99, 100, 103, 104, 105, 102, 116, 117] (by decide +kernel)
theorem in_wsL_law0_r3 : ∀ w ∈ wsL_law0_r3, w ∈ lw_tbl := mem_at [118, 119, 120, 122, 519, 520, 521, 522, 524, 525, 526, 528, 386, 387, 37, 388, 389, 390, 391, 392, 393, 394, 395, 397] (by decide +kernel)
theorem in_wsL_law0_r4 : ∀ w ∈ wsL_law0_r4, w ∈ lw_tbl := mem_at [49, 344, 345, 346, 347, 46, 237, 238, 239, 240, 47, 396, 168, 169, 170, 171, 172, 48, 173, 143, 144, 145, 146, 147] (by decide +kernel)
theorem in_wsL_law0_r5 : ∀ w ∈ wsL_law0_r5, w ∈ lw_tbl := mem_at [148, 149, 150, 413, 175, 176, 177, 552, 553, 554, 555, 556, 557, 558, 559, 560, 561, 562, 564, 3, 565, 566, 567, 568] (by decide +kernel)
theorem in_wsL_law0_r6 : ∀ w ∈ wsL_law0_r6, w ∈ lw_tbl := mem_at [569, 571, 4, 572, 523, 573, 575, 5, 576, 527, 577, 579, 6, 580, 581, 583, 7, 584, 585, 586, 587, 548, 549, 550] (by decide +kernel)
theorem in_wsL_law0_r7 : ∀ w ∈ wsL_law0_r7, w ∈ lw_tbl := mem_at [551, 414, 415, 416, 417, 418, 419, 420, 69, 588, 589, 590, 591, 592, 594, 8, 595, 421, 422, 423, 424, 425, 426, 427] (by decide +kernel)
theorem in_wsL_law0_r8 : ∀ w ∈ wsL_law0_r8, w ∈ lw_tbl := mem_at [77, 596, 597, 598, 599, 428, 429, 430, 431, 432, 433, 434, 435, 437, 1, 438, 218, 156, 157, 158, 159, 160, 161, 162] (by decide +kernel)
theorem in_wsL_law0_r9 : ∀ w ∈ wsL_law0_r9, w ∈ lw_tbl := mem_at [163, 164, 165, 166, 167, 174, 178, 179, 180, 181, 182, 183, 184, 185, 600, 601, 602, 603, 604, 606, 9, 607, 608, 610] (by decide +kernel)
theorem in_wsL_law0_r10 : ∀ w ∈ wsL_law0_r10, w ∈ lw_tbl := mem_at [10, 611, 612, 614, 11, 615, 616, 618, 12, 619, 620, 622, 13, 623, 624, 626, 14, 627, 628, 630, 15, 631, 632, 634] (by decide +kernel)
theorem in_wsL_law0_r11 : ∀ w ∈ wsL_law0_r11, w ∈ lw_tbl := mem_at [16, 635, 636, 638, 17, 639, 640, 642, 18, 643, 644, 646, 19, 647, 648, 650, 20, 651, 652, 654, 21, 655, 656, 658] (by decide +kernel)
theorem in_wsL_law0_r12 : ∀ w ∈ wsL_law0_r12, w ∈ lw_tbl := mem_at [22, 659, 440, 441, 442, 443, 444, 445, 446, 660, 661, 662, 663, 447, 448, 449, 450, 451, 452, 453, 71, 151, 152, 153] (by decide +kernel)
theorem in_wsL_law0_r13 : ∀ w ∈ wsL_law0_r13, w ∈ lw_tbl := mem_at [154, 155, 664, 665, 666, 667, 139, 140, 141, 142, 186, 187, 188, 189, 668, 669, 670, 671, 455, 456, 457, 458, 459, 460] (by decide +kernel)
theorem in_wsL_law0_r14 : ∀ w ∈ wsL_law0_r14, w ∈ lw_tbl := mem_at [461, 123, 121, 672, 673, 674, 675, 529, 190, 191, 192, 193, 676, 677, 678, 679, 194, 195, 196, 197, 198, 199, 200, 201] (by decide +kernel)
theorem in_wsL_law0_r15 : ∀ w ∈ wsL_law0_r15, w ∈ lw_tbl := mem_at [203, 204, 206, 207, 680, 681, 682, 683, 684, 686, 23, 687, 463, 464, 465, 466, 467, 468, 469, 470, 471, 472, 473, 474] (by decide +kernel)
theorem in_wsL_law0_r16 : ∀ w ∈ wsL_law0_r16, w ∈ lw_tbl := mem_at [476, 477, 478, 479, 480, 481, 483, 2, 484, 688, 689, 690, 691, 692, 694, 24, 695, 696, 698, 25, 699, 485, 486, 487] (by decide +kernel)
theorem in_wsL_law0_r17 : ∀ w ∈ wsL_law0_r17, w ∈ lw_tbl := mem_at [488, 489, 490, 491, 106, 493, 494, 495, 496, 700, 701, 702, 703, 497, 498, 499, 500, 341, 342, 343, 65, 67, 73, 75] (by decide +kernel)
theorem in_wsL_law0_r18 : ∀ w ∈ wsL_law0_r18, w ∈ lw_tbl := mem_at [212, 223, 224, 225, 226, 704, 705, 706, 707, 708, 710, 26, 711, 712, 714, 27, 715, 208, 209, 210, 211, 213, 716, 717] (by decide +kernel)
theorem in_wsL_law0_r19 : ∀ w ∈ wsL_law0_r19, w ∈ lw_tbl := mem_at [718, 719, 720, 722, 28, 723, 724, 501, 502, 503, 504, 234, 235, 236, 308, 309, 310, 311, 312, 313, 314, 315, 316, 317] (by decide +kernel)
theorem in_wsL_law0_r20 : ∀ w ∈ wsL_law0_r20, w ∈ lw_tbl := mem_at [318, 319, 320, 321, 322, 323, 324, 325, 48, 326, 327, 328, 329, 330, 331, 332, 333, 334, 725, 726, 727, 728, 729, 731] (by decide +kernel)
theorem in_wsL_law0_r21 : ∀ w ∈ wsL_law0_r21, w ∈ lw_tbl := mem_at [29, 732, 733, 735, 30, 736, 505, 506, 507, 508, 364, 365, 366, 367, 737, 738, 739, 740, 741, 743, 31, 744, 509, 510] (by decide +kernel)
theorem in_wsL_law0_r22 : ∀ w ∈ wsL_law0_r22, w ∈ lw_tbl := mem_at [511, 512, 369, 370, 371, 745, 746, 747, 748, 513, 514, 515, 516, 373, 374, 375, 376, 749, 750, 751, 752, 753, 754, 756] (by decide +kernel)
theorem in_wsL_law0_r23 : ∀ w ∈ wsL_law0_r23, w ∈ lw_tbl := mem_at [32, 757, 214, 215, 216, 217, 758, 759, 760, 761, 762, 764, 33, 765, 219, 220, 221, 222, 227, 766, 767, 768, 769, 770] (by decide +kernel)
theorem in_wsL_law0_r24 : ∀ w ∈ wsL_law0_r24, w ∈ lw_tbl := mem_at [772, 34, 773, 774, 228, 229, 230, 231, 232, 377, 233, 335, 336, 337, 338, 339, 340, 363, 368, 372, 378, 379, 380, 381] (by decide +kernel)
theorem in_wsL_law0_r25 : ∀ w ∈ wsL_law0_r25, w ∈ lw_tbl := mem_at [382, 383, 384, 385, 775, 776, 777, 778, 779, 530, 789, 780, 782, 35, 783, 784, 785, 787, 36, 788, 790, 791, 792, 793] (by decide +kernel)
theorem in_wsL_law0_r26 : ∀ w ∈ wsL_law0_r26, w ∈ lw_tbl := mem_at [794, 795, 796] (by decide +kernel)
theorem in_wsX00 : ∀ w ∈ wsX00, w ∈ lw_tbl := mem_at [78, 80, 82, 84, 86, 88, 90] (by decide +kernel)
theorem in_wsX10 : ∀ w ∈ wsX10, w ∈ lw_tbl := mem_at [107, 109, 111] (by decide +kernel)
theorem in_wsX20 : ∀ w ∈ wsX20, w ∈ lw_tbl := mem_at [124, 126] (by decide +kernel)
theorem in_wsX30 : ∀ w ∈ wsX30, w ∈ lw_tbl := mem_at [132, 134, 136] (by decide +kernel)
theorem in_wsX40 : ∀ w ∈ wsX40, w ∈ lw_tbl := mem_at [531, 533, 535, 537, 539, 541, 543, 545] (by decide +kernel)
theorem wsL_law_in0 : ∀ w ∈ wsL_law0, w ∈ lw_tbl := fun w h => (List.mem_append.mp h).elim (fun h => (fun w h => (List.mem_append.mp h).elim (fun h => (fun w h => (List.mem_append.mp h).elim (fun h => (fun w h => (List.mem_append.mp h).elim (fun h => (fun w h => (List.mem_append.mp h).elim (fun h => (fun w h => (List.mem_append.mp h).elim (fun h => (fun w h => (List.mem_append.mp h).elim (fun h => in_wsL_law0_r1 w h) (fun h => (List.mem_append.mp h).elim (fun h => in_wsL_law0_r2 w h) (fun h => (List.mem_append.mp h).elim (fun h => in_wsL_law0_r3 w h) (fun h => (List.mem_append.mp h).elim (fun h => in_wsL_law0_r4 w h) (fun h => (List.mem_append.mp h).elim (fun h => in_wsL_law0_r5 w h) (fun h => (List.mem_append.mp h).elim (fun h => in_wsL_law0_r6 w h) (fun h => (List.mem_append.mp h).elim (fun h => in_wsL_law0_r7 w h) (fun h => (List.mem_append.mp h).elim (fun h => in_wsL_law0_r8 w h) (fun h => (List.mem_append.mp h).elim (fun h => in_wsL_law0_r9 w h) (fun h => (List.mem_append.mp h).elim (fun h => in_wsL_law0_r10 w h) (fun h => (List.mem_append.mp h).elim (fun h => in_wsL_law0_r11 w h) (fun h => (List.mem_append.mp h).elim (fun h => in_wsL_law0_r12 w h) (fun h => (List.mem_append.mp h).elim (fun h => in_wsL_law0_r13 w h) (fun h => (List.mem_append.mp h).elim (fun h => in_wsL_law0_r14 w h) (fun h => (List.mem_append.mp h).elim (fun h => in_wsL_law0_r15 w h) (fun h => (List.mem_append.mp h).elim (fun h => in_wsL_law0_r16 w h) (fun h => (List.mem_append.mp h).elim (fun h => in_wsL_law0_r17 w h) (fun h => (List.mem_append.mp h).elim (fun h => in_wsL_law0_r18 w h) (fun h => (List.mem_append.mp h).elim (fun h => in_wsL_law0_r19 w h) (fun h => (List.mem_append.mp h).elim (fun h => in_wsL_law0_r20 w h) (fun h => (List.mem_append.mp h).elim (fun h => in_wsL_law0_r21 w h) (fun h => (List.mem_append.mp h).elim (fun h => in_wsL_law0_r22 w h) (fun h => (List.mem_append.mp h).elim (fun h => in_wsL_law0_r23 w h) (fun h => (List.mem_append.mp h).elim (fun h => in_wsL_law0_r24 w h) (fun h => (List.mem_append.mp h).elim (fun h => in_wsL_law0_r25 w h) (fun h => in_wsL_law0_r26 w h)))))))))))))))))))))))))) w h) (fun h => in_wsX30 w h)) w h) (fun h => in_wsX40 w h)) w h) (fun h => in_wsX00 w h)) w h) (fun h => in_wsX10 w h)) w h) (fun h => in_wsX20 w h)) w h) (fun h => absurd h List.not_mem_nil)
theorem wsL_law_x0 : ∀ w ∈ (vx_atS RX3 46 "java/lang/IllegalStateException" ["java/lang/RuntimeException", "java/lang/Exception"]).filter goodWord, w ∈ lw_tbl := by decide +kernel
theorem wsL_law_x1 : ∀ w ∈ (vx_atS RX3 214 "java/lang/IndexOutOfBoundsException" ["java/lang/RuntimeException", "java/lang/Exception"]).filter goodWord, w ∈ lw_tbl := by decide +kernel
theorem wsL_law_x2 : ∀ w ∈ (vx_atS RX3 105 "java/lang/IllegalArgumentException" ["java/lang/RuntimeException", "java/lang/Exception"]).filter goodWord, w ∈ lw_tbl := by decide +kernel
theorem wsL_law_in : ∀ w ∈ wsL_law, w ∈ lw_tbl := fun w h => (List.mem_append.mp h).elim (fun h => (List.mem_append.mp h).elim (fun h => (List.mem_append.mp h).elim (fun h => wsL_law_in0 w h) (fun h => wsL_law_x0 w h)) (fun h => wsL_law_x1 w h)) (fun h => wsL_law_x2 w h)
theorem inlX0 : ∀ w ∈ wsX00, w ∈ wsL_law := fun _ h => List.mem_append_left _ (List.mem_append_left _ (List.mem_append_left _ (List.mem_append_left _ (List.mem_append_left _ (List.mem_append_left _ (List.mem_append_right _ h))))))
theorem inX0 : ∀ w ∈ wsX00, w ∈ lw_tbl := fun w h => wsL_law_in w (inlX0 w h)
theorem inlX1 : ∀ w ∈ wsX10, w ∈ wsL_law := fun _ h => List.mem_append_left _ (List.mem_append_left _ (List.mem_append_left _ (List.mem_append_left _ (List.mem_append_left _ (List.mem_append_right _ h)))))
theorem inX1 : ∀ w ∈ wsX10, w ∈ lw_tbl := fun w h => wsL_law_in w (inlX1 w h)
theorem inlX2 : ∀ w ∈ wsX20, w ∈ wsL_law := fun _ h => List.mem_append_left _ (List.mem_append_left _ (List.mem_append_left _ (List.mem_append_left _ (List.mem_append_right _ h))))
theorem inX2 : ∀ w ∈ wsX20, w ∈ lw_tbl := fun w h => wsL_law_in w (inlX2 w h)
theorem inlX3 : ∀ w ∈ wsX30, w ∈ wsL_law := fun _ h => List.mem_append_left _ (List.mem_append_left _ (List.mem_append_left _ (List.mem_append_left _ (List.mem_append_left _ (List.mem_append_left _ (List.mem_append_left _ (List.mem_append_left _ (List.mem_append_right _ h))))))))
theorem inX3 : ∀ w ∈ wsX30, w ∈ lw_tbl := fun w h => wsL_law_in w (inlX3 w h)
theorem inlX4 : ∀ w ∈ wsX40, w ∈ wsL_law := fun _ h => List.mem_append_left _ (List.mem_append_left _ (List.mem_append_left _ (List.mem_append_left _ (List.mem_append_left _ (List.mem_append_left _ (List.mem_append_left _ (List.mem_append_right _ h)))))))
theorem inX4 : ∀ w ∈ wsX40, w ∈ lw_tbl := fun w h => wsL_law_in w (inlX4 w h)
theorem inJ9 : ∀ w ∈ wsJ90, w ∈ lw_tbl := by decide +kernel
theorem inJ0 : ∀ w ∈ wsJ00, w ∈ lw_tbl := by decide +kernel

