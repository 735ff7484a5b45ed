theorem in_by {big ws : List Cond} (ps : List Nat) (hp : ws = ps.filterMap (fun i => big[i]?)) : ∀ w ∈ ws, w ∈ big := by
  intro w hw
  rw [hp] at hw
  obtain ⟨i, -, hi⟩ := List.mem_filterMap.mp hw
  exact List.mem_of_getElem? hi
set_option maxRecDepth 20000 in
theorem lin_wsL_law_r1 : ∀ w ∈ wsL_law_r1, w ∈ lw_tbl := in_by [47, 48, 35, 480, 481, 40, 664, 317, 318, 34, 319, 49, 50, 51, 52, 53, 54, 55, 56, 36, 57, 58, 59, 60] (by decide +kernel)
set_option maxRecDepth 20000 in
theorem lin_wsL_law_r2 : ∀ w ∈ wsL_law_r2, w ∈ lw_tbl := in_by [133, 134, 94, 135, 136, 137, 64, 65, 37, 138, 95, 96, 38, 139, 120, 121, 39, 140, 141, 142, 61, 62, 63, 66] (by decide +kernel)
set_option maxRecDepth 20000 in
theorem lin_wsL_law_r3 : ∀ w ∈ wsL_law_r3, w ∈ lw_tbl := in_by [67, 68, 69, 72, 73, 70, 74, 75, 76, 77, 78, 97, 98, 99, 100, 101, 102, 103, 104, 105, 106, 122, 123, 124] (by decide +kernel)
set_option maxRecDepth 20000 in
theorem lin_wsL_law_r4 : ∀ w ∈ wsL_law_r4, w ∈ lw_tbl := in_by [125, 126, 127, 482, 483, 484, 485, 547, 489, 490, 491, 492, 495, 496, 497, 498, 499, 500, 501, 502, 503, 504, 505, 487] (by decide +kernel)
set_option maxRecDepth 20000 in
theorem lin_wsL_law_r5 : ∀ w ∈ wsL_law_r5, w ∈ lw_tbl := in_by [488, 320, 321, 322, 324, 325, 326, 327, 328, 330, 18, 331, 332, 333, 45, 403, 405, 20, 406, 313, 315, 17, 316, 552] (by decide +kernel)
set_option maxRecDepth 20000 in
theorem lin_wsL_law_r6 : ∀ w ∈ wsL_law_r6, w ∈ lw_tbl := in_by [553, 554, 555, 493, 556, 558, 22, 559, 560, 562, 23, 563, 486, 548, 549, 550, 551, 407, 408, 409, 410, 411, 412, 413] (by decide +kernel)
set_option maxRecDepth 20000 in
theorem lin_wsL_law_r7 : ∀ w ∈ wsL_law_r7, w ∈ lw_tbl := in_by [564, 565, 566, 567, 414, 415, 416, 417, 418, 419, 420, 421, 423, 21, 424, 568, 569, 570, 571, 572, 574, 24, 575, 425] (by decide +kernel)
set_option maxRecDepth 20000 in
theorem lin_wsL_law_r8 : ∀ w ∈ wsL_law_r8, w ∈ lw_tbl := in_by [426, 427, 428, 429, 430, 431, 576, 577, 578, 579, 432, 433, 434, 435, 436, 437, 438, 580, 581, 582, 583, 584, 586, 25] (by decide +kernel)
set_option maxRecDepth 20000 in
theorem lin_wsL_law_r9 : ∀ w ∈ wsL_law_r9, w ∈ lw_tbl := in_by [587, 439, 440, 441, 442, 443, 444, 445, 588, 589, 590, 591, 164, 165, 166, 167, 592, 593, 594, 595, 168, 169, 170, 171] (by decide +kernel)
set_option maxRecDepth 20000 in
theorem lin_wsL_law_r10 : ∀ w ∈ wsL_law_r10, w ∈ lw_tbl := in_by [172, 174, 0, 175, 176, 177, 178, 179, 180, 181, 182, 183, 184, 186, 1, 187, 188, 190, 2, 191, 192, 194, 3, 195] (by decide +kernel)
set_option maxRecDepth 20000 in
theorem lin_wsL_law_r11 : ∀ w ∈ wsL_law_r11, w ∈ lw_tbl := in_by [196, 198, 4, 199, 200, 202, 5, 203, 204, 206, 6, 207, 208, 210, 7, 211, 212, 214, 8, 215, 216, 217, 218, 219] (by decide +kernel)
set_option maxRecDepth 20000 in
theorem lin_wsL_law_r12 : ∀ w ∈ wsL_law_r12, w ∈ lw_tbl := in_by [600, 601, 602, 603, 494, 604, 606, 26, 607, 608, 610, 27, 611, 612, 614, 28, 615, 616, 618, 29, 619, 220, 221, 222] (by decide +kernel)
set_option maxRecDepth 20000 in
theorem lin_wsL_law_r13 : ∀ w ∈ wsL_law_r13, w ∈ lw_tbl := in_by [223, 224, 225, 226, 227, 620, 621, 622, 623, 624, 626, 30, 627, 446, 447, 448, 449, 450, 451, 452, 453, 270, 271, 272] (by decide +kernel)
set_option maxRecDepth 20000 in
theorem lin_wsL_law_r14 : ∀ w ∈ wsL_law_r14, w ∈ lw_tbl := in_by [628, 629, 630, 631, 454, 455, 456, 457, 458, 459, 460, 236, 237, 238, 239, 461, 290, 291, 292, 632, 633, 634, 635, 228] (by decide +kernel)
set_option maxRecDepth 20000 in
theorem lin_wsL_law_r15 : ∀ w ∈ wsL_law_r15, w ∈ lw_tbl := in_by [229, 230, 231, 232, 233, 234, 235, 240, 241, 242, 243, 244, 245, 246, 247, 636, 637, 638, 639, 248, 249, 250, 251, 252] (by decide +kernel)
set_option maxRecDepth 20000 in
theorem lin_wsL_law_r16 : ∀ w ∈ wsL_law_r16, w ∈ lw_tbl := in_by [254, 9, 255, 256, 257, 258, 259, 260, 261, 262, 263, 264, 265, 267, 10, 268, 269, 273, 275, 11, 276, 277, 279, 12] (by decide +kernel)
set_option maxRecDepth 20000 in
theorem lin_wsL_law_r17 : ∀ w ∈ wsL_law_r17, w ∈ lw_tbl := in_by [280, 281, 283, 282, 46, 284, 286, 13, 287, 288, 289, 293, 295, 14, 296, 297, 299, 15, 300, 301, 303, 16, 304, 305] (by decide +kernel)
set_option maxRecDepth 20000 in
theorem lin_wsL_law_r18 : ∀ w ∈ wsL_law_r18, w ∈ lw_tbl := in_by [306, 307, 308, 640, 641, 642, 643, 644, 646, 31, 647, 648, 650, 32, 651, 652, 654, 33, 655, 462, 463, 464, 465, 466] (by decide +kernel)
set_option maxRecDepth 20000 in
theorem lin_wsL_law_r19 : ∀ w ∈ wsL_law_r19, w ∈ lw_tbl := in_by [467, 468, 469, 470, 471, 472, 656, 657, 658, 659, 473, 474, 475, 476, 477, 478, 479, 660, 661, 662, 663, 309, 310, 311] (by decide +kernel)
set_option maxRecDepth 20000 in
theorem lin_wsL_law_r20 : ∀ w ∈ wsL_law_r20, w ∈ lw_tbl := in_by [312, 596, 597, 598, 599] (by decide +kernel)
set_option maxRecDepth 20000 in
theorem lin_wsX30 : ∀ w ∈ wsX30, w ∈ lw_tbl := in_by [143, 145, 147, 149, 151, 153, 155, 157, 159, 161] (by decide +kernel)
set_option maxRecDepth 20000 in
theorem lin_wsX40 : ∀ w ∈ wsX40, w ∈ lw_tbl := in_by [506, 508, 510, 512, 514, 516, 518, 520, 522, 524, 526, 528, 530, 532, 534, 536, 538, 540, 542, 544] (by decide +kernel)
set_option maxRecDepth 20000 in
theorem lin_wsX10 : ∀ w ∈ wsX10, w ∈ lw_tbl := in_by [79, 81, 83, 85, 87, 89, 91] (by decide +kernel)
set_option maxRecDepth 20000 in
theorem lin_wsX20 : ∀ w ∈ wsX20, w ∈ lw_tbl := in_by [107, 109, 111, 113, 115, 117] (by decide +kernel)
set_option maxRecDepth 20000 in
theorem lin_wsX00 : ∀ w ∈ wsX00, w ∈ lw_tbl := in_by [128, 130] (by decide +kernel)
set_option maxRecDepth 20000 in
theorem lin_wsJx000600 : ∀ w ∈ wsJx000600, w ∈ lw_tbl := in_by [345, 347, 349, 351, 353, 398] (by decide +kernel)
theorem wsL_law_in : ∀ w ∈ wsL_law, w ∈ lw_tbl := by
  unfold wsL_law
  exact List.forall_mem_append.mpr ⟨List.forall_mem_append.mpr ⟨List.forall_mem_append.mpr ⟨List.forall_mem_append.mpr ⟨List.forall_mem_append.mpr ⟨List.forall_mem_append.mpr ⟨List.forall_mem_append.mpr ⟨List.forall_mem_append.mpr ⟨lin_wsL_law_r1, List.forall_mem_append.mpr ⟨lin_wsL_law_r2, List.forall_mem_append.mpr ⟨lin_wsL_law_r3, List.forall_mem_append.mpr ⟨lin_wsL_law_r4, List.forall_mem_append.mpr ⟨lin_wsL_law_r5, List.forall_mem_append.mpr ⟨lin_wsL_law_r6, List.forall_mem_append.mpr ⟨lin_wsL_law_r7, List.forall_mem_append.mpr ⟨lin_wsL_law_r8, List.forall_mem_append.mpr ⟨lin_wsL_law_r9, List.forall_mem_append.mpr ⟨lin_wsL_law_r10, List.forall_mem_append.mpr ⟨lin_wsL_law_r11, List.forall_mem_append.mpr ⟨lin_wsL_law_r12, List.forall_mem_append.mpr ⟨lin_wsL_law_r13, List.forall_mem_append.mpr ⟨lin_wsL_law_r14, List.forall_mem_append.mpr ⟨lin_wsL_law_r15, List.forall_mem_append.mpr ⟨lin_wsL_law_r16, List.forall_mem_append.mpr ⟨lin_wsL_law_r17, List.forall_mem_append.mpr ⟨lin_wsL_law_r18, List.forall_mem_append.mpr ⟨lin_wsL_law_r19, lin_wsL_law_r20⟩⟩⟩⟩⟩⟩⟩⟩⟩⟩⟩⟩⟩⟩⟩⟩⟩⟩⟩, lin_wsX30⟩, lin_wsX40⟩, lin_wsX10⟩, lin_wsX20⟩, lin_wsX00⟩, lin_wsJx000600⟩, fun _ h => absurd h List.not_mem_nil⟩
theorem inlX0 : ∀ w ∈ wsX00, w ∈ wsL_law := fun _ h => List.mem_append_left _ (List.mem_append_left _ (List.mem_append_right _ h))
theorem inlX1 : ∀ w ∈ wsX10, w ∈ wsL_law := fun _ h => List.mem_append_left _ (List.mem_append_left _ (List.mem_append_left _ (List.mem_append_left _ (List.mem_append_right _ h))))
theorem inlX2 : ∀ w ∈ wsX20, w ∈ wsL_law := fun _ h => List.mem_append_left _ (List.mem_append_left _ (List.mem_append_left _ (List.mem_append_right _ h)))
theorem inlX3 : ∀ w ∈ wsX30, w ∈ wsL_law := fun _ h => List.mem_append_left _ (List.mem_append_left _ (List.mem_append_left _ (List.mem_append_left _ (List.mem_append_left _ (List.mem_append_left _ (List.mem_append_right _ h))))))
theorem inlX4 : ∀ w ∈ wsX40, w ∈ wsL_law := fun _ h => List.mem_append_left _ (List.mem_append_left _ (List.mem_append_left _ (List.mem_append_left _ (List.mem_append_left _ (List.mem_append_right _ h)))))
theorem inlJx00060 : ∀ w ∈ wsJx000600, w ∈ wsL_law := fun _ h => List.mem_append_left _ (List.mem_append_right _ h)
theorem lcCL_in : (Cond.classLink RL 13 ttX : Cond) ∈ lw_tbl := List.mem_of_getElem? (i := 323) (by decide +kernel)
theorem lcAI_in : (Cond.arrayClass .int : Cond) ∈ lw_tbl := List.mem_of_getElem? (i := 94) (by decide +kernel)
theorem lcAG_in : (Cond.arrayOver (.array .int) : Cond) ∈ lw_tbl := List.mem_of_getElem? (i := 71) (by decide +kernel)
theorem lcI0_in : (Cond.instantiable RJx00060 6 : Cond) ∈ lw_tbl := List.mem_of_getElem? (i := 333) (by decide +kernel)
theorem lcI1_in : (Cond.instantiable RX0 2 : Cond) ∈ lw_tbl := List.mem_of_getElem? (i := 121) (by decide +kernel)
theorem lcI2_in : (Cond.instantiable RX1 7 : Cond) ∈ lw_tbl := List.mem_of_getElem? (i := 65) (by decide +kernel)
theorem lcI3_in : (Cond.instantiable RX2 6 : Cond) ∈ lw_tbl := List.mem_of_getElem? (i := 96) (by decide +kernel)
theorem lcI4_in : (Cond.instantiable RX3 10 : Cond) ∈ lw_tbl := List.mem_of_getElem? (i := 48) (by decide +kernel)
theorem lcI5_in : (Cond.instantiable RX4 20 : Cond) ∈ lw_tbl := List.mem_of_getElem? (i := 481) (by decide +kernel)
