theorem mem_p {big ws : List Cond} (ps : List Nat) (hp : ws = ps.filterMap (fun i => big[i]?)) : ∀ w ∈ ws, w ∈ big := by
  intro w hw
  rw [hp] at hw
  obtain ⟨i, -, hi⟩ := List.mem_filterMap.mp hw
  exact List.mem_of_getElem? hi
set_option maxRecDepth 100000 in
theorem in_wsL_law0_r1 : ∀ w ∈ wsL_law0_r1, w ∈ lw_tbl := mem_p [37, 38, 23, 522, 523, 27, 683, 220, 221, 22, 222, 39, 40, 41, 42, 43, 44, 45, 46, 24, 47, 48, 49, 50] (by decide +kernel)
set_option maxRecDepth 100000 in
theorem in_wsL_law0_r2 : ∀ w ∈ wsL_law0_r2, w ∈ lw_tbl := mem_p [102, 51, 52, 25, 103, 104, 105, 63, 64, 26, 106, 108, 109, 53, 54, 55, 56, 57, 62, 58, 65, 66, 67, 68] (by decide +kernel)
set_option maxRecDepth 100000 in
theorem in_wsL_law0_r3 : ∀ w ∈ wsL_law0_r3, w ∈ lw_tbl := mem_p [69, 71, 73, 74, 76, 70, 524, 525, 526, 527, 529, 530, 532, 533, 534, 539, 528, 223, 224, 225, 226, 227, 228, 229] (by decide +kernel)
set_option maxRecDepth 100000 in
theorem in_wsL_law0_r4 : ∀ w ∈ wsL_law0_r4, w ∈ lw_tbl := mem_p [230, 231, 232, 233, 31, 323, 33, 107, 303, 305, 5, 306, 307, 32, 339, 155, 156, 157, 572, 573, 574, 575, 540, 538] (by decide +kernel)
set_option maxRecDepth 100000 in
theorem in_wsL_law0_r5 : ∀ w ∈ wsL_law0_r5, w ∈ lw_tbl := mem_p [576, 577, 578, 568, 569, 570, 571, 340, 341, 342, 343, 344, 345, 346, 348, 350, 6, 351, 352, 176, 177, 354, 356, 7] (by decide +kernel)
set_option maxRecDepth 100000 in
theorem in_wsL_law0_r6 : ∀ w ∈ wsL_law0_r6, w ∈ lw_tbl := mem_p [357, 358, 172, 173, 174, 360, 361, 362, 363, 80, 77, 154, 364, 365, 366, 367, 195, 150, 151, 152, 153, 183, 184, 186] (by decide +kernel)
set_option maxRecDepth 100000 in
theorem in_wsL_law0_r7 : ∀ w ∈ wsL_law0_r7, w ∈ lw_tbl := mem_p [185, 196, 198, 3, 199, 146, 147, 148, 149, 200, 201, 202, 203, 579, 580, 581, 582, 535, 583, 585, 11, 586, 587, 589] (by decide +kernel)
set_option maxRecDepth 100000 in
theorem in_wsL_law0_r8 : ∀ w ∈ wsL_law0_r8, w ∈ lw_tbl := mem_p [12, 590, 591, 593, 13, 594, 595, 596, 597, 598, 368, 369, 370, 371, 372, 373, 374, 375, 376, 377, 378, 379, 381, 8] (by decide +kernel)
set_option maxRecDepth 100000 in
theorem in_wsL_law0_r9 : ∀ w ∈ wsL_law0_r9, w ∈ lw_tbl := mem_p [382, 383, 599, 600, 601, 602, 603, 605, 14, 606, 607, 609, 15, 610, 384, 385, 386, 387, 388, 389, 390, 391, 192, 193] (by decide +kernel)
set_option maxRecDepth 100000 in
theorem in_wsL_law0_r10 : ∀ w ∈ wsL_law0_r10, w ∈ lw_tbl := mem_p [194, 170, 204, 205, 206, 207, 82, 84, 611, 612, 613, 614, 536, 392, 393, 394, 395, 396, 397, 398, 216, 217, 218, 219] (by decide +kernel)
set_option maxRecDepth 100000 in
theorem in_wsL_law0_r11 : ∀ w ∈ wsL_law0_r11, w ∈ lw_tbl := mem_p [401, 143, 144, 145, 615, 616, 617, 618, 619, 621, 16, 622, 130, 131, 132, 133, 134, 136, 0, 137, 138, 139, 140, 141] (by decide +kernel)
set_option maxRecDepth 100000 in
theorem in_wsL_law0_r12 : ∀ w ∈ wsL_law0_r12, w ∈ lw_tbl := mem_p [142, 158, 159, 160, 161, 162, 164, 1, 165, 166, 167, 168, 169, 171, 178, 179, 180, 181, 187, 189, 2, 190, 191, 623] (by decide +kernel)
set_option maxRecDepth 100000 in
theorem in_wsL_law0_r13 : ∀ w ∈ wsL_law0_r13, w ∈ lw_tbl := mem_p [624, 625, 626, 627, 629, 17, 630, 537, 631, 633, 18, 634, 635, 637, 19, 638, 402, 403, 404, 406, 407, 408, 409, 411] (by decide +kernel)
set_option maxRecDepth 100000 in
theorem in_wsL_law0_r14 : ∀ w ∈ wsL_law0_r14, w ∈ lw_tbl := mem_p [413, 9, 414, 415, 416, 35, 639, 640, 641, 642, 643, 645, 20, 646, 436, 437, 438, 439, 440, 441, 442, 647, 648, 649] (by decide +kernel)
set_option maxRecDepth 100000 in
theorem in_wsL_law0_r15 : ∀ w ∈ wsL_law0_r15, w ∈ lw_tbl := mem_p [650, 443, 444, 445, 446, 447, 448, 449, 450, 455, 36, 451, 452, 453, 454, 471, 473, 10, 474, 475, 477, 478, 479, 480] (by decide +kernel)
set_option maxRecDepth 100000 in
theorem in_wsL_law0_r16 : ∀ w ∈ wsL_law0_r16, w ∈ lw_tbl := mem_p [481, 659, 660, 661, 662, 663, 665, 21, 666, 483, 484, 485, 486, 487, 488, 489, 491, 492, 493, 494, 667, 668, 669, 670] (by decide +kernel)
set_option maxRecDepth 100000 in
theorem in_wsL_law0_r17 : ∀ w ∈ wsL_law0_r17, w ∈ lw_tbl := mem_p [208, 209, 210, 211, 671, 672, 673, 674, 495, 496, 497, 498, 499, 500, 501, 110, 651, 652, 653, 654, 531, 502, 503, 504] (by decide +kernel)
set_option maxRecDepth 100000 in
theorem in_wsL_law0_r18 : ∀ w ∈ wsL_law0_r18, w ∈ lw_tbl := mem_p [505, 506, 507, 508, 655, 656, 657, 658, 510, 511, 512, 513, 514, 515, 516, 517, 518, 519, 520, 521, 675, 676, 677, 678] (by decide +kernel)
set_option maxRecDepth 100000 in
theorem in_wsL_law0_r19 : ∀ w ∈ wsL_law0_r19, w ∈ lw_tbl := mem_p [212, 213, 214, 215, 679, 680, 681, 682] (by decide +kernel)
