theorem in_pl {big ws : List Cond} (ps : List Nat) (hp : ws = ps.filterMap (fun i => big[i]?)) : ∀ w ∈ ws, w ∈ big := by
  intro w hw
  rw [hp] at hw
  obtain ⟨i, -, hi⟩ := List.mem_filterMap.mp hw
  first | exact List.mem_of_getElem? hi | exact List.getElem?_mem hi
theorem in_ap {big a b : List Cond} (ha : ∀ w ∈ a, w ∈ big) (hb : ∀ w ∈ b, w ∈ big) : ∀ w ∈ a ++ b, w ∈ big := fun w h => (List.mem_append.mp h).elim (ha w) (hb w)
set_option maxRecDepth 20000 in
theorem in_wsL_law_r1 : ∀ w ∈ wsL_law_r1, w ∈ lw_tbl := in_pl [37, 38, 26, 590, 591, 34, 39, 40, 41, 42, 43, 44, 45, 46, 27, 141, 64, 65, 29, 142, 81, 82, 30, 143] (by decide +kernel)
set_option maxRecDepth 20000 in
theorem in_wsL_law_r2 : ∀ w ∈ wsL_law_r2, w ∈ lw_tbl := in_pl [97, 98, 31, 144, 111, 112, 32, 145, 126, 127, 33, 146, 63, 147, 148, 149, 47, 48, 49, 50, 51, 56, 57, 53] (by decide +kernel)
set_option maxRecDepth 20000 in
theorem in_wsL_law_r3 : ∀ w ∈ wsL_law_r3, w ∈ lw_tbl := in_pl [54, 28, 55, 66, 67, 68, 69, 70, 71, 72, 73, 83, 84, 85, 86, 87, 88, 89, 99, 100, 101, 102, 103, 104] (by decide +kernel)
set_option maxRecDepth 20000 in
theorem in_wsL_law_r4 : ∀ w ∈ wsL_law_r4, w ∈ lw_tbl := in_pl [105, 113, 114, 115, 116, 117, 119, 120, 118, 128, 129, 130, 131, 132, 134, 592, 593, 594, 595, 597, 600, 601, 602, 603] (by decide +kernel)
set_option maxRecDepth 20000 in
theorem in_wsL_law_r5 : ∀ w ∈ wsL_law_r5, w ∈ lw_tbl := in_pl [604, 605, 606, 610, 611, 613, 614, 615, 616, 617, 618, 619, 687, 620, 623, 624, 625, 169, 170, 171, 172, 173, 174, 175] (by decide +kernel)
set_option maxRecDepth 20000 in
theorem in_wsL_law_r6 : ∀ w ∈ wsL_law_r6, w ∈ lw_tbl := in_pl [176, 177, 178, 179, 181, 0, 182, 183, 184, 185, 186, 688, 689, 690, 691, 692, 693, 694, 695, 696, 697, 698, 700, 6] (by decide +kernel)
set_option maxRecDepth 20000 in
theorem in_wsL_law_r7 : ∀ w ∈ wsL_law_r7, w ∈ lw_tbl := in_pl [701, 596, 187, 188, 189, 190, 191, 192, 193, 194, 195, 196, 197, 198, 199, 200, 201, 202, 204, 205, 206, 207, 208, 209] (by decide +kernel)
set_option maxRecDepth 20000 in
theorem in_wsL_law_r8 : ∀ w ∈ wsL_law_r8, w ∈ lw_tbl := in_pl [210, 211, 702, 703, 704, 705, 706, 707, 598, 708, 710, 7, 711, 212, 213, 214, 215, 216, 217, 218, 219, 712, 713, 714] (by decide +kernel)
set_option maxRecDepth 20000 in
theorem in_wsL_law_r9 : ∀ w ∈ wsL_law_r9, w ∈ lw_tbl := in_pl [715, 220, 221, 222, 223, 224, 225, 226, 227, 228, 230, 229, 35, 716, 717, 718, 719, 231, 232, 233, 234, 235, 236, 237] (by decide +kernel)
set_option maxRecDepth 20000 in
theorem in_wsL_law_r10 : ∀ w ∈ wsL_law_r10, w ∈ lw_tbl := in_pl [238, 239, 240, 241, 242, 243, 244, 245, 246, 720, 721, 722, 723, 724, 726, 8, 727, 247, 248, 249, 250, 251, 252, 253] (by decide +kernel)
set_option maxRecDepth 20000 in
theorem in_wsL_law_r11 : ∀ w ∈ wsL_law_r11, w ∈ lw_tbl := in_pl [254, 255, 256, 257, 258, 259, 260, 261, 262, 36, 263, 264, 265, 266, 267, 268, 269, 270, 271, 273, 274, 275, 276, 277] (by decide +kernel)
set_option maxRecDepth 20000 in
theorem in_wsL_law_r12 : ∀ w ∈ wsL_law_r12, w ∈ lw_tbl := in_pl [728, 729, 730, 731, 732, 734, 9, 735, 599, 736, 737, 738, 739, 740, 741, 278, 279, 280, 281, 282, 283, 284, 285, 286] (by decide +kernel)
set_option maxRecDepth 20000 in
theorem in_wsL_law_r13 : ∀ w ∈ wsL_law_r13, w ∈ lw_tbl := in_pl [287, 288, 289, 290, 291, 292, 293, 294, 295, 296, 742, 743, 744, 745, 746, 747, 748, 749, 750, 751, 297, 298, 299, 300] (by decide +kernel)
set_option maxRecDepth 20000 in
theorem in_wsL_law_r14 : ∀ w ∈ wsL_law_r14, w ∈ lw_tbl := in_pl [301, 302, 303, 304, 752, 753, 754, 755, 305, 306, 307, 308, 309, 310, 311, 312, 313, 315, 1, 316, 318, 319, 320, 321] (by decide +kernel)
set_option maxRecDepth 20000 in
theorem in_wsL_law_r15 : ∀ w ∈ wsL_law_r15, w ∈ lw_tbl := in_pl [322, 323, 324, 756, 757, 758, 759, 607, 608, 760, 762, 10, 763, 764, 766, 11, 767, 325, 326, 327, 328, 330, 329, 768] (by decide +kernel)
set_option maxRecDepth 20000 in
theorem in_wsL_law_r16 : ∀ w ∈ wsL_law_r16, w ∈ lw_tbl := in_pl [769, 770, 771, 772, 773, 774, 775, 331, 332, 333, 334, 335, 336, 337, 338, 339, 340, 341, 342, 776, 777, 778, 779, 609] (by decide +kernel)
set_option maxRecDepth 20000 in
theorem in_wsL_law_r17 : ∀ w ∈ wsL_law_r17, w ∈ lw_tbl := in_pl [343, 344, 345, 346, 347, 348, 349, 350, 352, 353, 354, 355, 356, 357, 358, 359, 360, 361, 362, 363, 364, 365, 366, 367] (by decide +kernel)
set_option maxRecDepth 20000 in
theorem in_wsL_law_r18 : ∀ w ∈ wsL_law_r18, w ∈ lw_tbl := in_pl [368, 369, 370, 371, 372, 373, 780, 781, 782, 783, 784, 786, 12, 787, 788, 790, 13, 791, 612, 792, 794, 14, 795, 796] (by decide +kernel)
set_option maxRecDepth 20000 in
theorem in_wsL_law_r19 : ∀ w ∈ wsL_law_r19, w ∈ lw_tbl := in_pl [798, 15, 799, 374, 375, 376, 377, 378, 379, 380, 381, 382, 383, 384, 385, 386, 388, 2, 389, 390, 391, 392, 393, 800] (by decide +kernel)
set_option maxRecDepth 20000 in
theorem in_wsL_law_r20 : ∀ w ∈ wsL_law_r20, w ∈ lw_tbl := in_pl [801, 802, 803, 804, 806, 16, 807, 808, 810, 17, 811, 395, 396, 397, 398, 399, 400, 812, 813, 814, 815, 816, 817, 401] (by decide +kernel)
set_option maxRecDepth 20000 in
theorem in_wsL_law_r21 : ∀ w ∈ wsL_law_r21, w ∈ lw_tbl := in_pl [402, 403, 404, 818, 819, 820, 821, 405, 406, 407, 408, 413, 409, 410, 411, 412, 822, 823, 824, 825, 826, 414, 415, 416] (by decide +kernel)
set_option maxRecDepth 20000 in
theorem in_wsL_law_r22 : ∀ w ∈ wsL_law_r22, w ∈ lw_tbl := in_pl [417, 418, 419, 420, 421, 422, 423, 424, 425, 426, 427, 428, 429, 430, 431, 432, 827, 828, 829, 830, 831, 832, 833, 433] (by decide +kernel)
set_option maxRecDepth 20000 in
theorem in_wsL_law_r23 : ∀ w ∈ wsL_law_r23, w ∈ lw_tbl := in_pl [434, 435, 436, 437, 438, 439, 440, 441, 834, 835, 836, 837, 838, 840, 18, 841, 842, 844, 19, 845, 442, 443, 444, 445] (by decide +kernel)
set_option maxRecDepth 20000 in
theorem in_wsL_law_r24 : ∀ w ∈ wsL_law_r24, w ∈ lw_tbl := in_pl [846, 847, 848, 849, 446, 447, 448, 449, 450, 451, 452, 453, 454, 456, 3, 457, 850, 851, 852, 853, 458, 459, 460, 461] (by decide +kernel)
set_option maxRecDepth 20000 in
theorem in_wsL_law_r25 : ∀ w ∈ wsL_law_r25, w ∈ lw_tbl := in_pl [462, 463, 464, 854, 855, 856, 857, 465, 466, 467, 468, 469, 470, 471, 472, 473, 474, 475, 476, 858, 859, 860, 861, 477] (by decide +kernel)
set_option maxRecDepth 20000 in
theorem in_wsL_law_r26 : ∀ w ∈ wsL_law_r26, w ∈ lw_tbl := in_pl [478, 479, 480, 481, 483, 4, 484, 485, 486, 487, 488, 862, 863, 864, 865, 621, 622, 866, 868, 20, 869, 489, 490, 491] (by decide +kernel)
set_option maxRecDepth 20000 in
theorem in_wsL_law_r27 : ∀ w ∈ wsL_law_r27, w ∈ lw_tbl := in_pl [492, 496, 497, 498, 499, 493, 494, 495, 870, 871, 872, 873, 874, 500, 501, 502, 503, 504, 505, 506, 507, 508, 510, 5] (by decide +kernel)
set_option maxRecDepth 20000 in
theorem in_wsL_law_r28 : ∀ w ∈ wsL_law_r28, w ∈ lw_tbl := in_pl [511, 875, 876, 877, 878, 512, 513, 514, 515, 516, 517, 518, 519, 520, 521, 522, 879, 880, 881, 882, 883, 884, 885, 523] (by decide +kernel)
set_option maxRecDepth 20000 in
theorem in_wsL_law_r29 : ∀ w ∈ wsL_law_r29, w ∈ lw_tbl := in_pl [524, 525, 526, 527, 528, 529, 530, 531, 532, 533, 534, 535, 536, 537, 538, 540, 539, 886, 887, 888, 889, 890, 892, 21] (by decide +kernel)
set_option maxRecDepth 20000 in
theorem in_wsL_law_r30 : ∀ w ∈ wsL_law_r30, w ∈ lw_tbl := in_pl [893, 894, 896, 22, 897, 898, 900, 23, 901, 541, 542, 543, 544, 902, 903, 904, 905, 545, 546, 547, 548, 906, 907, 908] (by decide +kernel)
set_option maxRecDepth 20000 in
theorem in_wsL_law_r31 : ∀ w ∈ wsL_law_r31, w ∈ lw_tbl := in_pl [909, 549, 550, 551, 552, 910, 911, 912, 913, 553, 554, 555, 556, 914, 915, 916, 917, 557, 558, 559, 560, 561, 562, 563] (by decide +kernel)
set_option maxRecDepth 20000 in
theorem in_wsL_law_r32 : ∀ w ∈ wsL_law_r32, w ∈ lw_tbl := in_pl [564, 565, 566, 567, 568, 918, 919, 920, 921, 922, 924, 24, 925, 569, 570, 571, 572, 926, 927, 928, 929, 573, 574, 575] (by decide +kernel)
set_option maxRecDepth 20000 in
theorem in_wsL_law_r33 : ∀ w ∈ wsL_law_r33, w ∈ lw_tbl := in_pl [576, 930, 931, 932, 933, 577, 578, 579, 580, 581, 582, 583, 584, 585, 586, 587, 588, 589, 934, 935, 936, 937, 938, 939] (by decide +kernel)
set_option maxRecDepth 20000 in
theorem iw_X0 : ∀ w ∈ wsX00, w ∈ lw_tbl := in_pl [90, 92, 94] (by decide +kernel)
set_option maxRecDepth 20000 in
theorem iw_X1 : ∀ w ∈ wsX10, w ∈ lw_tbl := in_pl [106, 108] (by decide +kernel)
set_option maxRecDepth 20000 in
theorem iw_X2 : ∀ w ∈ wsX20, w ∈ lw_tbl := in_pl [136, 138] (by decide +kernel)
set_option maxRecDepth 20000 in
theorem iw_X3 : ∀ w ∈ wsX30, w ∈ lw_tbl := in_pl [121, 123] (by decide +kernel)
set_option maxRecDepth 20000 in
theorem iw_X4 : ∀ w ∈ wsX40, w ∈ lw_tbl := in_pl [58, 60] (by decide +kernel)
set_option maxRecDepth 20000 in
theorem iw_X5 : ∀ w ∈ wsX50, w ∈ lw_tbl := in_pl [74, 76, 78] (by decide +kernel)
set_option maxRecDepth 20000 in
theorem iw_X6 : ∀ w ∈ wsX60, w ∈ lw_tbl := in_pl [150, 152, 154, 156, 158, 160, 162, 164, 166] (by decide +kernel)
set_option maxRecDepth 20000 in
theorem iw_X7 : ∀ w ∈ wsX70, w ∈ lw_tbl := in_pl [626, 628, 630, 632, 634, 636, 638, 640, 642, 644, 646, 648, 650, 652, 654, 656, 658, 660, 662, 664, 666, 668, 670, 672, 674, 676, 678, 680, 682, 684] (by decide +kernel)
theorem wsL_law_in : ∀ w ∈ wsL_law, w ∈ lw_tbl := (in_ap (in_ap (in_ap (in_ap (in_ap (in_ap (in_ap (in_ap (in_ap (in_ap in_wsL_law_r1 (in_ap in_wsL_law_r2 (in_ap in_wsL_law_r3 (in_ap in_wsL_law_r4 (in_ap in_wsL_law_r5 (in_ap in_wsL_law_r6 (in_ap in_wsL_law_r7 (in_ap in_wsL_law_r8 (in_ap in_wsL_law_r9 (in_ap in_wsL_law_r10 (in_ap in_wsL_law_r11 (in_ap in_wsL_law_r12 (in_ap in_wsL_law_r13 (in_ap in_wsL_law_r14 (in_ap in_wsL_law_r15 (in_ap in_wsL_law_r16 (in_ap in_wsL_law_r17 (in_ap in_wsL_law_r18 (in_ap in_wsL_law_r19 (in_ap in_wsL_law_r20 (in_ap in_wsL_law_r21 (in_ap in_wsL_law_r22 (in_ap in_wsL_law_r23 (in_ap in_wsL_law_r24 (in_ap in_wsL_law_r25 (in_ap in_wsL_law_r26 (in_ap in_wsL_law_r27 (in_ap in_wsL_law_r28 (in_ap in_wsL_law_r29 (in_ap in_wsL_law_r30 (in_ap in_wsL_law_r31 (in_ap in_wsL_law_r32 in_wsL_law_r33)))))))))))))))))))))))))))))))) iw_X6) iw_X7) iw_X4) iw_X5) iw_X0) iw_X1) iw_X3) iw_X2) (fun _ h => absurd h List.not_mem_nil))
