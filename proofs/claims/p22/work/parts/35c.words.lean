theorem wl_of {ws : List Cond} (ps : List Nat) (h : ws = ps.filterMap (fun i => lw_tbl[i]?)) : ∀ w ∈ ws, w ∈ lw_tbl := by
  intro w hw
  rw [h] at hw
  obtain ⟨i, -, hi⟩ := List.mem_filterMap.mp hw
  exact List.mem_of_getElem? hi
set_option maxRecDepth 20000 in
theorem wl_wsL_law_r1 : ∀ w ∈ wsL_law_r1, w ∈ lw_tbl := wl_of [48, 49, 37, 679, 680, 47, 676, 677, 36, 678, 50, 51, 52, 53, 54, 55, 56, 57, 38, 58, 214, 93, 63, 40] (by decide +kernel)
set_option maxRecDepth 20000 in
theorem wl_wsL_law_r2 : ∀ w ∈ wsL_law_r2, w ∈ lw_tbl := wl_of [64, 217, 94, 95, 41, 215, 132, 133, 42, 216, 158, 159, 43, 218, 219, 220, 179, 180, 45, 221, 212, 186, 46, 222] (by decide +kernel)
set_option maxRecDepth 20000 in
theorem wl_wsL_law_r3 : ∀ w ∈ wsL_law_r3, w ∈ lw_tbl := wl_of [223, 224, 130, 225, 226, 59, 60, 39, 61, 62, 65, 66, 67, 68, 69, 70, 71, 72, 73, 74, 75, 76, 77, 78] (by decide +kernel)
set_option maxRecDepth 20000 in
theorem wl_wsL_law_r4 : ∀ w ∈ wsL_law_r4, w ∈ lw_tbl := wl_of [79, 80, 89, 90, 91, 92, 96, 97, 98, 99, 105, 101, 106, 107, 108, 131, 109, 103, 110, 111, 100, 102, 134, 135] (by decide +kernel)
set_option maxRecDepth 20000 in
theorem wl_wsL_law_r5 : ∀ w ∈ wsL_law_r5, w ∈ lw_tbl := wl_of [136, 137, 138, 139, 140, 157, 141, 142, 160, 161, 162, 163, 171, 172, 164, 165, 166, 167, 168, 169, 44, 170, 181, 182] (by decide +kernel)
set_option maxRecDepth 20000 in
theorem wl_wsL_law_r6 : ∀ w ∈ wsL_law_r6, w ∈ lw_tbl := wl_of [183, 184, 185, 205, 203, 206, 187, 188, 189, 190, 196, 197, 191, 192, 193, 194, 195, 204, 213, 681, 682, 683, 684, 701] (by decide +kernel)
set_option maxRecDepth 20000 in
theorem wl_wsL_law_r7 : ∀ w ∈ wsL_law_r7, w ∈ lw_tbl := wl_of [705, 706, 707, 709, 710, 711, 712, 714, 715, 716, 717, 718, 719, 720, 721, 728, 729, 730, 731, 733, 735, 736, 737, 738] (by decide +kernel)
set_option maxRecDepth 20000 in
theorem wl_wsL_law_r8 : ∀ w ∈ wsL_law_r8, w ∈ lw_tbl := wl_of [739, 685, 696, 697, 698, 699, 700, 686, 687, 688, 689, 690, 691, 692, 694, 21, 695, 275, 276, 277, 278, 279, 280, 281] (by decide +kernel)
set_option maxRecDepth 20000 in
theorem wl_wsL_law_r9 : ∀ w ∈ wsL_law_r9, w ∈ lw_tbl := wl_of [282, 283, 284, 285, 286, 829, 830, 831, 832, 702, 833, 834, 835, 836, 838, 22, 839, 287, 288, 289, 290, 291, 292, 293] (by decide +kernel)
set_option maxRecDepth 20000 in
theorem wl_wsL_law_r10 : ∀ w ∈ wsL_law_r10, w ∈ lw_tbl := wl_of [294, 295, 296, 297, 298, 81, 299, 300, 301, 302, 303, 304, 305, 306, 307, 308, 309, 310, 311, 312, 313, 314, 315, 316] (by decide +kernel)
set_option maxRecDepth 20000 in
theorem wl_wsL_law_r11 : ∀ w ∈ wsL_law_r11, w ∈ lw_tbl := wl_of [317, 318, 319, 320, 321, 322, 323, 324, 143, 325, 326, 327, 328, 329, 330, 332, 0, 333, 334, 335, 336, 337, 840, 841] (by decide +kernel)
set_option maxRecDepth 20000 in
theorem wl_wsL_law_r12 : ∀ w ∈ wsL_law_r12, w ∈ lw_tbl := wl_of [842, 843, 703, 844, 846, 23, 847, 848, 850, 24, 851, 852, 854, 25, 855, 734, 856, 857, 858, 859, 860, 338, 339, 340] (by decide +kernel)
set_option maxRecDepth 20000 in
theorem wl_wsL_law_r13 : ∀ w ∈ wsL_law_r13, w ∈ lw_tbl := wl_of [341, 227, 861, 862, 863, 864, 704, 342, 343, 344, 345, 346, 348, 1, 349, 350, 351, 352, 353, 354, 356, 2, 357, 358] (by decide +kernel)
set_option maxRecDepth 20000 in
theorem wl_wsL_law_r14 : ∀ w ∈ wsL_law_r14, w ∈ lw_tbl := wl_of [359, 360, 361, 362, 363, 364, 365, 366, 367, 368, 369, 370, 371, 372, 373, 374, 375, 376, 378, 3, 379, 380, 381, 382] (by decide +kernel)
set_option maxRecDepth 20000 in
theorem wl_wsL_law_r15 : ∀ w ∈ wsL_law_r15, w ∈ lw_tbl := wl_of [383, 865, 866, 867, 868, 869, 871, 26, 872, 873, 875, 27, 876, 877, 879, 28, 880, 384, 385, 386, 387, 388, 389, 390] (by decide +kernel)
set_option maxRecDepth 20000 in
theorem wl_wsL_law_r16 : ∀ w ∈ wsL_law_r16, w ∈ lw_tbl := wl_of [391, 392, 394, 4, 395, 881, 882, 883, 884, 885, 887, 29, 888, 396, 397, 398, 399, 228, 400, 402, 5, 403, 404, 405] (by decide +kernel)
set_option maxRecDepth 20000 in
theorem wl_wsL_law_r17 : ∀ w ∈ wsL_law_r17, w ∈ lw_tbl := wl_of [406, 407, 408, 409, 410, 411, 412, 413, 414, 415, 416, 417, 418, 419, 420, 421, 422, 423, 424, 889, 890, 891, 892, 708] (by decide +kernel)
set_option maxRecDepth 20000 in
theorem wl_wsL_law_r18 : ∀ w ∈ wsL_law_r18, w ∈ lw_tbl := wl_of [893, 894, 895, 425, 426, 427, 428, 429, 431, 6, 432, 433, 434, 435, 436, 437, 438, 439, 440, 896, 897, 898, 899, 441] (by decide +kernel)
set_option maxRecDepth 20000 in
theorem wl_wsL_law_r19 : ∀ w ∈ wsL_law_r19, w ∈ lw_tbl := wl_of [442, 443, 444, 445, 446, 447, 448, 449, 900, 901, 902, 903, 450, 451, 452, 453, 229, 231, 454, 456, 7, 457, 233, 458] (by decide +kernel)
set_option maxRecDepth 20000 in
theorem wl_wsL_law_r20 : ∀ w ∈ wsL_law_r20, w ∈ lw_tbl := wl_of [459, 460, 461, 112, 462, 463, 464, 465, 466, 467, 468, 469, 470, 471, 472, 473, 474, 476, 8, 477, 478, 480, 9, 481] (by decide +kernel)
set_option maxRecDepth 20000 in
theorem wl_wsL_law_r21 : ∀ w ∈ wsL_law_r21, w ∈ lw_tbl := wl_of [482, 483, 484, 485, 486, 487, 488, 489, 490, 491, 492, 493, 494, 495, 496, 497, 498, 499, 500, 501, 502, 503, 504, 505] (by decide +kernel)
set_option maxRecDepth 20000 in
theorem wl_wsL_law_r22 : ∀ w ∈ wsL_law_r22, w ∈ lw_tbl := wl_of [904, 905, 906, 907, 722, 726, 723, 713, 727, 908, 910, 30, 911, 724, 732, 912, 914, 31, 915, 916, 918, 32, 919, 920] (by decide +kernel)
set_option maxRecDepth 20000 in
theorem wl_wsL_law_r23 : ∀ w ∈ wsL_law_r23, w ∈ lw_tbl := wl_of [922, 33, 923, 506, 507, 508, 509, 230, 924, 925, 926, 927, 510, 511, 512, 513, 232, 514, 516, 10, 517, 518, 519, 520] (by decide +kernel)
set_option maxRecDepth 20000 in
theorem wl_wsL_law_r24 : ∀ w ∈ wsL_law_r24, w ∈ lw_tbl := wl_of [521, 522, 523, 524, 525, 526, 527, 529, 11, 530, 531, 532, 533, 534, 535, 536, 928, 929, 930, 931, 725, 537, 538, 539] (by decide +kernel)
set_option maxRecDepth 20000 in
theorem wl_wsL_law_r25 : ∀ w ∈ wsL_law_r25, w ∈ lw_tbl := wl_of [540, 541, 542, 543, 544, 545, 547, 12, 548, 549, 550, 551, 552, 553, 554, 556, 13, 557, 558, 559, 560, 561, 562, 563] (by decide +kernel)
set_option maxRecDepth 20000 in
theorem wl_wsL_law_r26 : ∀ w ∈ wsL_law_r26, w ∈ lw_tbl := wl_of [564, 565, 566, 567, 568, 569, 570, 571, 572, 574, 14, 575, 576, 932, 933, 934, 935, 936, 938, 34, 939, 577, 578, 579] (by decide +kernel)
set_option maxRecDepth 20000 in
theorem wl_wsL_law_r27 : ∀ w ∈ wsL_law_r27, w ∈ lw_tbl := wl_of [580, 581, 582, 583, 584, 585, 587, 15, 588, 589, 590, 591, 592, 593, 595, 16, 596, 597, 599, 17, 600, 601, 602, 603] (by decide +kernel)
set_option maxRecDepth 20000 in
theorem wl_wsL_law_r28 : ∀ w ∈ wsL_law_r28, w ∈ lw_tbl := wl_of [604, 605, 606, 607, 608, 609, 610, 611, 612, 613, 614, 615, 616, 618, 18, 619, 620, 621, 622, 623, 624, 626, 19, 627] (by decide +kernel)
set_option maxRecDepth 20000 in
theorem wl_wsL_law_r29 : ∀ w ∈ wsL_law_r29, w ∈ lw_tbl := wl_of [628, 940, 941, 942, 943, 944, 946, 35, 947, 629, 948, 949, 950, 951, 630, 631, 632, 633, 634, 635, 636, 637, 638, 640] (by decide +kernel)
set_option maxRecDepth 20000 in
theorem wl_wsL_law_r30 : ∀ w ∈ wsL_law_r30, w ∈ lw_tbl := wl_of [20, 641, 952, 953, 954, 955, 642, 643, 644, 645, 646, 647, 648, 649, 956, 957, 958, 959, 650, 651, 652, 653, 960, 961] (by decide +kernel)
set_option maxRecDepth 20000 in
theorem wl_wsL_law_r31 : ∀ w ∈ wsL_law_r31, w ∈ lw_tbl := wl_of [962, 963, 654, 655, 656, 657, 964, 965, 966, 967, 658, 659, 660, 661, 662, 968, 969, 970, 971, 663, 664, 665, 666, 667] (by decide +kernel)
set_option maxRecDepth 20000 in
theorem wl_wsL_law_r32 : ∀ w ∈ wsL_law_r32, w ∈ lw_tbl := wl_of [668, 669, 670, 972, 973, 974, 975, 671, 672, 673, 674, 675, 976, 977, 978, 979] (by decide +kernel)
set_option maxRecDepth 20000 in
theorem wl_wsX70 : ∀ w ∈ wsX70, w ∈ lw_tbl := wl_of [234, 236, 238, 240, 242, 244, 246, 248, 250, 252, 254, 256, 258, 260, 262, 264, 266, 268, 270, 272] (by decide +kernel)
set_option maxRecDepth 20000 in
theorem wl_wsX80 : ∀ w ∈ wsX80, w ∈ lw_tbl := wl_of [740, 742, 744, 746, 748, 750, 752, 754, 756, 758, 760, 762, 764, 766, 768, 770, 772, 774, 776, 778, 780, 782, 784, 786, 788, 790, 792, 794, 796, 798, 800, 802, 804, 806, 808, 810, 812, 814, 816, 818, 820, 822, 824, 826] (by decide +kernel)
set_option maxRecDepth 20000 in
theorem wl_wsX10 : ∀ w ∈ wsX10, w ∈ lw_tbl := wl_of [82, 84, 86] (by decide +kernel)
set_option maxRecDepth 20000 in
theorem wl_wsX60 : ∀ w ∈ wsX60, w ∈ lw_tbl := wl_of [113, 115, 117, 119, 121, 123, 125, 127] (by decide +kernel)
set_option maxRecDepth 20000 in
theorem wl_wsX00 : ∀ w ∈ wsX00, w ∈ lw_tbl := wl_of [144, 146, 148, 150, 152, 154] (by decide +kernel)
set_option maxRecDepth 20000 in
theorem wl_wsX40 : ∀ w ∈ wsX40, w ∈ lw_tbl := wl_of [173, 175] (by decide +kernel)
set_option maxRecDepth 20000 in
theorem wl_wsX50 : ∀ w ∈ wsX50, w ∈ lw_tbl := wl_of [207, 209] (by decide +kernel)
set_option maxRecDepth 20000 in
theorem wl_wsX20 : ∀ w ∈ wsX20, w ∈ lw_tbl := wl_of [198, 200] (by decide +kernel)
theorem wsL_law_in : ∀ w ∈ wsL_law, w ∈ lw_tbl := fun w h => (List.mem_append.mp h).elim (fun h => (List.mem_append.mp h).elim (fun h => (List.mem_append.mp h).elim (fun h => (List.mem_append.mp h).elim (fun h => (List.mem_append.mp h).elim (fun h => (List.mem_append.mp h).elim (fun h => (List.mem_append.mp h).elim (fun h => (List.mem_append.mp h).elim (fun h => (List.mem_append.mp h).elim (fun h => (List.mem_append.mp h).elim (fun h => wl_wsL_law_r1 w h) (fun h => (List.mem_append.mp h).elim (fun h => wl_wsL_law_r2 w h) (fun h => (List.mem_append.mp h).elim (fun h => wl_wsL_law_r3 w h) (fun h => (List.mem_append.mp h).elim (fun h => wl_wsL_law_r4 w h) (fun h => (List.mem_append.mp h).elim (fun h => wl_wsL_law_r5 w h) (fun h => (List.mem_append.mp h).elim (fun h => wl_wsL_law_r6 w h) (fun h => (List.mem_append.mp h).elim (fun h => wl_wsL_law_r7 w h) (fun h => (List.mem_append.mp h).elim (fun h => wl_wsL_law_r8 w h) (fun h => (List.mem_append.mp h).elim (fun h => wl_wsL_law_r9 w h) (fun h => (List.mem_append.mp h).elim (fun h => wl_wsL_law_r10 w h) (fun h => (List.mem_append.mp h).elim (fun h => wl_wsL_law_r11 w h) (fun h => (List.mem_append.mp h).elim (fun h => wl_wsL_law_r12 w h) (fun h => (List.mem_append.mp h).elim (fun h => wl_wsL_law_r13 w h) (fun h => (List.mem_append.mp h).elim (fun h => wl_wsL_law_r14 w h) (fun h => (List.mem_append.mp h).elim (fun h => wl_wsL_law_r15 w h) (fun h => (List.mem_append.mp h).elim (fun h => wl_wsL_law_r16 w h) (fun h => (List.mem_append.mp h).elim (fun h => wl_wsL_law_r17 w h) (fun h => (List.mem_append.mp h).elim (fun h => wl_wsL_law_r18 w h) (fun h => (List.mem_append.mp h).elim (fun h => wl_wsL_law_r19 w h) (fun h => (List.mem_append.mp h).elim (fun h => wl_wsL_law_r20 w h) (fun h => (List.mem_append.mp h).elim (fun h => wl_wsL_law_r21 w h) (fun h => (List.mem_append.mp h).elim (fun h => wl_wsL_law_r22 w h) (fun h => (List.mem_append.mp h).elim (fun h => wl_wsL_law_r23 w h) (fun h => (List.mem_append.mp h).elim (fun h => wl_wsL_law_r24 w h) (fun h => (List.mem_append.mp h).elim (fun h => wl_wsL_law_r25 w h) (fun h => (List.mem_append.mp h).elim (fun h => wl_wsL_law_r26 w h) (fun h => (List.mem_append.mp h).elim (fun h => wl_wsL_law_r27 w h) (fun h => (List.mem_append.mp h).elim (fun h => wl_wsL_law_r28 w h) (fun h => (List.mem_append.mp h).elim (fun h => wl_wsL_law_r29 w h) (fun h => (List.mem_append.mp h).elim (fun h => wl_wsL_law_r30 w h) (fun h => (List.mem_append.mp h).elim (fun h => wl_wsL_law_r31 w h) (fun h => wl_wsL_law_r32 w h)))))))))))))))))))))))))))))))) (fun h => wl_wsX70 w h)) (fun h => wl_wsX80 w h)) (fun h => wl_wsX10 w h)) (fun h => wl_wsX60 w h)) (fun h => wl_wsX00 w h)) (fun h => wl_wsX40 w h)) (fun h => wl_wsX50 w h)) (fun h => wl_wsX20 w h)) (fun h => absurd h List.not_mem_nil)
