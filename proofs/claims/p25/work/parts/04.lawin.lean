theorem mem_pl {big ws : List Cond} (ps : List Nat) (hp : ws.map some = ps.map (fun i => big[i]?)) : ∀ w ∈ ws, w ∈ big := by
  intro w hw
  have h1 : some w ∈ ps.map (fun i => big[i]?) := hp ▸ List.mem_map.mpr ⟨w, hw, rfl⟩
  obtain ⟨i, -, hi⟩ := List.mem_map.mp h1
  first | exact List.mem_of_getElem? hi | exact List.getElem?_mem hi
set_option maxRecDepth 100000 in
set_option maxHeartbeats 4000000 in
theorem i_wsL_law0_r1 : ∀ w ∈ wsL_law0_r1, w ∈ lw_tbl := mem_pl [62, 63, 45, 674, 675, 50, 951, 64, 65, 66, 67, 68, 69, 70, 71, 46, 148, 88, 149, 150, 90, 151, 92, 47] rfl
set_option maxRecDepth 100000 in
set_option maxHeartbeats 4000000 in
theorem i_wsL_law0_r2 : ∀ w ∈ wsL_law0_r2, w ∈ lw_tbl := mem_pl [125, 126, 49, 152, 73, 74, 75, 87, 76, 77, 93, 94, 95, 96, 107, 97, 99, 0, 100, 108, 110, 114, 102, 103] rfl
set_option maxRecDepth 100000 in
set_option maxHeartbeats 4000000 in
theorem i_wsL_law0_r3 : ∀ w ∈ wsL_law0_r3, w ∈ lw_tbl := mem_pl [104, 105, 48, 106, 128, 129, 130, 131, 132, 133, 134, 135, 676, 677, 678, 679, 680, 682, 684, 685, 686, 687, 688, 689] rfl
set_option maxRecDepth 100000 in
set_option maxHeartbeats 4000000 in
theorem i_wsL_law0_r4 : ∀ w ∈ wsL_law0_r4, w ∈ lw_tbl := mem_pl [694, 695, 696, 164, 165, 166, 167, 174, 175, 52, 190, 191, 53, 221, 54, 168, 169, 170, 171, 172, 173, 176, 177, 178] rfl
set_option maxRecDepth 100000 in
set_option maxHeartbeats 4000000 in
theorem i_wsL_law0_r5 : ∀ w ∈ wsL_law0_r5, w ∈ lw_tbl := mem_pl [183, 184, 180, 51, 181, 182, 192, 193, 194, 196, 197, 198, 199, 200, 201, 202, 203, 222, 223, 224, 225, 298, 291, 293] rfl
set_option maxRecDepth 100000 in
set_option maxHeartbeats 4000000 in
theorem i_wsL_law0_r6 : ∀ w ∈ wsL_law0_r6, w ∈ lw_tbl := mem_pl [295, 226, 227, 55, 296, 228, 229, 230, 231, 263, 264, 262, 232, 234, 1, 235, 265, 267, 236, 237, 239, 2, 240, 269] rfl
set_option maxRecDepth 100000 in
set_option maxHeartbeats 4000000 in
theorem i_wsL_law0_r7 : ∀ w ∈ wsL_law0_r7, w ∈ lw_tbl := mem_pl [271, 273, 242, 244, 3, 245, 246, 248, 4, 249, 250, 252, 5, 253, 254, 256, 6, 257, 258, 260, 7, 261, 732, 733] rfl
set_option maxRecDepth 100000 in
set_option maxHeartbeats 4000000 in
theorem i_wsL_law0_r8 : ∀ w ∈ wsL_law0_r8, w ∈ lw_tbl := mem_pl [734, 735, 692, 683, 736, 737, 738, 311, 312, 313, 314, 315, 317, 8, 318, 739, 740, 741, 742, 743, 745, 20, 746, 747] rfl
set_option maxRecDepth 100000 in
set_option maxHeartbeats 4000000 in
theorem i_wsL_law0_r9 : ∀ w ∈ wsL_law0_r9, w ∈ lw_tbl := mem_pl [749, 21, 750, 320, 321, 322, 323, 324, 325, 326, 327, 751, 752, 753, 754, 681, 328, 329, 330, 331, 755, 756, 757, 758] rfl
set_option maxRecDepth 100000 in
set_option maxHeartbeats 4000000 in
theorem i_wsL_law0_r10 : ∀ w ∈ wsL_law0_r10, w ∈ lw_tbl := mem_pl [332, 333, 334, 335, 336, 337, 338, 339, 340, 341, 343, 344, 345, 346, 347, 349, 9, 350, 351, 352, 353, 354, 355, 356] rfl
set_option maxRecDepth 100000 in
set_option maxHeartbeats 4000000 in
theorem i_wsL_law0_r11 : ∀ w ∈ wsL_law0_r11, w ∈ lw_tbl := mem_pl [357, 358, 359, 361, 10, 362, 363, 364, 366, 11, 367, 759, 760, 761, 762, 763, 765, 22, 766, 767, 769, 23, 770, 771] rfl
set_option maxRecDepth 100000 in
set_option maxHeartbeats 4000000 in
theorem i_wsL_law0_r12 : ∀ w ∈ wsL_law0_r12, w ∈ lw_tbl := mem_pl [772, 773, 774, 776, 24, 777, 604, 605, 44, 606, 607, 608, 609, 610, 611, 612, 59, 673, 383, 384, 385, 778, 779, 780] rfl
set_option maxRecDepth 100000 in
set_option maxHeartbeats 4000000 in
theorem i_wsL_law0_r13 : ∀ w ∈ wsL_law0_r13, w ∈ lw_tbl := mem_pl [781, 368, 369, 370, 371, 372, 373, 374, 375, 376, 378, 379, 380, 381, 382, 388, 389, 396, 397, 60, 398, 390, 391, 392] rfl
set_option maxRecDepth 100000 in
set_option maxHeartbeats 4000000 in
theorem i_wsL_law0_r14 : ∀ w ∈ wsL_law0_r14, w ∈ lw_tbl := mem_pl [393, 394, 395, 400, 401, 402, 403, 404, 406, 782, 783, 784, 785, 691, 786, 788, 25, 789, 790, 792, 26, 793, 794, 796] rfl
set_option maxRecDepth 100000 in
set_option maxHeartbeats 4000000 in
theorem i_wsL_law0_r15 : ∀ w ∈ wsL_law0_r15, w ∈ lw_tbl := mem_pl [27, 797, 805, 798, 800, 28, 801, 802, 803, 804, 806, 808, 29, 809, 810, 812, 30, 813, 409, 410, 411, 412, 413, 814] rfl
set_option maxRecDepth 100000 in
set_option maxHeartbeats 4000000 in
theorem i_wsL_law0_r16 : ∀ w ∈ wsL_law0_r16, w ∈ lw_tbl := mem_pl [815, 816, 817, 414, 415, 416, 417, 418, 419, 420, 421, 423, 424, 425, 426, 427, 428, 818, 819, 820, 821, 429, 430, 431] rfl
set_option maxRecDepth 100000 in
set_option maxHeartbeats 4000000 in
theorem i_wsL_law0_r17 : ∀ w ∈ wsL_law0_r17, w ∈ lw_tbl := mem_pl [432, 433, 434, 435, 436, 437, 439, 12, 440, 822, 823, 824, 825, 826, 828, 31, 829, 830, 832, 32, 833, 442, 443, 444] rfl
set_option maxRecDepth 100000 in
set_option maxHeartbeats 4000000 in
theorem i_wsL_law0_r18 : ∀ w ∈ wsL_law0_r18, w ∈ lw_tbl := mem_pl [445, 446, 447, 448, 449, 450, 451, 452, 453, 834, 835, 836, 837, 454, 455, 456, 457, 458, 838, 839, 840, 841, 459, 460] rfl
set_option maxRecDepth 100000 in
set_option maxHeartbeats 4000000 in
theorem i_wsL_law0_r19 : ∀ w ∈ wsL_law0_r19, w ∈ lw_tbl := mem_pl [461, 462, 463, 464, 465, 466, 842, 843, 844, 845, 467, 468, 469, 470, 846, 847, 848, 849, 850, 852, 33, 853, 854, 856] rfl
set_option maxRecDepth 100000 in
set_option maxHeartbeats 4000000 in
theorem i_wsL_law0_r20 : ∀ w ∈ wsL_law0_r20, w ∈ lw_tbl := mem_pl [34, 857, 858, 860, 35, 861, 471, 472, 473, 474, 475, 476, 477, 478, 862, 863, 864, 865, 866, 868, 36, 869, 870, 872] rfl
set_option maxRecDepth 100000 in
set_option maxHeartbeats 4000000 in
theorem i_wsL_law0_r21 : ∀ w ∈ wsL_law0_r21, w ∈ lw_tbl := mem_pl [37, 873, 874, 875, 876, 479, 480, 481, 482, 483, 484, 485, 486, 487, 489, 13, 490, 491, 492, 61, 493, 494, 495, 496] rfl
set_option maxRecDepth 100000 in
set_option maxHeartbeats 4000000 in
theorem i_wsL_law0_r22 : ∀ w ∈ wsL_law0_r22, w ∈ lw_tbl := mem_pl [497, 498, 499, 500, 501, 503, 14, 504, 505, 507, 15, 508, 877, 878, 879, 880, 886, 881, 883, 38, 884, 885, 887, 889] rfl
set_option maxRecDepth 100000 in
set_option maxHeartbeats 4000000 in
theorem i_wsL_law0_r23 : ∀ w ∈ wsL_law0_r23, w ∈ lw_tbl := mem_pl [39, 890, 693, 891, 893, 40, 894, 509, 510, 511, 512, 513, 514, 515, 516, 895, 896, 897, 898, 899, 517, 518, 519, 520] rfl
set_option maxRecDepth 100000 in
set_option maxHeartbeats 4000000 in
theorem i_wsL_law0_r24 : ∀ w ∈ wsL_law0_r24, w ∈ lw_tbl := mem_pl [521, 522, 523, 524, 525, 527, 16, 528, 900, 901, 902, 903, 529, 530, 531, 532, 533, 535, 17, 536, 904, 905, 906, 907] rfl
set_option maxRecDepth 100000 in
set_option maxHeartbeats 4000000 in
theorem i_wsL_law0_r25 : ∀ w ∈ wsL_law0_r25, w ∈ lw_tbl := mem_pl [908, 909, 910, 538, 539, 540, 541, 542, 543, 544, 545, 547, 548, 549, 550, 551, 552, 553, 554, 555, 556, 911, 912, 913] rfl
set_option maxRecDepth 100000 in
set_option maxHeartbeats 4000000 in
theorem i_wsL_law0_r26 : ∀ w ∈ wsL_law0_r26, w ∈ lw_tbl := mem_pl [914, 557, 558, 559, 560, 561, 562, 563, 564, 915, 916, 917, 918, 919, 921, 41, 922, 565, 566, 567, 568, 569, 570, 571] rfl
set_option maxRecDepth 100000 in
set_option maxHeartbeats 4000000 in
theorem i_wsL_law0_r27 : ∀ w ∈ wsL_law0_r27, w ∈ lw_tbl := mem_pl [572, 923, 924, 925, 926, 927, 929, 42, 930, 573, 574, 575, 576, 577, 578, 579, 580, 581, 582, 584, 18, 585, 586, 931] rfl
set_option maxRecDepth 100000 in
set_option maxHeartbeats 4000000 in
theorem i_wsL_law0_r28 : ∀ w ∈ wsL_law0_r28, w ∈ lw_tbl := mem_pl [932, 933, 934, 935, 937, 43, 938, 690, 587, 588, 589, 590, 591, 592, 593, 594, 939, 940, 941, 942, 596, 597, 598, 599] rfl
set_option maxRecDepth 100000 in
set_option maxHeartbeats 4000000 in
theorem i_wsL_law0_r29 : ∀ w ∈ wsL_law0_r29, w ∈ lw_tbl := mem_pl [943, 944, 945, 946, 600, 601, 602, 603, 947, 948, 949, 950] rfl
set_option maxRecDepth 100000 in
set_option maxHeartbeats 4000000 in
theorem inX8 : ∀ w ∈ wsX80, w ∈ lw_tbl := mem_pl [153, 155, 157, 159, 161] rfl
set_option maxRecDepth 100000 in
set_option maxHeartbeats 4000000 in
theorem inX9 : ∀ w ∈ wsX90, w ∈ lw_tbl := mem_pl [697, 699, 701, 703, 705, 707, 709, 711, 713, 715, 717, 719, 721, 723, 725, 727, 729] rfl
set_option maxRecDepth 100000 in
set_option maxHeartbeats 4000000 in
theorem inX7 : ∀ w ∈ wsX70, w ∈ lw_tbl := mem_pl [82, 84] rfl
set_option maxRecDepth 100000 in
set_option maxHeartbeats 4000000 in
theorem inX0 : ∀ w ∈ wsX00, w ∈ lw_tbl := mem_pl [116, 118, 120, 122] rfl
set_option maxRecDepth 100000 in
set_option maxHeartbeats 4000000 in
theorem inX6 : ∀ w ∈ wsX60, w ∈ lw_tbl := mem_pl [137, 139, 141, 143, 145] rfl
set_option maxRecDepth 100000 in
set_option maxHeartbeats 4000000 in
theorem inX2 : ∀ w ∈ wsX20, w ∈ lw_tbl := mem_pl [185, 187] rfl
set_option maxRecDepth 100000 in
set_option maxHeartbeats 4000000 in
theorem inX5 : ∀ w ∈ wsX50, w ∈ lw_tbl := mem_pl [204, 206, 208, 210, 212, 214, 216, 218] rfl
set_option maxRecDepth 100000 in
set_option maxHeartbeats 4000000 in
theorem inX4 : ∀ w ∈ wsX40, w ∈ lw_tbl := mem_pl [300, 302, 304, 306, 308] rfl
set_option maxRecDepth 100000 in
set_option maxHeartbeats 4000000 in
theorem inX3 : ∀ w ∈ wsX30, w ∈ lw_tbl := mem_pl [274, 276, 278, 280, 282, 284, 286, 288] rfl
theorem mem_ap {a b big : List Cond} (ha : ∀ w ∈ a, w ∈ big) (hb : ∀ w ∈ b, w ∈ big) : ∀ w ∈ a ++ b, w ∈ big := fun w h => (List.mem_append.mp h).elim (ha w) (hb w)
theorem wsL_law_in0 : ∀ w ∈ wsL_law0, w ∈ lw_tbl := mem_ap (mem_ap (mem_ap (mem_ap (mem_ap (mem_ap (mem_ap (mem_ap (mem_ap (mem_ap (mem_ap i_wsL_law0_r1 (mem_ap i_wsL_law0_r2 (mem_ap i_wsL_law0_r3 (mem_ap i_wsL_law0_r4 (mem_ap i_wsL_law0_r5 (mem_ap i_wsL_law0_r6 (mem_ap i_wsL_law0_r7 (mem_ap i_wsL_law0_r8 (mem_ap i_wsL_law0_r9 (mem_ap i_wsL_law0_r10 (mem_ap i_wsL_law0_r11 (mem_ap i_wsL_law0_r12 (mem_ap i_wsL_law0_r13 (mem_ap i_wsL_law0_r14 (mem_ap i_wsL_law0_r15 (mem_ap i_wsL_law0_r16 (mem_ap i_wsL_law0_r17 (mem_ap i_wsL_law0_r18 (mem_ap i_wsL_law0_r19 (mem_ap i_wsL_law0_r20 (mem_ap i_wsL_law0_r21 (mem_ap i_wsL_law0_r22 (mem_ap i_wsL_law0_r23 (mem_ap i_wsL_law0_r24 (mem_ap i_wsL_law0_r25 (mem_ap i_wsL_law0_r26 (mem_ap i_wsL_law0_r27 (mem_ap i_wsL_law0_r28 (i_wsL_law0_r29))))))))))))))))))))))))))))) inX8) inX9) inX7) inX0) inX6) inX2) inX5) inX4) inX3) (fun _ h => absurd h List.not_mem_nil)
theorem wsL_law_x0 : ∀ w ∈ (vx_at0 RX8 97 "java/util/NoSuchElementException" ["java/lang/RuntimeException", "java/lang/Exception"]).filter goodWord, w ∈ lw_tbl := by decide +kernel
theorem wsL_law_in : ∀ w ∈ wsL_law, w ∈ lw_tbl := fun w h => (List.mem_append.mp h).elim (fun h => wsL_law_in0 w h) (fun h => wsL_law_x0 w h)
theorem inlX0 : ∀ w ∈ wsX00, w ∈ wsL_law := fun _ h => List.mem_append_left _ (List.mem_append_left _ (List.mem_append_left _ (List.mem_append_left _ (List.mem_append_left _ (List.mem_append_left _ (List.mem_append_left _ (List.mem_append_right _ h)))))))
theorem inX1 : ∀ w ∈ wsX10, w ∈ lw_tbl := by decide +kernel
theorem inlX2 : ∀ w ∈ wsX20, w ∈ wsL_law := fun _ h => List.mem_append_left _ (List.mem_append_left _ (List.mem_append_left _ (List.mem_append_left _ (List.mem_append_left _ (List.mem_append_right _ h)))))
theorem inlX3 : ∀ w ∈ wsX30, w ∈ wsL_law := fun _ h => List.mem_append_left _ (List.mem_append_left _ (List.mem_append_right _ h))
theorem inlX4 : ∀ w ∈ wsX40, w ∈ wsL_law := fun _ h => List.mem_append_left _ (List.mem_append_left _ (List.mem_append_left _ (List.mem_append_right _ h)))
theorem inlX5 : ∀ w ∈ wsX50, w ∈ wsL_law := fun _ h => List.mem_append_left _ (List.mem_append_left _ (List.mem_append_left _ (List.mem_append_left _ (List.mem_append_right _ h))))
theorem inlX6 : ∀ w ∈ wsX60, w ∈ wsL_law := fun _ h => List.mem_append_left _ (List.mem_append_left _ (List.mem_append_left _ (List.mem_append_left _ (List.mem_append_left _ (List.mem_append_left _ (List.mem_append_right _ h))))))
theorem inlX7 : ∀ w ∈ wsX70, w ∈ wsL_law := fun _ h => List.mem_append_left _ (List.mem_append_left _ (List.mem_append_left _ (List.mem_append_left _ (List.mem_append_left _ (List.mem_append_left _ (List.mem_append_left _ (List.mem_append_left _ (List.mem_append_right _ h))))))))
theorem inlX8 : ∀ w ∈ wsX80, w ∈ wsL_law := fun _ h => List.mem_append_left _ (List.mem_append_left _ (List.mem_append_left _ (List.mem_append_left _ (List.mem_append_left _ (List.mem_append_left _ (List.mem_append_left _ (List.mem_append_left _ (List.mem_append_left _ (List.mem_append_left _ (List.mem_append_right _ h))))))))))
theorem inlX9 : ∀ w ∈ wsX90, w ∈ wsL_law := fun _ h => List.mem_append_left _ (List.mem_append_left _ (List.mem_append_left _ (List.mem_append_left _ (List.mem_append_left _ (List.mem_append_left _ (List.mem_append_left _ (List.mem_append_left _ (List.mem_append_left _ (List.mem_append_right _ h)))))))))
theorem inJ6 : ∀ w ∈ wsJ60, w ∈ lw_tbl := by decide +kernel
theorem inJ9 : ∀ w ∈ wsJ90, w ∈ lw_tbl := by decide +kernel
theorem inJ7 : ∀ w ∈ wsJ70, w ∈ lw_tbl := by decide +kernel
