theorem mem_pl {big ws : List Cond} (ps : List Nat) (hp : ws.map some = ps.map (fun i => big[i]?)) : ∀ w ∈ ws, w ∈ big := by
  intro w hw
  have h1 : some w ∈ ps.map (fun i => big[i]?) := hp ▸ List.mem_map.mpr ⟨w, hw, rfl⟩
  obtain ⟨i, -, hi⟩ := List.mem_map.mp h1
  first | exact List.mem_of_getElem? hi | exact List.getElem?_mem hi
set_option maxRecDepth 100000 in
set_option maxHeartbeats 4000000 in
theorem i_wsL_law0_r1 : ∀ w ∈ wsL_law0_r1, w ∈ lw_tbl := mem_pl [62, 63, 45, 674, 675, 50, 955, 64, 65, 66, 67, 68, 69, 70, 71, 46, 148, 88, 149, 150, 90, 151, 92, 47] rfl
set_option maxRecDepth 100000 in
set_option maxHeartbeats 4000000 in
theorem i_wsL_law0_r2 : ∀ w ∈ wsL_law0_r2, w ∈ lw_tbl := mem_pl [125, 126, 49, 152, 73, 74, 75, 87, 76, 77, 93, 94, 95, 96, 107, 97, 99, 0, 100, 108, 110, 114, 102, 103] rfl
set_option maxRecDepth 100000 in
set_option maxHeartbeats 4000000 in
theorem i_wsL_law0_r3 : ∀ w ∈ wsL_law0_r3, w ∈ lw_tbl := mem_pl [104, 105, 48, 106, 128, 129, 130, 131, 132, 133, 134, 135, 676, 677, 678, 679, 680, 682, 684, 685, 686, 687, 688, 689] rfl
set_option maxRecDepth 100000 in
set_option maxHeartbeats 4000000 in
theorem i_wsL_law0_r4 : ∀ w ∈ wsL_law0_r4, w ∈ lw_tbl := mem_pl [694, 695, 696, 164, 165, 166, 167, 174, 175, 52, 190, 191, 53, 221, 54, 168, 169, 170, 171, 172, 173, 176, 177, 178] rfl
set_option maxRecDepth 100000 in
set_option maxHeartbeats 4000000 in
theorem i_wsL_law0_r5 : ∀ w ∈ wsL_law0_r5, w ∈ lw_tbl := mem_pl [183, 184, 180, 51, 181, 182, 192, 193, 194, 196, 197, 198, 199, 200, 201, 202, 203, 222, 223, 224, 225, 298, 291, 293] rfl
set_option maxRecDepth 100000 in
set_option maxHeartbeats 4000000 in
theorem i_wsL_law0_r6 : ∀ w ∈ wsL_law0_r6, w ∈ lw_tbl := mem_pl [295, 226, 227, 55, 296, 228, 229, 230, 231, 263, 264, 262, 232, 234, 1, 235, 265, 267, 236, 237, 239, 2, 240, 269] rfl
set_option maxRecDepth 100000 in
set_option maxHeartbeats 4000000 in
theorem i_wsL_law0_r7 : ∀ w ∈ wsL_law0_r7, w ∈ lw_tbl := mem_pl [271, 273, 242, 244, 3, 245, 246, 248, 4, 249, 250, 252, 5, 253, 254, 256, 6, 257, 258, 260, 7, 261, 736, 737] rfl
set_option maxRecDepth 100000 in
set_option maxHeartbeats 4000000 in
theorem i_wsL_law0_r8 : ∀ w ∈ wsL_law0_r8, w ∈ lw_tbl := mem_pl [738, 739, 692, 683, 740, 741, 742, 311, 312, 313, 314, 315, 317, 8, 318, 743, 744, 745, 746, 747, 749, 20, 750, 751] rfl
set_option maxRecDepth 100000 in
set_option maxHeartbeats 4000000 in
theorem i_wsL_law0_r9 : ∀ w ∈ wsL_law0_r9, w ∈ lw_tbl := mem_pl [753, 21, 754, 320, 321, 322, 323, 324, 325, 326, 327, 755, 756, 757, 758, 681, 328, 329, 330, 331, 759, 760, 761, 762] rfl
set_option maxRecDepth 100000 in
set_option maxHeartbeats 4000000 in
theorem i_wsL_law0_r10 : ∀ w ∈ wsL_law0_r10, w ∈ lw_tbl := mem_pl [332, 333, 334, 335, 336, 337, 338, 339, 340, 341, 343, 344, 345, 346, 347, 349, 9, 350, 351, 352, 353, 354, 355, 356] rfl
set_option maxRecDepth 100000 in
set_option maxHeartbeats 4000000 in
theorem i_wsL_law0_r11 : ∀ w ∈ wsL_law0_r11, w ∈ lw_tbl := mem_pl [357, 358, 359, 361, 10, 362, 363, 364, 366, 11, 367, 763, 764, 765, 766, 767, 769, 22, 770, 771, 773, 23, 774, 775] rfl
set_option maxRecDepth 100000 in
set_option maxHeartbeats 4000000 in
theorem i_wsL_law0_r12 : ∀ w ∈ wsL_law0_r12, w ∈ lw_tbl := mem_pl [776, 777, 778, 780, 24, 781, 604, 605, 44, 606, 607, 608, 609, 610, 611, 612, 59, 673, 383, 384, 385, 782, 783, 784] rfl
set_option maxRecDepth 100000 in
set_option maxHeartbeats 4000000 in
theorem i_wsL_law0_r13 : ∀ w ∈ wsL_law0_r13, w ∈ lw_tbl := mem_pl [785, 732, 733, 734, 735, 368, 369, 370, 371, 372, 373, 374, 375, 376, 378, 379, 380, 381, 382, 388, 389, 396, 397, 60] rfl
set_option maxRecDepth 100000 in
set_option maxHeartbeats 4000000 in
theorem i_wsL_law0_r14 : ∀ w ∈ wsL_law0_r14, w ∈ lw_tbl := mem_pl [398, 390, 391, 392, 393, 394, 395, 400, 401, 402, 403, 404, 406, 786, 787, 788, 789, 691, 790, 792, 25, 793, 794, 796] rfl
set_option maxRecDepth 100000 in
set_option maxHeartbeats 4000000 in
theorem i_wsL_law0_r15 : ∀ w ∈ wsL_law0_r15, w ∈ lw_tbl := mem_pl [26, 797, 798, 800, 27, 801, 809, 802, 804, 28, 805, 806, 807, 808, 810, 812, 29, 813, 814, 816, 30, 817, 409, 410] rfl
set_option maxRecDepth 100000 in
set_option maxHeartbeats 4000000 in
theorem i_wsL_law0_r16 : ∀ w ∈ wsL_law0_r16, w ∈ lw_tbl := mem_pl [411, 412, 413, 818, 819, 820, 821, 414, 415, 416, 417, 418, 419, 420, 421, 423, 424, 425, 426, 427, 428, 822, 823, 824] rfl
set_option maxRecDepth 100000 in
set_option maxHeartbeats 4000000 in
theorem i_wsL_law0_r17 : ∀ w ∈ wsL_law0_r17, w ∈ lw_tbl := mem_pl [825, 429, 430, 431, 432, 433, 434, 435, 436, 437, 439, 12, 440, 826, 827, 828, 829, 830, 832, 31, 833, 834, 836, 32] rfl
set_option maxRecDepth 100000 in
set_option maxHeartbeats 4000000 in
theorem i_wsL_law0_r18 : ∀ w ∈ wsL_law0_r18, w ∈ lw_tbl := mem_pl [837, 442, 443, 444, 445, 446, 447, 448, 449, 450, 451, 452, 453, 838, 839, 840, 841, 454, 455, 456, 457, 458, 842, 843] rfl
set_option maxRecDepth 100000 in
set_option maxHeartbeats 4000000 in
theorem i_wsL_law0_r19 : ∀ w ∈ wsL_law0_r19, w ∈ lw_tbl := mem_pl [844, 845, 459, 460, 461, 462, 463, 464, 465, 466, 846, 847, 848, 849, 467, 468, 469, 470, 850, 851, 852, 853, 854, 856] rfl
set_option maxRecDepth 100000 in
set_option maxHeartbeats 4000000 in
theorem i_wsL_law0_r20 : ∀ w ∈ wsL_law0_r20, w ∈ lw_tbl := mem_pl [33, 857, 858, 860, 34, 861, 862, 864, 35, 865, 471, 472, 473, 474, 475, 476, 477, 478, 866, 867, 868, 869, 870, 872] rfl
set_option maxRecDepth 100000 in
set_option maxHeartbeats 4000000 in
theorem i_wsL_law0_r21 : ∀ w ∈ wsL_law0_r21, w ∈ lw_tbl := mem_pl [36, 873, 874, 876, 37, 877, 878, 879, 880, 479, 480, 481, 482, 483, 484, 485, 486, 487, 489, 13, 490, 491, 492, 61] rfl
set_option maxRecDepth 100000 in
set_option maxHeartbeats 4000000 in
theorem i_wsL_law0_r22 : ∀ w ∈ wsL_law0_r22, w ∈ lw_tbl := mem_pl [493, 494, 495, 496, 497, 498, 499, 500, 501, 503, 14, 504, 505, 507, 15, 508, 881, 882, 883, 884, 890, 885, 887, 38] rfl
set_option maxRecDepth 100000 in
set_option maxHeartbeats 4000000 in
theorem i_wsL_law0_r23 : ∀ w ∈ wsL_law0_r23, w ∈ lw_tbl := mem_pl [888, 889, 891, 893, 39, 894, 693, 895, 897, 40, 898, 509, 510, 511, 512, 513, 514, 515, 516, 899, 900, 901, 902, 903] rfl
set_option maxRecDepth 100000 in
set_option maxHeartbeats 4000000 in
theorem i_wsL_law0_r24 : ∀ w ∈ wsL_law0_r24, w ∈ lw_tbl := mem_pl [517, 518, 519, 520, 521, 522, 523, 524, 525, 527, 16, 528, 904, 905, 906, 907, 529, 530, 531, 532, 533, 535, 17, 536] rfl
set_option maxRecDepth 100000 in
set_option maxHeartbeats 4000000 in
theorem i_wsL_law0_r25 : ∀ w ∈ wsL_law0_r25, w ∈ lw_tbl := mem_pl [908, 909, 910, 911, 912, 913, 914, 538, 539, 540, 541, 542, 543, 544, 545, 547, 548, 549, 550, 551, 552, 553, 554, 555] rfl
set_option maxRecDepth 100000 in
set_option maxHeartbeats 4000000 in
theorem i_wsL_law0_r26 : ∀ w ∈ wsL_law0_r26, w ∈ lw_tbl := mem_pl [556, 915, 916, 917, 918, 557, 558, 559, 560, 561, 562, 563, 564, 919, 920, 921, 922, 923, 925, 41, 926, 565, 566, 567] rfl
set_option maxRecDepth 100000 in
set_option maxHeartbeats 4000000 in
theorem i_wsL_law0_r27 : ∀ w ∈ wsL_law0_r27, w ∈ lw_tbl := mem_pl [568, 569, 570, 571, 572, 927, 928, 929, 930, 931, 933, 42, 934, 573, 574, 575, 576, 577, 578, 579, 580, 581, 582, 584] rfl
set_option maxRecDepth 100000 in
set_option maxHeartbeats 4000000 in
theorem i_wsL_law0_r28 : ∀ w ∈ wsL_law0_r28, w ∈ lw_tbl := mem_pl [18, 585, 586, 935, 936, 937, 938, 939, 941, 43, 942, 690, 587, 588, 589, 590, 591, 592, 593, 594, 943, 944, 945, 946] rfl
set_option maxRecDepth 100000 in
set_option maxHeartbeats 4000000 in
theorem i_wsL_law0_r29 : ∀ w ∈ wsL_law0_r29, w ∈ lw_tbl := mem_pl [596, 597, 598, 599, 947, 948, 949, 950, 600, 601, 602, 603, 951, 952, 953, 954] rfl
set_option maxRecDepth 100000 in
set_option maxHeartbeats 4000000 in
theorem inX8 : ∀ w ∈ wsX80, w ∈ lw_tbl := mem_pl [153, 155, 157, 159, 161] rfl
set_option maxRecDepth 100000 in
set_option maxHeartbeats 4000000 in
theorem inX9 : ∀ w ∈ wsX90, w ∈ lw_tbl := mem_pl [697, 699, 701, 703, 705, 707, 709, 711, 713, 715, 717, 719, 721, 723, 725, 727, 729] rfl
set_option maxRecDepth 100000 in
set_option maxHeartbeats 4000000 in
theorem inX7 : ∀ w ∈ wsX70, w ∈ lw_tbl := mem_pl [82, 84] rfl
set_option maxRecDepth 100000 in
set_option maxHeartbeats 4000000 in
theorem inX0 : ∀ w ∈ wsX00, w ∈ lw_tbl := mem_pl [116, 118, 120, 122] rfl
set_option maxRecDepth 100000 in
set_option maxHeartbeats 4000000 in
theorem inX6 : ∀ w ∈ wsX60, w ∈ lw_tbl := mem_pl [137, 139, 141, 143, 145] rfl
set_option maxRecDepth 100000 in
set_option maxHeartbeats 4000000 in
theorem inX2 : ∀ w ∈ wsX20, w ∈ lw_tbl := mem_pl [185, 187] rfl
set_option maxRecDepth 100000 in
set_option maxHeartbeats 4000000 in
theorem inX5 : ∀ w ∈ wsX50, w ∈ lw_tbl := mem_pl [204, 206, 208, 210, 212, 214, 216, 218] rfl
set_option maxRecDepth 100000 in
set_option maxHeartbeats 4000000 in
theorem inX4 : ∀ w ∈ wsX40, w ∈ lw_tbl := mem_pl [300, 302, 304, 306, 308] rfl
set_option maxRecDepth 100000 in
set_option maxHeartbeats 4000000 in
theorem inX3 : ∀ w ∈ wsX30, w ∈ lw_tbl := mem_pl [274, 276, 278, 280, 282, 284, 286, 288] rfl
theorem mem_ap {a b big : List Cond} (ha : ∀ w ∈ a, w ∈ big) (hb : ∀ w ∈ b, w ∈ big) : ∀ w ∈ a ++ b, w ∈ big := fun w h => (List.mem_append.mp h).elim (ha w) (hb w)
theorem wsL_law_in0 : ∀ w ∈ wsL_law0, w ∈ lw_tbl := mem_ap (mem_ap (mem_ap (mem_ap (mem_ap (mem_ap (mem_ap (mem_ap (mem_ap (mem_ap (mem_ap i_wsL_law0_r1 (mem_ap i_wsL_law0_r2 (mem_ap i_wsL_law0_r3 (mem_ap i_wsL_law0_r4 (mem_ap i_wsL_law0_r5 (mem_ap i_wsL_law0_r6 (mem_ap i_wsL_law0_r7 (mem_ap i_wsL_law0_r8 (mem_ap i_wsL_law0_r9 (mem_ap i_wsL_law0_r10 (mem_ap i_wsL_law0_r11 (mem_ap i_wsL_law0_r12 (mem_ap i_wsL_law0_r13 (mem_ap i_wsL_law0_r14 (mem_ap i_wsL_law0_r15 (mem_ap i_wsL_law0_r16 (mem_ap i_wsL_law0_r17 (mem_ap i_wsL_law0_r18 (mem_ap i_wsL_law0_r19 (mem_ap i_wsL_law0_r20 (mem_ap i_wsL_law0_r21 (mem_ap i_wsL_law0_r22 (mem_ap i_wsL_law0_r23 (mem_ap i_wsL_law0_r24 (mem_ap i_wsL_law0_r25 (mem_ap i_wsL_law0_r26 (mem_ap i_wsL_law0_r27 (mem_ap i_wsL_law0_r28 (i_wsL_law0_r29))))))))))))))))))))))))))))) inX8) inX9) inX7) inX0) inX6) inX2) inX5) inX4) inX3) (fun _ h => absurd h List.not_mem_nil)
theorem wsL_law_x0 : ∀ w ∈ (vx_at0 RX8 97 "java/util/NoSuchElementException" ["java/lang/RuntimeException", "java/lang/Exception"]).filter goodWord, w ∈ lw_tbl := by decide +kernel
theorem wsL_law_in : ∀ w ∈ wsL_law, w ∈ lw_tbl := fun w h => (List.mem_append.mp h).elim (fun h => wsL_law_in0 w h) (fun h => wsL_law_x0 w h)
theorem inlX0 : ∀ w ∈ wsX00, w ∈ wsL_law := fun _ h => List.mem_append_left _ (List.mem_append_left _ (List.mem_append_left _ (List.mem_append_left _ (List.mem_append_left _ (List.mem_append_left _ (List.mem_append_left _ (List.mem_append_right _ h)))))))
theorem inX1 : ∀ w ∈ wsX10, w ∈ lw_tbl := by decide +kernel
theorem inlX2 : ∀ w ∈ wsX20, w ∈ wsL_law := fun _ h => List.mem_append_left _ (List.mem_append_left _ (List.mem_append_left _ (List.mem_append_left _ (List.mem_append_left _ (List.mem_append_right _ h)))))
theorem inlX3 : ∀ w ∈ wsX30, w ∈ wsL_law := fun _ h => List.mem_append_left _ (List.mem_append_left _ (List.mem_append_right _ h))
theorem inlX4 : ∀ w ∈ wsX40, w ∈ wsL_law := fun _ h => List.mem_append_left _ (List.mem_append_left _ (List.mem_append_left _ (List.mem_append_right _ h)))
theorem inlX5 : ∀ w ∈ wsX50, w ∈ wsL_law := fun _ h => List.mem_append_left _ (List.mem_append_left _ (List.mem_append_left _ (List.mem_append_left _ (List.mem_append_right _ h))))
theorem inlX6 : ∀ w ∈ wsX60, w ∈ wsL_law := fun _ h => List.mem_append_left _ (List.mem_append_left _ (List.mem_append_left _ (List.mem_append_left _ (List.mem_append_left _ (List.mem_append_left _ (List.mem_append_right _ h))))))
theorem inlX7 : ∀ w ∈ wsX70, w ∈ wsL_law := fun _ h => List.mem_append_left _ (List.mem_append_left _ (List.mem_append_left _ (List.mem_append_left _ (List.mem_append_left _ (List.mem_append_left _ (List.mem_append_left _ (List.mem_append_left _ (List.mem_append_right _ h))))))))
theorem inlX8 : ∀ w ∈ wsX80, w ∈ wsL_law := fun _ h => List.mem_append_left _ (List.mem_append_left _ (List.mem_append_left _ (List.mem_append_left _ (List.mem_append_left _ (List.mem_append_left _ (List.mem_append_left _ (List.mem_append_left _ (List.mem_append_left _ (List.mem_append_left _ (List.mem_append_right _ h))))))))))
theorem inlX9 : ∀ w ∈ wsX90, w ∈ wsL_law := fun _ h => List.mem_append_left _ (List.mem_append_left _ (List.mem_append_left _ (List.mem_append_left _ (List.mem_append_left _ (List.mem_append_left _ (List.mem_append_left _ (List.mem_append_left _ (List.mem_append_left _ (List.mem_append_right _ h)))))))))
theorem inJ6 : ∀ w ∈ wsJ60, w ∈ lw_tbl := by decide +kernel
theorem inJ9 : ∀ w ∈ wsJ90, w ∈ lw_tbl := by decide +kernel
theorem inJ7 : ∀ w ∈ wsJ70, w ∈ lw_tbl := by decide +kernel
