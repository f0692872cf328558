/-! L_law: PrimePlaneLaw.law([I)Z -/
abbrev zR_L_law : Room := ({ frames := 10, cells := 612586, slots := 7263941, locals := 424 } : Room)
noncomputable def zl_L_law (sc : List Int32) : List (Nat × zOp) := [(8, z_sget 2 11), (11, z_lda 0 12), (12, z_ic (0) 13), (13, z_callS (m_L_cell sc) 2 0 0 (zR_L_law).cells (zR_L_law).slots 16), (16, z_ic (4) 17), (17, z_callS (m_L_below sc) 2 0 0 (zR_L_law).cells (zR_L_law).slots 20), (20, z_iald (zES sc) 21), (21, z_sti 2 22), (22, z_lda 1 23), (23, z_ldi 2 24), (24, z_callV (zES sc) 8 m_X8_begin 1 0 0 (zR_L_law).cells (zR_L_law).slots 27), (27, z_pop 28), (28, z_lda 1 29), (29, z_lda 0 30), (30, z_ldi 2 31), (31, z_ic (24) 33), (33, z_callS (m_L_build sc) 4 40 200 (zR_L_law).cells (zR_L_law).slots 36), (36, z_sti 3 37), (37, z_ldi 3 38), (38, z_if (fun x => decide (0 ≤ x)) 43 41), (41, z_ic (0) 42), (42, z_reti true), (43, z_ldi 3 44), (44, z_newa (zR_L_law).cells (zR_L_law).slots 46), (46, z_sta 4 48), (48, z_ic (0) 49), (49, z_sti 5 51), (51, z_ic (0) 52), (52, z_sti 6 54), (54, z_ldi 6 56), (56, z_ldi 3 57), (57, z_cmp (fun x y => decide (y ≤ x)) 304 60), (60, z_lda 4 62), (62, z_ldi 6 64), (64, z_lda 1 65), (65, z_ldi 6 67), (67, z_ic (0) 68), (68, z_callV (zES sc) 8 m_X8_object 2 0 0 (zR_L_law).cells (zR_L_law).slots 71), (71, z_iast (zES sc) 72), (72, z_lda 1 73), (73, z_ldi 6 75), (75, z_ic (5) 76), (76, z_callV (zES sc) 8 m_X8_object 2 0 0 (zR_L_law).cells (zR_L_law).slots 79), (79, z_ic (1) 80), (80, z_cmp (fun x y => decide (¬ x = y)) 87 83), (83, z_ic (1) 84), (84, z_goto 88), (87, z_ic (0) 88), (88, z_sti 7 90), (90, z_ldi 5 92), (92, z_ldi 7 94), (94, z_if (fun x => decide (x = 0)) 101 97), (97, z_ic (1) 98), (98, z_goto 102), (101, z_ic (0) 102), (102, z_bin (fun x y => x + y) 103), (103, z_sti 5 105), (105, z_lda 1 106), (106, z_ldi 6 108), (108, z_callV (zES sc) 8 m_X8_places 1 0 0 (zR_L_law).cells (zR_L_law).slots 111), (111, z_ldi 7 113), (113, z_if (fun x => decide (x = 0)) 120 116), (116, z_ic (0) 117), (117, z_goto 148), (120, z_lda 4 122), (122, z_ldi 6 124), (124, z_iald (zES sc) 125), (125, z_if (fun x => decide (¬ x = 0)) 132 128), (128, z_ic (1) 129), (129, z_goto 148), (132, z_lda 4 134), (134, z_ldi 6 136), (136, z_iald (zES sc) 137), (137, z_ic (1) 138), (138, z_cmp (fun x y => decide (¬ x = y)) 145 141), (141, z_ldi 2 142), (142, z_goto 148), (145, z_ldi 2 146), (146, z_ic (1) 147), (147, z_bin (fun x y => x + y) 148), (148, z_cmp (fun x y => decide (x = y)) 153 151), (151, z_ic (0) 152), (152, z_reti true), (153, z_lda 1 154), (154, z_ldi 6 156), (156, z_ic (1) 157), (157, z_callV (zES sc) 8 m_X8_object 2 0 0 (zR_L_law).cells (zR_L_law).slots 160), (160, z_sti 8 162), (162, z_ic (2) 163), (163, z_sti 9 165), (165, z_ldi 9 167), (167, z_ic (5) 168), (168, z_cmp (fun x y => decide (y ≤ x)) 217 171), (171, z_lda 1 172), (172, z_ldi 6 174), (174, z_ldi 9 176), (176, z_callV (zES sc) 8 m_X8_object 2 0 0 (zR_L_law).cells (zR_L_law).slots 179), (179, z_sti 10 181), (181, z_ldi 10 183), (183, z_ldi 6 185), (185, z_cmp (fun x y => decide (y ≤ x)) 209 188), (188, z_ldi 10 190), (190, z_if (fun x => decide (x < 0)) 211 193), (193, z_lda 1 194), (194, z_ldi 10 196), (196, z_ic (5) 197), (197, z_callV (zES sc) 8 m_X8_object 2 0 0 (zR_L_law).cells (zR_L_law).slots 200), (200, z_ic (1) 201), (201, z_cmp (fun x y => decide (¬ x = y)) 211 204), (204, z_ldi 7 206), (206, z_if (fun x => decide (¬ x = 0)) 211 209), (209, z_ic (0) 210), (210, z_reti true), (211, z_iinc 9 (1) 214), (214, z_goto 165), (217, z_ldi 7 219), (219, z_if (fun x => decide (¬ x = 0)) 298 222), (222, z_ldi 8 224), (224, z_ic (2) 225), (225, z_cmp (fun x y => decide (x < y)) 298 228), (228, z_ldi 8 230), (230, z_ic (6) 232), (232, z_cmp (fun x y => decide (x ≤ y)) 238 235), (235, z_goto 298), (238, z_lda 1 239), (239, z_ldi 2 240), (240, z_lda 1 241), (241, z_ldi 6 243), (243, z_ic (2) 244), (244, z_callV (zES sc) 8 m_X8_object 2 0 0 (zR_L_law).cells (zR_L_law).slots 247), (247, z_lda 1 248), (248, z_ldi 6 250), (250, z_ic (0) 251), (251, z_callV (zES sc) 8 m_X8_number 2 0 0 (zR_L_law).cells (zR_L_law).slots 254), (254, z_lda 1 255), (255, z_ldi 6 257), (257, z_ic (1) 258), (258, z_callV (zES sc) 8 m_X8_number 2 0 0 (zR_L_law).cells (zR_L_law).slots 261), (261, z_callS (m_L_has sc) 5 0 0 (zR_L_law).cells (zR_L_law).slots 264), (264, z_if (fun x => decide (x = 0)) 296 267), (267, z_lda 1 268), (268, z_ldi 2 269), (269, z_lda 1 270), (270, z_ldi 6 272), (272, z_ic (3) 273), (273, z_callV (zES sc) 8 m_X8_object 2 0 0 (zR_L_law).cells (zR_L_law).slots 276), (276, z_lda 1 277), (277, z_ldi 6 279), (279, z_ic (0) 280), (280, z_callV (zES sc) 8 m_X8_number 2 0 0 (zR_L_law).cells (zR_L_law).slots 283), (283, z_lda 1 284), (284, z_ldi 6 286), (286, z_ic (1) 287), (287, z_callV (zES sc) 8 m_X8_number 2 0 0 (zR_L_law).cells (zR_L_law).slots 290), (290, z_callS (m_L_has sc) 5 0 0 (zR_L_law).cells (zR_L_law).slots 293), (293, z_if (fun x => decide (¬ x = 0)) 298 296), (296, z_ic (0) 297), (297, z_reti true), (298, z_iinc 6 (1) 301), (301, z_goto 54), (304, z_lda 1 305), (305, z_ic (4) 306), (306, z_callV (zES sc) 8 m_X8_count 1 0 0 (zR_L_law).cells (zR_L_law).slots 309), (309, z_ldi 5 311), (311, z_cmp (fun x y => decide (x = y)) 316 314), (314, z_ic (0) 315), (315, z_reti true), (316, z_lda 1 317), (317, z_callV (zES sc) 8 m_X8_digest 0 0 0 (zR_L_law).cells (zR_L_law).slots 320), (320, z_st2 6 322), (322, z_lda 4 324), (324, z_ldi 3 325), (325, z_ic (0) 326), (326, z_lda 0 327), (327, z_ic (1) 328), (328, z_callS (m_L_cell sc) 2 0 0 (zR_L_law).cells (zR_L_law).slots 331), (331, z_callS (m_L_pick sc) 4 0 0 (zR_L_law).cells (zR_L_law).slots 334), (334, z_sti 8 336), (336, z_ic (0) 337), (337, z_sti 9 339), (339, z_ldi 9 341), (341, z_ldi 3 342), (342, z_cmp (fun x y => decide (y ≤ x)) 493 345), (345, z_lda 1 346), (346, z_ldi 9 348), (348, z_ic (1) 349), (349, z_callV (zES sc) 8 m_X8_object 2 0 0 (zR_L_law).cells (zR_L_law).slots 352), (352, z_ic (1) 353), (353, z_cmp (fun x y => decide (x = y)) 359 356), (356, z_goto 487), (359, z_lda 1 360), (360, z_ldi 8 362), (362, z_ldi 9 364), (364, z_ic (0) 365), (365, z_callV (zES sc) 8 m_X8_locus 3 0 0 (zR_L_law).cells (zR_L_law).slots 368), (368, z_sti 10 370), (370, z_lda 1 371), (371, z_ldi 8 373), (373, z_ldi 9 375), (375, z_ic (2) 376), (376, z_callV (zES sc) 8 m_X8_locus 3 0 0 (zR_L_law).cells (zR_L_law).slots 379), (379, z_sti 11 381), (381, z_lda 1 382), (382, z_ldi 8 384), (384, z_ldi 9 386), (386, z_ic (1) 387), (387, z_callV (zES sc) 8 m_X8_locus 3 0 0 (zR_L_law).cells (zR_L_law).slots 390), (390, z_sti 12 392), (392, z_ldi 10 394), (394, z_ldi 11 396), (396, z_bin (fun x y => x + y) 397), (397, z_ldi 2 398), (398, z_cmp (fun x y => decide (y < x)) 485 401), (401, z_ldi 10 403), (403, z_if (fun x => decide (¬ x = 0)) 410 406), (406, z_ic (1) 407), (407, z_goto 411), (410, z_ic (0) 411), (411, z_ldi 11 413), (413, z_ldi 2 414), (414, z_cmp (fun x y => decide (¬ x = y)) 421 417), (417, z_ic (1) 418), (418, z_goto 422), (421, z_ic (0) 422), (422, z_cmp (fun x y => decide (¬ x = y)) 485 425), (425, z_ldi 10 427), (427, z_ic (3) 428), (428, z_cmp (fun x y => decide (y ≤ x)) 435 431), (431, z_ic (1) 432), (432, z_goto 436), (435, z_ic (0) 436), (436, z_ldi 12 438), (438, z_if (fun x => decide (¬ x = 0)) 445 441), (441, z_ic (1) 442), (442, z_goto 446), (445, z_ic (0) 446), (446, z_cmp (fun x y => decide (¬ x = y)) 485 449), (449, z_ldi 12 451), (451, z_ic (2) 452), (452, z_cmp (fun x y => decide (¬ x = y)) 463 455), (455, z_ldi 10 457), (457, z_ldi 2 458), (458, z_ic (1) 459), (459, z_bin (fun x y => x + y) 460), (460, z_cmp (fun x y => decide (y < x)) 485 463), (463, z_lda 1 464), (464, z_ldi 8 466), (466, z_ldi 9 468), (468, z_ic (3) 469), (469, z_callV (zES sc) 8 m_X8_locus 3 0 0 (zR_L_law).cells (zR_L_law).slots 472), (472, z_if (fun x => decide (x < 0)) 485 475), (475, z_lda 1 476), (476, z_callV (zES sc) 8 m_X8_digest 0 0 0 (zR_L_law).cells (zR_L_law).slots 479), (479, z_ldl 6 481), (481, z_lcmp 482), (482, z_if (fun x => decide (x = 0)) 487 485), (485, z_ic (0) 486), (486, z_reti true), (487, z_iinc 9 (1) 490), (490, z_goto 339), (493, z_lda 4 495), (495, z_ldi 3 496), (496, z_ic (0) 497), (497, z_lda 0 498), (498, z_ic (2) 499), (499, z_callS (m_L_cell sc) 2 0 0 (zR_L_law).cells (zR_L_law).slots 502), (502, z_callS (m_L_pick sc) 4 0 0 (zR_L_law).cells (zR_L_law).slots 505), (505, z_sti 9 507), (507, z_lda 4 509), (509, z_ldi 3 510), (510, z_ic (1) 511), (511, z_lda 0 512), (512, z_ic (3) 513), (513, z_callS (m_L_cell sc) 2 0 0 (zR_L_law).cells (zR_L_law).slots 516), (516, z_callS (m_L_pick sc) 4 0 0 (zR_L_law).cells (zR_L_law).slots 519), (519, z_sti 10 521), (521, z_lda 1 522), (522, z_ic (6) 524), (524, z_ldi 8 526), (526, z_ldi 9 528), (528, z_ic (0) 529), (529, z_ic (0) 530), (530, z_callV (zES sc) 8 m_X8_claim 5 0 0 (zR_L_law).cells (zR_L_law).slots 533), (533, z_if (fun x => decide (¬ x = 0)) 556 536), (536, z_ldi 10 538), (538, z_if (fun x => decide (x < 0)) 558 541), (541, z_lda 1 542), (542, z_ic (0) 543), (543, z_ldi 8 545), (545, z_ldi 10 547), (547, z_ic (0) 548), (548, z_ic (0) 549), (549, z_callV (zES sc) 8 m_X8_claim 5 0 0 (zR_L_law).cells (zR_L_law).slots 552), (552, z_ic (1) 553), (553, z_cmp (fun x y => decide (x = y)) 558 556), (556, z_ic (0) 557), (557, z_reti true), (558, z_lda 1 559), (559, z_callV (zES sc) 8 m_X8_digest 0 0 0 (zR_L_law).cells (zR_L_law).slots 562), (562, z_st2 6 564), (564, z_ic (0) 565), (565, z_sti 11 567), (567, z_ldi 11 569), (569, z_lda 1 570), (570, z_ic (2) 571), (571, z_callV (zES sc) 8 m_X8_count 1 0 0 (zR_L_law).cells (zR_L_law).slots 574), (574, z_cmp (fun x y => decide (y ≤ x)) 790 577), (577, z_lda 1 578), (578, z_ldi 11 580), (580, z_ic (1) 581), (581, z_ic (0) 582), (582, z_callV (zES sc) 8 m_X8_everywhere 3 0 0 (zR_L_law).cells (zR_L_law).slots 585), (585, z_sti 12 587), (587, z_lda 1 588), (588, z_ldi 11 590), (590, z_ic (1) 591), (591, z_ic (1) 592), (592, z_callV (zES sc) 8 m_X8_everywhere 3 0 0 (zR_L_law).cells (zR_L_law).slots 595), (595, z_sti 13 597), (597, z_lda 1 598), (598, z_ldi 11 600), (600, z_ic (1) 601), (601, z_ic (2) 602), (602, z_callV (zES sc) 8 m_X8_everywhere 3 0 0 (zR_L_law).cells (zR_L_law).slots 605), (605, z_sti 14 607), (607, z_ldi 12 609), (609, z_ldi 13 611), (611, z_bin (fun x y => x + y) 612), (612, z_ldi 2 613), (613, z_ldi 2 614), (614, z_bin (fun x y => x * y) 615), (615, z_cmp (fun x y => decide (y < x)) 651 618), (618, z_ldi 13 620), (620, z_if (fun x => decide (¬ x = 0)) 627 623), (623, z_ic (1) 624), (624, z_goto 628), (627, z_ic (0) 628), (628, z_ldi 14 630), (630, z_if (fun x => decide (0 ≤ x)) 637 633), (633, z_ic (1) 634), (634, z_goto 638), (637, z_ic (0) 638), (638, z_cmp (fun x y => decide (¬ x = y)) 651 641), (641, z_lda 1 642), (642, z_callV (zES sc) 8 m_X8_digest 0 0 0 (zR_L_law).cells (zR_L_law).slots 645), (645, z_ldl 6 647), (647, z_lcmp 648), (648, z_if (fun x => decide (x = 0)) 653 651), (651, z_ic (0) 652), (652, z_reti true), (653, z_lda 1 654), (654, z_ic (1) 655), (655, z_ic (0) 656), (656, z_callV (zES sc) 8 m_X8_number 2 0 0 (zR_L_law).cells (zR_L_law).slots 659), (659, z_sti 15 661), (661, z_lda 1 662), (662, z_ic (1) 663), (663, z_ic (1) 664), (664, z_callV (zES sc) 8 m_X8_number 2 0 0 (zR_L_law).cells (zR_L_law).slots 667), (667, z_sti 16 669), (669, z_ldi 14 671), (671, z_if (fun x => decide (x < 0)) 743 674), (674, z_lda 1 675), (675, z_ic (1) 676), (676, z_ldi 14 678), (678, z_ldi 2 679), (679, z_div 680), (680, z_ldi 14 682), (682, z_ldi 2 683), (683, z_rem 684), (684, z_callV (zES sc) 8 m_X8_move 3 0 0 (zR_L_law).cells (zR_L_law).slots 687), (687, z_pop 688), (688, z_lda 1 689), (689, z_ldi 11 691), (691, z_callV (zES sc) 8 m_X8_holds 1 0 0 (zR_L_law).cells (zR_L_law).slots 694), (694, z_if (fun x => decide (x = 0)) 699 697), (697, z_ic (0) 698), (698, z_reti true), (699, z_ldi 14 701), (701, z_if (fun x => decide (x ≤ 0)) 733 704), (704, z_lda 1 705), (705, z_ic (1) 706), (706, z_ldi 14 708), (708, z_ic (1) 709), (709, z_bin (fun x y => x - y) 710), (710, z_ldi 2 711), (711, z_div 712), (712, z_ldi 14 714), (714, z_ic (1) 715), (715, z_bin (fun x y => x - y) 716), (716, z_ldi 2 717), (717, z_rem 718), (718, z_callV (zES sc) 8 m_X8_move 3 0 0 (zR_L_law).cells (zR_L_law).slots 721), (721, z_pop 722), (722, z_lda 1 723), (723, z_ldi 11 725), (725, z_callV (zES sc) 8 m_X8_holds 1 0 0 (zR_L_law).cells (zR_L_law).slots 728), (728, z_if (fun x => decide (¬ x = 0)) 733 731), (731, z_ic (0) 732), (732, z_reti true), (733, z_lda 1 734), (734, z_ic (1) 735), (735, z_ldi 15 737), (737, z_ldi 16 739), (739, z_callV (zES sc) 8 m_X8_move 3 0 0 (zR_L_law).cells (zR_L_law).slots 742), (742, z_pop 743), (743, z_lda 1 744), (744, z_callV (zES sc) 8 m_X8_digest 0 0 0 (zR_L_law).cells (zR_L_law).slots 747), (747, z_ldl 6 749), (749, z_lcmp 750), (750, z_if (fun x => decide (¬ x = 0)) 782 753), (753, z_lda 1 754), (754, z_ldi 11 756), (756, z_callV (zES sc) 8 m_X8_holds 1 0 0 (zR_L_law).cells (zR_L_law).slots 759), (759, z_ic (1) 760), (760, z_cmp (fun x y => decide (¬ x = y)) 768 763), (763, z_ldi 12 765), (765, z_if (fun x => decide (x = 0)) 782 768), (768, z_lda 1 769), (769, z_ldi 11 771), (771, z_callV (zES sc) 8 m_X8_holds 1 0 0 (zR_L_law).cells (zR_L_law).slots 774), (774, z_if (fun x => decide (¬ x = 0)) 784 777), (777, z_ldi 13 779), (779, z_if (fun x => decide (¬ x = 0)) 784 782), (782, z_ic (0) 783), (783, z_reti true), (784, z_iinc 11 (1) 787), (787, z_goto 567), (790, z_lda 1 791), (791, z_callV (zES sc) 8 m_X8_truth 0 0 0 (zR_L_law).cells (zR_L_law).slots 794), (794, z_dc 0 795), (795, z_dcmp .l 796), (796, z_if (fun x => decide (x < 0)) 812 799), (799, z_lda 1 800), (800, z_callV (zES sc) 8 m_X8_truth 0 0 0 (zR_L_law).cells (zR_L_law).slots 803), (803, z_dc 0x3ff0000000000000 804), (804, z_dcmp .g 805), (805, z_if (fun x => decide (0 < x)) 812 808), (808, z_ic (1) 809), (809, z_goto 813), (812, z_ic (0) 813), (813, z_reti true)]
noncomputable def zk_L_law (sc : List Int32) (pc : Nat) : Option zOp := zlook (zl_L_law sc) pc
set_option maxRecDepth 100000 in
set_option maxHeartbeats 4000000 in
theorem zcs_L_law (sc : List Int32) {R : Room} (hR : R = zR_L_law) : ∀ q ∈ zl_L_law sc, zS (zES sc) yL_law.cls cL_law 17 wsL_law ret R q.1 q.2 := by
  subst hR
  refine List.forall_mem_cons.mpr ⟨zs_sget (index := 90) (t := 2) (C := "PrimePlaneLaw") (n := "PRIMES") (by decide) (List.mem_of_getElem? (i := 3) rfl) dL_law_8, ?_⟩
  refine List.forall_mem_cons.mpr ⟨zs_aload_n dL_law_11 rfl, ?_⟩
  refine List.forall_mem_cons.mpr ⟨zs_iconst dL_law_12 (by decide), ?_⟩
  refine List.forall_mem_cons.mpr ⟨zs_callS (rm := zR_L_cell) (n := 2) (zM_L_cell sc) gL_law_L_cell rfl (by decide +kernel) ⟨by decide, by decide⟩ dL_law_13, ?_⟩
  refine List.forall_mem_cons.mpr ⟨zs_iconst dL_law_16 (by decide), ?_⟩
  refine List.forall_mem_cons.mpr ⟨zs_callS (rm := zR_L_below) (n := 2) (zM_L_below sc) gL_law_L_below rfl (by decide +kernel) ⟨by decide, by decide⟩ dL_law_17, ?_⟩
  refine List.forall_mem_cons.mpr ⟨zs_iald dL_law_20, ?_⟩
  refine List.forall_mem_cons.mpr ⟨zs_istore_n dL_law_21 rfl, ?_⟩
  refine List.forall_mem_cons.mpr ⟨zs_aload_n dL_law_22 rfl, ?_⟩
  refine List.forall_mem_cons.mpr ⟨zs_iload_n dL_law_23 rfl, ?_⟩
  refine List.forall_mem_cons.mpr ⟨zs_callV (ci := 8) (rm := zR_X8_begin) (n := 1) rfl (zMeets_ex (zES_ex sc) zM_X8_begin) gL_law_X8_begin rfl (by decide +kernel) ⟨by decide, by decide⟩ dL_law_24, ?_⟩
  refine List.forall_mem_cons.mpr ⟨zs_pop dL_law_27, ?_⟩
  refine List.forall_mem_cons.mpr ⟨zs_aload_n dL_law_28 rfl, ?_⟩
  refine List.forall_mem_cons.mpr ⟨zs_aload_n dL_law_29 rfl, ?_⟩
  refine List.forall_mem_cons.mpr ⟨zs_iload_n dL_law_30 rfl, ?_⟩
  refine List.forall_mem_cons.mpr ⟨zs_bipush dL_law_31 (by decide), ?_⟩
  refine List.forall_mem_cons.mpr ⟨zs_callS (rm := zR_L_build) (n := 4) (zM_L_build sc) gL_law_L_build rfl (by decide +kernel) ⟨by decide, by decide⟩ dL_law_33, ?_⟩
  refine List.forall_mem_cons.mpr ⟨zs_istore_n dL_law_36 rfl, ?_⟩
  refine List.forall_mem_cons.mpr ⟨zs_iload_n dL_law_37 rfl, ?_⟩
  refine List.forall_mem_cons.mpr ⟨zs_ifge dL_law_38 (by decide), ?_⟩
  refine List.forall_mem_cons.mpr ⟨zs_iconst dL_law_41 (by decide), ?_⟩
  refine List.forall_mem_cons.mpr ⟨zs_reti (ty := .boolean) rfl (fun x h => (znz x h).1) dL_law_42, ?_⟩
  refine List.forall_mem_cons.mpr ⟨zs_iload_n dL_law_43 rfl, ?_⟩
  refine List.forall_mem_cons.mpr ⟨zs_newa (zES_ok sc) (List.mem_of_getElem? (i := 4) rfl) dL_law_44, ?_⟩
  refine List.forall_mem_cons.mpr ⟨zs_astore dL_law_46, ?_⟩
  refine List.forall_mem_cons.mpr ⟨zs_iconst dL_law_48 (by decide), ?_⟩
  refine List.forall_mem_cons.mpr ⟨zs_istore dL_law_49, ?_⟩
  refine List.forall_mem_cons.mpr ⟨zs_iconst dL_law_51 (by decide), ?_⟩
  refine List.forall_mem_cons.mpr ⟨zs_istore dL_law_52, ?_⟩
  refine List.forall_mem_cons.mpr ⟨zs_iload dL_law_54, ?_⟩
  refine List.forall_mem_cons.mpr ⟨zs_iload_n dL_law_56 rfl, ?_⟩
  refine List.forall_mem_cons.mpr ⟨zs_icge dL_law_57 (by decide), ?_⟩
  refine List.forall_mem_cons.mpr ⟨zs_aload dL_law_60, ?_⟩
  refine List.forall_mem_cons.mpr ⟨zs_iload dL_law_62, ?_⟩
  refine List.forall_mem_cons.mpr ⟨zs_aload_n dL_law_64 rfl, ?_⟩
  refine List.forall_mem_cons.mpr ⟨zs_iload dL_law_65, ?_⟩
  refine List.forall_mem_cons.mpr ⟨zs_iconst dL_law_67 (by decide), ?_⟩
  refine List.forall_mem_cons.mpr ⟨zs_callV (ci := 8) (rm := zR_X8_object) (n := 2) rfl (zMeets_ex (zES_ex sc) zM_X8_object) gL_law_X8_object rfl (by decide +kernel) ⟨by decide, by decide⟩ dL_law_68, ?_⟩
  refine List.forall_mem_cons.mpr ⟨zs_iast dL_law_71, ?_⟩
  refine List.forall_mem_cons.mpr ⟨zs_aload_n dL_law_72 rfl, ?_⟩
  refine List.forall_mem_cons.mpr ⟨zs_iload dL_law_73, ?_⟩
  refine List.forall_mem_cons.mpr ⟨zs_iconst dL_law_75 (by decide), ?_⟩
  refine List.forall_mem_cons.mpr ⟨zs_callV (ci := 8) (rm := zR_X8_object) (n := 2) rfl (zMeets_ex (zES_ex sc) zM_X8_object) gL_law_X8_object rfl (by decide +kernel) ⟨by decide, by decide⟩ dL_law_76, ?_⟩
  refine List.forall_mem_cons.mpr ⟨zs_iconst dL_law_79 (by decide), ?_⟩
  refine List.forall_mem_cons.mpr ⟨zs_icne dL_law_80 (by decide), ?_⟩
  refine List.forall_mem_cons.mpr ⟨zs_iconst dL_law_83 (by decide), ?_⟩
  refine List.forall_mem_cons.mpr ⟨zs_goto dL_law_84 (by decide), ?_⟩
  refine List.forall_mem_cons.mpr ⟨zs_iconst dL_law_87 (by decide), ?_⟩
  refine List.forall_mem_cons.mpr ⟨zs_istore dL_law_88, ?_⟩
  refine List.forall_mem_cons.mpr ⟨zs_iload dL_law_90, ?_⟩
  refine List.forall_mem_cons.mpr ⟨zs_iload dL_law_92, ?_⟩
  refine List.forall_mem_cons.mpr ⟨zs_ifeq dL_law_94 (by decide), ?_⟩
  refine List.forall_mem_cons.mpr ⟨zs_iconst dL_law_97 (by decide), ?_⟩
  refine List.forall_mem_cons.mpr ⟨zs_goto dL_law_98 (by decide), ?_⟩
  refine List.forall_mem_cons.mpr ⟨zs_iconst dL_law_101 (by decide), ?_⟩
  refine List.forall_mem_cons.mpr ⟨zs_iadd dL_law_102, ?_⟩
  refine List.forall_mem_cons.mpr ⟨zs_istore dL_law_103, ?_⟩
  refine List.forall_mem_cons.mpr ⟨zs_aload_n dL_law_105 rfl, ?_⟩
  refine List.forall_mem_cons.mpr ⟨zs_iload dL_law_106, ?_⟩
  refine List.forall_mem_cons.mpr ⟨zs_callV (ci := 8) (rm := zR_X8_places) (n := 1) rfl (zMeets_ex (zES_ex sc) zM_X8_places) gL_law_X8_places rfl (by decide +kernel) ⟨by decide, by decide⟩ dL_law_108, ?_⟩
  refine List.forall_mem_cons.mpr ⟨zs_iload dL_law_111, ?_⟩
  refine List.forall_mem_cons.mpr ⟨zs_ifeq dL_law_113 (by decide), ?_⟩
  refine List.forall_mem_cons.mpr ⟨zs_iconst dL_law_116 (by decide), ?_⟩
  refine List.forall_mem_cons.mpr ⟨zs_goto dL_law_117 (by decide), ?_⟩
  refine List.forall_mem_cons.mpr ⟨zs_aload dL_law_120, ?_⟩
  refine List.forall_mem_cons.mpr ⟨zs_iload dL_law_122, ?_⟩
  refine List.forall_mem_cons.mpr ⟨zs_iald dL_law_124, ?_⟩
  refine List.forall_mem_cons.mpr ⟨zs_ifne dL_law_125 (by decide), ?_⟩
  refine List.forall_mem_cons.mpr ⟨zs_iconst dL_law_128 (by decide), ?_⟩
  refine List.forall_mem_cons.mpr ⟨zs_goto dL_law_129 (by decide), ?_⟩
  refine List.forall_mem_cons.mpr ⟨zs_aload dL_law_132, ?_⟩
  refine List.forall_mem_cons.mpr ⟨zs_iload dL_law_134, ?_⟩
  refine List.forall_mem_cons.mpr ⟨zs_iald dL_law_136, ?_⟩
  refine List.forall_mem_cons.mpr ⟨zs_iconst dL_law_137 (by decide), ?_⟩
  refine List.forall_mem_cons.mpr ⟨zs_icne dL_law_138 (by decide), ?_⟩
  refine List.forall_mem_cons.mpr ⟨zs_iload_n dL_law_141 rfl, ?_⟩
  refine List.forall_mem_cons.mpr ⟨zs_goto dL_law_142 (by decide), ?_⟩
  refine List.forall_mem_cons.mpr ⟨zs_iload_n dL_law_145 rfl, ?_⟩
  refine List.forall_mem_cons.mpr ⟨zs_iconst dL_law_146 (by decide), ?_⟩
  refine List.forall_mem_cons.mpr ⟨zs_iadd dL_law_147, ?_⟩
  refine List.forall_mem_cons.mpr ⟨zs_iceq dL_law_148 (by decide), ?_⟩
  refine List.forall_mem_cons.mpr ⟨zs_iconst dL_law_151 (by decide), ?_⟩
  refine List.forall_mem_cons.mpr ⟨zs_reti (ty := .boolean) rfl (fun x h => (znz x h).1) dL_law_152, ?_⟩
  refine List.forall_mem_cons.mpr ⟨zs_aload_n dL_law_153 rfl, ?_⟩
  refine List.forall_mem_cons.mpr ⟨zs_iload dL_law_154, ?_⟩
  refine List.forall_mem_cons.mpr ⟨zs_iconst dL_law_156 (by decide), ?_⟩
  refine List.forall_mem_cons.mpr ⟨zs_callV (ci := 8) (rm := zR_X8_object) (n := 2) rfl (zMeets_ex (zES_ex sc) zM_X8_object) gL_law_X8_object rfl (by decide +kernel) ⟨by decide, by decide⟩ dL_law_157, ?_⟩
  refine List.forall_mem_cons.mpr ⟨zs_istore dL_law_160, ?_⟩
  refine List.forall_mem_cons.mpr ⟨zs_iconst dL_law_162 (by decide), ?_⟩
  refine List.forall_mem_cons.mpr ⟨zs_istore dL_law_163, ?_⟩
  refine List.forall_mem_cons.mpr ⟨zs_iload dL_law_165, ?_⟩
  refine List.forall_mem_cons.mpr ⟨zs_iconst dL_law_167 (by decide), ?_⟩
  refine List.forall_mem_cons.mpr ⟨zs_icge dL_law_168 (by decide), ?_⟩
  refine List.forall_mem_cons.mpr ⟨zs_aload_n dL_law_171 rfl, ?_⟩
  refine List.forall_mem_cons.mpr ⟨zs_iload dL_law_172, ?_⟩
  refine List.forall_mem_cons.mpr ⟨zs_iload dL_law_174, ?_⟩
  refine List.forall_mem_cons.mpr ⟨zs_callV (ci := 8) (rm := zR_X8_object) (n := 2) rfl (zMeets_ex (zES_ex sc) zM_X8_object) gL_law_X8_object rfl (by decide +kernel) ⟨by decide, by decide⟩ dL_law_176, ?_⟩
  refine List.forall_mem_cons.mpr ⟨zs_istore dL_law_179, ?_⟩
  refine List.forall_mem_cons.mpr ⟨zs_iload dL_law_181, ?_⟩
  refine List.forall_mem_cons.mpr ⟨zs_iload dL_law_183, ?_⟩
  refine List.forall_mem_cons.mpr ⟨zs_icge dL_law_185 (by decide), ?_⟩
  refine List.forall_mem_cons.mpr ⟨zs_iload dL_law_188, ?_⟩
  refine List.forall_mem_cons.mpr ⟨zs_iflt dL_law_190 (by decide), ?_⟩
  refine List.forall_mem_cons.mpr ⟨zs_aload_n dL_law_193 rfl, ?_⟩
  refine List.forall_mem_cons.mpr ⟨zs_iload dL_law_194, ?_⟩
  refine List.forall_mem_cons.mpr ⟨zs_iconst dL_law_196 (by decide), ?_⟩
  refine List.forall_mem_cons.mpr ⟨zs_callV (ci := 8) (rm := zR_X8_object) (n := 2) rfl (zMeets_ex (zES_ex sc) zM_X8_object) gL_law_X8_object rfl (by decide +kernel) ⟨by decide, by decide⟩ dL_law_197, ?_⟩
  refine List.forall_mem_cons.mpr ⟨zs_iconst dL_law_200 (by decide), ?_⟩
  refine List.forall_mem_cons.mpr ⟨zs_icne dL_law_201 (by decide), ?_⟩
  refine List.forall_mem_cons.mpr ⟨zs_iload dL_law_204, ?_⟩
  refine List.forall_mem_cons.mpr ⟨zs_ifne dL_law_206 (by decide), ?_⟩
  refine List.forall_mem_cons.mpr ⟨zs_iconst dL_law_209 (by decide), ?_⟩
  refine List.forall_mem_cons.mpr ⟨zs_reti (ty := .boolean) rfl (fun x h => (znz x h).1) dL_law_210, ?_⟩
  refine List.forall_mem_cons.mpr ⟨zs_iinc dL_law_211 (by decide), ?_⟩
  refine List.forall_mem_cons.mpr ⟨zs_goto dL_law_214 (by decide), ?_⟩
  refine List.forall_mem_cons.mpr ⟨zs_iload dL_law_217, ?_⟩
  refine List.forall_mem_cons.mpr ⟨zs_ifne dL_law_219 (by decide), ?_⟩
  refine List.forall_mem_cons.mpr ⟨zs_iload dL_law_222, ?_⟩
  refine List.forall_mem_cons.mpr ⟨zs_iconst dL_law_224 (by decide), ?_⟩
  refine List.forall_mem_cons.mpr ⟨zs_iclt dL_law_225 (by decide), ?_⟩
  refine List.forall_mem_cons.mpr ⟨zs_iload dL_law_228, ?_⟩
  refine List.forall_mem_cons.mpr ⟨zs_bipush dL_law_230 (by decide), ?_⟩
  refine List.forall_mem_cons.mpr ⟨zs_icle dL_law_232 (by decide), ?_⟩
  refine List.forall_mem_cons.mpr ⟨zs_goto dL_law_235 (by decide), ?_⟩
  refine List.forall_mem_cons.mpr ⟨zs_aload_n dL_law_238 rfl, ?_⟩
  refine List.forall_mem_cons.mpr ⟨zs_iload_n dL_law_239 rfl, ?_⟩
  refine List.forall_mem_cons.mpr ⟨zs_aload_n dL_law_240 rfl, ?_⟩
  refine List.forall_mem_cons.mpr ⟨zs_iload dL_law_241, ?_⟩
  refine List.forall_mem_cons.mpr ⟨zs_iconst dL_law_243 (by decide), ?_⟩
  refine List.forall_mem_cons.mpr ⟨zs_callV (ci := 8) (rm := zR_X8_object) (n := 2) rfl (zMeets_ex (zES_ex sc) zM_X8_object) gL_law_X8_object rfl (by decide +kernel) ⟨by decide, by decide⟩ dL_law_244, ?_⟩
  refine List.forall_mem_cons.mpr ⟨zs_aload_n dL_law_247 rfl, ?_⟩
  refine List.forall_mem_cons.mpr ⟨zs_iload dL_law_248, ?_⟩
  refine List.forall_mem_cons.mpr ⟨zs_iconst dL_law_250 (by decide), ?_⟩
  refine List.forall_mem_cons.mpr ⟨zs_callV (ci := 8) (rm := zR_X8_number) (n := 2) rfl (zMeets_ex (zES_ex sc) zM_X8_number) gL_law_X8_number rfl (by decide +kernel) ⟨by decide, by decide⟩ dL_law_251, ?_⟩
  refine List.forall_mem_cons.mpr ⟨zs_aload_n dL_law_254 rfl, ?_⟩
  refine List.forall_mem_cons.mpr ⟨zs_iload dL_law_255, ?_⟩
  refine List.forall_mem_cons.mpr ⟨zs_iconst dL_law_257 (by decide), ?_⟩
  refine List.forall_mem_cons.mpr ⟨zs_callV (ci := 8) (rm := zR_X8_number) (n := 2) rfl (zMeets_ex (zES_ex sc) zM_X8_number) gL_law_X8_number rfl (by decide +kernel) ⟨by decide, by decide⟩ dL_law_258, ?_⟩
  refine List.forall_mem_cons.mpr ⟨zs_callS (rm := zR_L_has) (n := 5) (zM_L_has sc) gL_law_L_has rfl (by decide +kernel) ⟨by decide, by decide⟩ dL_law_261, ?_⟩
  refine List.forall_mem_cons.mpr ⟨zs_ifeq dL_law_264 (by decide), ?_⟩
  refine List.forall_mem_cons.mpr ⟨zs_aload_n dL_law_267 rfl, ?_⟩
  refine List.forall_mem_cons.mpr ⟨zs_iload_n dL_law_268 rfl, ?_⟩
  refine List.forall_mem_cons.mpr ⟨zs_aload_n dL_law_269 rfl, ?_⟩
  refine List.forall_mem_cons.mpr ⟨zs_iload dL_law_270, ?_⟩
  refine List.forall_mem_cons.mpr ⟨zs_iconst dL_law_272 (by decide), ?_⟩
  refine List.forall_mem_cons.mpr ⟨zs_callV (ci := 8) (rm := zR_X8_object) (n := 2) rfl (zMeets_ex (zES_ex sc) zM_X8_object) gL_law_X8_object rfl (by decide +kernel) ⟨by decide, by decide⟩ dL_law_273, ?_⟩
  refine List.forall_mem_cons.mpr ⟨zs_aload_n dL_law_276 rfl, ?_⟩
  refine List.forall_mem_cons.mpr ⟨zs_iload dL_law_277, ?_⟩
  refine List.forall_mem_cons.mpr ⟨zs_iconst dL_law_279 (by decide), ?_⟩
  refine List.forall_mem_cons.mpr ⟨zs_callV (ci := 8) (rm := zR_X8_number) (n := 2) rfl (zMeets_ex (zES_ex sc) zM_X8_number) gL_law_X8_number rfl (by decide +kernel) ⟨by decide, by decide⟩ dL_law_280, ?_⟩
  refine List.forall_mem_cons.mpr ⟨zs_aload_n dL_law_283 rfl, ?_⟩
  refine List.forall_mem_cons.mpr ⟨zs_iload dL_law_284, ?_⟩
  refine List.forall_mem_cons.mpr ⟨zs_iconst dL_law_286 (by decide), ?_⟩
  refine List.forall_mem_cons.mpr ⟨zs_callV (ci := 8) (rm := zR_X8_number) (n := 2) rfl (zMeets_ex (zES_ex sc) zM_X8_number) gL_law_X8_number rfl (by decide +kernel) ⟨by decide, by decide⟩ dL_law_287, ?_⟩
  refine List.forall_mem_cons.mpr ⟨zs_callS (rm := zR_L_has) (n := 5) (zM_L_has sc) gL_law_L_has rfl (by decide +kernel) ⟨by decide, by decide⟩ dL_law_290, ?_⟩
  refine List.forall_mem_cons.mpr ⟨zs_ifne dL_law_293 (by decide), ?_⟩
  refine List.forall_mem_cons.mpr ⟨zs_iconst dL_law_296 (by decide), ?_⟩
  refine List.forall_mem_cons.mpr ⟨zs_reti (ty := .boolean) rfl (fun x h => (znz x h).1) dL_law_297, ?_⟩
  refine List.forall_mem_cons.mpr ⟨zs_iinc dL_law_298 (by decide), ?_⟩
  refine List.forall_mem_cons.mpr ⟨zs_goto dL_law_301 (by decide), ?_⟩
  refine List.forall_mem_cons.mpr ⟨zs_aload_n dL_law_304 rfl, ?_⟩
  refine List.forall_mem_cons.mpr ⟨zs_iconst dL_law_305 (by decide), ?_⟩
  refine List.forall_mem_cons.mpr ⟨zs_callV (ci := 8) (rm := zR_X8_count) (n := 1) rfl (zMeets_ex (zES_ex sc) zM_X8_count) gL_law_X8_count rfl (by decide +kernel) ⟨by decide, by decide⟩ dL_law_306, ?_⟩
  refine List.forall_mem_cons.mpr ⟨zs_iload dL_law_309, ?_⟩
  refine List.forall_mem_cons.mpr ⟨zs_iceq dL_law_311 (by decide), ?_⟩
  refine List.forall_mem_cons.mpr ⟨zs_iconst dL_law_314 (by decide), ?_⟩
  refine List.forall_mem_cons.mpr ⟨zs_reti (ty := .boolean) rfl (fun x h => (znz x h).1) dL_law_315, ?_⟩
  refine List.forall_mem_cons.mpr ⟨zs_aload_n dL_law_316 rfl, ?_⟩
  refine List.forall_mem_cons.mpr ⟨zs_callV (ci := 8) (rm := zR_X8_digest) (n := 0) rfl (zMeets_ex (zES_ex sc) zM_X8_digest) gL_law_X8_digest rfl (by decide +kernel) ⟨by decide, by decide⟩ dL_law_317, ?_⟩
  refine List.forall_mem_cons.mpr ⟨zs_lstore dL_law_320, ?_⟩
  refine List.forall_mem_cons.mpr ⟨zs_aload dL_law_322, ?_⟩
  refine List.forall_mem_cons.mpr ⟨zs_iload_n dL_law_324 rfl, ?_⟩
  refine List.forall_mem_cons.mpr ⟨zs_iconst dL_law_325 (by decide), ?_⟩
  refine List.forall_mem_cons.mpr ⟨zs_aload_n dL_law_326 rfl, ?_⟩
  refine List.forall_mem_cons.mpr ⟨zs_iconst dL_law_327 (by decide), ?_⟩
  refine List.forall_mem_cons.mpr ⟨zs_callS (rm := zR_L_cell) (n := 2) (zM_L_cell sc) gL_law_L_cell rfl (by decide +kernel) ⟨by decide, by decide⟩ dL_law_328, ?_⟩
  refine List.forall_mem_cons.mpr ⟨zs_callS (rm := zR_L_pick) (n := 4) (zM_L_pick sc) gL_law_L_pick rfl (by decide +kernel) ⟨by decide, by decide⟩ dL_law_331, ?_⟩
  refine List.forall_mem_cons.mpr ⟨zs_istore dL_law_334, ?_⟩
  refine List.forall_mem_cons.mpr ⟨zs_iconst dL_law_336 (by decide), ?_⟩
  refine List.forall_mem_cons.mpr ⟨zs_istore dL_law_337, ?_⟩
  refine List.forall_mem_cons.mpr ⟨zs_iload dL_law_339, ?_⟩
  refine List.forall_mem_cons.mpr ⟨zs_iload_n dL_law_341 rfl, ?_⟩
  refine List.forall_mem_cons.mpr ⟨zs_icge dL_law_342 (by decide), ?_⟩
  refine List.forall_mem_cons.mpr ⟨zs_aload_n dL_law_345 rfl, ?_⟩
  refine List.forall_mem_cons.mpr ⟨zs_iload dL_law_346, ?_⟩
  refine List.forall_mem_cons.mpr ⟨zs_iconst dL_law_348 (by decide), ?_⟩
  refine List.forall_mem_cons.mpr ⟨zs_callV (ci := 8) (rm := zR_X8_object) (n := 2) rfl (zMeets_ex (zES_ex sc) zM_X8_object) gL_law_X8_object rfl (by decide +kernel) ⟨by decide, by decide⟩ dL_law_349, ?_⟩
  refine List.forall_mem_cons.mpr ⟨zs_iconst dL_law_352 (by decide), ?_⟩
  refine List.forall_mem_cons.mpr ⟨zs_iceq dL_law_353 (by decide), ?_⟩
  refine List.forall_mem_cons.mpr ⟨zs_goto dL_law_356 (by decide), ?_⟩
  refine List.forall_mem_cons.mpr ⟨zs_aload_n dL_law_359 rfl, ?_⟩
  refine List.forall_mem_cons.mpr ⟨zs_iload dL_law_360, ?_⟩
  refine List.forall_mem_cons.mpr ⟨zs_iload dL_law_362, ?_⟩
  refine List.forall_mem_cons.mpr ⟨zs_iconst dL_law_364 (by decide), ?_⟩
  refine List.forall_mem_cons.mpr ⟨zs_callV (ci := 8) (rm := zR_X8_locus) (n := 3) rfl (zMeets_ex (zES_ex sc) zM_X8_locus) gL_law_X8_locus rfl (by decide +kernel) ⟨by decide, by decide⟩ dL_law_365, ?_⟩
  refine List.forall_mem_cons.mpr ⟨zs_istore dL_law_368, ?_⟩
  refine List.forall_mem_cons.mpr ⟨zs_aload_n dL_law_370 rfl, ?_⟩
  refine List.forall_mem_cons.mpr ⟨zs_iload dL_law_371, ?_⟩
  refine List.forall_mem_cons.mpr ⟨zs_iload dL_law_373, ?_⟩
  refine List.forall_mem_cons.mpr ⟨zs_iconst dL_law_375 (by decide), ?_⟩
  refine List.forall_mem_cons.mpr ⟨zs_callV (ci := 8) (rm := zR_X8_locus) (n := 3) rfl (zMeets_ex (zES_ex sc) zM_X8_locus) gL_law_X8_locus rfl (by decide +kernel) ⟨by decide, by decide⟩ dL_law_376, ?_⟩
  refine List.forall_mem_cons.mpr ⟨zs_istore dL_law_379, ?_⟩
  refine List.forall_mem_cons.mpr ⟨zs_aload_n dL_law_381 rfl, ?_⟩
  refine List.forall_mem_cons.mpr ⟨zs_iload dL_law_382, ?_⟩
  refine List.forall_mem_cons.mpr ⟨zs_iload dL_law_384, ?_⟩
  refine List.forall_mem_cons.mpr ⟨zs_iconst dL_law_386 (by decide), ?_⟩
  refine List.forall_mem_cons.mpr ⟨zs_callV (ci := 8) (rm := zR_X8_locus) (n := 3) rfl (zMeets_ex (zES_ex sc) zM_X8_locus) gL_law_X8_locus rfl (by decide +kernel) ⟨by decide, by decide⟩ dL_law_387, ?_⟩
  refine List.forall_mem_cons.mpr ⟨zs_istore dL_law_390, ?_⟩
  refine List.forall_mem_cons.mpr ⟨zs_iload dL_law_392, ?_⟩
  refine List.forall_mem_cons.mpr ⟨zs_iload dL_law_394, ?_⟩
  refine List.forall_mem_cons.mpr ⟨zs_iadd dL_law_396, ?_⟩
  refine List.forall_mem_cons.mpr ⟨zs_iload_n dL_law_397 rfl, ?_⟩
  refine List.forall_mem_cons.mpr ⟨zs_icgt dL_law_398 (by decide), ?_⟩
  refine List.forall_mem_cons.mpr ⟨zs_iload dL_law_401, ?_⟩
  refine List.forall_mem_cons.mpr ⟨zs_ifne dL_law_403 (by decide), ?_⟩
  refine List.forall_mem_cons.mpr ⟨zs_iconst dL_law_406 (by decide), ?_⟩
  refine List.forall_mem_cons.mpr ⟨zs_goto dL_law_407 (by decide), ?_⟩
  refine List.forall_mem_cons.mpr ⟨zs_iconst dL_law_410 (by decide), ?_⟩
  refine List.forall_mem_cons.mpr ⟨zs_iload dL_law_411, ?_⟩
  refine List.forall_mem_cons.mpr ⟨zs_iload_n dL_law_413 rfl, ?_⟩
  refine List.forall_mem_cons.mpr ⟨zs_icne dL_law_414 (by decide), ?_⟩
  refine List.forall_mem_cons.mpr ⟨zs_iconst dL_law_417 (by decide), ?_⟩
  refine List.forall_mem_cons.mpr ⟨zs_goto dL_law_418 (by decide), ?_⟩
  refine List.forall_mem_cons.mpr ⟨zs_iconst dL_law_421 (by decide), ?_⟩
  refine List.forall_mem_cons.mpr ⟨zs_icne dL_law_422 (by decide), ?_⟩
  refine List.forall_mem_cons.mpr ⟨zs_iload dL_law_425, ?_⟩
  refine List.forall_mem_cons.mpr ⟨zs_iconst dL_law_427 (by decide), ?_⟩
  refine List.forall_mem_cons.mpr ⟨zs_icge dL_law_428 (by decide), ?_⟩
  refine List.forall_mem_cons.mpr ⟨zs_iconst dL_law_431 (by decide), ?_⟩
  refine List.forall_mem_cons.mpr ⟨zs_goto dL_law_432 (by decide), ?_⟩
  refine List.forall_mem_cons.mpr ⟨zs_iconst dL_law_435 (by decide), ?_⟩
  refine List.forall_mem_cons.mpr ⟨zs_iload dL_law_436, ?_⟩
  refine List.forall_mem_cons.mpr ⟨zs_ifne dL_law_438 (by decide), ?_⟩
  refine List.forall_mem_cons.mpr ⟨zs_iconst dL_law_441 (by decide), ?_⟩
  refine List.forall_mem_cons.mpr ⟨zs_goto dL_law_442 (by decide), ?_⟩
  refine List.forall_mem_cons.mpr ⟨zs_iconst dL_law_445 (by decide), ?_⟩
  refine List.forall_mem_cons.mpr ⟨zs_icne dL_law_446 (by decide), ?_⟩
  refine List.forall_mem_cons.mpr ⟨zs_iload dL_law_449, ?_⟩
  refine List.forall_mem_cons.mpr ⟨zs_iconst dL_law_451 (by decide), ?_⟩
  refine List.forall_mem_cons.mpr ⟨zs_icne dL_law_452 (by decide), ?_⟩
  refine List.forall_mem_cons.mpr ⟨zs_iload dL_law_455, ?_⟩
  refine List.forall_mem_cons.mpr ⟨zs_iload_n dL_law_457 rfl, ?_⟩
  refine List.forall_mem_cons.mpr ⟨zs_iconst dL_law_458 (by decide), ?_⟩
  refine List.forall_mem_cons.mpr ⟨zs_iadd dL_law_459, ?_⟩
  refine List.forall_mem_cons.mpr ⟨zs_icgt dL_law_460 (by decide), ?_⟩
  refine List.forall_mem_cons.mpr ⟨zs_aload_n dL_law_463 rfl, ?_⟩
  refine List.forall_mem_cons.mpr ⟨zs_iload dL_law_464, ?_⟩
  refine List.forall_mem_cons.mpr ⟨zs_iload dL_law_466, ?_⟩
  refine List.forall_mem_cons.mpr ⟨zs_iconst dL_law_468 (by decide), ?_⟩
  refine List.forall_mem_cons.mpr ⟨zs_callV (ci := 8) (rm := zR_X8_locus) (n := 3) rfl (zMeets_ex (zES_ex sc) zM_X8_locus) gL_law_X8_locus rfl (by decide +kernel) ⟨by decide, by decide⟩ dL_law_469, ?_⟩
  refine List.forall_mem_cons.mpr ⟨zs_iflt dL_law_472 (by decide), ?_⟩
  refine List.forall_mem_cons.mpr ⟨zs_aload_n dL_law_475 rfl, ?_⟩
  refine List.forall_mem_cons.mpr ⟨zs_callV (ci := 8) (rm := zR_X8_digest) (n := 0) rfl (zMeets_ex (zES_ex sc) zM_X8_digest) gL_law_X8_digest rfl (by decide +kernel) ⟨by decide, by decide⟩ dL_law_476, ?_⟩
  refine List.forall_mem_cons.mpr ⟨zs_lload dL_law_479, ?_⟩
  refine List.forall_mem_cons.mpr ⟨zs_lcmp dL_law_481, ?_⟩
  refine List.forall_mem_cons.mpr ⟨zs_ifeq dL_law_482 (by decide), ?_⟩
  refine List.forall_mem_cons.mpr ⟨zs_iconst dL_law_485 (by decide), ?_⟩
  refine List.forall_mem_cons.mpr ⟨zs_reti (ty := .boolean) rfl (fun x h => (znz x h).1) dL_law_486, ?_⟩
  refine List.forall_mem_cons.mpr ⟨zs_iinc dL_law_487 (by decide), ?_⟩
  refine List.forall_mem_cons.mpr ⟨zs_goto dL_law_490 (by decide), ?_⟩
  refine List.forall_mem_cons.mpr ⟨zs_aload dL_law_493, ?_⟩
  refine List.forall_mem_cons.mpr ⟨zs_iload_n dL_law_495 rfl, ?_⟩
  refine List.forall_mem_cons.mpr ⟨zs_iconst dL_law_496 (by decide), ?_⟩
  refine List.forall_mem_cons.mpr ⟨zs_aload_n dL_law_497 rfl, ?_⟩
  refine List.forall_mem_cons.mpr ⟨zs_iconst dL_law_498 (by decide), ?_⟩
  refine List.forall_mem_cons.mpr ⟨zs_callS (rm := zR_L_cell) (n := 2) (zM_L_cell sc) gL_law_L_cell rfl (by decide +kernel) ⟨by decide, by decide⟩ dL_law_499, ?_⟩
  refine List.forall_mem_cons.mpr ⟨zs_callS (rm := zR_L_pick) (n := 4) (zM_L_pick sc) gL_law_L_pick rfl (by decide +kernel) ⟨by decide, by decide⟩ dL_law_502, ?_⟩
  refine List.forall_mem_cons.mpr ⟨zs_istore dL_law_505, ?_⟩
  refine List.forall_mem_cons.mpr ⟨zs_aload dL_law_507, ?_⟩
  refine List.forall_mem_cons.mpr ⟨zs_iload_n dL_law_509 rfl, ?_⟩
  refine List.forall_mem_cons.mpr ⟨zs_iconst dL_law_510 (by decide), ?_⟩
  refine List.forall_mem_cons.mpr ⟨zs_aload_n dL_law_511 rfl, ?_⟩
  refine List.forall_mem_cons.mpr ⟨zs_iconst dL_law_512 (by decide), ?_⟩
  refine List.forall_mem_cons.mpr ⟨zs_callS (rm := zR_L_cell) (n := 2) (zM_L_cell sc) gL_law_L_cell rfl (by decide +kernel) ⟨by decide, by decide⟩ dL_law_513, ?_⟩
  refine List.forall_mem_cons.mpr ⟨zs_callS (rm := zR_L_pick) (n := 4) (zM_L_pick sc) gL_law_L_pick rfl (by decide +kernel) ⟨by decide, by decide⟩ dL_law_516, ?_⟩
  refine List.forall_mem_cons.mpr ⟨zs_istore dL_law_519, ?_⟩
  refine List.forall_mem_cons.mpr ⟨zs_aload_n dL_law_521 rfl, ?_⟩
  refine List.forall_mem_cons.mpr ⟨zs_bipush dL_law_522 (by decide), ?_⟩
  refine List.forall_mem_cons.mpr ⟨zs_iload dL_law_524, ?_⟩
  refine List.forall_mem_cons.mpr ⟨zs_iload dL_law_526, ?_⟩
  refine List.forall_mem_cons.mpr ⟨zs_iconst dL_law_528 (by decide), ?_⟩
  refine List.forall_mem_cons.mpr ⟨zs_iconst dL_law_529 (by decide), ?_⟩
  refine List.forall_mem_cons.mpr ⟨zs_callV (ci := 8) (rm := zR_X8_claim) (n := 5) rfl (zMeets_ex (zES_ex sc) zM_X8_claim) gL_law_X8_claim rfl (by decide +kernel) ⟨by decide, by decide⟩ dL_law_530, ?_⟩
  refine List.forall_mem_cons.mpr ⟨zs_ifne dL_law_533 (by decide), ?_⟩
  refine List.forall_mem_cons.mpr ⟨zs_iload dL_law_536, ?_⟩
  refine List.forall_mem_cons.mpr ⟨zs_iflt dL_law_538 (by decide), ?_⟩
  refine List.forall_mem_cons.mpr ⟨zs_aload_n dL_law_541 rfl, ?_⟩
  refine List.forall_mem_cons.mpr ⟨zs_iconst dL_law_542 (by decide), ?_⟩
  refine List.forall_mem_cons.mpr ⟨zs_iload dL_law_543, ?_⟩
  refine List.forall_mem_cons.mpr ⟨zs_iload dL_law_545, ?_⟩
  refine List.forall_mem_cons.mpr ⟨zs_iconst dL_law_547 (by decide), ?_⟩
  refine List.forall_mem_cons.mpr ⟨zs_iconst dL_law_548 (by decide), ?_⟩
  refine List.forall_mem_cons.mpr ⟨zs_callV (ci := 8) (rm := zR_X8_claim) (n := 5) rfl (zMeets_ex (zES_ex sc) zM_X8_claim) gL_law_X8_claim rfl (by decide +kernel) ⟨by decide, by decide⟩ dL_law_549, ?_⟩
  refine List.forall_mem_cons.mpr ⟨zs_iconst dL_law_552 (by decide), ?_⟩
  refine List.forall_mem_cons.mpr ⟨zs_iceq dL_law_553 (by decide), ?_⟩
  refine List.forall_mem_cons.mpr ⟨zs_iconst dL_law_556 (by decide), ?_⟩
  refine List.forall_mem_cons.mpr ⟨zs_reti (ty := .boolean) rfl (fun x h => (znz x h).1) dL_law_557, ?_⟩
  refine List.forall_mem_cons.mpr ⟨zs_aload_n dL_law_558 rfl, ?_⟩
  refine List.forall_mem_cons.mpr ⟨zs_callV (ci := 8) (rm := zR_X8_digest) (n := 0) rfl (zMeets_ex (zES_ex sc) zM_X8_digest) gL_law_X8_digest rfl (by decide +kernel) ⟨by decide, by decide⟩ dL_law_559, ?_⟩
  refine List.forall_mem_cons.mpr ⟨zs_lstore dL_law_562, ?_⟩
  refine List.forall_mem_cons.mpr ⟨zs_iconst dL_law_564 (by decide), ?_⟩
  refine List.forall_mem_cons.mpr ⟨zs_istore dL_law_565, ?_⟩
  refine List.forall_mem_cons.mpr ⟨zs_iload dL_law_567, ?_⟩
  refine List.forall_mem_cons.mpr ⟨zs_aload_n dL_law_569 rfl, ?_⟩
  refine List.forall_mem_cons.mpr ⟨zs_iconst dL_law_570 (by decide), ?_⟩
  refine List.forall_mem_cons.mpr ⟨zs_callV (ci := 8) (rm := zR_X8_count) (n := 1) rfl (zMeets_ex (zES_ex sc) zM_X8_count) gL_law_X8_count rfl (by decide +kernel) ⟨by decide, by decide⟩ dL_law_571, ?_⟩
  refine List.forall_mem_cons.mpr ⟨zs_icge dL_law_574 (by decide), ?_⟩
  refine List.forall_mem_cons.mpr ⟨zs_aload_n dL_law_577 rfl, ?_⟩
  refine List.forall_mem_cons.mpr ⟨zs_iload dL_law_578, ?_⟩
  refine List.forall_mem_cons.mpr ⟨zs_iconst dL_law_580 (by decide), ?_⟩
  refine List.forall_mem_cons.mpr ⟨zs_iconst dL_law_581 (by decide), ?_⟩
  refine List.forall_mem_cons.mpr ⟨zs_callV (ci := 8) (rm := zR_X8_everywhere) (n := 3) rfl (zMeets_ex (zES_ex sc) zM_X8_everywhere) gL_law_X8_everywhere rfl (by decide +kernel) ⟨by decide, by decide⟩ dL_law_582, ?_⟩
  refine List.forall_mem_cons.mpr ⟨zs_istore dL_law_585, ?_⟩
  refine List.forall_mem_cons.mpr ⟨zs_aload_n dL_law_587 rfl, ?_⟩
  refine List.forall_mem_cons.mpr ⟨zs_iload dL_law_588, ?_⟩
  refine List.forall_mem_cons.mpr ⟨zs_iconst dL_law_590 (by decide), ?_⟩
  refine List.forall_mem_cons.mpr ⟨zs_iconst dL_law_591 (by decide), ?_⟩
  refine List.forall_mem_cons.mpr ⟨zs_callV (ci := 8) (rm := zR_X8_everywhere) (n := 3) rfl (zMeets_ex (zES_ex sc) zM_X8_everywhere) gL_law_X8_everywhere rfl (by decide +kernel) ⟨by decide, by decide⟩ dL_law_592, ?_⟩
  refine List.forall_mem_cons.mpr ⟨zs_istore dL_law_595, ?_⟩
  refine List.forall_mem_cons.mpr ⟨zs_aload_n dL_law_597 rfl, ?_⟩
  refine List.forall_mem_cons.mpr ⟨zs_iload dL_law_598, ?_⟩
  refine List.forall_mem_cons.mpr ⟨zs_iconst dL_law_600 (by decide), ?_⟩
  refine List.forall_mem_cons.mpr ⟨zs_iconst dL_law_601 (by decide), ?_⟩
  refine List.forall_mem_cons.mpr ⟨zs_callV (ci := 8) (rm := zR_X8_everywhere) (n := 3) rfl (zMeets_ex (zES_ex sc) zM_X8_everywhere) gL_law_X8_everywhere rfl (by decide +kernel) ⟨by decide, by decide⟩ dL_law_602, ?_⟩
  refine List.forall_mem_cons.mpr ⟨zs_istore dL_law_605, ?_⟩
  refine List.forall_mem_cons.mpr ⟨zs_iload dL_law_607, ?_⟩
  refine List.forall_mem_cons.mpr ⟨zs_iload dL_law_609, ?_⟩
  refine List.forall_mem_cons.mpr ⟨zs_iadd dL_law_611, ?_⟩
  refine List.forall_mem_cons.mpr ⟨zs_iload_n dL_law_612 rfl, ?_⟩
  refine List.forall_mem_cons.mpr ⟨zs_iload_n dL_law_613 rfl, ?_⟩
  refine List.forall_mem_cons.mpr ⟨zs_imul dL_law_614, ?_⟩
  refine List.forall_mem_cons.mpr ⟨zs_icgt dL_law_615 (by decide), ?_⟩
  refine List.forall_mem_cons.mpr ⟨zs_iload dL_law_618, ?_⟩
  refine List.forall_mem_cons.mpr ⟨zs_ifne dL_law_620 (by decide), ?_⟩
  refine List.forall_mem_cons.mpr ⟨zs_iconst dL_law_623 (by decide), ?_⟩
  refine List.forall_mem_cons.mpr ⟨zs_goto dL_law_624 (by decide), ?_⟩
  refine List.forall_mem_cons.mpr ⟨zs_iconst dL_law_627 (by decide), ?_⟩
  refine List.forall_mem_cons.mpr ⟨zs_iload dL_law_628, ?_⟩
  refine List.forall_mem_cons.mpr ⟨zs_ifge dL_law_630 (by decide), ?_⟩
  refine List.forall_mem_cons.mpr ⟨zs_iconst dL_law_633 (by decide), ?_⟩
  refine List.forall_mem_cons.mpr ⟨zs_goto dL_law_634 (by decide), ?_⟩
  refine List.forall_mem_cons.mpr ⟨zs_iconst dL_law_637 (by decide), ?_⟩
  refine List.forall_mem_cons.mpr ⟨zs_icne dL_law_638 (by decide), ?_⟩
  refine List.forall_mem_cons.mpr ⟨zs_aload_n dL_law_641 rfl, ?_⟩
  refine List.forall_mem_cons.mpr ⟨zs_callV (ci := 8) (rm := zR_X8_digest) (n := 0) rfl (zMeets_ex (zES_ex sc) zM_X8_digest) gL_law_X8_digest rfl (by decide +kernel) ⟨by decide, by decide⟩ dL_law_642, ?_⟩
  refine List.forall_mem_cons.mpr ⟨zs_lload dL_law_645, ?_⟩
  refine List.forall_mem_cons.mpr ⟨zs_lcmp dL_law_647, ?_⟩
  refine List.forall_mem_cons.mpr ⟨zs_ifeq dL_law_648 (by decide), ?_⟩
  refine List.forall_mem_cons.mpr ⟨zs_iconst dL_law_651 (by decide), ?_⟩
  refine List.forall_mem_cons.mpr ⟨zs_reti (ty := .boolean) rfl (fun x h => (znz x h).1) dL_law_652, ?_⟩
  refine List.forall_mem_cons.mpr ⟨zs_aload_n dL_law_653 rfl, ?_⟩
  refine List.forall_mem_cons.mpr ⟨zs_iconst dL_law_654 (by decide), ?_⟩
  refine List.forall_mem_cons.mpr ⟨zs_iconst dL_law_655 (by decide), ?_⟩
  refine List.forall_mem_cons.mpr ⟨zs_callV (ci := 8) (rm := zR_X8_number) (n := 2) rfl (zMeets_ex (zES_ex sc) zM_X8_number) gL_law_X8_number rfl (by decide +kernel) ⟨by decide, by decide⟩ dL_law_656, ?_⟩
  refine List.forall_mem_cons.mpr ⟨zs_istore dL_law_659, ?_⟩
  refine List.forall_mem_cons.mpr ⟨zs_aload_n dL_law_661 rfl, ?_⟩
  refine List.forall_mem_cons.mpr ⟨zs_iconst dL_law_662 (by decide), ?_⟩
  refine List.forall_mem_cons.mpr ⟨zs_iconst dL_law_663 (by decide), ?_⟩
  refine List.forall_mem_cons.mpr ⟨zs_callV (ci := 8) (rm := zR_X8_number) (n := 2) rfl (zMeets_ex (zES_ex sc) zM_X8_number) gL_law_X8_number rfl (by decide +kernel) ⟨by decide, by decide⟩ dL_law_664, ?_⟩
  refine List.forall_mem_cons.mpr ⟨zs_istore dL_law_667, ?_⟩
  refine List.forall_mem_cons.mpr ⟨zs_iload dL_law_669, ?_⟩
  refine List.forall_mem_cons.mpr ⟨zs_iflt dL_law_671 (by decide), ?_⟩
  refine List.forall_mem_cons.mpr ⟨zs_aload_n dL_law_674 rfl, ?_⟩
  refine List.forall_mem_cons.mpr ⟨zs_iconst dL_law_675 (by decide), ?_⟩
  refine List.forall_mem_cons.mpr ⟨zs_iload dL_law_676, ?_⟩
  refine List.forall_mem_cons.mpr ⟨zs_iload_n dL_law_678 rfl, ?_⟩
  refine List.forall_mem_cons.mpr ⟨zs_idiv dL_law_679, ?_⟩
  refine List.forall_mem_cons.mpr ⟨zs_iload dL_law_680, ?_⟩
  refine List.forall_mem_cons.mpr ⟨zs_iload_n dL_law_682 rfl, ?_⟩
  refine List.forall_mem_cons.mpr ⟨zs_irem dL_law_683, ?_⟩
  refine List.forall_mem_cons.mpr ⟨zs_callV (ci := 8) (rm := zR_X8_move) (n := 3) rfl (zMeets_ex (zES_ex sc) zM_X8_move) gL_law_X8_move rfl (by decide +kernel) ⟨by decide, by decide⟩ dL_law_684, ?_⟩
  refine List.forall_mem_cons.mpr ⟨zs_pop dL_law_687, ?_⟩
  refine List.forall_mem_cons.mpr ⟨zs_aload_n dL_law_688 rfl, ?_⟩
  refine List.forall_mem_cons.mpr ⟨zs_iload dL_law_689, ?_⟩
  refine List.forall_mem_cons.mpr ⟨zs_callV (ci := 8) (rm := zR_X8_holds) (n := 1) rfl (zMeets_ex (zES_ex sc) zM_X8_holds) gL_law_X8_holds rfl (by decide +kernel) ⟨by decide, by decide⟩ dL_law_691, ?_⟩
  refine List.forall_mem_cons.mpr ⟨zs_ifeq dL_law_694 (by decide), ?_⟩
  refine List.forall_mem_cons.mpr ⟨zs_iconst dL_law_697 (by decide), ?_⟩
  refine List.forall_mem_cons.mpr ⟨zs_reti (ty := .boolean) rfl (fun x h => (znz x h).1) dL_law_698, ?_⟩
  refine List.forall_mem_cons.mpr ⟨zs_iload dL_law_699, ?_⟩
  refine List.forall_mem_cons.mpr ⟨zs_ifle dL_law_701 (by decide), ?_⟩
  refine List.forall_mem_cons.mpr ⟨zs_aload_n dL_law_704 rfl, ?_⟩
  refine List.forall_mem_cons.mpr ⟨zs_iconst dL_law_705 (by decide), ?_⟩
  refine List.forall_mem_cons.mpr ⟨zs_iload dL_law_706, ?_⟩
  refine List.forall_mem_cons.mpr ⟨zs_iconst dL_law_708 (by decide), ?_⟩
  refine List.forall_mem_cons.mpr ⟨zs_isub dL_law_709, ?_⟩
  refine List.forall_mem_cons.mpr ⟨zs_iload_n dL_law_710 rfl, ?_⟩
  refine List.forall_mem_cons.mpr ⟨zs_idiv dL_law_711, ?_⟩
  refine List.forall_mem_cons.mpr ⟨zs_iload dL_law_712, ?_⟩
  refine List.forall_mem_cons.mpr ⟨zs_iconst dL_law_714 (by decide), ?_⟩
  refine List.forall_mem_cons.mpr ⟨zs_isub dL_law_715, ?_⟩
  refine List.forall_mem_cons.mpr ⟨zs_iload_n dL_law_716 rfl, ?_⟩
  refine List.forall_mem_cons.mpr ⟨zs_irem dL_law_717, ?_⟩
  refine List.forall_mem_cons.mpr ⟨zs_callV (ci := 8) (rm := zR_X8_move) (n := 3) rfl (zMeets_ex (zES_ex sc) zM_X8_move) gL_law_X8_move rfl (by decide +kernel) ⟨by decide, by decide⟩ dL_law_718, ?_⟩
  refine List.forall_mem_cons.mpr ⟨zs_pop dL_law_721, ?_⟩
  refine List.forall_mem_cons.mpr ⟨zs_aload_n dL_law_722 rfl, ?_⟩
  refine List.forall_mem_cons.mpr ⟨zs_iload dL_law_723, ?_⟩
  refine List.forall_mem_cons.mpr ⟨zs_callV (ci := 8) (rm := zR_X8_holds) (n := 1) rfl (zMeets_ex (zES_ex sc) zM_X8_holds) gL_law_X8_holds rfl (by decide +kernel) ⟨by decide, by decide⟩ dL_law_725, ?_⟩
  refine List.forall_mem_cons.mpr ⟨zs_ifne dL_law_728 (by decide), ?_⟩
  refine List.forall_mem_cons.mpr ⟨zs_iconst dL_law_731 (by decide), ?_⟩
  refine List.forall_mem_cons.mpr ⟨zs_reti (ty := .boolean) rfl (fun x h => (znz x h).1) dL_law_732, ?_⟩
  refine List.forall_mem_cons.mpr ⟨zs_aload_n dL_law_733 rfl, ?_⟩
  refine List.forall_mem_cons.mpr ⟨zs_iconst dL_law_734 (by decide), ?_⟩
  refine List.forall_mem_cons.mpr ⟨zs_iload dL_law_735, ?_⟩
  refine List.forall_mem_cons.mpr ⟨zs_iload dL_law_737, ?_⟩
  refine List.forall_mem_cons.mpr ⟨zs_callV (ci := 8) (rm := zR_X8_move) (n := 3) rfl (zMeets_ex (zES_ex sc) zM_X8_move) gL_law_X8_move rfl (by decide +kernel) ⟨by decide, by decide⟩ dL_law_739, ?_⟩
  refine List.forall_mem_cons.mpr ⟨zs_pop dL_law_742, ?_⟩
  refine List.forall_mem_cons.mpr ⟨zs_aload_n dL_law_743 rfl, ?_⟩
  refine List.forall_mem_cons.mpr ⟨zs_callV (ci := 8) (rm := zR_X8_digest) (n := 0) rfl (zMeets_ex (zES_ex sc) zM_X8_digest) gL_law_X8_digest rfl (by decide +kernel) ⟨by decide, by decide⟩ dL_law_744, ?_⟩
  refine List.forall_mem_cons.mpr ⟨zs_lload dL_law_747, ?_⟩
  refine List.forall_mem_cons.mpr ⟨zs_lcmp dL_law_749, ?_⟩
  refine List.forall_mem_cons.mpr ⟨zs_ifne dL_law_750 (by decide), ?_⟩
  refine List.forall_mem_cons.mpr ⟨zs_aload_n dL_law_753 rfl, ?_⟩
  refine List.forall_mem_cons.mpr ⟨zs_iload dL_law_754, ?_⟩
  refine List.forall_mem_cons.mpr ⟨zs_callV (ci := 8) (rm := zR_X8_holds) (n := 1) rfl (zMeets_ex (zES_ex sc) zM_X8_holds) gL_law_X8_holds rfl (by decide +kernel) ⟨by decide, by decide⟩ dL_law_756, ?_⟩
  refine List.forall_mem_cons.mpr ⟨zs_iconst dL_law_759 (by decide), ?_⟩
  refine List.forall_mem_cons.mpr ⟨zs_icne dL_law_760 (by decide), ?_⟩
  refine List.forall_mem_cons.mpr ⟨zs_iload dL_law_763, ?_⟩
  refine List.forall_mem_cons.mpr ⟨zs_ifeq dL_law_765 (by decide), ?_⟩
  refine List.forall_mem_cons.mpr ⟨zs_aload_n dL_law_768 rfl, ?_⟩
  refine List.forall_mem_cons.mpr ⟨zs_iload dL_law_769, ?_⟩
  refine List.forall_mem_cons.mpr ⟨zs_callV (ci := 8) (rm := zR_X8_holds) (n := 1) rfl (zMeets_ex (zES_ex sc) zM_X8_holds) gL_law_X8_holds rfl (by decide +kernel) ⟨by decide, by decide⟩ dL_law_771, ?_⟩
  refine List.forall_mem_cons.mpr ⟨zs_ifne dL_law_774 (by decide), ?_⟩
  refine List.forall_mem_cons.mpr ⟨zs_iload dL_law_777, ?_⟩
  refine List.forall_mem_cons.mpr ⟨zs_ifne dL_law_779 (by decide), ?_⟩
  refine List.forall_mem_cons.mpr ⟨zs_iconst dL_law_782 (by decide), ?_⟩
  refine List.forall_mem_cons.mpr ⟨zs_reti (ty := .boolean) rfl (fun x h => (znz x h).1) dL_law_783, ?_⟩
  refine List.forall_mem_cons.mpr ⟨zs_iinc dL_law_784 (by decide), ?_⟩
  refine List.forall_mem_cons.mpr ⟨zs_goto dL_law_787 (by decide), ?_⟩
  refine List.forall_mem_cons.mpr ⟨zs_aload_n dL_law_790 rfl, ?_⟩
  refine List.forall_mem_cons.mpr ⟨zs_callV (ci := 8) (rm := zR_X8_truth) (n := 0) rfl (zMeets_ex (zES_ex sc) zM_X8_truth) gL_law_X8_truth rfl (by decide +kernel) ⟨by decide, by decide⟩ dL_law_791, ?_⟩
  refine List.forall_mem_cons.mpr ⟨zs_dconst0 dL_law_794, ?_⟩
  refine List.forall_mem_cons.mpr ⟨zs_dcmp dL_law_795, ?_⟩
  refine List.forall_mem_cons.mpr ⟨zs_iflt dL_law_796 (by decide), ?_⟩
  refine List.forall_mem_cons.mpr ⟨zs_aload_n dL_law_799 rfl, ?_⟩
  refine List.forall_mem_cons.mpr ⟨zs_callV (ci := 8) (rm := zR_X8_truth) (n := 0) rfl (zMeets_ex (zES_ex sc) zM_X8_truth) gL_law_X8_truth rfl (by decide +kernel) ⟨by decide, by decide⟩ dL_law_800, ?_⟩
  refine List.forall_mem_cons.mpr ⟨zs_dconst1 dL_law_803, ?_⟩
  refine List.forall_mem_cons.mpr ⟨zs_dcmp dL_law_804, ?_⟩
  refine List.forall_mem_cons.mpr ⟨zs_ifgt dL_law_805 (by decide), ?_⟩
  refine List.forall_mem_cons.mpr ⟨zs_iconst dL_law_808 (by decide), ?_⟩
  refine List.forall_mem_cons.mpr ⟨zs_goto dL_law_809 (by decide), ?_⟩
  refine List.forall_mem_cons.mpr ⟨zs_iconst dL_law_812 (by decide), ?_⟩
  refine List.forall_mem_cons.mpr ⟨zs_reti (ty := .boolean) rfl (fun x h => (znz x h).1) dL_law_813, ?_⟩
  exact fun _ h => absurd h List.not_mem_nil
set_option maxRecDepth 8000 in
theorem zr_L_law_8 {sc : List Int32} (ls : zLs) (st : List zAV) (s : zAS) (k : Nat × Nat) : zev (zk_L_law sc) (8, ls, st, s, k) = zev (zk_L_law sc) (11, ls, Sum.inr (98, 2) :: st, s, k) := zev_go rfl rfl
set_option maxRecDepth 8000 in
theorem zr_L_law_11 {sc : List Int32} (a1 a2 a3 a4 a5 a6 a7 a8 a9 a10 a11 a12 a13 a14 a15 a16 : Option zAV) (st : List zAV) (s : zAS) (k : Nat × Nat) (o : Nat × Nat) : zev (zk_L_law sc) (11, [some (Sum.inr o), a1, a2, a3, a4, a5, a6, a7, a8, a9, a10, a11, a12, a13, a14, a15, a16], st, s, k) = zev (zk_L_law sc) (12, [some (Sum.inr o), a1, a2, a3, a4, a5, a6, a7, a8, a9, a10, a11, a12, a13, a14, a15, a16], Sum.inr o :: st, s, k) := zev_go rfl rfl
set_option maxRecDepth 8000 in
theorem zr_L_law_12 {sc : List Int32} (ls : zLs) (st : List zAV) (s : zAS) (k : Nat × Nat) : zev (zk_L_law sc) (12, ls, st, s, k) = zev (zk_L_law sc) (13, ls, Sum.inl (Value.int (0)) :: st, s, k) := zev_go rfl rfl
set_option maxRecDepth 8000 in
theorem zr_L_law_13 {sc : List Int32} (ls : zLs) (st : List zAV) (s : zAS) (k : Nat × Nat) (v0 v1 : zAV) (h : (st.map zcat).sum ≤ 8 ∧ k.1 + 0 ≤ (zR_L_law).cells ∧ k.2 + 0 ≤ (zR_L_law).slots) : zev (zk_L_law sc) (13, ls, v1 :: v0 :: st, s, k) = zret (zk_L_law sc) 16 ls st (k.1 + 0, k.2 + 0) ((m_L_cell sc) [v0, v1] s) := zf_callS (as := [v1, v0]) 2 rfl rfl h
set_option maxRecDepth 8000 in
theorem zr_L_law_16 {sc : List Int32} (ls : zLs) (st : List zAV) (s : zAS) (k : Nat × Nat) : zev (zk_L_law sc) (16, ls, st, s, k) = zev (zk_L_law sc) (17, ls, Sum.inl (Value.int (4)) :: st, s, k) := zev_go rfl rfl
set_option maxRecDepth 8000 in
theorem zr_L_law_17 {sc : List Int32} (ls : zLs) (st : List zAV) (s : zAS) (k : Nat × Nat) (v0 v1 : zAV) (h : (st.map zcat).sum ≤ 8 ∧ k.1 + 0 ≤ (zR_L_law).cells ∧ k.2 + 0 ≤ (zR_L_law).slots) : zev (zk_L_law sc) (17, ls, v1 :: v0 :: st, s, k) = zret (zk_L_law sc) 20 ls st (k.1 + 0, k.2 + 0) ((m_L_below sc) [v0, v1] s) := zf_callS (as := [v1, v0]) 2 rfl rfl h
set_option maxRecDepth 8000 in
theorem zr_L_law_20 {sc : List Int32} (ls : zLs) (st : List zAV) (s : zAS) (k : Nat × Nat) (o i : Nat) (j : Int32) : zev (zk_L_law sc) (20, ls, Sum.inl (Value.int j) :: Sum.inr (o, i) :: st, s, k) = zpush (zk_L_law sc) 21 ls st s k (zald (zES sc) o i j s) := zf_iald rfl
set_option maxRecDepth 8000 in
theorem zr_L_law_21 {sc : List Int32} (a0 a1 a2 a3 a4 a5 a6 a7 a8 a9 a10 a11 a12 a13 a14 a15 a16 : Option zAV) (st : List zAV) (s : zAS) (k : Nat × Nat) (x : Int32) : zev (zk_L_law sc) (21, [a0, a1, a2, a3, a4, a5, a6, a7, a8, a9, a10, a11, a12, a13, a14, a15, a16], Sum.inl (Value.int x) :: st, s, k) = zev (zk_L_law sc) (22, [a0, zk1 a1, some (Sum.inl (Value.int x)), a3, a4, a5, a6, a7, a8, a9, a10, a11, a12, a13, a14, a15, a16], st, s, k) := zev_go rfl rfl
set_option maxRecDepth 8000 in
theorem zr_L_law_22 {sc : List Int32} (a0 a2 a3 a4 a5 a6 a7 a8 a9 a10 a11 a12 a13 a14 a15 a16 : Option zAV) (st : List zAV) (s : zAS) (k : Nat × Nat) (o : Nat × Nat) : zev (zk_L_law sc) (22, [a0, some (Sum.inr o), a2, a3, a4, a5, a6, a7, a8, a9, a10, a11, a12, a13, a14, a15, a16], st, s, k) = zev (zk_L_law sc) (23, [a0, some (Sum.inr o), a2, a3, a4, a5, a6, a7, a8, a9, a10, a11, a12, a13, a14, a15, a16], Sum.inr o :: st, s, k) := zev_go rfl rfl
set_option maxRecDepth 8000 in
theorem zr_L_law_23 {sc : List Int32} (a0 a1 a3 a4 a5 a6 a7 a8 a9 a10 a11 a12 a13 a14 a15 a16 : Option zAV) (st : List zAV) (s : zAS) (k : Nat × Nat) (x : Int32) : zev (zk_L_law sc) (23, [a0, a1, some (Sum.inl (Value.int x)), a3, a4, a5, a6, a7, a8, a9, a10, a11, a12, a13, a14, a15, a16], st, s, k) = zev (zk_L_law sc) (24, [a0, a1, some (Sum.inl (Value.int x)), a3, a4, a5, a6, a7, a8, a9, a10, a11, a12, a13, a14, a15, a16], Sum.inl (Value.int x) :: st, s, k) := zev_go rfl rfl
set_option maxRecDepth 8000 in
theorem zr_L_law_24 {sc : List Int32} (ls : zLs) (st : List zAV) (s : zAS) (k : Nat × Nat) (r v0 : zAV) (h : zcok (zES sc) 8 0 0 (zR_L_law).cells (zR_L_law).slots r st k) : zev (zk_L_law sc) (24, ls, v0 :: r :: st, s, k) = zret (zk_L_law sc) 27 ls st (k.1 + 0, k.2 + 0) (m_X8_begin [r, v0] s) := zf_callV (as := [v0]) 1 rfl rfl h
set_option maxRecDepth 8000 in
theorem zr_L_law_27 {sc : List Int32} (ls : zLs) (st : List zAV) (s : zAS) (k : Nat × Nat) (v : zAV) (hv : zc1 v = true) : zev (zk_L_law sc) (27, ls, v :: st, s, k) = zev (zk_L_law sc) (28, ls, st, s, k) := zf_pop rfl hv
set_option maxRecDepth 8000 in
theorem zr_L_law_28 {sc : List Int32} (a0 a2 a3 a4 a5 a6 a7 a8 a9 a10 a11 a12 a13 a14 a15 a16 : Option zAV) (st : List zAV) (s : zAS) (k : Nat × Nat) (o : Nat × Nat) : zev (zk_L_law sc) (28, [a0, some (Sum.inr o), a2, a3, a4, a5, a6, a7, a8, a9, a10, a11, a12, a13, a14, a15, a16], st, s, k) = zev (zk_L_law sc) (29, [a0, some (Sum.inr o), a2, a3, a4, a5, a6, a7, a8, a9, a10, a11, a12, a13, a14, a15, a16], Sum.inr o :: st, s, k) := zev_go rfl rfl
set_option maxRecDepth 8000 in
theorem zr_L_law_29 {sc : List Int32} (a1 a2 a3 a4 a5 a6 a7 a8 a9 a10 a11 a12 a13 a14 a15 a16 : Option zAV) (st : List zAV) (s : zAS) (k : Nat × Nat) (o : Nat × Nat) : zev (zk_L_law sc) (29, [some (Sum.inr o), a1, a2, a3, a4, a5, a6, a7, a8, a9, a10, a11, a12, a13, a14, a15, a16], st, s, k) = zev (zk_L_law sc) (30, [some (Sum.inr o), a1, a2, a3, a4, a5, a6, a7, a8, a9, a10, a11, a12, a13, a14, a15, a16], Sum.inr o :: st, s, k) := zev_go rfl rfl
set_option maxRecDepth 8000 in
theorem zr_L_law_30 {sc : List Int32} (a0 a1 a3 a4 a5 a6 a7 a8 a9 a10 a11 a12 a13 a14 a15 a16 : Option zAV) (st : List zAV) (s : zAS) (k : Nat × Nat) (x : Int32) : zev (zk_L_law sc) (30, [a0, a1, some (Sum.inl (Value.int x)), a3, a4, a5, a6, a7, a8, a9, a10, a11, a12, a13, a14, a15, a16], st, s, k) = zev (zk_L_law sc) (31, [a0, a1, some (Sum.inl (Value.int x)), a3, a4, a5, a6, a7, a8, a9, a10, a11, a12, a13, a14, a15, a16], Sum.inl (Value.int x) :: st, s, k) := zev_go rfl rfl
set_option maxRecDepth 8000 in
theorem zr_L_law_31 {sc : List Int32} (ls : zLs) (st : List zAV) (s : zAS) (k : Nat × Nat) : zev (zk_L_law sc) (31, ls, st, s, k) = zev (zk_L_law sc) (33, ls, Sum.inl (Value.int (24)) :: st, s, k) := zev_go rfl rfl
set_option maxRecDepth 8000 in
theorem zr_L_law_33 {sc : List Int32} (ls : zLs) (st : List zAV) (s : zAS) (k : Nat × Nat) (v0 v1 v2 v3 : zAV) (h : (st.map zcat).sum ≤ 8 ∧ k.1 + 40 ≤ (zR_L_law).cells ∧ k.2 + 200 ≤ (zR_L_law).slots) : zev (zk_L_law sc) (33, ls, v3 :: v2 :: v1 :: v0 :: st, s, k) = zret (zk_L_law sc) 36 ls st (k.1 + 40, k.2 + 200) ((m_L_build sc) [v0, v1, v2, v3] s) := zf_callS (as := [v3, v2, v1, v0]) 4 rfl rfl h
set_option maxRecDepth 8000 in
theorem zr_L_law_36 {sc : List Int32} (a0 a1 a2 a3 a4 a5 a6 a7 a8 a9 a10 a11 a12 a13 a14 a15 a16 : Option zAV) (st : List zAV) (s : zAS) (k : Nat × Nat) (x : Int32) : zev (zk_L_law sc) (36, [a0, a1, a2, a3, a4, a5, a6, a7, a8, a9, a10, a11, a12, a13, a14, a15, a16], Sum.inl (Value.int x) :: st, s, k) = zev (zk_L_law sc) (37, [a0, a1, zk1 a2, some (Sum.inl (Value.int x)), a4, a5, a6, a7, a8, a9, a10, a11, a12, a13, a14, a15, a16], st, s, k) := zev_go rfl rfl
set_option maxRecDepth 8000 in
theorem zr_L_law_37 {sc : List Int32} (a0 a1 a2 a4 a5 a6 a7 a8 a9 a10 a11 a12 a13 a14 a15 a16 : Option zAV) (st : List zAV) (s : zAS) (k : Nat × Nat) (x : Int32) : zev (zk_L_law sc) (37, [a0, a1, a2, some (Sum.inl (Value.int x)), a4, a5, a6, a7, a8, a9, a10, a11, a12, a13, a14, a15, a16], st, s, k) = zev (zk_L_law sc) (38, [a0, a1, a2, some (Sum.inl (Value.int x)), a4, a5, a6, a7, a8, a9, a10, a11, a12, a13, a14, a15, a16], Sum.inl (Value.int x) :: st, s, k) := zev_go rfl rfl
set_option maxRecDepth 8000 in
theorem zr_L_law_38 {sc : List Int32} (ls : zLs) (st : List zAV) (s : zAS) (k : Nat × Nat) (x : Int32) : zev (zk_L_law sc) (38, ls, Sum.inl (Value.int x) :: st, s, k) = if decide (0 ≤ x) = true then zev (zk_L_law sc) (43, ls, st, s, k) else zev (zk_L_law sc) (41, ls, st, s, k) := zf_if (f := fun x => decide (0 ≤ x)) rfl
set_option maxRecDepth 8000 in
theorem zr_L_law_41 {sc : List Int32} (ls : zLs) (st : List zAV) (s : zAS) (k : Nat × Nat) : zev (zk_L_law sc) (41, ls, st, s, k) = zev (zk_L_law sc) (42, ls, Sum.inl (Value.int (0)) :: st, s, k) := zev_go rfl rfl
set_option maxRecDepth 8000 in
theorem zr_L_law_42 {sc : List Int32} (ls : zLs) (s : zAS) (k : Nat × Nat) (x : Int32) (hx : x = 0 ∨ x = 1) : zev (zk_L_law sc) (42, ls, [Sum.inl (Value.int x)], s, k) = some (.inl (some (Sum.inl (Value.int x))), s) := zf_retz rfl hx
set_option maxRecDepth 8000 in
theorem zr_L_law_43 {sc : List Int32} (a0 a1 a2 a4 a5 a6 a7 a8 a9 a10 a11 a12 a13 a14 a15 a16 : Option zAV) (st : List zAV) (s : zAS) (k : Nat × Nat) (x : Int32) : zev (zk_L_law sc) (43, [a0, a1, a2, some (Sum.inl (Value.int x)), a4, a5, a6, a7, a8, a9, a10, a11, a12, a13, a14, a15, a16], st, s, k) = zev (zk_L_law sc) (44, [a0, a1, a2, some (Sum.inl (Value.int x)), a4, a5, a6, a7, a8, a9, a10, a11, a12, a13, a14, a15, a16], Sum.inl (Value.int x) :: st, s, k) := zev_go rfl rfl
set_option maxRecDepth 8000 in
theorem zr_L_law_44 {sc : List Int32} (ls : zLs) (st : List zAV) (s : zAS) (k : Nat × Nat) (x : Int32) (h : ¬ x < 0 ∧ x.toNatClampNeg ≤ 100 ∧ k.1 + 1 ≤ (zR_L_law).cells ∧ k.2 + x.toNatClampNeg ≤ (zR_L_law).slots ∧ st.all (zfr s.2.length) = true ∧ ls.all (zfr' s.2.length) = true) : zev (zk_L_law sc) (44, ls, Sum.inl (Value.int x) :: st, s, k) = zev (zk_L_law sc) (46, ls, Sum.inr (99, s.2.length) :: st, (s.1, s.2 ++ [(x.toNatClampNeg, fun _ => 0)]), (k.1 + 1, k.2 + x.toNatClampNeg)) := zf_newa rfl h
set_option maxRecDepth 8000 in
theorem zr_L_law_46 {sc : List Int32} (a0 a1 a2 a3 a4 a5 a6 a7 a8 a9 a10 a11 a12 a13 a14 a15 a16 : Option zAV) (st : List zAV) (s : zAS) (k : Nat × Nat) (o : Nat × Nat) : zev (zk_L_law sc) (46, [a0, a1, a2, a3, a4, a5, a6, a7, a8, a9, a10, a11, a12, a13, a14, a15, a16], Sum.inr o :: st, s, k) = zev (zk_L_law sc) (48, [a0, a1, a2, zk1 a3, some (Sum.inr o), a5, a6, a7, a8, a9, a10, a11, a12, a13, a14, a15, a16], st, s, k) := zev_go rfl rfl
set_option maxRecDepth 8000 in
theorem zr_L_law_48 {sc : List Int32} (ls : zLs) (st : List zAV) (s : zAS) (k : Nat × Nat) : zev (zk_L_law sc) (48, ls, st, s, k) = zev (zk_L_law sc) (49, ls, Sum.inl (Value.int (0)) :: st, s, k) := zev_go rfl rfl
set_option maxRecDepth 8000 in
theorem zr_L_law_49 {sc : List Int32} (a0 a1 a2 a3 a4 a5 a6 a7 a8 a9 a10 a11 a12 a13 a14 a15 a16 : Option zAV) (st : List zAV) (s : zAS) (k : Nat × Nat) (x : Int32) : zev (zk_L_law sc) (49, [a0, a1, a2, a3, a4, a5, a6, a7, a8, a9, a10, a11, a12, a13, a14, a15, a16], Sum.inl (Value.int x) :: st, s, k) = zev (zk_L_law sc) (51, [a0, a1, a2, a3, zk1 a4, some (Sum.inl (Value.int x)), a6, a7, a8, a9, a10, a11, a12, a13, a14, a15, a16], st, s, k) := zev_go rfl rfl
set_option maxRecDepth 8000 in
theorem zr_L_law_51 {sc : List Int32} (ls : zLs) (st : List zAV) (s : zAS) (k : Nat × Nat) : zev (zk_L_law sc) (51, ls, st, s, k) = zev (zk_L_law sc) (52, ls, Sum.inl (Value.int (0)) :: st, s, k) := zev_go rfl rfl
set_option maxRecDepth 8000 in
theorem zr_L_law_52 {sc : List Int32} (a0 a1 a2 a3 a4 a5 a6 a7 a8 a9 a10 a11 a12 a13 a14 a15 a16 : Option zAV) (st : List zAV) (s : zAS) (k : Nat × Nat) (x : Int32) : zev (zk_L_law sc) (52, [a0, a1, a2, a3, a4, a5, a6, a7, a8, a9, a10, a11, a12, a13, a14, a15, a16], Sum.inl (Value.int x) :: st, s, k) = zev (zk_L_law sc) (54, [a0, a1, a2, a3, a4, zk1 a5, some (Sum.inl (Value.int x)), a7, a8, a9, a10, a11, a12, a13, a14, a15, a16], st, s, k) := zev_go rfl rfl
set_option maxRecDepth 8000 in
theorem zr_L_law_54 {sc : List Int32} (a0 a1 a2 a3 a4 a5 a7 a8 a9 a10 a11 a12 a13 a14 a15 a16 : Option zAV) (st : List zAV) (s : zAS) (k : Nat × Nat) (x : Int32) : zev (zk_L_law sc) (54, [a0, a1, a2, a3, a4, a5, some (Sum.inl (Value.int x)), a7, a8, a9, a10, a11, a12, a13, a14, a15, a16], st, s, k) = zev (zk_L_law sc) (56, [a0, a1, a2, a3, a4, a5, some (Sum.inl (Value.int x)), a7, a8, a9, a10, a11, a12, a13, a14, a15, a16], Sum.inl (Value.int x) :: st, s, k) := zev_go rfl rfl
set_option maxRecDepth 8000 in
theorem zr_L_law_56 {sc : List Int32} (a0 a1 a2 a4 a5 a6 a7 a8 a9 a10 a11 a12 a13 a14 a15 a16 : Option zAV) (st : List zAV) (s : zAS) (k : Nat × Nat) (x : Int32) : zev (zk_L_law sc) (56, [a0, a1, a2, some (Sum.inl (Value.int x)), a4, a5, a6, a7, a8, a9, a10, a11, a12, a13, a14, a15, a16], st, s, k) = zev (zk_L_law sc) (57, [a0, a1, a2, some (Sum.inl (Value.int x)), a4, a5, a6, a7, a8, a9, a10, a11, a12, a13, a14, a15, a16], Sum.inl (Value.int x) :: st, s, k) := zev_go rfl rfl
set_option maxRecDepth 8000 in
theorem zr_L_law_57 {sc : List Int32} (ls : zLs) (st : List zAV) (s : zAS) (k : Nat × Nat) (x y : Int32) : zev (zk_L_law sc) (57, ls, Sum.inl (Value.int y) :: Sum.inl (Value.int x) :: st, s, k) = if decide (y ≤ x) = true then zev (zk_L_law sc) (304, ls, st, s, k) else zev (zk_L_law sc) (60, ls, st, s, k) := zf_cmp (f := fun x y => decide (y ≤ x)) rfl
set_option maxRecDepth 8000 in
theorem zr_L_law_60 {sc : List Int32} (a0 a1 a2 a3 a5 a6 a7 a8 a9 a10 a11 a12 a13 a14 a15 a16 : Option zAV) (st : List zAV) (s : zAS) (k : Nat × Nat) (o : Nat × Nat) : zev (zk_L_law sc) (60, [a0, a1, a2, a3, some (Sum.inr o), a5, a6, a7, a8, a9, a10, a11, a12, a13, a14, a15, a16], st, s, k) = zev (zk_L_law sc) (62, [a0, a1, a2, a3, some (Sum.inr o), a5, a6, a7, a8, a9, a10, a11, a12, a13, a14, a15, a16], Sum.inr o :: st, s, k) := zev_go rfl rfl
set_option maxRecDepth 8000 in
theorem zr_L_law_62 {sc : List Int32} (a0 a1 a2 a3 a4 a5 a7 a8 a9 a10 a11 a12 a13 a14 a15 a16 : Option zAV) (st : List zAV) (s : zAS) (k : Nat × Nat) (x : Int32) : zev (zk_L_law sc) (62, [a0, a1, a2, a3, a4, a5, some (Sum.inl (Value.int x)), a7, a8, a9, a10, a11, a12, a13, a14, a15, a16], st, s, k) = zev (zk_L_law sc) (64, [a0, a1, a2, a3, a4, a5, some (Sum.inl (Value.int x)), a7, a8, a9, a10, a11, a12, a13, a14, a15, a16], Sum.inl (Value.int x) :: st, s, k) := zev_go rfl rfl
set_option maxRecDepth 8000 in
theorem zr_L_law_64 {sc : List Int32} (a0 a2 a3 a4 a5 a6 a7 a8 a9 a10 a11 a12 a13 a14 a15 a16 : Option zAV) (st : List zAV) (s : zAS) (k : Nat × Nat) (o : Nat × Nat) : zev (zk_L_law sc) (64, [a0, some (Sum.inr o), a2, a3, a4, a5, a6, a7, a8, a9, a10, a11, a12, a13, a14, a15, a16], st, s, k) = zev (zk_L_law sc) (65, [a0, some (Sum.inr o), a2, a3, a4, a5, a6, a7, a8, a9, a10, a11, a12, a13, a14, a15, a16], Sum.inr o :: st, s, k) := zev_go rfl rfl
set_option maxRecDepth 8000 in
theorem zr_L_law_65 {sc : List Int32} (a0 a1 a2 a3 a4 a5 a7 a8 a9 a10 a11 a12 a13 a14 a15 a16 : Option zAV) (st : List zAV) (s : zAS) (k : Nat × Nat) (x : Int32) : zev (zk_L_law sc) (65, [a0, a1, a2, a3, a4, a5, some (Sum.inl (Value.int x)), a7, a8, a9, a10, a11, a12, a13, a14, a15, a16], st, s, k) = zev (zk_L_law sc) (67, [a0, a1, a2, a3, a4, a5, some (Sum.inl (Value.int x)), a7, a8, a9, a10, a11, a12, a13, a14, a15, a16], Sum.inl (Value.int x) :: st, s, k) := zev_go rfl rfl
set_option maxRecDepth 8000 in
theorem zr_L_law_67 {sc : List Int32} (ls : zLs) (st : List zAV) (s : zAS) (k : Nat × Nat) : zev (zk_L_law sc) (67, ls, st, s, k) = zev (zk_L_law sc) (68, ls, Sum.inl (Value.int (0)) :: st, s, k) := zev_go rfl rfl
set_option maxRecDepth 8000 in
theorem zr_L_law_68 {sc : List Int32} (ls : zLs) (st : List zAV) (s : zAS) (k : Nat × Nat) (r v0 v1 : zAV) (h : zcok (zES sc) 8 0 0 (zR_L_law).cells (zR_L_law).slots r st k) : zev (zk_L_law sc) (68, ls, v1 :: v0 :: r :: st, s, k) = zret (zk_L_law sc) 71 ls st (k.1 + 0, k.2 + 0) (m_X8_object [r, v0, v1] s) := zf_callV (as := [v1, v0]) 2 rfl rfl h
set_option maxRecDepth 8000 in
theorem zr_L_law_71 {sc : List Int32} (ls : zLs) (st : List zAV) (s : zAS) (k : Nat × Nat) (o i : Nat) (j x : Int32) : zev (zk_L_law sc) (71, ls, Sum.inl (Value.int x) :: Sum.inl (Value.int j) :: Sum.inr (o, i) :: st, s, k) = zgo (zk_L_law sc) 72 ls st k (zast (zES sc) o i j x s) := zf_iast rfl
set_option maxRecDepth 8000 in
theorem zr_L_law_72 {sc : List Int32} (a0 a2 a3 a4 a5 a6 a7 a8 a9 a10 a11 a12 a13 a14 a15 a16 : Option zAV) (st : List zAV) (s : zAS) (k : Nat × Nat) (o : Nat × Nat) : zev (zk_L_law sc) (72, [a0, some (Sum.inr o), a2, a3, a4, a5, a6, a7, a8, a9, a10, a11, a12, a13, a14, a15, a16], st, s, k) = zev (zk_L_law sc) (73, [a0, some (Sum.inr o), a2, a3, a4, a5, a6, a7, a8, a9, a10, a11, a12, a13, a14, a15, a16], Sum.inr o :: st, s, k) := zev_go rfl rfl
set_option maxRecDepth 8000 in
theorem zr_L_law_73 {sc : List Int32} (a0 a1 a2 a3 a4 a5 a7 a8 a9 a10 a11 a12 a13 a14 a15 a16 : Option zAV) (st : List zAV) (s : zAS) (k : Nat × Nat) (x : Int32) : zev (zk_L_law sc) (73, [a0, a1, a2, a3, a4, a5, some (Sum.inl (Value.int x)), a7, a8, a9, a10, a11, a12, a13, a14, a15, a16], st, s, k) = zev (zk_L_law sc) (75, [a0, a1, a2, a3, a4, a5, some (Sum.inl (Value.int x)), a7, a8, a9, a10, a11, a12, a13, a14, a15, a16], Sum.inl (Value.int x) :: st, s, k) := zev_go rfl rfl
set_option maxRecDepth 8000 in
theorem zr_L_law_75 {sc : List Int32} (ls : zLs) (st : List zAV) (s : zAS) (k : Nat × Nat) : zev (zk_L_law sc) (75, ls, st, s, k) = zev (zk_L_law sc) (76, ls, Sum.inl (Value.int (5)) :: st, s, k) := zev_go rfl rfl
set_option maxRecDepth 8000 in
theorem zr_L_law_76 {sc : List Int32} (ls : zLs) (st : List zAV) (s : zAS) (k : Nat × Nat) (r v0 v1 : zAV) (h : zcok (zES sc) 8 0 0 (zR_L_law).cells (zR_L_law).slots r st k) : zev (zk_L_law sc) (76, ls, v1 :: v0 :: r :: st, s, k) = zret (zk_L_law sc) 79 ls st (k.1 + 0, k.2 + 0) (m_X8_object [r, v0, v1] s) := zf_callV (as := [v1, v0]) 2 rfl rfl h
set_option maxRecDepth 8000 in
theorem zr_L_law_79 {sc : List Int32} (ls : zLs) (st : List zAV) (s : zAS) (k : Nat × Nat) : zev (zk_L_law sc) (79, ls, st, s, k) = zev (zk_L_law sc) (80, ls, Sum.inl (Value.int (1)) :: st, s, k) := zev_go rfl rfl
set_option maxRecDepth 8000 in
theorem zr_L_law_80 {sc : List Int32} (ls : zLs) (st : List zAV) (s : zAS) (k : Nat × Nat) (x y : Int32) : zev (zk_L_law sc) (80, ls, Sum.inl (Value.int y) :: Sum.inl (Value.int x) :: st, s, k) = if decide (¬ x = y) = true then zev (zk_L_law sc) (87, ls, st, s, k) else zev (zk_L_law sc) (83, ls, st, s, k) := zf_cmp (f := fun x y => decide (¬ x = y)) rfl
set_option maxRecDepth 8000 in
theorem zr_L_law_83 {sc : List Int32} (ls : zLs) (st : List zAV) (s : zAS) (k : Nat × Nat) : zev (zk_L_law sc) (83, ls, st, s, k) = zev (zk_L_law sc) (84, ls, Sum.inl (Value.int (1)) :: st, s, k) := zev_go rfl rfl
set_option maxRecDepth 8000 in
theorem zr_L_law_84 {sc : List Int32} (ls : zLs) (st : List zAV) (s : zAS) (k : Nat × Nat) : zev (zk_L_law sc) (84, ls, st, s, k) = zev (zk_L_law sc) (88, ls, st, s, k) := zev_go rfl rfl
set_option maxRecDepth 8000 in
theorem zr_L_law_87 {sc : List Int32} (ls : zLs) (st : List zAV) (s : zAS) (k : Nat × Nat) : zev (zk_L_law sc) (87, ls, st, s, k) = zev (zk_L_law sc) (88, ls, Sum.inl (Value.int (0)) :: st, s, k) := zev_go rfl rfl
set_option maxRecDepth 8000 in
theorem zr_L_law_88 {sc : List Int32} (a0 a1 a2 a3 a4 a5 a6 a7 a8 a9 a10 a11 a12 a13 a14 a15 a16 : Option zAV) (st : List zAV) (s : zAS) (k : Nat × Nat) (x : Int32) : zev (zk_L_law sc) (88, [a0, a1, a2, a3, a4, a5, a6, a7, a8, a9, a10, a11, a12, a13, a14, a15, a16], Sum.inl (Value.int x) :: st, s, k) = zev (zk_L_law sc) (90, [a0, a1, a2, a3, a4, a5, zk1 a6, some (Sum.inl (Value.int x)), a8, a9, a10, a11, a12, a13, a14, a15, a16], st, s, k) := zev_go rfl rfl
set_option maxRecDepth 8000 in
theorem zr_L_law_90 {sc : List Int32} (a0 a1 a2 a3 a4 a6 a7 a8 a9 a10 a11 a12 a13 a14 a15 a16 : Option zAV) (st : List zAV) (s : zAS) (k : Nat × Nat) (x : Int32) : zev (zk_L_law sc) (90, [a0, a1, a2, a3, a4, some (Sum.inl (Value.int x)), a6, a7, a8, a9, a10, a11, a12, a13, a14, a15, a16], st, s, k) = zev (zk_L_law sc) (92, [a0, a1, a2, a3, a4, some (Sum.inl (Value.int x)), a6, a7, a8, a9, a10, a11, a12, a13, a14, a15, a16], Sum.inl (Value.int x) :: st, s, k) := zev_go rfl rfl
set_option maxRecDepth 8000 in
theorem zr_L_law_92 {sc : List Int32} (a0 a1 a2 a3 a4 a5 a6 a8 a9 a10 a11 a12 a13 a14 a15 a16 : Option zAV) (st : List zAV) (s : zAS) (k : Nat × Nat) (x : Int32) : zev (zk_L_law sc) (92, [a0, a1, a2, a3, a4, a5, a6, some (Sum.inl (Value.int x)), a8, a9, a10, a11, a12, a13, a14, a15, a16], st, s, k) = zev (zk_L_law sc) (94, [a0, a1, a2, a3, a4, a5, a6, some (Sum.inl (Value.int x)), a8, a9, a10, a11, a12, a13, a14, a15, a16], Sum.inl (Value.int x) :: st, s, k) := zev_go rfl rfl
set_option maxRecDepth 8000 in
theorem zr_L_law_94 {sc : List Int32} (ls : zLs) (st : List zAV) (s : zAS) (k : Nat × Nat) (x : Int32) : zev (zk_L_law sc) (94, ls, Sum.inl (Value.int x) :: st, s, k) = if decide (x = 0) = true then zev (zk_L_law sc) (101, ls, st, s, k) else zev (zk_L_law sc) (97, ls, st, s, k) := zf_if (f := fun x => decide (x = 0)) rfl
set_option maxRecDepth 8000 in
theorem zr_L_law_97 {sc : List Int32} (ls : zLs) (st : List zAV) (s : zAS) (k : Nat × Nat) : zev (zk_L_law sc) (97, ls, st, s, k) = zev (zk_L_law sc) (98, ls, Sum.inl (Value.int (1)) :: st, s, k) := zev_go rfl rfl
set_option maxRecDepth 8000 in
theorem zr_L_law_98 {sc : List Int32} (ls : zLs) (st : List zAV) (s : zAS) (k : Nat × Nat) : zev (zk_L_law sc) (98, ls, st, s, k) = zev (zk_L_law sc) (102, ls, st, s, k) := zev_go rfl rfl
set_option maxRecDepth 8000 in
theorem zr_L_law_101 {sc : List Int32} (ls : zLs) (st : List zAV) (s : zAS) (k : Nat × Nat) : zev (zk_L_law sc) (101, ls, st, s, k) = zev (zk_L_law sc) (102, ls, Sum.inl (Value.int (0)) :: st, s, k) := zev_go rfl rfl
set_option maxRecDepth 8000 in
theorem zr_L_law_102 {sc : List Int32} (ls : zLs) (st : List zAV) (s : zAS) (k : Nat × Nat) (x y : Int32) : zev (zk_L_law sc) (102, ls, Sum.inl (Value.int y) :: Sum.inl (Value.int x) :: st, s, k) = zev (zk_L_law sc) (103, ls, Sum.inl (Value.int (x + y)) :: st, s, k) := zev_go rfl rfl
set_option maxRecDepth 8000 in
theorem zr_L_law_103 {sc : List Int32} (a0 a1 a2 a3 a4 a5 a6 a7 a8 a9 a10 a11 a12 a13 a14 a15 a16 : Option zAV) (st : List zAV) (s : zAS) (k : Nat × Nat) (x : Int32) : zev (zk_L_law sc) (103, [a0, a1, a2, a3, a4, a5, a6, a7, a8, a9, a10, a11, a12, a13, a14, a15, a16], Sum.inl (Value.int x) :: st, s, k) = zev (zk_L_law sc) (105, [a0, a1, a2, a3, zk1 a4, some (Sum.inl (Value.int x)), a6, a7, a8, a9, a10, a11, a12, a13, a14, a15, a16], st, s, k) := zev_go rfl rfl
set_option maxRecDepth 8000 in
theorem zr_L_law_105 {sc : List Int32} (a0 a2 a3 a4 a5 a6 a7 a8 a9 a10 a11 a12 a13 a14 a15 a16 : Option zAV) (st : List zAV) (s : zAS) (k : Nat × Nat) (o : Nat × Nat) : zev (zk_L_law sc) (105, [a0, some (Sum.inr o), a2, a3, a4, a5, a6, a7, a8, a9, a10, a11, a12, a13, a14, a15, a16], st, s, k) = zev (zk_L_law sc) (106, [a0, some (Sum.inr o), a2, a3, a4, a5, a6, a7, a8, a9, a10, a11, a12, a13, a14, a15, a16], Sum.inr o :: st, s, k) := zev_go rfl rfl
set_option maxRecDepth 8000 in
theorem zr_L_law_106 {sc : List Int32} (a0 a1 a2 a3 a4 a5 a7 a8 a9 a10 a11 a12 a13 a14 a15 a16 : Option zAV) (st : List zAV) (s : zAS) (k : Nat × Nat) (x : Int32) : zev (zk_L_law sc) (106, [a0, a1, a2, a3, a4, a5, some (Sum.inl (Value.int x)), a7, a8, a9, a10, a11, a12, a13, a14, a15, a16], st, s, k) = zev (zk_L_law sc) (108, [a0, a1, a2, a3, a4, a5, some (Sum.inl (Value.int x)), a7, a8, a9, a10, a11, a12, a13, a14, a15, a16], Sum.inl (Value.int x) :: st, s, k) := zev_go rfl rfl
set_option maxRecDepth 8000 in
theorem zr_L_law_108 {sc : List Int32} (ls : zLs) (st : List zAV) (s : zAS) (k : Nat × Nat) (r v0 : zAV) (h : zcok (zES sc) 8 0 0 (zR_L_law).cells (zR_L_law).slots r st k) : zev (zk_L_law sc) (108, ls, v0 :: r :: st, s, k) = zret (zk_L_law sc) 111 ls st (k.1 + 0, k.2 + 0) (m_X8_places [r, v0] s) := zf_callV (as := [v0]) 1 rfl rfl h
set_option maxRecDepth 8000 in
theorem zr_L_law_111 {sc : List Int32} (a0 a1 a2 a3 a4 a5 a6 a8 a9 a10 a11 a12 a13 a14 a15 a16 : Option zAV) (st : List zAV) (s : zAS) (k : Nat × Nat) (x : Int32) : zev (zk_L_law sc) (111, [a0, a1, a2, a3, a4, a5, a6, some (Sum.inl (Value.int x)), a8, a9, a10, a11, a12, a13, a14, a15, a16], st, s, k) = zev (zk_L_law sc) (113, [a0, a1, a2, a3, a4, a5, a6, some (Sum.inl (Value.int x)), a8, a9, a10, a11, a12, a13, a14, a15, a16], Sum.inl (Value.int x) :: st, s, k) := zev_go rfl rfl
set_option maxRecDepth 8000 in
theorem zr_L_law_113 {sc : List Int32} (ls : zLs) (st : List zAV) (s : zAS) (k : Nat × Nat) (x : Int32) : zev (zk_L_law sc) (113, ls, Sum.inl (Value.int x) :: st, s, k) = if decide (x = 0) = true then zev (zk_L_law sc) (120, ls, st, s, k) else zev (zk_L_law sc) (116, ls, st, s, k) := zf_if (f := fun x => decide (x = 0)) rfl
set_option maxRecDepth 8000 in
theorem zr_L_law_116 {sc : List Int32} (ls : zLs) (st : List zAV) (s : zAS) (k : Nat × Nat) : zev (zk_L_law sc) (116, ls, st, s, k) = zev (zk_L_law sc) (117, ls, Sum.inl (Value.int (0)) :: st, s, k) := zev_go rfl rfl
set_option maxRecDepth 8000 in
theorem zr_L_law_117 {sc : List Int32} (ls : zLs) (st : List zAV) (s : zAS) (k : Nat × Nat) : zev (zk_L_law sc) (117, ls, st, s, k) = zev (zk_L_law sc) (148, ls, st, s, k) := zev_go rfl rfl
set_option maxRecDepth 8000 in
theorem zr_L_law_120 {sc : List Int32} (a0 a1 a2 a3 a5 a6 a7 a8 a9 a10 a11 a12 a13 a14 a15 a16 : Option zAV) (st : List zAV) (s : zAS) (k : Nat × Nat) (o : Nat × Nat) : zev (zk_L_law sc) (120, [a0, a1, a2, a3, some (Sum.inr o), a5, a6, a7, a8, a9, a10, a11, a12, a13, a14, a15, a16], st, s, k) = zev (zk_L_law sc) (122, [a0, a1, a2, a3, some (Sum.inr o), a5, a6, a7, a8, a9, a10, a11, a12, a13, a14, a15, a16], Sum.inr o :: st, s, k) := zev_go rfl rfl
set_option maxRecDepth 8000 in
theorem zr_L_law_122 {sc : List Int32} (a0 a1 a2 a3 a4 a5 a7 a8 a9 a10 a11 a12 a13 a14 a15 a16 : Option zAV) (st : List zAV) (s : zAS) (k : Nat × Nat) (x : Int32) : zev (zk_L_law sc) (122, [a0, a1, a2, a3, a4, a5, some (Sum.inl (Value.int x)), a7, a8, a9, a10, a11, a12, a13, a14, a15, a16], st, s, k) = zev (zk_L_law sc) (124, [a0, a1, a2, a3, a4, a5, some (Sum.inl (Value.int x)), a7, a8, a9, a10, a11, a12, a13, a14, a15, a16], Sum.inl (Value.int x) :: st, s, k) := zev_go rfl rfl
set_option maxRecDepth 8000 in
theorem zr_L_law_124 {sc : List Int32} (ls : zLs) (st : List zAV) (s : zAS) (k : Nat × Nat) (o i : Nat) (j : Int32) : zev (zk_L_law sc) (124, ls, Sum.inl (Value.int j) :: Sum.inr (o, i) :: st, s, k) = zpush (zk_L_law sc) 125 ls st s k (zald (zES sc) o i j s) := zf_iald rfl
set_option maxRecDepth 8000 in
theorem zr_L_law_125 {sc : List Int32} (ls : zLs) (st : List zAV) (s : zAS) (k : Nat × Nat) (x : Int32) : zev (zk_L_law sc) (125, ls, Sum.inl (Value.int x) :: st, s, k) = if decide (¬ x = 0) = true then zev (zk_L_law sc) (132, ls, st, s, k) else zev (zk_L_law sc) (128, ls, st, s, k) := zf_if (f := fun x => decide (¬ x = 0)) rfl
set_option maxRecDepth 8000 in
theorem zr_L_law_128 {sc : List Int32} (ls : zLs) (st : List zAV) (s : zAS) (k : Nat × Nat) : zev (zk_L_law sc) (128, ls, st, s, k) = zev (zk_L_law sc) (129, ls, Sum.inl (Value.int (1)) :: st, s, k) := zev_go rfl rfl
set_option maxRecDepth 8000 in
theorem zr_L_law_129 {sc : List Int32} (ls : zLs) (st : List zAV) (s : zAS) (k : Nat × Nat) : zev (zk_L_law sc) (129, ls, st, s, k) = zev (zk_L_law sc) (148, ls, st, s, k) := zev_go rfl rfl
set_option maxRecDepth 8000 in
theorem zr_L_law_132 {sc : List Int32} (a0 a1 a2 a3 a5 a6 a7 a8 a9 a10 a11 a12 a13 a14 a15 a16 : Option zAV) (st : List zAV) (s : zAS) (k : Nat × Nat) (o : Nat × Nat) : zev (zk_L_law sc) (132, [a0, a1, a2, a3, some (Sum.inr o), a5, a6, a7, a8, a9, a10, a11, a12, a13, a14, a15, a16], st, s, k) = zev (zk_L_law sc) (134, [a0, a1, a2, a3, some (Sum.inr o), a5, a6, a7, a8, a9, a10, a11, a12, a13, a14, a15, a16], Sum.inr o :: st, s, k) := zev_go rfl rfl
set_option maxRecDepth 8000 in
theorem zr_L_law_134 {sc : List Int32} (a0 a1 a2 a3 a4 a5 a7 a8 a9 a10 a11 a12 a13 a14 a15 a16 : Option zAV) (st : List zAV) (s : zAS) (k : Nat × Nat) (x : Int32) : zev (zk_L_law sc) (134, [a0, a1, a2, a3, a4, a5, some (Sum.inl (Value.int x)), a7, a8, a9, a10, a11, a12, a13, a14, a15, a16], st, s, k) = zev (zk_L_law sc) (136, [a0, a1, a2, a3, a4, a5, some (Sum.inl (Value.int x)), a7, a8, a9, a10, a11, a12, a13, a14, a15, a16], Sum.inl (Value.int x) :: st, s, k) := zev_go rfl rfl
set_option maxRecDepth 8000 in
theorem zr_L_law_136 {sc : List Int32} (ls : zLs) (st : List zAV) (s : zAS) (k : Nat × Nat) (o i : Nat) (j : Int32) : zev (zk_L_law sc) (136, ls, Sum.inl (Value.int j) :: Sum.inr (o, i) :: st, s, k) = zpush (zk_L_law sc) 137 ls st s k (zald (zES sc) o i j s) := zf_iald rfl
set_option maxRecDepth 8000 in
theorem zr_L_law_137 {sc : List Int32} (ls : zLs) (st : List zAV) (s : zAS) (k : Nat × Nat) : zev (zk_L_law sc) (137, ls, st, s, k) = zev (zk_L_law sc) (138, ls, Sum.inl (Value.int (1)) :: st, s, k) := zev_go rfl rfl
set_option maxRecDepth 8000 in
theorem zr_L_law_138 {sc : List Int32} (ls : zLs) (st : List zAV) (s : zAS) (k : Nat × Nat) (x y : Int32) : zev (zk_L_law sc) (138, ls, Sum.inl (Value.int y) :: Sum.inl (Value.int x) :: st, s, k) = if decide (¬ x = y) = true then zev (zk_L_law sc) (145, ls, st, s, k) else zev (zk_L_law sc) (141, ls, st, s, k) := zf_cmp (f := fun x y => decide (¬ x = y)) rfl
set_option maxRecDepth 8000 in
theorem zr_L_law_141 {sc : List Int32} (a0 a1 a3 a4 a5 a6 a7 a8 a9 a10 a11 a12 a13 a14 a15 a16 : Option zAV) (st : List zAV) (s : zAS) (k : Nat × Nat) (x : Int32) : zev (zk_L_law sc) (141, [a0, a1, some (Sum.inl (Value.int x)), a3, a4, a5, a6, a7, a8, a9, a10, a11, a12, a13, a14, a15, a16], st, s, k) = zev (zk_L_law sc) (142, [a0, a1, some (Sum.inl (Value.int x)), a3, a4, a5, a6, a7, a8, a9, a10, a11, a12, a13, a14, a15, a16], Sum.inl (Value.int x) :: st, s, k) := zev_go rfl rfl
set_option maxRecDepth 8000 in
theorem zr_L_law_142 {sc : List Int32} (ls : zLs) (st : List zAV) (s : zAS) (k : Nat × Nat) : zev (zk_L_law sc) (142, ls, st, s, k) = zev (zk_L_law sc) (148, ls, st, s, k) := zev_go rfl rfl
set_option maxRecDepth 8000 in
theorem zr_L_law_145 {sc : List Int32} (a0 a1 a3 a4 a5 a6 a7 a8 a9 a10 a11 a12 a13 a14 a15 a16 : Option zAV) (st : List zAV) (s : zAS) (k : Nat × Nat) (x : Int32) : zev (zk_L_law sc) (145, [a0, a1, some (Sum.inl (Value.int x)), a3, a4, a5, a6, a7, a8, a9, a10, a11, a12, a13, a14, a15, a16], st, s, k) = zev (zk_L_law sc) (146, [a0, a1, some (Sum.inl (Value.int x)), a3, a4, a5, a6, a7, a8, a9, a10, a11, a12, a13, a14, a15, a16], Sum.inl (Value.int x) :: st, s, k) := zev_go rfl rfl
set_option maxRecDepth 8000 in
theorem zr_L_law_146 {sc : List Int32} (ls : zLs) (st : List zAV) (s : zAS) (k : Nat × Nat) : zev (zk_L_law sc) (146, ls, st, s, k) = zev (zk_L_law sc) (147, ls, Sum.inl (Value.int (1)) :: st, s, k) := zev_go rfl rfl
set_option maxRecDepth 8000 in
theorem zr_L_law_147 {sc : List Int32} (ls : zLs) (st : List zAV) (s : zAS) (k : Nat × Nat) (x y : Int32) : zev (zk_L_law sc) (147, ls, Sum.inl (Value.int y) :: Sum.inl (Value.int x) :: st, s, k) = zev (zk_L_law sc) (148, ls, Sum.inl (Value.int (x + y)) :: st, s, k) := zev_go rfl rfl
set_option maxRecDepth 8000 in
theorem zr_L_law_148 {sc : List Int32} (ls : zLs) (st : List zAV) (s : zAS) (k : Nat × Nat) (x y : Int32) : zev (zk_L_law sc) (148, ls, Sum.inl (Value.int y) :: Sum.inl (Value.int x) :: st, s, k) = if decide (x = y) = true then zev (zk_L_law sc) (153, ls, st, s, k) else zev (zk_L_law sc) (151, ls, st, s, k) := zf_cmp (f := fun x y => decide (x = y)) rfl
set_option maxRecDepth 8000 in
theorem zr_L_law_151 {sc : List Int32} (ls : zLs) (st : List zAV) (s : zAS) (k : Nat × Nat) : zev (zk_L_law sc) (151, ls, st, s, k) = zev (zk_L_law sc) (152, ls, Sum.inl (Value.int (0)) :: st, s, k) := zev_go rfl rfl
set_option maxRecDepth 8000 in
theorem zr_L_law_152 {sc : List Int32} (ls : zLs) (s : zAS) (k : Nat × Nat) (x : Int32) (hx : x = 0 ∨ x = 1) : zev (zk_L_law sc) (152, ls, [Sum.inl (Value.int x)], s, k) = some (.inl (some (Sum.inl (Value.int x))), s) := zf_retz rfl hx
set_option maxRecDepth 8000 in
theorem zr_L_law_153 {sc : List Int32} (a0 a2 a3 a4 a5 a6 a7 a8 a9 a10 a11 a12 a13 a14 a15 a16 : Option zAV) (st : List zAV) (s : zAS) (k : Nat × Nat) (o : Nat × Nat) : zev (zk_L_law sc) (153, [a0, some (Sum.inr o), a2, a3, a4, a5, a6, a7, a8, a9, a10, a11, a12, a13, a14, a15, a16], st, s, k) = zev (zk_L_law sc) (154, [a0, some (Sum.inr o), a2, a3, a4, a5, a6, a7, a8, a9, a10, a11, a12, a13, a14, a15, a16], Sum.inr o :: st, s, k) := zev_go rfl rfl
set_option maxRecDepth 8000 in
theorem zr_L_law_154 {sc : List Int32} (a0 a1 a2 a3 a4 a5 a7 a8 a9 a10 a11 a12 a13 a14 a15 a16 : Option zAV) (st : List zAV) (s : zAS) (k : Nat × Nat) (x : Int32) : zev (zk_L_law sc) (154, [a0, a1, a2, a3, a4, a5, some (Sum.inl (Value.int x)), a7, a8, a9, a10, a11, a12, a13, a14, a15, a16], st, s, k) = zev (zk_L_law sc) (156, [a0, a1, a2, a3, a4, a5, some (Sum.inl (Value.int x)), a7, a8, a9, a10, a11, a12, a13, a14, a15, a16], Sum.inl (Value.int x) :: st, s, k) := zev_go rfl rfl
set_option maxRecDepth 8000 in
theorem zr_L_law_156 {sc : List Int32} (ls : zLs) (st : List zAV) (s : zAS) (k : Nat × Nat) : zev (zk_L_law sc) (156, ls, st, s, k) = zev (zk_L_law sc) (157, ls, Sum.inl (Value.int (1)) :: st, s, k) := zev_go rfl rfl
set_option maxRecDepth 8000 in
theorem zr_L_law_157 {sc : List Int32} (ls : zLs) (st : List zAV) (s : zAS) (k : Nat × Nat) (r v0 v1 : zAV) (h : zcok (zES sc) 8 0 0 (zR_L_law).cells (zR_L_law).slots r st k) : zev (zk_L_law sc) (157, ls, v1 :: v0 :: r :: st, s, k) = zret (zk_L_law sc) 160 ls st (k.1 + 0, k.2 + 0) (m_X8_object [r, v0, v1] s) := zf_callV (as := [v1, v0]) 2 rfl rfl h
set_option maxRecDepth 8000 in
theorem zr_L_law_160 {sc : List Int32} (a0 a1 a2 a3 a4 a5 a6 a7 a8 a9 a10 a11 a12 a13 a14 a15 a16 : Option zAV) (st : List zAV) (s : zAS) (k : Nat × Nat) (x : Int32) : zev (zk_L_law sc) (160, [a0, a1, a2, a3, a4, a5, a6, a7, a8, a9, a10, a11, a12, a13, a14, a15, a16], Sum.inl (Value.int x) :: st, s, k) = zev (zk_L_law sc) (162, [a0, a1, a2, a3, a4, a5, a6, zk1 a7, some (Sum.inl (Value.int x)), a9, a10, a11, a12, a13, a14, a15, a16], st, s, k) := zev_go rfl rfl
set_option maxRecDepth 8000 in
theorem zr_L_law_162 {sc : List Int32} (ls : zLs) (st : List zAV) (s : zAS) (k : Nat × Nat) : zev (zk_L_law sc) (162, ls, st, s, k) = zev (zk_L_law sc) (163, ls, Sum.inl (Value.int (2)) :: st, s, k) := zev_go rfl rfl
set_option maxRecDepth 8000 in
theorem zr_L_law_163 {sc : List Int32} (a0 a1 a2 a3 a4 a5 a6 a7 a8 a9 a10 a11 a12 a13 a14 a15 a16 : Option zAV) (st : List zAV) (s : zAS) (k : Nat × Nat) (x : Int32) : zev (zk_L_law sc) (163, [a0, a1, a2, a3, a4, a5, a6, a7, a8, a9, a10, a11, a12, a13, a14, a15, a16], Sum.inl (Value.int x) :: st, s, k) = zev (zk_L_law sc) (165, [a0, a1, a2, a3, a4, a5, a6, a7, zk1 a8, some (Sum.inl (Value.int x)), a10, a11, a12, a13, a14, a15, a16], st, s, k) := zev_go rfl rfl
set_option maxRecDepth 8000 in
theorem zr_L_law_165 {sc : List Int32} (a0 a1 a2 a3 a4 a5 a6 a7 a8 a10 a11 a12 a13 a14 a15 a16 : Option zAV) (st : List zAV) (s : zAS) (k : Nat × Nat) (x : Int32) : zev (zk_L_law sc) (165, [a0, a1, a2, a3, a4, a5, a6, a7, a8, some (Sum.inl (Value.int x)), a10, a11, a12, a13, a14, a15, a16], st, s, k) = zev (zk_L_law sc) (167, [a0, a1, a2, a3, a4, a5, a6, a7, a8, some (Sum.inl (Value.int x)), a10, a11, a12, a13, a14, a15, a16], Sum.inl (Value.int x) :: st, s, k) := zev_go rfl rfl
set_option maxRecDepth 8000 in
theorem zr_L_law_167 {sc : List Int32} (ls : zLs) (st : List zAV) (s : zAS) (k : Nat × Nat) : zev (zk_L_law sc) (167, ls, st, s, k) = zev (zk_L_law sc) (168, ls, Sum.inl (Value.int (5)) :: st, s, k) := zev_go rfl rfl
set_option maxRecDepth 8000 in
theorem zr_L_law_168 {sc : List Int32} (ls : zLs) (st : List zAV) (s : zAS) (k : Nat × Nat) (x y : Int32) : zev (zk_L_law sc) (168, ls, Sum.inl (Value.int y) :: Sum.inl (Value.int x) :: st, s, k) = if decide (y ≤ x) = true then zev (zk_L_law sc) (217, ls, st, s, k) else zev (zk_L_law sc) (171, ls, st, s, k) := zf_cmp (f := fun x y => decide (y ≤ x)) rfl
set_option maxRecDepth 8000 in
theorem zr_L_law_171 {sc : List Int32} (a0 a2 a3 a4 a5 a6 a7 a8 a9 a10 a11 a12 a13 a14 a15 a16 : Option zAV) (st : List zAV) (s : zAS) (k : Nat × Nat) (o : Nat × Nat) : zev (zk_L_law sc) (171, [a0, some (Sum.inr o), a2, a3, a4, a5, a6, a7, a8, a9, a10, a11, a12, a13, a14, a15, a16], st, s, k) = zev (zk_L_law sc) (172, [a0, some (Sum.inr o), a2, a3, a4, a5, a6, a7, a8, a9, a10, a11, a12, a13, a14, a15, a16], Sum.inr o :: st, s, k) := zev_go rfl rfl
set_option maxRecDepth 8000 in
theorem zr_L_law_172 {sc : List Int32} (a0 a1 a2 a3 a4 a5 a7 a8 a9 a10 a11 a12 a13 a14 a15 a16 : Option zAV) (st : List zAV) (s : zAS) (k : Nat × Nat) (x : Int32) : zev (zk_L_law sc) (172, [a0, a1, a2, a3, a4, a5, some (Sum.inl (Value.int x)), a7, a8, a9, a10, a11, a12, a13, a14, a15, a16], st, s, k) = zev (zk_L_law sc) (174, [a0, a1, a2, a3, a4, a5, some (Sum.inl (Value.int x)), a7, a8, a9, a10, a11, a12, a13, a14, a15, a16], Sum.inl (Value.int x) :: st, s, k) := zev_go rfl rfl
set_option maxRecDepth 8000 in
theorem zr_L_law_174 {sc : List Int32} (a0 a1 a2 a3 a4 a5 a6 a7 a8 a10 a11 a12 a13 a14 a15 a16 : Option zAV) (st : List zAV) (s : zAS) (k : Nat × Nat) (x : Int32) : zev (zk_L_law sc) (174, [a0, a1, a2, a3, a4, a5, a6, a7, a8, some (Sum.inl (Value.int x)), a10, a11, a12, a13, a14, a15, a16], st, s, k) = zev (zk_L_law sc) (176, [a0, a1, a2, a3, a4, a5, a6, a7, a8, some (Sum.inl (Value.int x)), a10, a11, a12, a13, a14, a15, a16], Sum.inl (Value.int x) :: st, s, k) := zev_go rfl rfl
set_option maxRecDepth 8000 in
theorem zr_L_law_176 {sc : List Int32} (ls : zLs) (st : List zAV) (s : zAS) (k : Nat × Nat) (r v0 v1 : zAV) (h : zcok (zES sc) 8 0 0 (zR_L_law).cells (zR_L_law).slots r st k) : zev (zk_L_law sc) (176, ls, v1 :: v0 :: r :: st, s, k) = zret (zk_L_law sc) 179 ls st (k.1 + 0, k.2 + 0) (m_X8_object [r, v0, v1] s) := zf_callV (as := [v1, v0]) 2 rfl rfl h
set_option maxRecDepth 8000 in
theorem zr_L_law_179 {sc : List Int32} (a0 a1 a2 a3 a4 a5 a6 a7 a8 a9 a10 a11 a12 a13 a14 a15 a16 : Option zAV) (st : List zAV) (s : zAS) (k : Nat × Nat) (x : Int32) : zev (zk_L_law sc) (179, [a0, a1, a2, a3, a4, a5, a6, a7, a8, a9, a10, a11, a12, a13, a14, a15, a16], Sum.inl (Value.int x) :: st, s, k) = zev (zk_L_law sc) (181, [a0, a1, a2, a3, a4, a5, a6, a7, a8, zk1 a9, some (Sum.inl (Value.int x)), a11, a12, a13, a14, a15, a16], st, s, k) := zev_go rfl rfl
set_option maxRecDepth 8000 in
theorem zr_L_law_181 {sc : List Int32} (a0 a1 a2 a3 a4 a5 a6 a7 a8 a9 a11 a12 a13 a14 a15 a16 : Option zAV) (st : List zAV) (s : zAS) (k : Nat × Nat) (x : Int32) : zev (zk_L_law sc) (181, [a0, a1, a2, a3, a4, a5, a6, a7, a8, a9, some (Sum.inl (Value.int x)), a11, a12, a13, a14, a15, a16], st, s, k) = zev (zk_L_law sc) (183, [a0, a1, a2, a3, a4, a5, a6, a7, a8, a9, some (Sum.inl (Value.int x)), a11, a12, a13, a14, a15, a16], Sum.inl (Value.int x) :: st, s, k) := zev_go rfl rfl
set_option maxRecDepth 8000 in
theorem zr_L_law_183 {sc : List Int32} (a0 a1 a2 a3 a4 a5 a7 a8 a9 a10 a11 a12 a13 a14 a15 a16 : Option zAV) (st : List zAV) (s : zAS) (k : Nat × Nat) (x : Int32) : zev (zk_L_law sc) (183, [a0, a1, a2, a3, a4, a5, some (Sum.inl (Value.int x)), a7, a8, a9, a10, a11, a12, a13, a14, a15, a16], st, s, k) = zev (zk_L_law sc) (185, [a0, a1, a2, a3, a4, a5, some (Sum.inl (Value.int x)), a7, a8, a9, a10, a11, a12, a13, a14, a15, a16], Sum.inl (Value.int x) :: st, s, k) := zev_go rfl rfl
set_option maxRecDepth 8000 in
theorem zr_L_law_185 {sc : List Int32} (ls : zLs) (st : List zAV) (s : zAS) (k : Nat × Nat) (x y : Int32) : zev (zk_L_law sc) (185, ls, Sum.inl (Value.int y) :: Sum.inl (Value.int x) :: st, s, k) = if decide (y ≤ x) = true then zev (zk_L_law sc) (209, ls, st, s, k) else zev (zk_L_law sc) (188, ls, st, s, k) := zf_cmp (f := fun x y => decide (y ≤ x)) rfl
set_option maxRecDepth 8000 in
theorem zr_L_law_188 {sc : List Int32} (a0 a1 a2 a3 a4 a5 a6 a7 a8 a9 a11 a12 a13 a14 a15 a16 : Option zAV) (st : List zAV) (s : zAS) (k : Nat × Nat) (x : Int32) : zev (zk_L_law sc) (188, [a0, a1, a2, a3, a4, a5, a6, a7, a8, a9, some (Sum.inl (Value.int x)), a11, a12, a13, a14, a15, a16], st, s, k) = zev (zk_L_law sc) (190, [a0, a1, a2, a3, a4, a5, a6, a7, a8, a9, some (Sum.inl (Value.int x)), a11, a12, a13, a14, a15, a16], Sum.inl (Value.int x) :: st, s, k) := zev_go rfl rfl
set_option maxRecDepth 8000 in
theorem zr_L_law_190 {sc : List Int32} (ls : zLs) (st : List zAV) (s : zAS) (k : Nat × Nat) (x : Int32) : zev (zk_L_law sc) (190, ls, Sum.inl (Value.int x) :: st, s, k) = if decide (x < 0) = true then zev (zk_L_law sc) (211, ls, st, s, k) else zev (zk_L_law sc) (193, ls, st, s, k) := zf_if (f := fun x => decide (x < 0)) rfl
set_option maxRecDepth 8000 in
theorem zr_L_law_193 {sc : List Int32} (a0 a2 a3 a4 a5 a6 a7 a8 a9 a10 a11 a12 a13 a14 a15 a16 : Option zAV) (st : List zAV) (s : zAS) (k : Nat × Nat) (o : Nat × Nat) : zev (zk_L_law sc) (193, [a0, some (Sum.inr o), a2, a3, a4, a5, a6, a7, a8, a9, a10, a11, a12, a13, a14, a15, a16], st, s, k) = zev (zk_L_law sc) (194, [a0, some (Sum.inr o), a2, a3, a4, a5, a6, a7, a8, a9, a10, a11, a12, a13, a14, a15, a16], Sum.inr o :: st, s, k) := zev_go rfl rfl
set_option maxRecDepth 8000 in
theorem zr_L_law_194 {sc : List Int32} (a0 a1 a2 a3 a4 a5 a6 a7 a8 a9 a11 a12 a13 a14 a15 a16 : Option zAV) (st : List zAV) (s : zAS) (k : Nat × Nat) (x : Int32) : zev (zk_L_law sc) (194, [a0, a1, a2, a3, a4, a5, a6, a7, a8, a9, some (Sum.inl (Value.int x)), a11, a12, a13, a14, a15, a16], st, s, k) = zev (zk_L_law sc) (196, [a0, a1, a2, a3, a4, a5, a6, a7, a8, a9, some (Sum.inl (Value.int x)), a11, a12, a13, a14, a15, a16], Sum.inl (Value.int x) :: st, s, k) := zev_go rfl rfl
set_option maxRecDepth 8000 in
theorem zr_L_law_196 {sc : List Int32} (ls : zLs) (st : List zAV) (s : zAS) (k : Nat × Nat) : zev (zk_L_law sc) (196, ls, st, s, k) = zev (zk_L_law sc) (197, ls, Sum.inl (Value.int (5)) :: st, s, k) := zev_go rfl rfl
set_option maxRecDepth 8000 in
theorem zr_L_law_197 {sc : List Int32} (ls : zLs) (st : List zAV) (s : zAS) (k : Nat × Nat) (r v0 v1 : zAV) (h : zcok (zES sc) 8 0 0 (zR_L_law).cells (zR_L_law).slots r st k) : zev (zk_L_law sc) (197, ls, v1 :: v0 :: r :: st, s, k) = zret (zk_L_law sc) 200 ls st (k.1 + 0, k.2 + 0) (m_X8_object [r, v0, v1] s) := zf_callV (as := [v1, v0]) 2 rfl rfl h
set_option maxRecDepth 8000 in
theorem zr_L_law_200 {sc : List Int32} (ls : zLs) (st : List zAV) (s : zAS) (k : Nat × Nat) : zev (zk_L_law sc) (200, ls, st, s, k) = zev (zk_L_law sc) (201, ls, Sum.inl (Value.int (1)) :: st, s, k) := zev_go rfl rfl
set_option maxRecDepth 8000 in
theorem zr_L_law_201 {sc : List Int32} (ls : zLs) (st : List zAV) (s : zAS) (k : Nat × Nat) (x y : Int32) : zev (zk_L_law sc) (201, ls, Sum.inl (Value.int y) :: Sum.inl (Value.int x) :: st, s, k) = if decide (¬ x = y) = true then zev (zk_L_law sc) (211, ls, st, s, k) else zev (zk_L_law sc) (204, ls, st, s, k) := zf_cmp (f := fun x y => decide (¬ x = y)) rfl
set_option maxRecDepth 8000 in
theorem zr_L_law_204 {sc : List Int32} (a0 a1 a2 a3 a4 a5 a6 a8 a9 a10 a11 a12 a13 a14 a15 a16 : Option zAV) (st : List zAV) (s : zAS) (k : Nat × Nat) (x : Int32) : zev (zk_L_law sc) (204, [a0, a1, a2, a3, a4, a5, a6, some (Sum.inl (Value.int x)), a8, a9, a10, a11, a12, a13, a14, a15, a16], st, s, k) = zev (zk_L_law sc) (206, [a0, a1, a2, a3, a4, a5, a6, some (Sum.inl (Value.int x)), a8, a9, a10, a11, a12, a13, a14, a15, a16], Sum.inl (Value.int x) :: st, s, k) := zev_go rfl rfl
set_option maxRecDepth 8000 in
theorem zr_L_law_206 {sc : List Int32} (ls : zLs) (st : List zAV) (s : zAS) (k : Nat × Nat) (x : Int32) : zev (zk_L_law sc) (206, ls, Sum.inl (Value.int x) :: st, s, k) = if decide (¬ x = 0) = true then zev (zk_L_law sc) (211, ls, st, s, k) else zev (zk_L_law sc) (209, ls, st, s, k) := zf_if (f := fun x => decide (¬ x = 0)) rfl
set_option maxRecDepth 8000 in
theorem zr_L_law_209 {sc : List Int32} (ls : zLs) (st : List zAV) (s : zAS) (k : Nat × Nat) : zev (zk_L_law sc) (209, ls, st, s, k) = zev (zk_L_law sc) (210, ls, Sum.inl (Value.int (0)) :: st, s, k) := zev_go rfl rfl
set_option maxRecDepth 8000 in
theorem zr_L_law_210 {sc : List Int32} (ls : zLs) (s : zAS) (k : Nat × Nat) (x : Int32) (hx : x = 0 ∨ x = 1) : zev (zk_L_law sc) (210, ls, [Sum.inl (Value.int x)], s, k) = some (.inl (some (Sum.inl (Value.int x))), s) := zf_retz rfl hx
set_option maxRecDepth 8000 in
theorem zr_L_law_211 {sc : List Int32} (a0 a1 a2 a3 a4 a5 a6 a7 a8 a10 a11 a12 a13 a14 a15 a16 : Option zAV) (st : List zAV) (s : zAS) (k : Nat × Nat) (x : Int32) : zev (zk_L_law sc) (211, [a0, a1, a2, a3, a4, a5, a6, a7, a8, some (Sum.inl (Value.int x)), a10, a11, a12, a13, a14, a15, a16], st, s, k) = zev (zk_L_law sc) (214, [a0, a1, a2, a3, a4, a5, a6, a7, zk1 a8, some (Sum.inl (Value.int (x + (1)))), a10, a11, a12, a13, a14, a15, a16], st, s, k) := zev_go rfl rfl
set_option maxRecDepth 8000 in
theorem zr_L_law_214 {sc : List Int32} (ls : zLs) (st : List zAV) (s : zAS) (k : Nat × Nat) : zev (zk_L_law sc) (214, ls, st, s, k) = zev (zk_L_law sc) (165, ls, st, s, k) := zev_go rfl rfl
set_option maxRecDepth 8000 in
theorem zr_L_law_217 {sc : List Int32} (a0 a1 a2 a3 a4 a5 a6 a8 a9 a10 a11 a12 a13 a14 a15 a16 : Option zAV) (st : List zAV) (s : zAS) (k : Nat × Nat) (x : Int32) : zev (zk_L_law sc) (217, [a0, a1, a2, a3, a4, a5, a6, some (Sum.inl (Value.int x)), a8, a9, a10, a11, a12, a13, a14, a15, a16], st, s, k) = zev (zk_L_law sc) (219, [a0, a1, a2, a3, a4, a5, a6, some (Sum.inl (Value.int x)), a8, a9, a10, a11, a12, a13, a14, a15, a16], Sum.inl (Value.int x) :: st, s, k) := zev_go rfl rfl
set_option maxRecDepth 8000 in
theorem zr_L_law_219 {sc : List Int32} (ls : zLs) (st : List zAV) (s : zAS) (k : Nat × Nat) (x : Int32) : zev (zk_L_law sc) (219, ls, Sum.inl (Value.int x) :: st, s, k) = if decide (¬ x = 0) = true then zev (zk_L_law sc) (298, ls, st, s, k) else zev (zk_L_law sc) (222, ls, st, s, k) := zf_if (f := fun x => decide (¬ x = 0)) rfl
set_option maxRecDepth 8000 in
theorem zr_L_law_222 {sc : List Int32} (a0 a1 a2 a3 a4 a5 a6 a7 a9 a10 a11 a12 a13 a14 a15 a16 : Option zAV) (st : List zAV) (s : zAS) (k : Nat × Nat) (x : Int32) : zev (zk_L_law sc) (222, [a0, a1, a2, a3, a4, a5, a6, a7, some (Sum.inl (Value.int x)), a9, a10, a11, a12, a13, a14, a15, a16], st, s, k) = zev (zk_L_law sc) (224, [a0, a1, a2, a3, a4, a5, a6, a7, some (Sum.inl (Value.int x)), a9, a10, a11, a12, a13, a14, a15, a16], Sum.inl (Value.int x) :: st, s, k) := zev_go rfl rfl
set_option maxRecDepth 8000 in
theorem zr_L_law_224 {sc : List Int32} (ls : zLs) (st : List zAV) (s : zAS) (k : Nat × Nat) : zev (zk_L_law sc) (224, ls, st, s, k) = zev (zk_L_law sc) (225, ls, Sum.inl (Value.int (2)) :: st, s, k) := zev_go rfl rfl
set_option maxRecDepth 8000 in
theorem zr_L_law_225 {sc : List Int32} (ls : zLs) (st : List zAV) (s : zAS) (k : Nat × Nat) (x y : Int32) : zev (zk_L_law sc) (225, ls, Sum.inl (Value.int y) :: Sum.inl (Value.int x) :: st, s, k) = if decide (x < y) = true then zev (zk_L_law sc) (298, ls, st, s, k) else zev (zk_L_law sc) (228, ls, st, s, k) := zf_cmp (f := fun x y => decide (x < y)) rfl
set_option maxRecDepth 8000 in
theorem zr_L_law_228 {sc : List Int32} (a0 a1 a2 a3 a4 a5 a6 a7 a9 a10 a11 a12 a13 a14 a15 a16 : Option zAV) (st : List zAV) (s : zAS) (k : Nat × Nat) (x : Int32) : zev (zk_L_law sc) (228, [a0, a1, a2, a3, a4, a5, a6, a7, some (Sum.inl (Value.int x)), a9, a10, a11, a12, a13, a14, a15, a16], st, s, k) = zev (zk_L_law sc) (230, [a0, a1, a2, a3, a4, a5, a6, a7, some (Sum.inl (Value.int x)), a9, a10, a11, a12, a13, a14, a15, a16], Sum.inl (Value.int x) :: st, s, k) := zev_go rfl rfl
set_option maxRecDepth 8000 in
theorem zr_L_law_230 {sc : List Int32} (ls : zLs) (st : List zAV) (s : zAS) (k : Nat × Nat) : zev (zk_L_law sc) (230, ls, st, s, k) = zev (zk_L_law sc) (232, ls, Sum.inl (Value.int (6)) :: st, s, k) := zev_go rfl rfl
set_option maxRecDepth 8000 in
theorem zr_L_law_232 {sc : List Int32} (ls : zLs) (st : List zAV) (s : zAS) (k : Nat × Nat) (x y : Int32) : zev (zk_L_law sc) (232, ls, Sum.inl (Value.int y) :: Sum.inl (Value.int x) :: st, s, k) = if decide (x ≤ y) = true then zev (zk_L_law sc) (238, ls, st, s, k) else zev (zk_L_law sc) (235, ls, st, s, k) := zf_cmp (f := fun x y => decide (x ≤ y)) rfl
set_option maxRecDepth 8000 in
theorem zr_L_law_235 {sc : List Int32} (ls : zLs) (st : List zAV) (s : zAS) (k : Nat × Nat) : zev (zk_L_law sc) (235, ls, st, s, k) = zev (zk_L_law sc) (298, ls, st, s, k) := zev_go rfl rfl
set_option maxRecDepth 8000 in
theorem zr_L_law_238 {sc : List Int32} (a0 a2 a3 a4 a5 a6 a7 a8 a9 a10 a11 a12 a13 a14 a15 a16 : Option zAV) (st : List zAV) (s : zAS) (k : Nat × Nat) (o : Nat × Nat) : zev (zk_L_law sc) (238, [a0, some (Sum.inr o), a2, a3, a4, a5, a6, a7, a8, a9, a10, a11, a12, a13, a14, a15, a16], st, s, k) = zev (zk_L_law sc) (239, [a0, some (Sum.inr o), a2, a3, a4, a5, a6, a7, a8, a9, a10, a11, a12, a13, a14, a15, a16], Sum.inr o :: st, s, k) := zev_go rfl rfl
set_option maxRecDepth 8000 in
theorem zr_L_law_239 {sc : List Int32} (a0 a1 a3 a4 a5 a6 a7 a8 a9 a10 a11 a12 a13 a14 a15 a16 : Option zAV) (st : List zAV) (s : zAS) (k : Nat × Nat) (x : Int32) : zev (zk_L_law sc) (239, [a0, a1, some (Sum.inl (Value.int x)), a3, a4, a5, a6, a7, a8, a9, a10, a11, a12, a13, a14, a15, a16], st, s, k) = zev (zk_L_law sc) (240, [a0, a1, some (Sum.inl (Value.int x)), a3, a4, a5, a6, a7, a8, a9, a10, a11, a12, a13, a14, a15, a16], Sum.inl (Value.int x) :: st, s, k) := zev_go rfl rfl
set_option maxRecDepth 8000 in
theorem zr_L_law_240 {sc : List Int32} (a0 a2 a3 a4 a5 a6 a7 a8 a9 a10 a11 a12 a13 a14 a15 a16 : Option zAV) (st : List zAV) (s : zAS) (k : Nat × Nat) (o : Nat × Nat) : zev (zk_L_law sc) (240, [a0, some (Sum.inr o), a2, a3, a4, a5, a6, a7, a8, a9, a10, a11, a12, a13, a14, a15, a16], st, s, k) = zev (zk_L_law sc) (241, [a0, some (Sum.inr o), a2, a3, a4, a5, a6, a7, a8, a9, a10, a11, a12, a13, a14, a15, a16], Sum.inr o :: st, s, k) := zev_go rfl rfl
set_option maxRecDepth 8000 in
theorem zr_L_law_241 {sc : List Int32} (a0 a1 a2 a3 a4 a5 a7 a8 a9 a10 a11 a12 a13 a14 a15 a16 : Option zAV) (st : List zAV) (s : zAS) (k : Nat × Nat) (x : Int32) : zev (zk_L_law sc) (241, [a0, a1, a2, a3, a4, a5, some (Sum.inl (Value.int x)), a7, a8, a9, a10, a11, a12, a13, a14, a15, a16], st, s, k) = zev (zk_L_law sc) (243, [a0, a1, a2, a3, a4, a5, some (Sum.inl (Value.int x)), a7, a8, a9, a10, a11, a12, a13, a14, a15, a16], Sum.inl (Value.int x) :: st, s, k) := zev_go rfl rfl
set_option maxRecDepth 8000 in
theorem zr_L_law_243 {sc : List Int32} (ls : zLs) (st : List zAV) (s : zAS) (k : Nat × Nat) : zev (zk_L_law sc) (243, ls, st, s, k) = zev (zk_L_law sc) (244, ls, Sum.inl (Value.int (2)) :: st, s, k) := zev_go rfl rfl
set_option maxRecDepth 8000 in
theorem zr_L_law_244 {sc : List Int32} (ls : zLs) (st : List zAV) (s : zAS) (k : Nat × Nat) (r v0 v1 : zAV) (h : zcok (zES sc) 8 0 0 (zR_L_law).cells (zR_L_law).slots r st k) : zev (zk_L_law sc) (244, ls, v1 :: v0 :: r :: st, s, k) = zret (zk_L_law sc) 247 ls st (k.1 + 0, k.2 + 0) (m_X8_object [r, v0, v1] s) := zf_callV (as := [v1, v0]) 2 rfl rfl h
set_option maxRecDepth 8000 in
theorem zr_L_law_247 {sc : List Int32} (a0 a2 a3 a4 a5 a6 a7 a8 a9 a10 a11 a12 a13 a14 a15 a16 : Option zAV) (st : List zAV) (s : zAS) (k : Nat × Nat) (o : Nat × Nat) : zev (zk_L_law sc) (247, [a0, some (Sum.inr o), a2, a3, a4, a5, a6, a7, a8, a9, a10, a11, a12, a13, a14, a15, a16], st, s, k) = zev (zk_L_law sc) (248, [a0, some (Sum.inr o), a2, a3, a4, a5, a6, a7, a8, a9, a10, a11, a12, a13, a14, a15, a16], Sum.inr o :: st, s, k) := zev_go rfl rfl
set_option maxRecDepth 8000 in
theorem zr_L_law_248 {sc : List Int32} (a0 a1 a2 a3 a4 a5 a7 a8 a9 a10 a11 a12 a13 a14 a15 a16 : Option zAV) (st : List zAV) (s : zAS) (k : Nat × Nat) (x : Int32) : zev (zk_L_law sc) (248, [a0, a1, a2, a3, a4, a5, some (Sum.inl (Value.int x)), a7, a8, a9, a10, a11, a12, a13, a14, a15, a16], st, s, k) = zev (zk_L_law sc) (250, [a0, a1, a2, a3, a4, a5, some (Sum.inl (Value.int x)), a7, a8, a9, a10, a11, a12, a13, a14, a15, a16], Sum.inl (Value.int x) :: st, s, k) := zev_go rfl rfl
set_option maxRecDepth 8000 in
theorem zr_L_law_250 {sc : List Int32} (ls : zLs) (st : List zAV) (s : zAS) (k : Nat × Nat) : zev (zk_L_law sc) (250, ls, st, s, k) = zev (zk_L_law sc) (251, ls, Sum.inl (Value.int (0)) :: st, s, k) := zev_go rfl rfl
set_option maxRecDepth 8000 in
theorem zr_L_law_251 {sc : List Int32} (ls : zLs) (st : List zAV) (s : zAS) (k : Nat × Nat) (r v0 v1 : zAV) (h : zcok (zES sc) 8 0 0 (zR_L_law).cells (zR_L_law).slots r st k) : zev (zk_L_law sc) (251, ls, v1 :: v0 :: r :: st, s, k) = zret (zk_L_law sc) 254 ls st (k.1 + 0, k.2 + 0) (m_X8_number [r, v0, v1] s) := zf_callV (as := [v1, v0]) 2 rfl rfl h
set_option maxRecDepth 8000 in
theorem zr_L_law_254 {sc : List Int32} (a0 a2 a3 a4 a5 a6 a7 a8 a9 a10 a11 a12 a13 a14 a15 a16 : Option zAV) (st : List zAV) (s : zAS) (k : Nat × Nat) (o : Nat × Nat) : zev (zk_L_law sc) (254, [a0, some (Sum.inr o), a2, a3, a4, a5, a6, a7, a8, a9, a10, a11, a12, a13, a14, a15, a16], st, s, k) = zev (zk_L_law sc) (255, [a0, some (Sum.inr o), a2, a3, a4, a5, a6, a7, a8, a9, a10, a11, a12, a13, a14, a15, a16], Sum.inr o :: st, s, k) := zev_go rfl rfl
set_option maxRecDepth 8000 in
theorem zr_L_law_255 {sc : List Int32} (a0 a1 a2 a3 a4 a5 a7 a8 a9 a10 a11 a12 a13 a14 a15 a16 : Option zAV) (st : List zAV) (s : zAS) (k : Nat × Nat) (x : Int32) : zev (zk_L_law sc) (255, [a0, a1, a2, a3, a4, a5, some (Sum.inl (Value.int x)), a7, a8, a9, a10, a11, a12, a13, a14, a15, a16], st, s, k) = zev (zk_L_law sc) (257, [a0, a1, a2, a3, a4, a5, some (Sum.inl (Value.int x)), a7, a8, a9, a10, a11, a12, a13, a14, a15, a16], Sum.inl (Value.int x) :: st, s, k) := zev_go rfl rfl
set_option maxRecDepth 8000 in
theorem zr_L_law_257 {sc : List Int32} (ls : zLs) (st : List zAV) (s : zAS) (k : Nat × Nat) : zev (zk_L_law sc) (257, ls, st, s, k) = zev (zk_L_law sc) (258, ls, Sum.inl (Value.int (1)) :: st, s, k) := zev_go rfl rfl
set_option maxRecDepth 8000 in
theorem zr_L_law_258 {sc : List Int32} (ls : zLs) (st : List zAV) (s : zAS) (k : Nat × Nat) (r v0 v1 : zAV) (h : zcok (zES sc) 8 0 0 (zR_L_law).cells (zR_L_law).slots r st k) : zev (zk_L_law sc) (258, ls, v1 :: v0 :: r :: st, s, k) = zret (zk_L_law sc) 261 ls st (k.1 + 0, k.2 + 0) (m_X8_number [r, v0, v1] s) := zf_callV (as := [v1, v0]) 2 rfl rfl h
set_option maxRecDepth 8000 in
theorem zr_L_law_261 {sc : List Int32} (ls : zLs) (st : List zAV) (s : zAS) (k : Nat × Nat) (v0 v1 v2 v3 v4 : zAV) (h : (st.map zcat).sum ≤ 8 ∧ k.1 + 0 ≤ (zR_L_law).cells ∧ k.2 + 0 ≤ (zR_L_law).slots) : zev (zk_L_law sc) (261, ls, v4 :: v3 :: v2 :: v1 :: v0 :: st, s, k) = zret (zk_L_law sc) 264 ls st (k.1 + 0, k.2 + 0) ((m_L_has sc) [v0, v1, v2, v3, v4] s) := zf_callS (as := [v4, v3, v2, v1, v0]) 5 rfl rfl h
set_option maxRecDepth 8000 in
theorem zr_L_law_264 {sc : List Int32} (ls : zLs) (st : List zAV) (s : zAS) (k : Nat × Nat) (x : Int32) : zev (zk_L_law sc) (264, ls, Sum.inl (Value.int x) :: st, s, k) = if decide (x = 0) = true then zev (zk_L_law sc) (296, ls, st, s, k) else zev (zk_L_law sc) (267, ls, st, s, k) := zf_if (f := fun x => decide (x = 0)) rfl
set_option maxRecDepth 8000 in
theorem zr_L_law_267 {sc : List Int32} (a0 a2 a3 a4 a5 a6 a7 a8 a9 a10 a11 a12 a13 a14 a15 a16 : Option zAV) (st : List zAV) (s : zAS) (k : Nat × Nat) (o : Nat × Nat) : zev (zk_L_law sc) (267, [a0, some (Sum.inr o), a2, a3, a4, a5, a6, a7, a8, a9, a10, a11, a12, a13, a14, a15, a16], st, s, k) = zev (zk_L_law sc) (268, [a0, some (Sum.inr o), a2, a3, a4, a5, a6, a7, a8, a9, a10, a11, a12, a13, a14, a15, a16], Sum.inr o :: st, s, k) := zev_go rfl rfl
set_option maxRecDepth 8000 in
theorem zr_L_law_268 {sc : List Int32} (a0 a1 a3 a4 a5 a6 a7 a8 a9 a10 a11 a12 a13 a14 a15 a16 : Option zAV) (st : List zAV) (s : zAS) (k : Nat × Nat) (x : Int32) : zev (zk_L_law sc) (268, [a0, a1, some (Sum.inl (Value.int x)), a3, a4, a5, a6, a7, a8, a9, a10, a11, a12, a13, a14, a15, a16], st, s, k) = zev (zk_L_law sc) (269, [a0, a1, some (Sum.inl (Value.int x)), a3, a4, a5, a6, a7, a8, a9, a10, a11, a12, a13, a14, a15, a16], Sum.inl (Value.int x) :: st, s, k) := zev_go rfl rfl
set_option maxRecDepth 8000 in
theorem zr_L_law_269 {sc : List Int32} (a0 a2 a3 a4 a5 a6 a7 a8 a9 a10 a11 a12 a13 a14 a15 a16 : Option zAV) (st : List zAV) (s : zAS) (k : Nat × Nat) (o : Nat × Nat) : zev (zk_L_law sc) (269, [a0, some (Sum.inr o), a2, a3, a4, a5, a6, a7, a8, a9, a10, a11, a12, a13, a14, a15, a16], st, s, k) = zev (zk_L_law sc) (270, [a0, some (Sum.inr o), a2, a3, a4, a5, a6, a7, a8, a9, a10, a11, a12, a13, a14, a15, a16], Sum.inr o :: st, s, k) := zev_go rfl rfl
set_option maxRecDepth 8000 in
theorem zr_L_law_270 {sc : List Int32} (a0 a1 a2 a3 a4 a5 a7 a8 a9 a10 a11 a12 a13 a14 a15 a16 : Option zAV) (st : List zAV) (s : zAS) (k : Nat × Nat) (x : Int32) : zev (zk_L_law sc) (270, [a0, a1, a2, a3, a4, a5, some (Sum.inl (Value.int x)), a7, a8, a9, a10, a11, a12, a13, a14, a15, a16], st, s, k) = zev (zk_L_law sc) (272, [a0, a1, a2, a3, a4, a5, some (Sum.inl (Value.int x)), a7, a8, a9, a10, a11, a12, a13, a14, a15, a16], Sum.inl (Value.int x) :: st, s, k) := zev_go rfl rfl
set_option maxRecDepth 8000 in
theorem zr_L_law_272 {sc : List Int32} (ls : zLs) (st : List zAV) (s : zAS) (k : Nat × Nat) : zev (zk_L_law sc) (272, ls, st, s, k) = zev (zk_L_law sc) (273, ls, Sum.inl (Value.int (3)) :: st, s, k) := zev_go rfl rfl
set_option maxRecDepth 8000 in
theorem zr_L_law_273 {sc : List Int32} (ls : zLs) (st : List zAV) (s : zAS) (k : Nat × Nat) (r v0 v1 : zAV) (h : zcok (zES sc) 8 0 0 (zR_L_law).cells (zR_L_law).slots r st k) : zev (zk_L_law sc) (273, ls, v1 :: v0 :: r :: st, s, k) = zret (zk_L_law sc) 276 ls st (k.1 + 0, k.2 + 0) (m_X8_object [r, v0, v1] s) := zf_callV (as := [v1, v0]) 2 rfl rfl h
set_option maxRecDepth 8000 in
theorem zr_L_law_276 {sc : List Int32} (a0 a2 a3 a4 a5 a6 a7 a8 a9 a10 a11 a12 a13 a14 a15 a16 : Option zAV) (st : List zAV) (s : zAS) (k : Nat × Nat) (o : Nat × Nat) : zev (zk_L_law sc) (276, [a0, some (Sum.inr o), a2, a3, a4, a5, a6, a7, a8, a9, a10, a11, a12, a13, a14, a15, a16], st, s, k) = zev (zk_L_law sc) (277, [a0, some (Sum.inr o), a2, a3, a4, a5, a6, a7, a8, a9, a10, a11, a12, a13, a14, a15, a16], Sum.inr o :: st, s, k) := zev_go rfl rfl
set_option maxRecDepth 8000 in
theorem zr_L_law_277 {sc : List Int32} (a0 a1 a2 a3 a4 a5 a7 a8 a9 a10 a11 a12 a13 a14 a15 a16 : Option zAV) (st : List zAV) (s : zAS) (k : Nat × Nat) (x : Int32) : zev (zk_L_law sc) (277, [a0, a1, a2, a3, a4, a5, some (Sum.inl (Value.int x)), a7, a8, a9, a10, a11, a12, a13, a14, a15, a16], st, s, k) = zev (zk_L_law sc) (279, [a0, a1, a2, a3, a4, a5, some (Sum.inl (Value.int x)), a7, a8, a9, a10, a11, a12, a13, a14, a15, a16], Sum.inl (Value.int x) :: st, s, k) := zev_go rfl rfl
set_option maxRecDepth 8000 in
theorem zr_L_law_279 {sc : List Int32} (ls : zLs) (st : List zAV) (s : zAS) (k : Nat × Nat) : zev (zk_L_law sc) (279, ls, st, s, k) = zev (zk_L_law sc) (280, ls, Sum.inl (Value.int (0)) :: st, s, k) := zev_go rfl rfl
set_option maxRecDepth 8000 in
theorem zr_L_law_280 {sc : List Int32} (ls : zLs) (st : List zAV) (s : zAS) (k : Nat × Nat) (r v0 v1 : zAV) (h : zcok (zES sc) 8 0 0 (zR_L_law).cells (zR_L_law).slots r st k) : zev (zk_L_law sc) (280, ls, v1 :: v0 :: r :: st, s, k) = zret (zk_L_law sc) 283 ls st (k.1 + 0, k.2 + 0) (m_X8_number [r, v0, v1] s) := zf_callV (as := [v1, v0]) 2 rfl rfl h
set_option maxRecDepth 8000 in
theorem zr_L_law_283 {sc : List Int32} (a0 a2 a3 a4 a5 a6 a7 a8 a9 a10 a11 a12 a13 a14 a15 a16 : Option zAV) (st : List zAV) (s : zAS) (k : Nat × Nat) (o : Nat × Nat) : zev (zk_L_law sc) (283, [a0, some (Sum.inr o), a2, a3, a4, a5, a6, a7, a8, a9, a10, a11, a12, a13, a14, a15, a16], st, s, k) = zev (zk_L_law sc) (284, [a0, some (Sum.inr o), a2, a3, a4, a5, a6, a7, a8, a9, a10, a11, a12, a13, a14, a15, a16], Sum.inr o :: st, s, k) := zev_go rfl rfl
set_option maxRecDepth 8000 in
theorem zr_L_law_284 {sc : List Int32} (a0 a1 a2 a3 a4 a5 a7 a8 a9 a10 a11 a12 a13 a14 a15 a16 : Option zAV) (st : List zAV) (s : zAS) (k : Nat × Nat) (x : Int32) : zev (zk_L_law sc) (284, [a0, a1, a2, a3, a4, a5, some (Sum.inl (Value.int x)), a7, a8, a9, a10, a11, a12, a13, a14, a15, a16], st, s, k) = zev (zk_L_law sc) (286, [a0, a1, a2, a3, a4, a5, some (Sum.inl (Value.int x)), a7, a8, a9, a10, a11, a12, a13, a14, a15, a16], Sum.inl (Value.int x) :: st, s, k) := zev_go rfl rfl
set_option maxRecDepth 8000 in
theorem zr_L_law_286 {sc : List Int32} (ls : zLs) (st : List zAV) (s : zAS) (k : Nat × Nat) : zev (zk_L_law sc) (286, ls, st, s, k) = zev (zk_L_law sc) (287, ls, Sum.inl (Value.int (1)) :: st, s, k) := zev_go rfl rfl
set_option maxRecDepth 8000 in
theorem zr_L_law_287 {sc : List Int32} (ls : zLs) (st : List zAV) (s : zAS) (k : Nat × Nat) (r v0 v1 : zAV) (h : zcok (zES sc) 8 0 0 (zR_L_law).cells (zR_L_law).slots r st k) : zev (zk_L_law sc) (287, ls, v1 :: v0 :: r :: st, s, k) = zret (zk_L_law sc) 290 ls st (k.1 + 0, k.2 + 0) (m_X8_number [r, v0, v1] s) := zf_callV (as := [v1, v0]) 2 rfl rfl h
set_option maxRecDepth 8000 in
theorem zr_L_law_290 {sc : List Int32} (ls : zLs) (st : List zAV) (s : zAS) (k : Nat × Nat) (v0 v1 v2 v3 v4 : zAV) (h : (st.map zcat).sum ≤ 8 ∧ k.1 + 0 ≤ (zR_L_law).cells ∧ k.2 + 0 ≤ (zR_L_law).slots) : zev (zk_L_law sc) (290, ls, v4 :: v3 :: v2 :: v1 :: v0 :: st, s, k) = zret (zk_L_law sc) 293 ls st (k.1 + 0, k.2 + 0) ((m_L_has sc) [v0, v1, v2, v3, v4] s) := zf_callS (as := [v4, v3, v2, v1, v0]) 5 rfl rfl h
set_option maxRecDepth 8000 in
theorem zr_L_law_293 {sc : List Int32} (ls : zLs) (st : List zAV) (s : zAS) (k : Nat × Nat) (x : Int32) : zev (zk_L_law sc) (293, ls, Sum.inl (Value.int x) :: st, s, k) = if decide (¬ x = 0) = true then zev (zk_L_law sc) (298, ls, st, s, k) else zev (zk_L_law sc) (296, ls, st, s, k) := zf_if (f := fun x => decide (¬ x = 0)) rfl
set_option maxRecDepth 8000 in
theorem zr_L_law_296 {sc : List Int32} (ls : zLs) (st : List zAV) (s : zAS) (k : Nat × Nat) : zev (zk_L_law sc) (296, ls, st, s, k) = zev (zk_L_law sc) (297, ls, Sum.inl (Value.int (0)) :: st, s, k) := zev_go rfl rfl
set_option maxRecDepth 8000 in
theorem zr_L_law_297 {sc : List Int32} (ls : zLs) (s : zAS) (k : Nat × Nat) (x : Int32) (hx : x = 0 ∨ x = 1) : zev (zk_L_law sc) (297, ls, [Sum.inl (Value.int x)], s, k) = some (.inl (some (Sum.inl (Value.int x))), s) := zf_retz rfl hx
set_option maxRecDepth 8000 in
theorem zr_L_law_298 {sc : List Int32} (a0 a1 a2 a3 a4 a5 a7 a8 a9 a10 a11 a12 a13 a14 a15 a16 : Option zAV) (st : List zAV) (s : zAS) (k : Nat × Nat) (x : Int32) : zev (zk_L_law sc) (298, [a0, a1, a2, a3, a4, a5, some (Sum.inl (Value.int x)), a7, a8, a9, a10, a11, a12, a13, a14, a15, a16], st, s, k) = zev (zk_L_law sc) (301, [a0, a1, a2, a3, a4, zk1 a5, some (Sum.inl (Value.int (x + (1)))), a7, a8, a9, a10, a11, a12, a13, a14, a15, a16], st, s, k) := zev_go rfl rfl
set_option maxRecDepth 8000 in
theorem zr_L_law_301 {sc : List Int32} (ls : zLs) (st : List zAV) (s : zAS) (k : Nat × Nat) : zev (zk_L_law sc) (301, ls, st, s, k) = zev (zk_L_law sc) (54, ls, st, s, k) := zev_go rfl rfl
set_option maxRecDepth 8000 in
theorem zr_L_law_304 {sc : List Int32} (a0 a2 a3 a4 a5 a6 a7 a8 a9 a10 a11 a12 a13 a14 a15 a16 : Option zAV) (st : List zAV) (s : zAS) (k : Nat × Nat) (o : Nat × Nat) : zev (zk_L_law sc) (304, [a0, some (Sum.inr o), a2, a3, a4, a5, a6, a7, a8, a9, a10, a11, a12, a13, a14, a15, a16], st, s, k) = zev (zk_L_law sc) (305, [a0, some (Sum.inr o), a2, a3, a4, a5, a6, a7, a8, a9, a10, a11, a12, a13, a14, a15, a16], Sum.inr o :: st, s, k) := zev_go rfl rfl
set_option maxRecDepth 8000 in
theorem zr_L_law_305 {sc : List Int32} (ls : zLs) (st : List zAV) (s : zAS) (k : Nat × Nat) : zev (zk_L_law sc) (305, ls, st, s, k) = zev (zk_L_law sc) (306, ls, Sum.inl (Value.int (4)) :: st, s, k) := zev_go rfl rfl
set_option maxRecDepth 8000 in
theorem zr_L_law_306 {sc : List Int32} (ls : zLs) (st : List zAV) (s : zAS) (k : Nat × Nat) (r v0 : zAV) (h : zcok (zES sc) 8 0 0 (zR_L_law).cells (zR_L_law).slots r st k) : zev (zk_L_law sc) (306, ls, v0 :: r :: st, s, k) = zret (zk_L_law sc) 309 ls st (k.1 + 0, k.2 + 0) (m_X8_count [r, v0] s) := zf_callV (as := [v0]) 1 rfl rfl h
set_option maxRecDepth 8000 in
theorem zr_L_law_309 {sc : List Int32} (a0 a1 a2 a3 a4 a6 a7 a8 a9 a10 a11 a12 a13 a14 a15 a16 : Option zAV) (st : List zAV) (s : zAS) (k : Nat × Nat) (x : Int32) : zev (zk_L_law sc) (309, [a0, a1, a2, a3, a4, some (Sum.inl (Value.int x)), a6, a7, a8, a9, a10, a11, a12, a13, a14, a15, a16], st, s, k) = zev (zk_L_law sc) (311, [a0, a1, a2, a3, a4, some (Sum.inl (Value.int x)), a6, a7, a8, a9, a10, a11, a12, a13, a14, a15, a16], Sum.inl (Value.int x) :: st, s, k) := zev_go rfl rfl
set_option maxRecDepth 8000 in
theorem zr_L_law_311 {sc : List Int32} (ls : zLs) (st : List zAV) (s : zAS) (k : Nat × Nat) (x y : Int32) : zev (zk_L_law sc) (311, ls, Sum.inl (Value.int y) :: Sum.inl (Value.int x) :: st, s, k) = if decide (x = y) = true then zev (zk_L_law sc) (316, ls, st, s, k) else zev (zk_L_law sc) (314, ls, st, s, k) := zf_cmp (f := fun x y => decide (x = y)) rfl
set_option maxRecDepth 8000 in
theorem zr_L_law_314 {sc : List Int32} (ls : zLs) (st : List zAV) (s : zAS) (k : Nat × Nat) : zev (zk_L_law sc) (314, ls, st, s, k) = zev (zk_L_law sc) (315, ls, Sum.inl (Value.int (0)) :: st, s, k) := zev_go rfl rfl
set_option maxRecDepth 8000 in
theorem zr_L_law_315 {sc : List Int32} (ls : zLs) (s : zAS) (k : Nat × Nat) (x : Int32) (hx : x = 0 ∨ x = 1) : zev (zk_L_law sc) (315, ls, [Sum.inl (Value.int x)], s, k) = some (.inl (some (Sum.inl (Value.int x))), s) := zf_retz rfl hx
set_option maxRecDepth 8000 in
theorem zr_L_law_316 {sc : List Int32} (a0 a2 a3 a4 a5 a6 a7 a8 a9 a10 a11 a12 a13 a14 a15 a16 : Option zAV) (st : List zAV) (s : zAS) (k : Nat × Nat) (o : Nat × Nat) : zev (zk_L_law sc) (316, [a0, some (Sum.inr o), a2, a3, a4, a5, a6, a7, a8, a9, a10, a11, a12, a13, a14, a15, a16], st, s, k) = zev (zk_L_law sc) (317, [a0, some (Sum.inr o), a2, a3, a4, a5, a6, a7, a8, a9, a10, a11, a12, a13, a14, a15, a16], Sum.inr o :: st, s, k) := zev_go rfl rfl
set_option maxRecDepth 8000 in
theorem zr_L_law_317 {sc : List Int32} (ls : zLs) (st : List zAV) (s : zAS) (k : Nat × Nat) (r : zAV) (h : zcok (zES sc) 8 0 0 (zR_L_law).cells (zR_L_law).slots r st k) : zev (zk_L_law sc) (317, ls, r :: st, s, k) = zret (zk_L_law sc) 320 ls st (k.1 + 0, k.2 + 0) (m_X8_digest [r] s) := zf_callV (as := []) 0 rfl rfl h
set_option maxRecDepth 8000 in
theorem zr_L_law_320 {sc : List Int32} (a0 a1 a2 a3 a4 a5 a6 a7 a8 a9 a10 a11 a12 a13 a14 a15 a16 : Option zAV) (st : List zAV) (s : zAS) (k : Nat × Nat) (x : Int64) : zev (zk_L_law sc) (320, [a0, a1, a2, a3, a4, a5, a6, a7, a8, a9, a10, a11, a12, a13, a14, a15, a16], Sum.inl (Value.long x) :: st, s, k) = zev (zk_L_law sc) (322, [a0, a1, a2, a3, a4, zk1 a5, some (Sum.inl (Value.long x)), none, a8, a9, a10, a11, a12, a13, a14, a15, a16], st, s, k) := zev_go rfl rfl
set_option maxRecDepth 8000 in
theorem zr_L_law_322 {sc : List Int32} (a0 a1 a2 a3 a5 a6 a7 a8 a9 a10 a11 a12 a13 a14 a15 a16 : Option zAV) (st : List zAV) (s : zAS) (k : Nat × Nat) (o : Nat × Nat) : zev (zk_L_law sc) (322, [a0, a1, a2, a3, some (Sum.inr o), a5, a6, a7, a8, a9, a10, a11, a12, a13, a14, a15, a16], st, s, k) = zev (zk_L_law sc) (324, [a0, a1, a2, a3, some (Sum.inr o), a5, a6, a7, a8, a9, a10, a11, a12, a13, a14, a15, a16], Sum.inr o :: st, s, k) := zev_go rfl rfl
set_option maxRecDepth 8000 in
theorem zr_L_law_324 {sc : List Int32} (a0 a1 a2 a4 a5 a6 a7 a8 a9 a10 a11 a12 a13 a14 a15 a16 : Option zAV) (st : List zAV) (s : zAS) (k : Nat × Nat) (x : Int32) : zev (zk_L_law sc) (324, [a0, a1, a2, some (Sum.inl (Value.int x)), a4, a5, a6, a7, a8, a9, a10, a11, a12, a13, a14, a15, a16], st, s, k) = zev (zk_L_law sc) (325, [a0, a1, a2, some (Sum.inl (Value.int x)), a4, a5, a6, a7, a8, a9, a10, a11, a12, a13, a14, a15, a16], Sum.inl (Value.int x) :: st, s, k) := zev_go rfl rfl
set_option maxRecDepth 8000 in
theorem zr_L_law_325 {sc : List Int32} (ls : zLs) (st : List zAV) (s : zAS) (k : Nat × Nat) : zev (zk_L_law sc) (325, ls, st, s, k) = zev (zk_L_law sc) (326, ls, Sum.inl (Value.int (0)) :: st, s, k) := zev_go rfl rfl
set_option maxRecDepth 8000 in
theorem zr_L_law_326 {sc : List Int32} (a1 a2 a3 a4 a5 a6 a7 a8 a9 a10 a11 a12 a13 a14 a15 a16 : Option zAV) (st : List zAV) (s : zAS) (k : Nat × Nat) (o : Nat × Nat) : zev (zk_L_law sc) (326, [some (Sum.inr o), a1, a2, a3, a4, a5, a6, a7, a8, a9, a10, a11, a12, a13, a14, a15, a16], st, s, k) = zev (zk_L_law sc) (327, [some (Sum.inr o), a1, a2, a3, a4, a5, a6, a7, a8, a9, a10, a11, a12, a13, a14, a15, a16], Sum.inr o :: st, s, k) := zev_go rfl rfl
set_option maxRecDepth 8000 in
theorem zr_L_law_327 {sc : List Int32} (ls : zLs) (st : List zAV) (s : zAS) (k : Nat × Nat) : zev (zk_L_law sc) (327, ls, st, s, k) = zev (zk_L_law sc) (328, ls, Sum.inl (Value.int (1)) :: st, s, k) := zev_go rfl rfl
set_option maxRecDepth 8000 in
theorem zr_L_law_328 {sc : List Int32} (ls : zLs) (st : List zAV) (s : zAS) (k : Nat × Nat) (v0 v1 : zAV) (h : (st.map zcat).sum ≤ 8 ∧ k.1 + 0 ≤ (zR_L_law).cells ∧ k.2 + 0 ≤ (zR_L_law).slots) : zev (zk_L_law sc) (328, ls, v1 :: v0 :: st, s, k) = zret (zk_L_law sc) 331 ls st (k.1 + 0, k.2 + 0) ((m_L_cell sc) [v0, v1] s) := zf_callS (as := [v1, v0]) 2 rfl rfl h
set_option maxRecDepth 8000 in
theorem zr_L_law_331 {sc : List Int32} (ls : zLs) (st : List zAV) (s : zAS) (k : Nat × Nat) (v0 v1 v2 v3 : zAV) (h : (st.map zcat).sum ≤ 8 ∧ k.1 + 0 ≤ (zR_L_law).cells ∧ k.2 + 0 ≤ (zR_L_law).slots) : zev (zk_L_law sc) (331, ls, v3 :: v2 :: v1 :: v0 :: st, s, k) = zret (zk_L_law sc) 334 ls st (k.1 + 0, k.2 + 0) ((m_L_pick sc) [v0, v1, v2, v3] s) := zf_callS (as := [v3, v2, v1, v0]) 4 rfl rfl h
set_option maxRecDepth 8000 in
theorem zr_L_law_334 {sc : List Int32} (a0 a1 a2 a3 a4 a5 a6 a7 a8 a9 a10 a11 a12 a13 a14 a15 a16 : Option zAV) (st : List zAV) (s : zAS) (k : Nat × Nat) (x : Int32) : zev (zk_L_law sc) (334, [a0, a1, a2, a3, a4, a5, a6, a7, a8, a9, a10, a11, a12, a13, a14, a15, a16], Sum.inl (Value.int x) :: st, s, k) = zev (zk_L_law sc) (336, [a0, a1, a2, a3, a4, a5, a6, zk1 a7, some (Sum.inl (Value.int x)), a9, a10, a11, a12, a13, a14, a15, a16], st, s, k) := zev_go rfl rfl
set_option maxRecDepth 8000 in
theorem zr_L_law_336 {sc : List Int32} (ls : zLs) (st : List zAV) (s : zAS) (k : Nat × Nat) : zev (zk_L_law sc) (336, ls, st, s, k) = zev (zk_L_law sc) (337, ls, Sum.inl (Value.int (0)) :: st, s, k) := zev_go rfl rfl
set_option maxRecDepth 8000 in
theorem zr_L_law_337 {sc : List Int32} (a0 a1 a2 a3 a4 a5 a6 a7 a8 a9 a10 a11 a12 a13 a14 a15 a16 : Option zAV) (st : List zAV) (s : zAS) (k : Nat × Nat) (x : Int32) : zev (zk_L_law sc) (337, [a0, a1, a2, a3, a4, a5, a6, a7, a8, a9, a10, a11, a12, a13, a14, a15, a16], Sum.inl (Value.int x) :: st, s, k) = zev (zk_L_law sc) (339, [a0, a1, a2, a3, a4, a5, a6, a7, zk1 a8, some (Sum.inl (Value.int x)), a10, a11, a12, a13, a14, a15, a16], st, s, k) := zev_go rfl rfl
set_option maxRecDepth 8000 in
theorem zr_L_law_339 {sc : List Int32} (a0 a1 a2 a3 a4 a5 a6 a7 a8 a10 a11 a12 a13 a14 a15 a16 : Option zAV) (st : List zAV) (s : zAS) (k : Nat × Nat) (x : Int32) : zev (zk_L_law sc) (339, [a0, a1, a2, a3, a4, a5, a6, a7, a8, some (Sum.inl (Value.int x)), a10, a11, a12, a13, a14, a15, a16], st, s, k) = zev (zk_L_law sc) (341, [a0, a1, a2, a3, a4, a5, a6, a7, a8, some (Sum.inl (Value.int x)), a10, a11, a12, a13, a14, a15, a16], Sum.inl (Value.int x) :: st, s, k) := zev_go rfl rfl
set_option maxRecDepth 8000 in
theorem zr_L_law_341 {sc : List Int32} (a0 a1 a2 a4 a5 a6 a7 a8 a9 a10 a11 a12 a13 a14 a15 a16 : Option zAV) (st : List zAV) (s : zAS) (k : Nat × Nat) (x : Int32) : zev (zk_L_law sc) (341, [a0, a1, a2, some (Sum.inl (Value.int x)), a4, a5, a6, a7, a8, a9, a10, a11, a12, a13, a14, a15, a16], st, s, k) = zev (zk_L_law sc) (342, [a0, a1, a2, some (Sum.inl (Value.int x)), a4, a5, a6, a7, a8, a9, a10, a11, a12, a13, a14, a15, a16], Sum.inl (Value.int x) :: st, s, k) := zev_go rfl rfl
set_option maxRecDepth 8000 in
theorem zr_L_law_342 {sc : List Int32} (ls : zLs) (st : List zAV) (s : zAS) (k : Nat × Nat) (x y : Int32) : zev (zk_L_law sc) (342, ls, Sum.inl (Value.int y) :: Sum.inl (Value.int x) :: st, s, k) = if decide (y ≤ x) = true then zev (zk_L_law sc) (493, ls, st, s, k) else zev (zk_L_law sc) (345, ls, st, s, k) := zf_cmp (f := fun x y => decide (y ≤ x)) rfl
set_option maxRecDepth 8000 in
theorem zr_L_law_345 {sc : List Int32} (a0 a2 a3 a4 a5 a6 a7 a8 a9 a10 a11 a12 a13 a14 a15 a16 : Option zAV) (st : List zAV) (s : zAS) (k : Nat × Nat) (o : Nat × Nat) : zev (zk_L_law sc) (345, [a0, some (Sum.inr o), a2, a3, a4, a5, a6, a7, a8, a9, a10, a11, a12, a13, a14, a15, a16], st, s, k) = zev (zk_L_law sc) (346, [a0, some (Sum.inr o), a2, a3, a4, a5, a6, a7, a8, a9, a10, a11, a12, a13, a14, a15, a16], Sum.inr o :: st, s, k) := zev_go rfl rfl
set_option maxRecDepth 8000 in
theorem zr_L_law_346 {sc : List Int32} (a0 a1 a2 a3 a4 a5 a6 a7 a8 a10 a11 a12 a13 a14 a15 a16 : Option zAV) (st : List zAV) (s : zAS) (k : Nat × Nat) (x : Int32) : zev (zk_L_law sc) (346, [a0, a1, a2, a3, a4, a5, a6, a7, a8, some (Sum.inl (Value.int x)), a10, a11, a12, a13, a14, a15, a16], st, s, k) = zev (zk_L_law sc) (348, [a0, a1, a2, a3, a4, a5, a6, a7, a8, some (Sum.inl (Value.int x)), a10, a11, a12, a13, a14, a15, a16], Sum.inl (Value.int x) :: st, s, k) := zev_go rfl rfl
set_option maxRecDepth 8000 in
theorem zr_L_law_348 {sc : List Int32} (ls : zLs) (st : List zAV) (s : zAS) (k : Nat × Nat) : zev (zk_L_law sc) (348, ls, st, s, k) = zev (zk_L_law sc) (349, ls, Sum.inl (Value.int (1)) :: st, s, k) := zev_go rfl rfl
set_option maxRecDepth 8000 in
theorem zr_L_law_349 {sc : List Int32} (ls : zLs) (st : List zAV) (s : zAS) (k : Nat × Nat) (r v0 v1 : zAV) (h : zcok (zES sc) 8 0 0 (zR_L_law).cells (zR_L_law).slots r st k) : zev (zk_L_law sc) (349, ls, v1 :: v0 :: r :: st, s, k) = zret (zk_L_law sc) 352 ls st (k.1 + 0, k.2 + 0) (m_X8_object [r, v0, v1] s) := zf_callV (as := [v1, v0]) 2 rfl rfl h
set_option maxRecDepth 8000 in
theorem zr_L_law_352 {sc : List Int32} (ls : zLs) (st : List zAV) (s : zAS) (k : Nat × Nat) : zev (zk_L_law sc) (352, ls, st, s, k) = zev (zk_L_law sc) (353, ls, Sum.inl (Value.int (1)) :: st, s, k) := zev_go rfl rfl
set_option maxRecDepth 8000 in
theorem zr_L_law_353 {sc : List Int32} (ls : zLs) (st : List zAV) (s : zAS) (k : Nat × Nat) (x y : Int32) : zev (zk_L_law sc) (353, ls, Sum.inl (Value.int y) :: Sum.inl (Value.int x) :: st, s, k) = if decide (x = y) = true then zev (zk_L_law sc) (359, ls, st, s, k) else zev (zk_L_law sc) (356, ls, st, s, k) := zf_cmp (f := fun x y => decide (x = y)) rfl
set_option maxRecDepth 8000 in
theorem zr_L_law_356 {sc : List Int32} (ls : zLs) (st : List zAV) (s : zAS) (k : Nat × Nat) : zev (zk_L_law sc) (356, ls, st, s, k) = zev (zk_L_law sc) (487, ls, st, s, k) := zev_go rfl rfl
set_option maxRecDepth 8000 in
theorem zr_L_law_359 {sc : List Int32} (a0 a2 a3 a4 a5 a6 a7 a8 a9 a10 a11 a12 a13 a14 a15 a16 : Option zAV) (st : List zAV) (s : zAS) (k : Nat × Nat) (o : Nat × Nat) : zev (zk_L_law sc) (359, [a0, some (Sum.inr o), a2, a3, a4, a5, a6, a7, a8, a9, a10, a11, a12, a13, a14, a15, a16], st, s, k) = zev (zk_L_law sc) (360, [a0, some (Sum.inr o), a2, a3, a4, a5, a6, a7, a8, a9, a10, a11, a12, a13, a14, a15, a16], Sum.inr o :: st, s, k) := zev_go rfl rfl
set_option maxRecDepth 8000 in
theorem zr_L_law_360 {sc : List Int32} (a0 a1 a2 a3 a4 a5 a6 a7 a9 a10 a11 a12 a13 a14 a15 a16 : Option zAV) (st : List zAV) (s : zAS) (k : Nat × Nat) (x : Int32) : zev (zk_L_law sc) (360, [a0, a1, a2, a3, a4, a5, a6, a7, some (Sum.inl (Value.int x)), a9, a10, a11, a12, a13, a14, a15, a16], st, s, k) = zev (zk_L_law sc) (362, [a0, a1, a2, a3, a4, a5, a6, a7, some (Sum.inl (Value.int x)), a9, a10, a11, a12, a13, a14, a15, a16], Sum.inl (Value.int x) :: st, s, k) := zev_go rfl rfl
set_option maxRecDepth 8000 in
theorem zr_L_law_362 {sc : List Int32} (a0 a1 a2 a3 a4 a5 a6 a7 a8 a10 a11 a12 a13 a14 a15 a16 : Option zAV) (st : List zAV) (s : zAS) (k : Nat × Nat) (x : Int32) : zev (zk_L_law sc) (362, [a0, a1, a2, a3, a4, a5, a6, a7, a8, some (Sum.inl (Value.int x)), a10, a11, a12, a13, a14, a15, a16], st, s, k) = zev (zk_L_law sc) (364, [a0, a1, a2, a3, a4, a5, a6, a7, a8, some (Sum.inl (Value.int x)), a10, a11, a12, a13, a14, a15, a16], Sum.inl (Value.int x) :: st, s, k) := zev_go rfl rfl
set_option maxRecDepth 8000 in
theorem zr_L_law_364 {sc : List Int32} (ls : zLs) (st : List zAV) (s : zAS) (k : Nat × Nat) : zev (zk_L_law sc) (364, ls, st, s, k) = zev (zk_L_law sc) (365, ls, Sum.inl (Value.int (0)) :: st, s, k) := zev_go rfl rfl
set_option maxRecDepth 8000 in
theorem zr_L_law_365 {sc : List Int32} (ls : zLs) (st : List zAV) (s : zAS) (k : Nat × Nat) (r v0 v1 v2 : zAV) (h : zcok (zES sc) 8 0 0 (zR_L_law).cells (zR_L_law).slots r st k) : zev (zk_L_law sc) (365, ls, v2 :: v1 :: v0 :: r :: st, s, k) = zret (zk_L_law sc) 368 ls st (k.1 + 0, k.2 + 0) (m_X8_locus [r, v0, v1, v2] s) := zf_callV (as := [v2, v1, v0]) 3 rfl rfl h
set_option maxRecDepth 8000 in
theorem zr_L_law_368 {sc : List Int32} (a0 a1 a2 a3 a4 a5 a6 a7 a8 a9 a10 a11 a12 a13 a14 a15 a16 : Option zAV) (st : List zAV) (s : zAS) (k : Nat × Nat) (x : Int32) : zev (zk_L_law sc) (368, [a0, a1, a2, a3, a4, a5, a6, a7, a8, a9, a10, a11, a12, a13, a14, a15, a16], Sum.inl (Value.int x) :: st, s, k) = zev (zk_L_law sc) (370, [a0, a1, a2, a3, a4, a5, a6, a7, a8, zk1 a9, some (Sum.inl (Value.int x)), a11, a12, a13, a14, a15, a16], st, s, k) := zev_go rfl rfl
set_option maxRecDepth 8000 in
theorem zr_L_law_370 {sc : List Int32} (a0 a2 a3 a4 a5 a6 a7 a8 a9 a10 a11 a12 a13 a14 a15 a16 : Option zAV) (st : List zAV) (s : zAS) (k : Nat × Nat) (o : Nat × Nat) : zev (zk_L_law sc) (370, [a0, some (Sum.inr o), a2, a3, a4, a5, a6, a7, a8, a9, a10, a11, a12, a13, a14, a15, a16], st, s, k) = zev (zk_L_law sc) (371, [a0, some (Sum.inr o), a2, a3, a4, a5, a6, a7, a8, a9, a10, a11, a12, a13, a14, a15, a16], Sum.inr o :: st, s, k) := zev_go rfl rfl
set_option maxRecDepth 8000 in
theorem zr_L_law_371 {sc : List Int32} (a0 a1 a2 a3 a4 a5 a6 a7 a9 a10 a11 a12 a13 a14 a15 a16 : Option zAV) (st : List zAV) (s : zAS) (k : Nat × Nat) (x : Int32) : zev (zk_L_law sc) (371, [a0, a1, a2, a3, a4, a5, a6, a7, some (Sum.inl (Value.int x)), a9, a10, a11, a12, a13, a14, a15, a16], st, s, k) = zev (zk_L_law sc) (373, [a0, a1, a2, a3, a4, a5, a6, a7, some (Sum.inl (Value.int x)), a9, a10, a11, a12, a13, a14, a15, a16], Sum.inl (Value.int x) :: st, s, k) := zev_go rfl rfl
set_option maxRecDepth 8000 in
theorem zr_L_law_373 {sc : List Int32} (a0 a1 a2 a3 a4 a5 a6 a7 a8 a10 a11 a12 a13 a14 a15 a16 : Option zAV) (st : List zAV) (s : zAS) (k : Nat × Nat) (x : Int32) : zev (zk_L_law sc) (373, [a0, a1, a2, a3, a4, a5, a6, a7, a8, some (Sum.inl (Value.int x)), a10, a11, a12, a13, a14, a15, a16], st, s, k) = zev (zk_L_law sc) (375, [a0, a1, a2, a3, a4, a5, a6, a7, a8, some (Sum.inl (Value.int x)), a10, a11, a12, a13, a14, a15, a16], Sum.inl (Value.int x) :: st, s, k) := zev_go rfl rfl
set_option maxRecDepth 8000 in
theorem zr_L_law_375 {sc : List Int32} (ls : zLs) (st : List zAV) (s : zAS) (k : Nat × Nat) : zev (zk_L_law sc) (375, ls, st, s, k) = zev (zk_L_law sc) (376, ls, Sum.inl (Value.int (2)) :: st, s, k) := zev_go rfl rfl
set_option maxRecDepth 8000 in
theorem zr_L_law_376 {sc : List Int32} (ls : zLs) (st : List zAV) (s : zAS) (k : Nat × Nat) (r v0 v1 v2 : zAV) (h : zcok (zES sc) 8 0 0 (zR_L_law).cells (zR_L_law).slots r st k) : zev (zk_L_law sc) (376, ls, v2 :: v1 :: v0 :: r :: st, s, k) = zret (zk_L_law sc) 379 ls st (k.1 + 0, k.2 + 0) (m_X8_locus [r, v0, v1, v2] s) := zf_callV (as := [v2, v1, v0]) 3 rfl rfl h
set_option maxRecDepth 8000 in
theorem zr_L_law_379 {sc : List Int32} (a0 a1 a2 a3 a4 a5 a6 a7 a8 a9 a10 a11 a12 a13 a14 a15 a16 : Option zAV) (st : List zAV) (s : zAS) (k : Nat × Nat) (x : Int32) : zev (zk_L_law sc) (379, [a0, a1, a2, a3, a4, a5, a6, a7, a8, a9, a10, a11, a12, a13, a14, a15, a16], Sum.inl (Value.int x) :: st, s, k) = zev (zk_L_law sc) (381, [a0, a1, a2, a3, a4, a5, a6, a7, a8, a9, zk1 a10, some (Sum.inl (Value.int x)), a12, a13, a14, a15, a16], st, s, k) := zev_go rfl rfl
set_option maxRecDepth 8000 in
theorem zr_L_law_381 {sc : List Int32} (a0 a2 a3 a4 a5 a6 a7 a8 a9 a10 a11 a12 a13 a14 a15 a16 : Option zAV) (st : List zAV) (s : zAS) (k : Nat × Nat) (o : Nat × Nat) : zev (zk_L_law sc) (381, [a0, some (Sum.inr o), a2, a3, a4, a5, a6, a7, a8, a9, a10, a11, a12, a13, a14, a15, a16], st, s, k) = zev (zk_L_law sc) (382, [a0, some (Sum.inr o), a2, a3, a4, a5, a6, a7, a8, a9, a10, a11, a12, a13, a14, a15, a16], Sum.inr o :: st, s, k) := zev_go rfl rfl
set_option maxRecDepth 8000 in
theorem zr_L_law_382 {sc : List Int32} (a0 a1 a2 a3 a4 a5 a6 a7 a9 a10 a11 a12 a13 a14 a15 a16 : Option zAV) (st : List zAV) (s : zAS) (k : Nat × Nat) (x : Int32) : zev (zk_L_law sc) (382, [a0, a1, a2, a3, a4, a5, a6, a7, some (Sum.inl (Value.int x)), a9, a10, a11, a12, a13, a14, a15, a16], st, s, k) = zev (zk_L_law sc) (384, [a0, a1, a2, a3, a4, a5, a6, a7, some (Sum.inl (Value.int x)), a9, a10, a11, a12, a13, a14, a15, a16], Sum.inl (Value.int x) :: st, s, k) := zev_go rfl rfl
set_option maxRecDepth 8000 in
theorem zr_L_law_384 {sc : List Int32} (a0 a1 a2 a3 a4 a5 a6 a7 a8 a10 a11 a12 a13 a14 a15 a16 : Option zAV) (st : List zAV) (s : zAS) (k : Nat × Nat) (x : Int32) : zev (zk_L_law sc) (384, [a0, a1, a2, a3, a4, a5, a6, a7, a8, some (Sum.inl (Value.int x)), a10, a11, a12, a13, a14, a15, a16], st, s, k) = zev (zk_L_law sc) (386, [a0, a1, a2, a3, a4, a5, a6, a7, a8, some (Sum.inl (Value.int x)), a10, a11, a12, a13, a14, a15, a16], Sum.inl (Value.int x) :: st, s, k) := zev_go rfl rfl
set_option maxRecDepth 8000 in
theorem zr_L_law_386 {sc : List Int32} (ls : zLs) (st : List zAV) (s : zAS) (k : Nat × Nat) : zev (zk_L_law sc) (386, ls, st, s, k) = zev (zk_L_law sc) (387, ls, Sum.inl (Value.int (1)) :: st, s, k) := zev_go rfl rfl
set_option maxRecDepth 8000 in
theorem zr_L_law_387 {sc : List Int32} (ls : zLs) (st : List zAV) (s : zAS) (k : Nat × Nat) (r v0 v1 v2 : zAV) (h : zcok (zES sc) 8 0 0 (zR_L_law).cells (zR_L_law).slots r st k) : zev (zk_L_law sc) (387, ls, v2 :: v1 :: v0 :: r :: st, s, k) = zret (zk_L_law sc) 390 ls st (k.1 + 0, k.2 + 0) (m_X8_locus [r, v0, v1, v2] s) := zf_callV (as := [v2, v1, v0]) 3 rfl rfl h
set_option maxRecDepth 8000 in
theorem zr_L_law_390 {sc : List Int32} (a0 a1 a2 a3 a4 a5 a6 a7 a8 a9 a10 a11 a12 a13 a14 a15 a16 : Option zAV) (st : List zAV) (s : zAS) (k : Nat × Nat) (x : Int32) : zev (zk_L_law sc) (390, [a0, a1, a2, a3, a4, a5, a6, a7, a8, a9, a10, a11, a12, a13, a14, a15, a16], Sum.inl (Value.int x) :: st, s, k) = zev (zk_L_law sc) (392, [a0, a1, a2, a3, a4, a5, a6, a7, a8, a9, a10, zk1 a11, some (Sum.inl (Value.int x)), a13, a14, a15, a16], st, s, k) := zev_go rfl rfl
set_option maxRecDepth 8000 in
theorem zr_L_law_392 {sc : List Int32} (a0 a1 a2 a3 a4 a5 a6 a7 a8 a9 a11 a12 a13 a14 a15 a16 : Option zAV) (st : List zAV) (s : zAS) (k : Nat × Nat) (x : Int32) : zev (zk_L_law sc) (392, [a0, a1, a2, a3, a4, a5, a6, a7, a8, a9, some (Sum.inl (Value.int x)), a11, a12, a13, a14, a15, a16], st, s, k) = zev (zk_L_law sc) (394, [a0, a1, a2, a3, a4, a5, a6, a7, a8, a9, some (Sum.inl (Value.int x)), a11, a12, a13, a14, a15, a16], Sum.inl (Value.int x) :: st, s, k) := zev_go rfl rfl
set_option maxRecDepth 8000 in
theorem zr_L_law_394 {sc : List Int32} (a0 a1 a2 a3 a4 a5 a6 a7 a8 a9 a10 a12 a13 a14 a15 a16 : Option zAV) (st : List zAV) (s : zAS) (k : Nat × Nat) (x : Int32) : zev (zk_L_law sc) (394, [a0, a1, a2, a3, a4, a5, a6, a7, a8, a9, a10, some (Sum.inl (Value.int x)), a12, a13, a14, a15, a16], st, s, k) = zev (zk_L_law sc) (396, [a0, a1, a2, a3, a4, a5, a6, a7, a8, a9, a10, some (Sum.inl (Value.int x)), a12, a13, a14, a15, a16], Sum.inl (Value.int x) :: st, s, k) := zev_go rfl rfl
set_option maxRecDepth 8000 in
theorem zr_L_law_396 {sc : List Int32} (ls : zLs) (st : List zAV) (s : zAS) (k : Nat × Nat) (x y : Int32) : zev (zk_L_law sc) (396, ls, Sum.inl (Value.int y) :: Sum.inl (Value.int x) :: st, s, k) = zev (zk_L_law sc) (397, ls, Sum.inl (Value.int (x + y)) :: st, s, k) := zev_go rfl rfl
set_option maxRecDepth 8000 in
theorem zr_L_law_397 {sc : List Int32} (a0 a1 a3 a4 a5 a6 a7 a8 a9 a10 a11 a12 a13 a14 a15 a16 : Option zAV) (st : List zAV) (s : zAS) (k : Nat × Nat) (x : Int32) : zev (zk_L_law sc) (397, [a0, a1, some (Sum.inl (Value.int x)), a3, a4, a5, a6, a7, a8, a9, a10, a11, a12, a13, a14, a15, a16], st, s, k) = zev (zk_L_law sc) (398, [a0, a1, some (Sum.inl (Value.int x)), a3, a4, a5, a6, a7, a8, a9, a10, a11, a12, a13, a14, a15, a16], Sum.inl (Value.int x) :: st, s, k) := zev_go rfl rfl
set_option maxRecDepth 8000 in
theorem zr_L_law_398 {sc : List Int32} (ls : zLs) (st : List zAV) (s : zAS) (k : Nat × Nat) (x y : Int32) : zev (zk_L_law sc) (398, ls, Sum.inl (Value.int y) :: Sum.inl (Value.int x) :: st, s, k) = if decide (y < x) = true then zev (zk_L_law sc) (485, ls, st, s, k) else zev (zk_L_law sc) (401, ls, st, s, k) := zf_cmp (f := fun x y => decide (y < x)) rfl
set_option maxRecDepth 8000 in
theorem zr_L_law_401 {sc : List Int32} (a0 a1 a2 a3 a4 a5 a6 a7 a8 a9 a11 a12 a13 a14 a15 a16 : Option zAV) (st : List zAV) (s : zAS) (k : Nat × Nat) (x : Int32) : zev (zk_L_law sc) (401, [a0, a1, a2, a3, a4, a5, a6, a7, a8, a9, some (Sum.inl (Value.int x)), a11, a12, a13, a14, a15, a16], st, s, k) = zev (zk_L_law sc) (403, [a0, a1, a2, a3, a4, a5, a6, a7, a8, a9, some (Sum.inl (Value.int x)), a11, a12, a13, a14, a15, a16], Sum.inl (Value.int x) :: st, s, k) := zev_go rfl rfl
set_option maxRecDepth 8000 in
theorem zr_L_law_403 {sc : List Int32} (ls : zLs) (st : List zAV) (s : zAS) (k : Nat × Nat) (x : Int32) : zev (zk_L_law sc) (403, ls, Sum.inl (Value.int x) :: st, s, k) = if decide (¬ x = 0) = true then zev (zk_L_law sc) (410, ls, st, s, k) else zev (zk_L_law sc) (406, ls, st, s, k) := zf_if (f := fun x => decide (¬ x = 0)) rfl
set_option maxRecDepth 8000 in
theorem zr_L_law_406 {sc : List Int32} (ls : zLs) (st : List zAV) (s : zAS) (k : Nat × Nat) : zev (zk_L_law sc) (406, ls, st, s, k) = zev (zk_L_law sc) (407, ls, Sum.inl (Value.int (1)) :: st, s, k) := zev_go rfl rfl
set_option maxRecDepth 8000 in
theorem zr_L_law_407 {sc : List Int32} (ls : zLs) (st : List zAV) (s : zAS) (k : Nat × Nat) : zev (zk_L_law sc) (407, ls, st, s, k) = zev (zk_L_law sc) (411, ls, st, s, k) := zev_go rfl rfl
set_option maxRecDepth 8000 in
theorem zr_L_law_410 {sc : List Int32} (ls : zLs) (st : List zAV) (s : zAS) (k : Nat × Nat) : zev (zk_L_law sc) (410, ls, st, s, k) = zev (zk_L_law sc) (411, ls, Sum.inl (Value.int (0)) :: st, s, k) := zev_go rfl rfl
set_option maxRecDepth 8000 in
theorem zr_L_law_411 {sc : List Int32} (a0 a1 a2 a3 a4 a5 a6 a7 a8 a9 a10 a12 a13 a14 a15 a16 : Option zAV) (st : List zAV) (s : zAS) (k : Nat × Nat) (x : Int32) : zev (zk_L_law sc) (411, [a0, a1, a2, a3, a4, a5, a6, a7, a8, a9, a10, some (Sum.inl (Value.int x)), a12, a13, a14, a15, a16], st, s, k) = zev (zk_L_law sc) (413, [a0, a1, a2, a3, a4, a5, a6, a7, a8, a9, a10, some (Sum.inl (Value.int x)), a12, a13, a14, a15, a16], Sum.inl (Value.int x) :: st, s, k) := zev_go rfl rfl
set_option maxRecDepth 8000 in
theorem zr_L_law_413 {sc : List Int32} (a0 a1 a3 a4 a5 a6 a7 a8 a9 a10 a11 a12 a13 a14 a15 a16 : Option zAV) (st : List zAV) (s : zAS) (k : Nat × Nat) (x : Int32) : zev (zk_L_law sc) (413, [a0, a1, some (Sum.inl (Value.int x)), a3, a4, a5, a6, a7, a8, a9, a10, a11, a12, a13, a14, a15, a16], st, s, k) = zev (zk_L_law sc) (414, [a0, a1, some (Sum.inl (Value.int x)), a3, a4, a5, a6, a7, a8, a9, a10, a11, a12, a13, a14, a15, a16], Sum.inl (Value.int x) :: st, s, k) := zev_go rfl rfl
set_option maxRecDepth 8000 in
theorem zr_L_law_414 {sc : List Int32} (ls : zLs) (st : List zAV) (s : zAS) (k : Nat × Nat) (x y : Int32) : zev (zk_L_law sc) (414, ls, Sum.inl (Value.int y) :: Sum.inl (Value.int x) :: st, s, k) = if decide (¬ x = y) = true then zev (zk_L_law sc) (421, ls, st, s, k) else zev (zk_L_law sc) (417, ls, st, s, k) := zf_cmp (f := fun x y => decide (¬ x = y)) rfl
set_option maxRecDepth 8000 in
theorem zr_L_law_417 {sc : List Int32} (ls : zLs) (st : List zAV) (s : zAS) (k : Nat × Nat) : zev (zk_L_law sc) (417, ls, st, s, k) = zev (zk_L_law sc) (418, ls, Sum.inl (Value.int (1)) :: st, s, k) := zev_go rfl rfl
set_option maxRecDepth 8000 in
theorem zr_L_law_418 {sc : List Int32} (ls : zLs) (st : List zAV) (s : zAS) (k : Nat × Nat) : zev (zk_L_law sc) (418, ls, st, s, k) = zev (zk_L_law sc) (422, ls, st, s, k) := zev_go rfl rfl
set_option maxRecDepth 8000 in
theorem zr_L_law_421 {sc : List Int32} (ls : zLs) (st : List zAV) (s : zAS) (k : Nat × Nat) : zev (zk_L_law sc) (421, ls, st, s, k) = zev (zk_L_law sc) (422, ls, Sum.inl (Value.int (0)) :: st, s, k) := zev_go rfl rfl
set_option maxRecDepth 8000 in
theorem zr_L_law_422 {sc : List Int32} (ls : zLs) (st : List zAV) (s : zAS) (k : Nat × Nat) (x y : Int32) : zev (zk_L_law sc) (422, ls, Sum.inl (Value.int y) :: Sum.inl (Value.int x) :: st, s, k) = if decide (¬ x = y) = true then zev (zk_L_law sc) (485, ls, st, s, k) else zev (zk_L_law sc) (425, ls, st, s, k) := zf_cmp (f := fun x y => decide (¬ x = y)) rfl
set_option maxRecDepth 8000 in
theorem zr_L_law_425 {sc : List Int32} (a0 a1 a2 a3 a4 a5 a6 a7 a8 a9 a11 a12 a13 a14 a15 a16 : Option zAV) (st : List zAV) (s : zAS) (k : Nat × Nat) (x : Int32) : zev (zk_L_law sc) (425, [a0, a1, a2, a3, a4, a5, a6, a7, a8, a9, some (Sum.inl (Value.int x)), a11, a12, a13, a14, a15, a16], st, s, k) = zev (zk_L_law sc) (427, [a0, a1, a2, a3, a4, a5, a6, a7, a8, a9, some (Sum.inl (Value.int x)), a11, a12, a13, a14, a15, a16], Sum.inl (Value.int x) :: st, s, k) := zev_go rfl rfl
set_option maxRecDepth 8000 in
theorem zr_L_law_427 {sc : List Int32} (ls : zLs) (st : List zAV) (s : zAS) (k : Nat × Nat) : zev (zk_L_law sc) (427, ls, st, s, k) = zev (zk_L_law sc) (428, ls, Sum.inl (Value.int (3)) :: st, s, k) := zev_go rfl rfl
set_option maxRecDepth 8000 in
theorem zr_L_law_428 {sc : List Int32} (ls : zLs) (st : List zAV) (s : zAS) (k : Nat × Nat) (x y : Int32) : zev (zk_L_law sc) (428, ls, Sum.inl (Value.int y) :: Sum.inl (Value.int x) :: st, s, k) = if decide (y ≤ x) = true then zev (zk_L_law sc) (435, ls, st, s, k) else zev (zk_L_law sc) (431, ls, st, s, k) := zf_cmp (f := fun x y => decide (y ≤ x)) rfl
set_option maxRecDepth 8000 in
theorem zr_L_law_431 {sc : List Int32} (ls : zLs) (st : List zAV) (s : zAS) (k : Nat × Nat) : zev (zk_L_law sc) (431, ls, st, s, k) = zev (zk_L_law sc) (432, ls, Sum.inl (Value.int (1)) :: st, s, k) := zev_go rfl rfl
set_option maxRecDepth 8000 in
theorem zr_L_law_432 {sc : List Int32} (ls : zLs) (st : List zAV) (s : zAS) (k : Nat × Nat) : zev (zk_L_law sc) (432, ls, st, s, k) = zev (zk_L_law sc) (436, ls, st, s, k) := zev_go rfl rfl
set_option maxRecDepth 8000 in
theorem zr_L_law_435 {sc : List Int32} (ls : zLs) (st : List zAV) (s : zAS) (k : Nat × Nat) : zev (zk_L_law sc) (435, ls, st, s, k) = zev (zk_L_law sc) (436, ls, Sum.inl (Value.int (0)) :: st, s, k) := zev_go rfl rfl
set_option maxRecDepth 8000 in
theorem zr_L_law_436 {sc : List Int32} (a0 a1 a2 a3 a4 a5 a6 a7 a8 a9 a10 a11 a13 a14 a15 a16 : Option zAV) (st : List zAV) (s : zAS) (k : Nat × Nat) (x : Int32) : zev (zk_L_law sc) (436, [a0, a1, a2, a3, a4, a5, a6, a7, a8, a9, a10, a11, some (Sum.inl (Value.int x)), a13, a14, a15, a16], st, s, k) = zev (zk_L_law sc) (438, [a0, a1, a2, a3, a4, a5, a6, a7, a8, a9, a10, a11, some (Sum.inl (Value.int x)), a13, a14, a15, a16], Sum.inl (Value.int x) :: st, s, k) := zev_go rfl rfl
set_option maxRecDepth 8000 in
theorem zr_L_law_438 {sc : List Int32} (ls : zLs) (st : List zAV) (s : zAS) (k : Nat × Nat) (x : Int32) : zev (zk_L_law sc) (438, ls, Sum.inl (Value.int x) :: st, s, k) = if decide (¬ x = 0) = true then zev (zk_L_law sc) (445, ls, st, s, k) else zev (zk_L_law sc) (441, ls, st, s, k) := zf_if (f := fun x => decide (¬ x = 0)) rfl
set_option maxRecDepth 8000 in
theorem zr_L_law_441 {sc : List Int32} (ls : zLs) (st : List zAV) (s : zAS) (k : Nat × Nat) : zev (zk_L_law sc) (441, ls, st, s, k) = zev (zk_L_law sc) (442, ls, Sum.inl (Value.int (1)) :: st, s, k) := zev_go rfl rfl
set_option maxRecDepth 8000 in
theorem zr_L_law_442 {sc : List Int32} (ls : zLs) (st : List zAV) (s : zAS) (k : Nat × Nat) : zev (zk_L_law sc) (442, ls, st, s, k) = zev (zk_L_law sc) (446, ls, st, s, k) := zev_go rfl rfl
set_option maxRecDepth 8000 in
theorem zr_L_law_445 {sc : List Int32} (ls : zLs) (st : List zAV) (s : zAS) (k : Nat × Nat) : zev (zk_L_law sc) (445, ls, st, s, k) = zev (zk_L_law sc) (446, ls, Sum.inl (Value.int (0)) :: st, s, k) := zev_go rfl rfl
set_option maxRecDepth 8000 in
theorem zr_L_law_446 {sc : List Int32} (ls : zLs) (st : List zAV) (s : zAS) (k : Nat × Nat) (x y : Int32) : zev (zk_L_law sc) (446, ls, Sum.inl (Value.int y) :: Sum.inl (Value.int x) :: st, s, k) = if decide (¬ x = y) = true then zev (zk_L_law sc) (485, ls, st, s, k) else zev (zk_L_law sc) (449, ls, st, s, k) := zf_cmp (f := fun x y => decide (¬ x = y)) rfl
set_option maxRecDepth 8000 in
theorem zr_L_law_449 {sc : List Int32} (a0 a1 a2 a3 a4 a5 a6 a7 a8 a9 a10 a11 a13 a14 a15 a16 : Option zAV) (st : List zAV) (s : zAS) (k : Nat × Nat) (x : Int32) : zev (zk_L_law sc) (449, [a0, a1, a2, a3, a4, a5, a6, a7, a8, a9, a10, a11, some (Sum.inl (Value.int x)), a13, a14, a15, a16], st, s, k) = zev (zk_L_law sc) (451, [a0, a1, a2, a3, a4, a5, a6, a7, a8, a9, a10, a11, some (Sum.inl (Value.int x)), a13, a14, a15, a16], Sum.inl (Value.int x) :: st, s, k) := zev_go rfl rfl
set_option maxRecDepth 8000 in
theorem zr_L_law_451 {sc : List Int32} (ls : zLs) (st : List zAV) (s : zAS) (k : Nat × Nat) : zev (zk_L_law sc) (451, ls, st, s, k) = zev (zk_L_law sc) (452, ls, Sum.inl (Value.int (2)) :: st, s, k) := zev_go rfl rfl
set_option maxRecDepth 8000 in
theorem zr_L_law_452 {sc : List Int32} (ls : zLs) (st : List zAV) (s : zAS) (k : Nat × Nat) (x y : Int32) : zev (zk_L_law sc) (452, ls, Sum.inl (Value.int y) :: Sum.inl (Value.int x) :: st, s, k) = if decide (¬ x = y) = true then zev (zk_L_law sc) (463, ls, st, s, k) else zev (zk_L_law sc) (455, ls, st, s, k) := zf_cmp (f := fun x y => decide (¬ x = y)) rfl
set_option maxRecDepth 8000 in
theorem zr_L_law_455 {sc : List Int32} (a0 a1 a2 a3 a4 a5 a6 a7 a8 a9 a11 a12 a13 a14 a15 a16 : Option zAV) (st : List zAV) (s : zAS) (k : Nat × Nat) (x : Int32) : zev (zk_L_law sc) (455, [a0, a1, a2, a3, a4, a5, a6, a7, a8, a9, some (Sum.inl (Value.int x)), a11, a12, a13, a14, a15, a16], st, s, k) = zev (zk_L_law sc) (457, [a0, a1, a2, a3, a4, a5, a6, a7, a8, a9, some (Sum.inl (Value.int x)), a11, a12, a13, a14, a15, a16], Sum.inl (Value.int x) :: st, s, k) := zev_go rfl rfl
set_option maxRecDepth 8000 in
theorem zr_L_law_457 {sc : List Int32} (a0 a1 a3 a4 a5 a6 a7 a8 a9 a10 a11 a12 a13 a14 a15 a16 : Option zAV) (st : List zAV) (s : zAS) (k : Nat × Nat) (x : Int32) : zev (zk_L_law sc) (457, [a0, a1, some (Sum.inl (Value.int x)), a3, a4, a5, a6, a7, a8, a9, a10, a11, a12, a13, a14, a15, a16], st, s, k) = zev (zk_L_law sc) (458, [a0, a1, some (Sum.inl (Value.int x)), a3, a4, a5, a6, a7, a8, a9, a10, a11, a12, a13, a14, a15, a16], Sum.inl (Value.int x) :: st, s, k) := zev_go rfl rfl
set_option maxRecDepth 8000 in
theorem zr_L_law_458 {sc : List Int32} (ls : zLs) (st : List zAV) (s : zAS) (k : Nat × Nat) : zev (zk_L_law sc) (458, ls, st, s, k) = zev (zk_L_law sc) (459, ls, Sum.inl (Value.int (1)) :: st, s, k) := zev_go rfl rfl
set_option maxRecDepth 8000 in
theorem zr_L_law_459 {sc : List Int32} (ls : zLs) (st : List zAV) (s : zAS) (k : Nat × Nat) (x y : Int32) : zev (zk_L_law sc) (459, ls, Sum.inl (Value.int y) :: Sum.inl (Value.int x) :: st, s, k) = zev (zk_L_law sc) (460, ls, Sum.inl (Value.int (x + y)) :: st, s, k) := zev_go rfl rfl
set_option maxRecDepth 8000 in
theorem zr_L_law_460 {sc : List Int32} (ls : zLs) (st : List zAV) (s : zAS) (k : Nat × Nat) (x y : Int32) : zev (zk_L_law sc) (460, ls, Sum.inl (Value.int y) :: Sum.inl (Value.int x) :: st, s, k) = if decide (y < x) = true then zev (zk_L_law sc) (485, ls, st, s, k) else zev (zk_L_law sc) (463, ls, st, s, k) := zf_cmp (f := fun x y => decide (y < x)) rfl
set_option maxRecDepth 8000 in
theorem zr_L_law_463 {sc : List Int32} (a0 a2 a3 a4 a5 a6 a7 a8 a9 a10 a11 a12 a13 a14 a15 a16 : Option zAV) (st : List zAV) (s : zAS) (k : Nat × Nat) (o : Nat × Nat) : zev (zk_L_law sc) (463, [a0, some (Sum.inr o), a2, a3, a4, a5, a6, a7, a8, a9, a10, a11, a12, a13, a14, a15, a16], st, s, k) = zev (zk_L_law sc) (464, [a0, some (Sum.inr o), a2, a3, a4, a5, a6, a7, a8, a9, a10, a11, a12, a13, a14, a15, a16], Sum.inr o :: st, s, k) := zev_go rfl rfl
set_option maxRecDepth 8000 in
theorem zr_L_law_464 {sc : List Int32} (a0 a1 a2 a3 a4 a5 a6 a7 a9 a10 a11 a12 a13 a14 a15 a16 : Option zAV) (st : List zAV) (s : zAS) (k : Nat × Nat) (x : Int32) : zev (zk_L_law sc) (464, [a0, a1, a2, a3, a4, a5, a6, a7, some (Sum.inl (Value.int x)), a9, a10, a11, a12, a13, a14, a15, a16], st, s, k) = zev (zk_L_law sc) (466, [a0, a1, a2, a3, a4, a5, a6, a7, some (Sum.inl (Value.int x)), a9, a10, a11, a12, a13, a14, a15, a16], Sum.inl (Value.int x) :: st, s, k) := zev_go rfl rfl
set_option maxRecDepth 8000 in
theorem zr_L_law_466 {sc : List Int32} (a0 a1 a2 a3 a4 a5 a6 a7 a8 a10 a11 a12 a13 a14 a15 a16 : Option zAV) (st : List zAV) (s : zAS) (k : Nat × Nat) (x : Int32) : zev (zk_L_law sc) (466, [a0, a1, a2, a3, a4, a5, a6, a7, a8, some (Sum.inl (Value.int x)), a10, a11, a12, a13, a14, a15, a16], st, s, k) = zev (zk_L_law sc) (468, [a0, a1, a2, a3, a4, a5, a6, a7, a8, some (Sum.inl (Value.int x)), a10, a11, a12, a13, a14, a15, a16], Sum.inl (Value.int x) :: st, s, k) := zev_go rfl rfl
set_option maxRecDepth 8000 in
theorem zr_L_law_468 {sc : List Int32} (ls : zLs) (st : List zAV) (s : zAS) (k : Nat × Nat) : zev (zk_L_law sc) (468, ls, st, s, k) = zev (zk_L_law sc) (469, ls, Sum.inl (Value.int (3)) :: st, s, k) := zev_go rfl rfl
set_option maxRecDepth 8000 in
theorem zr_L_law_469 {sc : List Int32} (ls : zLs) (st : List zAV) (s : zAS) (k : Nat × Nat) (r v0 v1 v2 : zAV) (h : zcok (zES sc) 8 0 0 (zR_L_law).cells (zR_L_law).slots r st k) : zev (zk_L_law sc) (469, ls, v2 :: v1 :: v0 :: r :: st, s, k) = zret (zk_L_law sc) 472 ls st (k.1 + 0, k.2 + 0) (m_X8_locus [r, v0, v1, v2] s) := zf_callV (as := [v2, v1, v0]) 3 rfl rfl h
set_option maxRecDepth 8000 in
theorem zr_L_law_472 {sc : List Int32} (ls : zLs) (st : List zAV) (s : zAS) (k : Nat × Nat) (x : Int32) : zev (zk_L_law sc) (472, ls, Sum.inl (Value.int x) :: st, s, k) = if decide (x < 0) = true then zev (zk_L_law sc) (485, ls, st, s, k) else zev (zk_L_law sc) (475, ls, st, s, k) := zf_if (f := fun x => decide (x < 0)) rfl
set_option maxRecDepth 8000 in
theorem zr_L_law_475 {sc : List Int32} (a0 a2 a3 a4 a5 a6 a7 a8 a9 a10 a11 a12 a13 a14 a15 a16 : Option zAV) (st : List zAV) (s : zAS) (k : Nat × Nat) (o : Nat × Nat) : zev (zk_L_law sc) (475, [a0, some (Sum.inr o), a2, a3, a4, a5, a6, a7, a8, a9, a10, a11, a12, a13, a14, a15, a16], st, s, k) = zev (zk_L_law sc) (476, [a0, some (Sum.inr o), a2, a3, a4, a5, a6, a7, a8, a9, a10, a11, a12, a13, a14, a15, a16], Sum.inr o :: st, s, k) := zev_go rfl rfl
set_option maxRecDepth 8000 in
theorem zr_L_law_476 {sc : List Int32} (ls : zLs) (st : List zAV) (s : zAS) (k : Nat × Nat) (r : zAV) (h : zcok (zES sc) 8 0 0 (zR_L_law).cells (zR_L_law).slots r st k) : zev (zk_L_law sc) (476, ls, r :: st, s, k) = zret (zk_L_law sc) 479 ls st (k.1 + 0, k.2 + 0) (m_X8_digest [r] s) := zf_callV (as := []) 0 rfl rfl h
set_option maxRecDepth 8000 in
theorem zr_L_law_479 {sc : List Int32} (a0 a1 a2 a3 a4 a5 a7 a8 a9 a10 a11 a12 a13 a14 a15 a16 : Option zAV) (st : List zAV) (s : zAS) (k : Nat × Nat) (x : Int64) : zev (zk_L_law sc) (479, [a0, a1, a2, a3, a4, a5, some (Sum.inl (Value.long x)), a7, a8, a9, a10, a11, a12, a13, a14, a15, a16], st, s, k) = zev (zk_L_law sc) (481, [a0, a1, a2, a3, a4, a5, some (Sum.inl (Value.long x)), a7, a8, a9, a10, a11, a12, a13, a14, a15, a16], Sum.inl (Value.long x) :: st, s, k) := zev_go rfl rfl
set_option maxRecDepth 8000 in
theorem zr_L_law_481 {sc : List Int32} (ls : zLs) (st : List zAV) (s : zAS) (k : Nat × Nat) (x y : Int64) : zev (zk_L_law sc) (481, ls, Sum.inl (Value.long y) :: Sum.inl (Value.long x) :: st, s, k) = zev (zk_L_law sc) (482, ls, Sum.inl (Value.int (lg_cmp x y)) :: st, s, k) := zev_go rfl rfl
set_option maxRecDepth 8000 in
theorem zr_L_law_482 {sc : List Int32} (ls : zLs) (st : List zAV) (s : zAS) (k : Nat × Nat) (x : Int32) : zev (zk_L_law sc) (482, ls, Sum.inl (Value.int x) :: st, s, k) = if decide (x = 0) = true then zev (zk_L_law sc) (487, ls, st, s, k) else zev (zk_L_law sc) (485, ls, st, s, k) := zf_if (f := fun x => decide (x = 0)) rfl
set_option maxRecDepth 8000 in
theorem zr_L_law_485 {sc : List Int32} (ls : zLs) (st : List zAV) (s : zAS) (k : Nat × Nat) : zev (zk_L_law sc) (485, ls, st, s, k) = zev (zk_L_law sc) (486, ls, Sum.inl (Value.int (0)) :: st, s, k) := zev_go rfl rfl
set_option maxRecDepth 8000 in
theorem zr_L_law_486 {sc : List Int32} (ls : zLs) (s : zAS) (k : Nat × Nat) (x : Int32) (hx : x = 0 ∨ x = 1) : zev (zk_L_law sc) (486, ls, [Sum.inl (Value.int x)], s, k) = some (.inl (some (Sum.inl (Value.int x))), s) := zf_retz rfl hx
set_option maxRecDepth 8000 in
theorem zr_L_law_487 {sc : List Int32} (a0 a1 a2 a3 a4 a5 a6 a7 a8 a10 a11 a12 a13 a14 a15 a16 : Option zAV) (st : List zAV) (s : zAS) (k : Nat × Nat) (x : Int32) : zev (zk_L_law sc) (487, [a0, a1, a2, a3, a4, a5, a6, a7, a8, some (Sum.inl (Value.int x)), a10, a11, a12, a13, a14, a15, a16], st, s, k) = zev (zk_L_law sc) (490, [a0, a1, a2, a3, a4, a5, a6, a7, zk1 a8, some (Sum.inl (Value.int (x + (1)))), a10, a11, a12, a13, a14, a15, a16], st, s, k) := zev_go rfl rfl
set_option maxRecDepth 8000 in
theorem zr_L_law_490 {sc : List Int32} (ls : zLs) (st : List zAV) (s : zAS) (k : Nat × Nat) : zev (zk_L_law sc) (490, ls, st, s, k) = zev (zk_L_law sc) (339, ls, st, s, k) := zev_go rfl rfl
set_option maxRecDepth 8000 in
theorem zr_L_law_493 {sc : List Int32} (a0 a1 a2 a3 a5 a6 a7 a8 a9 a10 a11 a12 a13 a14 a15 a16 : Option zAV) (st : List zAV) (s : zAS) (k : Nat × Nat) (o : Nat × Nat) : zev (zk_L_law sc) (493, [a0, a1, a2, a3, some (Sum.inr o), a5, a6, a7, a8, a9, a10, a11, a12, a13, a14, a15, a16], st, s, k) = zev (zk_L_law sc) (495, [a0, a1, a2, a3, some (Sum.inr o), a5, a6, a7, a8, a9, a10, a11, a12, a13, a14, a15, a16], Sum.inr o :: st, s, k) := zev_go rfl rfl
set_option maxRecDepth 8000 in
theorem zr_L_law_495 {sc : List Int32} (a0 a1 a2 a4 a5 a6 a7 a8 a9 a10 a11 a12 a13 a14 a15 a16 : Option zAV) (st : List zAV) (s : zAS) (k : Nat × Nat) (x : Int32) : zev (zk_L_law sc) (495, [a0, a1, a2, some (Sum.inl (Value.int x)), a4, a5, a6, a7, a8, a9, a10, a11, a12, a13, a14, a15, a16], st, s, k) = zev (zk_L_law sc) (496, [a0, a1, a2, some (Sum.inl (Value.int x)), a4, a5, a6, a7, a8, a9, a10, a11, a12, a13, a14, a15, a16], Sum.inl (Value.int x) :: st, s, k) := zev_go rfl rfl
set_option maxRecDepth 8000 in
theorem zr_L_law_496 {sc : List Int32} (ls : zLs) (st : List zAV) (s : zAS) (k : Nat × Nat) : zev (zk_L_law sc) (496, ls, st, s, k) = zev (zk_L_law sc) (497, ls, Sum.inl (Value.int (0)) :: st, s, k) := zev_go rfl rfl
set_option maxRecDepth 8000 in
theorem zr_L_law_497 {sc : List Int32} (a1 a2 a3 a4 a5 a6 a7 a8 a9 a10 a11 a12 a13 a14 a15 a16 : Option zAV) (st : List zAV) (s : zAS) (k : Nat × Nat) (o : Nat × Nat) : zev (zk_L_law sc) (497, [some (Sum.inr o), a1, a2, a3, a4, a5, a6, a7, a8, a9, a10, a11, a12, a13, a14, a15, a16], st, s, k) = zev (zk_L_law sc) (498, [some (Sum.inr o), a1, a2, a3, a4, a5, a6, a7, a8, a9, a10, a11, a12, a13, a14, a15, a16], Sum.inr o :: st, s, k) := zev_go rfl rfl
set_option maxRecDepth 8000 in
theorem zr_L_law_498 {sc : List Int32} (ls : zLs) (st : List zAV) (s : zAS) (k : Nat × Nat) : zev (zk_L_law sc) (498, ls, st, s, k) = zev (zk_L_law sc) (499, ls, Sum.inl (Value.int (2)) :: st, s, k) := zev_go rfl rfl
set_option maxRecDepth 8000 in
theorem zr_L_law_499 {sc : List Int32} (ls : zLs) (st : List zAV) (s : zAS) (k : Nat × Nat) (v0 v1 : zAV) (h : (st.map zcat).sum ≤ 8 ∧ k.1 + 0 ≤ (zR_L_law).cells ∧ k.2 + 0 ≤ (zR_L_law).slots) : zev (zk_L_law sc) (499, ls, v1 :: v0 :: st, s, k) = zret (zk_L_law sc) 502 ls st (k.1 + 0, k.2 + 0) ((m_L_cell sc) [v0, v1] s) := zf_callS (as := [v1, v0]) 2 rfl rfl h
set_option maxRecDepth 8000 in
theorem zr_L_law_502 {sc : List Int32} (ls : zLs) (st : List zAV) (s : zAS) (k : Nat × Nat) (v0 v1 v2 v3 : zAV) (h : (st.map zcat).sum ≤ 8 ∧ k.1 + 0 ≤ (zR_L_law).cells ∧ k.2 + 0 ≤ (zR_L_law).slots) : zev (zk_L_law sc) (502, ls, v3 :: v2 :: v1 :: v0 :: st, s, k) = zret (zk_L_law sc) 505 ls st (k.1 + 0, k.2 + 0) ((m_L_pick sc) [v0, v1, v2, v3] s) := zf_callS (as := [v3, v2, v1, v0]) 4 rfl rfl h
set_option maxRecDepth 8000 in
theorem zr_L_law_505 {sc : List Int32} (a0 a1 a2 a3 a4 a5 a6 a7 a8 a9 a10 a11 a12 a13 a14 a15 a16 : Option zAV) (st : List zAV) (s : zAS) (k : Nat × Nat) (x : Int32) : zev (zk_L_law sc) (505, [a0, a1, a2, a3, a4, a5, a6, a7, a8, a9, a10, a11, a12, a13, a14, a15, a16], Sum.inl (Value.int x) :: st, s, k) = zev (zk_L_law sc) (507, [a0, a1, a2, a3, a4, a5, a6, a7, zk1 a8, some (Sum.inl (Value.int x)), a10, a11, a12, a13, a14, a15, a16], st, s, k) := zev_go rfl rfl
set_option maxRecDepth 8000 in
theorem zr_L_law_507 {sc : List Int32} (a0 a1 a2 a3 a5 a6 a7 a8 a9 a10 a11 a12 a13 a14 a15 a16 : Option zAV) (st : List zAV) (s : zAS) (k : Nat × Nat) (o : Nat × Nat) : zev (zk_L_law sc) (507, [a0, a1, a2, a3, some (Sum.inr o), a5, a6, a7, a8, a9, a10, a11, a12, a13, a14, a15, a16], st, s, k) = zev (zk_L_law sc) (509, [a0, a1, a2, a3, some (Sum.inr o), a5, a6, a7, a8, a9, a10, a11, a12, a13, a14, a15, a16], Sum.inr o :: st, s, k) := zev_go rfl rfl
set_option maxRecDepth 8000 in
theorem zr_L_law_509 {sc : List Int32} (a0 a1 a2 a4 a5 a6 a7 a8 a9 a10 a11 a12 a13 a14 a15 a16 : Option zAV) (st : List zAV) (s : zAS) (k : Nat × Nat) (x : Int32) : zev (zk_L_law sc) (509, [a0, a1, a2, some (Sum.inl (Value.int x)), a4, a5, a6, a7, a8, a9, a10, a11, a12, a13, a14, a15, a16], st, s, k) = zev (zk_L_law sc) (510, [a0, a1, a2, some (Sum.inl (Value.int x)), a4, a5, a6, a7, a8, a9, a10, a11, a12, a13, a14, a15, a16], Sum.inl (Value.int x) :: st, s, k) := zev_go rfl rfl
set_option maxRecDepth 8000 in
theorem zr_L_law_510 {sc : List Int32} (ls : zLs) (st : List zAV) (s : zAS) (k : Nat × Nat) : zev (zk_L_law sc) (510, ls, st, s, k) = zev (zk_L_law sc) (511, ls, Sum.inl (Value.int (1)) :: st, s, k) := zev_go rfl rfl
set_option maxRecDepth 8000 in
theorem zr_L_law_511 {sc : List Int32} (a1 a2 a3 a4 a5 a6 a7 a8 a9 a10 a11 a12 a13 a14 a15 a16 : Option zAV) (st : List zAV) (s : zAS) (k : Nat × Nat) (o : Nat × Nat) : zev (zk_L_law sc) (511, [some (Sum.inr o), a1, a2, a3, a4, a5, a6, a7, a8, a9, a10, a11, a12, a13, a14, a15, a16], st, s, k) = zev (zk_L_law sc) (512, [some (Sum.inr o), a1, a2, a3, a4, a5, a6, a7, a8, a9, a10, a11, a12, a13, a14, a15, a16], Sum.inr o :: st, s, k) := zev_go rfl rfl
set_option maxRecDepth 8000 in
theorem zr_L_law_512 {sc : List Int32} (ls : zLs) (st : List zAV) (s : zAS) (k : Nat × Nat) : zev (zk_L_law sc) (512, ls, st, s, k) = zev (zk_L_law sc) (513, ls, Sum.inl (Value.int (3)) :: st, s, k) := zev_go rfl rfl
set_option maxRecDepth 8000 in
theorem zr_L_law_513 {sc : List Int32} (ls : zLs) (st : List zAV) (s : zAS) (k : Nat × Nat) (v0 v1 : zAV) (h : (st.map zcat).sum ≤ 8 ∧ k.1 + 0 ≤ (zR_L_law).cells ∧ k.2 + 0 ≤ (zR_L_law).slots) : zev (zk_L_law sc) (513, ls, v1 :: v0 :: st, s, k) = zret (zk_L_law sc) 516 ls st (k.1 + 0, k.2 + 0) ((m_L_cell sc) [v0, v1] s) := zf_callS (as := [v1, v0]) 2 rfl rfl h
set_option maxRecDepth 8000 in
theorem zr_L_law_516 {sc : List Int32} (ls : zLs) (st : List zAV) (s : zAS) (k : Nat × Nat) (v0 v1 v2 v3 : zAV) (h : (st.map zcat).sum ≤ 8 ∧ k.1 + 0 ≤ (zR_L_law).cells ∧ k.2 + 0 ≤ (zR_L_law).slots) : zev (zk_L_law sc) (516, ls, v3 :: v2 :: v1 :: v0 :: st, s, k) = zret (zk_L_law sc) 519 ls st (k.1 + 0, k.2 + 0) ((m_L_pick sc) [v0, v1, v2, v3] s) := zf_callS (as := [v3, v2, v1, v0]) 4 rfl rfl h
set_option maxRecDepth 8000 in
theorem zr_L_law_519 {sc : List Int32} (a0 a1 a2 a3 a4 a5 a6 a7 a8 a9 a10 a11 a12 a13 a14 a15 a16 : Option zAV) (st : List zAV) (s : zAS) (k : Nat × Nat) (x : Int32) : zev (zk_L_law sc) (519, [a0, a1, a2, a3, a4, a5, a6, a7, a8, a9, a10, a11, a12, a13, a14, a15, a16], Sum.inl (Value.int x) :: st, s, k) = zev (zk_L_law sc) (521, [a0, a1, a2, a3, a4, a5, a6, a7, a8, zk1 a9, some (Sum.inl (Value.int x)), a11, a12, a13, a14, a15, a16], st, s, k) := zev_go rfl rfl
set_option maxRecDepth 8000 in
theorem zr_L_law_521 {sc : List Int32} (a0 a2 a3 a4 a5 a6 a7 a8 a9 a10 a11 a12 a13 a14 a15 a16 : Option zAV) (st : List zAV) (s : zAS) (k : Nat × Nat) (o : Nat × Nat) : zev (zk_L_law sc) (521, [a0, some (Sum.inr o), a2, a3, a4, a5, a6, a7, a8, a9, a10, a11, a12, a13, a14, a15, a16], st, s, k) = zev (zk_L_law sc) (522, [a0, some (Sum.inr o), a2, a3, a4, a5, a6, a7, a8, a9, a10, a11, a12, a13, a14, a15, a16], Sum.inr o :: st, s, k) := zev_go rfl rfl
set_option maxRecDepth 8000 in
theorem zr_L_law_522 {sc : List Int32} (ls : zLs) (st : List zAV) (s : zAS) (k : Nat × Nat) : zev (zk_L_law sc) (522, ls, st, s, k) = zev (zk_L_law sc) (524, ls, Sum.inl (Value.int (6)) :: st, s, k) := zev_go rfl rfl
set_option maxRecDepth 8000 in
theorem zr_L_law_524 {sc : List Int32} (a0 a1 a2 a3 a4 a5 a6 a7 a9 a10 a11 a12 a13 a14 a15 a16 : Option zAV) (st : List zAV) (s : zAS) (k : Nat × Nat) (x : Int32) : zev (zk_L_law sc) (524, [a0, a1, a2, a3, a4, a5, a6, a7, some (Sum.inl (Value.int x)), a9, a10, a11, a12, a13, a14, a15, a16], st, s, k) = zev (zk_L_law sc) (526, [a0, a1, a2, a3, a4, a5, a6, a7, some (Sum.inl (Value.int x)), a9, a10, a11, a12, a13, a14, a15, a16], Sum.inl (Value.int x) :: st, s, k) := zev_go rfl rfl
set_option maxRecDepth 8000 in
theorem zr_L_law_526 {sc : List Int32} (a0 a1 a2 a3 a4 a5 a6 a7 a8 a10 a11 a12 a13 a14 a15 a16 : Option zAV) (st : List zAV) (s : zAS) (k : Nat × Nat) (x : Int32) : zev (zk_L_law sc) (526, [a0, a1, a2, a3, a4, a5, a6, a7, a8, some (Sum.inl (Value.int x)), a10, a11, a12, a13, a14, a15, a16], st, s, k) = zev (zk_L_law sc) (528, [a0, a1, a2, a3, a4, a5, a6, a7, a8, some (Sum.inl (Value.int x)), a10, a11, a12, a13, a14, a15, a16], Sum.inl (Value.int x) :: st, s, k) := zev_go rfl rfl
set_option maxRecDepth 8000 in
theorem zr_L_law_528 {sc : List Int32} (ls : zLs) (st : List zAV) (s : zAS) (k : Nat × Nat) : zev (zk_L_law sc) (528, ls, st, s, k) = zev (zk_L_law sc) (529, ls, Sum.inl (Value.int (0)) :: st, s, k) := zev_go rfl rfl
set_option maxRecDepth 8000 in
theorem zr_L_law_529 {sc : List Int32} (ls : zLs) (st : List zAV) (s : zAS) (k : Nat × Nat) : zev (zk_L_law sc) (529, ls, st, s, k) = zev (zk_L_law sc) (530, ls, Sum.inl (Value.int (0)) :: st, s, k) := zev_go rfl rfl
set_option maxRecDepth 8000 in
theorem zr_L_law_530 {sc : List Int32} (ls : zLs) (st : List zAV) (s : zAS) (k : Nat × Nat) (r v0 v1 v2 v3 v4 : zAV) (h : zcok (zES sc) 8 0 0 (zR_L_law).cells (zR_L_law).slots r st k) : zev (zk_L_law sc) (530, ls, v4 :: v3 :: v2 :: v1 :: v0 :: r :: st, s, k) = zret (zk_L_law sc) 533 ls st (k.1 + 0, k.2 + 0) (m_X8_claim [r, v0, v1, v2, v3, v4] s) := zf_callV (as := [v4, v3, v2, v1, v0]) 5 rfl rfl h
set_option maxRecDepth 8000 in
theorem zr_L_law_533 {sc : List Int32} (ls : zLs) (st : List zAV) (s : zAS) (k : Nat × Nat) (x : Int32) : zev (zk_L_law sc) (533, ls, Sum.inl (Value.int x) :: st, s, k) = if decide (¬ x = 0) = true then zev (zk_L_law sc) (556, ls, st, s, k) else zev (zk_L_law sc) (536, ls, st, s, k) := zf_if (f := fun x => decide (¬ x = 0)) rfl
set_option maxRecDepth 8000 in
theorem zr_L_law_536 {sc : List Int32} (a0 a1 a2 a3 a4 a5 a6 a7 a8 a9 a11 a12 a13 a14 a15 a16 : Option zAV) (st : List zAV) (s : zAS) (k : Nat × Nat) (x : Int32) : zev (zk_L_law sc) (536, [a0, a1, a2, a3, a4, a5, a6, a7, a8, a9, some (Sum.inl (Value.int x)), a11, a12, a13, a14, a15, a16], st, s, k) = zev (zk_L_law sc) (538, [a0, a1, a2, a3, a4, a5, a6, a7, a8, a9, some (Sum.inl (Value.int x)), a11, a12, a13, a14, a15, a16], Sum.inl (Value.int x) :: st, s, k) := zev_go rfl rfl
set_option maxRecDepth 8000 in
theorem zr_L_law_538 {sc : List Int32} (ls : zLs) (st : List zAV) (s : zAS) (k : Nat × Nat) (x : Int32) : zev (zk_L_law sc) (538, ls, Sum.inl (Value.int x) :: st, s, k) = if decide (x < 0) = true then zev (zk_L_law sc) (558, ls, st, s, k) else zev (zk_L_law sc) (541, ls, st, s, k) := zf_if (f := fun x => decide (x < 0)) rfl
set_option maxRecDepth 8000 in
theorem zr_L_law_541 {sc : List Int32} (a0 a2 a3 a4 a5 a6 a7 a8 a9 a10 a11 a12 a13 a14 a15 a16 : Option zAV) (st : List zAV) (s : zAS) (k : Nat × Nat) (o : Nat × Nat) : zev (zk_L_law sc) (541, [a0, some (Sum.inr o), a2, a3, a4, a5, a6, a7, a8, a9, a10, a11, a12, a13, a14, a15, a16], st, s, k) = zev (zk_L_law sc) (542, [a0, some (Sum.inr o), a2, a3, a4, a5, a6, a7, a8, a9, a10, a11, a12, a13, a14, a15, a16], Sum.inr o :: st, s, k) := zev_go rfl rfl
set_option maxRecDepth 8000 in
theorem zr_L_law_542 {sc : List Int32} (ls : zLs) (st : List zAV) (s : zAS) (k : Nat × Nat) : zev (zk_L_law sc) (542, ls, st, s, k) = zev (zk_L_law sc) (543, ls, Sum.inl (Value.int (0)) :: st, s, k) := zev_go rfl rfl
set_option maxRecDepth 8000 in
theorem zr_L_law_543 {sc : List Int32} (a0 a1 a2 a3 a4 a5 a6 a7 a9 a10 a11 a12 a13 a14 a15 a16 : Option zAV) (st : List zAV) (s : zAS) (k : Nat × Nat) (x : Int32) : zev (zk_L_law sc) (543, [a0, a1, a2, a3, a4, a5, a6, a7, some (Sum.inl (Value.int x)), a9, a10, a11, a12, a13, a14, a15, a16], st, s, k) = zev (zk_L_law sc) (545, [a0, a1, a2, a3, a4, a5, a6, a7, some (Sum.inl (Value.int x)), a9, a10, a11, a12, a13, a14, a15, a16], Sum.inl (Value.int x) :: st, s, k) := zev_go rfl rfl
set_option maxRecDepth 8000 in
theorem zr_L_law_545 {sc : List Int32} (a0 a1 a2 a3 a4 a5 a6 a7 a8 a9 a11 a12 a13 a14 a15 a16 : Option zAV) (st : List zAV) (s : zAS) (k : Nat × Nat) (x : Int32) : zev (zk_L_law sc) (545, [a0, a1, a2, a3, a4, a5, a6, a7, a8, a9, some (Sum.inl (Value.int x)), a11, a12, a13, a14, a15, a16], st, s, k) = zev (zk_L_law sc) (547, [a0, a1, a2, a3, a4, a5, a6, a7, a8, a9, some (Sum.inl (Value.int x)), a11, a12, a13, a14, a15, a16], Sum.inl (Value.int x) :: st, s, k) := zev_go rfl rfl
set_option maxRecDepth 8000 in
theorem zr_L_law_547 {sc : List Int32} (ls : zLs) (st : List zAV) (s : zAS) (k : Nat × Nat) : zev (zk_L_law sc) (547, ls, st, s, k) = zev (zk_L_law sc) (548, ls, Sum.inl (Value.int (0)) :: st, s, k) := zev_go rfl rfl
set_option maxRecDepth 8000 in
theorem zr_L_law_548 {sc : List Int32} (ls : zLs) (st : List zAV) (s : zAS) (k : Nat × Nat) : zev (zk_L_law sc) (548, ls, st, s, k) = zev (zk_L_law sc) (549, ls, Sum.inl (Value.int (0)) :: st, s, k) := zev_go rfl rfl
set_option maxRecDepth 8000 in
theorem zr_L_law_549 {sc : List Int32} (ls : zLs) (st : List zAV) (s : zAS) (k : Nat × Nat) (r v0 v1 v2 v3 v4 : zAV) (h : zcok (zES sc) 8 0 0 (zR_L_law).cells (zR_L_law).slots r st k) : zev (zk_L_law sc) (549, ls, v4 :: v3 :: v2 :: v1 :: v0 :: r :: st, s, k) = zret (zk_L_law sc) 552 ls st (k.1 + 0, k.2 + 0) (m_X8_claim [r, v0, v1, v2, v3, v4] s) := zf_callV (as := [v4, v3, v2, v1, v0]) 5 rfl rfl h
set_option maxRecDepth 8000 in
theorem zr_L_law_552 {sc : List Int32} (ls : zLs) (st : List zAV) (s : zAS) (k : Nat × Nat) : zev (zk_L_law sc) (552, ls, st, s, k) = zev (zk_L_law sc) (553, ls, Sum.inl (Value.int (1)) :: st, s, k) := zev_go rfl rfl
set_option maxRecDepth 8000 in
theorem zr_L_law_553 {sc : List Int32} (ls : zLs) (st : List zAV) (s : zAS) (k : Nat × Nat) (x y : Int32) : zev (zk_L_law sc) (553, ls, Sum.inl (Value.int y) :: Sum.inl (Value.int x) :: st, s, k) = if decide (x = y) = true then zev (zk_L_law sc) (558, ls, st, s, k) else zev (zk_L_law sc) (556, ls, st, s, k) := zf_cmp (f := fun x y => decide (x = y)) rfl
set_option maxRecDepth 8000 in
theorem zr_L_law_556 {sc : List Int32} (ls : zLs) (st : List zAV) (s : zAS) (k : Nat × Nat) : zev (zk_L_law sc) (556, ls, st, s, k) = zev (zk_L_law sc) (557, ls, Sum.inl (Value.int (0)) :: st, s, k) := zev_go rfl rfl
set_option maxRecDepth 8000 in
theorem zr_L_law_557 {sc : List Int32} (ls : zLs) (s : zAS) (k : Nat × Nat) (x : Int32) (hx : x = 0 ∨ x = 1) : zev (zk_L_law sc) (557, ls, [Sum.inl (Value.int x)], s, k) = some (.inl (some (Sum.inl (Value.int x))), s) := zf_retz rfl hx
set_option maxRecDepth 8000 in
theorem zr_L_law_558 {sc : List Int32} (a0 a2 a3 a4 a5 a6 a7 a8 a9 a10 a11 a12 a13 a14 a15 a16 : Option zAV) (st : List zAV) (s : zAS) (k : Nat × Nat) (o : Nat × Nat) : zev (zk_L_law sc) (558, [a0, some (Sum.inr o), a2, a3, a4, a5, a6, a7, a8, a9, a10, a11, a12, a13, a14, a15, a16], st, s, k) = zev (zk_L_law sc) (559, [a0, some (Sum.inr o), a2, a3, a4, a5, a6, a7, a8, a9, a10, a11, a12, a13, a14, a15, a16], Sum.inr o :: st, s, k) := zev_go rfl rfl
set_option maxRecDepth 8000 in
theorem zr_L_law_559 {sc : List Int32} (ls : zLs) (st : List zAV) (s : zAS) (k : Nat × Nat) (r : zAV) (h : zcok (zES sc) 8 0 0 (zR_L_law).cells (zR_L_law).slots r st k) : zev (zk_L_law sc) (559, ls, r :: st, s, k) = zret (zk_L_law sc) 562 ls st (k.1 + 0, k.2 + 0) (m_X8_digest [r] s) := zf_callV (as := []) 0 rfl rfl h
set_option maxRecDepth 8000 in
theorem zr_L_law_562 {sc : List Int32} (a0 a1 a2 a3 a4 a5 a6 a7 a8 a9 a10 a11 a12 a13 a14 a15 a16 : Option zAV) (st : List zAV) (s : zAS) (k : Nat × Nat) (x : Int64) : zev (zk_L_law sc) (562, [a0, a1, a2, a3, a4, a5, a6, a7, a8, a9, a10, a11, a12, a13, a14, a15, a16], Sum.inl (Value.long x) :: st, s, k) = zev (zk_L_law sc) (564, [a0, a1, a2, a3, a4, zk1 a5, some (Sum.inl (Value.long x)), none, a8, a9, a10, a11, a12, a13, a14, a15, a16], st, s, k) := zev_go rfl rfl
set_option maxRecDepth 8000 in
theorem zr_L_law_564 {sc : List Int32} (ls : zLs) (st : List zAV) (s : zAS) (k : Nat × Nat) : zev (zk_L_law sc) (564, ls, st, s, k) = zev (zk_L_law sc) (565, ls, Sum.inl (Value.int (0)) :: st, s, k) := zev_go rfl rfl
set_option maxRecDepth 8000 in
theorem zr_L_law_565 {sc : List Int32} (a0 a1 a2 a3 a4 a5 a6 a7 a8 a9 a10 a11 a12 a13 a14 a15 a16 : Option zAV) (st : List zAV) (s : zAS) (k : Nat × Nat) (x : Int32) : zev (zk_L_law sc) (565, [a0, a1, a2, a3, a4, a5, a6, a7, a8, a9, a10, a11, a12, a13, a14, a15, a16], Sum.inl (Value.int x) :: st, s, k) = zev (zk_L_law sc) (567, [a0, a1, a2, a3, a4, a5, a6, a7, a8, a9, zk1 a10, some (Sum.inl (Value.int x)), a12, a13, a14, a15, a16], st, s, k) := zev_go rfl rfl
set_option maxRecDepth 8000 in
theorem zr_L_law_567 {sc : List Int32} (a0 a1 a2 a3 a4 a5 a6 a7 a8 a9 a10 a12 a13 a14 a15 a16 : Option zAV) (st : List zAV) (s : zAS) (k : Nat × Nat) (x : Int32) : zev (zk_L_law sc) (567, [a0, a1, a2, a3, a4, a5, a6, a7, a8, a9, a10, some (Sum.inl (Value.int x)), a12, a13, a14, a15, a16], st, s, k) = zev (zk_L_law sc) (569, [a0, a1, a2, a3, a4, a5, a6, a7, a8, a9, a10, some (Sum.inl (Value.int x)), a12, a13, a14, a15, a16], Sum.inl (Value.int x) :: st, s, k) := zev_go rfl rfl
set_option maxRecDepth 8000 in
theorem zr_L_law_569 {sc : List Int32} (a0 a2 a3 a4 a5 a6 a7 a8 a9 a10 a11 a12 a13 a14 a15 a16 : Option zAV) (st : List zAV) (s : zAS) (k : Nat × Nat) (o : Nat × Nat) : zev (zk_L_law sc) (569, [a0, some (Sum.inr o), a2, a3, a4, a5, a6, a7, a8, a9, a10, a11, a12, a13, a14, a15, a16], st, s, k) = zev (zk_L_law sc) (570, [a0, some (Sum.inr o), a2, a3, a4, a5, a6, a7, a8, a9, a10, a11, a12, a13, a14, a15, a16], Sum.inr o :: st, s, k) := zev_go rfl rfl
set_option maxRecDepth 8000 in
theorem zr_L_law_570 {sc : List Int32} (ls : zLs) (st : List zAV) (s : zAS) (k : Nat × Nat) : zev (zk_L_law sc) (570, ls, st, s, k) = zev (zk_L_law sc) (571, ls, Sum.inl (Value.int (2)) :: st, s, k) := zev_go rfl rfl
set_option maxRecDepth 8000 in
theorem zr_L_law_571 {sc : List Int32} (ls : zLs) (st : List zAV) (s : zAS) (k : Nat × Nat) (r v0 : zAV) (h : zcok (zES sc) 8 0 0 (zR_L_law).cells (zR_L_law).slots r st k) : zev (zk_L_law sc) (571, ls, v0 :: r :: st, s, k) = zret (zk_L_law sc) 574 ls st (k.1 + 0, k.2 + 0) (m_X8_count [r, v0] s) := zf_callV (as := [v0]) 1 rfl rfl h
set_option maxRecDepth 8000 in
theorem zr_L_law_574 {sc : List Int32} (ls : zLs) (st : List zAV) (s : zAS) (k : Nat × Nat) (x y : Int32) : zev (zk_L_law sc) (574, ls, Sum.inl (Value.int y) :: Sum.inl (Value.int x) :: st, s, k) = if decide (y ≤ x) = true then zev (zk_L_law sc) (790, ls, st, s, k) else zev (zk_L_law sc) (577, ls, st, s, k) := zf_cmp (f := fun x y => decide (y ≤ x)) rfl
set_option maxRecDepth 8000 in
theorem zr_L_law_577 {sc : List Int32} (a0 a2 a3 a4 a5 a6 a7 a8 a9 a10 a11 a12 a13 a14 a15 a16 : Option zAV) (st : List zAV) (s : zAS) (k : Nat × Nat) (o : Nat × Nat) : zev (zk_L_law sc) (577, [a0, some (Sum.inr o), a2, a3, a4, a5, a6, a7, a8, a9, a10, a11, a12, a13, a14, a15, a16], st, s, k) = zev (zk_L_law sc) (578, [a0, some (Sum.inr o), a2, a3, a4, a5, a6, a7, a8, a9, a10, a11, a12, a13, a14, a15, a16], Sum.inr o :: st, s, k) := zev_go rfl rfl
set_option maxRecDepth 8000 in
theorem zr_L_law_578 {sc : List Int32} (a0 a1 a2 a3 a4 a5 a6 a7 a8 a9 a10 a12 a13 a14 a15 a16 : Option zAV) (st : List zAV) (s : zAS) (k : Nat × Nat) (x : Int32) : zev (zk_L_law sc) (578, [a0, a1, a2, a3, a4, a5, a6, a7, a8, a9, a10, some (Sum.inl (Value.int x)), a12, a13, a14, a15, a16], st, s, k) = zev (zk_L_law sc) (580, [a0, a1, a2, a3, a4, a5, a6, a7, a8, a9, a10, some (Sum.inl (Value.int x)), a12, a13, a14, a15, a16], Sum.inl (Value.int x) :: st, s, k) := zev_go rfl rfl
set_option maxRecDepth 8000 in
theorem zr_L_law_580 {sc : List Int32} (ls : zLs) (st : List zAV) (s : zAS) (k : Nat × Nat) : zev (zk_L_law sc) (580, ls, st, s, k) = zev (zk_L_law sc) (581, ls, Sum.inl (Value.int (1)) :: st, s, k) := zev_go rfl rfl
set_option maxRecDepth 8000 in
theorem zr_L_law_581 {sc : List Int32} (ls : zLs) (st : List zAV) (s : zAS) (k : Nat × Nat) : zev (zk_L_law sc) (581, ls, st, s, k) = zev (zk_L_law sc) (582, ls, Sum.inl (Value.int (0)) :: st, s, k) := zev_go rfl rfl
set_option maxRecDepth 8000 in
theorem zr_L_law_582 {sc : List Int32} (ls : zLs) (st : List zAV) (s : zAS) (k : Nat × Nat) (r v0 v1 v2 : zAV) (h : zcok (zES sc) 8 0 0 (zR_L_law).cells (zR_L_law).slots r st k) : zev (zk_L_law sc) (582, ls, v2 :: v1 :: v0 :: r :: st, s, k) = zret (zk_L_law sc) 585 ls st (k.1 + 0, k.2 + 0) (m_X8_everywhere [r, v0, v1, v2] s) := zf_callV (as := [v2, v1, v0]) 3 rfl rfl h
set_option maxRecDepth 8000 in
theorem zr_L_law_585 {sc : List Int32} (a0 a1 a2 a3 a4 a5 a6 a7 a8 a9 a10 a11 a12 a13 a14 a15 a16 : Option zAV) (st : List zAV) (s : zAS) (k : Nat × Nat) (x : Int32) : zev (zk_L_law sc) (585, [a0, a1, a2, a3, a4, a5, a6, a7, a8, a9, a10, a11, a12, a13, a14, a15, a16], Sum.inl (Value.int x) :: st, s, k) = zev (zk_L_law sc) (587, [a0, a1, a2, a3, a4, a5, a6, a7, a8, a9, a10, zk1 a11, some (Sum.inl (Value.int x)), a13, a14, a15, a16], st, s, k) := zev_go rfl rfl
set_option maxRecDepth 8000 in
theorem zr_L_law_587 {sc : List Int32} (a0 a2 a3 a4 a5 a6 a7 a8 a9 a10 a11 a12 a13 a14 a15 a16 : Option zAV) (st : List zAV) (s : zAS) (k : Nat × Nat) (o : Nat × Nat) : zev (zk_L_law sc) (587, [a0, some (Sum.inr o), a2, a3, a4, a5, a6, a7, a8, a9, a10, a11, a12, a13, a14, a15, a16], st, s, k) = zev (zk_L_law sc) (588, [a0, some (Sum.inr o), a2, a3, a4, a5, a6, a7, a8, a9, a10, a11, a12, a13, a14, a15, a16], Sum.inr o :: st, s, k) := zev_go rfl rfl
set_option maxRecDepth 8000 in
theorem zr_L_law_588 {sc : List Int32} (a0 a1 a2 a3 a4 a5 a6 a7 a8 a9 a10 a12 a13 a14 a15 a16 : Option zAV) (st : List zAV) (s : zAS) (k : Nat × Nat) (x : Int32) : zev (zk_L_law sc) (588, [a0, a1, a2, a3, a4, a5, a6, a7, a8, a9, a10, some (Sum.inl (Value.int x)), a12, a13, a14, a15, a16], st, s, k) = zev (zk_L_law sc) (590, [a0, a1, a2, a3, a4, a5, a6, a7, a8, a9, a10, some (Sum.inl (Value.int x)), a12, a13, a14, a15, a16], Sum.inl (Value.int x) :: st, s, k) := zev_go rfl rfl
set_option maxRecDepth 8000 in
theorem zr_L_law_590 {sc : List Int32} (ls : zLs) (st : List zAV) (s : zAS) (k : Nat × Nat) : zev (zk_L_law sc) (590, ls, st, s, k) = zev (zk_L_law sc) (591, ls, Sum.inl (Value.int (1)) :: st, s, k) := zev_go rfl rfl
set_option maxRecDepth 8000 in
theorem zr_L_law_591 {sc : List Int32} (ls : zLs) (st : List zAV) (s : zAS) (k : Nat × Nat) : zev (zk_L_law sc) (591, ls, st, s, k) = zev (zk_L_law sc) (592, ls, Sum.inl (Value.int (1)) :: st, s, k) := zev_go rfl rfl
set_option maxRecDepth 8000 in
theorem zr_L_law_592 {sc : List Int32} (ls : zLs) (st : List zAV) (s : zAS) (k : Nat × Nat) (r v0 v1 v2 : zAV) (h : zcok (zES sc) 8 0 0 (zR_L_law).cells (zR_L_law).slots r st k) : zev (zk_L_law sc) (592, ls, v2 :: v1 :: v0 :: r :: st, s, k) = zret (zk_L_law sc) 595 ls st (k.1 + 0, k.2 + 0) (m_X8_everywhere [r, v0, v1, v2] s) := zf_callV (as := [v2, v1, v0]) 3 rfl rfl h
set_option maxRecDepth 8000 in
theorem zr_L_law_595 {sc : List Int32} (a0 a1 a2 a3 a4 a5 a6 a7 a8 a9 a10 a11 a12 a13 a14 a15 a16 : Option zAV) (st : List zAV) (s : zAS) (k : Nat × Nat) (x : Int32) : zev (zk_L_law sc) (595, [a0, a1, a2, a3, a4, a5, a6, a7, a8, a9, a10, a11, a12, a13, a14, a15, a16], Sum.inl (Value.int x) :: st, s, k) = zev (zk_L_law sc) (597, [a0, a1, a2, a3, a4, a5, a6, a7, a8, a9, a10, a11, zk1 a12, some (Sum.inl (Value.int x)), a14, a15, a16], st, s, k) := zev_go rfl rfl
set_option maxRecDepth 8000 in
theorem zr_L_law_597 {sc : List Int32} (a0 a2 a3 a4 a5 a6 a7 a8 a9 a10 a11 a12 a13 a14 a15 a16 : Option zAV) (st : List zAV) (s : zAS) (k : Nat × Nat) (o : Nat × Nat) : zev (zk_L_law sc) (597, [a0, some (Sum.inr o), a2, a3, a4, a5, a6, a7, a8, a9, a10, a11, a12, a13, a14, a15, a16], st, s, k) = zev (zk_L_law sc) (598, [a0, some (Sum.inr o), a2, a3, a4, a5, a6, a7, a8, a9, a10, a11, a12, a13, a14, a15, a16], Sum.inr o :: st, s, k) := zev_go rfl rfl
set_option maxRecDepth 8000 in
theorem zr_L_law_598 {sc : List Int32} (a0 a1 a2 a3 a4 a5 a6 a7 a8 a9 a10 a12 a13 a14 a15 a16 : Option zAV) (st : List zAV) (s : zAS) (k : Nat × Nat) (x : Int32) : zev (zk_L_law sc) (598, [a0, a1, a2, a3, a4, a5, a6, a7, a8, a9, a10, some (Sum.inl (Value.int x)), a12, a13, a14, a15, a16], st, s, k) = zev (zk_L_law sc) (600, [a0, a1, a2, a3, a4, a5, a6, a7, a8, a9, a10, some (Sum.inl (Value.int x)), a12, a13, a14, a15, a16], Sum.inl (Value.int x) :: st, s, k) := zev_go rfl rfl
set_option maxRecDepth 8000 in
theorem zr_L_law_600 {sc : List Int32} (ls : zLs) (st : List zAV) (s : zAS) (k : Nat × Nat) : zev (zk_L_law sc) (600, ls, st, s, k) = zev (zk_L_law sc) (601, ls, Sum.inl (Value.int (1)) :: st, s, k) := zev_go rfl rfl
set_option maxRecDepth 8000 in
theorem zr_L_law_601 {sc : List Int32} (ls : zLs) (st : List zAV) (s : zAS) (k : Nat × Nat) : zev (zk_L_law sc) (601, ls, st, s, k) = zev (zk_L_law sc) (602, ls, Sum.inl (Value.int (2)) :: st, s, k) := zev_go rfl rfl
set_option maxRecDepth 8000 in
theorem zr_L_law_602 {sc : List Int32} (ls : zLs) (st : List zAV) (s : zAS) (k : Nat × Nat) (r v0 v1 v2 : zAV) (h : zcok (zES sc) 8 0 0 (zR_L_law).cells (zR_L_law).slots r st k) : zev (zk_L_law sc) (602, ls, v2 :: v1 :: v0 :: r :: st, s, k) = zret (zk_L_law sc) 605 ls st (k.1 + 0, k.2 + 0) (m_X8_everywhere [r, v0, v1, v2] s) := zf_callV (as := [v2, v1, v0]) 3 rfl rfl h
set_option maxRecDepth 8000 in
theorem zr_L_law_605 {sc : List Int32} (a0 a1 a2 a3 a4 a5 a6 a7 a8 a9 a10 a11 a12 a13 a14 a15 a16 : Option zAV) (st : List zAV) (s : zAS) (k : Nat × Nat) (x : Int32) : zev (zk_L_law sc) (605, [a0, a1, a2, a3, a4, a5, a6, a7, a8, a9, a10, a11, a12, a13, a14, a15, a16], Sum.inl (Value.int x) :: st, s, k) = zev (zk_L_law sc) (607, [a0, a1, a2, a3, a4, a5, a6, a7, a8, a9, a10, a11, a12, zk1 a13, some (Sum.inl (Value.int x)), a15, a16], st, s, k) := zev_go rfl rfl
set_option maxRecDepth 8000 in
theorem zr_L_law_607 {sc : List Int32} (a0 a1 a2 a3 a4 a5 a6 a7 a8 a9 a10 a11 a13 a14 a15 a16 : Option zAV) (st : List zAV) (s : zAS) (k : Nat × Nat) (x : Int32) : zev (zk_L_law sc) (607, [a0, a1, a2, a3, a4, a5, a6, a7, a8, a9, a10, a11, some (Sum.inl (Value.int x)), a13, a14, a15, a16], st, s, k) = zev (zk_L_law sc) (609, [a0, a1, a2, a3, a4, a5, a6, a7, a8, a9, a10, a11, some (Sum.inl (Value.int x)), a13, a14, a15, a16], Sum.inl (Value.int x) :: st, s, k) := zev_go rfl rfl
set_option maxRecDepth 8000 in
theorem zr_L_law_609 {sc : List Int32} (a0 a1 a2 a3 a4 a5 a6 a7 a8 a9 a10 a11 a12 a14 a15 a16 : Option zAV) (st : List zAV) (s : zAS) (k : Nat × Nat) (x : Int32) : zev (zk_L_law sc) (609, [a0, a1, a2, a3, a4, a5, a6, a7, a8, a9, a10, a11, a12, some (Sum.inl (Value.int x)), a14, a15, a16], st, s, k) = zev (zk_L_law sc) (611, [a0, a1, a2, a3, a4, a5, a6, a7, a8, a9, a10, a11, a12, some (Sum.inl (Value.int x)), a14, a15, a16], Sum.inl (Value.int x) :: st, s, k) := zev_go rfl rfl
set_option maxRecDepth 8000 in
theorem zr_L_law_611 {sc : List Int32} (ls : zLs) (st : List zAV) (s : zAS) (k : Nat × Nat) (x y : Int32) : zev (zk_L_law sc) (611, ls, Sum.inl (Value.int y) :: Sum.inl (Value.int x) :: st, s, k) = zev (zk_L_law sc) (612, ls, Sum.inl (Value.int (x + y)) :: st, s, k) := zev_go rfl rfl
set_option maxRecDepth 8000 in
theorem zr_L_law_612 {sc : List Int32} (a0 a1 a3 a4 a5 a6 a7 a8 a9 a10 a11 a12 a13 a14 a15 a16 : Option zAV) (st : List zAV) (s : zAS) (k : Nat × Nat) (x : Int32) : zev (zk_L_law sc) (612, [a0, a1, some (Sum.inl (Value.int x)), a3, a4, a5, a6, a7, a8, a9, a10, a11, a12, a13, a14, a15, a16], st, s, k) = zev (zk_L_law sc) (613, [a0, a1, some (Sum.inl (Value.int x)), a3, a4, a5, a6, a7, a8, a9, a10, a11, a12, a13, a14, a15, a16], Sum.inl (Value.int x) :: st, s, k) := zev_go rfl rfl
set_option maxRecDepth 8000 in
theorem zr_L_law_613 {sc : List Int32} (a0 a1 a3 a4 a5 a6 a7 a8 a9 a10 a11 a12 a13 a14 a15 a16 : Option zAV) (st : List zAV) (s : zAS) (k : Nat × Nat) (x : Int32) : zev (zk_L_law sc) (613, [a0, a1, some (Sum.inl (Value.int x)), a3, a4, a5, a6, a7, a8, a9, a10, a11, a12, a13, a14, a15, a16], st, s, k) = zev (zk_L_law sc) (614, [a0, a1, some (Sum.inl (Value.int x)), a3, a4, a5, a6, a7, a8, a9, a10, a11, a12, a13, a14, a15, a16], Sum.inl (Value.int x) :: st, s, k) := zev_go rfl rfl
set_option maxRecDepth 8000 in
theorem zr_L_law_614 {sc : List Int32} (ls : zLs) (st : List zAV) (s : zAS) (k : Nat × Nat) (x y : Int32) : zev (zk_L_law sc) (614, ls, Sum.inl (Value.int y) :: Sum.inl (Value.int x) :: st, s, k) = zev (zk_L_law sc) (615, ls, Sum.inl (Value.int (x * y)) :: st, s, k) := zev_go rfl rfl
set_option maxRecDepth 8000 in
theorem zr_L_law_615 {sc : List Int32} (ls : zLs) (st : List zAV) (s : zAS) (k : Nat × Nat) (x y : Int32) : zev (zk_L_law sc) (615, ls, Sum.inl (Value.int y) :: Sum.inl (Value.int x) :: st, s, k) = if decide (y < x) = true then zev (zk_L_law sc) (651, ls, st, s, k) else zev (zk_L_law sc) (618, ls, st, s, k) := zf_cmp (f := fun x y => decide (y < x)) rfl
set_option maxRecDepth 8000 in
theorem zr_L_law_618 {sc : List Int32} (a0 a1 a2 a3 a4 a5 a6 a7 a8 a9 a10 a11 a12 a14 a15 a16 : Option zAV) (st : List zAV) (s : zAS) (k : Nat × Nat) (x : Int32) : zev (zk_L_law sc) (618, [a0, a1, a2, a3, a4, a5, a6, a7, a8, a9, a10, a11, a12, some (Sum.inl (Value.int x)), a14, a15, a16], st, s, k) = zev (zk_L_law sc) (620, [a0, a1, a2, a3, a4, a5, a6, a7, a8, a9, a10, a11, a12, some (Sum.inl (Value.int x)), a14, a15, a16], Sum.inl (Value.int x) :: st, s, k) := zev_go rfl rfl
set_option maxRecDepth 8000 in
theorem zr_L_law_620 {sc : List Int32} (ls : zLs) (st : List zAV) (s : zAS) (k : Nat × Nat) (x : Int32) : zev (zk_L_law sc) (620, ls, Sum.inl (Value.int x) :: st, s, k) = if decide (¬ x = 0) = true then zev (zk_L_law sc) (627, ls, st, s, k) else zev (zk_L_law sc) (623, ls, st, s, k) := zf_if (f := fun x => decide (¬ x = 0)) rfl
set_option maxRecDepth 8000 in
theorem zr_L_law_623 {sc : List Int32} (ls : zLs) (st : List zAV) (s : zAS) (k : Nat × Nat) : zev (zk_L_law sc) (623, ls, st, s, k) = zev (zk_L_law sc) (624, ls, Sum.inl (Value.int (1)) :: st, s, k) := zev_go rfl rfl
set_option maxRecDepth 8000 in
theorem zr_L_law_624 {sc : List Int32} (ls : zLs) (st : List zAV) (s : zAS) (k : Nat × Nat) : zev (zk_L_law sc) (624, ls, st, s, k) = zev (zk_L_law sc) (628, ls, st, s, k) := zev_go rfl rfl
set_option maxRecDepth 8000 in
theorem zr_L_law_627 {sc : List Int32} (ls : zLs) (st : List zAV) (s : zAS) (k : Nat × Nat) : zev (zk_L_law sc) (627, ls, st, s, k) = zev (zk_L_law sc) (628, ls, Sum.inl (Value.int (0)) :: st, s, k) := zev_go rfl rfl
set_option maxRecDepth 8000 in
theorem zr_L_law_628 {sc : List Int32} (a0 a1 a2 a3 a4 a5 a6 a7 a8 a9 a10 a11 a12 a13 a15 a16 : Option zAV) (st : List zAV) (s : zAS) (k : Nat × Nat) (x : Int32) : zev (zk_L_law sc) (628, [a0, a1, a2, a3, a4, a5, a6, a7, a8, a9, a10, a11, a12, a13, some (Sum.inl (Value.int x)), a15, a16], st, s, k) = zev (zk_L_law sc) (630, [a0, a1, a2, a3, a4, a5, a6, a7, a8, a9, a10, a11, a12, a13, some (Sum.inl (Value.int x)), a15, a16], Sum.inl (Value.int x) :: st, s, k) := zev_go rfl rfl
set_option maxRecDepth 8000 in
theorem zr_L_law_630 {sc : List Int32} (ls : zLs) (st : List zAV) (s : zAS) (k : Nat × Nat) (x : Int32) : zev (zk_L_law sc) (630, ls, Sum.inl (Value.int x) :: st, s, k) = if decide (0 ≤ x) = true then zev (zk_L_law sc) (637, ls, st, s, k) else zev (zk_L_law sc) (633, ls, st, s, k) := zf_if (f := fun x => decide (0 ≤ x)) rfl
set_option maxRecDepth 8000 in
theorem zr_L_law_633 {sc : List Int32} (ls : zLs) (st : List zAV) (s : zAS) (k : Nat × Nat) : zev (zk_L_law sc) (633, ls, st, s, k) = zev (zk_L_law sc) (634, ls, Sum.inl (Value.int (1)) :: st, s, k) := zev_go rfl rfl
set_option maxRecDepth 8000 in
theorem zr_L_law_634 {sc : List Int32} (ls : zLs) (st : List zAV) (s : zAS) (k : Nat × Nat) : zev (zk_L_law sc) (634, ls, st, s, k) = zev (zk_L_law sc) (638, ls, st, s, k) := zev_go rfl rfl
set_option maxRecDepth 8000 in
theorem zr_L_law_637 {sc : List Int32} (ls : zLs) (st : List zAV) (s : zAS) (k : Nat × Nat) : zev (zk_L_law sc) (637, ls, st, s, k) = zev (zk_L_law sc) (638, ls, Sum.inl (Value.int (0)) :: st, s, k) := zev_go rfl rfl
set_option maxRecDepth 8000 in
theorem zr_L_law_638 {sc : List Int32} (ls : zLs) (st : List zAV) (s : zAS) (k : Nat × Nat) (x y : Int32) : zev (zk_L_law sc) (638, ls, Sum.inl (Value.int y) :: Sum.inl (Value.int x) :: st, s, k) = if decide (¬ x = y) = true then zev (zk_L_law sc) (651, ls, st, s, k) else zev (zk_L_law sc) (641, ls, st, s, k) := zf_cmp (f := fun x y => decide (¬ x = y)) rfl
set_option maxRecDepth 8000 in
theorem zr_L_law_641 {sc : List Int32} (a0 a2 a3 a4 a5 a6 a7 a8 a9 a10 a11 a12 a13 a14 a15 a16 : Option zAV) (st : List zAV) (s : zAS) (k : Nat × Nat) (o : Nat × Nat) : zev (zk_L_law sc) (641, [a0, some (Sum.inr o), a2, a3, a4, a5, a6, a7, a8, a9, a10, a11, a12, a13, a14, a15, a16], st, s, k) = zev (zk_L_law sc) (642, [a0, some (Sum.inr o), a2, a3, a4, a5, a6, a7, a8, a9, a10, a11, a12, a13, a14, a15, a16], Sum.inr o :: st, s, k) := zev_go rfl rfl
set_option maxRecDepth 8000 in
theorem zr_L_law_642 {sc : List Int32} (ls : zLs) (st : List zAV) (s : zAS) (k : Nat × Nat) (r : zAV) (h : zcok (zES sc) 8 0 0 (zR_L_law).cells (zR_L_law).slots r st k) : zev (zk_L_law sc) (642, ls, r :: st, s, k) = zret (zk_L_law sc) 645 ls st (k.1 + 0, k.2 + 0) (m_X8_digest [r] s) := zf_callV (as := []) 0 rfl rfl h
set_option maxRecDepth 8000 in
theorem zr_L_law_645 {sc : List Int32} (a0 a1 a2 a3 a4 a5 a7 a8 a9 a10 a11 a12 a13 a14 a15 a16 : Option zAV) (st : List zAV) (s : zAS) (k : Nat × Nat) (x : Int64) : zev (zk_L_law sc) (645, [a0, a1, a2, a3, a4, a5, some (Sum.inl (Value.long x)), a7, a8, a9, a10, a11, a12, a13, a14, a15, a16], st, s, k) = zev (zk_L_law sc) (647, [a0, a1, a2, a3, a4, a5, some (Sum.inl (Value.long x)), a7, a8, a9, a10, a11, a12, a13, a14, a15, a16], Sum.inl (Value.long x) :: st, s, k) := zev_go rfl rfl
set_option maxRecDepth 8000 in
theorem zr_L_law_647 {sc : List Int32} (ls : zLs) (st : List zAV) (s : zAS) (k : Nat × Nat) (x y : Int64) : zev (zk_L_law sc) (647, ls, Sum.inl (Value.long y) :: Sum.inl (Value.long x) :: st, s, k) = zev (zk_L_law sc) (648, ls, Sum.inl (Value.int (lg_cmp x y)) :: st, s, k) := zev_go rfl rfl
set_option maxRecDepth 8000 in
theorem zr_L_law_648 {sc : List Int32} (ls : zLs) (st : List zAV) (s : zAS) (k : Nat × Nat) (x : Int32) : zev (zk_L_law sc) (648, ls, Sum.inl (Value.int x) :: st, s, k) = if decide (x = 0) = true then zev (zk_L_law sc) (653, ls, st, s, k) else zev (zk_L_law sc) (651, ls, st, s, k) := zf_if (f := fun x => decide (x = 0)) rfl
set_option maxRecDepth 8000 in
theorem zr_L_law_651 {sc : List Int32} (ls : zLs) (st : List zAV) (s : zAS) (k : Nat × Nat) : zev (zk_L_law sc) (651, ls, st, s, k) = zev (zk_L_law sc) (652, ls, Sum.inl (Value.int (0)) :: st, s, k) := zev_go rfl rfl
set_option maxRecDepth 8000 in
theorem zr_L_law_652 {sc : List Int32} (ls : zLs) (s : zAS) (k : Nat × Nat) (x : Int32) (hx : x = 0 ∨ x = 1) : zev (zk_L_law sc) (652, ls, [Sum.inl (Value.int x)], s, k) = some (.inl (some (Sum.inl (Value.int x))), s) := zf_retz rfl hx
set_option maxRecDepth 8000 in
theorem zr_L_law_653 {sc : List Int32} (a0 a2 a3 a4 a5 a6 a7 a8 a9 a10 a11 a12 a13 a14 a15 a16 : Option zAV) (st : List zAV) (s : zAS) (k : Nat × Nat) (o : Nat × Nat) : zev (zk_L_law sc) (653, [a0, some (Sum.inr o), a2, a3, a4, a5, a6, a7, a8, a9, a10, a11, a12, a13, a14, a15, a16], st, s, k) = zev (zk_L_law sc) (654, [a0, some (Sum.inr o), a2, a3, a4, a5, a6, a7, a8, a9, a10, a11, a12, a13, a14, a15, a16], Sum.inr o :: st, s, k) := zev_go rfl rfl
set_option maxRecDepth 8000 in
theorem zr_L_law_654 {sc : List Int32} (ls : zLs) (st : List zAV) (s : zAS) (k : Nat × Nat) : zev (zk_L_law sc) (654, ls, st, s, k) = zev (zk_L_law sc) (655, ls, Sum.inl (Value.int (1)) :: st, s, k) := zev_go rfl rfl
set_option maxRecDepth 8000 in
theorem zr_L_law_655 {sc : List Int32} (ls : zLs) (st : List zAV) (s : zAS) (k : Nat × Nat) : zev (zk_L_law sc) (655, ls, st, s, k) = zev (zk_L_law sc) (656, ls, Sum.inl (Value.int (0)) :: st, s, k) := zev_go rfl rfl
set_option maxRecDepth 8000 in
theorem zr_L_law_656 {sc : List Int32} (ls : zLs) (st : List zAV) (s : zAS) (k : Nat × Nat) (r v0 v1 : zAV) (h : zcok (zES sc) 8 0 0 (zR_L_law).cells (zR_L_law).slots r st k) : zev (zk_L_law sc) (656, ls, v1 :: v0 :: r :: st, s, k) = zret (zk_L_law sc) 659 ls st (k.1 + 0, k.2 + 0) (m_X8_number [r, v0, v1] s) := zf_callV (as := [v1, v0]) 2 rfl rfl h
set_option maxRecDepth 8000 in
theorem zr_L_law_659 {sc : List Int32} (a0 a1 a2 a3 a4 a5 a6 a7 a8 a9 a10 a11 a12 a13 a14 a15 a16 : Option zAV) (st : List zAV) (s : zAS) (k : Nat × Nat) (x : Int32) : zev (zk_L_law sc) (659, [a0, a1, a2, a3, a4, a5, a6, a7, a8, a9, a10, a11, a12, a13, a14, a15, a16], Sum.inl (Value.int x) :: st, s, k) = zev (zk_L_law sc) (661, [a0, a1, a2, a3, a4, a5, a6, a7, a8, a9, a10, a11, a12, a13, zk1 a14, some (Sum.inl (Value.int x)), a16], st, s, k) := zev_go rfl rfl
set_option maxRecDepth 8000 in
theorem zr_L_law_661 {sc : List Int32} (a0 a2 a3 a4 a5 a6 a7 a8 a9 a10 a11 a12 a13 a14 a15 a16 : Option zAV) (st : List zAV) (s : zAS) (k : Nat × Nat) (o : Nat × Nat) : zev (zk_L_law sc) (661, [a0, some (Sum.inr o), a2, a3, a4, a5, a6, a7, a8, a9, a10, a11, a12, a13, a14, a15, a16], st, s, k) = zev (zk_L_law sc) (662, [a0, some (Sum.inr o), a2, a3, a4, a5, a6, a7, a8, a9, a10, a11, a12, a13, a14, a15, a16], Sum.inr o :: st, s, k) := zev_go rfl rfl
set_option maxRecDepth 8000 in
theorem zr_L_law_662 {sc : List Int32} (ls : zLs) (st : List zAV) (s : zAS) (k : Nat × Nat) : zev (zk_L_law sc) (662, ls, st, s, k) = zev (zk_L_law sc) (663, ls, Sum.inl (Value.int (1)) :: st, s, k) := zev_go rfl rfl
set_option maxRecDepth 8000 in
theorem zr_L_law_663 {sc : List Int32} (ls : zLs) (st : List zAV) (s : zAS) (k : Nat × Nat) : zev (zk_L_law sc) (663, ls, st, s, k) = zev (zk_L_law sc) (664, ls, Sum.inl (Value.int (1)) :: st, s, k) := zev_go rfl rfl
set_option maxRecDepth 8000 in
theorem zr_L_law_664 {sc : List Int32} (ls : zLs) (st : List zAV) (s : zAS) (k : Nat × Nat) (r v0 v1 : zAV) (h : zcok (zES sc) 8 0 0 (zR_L_law).cells (zR_L_law).slots r st k) : zev (zk_L_law sc) (664, ls, v1 :: v0 :: r :: st, s, k) = zret (zk_L_law sc) 667 ls st (k.1 + 0, k.2 + 0) (m_X8_number [r, v0, v1] s) := zf_callV (as := [v1, v0]) 2 rfl rfl h
set_option maxRecDepth 8000 in
theorem zr_L_law_667 {sc : List Int32} (a0 a1 a2 a3 a4 a5 a6 a7 a8 a9 a10 a11 a12 a13 a14 a15 a16 : Option zAV) (st : List zAV) (s : zAS) (k : Nat × Nat) (x : Int32) : zev (zk_L_law sc) (667, [a0, a1, a2, a3, a4, a5, a6, a7, a8, a9, a10, a11, a12, a13, a14, a15, a16], Sum.inl (Value.int x) :: st, s, k) = zev (zk_L_law sc) (669, [a0, a1, a2, a3, a4, a5, a6, a7, a8, a9, a10, a11, a12, a13, a14, zk1 a15, some (Sum.inl (Value.int x))], st, s, k) := zev_go rfl rfl
set_option maxRecDepth 8000 in
theorem zr_L_law_669 {sc : List Int32} (a0 a1 a2 a3 a4 a5 a6 a7 a8 a9 a10 a11 a12 a13 a15 a16 : Option zAV) (st : List zAV) (s : zAS) (k : Nat × Nat) (x : Int32) : zev (zk_L_law sc) (669, [a0, a1, a2, a3, a4, a5, a6, a7, a8, a9, a10, a11, a12, a13, some (Sum.inl (Value.int x)), a15, a16], st, s, k) = zev (zk_L_law sc) (671, [a0, a1, a2, a3, a4, a5, a6, a7, a8, a9, a10, a11, a12, a13, some (Sum.inl (Value.int x)), a15, a16], Sum.inl (Value.int x) :: st, s, k) := zev_go rfl rfl
set_option maxRecDepth 8000 in
theorem zr_L_law_671 {sc : List Int32} (ls : zLs) (st : List zAV) (s : zAS) (k : Nat × Nat) (x : Int32) : zev (zk_L_law sc) (671, ls, Sum.inl (Value.int x) :: st, s, k) = if decide (x < 0) = true then zev (zk_L_law sc) (743, ls, st, s, k) else zev (zk_L_law sc) (674, ls, st, s, k) := zf_if (f := fun x => decide (x < 0)) rfl
set_option maxRecDepth 8000 in
theorem zr_L_law_674 {sc : List Int32} (a0 a2 a3 a4 a5 a6 a7 a8 a9 a10 a11 a12 a13 a14 a15 a16 : Option zAV) (st : List zAV) (s : zAS) (k : Nat × Nat) (o : Nat × Nat) : zev (zk_L_law sc) (674, [a0, some (Sum.inr o), a2, a3, a4, a5, a6, a7, a8, a9, a10, a11, a12, a13, a14, a15, a16], st, s, k) = zev (zk_L_law sc) (675, [a0, some (Sum.inr o), a2, a3, a4, a5, a6, a7, a8, a9, a10, a11, a12, a13, a14, a15, a16], Sum.inr o :: st, s, k) := zev_go rfl rfl
set_option maxRecDepth 8000 in
theorem zr_L_law_675 {sc : List Int32} (ls : zLs) (st : List zAV) (s : zAS) (k : Nat × Nat) : zev (zk_L_law sc) (675, ls, st, s, k) = zev (zk_L_law sc) (676, ls, Sum.inl (Value.int (1)) :: st, s, k) := zev_go rfl rfl
set_option maxRecDepth 8000 in
theorem zr_L_law_676 {sc : List Int32} (a0 a1 a2 a3 a4 a5 a6 a7 a8 a9 a10 a11 a12 a13 a15 a16 : Option zAV) (st : List zAV) (s : zAS) (k : Nat × Nat) (x : Int32) : zev (zk_L_law sc) (676, [a0, a1, a2, a3, a4, a5, a6, a7, a8, a9, a10, a11, a12, a13, some (Sum.inl (Value.int x)), a15, a16], st, s, k) = zev (zk_L_law sc) (678, [a0, a1, a2, a3, a4, a5, a6, a7, a8, a9, a10, a11, a12, a13, some (Sum.inl (Value.int x)), a15, a16], Sum.inl (Value.int x) :: st, s, k) := zev_go rfl rfl
set_option maxRecDepth 8000 in
theorem zr_L_law_678 {sc : List Int32} (a0 a1 a3 a4 a5 a6 a7 a8 a9 a10 a11 a12 a13 a14 a15 a16 : Option zAV) (st : List zAV) (s : zAS) (k : Nat × Nat) (x : Int32) : zev (zk_L_law sc) (678, [a0, a1, some (Sum.inl (Value.int x)), a3, a4, a5, a6, a7, a8, a9, a10, a11, a12, a13, a14, a15, a16], st, s, k) = zev (zk_L_law sc) (679, [a0, a1, some (Sum.inl (Value.int x)), a3, a4, a5, a6, a7, a8, a9, a10, a11, a12, a13, a14, a15, a16], Sum.inl (Value.int x) :: st, s, k) := zev_go rfl rfl
set_option maxRecDepth 8000 in
theorem zr_L_law_679 {sc : List Int32} (ls : zLs) (st : List zAV) (s : zAS) (k : Nat × Nat) (x y : Int32) : zev (zk_L_law sc) (679, ls, Sum.inl (Value.int y) :: Sum.inl (Value.int x) :: st, s, k) = if y = 0 then none else zev (zk_L_law sc) (680, ls, Sum.inl (Value.int (x / y)) :: st, s, k) := zf_div rfl
set_option maxRecDepth 8000 in
theorem zr_L_law_680 {sc : List Int32} (a0 a1 a2 a3 a4 a5 a6 a7 a8 a9 a10 a11 a12 a13 a15 a16 : Option zAV) (st : List zAV) (s : zAS) (k : Nat × Nat) (x : Int32) : zev (zk_L_law sc) (680, [a0, a1, a2, a3, a4, a5, a6, a7, a8, a9, a10, a11, a12, a13, some (Sum.inl (Value.int x)), a15, a16], st, s, k) = zev (zk_L_law sc) (682, [a0, a1, a2, a3, a4, a5, a6, a7, a8, a9, a10, a11, a12, a13, some (Sum.inl (Value.int x)), a15, a16], Sum.inl (Value.int x) :: st, s, k) := zev_go rfl rfl
set_option maxRecDepth 8000 in
theorem zr_L_law_682 {sc : List Int32} (a0 a1 a3 a4 a5 a6 a7 a8 a9 a10 a11 a12 a13 a14 a15 a16 : Option zAV) (st : List zAV) (s : zAS) (k : Nat × Nat) (x : Int32) : zev (zk_L_law sc) (682, [a0, a1, some (Sum.inl (Value.int x)), a3, a4, a5, a6, a7, a8, a9, a10, a11, a12, a13, a14, a15, a16], st, s, k) = zev (zk_L_law sc) (683, [a0, a1, some (Sum.inl (Value.int x)), a3, a4, a5, a6, a7, a8, a9, a10, a11, a12, a13, a14, a15, a16], Sum.inl (Value.int x) :: st, s, k) := zev_go rfl rfl
set_option maxRecDepth 8000 in
theorem zr_L_law_683 {sc : List Int32} (ls : zLs) (st : List zAV) (s : zAS) (k : Nat × Nat) (x y : Int32) : zev (zk_L_law sc) (683, ls, Sum.inl (Value.int y) :: Sum.inl (Value.int x) :: st, s, k) = if y = 0 then none else zev (zk_L_law sc) (684, ls, Sum.inl (Value.int (x - x / y * y)) :: st, s, k) := zf_rem rfl
set_option maxRecDepth 8000 in
theorem zr_L_law_684 {sc : List Int32} (ls : zLs) (st : List zAV) (s : zAS) (k : Nat × Nat) (r v0 v1 v2 : zAV) (h : zcok (zES sc) 8 0 0 (zR_L_law).cells (zR_L_law).slots r st k) : zev (zk_L_law sc) (684, ls, v2 :: v1 :: v0 :: r :: st, s, k) = zret (zk_L_law sc) 687 ls st (k.1 + 0, k.2 + 0) (m_X8_move [r, v0, v1, v2] s) := zf_callV (as := [v2, v1, v0]) 3 rfl rfl h
set_option maxRecDepth 8000 in
theorem zr_L_law_687 {sc : List Int32} (ls : zLs) (st : List zAV) (s : zAS) (k : Nat × Nat) (v : zAV) (hv : zc1 v = true) : zev (zk_L_law sc) (687, ls, v :: st, s, k) = zev (zk_L_law sc) (688, ls, st, s, k) := zf_pop rfl hv
set_option maxRecDepth 8000 in
theorem zr_L_law_688 {sc : List Int32} (a0 a2 a3 a4 a5 a6 a7 a8 a9 a10 a11 a12 a13 a14 a15 a16 : Option zAV) (st : List zAV) (s : zAS) (k : Nat × Nat) (o : Nat × Nat) : zev (zk_L_law sc) (688, [a0, some (Sum.inr o), a2, a3, a4, a5, a6, a7, a8, a9, a10, a11, a12, a13, a14, a15, a16], st, s, k) = zev (zk_L_law sc) (689, [a0, some (Sum.inr o), a2, a3, a4, a5, a6, a7, a8, a9, a10, a11, a12, a13, a14, a15, a16], Sum.inr o :: st, s, k) := zev_go rfl rfl
set_option maxRecDepth 8000 in
theorem zr_L_law_689 {sc : List Int32} (a0 a1 a2 a3 a4 a5 a6 a7 a8 a9 a10 a12 a13 a14 a15 a16 : Option zAV) (st : List zAV) (s : zAS) (k : Nat × Nat) (x : Int32) : zev (zk_L_law sc) (689, [a0, a1, a2, a3, a4, a5, a6, a7, a8, a9, a10, some (Sum.inl (Value.int x)), a12, a13, a14, a15, a16], st, s, k) = zev (zk_L_law sc) (691, [a0, a1, a2, a3, a4, a5, a6, a7, a8, a9, a10, some (Sum.inl (Value.int x)), a12, a13, a14, a15, a16], Sum.inl (Value.int x) :: st, s, k) := zev_go rfl rfl
set_option maxRecDepth 8000 in
theorem zr_L_law_691 {sc : List Int32} (ls : zLs) (st : List zAV) (s : zAS) (k : Nat × Nat) (r v0 : zAV) (h : zcok (zES sc) 8 0 0 (zR_L_law).cells (zR_L_law).slots r st k) : zev (zk_L_law sc) (691, ls, v0 :: r :: st, s, k) = zret (zk_L_law sc) 694 ls st (k.1 + 0, k.2 + 0) (m_X8_holds [r, v0] s) := zf_callV (as := [v0]) 1 rfl rfl h
set_option maxRecDepth 8000 in
theorem zr_L_law_694 {sc : List Int32} (ls : zLs) (st : List zAV) (s : zAS) (k : Nat × Nat) (x : Int32) : zev (zk_L_law sc) (694, ls, Sum.inl (Value.int x) :: st, s, k) = if decide (x = 0) = true then zev (zk_L_law sc) (699, ls, st, s, k) else zev (zk_L_law sc) (697, ls, st, s, k) := zf_if (f := fun x => decide (x = 0)) rfl
set_option maxRecDepth 8000 in
theorem zr_L_law_697 {sc : List Int32} (ls : zLs) (st : List zAV) (s : zAS) (k : Nat × Nat) : zev (zk_L_law sc) (697, ls, st, s, k) = zev (zk_L_law sc) (698, ls, Sum.inl (Value.int (0)) :: st, s, k) := zev_go rfl rfl
set_option maxRecDepth 8000 in
theorem zr_L_law_698 {sc : List Int32} (ls : zLs) (s : zAS) (k : Nat × Nat) (x : Int32) (hx : x = 0 ∨ x = 1) : zev (zk_L_law sc) (698, ls, [Sum.inl (Value.int x)], s, k) = some (.inl (some (Sum.inl (Value.int x))), s) := zf_retz rfl hx
set_option maxRecDepth 8000 in
theorem zr_L_law_699 {sc : List Int32} (a0 a1 a2 a3 a4 a5 a6 a7 a8 a9 a10 a11 a12 a13 a15 a16 : Option zAV) (st : List zAV) (s : zAS) (k : Nat × Nat) (x : Int32) : zev (zk_L_law sc) (699, [a0, a1, a2, a3, a4, a5, a6, a7, a8, a9, a10, a11, a12, a13, some (Sum.inl (Value.int x)), a15, a16], st, s, k) = zev (zk_L_law sc) (701, [a0, a1, a2, a3, a4, a5, a6, a7, a8, a9, a10, a11, a12, a13, some (Sum.inl (Value.int x)), a15, a16], Sum.inl (Value.int x) :: st, s, k) := zev_go rfl rfl
set_option maxRecDepth 8000 in
theorem zr_L_law_701 {sc : List Int32} (ls : zLs) (st : List zAV) (s : zAS) (k : Nat × Nat) (x : Int32) : zev (zk_L_law sc) (701, ls, Sum.inl (Value.int x) :: st, s, k) = if decide (x ≤ 0) = true then zev (zk_L_law sc) (733, ls, st, s, k) else zev (zk_L_law sc) (704, ls, st, s, k) := zf_if (f := fun x => decide (x ≤ 0)) rfl
set_option maxRecDepth 8000 in
theorem zr_L_law_704 {sc : List Int32} (a0 a2 a3 a4 a5 a6 a7 a8 a9 a10 a11 a12 a13 a14 a15 a16 : Option zAV) (st : List zAV) (s : zAS) (k : Nat × Nat) (o : Nat × Nat) : zev (zk_L_law sc) (704, [a0, some (Sum.inr o), a2, a3, a4, a5, a6, a7, a8, a9, a10, a11, a12, a13, a14, a15, a16], st, s, k) = zev (zk_L_law sc) (705, [a0, some (Sum.inr o), a2, a3, a4, a5, a6, a7, a8, a9, a10, a11, a12, a13, a14, a15, a16], Sum.inr o :: st, s, k) := zev_go rfl rfl
set_option maxRecDepth 8000 in
theorem zr_L_law_705 {sc : List Int32} (ls : zLs) (st : List zAV) (s : zAS) (k : Nat × Nat) : zev (zk_L_law sc) (705, ls, st, s, k) = zev (zk_L_law sc) (706, ls, Sum.inl (Value.int (1)) :: st, s, k) := zev_go rfl rfl
set_option maxRecDepth 8000 in
theorem zr_L_law_706 {sc : List Int32} (a0 a1 a2 a3 a4 a5 a6 a7 a8 a9 a10 a11 a12 a13 a15 a16 : Option zAV) (st : List zAV) (s : zAS) (k : Nat × Nat) (x : Int32) : zev (zk_L_law sc) (706, [a0, a1, a2, a3, a4, a5, a6, a7, a8, a9, a10, a11, a12, a13, some (Sum.inl (Value.int x)), a15, a16], st, s, k) = zev (zk_L_law sc) (708, [a0, a1, a2, a3, a4, a5, a6, a7, a8, a9, a10, a11, a12, a13, some (Sum.inl (Value.int x)), a15, a16], Sum.inl (Value.int x) :: st, s, k) := zev_go rfl rfl
set_option maxRecDepth 8000 in
theorem zr_L_law_708 {sc : List Int32} (ls : zLs) (st : List zAV) (s : zAS) (k : Nat × Nat) : zev (zk_L_law sc) (708, ls, st, s, k) = zev (zk_L_law sc) (709, ls, Sum.inl (Value.int (1)) :: st, s, k) := zev_go rfl rfl
set_option maxRecDepth 8000 in
theorem zr_L_law_709 {sc : List Int32} (ls : zLs) (st : List zAV) (s : zAS) (k : Nat × Nat) (x y : Int32) : zev (zk_L_law sc) (709, ls, Sum.inl (Value.int y) :: Sum.inl (Value.int x) :: st, s, k) = zev (zk_L_law sc) (710, ls, Sum.inl (Value.int (x - y)) :: st, s, k) := zev_go rfl rfl
set_option maxRecDepth 8000 in
theorem zr_L_law_710 {sc : List Int32} (a0 a1 a3 a4 a5 a6 a7 a8 a9 a10 a11 a12 a13 a14 a15 a16 : Option zAV) (st : List zAV) (s : zAS) (k : Nat × Nat) (x : Int32) : zev (zk_L_law sc) (710, [a0, a1, some (Sum.inl (Value.int x)), a3, a4, a5, a6, a7, a8, a9, a10, a11, a12, a13, a14, a15, a16], st, s, k) = zev (zk_L_law sc) (711, [a0, a1, some (Sum.inl (Value.int x)), a3, a4, a5, a6, a7, a8, a9, a10, a11, a12, a13, a14, a15, a16], Sum.inl (Value.int x) :: st, s, k) := zev_go rfl rfl
set_option maxRecDepth 8000 in
theorem zr_L_law_711 {sc : List Int32} (ls : zLs) (st : List zAV) (s : zAS) (k : Nat × Nat) (x y : Int32) : zev (zk_L_law sc) (711, ls, Sum.inl (Value.int y) :: Sum.inl (Value.int x) :: st, s, k) = if y = 0 then none else zev (zk_L_law sc) (712, ls, Sum.inl (Value.int (x / y)) :: st, s, k) := zf_div rfl
set_option maxRecDepth 8000 in
theorem zr_L_law_712 {sc : List Int32} (a0 a1 a2 a3 a4 a5 a6 a7 a8 a9 a10 a11 a12 a13 a15 a16 : Option zAV) (st : List zAV) (s : zAS) (k : Nat × Nat) (x : Int32) : zev (zk_L_law sc) (712, [a0, a1, a2, a3, a4, a5, a6, a7, a8, a9, a10, a11, a12, a13, some (Sum.inl (Value.int x)), a15, a16], st, s, k) = zev (zk_L_law sc) (714, [a0, a1, a2, a3, a4, a5, a6, a7, a8, a9, a10, a11, a12, a13, some (Sum.inl (Value.int x)), a15, a16], Sum.inl (Value.int x) :: st, s, k) := zev_go rfl rfl
set_option maxRecDepth 8000 in
theorem zr_L_law_714 {sc : List Int32} (ls : zLs) (st : List zAV) (s : zAS) (k : Nat × Nat) : zev (zk_L_law sc) (714, ls, st, s, k) = zev (zk_L_law sc) (715, ls, Sum.inl (Value.int (1)) :: st, s, k) := zev_go rfl rfl
set_option maxRecDepth 8000 in
theorem zr_L_law_715 {sc : List Int32} (ls : zLs) (st : List zAV) (s : zAS) (k : Nat × Nat) (x y : Int32) : zev (zk_L_law sc) (715, ls, Sum.inl (Value.int y) :: Sum.inl (Value.int x) :: st, s, k) = zev (zk_L_law sc) (716, ls, Sum.inl (Value.int (x - y)) :: st, s, k) := zev_go rfl rfl
set_option maxRecDepth 8000 in
theorem zr_L_law_716 {sc : List Int32} (a0 a1 a3 a4 a5 a6 a7 a8 a9 a10 a11 a12 a13 a14 a15 a16 : Option zAV) (st : List zAV) (s : zAS) (k : Nat × Nat) (x : Int32) : zev (zk_L_law sc) (716, [a0, a1, some (Sum.inl (Value.int x)), a3, a4, a5, a6, a7, a8, a9, a10, a11, a12, a13, a14, a15, a16], st, s, k) = zev (zk_L_law sc) (717, [a0, a1, some (Sum.inl (Value.int x)), a3, a4, a5, a6, a7, a8, a9, a10, a11, a12, a13, a14, a15, a16], Sum.inl (Value.int x) :: st, s, k) := zev_go rfl rfl
set_option maxRecDepth 8000 in
theorem zr_L_law_717 {sc : List Int32} (ls : zLs) (st : List zAV) (s : zAS) (k : Nat × Nat) (x y : Int32) : zev (zk_L_law sc) (717, ls, Sum.inl (Value.int y) :: Sum.inl (Value.int x) :: st, s, k) = if y = 0 then none else zev (zk_L_law sc) (718, ls, Sum.inl (Value.int (x - x / y * y)) :: st, s, k) := zf_rem rfl
set_option maxRecDepth 8000 in
theorem zr_L_law_718 {sc : List Int32} (ls : zLs) (st : List zAV) (s : zAS) (k : Nat × Nat) (r v0 v1 v2 : zAV) (h : zcok (zES sc) 8 0 0 (zR_L_law).cells (zR_L_law).slots r st k) : zev (zk_L_law sc) (718, ls, v2 :: v1 :: v0 :: r :: st, s, k) = zret (zk_L_law sc) 721 ls st (k.1 + 0, k.2 + 0) (m_X8_move [r, v0, v1, v2] s) := zf_callV (as := [v2, v1, v0]) 3 rfl rfl h
set_option maxRecDepth 8000 in
theorem zr_L_law_721 {sc : List Int32} (ls : zLs) (st : List zAV) (s : zAS) (k : Nat × Nat) (v : zAV) (hv : zc1 v = true) : zev (zk_L_law sc) (721, ls, v :: st, s, k) = zev (zk_L_law sc) (722, ls, st, s, k) := zf_pop rfl hv
set_option maxRecDepth 8000 in
theorem zr_L_law_722 {sc : List Int32} (a0 a2 a3 a4 a5 a6 a7 a8 a9 a10 a11 a12 a13 a14 a15 a16 : Option zAV) (st : List zAV) (s : zAS) (k : Nat × Nat) (o : Nat × Nat) : zev (zk_L_law sc) (722, [a0, some (Sum.inr o), a2, a3, a4, a5, a6, a7, a8, a9, a10, a11, a12, a13, a14, a15, a16], st, s, k) = zev (zk_L_law sc) (723, [a0, some (Sum.inr o), a2, a3, a4, a5, a6, a7, a8, a9, a10, a11, a12, a13, a14, a15, a16], Sum.inr o :: st, s, k) := zev_go rfl rfl
set_option maxRecDepth 8000 in
theorem zr_L_law_723 {sc : List Int32} (a0 a1 a2 a3 a4 a5 a6 a7 a8 a9 a10 a12 a13 a14 a15 a16 : Option zAV) (st : List zAV) (s : zAS) (k : Nat × Nat) (x : Int32) : zev (zk_L_law sc) (723, [a0, a1, a2, a3, a4, a5, a6, a7, a8, a9, a10, some (Sum.inl (Value.int x)), a12, a13, a14, a15, a16], st, s, k) = zev (zk_L_law sc) (725, [a0, a1, a2, a3, a4, a5, a6, a7, a8, a9, a10, some (Sum.inl (Value.int x)), a12, a13, a14, a15, a16], Sum.inl (Value.int x) :: st, s, k) := zev_go rfl rfl
set_option maxRecDepth 8000 in
theorem zr_L_law_725 {sc : List Int32} (ls : zLs) (st : List zAV) (s : zAS) (k : Nat × Nat) (r v0 : zAV) (h : zcok (zES sc) 8 0 0 (zR_L_law).cells (zR_L_law).slots r st k) : zev (zk_L_law sc) (725, ls, v0 :: r :: st, s, k) = zret (zk_L_law sc) 728 ls st (k.1 + 0, k.2 + 0) (m_X8_holds [r, v0] s) := zf_callV (as := [v0]) 1 rfl rfl h
set_option maxRecDepth 8000 in
theorem zr_L_law_728 {sc : List Int32} (ls : zLs) (st : List zAV) (s : zAS) (k : Nat × Nat) (x : Int32) : zev (zk_L_law sc) (728, ls, Sum.inl (Value.int x) :: st, s, k) = if decide (¬ x = 0) = true then zev (zk_L_law sc) (733, ls, st, s, k) else zev (zk_L_law sc) (731, ls, st, s, k) := zf_if (f := fun x => decide (¬ x = 0)) rfl
set_option maxRecDepth 8000 in
theorem zr_L_law_731 {sc : List Int32} (ls : zLs) (st : List zAV) (s : zAS) (k : Nat × Nat) : zev (zk_L_law sc) (731, ls, st, s, k) = zev (zk_L_law sc) (732, ls, Sum.inl (Value.int (0)) :: st, s, k) := zev_go rfl rfl
set_option maxRecDepth 8000 in
theorem zr_L_law_732 {sc : List Int32} (ls : zLs) (s : zAS) (k : Nat × Nat) (x : Int32) (hx : x = 0 ∨ x = 1) : zev (zk_L_law sc) (732, ls, [Sum.inl (Value.int x)], s, k) = some (.inl (some (Sum.inl (Value.int x))), s) := zf_retz rfl hx
set_option maxRecDepth 8000 in
theorem zr_L_law_733 {sc : List Int32} (a0 a2 a3 a4 a5 a6 a7 a8 a9 a10 a11 a12 a13 a14 a15 a16 : Option zAV) (st : List zAV) (s : zAS) (k : Nat × Nat) (o : Nat × Nat) : zev (zk_L_law sc) (733, [a0, some (Sum.inr o), a2, a3, a4, a5, a6, a7, a8, a9, a10, a11, a12, a13, a14, a15, a16], st, s, k) = zev (zk_L_law sc) (734, [a0, some (Sum.inr o), a2, a3, a4, a5, a6, a7, a8, a9, a10, a11, a12, a13, a14, a15, a16], Sum.inr o :: st, s, k) := zev_go rfl rfl
set_option maxRecDepth 8000 in
theorem zr_L_law_734 {sc : List Int32} (ls : zLs) (st : List zAV) (s : zAS) (k : Nat × Nat) : zev (zk_L_law sc) (734, ls, st, s, k) = zev (zk_L_law sc) (735, ls, Sum.inl (Value.int (1)) :: st, s, k) := zev_go rfl rfl
set_option maxRecDepth 8000 in
theorem zr_L_law_735 {sc : List Int32} (a0 a1 a2 a3 a4 a5 a6 a7 a8 a9 a10 a11 a12 a13 a14 a16 : Option zAV) (st : List zAV) (s : zAS) (k : Nat × Nat) (x : Int32) : zev (zk_L_law sc) (735, [a0, a1, a2, a3, a4, a5, a6, a7, a8, a9, a10, a11, a12, a13, a14, some (Sum.inl (Value.int x)), a16], st, s, k) = zev (zk_L_law sc) (737, [a0, a1, a2, a3, a4, a5, a6, a7, a8, a9, a10, a11, a12, a13, a14, some (Sum.inl (Value.int x)), a16], Sum.inl (Value.int x) :: st, s, k) := zev_go rfl rfl
set_option maxRecDepth 8000 in
theorem zr_L_law_737 {sc : List Int32} (a0 a1 a2 a3 a4 a5 a6 a7 a8 a9 a10 a11 a12 a13 a14 a15 : Option zAV) (st : List zAV) (s : zAS) (k : Nat × Nat) (x : Int32) : zev (zk_L_law sc) (737, [a0, a1, a2, a3, a4, a5, a6, a7, a8, a9, a10, a11, a12, a13, a14, a15, some (Sum.inl (Value.int x))], st, s, k) = zev (zk_L_law sc) (739, [a0, a1, a2, a3, a4, a5, a6, a7, a8, a9, a10, a11, a12, a13, a14, a15, some (Sum.inl (Value.int x))], Sum.inl (Value.int x) :: st, s, k) := zev_go rfl rfl
set_option maxRecDepth 8000 in
theorem zr_L_law_739 {sc : List Int32} (ls : zLs) (st : List zAV) (s : zAS) (k : Nat × Nat) (r v0 v1 v2 : zAV) (h : zcok (zES sc) 8 0 0 (zR_L_law).cells (zR_L_law).slots r st k) : zev (zk_L_law sc) (739, ls, v2 :: v1 :: v0 :: r :: st, s, k) = zret (zk_L_law sc) 742 ls st (k.1 + 0, k.2 + 0) (m_X8_move [r, v0, v1, v2] s) := zf_callV (as := [v2, v1, v0]) 3 rfl rfl h
set_option maxRecDepth 8000 in
theorem zr_L_law_742 {sc : List Int32} (ls : zLs) (st : List zAV) (s : zAS) (k : Nat × Nat) (v : zAV) (hv : zc1 v = true) : zev (zk_L_law sc) (742, ls, v :: st, s, k) = zev (zk_L_law sc) (743, ls, st, s, k) := zf_pop rfl hv
set_option maxRecDepth 8000 in
theorem zr_L_law_743 {sc : List Int32} (a0 a2 a3 a4 a5 a6 a7 a8 a9 a10 a11 a12 a13 a14 a15 a16 : Option zAV) (st : List zAV) (s : zAS) (k : Nat × Nat) (o : Nat × Nat) : zev (zk_L_law sc) (743, [a0, some (Sum.inr o), a2, a3, a4, a5, a6, a7, a8, a9, a10, a11, a12, a13, a14, a15, a16], st, s, k) = zev (zk_L_law sc) (744, [a0, some (Sum.inr o), a2, a3, a4, a5, a6, a7, a8, a9, a10, a11, a12, a13, a14, a15, a16], Sum.inr o :: st, s, k) := zev_go rfl rfl
set_option maxRecDepth 8000 in
theorem zr_L_law_744 {sc : List Int32} (ls : zLs) (st : List zAV) (s : zAS) (k : Nat × Nat) (r : zAV) (h : zcok (zES sc) 8 0 0 (zR_L_law).cells (zR_L_law).slots r st k) : zev (zk_L_law sc) (744, ls, r :: st, s, k) = zret (zk_L_law sc) 747 ls st (k.1 + 0, k.2 + 0) (m_X8_digest [r] s) := zf_callV (as := []) 0 rfl rfl h
set_option maxRecDepth 8000 in
theorem zr_L_law_747 {sc : List Int32} (a0 a1 a2 a3 a4 a5 a7 a8 a9 a10 a11 a12 a13 a14 a15 a16 : Option zAV) (st : List zAV) (s : zAS) (k : Nat × Nat) (x : Int64) : zev (zk_L_law sc) (747, [a0, a1, a2, a3, a4, a5, some (Sum.inl (Value.long x)), a7, a8, a9, a10, a11, a12, a13, a14, a15, a16], st, s, k) = zev (zk_L_law sc) (749, [a0, a1, a2, a3, a4, a5, some (Sum.inl (Value.long x)), a7, a8, a9, a10, a11, a12, a13, a14, a15, a16], Sum.inl (Value.long x) :: st, s, k) := zev_go rfl rfl
set_option maxRecDepth 8000 in
theorem zr_L_law_749 {sc : List Int32} (ls : zLs) (st : List zAV) (s : zAS) (k : Nat × Nat) (x y : Int64) : zev (zk_L_law sc) (749, ls, Sum.inl (Value.long y) :: Sum.inl (Value.long x) :: st, s, k) = zev (zk_L_law sc) (750, ls, Sum.inl (Value.int (lg_cmp x y)) :: st, s, k) := zev_go rfl rfl
set_option maxRecDepth 8000 in
theorem zr_L_law_750 {sc : List Int32} (ls : zLs) (st : List zAV) (s : zAS) (k : Nat × Nat) (x : Int32) : zev (zk_L_law sc) (750, ls, Sum.inl (Value.int x) :: st, s, k) = if decide (¬ x = 0) = true then zev (zk_L_law sc) (782, ls, st, s, k) else zev (zk_L_law sc) (753, ls, st, s, k) := zf_if (f := fun x => decide (¬ x = 0)) rfl
set_option maxRecDepth 8000 in
theorem zr_L_law_753 {sc : List Int32} (a0 a2 a3 a4 a5 a6 a7 a8 a9 a10 a11 a12 a13 a14 a15 a16 : Option zAV) (st : List zAV) (s : zAS) (k : Nat × Nat) (o : Nat × Nat) : zev (zk_L_law sc) (753, [a0, some (Sum.inr o), a2, a3, a4, a5, a6, a7, a8, a9, a10, a11, a12, a13, a14, a15, a16], st, s, k) = zev (zk_L_law sc) (754, [a0, some (Sum.inr o), a2, a3, a4, a5, a6, a7, a8, a9, a10, a11, a12, a13, a14, a15, a16], Sum.inr o :: st, s, k) := zev_go rfl rfl
set_option maxRecDepth 8000 in
theorem zr_L_law_754 {sc : List Int32} (a0 a1 a2 a3 a4 a5 a6 a7 a8 a9 a10 a12 a13 a14 a15 a16 : Option zAV) (st : List zAV) (s : zAS) (k : Nat × Nat) (x : Int32) : zev (zk_L_law sc) (754, [a0, a1, a2, a3, a4, a5, a6, a7, a8, a9, a10, some (Sum.inl (Value.int x)), a12, a13, a14, a15, a16], st, s, k) = zev (zk_L_law sc) (756, [a0, a1, a2, a3, a4, a5, a6, a7, a8, a9, a10, some (Sum.inl (Value.int x)), a12, a13, a14, a15, a16], Sum.inl (Value.int x) :: st, s, k) := zev_go rfl rfl
set_option maxRecDepth 8000 in
theorem zr_L_law_756 {sc : List Int32} (ls : zLs) (st : List zAV) (s : zAS) (k : Nat × Nat) (r v0 : zAV) (h : zcok (zES sc) 8 0 0 (zR_L_law).cells (zR_L_law).slots r st k) : zev (zk_L_law sc) (756, ls, v0 :: r :: st, s, k) = zret (zk_L_law sc) 759 ls st (k.1 + 0, k.2 + 0) (m_X8_holds [r, v0] s) := zf_callV (as := [v0]) 1 rfl rfl h
set_option maxRecDepth 8000 in
theorem zr_L_law_759 {sc : List Int32} (ls : zLs) (st : List zAV) (s : zAS) (k : Nat × Nat) : zev (zk_L_law sc) (759, ls, st, s, k) = zev (zk_L_law sc) (760, ls, Sum.inl (Value.int (1)) :: st, s, k) := zev_go rfl rfl
set_option maxRecDepth 8000 in
theorem zr_L_law_760 {sc : List Int32} (ls : zLs) (st : List zAV) (s : zAS) (k : Nat × Nat) (x y : Int32) : zev (zk_L_law sc) (760, ls, Sum.inl (Value.int y) :: Sum.inl (Value.int x) :: st, s, k) = if decide (¬ x = y) = true then zev (zk_L_law sc) (768, ls, st, s, k) else zev (zk_L_law sc) (763, ls, st, s, k) := zf_cmp (f := fun x y => decide (¬ x = y)) rfl
set_option maxRecDepth 8000 in
theorem zr_L_law_763 {sc : List Int32} (a0 a1 a2 a3 a4 a5 a6 a7 a8 a9 a10 a11 a13 a14 a15 a16 : Option zAV) (st : List zAV) (s : zAS) (k : Nat × Nat) (x : Int32) : zev (zk_L_law sc) (763, [a0, a1, a2, a3, a4, a5, a6, a7, a8, a9, a10, a11, some (Sum.inl (Value.int x)), a13, a14, a15, a16], st, s, k) = zev (zk_L_law sc) (765, [a0, a1, a2, a3, a4, a5, a6, a7, a8, a9, a10, a11, some (Sum.inl (Value.int x)), a13, a14, a15, a16], Sum.inl (Value.int x) :: st, s, k) := zev_go rfl rfl
set_option maxRecDepth 8000 in
theorem zr_L_law_765 {sc : List Int32} (ls : zLs) (st : List zAV) (s : zAS) (k : Nat × Nat) (x : Int32) : zev (zk_L_law sc) (765, ls, Sum.inl (Value.int x) :: st, s, k) = if decide (x = 0) = true then zev (zk_L_law sc) (782, ls, st, s, k) else zev (zk_L_law sc) (768, ls, st, s, k) := zf_if (f := fun x => decide (x = 0)) rfl
set_option maxRecDepth 8000 in
theorem zr_L_law_768 {sc : List Int32} (a0 a2 a3 a4 a5 a6 a7 a8 a9 a10 a11 a12 a13 a14 a15 a16 : Option zAV) (st : List zAV) (s : zAS) (k : Nat × Nat) (o : Nat × Nat) : zev (zk_L_law sc) (768, [a0, some (Sum.inr o), a2, a3, a4, a5, a6, a7, a8, a9, a10, a11, a12, a13, a14, a15, a16], st, s, k) = zev (zk_L_law sc) (769, [a0, some (Sum.inr o), a2, a3, a4, a5, a6, a7, a8, a9, a10, a11, a12, a13, a14, a15, a16], Sum.inr o :: st, s, k) := zev_go rfl rfl
set_option maxRecDepth 8000 in
theorem zr_L_law_769 {sc : List Int32} (a0 a1 a2 a3 a4 a5 a6 a7 a8 a9 a10 a12 a13 a14 a15 a16 : Option zAV) (st : List zAV) (s : zAS) (k : Nat × Nat) (x : Int32) : zev (zk_L_law sc) (769, [a0, a1, a2, a3, a4, a5, a6, a7, a8, a9, a10, some (Sum.inl (Value.int x)), a12, a13, a14, a15, a16], st, s, k) = zev (zk_L_law sc) (771, [a0, a1, a2, a3, a4, a5, a6, a7, a8, a9, a10, some (Sum.inl (Value.int x)), a12, a13, a14, a15, a16], Sum.inl (Value.int x) :: st, s, k) := zev_go rfl rfl
set_option maxRecDepth 8000 in
theorem zr_L_law_771 {sc : List Int32} (ls : zLs) (st : List zAV) (s : zAS) (k : Nat × Nat) (r v0 : zAV) (h : zcok (zES sc) 8 0 0 (zR_L_law).cells (zR_L_law).slots r st k) : zev (zk_L_law sc) (771, ls, v0 :: r :: st, s, k) = zret (zk_L_law sc) 774 ls st (k.1 + 0, k.2 + 0) (m_X8_holds [r, v0] s) := zf_callV (as := [v0]) 1 rfl rfl h
set_option maxRecDepth 8000 in
theorem zr_L_law_774 {sc : List Int32} (ls : zLs) (st : List zAV) (s : zAS) (k : Nat × Nat) (x : Int32) : zev (zk_L_law sc) (774, ls, Sum.inl (Value.int x) :: st, s, k) = if decide (¬ x = 0) = true then zev (zk_L_law sc) (784, ls, st, s, k) else zev (zk_L_law sc) (777, ls, st, s, k) := zf_if (f := fun x => decide (¬ x = 0)) rfl
set_option maxRecDepth 8000 in
theorem zr_L_law_777 {sc : List Int32} (a0 a1 a2 a3 a4 a5 a6 a7 a8 a9 a10 a11 a12 a14 a15 a16 : Option zAV) (st : List zAV) (s : zAS) (k : Nat × Nat) (x : Int32) : zev (zk_L_law sc) (777, [a0, a1, a2, a3, a4, a5, a6, a7, a8, a9, a10, a11, a12, some (Sum.inl (Value.int x)), a14, a15, a16], st, s, k) = zev (zk_L_law sc) (779, [a0, a1, a2, a3, a4, a5, a6, a7, a8, a9, a10, a11, a12, some (Sum.inl (Value.int x)), a14, a15, a16], Sum.inl (Value.int x) :: st, s, k) := zev_go rfl rfl
set_option maxRecDepth 8000 in
theorem zr_L_law_779 {sc : List Int32} (ls : zLs) (st : List zAV) (s : zAS) (k : Nat × Nat) (x : Int32) : zev (zk_L_law sc) (779, ls, Sum.inl (Value.int x) :: st, s, k) = if decide (¬ x = 0) = true then zev (zk_L_law sc) (784, ls, st, s, k) else zev (zk_L_law sc) (782, ls, st, s, k) := zf_if (f := fun x => decide (¬ x = 0)) rfl
set_option maxRecDepth 8000 in
theorem zr_L_law_782 {sc : List Int32} (ls : zLs) (st : List zAV) (s : zAS) (k : Nat × Nat) : zev (zk_L_law sc) (782, ls, st, s, k) = zev (zk_L_law sc) (783, ls, Sum.inl (Value.int (0)) :: st, s, k) := zev_go rfl rfl
set_option maxRecDepth 8000 in
theorem zr_L_law_783 {sc : List Int32} (ls : zLs) (s : zAS) (k : Nat × Nat) (x : Int32) (hx : x = 0 ∨ x = 1) : zev (zk_L_law sc) (783, ls, [Sum.inl (Value.int x)], s, k) = some (.inl (some (Sum.inl (Value.int x))), s) := zf_retz rfl hx
set_option maxRecDepth 8000 in
theorem zr_L_law_784 {sc : List Int32} (a0 a1 a2 a3 a4 a5 a6 a7 a8 a9 a10 a12 a13 a14 a15 a16 : Option zAV) (st : List zAV) (s : zAS) (k : Nat × Nat) (x : Int32) : zev (zk_L_law sc) (784, [a0, a1, a2, a3, a4, a5, a6, a7, a8, a9, a10, some (Sum.inl (Value.int x)), a12, a13, a14, a15, a16], st, s, k) = zev (zk_L_law sc) (787, [a0, a1, a2, a3, a4, a5, a6, a7, a8, a9, zk1 a10, some (Sum.inl (Value.int (x + (1)))), a12, a13, a14, a15, a16], st, s, k) := zev_go rfl rfl
set_option maxRecDepth 8000 in
theorem zr_L_law_787 {sc : List Int32} (ls : zLs) (st : List zAV) (s : zAS) (k : Nat × Nat) : zev (zk_L_law sc) (787, ls, st, s, k) = zev (zk_L_law sc) (567, ls, st, s, k) := zev_go rfl rfl
set_option maxRecDepth 8000 in
theorem zr_L_law_790 {sc : List Int32} (a0 a2 a3 a4 a5 a6 a7 a8 a9 a10 a11 a12 a13 a14 a15 a16 : Option zAV) (st : List zAV) (s : zAS) (k : Nat × Nat) (o : Nat × Nat) : zev (zk_L_law sc) (790, [a0, some (Sum.inr o), a2, a3, a4, a5, a6, a7, a8, a9, a10, a11, a12, a13, a14, a15, a16], st, s, k) = zev (zk_L_law sc) (791, [a0, some (Sum.inr o), a2, a3, a4, a5, a6, a7, a8, a9, a10, a11, a12, a13, a14, a15, a16], Sum.inr o :: st, s, k) := zev_go rfl rfl
set_option maxRecDepth 8000 in
theorem zr_L_law_791 {sc : List Int32} (ls : zLs) (st : List zAV) (s : zAS) (k : Nat × Nat) (r : zAV) (h : zcok (zES sc) 8 0 0 (zR_L_law).cells (zR_L_law).slots r st k) : zev (zk_L_law sc) (791, ls, r :: st, s, k) = zret (zk_L_law sc) 794 ls st (k.1 + 0, k.2 + 0) (m_X8_truth [r] s) := zf_callV (as := []) 0 rfl rfl h
set_option maxRecDepth 8000 in
theorem zr_L_law_794 {sc : List Int32} (ls : zLs) (st : List zAV) (s : zAS) (k : Nat × Nat) : zev (zk_L_law sc) (794, ls, st, s, k) = zev (zk_L_law sc) (795, ls, Sum.inl (Value.double 0) :: st, s, k) := zev_go rfl rfl
set_option maxRecDepth 8000 in
theorem zr_L_law_795 {sc : List Int32} (ls : zLs) (st : List zAV) (s : zAS) (k : Nat × Nat) (x y : UInt64) : zev (zk_L_law sc) (795, ls, Sum.inl (Value.double y) :: Sum.inl (Value.double x) :: st, s, k) = zev (zk_L_law sc) (796, ls, Sum.inl (Value.int (Op.cmpValue (FP.dcmp x y) .l)) :: st, s, k) := zev_go rfl rfl
set_option maxRecDepth 8000 in
theorem zr_L_law_796 {sc : List Int32} (ls : zLs) (st : List zAV) (s : zAS) (k : Nat × Nat) (x : Int32) : zev (zk_L_law sc) (796, ls, Sum.inl (Value.int x) :: st, s, k) = if decide (x < 0) = true then zev (zk_L_law sc) (812, ls, st, s, k) else zev (zk_L_law sc) (799, ls, st, s, k) := zf_if (f := fun x => decide (x < 0)) rfl
set_option maxRecDepth 8000 in
theorem zr_L_law_799 {sc : List Int32} (a0 a2 a3 a4 a5 a6 a7 a8 a9 a10 a11 a12 a13 a14 a15 a16 : Option zAV) (st : List zAV) (s : zAS) (k : Nat × Nat) (o : Nat × Nat) : zev (zk_L_law sc) (799, [a0, some (Sum.inr o), a2, a3, a4, a5, a6, a7, a8, a9, a10, a11, a12, a13, a14, a15, a16], st, s, k) = zev (zk_L_law sc) (800, [a0, some (Sum.inr o), a2, a3, a4, a5, a6, a7, a8, a9, a10, a11, a12, a13, a14, a15, a16], Sum.inr o :: st, s, k) := zev_go rfl rfl
set_option maxRecDepth 8000 in
theorem zr_L_law_800 {sc : List Int32} (ls : zLs) (st : List zAV) (s : zAS) (k : Nat × Nat) (r : zAV) (h : zcok (zES sc) 8 0 0 (zR_L_law).cells (zR_L_law).slots r st k) : zev (zk_L_law sc) (800, ls, r :: st, s, k) = zret (zk_L_law sc) 803 ls st (k.1 + 0, k.2 + 0) (m_X8_truth [r] s) := zf_callV (as := []) 0 rfl rfl h
set_option maxRecDepth 8000 in
theorem zr_L_law_803 {sc : List Int32} (ls : zLs) (st : List zAV) (s : zAS) (k : Nat × Nat) : zev (zk_L_law sc) (803, ls, st, s, k) = zev (zk_L_law sc) (804, ls, Sum.inl (Value.double 0x3ff0000000000000) :: st, s, k) := zev_go rfl rfl
set_option maxRecDepth 8000 in
theorem zr_L_law_804 {sc : List Int32} (ls : zLs) (st : List zAV) (s : zAS) (k : Nat × Nat) (x y : UInt64) : zev (zk_L_law sc) (804, ls, Sum.inl (Value.double y) :: Sum.inl (Value.double x) :: st, s, k) = zev (zk_L_law sc) (805, ls, Sum.inl (Value.int (Op.cmpValue (FP.dcmp x y) .g)) :: st, s, k) := zev_go rfl rfl
set_option maxRecDepth 8000 in
theorem zr_L_law_805 {sc : List Int32} (ls : zLs) (st : List zAV) (s : zAS) (k : Nat × Nat) (x : Int32) : zev (zk_L_law sc) (805, ls, Sum.inl (Value.int x) :: st, s, k) = if decide (0 < x) = true then zev (zk_L_law sc) (812, ls, st, s, k) else zev (zk_L_law sc) (808, ls, st, s, k) := zf_if (f := fun x => decide (0 < x)) rfl
set_option maxRecDepth 8000 in
theorem zr_L_law_808 {sc : List Int32} (ls : zLs) (st : List zAV) (s : zAS) (k : Nat × Nat) : zev (zk_L_law sc) (808, ls, st, s, k) = zev (zk_L_law sc) (809, ls, Sum.inl (Value.int (1)) :: st, s, k) := zev_go rfl rfl
set_option maxRecDepth 8000 in
theorem zr_L_law_809 {sc : List Int32} (ls : zLs) (st : List zAV) (s : zAS) (k : Nat × Nat) : zev (zk_L_law sc) (809, ls, st, s, k) = zev (zk_L_law sc) (813, ls, st, s, k) := zev_go rfl rfl
set_option maxRecDepth 8000 in
theorem zr_L_law_812 {sc : List Int32} (ls : zLs) (st : List zAV) (s : zAS) (k : Nat × Nat) : zev (zk_L_law sc) (812, ls, st, s, k) = zev (zk_L_law sc) (813, ls, Sum.inl (Value.int (0)) :: st, s, k) := zev_go rfl rfl
set_option maxRecDepth 8000 in
theorem zr_L_law_813 {sc : List Int32} (ls : zLs) (s : zAS) (k : Nat × Nat) (x : Int32) (hx : x = 0 ∨ x = 1) : zev (zk_L_law sc) (813, ls, [Sum.inl (Value.int x)], s, k) = some (.inl (some (Sum.inl (Value.int x))), s) := zf_retz rfl hx
