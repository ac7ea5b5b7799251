/-! ===== the law itself ===== -/
def f_Law (cc : ByteArray) (nm : String) : gF := (⟨"CounterDeskLaw", nm, "([I)Z"⟩, cc, 4, some .boolean)
def t_Law_0 : List (Nat × Instr × Nat × Nat) := [(0, .new 7, 3, 3), (3, .dup, 1, 4), (4, .invokespecial 9, 3, 7), (7, .astore_n 1, 1, 8), (8, .new 10, 3, 11), (11, .dup, 1, 12), (12, .invokespecial 12, 3, 15), (15, .astore_n 2, 1, 16), (16, .iconst 0, 1, 17), (17, .istore_n 3, 1, 18), (18, .iload_n 3, 1, 19), (19, .aload_n 0, 1, 20), (20, .arraylength, 1, 21), (21, .bipush 6, 2, 23), (23, .isub, 1, 24), (24, .if_icmp .gt 1142, 3, 27), (27, .aload_n 0, 1, 28), (28, .iload_n 3, 1, 29), (29, .iaload, 1, 30), (30, .bipush 63, 2, 32), (32, .iand, 1, 33), (33, .tableswitch 1127 0 39 #[175, 208, 241, 274, 297, 330, 393, 416, 429, 442, 455, 468, 481, 494, 517, 550, 583, 596, 609, 622, 645, 678, 691, 705, 728, 751, 784, 817, 840, 873, 886, 899, 922, 956, 979, 1012, 1045, 1068, 1091, 1114], 175, 208), (208, .aload_n 1, 1, 209), (209, .aload_n 0, 1, 210), (210, .iload_n 3, 1, 211), (211, .iconst 1, 1, 212), (212, .iadd, 1, 213), (213, .iaload, 1, 214), (214, .aload_n 0, 1, 215), (215, .iload_n 3, 1, 216), (216, .iconst 2, 1, 217), (217, .iadd, 1, 218), (218, .iaload, 1, 219), (219, .invokevirtual 13, 3, 222), (222, .aload_n 2, 1, 223), (223, .aload_n 0, 1, 224), (224, .iload_n 3, 1, 225), (225, .iconst 1, 1, 226), (226, .iadd, 1, 227), (227, .iaload, 1, 228)]
def t_Law_1 : List (Nat × Instr × Nat × Nat) := [(228, .aload_n 0, 1, 229), (229, .iload_n 3, 1, 230), (230, .iconst 2, 1, 231), (231, .iadd, 1, 232), (232, .iaload, 1, 233), (233, .invokevirtual 17, 3, 236), (236, .if_icmp .eq 924, 3, 239), (239, .iconst 0, 1, 240), (240, .ireturn, 1, 241), (241, .aload_n 1, 1, 242), (242, .aload_n 0, 1, 243), (243, .iload_n 3, 1, 244), (244, .iconst 1, 1, 245), (245, .iadd, 1, 246), (246, .iaload, 1, 247), (247, .aload_n 0, 1, 248), (248, .iload_n 3, 1, 249), (249, .iconst 2, 1, 250), (250, .iadd, 1, 251), (251, .iaload, 1, 252), (252, .invokevirtual 18, 3, 255), (255, .aload_n 2, 1, 256), (256, .aload_n 0, 1, 257), (257, .iload_n 3, 1, 258), (258, .iconst 1, 1, 259), (259, .iadd, 1, 260), (260, .iaload, 1, 261), (261, .aload_n 0, 1, 262), (262, .iload_n 3, 1, 263), (263, .iconst 2, 1, 264), (264, .iadd, 1, 265), (265, .iaload, 1, 266), (266, .invokevirtual 21, 3, 269), (269, .if_icmp .eq 891, 3, 272), (272, .iconst 0, 1, 273), (273, .ireturn, 1, 274), (274, .aload_n 1, 1, 275), (275, .aload_n 0, 1, 276), (276, .iload_n 3, 1, 277), (277, .iconst 1, 1, 278)]
def t_Law_2 : List (Nat × Instr × Nat × Nat) := [(278, .iadd, 1, 279), (279, .iaload, 1, 280), (280, .aload_n 0, 1, 281), (281, .iload_n 3, 1, 282), (282, .iconst 2, 1, 283), (283, .iadd, 1, 284), (284, .iaload, 1, 285), (285, .invokevirtual 22, 3, 288), (288, .aload_n 2, 1, 289), (289, .aload_n 0, 1, 290), (290, .iload_n 3, 1, 291), (291, .iconst 1, 1, 292), (292, .iadd, 1, 293), (293, .iaload, 1, 294), (294, .aload_n 0, 1, 295), (295, .iload_n 3, 1, 296), (296, .iconst 2, 1, 297), (297, .iadd, 1, 298), (298, .iaload, 1, 299), (299, .invokevirtual 25, 3, 302), (302, .if_icmp .eq 858, 3, 305), (305, .iconst 0, 1, 306), (306, .ireturn, 1, 307), (307, .aload_n 1, 1, 308), (308, .aload_n 0, 1, 309), (309, .iload_n 3, 1, 310), (310, .iconst 1, 1, 311), (311, .iadd, 1, 312), (312, .iaload, 1, 313), (313, .invokevirtual 26, 3, 316), (316, .aload_n 2, 1, 317), (317, .aload_n 0, 1, 318), (318, .iload_n 3, 1, 319), (319, .iconst 1, 1, 320), (320, .iadd, 1, 321), (321, .iaload, 1, 322), (322, .invokevirtual 30, 3, 325), (325, .if_icmp .eq 835, 3, 328), (328, .iconst 0, 1, 329), (329, .ireturn, 1, 330)]
def t_Law_3 : List (Nat × Instr × Nat × Nat) := [(330, .aload_n 1, 1, 331), (331, .aload_n 0, 1, 332), (332, .iload_n 3, 1, 333), (333, .iconst 1, 1, 334), (334, .iadd, 1, 335), (335, .iaload, 1, 336), (336, .aload_n 0, 1, 337), (337, .iload_n 3, 1, 338), (338, .iconst 2, 1, 339), (339, .iadd, 1, 340), (340, .iaload, 1, 341), (341, .invokevirtual 31, 3, 344), (344, .aload_n 2, 1, 345), (345, .aload_n 0, 1, 346), (346, .iload_n 3, 1, 347), (347, .iconst 1, 1, 348), (348, .iadd, 1, 349), (349, .iaload, 1, 350), (350, .aload_n 0, 1, 351), (351, .iload_n 3, 1, 352), (352, .iconst 2, 1, 353), (353, .iadd, 1, 354), (354, .iaload, 1, 355), (355, .invokevirtual 34, 3, 358), (358, .if_icmp .eq 802, 3, 361), (361, .iconst 0, 1, 362), (362, .ireturn, 1, 363), (363, .aload_n 1, 1, 364), (364, .aload_n 0, 1, 365), (365, .iload_n 3, 1, 366), (366, .iconst 1, 1, 367), (367, .iadd, 1, 368), (368, .iaload, 1, 369), (369, .aload_n 0, 1, 370), (370, .iload_n 3, 1, 371), (371, .iconst 2, 1, 372), (372, .iadd, 1, 373), (373, .iaload, 1, 374), (374, .aload_n 0, 1, 375), (375, .iload_n 3, 1, 376)]
def t_Law_4 : List (Nat × Instr × Nat × Nat) := [(376, .iconst 3, 1, 377), (377, .iadd, 1, 378), (378, .iaload, 1, 379), (379, .aload_n 0, 1, 380), (380, .iload_n 3, 1, 381), (381, .iconst 4, 1, 382), (382, .iadd, 1, 383), (383, .iaload, 1, 384), (384, .aload_n 0, 1, 385), (385, .iload_n 3, 1, 386), (386, .iconst 5, 1, 387), (387, .iadd, 1, 388), (388, .iaload, 1, 389), (389, .invokevirtual 35, 3, 392), (392, .aload_n 2, 1, 393), (393, .aload_n 0, 1, 394), (394, .iload_n 3, 1, 395), (395, .iconst 1, 1, 396), (396, .iadd, 1, 397), (397, .iaload, 1, 398), (398, .aload_n 0, 1, 399), (399, .iload_n 3, 1, 400), (400, .iconst 2, 1, 401), (401, .iadd, 1, 402), (402, .iaload, 1, 403), (403, .aload_n 0, 1, 404), (404, .iload_n 3, 1, 405), (405, .iconst 3, 1, 406), (406, .iadd, 1, 407), (407, .iaload, 1, 408), (408, .aload_n 0, 1, 409), (409, .iload_n 3, 1, 410), (410, .iconst 4, 1, 411), (411, .iadd, 1, 412), (412, .iaload, 1, 413), (413, .aload_n 0, 1, 414), (414, .iload_n 3, 1, 415), (415, .iconst 5, 1, 416), (416, .iadd, 1, 417), (417, .iaload, 1, 418)]
def t_Law_5 : List (Nat × Instr × Nat × Nat) := [(418, .invokevirtual 39, 3, 421), (421, .if_icmp .eq 739, 3, 424), (424, .iconst 0, 1, 425), (425, .ireturn, 1, 426), (426, .aload_n 1, 1, 427), (427, .aload_n 0, 1, 428), (428, .iload_n 3, 1, 429), (429, .iconst 1, 1, 430), (430, .iadd, 1, 431), (431, .iaload, 1, 432), (432, .invokevirtual 40, 3, 435), (435, .aload_n 2, 1, 436), (436, .aload_n 0, 1, 437), (437, .iload_n 3, 1, 438), (438, .iconst 1, 1, 439), (439, .iadd, 1, 440), (440, .iaload, 1, 441), (441, .invokevirtual 43, 3, 444), (444, .if_icmp .eq 716, 3, 447), (447, .iconst 0, 1, 448), (448, .ireturn, 1, 449), (449, .aload_n 1, 1, 450), (450, .invokevirtual 44, 3, 453), (453, .aload_n 2, 1, 454), (454, .invokevirtual 48, 3, 457), (457, .if_icmp .eq 703, 3, 460), (460, .iconst 0, 1, 461), (461, .ireturn, 1, 462), (462, .aload_n 1, 1, 463), (463, .invokevirtual 49, 3, 466), (466, .aload_n 2, 1, 467), (467, .invokevirtual 52, 3, 470), (470, .if_icmp .eq 690, 3, 473), (473, .iconst 0, 1, 474), (474, .ireturn, 1, 475), (475, .aload_n 1, 1, 476), (476, .invokevirtual 53, 3, 479), (479, .aload_n 2, 1, 480), (480, .invokevirtual 56, 3, 483), (483, .if_icmp .eq 677, 3, 486)]
def t_Law_6 : List (Nat × Instr × Nat × Nat) := [(486, .iconst 0, 1, 487), (487, .ireturn, 1, 488), (488, .aload_n 1, 1, 489), (489, .invokevirtual 57, 3, 492), (492, .aload_n 2, 1, 493), (493, .invokevirtual 60, 3, 496), (496, .if_icmp .eq 664, 3, 499), (499, .iconst 0, 1, 500), (500, .ireturn, 1, 501), (501, .aload_n 1, 1, 502), (502, .invokevirtual 61, 3, 505), (505, .aload_n 2, 1, 506), (506, .invokevirtual 64, 3, 509), (509, .if_icmp .eq 651, 3, 512), (512, .iconst 0, 1, 513), (513, .ireturn, 1, 514), (514, .aload_n 1, 1, 515), (515, .invokevirtual 65, 3, 518), (518, .aload_n 2, 1, 519), (519, .invokevirtual 68, 3, 522), (522, .if_icmp .eq 638, 3, 525), (525, .iconst 0, 1, 526), (526, .ireturn, 1, 527), (527, .aload_n 1, 1, 528), (528, .aload_n 0, 1, 529), (529, .iload_n 3, 1, 530), (530, .iconst 1, 1, 531), (531, .iadd, 1, 532), (532, .iaload, 1, 533), (533, .invokevirtual 69, 3, 536), (536, .aload_n 2, 1, 537), (537, .aload_n 0, 1, 538), (538, .iload_n 3, 1, 539), (539, .iconst 1, 1, 540), (540, .iadd, 1, 541), (541, .iaload, 1, 542), (542, .invokevirtual 72, 3, 545), (545, .if_icmp .eq 615, 3, 548), (548, .iconst 0, 1, 549), (549, .ireturn, 1, 550)]
def t_Law_7 : List (Nat × Instr × Nat × Nat) := [(550, .aload_n 1, 1, 551), (551, .aload_n 0, 1, 552), (552, .iload_n 3, 1, 553), (553, .iconst 1, 1, 554), (554, .iadd, 1, 555), (555, .iaload, 1, 556), (556, .aload_n 0, 1, 557), (557, .iload_n 3, 1, 558), (558, .iconst 2, 1, 559), (559, .iadd, 1, 560), (560, .iaload, 1, 561), (561, .invokevirtual 73, 3, 564), (564, .aload_n 2, 1, 565), (565, .aload_n 0, 1, 566), (566, .iload_n 3, 1, 567), (567, .iconst 1, 1, 568), (568, .iadd, 1, 569), (569, .iaload, 1, 570), (570, .aload_n 0, 1, 571), (571, .iload_n 3, 1, 572), (572, .iconst 2, 1, 573), (573, .iadd, 1, 574), (574, .iaload, 1, 575), (575, .invokevirtual 76, 3, 578), (578, .if_icmp .eq 582, 3, 581), (581, .iconst 0, 1, 582), (582, .ireturn, 1, 583), (583, .aload_n 1, 1, 584), (584, .aload_n 0, 1, 585), (585, .iload_n 3, 1, 586), (586, .iconst 1, 1, 587), (587, .iadd, 1, 588), (588, .iaload, 1, 589), (589, .aload_n 0, 1, 590), (590, .iload_n 3, 1, 591), (591, .iconst 2, 1, 592), (592, .iadd, 1, 593), (593, .iaload, 1, 594), (594, .invokevirtual 77, 3, 597), (597, .aload_n 2, 1, 598)]
def t_Law_8 : List (Nat × Instr × Nat × Nat) := [(598, .aload_n 0, 1, 599), (599, .iload_n 3, 1, 600), (600, .iconst 1, 1, 601), (601, .iadd, 1, 602), (602, .iaload, 1, 603), (603, .aload_n 0, 1, 604), (604, .iload_n 3, 1, 605), (605, .iconst 2, 1, 606), (606, .iadd, 1, 607), (607, .iaload, 1, 608), (608, .invokevirtual 80, 3, 611), (611, .if_icmp .eq 549, 3, 614), (614, .iconst 0, 1, 615), (615, .ireturn, 1, 616), (616, .aload_n 1, 1, 617), (617, .invokevirtual 81, 3, 620), (620, .aload_n 2, 1, 621), (621, .invokevirtual 84, 3, 624), (624, .if_icmp .eq 536, 3, 627), (627, .iconst 0, 1, 628), (628, .ireturn, 1, 629), (629, .aload_n 1, 1, 630), (630, .invokevirtual 85, 3, 633), (633, .aload_n 2, 1, 634), (634, .invokevirtual 88, 3, 637), (637, .if_icmp .eq 523, 3, 640), (640, .iconst 0, 1, 641), (641, .ireturn, 1, 642), (642, .aload_n 1, 1, 643), (643, .invokevirtual 89, 3, 646), (646, .aload_n 2, 1, 647), (647, .invokevirtual 92, 3, 650), (650, .if_icmp .eq 510, 3, 653), (653, .iconst 0, 1, 654), (654, .ireturn, 1, 655), (655, .aload_n 1, 1, 656), (656, .aload_n 0, 1, 657), (657, .iload_n 3, 1, 658), (658, .iconst 1, 1, 659), (659, .iadd, 1, 660)]
def t_Law_9 : List (Nat × Instr × Nat × Nat) := [(660, .iaload, 1, 661), (661, .invokevirtual 93, 3, 664), (664, .aload_n 2, 1, 665), (665, .aload_n 0, 1, 666), (666, .iload_n 3, 1, 667), (667, .iconst 1, 1, 668), (668, .iadd, 1, 669), (669, .iaload, 1, 670), (670, .invokevirtual 96, 3, 673), (673, .if_icmp .eq 487, 3, 676), (676, .iconst 0, 1, 677), (677, .ireturn, 1, 678), (678, .aload_n 1, 1, 679), (679, .aload_n 0, 1, 680), (680, .iload_n 3, 1, 681), (681, .iconst 1, 1, 682), (682, .iadd, 1, 683), (683, .iaload, 1, 684), (684, .aload_n 0, 1, 685), (685, .iload_n 3, 1, 686), (686, .iconst 2, 1, 687), (687, .iadd, 1, 688), (688, .iaload, 1, 689), (689, .invokevirtual 97, 3, 692), (692, .aload_n 2, 1, 693), (693, .aload_n 0, 1, 694), (694, .iload_n 3, 1, 695), (695, .iconst 1, 1, 696), (696, .iadd, 1, 697), (697, .iaload, 1, 698), (698, .aload_n 0, 1, 699), (699, .iload_n 3, 1, 700), (700, .iconst 2, 1, 701), (701, .iadd, 1, 702), (702, .iaload, 1, 703), (703, .invokevirtual 100, 3, 706), (706, .if_icmp .eq 454, 3, 709), (709, .iconst 0, 1, 710), (710, .ireturn, 1, 711), (711, .aload_n 1, 1, 712)]
def t_Law_10 : List (Nat × Instr × Nat × Nat) := [(712, .invokevirtual 101, 3, 715), (715, .aload_n 2, 1, 716), (716, .invokevirtual 104, 3, 719), (719, .if_icmp .eq 441, 3, 722), (722, .iconst 0, 1, 723), (723, .ireturn, 1, 724), (724, .aload_n 1, 1, 725), (725, .invokevirtual 105, 3, 728), (728, .aload_n 2, 1, 729), (729, .invokevirtual 109, 3, 732), (732, .lcmp, 1, 733), (733, .ifCond .eq 427, 3, 736), (736, .iconst 0, 1, 737), (737, .ireturn, 1, 738), (738, .aload_n 1, 1, 739), (739, .aload_n 0, 1, 740), (740, .iload_n 3, 1, 741), (741, .iconst 1, 1, 742), (742, .iadd, 1, 743), (743, .iaload, 1, 744), (744, .invokevirtual 110, 3, 747), (747, .aload_n 2, 1, 748), (748, .aload_n 0, 1, 749), (749, .iload_n 3, 1, 750), (750, .iconst 1, 1, 751), (751, .iadd, 1, 752), (752, .iaload, 1, 753), (753, .invokevirtual 113, 3, 756), (756, .if_icmp .eq 404, 3, 759), (759, .iconst 0, 1, 760), (760, .ireturn, 1, 761), (761, .aload_n 1, 1, 762), (762, .aload_n 0, 1, 763), (763, .iload_n 3, 1, 764), (764, .iconst 1, 1, 765), (765, .iadd, 1, 766), (766, .iaload, 1, 767), (767, .invokevirtual 114, 3, 770), (770, .aload_n 2, 1, 771), (771, .aload_n 0, 1, 772)]
def t_Law_11 : List (Nat × Instr × Nat × Nat) := [(772, .iload_n 3, 1, 773), (773, .iconst 1, 1, 774), (774, .iadd, 1, 775), (775, .iaload, 1, 776), (776, .invokevirtual 117, 3, 779), (779, .if_icmp .eq 381, 3, 782), (782, .iconst 0, 1, 783), (783, .ireturn, 1, 784), (784, .aload_n 1, 1, 785), (785, .aload_n 0, 1, 786), (786, .iload_n 3, 1, 787), (787, .iconst 1, 1, 788), (788, .iadd, 1, 789), (789, .iaload, 1, 790), (790, .aload_n 0, 1, 791), (791, .iload_n 3, 1, 792), (792, .iconst 2, 1, 793), (793, .iadd, 1, 794), (794, .iaload, 1, 795), (795, .invokevirtual 118, 3, 798), (798, .aload_n 2, 1, 799), (799, .aload_n 0, 1, 800), (800, .iload_n 3, 1, 801), (801, .iconst 1, 1, 802), (802, .iadd, 1, 803), (803, .iaload, 1, 804), (804, .aload_n 0, 1, 805), (805, .iload_n 3, 1, 806), (806, .iconst 2, 1, 807), (807, .iadd, 1, 808), (808, .iaload, 1, 809), (809, .invokevirtual 121, 3, 812), (812, .if_icmp .eq 348, 3, 815), (815, .iconst 0, 1, 816), (816, .ireturn, 1, 817), (817, .aload_n 1, 1, 818), (818, .aload_n 0, 1, 819), (819, .iload_n 3, 1, 820), (820, .iconst 1, 1, 821), (821, .iadd, 1, 822)]
def t_Law_12 : List (Nat × Instr × Nat × Nat) := [(822, .iaload, 1, 823), (823, .aload_n 0, 1, 824), (824, .iload_n 3, 1, 825), (825, .iconst 2, 1, 826), (826, .iadd, 1, 827), (827, .iaload, 1, 828), (828, .invokevirtual 122, 3, 831), (831, .aload_n 2, 1, 832), (832, .aload_n 0, 1, 833), (833, .iload_n 3, 1, 834), (834, .iconst 1, 1, 835), (835, .iadd, 1, 836), (836, .iaload, 1, 837), (837, .aload_n 0, 1, 838), (838, .iload_n 3, 1, 839), (839, .iconst 2, 1, 840), (840, .iadd, 1, 841), (841, .iaload, 1, 842), (842, .invokevirtual 125, 3, 845), (845, .if_icmp .eq 315, 3, 848), (848, .iconst 0, 1, 849), (849, .ireturn, 1, 850), (850, .aload_n 1, 1, 851), (851, .aload_n 0, 1, 852), (852, .iload_n 3, 1, 853), (853, .iconst 1, 1, 854), (854, .iadd, 1, 855), (855, .iaload, 1, 856), (856, .invokevirtual 126, 3, 859), (859, .aload_n 2, 1, 860), (860, .aload_n 0, 1, 861), (861, .iload_n 3, 1, 862), (862, .iconst 1, 1, 863), (863, .iadd, 1, 864), (864, .iaload, 1, 865), (865, .invokevirtual 129, 3, 868), (868, .if_icmp .eq 292, 3, 871), (871, .iconst 0, 1, 872), (872, .ireturn, 1, 873), (873, .aload_n 1, 1, 874)]
def t_Law_13 : List (Nat × Instr × Nat × Nat) := [(874, .aload_n 0, 1, 875), (875, .iload_n 3, 1, 876), (876, .iconst 1, 1, 877), (877, .iadd, 1, 878), (878, .iaload, 1, 879), (879, .aload_n 0, 1, 880), (880, .iload_n 3, 1, 881), (881, .iconst 2, 1, 882), (882, .iadd, 1, 883), (883, .iaload, 1, 884), (884, .invokevirtual 130, 3, 887), (887, .aload_n 2, 1, 888), (888, .aload_n 0, 1, 889), (889, .iload_n 3, 1, 890), (890, .iconst 1, 1, 891), (891, .iadd, 1, 892), (892, .iaload, 1, 893), (893, .aload_n 0, 1, 894), (894, .iload_n 3, 1, 895), (895, .iconst 2, 1, 896), (896, .iadd, 1, 897), (897, .iaload, 1, 898), (898, .invokevirtual 133, 3, 901), (901, .if_icmp .eq 259, 3, 904), (904, .iconst 0, 1, 905), (905, .ireturn, 1, 906), (906, .aload_n 1, 1, 907), (907, .invokevirtual 134, 3, 910), (910, .aload_n 2, 1, 911), (911, .invokevirtual 137, 3, 914), (914, .if_icmp .eq 246, 3, 917), (917, .iconst 0, 1, 918), (918, .ireturn, 1, 919), (919, .aload_n 1, 1, 920), (920, .invokevirtual 138, 3, 923), (923, .aload_n 2, 1, 924), (924, .invokevirtual 141, 3, 927), (927, .if_icmp .eq 233, 3, 930), (930, .iconst 0, 1, 931), (931, .ireturn, 1, 932)]
def t_Law_14 : List (Nat × Instr × Nat × Nat) := [(932, .aload_n 1, 1, 933), (933, .aload_n 0, 1, 934), (934, .iload_n 3, 1, 935), (935, .iconst 1, 1, 936), (936, .iadd, 1, 937), (937, .iaload, 1, 938), (938, .invokevirtual 142, 3, 941), (941, .aload_n 2, 1, 942), (942, .aload_n 0, 1, 943), (943, .iload_n 3, 1, 944), (944, .iconst 1, 1, 945), (945, .iadd, 1, 946), (946, .iaload, 1, 947), (947, .invokevirtual 145, 3, 950), (950, .if_icmp .eq 210, 3, 953), (953, .iconst 0, 1, 954), (954, .ireturn, 1, 955), (955, .aload_n 1, 1, 956), (956, .aload_n 0, 1, 957), (957, .iload_n 3, 1, 958), (958, .iconst 1, 1, 959), (959, .iadd, 1, 960), (960, .iaload, 1, 961), (961, .aload_n 0, 1, 962), (962, .iload_n 3, 1, 963), (963, .iconst 2, 1, 964), (964, .iadd, 1, 965), (965, .iaload, 1, 966), (966, .invokevirtual 146, 3, 969), (969, .aload_n 2, 1, 970), (970, .aload_n 0, 1, 971), (971, .iload_n 3, 1, 972), (972, .iconst 1, 1, 973), (973, .iadd, 1, 974), (974, .iaload, 1, 975), (975, .aload_n 0, 1, 976), (976, .iload_n 3, 1, 977), (977, .iconst 2, 1, 978), (978, .iadd, 1, 979), (979, .iaload, 1, 980)]
def t_Law_15 : List (Nat × Instr × Nat × Nat) := [(980, .invokevirtual 150, 3, 983), (983, .lcmp, 1, 984), (984, .ifCond .eq 176, 3, 987), (987, .iconst 0, 1, 988), (988, .ireturn, 1, 989), (989, .aload_n 1, 1, 990), (990, .aload_n 0, 1, 991), (991, .iload_n 3, 1, 992), (992, .iconst 1, 1, 993), (993, .iadd, 1, 994), (994, .iaload, 1, 995), (995, .invokevirtual 151, 3, 998), (998, .aload_n 2, 1, 999), (999, .aload_n 0, 1, 1000), (1000, .iload_n 3, 1, 1001), (1001, .iconst 1, 1, 1002), (1002, .iadd, 1, 1003), (1003, .iaload, 1, 1004), (1004, .invokevirtual 154, 3, 1007), (1007, .if_icmp .eq 153, 3, 1010), (1010, .iconst 0, 1, 1011), (1011, .ireturn, 1, 1012), (1012, .aload_n 1, 1, 1013), (1013, .aload_n 0, 1, 1014), (1014, .iload_n 3, 1, 1015), (1015, .iconst 1, 1, 1016), (1016, .iadd, 1, 1017), (1017, .iaload, 1, 1018), (1018, .aload_n 0, 1, 1019), (1019, .iload_n 3, 1, 1020), (1020, .iconst 2, 1, 1021), (1021, .iadd, 1, 1022), (1022, .iaload, 1, 1023), (1023, .invokevirtual 155, 3, 1026), (1026, .aload_n 2, 1, 1027), (1027, .aload_n 0, 1, 1028), (1028, .iload_n 3, 1, 1029), (1029, .iconst 1, 1, 1030), (1030, .iadd, 1, 1031), (1031, .iaload, 1, 1032)]
def t_Law_16 : List (Nat × Instr × Nat × Nat) := [(1032, .aload_n 0, 1, 1033), (1033, .iload_n 3, 1, 1034), (1034, .iconst 2, 1, 1035), (1035, .iadd, 1, 1036), (1036, .iaload, 1, 1037), (1037, .invokevirtual 158, 3, 1040), (1040, .if_icmp .eq 120, 3, 1043), (1043, .iconst 0, 1, 1044), (1044, .ireturn, 1, 1045), (1045, .aload_n 1, 1, 1046), (1046, .aload_n 0, 1, 1047), (1047, .iload_n 3, 1, 1048), (1048, .iconst 1, 1, 1049), (1049, .iadd, 1, 1050), (1050, .iaload, 1, 1051), (1051, .aload_n 0, 1, 1052), (1052, .iload_n 3, 1, 1053), (1053, .iconst 2, 1, 1054), (1054, .iadd, 1, 1055), (1055, .iaload, 1, 1056), (1056, .invokevirtual 159, 3, 1059), (1059, .aload_n 2, 1, 1060), (1060, .aload_n 0, 1, 1061), (1061, .iload_n 3, 1, 1062), (1062, .iconst 1, 1, 1063), (1063, .iadd, 1, 1064), (1064, .iaload, 1, 1065), (1065, .aload_n 0, 1, 1066), (1066, .iload_n 3, 1, 1067), (1067, .iconst 2, 1, 1068), (1068, .iadd, 1, 1069), (1069, .iaload, 1, 1070), (1070, .invokevirtual 162, 3, 1073), (1073, .if_icmp .eq 87, 3, 1076), (1076, .iconst 0, 1, 1077), (1077, .ireturn, 1, 1078), (1078, .aload_n 1, 1, 1079), (1079, .aload_n 0, 1, 1080), (1080, .iload_n 3, 1, 1081), (1081, .iconst 1, 1, 1082)]
def t_Law_17 : List (Nat × Instr × Nat × Nat) := [(1082, .iadd, 1, 1083), (1083, .iaload, 1, 1084), (1084, .invokevirtual 163, 3, 1087), (1087, .aload_n 2, 1, 1088), (1088, .aload_n 0, 1, 1089), (1089, .iload_n 3, 1, 1090), (1090, .iconst 1, 1, 1091), (1091, .iadd, 1, 1092), (1092, .iaload, 1, 1093), (1093, .invokevirtual 166, 3, 1096), (1096, .if_icmp .eq 64, 3, 1099), (1099, .iconst 0, 1, 1100), (1100, .ireturn, 1, 1101), (1101, .aload_n 1, 1, 1102), (1102, .aload_n 0, 1, 1103), (1103, .iload_n 3, 1, 1104), (1104, .iconst 1, 1, 1105), (1105, .iadd, 1, 1106), (1106, .iaload, 1, 1107), (1107, .invokevirtual 167, 3, 1110), (1110, .aload_n 2, 1, 1111), (1111, .aload_n 0, 1, 1112), (1112, .iload_n 3, 1, 1113), (1113, .iconst 1, 1, 1114), (1114, .iadd, 1, 1115), (1115, .iaload, 1, 1116), (1116, .invokevirtual 170, 3, 1119), (1119, .if_icmp .eq 41, 3, 1122), (1122, .iconst 0, 1, 1123), (1123, .ireturn, 1, 1124), (1124, .aload_n 1, 1, 1125), (1125, .aload_n 0, 1, 1126), (1126, .iload_n 3, 1, 1127), (1127, .iconst 1, 1, 1128), (1128, .iadd, 1, 1129), (1129, .iaload, 1, 1130), (1130, .invokevirtual 171, 3, 1133), (1133, .aload_n 2, 1, 1134), (1134, .aload_n 0, 1, 1135), (1135, .iload_n 3, 1, 1136)]
def t_Law_18 : List (Nat × Instr × Nat × Nat) := [(1136, .iconst 1, 1, 1137), (1137, .iadd, 1, 1138), (1138, .iaload, 1, 1139), (1139, .invokevirtual 174, 3, 1142), (1142, .if_icmp .eq 18, 3, 1145), (1145, .iconst 0, 1, 1146), (1146, .ireturn, 1, 1147), (1147, .aload_n 1, 1, 1148), (1148, .invokevirtual 175, 3, 1151), (1151, .aload_n 2, 1, 1152), (1152, .invokevirtual 178, 3, 1155), (1155, .if_icmp .eq 5, 3, 1158), (1158, .iconst 0, 1, 1159), (1159, .ireturn, 1, 1160), (1160, .iinc 3 6, 3, 1163), (1163, .goto (-1145), 3, 1166), (1166, .iconst 1, 1, 1167), (1167, .ireturn, 1, 1168)]
def tLs : List (List (Nat × Instr × Nat × Nat)) := [t_Law_0, t_Law_1, t_Law_2, t_Law_3, t_Law_4, t_Law_5, t_Law_6, t_Law_7, t_Law_8, t_Law_9, t_Law_10, t_Law_11, t_Law_12, t_Law_13, t_Law_14, t_Law_15, t_Law_16, t_Law_17, t_Law_18]
def lawOK (cc : ByteArray) : Prop := ∀ j : Nat, gck cc (tLs.getD j []) = true
theorem lawOK.at {cc : ByteArray} (h : lawOK cc) (nm : String) (j n : Nat) {pc : Nat} {i : Instr} {len npc : Nat} (hn : (tLs.getD j [])[n]? = some (pc, i, len, npc)) : gI (f_Law cc nm) pc i len npc := gc (F := f_Law cc nm) (h j) n hn
theorem k_Law_0 : gck code t_Law_0 = true := by decide +kernel
theorem k_Law_1 : gck code t_Law_1 = true := by decide +kernel
theorem k_Law_2 : gck code t_Law_2 = true := by decide +kernel
theorem k_Law_3 : gck code t_Law_3 = true := by decide +kernel
theorem k_Law_4 : gck code t_Law_4 = true := by decide +kernel
theorem k_Law_5 : gck code t_Law_5 = true := by decide +kernel
theorem k_Law_6 : gck code t_Law_6 = true := by decide +kernel
theorem k_Law_7 : gck code t_Law_7 = true := by decide +kernel
theorem k_Law_8 : gck code t_Law_8 = true := by decide +kernel
theorem k_Law_9 : gck code t_Law_9 = true := by decide +kernel
theorem k_Law_10 : gck code t_Law_10 = true := by decide +kernel
theorem k_Law_11 : gck code t_Law_11 = true := by decide +kernel
theorem k_Law_12 : gck code t_Law_12 = true := by decide +kernel
theorem k_Law_13 : gck code t_Law_13 = true := by decide +kernel
theorem k_Law_14 : gck code t_Law_14 = true := by decide +kernel
theorem k_Law_15 : gck code t_Law_15 = true := by decide +kernel
theorem k_Law_16 : gck code t_Law_16 = true := by decide +kernel
theorem k_Law_17 : gck code t_Law_17 = true := by decide +kernel
theorem k_Law_18 : gck code t_Law_18 = true := by decide +kernel
theorem law_ok : lawOK code := fun j => by
  match j with
  | 0 => exact k_Law_0
  | 1 => exact k_Law_1
  | 2 => exact k_Law_2
  | 3 => exact k_Law_3
  | 4 => exact k_Law_4
  | 5 => exact k_Law_5
  | 6 => exact k_Law_6
  | 7 => exact k_Law_7
  | 8 => exact k_Law_8
  | 9 => exact k_Law_9
  | 10 => exact k_Law_10
  | 11 => exact k_Law_11
  | 12 => exact k_Law_12
  | 13 => exact k_Law_13
  | 14 => exact k_Law_14
  | 15 => exact k_Law_15
  | 16 => exact k_Law_16
  | 17 => exact k_Law_17
  | 18 => exact k_Law_18
  | _ + 19 => rfl
theorem law_ri {cc : ByteArray} {nm : String} {pc : Nat} (h : gRi (f_Law cc nm) pc (some (0, 1))) : decode cc pc = .ok (.ireturn, 1) := by
  rcases h with ⟨-, hd, -⟩ | ⟨z, -⟩ | ⟨z, -⟩
  · exact hd
  · exact absurd z (by decide)
  · exact absurd z (by decide)
theorem law_ctx {cc : ByteArray} {D : gD} {p : Program} {s : State} {m : MethodId} {args : Array Value} {meth : Method} {c : Code} (x1 : p.tables.exec = Jvm.exec) (x2 : c.code = cc) (x3 : meth.sig.returnType = some .boolean) (x4 : c.maxLocals = 4) (x5 : s.vm.findClass "CounterDeskLaw" = some m.cls) (hts : ∀ w ∈ lw_good, w.before args s = true) (hlk : meth.locks = false) (hKn : gKn D s s.heap) (hb : D.2.2.1 ≤ s.heap.size) : gCtx D (f_Law cc meth.name) 49 p room_1 s m args meth c := ⟨x1, x2, x3, x4, x5, hts, hlk, rfl, by decide, by decide, hKn, hb⟩
set_option maxHeartbeats 1000000 in
theorem lw_c0 {cc : ByteArray} (hk : lawOK cc) {nm : String} {b L : Nat} {xs : Nat → Int32} {Λ : Int → List PC} {sh : gS} {g : gM} {mc ms n : Nat} {i : Int} {Q : gQ} (hR : relR Λ sh g) (hi : 0 ≤ i ∧ i + 6 ≤ (L : Int) ∧ i ≤ 4000) (hm : 6 * (n + 1) ≤ mc ∧ 869 * (n + 1) ≤ ms) (kX : ∀ (Λ2 : Int → List PC) (s2 : gS) (g2 : gM) (mc2 ms2 : Nat), relR Λ2 s2 g2 → 6 * n ≤ mc2 ∧ 869 * n ≤ ms2 → gWS (scr b L xs) (f_Law cc nm) 49 mc2 ms2 1160 [(3, 27), (2, 0), (2, 177), (0, i)] [] s2 g2 Q) : gWS (scr b L xs) (f_Law cc nm) 49 mc ms 208 [(3, 27), (2, 0), (2, 177), (0, i)] [] sh g Q := by
  refine hw_aload_n (hk.at nm 0 22 rfl) rfl rfl ?_
  refine hw_aload_n (hk.at nm 0 23 rfl) rfl rfl ?_
  refine hw_iload_n (hk.at nm 0 24 rfl) rfl ?_
  refine hw_iconst (hk.at nm 0 25 rfl) ?_
  refine hw_iadd (hk.at nm 0 26 rfl) ?_
  refine hw_ialdX (hk.at nm 0 27 rfl) (by omega) ?_
  refine hw_aload_n (hk.at nm 0 28 rfl) rfl rfl ?_
  refine hw_iload_n (hk.at nm 0 29 rfl) rfl ?_
  refine hw_iconst (hk.at nm 0 30 rfl) ?_
  refine hw_iadd (hk.at nm 0 31 rfl) ?_
  refine hw_ialdX (hk.at nm 0 32 rfl) (by omega) ?_
  refine hw_callV (hk.at nm 0 33 rfl) y_Desk_note ln_Law_13 (pr_note hR _ _ (sv_r _ _) (sv_r _ _)) rfl rfl (sz_0 hR.1.1) rfl rfl ⟨by omega, by omega⟩ (fun r s1 g1 hq => ?_)
  obtain ⟨⟨t, v⟩, rfl, hv, hx1, hM⟩ := hq
  obtain rfl : t = 0 := Nat.le_zero.mp hv
  refine hw_aload_n (hk.at nm 0 34 rfl) rfl rfl ?_
  refine hw_aload_n (hk.at nm 0 35 rfl) rfl rfl ?_
  refine hw_iload_n (hk.at nm 0 36 rfl) rfl ?_
  refine hw_iconst (hk.at nm 0 37 rfl) ?_
  refine hw_iadd (hk.at nm 0 38 rfl) ?_
  refine hw_ialdX (hk.at nm 0 39 rfl) (by omega) ?_
  refine hw_aload_n (hk.at nm 1 0 rfl) rfl rfl ?_
  refine hw_iload_n (hk.at nm 1 1 rfl) rfl ?_
  refine hw_iconst (hk.at nm 1 2 rfl) ?_
  refine hw_iadd (hk.at nm 1 3 rfl) ?_
  refine hw_ialdX (hk.at nm 1 4 rfl) (by omega) ?_
  refine hw_callV (hk.at nm 1 5 rfl) y_Model_note ln_Law_17 hM rfl rfl (sz_177 hx1) rfl rfl ⟨Nat.zero_le _, Nat.zero_le _⟩ (fun r s2 g2 hq => ?_)
  obtain ⟨rfl, -, Λ2, hR2⟩ := hq
  refine hw_ieq (tgt := 1160) (hk.at nm 1 6 rfl) rfl ?_
  exact kX _ _ _ _ _ hR2 (by omega)
set_option maxHeartbeats 1000000 in
theorem lw_c1 {cc : ByteArray} (hk : lawOK cc) {nm : String} {b L : Nat} {xs : Nat → Int32} {Λ : Int → List PC} {sh : gS} {g : gM} {mc ms n : Nat} {i : Int} {Q : gQ} (hR : relR Λ sh g) (hi : 0 ≤ i ∧ i + 6 ≤ (L : Int) ∧ i ≤ 4000) (hm : 6 * (n + 1) ≤ mc ∧ 869 * (n + 1) ≤ ms) (kX : ∀ (Λ2 : Int → List PC) (s2 : gS) (g2 : gM) (mc2 ms2 : Nat), relR Λ2 s2 g2 → 6 * n ≤ mc2 ∧ 869 * n ≤ ms2 → gWS (scr b L xs) (f_Law cc nm) 49 mc2 ms2 1160 [(3, 27), (2, 0), (2, 177), (0, i)] [] s2 g2 Q) : gWS (scr b L xs) (f_Law cc nm) 49 mc ms 241 [(3, 27), (2, 0), (2, 177), (0, i)] [] sh g Q := by
  refine hw_aload_n (hk.at nm 1 9 rfl) rfl rfl ?_
  refine hw_aload_n (hk.at nm 1 10 rfl) rfl rfl ?_
  refine hw_iload_n (hk.at nm 1 11 rfl) rfl ?_
  refine hw_iconst (hk.at nm 1 12 rfl) ?_
  refine hw_iadd (hk.at nm 1 13 rfl) ?_
  refine hw_ialdX (hk.at nm 1 14 rfl) (by omega) ?_
  refine hw_aload_n (hk.at nm 1 15 rfl) rfl rfl ?_
  refine hw_iload_n (hk.at nm 1 16 rfl) rfl ?_
  refine hw_iconst (hk.at nm 1 17 rfl) ?_
  refine hw_iadd (hk.at nm 1 18 rfl) ?_
  refine hw_ialdX (hk.at nm 1 19 rfl) (by omega) ?_
  refine hw_callV (hk.at nm 1 20 rfl) y_Desk_of ln_Law_18 (pr_of hR _ _ (sv_r _ _) (sv_r _ _)) rfl rfl (sz_0 hR.1.1) rfl rfl ⟨by omega, by omega⟩ (fun r s1 g1 hq => ?_)
  obtain ⟨⟨t, v⟩, rfl, hv, hx1, hM⟩ := hq
  obtain rfl : t = 0 := Nat.le_zero.mp hv
  refine hw_aload_n (hk.at nm 1 21 rfl) rfl rfl ?_
  refine hw_aload_n (hk.at nm 1 22 rfl) rfl rfl ?_
  refine hw_iload_n (hk.at nm 1 23 rfl) rfl ?_
  refine hw_iconst (hk.at nm 1 24 rfl) ?_
  refine hw_iadd (hk.at nm 1 25 rfl) ?_
  refine hw_ialdX (hk.at nm 1 26 rfl) (by omega) ?_
  refine hw_aload_n (hk.at nm 1 27 rfl) rfl rfl ?_
  refine hw_iload_n (hk.at nm 1 28 rfl) rfl ?_
  refine hw_iconst (hk.at nm 1 29 rfl) ?_
  refine hw_iadd (hk.at nm 1 30 rfl) ?_
  refine hw_ialdX (hk.at nm 1 31 rfl) (by omega) ?_
  refine hw_callV (hk.at nm 1 32 rfl) y_Model_of ln_Law_21 hM rfl rfl (sz_177 hx1) rfl rfl ⟨Nat.zero_le _, Nat.zero_le _⟩ (fun r s2 g2 hq => ?_)
  obtain ⟨rfl, -, Λ2, hR2⟩ := hq
  refine hw_ieq (tgt := 1160) (hk.at nm 1 33 rfl) rfl ?_
  exact kX _ _ _ _ _ hR2 (by omega)
set_option maxHeartbeats 1000000 in
theorem lw_c2 {cc : ByteArray} (hk : lawOK cc) {nm : String} {b L : Nat} {xs : Nat → Int32} {Λ : Int → List PC} {sh : gS} {g : gM} {mc ms n : Nat} {i : Int} {Q : gQ} (hR : relR Λ sh g) (hi : 0 ≤ i ∧ i + 6 ≤ (L : Int) ∧ i ≤ 4000) (hm : 6 * (n + 1) ≤ mc ∧ 869 * (n + 1) ≤ ms) (kX : ∀ (Λ2 : Int → List PC) (s2 : gS) (g2 : gM) (mc2 ms2 : Nat), relR Λ2 s2 g2 → 6 * n ≤ mc2 ∧ 869 * n ≤ ms2 → gWS (scr b L xs) (f_Law cc nm) 49 mc2 ms2 1160 [(3, 27), (2, 0), (2, 177), (0, i)] [] s2 g2 Q) : gWS (scr b L xs) (f_Law cc nm) 49 mc ms 274 [(3, 27), (2, 0), (2, 177), (0, i)] [] sh g Q := by
  refine hw_aload_n (hk.at nm 1 36 rfl) rfl rfl ?_
  refine hw_aload_n (hk.at nm 1 37 rfl) rfl rfl ?_
  refine hw_iload_n (hk.at nm 1 38 rfl) rfl ?_
  refine hw_iconst (hk.at nm 1 39 rfl) ?_
  refine hw_iadd (hk.at nm 2 0 rfl) ?_
  refine hw_ialdX (hk.at nm 2 1 rfl) (by omega) ?_
  refine hw_aload_n (hk.at nm 2 2 rfl) rfl rfl ?_
  refine hw_iload_n (hk.at nm 2 3 rfl) rfl ?_
  refine hw_iconst (hk.at nm 2 4 rfl) ?_
  refine hw_iadd (hk.at nm 2 5 rfl) ?_
  refine hw_ialdX (hk.at nm 2 6 rfl) (by omega) ?_
  refine hw_callV (hk.at nm 2 7 rfl) y_Desk_at ln_Law_22 (pr_at hR _ _ (sv_r _ _) (sv_r _ _)) rfl rfl (sz_0 hR.1.1) rfl rfl ⟨by omega, by omega⟩ (fun r s1 g1 hq => ?_)
  obtain ⟨⟨t, v⟩, rfl, hv, hx1, hM⟩ := hq
  obtain rfl : t = 0 := Nat.le_zero.mp hv
  refine hw_aload_n (hk.at nm 2 8 rfl) rfl rfl ?_
  refine hw_aload_n (hk.at nm 2 9 rfl) rfl rfl ?_
  refine hw_iload_n (hk.at nm 2 10 rfl) rfl ?_
  refine hw_iconst (hk.at nm 2 11 rfl) ?_
  refine hw_iadd (hk.at nm 2 12 rfl) ?_
  refine hw_ialdX (hk.at nm 2 13 rfl) (by omega) ?_
  refine hw_aload_n (hk.at nm 2 14 rfl) rfl rfl ?_
  refine hw_iload_n (hk.at nm 2 15 rfl) rfl ?_
  refine hw_iconst (hk.at nm 2 16 rfl) ?_
  refine hw_iadd (hk.at nm 2 17 rfl) ?_
  refine hw_ialdX (hk.at nm 2 18 rfl) (by omega) ?_
  refine hw_callV (hk.at nm 2 19 rfl) y_Model_at ln_Law_25 hM rfl rfl (sz_177 hx1) rfl rfl ⟨Nat.zero_le _, Nat.zero_le _⟩ (fun r s2 g2 hq => ?_)
  obtain ⟨rfl, -, Λ2, hR2⟩ := hq
  refine hw_ieq (tgt := 1160) (hk.at nm 2 20 rfl) rfl ?_
  exact kX _ _ _ _ _ hR2 (by omega)
set_option maxHeartbeats 1000000 in
theorem lw_c3 {cc : ByteArray} (hk : lawOK cc) {nm : String} {b L : Nat} {xs : Nat → Int32} {Λ : Int → List PC} {sh : gS} {g : gM} {mc ms n : Nat} {i : Int} {Q : gQ} (hR : relR Λ sh g) (hi : 0 ≤ i ∧ i + 6 ≤ (L : Int) ∧ i ≤ 4000) (hm : 6 * (n + 1) ≤ mc ∧ 869 * (n + 1) ≤ ms) (kX : ∀ (Λ2 : Int → List PC) (s2 : gS) (g2 : gM) (mc2 ms2 : Nat), relR Λ2 s2 g2 → 6 * n ≤ mc2 ∧ 869 * n ≤ ms2 → gWS (scr b L xs) (f_Law cc nm) 49 mc2 ms2 1160 [(3, 27), (2, 0), (2, 177), (0, i)] [] s2 g2 Q) : gWS (scr b L xs) (f_Law cc nm) 49 mc ms 307 [(3, 27), (2, 0), (2, 177), (0, i)] [] sh g Q := by
  refine hw_aload_n (hk.at nm 2 23 rfl) rfl rfl ?_
  refine hw_aload_n (hk.at nm 2 24 rfl) rfl rfl ?_
  refine hw_iload_n (hk.at nm 2 25 rfl) rfl ?_
  refine hw_iconst (hk.at nm 2 26 rfl) ?_
  refine hw_iadd (hk.at nm 2 27 rfl) ?_
  refine hw_ialdX (hk.at nm 2 28 rfl) (by omega) ?_
  refine hw_callV (hk.at nm 2 29 rfl) y_Desk_all ln_Law_26 (pr_all hR _ (sv_r _ _)) rfl rfl (sz_0 hR.1.1) rfl rfl ⟨by omega, by omega⟩ (fun r s1 g1 hq => ?_)
  obtain ⟨⟨t, v⟩, rfl, hv, hx1, hM⟩ := hq
  obtain rfl : t = 0 := Nat.le_zero.mp hv
  refine hw_aload_n (hk.at nm 2 30 rfl) rfl rfl ?_
  refine hw_aload_n (hk.at nm 2 31 rfl) rfl rfl ?_
  refine hw_iload_n (hk.at nm 2 32 rfl) rfl ?_
  refine hw_iconst (hk.at nm 2 33 rfl) ?_
  refine hw_iadd (hk.at nm 2 34 rfl) ?_
  refine hw_ialdX (hk.at nm 2 35 rfl) (by omega) ?_
  refine hw_callV (hk.at nm 2 36 rfl) y_Model_all ln_Law_30 hM rfl rfl (sz_177 hx1) rfl rfl ⟨Nat.zero_le _, Nat.zero_le _⟩ (fun r s2 g2 hq => ?_)
  obtain ⟨rfl, -, Λ2, hR2⟩ := hq
  refine hw_ieq (tgt := 1160) (hk.at nm 2 37 rfl) rfl ?_
  exact kX _ _ _ _ _ hR2 (by omega)
set_option maxHeartbeats 1000000 in
theorem lw_c4 {cc : ByteArray} (hk : lawOK cc) {nm : String} {b L : Nat} {xs : Nat → Int32} {Λ : Int → List PC} {sh : gS} {g : gM} {mc ms n : Nat} {i : Int} {Q : gQ} (hR : relR Λ sh g) (hi : 0 ≤ i ∧ i + 6 ≤ (L : Int) ∧ i ≤ 4000) (hm : 6 * (n + 1) ≤ mc ∧ 869 * (n + 1) ≤ ms) (kX : ∀ (Λ2 : Int → List PC) (s2 : gS) (g2 : gM) (mc2 ms2 : Nat), relR Λ2 s2 g2 → 6 * n ≤ mc2 ∧ 869 * n ≤ ms2 → gWS (scr b L xs) (f_Law cc nm) 49 mc2 ms2 1160 [(3, 27), (2, 0), (2, 177), (0, i)] [] s2 g2 Q) : gWS (scr b L xs) (f_Law cc nm) 49 mc ms 330 [(3, 27), (2, 0), (2, 177), (0, i)] [] sh g Q := by
  refine hw_aload_n (hk.at nm 3 0 rfl) rfl rfl ?_
  refine hw_aload_n (hk.at nm 3 1 rfl) rfl rfl ?_
  refine hw_iload_n (hk.at nm 3 2 rfl) rfl ?_
  refine hw_iconst (hk.at nm 3 3 rfl) ?_
  refine hw_iadd (hk.at nm 3 4 rfl) ?_
  refine hw_ialdX (hk.at nm 3 5 rfl) (by omega) ?_
  refine hw_aload_n (hk.at nm 3 6 rfl) rfl rfl ?_
  refine hw_iload_n (hk.at nm 3 7 rfl) rfl ?_
  refine hw_iconst (hk.at nm 3 8 rfl) ?_
  refine hw_iadd (hk.at nm 3 9 rfl) ?_
  refine hw_ialdX (hk.at nm 3 10 rfl) (by omega) ?_
  refine hw_callV (hk.at nm 3 11 rfl) y_Desk_terms ln_Law_31 (pr_terms hR _ _ (sv_r _ _) (sv_r _ _)) rfl rfl (sz_0 hR.1.1) rfl rfl ⟨by omega, by omega⟩ (fun r s1 g1 hq => ?_)
  obtain ⟨⟨t, v⟩, rfl, hv, hx1, hM⟩ := hq
  obtain rfl : t = 0 := Nat.le_zero.mp hv
  refine hw_aload_n (hk.at nm 3 12 rfl) rfl rfl ?_
  refine hw_aload_n (hk.at nm 3 13 rfl) rfl rfl ?_
  refine hw_iload_n (hk.at nm 3 14 rfl) rfl ?_
  refine hw_iconst (hk.at nm 3 15 rfl) ?_
  refine hw_iadd (hk.at nm 3 16 rfl) ?_
  refine hw_ialdX (hk.at nm 3 17 rfl) (by omega) ?_
  refine hw_aload_n (hk.at nm 3 18 rfl) rfl rfl ?_
  refine hw_iload_n (hk.at nm 3 19 rfl) rfl ?_
  refine hw_iconst (hk.at nm 3 20 rfl) ?_
  refine hw_iadd (hk.at nm 3 21 rfl) ?_
  refine hw_ialdX (hk.at nm 3 22 rfl) (by omega) ?_
  refine hw_callV (hk.at nm 3 23 rfl) y_Model_terms ln_Law_34 hM rfl rfl (sz_177 hx1) rfl rfl ⟨Nat.zero_le _, Nat.zero_le _⟩ (fun r s2 g2 hq => ?_)
  obtain ⟨rfl, -, Λ2, hR2⟩ := hq
  refine hw_ieq (tgt := 1160) (hk.at nm 3 24 rfl) rfl ?_
  exact kX _ _ _ _ _ hR2 (by omega)
set_option maxHeartbeats 1000000 in
theorem lw_c5 {cc : ByteArray} (hk : lawOK cc) {nm : String} {b L : Nat} {xs : Nat → Int32} {Λ : Int → List PC} {sh : gS} {g : gM} {mc ms n : Nat} {i : Int} {Q : gQ} (hR : relR Λ sh g) (hi : 0 ≤ i ∧ i + 6 ≤ (L : Int) ∧ i ≤ 4000) (hm : 6 * (n + 1) ≤ mc ∧ 869 * (n + 1) ≤ ms) (kX : ∀ (Λ2 : Int → List PC) (s2 : gS) (g2 : gM) (mc2 ms2 : Nat), relR Λ2 s2 g2 → 6 * n ≤ mc2 ∧ 869 * n ≤ ms2 → gWS (scr b L xs) (f_Law cc nm) 49 mc2 ms2 1160 [(3, 27), (2, 0), (2, 177), (0, i)] [] s2 g2 Q) : gWS (scr b L xs) (f_Law cc nm) 49 mc ms 363 [(3, 27), (2, 0), (2, 177), (0, i)] [] sh g Q := by
  refine hw_aload_n (hk.at nm 3 27 rfl) rfl rfl ?_
  refine hw_aload_n (hk.at nm 3 28 rfl) rfl rfl ?_
  refine hw_iload_n (hk.at nm 3 29 rfl) rfl ?_
  refine hw_iconst (hk.at nm 3 30 rfl) ?_
  refine hw_iadd (hk.at nm 3 31 rfl) ?_
  refine hw_ialdX (hk.at nm 3 32 rfl) (by omega) ?_
  refine hw_aload_n (hk.at nm 3 33 rfl) rfl rfl ?_
  refine hw_iload_n (hk.at nm 3 34 rfl) rfl ?_
  refine hw_iconst (hk.at nm 3 35 rfl) ?_
  refine hw_iadd (hk.at nm 3 36 rfl) ?_
  refine hw_ialdX (hk.at nm 3 37 rfl) (by omega) ?_
  refine hw_aload_n (hk.at nm 3 38 rfl) rfl rfl ?_
  refine hw_iload_n (hk.at nm 3 39 rfl) rfl ?_
  refine hw_iconst (hk.at nm 4 0 rfl) ?_
  refine hw_iadd (hk.at nm 4 1 rfl) ?_
  refine hw_ialdX (hk.at nm 4 2 rfl) (by omega) ?_
  refine hw_aload_n (hk.at nm 4 3 rfl) rfl rfl ?_
  refine hw_iload_n (hk.at nm 4 4 rfl) rfl ?_
  refine hw_iconst (hk.at nm 4 5 rfl) ?_
  refine hw_iadd (hk.at nm 4 6 rfl) ?_
  refine hw_ialdX (hk.at nm 4 7 rfl) (by omega) ?_
  refine hw_aload_n (hk.at nm 4 8 rfl) rfl rfl ?_
  refine hw_iload_n (hk.at nm 4 9 rfl) rfl ?_
  refine hw_iconst (hk.at nm 4 10 rfl) ?_
  refine hw_iadd (hk.at nm 4 11 rfl) ?_
  refine hw_ialdX (hk.at nm 4 12 rfl) (by omega) ?_
  refine hw_callV (hk.at nm 4 13 rfl) y_Desk_feed ln_Law_35 (pr_feed hR _ _ _ _ _) rfl rfl (sz_0 hR.1.1) rfl rfl ⟨by omega, by omega⟩ (fun r s1 g1 hq => ?_)
  obtain ⟨⟨t, v⟩, rfl, hv, hx1, hM⟩ := hq
  obtain rfl : t = 0 := Nat.le_zero.mp hv
  refine hw_aload_n (hk.at nm 4 14 rfl) rfl rfl ?_
  refine hw_aload_n (hk.at nm 4 15 rfl) rfl rfl ?_
  refine hw_iload_n (hk.at nm 4 16 rfl) rfl ?_
  refine hw_iconst (hk.at nm 4 17 rfl) ?_
  refine hw_iadd (hk.at nm 4 18 rfl) ?_
  refine hw_ialdX (hk.at nm 4 19 rfl) (by omega) ?_
  refine hw_aload_n (hk.at nm 4 20 rfl) rfl rfl ?_
  refine hw_iload_n (hk.at nm 4 21 rfl) rfl ?_
  refine hw_iconst (hk.at nm 4 22 rfl) ?_
  refine hw_iadd (hk.at nm 4 23 rfl) ?_
  refine hw_ialdX (hk.at nm 4 24 rfl) (by omega) ?_
  refine hw_aload_n (hk.at nm 4 25 rfl) rfl rfl ?_
  refine hw_iload_n (hk.at nm 4 26 rfl) rfl ?_
  refine hw_iconst (hk.at nm 4 27 rfl) ?_
  refine hw_iadd (hk.at nm 4 28 rfl) ?_
  refine hw_ialdX (hk.at nm 4 29 rfl) (by omega) ?_
  refine hw_aload_n (hk.at nm 4 30 rfl) rfl rfl ?_
  refine hw_iload_n (hk.at nm 4 31 rfl) rfl ?_
  refine hw_iconst (hk.at nm 4 32 rfl) ?_
  refine hw_iadd (hk.at nm 4 33 rfl) ?_
  refine hw_ialdX (hk.at nm 4 34 rfl) (by omega) ?_
  refine hw_aload_n (hk.at nm 4 35 rfl) rfl rfl ?_
  refine hw_iload_n (hk.at nm 4 36 rfl) rfl ?_
  refine hw_iconst (hk.at nm 4 37 rfl) ?_
  refine hw_iadd (hk.at nm 4 38 rfl) ?_
  refine hw_ialdX (hk.at nm 4 39 rfl) (by omega) ?_
  refine hw_callV (hk.at nm 5 0 rfl) y_Model_feed ln_Law_39 hM rfl rfl (sz_177 hx1) rfl rfl ⟨Nat.zero_le _, Nat.zero_le _⟩ (fun r s2 g2 hq => ?_)
  obtain ⟨rfl, -, Λ2, hR2⟩ := hq
  refine hw_ieq (tgt := 1160) (hk.at nm 5 1 rfl) rfl ?_
  exact kX _ _ _ _ _ hR2 (by omega)
set_option maxHeartbeats 1000000 in
theorem lw_c6 {cc : ByteArray} (hk : lawOK cc) {nm : String} {b L : Nat} {xs : Nat → Int32} {Λ : Int → List PC} {sh : gS} {g : gM} {mc ms n : Nat} {i : Int} {Q : gQ} (hR : relR Λ sh g) (hi : 0 ≤ i ∧ i + 6 ≤ (L : Int) ∧ i ≤ 4000) (hm : 6 * (n + 1) ≤ mc ∧ 869 * (n + 1) ≤ ms) (kX : ∀ (Λ2 : Int → List PC) (s2 : gS) (g2 : gM) (mc2 ms2 : Nat), relR Λ2 s2 g2 → 6 * n ≤ mc2 ∧ 869 * n ≤ ms2 → gWS (scr b L xs) (f_Law cc nm) 49 mc2 ms2 1160 [(3, 27), (2, 0), (2, 177), (0, i)] [] s2 g2 Q) : gWS (scr b L xs) (f_Law cc nm) 49 mc ms 426 [(3, 27), (2, 0), (2, 177), (0, i)] [] sh g Q := by
  refine hw_aload_n (hk.at nm 5 4 rfl) rfl rfl ?_
  refine hw_aload_n (hk.at nm 5 5 rfl) rfl rfl ?_
  refine hw_iload_n (hk.at nm 5 6 rfl) rfl ?_
  refine hw_iconst (hk.at nm 5 7 rfl) ?_
  refine hw_iadd (hk.at nm 5 8 rfl) ?_
  refine hw_ialdX (hk.at nm 5 9 rfl) (by omega) ?_
  refine hw_callV (hk.at nm 5 10 rfl) y_Desk_end ln_Law_40 (pr_end hR _ (sv_r _ _)) rfl rfl (sz_0 hR.1.1) rfl rfl ⟨by omega, by omega⟩ (fun r s1 g1 hq => ?_)
  obtain ⟨⟨t, v⟩, rfl, hv, hx1, hM⟩ := hq
  obtain rfl : t = 0 := Nat.le_zero.mp hv
  refine hw_aload_n (hk.at nm 5 11 rfl) rfl rfl ?_
  refine hw_aload_n (hk.at nm 5 12 rfl) rfl rfl ?_
  refine hw_iload_n (hk.at nm 5 13 rfl) rfl ?_
  refine hw_iconst (hk.at nm 5 14 rfl) ?_
  refine hw_iadd (hk.at nm 5 15 rfl) ?_
  refine hw_ialdX (hk.at nm 5 16 rfl) (by omega) ?_
  refine hw_callV (hk.at nm 5 17 rfl) y_Model_end ln_Law_43 hM rfl rfl (sz_177 hx1) rfl rfl ⟨Nat.zero_le _, Nat.zero_le _⟩ (fun r s2 g2 hq => ?_)
  obtain ⟨rfl, -, Λ2, hR2⟩ := hq
  refine hw_ieq (tgt := 1160) (hk.at nm 5 18 rfl) rfl ?_
  exact kX _ _ _ _ _ hR2 (by omega)
set_option maxHeartbeats 1000000 in
theorem lw_c7 {cc : ByteArray} (hk : lawOK cc) {nm : String} {b L : Nat} {xs : Nat → Int32} {Λ : Int → List PC} {sh : gS} {g : gM} {mc ms n : Nat} {i : Int} {Q : gQ} (hR : relR Λ sh g) (hi : 0 ≤ i ∧ i + 6 ≤ (L : Int) ∧ i ≤ 4000) (hm : 6 * (n + 1) ≤ mc ∧ 869 * (n + 1) ≤ ms) (kX : ∀ (Λ2 : Int → List PC) (s2 : gS) (g2 : gM) (mc2 ms2 : Nat), relR Λ2 s2 g2 → 6 * n ≤ mc2 ∧ 869 * n ≤ ms2 → gWS (scr b L xs) (f_Law cc nm) 49 mc2 ms2 1160 [(3, 27), (2, 0), (2, 177), (0, i)] [] s2 g2 Q) : gWS (scr b L xs) (f_Law cc nm) 49 mc ms 449 [(3, 27), (2, 0), (2, 177), (0, i)] [] sh g Q := by
  refine hw_aload_n (hk.at nm 5 21 rfl) rfl rfl ?_
  refine hw_callV (hk.at nm 5 22 rfl) y_Desk_row ln_Law_44 (pr_row hR) rfl rfl (sz_0 hR.1.1) rfl rfl ⟨by omega, by omega⟩ (fun r s1 g1 hq => ?_)
  obtain ⟨⟨t, v⟩, rfl, hv, hx1, hM⟩ := hq
  obtain rfl : t = 0 := Nat.le_zero.mp hv
  refine hw_aload_n (hk.at nm 5 23 rfl) rfl rfl ?_
  refine hw_callV (hk.at nm 5 24 rfl) y_Model_row ln_Law_48 hM rfl rfl (sz_177 hx1) rfl rfl ⟨Nat.zero_le _, Nat.zero_le _⟩ (fun r s2 g2 hq => ?_)
  obtain ⟨rfl, -, Λ2, hR2⟩ := hq
  refine hw_ieq (tgt := 1160) (hk.at nm 5 25 rfl) rfl ?_
  exact kX _ _ _ _ _ hR2 (by omega)
set_option maxHeartbeats 1000000 in
theorem lw_c8 {cc : ByteArray} (hk : lawOK cc) {nm : String} {b L : Nat} {xs : Nat → Int32} {Λ : Int → List PC} {sh : gS} {g : gM} {mc ms n : Nat} {i : Int} {Q : gQ} (hR : relR Λ sh g) (hi : 0 ≤ i ∧ i + 6 ≤ (L : Int) ∧ i ≤ 4000) (hm : 6 * (n + 1) ≤ mc ∧ 869 * (n + 1) ≤ ms) (kX : ∀ (Λ2 : Int → List PC) (s2 : gS) (g2 : gM) (mc2 ms2 : Nat), relR Λ2 s2 g2 → 6 * n ≤ mc2 ∧ 869 * n ≤ ms2 → gWS (scr b L xs) (f_Law cc nm) 49 mc2 ms2 1160 [(3, 27), (2, 0), (2, 177), (0, i)] [] s2 g2 Q) : gWS (scr b L xs) (f_Law cc nm) 49 mc ms 462 [(3, 27), (2, 0), (2, 177), (0, i)] [] sh g Q := by
  refine hw_aload_n (hk.at nm 5 28 rfl) rfl rfl ?_
  refine hw_callV (hk.at nm 5 29 rfl) y_Desk_blots ln_Law_49 (pr_blots hR) rfl rfl (sz_0 hR.1.1) rfl rfl ⟨by omega, by omega⟩ (fun r s1 g1 hq => ?_)
  obtain ⟨⟨t, v⟩, rfl, hv, hx1, hM⟩ := hq
  obtain rfl : t = 0 := Nat.le_zero.mp hv
  refine hw_aload_n (hk.at nm 5 30 rfl) rfl rfl ?_
  refine hw_callV (hk.at nm 5 31 rfl) y_Model_blots ln_Law_52 hM rfl rfl (sz_177 hx1) rfl rfl ⟨Nat.zero_le _, Nat.zero_le _⟩ (fun r s2 g2 hq => ?_)
  obtain ⟨rfl, -, Λ2, hR2⟩ := hq
  refine hw_ieq (tgt := 1160) (hk.at nm 5 32 rfl) rfl ?_
  exact kX _ _ _ _ _ hR2 (by omega)
set_option maxHeartbeats 1000000 in
theorem lw_c9 {cc : ByteArray} (hk : lawOK cc) {nm : String} {b L : Nat} {xs : Nat → Int32} {Λ : Int → List PC} {sh : gS} {g : gM} {mc ms n : Nat} {i : Int} {Q : gQ} (hR : relR Λ sh g) (hi : 0 ≤ i ∧ i + 6 ≤ (L : Int) ∧ i ≤ 4000) (hm : 6 * (n + 1) ≤ mc ∧ 869 * (n + 1) ≤ ms) (kX : ∀ (Λ2 : Int → List PC) (s2 : gS) (g2 : gM) (mc2 ms2 : Nat), relR Λ2 s2 g2 → 6 * n ≤ mc2 ∧ 869 * n ≤ ms2 → gWS (scr b L xs) (f_Law cc nm) 49 mc2 ms2 1160 [(3, 27), (2, 0), (2, 177), (0, i)] [] s2 g2 Q) : gWS (scr b L xs) (f_Law cc nm) 49 mc ms 475 [(3, 27), (2, 0), (2, 177), (0, i)] [] sh g Q := by
  refine hw_aload_n (hk.at nm 5 35 rfl) rfl rfl ?_
  refine hw_callV (hk.at nm 5 36 rfl) y_Desk_law ln_Law_53 (pr_law hR) rfl rfl (sz_0 hR.1.1) rfl rfl ⟨by omega, by omega⟩ (fun r s1 g1 hq => ?_)
  obtain ⟨⟨t, v⟩, rfl, hv, hx1, hM⟩ := hq
  obtain rfl : t = 0 := Nat.le_zero.mp hv
  refine hw_aload_n (hk.at nm 5 37 rfl) rfl rfl ?_
  refine hw_callV (hk.at nm 5 38 rfl) y_Model_law ln_Law_56 hM rfl rfl (sz_177 hx1) rfl rfl ⟨Nat.zero_le _, Nat.zero_le _⟩ (fun r s2 g2 hq => ?_)
  obtain ⟨rfl, -, Λ2, hR2⟩ := hq
  refine hw_ieq (tgt := 1160) (hk.at nm 5 39 rfl) rfl ?_
  exact kX _ _ _ _ _ hR2 (by omega)
set_option maxHeartbeats 1000000 in
theorem lw_c10 {cc : ByteArray} (hk : lawOK cc) {nm : String} {b L : Nat} {xs : Nat → Int32} {Λ : Int → List PC} {sh : gS} {g : gM} {mc ms n : Nat} {i : Int} {Q : gQ} (hR : relR Λ sh g) (hi : 0 ≤ i ∧ i + 6 ≤ (L : Int) ∧ i ≤ 4000) (hm : 6 * (n + 1) ≤ mc ∧ 869 * (n + 1) ≤ ms) (kX : ∀ (Λ2 : Int → List PC) (s2 : gS) (g2 : gM) (mc2 ms2 : Nat), relR Λ2 s2 g2 → 6 * n ≤ mc2 ∧ 869 * n ≤ ms2 → gWS (scr b L xs) (f_Law cc nm) 49 mc2 ms2 1160 [(3, 27), (2, 0), (2, 177), (0, i)] [] s2 g2 Q) : gWS (scr b L xs) (f_Law cc nm) 49 mc ms 488 [(3, 27), (2, 0), (2, 177), (0, i)] [] sh g Q := by
  refine hw_aload_n (hk.at nm 6 2 rfl) rfl rfl ?_
  refine hw_callV (hk.at nm 6 3 rfl) y_Desk_orders ln_Law_57 (pr_orders hR) rfl rfl (sz_0 hR.1.1) rfl rfl ⟨by omega, by omega⟩ (fun r s1 g1 hq => ?_)
  obtain ⟨⟨t, v⟩, rfl, hv, hx1, hM⟩ := hq
  obtain rfl : t = 0 := Nat.le_zero.mp hv
  refine hw_aload_n (hk.at nm 6 4 rfl) rfl rfl ?_
  refine hw_callV (hk.at nm 6 5 rfl) y_Model_orders ln_Law_60 hM rfl rfl (sz_177 hx1) rfl rfl ⟨Nat.zero_le _, Nat.zero_le _⟩ (fun r s2 g2 hq => ?_)
  obtain ⟨rfl, -, Λ2, hR2⟩ := hq
  refine hw_ieq (tgt := 1160) (hk.at nm 6 6 rfl) rfl ?_
  exact kX _ _ _ _ _ hR2 (by omega)
set_option maxHeartbeats 1000000 in
theorem lw_c11 {cc : ByteArray} (hk : lawOK cc) {nm : String} {b L : Nat} {xs : Nat → Int32} {Λ : Int → List PC} {sh : gS} {g : gM} {mc ms n : Nat} {i : Int} {Q : gQ} (hR : relR Λ sh g) (hi : 0 ≤ i ∧ i + 6 ≤ (L : Int) ∧ i ≤ 4000) (hm : 6 * (n + 1) ≤ mc ∧ 869 * (n + 1) ≤ ms) (kX : ∀ (Λ2 : Int → List PC) (s2 : gS) (g2 : gM) (mc2 ms2 : Nat), relR Λ2 s2 g2 → 6 * n ≤ mc2 ∧ 869 * n ≤ ms2 → gWS (scr b L xs) (f_Law cc nm) 49 mc2 ms2 1160 [(3, 27), (2, 0), (2, 177), (0, i)] [] s2 g2 Q) : gWS (scr b L xs) (f_Law cc nm) 49 mc ms 501 [(3, 27), (2, 0), (2, 177), (0, i)] [] sh g Q := by
  refine hw_aload_n (hk.at nm 6 9 rfl) rfl rfl ?_
  refine hw_callV (hk.at nm 6 10 rfl) y_Desk_fault ln_Law_61 (pr_fault hR) rfl rfl (sz_0 hR.1.1) rfl rfl ⟨by omega, by omega⟩ (fun r s1 g1 hq => ?_)
  obtain ⟨⟨t, v⟩, rfl, hv, hx1, hM⟩ := hq
  obtain rfl : t = 0 := Nat.le_zero.mp hv
  refine hw_aload_n (hk.at nm 6 11 rfl) rfl rfl ?_
  refine hw_callV (hk.at nm 6 12 rfl) y_Model_fault ln_Law_64 hM rfl rfl (sz_177 hx1) rfl rfl ⟨Nat.zero_le _, Nat.zero_le _⟩ (fun r s2 g2 hq => ?_)
  obtain ⟨rfl, -, Λ2, hR2⟩ := hq
  refine hw_ieq (tgt := 1160) (hk.at nm 6 13 rfl) rfl ?_
  exact kX _ _ _ _ _ hR2 (by omega)
set_option maxHeartbeats 1000000 in
theorem lw_c12 {cc : ByteArray} (hk : lawOK cc) {nm : String} {b L : Nat} {xs : Nat → Int32} {Λ : Int → List PC} {sh : gS} {g : gM} {mc ms n : Nat} {i : Int} {Q : gQ} (hR : relR Λ sh g) (hi : 0 ≤ i ∧ i + 6 ≤ (L : Int) ∧ i ≤ 4000) (hm : 6 * (n + 1) ≤ mc ∧ 869 * (n + 1) ≤ ms) (kX : ∀ (Λ2 : Int → List PC) (s2 : gS) (g2 : gM) (mc2 ms2 : Nat), relR Λ2 s2 g2 → 6 * n ≤ mc2 ∧ 869 * n ≤ ms2 → gWS (scr b L xs) (f_Law cc nm) 49 mc2 ms2 1160 [(3, 27), (2, 0), (2, 177), (0, i)] [] s2 g2 Q) : gWS (scr b L xs) (f_Law cc nm) 49 mc ms 514 [(3, 27), (2, 0), (2, 177), (0, i)] [] sh g Q := by
  refine hw_aload_n (hk.at nm 6 16 rfl) rfl rfl ?_
  refine hw_callV (hk.at nm 6 17 rfl) y_Desk_stopped ln_Law_65 (pr_stopped hR) rfl rfl (sz_0 hR.1.1) rfl rfl ⟨by omega, by omega⟩ (fun r s1 g1 hq => ?_)
  obtain ⟨⟨t, v⟩, rfl, hv, hx1, hM⟩ := hq
  obtain rfl : t = 0 := Nat.le_zero.mp hv
  refine hw_aload_n (hk.at nm 6 18 rfl) rfl rfl ?_
  refine hw_callV (hk.at nm 6 19 rfl) y_Model_stopped ln_Law_68 hM rfl rfl (sz_177 hx1) rfl rfl ⟨Nat.zero_le _, Nat.zero_le _⟩ (fun r s2 g2 hq => ?_)
  obtain ⟨rfl, -, Λ2, hR2⟩ := hq
  refine hw_ieq (tgt := 1160) (hk.at nm 6 20 rfl) rfl ?_
  exact kX _ _ _ _ _ hR2 (by omega)
set_option maxHeartbeats 1000000 in
theorem lw_c13 {cc : ByteArray} (hk : lawOK cc) {nm : String} {b L : Nat} {xs : Nat → Int32} {Λ : Int → List PC} {sh : gS} {g : gM} {mc ms n : Nat} {i : Int} {Q : gQ} (hR : relR Λ sh g) (hi : 0 ≤ i ∧ i + 6 ≤ (L : Int) ∧ i ≤ 4000) (hm : 6 * (n + 1) ≤ mc ∧ 869 * (n + 1) ≤ ms) (kX : ∀ (Λ2 : Int → List PC) (s2 : gS) (g2 : gM) (mc2 ms2 : Nat), relR Λ2 s2 g2 → 6 * n ≤ mc2 ∧ 869 * n ≤ ms2 → gWS (scr b L xs) (f_Law cc nm) 49 mc2 ms2 1160 [(3, 27), (2, 0), (2, 177), (0, i)] [] s2 g2 Q) : gWS (scr b L xs) (f_Law cc nm) 49 mc ms 527 [(3, 27), (2, 0), (2, 177), (0, i)] [] sh g Q := by
  refine hw_aload_n (hk.at nm 6 23 rfl) rfl rfl ?_
  refine hw_aload_n (hk.at nm 6 24 rfl) rfl rfl ?_
  refine hw_iload_n (hk.at nm 6 25 rfl) rfl ?_
  refine hw_iconst (hk.at nm 6 26 rfl) ?_
  refine hw_iadd (hk.at nm 6 27 rfl) ?_
  refine hw_ialdX (hk.at nm 6 28 rfl) (by omega) ?_
  refine hw_callV (hk.at nm 6 29 rfl) y_Desk_force ln_Law_69 (pr_force hR _ (sv_r _ _)) rfl rfl (sz_0 hR.1.1) rfl rfl ⟨by omega, by omega⟩ (fun r s1 g1 hq => ?_)
  obtain ⟨⟨t, v⟩, rfl, hv, hx1, hM⟩ := hq
  obtain rfl : t = 0 := Nat.le_zero.mp hv
  refine hw_aload_n (hk.at nm 6 30 rfl) rfl rfl ?_
  refine hw_aload_n (hk.at nm 6 31 rfl) rfl rfl ?_
  refine hw_iload_n (hk.at nm 6 32 rfl) rfl ?_
  refine hw_iconst (hk.at nm 6 33 rfl) ?_
  refine hw_iadd (hk.at nm 6 34 rfl) ?_
  refine hw_ialdX (hk.at nm 6 35 rfl) (by omega) ?_
  refine hw_callV (hk.at nm 6 36 rfl) y_Model_force ln_Law_72 hM rfl rfl (sz_177 hx1) rfl rfl ⟨Nat.zero_le _, Nat.zero_le _⟩ (fun r s2 g2 hq => ?_)
  obtain ⟨rfl, -, Λ2, hR2⟩ := hq
  refine hw_ieq (tgt := 1160) (hk.at nm 6 37 rfl) rfl ?_
  exact kX _ _ _ _ _ hR2 (by omega)
set_option maxHeartbeats 1000000 in
theorem lw_c14 {cc : ByteArray} (hk : lawOK cc) {nm : String} {b L : Nat} {xs : Nat → Int32} {Λ : Int → List PC} {sh : gS} {g : gM} {mc ms n : Nat} {i : Int} {Q : gQ} (hR : relR Λ sh g) (hi : 0 ≤ i ∧ i + 6 ≤ (L : Int) ∧ i ≤ 4000) (hm : 6 * (n + 1) ≤ mc ∧ 869 * (n + 1) ≤ ms) (kX : ∀ (Λ2 : Int → List PC) (s2 : gS) (g2 : gM) (mc2 ms2 : Nat), relR Λ2 s2 g2 → 6 * n ≤ mc2 ∧ 869 * n ≤ ms2 → gWS (scr b L xs) (f_Law cc nm) 49 mc2 ms2 1160 [(3, 27), (2, 0), (2, 177), (0, i)] [] s2 g2 Q) : gWS (scr b L xs) (f_Law cc nm) 49 mc ms 550 [(3, 27), (2, 0), (2, 177), (0, i)] [] sh g Q := by
  refine hw_aload_n (hk.at nm 7 0 rfl) rfl rfl ?_
  refine hw_aload_n (hk.at nm 7 1 rfl) rfl rfl ?_
  refine hw_iload_n (hk.at nm 7 2 rfl) rfl ?_
  refine hw_iconst (hk.at nm 7 3 rfl) ?_
  refine hw_iadd (hk.at nm 7 4 rfl) ?_
  refine hw_ialdX (hk.at nm 7 5 rfl) (by omega) ?_
  refine hw_aload_n (hk.at nm 7 6 rfl) rfl rfl ?_
  refine hw_iload_n (hk.at nm 7 7 rfl) rfl ?_
  refine hw_iconst (hk.at nm 7 8 rfl) ?_
  refine hw_iadd (hk.at nm 7 9 rfl) ?_
  refine hw_ialdX (hk.at nm 7 10 rfl) (by omega) ?_
  refine hw_callV (hk.at nm 7 11 rfl) y_Desk_set ln_Law_73 (pr_set hR _ _ (sv_r _ _) (sv_r _ _)) rfl rfl (sz_0 hR.1.1) rfl rfl ⟨by omega, by omega⟩ (fun r s1 g1 hq => ?_)
  obtain ⟨⟨t, v⟩, rfl, hv, hx1, hM⟩ := hq
  obtain rfl : t = 0 := Nat.le_zero.mp hv
  refine hw_aload_n (hk.at nm 7 12 rfl) rfl rfl ?_
  refine hw_aload_n (hk.at nm 7 13 rfl) rfl rfl ?_
  refine hw_iload_n (hk.at nm 7 14 rfl) rfl ?_
  refine hw_iconst (hk.at nm 7 15 rfl) ?_
  refine hw_iadd (hk.at nm 7 16 rfl) ?_
  refine hw_ialdX (hk.at nm 7 17 rfl) (by omega) ?_
  refine hw_aload_n (hk.at nm 7 18 rfl) rfl rfl ?_
  refine hw_iload_n (hk.at nm 7 19 rfl) rfl ?_
  refine hw_iconst (hk.at nm 7 20 rfl) ?_
  refine hw_iadd (hk.at nm 7 21 rfl) ?_
  refine hw_ialdX (hk.at nm 7 22 rfl) (by omega) ?_
  refine hw_callV (hk.at nm 7 23 rfl) y_Model_set ln_Law_76 hM rfl rfl (sz_177 hx1) rfl rfl ⟨Nat.zero_le _, Nat.zero_le _⟩ (fun r s2 g2 hq => ?_)
  obtain ⟨rfl, -, Λ2, hR2⟩ := hq
  refine hw_ieq (tgt := 1160) (hk.at nm 7 24 rfl) rfl ?_
  exact kX _ _ _ _ _ hR2 (by omega)
set_option maxHeartbeats 1000000 in
theorem lw_c15 {cc : ByteArray} (hk : lawOK cc) {nm : String} {b L : Nat} {xs : Nat → Int32} {Λ : Int → List PC} {sh : gS} {g : gM} {mc ms n : Nat} {i : Int} {Q : gQ} (hR : relR Λ sh g) (hi : 0 ≤ i ∧ i + 6 ≤ (L : Int) ∧ i ≤ 4000) (hm : 6 * (n + 1) ≤ mc ∧ 869 * (n + 1) ≤ ms) (kX : ∀ (Λ2 : Int → List PC) (s2 : gS) (g2 : gM) (mc2 ms2 : Nat), relR Λ2 s2 g2 → 6 * n ≤ mc2 ∧ 869 * n ≤ ms2 → gWS (scr b L xs) (f_Law cc nm) 49 mc2 ms2 1160 [(3, 27), (2, 0), (2, 177), (0, i)] [] s2 g2 Q) : gWS (scr b L xs) (f_Law cc nm) 49 mc ms 583 [(3, 27), (2, 0), (2, 177), (0, i)] [] sh g Q := by
  refine hw_aload_n (hk.at nm 7 27 rfl) rfl rfl ?_
  refine hw_aload_n (hk.at nm 7 28 rfl) rfl rfl ?_
  refine hw_iload_n (hk.at nm 7 29 rfl) rfl ?_
  refine hw_iconst (hk.at nm 7 30 rfl) ?_
  refine hw_iadd (hk.at nm 7 31 rfl) ?_
  refine hw_ialdX (hk.at nm 7 32 rfl) (by omega) ?_
  refine hw_aload_n (hk.at nm 7 33 rfl) rfl rfl ?_
  refine hw_iload_n (hk.at nm 7 34 rfl) rfl ?_
  refine hw_iconst (hk.at nm 7 35 rfl) ?_
  refine hw_iadd (hk.at nm 7 36 rfl) ?_
  refine hw_ialdX (hk.at nm 7 37 rfl) (by omega) ?_
  refine hw_callV (hk.at nm 7 38 rfl) y_Desk_shift ln_Law_77 (pr_shift hR _ _ (sv_r _ _) (sv_r _ _)) rfl rfl (sz_0 hR.1.1) rfl rfl ⟨by omega, by omega⟩ (fun r s1 g1 hq => ?_)
  obtain ⟨⟨t, v⟩, rfl, hv, hx1, hM⟩ := hq
  obtain rfl : t = 0 := Nat.le_zero.mp hv
  refine hw_aload_n (hk.at nm 7 39 rfl) rfl rfl ?_
  refine hw_aload_n (hk.at nm 8 0 rfl) rfl rfl ?_
  refine hw_iload_n (hk.at nm 8 1 rfl) rfl ?_
  refine hw_iconst (hk.at nm 8 2 rfl) ?_
  refine hw_iadd (hk.at nm 8 3 rfl) ?_
  refine hw_ialdX (hk.at nm 8 4 rfl) (by omega) ?_
  refine hw_aload_n (hk.at nm 8 5 rfl) rfl rfl ?_
  refine hw_iload_n (hk.at nm 8 6 rfl) rfl ?_
  refine hw_iconst (hk.at nm 8 7 rfl) ?_
  refine hw_iadd (hk.at nm 8 8 rfl) ?_
  refine hw_ialdX (hk.at nm 8 9 rfl) (by omega) ?_
  refine hw_callV (hk.at nm 8 10 rfl) y_Model_shift ln_Law_80 hM rfl rfl (sz_177 hx1) rfl rfl ⟨Nat.zero_le _, Nat.zero_le _⟩ (fun r s2 g2 hq => ?_)
  obtain ⟨rfl, -, Λ2, hR2⟩ := hq
  refine hw_ieq (tgt := 1160) (hk.at nm 8 11 rfl) rfl ?_
  exact kX _ _ _ _ _ hR2 (by omega)
set_option maxHeartbeats 1000000 in
theorem lw_c16 {cc : ByteArray} (hk : lawOK cc) {nm : String} {b L : Nat} {xs : Nat → Int32} {Λ : Int → List PC} {sh : gS} {g : gM} {mc ms n : Nat} {i : Int} {Q : gQ} (hR : relR Λ sh g) (hi : 0 ≤ i ∧ i + 6 ≤ (L : Int) ∧ i ≤ 4000) (hm : 6 * (n + 1) ≤ mc ∧ 869 * (n + 1) ≤ ms) (kX : ∀ (Λ2 : Int → List PC) (s2 : gS) (g2 : gM) (mc2 ms2 : Nat), relR Λ2 s2 g2 → 6 * n ≤ mc2 ∧ 869 * n ≤ ms2 → gWS (scr b L xs) (f_Law cc nm) 49 mc2 ms2 1160 [(3, 27), (2, 0), (2, 177), (0, i)] [] s2 g2 Q) : gWS (scr b L xs) (f_Law cc nm) 49 mc ms 616 [(3, 27), (2, 0), (2, 177), (0, i)] [] sh g Q := by
  refine hw_aload_n (hk.at nm 8 14 rfl) rfl rfl ?_
  refine hw_callV (hk.at nm 8 15 rfl) y_Desk_swap ln_Law_81 (pr_swap hR) rfl rfl (sz_0 hR.1.1) rfl rfl ⟨by omega, by omega⟩ (fun r s1 g1 hq => ?_)
  obtain ⟨⟨t, v⟩, rfl, hv, hx1, hM⟩ := hq
  obtain rfl : t = 0 := Nat.le_zero.mp hv
  refine hw_aload_n (hk.at nm 8 16 rfl) rfl rfl ?_
  refine hw_callV (hk.at nm 8 17 rfl) y_Model_swap ln_Law_84 hM rfl rfl (sz_177 hx1) rfl rfl ⟨Nat.zero_le _, Nat.zero_le _⟩ (fun r s2 g2 hq => ?_)
  obtain ⟨rfl, -, Λ2, hR2⟩ := hq
  refine hw_ieq (tgt := 1160) (hk.at nm 8 18 rfl) rfl ?_
  exact kX _ _ _ _ _ hR2 (by omega)
set_option maxHeartbeats 1000000 in
theorem lw_c17 {cc : ByteArray} (hk : lawOK cc) {nm : String} {b L : Nat} {xs : Nat → Int32} {Λ : Int → List PC} {sh : gS} {g : gM} {mc ms n : Nat} {i : Int} {Q : gQ} (hR : relR Λ sh g) (hi : 0 ≤ i ∧ i + 6 ≤ (L : Int) ∧ i ≤ 4000) (hm : 6 * (n + 1) ≤ mc ∧ 869 * (n + 1) ≤ ms) (kX : ∀ (Λ2 : Int → List PC) (s2 : gS) (g2 : gM) (mc2 ms2 : Nat), relR Λ2 s2 g2 → 6 * n ≤ mc2 ∧ 869 * n ≤ ms2 → gWS (scr b L xs) (f_Law cc nm) 49 mc2 ms2 1160 [(3, 27), (2, 0), (2, 177), (0, i)] [] s2 g2 Q) : gWS (scr b L xs) (f_Law cc nm) 49 mc ms 629 [(3, 27), (2, 0), (2, 177), (0, i)] [] sh g Q := by
  refine hw_aload_n (hk.at nm 8 21 rfl) rfl rfl ?_
  refine hw_callV (hk.at nm 8 22 rfl) y_Desk_pass ln_Law_85 (pr_pass hR) rfl rfl (sz_0 hR.1.1) rfl rfl ⟨by omega, by omega⟩ (fun r s1 g1 hq => ?_)
  obtain ⟨⟨t, v⟩, rfl, hv, hx1, hM⟩ := hq
  obtain rfl : t = 0 := Nat.le_zero.mp hv
  refine hw_aload_n (hk.at nm 8 23 rfl) rfl rfl ?_
  refine hw_callV (hk.at nm 8 24 rfl) y_Model_pass ln_Law_88 hM rfl rfl (sz_177 hx1) rfl rfl ⟨Nat.zero_le _, Nat.zero_le _⟩ (fun r s2 g2 hq => ?_)
  obtain ⟨rfl, -, Λ2, hR2⟩ := hq
  refine hw_ieq (tgt := 1160) (hk.at nm 8 25 rfl) rfl ?_
  exact kX _ _ _ _ _ hR2 (by omega)
set_option maxHeartbeats 1000000 in
theorem lw_c18 {cc : ByteArray} (hk : lawOK cc) {nm : String} {b L : Nat} {xs : Nat → Int32} {Λ : Int → List PC} {sh : gS} {g : gM} {mc ms n : Nat} {i : Int} {Q : gQ} (hR : relR Λ sh g) (hi : 0 ≤ i ∧ i + 6 ≤ (L : Int) ∧ i ≤ 4000) (hm : 6 * (n + 1) ≤ mc ∧ 869 * (n + 1) ≤ ms) (kX : ∀ (Λ2 : Int → List PC) (s2 : gS) (g2 : gM) (mc2 ms2 : Nat), relR Λ2 s2 g2 → 6 * n ≤ mc2 ∧ 869 * n ≤ ms2 → gWS (scr b L xs) (f_Law cc nm) 49 mc2 ms2 1160 [(3, 27), (2, 0), (2, 177), (0, i)] [] s2 g2 Q) : gWS (scr b L xs) (f_Law cc nm) 49 mc ms 642 [(3, 27), (2, 0), (2, 177), (0, i)] [] sh g Q := by
  refine hw_aload_n (hk.at nm 8 28 rfl) rfl rfl ?_
  refine hw_callV (hk.at nm 8 29 rfl) y_Desk_undo ln_Law_89 (pr_undo hR) rfl rfl (sz_0 hR.1.1) rfl rfl ⟨by omega, by omega⟩ (fun r s1 g1 hq => ?_)
  obtain ⟨⟨t, v⟩, rfl, hv, hx1, hM⟩ := hq
  obtain rfl : t = 0 := Nat.le_zero.mp hv
  refine hw_aload_n (hk.at nm 8 30 rfl) rfl rfl ?_
  refine hw_callV (hk.at nm 8 31 rfl) y_Model_undo ln_Law_92 hM rfl rfl (sz_177 hx1) rfl rfl ⟨Nat.zero_le _, Nat.zero_le _⟩ (fun r s2 g2 hq => ?_)
  obtain ⟨rfl, -, Λ2, hR2⟩ := hq
  refine hw_ieq (tgt := 1160) (hk.at nm 8 32 rfl) rfl ?_
  exact kX _ _ _ _ _ hR2 (by omega)
set_option maxHeartbeats 1000000 in
theorem lw_c19 {cc : ByteArray} (hk : lawOK cc) {nm : String} {b L : Nat} {xs : Nat → Int32} {Λ : Int → List PC} {sh : gS} {g : gM} {mc ms n : Nat} {i : Int} {Q : gQ} (hR : relR Λ sh g) (hi : 0 ≤ i ∧ i + 6 ≤ (L : Int) ∧ i ≤ 4000) (hm : 6 * (n + 1) ≤ mc ∧ 869 * (n + 1) ≤ ms) (kX : ∀ (Λ2 : Int → List PC) (s2 : gS) (g2 : gM) (mc2 ms2 : Nat), relR Λ2 s2 g2 → 6 * n ≤ mc2 ∧ 869 * n ≤ ms2 → gWS (scr b L xs) (f_Law cc nm) 49 mc2 ms2 1160 [(3, 27), (2, 0), (2, 177), (0, i)] [] s2 g2 Q) : gWS (scr b L xs) (f_Law cc nm) 49 mc ms 655 [(3, 27), (2, 0), (2, 177), (0, i)] [] sh g Q := by
  refine hw_aload_n (hk.at nm 8 35 rfl) rfl rfl ?_
  refine hw_aload_n (hk.at nm 8 36 rfl) rfl rfl ?_
  refine hw_iload_n (hk.at nm 8 37 rfl) rfl ?_
  refine hw_iconst (hk.at nm 8 38 rfl) ?_
  refine hw_iadd (hk.at nm 8 39 rfl) ?_
  refine hw_ialdX (hk.at nm 9 0 rfl) (by omega) ?_
  refine hw_callV (hk.at nm 9 1 rfl) y_Desk_best ln_Law_93 (pr_best hR _ (sv_r _ _)) rfl rfl (sz_0 hR.1.1) rfl rfl ⟨by omega, by omega⟩ (fun r s1 g1 hq => ?_)
  obtain ⟨⟨t, v⟩, rfl, hv, hx1, hM⟩ := hq
  obtain rfl : t = 0 := Nat.le_zero.mp hv
  refine hw_aload_n (hk.at nm 9 2 rfl) rfl rfl ?_
  refine hw_aload_n (hk.at nm 9 3 rfl) rfl rfl ?_
  refine hw_iload_n (hk.at nm 9 4 rfl) rfl ?_
  refine hw_iconst (hk.at nm 9 5 rfl) ?_
  refine hw_iadd (hk.at nm 9 6 rfl) ?_
  refine hw_ialdX (hk.at nm 9 7 rfl) (by omega) ?_
  refine hw_callV (hk.at nm 9 8 rfl) y_Model_best ln_Law_96 hM rfl rfl (sz_177 hx1) rfl rfl ⟨Nat.zero_le _, Nat.zero_le _⟩ (fun r s2 g2 hq => ?_)
  obtain ⟨rfl, -, Λ2, hR2⟩ := hq
  refine hw_ieq (tgt := 1160) (hk.at nm 9 9 rfl) rfl ?_
  exact kX _ _ _ _ _ hR2 (by omega)
set_option maxHeartbeats 1000000 in
theorem lw_c20 {cc : ByteArray} (hk : lawOK cc) {nm : String} {b L : Nat} {xs : Nat → Int32} {Λ : Int → List PC} {sh : gS} {g : gM} {mc ms n : Nat} {i : Int} {Q : gQ} (hR : relR Λ sh g) (hi : 0 ≤ i ∧ i + 6 ≤ (L : Int) ∧ i ≤ 4000) (hm : 6 * (n + 1) ≤ mc ∧ 869 * (n + 1) ≤ ms) (kX : ∀ (Λ2 : Int → List PC) (s2 : gS) (g2 : gM) (mc2 ms2 : Nat), relR Λ2 s2 g2 → 6 * n ≤ mc2 ∧ 869 * n ≤ ms2 → gWS (scr b L xs) (f_Law cc nm) 49 mc2 ms2 1160 [(3, 27), (2, 0), (2, 177), (0, i)] [] s2 g2 Q) : gWS (scr b L xs) (f_Law cc nm) 49 mc ms 678 [(3, 27), (2, 0), (2, 177), (0, i)] [] sh g Q := by
  refine hw_aload_n (hk.at nm 9 12 rfl) rfl rfl ?_
  refine hw_aload_n (hk.at nm 9 13 rfl) rfl rfl ?_
  refine hw_iload_n (hk.at nm 9 14 rfl) rfl ?_
  refine hw_iconst (hk.at nm 9 15 rfl) ?_
  refine hw_iadd (hk.at nm 9 16 rfl) ?_
  refine hw_ialdX (hk.at nm 9 17 rfl) (by omega) ?_
  refine hw_aload_n (hk.at nm 9 18 rfl) rfl rfl ?_
  refine hw_iload_n (hk.at nm 9 19 rfl) rfl ?_
  refine hw_iconst (hk.at nm 9 20 rfl) ?_
  refine hw_iadd (hk.at nm 9 21 rfl) ?_
  refine hw_ialdX (hk.at nm 9 22 rfl) (by omega) ?_
  refine hw_callV (hk.at nm 9 23 rfl) y_Desk_between ln_Law_97 (pr_between hR _ _ (sv_r _ _) (sv_r _ _)) rfl rfl (sz_0 hR.1.1) rfl rfl ⟨by omega, by omega⟩ (fun r s1 g1 hq => ?_)
  obtain ⟨⟨t, v⟩, rfl, hv, hx1, hM⟩ := hq
  obtain rfl : t = 0 := Nat.le_zero.mp hv
  refine hw_aload_n (hk.at nm 9 24 rfl) rfl rfl ?_
  refine hw_aload_n (hk.at nm 9 25 rfl) rfl rfl ?_
  refine hw_iload_n (hk.at nm 9 26 rfl) rfl ?_
  refine hw_iconst (hk.at nm 9 27 rfl) ?_
  refine hw_iadd (hk.at nm 9 28 rfl) ?_
  refine hw_ialdX (hk.at nm 9 29 rfl) (by omega) ?_
  refine hw_aload_n (hk.at nm 9 30 rfl) rfl rfl ?_
  refine hw_iload_n (hk.at nm 9 31 rfl) rfl ?_
  refine hw_iconst (hk.at nm 9 32 rfl) ?_
  refine hw_iadd (hk.at nm 9 33 rfl) ?_
  refine hw_ialdX (hk.at nm 9 34 rfl) (by omega) ?_
  refine hw_callV (hk.at nm 9 35 rfl) y_Model_between ln_Law_100 hM rfl rfl (sz_177 hx1) rfl rfl ⟨Nat.zero_le _, Nat.zero_le _⟩ (fun r s2 g2 hq => ?_)
  obtain ⟨rfl, -, Λ2, hR2⟩ := hq
  refine hw_ieq (tgt := 1160) (hk.at nm 9 36 rfl) rfl ?_
  exact kX _ _ _ _ _ hR2 (by omega)
set_option maxHeartbeats 1000000 in
theorem lw_c21 {cc : ByteArray} (hk : lawOK cc) {nm : String} {b L : Nat} {xs : Nat → Int32} {Λ : Int → List PC} {sh : gS} {g : gM} {mc ms n : Nat} {i : Int} {Q : gQ} (hR : relR Λ sh g) (hi : 0 ≤ i ∧ i + 6 ≤ (L : Int) ∧ i ≤ 4000) (hm : 6 * (n + 1) ≤ mc ∧ 869 * (n + 1) ≤ ms) (kX : ∀ (Λ2 : Int → List PC) (s2 : gS) (g2 : gM) (mc2 ms2 : Nat), relR Λ2 s2 g2 → 6 * n ≤ mc2 ∧ 869 * n ≤ ms2 → gWS (scr b L xs) (f_Law cc nm) 49 mc2 ms2 1160 [(3, 27), (2, 0), (2, 177), (0, i)] [] s2 g2 Q) : gWS (scr b L xs) (f_Law cc nm) 49 mc ms 711 [(3, 27), (2, 0), (2, 177), (0, i)] [] sh g Q := by
  refine hw_aload_n (hk.at nm 9 39 rfl) rfl rfl ?_
  refine hw_callV (hk.at nm 10 0 rfl) y_Desk_richest ln_Law_101 (pr_richest hR) rfl rfl (sz_0 hR.1.1) rfl rfl ⟨by omega, by omega⟩ (fun r s1 g1 hq => ?_)
  obtain ⟨⟨t, v⟩, rfl, hv, hx1, hM⟩ := hq
  obtain rfl : t = 0 := Nat.le_zero.mp hv
  refine hw_aload_n (hk.at nm 10 1 rfl) rfl rfl ?_
  refine hw_callV (hk.at nm 10 2 rfl) y_Model_richest ln_Law_104 hM rfl rfl (sz_177 hx1) rfl rfl ⟨Nat.zero_le _, Nat.zero_le _⟩ (fun r s2 g2 hq => ?_)
  obtain ⟨rfl, -, Λ2, hR2⟩ := hq
  refine hw_ieq (tgt := 1160) (hk.at nm 10 3 rfl) rfl ?_
  exact kX _ _ _ _ _ hR2 (by omega)
set_option maxHeartbeats 1000000 in
theorem lw_c22 {cc : ByteArray} (hk : lawOK cc) {nm : String} {b L : Nat} {xs : Nat → Int32} {Λ : Int → List PC} {sh : gS} {g : gM} {mc ms n : Nat} {i : Int} {Q : gQ} (hR : relR Λ sh g) (hi : 0 ≤ i ∧ i + 6 ≤ (L : Int) ∧ i ≤ 4000) (hm : 6 * (n + 1) ≤ mc ∧ 869 * (n + 1) ≤ ms) (kX : ∀ (Λ2 : Int → List PC) (s2 : gS) (g2 : gM) (mc2 ms2 : Nat), relR Λ2 s2 g2 → 6 * n ≤ mc2 ∧ 869 * n ≤ ms2 → gWS (scr b L xs) (f_Law cc nm) 49 mc2 ms2 1160 [(3, 27), (2, 0), (2, 177), (0, i)] [] s2 g2 Q) : gWS (scr b L xs) (f_Law cc nm) 49 mc ms 724 [(3, 27), (2, 0), (2, 177), (0, i)] [] sh g Q := by
  refine hw_aload_n (hk.at nm 10 6 rfl) rfl rfl ?_
  refine hw_callV (hk.at nm 10 7 rfl) y_Desk_ways ln_Law_105 (prL_ways hR) rfl rfl (sz_0 hR.1.1) rfl rfl ⟨by omega, by omega⟩ (fun r s1 g1 hq => ?_)
  obtain ⟨v, rfl, hx1, hM⟩ := hq
  refine hw_aload_n (hk.at nm 10 8 rfl) rfl rfl ?_
  refine hw_callV (hk.at nm 10 9 rfl) y_Model_ways ln_Law_109 hM rfl rfl (sz_177 hx1) rfl rfl ⟨Nat.zero_le _, Nat.zero_le _⟩ (fun r s2 g2 hq => ?_)
  obtain ⟨rfl, -, Λ2, hR2⟩ := hq
  refine hw_leq (tgt := 1160) (hk.at nm 10 10 rfl) (hk.at nm 10 11 rfl) rfl ?_
  exact kX _ _ _ _ _ hR2 (by omega)
set_option maxHeartbeats 1000000 in
theorem lw_c23 {cc : ByteArray} (hk : lawOK cc) {nm : String} {b L : Nat} {xs : Nat → Int32} {Λ : Int → List PC} {sh : gS} {g : gM} {mc ms n : Nat} {i : Int} {Q : gQ} (hR : relR Λ sh g) (hi : 0 ≤ i ∧ i + 6 ≤ (L : Int) ∧ i ≤ 4000) (hm : 6 * (n + 1) ≤ mc ∧ 869 * (n + 1) ≤ ms) (kX : ∀ (Λ2 : Int → List PC) (s2 : gS) (g2 : gM) (mc2 ms2 : Nat), relR Λ2 s2 g2 → 6 * n ≤ mc2 ∧ 869 * n ≤ ms2 → gWS (scr b L xs) (f_Law cc nm) 49 mc2 ms2 1160 [(3, 27), (2, 0), (2, 177), (0, i)] [] s2 g2 Q) : gWS (scr b L xs) (f_Law cc nm) 49 mc ms 738 [(3, 27), (2, 0), (2, 177), (0, i)] [] sh g Q := by
  refine hw_aload_n (hk.at nm 10 14 rfl) rfl rfl ?_
  refine hw_aload_n (hk.at nm 10 15 rfl) rfl rfl ?_
  refine hw_iload_n (hk.at nm 10 16 rfl) rfl ?_
  refine hw_iconst (hk.at nm 10 17 rfl) ?_
  refine hw_iadd (hk.at nm 10 18 rfl) ?_
  refine hw_ialdX (hk.at nm 10 19 rfl) (by omega) ?_
  refine hw_callV (hk.at nm 10 20 rfl) y_Desk_mend ln_Law_110 (pr_mend hR _ (sv_r _ _)) rfl rfl (sz_0 hR.1.1) rfl rfl ⟨by omega, by omega⟩ (fun r s1 g1 hq => ?_)
  obtain ⟨⟨t, v⟩, rfl, hv, hx1, hM⟩ := hq
  obtain rfl : t = 0 := Nat.le_zero.mp hv
  refine hw_aload_n (hk.at nm 10 21 rfl) rfl rfl ?_
  refine hw_aload_n (hk.at nm 10 22 rfl) rfl rfl ?_
  refine hw_iload_n (hk.at nm 10 23 rfl) rfl ?_
  refine hw_iconst (hk.at nm 10 24 rfl) ?_
  refine hw_iadd (hk.at nm 10 25 rfl) ?_
  refine hw_ialdX (hk.at nm 10 26 rfl) (by omega) ?_
  refine hw_callV (hk.at nm 10 27 rfl) y_Model_mend ln_Law_113 hM rfl rfl (sz_177 hx1) rfl rfl ⟨Nat.zero_le _, Nat.zero_le _⟩ (fun r s2 g2 hq => ?_)
  obtain ⟨rfl, -, Λ2, hR2⟩ := hq
  refine hw_ieq (tgt := 1160) (hk.at nm 10 28 rfl) rfl ?_
  exact kX _ _ _ _ _ hR2 (by omega)
set_option maxHeartbeats 1000000 in
theorem lw_c24 {cc : ByteArray} (hk : lawOK cc) {nm : String} {b L : Nat} {xs : Nat → Int32} {Λ : Int → List PC} {sh : gS} {g : gM} {mc ms n : Nat} {i : Int} {Q : gQ} (hR : relR Λ sh g) (hi : 0 ≤ i ∧ i + 6 ≤ (L : Int) ∧ i ≤ 4000) (hm : 6 * (n + 1) ≤ mc ∧ 869 * (n + 1) ≤ ms) (kX : ∀ (Λ2 : Int → List PC) (s2 : gS) (g2 : gM) (mc2 ms2 : Nat), relR Λ2 s2 g2 → 6 * n ≤ mc2 ∧ 869 * n ≤ ms2 → gWS (scr b L xs) (f_Law cc nm) 49 mc2 ms2 1160 [(3, 27), (2, 0), (2, 177), (0, i)] [] s2 g2 Q) : gWS (scr b L xs) (f_Law cc nm) 49 mc ms 761 [(3, 27), (2, 0), (2, 177), (0, i)] [] sh g Q := by
  refine hw_aload_n (hk.at nm 10 31 rfl) rfl rfl ?_
  refine hw_aload_n (hk.at nm 10 32 rfl) rfl rfl ?_
  refine hw_iload_n (hk.at nm 10 33 rfl) rfl ?_
  refine hw_iconst (hk.at nm 10 34 rfl) ?_
  refine hw_iadd (hk.at nm 10 35 rfl) ?_
  refine hw_ialdX (hk.at nm 10 36 rfl) (by omega) ?_
  refine hw_callV (hk.at nm 10 37 rfl) y_Desk_compass ln_Law_114 (pr_compass hR _ (sv_r _ _)) rfl rfl (sz_0 hR.1.1) rfl rfl ⟨by omega, by omega⟩ (fun r s1 g1 hq => ?_)
  obtain ⟨⟨t, v⟩, rfl, hv, hx1, hM⟩ := hq
  obtain rfl : t = 0 := Nat.le_zero.mp hv
  refine hw_aload_n (hk.at nm 10 38 rfl) rfl rfl ?_
  refine hw_aload_n (hk.at nm 10 39 rfl) rfl rfl ?_
  refine hw_iload_n (hk.at nm 11 0 rfl) rfl ?_
  refine hw_iconst (hk.at nm 11 1 rfl) ?_
  refine hw_iadd (hk.at nm 11 2 rfl) ?_
  refine hw_ialdX (hk.at nm 11 3 rfl) (by omega) ?_
  refine hw_callV (hk.at nm 11 4 rfl) y_Model_compass ln_Law_117 hM rfl rfl (sz_177 hx1) rfl rfl ⟨Nat.zero_le _, Nat.zero_le _⟩ (fun r s2 g2 hq => ?_)
  obtain ⟨rfl, -, Λ2, hR2⟩ := hq
  refine hw_ieq (tgt := 1160) (hk.at nm 11 5 rfl) rfl ?_
  exact kX _ _ _ _ _ hR2 (by omega)
set_option maxHeartbeats 1000000 in
theorem lw_c25 {cc : ByteArray} (hk : lawOK cc) {nm : String} {b L : Nat} {xs : Nat → Int32} {Λ : Int → List PC} {sh : gS} {g : gM} {mc ms n : Nat} {i : Int} {Q : gQ} (hR : relR Λ sh g) (hi : 0 ≤ i ∧ i + 6 ≤ (L : Int) ∧ i ≤ 4000) (hm : 6 * (n + 1) ≤ mc ∧ 869 * (n + 1) ≤ ms) (kX : ∀ (Λ2 : Int → List PC) (s2 : gS) (g2 : gM) (mc2 ms2 : Nat), relR Λ2 s2 g2 → 6 * n ≤ mc2 ∧ 869 * n ≤ ms2 → gWS (scr b L xs) (f_Law cc nm) 49 mc2 ms2 1160 [(3, 27), (2, 0), (2, 177), (0, i)] [] s2 g2 Q) : gWS (scr b L xs) (f_Law cc nm) 49 mc ms 784 [(3, 27), (2, 0), (2, 177), (0, i)] [] sh g Q := by
  refine hw_aload_n (hk.at nm 11 8 rfl) rfl rfl ?_
  refine hw_aload_n (hk.at nm 11 9 rfl) rfl rfl ?_
  refine hw_iload_n (hk.at nm 11 10 rfl) rfl ?_
  refine hw_iconst (hk.at nm 11 11 rfl) ?_
  refine hw_iadd (hk.at nm 11 12 rfl) ?_
  refine hw_ialdX (hk.at nm 11 13 rfl) (by omega) ?_
  refine hw_aload_n (hk.at nm 11 14 rfl) rfl rfl ?_
  refine hw_iload_n (hk.at nm 11 15 rfl) rfl ?_
  refine hw_iconst (hk.at nm 11 16 rfl) ?_
  refine hw_iadd (hk.at nm 11 17 rfl) ?_
  refine hw_ialdX (hk.at nm 11 18 rfl) (by omega) ?_
  refine hw_callV (hk.at nm 11 19 rfl) y_Desk_cheapest ln_Law_118 (pr_cheapest hR _ _ (sv_r _ _) (sv_r _ _)) rfl rfl (sz_0 hR.1.1) rfl rfl ⟨by omega, by omega⟩ (fun r s1 g1 hq => ?_)
  obtain ⟨⟨t, v⟩, rfl, hv, hx1, hM⟩ := hq
  obtain rfl : t = 0 := Nat.le_zero.mp hv
  refine hw_aload_n (hk.at nm 11 20 rfl) rfl rfl ?_
  refine hw_aload_n (hk.at nm 11 21 rfl) rfl rfl ?_
  refine hw_iload_n (hk.at nm 11 22 rfl) rfl ?_
  refine hw_iconst (hk.at nm 11 23 rfl) ?_
  refine hw_iadd (hk.at nm 11 24 rfl) ?_
  refine hw_ialdX (hk.at nm 11 25 rfl) (by omega) ?_
  refine hw_aload_n (hk.at nm 11 26 rfl) rfl rfl ?_
  refine hw_iload_n (hk.at nm 11 27 rfl) rfl ?_
  refine hw_iconst (hk.at nm 11 28 rfl) ?_
  refine hw_iadd (hk.at nm 11 29 rfl) ?_
  refine hw_ialdX (hk.at nm 11 30 rfl) (by omega) ?_
  refine hw_callV (hk.at nm 11 31 rfl) y_Model_cheapest ln_Law_121 hM rfl rfl (sz_177 hx1) rfl rfl ⟨Nat.zero_le _, Nat.zero_le _⟩ (fun r s2 g2 hq => ?_)
  obtain ⟨rfl, -, Λ2, hR2⟩ := hq
  refine hw_ieq (tgt := 1160) (hk.at nm 11 32 rfl) rfl ?_
  exact kX _ _ _ _ _ hR2 (by omega)
set_option maxHeartbeats 1000000 in
theorem lw_c26 {cc : ByteArray} (hk : lawOK cc) {nm : String} {b L : Nat} {xs : Nat → Int32} {Λ : Int → List PC} {sh : gS} {g : gM} {mc ms n : Nat} {i : Int} {Q : gQ} (hR : relR Λ sh g) (hi : 0 ≤ i ∧ i + 6 ≤ (L : Int) ∧ i ≤ 4000) (hm : 6 * (n + 1) ≤ mc ∧ 869 * (n + 1) ≤ ms) (kX : ∀ (Λ2 : Int → List PC) (s2 : gS) (g2 : gM) (mc2 ms2 : Nat), relR Λ2 s2 g2 → 6 * n ≤ mc2 ∧ 869 * n ≤ ms2 → gWS (scr b L xs) (f_Law cc nm) 49 mc2 ms2 1160 [(3, 27), (2, 0), (2, 177), (0, i)] [] s2 g2 Q) : gWS (scr b L xs) (f_Law cc nm) 49 mc ms 817 [(3, 27), (2, 0), (2, 177), (0, i)] [] sh g Q := by
  refine hw_aload_n (hk.at nm 11 35 rfl) rfl rfl ?_
  refine hw_aload_n (hk.at nm 11 36 rfl) rfl rfl ?_
  refine hw_iload_n (hk.at nm 11 37 rfl) rfl ?_
  refine hw_iconst (hk.at nm 11 38 rfl) ?_
  refine hw_iadd (hk.at nm 11 39 rfl) ?_
  refine hw_ialdX (hk.at nm 12 0 rfl) (by omega) ?_
  refine hw_aload_n (hk.at nm 12 1 rfl) rfl rfl ?_
  refine hw_iload_n (hk.at nm 12 2 rfl) rfl ?_
  refine hw_iconst (hk.at nm 12 3 rfl) ?_
  refine hw_iadd (hk.at nm 12 4 rfl) ?_
  refine hw_ialdX (hk.at nm 12 5 rfl) (by omega) ?_
  refine hw_callV (hk.at nm 12 6 rfl) y_Desk_canon ln_Law_122 (pr_canon hR _ _ (sv_r _ _) (sv_r _ _)) rfl rfl (sz_0 hR.1.1) rfl rfl ⟨by omega, by omega⟩ (fun r s1 g1 hq => ?_)
  obtain ⟨⟨t, v⟩, rfl, hv, hx1, hM⟩ := hq
  obtain rfl : t = 0 := Nat.le_zero.mp hv
  refine hw_aload_n (hk.at nm 12 7 rfl) rfl rfl ?_
  refine hw_aload_n (hk.at nm 12 8 rfl) rfl rfl ?_
  refine hw_iload_n (hk.at nm 12 9 rfl) rfl ?_
  refine hw_iconst (hk.at nm 12 10 rfl) ?_
  refine hw_iadd (hk.at nm 12 11 rfl) ?_
  refine hw_ialdX (hk.at nm 12 12 rfl) (by omega) ?_
  refine hw_aload_n (hk.at nm 12 13 rfl) rfl rfl ?_
  refine hw_iload_n (hk.at nm 12 14 rfl) rfl ?_
  refine hw_iconst (hk.at nm 12 15 rfl) ?_
  refine hw_iadd (hk.at nm 12 16 rfl) ?_
  refine hw_ialdX (hk.at nm 12 17 rfl) (by omega) ?_
  refine hw_callV (hk.at nm 12 18 rfl) y_Model_canon ln_Law_125 hM rfl rfl (sz_177 hx1) rfl rfl ⟨Nat.zero_le _, Nat.zero_le _⟩ (fun r s2 g2 hq => ?_)
  obtain ⟨rfl, -, Λ2, hR2⟩ := hq
  refine hw_ieq (tgt := 1160) (hk.at nm 12 19 rfl) rfl ?_
  exact kX _ _ _ _ _ hR2 (by omega)
set_option maxHeartbeats 1000000 in
theorem lw_c27 {cc : ByteArray} (hk : lawOK cc) {nm : String} {b L : Nat} {xs : Nat → Int32} {Λ : Int → List PC} {sh : gS} {g : gM} {mc ms n : Nat} {i : Int} {Q : gQ} (hR : relR Λ sh g) (hi : 0 ≤ i ∧ i + 6 ≤ (L : Int) ∧ i ≤ 4000) (hm : 6 * (n + 1) ≤ mc ∧ 869 * (n + 1) ≤ ms) (kX : ∀ (Λ2 : Int → List PC) (s2 : gS) (g2 : gM) (mc2 ms2 : Nat), relR Λ2 s2 g2 → 6 * n ≤ mc2 ∧ 869 * n ≤ ms2 → gWS (scr b L xs) (f_Law cc nm) 49 mc2 ms2 1160 [(3, 27), (2, 0), (2, 177), (0, i)] [] s2 g2 Q) : gWS (scr b L xs) (f_Law cc nm) 49 mc ms 850 [(3, 27), (2, 0), (2, 177), (0, i)] [] sh g Q := by
  refine hw_aload_n (hk.at nm 12 22 rfl) rfl rfl ?_
  refine hw_aload_n (hk.at nm 12 23 rfl) rfl rfl ?_
  refine hw_iload_n (hk.at nm 12 24 rfl) rfl ?_
  refine hw_iconst (hk.at nm 12 25 rfl) ?_
  refine hw_iadd (hk.at nm 12 26 rfl) ?_
  refine hw_ialdX (hk.at nm 12 27 rfl) (by omega) ?_
  refine hw_callV (hk.at nm 12 28 rfl) y_Desk_parallels ln_Law_126 (pr_parallels hR _ (sv_r _ _)) rfl rfl (sz_0 hR.1.1) rfl rfl ⟨by omega, by omega⟩ (fun r s1 g1 hq => ?_)
  obtain ⟨⟨t, v⟩, rfl, hv, hx1, hM⟩ := hq
  obtain rfl : t = 0 := Nat.le_zero.mp hv
  refine hw_aload_n (hk.at nm 12 29 rfl) rfl rfl ?_
  refine hw_aload_n (hk.at nm 12 30 rfl) rfl rfl ?_
  refine hw_iload_n (hk.at nm 12 31 rfl) rfl ?_
  refine hw_iconst (hk.at nm 12 32 rfl) ?_
  refine hw_iadd (hk.at nm 12 33 rfl) ?_
  refine hw_ialdX (hk.at nm 12 34 rfl) (by omega) ?_
  refine hw_callV (hk.at nm 12 35 rfl) y_Model_parallels ln_Law_129 hM rfl rfl (sz_177 hx1) rfl rfl ⟨Nat.zero_le _, Nat.zero_le _⟩ (fun r s2 g2 hq => ?_)
  obtain ⟨rfl, -, Λ2, hR2⟩ := hq
  refine hw_ieq (tgt := 1160) (hk.at nm 12 36 rfl) rfl ?_
  exact kX _ _ _ _ _ hR2 (by omega)
set_option maxHeartbeats 1000000 in
theorem lw_c28 {cc : ByteArray} (hk : lawOK cc) {nm : String} {b L : Nat} {xs : Nat → Int32} {Λ : Int → List PC} {sh : gS} {g : gM} {mc ms n : Nat} {i : Int} {Q : gQ} (hR : relR Λ sh g) (hi : 0 ≤ i ∧ i + 6 ≤ (L : Int) ∧ i ≤ 4000) (hm : 6 * (n + 1) ≤ mc ∧ 869 * (n + 1) ≤ ms) (kX : ∀ (Λ2 : Int → List PC) (s2 : gS) (g2 : gM) (mc2 ms2 : Nat), relR Λ2 s2 g2 → 6 * n ≤ mc2 ∧ 869 * n ≤ ms2 → gWS (scr b L xs) (f_Law cc nm) 49 mc2 ms2 1160 [(3, 27), (2, 0), (2, 177), (0, i)] [] s2 g2 Q) : gWS (scr b L xs) (f_Law cc nm) 49 mc ms 873 [(3, 27), (2, 0), (2, 177), (0, i)] [] sh g Q := by
  refine hw_aload_n (hk.at nm 12 39 rfl) rfl rfl ?_
  refine hw_aload_n (hk.at nm 13 0 rfl) rfl rfl ?_
  refine hw_iload_n (hk.at nm 13 1 rfl) rfl ?_
  refine hw_iconst (hk.at nm 13 2 rfl) ?_
  refine hw_iadd (hk.at nm 13 3 rfl) ?_
  refine hw_ialdX (hk.at nm 13 4 rfl) (by omega) ?_
  refine hw_aload_n (hk.at nm 13 5 rfl) rfl rfl ?_
  refine hw_iload_n (hk.at nm 13 6 rfl) rfl ?_
  refine hw_iconst (hk.at nm 13 7 rfl) ?_
  refine hw_iadd (hk.at nm 13 8 rfl) ?_
  refine hw_ialdX (hk.at nm 13 9 rfl) (by omega) ?_
  refine hw_callV (hk.at nm 13 10 rfl) y_Desk_heard ln_Law_130 (pr_heard hR _ _ (sv_r _ _) (sv_r _ _)) rfl rfl (sz_0 hR.1.1) rfl rfl ⟨by omega, by omega⟩ (fun r s1 g1 hq => ?_)
  obtain ⟨⟨t, v⟩, rfl, hv, hx1, hM⟩ := hq
  obtain rfl : t = 0 := Nat.le_zero.mp hv
  refine hw_aload_n (hk.at nm 13 11 rfl) rfl rfl ?_
  refine hw_aload_n (hk.at nm 13 12 rfl) rfl rfl ?_
  refine hw_iload_n (hk.at nm 13 13 rfl) rfl ?_
  refine hw_iconst (hk.at nm 13 14 rfl) ?_
  refine hw_iadd (hk.at nm 13 15 rfl) ?_
  refine hw_ialdX (hk.at nm 13 16 rfl) (by omega) ?_
  refine hw_aload_n (hk.at nm 13 17 rfl) rfl rfl ?_
  refine hw_iload_n (hk.at nm 13 18 rfl) rfl ?_
  refine hw_iconst (hk.at nm 13 19 rfl) ?_
  refine hw_iadd (hk.at nm 13 20 rfl) ?_
  refine hw_ialdX (hk.at nm 13 21 rfl) (by omega) ?_
  refine hw_callV (hk.at nm 13 22 rfl) y_Model_heard ln_Law_133 hM rfl rfl (sz_177 hx1) rfl rfl ⟨Nat.zero_le _, Nat.zero_le _⟩ (fun r s2 g2 hq => ?_)
  obtain ⟨rfl, -, Λ2, hR2⟩ := hq
  refine hw_ieq (tgt := 1160) (hk.at nm 13 23 rfl) rfl ?_
  exact kX _ _ _ _ _ hR2 (by omega)
set_option maxHeartbeats 1000000 in
theorem lw_c29 {cc : ByteArray} (hk : lawOK cc) {nm : String} {b L : Nat} {xs : Nat → Int32} {Λ : Int → List PC} {sh : gS} {g : gM} {mc ms n : Nat} {i : Int} {Q : gQ} (hR : relR Λ sh g) (hi : 0 ≤ i ∧ i + 6 ≤ (L : Int) ∧ i ≤ 4000) (hm : 6 * (n + 1) ≤ mc ∧ 869 * (n + 1) ≤ ms) (kX : ∀ (Λ2 : Int → List PC) (s2 : gS) (g2 : gM) (mc2 ms2 : Nat), relR Λ2 s2 g2 → 6 * n ≤ mc2 ∧ 869 * n ≤ ms2 → gWS (scr b L xs) (f_Law cc nm) 49 mc2 ms2 1160 [(3, 27), (2, 0), (2, 177), (0, i)] [] s2 g2 Q) : gWS (scr b L xs) (f_Law cc nm) 49 mc ms 906 [(3, 27), (2, 0), (2, 177), (0, i)] [] sh g Q := by
  refine hw_aload_n (hk.at nm 13 26 rfl) rfl rfl ?_
  refine hw_callV (hk.at nm 13 27 rfl) y_Desk_forget ln_Law_134 (pr_forget hR) rfl rfl (sz_0 hR.1.1) rfl rfl ⟨by omega, by omega⟩ (fun r s1 g1 hq => ?_)
  obtain ⟨⟨t, v⟩, rfl, hv, hx1, hM⟩ := hq
  obtain rfl : t = 0 := Nat.le_zero.mp hv
  refine hw_aload_n (hk.at nm 13 28 rfl) rfl rfl ?_
  refine hw_callV (hk.at nm 13 29 rfl) y_Model_forget ln_Law_137 hM rfl rfl (sz_177 hx1) rfl rfl ⟨Nat.zero_le _, Nat.zero_le _⟩ (fun r s2 g2 hq => ?_)
  obtain ⟨rfl, -, Λ2, hR2⟩ := hq
  refine hw_ieq (tgt := 1160) (hk.at nm 13 30 rfl) rfl ?_
  exact kX _ _ _ _ _ hR2 (by omega)
set_option maxHeartbeats 1000000 in
theorem lw_c30 {cc : ByteArray} (hk : lawOK cc) {nm : String} {b L : Nat} {xs : Nat → Int32} {Λ : Int → List PC} {sh : gS} {g : gM} {mc ms n : Nat} {i : Int} {Q : gQ} (hR : relR Λ sh g) (hi : 0 ≤ i ∧ i + 6 ≤ (L : Int) ∧ i ≤ 4000) (hm : 6 * (n + 1) ≤ mc ∧ 869 * (n + 1) ≤ ms) (kX : ∀ (Λ2 : Int → List PC) (s2 : gS) (g2 : gM) (mc2 ms2 : Nat), relR Λ2 s2 g2 → 6 * n ≤ mc2 ∧ 869 * n ≤ ms2 → gWS (scr b L xs) (f_Law cc nm) 49 mc2 ms2 1160 [(3, 27), (2, 0), (2, 177), (0, i)] [] s2 g2 Q) : gWS (scr b L xs) (f_Law cc nm) 49 mc ms 919 [(3, 27), (2, 0), (2, 177), (0, i)] [] sh g Q := by
  refine hw_aload_n (hk.at nm 13 33 rfl) rfl rfl ?_
  refine hw_callV (hk.at nm 13 34 rfl) y_Desk_canBe ln_Law_138 (pr_canBe hR) rfl rfl (sz_0 hR.1.1) rfl rfl ⟨by omega, by omega⟩ (fun r s1 g1 hq => ?_)
  obtain ⟨⟨t, v⟩, rfl, hv, hx1, hM⟩ := hq
  obtain rfl : t = 0 := Nat.le_zero.mp hv
  refine hw_aload_n (hk.at nm 13 35 rfl) rfl rfl ?_
  refine hw_callV (hk.at nm 13 36 rfl) y_Model_canBe ln_Law_141 hM rfl rfl (sz_177 hx1) rfl rfl ⟨Nat.zero_le _, Nat.zero_le _⟩ (fun r s2 g2 hq => ?_)
  obtain ⟨rfl, -, Λ2, hR2⟩ := hq
  refine hw_ieq (tgt := 1160) (hk.at nm 13 37 rfl) rfl ?_
  exact kX _ _ _ _ _ hR2 (by omega)
set_option maxHeartbeats 1000000 in
theorem lw_c31 {cc : ByteArray} (hk : lawOK cc) {nm : String} {b L : Nat} {xs : Nat → Int32} {Λ : Int → List PC} {sh : gS} {g : gM} {mc ms n : Nat} {i : Int} {Q : gQ} (hR : relR Λ sh g) (hi : 0 ≤ i ∧ i + 6 ≤ (L : Int) ∧ i ≤ 4000) (hm : 6 * (n + 1) ≤ mc ∧ 869 * (n + 1) ≤ ms) (kX : ∀ (Λ2 : Int → List PC) (s2 : gS) (g2 : gM) (mc2 ms2 : Nat), relR Λ2 s2 g2 → 6 * n ≤ mc2 ∧ 869 * n ≤ ms2 → gWS (scr b L xs) (f_Law cc nm) 49 mc2 ms2 1160 [(3, 27), (2, 0), (2, 177), (0, i)] [] s2 g2 Q) : gWS (scr b L xs) (f_Law cc nm) 49 mc ms 932 [(3, 27), (2, 0), (2, 177), (0, i)] [] sh g Q := by
  refine hw_aload_n (hk.at nm 14 0 rfl) rfl rfl ?_
  refine hw_aload_n (hk.at nm 14 1 rfl) rfl rfl ?_
  refine hw_iload_n (hk.at nm 14 2 rfl) rfl ?_
  refine hw_iconst (hk.at nm 14 3 rfl) ?_
  refine hw_iadd (hk.at nm 14 4 rfl) ?_
  refine hw_ialdX (hk.at nm 14 5 rfl) (by omega) ?_
  refine hw_callV (hk.at nm 14 6 rfl) y_Desk_listen ln_Law_142 (pr_listen hR _ (sv_r _ _)) rfl rfl (sz_0 hR.1.1) rfl rfl ⟨by omega, by omega⟩ (fun r s1 g1 hq => ?_)
  obtain ⟨⟨t, v⟩, rfl, hv, hx1, hM⟩ := hq
  obtain rfl : t = 0 := Nat.le_zero.mp hv
  refine hw_aload_n (hk.at nm 14 7 rfl) rfl rfl ?_
  refine hw_aload_n (hk.at nm 14 8 rfl) rfl rfl ?_
  refine hw_iload_n (hk.at nm 14 9 rfl) rfl ?_
  refine hw_iconst (hk.at nm 14 10 rfl) ?_
  refine hw_iadd (hk.at nm 14 11 rfl) ?_
  refine hw_ialdX (hk.at nm 14 12 rfl) (by omega) ?_
  refine hw_callV (hk.at nm 14 13 rfl) y_Model_listen ln_Law_145 hM rfl rfl (sz_177 hx1) rfl rfl ⟨Nat.zero_le _, Nat.zero_le _⟩ (fun r s2 g2 hq => ?_)
  obtain ⟨rfl, -, Λ2, hR2⟩ := hq
  refine hw_ieq (tgt := 1160) (hk.at nm 14 14 rfl) rfl ?_
  exact kX _ _ _ _ _ hR2 (by omega)
set_option maxHeartbeats 1000000 in
theorem lw_c32 {cc : ByteArray} (hk : lawOK cc) {nm : String} {b L : Nat} {xs : Nat → Int32} {Λ : Int → List PC} {sh : gS} {g : gM} {mc ms n : Nat} {i : Int} {Q : gQ} (hR : relR Λ sh g) (hi : 0 ≤ i ∧ i + 6 ≤ (L : Int) ∧ i ≤ 4000) (hm : 6 * (n + 1) ≤ mc ∧ 869 * (n + 1) ≤ ms) (kX : ∀ (Λ2 : Int → List PC) (s2 : gS) (g2 : gM) (mc2 ms2 : Nat), relR Λ2 s2 g2 → 6 * n ≤ mc2 ∧ 869 * n ≤ ms2 → gWS (scr b L xs) (f_Law cc nm) 49 mc2 ms2 1160 [(3, 27), (2, 0), (2, 177), (0, i)] [] s2 g2 Q) : gWS (scr b L xs) (f_Law cc nm) 49 mc ms 955 [(3, 27), (2, 0), (2, 177), (0, i)] [] sh g Q := by
  refine hw_aload_n (hk.at nm 14 17 rfl) rfl rfl ?_
  refine hw_aload_n (hk.at nm 14 18 rfl) rfl rfl ?_
  refine hw_iload_n (hk.at nm 14 19 rfl) rfl ?_
  refine hw_iconst (hk.at nm 14 20 rfl) ?_
  refine hw_iadd (hk.at nm 14 21 rfl) ?_
  refine hw_ialdX (hk.at nm 14 22 rfl) (by omega) ?_
  refine hw_aload_n (hk.at nm 14 23 rfl) rfl rfl ?_
  refine hw_iload_n (hk.at nm 14 24 rfl) rfl ?_
  refine hw_iconst (hk.at nm 14 25 rfl) ?_
  refine hw_iadd (hk.at nm 14 26 rfl) ?_
  refine hw_ialdX (hk.at nm 14 27 rfl) (by omega) ?_
  refine hw_callV (hk.at nm 14 28 rfl) y_Desk_few ln_Law_146 (prL_few hR _ _ (sv_r _ _) (sv_r _ _)) rfl rfl (sz_0 hR.1.1) rfl rfl ⟨by omega, by omega⟩ (fun r s1 g1 hq => ?_)
  obtain ⟨v, rfl, hx1, hM⟩ := hq
  refine hw_aload_n (hk.at nm 14 29 rfl) rfl rfl ?_
  refine hw_aload_n (hk.at nm 14 30 rfl) rfl rfl ?_
  refine hw_iload_n (hk.at nm 14 31 rfl) rfl ?_
  refine hw_iconst (hk.at nm 14 32 rfl) ?_
  refine hw_iadd (hk.at nm 14 33 rfl) ?_
  refine hw_ialdX (hk.at nm 14 34 rfl) (by omega) ?_
  refine hw_aload_n (hk.at nm 14 35 rfl) rfl rfl ?_
  refine hw_iload_n (hk.at nm 14 36 rfl) rfl ?_
  refine hw_iconst (hk.at nm 14 37 rfl) ?_
  refine hw_iadd (hk.at nm 14 38 rfl) ?_
  refine hw_ialdX (hk.at nm 14 39 rfl) (by omega) ?_
  refine hw_callV (hk.at nm 15 0 rfl) y_Model_few ln_Law_150 hM rfl rfl (sz_177 hx1) rfl rfl ⟨Nat.zero_le _, Nat.zero_le _⟩ (fun r s2 g2 hq => ?_)
  obtain ⟨rfl, -, Λ2, hR2⟩ := hq
  refine hw_leq (tgt := 1160) (hk.at nm 15 1 rfl) (hk.at nm 15 2 rfl) rfl ?_
  exact kX _ _ _ _ _ hR2 (by omega)
set_option maxHeartbeats 1000000 in
theorem lw_c33 {cc : ByteArray} (hk : lawOK cc) {nm : String} {b L : Nat} {xs : Nat → Int32} {Λ : Int → List PC} {sh : gS} {g : gM} {mc ms n : Nat} {i : Int} {Q : gQ} (hR : relR Λ sh g) (hi : 0 ≤ i ∧ i + 6 ≤ (L : Int) ∧ i ≤ 4000) (hm : 6 * (n + 1) ≤ mc ∧ 869 * (n + 1) ≤ ms) (kX : ∀ (Λ2 : Int → List PC) (s2 : gS) (g2 : gM) (mc2 ms2 : Nat), relR Λ2 s2 g2 → 6 * n ≤ mc2 ∧ 869 * n ≤ ms2 → gWS (scr b L xs) (f_Law cc nm) 49 mc2 ms2 1160 [(3, 27), (2, 0), (2, 177), (0, i)] [] s2 g2 Q) : gWS (scr b L xs) (f_Law cc nm) 49 mc ms 989 [(3, 27), (2, 0), (2, 177), (0, i)] [] sh g Q := by
  refine hw_aload_n (hk.at nm 15 5 rfl) rfl rfl ?_
  refine hw_aload_n (hk.at nm 15 6 rfl) rfl rfl ?_
  refine hw_iload_n (hk.at nm 15 7 rfl) rfl ?_
  refine hw_iconst (hk.at nm 15 8 rfl) ?_
  refine hw_iadd (hk.at nm 15 9 rfl) ?_
  refine hw_ialdX (hk.at nm 15 10 rfl) (by omega) ?_
  refine hw_callV (hk.at nm 15 11 rfl) y_Desk_compare ln_Law_151 (pr_compare hR _ (sv_r _ _)) rfl rfl (sz_0 hR.1.1) rfl rfl ⟨by omega, by omega⟩ (fun r s1 g1 hq => ?_)
  obtain ⟨⟨t, v⟩, rfl, hv, hx1, hM⟩ := hq
  obtain rfl : t = 0 := Nat.le_zero.mp hv
  refine hw_aload_n (hk.at nm 15 12 rfl) rfl rfl ?_
  refine hw_aload_n (hk.at nm 15 13 rfl) rfl rfl ?_
  refine hw_iload_n (hk.at nm 15 14 rfl) rfl ?_
  refine hw_iconst (hk.at nm 15 15 rfl) ?_
  refine hw_iadd (hk.at nm 15 16 rfl) ?_
  refine hw_ialdX (hk.at nm 15 17 rfl) (by omega) ?_
  refine hw_callV (hk.at nm 15 18 rfl) y_Model_compare ln_Law_154 hM rfl rfl (sz_177 hx1) rfl rfl ⟨Nat.zero_le _, Nat.zero_le _⟩ (fun r s2 g2 hq => ?_)
  obtain ⟨rfl, -, Λ2, hR2⟩ := hq
  refine hw_ieq (tgt := 1160) (hk.at nm 15 19 rfl) rfl ?_
  exact kX _ _ _ _ _ hR2 (by omega)
set_option maxHeartbeats 1000000 in
theorem lw_c34 {cc : ByteArray} (hk : lawOK cc) {nm : String} {b L : Nat} {xs : Nat → Int32} {Λ : Int → List PC} {sh : gS} {g : gM} {mc ms n : Nat} {i : Int} {Q : gQ} (hR : relR Λ sh g) (hi : 0 ≤ i ∧ i + 6 ≤ (L : Int) ∧ i ≤ 4000) (hm : 6 * (n + 1) ≤ mc ∧ 869 * (n + 1) ≤ ms) (kX : ∀ (Λ2 : Int → List PC) (s2 : gS) (g2 : gM) (mc2 ms2 : Nat), relR Λ2 s2 g2 → 6 * n ≤ mc2 ∧ 869 * n ≤ ms2 → gWS (scr b L xs) (f_Law cc nm) 49 mc2 ms2 1160 [(3, 27), (2, 0), (2, 177), (0, i)] [] s2 g2 Q) : gWS (scr b L xs) (f_Law cc nm) 49 mc ms 1012 [(3, 27), (2, 0), (2, 177), (0, i)] [] sh g Q := by
  refine hw_aload_n (hk.at nm 15 22 rfl) rfl rfl ?_
  refine hw_aload_n (hk.at nm 15 23 rfl) rfl rfl ?_
  refine hw_iload_n (hk.at nm 15 24 rfl) rfl ?_
  refine hw_iconst (hk.at nm 15 25 rfl) ?_
  refine hw_iadd (hk.at nm 15 26 rfl) ?_
  refine hw_ialdX (hk.at nm 15 27 rfl) (by omega) ?_
  refine hw_aload_n (hk.at nm 15 28 rfl) rfl rfl ?_
  refine hw_iload_n (hk.at nm 15 29 rfl) rfl ?_
  refine hw_iconst (hk.at nm 15 30 rfl) ?_
  refine hw_iadd (hk.at nm 15 31 rfl) ?_
  refine hw_ialdX (hk.at nm 15 32 rfl) (by omega) ?_
  refine hw_callV (hk.at nm 15 33 rfl) y_Desk_weeks ln_Law_155 (pr_weeks hR _ _ (sv_r _ _) (sv_r _ _)) rfl rfl (sz_0 hR.1.1) rfl rfl ⟨by omega, by omega⟩ (fun r s1 g1 hq => ?_)
  obtain ⟨⟨t, v⟩, rfl, hv, hx1, hM⟩ := hq
  obtain rfl : t = 0 := Nat.le_zero.mp hv
  refine hw_aload_n (hk.at nm 15 34 rfl) rfl rfl ?_
  refine hw_aload_n (hk.at nm 15 35 rfl) rfl rfl ?_
  refine hw_iload_n (hk.at nm 15 36 rfl) rfl ?_
  refine hw_iconst (hk.at nm 15 37 rfl) ?_
  refine hw_iadd (hk.at nm 15 38 rfl) ?_
  refine hw_ialdX (hk.at nm 15 39 rfl) (by omega) ?_
  refine hw_aload_n (hk.at nm 16 0 rfl) rfl rfl ?_
  refine hw_iload_n (hk.at nm 16 1 rfl) rfl ?_
  refine hw_iconst (hk.at nm 16 2 rfl) ?_
  refine hw_iadd (hk.at nm 16 3 rfl) ?_
  refine hw_ialdX (hk.at nm 16 4 rfl) (by omega) ?_
  refine hw_callV (hk.at nm 16 5 rfl) y_Model_weeks ln_Law_158 hM rfl rfl (sz_177 hx1) rfl rfl ⟨Nat.zero_le _, Nat.zero_le _⟩ (fun r s2 g2 hq => ?_)
  obtain ⟨rfl, -, Λ2, hR2⟩ := hq
  refine hw_ieq (tgt := 1160) (hk.at nm 16 6 rfl) rfl ?_
  exact kX _ _ _ _ _ hR2 (by omega)
set_option maxHeartbeats 1000000 in
theorem lw_c35 {cc : ByteArray} (hk : lawOK cc) {nm : String} {b L : Nat} {xs : Nat → Int32} {Λ : Int → List PC} {sh : gS} {g : gM} {mc ms n : Nat} {i : Int} {Q : gQ} (hR : relR Λ sh g) (hi : 0 ≤ i ∧ i + 6 ≤ (L : Int) ∧ i ≤ 4000) (hm : 6 * (n + 1) ≤ mc ∧ 869 * (n + 1) ≤ ms) (kX : ∀ (Λ2 : Int → List PC) (s2 : gS) (g2 : gM) (mc2 ms2 : Nat), relR Λ2 s2 g2 → 6 * n ≤ mc2 ∧ 869 * n ≤ ms2 → gWS (scr b L xs) (f_Law cc nm) 49 mc2 ms2 1160 [(3, 27), (2, 0), (2, 177), (0, i)] [] s2 g2 Q) : gWS (scr b L xs) (f_Law cc nm) 49 mc ms 1045 [(3, 27), (2, 0), (2, 177), (0, i)] [] sh g Q := by
  refine hw_aload_n (hk.at nm 16 9 rfl) rfl rfl ?_
  refine hw_aload_n (hk.at nm 16 10 rfl) rfl rfl ?_
  refine hw_iload_n (hk.at nm 16 11 rfl) rfl ?_
  refine hw_iconst (hk.at nm 16 12 rfl) ?_
  refine hw_iadd (hk.at nm 16 13 rfl) ?_
  refine hw_ialdX (hk.at nm 16 14 rfl) (by omega) ?_
  refine hw_aload_n (hk.at nm 16 15 rfl) rfl rfl ?_
  refine hw_iload_n (hk.at nm 16 16 rfl) rfl ?_
  refine hw_iconst (hk.at nm 16 17 rfl) ?_
  refine hw_iadd (hk.at nm 16 18 rfl) ?_
  refine hw_ialdX (hk.at nm 16 19 rfl) (by omega) ?_
  refine hw_callV (hk.at nm 16 20 rfl) y_Desk_drawn ln_Law_159 (pr_drawn hR _ _ (sv_r _ _) (sv_r _ _)) rfl rfl (sz_0 hR.1.1) rfl rfl ⟨by omega, by omega⟩ (fun r s1 g1 hq => ?_)
  obtain ⟨⟨t, v⟩, rfl, hv, hx1, hM⟩ := hq
  obtain rfl : t = 0 := Nat.le_zero.mp hv
  refine hw_aload_n (hk.at nm 16 21 rfl) rfl rfl ?_
  refine hw_aload_n (hk.at nm 16 22 rfl) rfl rfl ?_
  refine hw_iload_n (hk.at nm 16 23 rfl) rfl ?_
  refine hw_iconst (hk.at nm 16 24 rfl) ?_
  refine hw_iadd (hk.at nm 16 25 rfl) ?_
  refine hw_ialdX (hk.at nm 16 26 rfl) (by omega) ?_
  refine hw_aload_n (hk.at nm 16 27 rfl) rfl rfl ?_
  refine hw_iload_n (hk.at nm 16 28 rfl) rfl ?_
  refine hw_iconst (hk.at nm 16 29 rfl) ?_
  refine hw_iadd (hk.at nm 16 30 rfl) ?_
  refine hw_ialdX (hk.at nm 16 31 rfl) (by omega) ?_
  refine hw_callV (hk.at nm 16 32 rfl) y_Model_drawn ln_Law_162 hM rfl rfl (sz_177 hx1) rfl rfl ⟨Nat.zero_le _, Nat.zero_le _⟩ (fun r s2 g2 hq => ?_)
  obtain ⟨rfl, -, Λ2, hR2⟩ := hq
  refine hw_ieq (tgt := 1160) (hk.at nm 16 33 rfl) rfl ?_
  exact kX _ _ _ _ _ hR2 (by omega)
set_option maxHeartbeats 1000000 in
theorem lw_c36 {cc : ByteArray} (hk : lawOK cc) {nm : String} {b L : Nat} {xs : Nat → Int32} {Λ : Int → List PC} {sh : gS} {g : gM} {mc ms n : Nat} {i : Int} {Q : gQ} (hR : relR Λ sh g) (hi : 0 ≤ i ∧ i + 6 ≤ (L : Int) ∧ i ≤ 4000) (hm : 6 * (n + 1) ≤ mc ∧ 869 * (n + 1) ≤ ms) (kX : ∀ (Λ2 : Int → List PC) (s2 : gS) (g2 : gM) (mc2 ms2 : Nat), relR Λ2 s2 g2 → 6 * n ≤ mc2 ∧ 869 * n ≤ ms2 → gWS (scr b L xs) (f_Law cc nm) 49 mc2 ms2 1160 [(3, 27), (2, 0), (2, 177), (0, i)] [] s2 g2 Q) : gWS (scr b L xs) (f_Law cc nm) 49 mc ms 1078 [(3, 27), (2, 0), (2, 177), (0, i)] [] sh g Q := by
  refine hw_aload_n (hk.at nm 16 36 rfl) rfl rfl ?_
  refine hw_aload_n (hk.at nm 16 37 rfl) rfl rfl ?_
  refine hw_iload_n (hk.at nm 16 38 rfl) rfl ?_
  refine hw_iconst (hk.at nm 16 39 rfl) ?_
  refine hw_iadd (hk.at nm 17 0 rfl) ?_
  refine hw_ialdX (hk.at nm 17 1 rfl) (by omega) ?_
  refine hw_callV (hk.at nm 17 2 rfl) y_Desk_image ln_Law_163 (pr_image hR _ (sv_r _ _)) rfl rfl (sz_0 hR.1.1) rfl rfl ⟨by omega, by omega⟩ (fun r s1 g1 hq => ?_)
  obtain ⟨⟨t, v⟩, rfl, hv, hx1, hM⟩ := hq
  obtain rfl : t = 0 := Nat.le_zero.mp hv
  refine hw_aload_n (hk.at nm 17 3 rfl) rfl rfl ?_
  refine hw_aload_n (hk.at nm 17 4 rfl) rfl rfl ?_
  refine hw_iload_n (hk.at nm 17 5 rfl) rfl ?_
  refine hw_iconst (hk.at nm 17 6 rfl) ?_
  refine hw_iadd (hk.at nm 17 7 rfl) ?_
  refine hw_ialdX (hk.at nm 17 8 rfl) (by omega) ?_
  refine hw_callV (hk.at nm 17 9 rfl) y_Model_image ln_Law_166 hM rfl rfl (sz_177 hx1) rfl rfl ⟨Nat.zero_le _, Nat.zero_le _⟩ (fun r s2 g2 hq => ?_)
  obtain ⟨rfl, -, Λ2, hR2⟩ := hq
  refine hw_ieq (tgt := 1160) (hk.at nm 17 10 rfl) rfl ?_
  exact kX _ _ _ _ _ hR2 (by omega)
set_option maxHeartbeats 1000000 in
theorem lw_c37 {cc : ByteArray} (hk : lawOK cc) {nm : String} {b L : Nat} {xs : Nat → Int32} {Λ : Int → List PC} {sh : gS} {g : gM} {mc ms n : Nat} {i : Int} {Q : gQ} (hR : relR Λ sh g) (hi : 0 ≤ i ∧ i + 6 ≤ (L : Int) ∧ i ≤ 4000) (hm : 6 * (n + 1) ≤ mc ∧ 869 * (n + 1) ≤ ms) (kX : ∀ (Λ2 : Int → List PC) (s2 : gS) (g2 : gM) (mc2 ms2 : Nat), relR Λ2 s2 g2 → 6 * n ≤ mc2 ∧ 869 * n ≤ ms2 → gWS (scr b L xs) (f_Law cc nm) 49 mc2 ms2 1160 [(3, 27), (2, 0), (2, 177), (0, i)] [] s2 g2 Q) : gWS (scr b L xs) (f_Law cc nm) 49 mc ms 1101 [(3, 27), (2, 0), (2, 177), (0, i)] [] sh g Q := by
  refine hw_aload_n (hk.at nm 17 13 rfl) rfl rfl ?_
  refine hw_aload_n (hk.at nm 17 14 rfl) rfl rfl ?_
  refine hw_iload_n (hk.at nm 17 15 rfl) rfl ?_
  refine hw_iconst (hk.at nm 17 16 rfl) ?_
  refine hw_iadd (hk.at nm 17 17 rfl) ?_
  refine hw_ialdX (hk.at nm 17 18 rfl) (by omega) ?_
  refine hw_callV (hk.at nm 17 19 rfl) y_Desk_back ln_Law_167 (pr_back hR _ (sv_r _ _)) rfl rfl (sz_0 hR.1.1) rfl rfl ⟨by omega, by omega⟩ (fun r s1 g1 hq => ?_)
  obtain ⟨⟨t, v⟩, rfl, hv, hx1, hM⟩ := hq
  obtain rfl : t = 0 := Nat.le_zero.mp hv
  refine hw_aload_n (hk.at nm 17 20 rfl) rfl rfl ?_
  refine hw_aload_n (hk.at nm 17 21 rfl) rfl rfl ?_
  refine hw_iload_n (hk.at nm 17 22 rfl) rfl ?_
  refine hw_iconst (hk.at nm 17 23 rfl) ?_
  refine hw_iadd (hk.at nm 17 24 rfl) ?_
  refine hw_ialdX (hk.at nm 17 25 rfl) (by omega) ?_
  refine hw_callV (hk.at nm 17 26 rfl) y_Model_back ln_Law_170 hM rfl rfl (sz_177 hx1) rfl rfl ⟨Nat.zero_le _, Nat.zero_le _⟩ (fun r s2 g2 hq => ?_)
  obtain ⟨rfl, -, Λ2, hR2⟩ := hq
  refine hw_ieq (tgt := 1160) (hk.at nm 17 27 rfl) rfl ?_
  exact kX _ _ _ _ _ hR2 (by omega)
set_option maxHeartbeats 1000000 in
theorem lw_c38 {cc : ByteArray} (hk : lawOK cc) {nm : String} {b L : Nat} {xs : Nat → Int32} {Λ : Int → List PC} {sh : gS} {g : gM} {mc ms n : Nat} {i : Int} {Q : gQ} (hR : relR Λ sh g) (hi : 0 ≤ i ∧ i + 6 ≤ (L : Int) ∧ i ≤ 4000) (hm : 6 * (n + 1) ≤ mc ∧ 869 * (n + 1) ≤ ms) (kX : ∀ (Λ2 : Int → List PC) (s2 : gS) (g2 : gM) (mc2 ms2 : Nat), relR Λ2 s2 g2 → 6 * n ≤ mc2 ∧ 869 * n ≤ ms2 → gWS (scr b L xs) (f_Law cc nm) 49 mc2 ms2 1160 [(3, 27), (2, 0), (2, 177), (0, i)] [] s2 g2 Q) : gWS (scr b L xs) (f_Law cc nm) 49 mc ms 1124 [(3, 27), (2, 0), (2, 177), (0, i)] [] sh g Q := by
  refine hw_aload_n (hk.at nm 17 30 rfl) rfl rfl ?_
  refine hw_aload_n (hk.at nm 17 31 rfl) rfl rfl ?_
  refine hw_iload_n (hk.at nm 17 32 rfl) rfl ?_
  refine hw_iconst (hk.at nm 17 33 rfl) ?_
  refine hw_iadd (hk.at nm 17 34 rfl) ?_
  refine hw_ialdX (hk.at nm 17 35 rfl) (by omega) ?_
  refine hw_callV (hk.at nm 17 36 rfl) y_Desk_count ln_Law_171 (pr_count hR _ (sv_r _ _)) rfl rfl (sz_0 hR.1.1) rfl rfl ⟨by omega, by omega⟩ (fun r s1 g1 hq => ?_)
  obtain ⟨⟨t, v⟩, rfl, hv, hx1, hM⟩ := hq
  obtain rfl : t = 0 := Nat.le_zero.mp hv
  refine hw_aload_n (hk.at nm 17 37 rfl) rfl rfl ?_
  refine hw_aload_n (hk.at nm 17 38 rfl) rfl rfl ?_
  refine hw_iload_n (hk.at nm 17 39 rfl) rfl ?_
  refine hw_iconst (hk.at nm 18 0 rfl) ?_
  refine hw_iadd (hk.at nm 18 1 rfl) ?_
  refine hw_ialdX (hk.at nm 18 2 rfl) (by omega) ?_
  refine hw_callV (hk.at nm 18 3 rfl) y_Model_count ln_Law_174 hM rfl rfl (sz_177 hx1) rfl rfl ⟨Nat.zero_le _, Nat.zero_le _⟩ (fun r s2 g2 hq => ?_)
  obtain ⟨rfl, -, Λ2, hR2⟩ := hq
  refine hw_ieq (tgt := 1160) (hk.at nm 18 4 rfl) rfl ?_
  exact kX _ _ _ _ _ hR2 (by omega)
set_option maxHeartbeats 1000000 in
theorem lw_c39 {cc : ByteArray} (hk : lawOK cc) {nm : String} {b L : Nat} {xs : Nat → Int32} {Λ : Int → List PC} {sh : gS} {g : gM} {mc ms n : Nat} {i : Int} {Q : gQ} (hR : relR Λ sh g) (hi : 0 ≤ i ∧ i + 6 ≤ (L : Int) ∧ i ≤ 4000) (hm : 6 * (n + 1) ≤ mc ∧ 869 * (n + 1) ≤ ms) (kX : ∀ (Λ2 : Int → List PC) (s2 : gS) (g2 : gM) (mc2 ms2 : Nat), relR Λ2 s2 g2 → 6 * n ≤ mc2 ∧ 869 * n ≤ ms2 → gWS (scr b L xs) (f_Law cc nm) 49 mc2 ms2 1160 [(3, 27), (2, 0), (2, 177), (0, i)] [] s2 g2 Q) : gWS (scr b L xs) (f_Law cc nm) 49 mc ms 1147 [(3, 27), (2, 0), (2, 177), (0, i)] [] sh g Q := by
  refine hw_aload_n (hk.at nm 18 7 rfl) rfl rfl ?_
  refine hw_callV (hk.at nm 18 8 rfl) y_Desk_status ln_Law_175 (pr_status hR) rfl rfl (sz_0 hR.1.1) rfl rfl ⟨by omega, by omega⟩ (fun r s1 g1 hq => ?_)
  obtain ⟨⟨t, v⟩, rfl, hv, hx1, hM⟩ := hq
  obtain rfl : t = 0 := Nat.le_zero.mp hv
  refine hw_aload_n (hk.at nm 18 9 rfl) rfl rfl ?_
  refine hw_callV (hk.at nm 18 10 rfl) y_Model_status ln_Law_178 hM rfl rfl (sz_177 hx1) rfl rfl ⟨Nat.zero_le _, Nat.zero_le _⟩ (fun r s2 g2 hq => ?_)
  obtain ⟨rfl, -, Λ2, hR2⟩ := hq
  refine hw_ieq (tgt := 1160) (hk.at nm 18 11 rfl) rfl ?_
  exact kX _ _ _ _ _ hR2 (by omega)
set_option maxHeartbeats 4000000 in
theorem lw_loop {cc : ByteArray} (hk : lawOK cc) {nm : String} {b L : Nat} {xs : Nat → Int32} (hL : L ≤ 3072) : ∀ (n : Nat) (i : Int) (Λ : Int → List PC) (sh : gS) (g : gM) (mc ms : Nat), 0 ≤ i → i ≤ 3078 → (L : Int) ≤ i + 6 * n → 6 * n ≤ mc ∧ 869 * n ≤ ms → relR Λ sh g → gWS (scr b L xs) (f_Law cc nm) 49 mc ms 18 [(3, 27), (2, 0), (2, 177), (0, i)] [] sh g (fun r _ _ => r = some (0, 1)) := by
  intro n
  induction n with
  | zero => 
    intro i Λ sh g mc ms hi0 hi1 hLi hm hR
    refine hw_iload_n (hk.at nm 0 10 rfl) rfl ?_
    refine hw_aload_n (hk.at nm 0 11 rfl) rfl rfl ?_
    refine hw_alenX (hk.at nm 0 12 rfl) ?_
    refine hw_bipush (hk.at nm 0 13 rfl) (by decide) ?_
    refine hw_isub (hk.at nm 0 14 rfl) ?_
    refine hw_icmp_gt (tgt := 1166) (hk.at nm 0 15 rfl) rfl (by omega) (fun c24 => ?_) (fun c24 => ?_)
    · refine hw_iconst (hk.at nm 18 16 rfl) ?_
      exact hw_zreturn (hk.at nm 18 17 rfl) rfl (Or.inr rfl) rfl
    · exfalso; omega
  | succ n ih =>
    intro i Λ sh g mc ms hi0 hi1 hLi hm hR
    refine hw_iload_n (hk.at nm 0 10 rfl) rfl ?_
    refine hw_aload_n (hk.at nm 0 11 rfl) rfl rfl ?_
    refine hw_alenX (hk.at nm 0 12 rfl) ?_
    refine hw_bipush (hk.at nm 0 13 rfl) (by decide) ?_
    refine hw_isub (hk.at nm 0 14 rfl) ?_
    refine hw_icmp_gt (tgt := 1166) (hk.at nm 0 15 rfl) rfl (by omega) (fun c24 => ?_) (fun c24 => ?_)
    · refine hw_iconst (hk.at nm 18 16 rfl) ?_
      exact hw_zreturn (hk.at nm 18 17 rfl) rfl (Or.inr rfl) rfl
    · have kX : ∀ (Λ2 : Int → List PC) (s2 : gS) (g2 : gM) (mc2 ms2 : Nat), relR Λ2 s2 g2 → 6 * n ≤ mc2 ∧ 869 * n ≤ ms2 → gWS (scr b L xs) (f_Law cc nm) 49 mc2 ms2 1160 [(3, 27), (2, 0), (2, 177), (0, i)] [] s2 g2 (fun r _ _ => r = some (0, 1)) := by
        intro Λ2 s2 g2 mc2 ms2 hR2 hm2
        refine hw_iinc_3 (hk.at nm 18 14 rfl) rfl rfl ?_
        refine hw_goto (tgt := 18) (hk.at nm 18 15 rfl) rfl ?_
        exact ih (i + 6) Λ2 s2 g2 mc2 ms2 (by omega) (by omega) (by omega) hm2 hR2
      refine hw_aload_n (hk.at nm 0 16 rfl) rfl rfl ?_
      refine hw_iload_n (hk.at nm 0 17 rfl) rfl ?_
      refine hw_ialdX (hk.at nm 0 18 rfl) (by omega) ?_
      refine hw_bipush (hk.at nm 0 19 rfl) (by decide) ?_
      refine hw_iand (hk.at nm 0 20 rfl) ?_
      have hA := gand_r (sv xs i) 63
      generalize hz : gand (sv xs i) 63 = z at hA ⊢
      rcases (show z = 0 ∨ z = 1 ∨ z = 2 ∨ z = 3 ∨ z = 4 ∨ z = 5 ∨ z = 6 ∨ z = 7 ∨ z = 8 ∨ z = 9 ∨ z = 10 ∨ z = 11 ∨ z = 12 ∨ z = 13 ∨ z = 14 ∨ z = 15 ∨ z = 16 ∨ z = 17 ∨ z = 18 ∨ z = 19 ∨ z = 20 ∨ z = 21 ∨ z = 22 ∨ z = 23 ∨ z = 24 ∨ z = 25 ∨ z = 26 ∨ z = 27 ∨ z = 28 ∨ z = 29 ∨ z = 30 ∨ z = 31 ∨ z = 32 ∨ z = 33 ∨ z = 34 ∨ z = 35 ∨ z = 36 ∨ z = 37 ∨ z = 38 ∨ z = 39 ∨ (z < 0 ∨ 39 < z) by omega) with rfl | rfl | rfl | rfl | rfl | rfl | rfl | rfl | rfl | rfl | rfl | rfl | rfl | rfl | rfl | rfl | rfl | rfl | rfl | rfl | rfl | rfl | rfl | rfl | rfl | rfl | rfl | rfl | rfl | rfl | rfl | rfl | rfl | rfl | rfl | rfl | rfl | rfl | rfl | rfl | ho
      · exact hw_tableIn (tgt := 208) (hk.at nm 0 21 rfl) (by decide) (by decide) rfl rfl (lw_c0 hk hR (by omega) (by omega) kX)
      · exact hw_tableIn (tgt := 241) (hk.at nm 0 21 rfl) (by decide) (by decide) rfl rfl (lw_c1 hk hR (by omega) (by omega) kX)
      · exact hw_tableIn (tgt := 274) (hk.at nm 0 21 rfl) (by decide) (by decide) rfl rfl (lw_c2 hk hR (by omega) (by omega) kX)
      · exact hw_tableIn (tgt := 307) (hk.at nm 0 21 rfl) (by decide) (by decide) rfl rfl (lw_c3 hk hR (by omega) (by omega) kX)
      · exact hw_tableIn (tgt := 330) (hk.at nm 0 21 rfl) (by decide) (by decide) rfl rfl (lw_c4 hk hR (by omega) (by omega) kX)
      · exact hw_tableIn (tgt := 363) (hk.at nm 0 21 rfl) (by decide) (by decide) rfl rfl (lw_c5 hk hR (by omega) (by omega) kX)
      · exact hw_tableIn (tgt := 426) (hk.at nm 0 21 rfl) (by decide) (by decide) rfl rfl (lw_c6 hk hR (by omega) (by omega) kX)
      · exact hw_tableIn (tgt := 449) (hk.at nm 0 21 rfl) (by decide) (by decide) rfl rfl (lw_c7 hk hR (by omega) (by omega) kX)
      · exact hw_tableIn (tgt := 462) (hk.at nm 0 21 rfl) (by decide) (by decide) rfl rfl (lw_c8 hk hR (by omega) (by omega) kX)
      · exact hw_tableIn (tgt := 475) (hk.at nm 0 21 rfl) (by decide) (by decide) rfl rfl (lw_c9 hk hR (by omega) (by omega) kX)
      · exact hw_tableIn (tgt := 488) (hk.at nm 0 21 rfl) (by decide) (by decide) rfl rfl (lw_c10 hk hR (by omega) (by omega) kX)
      · exact hw_tableIn (tgt := 501) (hk.at nm 0 21 rfl) (by decide) (by decide) rfl rfl (lw_c11 hk hR (by omega) (by omega) kX)
      · exact hw_tableIn (tgt := 514) (hk.at nm 0 21 rfl) (by decide) (by decide) rfl rfl (lw_c12 hk hR (by omega) (by omega) kX)
      · exact hw_tableIn (tgt := 527) (hk.at nm 0 21 rfl) (by decide) (by decide) rfl rfl (lw_c13 hk hR (by omega) (by omega) kX)
      · exact hw_tableIn (tgt := 550) (hk.at nm 0 21 rfl) (by decide) (by decide) rfl rfl (lw_c14 hk hR (by omega) (by omega) kX)
      · exact hw_tableIn (tgt := 583) (hk.at nm 0 21 rfl) (by decide) (by decide) rfl rfl (lw_c15 hk hR (by omega) (by omega) kX)
      · exact hw_tableIn (tgt := 616) (hk.at nm 0 21 rfl) (by decide) (by decide) rfl rfl (lw_c16 hk hR (by omega) (by omega) kX)
      · exact hw_tableIn (tgt := 629) (hk.at nm 0 21 rfl) (by decide) (by decide) rfl rfl (lw_c17 hk hR (by omega) (by omega) kX)
      · exact hw_tableIn (tgt := 642) (hk.at nm 0 21 rfl) (by decide) (by decide) rfl rfl (lw_c18 hk hR (by omega) (by omega) kX)
      · exact hw_tableIn (tgt := 655) (hk.at nm 0 21 rfl) (by decide) (by decide) rfl rfl (lw_c19 hk hR (by omega) (by omega) kX)
      · exact hw_tableIn (tgt := 678) (hk.at nm 0 21 rfl) (by decide) (by decide) rfl rfl (lw_c20 hk hR (by omega) (by omega) kX)
      · exact hw_tableIn (tgt := 711) (hk.at nm 0 21 rfl) (by decide) (by decide) rfl rfl (lw_c21 hk hR (by omega) (by omega) kX)
      · exact hw_tableIn (tgt := 724) (hk.at nm 0 21 rfl) (by decide) (by decide) rfl rfl (lw_c22 hk hR (by omega) (by omega) kX)
      · exact hw_tableIn (tgt := 738) (hk.at nm 0 21 rfl) (by decide) (by decide) rfl rfl (lw_c23 hk hR (by omega) (by omega) kX)
      · exact hw_tableIn (tgt := 761) (hk.at nm 0 21 rfl) (by decide) (by decide) rfl rfl (lw_c24 hk hR (by omega) (by omega) kX)
      · exact hw_tableIn (tgt := 784) (hk.at nm 0 21 rfl) (by decide) (by decide) rfl rfl (lw_c25 hk hR (by omega) (by omega) kX)
      · exact hw_tableIn (tgt := 817) (hk.at nm 0 21 rfl) (by decide) (by decide) rfl rfl (lw_c26 hk hR (by omega) (by omega) kX)
      · exact hw_tableIn (tgt := 850) (hk.at nm 0 21 rfl) (by decide) (by decide) rfl rfl (lw_c27 hk hR (by omega) (by omega) kX)
      · exact hw_tableIn (tgt := 873) (hk.at nm 0 21 rfl) (by decide) (by decide) rfl rfl (lw_c28 hk hR (by omega) (by omega) kX)
      · exact hw_tableIn (tgt := 906) (hk.at nm 0 21 rfl) (by decide) (by decide) rfl rfl (lw_c29 hk hR (by omega) (by omega) kX)
      · exact hw_tableIn (tgt := 919) (hk.at nm 0 21 rfl) (by decide) (by decide) rfl rfl (lw_c30 hk hR (by omega) (by omega) kX)
      · exact hw_tableIn (tgt := 932) (hk.at nm 0 21 rfl) (by decide) (by decide) rfl rfl (lw_c31 hk hR (by omega) (by omega) kX)
      · exact hw_tableIn (tgt := 955) (hk.at nm 0 21 rfl) (by decide) (by decide) rfl rfl (lw_c32 hk hR (by omega) (by omega) kX)
      · exact hw_tableIn (tgt := 989) (hk.at nm 0 21 rfl) (by decide) (by decide) rfl rfl (lw_c33 hk hR (by omega) (by omega) kX)
      · exact hw_tableIn (tgt := 1012) (hk.at nm 0 21 rfl) (by decide) (by decide) rfl rfl (lw_c34 hk hR (by omega) (by omega) kX)
      · exact hw_tableIn (tgt := 1045) (hk.at nm 0 21 rfl) (by decide) (by decide) rfl rfl (lw_c35 hk hR (by omega) (by omega) kX)
      · exact hw_tableIn (tgt := 1078) (hk.at nm 0 21 rfl) (by decide) (by decide) rfl rfl (lw_c36 hk hR (by omega) (by omega) kX)
      · exact hw_tableIn (tgt := 1101) (hk.at nm 0 21 rfl) (by decide) (by decide) rfl rfl (lw_c37 hk hR (by omega) (by omega) kX)
      · exact hw_tableIn (tgt := 1124) (hk.at nm 0 21 rfl) (by decide) (by decide) rfl rfl (lw_c38 hk hR (by omega) (by omega) kX)
      · exact hw_tableIn (tgt := 1147) (hk.at nm 0 21 rfl) (by decide) (by decide) rfl rfl (lw_c39 hk hR (by omega) (by omega) kX)
      · exact hw_tableOut (tgt := 1160) (hk.at nm 0 21 rfl) hA ho rfl (kX _ _ _ _ _ hR (by omega))
set_option maxHeartbeats 4000000 in
theorem lw_run {cc : ByteArray} (hk : lawOK cc) {nm : String} {b L : Nat} {xs : Nat → Int32} (hL : L ≤ 3072) : gWS (scr b L xs) (f_Law cc nm) 49 600000 7302250 0 [(3, 27), (9, 0), (9, 0), (9, 0)] [] [] (fun _ _ => 0) (fun r _ _ => r = some (0, 1)) := by
  refine hw_nO (A := 0) rfl (hk.at nm 0 0 rfl) nw_Law_7 ⟨by decide, by decide⟩ (fun z0 l0 => ?_)
  refine hw_dup (hk.at nm 0 1 rfl) rfl ?_
  refine hw_callI (hk.at nm 0 2 rfl) y_Desk_init ln_Law_9 (c_Desk_init l0 z0) rfl rfl (by decide) rfl rfl ⟨by decide, by decide⟩ (fun r1 sh1 g1 hq1 => ?_)
  obtain ⟨rfl, rfl, rfl, l1⟩ := hq1
  refine hw_astore_1 (hk.at nm 0 3 rfl) rfl rfl rfl ?_
  refine hw_nO (A := 177) l1 (hk.at nm 0 4 rfl) nw_Law_10 ⟨by decide, by decide⟩ (fun z2 l2 => ?_)
  refine hw_dup (hk.at nm 0 5 rfl) rfl ?_
  refine hw_callI (hk.at nm 0 6 rfl) y_Model_init ln_Law_12 (c_Model_init l2 z2) rfl rfl (by decide) rfl rfl ⟨by decide, by decide⟩ (fun r3 sh3 g3 hq3 => ?_)
  obtain ⟨rfl, rfl, rfl, l3⟩ := hq3
  refine hw_astore_2 (hk.at nm 0 7 rfl) rfl rfl rfl ?_
  refine hw_iconst (hk.at nm 0 8 rfl) ?_
  refine hw_istore_3 (hk.at nm 0 9 rfl) rfl rfl ?_
  refine gWS.at sh_all (g2 := opsR oAll (fun _ _ => 0)) ?_ ?_
  · unfold oAll
    rw [opsR_app]
    show _ = opsR oModel_init (copR (cNw 177 12) (opsR (oDesk_init ++ [cNw 0 0]) _))
    rw [opsR_app]
    rfl
  exact lw_loop hk hL 512 0 _ _ _ _ _ (by decide) (by decide) (by omega) (by decide) rel_0
