/-! the words of the tables, by their places in lw_tbl -/
def clC (ci : Nat) : String := [RX0, RX1, RX2, RX3, RX5, RX6, RX7, RX8].getD ci ""
def clT (ci : Nat) : u_T := match ci with | 0 => TX0 | 1 => TX1 | 2 => TX2 | 3 => TX3 | 4 => TX5 | 5 => TX6 | 6 => TX7 | _ => TX8
def clTy (ci : Nat) : Nat → FieldType := match ci with | 0 => tyX0 | 1 => tyX1 | 2 => tyX2 | 3 => tyX3 | 4 => tyX5 | 5 => tyX6 | 6 => tyX7 | _ => tyX8
def wFldX : List (((Nat × Nat) × (Nat × Nat × Nat)) × Nat) := [(((0, 9), (0, 0, 2)), 261), (((0, 15), (0, 1, 2)), 263), (((0, 18), (0, 2, 0)), 265), (((0, 22), (0, 3, 0)), 267), (((1, 9), (1, 0, 2)), 246), (((1, 15), (1, 1, 0)), 248), (((2, 11), (2, 0, 2)), 207), (((2, 18), (2, 1, 0)), 208), (((2, 22), (2, 2, 0)), 209), (((3, 11), (3, 0, 2)), 224), (((3, 15), (3, 1, 2)), 225), (((3, 18), (3, 2, 2)), 226), (((3, 21), (3, 4, 2)), 228), (((3, 27), (5, 3, 0)), 122), (((3, 33), (5, 18, 2)), 157), (((3, 36), (5, 11, 2)), 142), (((3, 39), (5, 9, 2)), 137), (((3, 56), (5, 0, 0)), 117), (((3, 70), (5, 14, 2)), 149), (((3, 81), (5, 5, 2)), 129), (((3, 84), (3, 3, 0)), 227), (((5, 9), (4, 0, 2)), 283), (((5, 15), (4, 1, 2)), 285), (((5, 18), (4, 2, 0)), 287), (((5, 22), (4, 3, 0)), 289), (((6, 9), (5, 2, 0)), 120), (((6, 15), (5, 4, 2)), 125), (((6, 19), (5, 5, 2)), 127), (((6, 22), (5, 6, 2)), 130), (((6, 25), (5, 7, 2)), 132), (((6, 28), (5, 8, 2)), 134), (((6, 31), (5, 9, 2)), 136), (((6, 34), (5, 10, 2)), 139), (((6, 37), (5, 11, 2)), 141), (((6, 40), (5, 12, 2)), 144), (((6, 43), (5, 13, 2)), 146), (((6, 46), (5, 14, 2)), 148), (((6, 49), (5, 15, 2)), 151), (((6, 52), (5, 16, 2)), 153), (((6, 55), (5, 17, 2)), 155), (((6, 58), (5, 18, 2)), 156), (((6, 76), (5, 0, 0)), 115), (((6, 79), (5, 1, 0)), 118), (((6, 82), (5, 3, 0)), 123), (((6, 89), (0, 2, 0)), 266), (((6, 94), (0, 0, 2)), 262), (((6, 95), (0, 1, 2)), 264), (((6, 96), (4, 2, 0)), 288), (((6, 101), (4, 1, 2)), 286), (((6, 104), (4, 0, 2)), 284), (((7, 12), (6, 0, 2)), 299), (((7, 16), (6, 1, 2)), 300), (((7, 22), (6, 2, 2)), 301), (((7, 29), (6, 3, 2)), 302), (((7, 36), (6, 4, 2)), 303), (((7, 43), (6, 5, 2)), 304), (((7, 50), (6, 6, 2)), 305), (((7, 58), (5, 0, 0)), 116), (((7, 69), (5, 7, 2)), 133), (((7, 73), (5, 6, 2)), 131), (((7, 102), (5, 8, 2)), 135), (((7, 122), (5, 5, 2)), 128), (((7, 152), (5, 16, 2)), 154), (((7, 163), (5, 15, 2)), 152), (((7, 179), (5, 11, 2)), 143), (((7, 189), (1, 1, 0)), 249), (((7, 210), (5, 1, 0)), 119), (((7, 230), (5, 2, 0)), 121), (((7, 233), (2, 2, 0)), 210), (((7, 244), (5, 10, 2)), 140), (((7, 254), (5, 9, 2)), 138), (((7, 260), (5, 12, 2)), 145), (((7, 263), (5, 13, 2)), 147), (((7, 266), (5, 14, 2)), 150), (((7, 290), (5, 3, 0)), 124), (((7, 316), (5, 4, 2)), 126), (((7, 347), (1, 0, 2)), 247), (((8, 7), (7, 0, 2)), 957), (((8, 13), (7, 1, 2)), 958), (((8, 16), (7, 2, 2)), 959), (((8, 19), (7, 3, 2)), 960), (((8, 22), (7, 4, 2)), 961), (((8, 25), (7, 5, 2)), 962), (((8, 28), (7, 6, 2)), 963), (((8, 31), (7, 11, 0)), 968), (((8, 35), (7, 9, 0)), 966), (((8, 125), (7, 10, 0)), 967), (((8, 128), (7, 8, 0)), 965), (((8, 131), (7, 7, 0)), 964), (((8, 216), (7, 12, 1)), 969)]
theorem wFld_ok : wFldX.all (fun e => decide (lw_tbl[e.2]? = some (.fieldLink (oName e.1.1.1) e.1.1.2 (clT e.1.2.1 e.1.2.2.1).1 (clT e.1.2.1 e.1.2.2.1).2.1 (clT e.1.2.1 e.1.2.2.1).2.2.1)) && Nat.blt e.1.2.1 8 && Nat.blt e.1.2.2.1 (fN e.1.2.1) && Nat.beq (fTy e.1.2.1 e.1.2.2.1) e.1.2.2.2) = true := by decide +kernel
theorem wFld_fst : wFldX.map (fun e => e.1) = fldTL := by decide +kernel
def wCstX : List (((Nat × Nat) × Value) × Nat) := [(((7, 306), .long 2293), 587), (((7, 374), .long 31), 591), (((7, 376), .long 1023), 711), (((7, 378), .double 0x4000000000000000), 712), (((7, 380), .double 0x4330000000000000), 713), (((8, 214), .long 31), 1313), (((8, 224), .long 2293), 1308), (((11, 137), .long 9221120237041090560), 1327)]
theorem wCst_ok : wCstX.all (fun e => match e.1.2 with | .long v => decide (lw_tbl[e.2]? = some (.constantLong (oName e.1.1.1) e.1.1.2 v)) | .double v => decide (lw_tbl[e.2]? = some (.constantDouble (oName e.1.1.1) e.1.1.2 v)) | _ => false) = true := by decide +kernel
theorem wCst_fst : wCstX.map (fun e => e.1) = cstTL := by decide +kernel
def cdW (M : Nat) : Cond := match mHh M with | [] => .code (mY M) (mCode M) (mMax M) (mRet M) | hh => .codeWith (mY M) (mCode M) (mMax M) (mRet M) hh
def wMetX : List (Nat × Nat × Nat × Nat × Nat) := [(0, 0, 259, 81, 258), (1, 0, 346, 81, 344), (2, 0, 361, 81, 359), (3, 0, 872, 81, 870), (4, 0, 365, 81, 364), (5, 0, 369, 81, 368), (6, 0, 377, 81, 376), (7, 0, 373, 81, 372), (8, 0, 244, 80, 243), (9, 0, 851, 80, 849), (10, 0, 328, 80, 326), (11, 0, 336, 80, 334), (12, 0, 862, 80, 860), (13, 0, 202, 78, 201), (14, 0, 745, 78, 743), (15, 0, 911, 78, 909), (16, 0, 222, 79, 221), (17, 0, 660, 79, 658), (18, 0, 468, 79, 466), (19, 0, 422, 79, 420), (20, 0, 449, 79, 448), (21, 0, 453, 79, 452), (22, 0, 461, 79, 460), (23, 0, 476, 79, 475), (24, 0, 480, 79, 479), (25, 0, 457, 79, 456), (26, 0, 281, 82, 280), (27, 0, 352, 82, 350), (28, 0, 385, 82, 383), (29, 0, 398, 82, 396), (30, 0, 893, 82, 891), (31, 0, 389, 82, 388), (32, 0, 394, 82, 393), (33, 0, 406, 82, 405), (34, 0, 410, 82, 409), (35, 0, 402, 82, 401), (36, 0, 105, 75, 104), (37, 0, 418, 75, 416), (38, 0, 881, 75, 879), (39, 0, 899, 75, 897), (40, 0, 438, 75, 436), (41, 0, 434, 75, 432), (42, 0, 472, 75, 470), (43, 0, 641, 75, 639), (44, 0, 750, 75, 748), (45, 0, 762, 75, 760), (46, 0, 426, 75, 424), (47, 0, 430, 75, 429), (48, 0, 442, 75, 441), (49, 0, 816, 75, 814), (50, 0, 838, 75, 836), (51, 0, 804, 75, 802), (52, 0, 674, 75, 672), (53, 0, 574, 75, 572), (54, 0, 579, 75, 577), (55, 0, 688, 75, 686), (56, 0, 692, 75, 690), (57, 0, 696, 75, 694), (58, 0, 97, 74, 96), (59, 0, 723, 74, 721), (60, 0, 757, 74, 755), (61, 0, 769, 74, 767), (62, 0, 785, 74, 783), (63, 0, 793, 74, 791), (64, 0, 811, 74, 809), (65, 0, 824, 74, 822), (66, 0, 833, 74, 831), (67, 0, 845, 74, 843), (68, 0, 324, 74, 322), (69, 0, 332, 74, 330), (70, 0, 858, 74, 856), (71, 0, 888, 74, 886), (72, 0, 906, 74, 904), (73, 0, 602, 74, 600), (74, 0, 632, 74, 630), (75, 0, 645, 74, 643), (76, 0, 670, 74, 668), (77, 0, 682, 74, 680), (78, 0, 496, 74, 494), (79, 0, 942, 74, 940), (80, 0, 414, 74, 412), (81, 0, 653, 74, 651), (82, 0, 702, 74, 700), (83, 0, 484, 74, 482), (84, 0, 492, 74, 490), (85, 0, 586, 74, 584), (86, 0, 598, 74, 597), (87, 0, 628, 74, 627), (88, 0, 666, 74, 665), (89, 0, 678, 74, 677), (90, 1, 594, 74, 593), (91, 1, 590, 74, 589), (92, 1, 710, 74, 709), (93, 1, 582, 74, 581), (94, 1, 445, 74, 444), (95, 1, 570, 74, 569), (96, 1, 487, 74, 486), (97, 0, 606, 74, 605), (98, 0, 636, 74, 635), (99, 0, 798, 74, 797), (100, 1, 648, 74, 647), (101, 1, 772, 74, 771), (102, 1, 705, 74, 704), (103, 1, 499, 74, 498), (104, 1, 380, 74, 379), (105, 0, 955, 83, 954), (106, 0, 1000, 83, 998), (107, 0, 1015, 83, 1014), (108, 1, 1011, 83, 1010), (109, 1, 1119, 83, 1118), (110, 1, 1101, 83, 1100), (111, 0, 1050, 83, 1049), (112, 0, 1263, 83, 1262), (113, 0, 1267, 83, 1266), (114, 0, 1008, 83, 1007), (115, 0, 1109, 83, 1108), (116, 1, 1112, 83, 1111), (117, 1, 1026, 83, 1025), (118, 0, 1046, 83, 1045), (119, 0, 1030, 83, 1029), (120, 0, 1054, 83, 1053), (121, 0, 1023, 83, 1022), (122, 0, 1086, 83, 1085), (123, 0, 1082, 83, 1081), (124, 0, 1042, 83, 1041), (125, 0, 1038, 83, 1037), (126, 0, 1034, 83, 1033), (127, 0, 1019, 83, 1018), (128, 0, 1004, 83, 1002), (129, 0, 1058, 83, 1056), (130, 0, 1062, 83, 1060), (131, 0, 1094, 83, 1093), (132, 0, 1078, 83, 1077), (133, 0, 1074, 83, 1073), (134, 0, 1090, 83, 1089), (135, 0, 1098, 83, 1097), (136, 0, 1070, 83, 1069), (137, 0, 1066, 83, 1064), (138, 0, 1105, 83, 1103), (139, 0, 1123, 83, 1122), (140, 0, 1116, 83, 1114), (141, 0, 1127, 83, 1125), (142, 0, 1131, 83, 1129), (143, 0, 1135, 83, 1133), (144, 0, 1139, 83, 1137), (145, 0, 1155, 83, 1154), (146, 0, 1159, 83, 1158), (147, 0, 1151, 83, 1150), (148, 0, 1163, 83, 1162), (149, 0, 1147, 83, 1146), (150, 0, 1143, 83, 1141), (151, 0, 1167, 83, 1165), (152, 0, 1171, 83, 1169), (153, 0, 1175, 83, 1173), (154, 0, 1187, 83, 1186), (155, 0, 1183, 83, 1182), (156, 0, 1179, 83, 1177), (157, 0, 1195, 83, 1194), (158, 0, 1191, 83, 1189), (159, 0, 1203, 83, 1202), (160, 0, 1199, 83, 1197), (161, 0, 1215, 83, 1214), (162, 0, 1211, 83, 1210), (163, 0, 1207, 83, 1205), (164, 0, 1227, 83, 1226), (165, 0, 1223, 83, 1222), (166, 0, 1219, 83, 1217), (167, 0, 1247, 83, 1246), (168, 0, 1239, 83, 1238), (169, 0, 1243, 83, 1242), (170, 0, 1235, 83, 1234), (171, 0, 1231, 83, 1229), (172, 0, 1251, 83, 1249), (173, 0, 1259, 83, 1258), (174, 0, 1255, 83, 1253), (175, 0, 1275, 83, 1274), (176, 0, 1271, 83, 1269), (177, 0, 1287, 83, 1286), (178, 0, 1283, 83, 1282), (179, 0, 1279, 83, 1277), (180, 0, 1295, 83, 1294), (181, 0, 1291, 83, 1289), (182, 0, 1303, 83, 1302), (183, 0, 1299, 83, 1297), (184, 0, 1312, 83, 1311), (185, 0, 1317, 83, 1316), (186, 0, 1307, 83, 1305), (187, 1, 1323, 92, 1322), (188, 1, 1320, 92, 1319), (189, 1, 114, 77, 113), (190, 1, 716, 73, 715), (191, 1, 753, 73, 752), (192, 1, 765, 73, 764), (193, 1, 781, 73, 780), (194, 1, 789, 73, 788), (195, 1, 807, 73, 806), (196, 1, 820, 73, 819), (197, 1, 829, 73, 828), (198, 1, 841, 73, 840), (199, 1, 854, 73, 853), (200, 1, 884, 73, 883), (201, 1, 902, 73, 901), (202, 1, 914, 73, 913), (203, 1, 918, 73, 917), (204, 1, 922, 73, 921), (205, 1, 926, 73, 925), (206, 1, 930, 73, 929), (207, 1, 934, 73, 933), (208, 1, 938, 73, 937), (209, 1, 945, 73, 944), (210, 1, 949, 73, 948)]
theorem wMet_ok : wMetX.all (fun e => decide (lw_tbl[e.2.2.2.1]? = some (.initialized (mY e.1).cls)) && (match e.2.1 with | 1 => decide (lw_tbl[e.2.2.2.2]? = some (.static (mY e.1))) | _ => decide (lw_tbl[e.2.2.2.2]? = some (.instanceMethod (mY e.1)))) && decide ((mY e.1).cls = oName (mO e.1)) && decide ((mY e.1).cls ≠ "java/lang/invoke/MethodHandle") && decide ((mY e.1).cls ≠ "java/lang/invoke/VarHandle") && plainName (mY e.1).cls) = true := by decide +kernel
set_option maxRecDepth 100000 in
theorem cw_0 : lw_tbl[259]? = some (cdW 0) := rfl
set_option maxRecDepth 100000 in
theorem cw_1 : lw_tbl[346]? = some (cdW 1) := rfl
set_option maxRecDepth 100000 in
theorem cw_2 : lw_tbl[361]? = some (cdW 2) := rfl
set_option maxRecDepth 100000 in
theorem cw_3 : lw_tbl[872]? = some (cdW 3) := rfl
set_option maxRecDepth 100000 in
theorem cw_4 : lw_tbl[365]? = some (cdW 4) := rfl
set_option maxRecDepth 100000 in
theorem cw_5 : lw_tbl[369]? = some (cdW 5) := rfl
set_option maxRecDepth 100000 in
theorem cw_6 : lw_tbl[377]? = some (cdW 6) := rfl
set_option maxRecDepth 100000 in
theorem cw_7 : lw_tbl[373]? = some (cdW 7) := rfl
set_option maxRecDepth 100000 in
theorem cw_8 : lw_tbl[244]? = some (cdW 8) := rfl
set_option maxRecDepth 100000 in
theorem cw_9 : lw_tbl[851]? = some (cdW 9) := rfl
set_option maxRecDepth 100000 in
theorem cw_10 : lw_tbl[328]? = some (cdW 10) := rfl
set_option maxRecDepth 100000 in
theorem cw_11 : lw_tbl[336]? = some (cdW 11) := rfl
set_option maxRecDepth 100000 in
theorem cw_12 : lw_tbl[862]? = some (cdW 12) := rfl
set_option maxRecDepth 100000 in
theorem cw_13 : lw_tbl[202]? = some (cdW 13) := rfl
set_option maxRecDepth 100000 in
theorem cw_14 : lw_tbl[745]? = some (cdW 14) := rfl
set_option maxRecDepth 100000 in
theorem cw_15 : lw_tbl[911]? = some (cdW 15) := rfl
set_option maxRecDepth 100000 in
theorem cw_16 : lw_tbl[222]? = some (cdW 16) := rfl
set_option maxRecDepth 100000 in
theorem cw_17 : lw_tbl[660]? = some (cdW 17) := rfl
set_option maxRecDepth 100000 in
theorem cw_18 : lw_tbl[468]? = some (cdW 18) := rfl
set_option maxRecDepth 100000 in
theorem cw_19 : lw_tbl[422]? = some (cdW 19) := rfl
set_option maxRecDepth 100000 in
theorem cw_20 : lw_tbl[449]? = some (cdW 20) := rfl
set_option maxRecDepth 100000 in
theorem cw_21 : lw_tbl[453]? = some (cdW 21) := rfl
set_option maxRecDepth 100000 in
theorem cw_22 : lw_tbl[461]? = some (cdW 22) := rfl
set_option maxRecDepth 100000 in
theorem cw_23 : lw_tbl[476]? = some (cdW 23) := rfl
set_option maxRecDepth 100000 in
theorem cw_24 : lw_tbl[480]? = some (cdW 24) := rfl
set_option maxRecDepth 100000 in
theorem cw_25 : lw_tbl[457]? = some (cdW 25) := rfl
set_option maxRecDepth 100000 in
theorem cw_26 : lw_tbl[281]? = some (cdW 26) := rfl
set_option maxRecDepth 100000 in
theorem cw_27 : lw_tbl[352]? = some (cdW 27) := rfl
set_option maxRecDepth 100000 in
theorem cw_28 : lw_tbl[385]? = some (cdW 28) := rfl
set_option maxRecDepth 100000 in
theorem cw_29 : lw_tbl[398]? = some (cdW 29) := rfl
set_option maxRecDepth 100000 in
theorem cw_30 : lw_tbl[893]? = some (cdW 30) := rfl
set_option maxRecDepth 100000 in
theorem cw_31 : lw_tbl[389]? = some (cdW 31) := rfl
set_option maxRecDepth 100000 in
theorem cw_32 : lw_tbl[394]? = some (cdW 32) := rfl
set_option maxRecDepth 100000 in
theorem cw_33 : lw_tbl[406]? = some (cdW 33) := rfl
set_option maxRecDepth 100000 in
theorem cw_34 : lw_tbl[410]? = some (cdW 34) := rfl
set_option maxRecDepth 100000 in
theorem cw_35 : lw_tbl[402]? = some (cdW 35) := rfl
set_option maxRecDepth 100000 in
theorem cw_36 : lw_tbl[105]? = some (cdW 36) := rfl
set_option maxRecDepth 100000 in
theorem cw_37 : lw_tbl[418]? = some (cdW 37) := rfl
set_option maxRecDepth 100000 in
theorem cw_38 : lw_tbl[881]? = some (cdW 38) := rfl
set_option maxRecDepth 100000 in
theorem cw_39 : lw_tbl[899]? = some (cdW 39) := rfl
set_option maxRecDepth 100000 in
theorem cw_40 : lw_tbl[438]? = some (cdW 40) := rfl
set_option maxRecDepth 100000 in
theorem cw_41 : lw_tbl[434]? = some (cdW 41) := rfl
set_option maxRecDepth 100000 in
theorem cw_42 : lw_tbl[472]? = some (cdW 42) := rfl
set_option maxRecDepth 100000 in
theorem cw_43 : lw_tbl[641]? = some (cdW 43) := rfl
set_option maxRecDepth 100000 in
theorem cw_44 : lw_tbl[750]? = some (cdW 44) := rfl
set_option maxRecDepth 100000 in
theorem cw_45 : lw_tbl[762]? = some (cdW 45) := rfl
set_option maxRecDepth 100000 in
theorem cw_46 : lw_tbl[426]? = some (cdW 46) := rfl
set_option maxRecDepth 100000 in
theorem cw_47 : lw_tbl[430]? = some (cdW 47) := rfl
set_option maxRecDepth 100000 in
theorem cw_48 : lw_tbl[442]? = some (cdW 48) := rfl
set_option maxRecDepth 100000 in
theorem cw_49 : lw_tbl[816]? = some (cdW 49) := rfl
set_option maxRecDepth 100000 in
theorem cw_50 : lw_tbl[838]? = some (cdW 50) := rfl
set_option maxRecDepth 100000 in
theorem cw_51 : lw_tbl[804]? = some (cdW 51) := rfl
set_option maxRecDepth 100000 in
theorem cw_52 : lw_tbl[674]? = some (cdW 52) := rfl
set_option maxRecDepth 100000 in
theorem cw_53 : lw_tbl[574]? = some (cdW 53) := rfl
set_option maxRecDepth 100000 in
theorem cw_54 : lw_tbl[579]? = some (cdW 54) := rfl
set_option maxRecDepth 100000 in
theorem cw_55 : lw_tbl[688]? = some (cdW 55) := rfl
set_option maxRecDepth 100000 in
theorem cw_56 : lw_tbl[692]? = some (cdW 56) := rfl
set_option maxRecDepth 100000 in
theorem cw_57 : lw_tbl[696]? = some (cdW 57) := rfl
set_option maxRecDepth 100000 in
theorem cw_58 : lw_tbl[97]? = some (cdW 58) := rfl
set_option maxRecDepth 100000 in
theorem cw_59 : lw_tbl[723]? = some (cdW 59) := rfl
set_option maxRecDepth 100000 in
theorem cw_60 : lw_tbl[757]? = some (cdW 60) := rfl
set_option maxRecDepth 100000 in
theorem cw_61 : lw_tbl[769]? = some (cdW 61) := rfl
set_option maxRecDepth 100000 in
theorem cw_62 : lw_tbl[785]? = some (cdW 62) := rfl
set_option maxRecDepth 100000 in
theorem cw_63 : lw_tbl[793]? = some (cdW 63) := rfl
set_option maxRecDepth 100000 in
theorem cw_64 : lw_tbl[811]? = some (cdW 64) := rfl
set_option maxRecDepth 100000 in
theorem cw_65 : lw_tbl[824]? = some (cdW 65) := rfl
set_option maxRecDepth 100000 in
theorem cw_66 : lw_tbl[833]? = some (cdW 66) := rfl
set_option maxRecDepth 100000 in
theorem cw_67 : lw_tbl[845]? = some (cdW 67) := rfl
set_option maxRecDepth 100000 in
theorem cw_68 : lw_tbl[324]? = some (cdW 68) := rfl
set_option maxRecDepth 100000 in
theorem cw_69 : lw_tbl[332]? = some (cdW 69) := rfl
set_option maxRecDepth 100000 in
theorem cw_70 : lw_tbl[858]? = some (cdW 70) := rfl
set_option maxRecDepth 100000 in
theorem cw_71 : lw_tbl[888]? = some (cdW 71) := rfl
set_option maxRecDepth 100000 in
theorem cw_72 : lw_tbl[906]? = some (cdW 72) := rfl
set_option maxRecDepth 100000 in
theorem cw_73 : lw_tbl[602]? = some (cdW 73) := rfl
set_option maxRecDepth 100000 in
theorem cw_74 : lw_tbl[632]? = some (cdW 74) := rfl
set_option maxRecDepth 100000 in
theorem cw_75 : lw_tbl[645]? = some (cdW 75) := rfl
set_option maxRecDepth 100000 in
theorem cw_76 : lw_tbl[670]? = some (cdW 76) := rfl
set_option maxRecDepth 100000 in
theorem cw_77 : lw_tbl[682]? = some (cdW 77) := rfl
set_option maxRecDepth 100000 in
theorem cw_78 : lw_tbl[496]? = some (cdW 78) := rfl
set_option maxRecDepth 100000 in
theorem cw_79 : lw_tbl[942]? = some (cdW 79) := rfl
set_option maxRecDepth 100000 in
theorem cw_80 : lw_tbl[414]? = some (cdW 80) := rfl
set_option maxRecDepth 100000 in
theorem cw_81 : lw_tbl[653]? = some (cdW 81) := rfl
set_option maxRecDepth 100000 in
theorem cw_82 : lw_tbl[702]? = some (cdW 82) := rfl
set_option maxRecDepth 100000 in
theorem cw_83 : lw_tbl[484]? = some (cdW 83) := rfl
set_option maxRecDepth 100000 in
theorem cw_84 : lw_tbl[492]? = some (cdW 84) := rfl
set_option maxRecDepth 100000 in
theorem cw_85 : lw_tbl[586]? = some (cdW 85) := rfl
set_option maxRecDepth 100000 in
theorem cw_86 : lw_tbl[598]? = some (cdW 86) := rfl
set_option maxRecDepth 100000 in
theorem cw_87 : lw_tbl[628]? = some (cdW 87) := rfl
set_option maxRecDepth 100000 in
theorem cw_88 : lw_tbl[666]? = some (cdW 88) := rfl
set_option maxRecDepth 100000 in
theorem cw_89 : lw_tbl[678]? = some (cdW 89) := rfl
set_option maxRecDepth 100000 in
theorem cw_90 : lw_tbl[594]? = some (cdW 90) := rfl
set_option maxRecDepth 100000 in
theorem cw_91 : lw_tbl[590]? = some (cdW 91) := rfl
set_option maxRecDepth 100000 in
theorem cw_92 : lw_tbl[710]? = some (cdW 92) := rfl
set_option maxRecDepth 100000 in
theorem cw_93 : lw_tbl[582]? = some (cdW 93) := rfl
set_option maxRecDepth 100000 in
theorem cw_94 : lw_tbl[445]? = some (cdW 94) := rfl
set_option maxRecDepth 100000 in
theorem cw_95 : lw_tbl[570]? = some (cdW 95) := rfl
set_option maxRecDepth 100000 in
theorem cw_96 : lw_tbl[487]? = some (cdW 96) := rfl
set_option maxRecDepth 100000 in
theorem cw_97 : lw_tbl[606]? = some (cdW 97) := rfl
set_option maxRecDepth 100000 in
theorem cw_98 : lw_tbl[636]? = some (cdW 98) := rfl
set_option maxRecDepth 100000 in
theorem cw_99 : lw_tbl[798]? = some (cdW 99) := rfl
set_option maxRecDepth 100000 in
theorem cw_100 : lw_tbl[648]? = some (cdW 100) := rfl
set_option maxRecDepth 100000 in
theorem cw_101 : lw_tbl[772]? = some (cdW 101) := rfl
set_option maxRecDepth 100000 in
theorem cw_102 : lw_tbl[705]? = some (cdW 102) := rfl
set_option maxRecDepth 100000 in
theorem cw_103 : lw_tbl[499]? = some (cdW 103) := rfl
set_option maxRecDepth 100000 in
theorem cw_104 : lw_tbl[380]? = some (cdW 104) := rfl
set_option maxRecDepth 100000 in
theorem cw_105 : lw_tbl[955]? = some (cdW 105) := rfl
set_option maxRecDepth 100000 in
theorem cw_106 : lw_tbl[1000]? = some (cdW 106) := rfl
set_option maxRecDepth 100000 in
theorem cw_107 : lw_tbl[1015]? = some (cdW 107) := rfl
set_option maxRecDepth 100000 in
theorem cw_108 : lw_tbl[1011]? = some (cdW 108) := rfl
set_option maxRecDepth 100000 in
theorem cw_109 : lw_tbl[1119]? = some (cdW 109) := rfl
set_option maxRecDepth 100000 in
theorem cw_110 : lw_tbl[1101]? = some (cdW 110) := rfl
set_option maxRecDepth 100000 in
theorem cw_111 : lw_tbl[1050]? = some (cdW 111) := rfl
set_option maxRecDepth 100000 in
theorem cw_112 : lw_tbl[1263]? = some (cdW 112) := rfl
set_option maxRecDepth 100000 in
theorem cw_113 : lw_tbl[1267]? = some (cdW 113) := rfl
set_option maxRecDepth 100000 in
theorem cw_114 : lw_tbl[1008]? = some (cdW 114) := rfl
set_option maxRecDepth 100000 in
theorem cw_115 : lw_tbl[1109]? = some (cdW 115) := rfl
set_option maxRecDepth 100000 in
theorem cw_116 : lw_tbl[1112]? = some (cdW 116) := rfl
set_option maxRecDepth 100000 in
theorem cw_117 : lw_tbl[1026]? = some (cdW 117) := rfl
set_option maxRecDepth 100000 in
theorem cw_118 : lw_tbl[1046]? = some (cdW 118) := rfl
set_option maxRecDepth 100000 in
theorem cw_119 : lw_tbl[1030]? = some (cdW 119) := rfl
set_option maxRecDepth 100000 in
theorem cw_120 : lw_tbl[1054]? = some (cdW 120) := rfl
set_option maxRecDepth 100000 in
theorem cw_121 : lw_tbl[1023]? = some (cdW 121) := rfl
set_option maxRecDepth 100000 in
theorem cw_122 : lw_tbl[1086]? = some (cdW 122) := rfl
set_option maxRecDepth 100000 in
theorem cw_123 : lw_tbl[1082]? = some (cdW 123) := rfl
set_option maxRecDepth 100000 in
theorem cw_124 : lw_tbl[1042]? = some (cdW 124) := rfl
set_option maxRecDepth 100000 in
theorem cw_125 : lw_tbl[1038]? = some (cdW 125) := rfl
set_option maxRecDepth 100000 in
theorem cw_126 : lw_tbl[1034]? = some (cdW 126) := rfl
set_option maxRecDepth 100000 in
theorem cw_127 : lw_tbl[1019]? = some (cdW 127) := rfl
set_option maxRecDepth 100000 in
theorem cw_128 : lw_tbl[1004]? = some (cdW 128) := rfl
set_option maxRecDepth 100000 in
theorem cw_129 : lw_tbl[1058]? = some (cdW 129) := rfl
set_option maxRecDepth 100000 in
theorem cw_130 : lw_tbl[1062]? = some (cdW 130) := rfl
set_option maxRecDepth 100000 in
theorem cw_131 : lw_tbl[1094]? = some (cdW 131) := rfl
set_option maxRecDepth 100000 in
theorem cw_132 : lw_tbl[1078]? = some (cdW 132) := rfl
set_option maxRecDepth 100000 in
theorem cw_133 : lw_tbl[1074]? = some (cdW 133) := rfl
set_option maxRecDepth 100000 in
theorem cw_134 : lw_tbl[1090]? = some (cdW 134) := rfl
set_option maxRecDepth 100000 in
theorem cw_135 : lw_tbl[1098]? = some (cdW 135) := rfl
set_option maxRecDepth 100000 in
theorem cw_136 : lw_tbl[1070]? = some (cdW 136) := rfl
set_option maxRecDepth 100000 in
theorem cw_137 : lw_tbl[1066]? = some (cdW 137) := rfl
set_option maxRecDepth 100000 in
theorem cw_138 : lw_tbl[1105]? = some (cdW 138) := rfl
set_option maxRecDepth 100000 in
theorem cw_139 : lw_tbl[1123]? = some (cdW 139) := rfl
set_option maxRecDepth 100000 in
theorem cw_140 : lw_tbl[1116]? = some (cdW 140) := rfl
set_option maxRecDepth 100000 in
theorem cw_141 : lw_tbl[1127]? = some (cdW 141) := rfl
set_option maxRecDepth 100000 in
theorem cw_142 : lw_tbl[1131]? = some (cdW 142) := rfl
set_option maxRecDepth 100000 in
theorem cw_143 : lw_tbl[1135]? = some (cdW 143) := rfl
set_option maxRecDepth 100000 in
theorem cw_144 : lw_tbl[1139]? = some (cdW 144) := rfl
set_option maxRecDepth 100000 in
theorem cw_145 : lw_tbl[1155]? = some (cdW 145) := rfl
set_option maxRecDepth 100000 in
theorem cw_146 : lw_tbl[1159]? = some (cdW 146) := rfl
set_option maxRecDepth 100000 in
theorem cw_147 : lw_tbl[1151]? = some (cdW 147) := rfl
set_option maxRecDepth 100000 in
theorem cw_148 : lw_tbl[1163]? = some (cdW 148) := rfl
set_option maxRecDepth 100000 in
theorem cw_149 : lw_tbl[1147]? = some (cdW 149) := rfl
set_option maxRecDepth 100000 in
theorem cw_150 : lw_tbl[1143]? = some (cdW 150) := rfl
set_option maxRecDepth 100000 in
theorem cw_151 : lw_tbl[1167]? = some (cdW 151) := rfl
set_option maxRecDepth 100000 in
theorem cw_152 : lw_tbl[1171]? = some (cdW 152) := rfl
set_option maxRecDepth 100000 in
theorem cw_153 : lw_tbl[1175]? = some (cdW 153) := rfl
set_option maxRecDepth 100000 in
theorem cw_154 : lw_tbl[1187]? = some (cdW 154) := rfl
set_option maxRecDepth 100000 in
theorem cw_155 : lw_tbl[1183]? = some (cdW 155) := rfl
set_option maxRecDepth 100000 in
theorem cw_156 : lw_tbl[1179]? = some (cdW 156) := rfl
set_option maxRecDepth 100000 in
theorem cw_157 : lw_tbl[1195]? = some (cdW 157) := rfl
set_option maxRecDepth 100000 in
theorem cw_158 : lw_tbl[1191]? = some (cdW 158) := rfl
set_option maxRecDepth 100000 in
theorem cw_159 : lw_tbl[1203]? = some (cdW 159) := rfl
set_option maxRecDepth 100000 in
theorem cw_160 : lw_tbl[1199]? = some (cdW 160) := rfl
set_option maxRecDepth 100000 in
theorem cw_161 : lw_tbl[1215]? = some (cdW 161) := rfl
set_option maxRecDepth 100000 in
theorem cw_162 : lw_tbl[1211]? = some (cdW 162) := rfl
set_option maxRecDepth 100000 in
theorem cw_163 : lw_tbl[1207]? = some (cdW 163) := rfl
set_option maxRecDepth 100000 in
theorem cw_164 : lw_tbl[1227]? = some (cdW 164) := rfl
set_option maxRecDepth 100000 in
theorem cw_165 : lw_tbl[1223]? = some (cdW 165) := rfl
set_option maxRecDepth 100000 in
theorem cw_166 : lw_tbl[1219]? = some (cdW 166) := rfl
set_option maxRecDepth 100000 in
theorem cw_167 : lw_tbl[1247]? = some (cdW 167) := rfl
set_option maxRecDepth 100000 in
theorem cw_168 : lw_tbl[1239]? = some (cdW 168) := rfl
set_option maxRecDepth 100000 in
theorem cw_169 : lw_tbl[1243]? = some (cdW 169) := rfl
set_option maxRecDepth 100000 in
theorem cw_170 : lw_tbl[1235]? = some (cdW 170) := rfl
set_option maxRecDepth 100000 in
theorem cw_171 : lw_tbl[1231]? = some (cdW 171) := rfl
set_option maxRecDepth 100000 in
theorem cw_172 : lw_tbl[1251]? = some (cdW 172) := rfl
set_option maxRecDepth 100000 in
theorem cw_173 : lw_tbl[1259]? = some (cdW 173) := rfl
set_option maxRecDepth 100000 in
theorem cw_174 : lw_tbl[1255]? = some (cdW 174) := rfl
set_option maxRecDepth 100000 in
theorem cw_175 : lw_tbl[1275]? = some (cdW 175) := rfl
set_option maxRecDepth 100000 in
theorem cw_176 : lw_tbl[1271]? = some (cdW 176) := rfl
set_option maxRecDepth 100000 in
theorem cw_177 : lw_tbl[1287]? = some (cdW 177) := rfl
set_option maxRecDepth 100000 in
theorem cw_178 : lw_tbl[1283]? = some (cdW 178) := rfl
set_option maxRecDepth 100000 in
theorem cw_179 : lw_tbl[1279]? = some (cdW 179) := rfl
set_option maxRecDepth 100000 in
theorem cw_180 : lw_tbl[1295]? = some (cdW 180) := rfl
set_option maxRecDepth 100000 in
theorem cw_181 : lw_tbl[1291]? = some (cdW 181) := rfl
set_option maxRecDepth 100000 in
theorem cw_182 : lw_tbl[1303]? = some (cdW 182) := rfl
set_option maxRecDepth 100000 in
theorem cw_183 : lw_tbl[1299]? = some (cdW 183) := rfl
set_option maxRecDepth 100000 in
theorem cw_184 : lw_tbl[1312]? = some (cdW 184) := rfl
set_option maxRecDepth 100000 in
theorem cw_185 : lw_tbl[1317]? = some (cdW 185) := rfl
set_option maxRecDepth 100000 in
theorem cw_186 : lw_tbl[1307]? = some (cdW 186) := rfl
set_option maxRecDepth 100000 in
theorem cw_187 : lw_tbl[1323]? = some (cdW 187) := rfl
set_option maxRecDepth 100000 in
theorem cw_188 : lw_tbl[1320]? = some (cdW 188) := rfl
set_option maxRecDepth 100000 in
theorem cw_189 : lw_tbl[114]? = some (cdW 189) := rfl
set_option maxRecDepth 100000 in
theorem cw_190 : lw_tbl[716]? = some (cdW 190) := rfl
set_option maxRecDepth 100000 in
theorem cw_191 : lw_tbl[753]? = some (cdW 191) := rfl
set_option maxRecDepth 100000 in
theorem cw_192 : lw_tbl[765]? = some (cdW 192) := rfl
set_option maxRecDepth 100000 in
theorem cw_193 : lw_tbl[781]? = some (cdW 193) := rfl
set_option maxRecDepth 100000 in
theorem cw_194 : lw_tbl[789]? = some (cdW 194) := rfl
set_option maxRecDepth 100000 in
theorem cw_195 : lw_tbl[807]? = some (cdW 195) := rfl
set_option maxRecDepth 100000 in
theorem cw_196 : lw_tbl[820]? = some (cdW 196) := rfl
set_option maxRecDepth 100000 in
theorem cw_197 : lw_tbl[829]? = some (cdW 197) := rfl
set_option maxRecDepth 100000 in
theorem cw_198 : lw_tbl[841]? = some (cdW 198) := rfl
set_option maxRecDepth 100000 in
theorem cw_199 : lw_tbl[854]? = some (cdW 199) := rfl
set_option maxRecDepth 100000 in
theorem cw_200 : lw_tbl[884]? = some (cdW 200) := rfl
set_option maxRecDepth 100000 in
theorem cw_201 : lw_tbl[902]? = some (cdW 201) := rfl
set_option maxRecDepth 100000 in
theorem cw_202 : lw_tbl[914]? = some (cdW 202) := rfl
set_option maxRecDepth 100000 in
theorem cw_203 : lw_tbl[918]? = some (cdW 203) := rfl
set_option maxRecDepth 100000 in
theorem cw_204 : lw_tbl[922]? = some (cdW 204) := rfl
set_option maxRecDepth 100000 in
theorem cw_205 : lw_tbl[926]? = some (cdW 205) := rfl
set_option maxRecDepth 100000 in
theorem cw_206 : lw_tbl[930]? = some (cdW 206) := rfl
set_option maxRecDepth 100000 in
theorem cw_207 : lw_tbl[934]? = some (cdW 207) := rfl
set_option maxRecDepth 100000 in
theorem cw_208 : lw_tbl[938]? = some (cdW 208) := rfl
set_option maxRecDepth 100000 in
theorem cw_209 : lw_tbl[945]? = some (cdW 209) := rfl
set_option maxRecDepth 100000 in
theorem cw_210 : lw_tbl[949]? = some (cdW 210) := rfl
theorem cwc_0 : ∀ M ∈ [0, 1, 2, 3, 4, 5, 6, 7, 8, 9, 10, 11, 12, 13, 14, 15], cdW M ∈ lw_tbl := (List.forall_mem_cons.mpr ⟨List.mem_of_getElem? cw_0, (List.forall_mem_cons.mpr ⟨List.mem_of_getElem? cw_1, (List.forall_mem_cons.mpr ⟨List.mem_of_getElem? cw_2, (List.forall_mem_cons.mpr ⟨List.mem_of_getElem? cw_3, (List.forall_mem_cons.mpr ⟨List.mem_of_getElem? cw_4, (List.forall_mem_cons.mpr ⟨List.mem_of_getElem? cw_5, (List.forall_mem_cons.mpr ⟨List.mem_of_getElem? cw_6, (List.forall_mem_cons.mpr ⟨List.mem_of_getElem? cw_7, (List.forall_mem_cons.mpr ⟨List.mem_of_getElem? cw_8, (List.forall_mem_cons.mpr ⟨List.mem_of_getElem? cw_9, (List.forall_mem_cons.mpr ⟨List.mem_of_getElem? cw_10, (List.forall_mem_cons.mpr ⟨List.mem_of_getElem? cw_11, (List.forall_mem_cons.mpr ⟨List.mem_of_getElem? cw_12, (List.forall_mem_cons.mpr ⟨List.mem_of_getElem? cw_13, (List.forall_mem_cons.mpr ⟨List.mem_of_getElem? cw_14, (List.forall_mem_cons.mpr ⟨List.mem_of_getElem? cw_15, (fun _ h => absurd h List.not_mem_nil)⟩)⟩)⟩)⟩)⟩)⟩)⟩)⟩)⟩)⟩)⟩)⟩)⟩)⟩)⟩)⟩)
theorem cwc_1 : ∀ M ∈ [16, 17, 18, 19, 20, 21, 22, 23, 24, 25, 26, 27, 28, 29, 30, 31], cdW M ∈ lw_tbl := (List.forall_mem_cons.mpr ⟨List.mem_of_getElem? cw_16, (List.forall_mem_cons.mpr ⟨List.mem_of_getElem? cw_17, (List.forall_mem_cons.mpr ⟨List.mem_of_getElem? cw_18, (List.forall_mem_cons.mpr ⟨List.mem_of_getElem? cw_19, (List.forall_mem_cons.mpr ⟨List.mem_of_getElem? cw_20, (List.forall_mem_cons.mpr ⟨List.mem_of_getElem? cw_21, (List.forall_mem_cons.mpr ⟨List.mem_of_getElem? cw_22, (List.forall_mem_cons.mpr ⟨List.mem_of_getElem? cw_23, (List.forall_mem_cons.mpr ⟨List.mem_of_getElem? cw_24, (List.forall_mem_cons.mpr ⟨List.mem_of_getElem? cw_25, (List.forall_mem_cons.mpr ⟨List.mem_of_getElem? cw_26, (List.forall_mem_cons.mpr ⟨List.mem_of_getElem? cw_27, (List.forall_mem_cons.mpr ⟨List.mem_of_getElem? cw_28, (List.forall_mem_cons.mpr ⟨List.mem_of_getElem? cw_29, (List.forall_mem_cons.mpr ⟨List.mem_of_getElem? cw_30, (List.forall_mem_cons.mpr ⟨List.mem_of_getElem? cw_31, (fun _ h => absurd h List.not_mem_nil)⟩)⟩)⟩)⟩)⟩)⟩)⟩)⟩)⟩)⟩)⟩)⟩)⟩)⟩)⟩)⟩)
theorem cwc_2 : ∀ M ∈ [32, 33, 34, 35, 36, 37, 38, 39, 40, 41, 42, 43, 44, 45, 46, 47], cdW M ∈ lw_tbl := (List.forall_mem_cons.mpr ⟨List.mem_of_getElem? cw_32, (List.forall_mem_cons.mpr ⟨List.mem_of_getElem? cw_33, (List.forall_mem_cons.mpr ⟨List.mem_of_getElem? cw_34, (List.forall_mem_cons.mpr ⟨List.mem_of_getElem? cw_35, (List.forall_mem_cons.mpr ⟨List.mem_of_getElem? cw_36, (List.forall_mem_cons.mpr ⟨List.mem_of_getElem? cw_37, (List.forall_mem_cons.mpr ⟨List.mem_of_getElem? cw_38, (List.forall_mem_cons.mpr ⟨List.mem_of_getElem? cw_39, (List.forall_mem_cons.mpr ⟨List.mem_of_getElem? cw_40, (List.forall_mem_cons.mpr ⟨List.mem_of_getElem? cw_41, (List.forall_mem_cons.mpr ⟨List.mem_of_getElem? cw_42, (List.forall_mem_cons.mpr ⟨List.mem_of_getElem? cw_43, (List.forall_mem_cons.mpr ⟨List.mem_of_getElem? cw_44, (List.forall_mem_cons.mpr ⟨List.mem_of_getElem? cw_45, (List.forall_mem_cons.mpr ⟨List.mem_of_getElem? cw_46, (List.forall_mem_cons.mpr ⟨List.mem_of_getElem? cw_47, (fun _ h => absurd h List.not_mem_nil)⟩)⟩)⟩)⟩)⟩)⟩)⟩)⟩)⟩)⟩)⟩)⟩)⟩)⟩)⟩)⟩)
theorem cwc_3 : ∀ M ∈ [48, 49, 50, 51, 52, 53, 54, 55, 56, 57, 58, 59, 60, 61, 62, 63], cdW M ∈ lw_tbl := (List.forall_mem_cons.mpr ⟨List.mem_of_getElem? cw_48, (List.forall_mem_cons.mpr ⟨List.mem_of_getElem? cw_49, (List.forall_mem_cons.mpr ⟨List.mem_of_getElem? cw_50, (List.forall_mem_cons.mpr ⟨List.mem_of_getElem? cw_51, (List.forall_mem_cons.mpr ⟨List.mem_of_getElem? cw_52, (List.forall_mem_cons.mpr ⟨List.mem_of_getElem? cw_53, (List.forall_mem_cons.mpr ⟨List.mem_of_getElem? cw_54, (List.forall_mem_cons.mpr ⟨List.mem_of_getElem? cw_55, (List.forall_mem_cons.mpr ⟨List.mem_of_getElem? cw_56, (List.forall_mem_cons.mpr ⟨List.mem_of_getElem? cw_57, (List.forall_mem_cons.mpr ⟨List.mem_of_getElem? cw_58, (List.forall_mem_cons.mpr ⟨List.mem_of_getElem? cw_59, (List.forall_mem_cons.mpr ⟨List.mem_of_getElem? cw_60, (List.forall_mem_cons.mpr ⟨List.mem_of_getElem? cw_61, (List.forall_mem_cons.mpr ⟨List.mem_of_getElem? cw_62, (List.forall_mem_cons.mpr ⟨List.mem_of_getElem? cw_63, (fun _ h => absurd h List.not_mem_nil)⟩)⟩)⟩)⟩)⟩)⟩)⟩)⟩)⟩)⟩)⟩)⟩)⟩)⟩)⟩)⟩)
theorem cwc_4 : ∀ M ∈ [64, 65, 66, 67, 68, 69, 70, 71, 72, 73, 74, 75, 76, 77, 78, 79], cdW M ∈ lw_tbl := (List.forall_mem_cons.mpr ⟨List.mem_of_getElem? cw_64, (List.forall_mem_cons.mpr ⟨List.mem_of_getElem? cw_65, (List.forall_mem_cons.mpr ⟨List.mem_of_getElem? cw_66, (List.forall_mem_cons.mpr ⟨List.mem_of_getElem? cw_67, (List.forall_mem_cons.mpr ⟨List.mem_of_getElem? cw_68, (List.forall_mem_cons.mpr ⟨List.mem_of_getElem? cw_69, (List.forall_mem_cons.mpr ⟨List.mem_of_getElem? cw_70, (List.forall_mem_cons.mpr ⟨List.mem_of_getElem? cw_71, (List.forall_mem_cons.mpr ⟨List.mem_of_getElem? cw_72, (List.forall_mem_cons.mpr ⟨List.mem_of_getElem? cw_73, (List.forall_mem_cons.mpr ⟨List.mem_of_getElem? cw_74, (List.forall_mem_cons.mpr ⟨List.mem_of_getElem? cw_75, (List.forall_mem_cons.mpr ⟨List.mem_of_getElem? cw_76, (List.forall_mem_cons.mpr ⟨List.mem_of_getElem? cw_77, (List.forall_mem_cons.mpr ⟨List.mem_of_getElem? cw_78, (List.forall_mem_cons.mpr ⟨List.mem_of_getElem? cw_79, (fun _ h => absurd h List.not_mem_nil)⟩)⟩)⟩)⟩)⟩)⟩)⟩)⟩)⟩)⟩)⟩)⟩)⟩)⟩)⟩)⟩)
theorem cwc_5 : ∀ M ∈ [80, 81, 82, 83, 84, 85, 86, 87, 88, 89, 90, 91, 92, 93, 94, 95], cdW M ∈ lw_tbl := (List.forall_mem_cons.mpr ⟨List.mem_of_getElem? cw_80, (List.forall_mem_cons.mpr ⟨List.mem_of_getElem? cw_81, (List.forall_mem_cons.mpr ⟨List.mem_of_getElem? cw_82, (List.forall_mem_cons.mpr ⟨List.mem_of_getElem? cw_83, (List.forall_mem_cons.mpr ⟨List.mem_of_getElem? cw_84, (List.forall_mem_cons.mpr ⟨List.mem_of_getElem? cw_85, (List.forall_mem_cons.mpr ⟨List.mem_of_getElem? cw_86, (List.forall_mem_cons.mpr ⟨List.mem_of_getElem? cw_87, (List.forall_mem_cons.mpr ⟨List.mem_of_getElem? cw_88, (List.forall_mem_cons.mpr ⟨List.mem_of_getElem? cw_89, (List.forall_mem_cons.mpr ⟨List.mem_of_getElem? cw_90, (List.forall_mem_cons.mpr ⟨List.mem_of_getElem? cw_91, (List.forall_mem_cons.mpr ⟨List.mem_of_getElem? cw_92, (List.forall_mem_cons.mpr ⟨List.mem_of_getElem? cw_93, (List.forall_mem_cons.mpr ⟨List.mem_of_getElem? cw_94, (List.forall_mem_cons.mpr ⟨List.mem_of_getElem? cw_95, (fun _ h => absurd h List.not_mem_nil)⟩)⟩)⟩)⟩)⟩)⟩)⟩)⟩)⟩)⟩)⟩)⟩)⟩)⟩)⟩)⟩)
theorem cwc_6 : ∀ M ∈ [96, 97, 98, 99, 100, 101, 102, 103, 104, 105, 106, 107, 108, 109, 110, 111], cdW M ∈ lw_tbl := (List.forall_mem_cons.mpr ⟨List.mem_of_getElem? cw_96, (List.forall_mem_cons.mpr ⟨List.mem_of_getElem? cw_97, (List.forall_mem_cons.mpr ⟨List.mem_of_getElem? cw_98, (List.forall_mem_cons.mpr ⟨List.mem_of_getElem? cw_99, (List.forall_mem_cons.mpr ⟨List.mem_of_getElem? cw_100, (List.forall_mem_cons.mpr ⟨List.mem_of_getElem? cw_101, (List.forall_mem_cons.mpr ⟨List.mem_of_getElem? cw_102, (List.forall_mem_cons.mpr ⟨List.mem_of_getElem? cw_103, (List.forall_mem_cons.mpr ⟨List.mem_of_getElem? cw_104, (List.forall_mem_cons.mpr ⟨List.mem_of_getElem? cw_105, (List.forall_mem_cons.mpr ⟨List.mem_of_getElem? cw_106, (List.forall_mem_cons.mpr ⟨List.mem_of_getElem? cw_107, (List.forall_mem_cons.mpr ⟨List.mem_of_getElem? cw_108, (List.forall_mem_cons.mpr ⟨List.mem_of_getElem? cw_109, (List.forall_mem_cons.mpr ⟨List.mem_of_getElem? cw_110, (List.forall_mem_cons.mpr ⟨List.mem_of_getElem? cw_111, (fun _ h => absurd h List.not_mem_nil)⟩)⟩)⟩)⟩)⟩)⟩)⟩)⟩)⟩)⟩)⟩)⟩)⟩)⟩)⟩)⟩)
theorem cwc_7 : ∀ M ∈ [112, 113, 114, 115, 116, 117, 118, 119, 120, 121, 122, 123, 124, 125, 126, 127], cdW M ∈ lw_tbl := (List.forall_mem_cons.mpr ⟨List.mem_of_getElem? cw_112, (List.forall_mem_cons.mpr ⟨List.mem_of_getElem? cw_113, (List.forall_mem_cons.mpr ⟨List.mem_of_getElem? cw_114, (List.forall_mem_cons.mpr ⟨List.mem_of_getElem? cw_115, (List.forall_mem_cons.mpr ⟨List.mem_of_getElem? cw_116, (List.forall_mem_cons.mpr ⟨List.mem_of_getElem? cw_117, (List.forall_mem_cons.mpr ⟨List.mem_of_getElem? cw_118, (List.forall_mem_cons.mpr ⟨List.mem_of_getElem? cw_119, (List.forall_mem_cons.mpr ⟨List.mem_of_getElem? cw_120, (List.forall_mem_cons.mpr ⟨List.mem_of_getElem? cw_121, (List.forall_mem_cons.mpr ⟨List.mem_of_getElem? cw_122, (List.forall_mem_cons.mpr ⟨List.mem_of_getElem? cw_123, (List.forall_mem_cons.mpr ⟨List.mem_of_getElem? cw_124, (List.forall_mem_cons.mpr ⟨List.mem_of_getElem? cw_125, (List.forall_mem_cons.mpr ⟨List.mem_of_getElem? cw_126, (List.forall_mem_cons.mpr ⟨List.mem_of_getElem? cw_127, (fun _ h => absurd h List.not_mem_nil)⟩)⟩)⟩)⟩)⟩)⟩)⟩)⟩)⟩)⟩)⟩)⟩)⟩)⟩)⟩)⟩)
theorem cwc_8 : ∀ M ∈ [128, 129, 130, 131, 132, 133, 134, 135, 136, 137, 138, 139, 140, 141, 142, 143], cdW M ∈ lw_tbl := (List.forall_mem_cons.mpr ⟨List.mem_of_getElem? cw_128, (List.forall_mem_cons.mpr ⟨List.mem_of_getElem? cw_129, (List.forall_mem_cons.mpr ⟨List.mem_of_getElem? cw_130, (List.forall_mem_cons.mpr ⟨List.mem_of_getElem? cw_131, (List.forall_mem_cons.mpr ⟨List.mem_of_getElem? cw_132, (List.forall_mem_cons.mpr ⟨List.mem_of_getElem? cw_133, (List.forall_mem_cons.mpr ⟨List.mem_of_getElem? cw_134, (List.forall_mem_cons.mpr ⟨List.mem_of_getElem? cw_135, (List.forall_mem_cons.mpr ⟨List.mem_of_getElem? cw_136, (List.forall_mem_cons.mpr ⟨List.mem_of_getElem? cw_137, (List.forall_mem_cons.mpr ⟨List.mem_of_getElem? cw_138, (List.forall_mem_cons.mpr ⟨List.mem_of_getElem? cw_139, (List.forall_mem_cons.mpr ⟨List.mem_of_getElem? cw_140, (List.forall_mem_cons.mpr ⟨List.mem_of_getElem? cw_141, (List.forall_mem_cons.mpr ⟨List.mem_of_getElem? cw_142, (List.forall_mem_cons.mpr ⟨List.mem_of_getElem? cw_143, (fun _ h => absurd h List.not_mem_nil)⟩)⟩)⟩)⟩)⟩)⟩)⟩)⟩)⟩)⟩)⟩)⟩)⟩)⟩)⟩)⟩)
theorem cwc_9 : ∀ M ∈ [144, 145, 146, 147, 148, 149, 150, 151, 152, 153, 154, 155, 156, 157, 158, 159], cdW M ∈ lw_tbl := (List.forall_mem_cons.mpr ⟨List.mem_of_getElem? cw_144, (List.forall_mem_cons.mpr ⟨List.mem_of_getElem? cw_145, (List.forall_mem_cons.mpr ⟨List.mem_of_getElem? cw_146, (List.forall_mem_cons.mpr ⟨List.mem_of_getElem? cw_147, (List.forall_mem_cons.mpr ⟨List.mem_of_getElem? cw_148, (List.forall_mem_cons.mpr ⟨List.mem_of_getElem? cw_149, (List.forall_mem_cons.mpr ⟨List.mem_of_getElem? cw_150, (List.forall_mem_cons.mpr ⟨List.mem_of_getElem? cw_151, (List.forall_mem_cons.mpr ⟨List.mem_of_getElem? cw_152, (List.forall_mem_cons.mpr ⟨List.mem_of_getElem? cw_153, (List.forall_mem_cons.mpr ⟨List.mem_of_getElem? cw_154, (List.forall_mem_cons.mpr ⟨List.mem_of_getElem? cw_155, (List.forall_mem_cons.mpr ⟨List.mem_of_getElem? cw_156, (List.forall_mem_cons.mpr ⟨List.mem_of_getElem? cw_157, (List.forall_mem_cons.mpr ⟨List.mem_of_getElem? cw_158, (List.forall_mem_cons.mpr ⟨List.mem_of_getElem? cw_159, (fun _ h => absurd h List.not_mem_nil)⟩)⟩)⟩)⟩)⟩)⟩)⟩)⟩)⟩)⟩)⟩)⟩)⟩)⟩)⟩)⟩)
theorem cwc_10 : ∀ M ∈ [160, 161, 162, 163, 164, 165, 166, 167, 168, 169, 170, 171, 172, 173, 174, 175], cdW M ∈ lw_tbl := (List.forall_mem_cons.mpr ⟨List.mem_of_getElem? cw_160, (List.forall_mem_cons.mpr ⟨List.mem_of_getElem? cw_161, (List.forall_mem_cons.mpr ⟨List.mem_of_getElem? cw_162, (List.forall_mem_cons.mpr ⟨List.mem_of_getElem? cw_163, (List.forall_mem_cons.mpr ⟨List.mem_of_getElem? cw_164, (List.forall_mem_cons.mpr ⟨List.mem_of_getElem? cw_165, (List.forall_mem_cons.mpr ⟨List.mem_of_getElem? cw_166, (List.forall_mem_cons.mpr ⟨List.mem_of_getElem? cw_167, (List.forall_mem_cons.mpr ⟨List.mem_of_getElem? cw_168, (List.forall_mem_cons.mpr ⟨List.mem_of_getElem? cw_169, (List.forall_mem_cons.mpr ⟨List.mem_of_getElem? cw_170, (List.forall_mem_cons.mpr ⟨List.mem_of_getElem? cw_171, (List.forall_mem_cons.mpr ⟨List.mem_of_getElem? cw_172, (List.forall_mem_cons.mpr ⟨List.mem_of_getElem? cw_173, (List.forall_mem_cons.mpr ⟨List.mem_of_getElem? cw_174, (List.forall_mem_cons.mpr ⟨List.mem_of_getElem? cw_175, (fun _ h => absurd h List.not_mem_nil)⟩)⟩)⟩)⟩)⟩)⟩)⟩)⟩)⟩)⟩)⟩)⟩)⟩)⟩)⟩)⟩)
theorem cwc_11 : ∀ M ∈ [176, 177, 178, 179, 180, 181, 182, 183, 184, 185, 186, 187, 188, 189, 190, 191], cdW M ∈ lw_tbl := (List.forall_mem_cons.mpr ⟨List.mem_of_getElem? cw_176, (List.forall_mem_cons.mpr ⟨List.mem_of_getElem? cw_177, (List.forall_mem_cons.mpr ⟨List.mem_of_getElem? cw_178, (List.forall_mem_cons.mpr ⟨List.mem_of_getElem? cw_179, (List.forall_mem_cons.mpr ⟨List.mem_of_getElem? cw_180, (List.forall_mem_cons.mpr ⟨List.mem_of_getElem? cw_181, (List.forall_mem_cons.mpr ⟨List.mem_of_getElem? cw_182, (List.forall_mem_cons.mpr ⟨List.mem_of_getElem? cw_183, (List.forall_mem_cons.mpr ⟨List.mem_of_getElem? cw_184, (List.forall_mem_cons.mpr ⟨List.mem_of_getElem? cw_185, (List.forall_mem_cons.mpr ⟨List.mem_of_getElem? cw_186, (List.forall_mem_cons.mpr ⟨List.mem_of_getElem? cw_187, (List.forall_mem_cons.mpr ⟨List.mem_of_getElem? cw_188, (List.forall_mem_cons.mpr ⟨List.mem_of_getElem? cw_189, (List.forall_mem_cons.mpr ⟨List.mem_of_getElem? cw_190, (List.forall_mem_cons.mpr ⟨List.mem_of_getElem? cw_191, (fun _ h => absurd h List.not_mem_nil)⟩)⟩)⟩)⟩)⟩)⟩)⟩)⟩)⟩)⟩)⟩)⟩)⟩)⟩)⟩)⟩)
theorem cwc_12 : ∀ M ∈ [192, 193, 194, 195, 196, 197, 198, 199, 200, 201, 202, 203, 204, 205, 206, 207], cdW M ∈ lw_tbl := (List.forall_mem_cons.mpr ⟨List.mem_of_getElem? cw_192, (List.forall_mem_cons.mpr ⟨List.mem_of_getElem? cw_193, (List.forall_mem_cons.mpr ⟨List.mem_of_getElem? cw_194, (List.forall_mem_cons.mpr ⟨List.mem_of_getElem? cw_195, (List.forall_mem_cons.mpr ⟨List.mem_of_getElem? cw_196, (List.forall_mem_cons.mpr ⟨List.mem_of_getElem? cw_197, (List.forall_mem_cons.mpr ⟨List.mem_of_getElem? cw_198, (List.forall_mem_cons.mpr ⟨List.mem_of_getElem? cw_199, (List.forall_mem_cons.mpr ⟨List.mem_of_getElem? cw_200, (List.forall_mem_cons.mpr ⟨List.mem_of_getElem? cw_201, (List.forall_mem_cons.mpr ⟨List.mem_of_getElem? cw_202, (List.forall_mem_cons.mpr ⟨List.mem_of_getElem? cw_203, (List.forall_mem_cons.mpr ⟨List.mem_of_getElem? cw_204, (List.forall_mem_cons.mpr ⟨List.mem_of_getElem? cw_205, (List.forall_mem_cons.mpr ⟨List.mem_of_getElem? cw_206, (List.forall_mem_cons.mpr ⟨List.mem_of_getElem? cw_207, (fun _ h => absurd h List.not_mem_nil)⟩)⟩)⟩)⟩)⟩)⟩)⟩)⟩)⟩)⟩)⟩)⟩)⟩)⟩)⟩)⟩)
theorem cwc_13 : ∀ M ∈ [208, 209, 210], cdW M ∈ lw_tbl := (List.forall_mem_cons.mpr ⟨List.mem_of_getElem? cw_208, (List.forall_mem_cons.mpr ⟨List.mem_of_getElem? cw_209, (List.forall_mem_cons.mpr ⟨List.mem_of_getElem? cw_210, (fun _ h => absurd h List.not_mem_nil)⟩)⟩)⟩)
theorem cw_all : ∀ M, M < 211 → cdW M ∈ lw_tbl := by
  intro M h
  by_cases h0 : M < 16
  · exact cwc_0 M (by simp only [List.mem_cons, List.not_mem_nil, or_false]; omega)
  by_cases h1 : M < 32
  · exact cwc_1 M (by simp only [List.mem_cons, List.not_mem_nil, or_false]; omega)
  by_cases h2 : M < 48
  · exact cwc_2 M (by simp only [List.mem_cons, List.not_mem_nil, or_false]; omega)
  by_cases h3 : M < 64
  · exact cwc_3 M (by simp only [List.mem_cons, List.not_mem_nil, or_false]; omega)
  by_cases h4 : M < 80
  · exact cwc_4 M (by simp only [List.mem_cons, List.not_mem_nil, or_false]; omega)
  by_cases h5 : M < 96
  · exact cwc_5 M (by simp only [List.mem_cons, List.not_mem_nil, or_false]; omega)
  by_cases h6 : M < 112
  · exact cwc_6 M (by simp only [List.mem_cons, List.not_mem_nil, or_false]; omega)
  by_cases h7 : M < 128
  · exact cwc_7 M (by simp only [List.mem_cons, List.not_mem_nil, or_false]; omega)
  by_cases h8 : M < 144
  · exact cwc_8 M (by simp only [List.mem_cons, List.not_mem_nil, or_false]; omega)
  by_cases h9 : M < 160
  · exact cwc_9 M (by simp only [List.mem_cons, List.not_mem_nil, or_false]; omega)
  by_cases h10 : M < 176
  · exact cwc_10 M (by simp only [List.mem_cons, List.not_mem_nil, or_false]; omega)
  by_cases h11 : M < 192
  · exact cwc_11 M (by simp only [List.mem_cons, List.not_mem_nil, or_false]; omega)
  by_cases h12 : M < 208
  · exact cwc_12 M (by simp only [List.mem_cons, List.not_mem_nil, or_false]; omega)
  exact cwc_13 M (by simp only [List.mem_cons, List.not_mem_nil, or_false]; omega)
def wCsX : List (((Nat × Nat) × (Nat × Nat)) × (Nat × Nat × Nat)) := [(((0, 40), (104, 1)), (1, 378, 0)), (((5, 43), (95, 3)), (1, 894, 0)), (((5, 47), (104, 1)), (1, 390, 0)), (((6, 70), (189, 2)), (0, 112, 0)), (((6, 85), (93, 2)), (1, 580, 0)), (((6, 121), (94, 2)), (1, 443, 0)), (((6, 128), (95, 3)), (1, 575, 0)), (((7, 81), (93, 2)), (0, 623, 0)), (((7, 111), (101, 1)), (0, 770, 0)), (((7, 125), (102, 1)), (0, 703, 0)), (((7, 141), (100, 1)), (0, 646, 0)), (((7, 149), (94, 2)), (0, 488, 0)), (((7, 241), (103, 2)), (0, 497, 0)), (((7, 247), (95, 3)), (0, 568, 0)), (((7, 272), (96, 2)), (0, 485, 0)), (((7, 308), (91, 2)), (0, 588, 0)), (((7, 312), (90, 3)), (0, 592, 0)), (((7, 343), (92, 1)), (0, 708, 0)), (((8, 38), (108, 3)), (0, 1009, 0)), (((8, 46), (117, 2)), (0, 1024, 0)), (((8, 93), (110, 2)), (0, 1099, 0)), (((8, 115), (116, 1)), (0, 1110, 0)), (((8, 118), (109, 2)), (0, 1117, 0)), (((8, 229), (188, 1)), (0, 1318, 0)), (((9, 88), (190, 4)), (0, 714, 0)), (((9, 97), (191, 3)), (0, 751, 0)), (((9, 101), (192, 4)), (0, 763, 0)), (((9, 104), (193, 3)), (0, 779, 0)), (((9, 107), (194, 6)), (0, 787, 0)), (((9, 111), (195, 6)), (0, 805, 0)), (((9, 114), (196, 7)), (0, 818, 0)), (((9, 118), (197, 4)), (0, 827, 0)), (((9, 121), (198, 3)), (0, 839, 0)), (((9, 133), (199, 2)), (0, 852, 0)), (((9, 137), (200, 2)), (0, 882, 0)), (((9, 140), (201, 2)), (0, 900, 0)), (((9, 143), (202, 4)), (0, 912, 0)), (((9, 146), (203, 5)), (0, 916, 0)), (((9, 150), (204, 6)), (0, 920, 0)), (((9, 153), (205, 4)), (0, 924, 0)), (((9, 156), (206, 4)), (0, 928, 0)), (((9, 159), (207, 3)), (0, 932, 0)), (((9, 162), (208, 3)), (0, 936, 0)), (((9, 169), (209, 3)), (0, 943, 0)), (((9, 172), (210, 4)), (0, 947, 0)), (((11, 122), (187, 1)), (0, 1321, 0))]
theorem wCs_ok : wCsX.all (fun e => (match e.2.1 with | 0 => decide (lw_tbl[e.2.2.1]? = some (.methodLink (oName e.1.1.1) e.1.1.2 (mY e.1.2.1))) | _ => decide (lw_tbl[e.2.2.1]? = some (.methodLinkNest (oName e.1.1.1) e.1.1.2 (mY e.1.2.1) "ModuleYard"))) && decide ((parseMethodDescriptor (mY e.1.2.1).desc).map (fun d => d.parameters.length) = some e.1.2.2) && (wMetX.any (fun q => Nat.beq q.1 e.1.2.1 && Nat.beq q.2.1 1)) && (Nat.beq e.2.1 0 || mHh e.1.2.1 == [])) = true := by decide +kernel
theorem wCs_fst : wCsX.map (fun e => e.1) = calSL := by decide +kernel
def wCvX : List (((Nat × Nat) × (Nat × Nat)) × (Nat × Nat × Nat)) := [(((0, 25), (4, 1)), (0, 362, 0)), (((0, 29), (5, 0)), (0, 366, 1)), (((0, 33), (6, 1)), (0, 374, 3)), (((0, 36), (7, 0)), (0, 370, 2)), (((1, 28), (11, 1)), (0, 863, 335)), (((2, 25), (37, 1)), (0, 746, 417)), (((3, 24), (25, 0)), (0, 454, 13)), (((3, 40), (24, 2)), (0, 477, 16)), (((3, 44), (42, 2)), (0, 469, 471)), (((3, 48), (23, 3)), (0, 473, 15)), (((3, 52), (46, 0)), (0, 423, 425)), (((3, 59), (20, 1)), (0, 446, 11)), (((3, 63), (21, 1)), (0, 450, 12)), (((3, 66), (22, 2)), (0, 458, 14)), (((3, 78), (18, 3)), (0, 465, 467)), (((5, 25), (31, 1)), (0, 386, 4)), (((5, 29), (32, 0)), (0, 391, 5)), (((5, 33), (33, 1)), (0, 403, 7)), (((5, 36), (34, 1)), (0, 407, 8)), (((5, 39), (35, 0)), (0, 399, 6)), (((5, 50), (29, 0)), (0, 395, 397)), (((6, 105), (40, 1)), (0, 435, 437)), (((6, 109), (47, 1)), (0, 427, 9)), (((6, 113), (48, 1)), (0, 439, 10)), (((6, 117), (41, 2)), (0, 431, 433)), (((6, 124), (51, 3)), (0, 817, 803)), (((7, 54), (97, 1)), (0, 603, 19)), (((7, 85), (17, 1)), (0, 657, 659)), (((7, 89), (18, 3)), (0, 661, 467)), (((7, 95), (14, 1)), (0, 742, 744)), (((7, 98), (44, 2)), (0, 747, 749)), (((7, 107), (45, 1)), (0, 759, 761)), (((7, 130), (53, 0)), (0, 571, 573)), (((7, 134), (19, 2)), (0, 419, 421)), (((7, 138), (98, 2)), (0, 633, 21)), (((7, 146), (99, 2)), (0, 795, 24)), (((7, 157), (51, 3)), (0, 801, 803)), (((7, 171), (49, 4)), (0, 813, 815)), (((7, 184), (50, 1)), (0, 835, 837)), (((7, 194), (9, 1)), (0, 848, 850)), (((7, 197), (10, 0)), (0, 325, 327)), (((7, 200), (11, 1)), (0, 333, 335)), (((7, 204), (12, 1)), (0, 859, 861)), (((7, 215), (38, 1)), (0, 878, 880)), (((7, 221), (30, 0)), (0, 890, 892)), (((7, 226), (39, 1)), (0, 896, 898)), (((7, 238), (15, 1)), (0, 908, 910)), (((7, 251), (42, 2)), (0, 624, 471)), (((7, 257), (43, 2)), (0, 638, 640)), (((7, 269), (52, 2)), (0, 671, 673)), (((7, 278), (40, 1)), (0, 684, 437)), (((7, 281), (55, 1)), (0, 685, 687)), (((7, 284), (56, 1)), (0, 689, 691)), (((7, 287), (57, 1)), (0, 693, 695)), (((7, 293), (54, 0)), (0, 576, 578)), (((7, 296), (37, 1)), (0, 415, 417)), (((7, 299), (41, 2)), (0, 662, 433)), (((7, 303), (78, 1)), (0, 493, 495)), (((7, 319), (86, 2)), (0, 595, 18)), (((7, 323), (88, 1)), (0, 663, 22)), (((7, 327), (89, 1)), (0, 675, 23)), (((7, 330), (80, 0)), (0, 697, 413)), (((7, 333), (83, 0)), (0, 698, 483)), (((7, 336), (82, 2)), (0, 699, 701)), (((7, 339), (84, 0)), (0, 707, 491)), (((7, 350), (73, 2)), (0, 599, 601)), (((7, 353), (87, 3)), (0, 625, 20)), (((7, 357), (81, 1)), (0, 650, 652)), (((7, 360), (74, 3)), (0, 629, 631)), (((7, 364), (75, 4)), (0, 642, 644)), (((7, 368), (76, 2)), (0, 667, 669)), (((7, 371), (77, 2)), (0, 679, 681)), (((8, 42), (114, 1)), (0, 1005, 25)), (((8, 50), (119, 2)), (0, 1027, 29)), (((8, 53), (122, 1)), (0, 1083, 40)), (((8, 57), (118, 1)), (0, 1043, 33)), (((8, 60), (124, 2)), (0, 1039, 32)), (((8, 63), (121, 2)), (0, 1020, 28)), (((8, 66), (126, 1)), (0, 1031, 30)), (((8, 69), (125, 2)), (0, 1035, 31)), (((8, 73), (107, 1)), (0, 1012, 26)), (((8, 76), (127, 2)), (0, 1016, 27)), (((8, 79), (111, 0)), (0, 1047, 34)), (((8, 82), (120, 3)), (0, 1051, 35)), (((8, 86), (132, 2)), (0, 1075, 38)), (((8, 89), (133, 0)), (0, 1071, 37)), (((8, 96), (123, 2)), (0, 1079, 39)), (((8, 99), (134, 1)), (0, 1087, 41)), (((8, 102), (131, 1)), (0, 1091, 42)), (((8, 106), (135, 0)), (0, 1095, 43)), (((8, 109), (136, 0)), (0, 1067, 36)), (((8, 112), (115, 2)), (0, 1106, 44)), (((8, 121), (139, 4)), (0, 1120, 45)), (((8, 134), (145, 2)), (0, 1152, 48)), (((8, 138), (146, 1)), (0, 1156, 49)), (((8, 142), (147, 1)), (0, 1148, 47)), (((8, 145), (148, 1)), (0, 1160, 50)), (((8, 148), (149, 1)), (0, 1144, 46)), (((8, 152), (154, 2)), (0, 1184, 52)), (((8, 155), (155, 2)), (0, 1180, 51)), (((8, 158), (157, 2)), (0, 1192, 53)), (((8, 161), (159, 3)), (0, 1200, 54)), (((8, 165), (161, 1)), (0, 1212, 56)), (((8, 168), (162, 2)), (0, 1208, 55)), (((8, 171), (164, 1)), (0, 1224, 58)), (((8, 174), (165, 2)), (0, 1220, 57)), (((8, 177), (168, 1)), (0, 1236, 60)), (((8, 180), (169, 0)), (0, 1240, 61)), (((8, 183), (167, 1)), (0, 1244, 62)), (((8, 186), (170, 1)), (0, 1232, 59)), (((8, 189), (112, 0)), (0, 1260, 64)), (((8, 192), (113, 0)), (0, 1264, 65)), (((8, 195), (173, 0)), (0, 1256, 63)), (((8, 198), (175, 1)), (0, 1272, 66)), (((8, 201), (177, 1)), (0, 1284, 68)), (((8, 204), (178, 2)), (0, 1280, 67)), (((8, 207), (180, 0)), (0, 1292, 69)), (((8, 210), (182, 0)), (0, 1300, 70)), (((8, 220), (184, 1)), (0, 1309, 71)), (((8, 226), (185, 1)), (0, 1314, 72)), (((9, 7), (59, 2)), (0, 720, 722)), (((9, 19), (60, 1)), (0, 754, 756)), (((9, 23), (61, 2)), (0, 766, 768)), (((9, 26), (62, 1)), (0, 782, 784)), (((9, 29), (63, 4)), (0, 790, 792)), (((9, 33), (64, 4)), (0, 808, 810)), (((9, 36), (65, 5)), (0, 821, 823)), (((9, 40), (66, 2)), (0, 830, 832)), (((9, 43), (67, 1)), (0, 842, 844)), (((9, 46), (70, 0)), (0, 855, 857)), (((9, 50), (71, 0)), (0, 885, 887)), (((9, 53), (72, 0)), (0, 903, 905)), (((9, 56), (73, 2)), (0, 915, 601)), (((9, 59), (74, 3)), (0, 919, 631)), (((9, 63), (75, 4)), (0, 923, 644)), (((9, 66), (76, 2)), (0, 927, 669)), (((9, 69), (77, 2)), (0, 931, 681)), (((9, 72), (78, 1)), (0, 935, 495)), (((9, 75), (79, 1)), (0, 939, 941)), (((9, 78), (81, 1)), (0, 946, 652)), (((9, 81), (82, 2)), (0, 950, 701)), (((9, 93), (128, 2)), (0, 1001, 1003)), (((9, 94), (106, 0)), (0, 997, 999)), (((9, 100), (129, 1)), (0, 1055, 1057)), (((9, 103), (130, 2)), (0, 1059, 1061)), (((9, 106), (137, 1)), (0, 1063, 1065)), (((9, 110), (138, 4)), (0, 1102, 1104)), (((9, 113), (140, 4)), (0, 1113, 1115)), (((9, 117), (141, 5)), (0, 1124, 1126)), (((9, 120), (142, 2)), (0, 1128, 1130)), (((9, 123), (143, 1)), (0, 1132, 1134)), (((9, 124), (68, 0)), (0, 321, 323)), (((9, 127), (144, 0)), (0, 1136, 1138)), (((9, 128), (69, 1)), (0, 329, 331)), (((9, 132), (150, 1)), (0, 1140, 1142)), (((9, 136), (151, 0)), (0, 1164, 1166)), (((9, 139), (152, 0)), (0, 1168, 1170)), (((9, 142), (153, 0)), (0, 1172, 1174)), (((9, 145), (156, 2)), (0, 1176, 1178)), (((9, 149), (158, 3)), (0, 1188, 1190)), (((9, 152), (160, 4)), (0, 1196, 1198)), (((9, 155), (163, 2)), (0, 1204, 1206)), (((9, 158), (166, 2)), (0, 1216, 1218)), (((9, 161), (171, 1)), (0, 1228, 1230)), (((9, 164), (172, 1)), (0, 1248, 1250)), (((9, 165), (80, 0)), (0, 411, 413)), (((9, 168), (174, 0)), (0, 1252, 1254)), (((9, 171), (176, 1)), (0, 1268, 1270)), (((9, 174), (179, 2)), (0, 1276, 1278)), (((9, 175), (83, 0)), (0, 481, 483)), (((9, 178), (181, 0)), (0, 1288, 1290)), (((9, 179), (84, 0)), (0, 489, 491)), (((9, 183), (183, 0)), (0, 1296, 1298)), (((9, 184), (85, 0)), (0, 583, 585)), (((9, 188), (186, 0)), (0, 1304, 1306))]
theorem wCv_ok : wCvX.all (fun e => (match e.2.1 with | 0 => decide (lw_tbl[e.2.2.1]? = some (.methodLink (oName e.1.1.1) e.1.1.2 (mY e.1.2.1))) | _ => decide (lw_tbl[e.2.2.1]? = some (.methodLinkNest (oName e.1.1.1) e.1.1.2 (mY e.1.2.1) "ModuleYard"))) && decide ((parseMethodDescriptor (mY e.1.2.1).desc).map (fun d => d.parameters.length) = some e.1.2.2) && (wMetX.any (fun q => Nat.beq q.1 e.1.2.1 && Nat.beq q.2.1 0)) && decide ((mY e.1.2.1).name ≠ "<init>") && Nat.beq e.2.1 0 && decide (lw_tbl[e.2.2.2]? = some (.selects (mY e.1.2.1).cls (mY e.1.2.1) (mY e.1.2.1))) && decide (vwCl[oKd (mO e.1.2.1) - 4]?.map (fun q => q.1) = some (mY e.1.2.1).cls) && Nat.ble 4 (oKd (mO e.1.2.1)) && Nat.ble (oKd (mO e.1.2.1)) 11 && mHh e.1.2.1 == []) = true := by decide +kernel
theorem wCv_fst : wCvX.map (fun e => e.1) = calVL := by decide +kernel
def wCiX : List (((Nat × Nat) × (Nat × Nat)) × (Nat × Nat × Nat)) := [(((2, 17), (36, 0)), (0, 206, 0)), (((7, 11), (36, 0)), (0, 103, 0)), (((7, 21), (13, 0)), (0, 200, 0)), (((7, 28), (16, 0)), (1, 220, 0)), (((7, 35), (8, 0)), (1, 242, 0)), (((7, 42), (0, 0)), (1, 257, 0)), (((7, 49), (26, 0)), (1, 279, 0)), (((9, 84), (58, 0)), (0, 95, 0)), (((9, 87), (105, 0)), (0, 953, 0))]
theorem wCi_ok : wCiX.all (fun e => (match e.2.1 with | 0 => decide (lw_tbl[e.2.2.1]? = some (.methodLink (oName e.1.1.1) e.1.1.2 (mY e.1.2.1))) | _ => decide (lw_tbl[e.2.2.1]? = some (.methodLinkNest (oName e.1.1.1) e.1.1.2 (mY e.1.2.1) "ModuleYard"))) && decide ((parseMethodDescriptor (mY e.1.2.1).desc).map (fun d => d.parameters.length) = some e.1.2.2) && (wMetX.any (fun q => Nat.beq q.1 e.1.2.1 && Nat.beq q.2.1 0)) && decide ((mY e.1.2.1).name = "<init>") && mHh e.1.2.1 == [] && decide (mRet e.1.2.1 = none) && Nat.ble 4 (oKd (mO e.1.2.1)) && Nat.ble (oKd (mO e.1.2.1)) 11) = true := by decide +kernel
theorem wCi_fst : wCiX.map (fun e => e.1) = calIL := by decide +kernel
def wNewX : List (((Nat × Nat) × (Nat × Nat)) × (Nat × Nat × Nat)) := [(((2, 9), (9, 19)), (204, 102, 75)), (((7, 9), (9, 19)), (101, 102, 75)), (((7, 19), (6, 3)), (198, 199, 78)), (((7, 26), (7, 5)), (218, 219, 79)), (((7, 33), (5, 2)), (240, 241, 80)), (((7, 40), (4, 4)), (255, 256, 81)), (((7, 47), (8, 4)), (277, 278, 82)), (((9, 8), (10, 7)), (93, 94, 74)), (((9, 85), (11, 13)), (951, 952, 83))]
theorem wNew_ok : wNewX.all (fun e => decide (lw_tbl[e.2.1]? = some (.classLink (oName e.1.1.1) e.1.1.2 (clC (e.1.2.1 - 4)))) && decide (lw_tbl[e.2.2.1]? = some (.instantiable (clC (e.1.2.1 - 4)) e.1.2.2)) && decide (lw_tbl[e.2.2.2]? = some (.initialized (clC (e.1.2.1 - 4)))) && Nat.ble 4 e.1.2.1 && Nat.blt e.1.2.1 12 && Nat.beq (fN (e.1.2.1 - 4)) e.1.2.2) = true := by decide +kernel
theorem wNew_fst : wNewX.map (fun e => e.1) = newTL := by decide +kernel
