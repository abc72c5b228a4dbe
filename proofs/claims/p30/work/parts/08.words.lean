/-! the words of the tables, by their places in lw_tbl -/
def clC (ci : Nat) : String := [RX0, RX1, RX2, RX3, RX5, RX6, RX7].getD ci ""
def clT (ci : Nat) : u_T := match ci with | 0 => TX0 | 1 => TX1 | 2 => TX2 | 3 => TX3 | 4 => TX5 | 5 => TX6 | _ => TX7
def clTy (ci : Nat) : Nat → FieldType := match ci with | 0 => tyX0 | 1 => tyX1 | 2 => tyX2 | 3 => tyX3 | 4 => tyX5 | 5 => tyX6 | _ => tyX7
def wFldX : List (((Nat × Nat) × (Nat × Nat × Nat)) × Nat) := [(((0, 9), (0, 0, 2)), 204), (((0, 15), (0, 1, 2)), 206), (((0, 18), (0, 2, 0)), 208), (((0, 22), (0, 3, 0)), 210), (((1, 9), (1, 0, 2)), 190), (((1, 15), (1, 1, 0)), 191), (((2, 11), (2, 0, 2)), 151), (((2, 18), (2, 1, 0)), 152), (((2, 22), (2, 2, 0)), 153), (((3, 11), (3, 0, 2)), 168), (((3, 15), (3, 1, 2)), 169), (((3, 18), (3, 2, 2)), 170), (((3, 21), (3, 4, 2)), 172), (((3, 27), (5, 3, 0)), 67), (((3, 33), (5, 18, 2)), 101), (((3, 36), (5, 11, 2)), 86), (((3, 39), (5, 9, 2)), 81), (((3, 56), (5, 0, 0)), 62), (((3, 70), (5, 14, 2)), 93), (((3, 81), (5, 5, 2)), 73), (((3, 84), (3, 3, 0)), 171), (((5, 9), (4, 0, 2)), 226), (((5, 15), (4, 1, 2)), 228), (((5, 18), (4, 2, 0)), 230), (((5, 22), (4, 3, 0)), 232), (((6, 9), (5, 2, 0)), 65), (((6, 15), (5, 4, 2)), 70), (((6, 19), (5, 5, 2)), 71), (((6, 22), (5, 6, 2)), 74), (((6, 25), (5, 7, 2)), 76), (((6, 28), (5, 8, 2)), 78), (((6, 31), (5, 9, 2)), 80), (((6, 34), (5, 10, 2)), 83), (((6, 37), (5, 11, 2)), 85), (((6, 40), (5, 12, 2)), 88), (((6, 43), (5, 13, 2)), 90), (((6, 46), (5, 14, 2)), 92), (((6, 49), (5, 15, 2)), 95), (((6, 52), (5, 16, 2)), 97), (((6, 55), (5, 17, 2)), 99), (((6, 58), (5, 18, 2)), 100), (((6, 76), (5, 0, 0)), 60), (((6, 79), (5, 1, 0)), 63), (((6, 82), (5, 3, 0)), 68), (((6, 89), (0, 2, 0)), 209), (((6, 94), (0, 0, 2)), 205), (((6, 95), (0, 1, 2)), 207), (((6, 96), (4, 2, 0)), 231), (((6, 101), (4, 1, 2)), 229), (((6, 104), (4, 0, 2)), 227), (((7, 12), (6, 0, 2)), 242), (((7, 16), (6, 1, 2)), 243), (((7, 22), (6, 2, 2)), 244), (((7, 29), (6, 3, 2)), 245), (((7, 36), (6, 4, 2)), 246), (((7, 43), (6, 5, 2)), 247), (((7, 50), (6, 6, 2)), 248), (((7, 58), (5, 0, 0)), 61), (((7, 69), (5, 7, 2)), 77), (((7, 73), (5, 6, 2)), 75), (((7, 102), (5, 8, 2)), 79), (((7, 122), (5, 5, 2)), 72), (((7, 152), (5, 16, 2)), 98), (((7, 163), (5, 15, 2)), 96), (((7, 179), (5, 11, 2)), 87), (((7, 189), (1, 1, 0)), 192), (((7, 210), (5, 1, 0)), 64), (((7, 230), (5, 2, 0)), 66), (((7, 233), (2, 2, 0)), 154), (((7, 244), (5, 10, 2)), 84), (((7, 254), (5, 9, 2)), 82), (((7, 260), (5, 12, 2)), 89), (((7, 263), (5, 13, 2)), 91), (((7, 266), (5, 14, 2)), 94), (((7, 290), (5, 3, 0)), 69)]
theorem wFld_ok : wFldX.all (fun e => decide (lw_tbl[e.2]? = some (.fieldLink (oName e.1.1.1) e.1.1.2 (clT e.1.2.1 e.1.2.2.1).1 (clT e.1.2.1 e.1.2.2.1).2.1 (clT e.1.2.1 e.1.2.2.1).2.2.1)) && Nat.blt e.1.2.1 7 && Nat.blt e.1.2.2.1 (fN e.1.2.1) && Nat.beq (fTy e.1.2.1 e.1.2.2.1) e.1.2.2.2) = true := by decide +kernel
theorem wFld_fst : wFldX.map (fun e => e.1) = fldTL := by decide +kernel
def wCstX : List (((Nat × Nat) × Value) × Nat) := [(((9, 7), .int 952534627), 357), (((9, 163), .int 2147483647), 831)]
theorem wCst_ok : wCstX.all (fun e => match e.1.2 with | .int v => decide (lw_tbl[e.2]? = some (.constant (oName e.1.1.1) e.1.1.2 v)) | _ => false) = true := by decide +kernel
theorem wCst_fst : wCstX.map (fun e => e.1) = cstTL := by decide +kernel
def cdW (M : Nat) : Cond := match mHh M with | [] => .code (mY M) (mCode M) (mMax M) (mRet M) | hh => .codeWith (mY M) (mCode M) (mMax M) (mRet M) hh
def wMetX : List (Nat × Nat × Nat × Nat × Nat) := [(0, 0, 202, 29, 201), (1, 0, 648, 29, 646), (2, 0, 663, 29, 661), (3, 0, 721, 29, 719), (4, 0, 667, 29, 666), (5, 0, 671, 29, 670), (6, 0, 679, 29, 678), (7, 0, 675, 29, 674), (8, 0, 188, 28, 187), (9, 0, 623, 28, 621), (10, 0, 598, 28, 596), (11, 0, 638, 28, 636), (12, 0, 634, 28, 632), (13, 0, 146, 26, 145), (14, 0, 730, 26, 728), (15, 0, 166, 27, 165), (16, 0, 582, 27, 580), (17, 0, 551, 27, 549), (18, 0, 510, 27, 508), (19, 0, 532, 27, 531), (20, 0, 536, 27, 535), (21, 0, 544, 27, 543), (22, 0, 556, 27, 555), (23, 0, 560, 27, 559), (24, 0, 540, 27, 539), (25, 0, 224, 30, 223), (26, 0, 654, 30, 652), (27, 0, 687, 30, 685), (28, 0, 700, 30, 698), (29, 0, 747, 30, 745), (30, 0, 691, 30, 690), (31, 0, 696, 30, 695), (32, 0, 708, 30, 707), (33, 0, 712, 30, 711), (34, 0, 704, 30, 703), (35, 0, 50, 23, 49), (36, 0, 506, 23, 504), (37, 0, 735, 23, 733), (38, 0, 753, 23, 751), (39, 0, 445, 23, 443), (40, 0, 522, 23, 520), (41, 0, 422, 23, 420), (42, 0, 403, 23, 401), (43, 0, 773, 23, 771), (44, 0, 782, 23, 780), (45, 0, 514, 23, 512), (46, 0, 518, 23, 517), (47, 0, 527, 23, 526), (48, 0, 814, 23, 812), (49, 0, 830, 23, 828), (50, 0, 805, 23, 803), (51, 0, 433, 23, 431), (52, 0, 345, 23, 343), (53, 0, 350, 23, 348), (54, 0, 449, 23, 447), (55, 0, 453, 23, 451), (56, 0, 457, 23, 455), (57, 0, 42, 22, 41), (58, 0, 766, 22, 764), (59, 0, 777, 22, 775), (60, 0, 757, 22, 755), (61, 0, 786, 22, 784), (62, 0, 794, 22, 792), (63, 0, 809, 22, 807), (64, 0, 819, 22, 817), (65, 0, 825, 22, 823), (66, 0, 602, 22, 600), (67, 0, 594, 22, 592), (68, 0, 630, 22, 628), (69, 0, 742, 22, 740), (70, 0, 418, 22, 416), (71, 0, 373, 22, 371), (72, 0, 410, 22, 408), (73, 0, 429, 22, 427), (74, 0, 440, 22, 438), (75, 0, 267, 22, 265), (76, 0, 467, 22, 465), (77, 0, 502, 22, 500), (78, 0, 575, 22, 573), (79, 0, 564, 22, 562), (80, 0, 475, 22, 473), (81, 0, 479, 22, 477), (82, 1, 353, 22, 352), (83, 1, 406, 22, 405), (84, 1, 341, 22, 340), (85, 1, 436, 22, 435), (86, 0, 381, 22, 380), (87, 0, 377, 22, 376), (88, 0, 799, 22, 798), (89, 1, 413, 22, 412), (90, 1, 470, 22, 469), (91, 1, 567, 22, 566), (92, 1, 270, 22, 269), (93, 1, 682, 22, 681), (94, 1, 59, 25, 58), (95, 1, 356, 21, 355), (96, 1, 360, 21, 359), (97, 1, 425, 21, 424), (98, 1, 460, 21, 459), (99, 1, 463, 21, 462), (100, 1, 498, 21, 497), (101, 1, 571, 21, 570), (102, 1, 369, 21, 368), (103, 1, 495, 21, 494), (104, 1, 492, 21, 491), (105, 1, 366, 21, 365), (106, 1, 363, 21, 362), (107, 1, 486, 21, 485), (108, 1, 489, 21, 488), (109, 1, 483, 21, 482), (110, 1, 626, 21, 625), (111, 1, 590, 21, 589), (112, 1, 738, 21, 737), (113, 1, 790, 21, 789), (114, 1, 587, 21, 586)]
theorem wMet_ok : wMetX.all (fun e => decide (lw_tbl[e.2.2.2.1]? = some (.initialized (mY e.1).cls)) && (match e.2.1 with | 1 => decide (lw_tbl[e.2.2.2.2]? = some (.static (mY e.1))) | _ => decide (lw_tbl[e.2.2.2.2]? = some (.instanceMethod (mY e.1)))) && decide ((mY e.1).cls = oName (mO e.1)) && decide ((mY e.1).cls ≠ "java/lang/invoke/MethodHandle") && decide ((mY e.1).cls ≠ "java/lang/invoke/VarHandle") && plainName (mY e.1).cls) = true := by decide +kernel
set_option maxRecDepth 100000 in
theorem cw_0 : lw_tbl[202]? = some (cdW 0) := rfl
set_option maxRecDepth 100000 in
theorem cw_1 : lw_tbl[648]? = some (cdW 1) := rfl
set_option maxRecDepth 100000 in
theorem cw_2 : lw_tbl[663]? = some (cdW 2) := rfl
set_option maxRecDepth 100000 in
theorem cw_3 : lw_tbl[721]? = some (cdW 3) := rfl
set_option maxRecDepth 100000 in
theorem cw_4 : lw_tbl[667]? = some (cdW 4) := rfl
set_option maxRecDepth 100000 in
theorem cw_5 : lw_tbl[671]? = some (cdW 5) := rfl
set_option maxRecDepth 100000 in
theorem cw_6 : lw_tbl[679]? = some (cdW 6) := rfl
set_option maxRecDepth 100000 in
theorem cw_7 : lw_tbl[675]? = some (cdW 7) := rfl
set_option maxRecDepth 100000 in
theorem cw_8 : lw_tbl[188]? = some (cdW 8) := rfl
set_option maxRecDepth 100000 in
theorem cw_9 : lw_tbl[623]? = some (cdW 9) := rfl
set_option maxRecDepth 100000 in
theorem cw_10 : lw_tbl[598]? = some (cdW 10) := rfl
set_option maxRecDepth 100000 in
theorem cw_11 : lw_tbl[638]? = some (cdW 11) := rfl
set_option maxRecDepth 100000 in
theorem cw_12 : lw_tbl[634]? = some (cdW 12) := rfl
set_option maxRecDepth 100000 in
theorem cw_13 : lw_tbl[146]? = some (cdW 13) := rfl
set_option maxRecDepth 100000 in
theorem cw_14 : lw_tbl[730]? = some (cdW 14) := rfl
set_option maxRecDepth 100000 in
theorem cw_15 : lw_tbl[166]? = some (cdW 15) := rfl
set_option maxRecDepth 100000 in
theorem cw_16 : lw_tbl[582]? = some (cdW 16) := rfl
set_option maxRecDepth 100000 in
theorem cw_17 : lw_tbl[551]? = some (cdW 17) := rfl
set_option maxRecDepth 100000 in
theorem cw_18 : lw_tbl[510]? = some (cdW 18) := rfl
set_option maxRecDepth 100000 in
theorem cw_19 : lw_tbl[532]? = some (cdW 19) := rfl
set_option maxRecDepth 100000 in
theorem cw_20 : lw_tbl[536]? = some (cdW 20) := rfl
set_option maxRecDepth 100000 in
theorem cw_21 : lw_tbl[544]? = some (cdW 21) := rfl
set_option maxRecDepth 100000 in
theorem cw_22 : lw_tbl[556]? = some (cdW 22) := rfl
set_option maxRecDepth 100000 in
theorem cw_23 : lw_tbl[560]? = some (cdW 23) := rfl
set_option maxRecDepth 100000 in
theorem cw_24 : lw_tbl[540]? = some (cdW 24) := rfl
set_option maxRecDepth 100000 in
theorem cw_25 : lw_tbl[224]? = some (cdW 25) := rfl
set_option maxRecDepth 100000 in
theorem cw_26 : lw_tbl[654]? = some (cdW 26) := rfl
set_option maxRecDepth 100000 in
theorem cw_27 : lw_tbl[687]? = some (cdW 27) := rfl
set_option maxRecDepth 100000 in
theorem cw_28 : lw_tbl[700]? = some (cdW 28) := rfl
set_option maxRecDepth 100000 in
theorem cw_29 : lw_tbl[747]? = some (cdW 29) := rfl
set_option maxRecDepth 100000 in
theorem cw_30 : lw_tbl[691]? = some (cdW 30) := rfl
set_option maxRecDepth 100000 in
theorem cw_31 : lw_tbl[696]? = some (cdW 31) := rfl
set_option maxRecDepth 100000 in
theorem cw_32 : lw_tbl[708]? = some (cdW 32) := rfl
set_option maxRecDepth 100000 in
theorem cw_33 : lw_tbl[712]? = some (cdW 33) := rfl
set_option maxRecDepth 100000 in
theorem cw_34 : lw_tbl[704]? = some (cdW 34) := rfl
set_option maxRecDepth 100000 in
theorem cw_35 : lw_tbl[50]? = some (cdW 35) := rfl
set_option maxRecDepth 100000 in
theorem cw_36 : lw_tbl[506]? = some (cdW 36) := rfl
set_option maxRecDepth 100000 in
theorem cw_37 : lw_tbl[735]? = some (cdW 37) := rfl
set_option maxRecDepth 100000 in
theorem cw_38 : lw_tbl[753]? = some (cdW 38) := rfl
set_option maxRecDepth 100000 in
theorem cw_39 : lw_tbl[445]? = some (cdW 39) := rfl
set_option maxRecDepth 100000 in
theorem cw_40 : lw_tbl[522]? = some (cdW 40) := rfl
set_option maxRecDepth 100000 in
theorem cw_41 : lw_tbl[422]? = some (cdW 41) := rfl
set_option maxRecDepth 100000 in
theorem cw_42 : lw_tbl[403]? = some (cdW 42) := rfl
set_option maxRecDepth 100000 in
theorem cw_43 : lw_tbl[773]? = some (cdW 43) := rfl
set_option maxRecDepth 100000 in
theorem cw_44 : lw_tbl[782]? = some (cdW 44) := rfl
set_option maxRecDepth 100000 in
theorem cw_45 : lw_tbl[514]? = some (cdW 45) := rfl
set_option maxRecDepth 100000 in
theorem cw_46 : lw_tbl[518]? = some (cdW 46) := rfl
set_option maxRecDepth 100000 in
theorem cw_47 : lw_tbl[527]? = some (cdW 47) := rfl
set_option maxRecDepth 100000 in
theorem cw_48 : lw_tbl[814]? = some (cdW 48) := rfl
set_option maxRecDepth 100000 in
theorem cw_49 : lw_tbl[830]? = some (cdW 49) := rfl
set_option maxRecDepth 100000 in
theorem cw_50 : lw_tbl[805]? = some (cdW 50) := rfl
set_option maxRecDepth 100000 in
theorem cw_51 : lw_tbl[433]? = some (cdW 51) := rfl
set_option maxRecDepth 100000 in
theorem cw_52 : lw_tbl[345]? = some (cdW 52) := rfl
set_option maxRecDepth 100000 in
theorem cw_53 : lw_tbl[350]? = some (cdW 53) := rfl
set_option maxRecDepth 100000 in
theorem cw_54 : lw_tbl[449]? = some (cdW 54) := rfl
set_option maxRecDepth 100000 in
theorem cw_55 : lw_tbl[453]? = some (cdW 55) := rfl
set_option maxRecDepth 100000 in
theorem cw_56 : lw_tbl[457]? = some (cdW 56) := rfl
set_option maxRecDepth 100000 in
theorem cw_57 : lw_tbl[42]? = some (cdW 57) := rfl
set_option maxRecDepth 100000 in
theorem cw_58 : lw_tbl[766]? = some (cdW 58) := rfl
set_option maxRecDepth 100000 in
theorem cw_59 : lw_tbl[777]? = some (cdW 59) := rfl
set_option maxRecDepth 100000 in
theorem cw_60 : lw_tbl[757]? = some (cdW 60) := rfl
set_option maxRecDepth 100000 in
theorem cw_61 : lw_tbl[786]? = some (cdW 61) := rfl
set_option maxRecDepth 100000 in
theorem cw_62 : lw_tbl[794]? = some (cdW 62) := rfl
set_option maxRecDepth 100000 in
theorem cw_63 : lw_tbl[809]? = some (cdW 63) := rfl
set_option maxRecDepth 100000 in
theorem cw_64 : lw_tbl[819]? = some (cdW 64) := rfl
set_option maxRecDepth 100000 in
theorem cw_65 : lw_tbl[825]? = some (cdW 65) := rfl
set_option maxRecDepth 100000 in
theorem cw_66 : lw_tbl[602]? = some (cdW 66) := rfl
set_option maxRecDepth 100000 in
theorem cw_67 : lw_tbl[594]? = some (cdW 67) := rfl
set_option maxRecDepth 100000 in
theorem cw_68 : lw_tbl[630]? = some (cdW 68) := rfl
set_option maxRecDepth 100000 in
theorem cw_69 : lw_tbl[742]? = some (cdW 69) := rfl
set_option maxRecDepth 100000 in
theorem cw_70 : lw_tbl[418]? = some (cdW 70) := rfl
set_option maxRecDepth 100000 in
theorem cw_71 : lw_tbl[373]? = some (cdW 71) := rfl
set_option maxRecDepth 100000 in
theorem cw_72 : lw_tbl[410]? = some (cdW 72) := rfl
set_option maxRecDepth 100000 in
theorem cw_73 : lw_tbl[429]? = some (cdW 73) := rfl
set_option maxRecDepth 100000 in
theorem cw_74 : lw_tbl[440]? = some (cdW 74) := rfl
set_option maxRecDepth 100000 in
theorem cw_75 : lw_tbl[267]? = some (cdW 75) := rfl
set_option maxRecDepth 100000 in
theorem cw_76 : lw_tbl[467]? = some (cdW 76) := rfl
set_option maxRecDepth 100000 in
theorem cw_77 : lw_tbl[502]? = some (cdW 77) := rfl
set_option maxRecDepth 100000 in
theorem cw_78 : lw_tbl[575]? = some (cdW 78) := rfl
set_option maxRecDepth 100000 in
theorem cw_79 : lw_tbl[564]? = some (cdW 79) := rfl
set_option maxRecDepth 100000 in
theorem cw_80 : lw_tbl[475]? = some (cdW 80) := rfl
set_option maxRecDepth 100000 in
theorem cw_81 : lw_tbl[479]? = some (cdW 81) := rfl
set_option maxRecDepth 100000 in
theorem cw_82 : lw_tbl[353]? = some (cdW 82) := rfl
set_option maxRecDepth 100000 in
theorem cw_83 : lw_tbl[406]? = some (cdW 83) := rfl
set_option maxRecDepth 100000 in
theorem cw_84 : lw_tbl[341]? = some (cdW 84) := rfl
set_option maxRecDepth 100000 in
theorem cw_85 : lw_tbl[436]? = some (cdW 85) := rfl
set_option maxRecDepth 100000 in
theorem cw_86 : lw_tbl[381]? = some (cdW 86) := rfl
set_option maxRecDepth 100000 in
theorem cw_87 : lw_tbl[377]? = some (cdW 87) := rfl
set_option maxRecDepth 100000 in
theorem cw_88 : lw_tbl[799]? = some (cdW 88) := rfl
set_option maxRecDepth 100000 in
theorem cw_89 : lw_tbl[413]? = some (cdW 89) := rfl
set_option maxRecDepth 100000 in
theorem cw_90 : lw_tbl[470]? = some (cdW 90) := rfl
set_option maxRecDepth 100000 in
theorem cw_91 : lw_tbl[567]? = some (cdW 91) := rfl
set_option maxRecDepth 100000 in
theorem cw_92 : lw_tbl[270]? = some (cdW 92) := rfl
set_option maxRecDepth 100000 in
theorem cw_93 : lw_tbl[682]? = some (cdW 93) := rfl
set_option maxRecDepth 100000 in
theorem cw_94 : lw_tbl[59]? = some (cdW 94) := rfl
set_option maxRecDepth 100000 in
theorem cw_95 : lw_tbl[356]? = some (cdW 95) := rfl
set_option maxRecDepth 100000 in
theorem cw_96 : lw_tbl[360]? = some (cdW 96) := rfl
set_option maxRecDepth 100000 in
theorem cw_97 : lw_tbl[425]? = some (cdW 97) := rfl
set_option maxRecDepth 100000 in
theorem cw_98 : lw_tbl[460]? = some (cdW 98) := rfl
set_option maxRecDepth 100000 in
theorem cw_99 : lw_tbl[463]? = some (cdW 99) := rfl
set_option maxRecDepth 100000 in
theorem cw_100 : lw_tbl[498]? = some (cdW 100) := rfl
set_option maxRecDepth 100000 in
theorem cw_101 : lw_tbl[571]? = some (cdW 101) := rfl
set_option maxRecDepth 100000 in
theorem cw_102 : lw_tbl[369]? = some (cdW 102) := rfl
set_option maxRecDepth 100000 in
theorem cw_103 : lw_tbl[495]? = some (cdW 103) := rfl
set_option maxRecDepth 100000 in
theorem cw_104 : lw_tbl[492]? = some (cdW 104) := rfl
set_option maxRecDepth 100000 in
theorem cw_105 : lw_tbl[366]? = some (cdW 105) := rfl
set_option maxRecDepth 100000 in
theorem cw_106 : lw_tbl[363]? = some (cdW 106) := rfl
set_option maxRecDepth 100000 in
theorem cw_107 : lw_tbl[486]? = some (cdW 107) := rfl
set_option maxRecDepth 100000 in
theorem cw_108 : lw_tbl[489]? = some (cdW 108) := rfl
set_option maxRecDepth 100000 in
theorem cw_109 : lw_tbl[483]? = some (cdW 109) := rfl
set_option maxRecDepth 100000 in
theorem cw_110 : lw_tbl[626]? = some (cdW 110) := rfl
set_option maxRecDepth 100000 in
theorem cw_111 : lw_tbl[590]? = some (cdW 111) := rfl
set_option maxRecDepth 100000 in
theorem cw_112 : lw_tbl[738]? = some (cdW 112) := rfl
set_option maxRecDepth 100000 in
theorem cw_113 : lw_tbl[790]? = some (cdW 113) := rfl
set_option maxRecDepth 100000 in
theorem cw_114 : lw_tbl[587]? = some (cdW 114) := rfl
theorem cwc_0 : ∀ M ∈ [0, 1, 2, 3, 4, 5, 6, 7, 8, 9, 10, 11, 12, 13, 14, 15], cdW M ∈ lw_tbl := (List.forall_mem_cons.mpr ⟨List.mem_of_getElem? cw_0, (List.forall_mem_cons.mpr ⟨List.mem_of_getElem? cw_1, (List.forall_mem_cons.mpr ⟨List.mem_of_getElem? cw_2, (List.forall_mem_cons.mpr ⟨List.mem_of_getElem? cw_3, (List.forall_mem_cons.mpr ⟨List.mem_of_getElem? cw_4, (List.forall_mem_cons.mpr ⟨List.mem_of_getElem? cw_5, (List.forall_mem_cons.mpr ⟨List.mem_of_getElem? cw_6, (List.forall_mem_cons.mpr ⟨List.mem_of_getElem? cw_7, (List.forall_mem_cons.mpr ⟨List.mem_of_getElem? cw_8, (List.forall_mem_cons.mpr ⟨List.mem_of_getElem? cw_9, (List.forall_mem_cons.mpr ⟨List.mem_of_getElem? cw_10, (List.forall_mem_cons.mpr ⟨List.mem_of_getElem? cw_11, (List.forall_mem_cons.mpr ⟨List.mem_of_getElem? cw_12, (List.forall_mem_cons.mpr ⟨List.mem_of_getElem? cw_13, (List.forall_mem_cons.mpr ⟨List.mem_of_getElem? cw_14, (List.forall_mem_cons.mpr ⟨List.mem_of_getElem? cw_15, (fun _ h => absurd h List.not_mem_nil)⟩)⟩)⟩)⟩)⟩)⟩)⟩)⟩)⟩)⟩)⟩)⟩)⟩)⟩)⟩)⟩)
theorem cwc_1 : ∀ M ∈ [16, 17, 18, 19, 20, 21, 22, 23, 24, 25, 26, 27, 28, 29, 30, 31], cdW M ∈ lw_tbl := (List.forall_mem_cons.mpr ⟨List.mem_of_getElem? cw_16, (List.forall_mem_cons.mpr ⟨List.mem_of_getElem? cw_17, (List.forall_mem_cons.mpr ⟨List.mem_of_getElem? cw_18, (List.forall_mem_cons.mpr ⟨List.mem_of_getElem? cw_19, (List.forall_mem_cons.mpr ⟨List.mem_of_getElem? cw_20, (List.forall_mem_cons.mpr ⟨List.mem_of_getElem? cw_21, (List.forall_mem_cons.mpr ⟨List.mem_of_getElem? cw_22, (List.forall_mem_cons.mpr ⟨List.mem_of_getElem? cw_23, (List.forall_mem_cons.mpr ⟨List.mem_of_getElem? cw_24, (List.forall_mem_cons.mpr ⟨List.mem_of_getElem? cw_25, (List.forall_mem_cons.mpr ⟨List.mem_of_getElem? cw_26, (List.forall_mem_cons.mpr ⟨List.mem_of_getElem? cw_27, (List.forall_mem_cons.mpr ⟨List.mem_of_getElem? cw_28, (List.forall_mem_cons.mpr ⟨List.mem_of_getElem? cw_29, (List.forall_mem_cons.mpr ⟨List.mem_of_getElem? cw_30, (List.forall_mem_cons.mpr ⟨List.mem_of_getElem? cw_31, (fun _ h => absurd h List.not_mem_nil)⟩)⟩)⟩)⟩)⟩)⟩)⟩)⟩)⟩)⟩)⟩)⟩)⟩)⟩)⟩)⟩)
theorem cwc_2 : ∀ M ∈ [32, 33, 34, 35, 36, 37, 38, 39, 40, 41, 42, 43, 44, 45, 46, 47], cdW M ∈ lw_tbl := (List.forall_mem_cons.mpr ⟨List.mem_of_getElem? cw_32, (List.forall_mem_cons.mpr ⟨List.mem_of_getElem? cw_33, (List.forall_mem_cons.mpr ⟨List.mem_of_getElem? cw_34, (List.forall_mem_cons.mpr ⟨List.mem_of_getElem? cw_35, (List.forall_mem_cons.mpr ⟨List.mem_of_getElem? cw_36, (List.forall_mem_cons.mpr ⟨List.mem_of_getElem? cw_37, (List.forall_mem_cons.mpr ⟨List.mem_of_getElem? cw_38, (List.forall_mem_cons.mpr ⟨List.mem_of_getElem? cw_39, (List.forall_mem_cons.mpr ⟨List.mem_of_getElem? cw_40, (List.forall_mem_cons.mpr ⟨List.mem_of_getElem? cw_41, (List.forall_mem_cons.mpr ⟨List.mem_of_getElem? cw_42, (List.forall_mem_cons.mpr ⟨List.mem_of_getElem? cw_43, (List.forall_mem_cons.mpr ⟨List.mem_of_getElem? cw_44, (List.forall_mem_cons.mpr ⟨List.mem_of_getElem? cw_45, (List.forall_mem_cons.mpr ⟨List.mem_of_getElem? cw_46, (List.forall_mem_cons.mpr ⟨List.mem_of_getElem? cw_47, (fun _ h => absurd h List.not_mem_nil)⟩)⟩)⟩)⟩)⟩)⟩)⟩)⟩)⟩)⟩)⟩)⟩)⟩)⟩)⟩)⟩)
theorem cwc_3 : ∀ M ∈ [48, 49, 50, 51, 52, 53, 54, 55, 56, 57, 58, 59, 60, 61, 62, 63], cdW M ∈ lw_tbl := (List.forall_mem_cons.mpr ⟨List.mem_of_getElem? cw_48, (List.forall_mem_cons.mpr ⟨List.mem_of_getElem? cw_49, (List.forall_mem_cons.mpr ⟨List.mem_of_getElem? cw_50, (List.forall_mem_cons.mpr ⟨List.mem_of_getElem? cw_51, (List.forall_mem_cons.mpr ⟨List.mem_of_getElem? cw_52, (List.forall_mem_cons.mpr ⟨List.mem_of_getElem? cw_53, (List.forall_mem_cons.mpr ⟨List.mem_of_getElem? cw_54, (List.forall_mem_cons.mpr ⟨List.mem_of_getElem? cw_55, (List.forall_mem_cons.mpr ⟨List.mem_of_getElem? cw_56, (List.forall_mem_cons.mpr ⟨List.mem_of_getElem? cw_57, (List.forall_mem_cons.mpr ⟨List.mem_of_getElem? cw_58, (List.forall_mem_cons.mpr ⟨List.mem_of_getElem? cw_59, (List.forall_mem_cons.mpr ⟨List.mem_of_getElem? cw_60, (List.forall_mem_cons.mpr ⟨List.mem_of_getElem? cw_61, (List.forall_mem_cons.mpr ⟨List.mem_of_getElem? cw_62, (List.forall_mem_cons.mpr ⟨List.mem_of_getElem? cw_63, (fun _ h => absurd h List.not_mem_nil)⟩)⟩)⟩)⟩)⟩)⟩)⟩)⟩)⟩)⟩)⟩)⟩)⟩)⟩)⟩)⟩)
theorem cwc_4 : ∀ M ∈ [64, 65, 66, 67, 68, 69, 70, 71, 72, 73, 74, 75, 76, 77, 78, 79], cdW M ∈ lw_tbl := (List.forall_mem_cons.mpr ⟨List.mem_of_getElem? cw_64, (List.forall_mem_cons.mpr ⟨List.mem_of_getElem? cw_65, (List.forall_mem_cons.mpr ⟨List.mem_of_getElem? cw_66, (List.forall_mem_cons.mpr ⟨List.mem_of_getElem? cw_67, (List.forall_mem_cons.mpr ⟨List.mem_of_getElem? cw_68, (List.forall_mem_cons.mpr ⟨List.mem_of_getElem? cw_69, (List.forall_mem_cons.mpr ⟨List.mem_of_getElem? cw_70, (List.forall_mem_cons.mpr ⟨List.mem_of_getElem? cw_71, (List.forall_mem_cons.mpr ⟨List.mem_of_getElem? cw_72, (List.forall_mem_cons.mpr ⟨List.mem_of_getElem? cw_73, (List.forall_mem_cons.mpr ⟨List.mem_of_getElem? cw_74, (List.forall_mem_cons.mpr ⟨List.mem_of_getElem? cw_75, (List.forall_mem_cons.mpr ⟨List.mem_of_getElem? cw_76, (List.forall_mem_cons.mpr ⟨List.mem_of_getElem? cw_77, (List.forall_mem_cons.mpr ⟨List.mem_of_getElem? cw_78, (List.forall_mem_cons.mpr ⟨List.mem_of_getElem? cw_79, (fun _ h => absurd h List.not_mem_nil)⟩)⟩)⟩)⟩)⟩)⟩)⟩)⟩)⟩)⟩)⟩)⟩)⟩)⟩)⟩)⟩)
theorem cwc_5 : ∀ M ∈ [80, 81, 82, 83, 84, 85, 86, 87, 88, 89, 90, 91, 92, 93, 94, 95], cdW M ∈ lw_tbl := (List.forall_mem_cons.mpr ⟨List.mem_of_getElem? cw_80, (List.forall_mem_cons.mpr ⟨List.mem_of_getElem? cw_81, (List.forall_mem_cons.mpr ⟨List.mem_of_getElem? cw_82, (List.forall_mem_cons.mpr ⟨List.mem_of_getElem? cw_83, (List.forall_mem_cons.mpr ⟨List.mem_of_getElem? cw_84, (List.forall_mem_cons.mpr ⟨List.mem_of_getElem? cw_85, (List.forall_mem_cons.mpr ⟨List.mem_of_getElem? cw_86, (List.forall_mem_cons.mpr ⟨List.mem_of_getElem? cw_87, (List.forall_mem_cons.mpr ⟨List.mem_of_getElem? cw_88, (List.forall_mem_cons.mpr ⟨List.mem_of_getElem? cw_89, (List.forall_mem_cons.mpr ⟨List.mem_of_getElem? cw_90, (List.forall_mem_cons.mpr ⟨List.mem_of_getElem? cw_91, (List.forall_mem_cons.mpr ⟨List.mem_of_getElem? cw_92, (List.forall_mem_cons.mpr ⟨List.mem_of_getElem? cw_93, (List.forall_mem_cons.mpr ⟨List.mem_of_getElem? cw_94, (List.forall_mem_cons.mpr ⟨List.mem_of_getElem? cw_95, (fun _ h => absurd h List.not_mem_nil)⟩)⟩)⟩)⟩)⟩)⟩)⟩)⟩)⟩)⟩)⟩)⟩)⟩)⟩)⟩)⟩)
theorem cwc_6 : ∀ M ∈ [96, 97, 98, 99, 100, 101, 102, 103, 104, 105, 106, 107, 108, 109, 110, 111], cdW M ∈ lw_tbl := (List.forall_mem_cons.mpr ⟨List.mem_of_getElem? cw_96, (List.forall_mem_cons.mpr ⟨List.mem_of_getElem? cw_97, (List.forall_mem_cons.mpr ⟨List.mem_of_getElem? cw_98, (List.forall_mem_cons.mpr ⟨List.mem_of_getElem? cw_99, (List.forall_mem_cons.mpr ⟨List.mem_of_getElem? cw_100, (List.forall_mem_cons.mpr ⟨List.mem_of_getElem? cw_101, (List.forall_mem_cons.mpr ⟨List.mem_of_getElem? cw_102, (List.forall_mem_cons.mpr ⟨List.mem_of_getElem? cw_103, (List.forall_mem_cons.mpr ⟨List.mem_of_getElem? cw_104, (List.forall_mem_cons.mpr ⟨List.mem_of_getElem? cw_105, (List.forall_mem_cons.mpr ⟨List.mem_of_getElem? cw_106, (List.forall_mem_cons.mpr ⟨List.mem_of_getElem? cw_107, (List.forall_mem_cons.mpr ⟨List.mem_of_getElem? cw_108, (List.forall_mem_cons.mpr ⟨List.mem_of_getElem? cw_109, (List.forall_mem_cons.mpr ⟨List.mem_of_getElem? cw_110, (List.forall_mem_cons.mpr ⟨List.mem_of_getElem? cw_111, (fun _ h => absurd h List.not_mem_nil)⟩)⟩)⟩)⟩)⟩)⟩)⟩)⟩)⟩)⟩)⟩)⟩)⟩)⟩)⟩)⟩)
theorem cwc_7 : ∀ M ∈ [112, 113, 114], cdW M ∈ lw_tbl := (List.forall_mem_cons.mpr ⟨List.mem_of_getElem? cw_112, (List.forall_mem_cons.mpr ⟨List.mem_of_getElem? cw_113, (List.forall_mem_cons.mpr ⟨List.mem_of_getElem? cw_114, (fun _ h => absurd h List.not_mem_nil)⟩)⟩)⟩)
theorem cw_all : ∀ M, M < 115 → cdW M ∈ lw_tbl := by
  intro M h
  by_cases h0 : M < 16
  · exact cwc_0 M (by simp only [List.mem_cons, List.not_mem_nil, or_false]; omega)
  by_cases h1 : M < 32
  · exact cwc_1 M (by simp only [List.mem_cons, List.not_mem_nil, or_false]; omega)
  by_cases h2 : M < 48
  · exact cwc_2 M (by simp only [List.mem_cons, List.not_mem_nil, or_false]; omega)
  by_cases h3 : M < 64
  · exact cwc_3 M (by simp only [List.mem_cons, List.not_mem_nil, or_false]; omega)
  by_cases h4 : M < 80
  · exact cwc_4 M (by simp only [List.mem_cons, List.not_mem_nil, or_false]; omega)
  by_cases h5 : M < 96
  · exact cwc_5 M (by simp only [List.mem_cons, List.not_mem_nil, or_false]; omega)
  by_cases h6 : M < 112
  · exact cwc_6 M (by simp only [List.mem_cons, List.not_mem_nil, or_false]; omega)
  exact cwc_7 M (by simp only [List.mem_cons, List.not_mem_nil, or_false]; omega)
def wCsX : List (((Nat × Nat) × (Nat × Nat)) × (Nat × Nat × Nat)) := [(((0, 40), (93, 1)), (1, 680, 0)), (((5, 43), (84, 3)), (1, 748, 0)), (((5, 47), (93, 1)), (1, 692, 0)), (((6, 70), (94, 2)), (0, 57, 0)), (((6, 85), (82, 2)), (1, 351, 0)), (((6, 121), (83, 2)), (1, 528, 0)), (((6, 128), (84, 3)), (1, 346, 0)), (((7, 81), (82, 2)), (0, 399, 0)), (((7, 111), (90, 1)), (0, 468, 0)), (((7, 125), (91, 1)), (0, 565, 0)), (((7, 141), (89, 1)), (0, 411, 0)), (((7, 149), (83, 2)), (0, 404, 0)), (((7, 241), (92, 2)), (0, 268, 0)), (((7, 247), (84, 3)), (0, 339, 0)), (((7, 272), (85, 2)), (0, 434, 0)), (((9, 8), (97, 2)), (0, 423, 0)), (((9, 14), (99, 4)), (0, 461, 0)), (((9, 18), (103, 5)), (0, 493, 0)), (((9, 22), (98, 3)), (0, 458, 0)), (((9, 26), (100, 5)), (0, 496, 0)), (((9, 30), (102, 2)), (0, 367, 0)), (((9, 48), (105, 6)), (0, 364, 0)), (((9, 55), (96, 2)), (0, 358, 0)), (((9, 76), (107, 2)), (0, 484, 0)), (((9, 80), (108, 2)), (0, 487, 0)), (((9, 84), (104, 6)), (0, 490, 0)), (((9, 93), (101, 3)), (0, 569, 0)), (((9, 105), (110, 2)), (0, 624, 0)), (((9, 128), (111, 5)), (0, 588, 0)), (((9, 132), (112, 5)), (0, 736, 0)), (((9, 147), (113, 11)), (0, 788, 0)), (((9, 152), (106, 10)), (0, 361, 0)), (((9, 156), (109, 8)), (0, 481, 0)), (((9, 160), (95, 2)), (0, 354, 0)), (((9, 164), (114, 12)), (0, 585, 0))]
theorem wCs_ok : wCsX.all (fun e => (match e.2.1 with | 0 => decide (lw_tbl[e.2.2.1]? = some (.methodLink (oName e.1.1.1) e.1.1.2 (mY e.1.2.1))) | _ => decide (lw_tbl[e.2.2.1]? = some (.methodLinkNest (oName e.1.1.1) e.1.1.2 (mY e.1.2.1) "ModuleYard"))) && decide ((parseMethodDescriptor (mY e.1.2.1).desc).map (fun d => d.parameters.length) = some e.1.2.2) && (wMetX.any (fun q => Nat.beq q.1 e.1.2.1 && Nat.beq q.2.1 1)) && (Nat.beq e.2.1 0 || mHh e.1.2.1 == [])) = true := by decide +kernel
theorem wCs_fst : wCsX.map (fun e => e.1) = calSL := by decide +kernel
def wCvX : List (((Nat × Nat) × (Nat × Nat)) × (Nat × Nat × Nat)) := [(((0, 25), (4, 1)), (0, 664, 11)), (((0, 29), (5, 0)), (0, 668, 12)), (((0, 33), (6, 1)), (0, 676, 14)), (((0, 36), (7, 0)), (0, 672, 13)), (((1, 28), (11, 1)), (0, 635, 637)), (((2, 25), (36, 1)), (0, 731, 505)), (((3, 24), (24, 0)), (0, 537, 7)), (((3, 40), (23, 2)), (0, 557, 10)), (((3, 44), (41, 2)), (0, 552, 421)), (((3, 48), (22, 3)), (0, 553, 9)), (((3, 52), (45, 0)), (0, 511, 513)), (((3, 59), (19, 1)), (0, 529, 5)), (((3, 63), (20, 1)), (0, 533, 6)), (((3, 66), (21, 2)), (0, 541, 8)), (((3, 78), (17, 3)), (0, 548, 550)), (((5, 25), (30, 1)), (0, 688, 15)), (((5, 29), (31, 0)), (0, 693, 16)), (((5, 33), (32, 1)), (0, 705, 18)), (((5, 36), (33, 1)), (0, 709, 19)), (((5, 39), (34, 0)), (0, 701, 17)), (((5, 50), (28, 0)), (0, 697, 699)), (((6, 105), (39, 1)), (0, 523, 444)), (((6, 109), (46, 1)), (0, 515, 3)), (((6, 113), (47, 1)), (0, 524, 4)), (((6, 117), (40, 2)), (0, 519, 521)), (((6, 124), (50, 3)), (0, 815, 804)), (((7, 54), (86, 1)), (0, 378, 2)), (((7, 85), (16, 1)), (0, 579, 581)), (((7, 89), (17, 3)), (0, 583, 550)), (((7, 95), (14, 1)), (0, 727, 729)), (((7, 98), (43, 2)), (0, 770, 772)), (((7, 107), (44, 1)), (0, 779, 781)), (((7, 130), (52, 0)), (0, 342, 344)), (((7, 134), (18, 2)), (0, 507, 509)), (((7, 138), (87, 2)), (0, 374, 1)), (((7, 146), (88, 2)), (0, 796, 20)), (((7, 157), (50, 3)), (0, 802, 804)), (((7, 171), (48, 4)), (0, 811, 813)), (((7, 184), (49, 1)), (0, 827, 829)), (((7, 194), (9, 1)), (0, 620, 622)), (((7, 197), (10, 0)), (0, 595, 597)), (((7, 204), (12, 1)), (0, 631, 633)), (((7, 215), (37, 1)), (0, 732, 734)), (((7, 221), (29, 0)), (0, 744, 746)), (((7, 226), (38, 1)), (0, 750, 752)), (((7, 251), (41, 2)), (0, 419, 421)), (((7, 257), (42, 2)), (0, 400, 402)), (((7, 269), (51, 2)), (0, 430, 432)), (((7, 278), (39, 1)), (0, 442, 444)), (((7, 281), (54, 1)), (0, 446, 448)), (((7, 284), (55, 1)), (0, 450, 452)), (((7, 287), (56, 1)), (0, 454, 456)), (((7, 293), (53, 0)), (0, 347, 349)), (((7, 296), (36, 1)), (0, 503, 505)), (((7, 299), (40, 2)), (0, 584, 521)), (((7, 303), (75, 1)), (0, 480, 266)), (((9, 34), (71, 3)), (0, 370, 372)), (((9, 40), (72, 4)), (0, 407, 409)), (((9, 44), (70, 2)), (0, 415, 417)), (((9, 52), (73, 2)), (0, 426, 428)), (((9, 58), (74, 2)), (0, 437, 439)), (((9, 61), (76, 1)), (0, 464, 466)), (((9, 65), (75, 1)), (0, 264, 266)), (((9, 68), (80, 0)), (0, 472, 474)), (((9, 72), (81, 0)), (0, 476, 478)), (((9, 87), (77, 0)), (0, 499, 501)), (((9, 90), (79, 2)), (0, 561, 563)), (((9, 96), (78, 1)), (0, 572, 574)), (((9, 99), (66, 1)), (0, 599, 601)), (((9, 102), (67, 0)), (0, 591, 593)), (((9, 109), (68, 0)), (0, 627, 629)), (((9, 112), (69, 0)), (0, 739, 741)), (((9, 115), (62, 4)), (0, 791, 793)), (((9, 118), (63, 4)), (0, 806, 808)), (((9, 121), (64, 5)), (0, 816, 818)), (((9, 125), (65, 2)), (0, 822, 824)), (((9, 135), (60, 2)), (0, 754, 756)), (((9, 138), (58, 2)), (0, 763, 765)), (((9, 141), (59, 1)), (0, 774, 776)), (((9, 144), (61, 1)), (0, 783, 785))]
theorem wCv_ok : wCvX.all (fun e => (match e.2.1 with | 0 => decide (lw_tbl[e.2.2.1]? = some (.methodLink (oName e.1.1.1) e.1.1.2 (mY e.1.2.1))) | _ => decide (lw_tbl[e.2.2.1]? = some (.methodLinkNest (oName e.1.1.1) e.1.1.2 (mY e.1.2.1) "ModuleYard"))) && decide ((parseMethodDescriptor (mY e.1.2.1).desc).map (fun d => d.parameters.length) = some e.1.2.2) && (wMetX.any (fun q => Nat.beq q.1 e.1.2.1 && Nat.beq q.2.1 0)) && decide ((mY e.1.2.1).name ≠ "<init>") && Nat.beq e.2.1 0 && decide (lw_tbl[e.2.2.2]? = some (.selects (mY e.1.2.1).cls (mY e.1.2.1) (mY e.1.2.1))) && decide (vwCl[oKd (mO e.1.2.1) - 4]?.map (fun q => q.1) = some (mY e.1.2.1).cls) && Nat.ble 4 (oKd (mO e.1.2.1)) && Nat.ble (oKd (mO e.1.2.1)) 10 && mHh e.1.2.1 == []) = true := by decide +kernel
theorem wCv_fst : wCvX.map (fun e => e.1) = calVL := by decide +kernel
def wCiX : List (((Nat × Nat) × (Nat × Nat)) × (Nat × Nat × Nat)) := [(((2, 17), (35, 0)), (0, 150, 0)), (((7, 11), (35, 0)), (0, 48, 0)), (((7, 21), (13, 0)), (0, 144, 0)), (((7, 28), (15, 0)), (1, 164, 0)), (((7, 35), (8, 0)), (1, 186, 0)), (((7, 42), (0, 0)), (1, 200, 0)), (((7, 49), (25, 0)), (1, 222, 0)), (((9, 151), (57, 0)), (0, 40, 0))]
theorem wCi_ok : wCiX.all (fun e => (match e.2.1 with | 0 => decide (lw_tbl[e.2.2.1]? = some (.methodLink (oName e.1.1.1) e.1.1.2 (mY e.1.2.1))) | _ => decide (lw_tbl[e.2.2.1]? = some (.methodLinkNest (oName e.1.1.1) e.1.1.2 (mY e.1.2.1) "ModuleYard"))) && decide ((parseMethodDescriptor (mY e.1.2.1).desc).map (fun d => d.parameters.length) = some e.1.2.2) && (wMetX.any (fun q => Nat.beq q.1 e.1.2.1 && Nat.beq q.2.1 0)) && decide ((mY e.1.2.1).name = "<init>") && mHh e.1.2.1 == [] && decide (mRet e.1.2.1 = none) && Nat.ble 4 (oKd (mO e.1.2.1)) && Nat.ble (oKd (mO e.1.2.1)) 10) = true := by decide +kernel
theorem wCi_fst : wCiX.map (fun e => e.1) = calIL := by decide +kernel
def wNewX : List (((Nat × Nat) × (Nat × Nat)) × (Nat × Nat × Nat)) := [(((2, 9), (9, 19)), (148, 47, 23)), (((7, 9), (9, 19)), (46, 47, 23)), (((7, 19), (6, 3)), (142, 143, 26)), (((7, 26), (7, 5)), (162, 163, 27)), (((7, 33), (5, 2)), (184, 185, 28)), (((7, 40), (4, 4)), (198, 199, 29)), (((7, 47), (8, 4)), (220, 221, 30)), (((9, 35), (10, 7)), (38, 39, 22))]
theorem wNew_ok : wNewX.all (fun e => decide (lw_tbl[e.2.1]? = some (.classLink (oName e.1.1.1) e.1.1.2 (clC (e.1.2.1 - 4)))) && decide (lw_tbl[e.2.2.1]? = some (.instantiable (clC (e.1.2.1 - 4)) e.1.2.2)) && decide (lw_tbl[e.2.2.2]? = some (.initialized (clC (e.1.2.1 - 4)))) && Nat.ble 4 e.1.2.1 && Nat.blt e.1.2.1 11 && Nat.beq (fN (e.1.2.1 - 4)) e.1.2.2) = true := by decide +kernel
theorem wNew_fst : wNewX.map (fun e => e.1) = newTL := by decide +kernel
