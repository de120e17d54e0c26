theorem arc_0 : Cond.arrayClass (tyN 0) ∈ gw := mgw ti_1 107 rfl rfl
theorem arc_1 : Cond.arrayClass (tyN 1) ∈ gw := mgw ti_1 106 rfl rfl
theorem arc_2 : Cond.arrayClass (tyN 2) ∈ gw := mgw ti_1 108 rfl rfl
theorem arc_3 : Cond.arrayClass (tyN 3) ∈ gw := mgw ti_7 96 rfl rfl
theorem fr0_0 : isRef (FT 0 0) = false := rfl
theorem ft0_0 : FT 0 0 = .int := rfl
theorem fr0_1 : isRef (FT 0 1) = false := rfl
theorem ft0_1 : FT 0 1 = .int := rfl
theorem fr0_2 : isRef (FT 0 2) = true := rfl
theorem fr1_0 : isRef (FT 1 0) = true := rfl
theorem fr1_1 : isRef (FT 1 1) = true := rfl
theorem fr1_2 : isRef (FT 1 2) = true := rfl
theorem fr1_3 : isRef (FT 1 3) = true := rfl
theorem fr1_4 : isRef (FT 1 4) = false := rfl
theorem ft1_4 : FT 1 4 = .int := rfl
theorem fr1_5 : isRef (FT 1 5) = false := rfl
theorem ft1_5 : FT 1 5 = .int := rfl
theorem fr2_0 : isRef (FT 2 0) = true := rfl
theorem fr2_1 : isRef (FT 2 1) = true := rfl
theorem fr2_2 : isRef (FT 2 2) = true := rfl
theorem fr2_3 : isRef (FT 2 3) = false := rfl
theorem ft2_3 : FT 2 3 = .int := rfl
theorem fr2_4 : isRef (FT 2 4) = false := rfl
theorem ft2_4 : FT 2 4 = .int := rfl
theorem fr2_5 : isRef (FT 2 5) = false := rfl
theorem ft2_5 : FT 2 5 = .int := rfl
theorem fr2_6 : isRef (FT 2 6) = false := rfl
theorem ft2_6 : FT 2 6 = .int := rfl
theorem fr2_7 : isRef (FT 2 7) = false := rfl
theorem ft2_7 : FT 2 7 = .boolean := rfl
theorem fr2_8 : isRef (FT 2 8) = false := rfl
theorem ft2_8 : FT 2 8 = .boolean := rfl
theorem fr2_9 : isRef (FT 2 9) = false := rfl
theorem ft2_9 : FT 2 9 = .boolean := rfl
theorem fr3_0 : isRef (FT 3 0) = true := rfl
theorem fr4_0 : isRef (FT 4 0) = true := rfl
theorem fr4_1 : isRef (FT 4 1) = true := rfl
theorem fr4_2 : isRef (FT 4 2) = true := rfl
theorem fr4_3 : isRef (FT 4 3) = true := rfl
theorem fr4_4 : isRef (FT 4 4) = true := rfl
theorem fr4_5 : isRef (FT 4 5) = true := rfl
theorem fr4_6 : isRef (FT 4 6) = true := rfl
theorem fr4_7 : isRef (FT 4 7) = false := rfl
theorem ft4_7 : FT 4 7 = .int := rfl
theorem fr4_8 : isRef (FT 4 8) = false := rfl
theorem ft4_8 : FT 4 8 = .int := rfl
theorem fr5_0 : isRef (FT 5 0) = true := rfl
theorem fr5_1 : isRef (FT 5 1) = false := rfl
theorem ft5_1 : FT 5 1 = .int := rfl
theorem fr5_2 : isRef (FT 5 2) = true := rfl
theorem fr5_3 : isRef (FT 5 3) = true := rfl
theorem fr6_0 : isRef (FT 6 0) = true := rfl
theorem fr6_1 : isRef (FT 6 1) = false := rfl
theorem ft6_1 : FT 6 1 = .int := rfl
theorem fr6_2 : isRef (FT 6 2) = false := rfl
theorem ft6_2 : FT 6 2 = .int := rfl
theorem fr6_3 : isRef (FT 6 3) = false := rfl
theorem ft6_3 : FT 6 3 = .boolean := rfl
theorem fr7_0 : isRef (FT 7 0) = true := rfl
theorem fr8_0 : isRef (FT 8 0) = true := rfl
theorem fr8_1 : isRef (FT 8 1) = true := rfl
theorem fr8_2 : isRef (FT 8 2) = true := rfl
theorem fr8_3 : isRef (FT 8 3) = true := rfl
theorem fr8_4 : isRef (FT 8 4) = false := rfl
theorem ft8_4 : FT 8 4 = .int := rfl
theorem fr8_5 : isRef (FT 8 5) = false := rfl
theorem ft8_5 : FT 8 5 = .int := rfl
theorem fr8_6 : isRef (FT 8 6) = false := rfl
theorem ft8_6 : FT 8 6 = .int := rfl
theorem fr9_0 : isRef (FT 9 0) = true := rfl
theorem fr9_1 : isRef (FT 9 1) = true := rfl
theorem fr9_2 : isRef (FT 9 2) = true := rfl
theorem fr9_3 : isRef (FT 9 3) = true := rfl
theorem fr9_4 : isRef (FT 9 4) = false := rfl
theorem ft9_4 : FT 9 4 = .int := rfl
theorem fr10_0 : isRef (FT 10 0) = true := rfl
theorem fr10_1 : isRef (FT 10 1) = true := rfl
theorem fr10_2 : isRef (FT 10 2) = true := rfl
theorem fr10_3 : isRef (FT 10 3) = true := rfl
theorem fr10_4 : isRef (FT 10 4) = true := rfl
theorem fr10_5 : isRef (FT 10 5) = true := rfl
theorem fr10_6 : isRef (FT 10 6) = true := rfl
theorem fr10_7 : isRef (FT 10 7) = true := rfl
theorem fr10_8 : isRef (FT 10 8) = true := rfl
theorem fr10_9 : isRef (FT 10 9) = true := rfl
theorem fr10_10 : isRef (FT 10 10) = true := rfl
theorem fr10_11 : isRef (FT 10 11) = true := rfl
theorem fr10_12 : isRef (FT 10 12) = true := rfl
theorem fr10_13 : isRef (FT 10 13) = true := rfl
theorem fr10_14 : isRef (FT 10 14) = true := rfl
theorem fr10_15 : isRef (FT 10 15) = true := rfl
theorem fr10_16 : isRef (FT 10 16) = true := rfl
theorem fr11_0 : isRef (FT 11 0) = true := rfl
theorem fr11_1 : isRef (FT 11 1) = false := rfl
theorem ft11_1 : FT 11 1 = .int := rfl
theorem fr11_2 : isRef (FT 11 2) = false := rfl
theorem ft11_2 : FT 11 2 = .int := rfl
theorem fr11_3 : isRef (FT 11 3) = true := rfl
theorem fr11_4 : isRef (FT 11 4) = true := rfl
theorem fr11_5 : isRef (FT 11 5) = true := rfl
theorem fr11_6 : isRef (FT 11 6) = true := rfl
theorem fr11_7 : isRef (FT 11 7) = true := rfl
theorem fr11_8 : isRef (FT 11 8) = true := rfl
theorem fr11_9 : isRef (FT 11 9) = true := rfl
theorem fr11_10 : isRef (FT 11 10) = false := rfl
theorem ft11_10 : FT 11 10 = .boolean := rfl
theorem fr11_11 : isRef (FT 11 11) = true := rfl
theorem fr11_12 : isRef (FT 11 12) = true := rfl
theorem fr11_13 : isRef (FT 11 13) = true := rfl
theorem fr11_14 : isRef (FT 11 14) = true := rfl
theorem fr12_0 : isRef (FT 12 0) = false := rfl
theorem ft12_0 : FT 12 0 = .int := rfl
theorem fr12_1 : isRef (FT 12 1) = true := rfl
theorem fr12_2 : isRef (FT 12 2) = false := rfl
theorem ft12_2 : FT 12 2 = .int := rfl
theorem fr12_3 : isRef (FT 12 3) = true := rfl
theorem fr12_4 : isRef (FT 12 4) = false := rfl
theorem ft12_4 : FT 12 4 = .int := rfl
theorem fr12_5 : isRef (FT 12 5) = true := rfl
theorem fr12_6 : isRef (FT 12 6) = true := rfl
theorem fr12_7 : isRef (FT 12 7) = true := rfl
theorem fr12_8 : isRef (FT 12 8) = true := rfl
theorem fr12_9 : isRef (FT 12 9) = true := rfl
theorem fr12_10 : isRef (FT 12 10) = false := rfl
theorem ft12_10 : FT 12 10 = .int := rfl
theorem fr12_11 : isRef (FT 12 11) = false := rfl
theorem ft12_11 : FT 12 11 = .int := rfl
theorem fr12_12 : isRef (FT 12 12) = false := rfl
theorem ft12_12 : FT 12 12 = .int := rfl
theorem fr12_13 : isRef (FT 12 13) = false := rfl
theorem ft12_13 : FT 12 13 = .int := rfl
theorem fr12_14 : isRef (FT 12 14) = false := rfl
theorem ft12_14 : FT 12 14 = .int := rfl
theorem fr12_15 : isRef (FT 12 15) = false := rfl
theorem ft12_15 : FT 12 15 = .int := rfl
theorem fr12_16 : isRef (FT 12 16) = false := rfl
theorem ft12_16 : FT 12 16 = .int := rfl
theorem fr12_17 : isRef (FT 12 17) = false := rfl
theorem ft12_17 : FT 12 17 = .int := rfl
theorem fr12_18 : isRef (FT 12 18) = false := rfl
theorem ft12_18 : FT 12 18 = .int := rfl
theorem fr12_19 : isRef (FT 12 19) = false := rfl
theorem ft12_19 : FT 12 19 = .int := rfl
theorem fr12_20 : isRef (FT 12 20) = false := rfl
theorem ft12_20 : FT 12 20 = .int := rfl
theorem fr12_21 : isRef (FT 12 21) = true := rfl
theorem fr12_22 : isRef (FT 12 22) = true := rfl
theorem fr12_23 : isRef (FT 12 23) = true := rfl
theorem fr12_24 : isRef (FT 12 24) = true := rfl
theorem fr12_25 : isRef (FT 12 25) = true := rfl
theorem fr12_26 : isRef (FT 12 26) = true := rfl
theorem fr12_27 : isRef (FT 12 27) = true := rfl
theorem fr12_28 : isRef (FT 12 28) = true := rfl
theorem fr12_29 : isRef (FT 12 29) = true := rfl
theorem fr12_30 : isRef (FT 12 30) = true := rfl
theorem fr12_31 : isRef (FT 12 31) = true := rfl
theorem fr12_32 : isRef (FT 12 32) = true := rfl
theorem fr12_33 : isRef (FT 12 33) = true := rfl
theorem fr12_34 : isRef (FT 12 34) = true := rfl
theorem fr12_35 : isRef (FT 12 35) = true := rfl
theorem fr12_36 : isRef (FT 12 36) = true := rfl
theorem fr12_37 : isRef (FT 12 37) = true := rfl
theorem fr12_38 : isRef (FT 12 38) = true := rfl
theorem fr12_39 : isRef (FT 12 39) = true := rfl
theorem fr12_40 : isRef (FT 12 40) = true := rfl
theorem fr12_41 : isRef (FT 12 41) = true := rfl
theorem fr12_42 : isRef (FT 12 42) = true := rfl
theorem fr12_43 : isRef (FT 12 43) = true := rfl
theorem fr12_44 : isRef (FT 12 44) = true := rfl
theorem fr12_45 : isRef (FT 12 45) = true := rfl
theorem fr12_46 : isRef (FT 12 46) = false := rfl
theorem ft12_46 : FT 12 46 = .int := rfl
theorem fr12_47 : isRef (FT 12 47) = true := rfl
theorem fr12_48 : isRef (FT 12 48) = true := rfl
theorem fr12_49 : isRef (FT 12 49) = true := rfl
theorem fr12_50 : isRef (FT 12 50) = true := rfl
theorem fr12_51 : isRef (FT 12 51) = true := rfl
theorem fr12_52 : isRef (FT 12 52) = true := rfl
theorem fr12_53 : isRef (FT 12 53) = false := rfl
theorem ft12_53 : FT 12 53 = .int := rfl
theorem fr12_54 : isRef (FT 12 54) = true := rfl
theorem fr12_55 : isRef (FT 12 55) = true := rfl
theorem fr12_56 : isRef (FT 12 56) = true := rfl
theorem fr12_57 : isRef (FT 12 57) = false := rfl
theorem ft12_57 : FT 12 57 = .int := rfl
theorem fr12_58 : isRef (FT 12 58) = true := rfl
theorem fr12_59 : isRef (FT 12 59) = true := rfl
theorem fr12_60 : isRef (FT 12 60) = false := rfl
theorem ft12_60 : FT 12 60 = .boolean := rfl
theorem fr12_61 : isRef (FT 12 61) = false := rfl
theorem ft12_61 : FT 12 61 = .int := rfl
theorem fr12_62 : isRef (FT 12 62) = false := rfl
theorem ft12_62 : FT 12 62 = .int := rfl
theorem fr12_63 : isRef (FT 12 63) = true := rfl
theorem fr12_64 : isRef (FT 12 64) = true := rfl
theorem fr12_65 : isRef (FT 12 65) = true := rfl
theorem fr12_66 : isRef (FT 12 66) = true := rfl
theorem fr12_67 : isRef (FT 12 67) = true := rfl
theorem fr12_68 : isRef (FT 12 68) = true := rfl
theorem fr12_69 : isRef (FT 12 69) = true := rfl
theorem fr12_70 : isRef (FT 12 70) = true := rfl
theorem fr12_71 : isRef (FT 12 71) = true := rfl
theorem fr12_72 : isRef (FT 12 72) = false := rfl
theorem ft12_72 : FT 12 72 = .int := rfl
theorem fr12_73 : isRef (FT 12 73) = false := rfl
theorem ft12_73 : FT 12 73 = .int := rfl
theorem fr12_74 : isRef (FT 12 74) = true := rfl
theorem fr12_75 : isRef (FT 12 75) = true := rfl
theorem fr12_76 : isRef (FT 12 76) = false := rfl
theorem ft12_76 : FT 12 76 = .int := rfl
theorem fr12_77 : isRef (FT 12 77) = true := rfl
theorem fr12_78 : isRef (FT 12 78) = true := rfl
theorem fr12_79 : isRef (FT 12 79) = true := rfl
theorem fr12_80 : isRef (FT 12 80) = true := rfl
theorem fr12_81 : isRef (FT 12 81) = true := rfl
theorem fr12_82 : isRef (FT 12 82) = false := rfl
theorem ft12_82 : FT 12 82 = .int := rfl
theorem fr12_83 : isRef (FT 12 83) = false := rfl
theorem ft12_83 : FT 12 83 = .int := rfl
theorem fr12_84 : isRef (FT 12 84) = false := rfl
theorem ft12_84 : FT 12 84 = .int := rfl
theorem fr12_85 : isRef (FT 12 85) = false := rfl
theorem ft12_85 : FT 12 85 = .int := rfl
theorem fr12_86 : isRef (FT 12 86) = false := rfl
theorem ft12_86 : FT 12 86 = .int := rfl
theorem fr12_87 : isRef (FT 12 87) = false := rfl
theorem ft12_87 : FT 12 87 = .int := rfl
theorem fr12_88 : isRef (FT 12 88) = true := rfl
theorem fr12_89 : isRef (FT 12 89) = true := rfl
theorem fr12_90 : isRef (FT 12 90) = true := rfl
theorem fr12_91 : isRef (FT 12 91) = true := rfl
theorem fr12_92 : isRef (FT 12 92) = true := rfl
theorem fr12_93 : isRef (FT 12 93) = true := rfl
theorem ki_m1 : Int32.ofInt (-1) = (-1 : Int32) := by decide
theorem ki_0 : Int32.ofInt (0) = (0 : Int32) := by decide
theorem ki_1 : Int32.ofInt (1) = (1 : Int32) := by decide
theorem ki_2 : Int32.ofInt (2) = (2 : Int32) := by decide
theorem ki_3 : Int32.ofInt (3) = (3 : Int32) := by decide
theorem ki_4 : Int32.ofInt (4) = (4 : Int32) := by decide
theorem ki_5 : Int32.ofInt (5) = (5 : Int32) := by decide
theorem kb_m2 : (Int8.ofInt (-2)).toInt32 = (-2 : Int32) := by decide
theorem kb_6 : (Int8.ofInt (6)).toInt32 = (6 : Int32) := by decide
theorem kb_7 : (Int8.ofInt (7)).toInt32 = (7 : Int32) := by decide
theorem kb_8 : (Int8.ofInt (8)).toInt32 = (8 : Int32) := by decide
theorem kb_9 : (Int8.ofInt (9)).toInt32 = (9 : Int32) := by decide
theorem kb_10 : (Int8.ofInt (10)).toInt32 = (10 : Int32) := by decide
theorem kb_11 : (Int8.ofInt (11)).toInt32 = (11 : Int32) := by decide
theorem kb_12 : (Int8.ofInt (12)).toInt32 = (12 : Int32) := by decide
theorem kb_13 : (Int8.ofInt (13)).toInt32 = (13 : Int32) := by decide
theorem kb_14 : (Int8.ofInt (14)).toInt32 = (14 : Int32) := by decide
theorem kb_15 : (Int8.ofInt (15)).toInt32 = (15 : Int32) := by decide
theorem kb_16 : (Int8.ofInt (16)).toInt32 = (16 : Int32) := by decide
theorem kb_17 : (Int8.ofInt (17)).toInt32 = (17 : Int32) := by decide
theorem kb_18 : (Int8.ofInt (18)).toInt32 = (18 : Int32) := by decide
theorem kb_19 : (Int8.ofInt (19)).toInt32 = (19 : Int32) := by decide
theorem kb_20 : (Int8.ofInt (20)).toInt32 = (20 : Int32) := by decide
theorem kb_21 : (Int8.ofInt (21)).toInt32 = (21 : Int32) := by decide
theorem kb_22 : (Int8.ofInt (22)).toInt32 = (22 : Int32) := by decide
theorem kb_23 : (Int8.ofInt (23)).toInt32 = (23 : Int32) := by decide
theorem kb_24 : (Int8.ofInt (24)).toInt32 = (24 : Int32) := by decide
theorem kb_25 : (Int8.ofInt (25)).toInt32 = (25 : Int32) := by decide
theorem kb_26 : (Int8.ofInt (26)).toInt32 = (26 : Int32) := by decide
theorem kb_27 : (Int8.ofInt (27)).toInt32 = (27 : Int32) := by decide
theorem kb_28 : (Int8.ofInt (28)).toInt32 = (28 : Int32) := by decide
theorem kb_29 : (Int8.ofInt (29)).toInt32 = (29 : Int32) := by decide
theorem kb_30 : (Int8.ofInt (30)).toInt32 = (30 : Int32) := by decide
theorem kb_31 : (Int8.ofInt (31)).toInt32 = (31 : Int32) := by decide
theorem kb_32 : (Int8.ofInt (32)).toInt32 = (32 : Int32) := by decide
theorem kb_33 : (Int8.ofInt (33)).toInt32 = (33 : Int32) := by decide
theorem kb_34 : (Int8.ofInt (34)).toInt32 = (34 : Int32) := by decide
theorem kb_35 : (Int8.ofInt (35)).toInt32 = (35 : Int32) := by decide
theorem kb_36 : (Int8.ofInt (36)).toInt32 = (36 : Int32) := by decide
theorem kb_39 : (Int8.ofInt (39)).toInt32 = (39 : Int32) := by decide
theorem kb_40 : (Int8.ofInt (40)).toInt32 = (40 : Int32) := by decide
theorem kb_41 : (Int8.ofInt (41)).toInt32 = (41 : Int32) := by decide
theorem kb_42 : (Int8.ofInt (42)).toInt32 = (42 : Int32) := by decide
theorem kb_43 : (Int8.ofInt (43)).toInt32 = (43 : Int32) := by decide
theorem kb_44 : (Int8.ofInt (44)).toInt32 = (44 : Int32) := by decide
theorem kb_45 : (Int8.ofInt (45)).toInt32 = (45 : Int32) := by decide
theorem kb_47 : (Int8.ofInt (47)).toInt32 = (47 : Int32) := by decide
theorem kb_48 : (Int8.ofInt (48)).toInt32 = (48 : Int32) := by decide
theorem kb_50 : (Int8.ofInt (50)).toInt32 = (50 : Int32) := by decide
theorem kb_57 : (Int8.ofInt (57)).toInt32 = (57 : Int32) := by decide
theorem kb_59 : (Int8.ofInt (59)).toInt32 = (59 : Int32) := by decide
theorem kb_60 : (Int8.ofInt (60)).toInt32 = (60 : Int32) := by decide
theorem kb_61 : (Int8.ofInt (61)).toInt32 = (61 : Int32) := by decide
theorem kb_63 : (Int8.ofInt (63)).toInt32 = (63 : Int32) := by decide
theorem kb_64 : (Int8.ofInt (64)).toInt32 = (64 : Int32) := by decide
theorem kb_90 : (Int8.ofInt (90)).toInt32 = (90 : Int32) := by decide
theorem kb_97 : (Int8.ofInt (97)).toInt32 = (97 : Int32) := by decide
theorem kb_98 : (Int8.ofInt (98)).toInt32 = (98 : Int32) := by decide
theorem kb_99 : (Int8.ofInt (99)).toInt32 = (99 : Int32) := by decide
theorem kb_100 : (Int8.ofInt (100)).toInt32 = (100 : Int32) := by decide
theorem kb_101 : (Int8.ofInt (101)).toInt32 = (101 : Int32) := by decide
theorem kb_102 : (Int8.ofInt (102)).toInt32 = (102 : Int32) := by decide
theorem kb_103 : (Int8.ofInt (103)).toInt32 = (103 : Int32) := by decide
theorem kb_104 : (Int8.ofInt (104)).toInt32 = (104 : Int32) := by decide
theorem kb_105 : (Int8.ofInt (105)).toInt32 = (105 : Int32) := by decide
theorem kb_107 : (Int8.ofInt (107)).toInt32 = (107 : Int32) := by decide
theorem kb_108 : (Int8.ofInt (108)).toInt32 = (108 : Int32) := by decide
theorem kb_109 : (Int8.ofInt (109)).toInt32 = (109 : Int32) := by decide
theorem kb_110 : (Int8.ofInt (110)).toInt32 = (110 : Int32) := by decide
theorem kb_111 : (Int8.ofInt (111)).toInt32 = (111 : Int32) := by decide
theorem kb_112 : (Int8.ofInt (112)).toInt32 = (112 : Int32) := by decide
theorem kb_114 : (Int8.ofInt (114)).toInt32 = (114 : Int32) := by decide
theorem kb_115 : (Int8.ofInt (115)).toInt32 = (115 : Int32) := by decide
theorem kb_116 : (Int8.ofInt (116)).toInt32 = (116 : Int32) := by decide
theorem kb_117 : (Int8.ofInt (117)).toInt32 = (117 : Int32) := by decide
theorem kb_119 : (Int8.ofInt (119)).toInt32 = (119 : Int32) := by decide
theorem kb_121 : (Int8.ofInt (121)).toInt32 = (121 : Int32) := by decide
theorem kb_122 : (Int8.ofInt (122)).toInt32 = (122 : Int32) := by decide
theorem ks_144 : (Int16.ofInt (144)).toInt32 = (144 : Int32) := by decide
theorem ks_150 : (Int16.ofInt (150)).toInt32 = (150 : Int32) := by decide
theorem ks_160 : (Int16.ofInt (160)).toInt32 = (160 : Int32) := by decide
theorem ks_240 : (Int16.ofInt (240)).toInt32 = (240 : Int32) := by decide
theorem ks_250 : (Int16.ofInt (250)).toInt32 = (250 : Int32) := by decide
theorem ks_255 : (Int16.ofInt (255)).toInt32 = (255 : Int32) := by decide
theorem ks_256 : (Int16.ofInt (256)).toInt32 = (256 : Int32) := by decide
theorem ks_300 : (Int16.ofInt (300)).toInt32 = (300 : Int32) := by decide
theorem ks_400 : (Int16.ofInt (400)).toInt32 = (400 : Int32) := by decide
theorem ks_402 : (Int16.ofInt (402)).toInt32 = (402 : Int32) := by decide
theorem ks_403 : (Int16.ofInt (403)).toInt32 = (403 : Int32) := by decide
theorem ks_420 : (Int16.ofInt (420)).toInt32 = (420 : Int32) := by decide
theorem ks_450 : (Int16.ofInt (450)).toInt32 = (450 : Int32) := by decide
theorem ks_600 : (Int16.ofInt (600)).toInt32 = (600 : Int32) := by decide
theorem ks_840 : (Int16.ofInt (840)).toInt32 = (840 : Int32) := by decide
theorem ks_1000 : (Int16.ofInt (1000)).toInt32 = (1000 : Int32) := by decide
theorem ks_1024 : (Int16.ofInt (1024)).toInt32 = (1024 : Int32) := by decide
theorem ks_2000 : (Int16.ofInt (2000)).toInt32 = (2000 : Int32) := by decide
theorem ks_2047 : (Int16.ofInt (2047)).toInt32 = (2047 : Int32) := by decide
theorem ks_2048 : (Int16.ofInt (2048)).toInt32 = (2048 : Int32) := by decide
theorem ks_10000 : (Int16.ofInt (10000)).toInt32 = (10000 : Int32) := by decide
theorem ks_12345 : (Int16.ofInt (12345)).toInt32 = (12345 : Int32) := by decide
theorem ks_24576 : (Int16.ofInt (24576)).toInt32 = (24576 : Int32) := by decide
theorem ks_25600 : (Int16.ofInt (25600)).toInt32 = (25600 : Int32) := by decide
theorem nf0_0 : FNF 0 0 := ⟨RX0, TX0, _, rfl, rfl⟩
theorem nf0_1 : FNF 0 1 := ⟨RX0, TX0, _, rfl, rfl⟩
theorem nf0_2 : FNF 0 2 := ⟨RX0, TX0, _, rfl, rfl⟩
theorem nf1_4 : FNF 1 4 := ⟨RX1, TX1, _, rfl, rfl⟩
theorem nf1_5 : FNF 1 5 := ⟨RX1, TX1, _, rfl, rfl⟩
theorem nf2_3 : FNF 2 3 := ⟨RX2, TX2, _, rfl, rfl⟩
theorem nf2_4 : FNF 2 4 := ⟨RX2, TX2, _, rfl, rfl⟩
theorem nf2_5 : FNF 2 5 := ⟨RX2, TX2, _, rfl, rfl⟩
theorem nf2_6 : FNF 2 6 := ⟨RX2, TX2, _, rfl, rfl⟩
theorem nf2_7 : FNF 2 7 := ⟨RX2, TX2, _, rfl, rfl⟩
theorem nf2_8 : FNF 2 8 := ⟨RX2, TX2, _, rfl, rfl⟩
theorem nf2_9 : FNF 2 9 := ⟨RX2, TX2, _, rfl, rfl⟩
theorem nf4_7 : FNF 4 7 := ⟨RX4, TX4, _, rfl, rfl⟩
theorem nf4_8 : FNF 4 8 := ⟨RX4, TX4, _, rfl, rfl⟩
theorem nf5_1 : FNF 5 1 := ⟨RX5, TX5, _, rfl, rfl⟩
theorem nf6_1 : FNF 6 1 := ⟨RX6, TX6, _, rfl, rfl⟩
theorem nf6_2 : FNF 6 2 := ⟨RX6, TX6, _, rfl, rfl⟩
theorem nf6_3 : FNF 6 3 := ⟨RX6, TX6, _, rfl, rfl⟩
theorem nf8_4 : FNF 8 4 := ⟨RX8, TX8, _, rfl, rfl⟩
theorem nf8_5 : FNF 8 5 := ⟨RX8, TX8, _, rfl, rfl⟩
theorem nf8_6 : FNF 8 6 := ⟨RX8, TX8, _, rfl, rfl⟩
theorem nf9_4 : FNF 9 4 := ⟨RX9, TX9, _, rfl, rfl⟩
theorem nf11_1 : FNF 11 1 := ⟨RX11, TX11, _, rfl, rfl⟩
theorem nf11_2 : FNF 11 2 := ⟨RX11, TX11, _, rfl, rfl⟩
theorem nf11_6 : FNF 11 6 := ⟨RX11, TX11, _, rfl, rfl⟩
theorem nf11_7 : FNF 11 7 := ⟨RX11, TX11, _, rfl, rfl⟩
theorem nf11_10 : FNF 11 10 := ⟨RX11, TX11, _, rfl, rfl⟩
theorem nf12_0 : FNF 12 0 := ⟨RX12, TX12, _, rfl, rfl⟩
theorem nf12_2 : FNF 12 2 := ⟨RX12, TX12, _, rfl, rfl⟩
theorem nf12_4 : FNF 12 4 := ⟨RX12, TX12, _, rfl, rfl⟩
theorem nf12_10 : FNF 12 10 := ⟨RX12, TX12, _, rfl, rfl⟩
theorem nf12_11 : FNF 12 11 := ⟨RX12, TX12, _, rfl, rfl⟩
theorem nf12_12 : FNF 12 12 := ⟨RX12, TX12, _, rfl, rfl⟩
theorem nf12_13 : FNF 12 13 := ⟨RX12, TX12, _, rfl, rfl⟩
theorem nf12_14 : FNF 12 14 := ⟨RX12, TX12, _, rfl, rfl⟩
theorem nf12_15 : FNF 12 15 := ⟨RX12, TX12, _, rfl, rfl⟩
theorem nf12_16 : FNF 12 16 := ⟨RX12, TX12, _, rfl, rfl⟩
theorem nf12_17 : FNF 12 17 := ⟨RX12, TX12, _, rfl, rfl⟩
theorem nf12_18 : FNF 12 18 := ⟨RX12, TX12, _, rfl, rfl⟩
theorem nf12_19 : FNF 12 19 := ⟨RX12, TX12, _, rfl, rfl⟩
theorem nf12_20 : FNF 12 20 := ⟨RX12, TX12, _, rfl, rfl⟩
theorem nf12_46 : FNF 12 46 := ⟨RX12, TX12, _, rfl, rfl⟩
theorem nf12_53 : FNF 12 53 := ⟨RX12, TX12, _, rfl, rfl⟩
theorem nf12_57 : FNF 12 57 := ⟨RX12, TX12, _, rfl, rfl⟩
theorem nf12_60 : FNF 12 60 := ⟨RX12, TX12, _, rfl, rfl⟩
theorem nf12_61 : FNF 12 61 := ⟨RX12, TX12, _, rfl, rfl⟩
theorem nf12_62 : FNF 12 62 := ⟨RX12, TX12, _, rfl, rfl⟩
theorem nf12_72 : FNF 12 72 := ⟨RX12, TX12, _, rfl, rfl⟩
theorem nf12_73 : FNF 12 73 := ⟨RX12, TX12, _, rfl, rfl⟩
theorem nf12_76 : FNF 12 76 := ⟨RX12, TX12, _, rfl, rfl⟩
theorem nf12_82 : FNF 12 82 := ⟨RX12, TX12, _, rfl, rfl⟩
theorem nf12_83 : FNF 12 83 := ⟨RX12, TX12, _, rfl, rfl⟩
theorem nf12_84 : FNF 12 84 := ⟨RX12, TX12, _, rfl, rfl⟩
theorem nf12_85 : FNF 12 85 := ⟨RX12, TX12, _, rfl, rfl⟩
theorem nf12_86 : FNF 12 86 := ⟨RX12, TX12, _, rfl, rfl⟩
theorem nf12_87 : FNF 12 87 := ⟨RX12, TX12, _, rfl, rfl⟩
