/-! ===== the calls: their words ===== -/
set_option maxRecDepth 100000 in
theorem zk_J7_13 : zcall RJ7 13 1 yJ7_rangeCheck_23922 iJ7_rangeCheck_23922 3 := ⟨[557, 86, 555, 556], by decide +kernel⟩
set_option maxRecDepth 100000 in
theorem zk_L_7 : zcall RL 7 0 yX8_shape iX8_shape 4 := ⟨[418, 71, 415, 416, 417], by decide +kernel⟩
set_option maxRecDepth 100000 in
theorem zk_L_15 : zcall RL 15 0 yX8_predict iX8_predict 1 := ⟨[493, 71, 490, 491, 492], by decide +kernel⟩
set_option maxRecDepth 100000 in
theorem zk_L_19 : zcall RL 19 0 yX8_coefficient iX8_coefficient 1 := ⟨[506, 71, 503, 504, 505], by decide +kernel⟩
set_option maxRecDepth 100000 in
theorem zk_L_24 : zcall RL 24 0 yX8_push iX8_push 1 := ⟨[535, 71, 532, 533, 534], by decide +kernel⟩
set_option maxRecDepth 100000 in
theorem zk_L_27 : zcall RL 27 0 yX8_make iX8_make 0 := ⟨[542, 71, 539, 540, 541], by decide +kernel⟩
set_option maxRecDepth 100000 in
theorem zk_L_31 : zcall RL 31 0 yX8_way iX8_way 3 := ⟨[965, 71, 962, 963, 964], by decide +kernel⟩
set_option maxRecDepth 100000 in
theorem zk_L_35 : zcall RL 35 0 yX8_read iX8_read 0 := ⟨[976, 71, 973, 974, 975], by decide +kernel⟩
set_option maxRecDepth 100000 in
theorem zk_L_38 : zcall RL 38 0 yX8_sample iX8_sample 1 := ⟨[1117, 71, 1114, 1115, 1116], by decide +kernel⟩
set_option maxRecDepth 100000 in
theorem zk_L_46 : zcall RL 46 1 yL_shape iL_shape 5 := ⟨[413, 70, 411, 412], by decide +kernel⟩
set_option maxRecDepth 100000 in
theorem zk_L_51 : zcall RL 51 0 yX9_shape iX9_shape 4 := ⟨[1265, 80, 1262, 1263, 1264], by decide +kernel⟩
set_option maxRecDepth 100000 in
theorem zk_L_52 : zcall RL 52 0 yX9_thrown iX9_thrown 0 := ⟨[1261, 80, 1258, 1259, 1260], by decide +kernel⟩
set_option maxRecDepth 100000 in
theorem zk_L_55 : zcall RL 55 1 yL_predict iL_predict 2 := ⟨[489, 70, 487, 488], by decide +kernel⟩
set_option maxRecDepth 100000 in
theorem zk_L_58 : zcall RL 58 0 yX9_predict iX9_predict 1 := ⟨[1278, 80, 1275, 1276, 1277], by decide +kernel⟩
set_option maxRecDepth 100000 in
theorem zk_L_59 : zcall RL 59 1 yL_coefficient iL_coefficient 2 := ⟨[501, 70, 499, 500], by decide +kernel⟩
set_option maxRecDepth 100000 in
theorem zk_L_61 : zcall RL 61 0 yX9_coefficient iX9_coefficient 1 := ⟨[1283, 80, 1280, 1281, 1282], by decide +kernel⟩
set_option maxRecDepth 100000 in
theorem zk_L_62 : zcall RL 62 1 yL_push iL_push 2 := ⟨[531, 70, 529, 530], by decide +kernel⟩
set_option maxRecDepth 100000 in
theorem zk_L_64 : zcall RL 64 0 yX9_push iX9_push 1 := ⟨[1289, 80, 1286, 1287, 1288], by decide +kernel⟩
set_option maxRecDepth 100000 in
theorem zk_L_65 : zcall RL 65 1 yL_make iL_make 2 := ⟨[538, 70, 536, 537], by decide +kernel⟩
set_option maxRecDepth 100000 in
theorem zk_L_68 : zcall RL 68 0 yX9_make iX9_make 0 := ⟨[1296, 80, 1293, 1294, 1295], by decide +kernel⟩
set_option maxRecDepth 100000 in
theorem zk_L_69 : zcall RL 69 0 yX8_octet iX8_octet 1 := ⟨[370, 71, 367, 368, 369], by decide +kernel⟩
set_option maxRecDepth 100000 in
theorem zk_L_72 : zcall RL 72 0 yX9_octet iX9_octet 1 := ⟨[1410, 80, 1407, 1408, 1409], by decide +kernel⟩
set_option maxRecDepth 100000 in
theorem zk_L_73 : zcall RL 73 1 yL_way iL_way 5 := ⟨[961, 70, 959, 960], by decide +kernel⟩
set_option maxRecDepth 100000 in
theorem zk_L_76 : zcall RL 76 0 yX9_way iX9_way 3 := ⟨[1414, 80, 1411, 1412, 1413], by decide +kernel⟩
set_option maxRecDepth 100000 in
theorem zk_L_79 : zcall RL 79 0 yX8_feed iX8_feed 2 := ⟨[381, 71, 378, 379, 380], by decide +kernel⟩
set_option maxRecDepth 100000 in
theorem zk_L_83 : zcall RL 83 0 yX9_feed iX9_feed 2 := ⟨[1418, 80, 1415, 1416, 1417], by decide +kernel⟩
set_option maxRecDepth 100000 in
theorem zk_L_84 : zcall RL 84 0 yX8_again iX8_again 0 := ⟨[390, 71, 387, 388, 389], by decide +kernel⟩
set_option maxRecDepth 100000 in
theorem zk_L_87 : zcall RL 87 0 yX9_again iX9_again 0 := ⟨[1423, 80, 1420, 1421, 1422], by decide +kernel⟩
set_option maxRecDepth 100000 in
theorem zk_L_88 : zcall RL 88 1 yL_read iL_read 2 := ⟨[972, 70, 970, 971], by decide +kernel⟩
set_option maxRecDepth 100000 in
theorem zk_L_90 : zcall RL 90 0 yX9_read iX9_read 0 := ⟨[1427, 80, 1424, 1425, 1426], by decide +kernel⟩
set_option maxRecDepth 100000 in
theorem zk_L_91 : zcall RL 91 0 yX8_fault iX8_fault 0 := ⟨[402, 71, 399, 400, 401], by decide +kernel⟩
set_option maxRecDepth 100000 in
theorem zk_L_94 : zcall RL 94 0 yX9_fault iX9_fault 0 := ⟨[1513, 80, 1510, 1511, 1512], by decide +kernel⟩
set_option maxRecDepth 100000 in
theorem zk_L_95 : zcall RL 95 0 yX8_place iX8_place 0 := ⟨[406, 71, 403, 404, 405], by decide +kernel⟩
set_option maxRecDepth 100000 in
theorem zk_L_98 : zcall RL 98 0 yX9_place iX9_place 0 := ⟨[1517, 80, 1514, 1515, 1516], by decide +kernel⟩
set_option maxRecDepth 100000 in
theorem zk_L_99 : zcall RL 99 1 yL_sample iL_sample 3 := ⟨[1113, 70, 1111, 1112], by decide +kernel⟩
set_option maxRecDepth 100000 in
theorem zk_L_102 : zcall RL 102 0 yX9_sample iX9_sample 1 := ⟨[1521, 80, 1518, 1519, 1520], by decide +kernel⟩
set_option maxRecDepth 100000 in
theorem zk_L_103 : zcall RL 103 0 yX8_count iX8_count 1 := ⟨[410, 71, 407, 408, 409], by decide +kernel⟩
set_option maxRecDepth 100000 in
theorem zk_L_106 : zcall RL 106 0 yX9_count iX9_count 1 := ⟨[1525, 80, 1522, 1523, 1524], by decide +kernel⟩
set_option maxRecDepth 100000 in
theorem zk_X0_27 : zcall RX0 27 0 yX7_dropWasted iX7_dropWasted 0 := ⟨[842, 78, 839, 840, 841], by decide +kernel⟩
set_option maxRecDepth 100000 in
theorem zk_X0_36 : zcall RX0 36 0 yX7_isOneNumber iX7_isOneNumber 0 := ⟨[846, 78, 843, 844, 845], by decide +kernel⟩
set_option maxRecDepth 100000 in
theorem zk_X0_43 : zcall RX0 43 0 yX7_offer iX7_offer 3 := ⟨[850, 78, 847, 848, 849], by decide +kernel⟩
set_option maxRecDepth 100000 in
theorem zk_X0_50 : zcall RX0 50 0 yX3_becomeFixed iX3_becomeFixed 1 := ⟨[854, 73, 851, 852, 853], by decide +kernel⟩
set_option maxRecDepth 100000 in
theorem zk_X0_53 : zcall RX0 53 0 yX0_offerPredicted iX0_offerPredicted 4 := ⟨[862, 76, 859, 861, 2], by decide +kernel⟩
set_option maxRecDepth 100000 in
theorem zk_X0_64 : zcall RX0 64 0 yX5_take iX5_take 3 := ⟨[866, 77, 863, 864, 865], by decide +kernel⟩
set_option maxRecDepth 100000 in
theorem zk_X0_68 : zcall RX0 68 0 yX5_measure iX5_measure 0 := ⟨[879, 77, 876, 877, 878], by decide +kernel⟩
set_option maxRecDepth 100000 in
theorem zk_X0_76 : zcall RX0 76 0 yX2_put iX2_put 2 := ⟨[813, 75, 932, 811, 812], by decide +kernel⟩
set_option maxRecDepth 100000 in
theorem zk_X0_85 : zcall RX0 85 1 yX0_writeNumbers iX0_writeNumbers 3 := ⟨[935, 76, 933, 934], by decide +kernel⟩
set_option maxRecDepth 100000 in
theorem zk_X0_89 : zcall RX0 89 1 yX0_writeCoefficients iX0_writeCoefficients 2 := ⟨[938, 76, 936, 937], by decide +kernel⟩
set_option maxRecDepth 100000 in
theorem zk_X0_93 : zcall RX0 93 0 yX0_writeResiduals iX0_writeResiduals 3 := ⟨[943, 76, 940, 942, 10], by decide +kernel⟩
set_option maxRecDepth 100000 in
theorem zk_X0_105 : zcall RX0 105 0 yX5_write iX5_write 1 := ⟨[947, 77, 944, 945, 946], by decide +kernel⟩
set_option maxRecDepth 100000 in
theorem zk_X1_49 : zcall RX1 49 0 yX2_clear iX2_clear 0 := ⟨[550, 75, 547, 548, 549], by decide +kernel⟩
set_option maxRecDepth 100000 in
theorem zk_X1_54 : zcall RX1 54 0 yX2_put iX2_put 2 := ⟨[813, 75, 810, 811, 812], by decide +kernel⟩
set_option maxRecDepth 100000 in
theorem zk_X1_63 : zcall RX1 63 0 yX2_putZeros iX2_putZeros 1 := ⟨[820, 75, 817, 818, 819], by decide +kernel⟩
set_option maxRecDepth 100000 in
theorem zk_X1_73 : zcall RX1 73 0 yX7_begin iX7_begin 2 := ⟨[829, 78, 826, 827, 828], by decide +kernel⟩
set_option maxRecDepth 100000 in
theorem zk_X1_80 : zcall RX1 80 0 yX1_fillSideAndMiddle iX1_fillSideAndMiddle 2 := ⟨[834, 74, 831, 833, 1], by decide +kernel⟩
set_option maxRecDepth 100000 in
theorem zk_X1_83 : zcall RX1 83 0 yX0_choose iX0_choose 2 := ⟨[838, 76, 835, 836, 837], by decide +kernel⟩
set_option maxRecDepth 100000 in
theorem zk_X1_87 : zcall RX1 87 0 yX1_shortestAssignment iX1_shortestAssignment 0 := ⟨[907, 74, 904, 906, 7], by decide +kernel⟩
set_option maxRecDepth 100000 in
theorem zk_X1_91 : zcall RX1 91 0 yX2_size iX2_size 0 := ⟨[374, 75, 918, 372, 373], by decide +kernel⟩
set_option maxRecDepth 100000 in
theorem zk_X1_94 : zcall RX1 94 0 yX1_writeHeader iX1_writeHeader 2 := ⟨[922, 74, 919, 921, 9], by decide +kernel⟩
set_option maxRecDepth 100000 in
theorem zk_X1_101 : zcall RX1 101 2 yX8_sumOf iX8_sumOf 5 := ⟨[927, 71, 925, 926], by decide +kernel⟩
set_option maxRecDepth 100000 in
theorem zk_X1_105 : zcall RX1 105 1 yX1_subframeOf iX1_subframeOf 2 := ⟨[914, 74, 912, 913], by decide +kernel⟩
set_option maxRecDepth 100000 in
theorem zk_X1_109 : zcall RX1 109 0 yX0_write iX0_write 3 := ⟨[931, 76, 928, 929, 930], by decide +kernel⟩
set_option maxRecDepth 100000 in
theorem zk_X1_113 : zcall RX1 113 0 yX1_keepWay iX1_keepWay 2 := ⟨[953, 74, 950, 952, 11], by decide +kernel⟩
set_option maxRecDepth 100000 in
theorem zk_X1_117 : zcall RX1 117 0 yX2_fillByte iX2_fillByte 0 := ⟨[957, 75, 954, 955, 956], by decide +kernel⟩
set_option maxRecDepth 100000 in
theorem zk_X1_121 : zcall RX1 121 0 yX1_sizeOf iX1_sizeOf 1 := ⟨[911, 74, 908, 910, 8], by decide +kernel⟩
set_option maxRecDepth 100000 in
theorem zk_X1_128 : zcall RX1 128 2 yX8_isSide iX8_isSide 2 := ⟨[917, 71, 915, 916], by decide +kernel⟩
set_option maxRecDepth 100000 in
theorem zk_X2_19 : zcall RX2 19 0 yX2_size iX2_size 0 := ⟨[374, 75, 551, 372, 373], by decide +kernel⟩
set_option maxRecDepth 100000 in
theorem zk_X2_23 : zcall RX2 23 1 yJ7_fill_eb02e iJ7_fill_eb02e 4 := ⟨[554, 86, 552, 553], by decide +kernel⟩
set_option maxRecDepth 100000 in
theorem zk_X3_20 : zcall RX3 20 0 yX3_begin iX3_begin 1 := ⟨[498, 73, 855, 496, 497], by decide +kernel⟩
set_option maxRecDepth 100000 in
theorem zk_X3_27 : zcall RX3 27 0 yX3_add iX3_add 1 := ⟨[528, 73, 858, 526, 527], by decide +kernel⟩
set_option maxRecDepth 100000 in
theorem zk_X4_50 : zcall RX4 50 0 yX2_size iX2_size 0 := ⟨[374, 75, 395, 372, 373], by decide +kernel⟩
set_option maxRecDepth 100000 in
theorem zk_X4_67 : zcall RX4 67 0 yX4_openStream iX4_openStream 0 := ⟨[985, 79, 982, 984, 12], by decide +kernel⟩
set_option maxRecDepth 100000 in
theorem zk_X4_82 : zcall RX4 82 0 yX4_readFrame iX4_readFrame 2 := ⟨[1025, 79, 1022, 1024, 19], by decide +kernel⟩
set_option maxRecDepth 100000 in
theorem zk_X4_86 : zcall RX4 86 0 yX4_expectEnd iX4_expectEnd 0 := ⟨[1105, 79, 1102, 1104, 31], by decide +kernel⟩
set_option maxRecDepth 100000 in
theorem zk_X4_95 : zcall RX4 95 0 yX4_fail iX4_fail 2 := ⟨[998, 79, 995, 997, 15], by decide +kernel⟩
set_option maxRecDepth 100000 in
theorem zk_X4_98 : zcall RX4 98 0 yX4_number iX4_number 1 := ⟨[994, 79, 991, 993, 14], by decide +kernel⟩
set_option maxRecDepth 100000 in
theorem zk_X4_104 : zcall RX4 104 0 yX4_expect iX4_expect 2 := ⟨[990, 79, 987, 989, 13], by decide +kernel⟩
set_option maxRecDepth 100000 in
theorem zk_X4_110 : zcall RX4 110 0 yX4_readSettings iX4_readSettings 0 := ⟨[1005, 79, 1002, 1004, 16], by decide +kernel⟩
set_option maxRecDepth 100000 in
theorem zk_X4_115 : zcall RX4 115 2 yX8_within iX8_within 3 := ⟨[377, 71, 1008, 376], by decide +kernel⟩
set_option maxRecDepth 100000 in
theorem zk_X4_119 : zcall RX4 119 0 yX4_failUnless iX4_failUnless 2 := ⟨[1012, 79, 1009, 1011, 17], by decide +kernel⟩
set_option maxRecDepth 100000 in
theorem zk_X4_123 : zcall RX4 123 0 yX4_pass iX4_pass 1 := ⟨[1016, 79, 1013, 1015, 18], by decide +kernel⟩
set_option maxRecDepth 100000 in
theorem zk_X4_147 : zcall RX4 147 0 yX4_readHeader iX4_readHeader 2 := ⟨[1029, 79, 1026, 1028, 20], by decide +kernel⟩
set_option maxRecDepth 100000 in
theorem zk_X4_150 : zcall RX4 150 0 yX4_expectSum iX4_expectSum 3 := ⟨[1046, 79, 1043, 1045, 22], by decide +kernel⟩
set_option maxRecDepth 100000 in
theorem zk_X4_154 : zcall RX4 154 2 yX8_isSide iX8_isSide 2 := ⟨[917, 71, 1048, 916], by decide +kernel⟩
set_option maxRecDepth 100000 in
theorem zk_X4_158 : zcall RX4 158 0 yX4_readSubframe iX4_readSubframe 3 := ⟨[1052, 79, 1049, 1051, 23], by decide +kernel⟩
set_option maxRecDepth 100000 in
theorem zk_X4_163 : zcall RX4 163 0 yX4_uniteRows iX4_uniteRows 2 := ⟨[1097, 79, 1094, 1096, 29], by decide +kernel⟩
set_option maxRecDepth 100000 in
theorem zk_X4_166 : zcall RX4 166 0 yX4_keepSamples iX4_keepSamples 2 := ⟨[1101, 79, 1098, 1100, 30], by decide +kernel⟩
set_option maxRecDepth 100000 in
theorem zk_X4_169 : zcall RX4 169 2 yX8_fits iX8_fits 2 := ⟨[509, 71, 1092, 508], by decide +kernel⟩
set_option maxRecDepth 100000 in
theorem zk_X4_181 : zcall RX4 181 0 yX4_readFrameNumber iX4_readFrameNumber 1 := ⟨[1037, 79, 1034, 1036, 21], by decide +kernel⟩
set_option maxRecDepth 100000 in
theorem zk_X4_194 : zcall RX4 194 2 yX8_sumOf iX8_sumOf 5 := ⟨[927, 71, 1047, 926], by decide +kernel⟩
set_option maxRecDepth 100000 in
theorem zk_X4_198 : zcall RX4 198 1 yX4_orderOf iX4_orderOf 1 := ⟨[1055, 79, 1053, 1054], by decide +kernel⟩
set_option maxRecDepth 100000 in
theorem zk_X4_202 : zcall RX4 202 0 yX4_zerosAndOne iX4_zerosAndOne 0 := ⟨[1062, 79, 1059, 1061, 24], by decide +kernel⟩
set_option maxRecDepth 100000 in
theorem zk_X4_205 : zcall RX4 205 1 yX4_signed iX4_signed 2 := ⟨[1065, 79, 1063, 1064], by decide +kernel⟩
set_option maxRecDepth 100000 in
theorem zk_X4_209 : zcall RX4 209 1 yJ7_fill_fda19 iJ7_fill_fda19 4 := ⟨[1068, 86, 1066, 1067], by decide +kernel⟩
set_option maxRecDepth 100000 in
theorem zk_X4_215 : zcall RX4 215 0 yX4_readNumbers iX4_readNumbers 3 := ⟨[1072, 79, 1069, 1071, 25], by decide +kernel⟩
set_option maxRecDepth 100000 in
theorem zk_X4_218 : zcall RX4 218 0 yX4_readPredictor iX4_readPredictor 2 := ⟨[1076, 79, 1073, 1075, 26], by decide +kernel⟩
set_option maxRecDepth 100000 in
theorem zk_X4_221 : zcall RX4 221 0 yX4_readResiduals iX4_readResiduals 3 := ⟨[1083, 79, 1080, 1082, 27], by decide +kernel⟩
set_option maxRecDepth 100000 in
theorem zk_X4_230 : zcall RX4 230 0 yX3_becomeFixed iX3_becomeFixed 1 := ⟨[854, 73, 1077, 852, 853], by decide +kernel⟩
set_option maxRecDepth 100000 in
theorem zk_X4_233 : zcall RX4 233 0 yX3_begin iX3_begin 1 := ⟨[498, 73, 1078, 496, 497], by decide +kernel⟩
set_option maxRecDepth 100000 in
theorem zk_X4_236 : zcall RX4 236 0 yX3_add iX3_add 1 := ⟨[528, 73, 1079, 526, 527], by decide +kernel⟩
set_option maxRecDepth 100000 in
theorem zk_X4_242 : zcall RX4 242 0 yX4_readPart iX4_readPart 5 := ⟨[1087, 79, 1084, 1086, 28], by decide +kernel⟩
set_option maxRecDepth 100000 in
theorem zk_X4_246 : zcall RX4 246 1 yX4_unfolded iX4_unfolded 1 := ⟨[1090, 79, 1088, 1089], by decide +kernel⟩
set_option maxRecDepth 100000 in
theorem zk_X4_250 : zcall RX4 250 0 yX3_foretell iX3_foretell 2 := ⟨[870, 73, 1091, 868, 869], by decide +kernel⟩
set_option maxRecDepth 100000 in
theorem zk_X5_37 : zcall RX5 37 0 yX3_foretell iX3_foretell 2 := ⟨[870, 73, 867, 868, 869], by decide +kernel⟩
set_option maxRecDepth 100000 in
theorem zk_X5_45 : zcall RX5 45 2 yX8_within iX8_within 3 := ⟨[377, 71, 873, 376], by decide +kernel⟩
set_option maxRecDepth 100000 in
theorem zk_X5_53 : zcall RX5 53 0 yX5_finestOrder iX5_finestOrder 0 := ⟨[883, 77, 880, 882, 3], by decide +kernel⟩
set_option maxRecDepth 100000 in
theorem zk_X5_57 : zcall RX5 57 0 yX5_addUp iX5_addUp 1 := ⟨[887, 77, 884, 886, 4], by decide +kernel⟩
set_option maxRecDepth 100000 in
theorem zk_X5_67 : zcall RX5 67 0 yX5_bitsInParts iX5_bitsInParts 1 := ⟨[896, 77, 893, 895, 5], by decide +kernel⟩
set_option maxRecDepth 100000 in
theorem zk_X5_78 : zcall RX5 78 0 yX5_joinPairs iX5_joinPairs 1 := ⟨[903, 77, 900, 902, 6], by decide +kernel⟩
set_option maxRecDepth 100000 in
theorem zk_X5_81 : zcall RX5 81 1 yJ7_fill_d0a16 iJ7_fill_d0a16 2 := ⟨[890, 86, 888, 889], by decide +kernel⟩
set_option maxRecDepth 100000 in
theorem zk_X5_97 : zcall RX5 97 0 yX2_put iX2_put 2 := ⟨[813, 75, 948, 811, 812], by decide +kernel⟩
set_option maxRecDepth 100000 in
theorem zk_X5_103 : zcall RX5 103 0 yX2_putZeros iX2_putZeros 1 := ⟨[820, 75, 949, 818, 819], by decide +kernel⟩
set_option maxRecDepth 100000 in
theorem zk_X8_49 : zcall RX8 49 1 yX8_within iX8_within 3 := ⟨[377, 71, 375, 376], by decide +kernel⟩
set_option maxRecDepth 100000 in
theorem zk_X8_80 : zcall RX8 80 0 yX3_begin iX3_begin 1 := ⟨[498, 73, 495, 496, 497], by decide +kernel⟩
set_option maxRecDepth 100000 in
theorem zk_X8_83 : zcall RX8 83 1 yX8_fits iX8_fits 2 := ⟨[509, 71, 507, 508], by decide +kernel⟩
set_option maxRecDepth 100000 in
theorem zk_X8_93 : zcall RX8 93 0 yX3_add iX3_add 1 := ⟨[528, 73, 525, 526, 527], by decide +kernel⟩
set_option maxRecDepth 100000 in
theorem zk_X8_96 : zcall RX8 96 0 yX1_begin iX1_begin 2 := ⟨[546, 74, 543, 544, 545], by decide +kernel⟩
set_option maxRecDepth 100000 in
theorem zk_X8_105 : zcall RX8 105 0 yX1_addFrame iX1_addFrame 5 := ⟨[825, 74, 822, 823, 824], by decide +kernel⟩
set_option maxRecDepth 100000 in
theorem zk_X8_113 : zcall RX8 113 0 yX2_size iX2_size 0 := ⟨[374, 75, 371, 372, 373], by decide +kernel⟩
set_option maxRecDepth 100000 in
theorem zk_X8_127 : zcall RX8 127 0 yX1_told iX1_told 3 := ⟨[969, 74, 966, 967, 968], by decide +kernel⟩
set_option maxRecDepth 100000 in
theorem zk_X8_131 : zcall RX8 131 0 yX4_append iX4_append 2 := ⟨[386, 79, 383, 384, 385], by decide +kernel⟩
set_option maxRecDepth 100000 in
theorem zk_X8_134 : zcall RX8 134 0 yX4_load iX4_load 1 := ⟨[394, 79, 391, 392, 393], by decide +kernel⟩
set_option maxRecDepth 100000 in
theorem zk_X8_140 : zcall RX8 140 0 yX4_accepts iX4_accepts 0 := ⟨[980, 79, 977, 978, 979], by decide +kernel⟩
set_option maxRecDepth 100000 in
theorem zk_X8_147 : zcall RX8 147 0 yX6_become iX6_become 1 := ⟨[1109, 72, 1106, 1107, 1108], by decide +kernel⟩
set_option maxRecDepth 100000 in
theorem zk_X9_75 : zcall RX9 75 1 yX9_in iX9_in 3 := ⟨[1269, 80, 1267, 1268], by decide +kernel⟩
set_option maxRecDepth 100000 in
theorem zk_X9_104 : zcall RX9 104 1 yX9_fits iX9_fits 2 := ⟨[1292, 80, 1290, 1291], by decide +kernel⟩
set_option maxRecDepth 100000 in
theorem zk_X9_117 : zcall RX9 117 1 yX9_o iX9_o 1 := ⟨[1343, 80, 1341, 1342], by decide +kernel⟩
set_option maxRecDepth 100000 in
theorem zk_X9_121 : zcall RX9 121 0 yX9_summed iX9_summed 1 := ⟨[1351, 80, 1348, 1350, 43], by decide +kernel⟩
set_option maxRecDepth 100000 in
theorem zk_X9_125 : zcall RX9 125 0 yX9_fixed iX9_fixed 3 := ⟨[1355, 80, 1352, 1354, 44], by decide +kernel⟩
set_option maxRecDepth 100000 in
theorem zk_X9_135 : zcall RX9 135 1 yX9_folded iX9_folded 1 := ⟨[1379, 80, 1377, 1378], by decide +kernel⟩
set_option maxRecDepth 100000 in
theorem zk_X9_139 : zcall RX9 139 0 yX9_costOf iX9_costOf 3 := ⟨[1376, 80, 1373, 1375, 48], by decide +kernel⟩
set_option maxRecDepth 100000 in
theorem zk_X9_143 : zcall RX9 143 0 yX9_bestK iX9_bestK 2 := ⟨[1372, 80, 1369, 1371, 47], by decide +kernel⟩
set_option maxRecDepth 100000 in
theorem zk_X9_150 : zcall RX9 150 0 yX9_partsCost iX9_partsCost 2 := ⟨[1368, 80, 1365, 1367, 46], by decide +kernel⟩
set_option maxRecDepth 100000 in
theorem zk_X9_164 : zcall RX9 164 0 yX9_takeWaste iX9_takeWaste 0 := ⟨[1331, 80, 1328, 1330, 39], by decide +kernel⟩
set_option maxRecDepth 100000 in
theorem zk_X9_173 : zcall RX9 173 0 yX9_isConstant iX9_isConstant 0 := ⟨[1336, 80, 1333, 1335, 40], by decide +kernel⟩
set_option maxRecDepth 100000 in
theorem zk_X9_177 : zcall RX9 177 0 yX9_offer iX9_offer 3 := ⟨[1340, 80, 1337, 1339, 41], by decide +kernel⟩
set_option maxRecDepth 100000 in
theorem zk_X9_181 : zcall RX9 181 0 yX9_leave iX9_leave 1 := ⟨[1347, 80, 1344, 1346, 42], by decide +kernel⟩
set_option maxRecDepth 100000 in
theorem zk_X9_185 : zcall RX9 185 0 yX9_leftCost iX9_leftCost 1 := ⟨[1364, 80, 1361, 1363, 45], by decide +kernel⟩
set_option maxRecDepth 100000 in
theorem zk_X9_198 : zcall RX9 198 1 yX9_octetOf iX9_octetOf 2 := ⟨[1394, 80, 1392, 1393], by decide +kernel⟩
set_option maxRecDepth 100000 in
theorem zk_X9_203 : zcall RX9 203 0 yX9_load iX9_load 3 := ⟨[1319, 80, 1316, 1318, 36], by decide +kernel⟩
set_option maxRecDepth 100000 in
theorem zk_X9_207 : zcall RX9 207 0 yX9_bitsOf iX9_bitsOf 1 := ⟨[1323, 80, 1320, 1322, 37], by decide +kernel⟩
set_option maxRecDepth 100000 in
theorem zk_X9_210 : zcall RX9 210 0 yX9_measure iX9_measure 1 := ⟨[1327, 80, 1324, 1326, 38], by decide +kernel⟩
set_option maxRecDepth 100000 in
theorem zk_X9_214 : zcall RX9 214 0 yX9_measured iX9_measured 3 := ⟨[1315, 80, 1312, 1314, 35], by decide +kernel⟩
set_option maxRecDepth 100000 in
theorem zk_X9_217 : zcall RX9 217 0 yX9_write iX9_write 2 := ⟨[1301, 80, 1298, 1300, 32], by decide +kernel⟩
set_option maxRecDepth 100000 in
theorem zk_X9_221 : zcall RX9 221 0 yX9_writeLeft iX9_writeLeft 1 := ⟨[1406, 80, 1403, 1405, 51], by decide +kernel⟩
set_option maxRecDepth 100000 in
theorem zk_X9_224 : zcall RX9 224 0 yX9_assignment iX9_assignment 2 := ⟨[1311, 80, 1308, 1310, 34], by decide +kernel⟩
set_option maxRecDepth 100000 in
theorem zk_X9_229 : zcall RX9 229 0 yX9_writeNumber iX9_writeNumber 1 := ⟨[1387, 80, 1384, 1386, 49], by decide +kernel⟩
set_option maxRecDepth 100000 in
theorem zk_X9_232 : zcall RX9 232 1 yX9_sumOf iX9_sumOf 4 := ⟨[1390, 80, 1388, 1389], by decide +kernel⟩
set_option maxRecDepth 100000 in
theorem zk_X9_236 : zcall RX9 236 1 yX9_rowOf iX9_rowOf 2 := ⟨[1398, 80, 1396, 1397], by decide +kernel⟩
set_option maxRecDepth 100000 in
theorem zk_X9_239 : zcall RX9 239 0 yX9_writeRow iX9_writeRow 1 := ⟨[1402, 80, 1399, 1401, 50], by decide +kernel⟩
set_option maxRecDepth 100000 in
theorem zk_X9_252 : zcall RX9 252 0 yX9_writeFrame iX9_writeFrame 2 := ⟨[1307, 80, 1304, 1306, 33], by decide +kernel⟩
set_option maxRecDepth 100000 in
theorem zk_X9_273 : zcall RX9 273 0 yX9_wrong iX9_wrong 2 := ⟨[1443, 80, 1440, 1442, 55], by decide +kernel⟩
set_option maxRecDepth 100000 in
theorem zk_X9_277 : zcall RX9 277 0 yX9_take iX9_take 1 := ⟨[1439, 80, 1436, 1438, 54], by decide +kernel⟩
set_option maxRecDepth 100000 in
theorem zk_X9_280 : zcall RX9 280 0 yX9_takeIn iX9_takeIn 3 := ⟨[1435, 80, 1432, 1434, 53], by decide +kernel⟩
set_option maxRecDepth 100000 in
theorem zk_X9_305 : zcall RX9 305 0 yX9_passOver iX9_passOver 1 := ⟨[1450, 80, 1447, 1449, 56], by decide +kernel⟩
set_option maxRecDepth 100000 in
theorem zk_X9_319 : zcall RX9 319 0 yX9_readByte iX9_readByte 2 := ⟨[1468, 80, 1465, 1467, 60], by decide +kernel⟩
set_option maxRecDepth 100000 in
theorem zk_X9_325 : zcall RX9 325 0 yX9_readAssignment iX9_readAssignment 0 := ⟨[1459, 80, 1456, 1458, 58], by decide +kernel⟩
set_option maxRecDepth 100000 in
theorem zk_X9_328 : zcall RX9 328 0 yX9_readNumber iX9_readNumber 1 := ⟨[1464, 80, 1461, 1463, 59], by decide +kernel⟩
set_option maxRecDepth 100000 in
theorem zk_X9_331 : zcall RX9 331 0 yX9_readSum iX9_readSum 2 := ⟨[1476, 80, 1473, 1475, 61], by decide +kernel⟩
set_option maxRecDepth 100000 in
theorem zk_X9_335 : zcall RX9 335 0 yX9_readRow iX9_readRow 3 := ⟨[1480, 80, 1477, 1479, 62], by decide +kernel⟩
set_option maxRecDepth 100000 in
theorem zk_X9_338 : zcall RX9 338 0 yX9_isKept iX9_isKept 2 := ⟨[1509, 80, 1506, 1508, 69], by decide +kernel⟩
set_option maxRecDepth 100000 in
theorem zk_X9_347 : zcall RX9 347 0 yX9_takeRow iX9_takeRow 0 := ⟨[1485, 80, 1482, 1484, 63], by decide +kernel⟩
set_option maxRecDepth 100000 in
theorem zk_X9_351 : zcall RX9 351 0 yX9_takeSigned iX9_takeSigned 1 := ⟨[1489, 80, 1486, 1488, 64], by decide +kernel⟩
set_option maxRecDepth 100000 in
theorem zk_X9_354 : zcall RX9 354 0 yX9_readLeft iX9_readLeft 4 := ⟨[1493, 80, 1490, 1492, 65], by decide +kernel⟩
set_option maxRecDepth 100000 in
theorem zk_X9_361 : zcall RX9 361 0 yX9_readWeights iX9_readWeights 1 := ⟨[1497, 80, 1494, 1496, 66], by decide +kernel⟩
set_option maxRecDepth 100000 in
theorem zk_X9_364 : zcall RX9 364 0 yX9_unfolded iX9_unfolded 1 := ⟨[1501, 80, 1498, 1500, 67], by decide +kernel⟩
set_option maxRecDepth 100000 in
theorem zk_X9_367 : zcall RX9 367 0 yX9_foretold iX9_foretold 3 := ⟨[1505, 80, 1502, 1504, 68], by decide +kernel⟩
set_option maxRecDepth 100000 in
theorem zk_X9_370 : zcall RX9 370 0 yX9_readSettings iX9_readSettings 0 := ⟨[1431, 80, 1428, 1430, 52], by decide +kernel⟩
set_option maxRecDepth 100000 in
theorem zk_X9_373 : zcall RX9 373 0 yX9_readFrame iX9_readFrame 2 := ⟨[1455, 80, 1452, 1454, 57], by decide +kernel⟩
