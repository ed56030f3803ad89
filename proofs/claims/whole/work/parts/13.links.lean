set_option maxRecDepth 100000 in
theorem ml_53 : ax_mlk 0 53 = some (mR_append, false, 2, 326, 329, 86, 327, 328) := rfl
set_option maxRecDepth 100000 in
theorem ml_64 : ax_mlk 0 64 = some (mR_readInto, false, 1, 338, 341, 86, 339, 340) := rfl
set_option maxRecDepth 100000 in
theorem ml_68 : ax_mlk 0 68 = some (mG_adoptSpare, false, 0, 481, 484, 87, 482, 483) := rfl
set_option maxRecDepth 100000 in
theorem ml_72 : ax_mlk 0 72 = some (mT_codeOf, true, 1, 507, 364, 91, 363, 363) := rfl
set_option maxRecDepth 100000 in
theorem ml_76 : ax_mlk 0 76 = some (mT_lengthOf, true, 1, 508, 389, 91, 388, 388) := rfl
set_option maxRecDepth 100000 in
theorem ml_80 : ax_mlk 0 80 = some (mT_withCode, true, 3, 509, 371, 91, 370, 370) := rfl
set_option maxRecDepth 100000 in
theorem ml_84 : ax_mlk 0 84 = some (mP_canBeRule, false, 3, 518, 521, 85, 520, 25) := rfl
set_option maxRecDepth 100000 in
theorem ml_88 : ax_mlk 0 88 = some (mK_become, false, 3, 529, 532, 89, 530, 531) := rfl
set_option maxRecDepth 100000 in
theorem ml_92 : ax_mlk 0 92 = some (mP_isRule, false, 1, 537, 540, 85, 539, 27) := rfl
set_option maxRecDepth 100000 in
theorem ml_96 : ax_mlk 0 96 = some (mP_findNew, false, 1, 541, 544, 85, 543, 28) := rfl
set_option maxRecDepth 100000 in
theorem ml_103 : ax_mlk 0 103 = some (mP_findAll, false, 1, 545, 548, 85, 547, 29) := rfl
set_option maxRecDepth 100000 in
theorem ml_106 : ax_mlk 0 106 = some (mK_forgetKnown, false, 0, 645, 648, 89, 646, 647) := rfl
set_option maxRecDepth 100000 in
theorem ml_113 : ax_mlk 0 113 = some (mK_addKnown, false, 3, 649, 652, 89, 650, 651) := rfl
set_option maxRecDepth 100000 in
theorem ml_120 : ax_mlk 0 120 = some (mG_isClass, false, 1, 661, 664, 87, 662, 663) := rfl
set_option maxRecDepth 100000 in
theorem ml_126 : ax_mlk 0 126 = some (mT_codeAt, true, 2, 665, 392, 91, 391, 391) := rfl
set_option maxRecDepth 100000 in
theorem ml_130 : ax_mlk 0 130 = some (mT_characterOf, true, 1, 666, 668, 91, 667, 667) := rfl
set_option maxRecDepth 100000 in
theorem ml_136 : ax_mlk 0 136 = some (mG_isOccurrence, false, 2, 677, 680, 87, 678, 679) := rfl
set_option maxRecDepth 100000 in
theorem ml_148 : ax_mlk 0 148 = some (mG_numberOf, false, 1, 690, 488, 87, 486, 487) := rfl
set_option maxRecDepth 100000 in
theorem ml_151 : ax_mlk 0 151 = some (mG_targetOf, false, 2, 597, 600, 87, 598, 599) := rfl
set_option maxRecDepth 100000 in
theorem ml_155 : ax_mlk 0 155 = some (mG_isCircular, false, 1, 699, 604, 87, 602, 603) := rfl
set_option maxRecDepth 100000 in
theorem ml_158 : ax_mlk 0 158 = some (mP_isPattern, false, 1, 525, 528, 85, 527, 26) := rfl
set_option maxRecDepth 100000 in
theorem ml_161 : ax_mlk 0 161 = some (mP_fitsText, false, 2, 580, 583, 85, 582, 34) := rfl
set_option maxRecDepth 100000 in
theorem ml_165 : ax_mlk 0 165 = some (mP_isDepth, true, 1, 522, 524, 85, 523, 523) := rfl
set_option maxRecDepth 100000 in
theorem ml_168 : ax_mlk 0 168 = some (mG_cutSlices, false, 1, 708, 560, 87, 558, 559) := rfl
set_option maxRecDepth 100000 in
theorem ml_171 : ax_mlk 0 171 = some (mT_matches, true, 2, 584, 586, 91, 585, 585) := rfl
set_option maxRecDepth 100000 in
theorem ml_175 : ax_mlk 0 175 = some (mK_forgetUses, false, 0, 629, 632, 89, 630, 631) := rfl
set_option maxRecDepth 100000 in
theorem ml_178 : ax_mlk 0 178 = some (mK_useKnown, false, 3, 633, 636, 89, 634, 635) := rfl
set_option maxRecDepth 100000 in
theorem ml_185 : ax_mlk 0 185 = some (mP_findCycles, false, 1, 549, 552, 85, 551, 30) := rfl
set_option maxRecDepth 100000 in
theorem ml_188 : ax_mlk 0 188 = some (mP_watches, false, 2, 576, 579, 85, 578, 33) := rfl
set_option maxRecDepth 100000 in
theorem ml_192 : ax_mlk 0 192 = some (mP_breaks, false, 3, 593, 596, 85, 595, 35) := rfl
set_option maxRecDepth 100000 in
theorem ml_196 : ax_mlk 0 196 = some (mG_linkSlices, false, 1, 553, 556, 87, 554, 555) := rfl
set_option maxRecDepth 100000 in
theorem ml_200 : ax_mlk 0 200 = some (mG_headsCycle, false, 1, 572, 575, 87, 573, 574) := rfl
set_option maxRecDepth 100000 in
theorem ml_1033 : ax_mlk 1 33 = some (mU_clear, false, 0, 342, 345, 88, 343, 344) := rfl
set_option maxRecDepth 100000 in
theorem ml_1047 : ax_mlk 1 47 = some (mR_take, false, 2, 346, 349, 86, 348, 0) := rfl
set_option maxRecDepth 100000 in
theorem ml_1051 : ax_mlk 1 51 = some (mR_readConstants, false, 0, 350, 353, 86, 352, 1) := rfl
set_option maxRecDepth 100000 in
theorem ml_1055 : ax_mlk 1 55 = some (mR_checkNumbers, false, 0, 372, 375, 86, 374, 5) := rfl
set_option maxRecDepth 100000 in
theorem ml_1058 : ax_mlk 1 58 = some (mR_readParents, false, 0, 400, 403, 86, 402, 9) := rfl
set_option maxRecDepth 100000 in
theorem ml_1061 : ax_mlk 1 61 = some (mR_readFields, false, 0, 424, 427, 86, 426, 13) := rfl
set_option maxRecDepth 100000 in
theorem ml_1064 : ax_mlk 1 64 = some (mR_readMethods, false, 0, 436, 439, 86, 438, 15) := rfl
set_option maxRecDepth 100000 in
theorem ml_1073 : ax_mlk 1 73 = some (mR_tagOf, false, 1, 380, 383, 86, 382, 7) := rfl
set_option maxRecDepth 100000 in
theorem ml_1077 : ax_mlk 1 77 = some (mR_fail, false, 1, 365, 368, 86, 367, 4) := rfl
set_option maxRecDepth 100000 in
theorem ml_1081 : ax_mlk 1 81 = some (mR_isWord, false, 1, 393, 396, 86, 395, 8) := rfl
set_option maxRecDepth 100000 in
theorem ml_1084 : ax_mlk 1 84 = some (mT_isWord, true, 1, 397, 399, 91, 398, 398) := rfl
set_option maxRecDepth 100000 in
theorem ml_1089 : ax_mlk 1 89 = some (mT_isName, true, 1, 384, 386, 91, 385, 385) := rfl
set_option maxRecDepth 100000 in
theorem ml_1092 : ax_mlk 1 92 = some (mR_readConstant, false, 1, 354, 357, 86, 356, 2) := rfl
set_option maxRecDepth 100000 in
theorem ml_1095 : ax_mlk 1 95 = some (mR_readText, false, 1, 358, 361, 86, 360, 3) := rfl
set_option maxRecDepth 100000 in
theorem ml_1098 : ax_mlk 1 98 = some (mT_codeOf, true, 1, 362, 364, 91, 363, 363) := rfl
set_option maxRecDepth 100000 in
theorem ml_1101 : ax_mlk 1 101 = some (mT_withCode, true, 3, 369, 371, 91, 370, 370) := rfl
set_option maxRecDepth 100000 in
theorem ml_1105 : ax_mlk 1 105 = some (mR_isName, false, 1, 376, 379, 86, 378, 6) := rfl
set_option maxRecDepth 100000 in
theorem ml_1107 : ax_mlk 1 107 = some (mR_takeClass, false, 0, 404, 407, 86, 406, 10) := rfl
set_option maxRecDepth 100000 in
theorem ml_1110 : ax_mlk 1 110 = some (mR_lastText, false, 1, 408, 411, 86, 410, 11) := rfl
set_option maxRecDepth 100000 in
theorem ml_1121 : ax_mlk 1 121 = some (mU_addOccurrence, false, 4, 412, 415, 88, 413, 414) := rfl
set_option maxRecDepth 100000 in
theorem ml_1125 : ax_mlk 1 125 = some (mR_readInterfaces, false, 0, 416, 419, 86, 418, 12) := rfl
set_option maxRecDepth 100000 in
theorem ml_1128 : ax_mlk 1 128 = some (mU_addInterface, false, 1, 420, 423, 88, 421, 422) := rfl
set_option maxRecDepth 100000 in
theorem ml_1132 : ax_mlk 1 132 = some (mR_takeWord, false, 0, 428, 431, 86, 430, 14) := rfl
set_option maxRecDepth 100000 in
theorem ml_1135 : ax_mlk 1 135 = some (mU_addField, false, 1, 432, 435, 88, 433, 434) := rfl
set_option maxRecDepth 100000 in
theorem ml_1138 : ax_mlk 1 138 = some (mR_readMethod, false, 0, 440, 443, 86, 442, 16) := rfl
set_option maxRecDepth 100000 in
theorem ml_1141 : ax_mlk 1 141 = some (mU_addMethod, false, 1, 444, 447, 88, 445, 446) := rfl
set_option maxRecDepth 100000 in
theorem ml_1159 : ax_mlk 1 159 = some (mR_readInstruction, false, 0, 451, 454, 86, 453, 17) := rfl
set_option maxRecDepth 100000 in
theorem ml_1162 : ax_mlk 1 162 = some (mR_readStep, false, 0, 455, 458, 86, 457, 18) := rfl
set_option maxRecDepth 100000 in
theorem ml_1165 : ax_mlk 1 165 = some (mR_readSwitch, false, 0, 459, 462, 86, 461, 19) := rfl
set_option maxRecDepth 100000 in
theorem ml_1168 : ax_mlk 1 168 = some (mR_readWide, false, 0, 463, 466, 86, 465, 20) := rfl
set_option maxRecDepth 100000 in
theorem ml_1171 : ax_mlk 1 171 = some (mR_kindOf, true, 1, 467, 469, 86, 468, 468) := rfl
set_option maxRecDepth 100000 in
theorem ml_1174 : ax_mlk 1 174 = some (mR_readUse, false, 1, 477, 480, 86, 479, 22) := rfl
set_option maxRecDepth 100000 in
theorem ml_1177 : ax_mlk 1 177 = some (mR_useConstant, false, 2, 470, 473, 86, 472, 21) := rfl
set_option maxRecDepth 100000 in
theorem ml_1180 : ax_mlk 1 180 = some (mR_tagFor, true, 1, 474, 476, 86, 475, 475) := rfl
set_option maxRecDepth 100000 in
theorem ml_2046 : ax_mlk 2 46 = some (mG_numberOf, false, 1, 485, 488, 87, 486, 487) := rfl
set_option maxRecDepth 100000 in
theorem ml_2054 : ax_mlk 2 54 = some (mG_linkParents, false, 0, 489, 492, 87, 491, 23) := rfl
set_option maxRecDepth 100000 in
theorem ml_2057 : ax_mlk 2 57 = some (mG_isClass, false, 1, 681, 664, 87, 662, 663) := rfl
set_option maxRecDepth 100000 in
theorem ml_2064 : ax_mlk 2 64 = some (mG_isIn, true, 2, 500, 502, 87, 501, 501) := rfl
set_option maxRecDepth 100000 in
theorem ml_2071 : ax_mlk 2 71 = some (mG_with, true, 2, 493, 495, 87, 494, 494) := rfl
set_option maxRecDepth 100000 in
theorem ml_2081 : ax_mlk 2 81 = some (mG_follow, false, 1, 496, 499, 87, 498, 24) := rfl
set_option maxRecDepth 100000 in
theorem ml_2091 : ax_mlk 2 91 = some (mG_isCircular, false, 1, 601, 604, 87, 602, 603) := rfl
set_option maxRecDepth 100000 in
theorem ml_2100 : ax_mlk 2 100 = some (mG_methodFrom, false, 2, 605, 608, 87, 607, 36) := rfl
set_option maxRecDepth 100000 in
theorem ml_2104 : ax_mlk 2 104 = some (mG_fieldFrom, false, 3, 621, 624, 87, 623, 39) := rfl
set_option maxRecDepth 100000 in
theorem ml_2108 : ax_mlk 2 108 = some (mU_hasField, false, 1, 625, 628, 88, 626, 627) := rfl
set_option maxRecDepth 100000 in
theorem ml_2112 : ax_mlk 2 112 = some (mG_interfaceOf, false, 2, 613, 616, 87, 615, 37) := rfl
set_option maxRecDepth 100000 in
theorem ml_2115 : ax_mlk 2 115 = some (mU_hasMethod, false, 1, 609, 612, 88, 610, 611) := rfl
set_option maxRecDepth 100000 in
theorem ml_2118 : ax_mlk 2 118 = some (mG_faceFrom, false, 3, 617, 620, 87, 619, 38) := rfl
set_option maxRecDepth 100000 in
theorem ml_2121 : ax_mlk 2 121 = some (mT_firstWords, true, 2, 561, 563, 91, 562, 562) := rfl
set_option maxRecDepth 100000 in
theorem ml_2127 : ax_mlk 2 127 = some (mG_headOf, false, 1, 564, 567, 87, 566, 31) := rfl
set_option maxRecDepth 100000 in
theorem ml_2131 : ax_mlk 2 131 = some (mG_cutSlices, false, 1, 557, 560, 87, 558, 559) := rfl
set_option maxRecDepth 100000 in
theorem ml_2134 : ax_mlk 2 134 = some (mG_slicesNamedIn, false, 1, 568, 571, 87, 570, 32) := rfl
set_option maxRecDepth 100000 in
theorem ml_5088 : ax_mlk 5 88 = some (mQ_buffer, false, 1, 828, 831, 90, 830, 41) := rfl
set_option maxRecDepth 100000 in
theorem ml_5095 : ax_mlk 5 95 = some (mQ_bytesHere, false, 1, 836, 839, 90, 838, 43) := rfl
set_option maxRecDepth 100000 in
theorem ml_5099 : ax_mlk 5 99 = some (mQ_letter, true, 1, 840, 842, 90, 841, 841) := rfl
set_option maxRecDepth 100000 in
theorem ml_5102 : ax_mlk 5 102 = some (mQ_constant, false, 1, 832, 835, 90, 834, 42) := rfl
set_option maxRecDepth 100000 in
theorem ml_5105 : ax_mlk 5 105 = some (mQ_tag, false, 1, 847, 850, 90, 849, 45) := rfl
set_option maxRecDepth 100000 in
theorem ml_5108 : ax_mlk 5 108 = some (mQ_worded, false, 2, 855, 858, 90, 857, 47) := rfl
set_option maxRecDepth 100000 in
theorem ml_5112 : ax_mlk 5 112 = some (mQ_fitting, false, 2, 851, 854, 90, 853, 46) := rfl
set_option maxRecDepth 100000 in
theorem ml_5116 : ax_mlk 5 116 = some (mQ_upTo, false, 2, 871, 874, 90, 873, 51) := rfl
set_option maxRecDepth 100000 in
theorem ml_5119 : ax_mlk 5 119 = some (mQ_number, false, 2, 859, 862, 90, 861, 48) := rfl
set_option maxRecDepth 100000 in
theorem ml_5122 : ax_mlk 5 122 = some (mQ_operand, true, 1, 883, 885, 90, 884, 884) := rfl
set_option maxRecDepth 100000 in
theorem ml_5125 : ax_mlk 5 125 = some (mQ_turn, false, 2, 886, 889, 90, 888, 54) := rfl
set_option maxRecDepth 100000 in
theorem ml_5128 : ax_mlk 5 128 = some (mQ_wide, false, 1, 890, 893, 90, 892, 55) := rfl
set_option maxRecDepth 100000 in
theorem ml_5131 : ax_mlk 5 131 = some (mQ_code, false, 2, 879, 882, 90, 881, 53) := rfl
set_option maxRecDepth 100000 in
theorem ml_5134 : ax_mlk 5 134 = some (mQ_several, false, 2, 867, 870, 90, 869, 50) := rfl
set_option maxRecDepth 100000 in
theorem ml_5137 : ax_mlk 5 137 = some (mQ_method, false, 0, 875, 878, 90, 877, 52) := rfl
set_option maxRecDepth 100000 in
theorem ml_5141 : ax_mlk 5 141 = some (mQ_readConstants, false, 0, 824, 827, 90, 826, 40) := rfl
set_option maxRecDepth 100000 in
theorem ml_5144 : ax_mlk 5 144 = some (mQ_checkConstants, false, 0, 843, 846, 90, 845, 44) := rfl
set_option maxRecDepth 100000 in
theorem ml_5147 : ax_mlk 5 147 = some (mQ_rest, false, 0, 863, 866, 90, 865, 49) := rfl
set_option maxRecDepth 100000 in
theorem ml_5150 : ax_mlk 5 150 = some (mQ_ownName, false, 1, 894, 897, 90, 896, 56) := rfl
set_option maxRecDepth 100000 in
theorem ml_5154 : ax_mlk 5 154 = some (mQ_indexOf, false, 1, 918, 921, 90, 920, 61) := rfl
set_option maxRecDepth 100000 in
theorem ml_5161 : ax_mlk 5 161 = some (mQ_constantAt, false, 2, 902, 905, 90, 904, 58) := rfl
set_option maxRecDepth 100000 in
theorem ml_5167 : ax_mlk 5 167 = some (mQ_sign, true, 1, 915, 917, 90, 916, 916) := rfl
set_option maxRecDepth 100000 in
theorem ml_5170 : ax_mlk 5 170 = some (mQ_textOf, false, 2, 910, 913, 90, 912, 60) := rfl
set_option maxRecDepth 100000 in
theorem ml_5174 : ax_mlk 5 174 = some (mQ_headOf, false, 1, 898, 901, 90, 900, 57) := rfl
set_option maxRecDepth 100000 in
theorem ml_5177 : ax_mlk 5 177 = some (mQ_nameOf, false, 2, 906, 909, 90, 908, 59) := rfl
set_option maxRecDepth 100000 in
theorem ml_5183 : ax_mlk 5 183 = some (mQ_occurrence, false, 4, 997, 1000, 90, 999, 74) := rfl
set_option maxRecDepth 100000 in
theorem ml_5187 : ax_mlk 5 187 = some (mQ_names, false, 4, 1005, 1008, 90, 1007, 76) := rfl
set_option maxRecDepth 100000 in
theorem ml_5191 : ax_mlk 5 191 = some (mQ_listCode, false, 4, 1001, 1004, 90, 1003, 75) := rfl
set_option maxRecDepth 100000 in
theorem ml_5194 : ax_mlk 5 194 = some (mQ_isClass, false, 1, 926, 929, 90, 928, 62) := rfl
set_option maxRecDepth 100000 in
theorem ml_5197 : ax_mlk 5 197 = some (mQ_list, false, 1, 993, 996, 90, 995, 73) := rfl
set_option maxRecDepth 100000 in
theorem ml_5201 : ax_mlk 5 201 = some (mQ_parent, false, 2, 934, 937, 90, 936, 64) := rfl
set_option maxRecDepth 100000 in
theorem ml_5204 : ax_mlk 5 204 = some (mQ_close, false, 0, 938, 941, 90, 940, 65) := rfl
set_option maxRecDepth 100000 in
theorem ml_5207 : ax_mlk 5 207 = some (mQ_ancestors, false, 0, 930, 933, 90, 932, 63) := rfl
set_option maxRecDepth 100000 in
theorem ml_5210 : ax_mlk 5 210 = some (mQ_has, false, 3, 1027, 1030, 90, 1029, 81) := rfl
set_option maxRecDepth 100000 in
theorem ml_5214 : ax_mlk 5 214 = some (mQ_search, false, 3, 1031, 1034, 90, 1033, 82) := rfl
set_option maxRecDepth 100000 in
theorem ml_5218 : ax_mlk 5 218 = some (mQ_circular, false, 1, 1022, 925, 90, 923, 924) := rfl
set_option maxRecDepth 100000 in
theorem ml_5221 : ax_mlk 5 221 = some (mQ_methodOf, false, 2, 1023, 1026, 90, 1025, 80) := rfl
set_option maxRecDepth 100000 in
theorem ml_5225 : ax_mlk 5 225 = some (mQ_typeable, true, 1, 946, 948, 90, 947, 947) := rfl
set_option maxRecDepth 100000 in
theorem ml_5232 : ax_mlk 5 232 = some (mQ_spell, false, 1, 961, 964, 90, 963, 67) := rfl
set_option maxRecDepth 100000 in
theorem ml_5235 : ax_mlk 5 235 = some (mQ_fitsName, false, 2, 957, 960, 90, 959, 66) := rfl
set_option maxRecDepth 100000 in
theorem ml_5242 : ax_mlk 5 242 = some (mQ_fits, false, 2, 1017, 956, 90, 954, 955) := rfl
set_option maxRecDepth 100000 in
theorem ml_5245 : ax_mlk 5 245 = some (mQ_targetOf, false, 3, 1018, 1021, 90, 1020, 79) := rfl
set_option maxRecDepth 100000 in
theorem ml_5249 : ax_mlk 5 249 = some (mQ_slice, false, 2, 989, 992, 90, 991, 72) := rfl
set_option maxRecDepth 100000 in
theorem ml_5252 : ax_mlk 5 252 = some (mQ_least, false, 2, 985, 988, 90, 987, 71) := rfl
set_option maxRecDepth 100000 in
theorem ml_5261 : ax_mlk 5 261 = some (mQ_violates, false, 3, 1013, 1016, 90, 1015, 78) := rfl
set_option maxRecDepth 100000 in
theorem ml_5265 : ax_mlk 5 265 = some (mQ_cycles, false, 1, 981, 984, 90, 983, 70) := rfl
set_option maxRecDepth 100000 in
theorem ml_5268 : ax_mlk 5 268 = some (mQ_gather, false, 1, 1009, 1012, 90, 1011, 77) := rfl
set_option maxRecDepth 100000 in
theorem ml_5271 : ax_mlk 5 271 = some (mQ_isRule, false, 1, 973, 976, 90, 975, 68) := rfl
set_option maxRecDepth 100000 in
theorem ml_5274 : ax_mlk 5 274 = some (mQ_renew, false, 1, 977, 980, 90, 979, 69) := rfl
set_option maxRecDepth 100000 in
theorem ml_5277 : ax_mlk 5 277 = some (mQ_violations, false, 1, 1039, 972, 90, 970, 971) := rfl
set_option maxRecDepth 100000 in
theorem ml_5280 : ax_mlk 5 280 = some (mQ_isOccurrence, false, 2, 1060, 1063, 90, 1062, 83) := rfl
set_option maxRecDepth 100000 in
theorem ml_6011 : ax_mlk 6 11 = some (mT_codeAt, true, 2, 390, 392, 91, 391, 391) := rfl
set_option maxRecDepth 100000 in
theorem ml_6015 : ax_mlk 6 15 = some (mT_lengthOf, true, 1, 387, 389, 91, 388, 388) := rfl
set_option maxRecDepth 100000 in
theorem ml_6019 : ax_mlk 6 19 = some (mT_passStars, true, 3, 587, 589, 91, 588, 588) := rfl
set_option maxRecDepth 100000 in
theorem ml_6023 : ax_mlk 6 23 = some (mT_step, true, 4, 590, 592, 91, 591, 591) := rfl
set_option maxRecDepth 100000 in
theorem ml_7013 : ax_mlk 7 13 = some (mP_put, false, 2, 322, 325, 85, 323, 324) := rfl
set_option maxRecDepth 100000 in
theorem ml_7017 : ax_mlk 7 17 = some (mQ_put, false, 2, 812, 815, 90, 813, 814) := rfl
set_option maxRecDepth 100000 in
theorem ml_7018 : ax_mlk 7 18 = some (mP_bytes, false, 0, 330, 333, 85, 331, 332) := rfl
set_option maxRecDepth 100000 in
theorem ml_7022 : ax_mlk 7 22 = some (mQ_bytes, false, 0, 816, 819, 90, 817, 818) := rfl
set_option maxRecDepth 100000 in
theorem ml_7023 : ax_mlk 7 23 = some (mP_load, false, 0, 334, 337, 85, 335, 336) := rfl
set_option maxRecDepth 100000 in
theorem ml_7026 : ax_mlk 7 26 = some (mQ_load, false, 0, 820, 823, 90, 821, 822) := rfl
set_option maxRecDepth 100000 in
theorem ml_7027 : ax_mlk 7 27 = some (mP_type, false, 1, 503, 506, 85, 504, 505) := rfl
set_option maxRecDepth 100000 in
theorem ml_7031 : ax_mlk 7 31 = some (mQ_type, false, 1, 942, 945, 90, 943, 944) := rfl
set_option maxRecDepth 100000 in
theorem ml_7032 : ax_mlk 7 32 = some (mP_pattern, false, 0, 510, 513, 85, 511, 512) := rfl
set_option maxRecDepth 100000 in
theorem ml_7035 : ax_mlk 7 35 = some (mQ_pattern, false, 0, 949, 952, 90, 950, 951) := rfl
set_option maxRecDepth 100000 in
theorem ml_7036 : ax_mlk 7 36 = some (mP_rule, false, 3, 514, 517, 85, 515, 516) := rfl
set_option maxRecDepth 100000 in
theorem ml_7040 : ax_mlk 7 40 = some (mQ_rule, false, 3, 965, 968, 90, 966, 967) := rfl
set_option maxRecDepth 100000 in
theorem ml_7041 : ax_mlk 7 41 = some (mP_violations, false, 1, 533, 536, 85, 534, 535) := rfl
set_option maxRecDepth 100000 in
theorem ml_7045 : ax_mlk 7 45 = some (mQ_violations, false, 1, 969, 972, 90, 970, 971) := rfl
set_option maxRecDepth 100000 in
theorem ml_7046 : ax_mlk 7 46 = some (mP_violation, false, 2, 637, 640, 85, 638, 639) := rfl
set_option maxRecDepth 100000 in
theorem ml_7050 : ax_mlk 7 50 = some (mQ_violation, false, 2, 1035, 1038, 90, 1036, 1037) := rfl
set_option maxRecDepth 100000 in
theorem ml_7051 : ax_mlk 7 51 = some (mP_freeze, false, 1, 641, 644, 85, 642, 643) := rfl
set_option maxRecDepth 100000 in
theorem ml_7054 : ax_mlk 7 54 = some (mQ_freeze, false, 1, 1040, 1043, 90, 1041, 1042) := rfl
set_option maxRecDepth 100000 in
theorem ml_7055 : ax_mlk 7 55 = some (mP_classes, false, 0, 653, 656, 85, 654, 655) := rfl
set_option maxRecDepth 100000 in
theorem ml_7058 : ax_mlk 7 58 = some (mQ_classes, false, 0, 1044, 1047, 90, 1045, 1046) := rfl
set_option maxRecDepth 100000 in
theorem ml_7059 : ax_mlk 7 59 = some (mP_name, false, 2, 657, 660, 85, 658, 659) := rfl
set_option maxRecDepth 100000 in
theorem ml_7062 : ax_mlk 7 62 = some (mQ_name, false, 2, 1048, 1051, 90, 1049, 1050) := rfl
set_option maxRecDepth 100000 in
theorem ml_7063 : ax_mlk 7 63 = some (mP_occurrences, false, 1, 669, 672, 85, 670, 671) := rfl
set_option maxRecDepth 100000 in
theorem ml_7066 : ax_mlk 7 66 = some (mQ_occurrences, false, 1, 1052, 1055, 90, 1053, 1054) := rfl
set_option maxRecDepth 100000 in
theorem ml_7067 : ax_mlk 7 67 = some (mP_kind, false, 2, 673, 676, 85, 674, 675) := rfl
set_option maxRecDepth 100000 in
theorem ml_7070 : ax_mlk 7 70 = some (mQ_kind, false, 2, 1056, 1059, 90, 1057, 1058) := rfl
set_option maxRecDepth 100000 in
theorem ml_7071 : ax_mlk 7 71 = some (mP_line, false, 2, 682, 685, 85, 683, 684) := rfl
set_option maxRecDepth 100000 in
theorem ml_7074 : ax_mlk 7 74 = some (mQ_line, false, 2, 1064, 1067, 90, 1065, 1066) := rfl
set_option maxRecDepth 100000 in
theorem ml_7075 : ax_mlk 7 75 = some (mP_named, false, 2, 686, 689, 85, 687, 688) := rfl
set_option maxRecDepth 100000 in
theorem ml_7078 : ax_mlk 7 78 = some (mQ_named, false, 2, 1068, 1071, 90, 1069, 1070) := rfl
set_option maxRecDepth 100000 in
theorem ml_7079 : ax_mlk 7 79 = some (mP_target, false, 2, 691, 694, 85, 692, 693) := rfl
set_option maxRecDepth 100000 in
theorem ml_7082 : ax_mlk 7 82 = some (mQ_target, false, 2, 1072, 1075, 90, 1073, 1074) := rfl
set_option maxRecDepth 100000 in
theorem ml_7083 : ax_mlk 7 83 = some (mP_circular, false, 1, 695, 698, 85, 696, 697) := rfl
set_option maxRecDepth 100000 in
theorem ml_7087 : ax_mlk 7 87 = some (mQ_circular, false, 1, 922, 925, 90, 923, 924) := rfl
set_option maxRecDepth 100000 in
theorem ml_7088 : ax_mlk 7 88 = some (mP_fits, false, 2, 700, 703, 85, 701, 702) := rfl
set_option maxRecDepth 100000 in
theorem ml_7091 : ax_mlk 7 91 = some (mQ_fits, false, 2, 953, 956, 90, 954, 955) := rfl
set_option maxRecDepth 100000 in
theorem ml_7092 : ax_mlk 7 92 = some (mP_slices, false, 1, 704, 707, 85, 705, 706) := rfl
set_option maxRecDepth 100000 in
theorem ml_7095 : ax_mlk 7 95 = some (mQ_slices, false, 1, 1076, 1079, 90, 1077, 1078) := rfl
