/-! ===== 22: the words of the evaluated methods are the tables' ===== -/
set_option maxRecDepth 100000 in
theorem al_w0 : ((al_WN.drop 0).take 8).map some = [514, 395, 512, 513, 461, 396, 459, 460].map (fun i => lw_tbl[i]?) := rfl
set_option maxRecDepth 100000 in
theorem al_w1 : ((al_WN.drop 8).take 8).map some = [465, 396, 463, 464, 468, 397, 467, 471].map (fun i => lw_tbl[i]?) := rfl
set_option maxRecDepth 100000 in
theorem al_w2 : ((al_WN.drop 16).take 8).map some = [396, 470, 476, 398, 475, 451, 396, 449].map (fun i => lw_tbl[i]?) := rfl
set_option maxRecDepth 100000 in
theorem al_w3 : ((al_WN.drop 24).take 8).map some = [450, 455, 396, 453, 454, 503, 395, 502].map (fun i => lw_tbl[i]?) := rfl
set_option maxRecDepth 100000 in
theorem al_w4 : ((al_WN.drop 32).take 8).map some = [1, 507, 395, 506, 2, 968, 395, 966].map (fun i => lw_tbl[i]?) := rfl
set_option maxRecDepth 100000 in
theorem al_w5 : ((al_WN.drop 40).take 8).map some = [967, 499, 395, 497, 498, 1458, 395, 1456].map (fun i => lw_tbl[i]?) := rfl
set_option maxRecDepth 100000 in
theorem al_w6 : ((al_WN.drop 48).take 8).map some = [1457, 973, 395, 971, 972, 1397, 410, 1396].map (fun i => lw_tbl[i]?) := rfl
set_option maxRecDepth 100000 in
theorem al_w7 : ((al_WN.drop 56).take 8).map some = [5, 1454, 410, 1453, 6, 2961, 423, 2960].map (fun i => lw_tbl[i]?) := rfl
set_option maxRecDepth 100000 in
theorem al_w8 : ((al_WN.drop 64).take 8).map some = [2972, 423, 2971, 172, 3015, 423, 3014, 177].map (fun i => lw_tbl[i]?) := rfl
set_option maxRecDepth 100000 in
theorem al_w9 : ((al_WN.drop 72).take 8).map some = [3035, 423, 3034, 178, 2977, 423, 2976, 173].map (fun i => lw_tbl[i]?) := rfl
set_option maxRecDepth 100000 in
theorem al_w10 : ((al_WN.drop 80).take 8).map some = [2981, 423, 2980, 174, 2985, 423, 2984, 175].map (fun i => lw_tbl[i]?) := rfl
set_option maxRecDepth 100000 in
theorem al_w11 : ((al_WN.drop 88).take 8).map some = [2989, 423, 2988, 176, 3565, 423, 3563, 3564].map (fun i => lw_tbl[i]?) := rfl
set_option maxRecDepth 100000 in
theorem al_w12 : ((al_WN.drop 96).take 8).map some = [3569, 423, 3568, 179, 3573, 423, 3572, 180].map (fun i => lw_tbl[i]?) := rfl
set_option maxRecDepth 100000 in
theorem al_w13 : ((al_WN.drop 104).take 8).map some = [3577, 423, 3576, 181, 3581, 423, 3580, 182].map (fun i => lw_tbl[i]?) := rfl
set_option maxRecDepth 100000 in
theorem al_w14 : ((al_WN.drop 112).take 8).map some = [3650, 423, 3649, 189, 3654, 423, 3653, 190].map (fun i => lw_tbl[i]?) := rfl
set_option maxRecDepth 100000 in
theorem al_w15 : ((al_WN.drop 120).take 8).map some = [3658, 423, 3657, 191, 3662, 423, 3661, 192].map (fun i => lw_tbl[i]?) := rfl
set_option maxRecDepth 100000 in
theorem al_w16 : ((al_WN.drop 128).take 8).map some = [3666, 423, 3665, 193, 3670, 423, 3669, 194].map (fun i => lw_tbl[i]?) := rfl
set_option maxRecDepth 100000 in
theorem al_w17 : ((al_WN.drop 136).take 8).map some = [3702, 423, 3701, 202, 3698, 423, 3697, 201].map (fun i => lw_tbl[i]?) := rfl
set_option maxRecDepth 100000 in
theorem al_w18 : ((al_WN.drop 144).take 8).map some = [3886, 423, 3885, 246, 3962, 423, 3961, 265].map (fun i => lw_tbl[i]?) := rfl
set_option maxRecDepth 100000 in
theorem al_w19 : ((al_WN.drop 152).take 8).map some = [3971, 423, 3970, 267, 3975, 423, 3974, 268].map (fun i => lw_tbl[i]?) := rfl
set_option maxRecDepth 100000 in
theorem al_w20 : ((al_WN.drop 160).take 8).map some = [3979, 423, 3978, 269, 3982, 423, 3981, 3989].map (fun i => lw_tbl[i]?) := rfl
set_option maxRecDepth 100000 in
theorem al_w21 : ((al_WN.drop 168).take 8).map some = [423, 3988, 270, 3993, 423, 3992, 271, 3997].map (fun i => lw_tbl[i]?) := rfl
set_option maxRecDepth 100000 in
theorem al_w22 : ((al_WN.drop 176).take 8).map some = [423, 3996, 272, 3966, 423, 3965, 266, 432].map (fun i => lw_tbl[i]?) := rfl
set_option maxRecDepth 100000 in
theorem al_w23 : ((al_WN.drop 184).take 8).map some = [394, 431, 1625, 394, 1623, 1624, 1621, 394].map (fun i => lw_tbl[i]?) := rfl
set_option maxRecDepth 100000 in
theorem al_w24 : ((al_WN.drop 192).take 8).map some = [1620, 7, 440, 395, 439, 447, 395, 446].map (fun i => lw_tbl[i]?) := rfl
set_option maxRecDepth 100000 in
theorem al_w25 : ((al_WN.drop 200).take 8).map some = [0, 1642, 395, 1640, 1641, 1633, 395, 1631].map (fun i => lw_tbl[i]?) := rfl
set_option maxRecDepth 100000 in
theorem al_w26 : ((al_WN.drop 208).take 8).map some = [1632, 1637, 395, 1636, 8, 574, 401, 573].map (fun i => lw_tbl[i]?) := rfl
set_option maxRecDepth 100000 in
theorem al_w27 : ((al_WN.drop 216).take 8).map some = [1646, 401, 1644, 1645, 1654, 401, 1652, 1653].map (fun i => lw_tbl[i]?) := rfl
set_option maxRecDepth 100000 in
theorem al_w28 : ((al_WN.drop 224).take 8).map some = [1744, 401, 1742, 1743, 651, 402, 650, 2024].map (fun i => lw_tbl[i]?) := rfl
set_option maxRecDepth 100000 in
theorem al_w29 : ((al_WN.drop 232).take 8).map some = [402, 2022, 2023, 2031, 402, 2029, 2030, 2059].map (fun i => lw_tbl[i]?) := rfl
set_option maxRecDepth 100000 in
theorem al_w30 : ((al_WN.drop 240).take 8).map some = [402, 2057, 2058, 2055, 402, 2053, 2054, 2063].map (fun i => lw_tbl[i]?) := rfl
set_option maxRecDepth 100000 in
theorem al_w31 : ((al_WN.drop 248).take 8).map some = [402, 2062, 65, 730, 403, 729, 2016, 403].map (fun i => lw_tbl[i]?) := rfl
set_option maxRecDepth 100000 in
theorem al_w32 : ((al_WN.drop 256).take 8).map some = [2014, 2015, 2050, 403, 2048, 2049, 737, 404].map (fun i => lw_tbl[i]?) := rfl
set_option maxRecDepth 100000 in
theorem al_w33 : ((al_WN.drop 264).take 8).map some = [736, 2020, 404, 2018, 2019, 2075, 404, 2073].map (fun i => lw_tbl[i]?) := rfl
set_option maxRecDepth 100000 in
theorem al_w34 : ((al_WN.drop 272).take 8).map some = [2074, 880, 406, 879, 1662, 406, 1660, 1661].map (fun i => lw_tbl[i]?) := rfl
set_option maxRecDepth 100000 in
theorem al_w35 : ((al_WN.drop 280).take 8).map some = [1678, 406, 1676, 1677, 1682, 406, 1681, 11].map (fun i => lw_tbl[i]?) := rfl
set_option maxRecDepth 100000 in
theorem al_w36 : ((al_WN.drop 288).take 8).map some = [917, 405, 916, 1629, 405, 1627, 1628, 1666].map (fun i => lw_tbl[i]?) := rfl
set_option maxRecDepth 100000 in
theorem al_w37 : ((al_WN.drop 296).take 8).map some = [405, 1665, 9, 1740, 405, 1739, 14, 1752].map (fun i => lw_tbl[i]?) := rfl
set_option maxRecDepth 100000 in
theorem al_w38 : ((al_WN.drop 304).take 8).map some = [405, 1751, 16, 1748, 405, 1747, 15, 923].map (fun i => lw_tbl[i]?) := rfl
set_option maxRecDepth 100000 in
theorem al_w39 : ((al_WN.drop 312).take 8).map some = [407, 922, 1650, 407, 1648, 1649, 1658, 407].map (fun i => lw_tbl[i]?) := rfl
set_option maxRecDepth 100000 in
theorem al_w40 : ((al_WN.drop 320).take 8).map some = [1656, 1657, 1768, 407, 1766, 1767, 1021, 408].map (fun i => lw_tbl[i]?) := rfl
set_option maxRecDepth 100000 in
theorem al_w41 : ((al_WN.drop 328).take 8).map some = [1020, 2035, 408, 2033, 2034, 1076, 409, 1075].map (fun i => lw_tbl[i]?) := rfl
set_option maxRecDepth 100000 in
theorem al_w42 : ((al_WN.drop 336).take 8).map some = [2011, 409, 2009, 2010, 1082, 410, 1081, 1088].map (fun i => lw_tbl[i]?) := rfl
set_option maxRecDepth 100000 in
theorem al_w43 : ((al_WN.drop 344).take 8).map some = [410, 1087, 3, 2042, 410, 2040, 2041, 2046].map (fun i => lw_tbl[i]?) := rfl
set_option maxRecDepth 100000 in
theorem al_w44 : ((al_WN.drop 352).take 8).map some = [410, 2044, 2045, 1404, 396, 1402, 1403, 1408].map (fun i => lw_tbl[i]?) := rfl
set_option maxRecDepth 100000 in
theorem al_w45 : ((al_WN.drop 360).take 8).map some = [396, 1406, 1407, 1449, 396, 1447, 1448, 1094].map (fun i => lw_tbl[i]?) := rfl
set_option maxRecDepth 100000 in
theorem al_w46 : ((al_WN.drop 368).take 8).map some = [396, 1092, 1093, 1384, 396, 1383, 1098, 396].map (fun i => lw_tbl[i]?) := rfl
set_option maxRecDepth 100000 in
theorem al_w47 : ((al_WN.drop 376).take 8).map some = [1097, 1414, 397, 1413, 1411, 397, 1410, 1419].map (fun i => lw_tbl[i]?) := rfl
set_option maxRecDepth 100000 in
theorem al_w48 : ((al_WN.drop 384).take 8).map some = [397, 1418, 1104, 397, 1103, 1101, 398, 1100].map (fun i => lw_tbl[i]?) := rfl
set_option maxRecDepth 100000 in
theorem al_w49 : ((al_WN.drop 392).take 8).map some = [2027, 411, 2026, 2038, 411, 2037, 1116, 411].map (fun i => lw_tbl[i]?) := rfl
set_option maxRecDepth 100000 in
theorem al_w50 : ((al_WN.drop 400).take 100).map some = [1115, 1110, 411, 1109, 1113, 411, 1112, 3229, 3231, 3233, 3235, 3237, 3239, 3241, 3243, 3245, 3247, 3249, 3251, 3253, 3255, 3257, 3259, 3261, 3263, 3265, 3267, 3269, 3271, 3273, 3275, 3277, 3279, 3281, 3283, 3285, 3287, 3289, 3291, 3293, 3295, 3297, 3299, 3301, 3303, 3305, 3307, 3309, 3311, 3313, 3315, 3317, 3319, 3321, 3323, 3325, 3327, 3329, 3331, 3333, 3335, 3337, 3339, 3341, 3343, 3345, 3347, 3349, 3351, 3353, 3355, 3357, 3359, 3361, 3363, 3365, 3367, 3369, 3371, 3373, 3375, 3377, 3379, 3381, 3383, 3385, 3387, 3389, 3391, 3393, 3395, 3397, 3399, 3401, 3403, 3405, 3407, 3409, 3411, 3413].map (fun i => lw_tbl[i]?) := by decide +kernel
set_option maxRecDepth 100000 in
theorem al_w51 : ((al_WN.drop 500).take 100).map some = [3415, 3417, 3419, 3421, 3423, 3425, 3427, 3429, 3431, 3433, 3435, 3437, 3439, 3441, 3443, 3445, 3447, 3449, 3451, 3453, 3455, 3457, 3459, 3461, 3463, 3465, 3467, 3469, 3471, 3473, 3475, 3477, 3479, 3481, 3483, 3485, 3487, 3489, 3491, 3493, 3495, 3497, 3499, 3501, 3503, 3505, 3507, 3509, 3511, 3513, 3515, 3517, 3519, 3521, 3523, 3525, 3527, 3529, 3531, 3533, 3535, 3537, 3539, 3541, 3543, 3545, 3547, 1348, 1350, 1348, 1350, 1352, 1354, 1589, 1591, 1593, 1595, 1597, 1599, 1601, 1603, 1605, 1607, 1609, 1611, 535, 537, 539, 541, 543, 545, 547, 549, 551, 553, 555, 557, 559, 561, 563].map (fun i => lw_tbl[i]?) := by decide +kernel
set_option maxRecDepth 100000 in
theorem al_w52 : ((al_WN.drop 600).take 100).map some = [565, 614, 616, 618, 620, 622, 624, 626, 628, 630, 632, 634, 636, 638, 640, 642, 691, 693, 695, 697, 699, 701, 703, 705, 707, 709, 711, 713, 715, 717, 719, 721, 723, 849, 851, 853, 855, 857, 859, 861, 863, 865, 867, 869, 871, 786, 788, 790, 792, 794, 796, 798, 800, 802, 804, 806, 808, 810, 812, 814, 816, 896, 898, 900, 902, 904, 906, 908, 910, 912, 990, 992, 994, 996, 998, 1000, 1002, 1004, 1006, 1008, 1010, 1012, 1014, 940, 942, 944, 946, 948, 950, 952, 954, 956, 958, 960, 962, 1041, 1043, 1045, 1047, 1049].map (fun i => lw_tbl[i]?) := by decide +kernel
set_option maxRecDepth 100000 in
theorem al_w53 : ((al_WN.drop 700).take 100).map some = [1051, 1053, 1055, 1057, 1059, 1061, 1063, 1065, 1067, 1069, 1538, 1540, 1542, 1544, 1546, 1548, 1550, 1552, 1554, 1556, 1558, 1560, 1562, 1564, 1566, 1568, 1570, 1572, 1574, 1484, 1486, 1488, 1490, 1492, 1494, 1496, 1498, 1500, 1502, 1504, 1506, 1508, 1510, 1512, 1514, 534, 533, 462, 1346, 466, 456, 1347, 469, 472, 474, 452, 524, 522, 520, 518, 519, 521, 526, 527, 508, 510, 509, 400, 523, 500, 504, 525, 528, 529, 448, 458, 511, 1466, 1398, 1399, 1400, 1455, 2962, 434, 435, 569, 3070, 2963, 568, 3076, 3078, 3079, 3080, 3081, 3082, 3088, 3090, 3091, 645, 3092].map (fun i => lw_tbl[i]?) := by decide +kernel
set_option maxRecDepth 100000 in
theorem al_w54 : ((al_WN.drop 800).take 100).map some = [3095, 3096, 3097, 3098, 646, 3099, 3100, 3101, 3102, 3104, 3105, 3106, 3107, 3108, 3111, 3112, 3113, 3114, 3117, 3118, 3120, 3121, 3123, 3124, 3126, 3127, 3128, 3139, 3140, 3141, 3142, 3143, 3144, 2964, 3145, 3148, 3149, 3150, 3151, 3152, 3153, 3154, 3155, 3156, 2965, 3161, 3162, 3163, 3164, 3166, 3167, 3168, 3169, 3170, 3171, 3172, 3173, 3174, 3175, 3176, 3177, 3178, 2966, 3181, 3182, 2967, 3183, 3184, 3185, 3186, 3187, 3188, 3189, 3190, 3191, 3192, 3193, 3194, 3195, 3196, 2968, 3197, 3204, 3205, 3207, 3208, 3215, 3216, 3218, 3220, 3223, 3224, 3225, 3227, 3228, 2969, 3083, 3134, 3077, 3135].map (fun i => lw_tbl[i]?) := by decide +kernel
set_option maxRecDepth 100000 in
theorem al_w55 : ((al_WN.drop 900).take 100).map some = [2973, 2974, 2990, 2991, 2992, 2993, 2994, 2995, 2996, 2997, 2998, 2999, 3000, 3001, 3002, 3003, 3004, 3005, 3006, 3007, 3008, 3009, 3010, 3011, 3012, 3032, 3016, 3017, 3018, 3019, 3020, 3021, 3022, 3023, 3024, 3025, 3026, 3027, 3028, 3029, 3030, 3031, 3036, 3037, 3038, 3039, 3040, 3041, 3042, 3043, 3044, 3045, 3046, 3047, 3048, 3049, 3050, 3051, 3052, 3053, 3054, 3055, 3056, 3057, 3058, 3059, 3060, 3061, 3062, 3063, 3064, 3065, 3066, 3067, 3068, 3089, 2978, 2982, 2986, 3069, 3072, 3566, 3073, 3570, 3647, 3074, 3075, 3084, 3085, 3959, 3103, 3093, 3574, 3578, 3136, 3137, 3138, 3071, 3094, 3115].map (fun i => lw_tbl[i]?) := by decide +kernel
set_option maxRecDepth 100000 in
theorem al_w56 : ((al_WN.drop 1000).take 100).map some = [3116, 3119, 3122, 3125, 3129, 3110, 3109, 3651, 3655, 3659, 3663, 3883, 3667, 3699, 3695, 3963, 3968, 3986, 3180, 3206, 3990, 3994, 3198, 3972, 3976, 3158, 3212, 3157, 3980, 3983, 3984, 3985, 3146, 3199, 3200, 3201, 3086, 3087, 3165, 3967, 3147, 3179, 3221, 3222, 3219, 3214, 3217, 433, 434, 435, 1577, 436, 437, 395, 438, 1578, 570, 571, 401, 572, 1579, 647, 648, 402, 649, 1580, 726, 727, 403, 728, 1581, 1587, 1588, 874, 875, 405, 876, 877, 406, 878, 915, 1582, 1017, 1018, 408, 1019, 1583, 1072, 1073, 409, 1074, 1584, 1618, 1585, 1626, 981, 983, 1586, 2008, 612].map (fun i => lw_tbl[i]?) := by decide +kernel
set_option maxRecDepth 100000 in
theorem al_w57 : ((al_WN.drop 1100).take 100).map some = [441, 434, 435, 442, 444, 496, 1634, 531, 532, 1638, 1229, 421, 1230, 575, 434, 435, 576, 578, 580, 582, 586, 589, 592, 595, 598, 602, 604, 608, 584, 588, 611, 652, 434, 435, 653, 654, 655, 659, 663, 667, 672, 676, 681, 682, 683, 684, 685, 2025, 687, 688, 689, 2028, 686, 2056, 2060, 731, 434, 435, 819, 822, 825, 833, 836, 839, 732, 843, 732, 734, 404, 735, 827, 830, 835, 842, 847, 2017, 738, 434, 435, 739, 744, 753, 756, 759, 761, 763, 765, 767, 777, 772, 749, 769, 782, 784, 881, 434, 435, 882, 883, 884].map (fun i => lw_tbl[i]?) := by decide +kernel
set_option maxRecDepth 100000 in
theorem al_w58 : ((al_WN.drop 1200).take 100).map some = [885, 890, 892, 886, 1679, 889, 918, 434, 435, 987, 975, 976, 977, 919, 920, 407, 921, 978, 965, 970, 974, 989, 1630, 1639, 1643, 1647, 979, 988, 590, 1651, 605, 1655, 1659, 1663, 1737, 1745, 887, 1765, 893, 1675, 1741, 1749, 924, 434, 435, 926, 927, 930, 931, 932, 933, 935, 925, 934, 928, 1022, 434, 435, 1026, 1027, 1028, 1030, 1032, 1033, 1036, 1023, 1024, 1025, 2036, 1034, 1037, 1039, 1077, 434, 435, 1517, 1518, 1519, 1520, 1521, 1078, 1079, 410, 1080, 1522, 2012, 2013, 2021, 2032, 2039, 1525, 1526, 1529, 1530, 844, 1524, 591, 2072, 1083, 434].map (fun i => lw_tbl[i]?) := by decide +kernel
set_option maxRecDepth 100000 in
theorem al_w59 : ((al_WN.drop 1300).take 57).map some = [435, 1470, 1471, 1472, 1474, 1467, 1468, 1469, 1085, 1451, 1473, 1089, 1090, 1091, 1394, 1401, 1446, 1476, 2043, 2052, 2047, 2051, 1405, 1095, 1409, 1450, 1096, 1102, 1320, 434, 435, 1099, 1412, 1415, 1211, 421, 1212, 1416, 1229, 421, 1230, 1417, 1106, 1107, 396, 1108, 1382, 1111, 1114, 1228, 1229, 421, 1230, 1231, 510, 509, 400].map (fun i => lw_tbl[i]?) := by decide +kernel
theorem al_in_of {l t : List Jvm.Cond} {ps : List Nat} (h : l.map some = ps.map (fun i => t[i]?)) : ∀ w ∈ l, w ∈ t := by
  intro w hw
  have h1 : some w ∈ l.map some := List.mem_map.mpr ⟨w, hw, rfl⟩
  rw [h] at h1
  obtain ⟨i, -, hi⟩ := List.mem_map.mp h1
  exact List.mem_of_getElem? hi
theorem al_in_split {l t : List Jvm.Cond} (n : Nat) (h1 : ∀ w ∈ l.take n, w ∈ t) (h2 : ∀ w ∈ l.drop n, w ∈ t) : ∀ w ∈ l, w ∈ t := by
  intro w hw
  rw [← List.take_append_drop n l] at hw
  rcases List.mem_append.mp hw with h | h
  · exact h1 w h
  · exact h2 w h
theorem al_w_end : ∀ w ∈ al_WN.drop 1357, w ∈ lw_tbl := (fun w hw => by rw [List.drop_eq_nil_of_le (by decide +kernel)] at hw; exact absurd hw List.not_mem_nil)
theorem al_wi59 : ∀ w ∈ al_WN.drop 1300, w ∈ lw_tbl := al_in_split 57 (al_in_of al_w59) (by rw [List.drop_drop]; exact al_w_end)
theorem al_wi58 : ∀ w ∈ al_WN.drop 1200, w ∈ lw_tbl := al_in_split 100 (al_in_of al_w58) (by rw [List.drop_drop]; exact al_wi59)
theorem al_wi57 : ∀ w ∈ al_WN.drop 1100, w ∈ lw_tbl := al_in_split 100 (al_in_of al_w57) (by rw [List.drop_drop]; exact al_wi58)
theorem al_wi56 : ∀ w ∈ al_WN.drop 1000, w ∈ lw_tbl := al_in_split 100 (al_in_of al_w56) (by rw [List.drop_drop]; exact al_wi57)
theorem al_wi55 : ∀ w ∈ al_WN.drop 900, w ∈ lw_tbl := al_in_split 100 (al_in_of al_w55) (by rw [List.drop_drop]; exact al_wi56)
theorem al_wi54 : ∀ w ∈ al_WN.drop 800, w ∈ lw_tbl := al_in_split 100 (al_in_of al_w54) (by rw [List.drop_drop]; exact al_wi55)
theorem al_wi53 : ∀ w ∈ al_WN.drop 700, w ∈ lw_tbl := al_in_split 100 (al_in_of al_w53) (by rw [List.drop_drop]; exact al_wi54)
theorem al_wi52 : ∀ w ∈ al_WN.drop 600, w ∈ lw_tbl := al_in_split 100 (al_in_of al_w52) (by rw [List.drop_drop]; exact al_wi53)
theorem al_wi51 : ∀ w ∈ al_WN.drop 500, w ∈ lw_tbl := al_in_split 100 (al_in_of al_w51) (by rw [List.drop_drop]; exact al_wi52)
theorem al_wi50 : ∀ w ∈ al_WN.drop 400, w ∈ lw_tbl := al_in_split 100 (al_in_of al_w50) (by rw [List.drop_drop]; exact al_wi51)
theorem al_wi49 : ∀ w ∈ al_WN.drop 392, w ∈ lw_tbl := al_in_split 8 (al_in_of al_w49) (by rw [List.drop_drop]; exact al_wi50)
theorem al_wi48 : ∀ w ∈ al_WN.drop 384, w ∈ lw_tbl := al_in_split 8 (al_in_of al_w48) (by rw [List.drop_drop]; exact al_wi49)
theorem al_wi47 : ∀ w ∈ al_WN.drop 376, w ∈ lw_tbl := al_in_split 8 (al_in_of al_w47) (by rw [List.drop_drop]; exact al_wi48)
theorem al_wi46 : ∀ w ∈ al_WN.drop 368, w ∈ lw_tbl := al_in_split 8 (al_in_of al_w46) (by rw [List.drop_drop]; exact al_wi47)
theorem al_wi45 : ∀ w ∈ al_WN.drop 360, w ∈ lw_tbl := al_in_split 8 (al_in_of al_w45) (by rw [List.drop_drop]; exact al_wi46)
theorem al_wi44 : ∀ w ∈ al_WN.drop 352, w ∈ lw_tbl := al_in_split 8 (al_in_of al_w44) (by rw [List.drop_drop]; exact al_wi45)
theorem al_wi43 : ∀ w ∈ al_WN.drop 344, w ∈ lw_tbl := al_in_split 8 (al_in_of al_w43) (by rw [List.drop_drop]; exact al_wi44)
theorem al_wi42 : ∀ w ∈ al_WN.drop 336, w ∈ lw_tbl := al_in_split 8 (al_in_of al_w42) (by rw [List.drop_drop]; exact al_wi43)
theorem al_wi41 : ∀ w ∈ al_WN.drop 328, w ∈ lw_tbl := al_in_split 8 (al_in_of al_w41) (by rw [List.drop_drop]; exact al_wi42)
theorem al_wi40 : ∀ w ∈ al_WN.drop 320, w ∈ lw_tbl := al_in_split 8 (al_in_of al_w40) (by rw [List.drop_drop]; exact al_wi41)
theorem al_wi39 : ∀ w ∈ al_WN.drop 312, w ∈ lw_tbl := al_in_split 8 (al_in_of al_w39) (by rw [List.drop_drop]; exact al_wi40)
theorem al_wi38 : ∀ w ∈ al_WN.drop 304, w ∈ lw_tbl := al_in_split 8 (al_in_of al_w38) (by rw [List.drop_drop]; exact al_wi39)
theorem al_wi37 : ∀ w ∈ al_WN.drop 296, w ∈ lw_tbl := al_in_split 8 (al_in_of al_w37) (by rw [List.drop_drop]; exact al_wi38)
theorem al_wi36 : ∀ w ∈ al_WN.drop 288, w ∈ lw_tbl := al_in_split 8 (al_in_of al_w36) (by rw [List.drop_drop]; exact al_wi37)
theorem al_wi35 : ∀ w ∈ al_WN.drop 280, w ∈ lw_tbl := al_in_split 8 (al_in_of al_w35) (by rw [List.drop_drop]; exact al_wi36)
theorem al_wi34 : ∀ w ∈ al_WN.drop 272, w ∈ lw_tbl := al_in_split 8 (al_in_of al_w34) (by rw [List.drop_drop]; exact al_wi35)
theorem al_wi33 : ∀ w ∈ al_WN.drop 264, w ∈ lw_tbl := al_in_split 8 (al_in_of al_w33) (by rw [List.drop_drop]; exact al_wi34)
theorem al_wi32 : ∀ w ∈ al_WN.drop 256, w ∈ lw_tbl := al_in_split 8 (al_in_of al_w32) (by rw [List.drop_drop]; exact al_wi33)
theorem al_wi31 : ∀ w ∈ al_WN.drop 248, w ∈ lw_tbl := al_in_split 8 (al_in_of al_w31) (by rw [List.drop_drop]; exact al_wi32)
theorem al_wi30 : ∀ w ∈ al_WN.drop 240, w ∈ lw_tbl := al_in_split 8 (al_in_of al_w30) (by rw [List.drop_drop]; exact al_wi31)
theorem al_wi29 : ∀ w ∈ al_WN.drop 232, w ∈ lw_tbl := al_in_split 8 (al_in_of al_w29) (by rw [List.drop_drop]; exact al_wi30)
theorem al_wi28 : ∀ w ∈ al_WN.drop 224, w ∈ lw_tbl := al_in_split 8 (al_in_of al_w28) (by rw [List.drop_drop]; exact al_wi29)
theorem al_wi27 : ∀ w ∈ al_WN.drop 216, w ∈ lw_tbl := al_in_split 8 (al_in_of al_w27) (by rw [List.drop_drop]; exact al_wi28)
theorem al_wi26 : ∀ w ∈ al_WN.drop 208, w ∈ lw_tbl := al_in_split 8 (al_in_of al_w26) (by rw [List.drop_drop]; exact al_wi27)
theorem al_wi25 : ∀ w ∈ al_WN.drop 200, w ∈ lw_tbl := al_in_split 8 (al_in_of al_w25) (by rw [List.drop_drop]; exact al_wi26)
theorem al_wi24 : ∀ w ∈ al_WN.drop 192, w ∈ lw_tbl := al_in_split 8 (al_in_of al_w24) (by rw [List.drop_drop]; exact al_wi25)
theorem al_wi23 : ∀ w ∈ al_WN.drop 184, w ∈ lw_tbl := al_in_split 8 (al_in_of al_w23) (by rw [List.drop_drop]; exact al_wi24)
theorem al_wi22 : ∀ w ∈ al_WN.drop 176, w ∈ lw_tbl := al_in_split 8 (al_in_of al_w22) (by rw [List.drop_drop]; exact al_wi23)
theorem al_wi21 : ∀ w ∈ al_WN.drop 168, w ∈ lw_tbl := al_in_split 8 (al_in_of al_w21) (by rw [List.drop_drop]; exact al_wi22)
theorem al_wi20 : ∀ w ∈ al_WN.drop 160, w ∈ lw_tbl := al_in_split 8 (al_in_of al_w20) (by rw [List.drop_drop]; exact al_wi21)
theorem al_wi19 : ∀ w ∈ al_WN.drop 152, w ∈ lw_tbl := al_in_split 8 (al_in_of al_w19) (by rw [List.drop_drop]; exact al_wi20)
theorem al_wi18 : ∀ w ∈ al_WN.drop 144, w ∈ lw_tbl := al_in_split 8 (al_in_of al_w18) (by rw [List.drop_drop]; exact al_wi19)
theorem al_wi17 : ∀ w ∈ al_WN.drop 136, w ∈ lw_tbl := al_in_split 8 (al_in_of al_w17) (by rw [List.drop_drop]; exact al_wi18)
theorem al_wi16 : ∀ w ∈ al_WN.drop 128, w ∈ lw_tbl := al_in_split 8 (al_in_of al_w16) (by rw [List.drop_drop]; exact al_wi17)
theorem al_wi15 : ∀ w ∈ al_WN.drop 120, w ∈ lw_tbl := al_in_split 8 (al_in_of al_w15) (by rw [List.drop_drop]; exact al_wi16)
theorem al_wi14 : ∀ w ∈ al_WN.drop 112, w ∈ lw_tbl := al_in_split 8 (al_in_of al_w14) (by rw [List.drop_drop]; exact al_wi15)
theorem al_wi13 : ∀ w ∈ al_WN.drop 104, w ∈ lw_tbl := al_in_split 8 (al_in_of al_w13) (by rw [List.drop_drop]; exact al_wi14)
theorem al_wi12 : ∀ w ∈ al_WN.drop 96, w ∈ lw_tbl := al_in_split 8 (al_in_of al_w12) (by rw [List.drop_drop]; exact al_wi13)
theorem al_wi11 : ∀ w ∈ al_WN.drop 88, w ∈ lw_tbl := al_in_split 8 (al_in_of al_w11) (by rw [List.drop_drop]; exact al_wi12)
theorem al_wi10 : ∀ w ∈ al_WN.drop 80, w ∈ lw_tbl := al_in_split 8 (al_in_of al_w10) (by rw [List.drop_drop]; exact al_wi11)
theorem al_wi9 : ∀ w ∈ al_WN.drop 72, w ∈ lw_tbl := al_in_split 8 (al_in_of al_w9) (by rw [List.drop_drop]; exact al_wi10)
theorem al_wi8 : ∀ w ∈ al_WN.drop 64, w ∈ lw_tbl := al_in_split 8 (al_in_of al_w8) (by rw [List.drop_drop]; exact al_wi9)
theorem al_wi7 : ∀ w ∈ al_WN.drop 56, w ∈ lw_tbl := al_in_split 8 (al_in_of al_w7) (by rw [List.drop_drop]; exact al_wi8)
theorem al_wi6 : ∀ w ∈ al_WN.drop 48, w ∈ lw_tbl := al_in_split 8 (al_in_of al_w6) (by rw [List.drop_drop]; exact al_wi7)
theorem al_wi5 : ∀ w ∈ al_WN.drop 40, w ∈ lw_tbl := al_in_split 8 (al_in_of al_w5) (by rw [List.drop_drop]; exact al_wi6)
theorem al_wi4 : ∀ w ∈ al_WN.drop 32, w ∈ lw_tbl := al_in_split 8 (al_in_of al_w4) (by rw [List.drop_drop]; exact al_wi5)
theorem al_wi3 : ∀ w ∈ al_WN.drop 24, w ∈ lw_tbl := al_in_split 8 (al_in_of al_w3) (by rw [List.drop_drop]; exact al_wi4)
theorem al_wi2 : ∀ w ∈ al_WN.drop 16, w ∈ lw_tbl := al_in_split 8 (al_in_of al_w2) (by rw [List.drop_drop]; exact al_wi3)
theorem al_wi1 : ∀ w ∈ al_WN.drop 8, w ∈ lw_tbl := al_in_split 8 (al_in_of al_w1) (by rw [List.drop_drop]; exact al_wi2)
theorem al_wi0 : ∀ w ∈ al_WN.drop 0, w ∈ lw_tbl := al_in_split 8 (al_in_of al_w0) (by rw [List.drop_drop]; exact al_wi1)
theorem al_words : ∀ w ∈ al_WN, w ∈ lw_tbl := al_wi0
