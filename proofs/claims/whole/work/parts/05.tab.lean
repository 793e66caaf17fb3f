/-! the abstract machine's tables: by program (wip/whole/tools/gen_tab.py) out of the statement's words and the printed names -/
def ownL : List String := [RX0, RX1, RX2, RX3, RX4, RX5, RX6, RX7, RX8, RX9, RX10, RX11, RX12, RJ6, RJ9, RJ0, RJ1, RJ7, RJ10, RL, RJ3]
def ownS (o : Nat) : String := ownL.getD o ""
def MT_0 : List (MethodName × Nat × ByteArray × Nat × Option FieldType × Nat × Bool × Nat × Nat × Nat × Nat) := [(yX0_init, 0, cX0_init, 1, (none), 0, true, 246, 245, 0, 141),
  (yX0_add, 0, cX0_add, 2, (some .boolean), 1, false, 764, 762, 763, 141),
  (yX1_init, 1, cX1_init, 1, (none), 0, true, 176, 175, 0, 139),
  (yX1_readQuestion, 1, cX1_readQuestion, 6, (some .int), 2, false, 1122, 1120, 1121, 139),
  (yX1_test, 1, cX1_test, 5, (some .boolean), 2, false, 745, 744, 12, 139),
  (yX1_both, 1, cX1_both, 5, (some .boolean), 2, false, 749, 748, 13, 139),
  (yX1_fact, 1, cX1_fact, 4, (some .boolean), 2, false, 753, 752, 14, 139),
  (yX1_sum, 1, cX1_sum, 6, (some .boolean), 2, false, 778, 777, 16, 139),
  (yX1_product, 1, cX1_product, 6, (some .boolean), 2, false, 782, 781, 17, 139),
  (yX1_part, 1, cX1_part, 4, (some .boolean), 2, false, 786, 785, 18, 139),
  (yX1_pair, 1, cX1_pair, 3, (some .boolean), 2, false, 791, 790, 19, 139),
  (yX1_mayOpen, 1, cX1_mayOpen, 2, (some .boolean), 1, false, 758, 757, 15, 139),
  (yX1_isAskedOfNumber, 1, cX1_isAskedOfNumber, 2, (some .boolean), 1, false, 795, 794, 20, 139),
  (yX1_isAlone, 1, cX1_isAlone, 2, (some .boolean), 1, false, 799, 798, 21, 139),
  (yX2_init, 2, cX2_init, 1, (none), 0, true, 465, 464, 0, 148),
  (yX2_readRows, 2, cX2_readRows, 5, (some .boolean), 3, false, 1069, 1067, 1068, 148),
  (yX2_findSets, 2, cX2_findSets, 7, (none), 3, false, 1078, 1076, 1077, 148),
  (yX2_lastSeen, 2, cX2_lastSeen, 3, (some .int), 0, false, 1082, 1081, 35, 148),
  (yX2_isAsSeen, 2, cX2_isAsSeen, 6, (some .boolean), 2, false, 1089, 1088, 36, 148),
  (yX2_inAll, 2, cX2_inAll, 3, (some .int), 0, false, 1094, 1092, 1093, 148),
  (yX2_inSome, 2, cX2_inSome, 3, (some .int), 0, false, 1098, 1096, 1097, 148),
  (yX2_foresee, 2, cX2_foresee, 6, (none), 4, false, 1106, 1104, 1105, 148),
  (yX2_mostAlike, 2, cX2_mostAlike, 5, (some .int), 1, false, 1111, 1109, 1110, 148),
  (yX3_init, 3, cX3_init, 2, (none), 0, true, 446, 445, 0, 147),
  (yX3_keep, 3, cX3_keep, 2, (none), 1, false, 1017, 1015, 1016, 147),
  (yX3_takeBack, 3, cX3_takeBack, 2, (some .boolean), 1, false, 1057, 1055, 1056, 147),
  (yX4_init, 4, cX4_init, 1, (none), 0, true, 503, 502, 0, 149),
  (yX4_write, 4, cX4_write, 5, (none), 2, false, 1143, 1141, 1142, 149),
  (yX4_put, 4, cX4_put, 2, (none), 1, false, 1147, 1146, 38, 149),
  (yX4_check, 4, cX4_check, 4, (some .int), 2, false, 1150, 1149, 0, 149)]
def MT_1 : List (MethodName × Nat × ByteArray × Nat × Option FieldType × Nat × Bool × Nat × Nat × Nat × Nat) := [(yX4_isOne, 4, cX4_isOne, 9, (some .boolean), 3, false, 1161, 1160, 0, 149),
  (yX4_read, 4, cX4_read, 6, (none), 3, false, 1165, 1164, 0, 149),
  (yX5_init, 5, cX5_init, 1, (none), 0, true, 365, 364, 0, 144),
  (yX5_goThrough, 5, cX5_goThrough, 5, (none), 3, false, 935, 933, 934, 144),
  (yX5_hourComes, 5, cX5_hourComes, 5, (none), 2, false, 939, 937, 938, 144),
  (yX5_bakeLoaf, 5, cX5_bakeLoaf, 9, (none), 3, false, 942, 941, 0, 144),
  (yX5_eat, 5, cX5_eat, 9, (none), 3, false, 947, 946, 30, 144),
  (yX5_sleep, 5, cX5_sleep, 8, (none), 3, false, 957, 956, 31, 144),
  (yX5_deedsDone, 5, cX5_deedsDone, 6, (some .int), 3, false, 846, 844, 845, 144),
  (yX5_valueAsked, 5, cX5_valueAsked, 5, (some .int), 4, false, 1132, 1130, 1131, 144),
  (yX6_init, 6, cX6_init, 1, (none), 0, true, 182, 181, 0, 140),
  (yX6_start, 6, cX6_start, 2, (none), 1, false, 594, 592, 593, 140),
  (yX6_next, 6, cX6_next, 3, (none), 0, false, 604, 602, 603, 140),
  (yX6_letters, 6, cX6_letters, 3, (some .int), 0, false, 669, 668, 3, 140),
  (yX6_digits, 6, cX6_digits, 3, (some .int), 0, false, 673, 672, 4, 140),
  (yX6_wordNumber, 6, cX6_wordNumber, 6, (some .int), 0, false, 614, 613, 2, 140),
  (yX6_isBlank, 6, cX6_isBlank, 1, (some .boolean), 1, false, 607, 606, 0, 140),
  (yX6_sortOf, 6, cX6_sortOf, 1, (some .int), 1, false, 610, 609, 0, 140),
  (yX6_size, 6, cX6_size, 1, (some .int), 0, false, 696, 694, 695, 140),
  (yX6_isWord, 6, cX6_isWord, 2, (some .boolean), 1, false, 716, 714, 715, 140),
  (yX6_isSign, 6, cX6_isSign, 2, (some .boolean), 1, false, 768, 766, 767, 140),
  (yX6_wrong, 6, cX6_wrong, 3, (some .boolean), 2, false, 677, 675, 676, 140),
  (yX6_takeWord, 6, cX6_takeWord, 2, (some .boolean), 1, false, 712, 710, 711, 140),
  (yX6_takeSign, 6, cX6_takeSign, 2, (some .boolean), 1, false, 773, 771, 772, 140),
  (yX6_checkNumber, 6, cX6_checkNumber, 1, (some .boolean), 0, false, 724, 722, 723, 140),
  (yX6_takeNumber, 6, cX6_takeNumber, 3, (some .int), 1, false, 720, 718, 719, 140),
  (yX6_checkName, 6, cX6_checkName, 1, (some .boolean), 0, false, 691, 689, 690, 140),
  (yX7_init, 7, cX7_init, 1, (none), 0, true, 401, 400, 0, 146),
  (yX7_begin, 7, cX7_begin, 2, (none), 1, false, 821, 819, 820, 146),
  (yX7_takeOver, 7, cX7_takeOver, 2, (none), 1, false, 931, 929, 930, 146)]
def MT_2 : List (MethodName × Nat × ByteArray × Nat × Option FieldType × Nat × Bool × Nat × Nat × Nat × Nat) := [(yX7_isLike, 7, cX7_isLike, 2, (some .boolean), 1, false, 978, 976, 977, 146),
  (yX7_copy, 7, cX7_copy, 2, (none), 2, false, 824, 823, 0, 146),
  (yX7_areLike, 7, cX7_areLike, 3, (some .boolean), 2, false, 981, 980, 0, 146),
  (yX8_init, 8, cX8_init, 1, (none), 0, true, 371, 370, 0, 145),
  (yX8_value, 8, cX8_value, 10, (some .int), 5, false, 850, 848, 849, 145),
  (yX8_needed, 8, cX8_needed, 1, (some .int), 1, false, 854, 853, 0, 145),
  (yX8_joined, 8, cX8_joined, 3, (some .int), 3, false, 857, 856, 0, 145),
  (yX8_held, 8, cX8_held, 2, (some .int), 1, false, 861, 860, 0, 145),
  (yX8_askedOf, 8, cX8_askedOf, 6, (some .int), 4, false, 876, 875, 25, 145),
  (yX8_alone, 8, cX8_alone, 4, (some .int), 3, false, 881, 880, 26, 145),
  (yX9_init, 9, cX9_init, 1, (none), 0, true, 264, 263, 0, 142),
  (yX9_clear, 9, cX9_clear, 1, (none), 0, false, 273, 271, 272, 142),
  (yX9_findBusyClocks, 9, cX9_findBusyClocks, 2, (none), 0, false, 817, 815, 816, 142),
  (yX9_isTold, 9, cX9_isTold, 2, (some .boolean), 1, false, 807, 805, 806, 142),
  (yX9_mealsOf, 9, cX9_mealsOf, 4, (some .int), 1, false, 915, 913, 914, 142),
  (yX9_canKnead, 9, cX9_canKnead, 2, (some .boolean), 1, false, 1027, 1025, 1026, 142),
  (yX9_isNamed, 9, cX9_isNamed, 3, (some .boolean), 1, false, 700, 698, 699, 142),
  (yX9_numberOf, 9, cX9_numberOf, 4, (some .int), 2, false, 704, 702, 703, 142),
  (yX10_init, 10, cX10_init, 1, (none), 0, true, 170, 169, 0, 138),
  (yX10_readTown, 10, cX10_readTown, 5, (some .boolean), 2, false, 589, 587, 588, 138),
  (yX10_readMood, 10, cX10_readMood, 2, (some .boolean), 1, false, 681, 680, 5, 138),
  (yX10_readPerson, 10, cX10_readPerson, 5, (some .boolean), 1, false, 708, 707, 7, 138),
  (yX10_readLoaf, 10, cX10_readLoaf, 7, (some .boolean), 1, false, 728, 727, 8, 138),
  (yX10_readMeal, 10, cX10_readMeal, 6, (some .boolean), 1, false, 737, 736, 10, 138),
  (yX10_readDeed, 10, cX10_readDeed, 4, (some .boolean), 1, false, 741, 740, 11, 138),
  (yX10_readOnce, 10, cX10_readOnce, 4, (some .boolean), 2, false, 803, 802, 22, 138),
  (yX10_readSetting, 10, cX10_readSetting, 4, (some .boolean), 1, false, 812, 811, 23, 138),
  (yX10_readNew, 10, cX10_readNew, 3, (some .boolean), 2, false, 685, 684, 6, 138),
  (yX10_findNamed, 10, cX10_findNamed, 4, (some .int), 2, false, 732, 731, 9, 138),
  (yX11_init, 11, cX11_init, 2, (none), 0, true, 162, 161, 0, 137)]
def MT_3 : List (MethodName × Nat × ByteArray × Nat × Option FieldType × Nat × Bool × Nat × Nat × Nat × Nat) := [(yX11_feed, 11, cX11_feed, 6, (some .int), 5, false, 569, 567, 568, 137),
  (yX11_end, 11, cX11_end, 2, (some .boolean), 1, false, 581, 579, 580, 137),
  (yX11_town, 11, cX11_town, 3, (some .int), 0, false, 585, 583, 584, 137),
  (yX11_fault, 11, cX11_fault, 2, (some .int), 1, false, 834, 832, 833, 137),
  (yX11_has, 11, cX11_has, 2, (some .int), 1, false, 838, 836, 837, 137),
  (yX11_letter, 11, cX11_letter, 5, (some .int), 3, false, 891, 889, 890, 137),
  (yX11_feels, 11, cX11_feels, 4, (some .int), 3, false, 899, 897, 898, 137),
  (yX11_bread, 11, cX11_bread, 3, (some .int), 2, false, 907, 905, 906, 137),
  (yX11_loaf, 11, cX11_loaf, 3, (some .int), 2, false, 911, 909, 910, 137),
  (yX11_does, 11, cX11_does, 3, (some .int), 2, false, 919, 917, 918, 137),
  (yX11_later, 11, cX11_later, 4, (some .int), 3, false, 923, 921, 922, 137),
  (yX11_first, 11, cX11_first, 5, (some .int), 1, false, 961, 959, 960, 137),
  (yX11_often, 11, cX11_often, 6, (some .int), 3, false, 970, 968, 969, 137),
  (yX11_again, 11, cX11_again, 4, (some .int), 1, false, 974, 972, 973, 137),
  (yX11_hands, 11, cX11_hands, 13, (some .int), 6, false, 985, 983, 984, 137),
  (yX11_blend, 11, cX11_blend, 14, (some .int), 5, false, 995, 993, 994, 137),
  (yX11_left, 11, cX11_left, 11, (some .int), 3, false, 999, 997, 998, 137),
  (yX11_votes, 11, cX11_votes, 9, (some .int), 3, false, 1005, 1003, 1004, 137),
  (yX11_go, 11, cX11_go, 2, (some .int), 1, false, 1013, 1011, 1012, 137),
  (yX11_knead, 11, cX11_knead, 4, (some .int), 2, false, 1023, 1021, 1022, 137),
  (yX11_calm, 11, cX11_calm, 5, (some .int), 3, false, 1032, 1030, 1031, 137),
  (yX11_days, 11, cX11_days, 3, (some .int), 1, false, 1036, 1034, 1035, 137),
  (yX11_undo, 11, cX11_undo, 1, (some .boolean), 0, false, 1053, 1051, 1052, 137),
  (yX11_seed, 11, cX11_seed, 2, (some .boolean), 1, false, 1061, 1059, 1060, 137),
  (yX11_see, 11, cX11_see, 2, (some .int), 0, false, 1065, 1063, 1064, 137),
  (yX11_kneaders, 11, cX11_kneaders, 3, (some .int), 2, false, 1074, 1072, 1073, 137),
  (yX11_look, 11, cX11_look, 10, (some .int), 3, false, 1102, 1100, 1101, 137),
  (yX11_ask, 11, cX11_ask, 4, (some .long), 1, false, 1117, 1115, 1116, 137),
  (yX11_image, 11, cX11_image, 1, (some .int), 0, false, 1139, 1137, 1138, 137),
  (yX11_octet, 11, cX11_octet, 2, (some .int), 1, false, 1154, 1152, 1153, 137)]
def MT_4 : List (MethodName × Nat × ByteArray × Nat × Option FieldType × Nat × Bool × Nat × Nat × Nat × Nat) := [(yX11_on, 11, cX11_on, 2, (some .boolean), 0, false, 1158, 1156, 1157, 137),
  (yX11_status, 11, cX11_status, 2, (some .int), 1, false, 1169, 1167, 1168, 137),
  (yX11_refuse, 11, cX11_refuse, 2, (some .int), 1, false, 573, 572, 0, 137),
  (yX11_putBytes, 11, cX11_putBytes, 3, (none), 1, false, 577, 576, 1, 137),
  (yX11_isThere, 11, cX11_isThere, 3, (some .boolean), 2, false, 895, 894, 27, 137),
  (yX11_areThere, 11, cX11_areThere, 4, (some .boolean), 3, false, 903, 902, 28, 137),
  (yX11_isAhead, 11, cX11_isAhead, 2, (some .boolean), 1, false, 927, 926, 29, 137),
  (yX11_isFelt, 11, cX11_isFelt, 1, (some .boolean), 1, false, 988, 987, 0, 137),
  (yX11_asFelt, 11, cX11_asFelt, 1, (some .int), 1, false, 951, 950, 0, 137),
  (yX11_deedsDoneNow, 11, cX11_deedsDoneNow, 3, (some .int), 0, false, 842, 841, 24, 137),
  (yX11_lowestOf, 11, cX11_lowestOf, 2, (some .int), 1, false, 965, 964, 0, 137),
  (yX11_unlikeness, 11, cX11_unlikeness, 5, (some .int), 2, false, 1009, 1008, 32, 137),
  (yX11_followWhim, 11, cX11_followWhim, 7, (none), 0, false, 1040, 1039, 33, 137),
  (yX11_draw, 11, cX11_draw, 2, (some .int), 1, false, 1044, 1043, 34, 137),
  (yX11_answer, 11, cX11_answer, 7, (some .long), 2, false, 1127, 1126, 37, 137),
  (yX12_init, 12, cX12_init, 1, (none), 0, true, 1174, 1173, 0, 150),
  (yX12_isIn, 12, cX12_isIn, 6, (some .boolean), 3, false, 1570, 1569, 0, 150),
  (yX12_feed, 12, cX12_feed, 8, (some .int), 5, false, 1491, 1489, 1490, 150),
  (yX12_end, 12, cX12_end, 2, (some .boolean), 1, false, 1495, 1493, 1494, 150),
  (yX12_fail, 12, cX12_fail, 3, (none), 2, false, 1511, 1510, 41, 150),
  (yX12_isLetter, 12, cX12_isLetter, 1, (some .boolean), 1, false, 1522, 1521, 0, 150),
  (yX12_isDigit, 12, cX12_isDigit, 1, (some .boolean), 1, false, 1567, 1566, 0, 150),
  (yX12_peeks, 12, cX12_peeks, 1, (some .int), 0, false, 1503, 1502, 39, 150),
  (yX12_isHere, 12, cX12_isHere, 4, (some .boolean), 1, false, 1519, 1518, 43, 150),
  (yX12_takes, 12, cX12_takes, 2, (some .boolean), 1, false, 1515, 1514, 42, 150),
  (yX12_asks, 12, cX12_asks, 2, (none), 1, false, 1560, 1559, 52, 150),
  (yX12_takesSign, 12, cX12_takesSign, 2, (some .boolean), 1, false, 1641, 1640, 70, 150),
  (yX12_asksSign, 12, cX12_asksSign, 2, (none), 1, false, 1637, 1636, 69, 150),
  (yX12_number, 12, cX12_number, 5, (some .int), 2, false, 1564, 1563, 53, 150),
  (yX12_isOwnHere, 12, cX12_isOwnHere, 2, (some .boolean), 0, false, 1542, 1541, 48, 150)]
def MT_5 : List (MethodName × Nat × ByteArray × Nat × Option FieldType × Nat × Bool × Nat × Nat × Nat × Nat) := [(yX12_name, 12, cX12_name, 3, (some .long), 0, false, 1538, 1537, 47, 150),
  (yX12_isAllowed, 12, cX12_isAllowed, 2, (some .boolean), 1, false, 1633, 1632, 68, 150),
  (yX12_isFull, 12, cX12_isFull, 4, (some .boolean), 3, false, 1530, 1529, 45, 150),
  (yX12_nameOf, 12, cX12_nameOf, 5, (some .int), 2, false, 1548, 1547, 49, 150),
  (yX12_newName, 12, cX12_newName, 4, (some .long), 0, false, 1534, 1533, 46, 150),
  (yX12_oneOf, 12, cX12_oneOf, 5, (some .int), 1, false, 1585, 1584, 56, 150),
  (yX12_isNamed, 12, cX12_isNamed, 4, (none), 2, false, 1552, 1551, 50, 150),
  (yX12_moodTold, 12, cX12_moodTold, 2, (none), 1, false, 1526, 1525, 44, 150),
  (yX12_personTold, 12, cX12_personTold, 5, (none), 1, false, 1556, 1555, 51, 150),
  (yX12_kneaderTold, 12, cX12_kneaderTold, 3, (none), 1, false, 1578, 1577, 55, 150),
  (yX12_loafTold, 12, cX12_loafTold, 5, (none), 1, false, 1574, 1573, 54, 150),
  (yX12_mealTold, 12, cX12_mealTold, 6, (none), 1, false, 1589, 1588, 57, 150),
  (yX12_keepsCodes, 12, cX12_keepsCodes, 3, (none), 1, false, 1688, 1687, 81, 150),
  (yX12_begins, 12, cX12_begins, 2, (none), 1, false, 1597, 1596, 59, 150),
  (yX12_sumIsTold, 12, cX12_sumIsTold, 3, (none), 2, false, 1692, 1691, 82, 150),
  (yX12_deedTold, 12, cX12_deedTold, 4, (none), 1, false, 1593, 1592, 58, 150),
  (yX12_statementTold, 12, cX12_statementTold, 2, (none), 0, false, 1507, 1506, 40, 150),
  (yX12_town, 12, cX12_town, 2, (some .int), 0, false, 1499, 1497, 1498, 150),
  (yX12_stands, 12, cX12_stands, 3, (none), 0, false, 1696, 1695, 83, 150),
  (yX12_fault, 12, cX12_fault, 2, (some .int), 1, false, 1700, 1698, 1699, 150),
  (yX12_hourNow, 12, cX12_hourNow, 1, (some .int), 0, false, 1724, 1723, 88, 150),
  (yX12_moodMany, 12, cX12_moodMany, 1, (some .int), 0, false, 1708, 1707, 84, 150),
  (yX12_peopleMany, 12, cX12_peopleMany, 1, (some .int), 0, false, 1712, 1711, 85, 150),
  (yX12_loafMany, 12, cX12_loafMany, 1, (some .int), 0, false, 1716, 1715, 86, 150),
  (yX12_deedMany, 12, cX12_deedMany, 1, (some .int), 0, false, 1720, 1719, 87, 150),
  (yX12_isMood, 12, cX12_isMood, 2, (some .boolean), 1, false, 1790, 1789, 100, 150),
  (yX12_isPerson, 12, cX12_isPerson, 2, (some .boolean), 1, false, 1786, 1785, 99, 150),
  (yX12_isLoaf, 12, cX12_isLoaf, 2, (some .boolean), 1, false, 1798, 1797, 101, 150),
  (yX12_isDeed, 12, cX12_isDeed, 2, (some .boolean), 1, false, 1826, 1825, 106, 150),
  (yX12_natureOf, 12, cX12_natureOf, 3, (some .int), 2, false, 1756, 1755, 96, 150)]
def MT_6 : List (MethodName × Nat × ByteArray × Nat × Option FieldType × Nat × Bool × Nat × Nat × Nat × Nat) := [(yX12_nowOf, 12, cX12_nowOf, 3, (some .int), 2, false, 1752, 1751, 95, 150),
  (yX12_whoKnead, 12, cX12_whoKnead, 2, (some .int), 1, false, 1814, 1813, 104, 150),
  (yX12_loafIs, 12, cX12_loafIs, 3, (some .int), 2, false, 1802, 1801, 102, 150),
  (yX12_leavenOf, 12, cX12_leavenOf, 2, (some .int), 1, false, 1810, 1809, 103, 150),
  (yX12_putsAside, 12, cX12_putsAside, 2, (none), 0, false, 1839, 1838, 108, 150),
  (yX12_takesBack, 12, cX12_takesBack, 2, (none), 0, false, 1868, 1867, 115, 150),
  (yX12_bits, 12, cX12_bits, 3, (some .int), 1, false, 1581, 1580, 0, 150),
  (yX12_codesTell, 12, cX12_codesTell, 4, (some .long), 1, false, 1740, 1739, 92, 150),
  (yX12_made, 12, cX12_made, 8, (some .int), 5, false, 1859, 1858, 113, 150),
  (yX12_isDone, 12, cX12_isDone, 3, (some .boolean), 2, false, 1736, 1735, 91, 150),
  (yX12_doneBy, 12, cX12_doneBy, 4, (some .int), 1, false, 1732, 1731, 90, 150),
  (yX12_bakes, 12, cX12_bakes, 7, (none), 1, false, 1851, 1850, 111, 150),
  (yX12_eats, 12, cX12_eats, 4, (none), 2, false, 1855, 1854, 112, 150),
  (yX12_sleeps, 12, cX12_sleeps, 3, (none), 1, false, 1864, 1863, 114, 150),
  (yX12_hourComes, 12, cX12_hourComes, 3, (none), 0, false, 1847, 1846, 110, 150),
  (yX12_hoursCome, 12, cX12_hoursCome, 3, (none), 1, false, 1843, 1842, 109, 150),
  (yX12_deedsNow, 12, cX12_deedsNow, 3, (some .int), 0, false, 1728, 1727, 89, 150),
  (yX12_has, 12, cX12_has, 2, (some .int), 1, false, 1704, 1702, 1703, 150),
  (yX12_letter, 12, cX12_letter, 9, (some .int), 3, false, 1776, 1774, 1775, 150),
  (yX12_feels, 12, cX12_feels, 4, (some .int), 3, false, 1782, 1780, 1781, 150),
  (yX12_bread, 12, cX12_bread, 3, (some .int), 2, false, 1794, 1792, 1793, 150),
  (yX12_mealsOf, 12, cX12_mealsOf, 4, (some .int), 1, false, 1818, 1817, 105, 150),
  (yX12_loaf, 12, cX12_loaf, 3, (some .int), 2, false, 1806, 1804, 1805, 150),
  (yX12_does, 12, cX12_does, 3, (some .int), 2, false, 1822, 1820, 1821, 150),
  (yX12_isAhead, 12, cX12_isAhead, 2, (some .boolean), 1, false, 1834, 1833, 107, 150),
  (yX12_later, 12, cX12_later, 5, (some .int), 3, false, 1830, 1828, 1829, 150),
  (yX12_firstDoer, 12, cX12_firstDoer, 3, (some .int), 0, false, 1877, 1876, 116, 150),
  (yX12_first, 12, cX12_first, 4, (some .int), 1, false, 1872, 1870, 1871, 150),
  (yX12_often, 12, cX12_often, 6, (some .int), 3, false, 1881, 1879, 1880, 150),
  (yX12_areAlike, 12, cX12_areAlike, 4, (some .boolean), 2, false, 1889, 1888, 117, 150)]
def MT_7 : List (MethodName × Nat × ByteArray × Nat × Option FieldType × Nat × Bool × Nat × Nat × Nat × Nat) := [(yX12_again, 12, cX12_again, 6, (some .int), 1, false, 1885, 1883, 1884, 150),
  (yX12_isHands, 12, cX12_isHands, 2, (some .boolean), 1, false, 1897, 1896, 118, 150),
  (yX12_size, 12, cX12_size, 1, (some .int), 1, false, 1904, 1903, 0, 150),
  (yX12_least, 12, cX12_least, 2, (some .int), 2, false, 1972, 1971, 0, 150),
  (yX12_laterBy, 12, cX12_laterBy, 7, (some .int), 5, false, 1901, 1900, 119, 150),
  (yX12_hands, 12, cX12_hands, 12, (some .int), 6, false, 1893, 1891, 1892, 150),
  (yX12_blend, 12, cX12_blend, 14, (some .int), 5, false, 1908, 1906, 1907, 150),
  (yX12_left, 12, cX12_left, 9, (some .int), 3, false, 1912, 1910, 1911, 150),
  (yX12_farFrom, 12, cX12_farFrom, 5, (some .int), 2, false, 1923, 1922, 120, 150),
  (yX12_votes, 12, cX12_votes, 7, (some .int), 3, false, 1919, 1917, 1918, 150),
  (yX12_keeps, 12, cX12_keeps, 2, (none), 0, false, 1940, 1939, 122, 150),
  (yX12_undo, 12, cX12_undo, 2, (some .boolean), 0, false, 1927, 1925, 1926, 150),
  (yX12_refuses, 12, cX12_refuses, 1, (some .int), 0, false, 1936, 1935, 121, 150),
  (yX12_go, 12, cX12_go, 2, (some .int), 1, false, 1931, 1929, 1930, 150),
  (yX12_knead, 12, cX12_knead, 4, (some .int), 2, false, 1944, 1942, 1943, 150),
  (yX12_calm, 12, cX12_calm, 5, (some .int), 3, false, 1948, 1946, 1947, 150),
  (yX12_seed, 12, cX12_seed, 2, (some .boolean), 1, false, 1952, 1950, 1951, 150),
  (yX12_drawOf, 12, cX12_drawOf, 2, (some .int), 1, false, 1965, 1964, 124, 150),
  (yX12_whim, 12, cX12_whim, 4, (none), 0, false, 1961, 1960, 123, 150),
  (yX12_days, 12, cX12_days, 3, (some .int), 1, false, 1956, 1954, 1955, 150),
  (yX12_see, 12, cX12_see, 4, (some .int), 0, false, 1976, 1974, 1975, 150),
  (yX12_isSeenAt, 12, cX12_isSeenAt, 3, (some .boolean), 1, false, 1992, 1991, 127, 150),
  (yX12_lastSeen, 12, cX12_lastSeen, 3, (some .int), 0, false, 1988, 1987, 126, 150),
  (yX12_isKneader, 12, cX12_isKneader, 5, (some .boolean), 2, false, 1984, 1983, 125, 150),
  (yX12_kneaders, 12, cX12_kneaders, 8, (some .int), 2, false, 1980, 1978, 1979, 150),
  (yX12_crowd, 12, cX12_crowd, 5, (some .int), 2, false, 2004, 2003, 129, 150),
  (yX12_notes, 12, cX12_notes, 6, (none), 3, false, 2000, 1999, 128, 150),
  (yX12_look, 12, cX12_look, 7, (some .int), 3, false, 1996, 1994, 1995, 150),
  (yX12_qCode, 12, cX12_qCode, 2, (none), 1, false, 1613, 1612, 63, 150),
  (yX12_qOpens, 12, cX12_qOpens, 3, (none), 2, false, 1605, 1604, 61, 150)]
def MT_8 : List (MethodName × Nat × ByteArray × Nat × Option FieldType × Nat × Bool × Nat × Nat × Nat × Nat) := [(yX12_qIsOn, 12, cX12_qIsOn, 2, (some .boolean), 1, false, 1672, 1671, 77, 150),
  (yX12_qDrops, 12, cX12_qDrops, 1, (none), 0, false, 1653, 1652, 73, 150),
  (yX12_qIsBracket, 12, cX12_qIsBracket, 1, (some .boolean), 1, false, 1664, 1663, 0, 150),
  (yX12_qBracket, 12, cX12_qBracket, 2, (some .int), 0, false, 1661, 1660, 75, 150),
  (yX12_qDropsToBracket, 12, cX12_qDropsToBracket, 1, (none), 0, false, 1668, 1667, 76, 150),
  (yX12_qWordHere, 12, cX12_qWordHere, 1, (some .int), 0, false, 1629, 1628, 67, 150),
  (yX12_qWordOf, 12, cX12_qWordOf, 4, (some .int), 2, false, 1625, 1624, 66, 150),
  (yX12_qAsksWord, 12, cX12_qAsksWord, 2, (none), 1, false, 1645, 1644, 71, 150),
  (yX12_qEndsPart, 12, cX12_qEndsPart, 1, (none), 0, false, 1649, 1648, 72, 150),
  (yX12_qPartTold, 12, cX12_qPartTold, 6, (none), 0, false, 1621, 1620, 65, 150),
  (yX12_qGoesOn, 12, cX12_qGoesOn, 2, (some .boolean), 0, false, 1657, 1656, 74, 150),
  (yX12_qSums, 12, cX12_qSums, 3, (none), 0, false, 1617, 1616, 64, 150),
  (yX12_qFact, 12, cX12_qFact, 2, (none), 0, false, 1609, 1608, 62, 150),
  (yX12_qHasSquare, 12, cX12_qHasSquare, 2, (some .boolean), 0, false, 1684, 1683, 80, 150),
  (yX12_qDropsNots, 12, cX12_qDropsNots, 1, (none), 0, false, 1676, 1675, 78, 150),
  (yX12_qTest, 12, cX12_qTest, 3, (none), 0, false, 1601, 1600, 60, 150),
  (yX12_qGoesOnTest, 12, cX12_qGoesOnTest, 1, (some .boolean), 0, false, 1680, 1679, 79, 150),
  (yX12_qClip, 12, cX12_qClip, 2, (some .long), 1, false, 1767, 1766, 0, 150),
  (yX12_qFloor, 12, cX12_qFloor, 6, (some .long), 2, false, 1772, 1771, 0, 150),
  (yX12_qPuts, 12, cX12_qPuts, 3, (none), 1, false, 1744, 1743, 93, 150),
  (yX12_qJoins, 12, cX12_qJoins, 6, (none), 1, false, 1764, 1763, 98, 150),
  (yX12_qPartOf, 12, cX12_qPartOf, 3, (some .long), 2, false, 1760, 1759, 97, 150),
  (yX12_qOf, 12, cX12_qOf, 5, (some .long), 3, false, 1748, 1747, 94, 150),
  (yX12_qTold, 12, cX12_qTold, 4, (some .long), 1, false, 2018, 2017, 131, 150),
  (yX12_qKind, 12, cX12_qKind, 2, (some .int), 0, false, 2013, 2012, 130, 150),
  (yX12_qTakes, 12, cX12_qTakes, 6, (none), 3, false, 2022, 2021, 132, 150),
  (yX12_ask, 12, cX12_ask, 4, (some .long), 1, false, 2008, 2006, 2007, 150),
  (yX12_checked, 12, cX12_checked, 4, (some .int), 2, false, 2033, 2032, 0, 150),
  (yX12_writes, 12, cX12_writes, 2, (none), 1, false, 2030, 2029, 133, 150),
  (yX12_image, 12, cX12_image, 3, (some .int), 0, false, 2026, 2024, 2025, 150)]
def MT_9 : List (MethodName × Nat × ByteArray × Nat × Option FieldType × Nat × Bool × Nat × Nat × Nat × Nat) := [(yX12_octet, 12, cX12_octet, 2, (some .int), 1, false, 2037, 2035, 2036, 150),
  (yX12_loavesFrom, 12, cX12_loavesFrom, 1, (some .int), 0, false, 2049, 2048, 135, 150),
  (yX12_isTold, 12, cX12_isTold, 6, (some .boolean), 1, false, 2045, 2044, 134, 150),
  (yX12_on, 12, cX12_on, 5, (some .boolean), 0, false, 2041, 2039, 2040, 150),
  (yX12_status, 12, cX12_status, 2, (some .int), 1, false, 2053, 2051, 2052, 150),
  (yJ6_bitCount_0f7a4, 13, cJ6_bitCount_0f7a4, 1, (some .int), 1, false, 884, 883, 0, 157),
  (yJ9_floorDiv_7cf53, 14, cJ9_floorDiv_7cf53, 3, (some .int), 2, false, 872, 871, 0, 151),
  (yJ9_abs_0f7a4, 14, cJ9_abs_0f7a4, 1, (some .int), 1, false, 991, 990, 0, 151),
  (yJ9_max_7cf53, 14, cJ9_max_7cf53, 2, (some .int), 2, false, 600, 599, 0, 151),
  (yJ9_max_f86c9, 14, cJ9_max_f86c9, 4, (some .long), 2, false, 869, 868, 0, 151),
  (yJ9_min_7cf53, 14, cJ9_min_7cf53, 2, (some .int), 2, false, 597, 596, 0, 151),
  (yJ9_min_f86c9, 14, cJ9_min_f86c9, 4, (some .long), 2, false, 866, 865, 0, 151),
  (yJ0_length_8abf5, 15, cJ0_length_8abf5, 1, (some .int), 0, false, 621, 619, 620, 152),
  (yJ0_charAt_5068e, 15, cJ0_charAt_5068e, 2, (some .char), 1, false, 631, 629, 630, 152),
  (yJ0_coder_7d493, 15, cJ0_coder_7d493, 1, (some .byte), 0, false, 625, 623, 624, 152),
  (yJ0_isLatin1_aae02, 15, cJ0_isLatin1_aae02, 1, (some .boolean), 0, false, 635, 633, 634, 152),
  (yJ1_charAt_3b067, 16, cJ1_charAt_3b067, 2, (some .char), 2, false, 638, 637, 0, 153),
  (yJ7_fill_53178, 17, cJ7_fill_53178, 4, (none), 2, false, 276, 275, 0, 143),
  (yJ0_checkIndex_df160, 15, cJ0_checkIndex_df160, 2, (none), 2, false, 641, 640, 0, 152),
  (yJ3_checkIndex_8e157, 20, cJ3_checkIndex_8e157, 3, (some .int), 3, false, 646, 645, 0, 154),
  (yL_law, 19, cL_law, 4, (some .boolean), 1, false, 0, 0, 0, 0)]
def MT : List (MethodName × Nat × ByteArray × Nat × Option FieldType × Nat × Bool × Nat × Nat × Nat × Nat) := MT_0 ++ (MT_1 ++ (MT_2 ++ (MT_3 ++ (MT_4 ++ (MT_5 ++ (MT_6 ++ (MT_7 ++ (MT_8 ++ (MT_9)))))))))
def TXs (ci : Nat) : u_T := match ci with
  | 0 => TX0
  | 1 => TX1
  | 2 => TX2
  | 3 => TX3
  | 4 => TX4
  | 5 => TX5
  | 6 => TX6
  | 7 => TX7
  | 8 => TX8
  | 9 => TX9
  | 10 => TX10
  | 11 => TX11
  | 12 => TX12
  | _ => fun k => match k with
  | 0 => ("java/lang/String", "value", "[B", true)
  | _ => ("java/lang/String", "coder", "B", true)
def NXs (ci : Nat) : Nat := match ci with
  | 0 => 2
  | 1 => 2
  | 2 => 8
  | 3 => 3
  | 4 => 2
  | 5 => 1
  | 6 => 9
  | 7 => 5
  | 8 => 5
  | 9 => 16
  | 10 => 2
  | 11 => 17
  | 12 => 103
  | _ => 2
def tyXs (ci : Nat) : Nat → FieldType := match ci with
  | 0 => tyX0
  | 1 => tyX1
  | 2 => tyX2
  | 3 => tyX3
  | 4 => tyX4
  | 5 => tyX5
  | 6 => tyX6
  | 7 => tyX7
  | 8 => tyX8
  | 9 => tyX9
  | 10 => tyX10
  | 11 => tyX11
  | 12 => tyX12
  | _ => fun _ => .int
def ftb : List (Nat × Nat × Nat × Nat × Nat) := [(6, 9, 6, 0, 184), (11, 28, 6, 0, 185), (6, 15, 6, 1, 186), (6, 19, 6, 2, 187), (6, 22, 6, 3, 188), (1, 31, 6, 3, 189), (10, 34, 6, 3, 190), (6, 25, 6, 4, 191), (10, 38, 6, 4, 192), (1, 37, 6, 4, 193), (6, 28, 6, 5, 194), (1, 34, 6, 5, 195), (10, 45, 6, 5, 196), (6, 31, 6, 6, 197), (1, 76, 6, 6, 198), (10, 164, 6, 6, 199), (6, 34, 6, 7, 200), (11, 132, 6, 7, 201), (6, 37, 6, 8, 202), (11, 135, 6, 8, 203), (1, 12, 1, 0, 224), (10, 18, 1, 0, 225), (11, 21, 1, 0, 226), (1, 18, 1, 1, 227), (10, 135, 1, 1, 228), (10, 12, 10, 0, 234), (11, 16, 10, 0, 235), (10, 22, 10, 1, 236), (0, 9, 0, 0, 248), (5, 94, 0, 0, 249), (0, 15, 0, 1, 250), (1, 22, 0, 1, 251), (9, 65, 0, 1, 252), (10, 130, 0, 1, 253), (5, 125, 0, 1, 254), (9, 55, 9, 0, 277), (10, 75, 9, 0, 278), (11, 129, 9, 0, 279), (9, 13, 9, 1, 280), (4, 28, 9, 1, 281), (2, 45, 9, 1, 282), (10, 81, 9, 1, 283), (5, 36, 9, 1, 284), (11, 138, 9, 1, 285), (9, 18, 9, 2, 286), (11, 152, 9, 2, 287), (10, 170, 9, 2, 288), (9, 21, 9, 3, 289), (7, 31, 9, 3, 290), (10, 95, 9, 3, 291), (9, 24, 9, 4, 292), (5, 65, 9, 4, 293), (10, 105, 9, 4, 294), (11, 168, 9, 4, 295), (9, 27, 9, 5, 296), (7, 44, 9, 5, 297), (10, 108, 9, 5, 298), (9, 30, 9, 6, 299), (5, 74, 9, 6, 300), (10, 114, 9, 6, 301), (9, 33, 9, 7, 302), (5, 77, 9, 7, 303), (10, 117, 9, 7, 304), (9, 36, 9, 8, 305), (5, 44, 9, 8, 306), (10, 120, 9, 8, 307), (9, 42, 9, 9, 308), (5, 90, 9, 9, 309), (10, 126, 9, 9, 310), (9, 46, 9, 10, 311), (5, 99, 9, 10, 312), (10, 123, 9, 10, 313), (9, 49, 9, 11, 314), (5, 102, 9, 11, 315), (10, 142, 9, 11, 316), (9, 68, 9, 12, 317), (5, 33, 9, 12, 318), (10, 151, 9, 12, 319), (9, 71, 9, 13, 320), (5, 50, 9, 13, 321), (10, 154, 9, 13, 322), (9, 74, 9, 14, 323), (10, 157, 9, 14, 324), (11, 301, 9, 14, 325), (9, 77, 9, 15, 326), (5, 28, 9, 15, 327), (8, 9, 8, 0, 373), (8, 15, 8, 1, 374), (5, 115, 8, 1, 375), (8, 19, 8, 2, 376), (5, 84, 8, 2, 377), (8, 22, 8, 3, 378), (5, 87, 8, 3, 379), (8, 25, 8, 4, 380), (5, 122, 8, 4, 381), (5, 12, 5, 0, 393), (7, 27, 7, 0, 404), (4, 19, 7, 0, 405), (5, 22, 7, 0, 406), (2, 60, 7, 0, 407), (11, 141, 7, 0, 408), (8, 80, 7, 0, 409), (7, 9, 7, 1, 410), (4, 33, 7, 1, 411), (8, 77, 7, 1, 412), (5, 112, 7, 1, 413), (11, 162, 7, 1, 414), (7, 15, 7, 2, 415), (4, 36, 7, 2, 416), (5, 68, 7, 2, 417), (2, 90, 7, 2, 418), (8, 72, 7, 2, 419), (11, 159, 7, 2, 420), (7, 21, 7, 3, 421), (4, 42, 7, 3, 422), (5, 71, 7, 3, 423), (11, 165, 7, 3, 424), (7, 24, 7, 4, 425), (4, 39, 7, 4, 426), (2, 73, 7, 4, 427), (5, 56, 7, 4, 428), (11, 171, 7, 4, 429), (3, 11, 3, 0, 450), (3, 17, 3, 1, 451), (3, 21, 3, 2, 452), (11, 126, 3, 2, 453), (2, 12, 2, 0, 471), (2, 21, 2, 1, 472), (2, 25, 2, 2, 473), (2, 29, 2, 3, 474), (11, 123, 2, 3, 475), (2, 33, 2, 4, 476), (11, 253, 2, 4, 477), (2, 36, 2, 5, 478), (11, 244, 2, 5, 479), (2, 39, 2, 6, 480), (2, 42, 2, 7, 481), (4, 9, 4, 0, 505), (11, 279, 4, 0, 506), (4, 15, 4, 1, 507), (11, 276, 4, 1, 508), (11, 10, 11, 0, 514), (11, 20, 11, 1, 515), (11, 27, 11, 2, 516), (11, 34, 11, 3, 517), (11, 37, 11, 4, 518), (11, 44, 11, 5, 519), (11, 51, 11, 6, 520), (11, 55, 11, 7, 521), (11, 61, 11, 8, 522), (11, 68, 11, 9, 523), (11, 72, 11, 10, 524), (11, 75, 11, 11, 525), (11, 82, 11, 12, 526), (11, 89, 11, 13, 527), (11, 96, 11, 14, 528), (11, 100, 11, 15, 529), (11, 104, 11, 16, 530), (12, 7, 12, 0, 1176), (12, 239, 12, 1, 1177), (12, 248, 12, 2, 1178), (12, 251, 12, 3, 1179), (12, 262, 12, 4, 1180), (12, 242, 12, 5, 1181), (12, 245, 12, 6, 1182), (12, 392, 12, 7, 1183), (12, 13, 12, 8, 1184), (12, 17, 12, 9, 1185), (12, 20, 12, 10, 1186), (12, 24, 12, 11, 1187), (12, 27, 12, 12, 1188), (12, 30, 12, 13, 1189), (12, 33, 12, 14, 1190), (12, 36, 12, 15, 1191), (12, 39, 12, 16, 1192), (12, 42, 12, 17, 1193), (12, 45, 12, 18, 1194), (12, 48, 12, 19, 1195), (12, 51, 12, 20, 1196), (12, 54, 12, 21, 1197), (12, 57, 12, 22, 1198), (12, 60, 12, 23, 1199), (12, 63, 12, 24, 1200), (12, 66, 12, 25, 1201), (12, 69, 12, 26, 1202), (12, 72, 12, 27, 1203), (12, 75, 12, 28, 1204), (12, 78, 12, 29, 1205), (12, 81, 12, 30, 1206), (12, 84, 12, 31, 1207), (12, 87, 12, 32, 1208), (12, 90, 12, 33, 1209), (12, 93, 12, 34, 1210), (12, 96, 12, 35, 1211), (12, 99, 12, 36, 1212), (12, 102, 12, 37, 1213), (12, 105, 12, 38, 1214), (12, 290, 12, 39, 1215), (12, 108, 12, 40, 1216), (12, 111, 12, 41, 1217), (12, 115, 12, 42, 1218), (12, 118, 12, 43, 1219), (12, 121, 12, 44, 1220), (12, 124, 12, 45, 1221), (12, 127, 12, 46, 1222), (12, 130, 12, 47, 1223), (12, 133, 12, 48, 1224), (12, 338, 12, 49, 1225), (12, 365, 12, 50, 1226), (12, 297, 12, 51, 1227), (12, 136, 12, 52, 1228), (12, 139, 12, 53, 1229), (12, 437, 12, 54, 1230), (12, 443, 12, 55, 1231), (12, 446, 12, 56, 1232), (12, 449, 12, 57, 1233), (12, 458, 12, 58, 1234), (12, 670, 12, 59, 1235), (12, 142, 12, 60, 1236), (12, 145, 12, 61, 1237), (12, 148, 12, 62, 1238), (12, 398, 12, 63, 1239), (12, 558, 12, 64, 1240), (12, 151, 12, 65, 1241), (12, 401, 12, 66, 1242), (12, 155, 12, 67, 1243), (12, 158, 12, 68, 1244), (12, 161, 12, 69, 1245), (12, 164, 12, 70, 1246), (12, 167, 12, 71, 1247), (12, 170, 12, 72, 1248), (12, 173, 12, 73, 1249), (12, 176, 12, 74, 1250), (12, 179, 12, 75, 1251), (12, 182, 12, 76, 1252), (12, 185, 12, 77, 1253), (12, 188, 12, 78, 1254), (12, 191, 12, 79, 1255), (12, 194, 12, 80, 1256), (12, 197, 12, 81, 1257), (12, 200, 12, 82, 1258), (12, 203, 12, 83, 1259), (12, 206, 12, 84, 1260), (12, 209, 12, 85, 1261), (12, 212, 12, 86, 1262), (12, 215, 12, 87, 1263), (12, 218, 12, 88, 1264), (12, 221, 12, 89, 1265), (12, 224, 12, 90, 1266), (12, 227, 12, 91, 1267), (12, 341, 12, 92, 1268), (12, 230, 12, 93, 1269), (12, 344, 12, 94, 1270), (12, 347, 12, 95, 1271), (12, 350, 12, 96, 1272), (12, 233, 12, 97, 1273), (12, 416, 12, 98, 1274), (12, 673, 12, 99, 1275), (12, 678, 12, 100, 1276), (12, 236, 12, 101, 1277), (12, 694, 12, 102, 1278), (15, 9, 13, 0, 2054), (15, 15, 13, 1, 2055)]
def dfs (ci : Nat) : List Value := match ci with
  | 0 => [.null, .int 0]
  | 1 => [.null, .int 0]
  | 2 => [.null, .null, .null, .int 0, .null, .int 0, .null, .null]
  | 3 => [.null, .int 0, .int 0]
  | 4 => [.null, .int 0]
  | 5 => [.null]
  | 6 => [.null, .int 0, .int 0, .int 0, .int 0, .int 0, .int 0, .int 0, .int 0]
  | 7 => [.int 0, .null, .null, .null, .null]
  | 8 => [.null, .int 0, .int 0, .int 0, .int 0]
  | 9 => [.int 0, .null, .null, .null, .null, .null, .null, .null, .null, .null, .null, .null, .int 0, .int 0, .int 0, .int 0]
  | 10 => [.null, .null]
  | 11 => [.null, .null, .null, .null, .int 0, .null, .null, .null, .null, .null, .null, .null, .null, .null, .null, .long 0, .null]
  | 12 => [.null, .int 0, .int 0, .int 0, .int 0, .int 0, .int 0, .int 0, .int 0, .null, .null, .null, .null, .null, .null, .null, .null, .null, .null, .null, .null, .null, .null, .null, .null, .null, .null, .null, .null, .null, .null, .null, .null, .null, .null, .null, .null, .null, .null, .int 0, .null, .null, .null, .null, .null, .null, .null, .null, .null, .int 0, .int 0, .int 0, .null, .null, .long 0, .long 0, .long 0, .long 0, .int 0, .int 0, .null, .null, .null, .int 0, .int 0, .long 0, .int 0, .null, .null, .null, .null, .null, .null, .null, .null, .null, .null, .null, .null, .null, .null, .null, .null, .null, .null, .null, .null, .null, .null, .null, .null, .null, .int 0, .null, .int 0, .int 0, .int 0, .null, .int 0, .long 0, .int 0, .null, .int 0]
  | _ => []
/-- own class, entry, method, kind (0 virtual, 1 static, 2 constructor; 3, 4, 5 the same of nest mates: constructor, virtual, static; 6 arraycopy, 7 Object()), parameters, place of the word -/
def mtb : List (Nat × Nat × Nat × Nat × Nat × Nat) := [(19, 9, 89, 2, 0, 160), (11, 1, 0, 7, 0, 163), (11, 9, 78, 3, 0, 0), (10, 3, 0, 7, 0, 171), (10, 11, 2, 3, 0, 1), (1, 3, 0, 7, 0, 177), (1, 11, 40, 3, 0, 2), (6, 3, 0, 7, 0, 183), (11, 43, 0, 3, 0, 3), (0, 3, 0, 7, 0, 247), (11, 50, 70, 2, 0, 262), (9, 3, 0, 7, 0, 265), (9, 41, 0, 3, 0, 5), (9, 52, 71, 0, 0, 270), (9, 59, 287, 1, 2, 274), (11, 60, 32, 3, 0, 6), (5, 3, 0, 7, 0, 366), (5, 11, 63, 3, 0, 7), (8, 3, 0, 7, 0, 372), (11, 67, 57, 3, 0, 8), (7, 3, 0, 7, 0, 402), (11, 81, 23, 2, 0, 444), (3, 3, 0, 7, 0, 447), (3, 24, 57, 3, 0, 10), (11, 88, 14, 3, 0, 11), (2, 3, 0, 7, 0, 466), (2, 11, 32, 3, 0, 12), (2, 20, 57, 3, 0, 13), (11, 95, 26, 3, 0, 14), (4, 3, 0, 7, 0, 504), (19, 13, 90, 0, 5, 566), (11, 107, 122, 0, 1, 570), (11, 111, 123, 0, 1, 574), (19, 18, 91, 0, 1, 578), (19, 23, 92, 0, 0, 582), (11, 115, 79, 0, 2, 586), (10, 23, 71, 0, 0, 590), (10, 28, 41, 0, 1, 591), (6, 40, 280, 1, 2, 595), (6, 46, 278, 1, 2, 598), (6, 49, 42, 0, 0, 601), (6, 52, 46, 1, 1, 605), (6, 56, 47, 1, 1, 608), (6, 60, 45, 0, 0, 611), (6, 76, 282, 0, 0, 618), (15, 335, 284, 0, 0, 622), (6, 80, 283, 0, 1, 628), (15, 492, 285, 0, 0, 632), (15, 495, 286, 1, 2, 636), (16, 9, 288, 1, 2, 639), (15, 1059, 289, 1, 3, 644), (6, 64, 43, 0, 0, 666), (6, 67, 44, 0, 0, 670), (10, 41, 51, 0, 2, 674), (10, 48, 80, 0, 1, 678), (10, 85, 87, 0, 2, 682), (10, 102, 42, 0, 0, 687), (10, 160, 56, 0, 0, 688), (6, 87, 51, 0, 2, 692), (6, 94, 48, 0, 0, 693), (10, 167, 76, 0, 1, 697), (9, 86, 77, 0, 2, 701), (10, 52, 81, 0, 1, 705), (10, 88, 52, 0, 1, 709), (6, 84, 49, 0, 1, 713), (10, 91, 55, 0, 1, 717), (6, 97, 54, 0, 0, 721), (10, 55, 82, 0, 1, 725), (10, 98, 88, 0, 2, 729), (10, 173, 77, 0, 2, 733), (10, 58, 83, 0, 1, 734), (10, 61, 84, 0, 1, 738), (10, 138, 4, 4, 2, 16), (1, 54, 5, 0, 2, 746), (1, 64, 6, 0, 2, 750), (1, 57, 49, 0, 1, 754), (1, 67, 11, 0, 1, 755), (1, 40, 51, 0, 2, 759), (1, 44, 42, 0, 0, 760), (1, 61, 1, 0, 1, 761), (1, 70, 50, 0, 1, 765), (1, 47, 4, 0, 2, 769), (1, 73, 53, 0, 1, 770), (6, 91, 50, 0, 1, 774), (1, 51, 7, 0, 2, 775), (1, 79, 8, 0, 2, 779), (1, 82, 9, 0, 2, 783), (1, 85, 54, 0, 0, 787), (1, 89, 10, 0, 2, 788), (1, 92, 12, 0, 1, 792), (1, 95, 13, 0, 1, 796), (10, 64, 85, 0, 2, 800), (10, 145, 73, 0, 1, 804), (10, 148, 7, 4, 2, 17), (10, 68, 86, 0, 1, 809), (10, 71, 53, 0, 1, 813), (10, 78, 72, 0, 0, 814), (11, 119, 58, 0, 1, 818), (7, 34, 61, 1, 2, 822), (7, 49, 280, 1, 2, 825), (7, 55, 0, 6, 5, 826), (7, 38, 287, 1, 2, 829), (19, 28, 93, 0, 1, 831), (19, 33, 94, 0, 1, 835), (11, 144, 129, 0, 0, 839), (11, 177, 38, 0, 3, 843), (5, 105, 64, 0, 5, 847), (8, 28, 278, 1, 2, 851), (8, 34, 65, 1, 1, 852), (8, 38, 66, 1, 3, 855), (8, 50, 280, 1, 2, 858), (8, 53, 67, 1, 1, 859), (8, 64, 281, 1, 2, 864), (8, 67, 279, 1, 2, 867), (8, 57, 276, 1, 2, 870), (8, 42, 68, 0, 4, 873), (8, 46, 69, 0, 3, 878), (11, 207, 275, 1, 1, 882), (19, 37, 95, 0, 3, 888), (11, 148, 124, 0, 2, 892), (19, 42, 96, 0, 3, 896), (11, 155, 125, 0, 3, 900), (19, 46, 97, 0, 2, 904), (19, 51, 98, 0, 2, 908), (11, 174, 74, 0, 1, 912), (19, 55, 99, 0, 2, 916), (19, 59, 100, 0, 3, 920), (11, 181, 126, 0, 1, 924), (11, 185, 59, 0, 1, 928), (11, 189, 33, 0, 3, 932), (5, 18, 34, 0, 2, 936), (5, 40, 35, 1, 3, 940), (5, 59, 275, 1, 1, 943), (5, 47, 36, 0, 3, 944), (5, 80, 73, 0, 1, 948), (5, 109, 128, 5, 1, 19), (11, 289, 280, 1, 2, 952), (11, 292, 278, 1, 2, 953), (5, 53, 37, 0, 3, 954), (19, 63, 101, 0, 1, 958), (11, 193, 34, 0, 2, 962), (11, 197, 130, 1, 1, 963), (19, 67, 102, 0, 3, 967), (19, 71, 103, 0, 1, 971), (11, 200, 60, 0, 1, 975), (7, 45, 62, 1, 2, 979), (19, 75, 104, 0, 6, 982), (11, 204, 127, 1, 1, 986), (11, 212, 277, 1, 1, 989), (19, 80, 105, 0, 5, 992), (19, 84, 106, 0, 3, 996), (19, 88, 107, 0, 3, 1002), (11, 221, 131, 0, 2, 1006), (19, 92, 108, 0, 1, 1010), (11, 225, 24, 0, 1, 1014), (3, 25, 59, 0, 1, 1018), (3, 29, 280, 1, 2, 1019), (19, 96, 109, 0, 2, 1020), (11, 228, 75, 0, 1, 1024), (9, 80, 275, 1, 1, 1028), (19, 100, 110, 0, 3, 1029), (19, 104, 111, 0, 1, 1033), (11, 231, 132, 0, 0, 1037), (11, 298, 133, 0, 1, 1041), (11, 304, 128, 1, 1, 1049), (19, 108, 112, 0, 0, 1050), (11, 234, 25, 0, 1, 1054), (19, 113, 113, 0, 1, 1058), (19, 117, 114, 0, 0, 1062), (11, 237, 15, 0, 3, 1066), (2, 50, 0, 6, 5, 1070), (19, 121, 115, 0, 2, 1071), (11, 241, 16, 0, 3, 1075), (2, 56, 17, 0, 0, 1079), (2, 80, 278, 1, 2, 1083), (2, 63, 275, 1, 1, 1084), (2, 69, 59, 0, 1, 1085), (2, 76, 18, 0, 2, 1086), (2, 86, 34, 0, 2, 1090), (11, 247, 19, 0, 0, 1091), (11, 250, 20, 0, 0, 1095), (19, 125, 116, 0, 3, 1099), (11, 256, 21, 0, 4, 1103), (2, 93, 33, 0, 3, 1107), (11, 260, 22, 0, 1, 1108), (2, 97, 287, 1, 2, 1112), (2, 103, 128, 5, 1, 20), (19, 129, 117, 0, 1, 1114), (11, 265, 3, 0, 2, 1119), (1, 27, 41, 0, 1, 1123), (11, 269, 134, 0, 2, 1124), (11, 317, 39, 0, 4, 1129), (5, 118, 38, 0, 3, 1133), (11, 321, 279, 1, 2, 1134), (11, 324, 281, 1, 2, 1135), (19, 134, 118, 0, 0, 1136), (11, 273, 27, 0, 2, 1140), (4, 24, 28, 0, 1, 1144), (4, 45, 29, 1, 2, 1148), (19, 138, 119, 0, 1, 1151), (19, 142, 120, 0, 0, 1155), (11, 282, 30, 1, 3, 1159), (4, 49, 75, 0, 1, 1162), (11, 285, 31, 1, 3, 1163), (19, 146, 121, 0, 1, 1166), (19, 12, 135, 2, 0, 1172), (12, 1, 0, 7, 0, 1175), (19, 17, 137, 0, 5, 1488), (19, 22, 138, 0, 1, 1492), (19, 27, 167, 0, 0, 1496), (12, 254, 142, 0, 0, 1500), (12, 389, 166, 0, 0, 1504), (12, 272, 139, 0, 2, 1508), (12, 269, 144, 0, 1, 1512), (12, 265, 143, 0, 1, 1516), (12, 258, 140, 1, 1, 1520), (12, 368, 157, 0, 1, 1523), (12, 308, 152, 0, 3, 1527), (12, 312, 154, 0, 0, 1531), (12, 300, 150, 0, 0, 1535), (12, 286, 149, 0, 0, 1539), (12, 304, 153, 0, 2, 1545), (12, 315, 156, 0, 2, 1549), (12, 371, 158, 0, 1, 1553), (12, 319, 145, 0, 1, 1557), (12, 323, 148, 0, 2, 1561), (12, 279, 141, 1, 1, 1565), (12, 282, 136, 1, 3, 1568), (12, 374, 160, 0, 1, 1571), (12, 334, 159, 0, 1, 1575), (12, 327, 186, 1, 1, 1579), (12, 331, 155, 0, 1, 1582), (12, 377, 161, 0, 1, 1586), (12, 380, 165, 0, 1, 1590), (12, 353, 163, 0, 1, 1594), (12, 362, 255, 0, 0, 1598), (12, 622, 239, 0, 2, 1602), (12, 646, 252, 0, 0, 1606), (12, 604, 238, 0, 1, 1610), (12, 356, 251, 0, 0, 1614), (12, 640, 249, 0, 0, 1618), (12, 619, 246, 0, 2, 1622), (12, 613, 245, 0, 0, 1626), (12, 616, 151, 0, 1, 1630), (12, 386, 147, 0, 1, 1634), (12, 276, 146, 0, 1, 1638), (12, 625, 247, 0, 1, 1642), (12, 628, 248, 0, 0, 1646), (12, 610, 241, 0, 0, 1650), (12, 643, 250, 0, 0, 1654), (12, 631, 243, 0, 0, 1658), (12, 607, 242, 1, 1, 1662), (12, 634, 244, 0, 0, 1665), (12, 637, 240, 0, 1, 1669), (12, 649, 254, 0, 0, 1673), (12, 652, 256, 0, 0, 1677), (12, 655, 253, 0, 0, 1681), (12, 359, 162, 0, 1, 1685), (12, 383, 164, 0, 2, 1689), (12, 395, 168, 0, 0, 1693), (19, 32, 169, 0, 1, 1697), (19, 36, 197, 0, 1, 1701), (12, 404, 171, 0, 0, 1705), (12, 407, 172, 0, 0, 1709), (12, 410, 173, 0, 0, 1713), (12, 413, 174, 0, 0, 1717), (12, 493, 170, 0, 0, 1721), (12, 496, 196, 0, 0, 1725), (12, 490, 190, 0, 1, 1729), (12, 461, 189, 0, 2, 1733), (12, 452, 187, 0, 1, 1737), (12, 419, 259, 0, 1, 1741), (12, 423, 262, 0, 3, 1745), (12, 440, 180, 0, 2, 1749), (12, 434, 179, 0, 2, 1753), (12, 427, 261, 0, 2, 1757), (12, 431, 260, 0, 1, 1761), (12, 662, 257, 1, 1, 1765), (12, 666, 258, 1, 2, 1770), (19, 41, 198, 0, 3, 1773), (19, 45, 199, 0, 3, 1779), (12, 503, 176, 0, 1, 1783), (12, 506, 175, 0, 1, 1787), (19, 50, 200, 0, 2, 1791), (12, 509, 177, 0, 1, 1795), (12, 471, 182, 0, 2, 1799), (19, 54, 202, 0, 2, 1803), (12, 468, 183, 0, 1, 1807), (12, 465, 181, 0, 1, 1811), (12, 512, 201, 0, 1, 1815), (19, 58, 203, 0, 2, 1819), (12, 515, 178, 0, 1, 1823), (19, 62, 205, 0, 3, 1827), (12, 520, 204, 0, 1, 1831), (12, 523, 184, 0, 0, 1836), (12, 526, 195, 0, 1, 1840), (12, 487, 194, 0, 0, 1844), (12, 478, 191, 0, 1, 1848), (12, 481, 192, 0, 2, 1852), (12, 474, 188, 0, 5, 1856), (12, 484, 193, 0, 1, 1861), (12, 529, 185, 0, 0, 1865), (19, 66, 207, 0, 1, 1869), (12, 534, 206, 0, 0, 1874), (19, 70, 208, 0, 3, 1878), (19, 74, 210, 0, 1, 1882), (12, 537, 209, 0, 2, 1886), (19, 79, 215, 0, 6, 1890), (12, 540, 211, 0, 1, 1894), (12, 543, 214, 0, 5, 1898), (12, 546, 212, 1, 1, 1902), (19, 83, 216, 0, 5, 1905), (19, 87, 217, 0, 3, 1909), (19, 91, 219, 0, 3, 1916), (12, 555, 218, 0, 2, 1920), (19, 112, 221, 0, 0, 1924), (19, 95, 223, 0, 1, 1928), (12, 563, 222, 0, 0, 1933), (12, 566, 220, 0, 0, 1937), (19, 99, 224, 0, 2, 1941), (19, 103, 225, 0, 3, 1945), (19, 116, 226, 0, 1, 1949), (19, 107, 229, 0, 1, 1953), (12, 585, 228, 0, 0, 1958), (12, 577, 227, 0, 1, 1962), (12, 580, 213, 1, 2, 1970), (19, 120, 230, 0, 0, 1973), (19, 124, 234, 0, 2, 1977), (12, 594, 233, 0, 2, 1981), (12, 588, 232, 0, 0, 1985), (12, 591, 231, 0, 1, 1989), (19, 128, 237, 0, 3, 1993), (12, 597, 236, 0, 3, 1997), (12, 601, 235, 0, 2, 2001), (19, 133, 266, 0, 1, 2005), (12, 684, 264, 0, 0, 2010), (12, 687, 263, 0, 1, 2015), (12, 690, 265, 0, 3, 2019), (19, 137, 269, 0, 0, 2023), (12, 697, 268, 0, 1, 2027), (12, 700, 267, 1, 2, 2031), (19, 141, 270, 0, 1, 2034), (19, 145, 273, 0, 0, 2038), (12, 707, 272, 0, 1, 2042), (12, 704, 271, 0, 0, 2046), (19, 149, 274, 0, 1, 2050)]
def ctb : List (Nat × Nat × Nat × Nat × Nat × Nat) := [(19, 7, 11, 158, 159, 137), (11, 7, 10, 166, 167, 138), (10, 9, 1, 172, 173, 139), (1, 9, 6, 178, 179, 140), (11, 41, 0, 242, 243, 141), (11, 48, 9, 260, 261, 142), (9, 39, 0, 268, 243, 141), (11, 58, 5, 361, 362, 144), (5, 9, 8, 367, 368, 145), (11, 65, 7, 397, 398, 146), (11, 79, 3, 442, 443, 147), (3, 9, 7, 448, 398, 146), (11, 86, 2, 461, 462, 148), (2, 9, 5, 467, 362, 144), (2, 18, 7, 469, 398, 146), (11, 93, 4, 499, 500, 149), (19, 10, 12, 1170, 1171, 150)]
def ktb : List (Nat × Nat × Int32 × Nat) := [(13, 265, (1431655765), 885), (13, 266, (858993459), 886), (13, 267, (252645135), 887)]
def ltb : List (Nat × Nat × Int64 × Nat) := [(8, 60, (-1000000), 862), (8, 62, (1000000), 863), (11, 217, (100), 1000), (11, 219, (1000), 1001), (11, 307, (1103515245), 1045), (11, 309, (12345), 1046), (11, 311, (2147483647), 1047), (11, 313, (64), 1048), (11, 263, (-1000000000000000), 1118), (11, 315, (-1), 1128), (12, 293, (27), 1543), (12, 295, (97), 1544), (12, 658, (1000000), 1768), (12, 660, (-1000000), 1769), (12, 499, (3), 1777), (12, 501, (5), 1778), (12, 518, (200), 1835), (12, 456, (99), 1860), (12, 532, (2), 1873), (12, 549, (6), 1913), (12, 551, (100), 1914), (12, 553, (1000), 1915), (12, 561, (500), 1932), (12, 583, (20), 1957), (12, 569, (1103515245), 1966), (12, 571, (12345), 1967), (12, 573, (2147483648), 1968), (12, 575, (64), 1969), (12, 682, (-1000000000000000), 2009), (12, 676, (-1), 2014)]
def stI : List Nat := [70, 72, 74]
def stT : List String := ["mood    person  is      loaf    leaven  by      eats    at      deed    when    turn    night   bake    evening whim    ", "all     clock   day     own     now     bread   which   feel    nature  not     or      and     min     max     ", "hour    does    first   last    often   total   most    least   "]
def stL : List Nat := [120, 112, 64]
def stB : List (List Int32) := [[109, 111, 111, 100, 32, 32, 32, 32, 112, 101, 114, 115, 111, 110, 32, 32, 105, 115, 32, 32, 32, 32, 32, 32, 108, 111, 97, 102, 32, 32, 32, 32, 108, 101, 97, 118, 101, 110, 32, 32, 98, 121, 32, 32, 32, 32, 32, 32, 101, 97, 116, 115, 32, 32, 32, 32, 97, 116, 32, 32, 32, 32, 32, 32, 100, 101, 101, 100, 32, 32, 32, 32, 119, 104, 101, 110, 32, 32, 32, 32, 116, 117, 114, 110, 32, 32, 32, 32, 110, 105, 103, 104, 116, 32, 32, 32, 98, 97, 107, 101, 32, 32, 32, 32, 101, 118, 101, 110, 105, 110, 103, 32, 119, 104, 105, 109, 32, 32, 32, 32], [97, 108, 108, 32, 32, 32, 32, 32, 99, 108, 111, 99, 107, 32, 32, 32, 100, 97, 121, 32, 32, 32, 32, 32, 111, 119, 110, 32, 32, 32, 32, 32, 110, 111, 119, 32, 32, 32, 32, 32, 98, 114, 101, 97, 100, 32, 32, 32, 119, 104, 105, 99, 104, 32, 32, 32, 102, 101, 101, 108, 32, 32, 32, 32, 110, 97, 116, 117, 114, 101, 32, 32, 110, 111, 116, 32, 32, 32, 32, 32, 111, 114, 32, 32, 32, 32, 32, 32, 97, 110, 100, 32, 32, 32, 32, 32, 109, 105, 110, 32, 32, 32, 32, 32, 109, 97, 120, 32, 32, 32, 32, 32], [104, 111, 117, 114, 32, 32, 32, 32, 100, 111, 101, 115, 32, 32, 32, 32, 102, 105, 114, 115, 116, 32, 32, 32, 108, 97, 115, 116, 32, 32, 32, 32, 111, 102, 116, 101, 110, 32, 32, 32, 116, 111, 116, 97, 108, 32, 32, 32, 109, 111, 115, 116, 32, 32, 32, 32, 108, 101, 97, 115, 116, 32, 32, 32]]
/-- own class, entry, which (1 MOST_OF, 0 COMPACT_STRINGS, 2 SIOOBE_FORMATTER), nest, place -/
def gtb : List (Nat × Nat × Nat × Nat × Nat) := [(9, 9, 1, 1, 4), (7, 18, 1, 1, 9), (15, 38, 0, 0, 626), (15, 1053, 2, 0, 642), (10, 111, 1, 1, 15), (8, 69, 1, 1, 18), (11, 295, 1, 0, 966)]
def nestW : List Cond := [(Cond.methodLinkNest "MoodBread" (9) ({ cls := "MoodBread$TownReader", name := "<init>", desc := "()V" } : MethodName) "MoodBread"),
  (Cond.methodLinkNest "MoodBread$TownReader" (11) ({ cls := "MoodBread$Grammar", name := "<init>", desc := "()V" } : MethodName) "MoodBread"),
  (Cond.methodLinkNest "MoodBread$Grammar" (11) ({ cls := "MoodBread$Reader", name := "<init>", desc := "()V" } : MethodName) "MoodBread"),
  (Cond.methodLinkNest "MoodBread" (43) ({ cls := "MoodBread$Code", name := "<init>", desc := "()V" } : MethodName) "MoodBread"),
  (Cond.fieldLinkNest "MoodBread$Town" (9) "MoodBread" "MOST_OF" "[I" "MoodBread"),
  (Cond.methodLinkNest "MoodBread$Town" (41) ({ cls := "MoodBread$Code", name := "<init>", desc := "()V" } : MethodName) "MoodBread"),
  (Cond.methodLinkNest "MoodBread" (60) ({ cls := "MoodBread$Life", name := "<init>", desc := "()V" } : MethodName) "MoodBread"),
  (Cond.methodLinkNest "MoodBread$Life" (11) ({ cls := "MoodBread$Sums", name := "<init>", desc := "()V" } : MethodName) "MoodBread"),
  (Cond.methodLinkNest "MoodBread" (67) ({ cls := "MoodBread$State", name := "<init>", desc := "()V" } : MethodName) "MoodBread"),
  (Cond.fieldLinkNest "MoodBread$State" (18) "MoodBread" "MOST_OF" "[I" "MoodBread"),
  (Cond.methodLinkNest "MoodBread$History" (24) ({ cls := "MoodBread$State", name := "<init>", desc := "()V" } : MethodName) "MoodBread"),
  (Cond.methodLinkNest "MoodBread" (88) ({ cls := "MoodBread$Guesses", name := "<init>", desc := "()V" } : MethodName) "MoodBread"),
  (Cond.methodLinkNest "MoodBread$Guesses" (11) ({ cls := "MoodBread$Life", name := "<init>", desc := "()V" } : MethodName) "MoodBread"),
  (Cond.methodLinkNest "MoodBread$Guesses" (20) ({ cls := "MoodBread$State", name := "<init>", desc := "()V" } : MethodName) "MoodBread"),
  (Cond.methodLinkNest "MoodBread" (95) ({ cls := "MoodBread$Image", name := "<init>", desc := "()V" } : MethodName) "MoodBread"),
  (Cond.fieldLinkNest "MoodBread$TownReader" (111) "MoodBread" "MOST_OF" "[I" "MoodBread"),
  (Cond.methodLinkNest "MoodBread$TownReader" (138) ({ cls := "MoodBread$Grammar", name := "test", desc := "(LMoodBread$Code;I)Z" } : MethodName) "MoodBread"),
  (Cond.methodLinkNest "MoodBread$TownReader" (148) ({ cls := "MoodBread$Grammar", name := "sum", desc := "(LMoodBread$Code;I)Z" } : MethodName) "MoodBread"),
  (Cond.fieldLinkNest "MoodBread$Sums" (69) "MoodBread" "MOST_OF" "[I" "MoodBread"),
  (Cond.methodLinkNest "MoodBread$Life" (109) ({ cls := "MoodBread", name := "asFelt", desc := "(I)I" } : MethodName) "MoodBread"),
  (Cond.methodLinkNest "MoodBread$Guesses" (103) ({ cls := "MoodBread", name := "asFelt", desc := "(I)I" } : MethodName) "MoodBread")]
