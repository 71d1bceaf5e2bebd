/-! ===== what the premises say, one by one ===== -/
def nav : Nat → Nat → Cond → Cond
  | n + 1, k, .and a b => if k % 2 = 0 then nav n (k / 2) a else nav n (k / 2) b
  | _, _, c => c
theorem nav_b {args : Array Value} {s : State} : ∀ (n k : Nat) (c : Cond), c.before args s = true → (nav n k c).before args s = true
  | 0, k, c, h => by cases c <;> exact h
  | n + 1, k, c, h => by
    cases c with
    | and a b =>
      rw [Cond.before_and, Bool.and_eq_true] at h
      show (if k % 2 = 0 then nav n (k / 2) a else nav n (k / 2) b).before args s = true
      split
      · exact nav_b n _ a h.1
      · exact nav_b n _ b h.2
    | _ => exact h
def nr (k : Nat) : Cond := nav 24 k narrow_1
def tmK (i : Nat) : Term := .static RX2 (nmKd.getD i "") "LCopperStreet$Kind;"
def tmV (i : Nat) : Term := .static RX10 (nmVb.getD i "") "LCopperStreet$Verb;"
def stO : List String := [RX2, RX2, RX2, RX10, RX10, RX10, RX10, RX10, RX10, RX4, RX4, RX12]
def stK : List Nat := [62, 68, 71, 59, 65, 68, 71, 74, 77, 117, 122, 222]
def tmS (i : Nat) : Term := .string (stO.getD i "") (stK.getD i 0)
theorem nK_ex : ∀ i, i < 3 → nr (([640, 1966, 830] : List Nat).getD i 0) = Cond.exactly (tmK i) RX2 := by decide +kernel
theorem nK_f0 : ∀ i, i < 3 → nr (([832, 750, 1982] : List Nat).getD i 0) = Cond.eq (.field (tmK i) RX2 "number" "I") (.int (([0, 1, 2] : List Int32).getD i 0)) := by decide +kernel
theorem nK_f1 : ∀ i, i < 3 → nr (([704, 1518, 638] : List Nat).getD i 0) = Cond.eq (.field (tmK i) RX2 "area" "I") (.int (([12, 8, 20] : List Int32).getD i 0)) := by decide +kernel
theorem nK_f2 : ∀ i, i < 3 → nr (([1472, 2030, 894] : List Nat).getD i 0) = Cond.eq (.field (tmK i) RX2 "smoothBlows" "I") (.int (([24, 16, 40] : List Int32).getD i 0)) := by decide +kernel
theorem nK_f3 : ∀ i, i < 3 → nr (([1984, 542, 766] : List Nat).getD i 0) = Cond.eq (.field (tmK i) RX2 "mealsToWear" "I") (.int (([4, 2, 6] : List Int32).getD i 0)) := by decide +kernel
theorem nK_f4 : ∀ i, i < 3 → nr (([544, 798, 1534] : List Nat).getD i 0) = Cond.eq (.field (tmK i) RX2 "bareSound" "I") (.int (([30, 50, 10] : List Int32).getD i 0)) := by decide +kernel
theorem nK_f5 : ∀ i, i < 3 → nr (([800, 670, 2046] : List Nat).getD i 0) = Cond.eq (.field (tmK i) RX2 "soundByThickness" "I") (.int (([5, 4, 3] : List Int32).getD i 0)) := by decide +kernel
theorem nK_f6 : ∀ i, i < 3 → nr (([672, 1438, 513] : List Nat).getD i 0) = Cond.eq (.field (tmK i) RX2 "halvesByTin" "I") (.int (([2, 4, 1] : List Int32).getD i 0)) := by decide +kernel
theorem nK_w : ∀ i, i < 3 → nr (([576, 878, 1470] : List Nat).getD i 0) = Cond.eq (.field (tmK i) RX2 "word" "Ljava/lang/String;") (tmS i) := by decide +kernel
theorem nK_ne : ∀ i, i < 3 → ∀ j, j < 3 → i ≠ j → nr ((([[0, 1950, 769], [1950, 0, 1985], [769, 1985, 0]] : List (List Nat)).getD i []).getD j 0) = Cond.not (.eq (tmK i) (tmK j)) ∨ nr ((([[0, 1950, 769], [1950, 0, 1985], [769, 1985, 0]] : List (List Nat)).getD i []).getD j 0) = Cond.not (.eq (tmK j) (tmK i)) := by decide +kernel
theorem nV_ex : ∀ i, i < 6 → nr (([648, 1992, 872, 1944, 1464, 752] : List Nat).getD i 0) = Cond.exactly (tmV i) RX10 := by decide +kernel
theorem nV_f : ∀ i, i < 6 → nr (([840, 680, 2024, 728, 888, 520] : List Nat).getD i 0) = Cond.eq (.field (tmV i) RX10 "secondDigits" "I") (.int (([1, 2, 1, 2, 1, 0] : List Int32).getD i 0)) := by decide +kernel
theorem nV_w : ∀ i, i < 6 → nr (([584, 808, 1512, 856, 632, 2032] : List Nat).getD i 0) = Cond.eq (.field (tmV i) RX10 "word" "Ljava/lang/String;") (tmS (3 + i)) := by decide +kernel
theorem nV_ne : ∀ i, i < 6 → ∀ j, j < 6 → i ≠ j → nr ((([[0, 616, 664, 568, 2040, 1480], [616, 0, 1432, 824, 516, 1960], [664, 1432, 0, 696, 772, 792], [568, 824, 696, 0, 644, 2008], [2040, 516, 772, 644, 0, 1528], [1480, 1960, 792, 2008, 1528, 0]] : List (List Nat)).getD i []).getD j 0) = Cond.not (.eq (tmV i) (tmV j)) ∨ nr ((([[0, 616, 664, 568, 2040, 1480], [616, 0, 1432, 824, 516, 1960], [664, 1432, 0, 696, 772, 792], [568, 824, 696, 0, 644, 2008], [2040, 516, 772, 644, 0, 1528], [1480, 1960, 792, 2008, 1528, 0]] : List (List Nat)).getD i []).getD j 0) = Cond.not (.eq (tmV j) (tmV i)) := by decide +kernel
def tKA : Term := .static RX2 "ALL" "[LCopperStreet$Kind;"
theorem tKA_a : nr 528 = Cond.arrayOf tKA (.object RX2) := by decide +kernel
theorem tKA_l : nr 784 = Cond.eq (.length tKA) (.int (Int32.ofNat 3)) := by decide +kernel
theorem tKA_e : ∀ j, j < 3 → nr (([1424, 1936, 592] : List Nat).getD j 0) = Cond.eq (.elem tKA (.int (Int32.ofNat j))) (tmK j) := by decide +kernel
def tVA : Term := .static RX10 "ALL" "[LCopperStreet$Verb;"
theorem tVA_a : nr 1488 = Cond.arrayOf tVA (.object RX10) := by decide +kernel
theorem tVA_l : nr 2000 = Cond.eq (.length tVA) (.int (Int32.ofNat 6)) := by decide +kernel
theorem tVA_e : ∀ j, j < 6 → nr (([816, 688, 1456, 1968, 624, 880] : List Nat).getD j 0) = Cond.eq (.elem tVA (.int (Int32.ofNat j))) (tmV j) := by decide +kernel
def tDO : Term := .static "java/lang/Integer" "DigitOnes" "[B"
theorem tDO_a : nr 580 = Cond.arrayOf tDO .byte := by decide +kernel
theorem tDO_l : nr 836 = Cond.eq (.length tDO) (.int (Int32.ofNat 100)) := by decide +kernel
theorem tDO_e : ∀ j, j < 100 → nr (([708, 1476, 1988, 548, 804, 676, 1444, 1956, 612, 868, 740, 1508, 2020, 532, 788, 660, 1428, 1940, 596, 852, 724, 1492, 2004, 564, 820, 692, 1460, 1972, 628, 884, 756, 1524, 2036, 524, 780, 652, 908, 588, 844, 716, 1484, 1996, 556, 812, 684, 1452, 1964, 620, 876, 748, 1516, 2028, 540, 796, 668, 1436, 1948, 604, 860, 732, 1500, 2012, 572, 828, 700, 1468, 1980, 636, 892, 764, 1532, 2044, 514, 770, 642, 898, 578, 834, 706, 1474, 1986, 546, 802, 674, 1442, 1954, 610, 866, 738, 1506, 2018, 530, 786, 658, 1426, 1938, 594, 850, 722, 1490] : List Nat).getD j 0) = Cond.eq (.elem tDO (.int (Int32.ofNat j))) (.int (dgO.getD j 0)) := by decide +kernel
def tDT : Term := .static "java/lang/Integer" "DigitTens" "[B"
theorem tDT_a : nr 562 = Cond.arrayOf tDT .byte := by decide +kernel
theorem tDT_l : nr 818 = Cond.eq (.length tDT) (.int (Int32.ofNat 100)) := by decide +kernel
theorem tDT_e : ∀ j, j < 100 → nr (([690, 1458, 1970, 626, 882, 754, 1522, 2034, 522, 778, 650, 906, 586, 842, 714, 1482, 1994, 554, 810, 682, 1450, 1962, 618, 874, 746, 1514, 2026, 538, 794, 666, 1434, 1946, 602, 858, 730, 1498, 2010, 570, 826, 698, 1466, 1978, 634, 890, 762, 1530, 2042, 518, 774, 646, 902, 582, 838, 710, 1478, 1990, 550, 806, 678, 1446, 1958, 614, 870, 742, 1510, 2022, 534, 790, 662, 1430, 1942, 598, 854, 726, 1494, 2006, 566, 822, 694, 1462, 1974, 630, 886, 758, 1526, 2038, 526, 782, 654, 1422, 1934, 590, 846, 718, 1486, 1998, 558, 814, 686, 1454] : List Nat).getD j 0) = Cond.eq (.elem tDT (.int (Int32.ofNat j))) (.int (dgT.getD j 0)) := by decide +kernel
theorem n_cs : nr 1440 = Cond.eq (.static "java/lang/String" "COMPACT_STRINGS" "Z") (.int 1) := by decide +kernel
theorem n_fm : nr 1952 = Cond.isRef (.static "jdk/internal/util/Preconditions" "SIOOBE_FORMATTER" "Ljava/util/function/BiFunction;") := by decide +kernel
theorem nS_ex : ∀ i, i < 12 → nr (([1533, 855, 1423, 595, 523, 619, 571, 1479, 675, 773, 805, 789] : List Nat).getD i 0) = Cond.exactly (tmS i) "java/lang/String" := by decide +kernel
theorem nS_co : ∀ i, i < 12 → nr (([2045, 727, 1935, 851, 779, 875, 827, 1991, 1443, 645, 677, 661] : List Nat).getD i 0) = Cond.eq (.field (tmS i) "java/lang/String" "coder" "B") (.int 0) := by decide +kernel
theorem nS_ar : ∀ i, i < 12 → nr (([515, 1495, 591, 723, 651, 747, 699, 551, 1955, 901, 1445, 1429] : List Nat).getD i 0) = Cond.arrayOf (.field (tmS i) "java/lang/String" "value" "[B") .byte := by decide +kernel
theorem nS_le : ∀ i, i < 12 → nr (([771, 2007, 847, 1491, 907, 1515, 1467, 807, 611, 581, 1957, 1941] : List Nat).getD i 0) = Cond.eq (.length (.field (tmS i) "java/lang/String" "value" "[B")) (.int (Int32.ofNat (stN.getD i 0))) := by decide +kernel
theorem nS_el : ∀ i, i < 12 → ∀ j, j < stN.getD i 0 → nr ((([[643, 899, 579, 835, 707, 1475], [567, 823, 695], [719, 1487, 1999, 559, 815, 687, 1455, 1967], [2003, 563, 819, 691, 1459, 1971], [587, 843, 715, 1483], [2027, 539, 795, 667], [1979, 635, 891, 763, 1531], [679, 1447, 1959, 615, 871], [867, 739, 1507, 2019, 531], [837, 709, 1477, 1989, 549], [613, 869, 741, 1509, 2021], [597, 853, 725, 1493, 2005, 565, 821, 693, 1461, 1973, 629, 885, 757, 1525, 2037, 525, 781, 653, 909, 589, 845, 717, 1485, 1997, 557, 813, 685, 1453, 1965, 621, 877, 749, 1517, 2029, 541, 797, 669, 1437, 1949, 605, 861, 733, 1501, 2013, 573, 829, 701, 1469, 1981, 637]] : List (List Nat)).getD i []).getD j 0) = Cond.eq (.elem (.field (tmS i) "java/lang/String" "value" "[B") (.int (Int32.ofNat j))) (.int ((stB.getD i []).getD j 0)) := by decide +kernel
theorem nS_ne : ∀ i, i < 12 → ∀ j, j < 12 → i ≠ j → nr ((([[0, 887, 1519, 1523, 683, 859, 647, 535, 1939, 1987, 547, 803], [887, 0, 607, 1527, 2039, 527, 783, 655, 759, 1463, 1975, 631], [1519, 607, 0, 543, 799, 671, 1439, 1951, 2031, 623, 879, 751], [1523, 1527, 543, 0, 1963, 1499, 583, 663, 2035, 627, 883, 755], [683, 2039, 799, 1963, 0, 2011, 839, 1431, 1451, 1995, 555, 811], [859, 527, 671, 1499, 2011, 0, 711, 1943, 731, 1435, 1947, 603], [647, 783, 1439, 583, 839, 711, 0, 599, 903, 2043, 519, 775], [535, 655, 1951, 663, 1431, 1943, 599, 0, 791, 743, 1511, 2023], [1939, 759, 2031, 2035, 1451, 731, 903, 791, 0, 787, 659, 1427], [1987, 1463, 623, 627, 1995, 1435, 2043, 743, 787, 0, 533, 893], [547, 1975, 879, 883, 555, 1947, 519, 1511, 659, 533, 0, 765], [803, 631, 751, 755, 811, 603, 775, 2023, 1427, 893, 765, 0]] : List (List Nat)).getD i []).getD j 0) = Cond.not (.eq (tmS i) (tmS j)) ∨ nr ((([[0, 887, 1519, 1523, 683, 859, 647, 535, 1939, 1987, 547, 803], [887, 0, 607, 1527, 2039, 527, 783, 655, 759, 1463, 1975, 631], [1519, 607, 0, 543, 799, 671, 1439, 1951, 2031, 623, 879, 751], [1523, 1527, 543, 0, 1963, 1499, 583, 663, 2035, 627, 883, 755], [683, 2039, 799, 1963, 0, 2011, 839, 1431, 1451, 1995, 555, 811], [859, 527, 671, 1499, 2011, 0, 711, 1943, 731, 1435, 1947, 603], [647, 783, 1439, 583, 839, 711, 0, 599, 903, 2043, 519, 775], [535, 655, 1951, 663, 1431, 1943, 599, 0, 791, 743, 1511, 2023], [1939, 759, 2031, 2035, 1451, 731, 903, 791, 0, 787, 659, 1427], [1987, 1463, 623, 627, 1995, 1435, 2043, 743, 787, 0, 533, 893], [547, 1975, 879, 883, 555, 1947, 519, 1511, 659, 533, 0, 765], [803, 631, 751, 755, 811, 603, 775, 2023, 1427, 893, 765, 0]] : List (List Nat)).getD i []).getD j 0) = Cond.not (.eq (tmS j) (tmS i)) := by decide +kernel
theorem wK_l : ∀ i, i < 3 → Cond.laysStatic RX2 (nmKd.getD i "") "LCopperStreet$Kind;" ∈ lw_tbl := by decide +kernel
theorem wV_l : ∀ i, i < 6 → Cond.laysStatic RX10 (nmVb.getD i "") "LCopperStreet$Verb;" ∈ lw_tbl := by decide +kernel
theorem w_l : Cond.laysStatic RX2 "ALL" "[LCopperStreet$Kind;" ∈ lw_tbl ∧ Cond.laysStatic RX10 "ALL" "[LCopperStreet$Verb;" ∈ lw_tbl ∧ Cond.laysStatic "java/lang/Integer" "DigitOnes" "[B" ∈ lw_tbl ∧ Cond.laysStatic "java/lang/Integer" "DigitTens" "[B" ∈ lw_tbl ∧ Cond.laysStatic "java/lang/String" "COMPACT_STRINGS" "Z" ∈ lw_tbl ∧ Cond.laysStatic "jdk/internal/util/Preconditions" "SIOOBE_FORMATTER" "Ljava/util/function/BiFunction;" ∈ lw_tbl := by decide +kernel
theorem w_i : Cond.initialized RX2 ∈ lw_tbl ∧ Cond.initialized RX10 ∈ lw_tbl ∧ Cond.initialized "java/lang/Integer" ∈ lw_tbl ∧ Cond.initialized "java/lang/String" ∈ lw_tbl ∧ Cond.initialized "jdk/internal/util/Preconditions" ∈ lw_tbl := by decide +kernel
theorem w_s : Cond.stringRef RX4 117 " used" ∈ lw_tbl ∧ Cond.stringRef RX4 122 " sold" ∈ lw_tbl ∧ Cond.stringRef RX12 222 "kettlepancauldron used soldraisehittincooksellbars" ∈ lw_tbl := by decide +kernel
theorem w_n : Cond.instantiable RJ4 4 ∈ lw_tbl ∧ Cond.instantiable RX0 2 ∈ lw_tbl ∧ Cond.instantiable RX1 3 ∈ lw_tbl ∧ Cond.instantiable RX3 5 ∈ lw_tbl ∧ Cond.instantiable RX4 9 ∈ lw_tbl ∧ Cond.instantiable RX5 3 ∈ lw_tbl ∧ Cond.instantiable RX6 6 ∈ lw_tbl ∧ Cond.instantiable RX7 4 ∈ lw_tbl ∧ Cond.instantiable RX8 12 ∈ lw_tbl ∧ Cond.instantiable RX9 2 ∈ lw_tbl ∧ Cond.instantiable RX11 10 ∈ lw_tbl ∧ Cond.instantiable RX12 24 ∈ lw_tbl := by decide +kernel
theorem w_a : Cond.arrayClass .int ∈ lw_tbl ∧ Cond.arrayClass .boolean ∈ lw_tbl ∧ Cond.arrayClass .byte ∈ lw_tbl ∧ Cond.arrayOver (.object RX7) ∈ lw_tbl ∧ Cond.arrayOver (.object RX4) ∈ lw_tbl ∧ Cond.arrayOver (.object RX3) ∈ lw_tbl ∧ Cond.arrayOver (.object RX8) ∈ lw_tbl ∧ Cond.arrayOver (.object RX10) ∈ lw_tbl := by decide +kernel
theorem w_p : ∀ y ∈ pmL, (y.cls ≠ "java/lang/invoke/MethodHandle" ∧ y.cls ≠ "java/lang/invoke/VarHandle") ∧ Cond.privateMethod y ∈ lw_tbl ∧ Cond.instanceMethod y ∈ lw_tbl := by decide +kernel
theorem w_sb : Cond.instantiable "java/lang/StringBuilder" 4 ∈ lw_tbl := by decide +kernel
