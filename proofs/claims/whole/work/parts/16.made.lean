/-! made, stored: by code (printed by wip/whole/rules.py) -/
theorem al_0_0 : amAl 149 0 0 = true := (amAl_iff (by decide)).mpr (by decide)
theorem al_1 {i : Nat} (h : i < 2) : amAl 149 1 i = true := (amAl_iff (by decide)).mpr h
theorem al_2 {i : Nat} (h : i < 13) : amAl 149 2 i = true := (amAl_iff (by decide)).mpr h
theorem al_3_0 : amAl 149 3 0 = true := (amAl_iff (by decide)).mpr (by decide)
theorem al_4_0 : amAl 149 4 0 = true := (amAl_iff (by decide)).mpr (by decide)
theorem al_5_0 : amAl 149 5 0 = true := (amAl_iff (by decide)).mpr (by decide)
theorem al_6_0 : amAl 149 6 0 = true := (amAl_iff (by decide)).mpr (by decide)
theorem al_7_0 : amAl 149 7 0 = true := (amAl_iff (by decide)).mpr (by decide)
theorem al_8_0 : amAl 149 8 0 = true := (amAl_iff (by decide)).mpr (by decide)
theorem al_9 {i : Nat} (h : i < 4) : amAl 149 9 i = true := (amAl_iff (by decide)).mpr h
theorem al_10_0 : amAl 149 10 0 = true := (amAl_iff (by decide)).mpr (by decide)
theorem al_11_0 : amAl 149 11 0 = true := (amAl_iff (by decide)).mpr (by decide)
theorem al_12_0 : amAl 149 12 0 = true := (amAl_iff (by decide)).mpr (by decide)
theorem al_100 {i : Nat} (h : i < 13) : amAl 149 100 i = true := (amAl_iff (by decide)).mpr h
theorem al_101 {i : Nat} (h : i < 13) : amAl 149 101 i = true := (amAl_iff (by decide)).mpr h
theorem al_102 {i : Nat} (h : i < 13) : amAl 149 102 i = true := (amAl_iff (by decide)).mpr h
theorem al_103 {i : Nat} (h : i < 13) : amAl 149 103 i = true := (amAl_iff (by decide)).mpr h
theorem al_104 {i : Nat} (h : i < 13) : amAl 149 104 i = true := (amAl_iff (by decide)).mpr h
theorem al_105_0 : amAl 149 105 0 = true := (amAl_iff (by decide)).mpr (by decide)
theorem al_106_0 : amAl 149 106 0 = true := (amAl_iff (by decide)).mpr (by decide)
theorem al_107_0 : amAl 149 107 0 = true := (amAl_iff (by decide)).mpr (by decide)
theorem al_108_0 : amAl 149 108 0 = true := (amAl_iff (by decide)).mpr (by decide)
theorem al_109_0 : amAl 149 109 0 = true := (amAl_iff (by decide)).mpr (by decide)
theorem al_110_0 : amAl 149 110 0 = true := (amAl_iff (by decide)).mpr (by decide)
theorem al_111_0 : amAl 149 111 0 = true := (amAl_iff (by decide)).mpr (by decide)
theorem al_112_0 : amAl 149 112 0 = true := (amAl_iff (by decide)).mpr (by decide)
theorem al_113 {i : Nat} (h : i < 4) : amAl 149 113 i = true := (amAl_iff (by decide)).mpr h
theorem al_114 {i : Nat} (h : i < 4) : amAl 149 114 i = true := (amAl_iff (by decide)).mpr h
theorem al_115 {i : Nat} (h : i < 4) : amAl 149 115 i = true := (amAl_iff (by decide)).mpr h
theorem al_116 {i : Nat} (h : i < 4) : amAl 149 116 i = true := (amAl_iff (by decide)).mpr h
theorem al_117 {i : Nat} (h : i < 4) : amAl 149 117 i = true := (amAl_iff (by decide)).mpr h
theorem al_118 {i : Nat} (h : i < 4) : amAl 149 118 i = true := (amAl_iff (by decide)).mpr h
theorem al_119_0 : amAl 149 119 0 = true := (amAl_iff (by decide)).mpr (by decide)
theorem al_120_0 : amAl 149 120 0 = true := (amAl_iff (by decide)).mpr (by decide)
theorem al_121_0 : amAl 149 121 0 = true := (amAl_iff (by decide)).mpr (by decide)
theorem al_122_0 : amAl 149 122 0 = true := (amAl_iff (by decide)).mpr (by decide)
theorem al_130_0 : amAl 149 130 0 = true := (amAl_iff (by decide)).mpr (by decide)
theorem al_131_0 : amAl 149 131 0 = true := (amAl_iff (by decide)).mpr (by decide)
theorem al_132_0 : amAl 149 132 0 = true := (amAl_iff (by decide)).mpr (by decide)
theorem al_133_0 : amAl 149 133 0 = true := (amAl_iff (by decide)).mpr (by decide)
theorem al_134_0 : amAl 149 134 0 = true := (amAl_iff (by decide)).mpr (by decide)
theorem al_135_0 : amAl 149 135 0 = true := (amAl_iff (by decide)).mpr (by decide)
theorem al_136_0 : amAl 149 136 0 = true := (amAl_iff (by decide)).mpr (by decide)
theorem al_137_0 : amAl 149 137 0 = true := (amAl_iff (by decide)).mpr (by decide)
theorem al_138_0 : amAl 149 138 0 = true := (amAl_iff (by decide)).mpr (by decide)
theorem al_139_0 : amAl 149 139 0 = true := (amAl_iff (by decide)).mpr (by decide)
theorem al_140_0 : amAl 149 140 0 = true := (amAl_iff (by decide)).mpr (by decide)
theorem al_141_0 : amAl 149 141 0 = true := (amAl_iff (by decide)).mpr (by decide)
theorem al_142_0 : amAl 149 142 0 = true := (amAl_iff (by decide)).mpr (by decide)
theorem al_143_0 : amAl 149 143 0 = true := (amAl_iff (by decide)).mpr (by decide)
theorem al_144_0 : amAl 149 144 0 = true := (amAl_iff (by decide)).mpr (by decide)
theorem al_145_0 : amAl 149 145 0 = true := (amAl_iff (by decide)).mpr (by decide)
theorem al_146_0 : amAl 149 146 0 = true := (amAl_iff (by decide)).mpr (by decide)
theorem al_147_0 : amAl 149 147 0 = true := (amAl_iff (by decide)).mpr (by decide)
theorem al_150_0 : amAl 149 150 0 = true := (amAl_iff (by decide)).mpr (by decide)
theorem st_1000 {i : Nat} (h : i < 1) : amSt 147 1000 i 0 = true := by
  have h1 : (List.range 1).all (fun i => amSt 147 1000 i 0) = true := by decide +kernel
  exact List.all_eq_true.mp h1 i (List.mem_range.mpr h)
theorem st_1100 {i : Nat} (h : i < 13) : amSt 147 1100 i 0 = true := by
  have h1 : (List.range 13).all (fun i => amSt 147 1100 i 0) = true := by decide +kernel
  exact List.all_eq_true.mp h1 i (List.mem_range.mpr h)
theorem st_1101 {i : Nat} (h : i < 13) : amSt 147 1101 i 0 = true := by
  have h1 : (List.range 13).all (fun i => amSt 147 1101 i 0) = true := by decide +kernel
  exact List.all_eq_true.mp h1 i (List.mem_range.mpr h)
theorem st_1102 {i : Nat} (h : i < 13) : amSt 147 1102 i 0 = true := by
  have h1 : (List.range 13).all (fun i => amSt 147 1102 i 0) = true := by decide +kernel
  exact List.all_eq_true.mp h1 i (List.mem_range.mpr h)
theorem st_1103 {i : Nat} (h : i < 13) : amSt 147 1103 i 0 = true := by
  have h1 : (List.range 13).all (fun i => amSt 147 1103 i 0) = true := by decide +kernel
  exact List.all_eq_true.mp h1 i (List.mem_range.mpr h)
theorem st_1104 {i : Nat} (h : i < 13) : amSt 147 1104 i 0 = true := by
  have h1 : (List.range 13).all (fun i => amSt 147 1104 i 0) = true := by decide +kernel
  exact List.all_eq_true.mp h1 i (List.mem_range.mpr h)
theorem st_1150 {i : Nat} (h : i < 1) : amSt 147 1150 i 0 = true := by
  have h1 : (List.range 1).all (fun i => amSt 147 1150 i 0) = true := by decide +kernel
  exact List.all_eq_true.mp h1 i (List.mem_range.mpr h)
theorem st_1151 {i : Nat} (h : i < 1) : amSt 147 1151 i 0 = true := by
  have h1 : (List.range 1).all (fun i => amSt 147 1151 i 0) = true := by decide +kernel
  exact List.all_eq_true.mp h1 i (List.mem_range.mpr h)
theorem st_1200 {i : Nat} (h : i < 1) : amSt 147 1200 i 0 = true := by
  have h1 : (List.range 1).all (fun i => amSt 147 1200 i 0) = true := by decide +kernel
  exact List.all_eq_true.mp h1 i (List.mem_range.mpr h)
theorem st_1201 {i : Nat} (h : i < 1) : amSt 147 1201 i 0 = true := by
  have h1 : (List.range 1).all (fun i => amSt 147 1201 i 0) = true := by decide +kernel
  exact List.all_eq_true.mp h1 i (List.mem_range.mpr h)
theorem st_1250 {i : Nat} (h : i < 1) : amSt 147 1250 i 0 = true := by
  have h1 : (List.range 1).all (fun i => amSt 147 1250 i 0) = true := by decide +kernel
  exact List.all_eq_true.mp h1 i (List.mem_range.mpr h)
theorem st_1251 {i : Nat} (h : i < 1) : amSt 147 1251 i 0 = true := by
  have h1 : (List.range 1).all (fun i => amSt 147 1251 i 0) = true := by decide +kernel
  exact List.all_eq_true.mp h1 i (List.mem_range.mpr h)
theorem st_1252 {i : Nat} (h : i < 1) : amSt 147 1252 i 0 = true := by
  have h1 : (List.range 1).all (fun i => amSt 147 1252 i 0) = true := by decide +kernel
  exact List.all_eq_true.mp h1 i (List.mem_range.mpr h)
theorem st_1253 {i : Nat} (h : i < 1) : amSt 147 1253 i 0 = true := by
  have h1 : (List.range 1).all (fun i => amSt 147 1253 i 0) = true := by decide +kernel
  exact List.all_eq_true.mp h1 i (List.mem_range.mpr h)
theorem st_1300 {i : Nat} (h : i < 1) : amSt 147 1300 i 0 = true := by
  have h1 : (List.range 1).all (fun i => amSt 147 1300 i 0) = true := by decide +kernel
  exact List.all_eq_true.mp h1 i (List.mem_range.mpr h)
theorem st_1350 {i : Nat} (h : i < 1) : amSt 147 1350 i 0 = true := by
  have h1 : (List.range 1).all (fun i => amSt 147 1350 i 0) = true := by decide +kernel
  exact List.all_eq_true.mp h1 i (List.mem_range.mpr h)
theorem st_1400 {i : Nat} (h : i < 1) : amSt 147 1400 i 0 = true := by
  have h1 : (List.range 1).all (fun i => amSt 147 1400 i 0) = true := by decide +kernel
  exact List.all_eq_true.mp h1 i (List.mem_range.mpr h)
theorem st_1401 {i : Nat} (h : i < 1) : amSt 147 1401 i 0 = true := by
  have h1 : (List.range 1).all (fun i => amSt 147 1401 i 0) = true := by decide +kernel
  exact List.all_eq_true.mp h1 i (List.mem_range.mpr h)
theorem st_1450 {i : Nat} (h : i < 4) : amSt 147 1450 i 0 = true := by
  have h1 : (List.range 4).all (fun i => amSt 147 1450 i 0) = true := by decide +kernel
  exact List.all_eq_true.mp h1 i (List.mem_range.mpr h)
theorem st_1451 {i : Nat} (h : i < 4) : amSt 147 1451 i 0 = true := by
  have h1 : (List.range 4).all (fun i => amSt 147 1451 i 0) = true := by decide +kernel
  exact List.all_eq_true.mp h1 i (List.mem_range.mpr h)
theorem st_1452 {i : Nat} (h : i < 4) : amSt 147 1452 i 0 = true := by
  have h1 : (List.range 4).all (fun i => amSt 147 1452 i 0) = true := by decide +kernel
  exact List.all_eq_true.mp h1 i (List.mem_range.mpr h)
theorem st_1453 {i : Nat} (h : i < 4) : amSt 147 1453 i 0 = true := by
  have h1 : (List.range 4).all (fun i => amSt 147 1453 i 0) = true := by decide +kernel
  exact List.all_eq_true.mp h1 i (List.mem_range.mpr h)
theorem st_1454 {i : Nat} (h : i < 4) : amSt 147 1454 i 0 = true := by
  have h1 : (List.range 4).all (fun i => amSt 147 1454 i 0) = true := by decide +kernel
  exact List.all_eq_true.mp h1 i (List.mem_range.mpr h)
theorem st_1455 {i : Nat} (h : i < 4) : amSt 147 1455 i 0 = true := by
  have h1 : (List.range 4).all (fun i => amSt 147 1455 i 0) = true := by decide +kernel
  exact List.all_eq_true.mp h1 i (List.mem_range.mpr h)
theorem st_1500 {i : Nat} (h : i < 1) : amSt 147 1500 i 0 = true := by
  have h1 : (List.range 1).all (fun i => amSt 147 1500 i 0) = true := by decide +kernel
  exact List.all_eq_true.mp h1 i (List.mem_range.mpr h)
theorem st_1550 {i : Nat} (h : i < 1) : amSt 147 1550 i 0 = true := by
  have h1 : (List.range 1).all (fun i => amSt 147 1550 i 0) = true := by decide +kernel
  exact List.all_eq_true.mp h1 i (List.mem_range.mpr h)
theorem st_1551 {i : Nat} (h : i < 1) : amSt 147 1551 i 0 = true := by
  have h1 : (List.range 1).all (fun i => amSt 147 1551 i 0) = true := by decide +kernel
  exact List.all_eq_true.mp h1 i (List.mem_range.mpr h)
theorem st_1552 {i : Nat} (h : i < 1) : amSt 147 1552 i 0 = true := by
  have h1 : (List.range 1).all (fun i => amSt 147 1552 i 0) = true := by decide +kernel
  exact List.all_eq_true.mp h1 i (List.mem_range.mpr h)
theorem st_1553 {i : Nat} (h : i < 1) : amSt 147 1553 i 0 = true := by
  have h1 : (List.range 1).all (fun i => amSt 147 1553 i 0) = true := by decide +kernel
  exact List.all_eq_true.mp h1 i (List.mem_range.mpr h)
theorem st_1554 {i : Nat} (h : i < 1) : amSt 147 1554 i 0 = true := by
  have h1 : (List.range 1).all (fun i => amSt 147 1554 i 0) = true := by decide +kernel
  exact List.all_eq_true.mp h1 i (List.mem_range.mpr h)
theorem st_1555 {i : Nat} (h : i < 1) : amSt 147 1555 i 0 = true := by
  have h1 : (List.range 1).all (fun i => amSt 147 1555 i 0) = true := by decide +kernel
  exact List.all_eq_true.mp h1 i (List.mem_range.mpr h)
theorem st_1556 {i : Nat} (h : i < 1) : amSt 147 1556 i 0 = true := by
  have h1 : (List.range 1).all (fun i => amSt 147 1556 i 0) = true := by decide +kernel
  exact List.all_eq_true.mp h1 i (List.mem_range.mpr h)
theorem st_1557 {i : Nat} (h : i < 1) : amSt 147 1557 i 0 = true := by
  have h1 : (List.range 1).all (fun i => amSt 147 1557 i 0) = true := by decide +kernel
  exact List.all_eq_true.mp h1 i (List.mem_range.mpr h)
theorem st_1558 {i : Nat} (h : i < 1) : amSt 147 1558 i 0 = true := by
  have h1 : (List.range 1).all (fun i => amSt 147 1558 i 0) = true := by decide +kernel
  exact List.all_eq_true.mp h1 i (List.mem_range.mpr h)
theorem st_1559 {i : Nat} (h : i < 1) : amSt 147 1559 i 0 = true := by
  have h1 : (List.range 1).all (fun i => amSt 147 1559 i 0) = true := by decide +kernel
  exact List.all_eq_true.mp h1 i (List.mem_range.mpr h)
theorem st_1560 {i : Nat} (h : i < 1) : amSt 147 1560 i 0 = true := by
  have h1 : (List.range 1).all (fun i => amSt 147 1560 i 0) = true := by decide +kernel
  exact List.all_eq_true.mp h1 i (List.mem_range.mpr h)
theorem st_1561 {i : Nat} (h : i < 1) : amSt 147 1561 i 0 = true := by
  have h1 : (List.range 1).all (fun i => amSt 147 1561 i 0) = true := by decide +kernel
  exact List.all_eq_true.mp h1 i (List.mem_range.mpr h)
theorem st_1562 {i : Nat} (h : i < 1) : amSt 147 1562 i 0 = true := by
  have h1 : (List.range 1).all (fun i => amSt 147 1562 i 0) = true := by decide +kernel
  exact List.all_eq_true.mp h1 i (List.mem_range.mpr h)
theorem st_1563 {i : Nat} (h : i < 1) : amSt 147 1563 i 0 = true := by
  have h1 : (List.range 1).all (fun i => amSt 147 1563 i 0) = true := by decide +kernel
  exact List.all_eq_true.mp h1 i (List.mem_range.mpr h)
theorem st_1564 {i : Nat} (h : i < 1) : amSt 147 1564 i 0 = true := by
  have h1 : (List.range 1).all (fun i => amSt 147 1564 i 0) = true := by decide +kernel
  exact List.all_eq_true.mp h1 i (List.mem_range.mpr h)
theorem st_1600 {i : Nat} (h : i < 1) : amSt 147 1600 i 0 = true := by
  have h1 : (List.range 1).all (fun i => amSt 147 1600 i 0) = true := by decide +kernel
  exact List.all_eq_true.mp h1 i (List.mem_range.mpr h)
theorem st_1601 {i : Nat} (h : i < 1) : amSt 147 1601 i 0 = true := by
  have h1 : (List.range 1).all (fun i => amSt 147 1601 i 0) = true := by decide +kernel
  exact List.all_eq_true.mp h1 i (List.mem_range.mpr h)
theorem st_1603 {i : Nat} (h : i < 1) : amSt 147 1603 i 0 = true := by
  have h1 : (List.range 1).all (fun i => amSt 147 1603 i 0) = true := by decide +kernel
  exact List.all_eq_true.mp h1 i (List.mem_range.mpr h)
theorem st_1609 {i : Nat} (h : i < 1) : amSt 147 1609 i 0 = true := by
  have h1 : (List.range 1).all (fun i => amSt 147 1609 i 0) = true := by decide +kernel
  exact List.all_eq_true.mp h1 i (List.mem_range.mpr h)
theorem st_1610 {i : Nat} (h : i < 1) : amSt 147 1610 i 0 = true := by
  have h1 : (List.range 1).all (fun i => amSt 147 1610 i 0) = true := by decide +kernel
  exact List.all_eq_true.mp h1 i (List.mem_range.mpr h)
theorem st_1614 {i : Nat} (h : i < 1) : amSt 147 1614 i 0 = true := by
  have h1 : (List.range 1).all (fun i => amSt 147 1614 i 0) = true := by decide +kernel
  exact List.all_eq_true.mp h1 i (List.mem_range.mpr h)
theorem st_1616 {i : Nat} (h : i < 1) : amSt 147 1616 i 0 = true := by
  have h1 : (List.range 1).all (fun i => amSt 147 1616 i 0) = true := by decide +kernel
  exact List.all_eq_true.mp h1 i (List.mem_range.mpr h)
theorem st_1617 {i : Nat} (h : i < 1) : amSt 147 1617 i 0 = true := by
  have h1 : (List.range 1).all (fun i => amSt 147 1617 i 0) = true := by decide +kernel
  exact List.all_eq_true.mp h1 i (List.mem_range.mpr h)
theorem st_1618 {i : Nat} (h : i < 1) : amSt 147 1618 i 0 = true := by
  have h1 : (List.range 1).all (fun i => amSt 147 1618 i 0) = true := by decide +kernel
  exact List.all_eq_true.mp h1 i (List.mem_range.mpr h)
theorem st_1622 {i : Nat} (h : i < 1) : amSt 147 1622 i 0 = true := by
  have h1 : (List.range 1).all (fun i => amSt 147 1622 i 0) = true := by decide +kernel
  exact List.all_eq_true.mp h1 i (List.mem_range.mpr h)
theorem st_1624 {i : Nat} (h : i < 1) : amSt 147 1624 i 0 = true := by
  have h1 : (List.range 1).all (fun i => amSt 147 1624 i 0) = true := by decide +kernel
  exact List.all_eq_true.mp h1 i (List.mem_range.mpr h)
theorem st_1625 {i : Nat} (h : i < 1) : amSt 147 1625 i 0 = true := by
  have h1 : (List.range 1).all (fun i => amSt 147 1625 i 0) = true := by decide +kernel
  exact List.all_eq_true.mp h1 i (List.mem_range.mpr h)
theorem st_1626 {i : Nat} (h : i < 1) : amSt 147 1626 i 0 = true := by
  have h1 : (List.range 1).all (fun i => amSt 147 1626 i 0) = true := by decide +kernel
  exact List.all_eq_true.mp h1 i (List.mem_range.mpr h)
theorem st_1627 {i : Nat} (h : i < 1) : amSt 147 1627 i 0 = true := by
  have h1 : (List.range 1).all (fun i => amSt 147 1627 i 0) = true := by decide +kernel
  exact List.all_eq_true.mp h1 i (List.mem_range.mpr h)
theorem st_1628 {i : Nat} (h : i < 1) : amSt 147 1628 i 0 = true := by
  have h1 : (List.range 1).all (fun i => amSt 147 1628 i 0) = true := by decide +kernel
  exact List.all_eq_true.mp h1 i (List.mem_range.mpr h)
theorem st_1630 {i : Nat} (h : i < 1) : amSt 147 1630 i 0 = true := by
  have h1 : (List.range 1).all (fun i => amSt 147 1630 i 0) = true := by decide +kernel
  exact List.all_eq_true.mp h1 i (List.mem_range.mpr h)
theorem st_1631 {i : Nat} (h : i < 1) : amSt 147 1631 i 0 = true := by
  have h1 : (List.range 1).all (fun i => amSt 147 1631 i 0) = true := by decide +kernel
  exact List.all_eq_true.mp h1 i (List.mem_range.mpr h)
theorem st_1632 {i : Nat} (h : i < 1) : amSt 147 1632 i 0 = true := by
  have h1 : (List.range 1).all (fun i => amSt 147 1632 i 0) = true := by decide +kernel
  exact List.all_eq_true.mp h1 i (List.mem_range.mpr h)
def okCp (c0 i0 : Nat) (sp : Int32) (c i : Nat) (dp n : Int32) : Prop := (100 ≤ c ∧ amAl 149 c i = true ∧ amTn c = 0) ∧ (100 ≤ c0 ∧ amAl 149 c0 i0 = true ∧ amTn c0 = 0) ∧ (¬ sp < 0 ∧ ¬ dp < 0 ∧ ¬ n < 0) ∧ sp.toNatClampNeg + n.toNatClampNeg ≤ amLen c0 ∧ dp.toNatClampNeg + n.toNatClampNeg ≤ amLen c
def amCpB (c0 i0 : Nat) (sp : Int32) (c i : Nat) (dp n : Int32) (z : Nat) : Bool := true && 149 == amOrc.length && decide (100 ≤ c) && amAl 149 c i && amTn c == 0 && decide (100 ≤ c0) && amAl 149 c0 i0 && amTn c0 == 0 && decide (¬ sp < 0) && decide (¬ dp < 0) && decide (¬ n < 0) && decide (sp.toNatClampNeg + n.toNatClampNeg ≤ amLen c0) && decide (dp.toNatClampNeg + n.toNatClampNeg ≤ amLen c) && decide (z ≤ 8)
theorem amCpB_iff {c0 i0 : Nat} {sp : Int32} {c i : Nat} {dp n : Int32} : amCpB c0 i0 sp c i dp n 0 = true ↔ okCp c0 i0 sp c i dp n := by
  unfold amCpB okCp
  rw [amCntC.2.1]
  simp only [Bool.and_eq_true, decide_eq_true_eq, beq_iff_eq]
  constructor
  · rintro ⟨⟨⟨⟨⟨⟨⟨⟨⟨⟨⟨⟨⟨-, -⟩, a⟩, b⟩, c⟩, d⟩, e⟩, f⟩, g⟩, h⟩, i⟩, j⟩, k⟩, -⟩
    exact ⟨⟨a, b, c⟩, ⟨d, e, f⟩, ⟨g, h, i⟩, j, k⟩
  · rintro ⟨⟨a, b, c⟩, ⟨d, e, f⟩, ⟨g, h, i⟩, j, k⟩
    refine ⟨⟨⟨⟨⟨⟨⟨⟨⟨⟨⟨⟨⟨?_, ?_⟩, a⟩, b⟩, c⟩, d⟩, e⟩, f⟩, g⟩, h⟩, i⟩, j⟩, k⟩, Nat.zero_le _⟩ <;> trivial
