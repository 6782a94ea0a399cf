/-! made, stored: by code (printed by wip/whole/rules.py) -/
theorem al_0 {i : Nat} (h : i < 1) : amAl 149 0 i = true := (amAl_iff (by decide)).mpr h
theorem al_1 {i : Nat} (h : i < 2) : amAl 149 1 i = true := (amAl_iff (by decide)).mpr h
theorem al_2 {i : Nat} (h : i < 13) : amAl 149 2 i = true := (amAl_iff (by decide)).mpr h
theorem al_3 {i : Nat} (h : i < 1) : amAl 149 3 i = true := (amAl_iff (by decide)).mpr h
theorem al_4 {i : Nat} (h : i < 1) : amAl 149 4 i = true := (amAl_iff (by decide)).mpr h
theorem al_5 {i : Nat} (h : i < 1) : amAl 149 5 i = true := (amAl_iff (by decide)).mpr h
theorem al_6 {i : Nat} (h : i < 1) : amAl 149 6 i = true := (amAl_iff (by decide)).mpr h
theorem al_7 {i : Nat} (h : i < 1) : amAl 149 7 i = true := (amAl_iff (by decide)).mpr h
theorem al_8 {i : Nat} (h : i < 1) : amAl 149 8 i = true := (amAl_iff (by decide)).mpr h
theorem al_9 {i : Nat} (h : i < 4) : amAl 149 9 i = true := (amAl_iff (by decide)).mpr h
theorem al_10 {i : Nat} (h : i < 1) : amAl 149 10 i = true := (amAl_iff (by decide)).mpr h
theorem al_11 {i : Nat} (h : i < 1) : amAl 149 11 i = true := (amAl_iff (by decide)).mpr h
theorem al_12 {i : Nat} (h : i < 1) : amAl 149 12 i = true := (amAl_iff (by decide)).mpr h
theorem al_100 {i : Nat} (h : i < 13) : amAl 149 100 i = true := (amAl_iff (by decide)).mpr h
theorem al_101 {i : Nat} (h : i < 13) : amAl 149 101 i = true := (amAl_iff (by decide)).mpr h
theorem al_102 {i : Nat} (h : i < 13) : amAl 149 102 i = true := (amAl_iff (by decide)).mpr h
theorem al_103 {i : Nat} (h : i < 13) : amAl 149 103 i = true := (amAl_iff (by decide)).mpr h
theorem al_104 {i : Nat} (h : i < 13) : amAl 149 104 i = true := (amAl_iff (by decide)).mpr h
theorem al_105 {i : Nat} (h : i < 1) : amAl 149 105 i = true := (amAl_iff (by decide)).mpr h
theorem al_106 {i : Nat} (h : i < 1) : amAl 149 106 i = true := (amAl_iff (by decide)).mpr h
theorem al_107 {i : Nat} (h : i < 1) : amAl 149 107 i = true := (amAl_iff (by decide)).mpr h
theorem al_108 {i : Nat} (h : i < 1) : amAl 149 108 i = true := (amAl_iff (by decide)).mpr h
theorem al_109 {i : Nat} (h : i < 1) : amAl 149 109 i = true := (amAl_iff (by decide)).mpr h
theorem al_110 {i : Nat} (h : i < 1) : amAl 149 110 i = true := (amAl_iff (by decide)).mpr h
theorem al_111 {i : Nat} (h : i < 1) : amAl 149 111 i = true := (amAl_iff (by decide)).mpr h
theorem al_112 {i : Nat} (h : i < 1) : amAl 149 112 i = true := (amAl_iff (by decide)).mpr h
theorem al_113 {i : Nat} (h : i < 4) : amAl 149 113 i = true := (amAl_iff (by decide)).mpr h
theorem al_114 {i : Nat} (h : i < 4) : amAl 149 114 i = true := (amAl_iff (by decide)).mpr h
theorem al_115 {i : Nat} (h : i < 4) : amAl 149 115 i = true := (amAl_iff (by decide)).mpr h
theorem al_116 {i : Nat} (h : i < 4) : amAl 149 116 i = true := (amAl_iff (by decide)).mpr h
theorem al_117 {i : Nat} (h : i < 4) : amAl 149 117 i = true := (amAl_iff (by decide)).mpr h
theorem al_118 {i : Nat} (h : i < 4) : amAl 149 118 i = true := (amAl_iff (by decide)).mpr h
theorem al_119 {i : Nat} (h : i < 1) : amAl 149 119 i = true := (amAl_iff (by decide)).mpr h
theorem al_120 {i : Nat} (h : i < 1) : amAl 149 120 i = true := (amAl_iff (by decide)).mpr h
theorem al_121 {i : Nat} (h : i < 1) : amAl 149 121 i = true := (amAl_iff (by decide)).mpr h
theorem al_122 {i : Nat} (h : i < 1) : amAl 149 122 i = true := (amAl_iff (by decide)).mpr h
theorem al_130 {i : Nat} (h : i < 1) : amAl 149 130 i = true := (amAl_iff (by decide)).mpr h
theorem al_131 {i : Nat} (h : i < 1) : amAl 149 131 i = true := (amAl_iff (by decide)).mpr h
theorem al_132 {i : Nat} (h : i < 1) : amAl 149 132 i = true := (amAl_iff (by decide)).mpr h
theorem al_133 {i : Nat} (h : i < 1) : amAl 149 133 i = true := (amAl_iff (by decide)).mpr h
theorem al_134 {i : Nat} (h : i < 1) : amAl 149 134 i = true := (amAl_iff (by decide)).mpr h
theorem al_135 {i : Nat} (h : i < 1) : amAl 149 135 i = true := (amAl_iff (by decide)).mpr h
theorem al_136 {i : Nat} (h : i < 1) : amAl 149 136 i = true := (amAl_iff (by decide)).mpr h
theorem al_137 {i : Nat} (h : i < 1) : amAl 149 137 i = true := (amAl_iff (by decide)).mpr h
theorem al_138 {i : Nat} (h : i < 1) : amAl 149 138 i = true := (amAl_iff (by decide)).mpr h
theorem al_139 {i : Nat} (h : i < 1) : amAl 149 139 i = true := (amAl_iff (by decide)).mpr h
theorem al_140 {i : Nat} (h : i < 1) : amAl 149 140 i = true := (amAl_iff (by decide)).mpr h
theorem al_141 {i : Nat} (h : i < 1) : amAl 149 141 i = true := (amAl_iff (by decide)).mpr h
theorem al_142 {i : Nat} (h : i < 1) : amAl 149 142 i = true := (amAl_iff (by decide)).mpr h
theorem al_143 {i : Nat} (h : i < 1) : amAl 149 143 i = true := (amAl_iff (by decide)).mpr h
theorem al_144 {i : Nat} (h : i < 1) : amAl 149 144 i = true := (amAl_iff (by decide)).mpr h
theorem al_145 {i : Nat} (h : i < 1) : amAl 149 145 i = true := (amAl_iff (by decide)).mpr h
theorem al_146 {i : Nat} (h : i < 1) : amAl 149 146 i = true := (amAl_iff (by decide)).mpr h
theorem al_147 {i : Nat} (h : i < 1) : amAl 149 147 i = true := (amAl_iff (by decide)).mpr h
theorem al_150 {i : Nat} (h : i < 1) : amAl 149 150 i = true := (amAl_iff (by decide)).mpr h
theorem st_1000 {i : Nat} (h : i < 1) : amSt 147 1000 i 0 = true := by
  have h1 : (List.range 1).all (fun i => amSt 147 1000 i 0) = true := by decide +kernel
  exact List.all_eq_true.mp h1 i (List.mem_range.mpr h)
theorem st_1100 {i : Nat} (h : i < 13) : amSt 147 1100 i 0 = true := by
  have h1 : (List.range 13).all (fun i => amSt 147 1100 i 0) = true := by decide +kernel
  exact List.all_eq_true.mp h1 i (List.mem_range.mpr h)
theorem st_1101 {i : Nat} (h : i < 13) : amSt 147 1101 i 0 = true := by
  have h1 : (List.range 13).all (fun i => amSt 147 1101 i 0) = true := by decide +kernel
  exact List.all_eq_true.mp h1 i (List.mem_range.mpr h)
theorem st_1102 {i : Nat} (h : i < 13) : amSt 147 1102 i 0 = true := by
  have h1 : (List.range 13).all (fun i => amSt 147 1102 i 0) = true := by decide +kernel
  exact List.all_eq_true.mp h1 i (List.mem_range.mpr h)
theorem st_1103 {i : Nat} (h : i < 13) : amSt 147 1103 i 0 = true := by
  have h1 : (List.range 13).all (fun i => amSt 147 1103 i 0) = true := by decide +kernel
  exact List.all_eq_true.mp h1 i (List.mem_range.mpr h)
theorem st_1104 {i : Nat} (h : i < 13) : amSt 147 1104 i 0 = true := by
  have h1 : (List.range 13).all (fun i => amSt 147 1104 i 0) = true := by decide +kernel
  exact List.all_eq_true.mp h1 i (List.mem_range.mpr h)
theorem st_1150 {i : Nat} (h : i < 1) : amSt 147 1150 i 0 = true := by
  have h1 : (List.range 1).all (fun i => amSt 147 1150 i 0) = true := by decide +kernel
  exact List.all_eq_true.mp h1 i (List.mem_range.mpr h)
theorem st_1151 {i : Nat} (h : i < 1) : amSt 147 1151 i 0 = true := by
  have h1 : (List.range 1).all (fun i => amSt 147 1151 i 0) = true := by decide +kernel
  exact List.all_eq_true.mp h1 i (List.mem_range.mpr h)
theorem st_1200 {i : Nat} (h : i < 1) : amSt 147 1200 i 0 = true := by
  have h1 : (List.range 1).all (fun i => amSt 147 1200 i 0) = true := by decide +kernel
  exact List.all_eq_true.mp h1 i (List.mem_range.mpr h)
theorem st_1201 {i : Nat} (h : i < 1) : amSt 147 1201 i 0 = true := by
  have h1 : (List.range 1).all (fun i => amSt 147 1201 i 0) = true := by decide +kernel
  exact List.all_eq_true.mp h1 i (List.mem_range.mpr h)
theorem st_1250 {i : Nat} (h : i < 1) : amSt 147 1250 i 0 = true := by
  have h1 : (List.range 1).all (fun i => amSt 147 1250 i 0) = true := by decide +kernel
  exact List.all_eq_true.mp h1 i (List.mem_range.mpr h)
theorem st_1251 {i : Nat} (h : i < 1) : amSt 147 1251 i 0 = true := by
  have h1 : (List.range 1).all (fun i => amSt 147 1251 i 0) = true := by decide +kernel
  exact List.all_eq_true.mp h1 i (List.mem_range.mpr h)
theorem st_1252 {i : Nat} (h : i < 1) : amSt 147 1252 i 0 = true := by
  have h1 : (List.range 1).all (fun i => amSt 147 1252 i 0) = true := by decide +kernel
  exact List.all_eq_true.mp h1 i (List.mem_range.mpr h)
theorem st_1253 {i : Nat} (h : i < 1) : amSt 147 1253 i 0 = true := by
  have h1 : (List.range 1).all (fun i => amSt 147 1253 i 0) = true := by decide +kernel
  exact List.all_eq_true.mp h1 i (List.mem_range.mpr h)
theorem st_1300 {i : Nat} (h : i < 1) : amSt 147 1300 i 0 = true := by
  have h1 : (List.range 1).all (fun i => amSt 147 1300 i 0) = true := by decide +kernel
  exact List.all_eq_true.mp h1 i (List.mem_range.mpr h)
theorem st_1350 {i : Nat} (h : i < 1) : amSt 147 1350 i 0 = true := by
  have h1 : (List.range 1).all (fun i => amSt 147 1350 i 0) = true := by decide +kernel
  exact List.all_eq_true.mp h1 i (List.mem_range.mpr h)
theorem st_1400 {i : Nat} (h : i < 1) : amSt 147 1400 i 0 = true := by
  have h1 : (List.range 1).all (fun i => amSt 147 1400 i 0) = true := by decide +kernel
  exact List.all_eq_true.mp h1 i (List.mem_range.mpr h)
theorem st_1401 {i : Nat} (h : i < 1) : amSt 147 1401 i 0 = true := by
  have h1 : (List.range 1).all (fun i => amSt 147 1401 i 0) = true := by decide +kernel
  exact List.all_eq_true.mp h1 i (List.mem_range.mpr h)
theorem st_1450 {i : Nat} (h : i < 4) : amSt 147 1450 i 0 = true := by
  have h1 : (List.range 4).all (fun i => amSt 147 1450 i 0) = true := by decide +kernel
  exact List.all_eq_true.mp h1 i (List.mem_range.mpr h)
theorem st_1451 {i : Nat} (h : i < 4) : amSt 147 1451 i 0 = true := by
  have h1 : (List.range 4).all (fun i => amSt 147 1451 i 0) = true := by decide +kernel
  exact List.all_eq_true.mp h1 i (List.mem_range.mpr h)
theorem st_1452 {i : Nat} (h : i < 4) : amSt 147 1452 i 0 = true := by
  have h1 : (List.range 4).all (fun i => amSt 147 1452 i 0) = true := by decide +kernel
  exact List.all_eq_true.mp h1 i (List.mem_range.mpr h)
theorem st_1453 {i : Nat} (h : i < 4) : amSt 147 1453 i 0 = true := by
  have h1 : (List.range 4).all (fun i => amSt 147 1453 i 0) = true := by decide +kernel
  exact List.all_eq_true.mp h1 i (List.mem_range.mpr h)
theorem st_1454 {i : Nat} (h : i < 4) : amSt 147 1454 i 0 = true := by
  have h1 : (List.range 4).all (fun i => amSt 147 1454 i 0) = true := by decide +kernel
  exact List.all_eq_true.mp h1 i (List.mem_range.mpr h)
theorem st_1455 {i : Nat} (h : i < 4) : amSt 147 1455 i 0 = true := by
  have h1 : (List.range 4).all (fun i => amSt 147 1455 i 0) = true := by decide +kernel
  exact List.all_eq_true.mp h1 i (List.mem_range.mpr h)
theorem st_1500 {i : Nat} (h : i < 1) : amSt 147 1500 i 0 = true := by
  have h1 : (List.range 1).all (fun i => amSt 147 1500 i 0) = true := by decide +kernel
  exact List.all_eq_true.mp h1 i (List.mem_range.mpr h)
theorem st_1550 {i : Nat} (h : i < 1) : amSt 147 1550 i 0 = true := by
  have h1 : (List.range 1).all (fun i => amSt 147 1550 i 0) = true := by decide +kernel
  exact List.all_eq_true.mp h1 i (List.mem_range.mpr h)
theorem st_1551 {i : Nat} (h : i < 1) : amSt 147 1551 i 0 = true := by
  have h1 : (List.range 1).all (fun i => amSt 147 1551 i 0) = true := by decide +kernel
  exact List.all_eq_true.mp h1 i (List.mem_range.mpr h)
theorem st_1552 {i : Nat} (h : i < 1) : amSt 147 1552 i 0 = true := by
  have h1 : (List.range 1).all (fun i => amSt 147 1552 i 0) = true := by decide +kernel
  exact List.all_eq_true.mp h1 i (List.mem_range.mpr h)
theorem st_1553 {i : Nat} (h : i < 1) : amSt 147 1553 i 0 = true := by
  have h1 : (List.range 1).all (fun i => amSt 147 1553 i 0) = true := by decide +kernel
  exact List.all_eq_true.mp h1 i (List.mem_range.mpr h)
theorem st_1554 {i : Nat} (h : i < 1) : amSt 147 1554 i 0 = true := by
  have h1 : (List.range 1).all (fun i => amSt 147 1554 i 0) = true := by decide +kernel
  exact List.all_eq_true.mp h1 i (List.mem_range.mpr h)
theorem st_1555 {i : Nat} (h : i < 1) : amSt 147 1555 i 0 = true := by
  have h1 : (List.range 1).all (fun i => amSt 147 1555 i 0) = true := by decide +kernel
  exact List.all_eq_true.mp h1 i (List.mem_range.mpr h)
theorem st_1556 {i : Nat} (h : i < 1) : amSt 147 1556 i 0 = true := by
  have h1 : (List.range 1).all (fun i => amSt 147 1556 i 0) = true := by decide +kernel
  exact List.all_eq_true.mp h1 i (List.mem_range.mpr h)
theorem st_1557 {i : Nat} (h : i < 1) : amSt 147 1557 i 0 = true := by
  have h1 : (List.range 1).all (fun i => amSt 147 1557 i 0) = true := by decide +kernel
  exact List.all_eq_true.mp h1 i (List.mem_range.mpr h)
theorem st_1558 {i : Nat} (h : i < 1) : amSt 147 1558 i 0 = true := by
  have h1 : (List.range 1).all (fun i => amSt 147 1558 i 0) = true := by decide +kernel
  exact List.all_eq_true.mp h1 i (List.mem_range.mpr h)
theorem st_1559 {i : Nat} (h : i < 1) : amSt 147 1559 i 0 = true := by
  have h1 : (List.range 1).all (fun i => amSt 147 1559 i 0) = true := by decide +kernel
  exact List.all_eq_true.mp h1 i (List.mem_range.mpr h)
theorem st_1560 {i : Nat} (h : i < 1) : amSt 147 1560 i 0 = true := by
  have h1 : (List.range 1).all (fun i => amSt 147 1560 i 0) = true := by decide +kernel
  exact List.all_eq_true.mp h1 i (List.mem_range.mpr h)
theorem st_1561 {i : Nat} (h : i < 1) : amSt 147 1561 i 0 = true := by
  have h1 : (List.range 1).all (fun i => amSt 147 1561 i 0) = true := by decide +kernel
  exact List.all_eq_true.mp h1 i (List.mem_range.mpr h)
theorem st_1562 {i : Nat} (h : i < 1) : amSt 147 1562 i 0 = true := by
  have h1 : (List.range 1).all (fun i => amSt 147 1562 i 0) = true := by decide +kernel
  exact List.all_eq_true.mp h1 i (List.mem_range.mpr h)
theorem st_1563 {i : Nat} (h : i < 1) : amSt 147 1563 i 0 = true := by
  have h1 : (List.range 1).all (fun i => amSt 147 1563 i 0) = true := by decide +kernel
  exact List.all_eq_true.mp h1 i (List.mem_range.mpr h)
theorem st_1564 {i : Nat} (h : i < 1) : amSt 147 1564 i 0 = true := by
  have h1 : (List.range 1).all (fun i => amSt 147 1564 i 0) = true := by decide +kernel
  exact List.all_eq_true.mp h1 i (List.mem_range.mpr h)
theorem st_1600 {i : Nat} (h : i < 1) : amSt 147 1600 i 0 = true := by
  have h1 : (List.range 1).all (fun i => amSt 147 1600 i 0) = true := by decide +kernel
  exact List.all_eq_true.mp h1 i (List.mem_range.mpr h)
theorem st_1601 {i : Nat} (h : i < 1) : amSt 147 1601 i 0 = true := by
  have h1 : (List.range 1).all (fun i => amSt 147 1601 i 0) = true := by decide +kernel
  exact List.all_eq_true.mp h1 i (List.mem_range.mpr h)
theorem st_1603 {i : Nat} (h : i < 1) : amSt 147 1603 i 0 = true := by
  have h1 : (List.range 1).all (fun i => amSt 147 1603 i 0) = true := by decide +kernel
  exact List.all_eq_true.mp h1 i (List.mem_range.mpr h)
theorem st_1609 {i : Nat} (h : i < 1) : amSt 147 1609 i 0 = true := by
  have h1 : (List.range 1).all (fun i => amSt 147 1609 i 0) = true := by decide +kernel
  exact List.all_eq_true.mp h1 i (List.mem_range.mpr h)
theorem st_1610 {i : Nat} (h : i < 1) : amSt 147 1610 i 0 = true := by
  have h1 : (List.range 1).all (fun i => amSt 147 1610 i 0) = true := by decide +kernel
  exact List.all_eq_true.mp h1 i (List.mem_range.mpr h)
theorem st_1614 {i : Nat} (h : i < 1) : amSt 147 1614 i 0 = true := by
  have h1 : (List.range 1).all (fun i => amSt 147 1614 i 0) = true := by decide +kernel
  exact List.all_eq_true.mp h1 i (List.mem_range.mpr h)
theorem st_1616 {i : Nat} (h : i < 1) : amSt 147 1616 i 0 = true := by
  have h1 : (List.range 1).all (fun i => amSt 147 1616 i 0) = true := by decide +kernel
  exact List.all_eq_true.mp h1 i (List.mem_range.mpr h)
theorem st_1617 {i : Nat} (h : i < 1) : amSt 147 1617 i 0 = true := by
  have h1 : (List.range 1).all (fun i => amSt 147 1617 i 0) = true := by decide +kernel
  exact List.all_eq_true.mp h1 i (List.mem_range.mpr h)
theorem st_1618 {i : Nat} (h : i < 1) : amSt 147 1618 i 0 = true := by
  have h1 : (List.range 1).all (fun i => amSt 147 1618 i 0) = true := by decide +kernel
  exact List.all_eq_true.mp h1 i (List.mem_range.mpr h)
theorem st_1622 {i : Nat} (h : i < 1) : amSt 147 1622 i 0 = true := by
  have h1 : (List.range 1).all (fun i => amSt 147 1622 i 0) = true := by decide +kernel
  exact List.all_eq_true.mp h1 i (List.mem_range.mpr h)
theorem st_1624 {i : Nat} (h : i < 1) : amSt 147 1624 i 0 = true := by
  have h1 : (List.range 1).all (fun i => amSt 147 1624 i 0) = true := by decide +kernel
  exact List.all_eq_true.mp h1 i (List.mem_range.mpr h)
theorem st_1625 {i : Nat} (h : i < 1) : amSt 147 1625 i 0 = true := by
  have h1 : (List.range 1).all (fun i => amSt 147 1625 i 0) = true := by decide +kernel
  exact List.all_eq_true.mp h1 i (List.mem_range.mpr h)
theorem st_1626 {i : Nat} (h : i < 1) : amSt 147 1626 i 0 = true := by
  have h1 : (List.range 1).all (fun i => amSt 147 1626 i 0) = true := by decide +kernel
  exact List.all_eq_true.mp h1 i (List.mem_range.mpr h)
theorem st_1627 {i : Nat} (h : i < 1) : amSt 147 1627 i 0 = true := by
  have h1 : (List.range 1).all (fun i => amSt 147 1627 i 0) = true := by decide +kernel
  exact List.all_eq_true.mp h1 i (List.mem_range.mpr h)
theorem st_1628 {i : Nat} (h : i < 1) : amSt 147 1628 i 0 = true := by
  have h1 : (List.range 1).all (fun i => amSt 147 1628 i 0) = true := by decide +kernel
  exact List.all_eq_true.mp h1 i (List.mem_range.mpr h)
theorem st_1630 {i : Nat} (h : i < 1) : amSt 147 1630 i 0 = true := by
  have h1 : (List.range 1).all (fun i => amSt 147 1630 i 0) = true := by decide +kernel
  exact List.all_eq_true.mp h1 i (List.mem_range.mpr h)
theorem st_1631 {i : Nat} (h : i < 1) : amSt 147 1631 i 0 = true := by
  have h1 : (List.range 1).all (fun i => amSt 147 1631 i 0) = true := by decide +kernel
  exact List.all_eq_true.mp h1 i (List.mem_range.mpr h)
theorem st_1632 {i : Nat} (h : i < 1) : amSt 147 1632 i 0 = true := by
  have h1 : (List.range 1).all (fun i => amSt 147 1632 i 0) = true := by decide +kernel
  exact List.all_eq_true.mp h1 i (List.mem_range.mpr h)
def okCp (c0 i0 : Nat) (sp : Int32) (c i : Nat) (dp n : Int32) : Prop := (100 ≤ c ∧ amAl 149 c i = true ∧ amTn c = 0) ∧ (100 ≤ c0 ∧ amAl 149 c0 i0 = true ∧ amTn c0 = 0) ∧ (¬ sp < 0 ∧ ¬ dp < 0 ∧ ¬ n < 0) ∧ sp.toNatClampNeg + n.toNatClampNeg ≤ amLen c0 ∧ dp.toNatClampNeg + n.toNatClampNeg ≤ amLen c
def amCpB (c0 i0 : Nat) (sp : Int32) (c i : Nat) (dp n : Int32) (z : Nat) : Bool := true && 149 == amOrc.length && decide (100 ≤ c) && amAl 149 c i && amTn c == 0 && decide (100 ≤ c0) && amAl 149 c0 i0 && amTn c0 == 0 && decide (¬ sp < 0) && decide (¬ dp < 0) && decide (¬ n < 0) && decide (sp.toNatClampNeg + n.toNatClampNeg ≤ amLen c0) && decide (dp.toNatClampNeg + n.toNatClampNeg ≤ amLen c) && decide (z ≤ 8)
theorem amCpB_iff {c0 i0 : Nat} {sp : Int32} {c i : Nat} {dp n : Int32} : amCpB c0 i0 sp c i dp n 0 = true ↔ okCp c0 i0 sp c i dp n := by
  unfold amCpB okCp
  rw [amCntC.2.1]
  simp only [Bool.and_eq_true, decide_eq_true_eq, beq_iff_eq]
  constructor
  · rintro ⟨⟨⟨⟨⟨⟨⟨⟨⟨⟨⟨⟨⟨-, -⟩, a⟩, b⟩, c⟩, d⟩, e⟩, f⟩, g⟩, h⟩, i⟩, j⟩, k⟩, -⟩
    exact ⟨⟨a, b, c⟩, ⟨d, e, f⟩, ⟨g, h, i⟩, j, k⟩
  · rintro ⟨⟨a, b, c⟩, ⟨d, e, f⟩, ⟨g, h, i⟩, j, k⟩
    refine ⟨⟨⟨⟨⟨⟨⟨⟨⟨⟨⟨⟨⟨?_, ?_⟩, a⟩, b⟩, c⟩, d⟩, e⟩, f⟩, g⟩, h⟩, i⟩, j⟩, k⟩, Nat.zero_le _⟩ <;> trivial
set_option maxRecDepth 10000 in
theorem mi_0 : amMi[0]? = some (⟨"SoundAdvice", "<init>", "()V"⟩, prog_1_method_1_code, 2, none, 11, 0) := rfl
set_option maxRecDepth 10000 in
theorem mi_1 : amMi[1]? = some (⟨"SoundAdvice$Game", "<init>", "()V"⟩, prog_4_method_1_code, 1, none, 2, 0) := rfl
set_option maxRecDepth 10000 in
theorem mi_2 : amMi[2]? = some (⟨"SoundAdvice$Game", "shape", "(III)V"⟩, prog_4_method_2_code, 8, none, 2, 3) := rfl
set_option maxRecDepth 10000 in
theorem mi_3 : amMi[3]? = some (⟨"java/util/Arrays", "fill", "([II)V"⟩, prog_23_method_103_code, 4, none, 14, 2) := rfl
set_option maxRecDepth 10000 in
theorem mi_4 : amMi[4]? = some (⟨"java/lang/Math", "max", "(II)I"⟩, prog_18_method_65_code, 2, (some .int), 15, 2) := rfl
set_option maxRecDepth 10000 in
theorem mi_5 : amMi[5]? = some (⟨"SoundAdvice$Game", "profileOf", "(III)I"⟩, prog_4_method_8_code, 4, (some .int), 2, 3) := rfl
set_option maxRecDepth 10000 in
theorem mi_6 : amMi[6]? = some (⟨"SoundAdvice$Past", "<init>", "()V"⟩, prog_9_method_1_code, 2, none, 7, 0) := rfl
set_option maxRecDepth 10000 in
theorem mi_7 : amMi[7]? = some (⟨"SoundAdvice$Text", "<init>", "()V"⟩, prog_12_method_1_code, 1, none, 10, 0) := rfl
set_option maxRecDepth 10000 in
theorem mi_8 : amMi[8]? = some (⟨"SoundAdvice$Numbers", "<init>", "()V"⟩, prog_8_method_1_code, 1, none, 6, 0) := rfl
set_option maxRecDepth 10000 in
theorem mi_9 : amMi[9]? = some (⟨"SoundAdvice$Tally", "<init>", "()V"⟩, prog_11_method_1_code, 1, none, 9, 0) := rfl
set_option maxRecDepth 10000 in
theorem mi_10 : amMi[10]? = some (⟨"SoundAdvice$Lister", "<init>", "()V"⟩, prog_6_method_1_code, 1, none, 4, 0) := rfl
set_option maxRecDepth 10000 in
theorem mi_11 : amMi[11]? = some (⟨"SoundAdvice$Choice", "<init>", "()V"⟩, prog_2_method_1_code, 1, none, 0, 0) := rfl
set_option maxRecDepth 10000 in
theorem mi_12 : amMi[12]? = some (⟨"SoundAdvice$Halves", "<init>", "()V"⟩, prog_5_method_1_code, 1, none, 3, 0) := rfl
set_option maxRecDepth 10000 in
theorem mi_13 : amMi[13]? = some (⟨"SoundAdvice$Match", "<init>", "()V"⟩, prog_7_method_1_code, 1, none, 5, 0) := rfl
set_option maxRecDepth 10000 in
theorem mi_14 : amMi[14]? = some (⟨"SoundAdvice$Dice", "<init>", "()V"⟩, prog_3_method_1_code, 1, none, 1, 0) := rfl
set_option maxRecDepth 10000 in
theorem mi_15 : amMi[15]? = some (⟨"SoundAdvice$Sieve", "<init>", "()V"⟩, prog_10_method_1_code, 1, none, 8, 0) := rfl
set_option maxRecDepth 10000 in
theorem mi_16 : amMi[16]? = some (⟨"SoundAdvice", "sign", "(I)I"⟩, prog_1_method_2_code, 2, (some .int), 11, 1) := rfl
set_option maxRecDepth 10000 in
theorem mi_17 : amMi[17]? = some (⟨"SoundAdvice$Text", "add", "(I)Z"⟩, prog_12_method_2_code, 3, (some .boolean), 10, 1) := rfl
set_option maxRecDepth 10000 in
theorem mi_18 : amMi[18]? = some (⟨"SoundAdvice", "end", "(I)Z"⟩, prog_1_method_3_code, 2, (some .boolean), 11, 1) := rfl
set_option maxRecDepth 10000 in
theorem mi_19 : amMi[19]? = some (⟨"SoundAdvice", "game", "()I"⟩, prog_1_method_4_code, 2, (some .int), 11, 0) := rfl
set_option maxRecDepth 10000 in
theorem mi_20 : amMi[20]? = some (⟨"SoundAdvice$Past", "mark", "(LSoundAdvice$Game;)V"⟩, prog_9_method_3_code, 2, none, 7, 1) := rfl
set_option maxRecDepth 10000 in
theorem mi_21 : amMi[21]? = some (⟨"SoundAdvice$Past", "slot", "(I)LSoundAdvice$Game;"⟩, prog_9_method_2_code, 3, (some (.object "SoundAdvice$Game")), 7, 1) := rfl
set_option maxRecDepth 10000 in
theorem mi_22 : amMi[22]? = some (⟨"SoundAdvice$Game", "copy", "(LSoundAdvice$Game;)V"⟩, prog_4_method_3_code, 2, none, 2, 1) := rfl
set_option maxRecDepth 10000 in
theorem mi_23 : amMi[23]? = some (⟨"SoundAdvice$Text", "readGame", "(LSoundAdvice$Game;)I"⟩, prog_12_method_8_code, 4, (some .int), 10, 1) := rfl
set_option maxRecDepth 10000 in
theorem mi_24 : amMi[24]? = some (⟨"SoundAdvice$Text", "isActions", "(I)Z"⟩, prog_12_method_7_code, 2, (some .boolean), 10, 1) := rfl
set_option maxRecDepth 10000 in
theorem mi_25 : amMi[25]? = some (⟨"SoundAdvice$Text", "at", "(I)I"⟩, prog_12_method_3_code, 2, (some .int), 10, 1) := rfl
set_option maxRecDepth 10000 in
theorem mi_26 : amMi[26]? = some (⟨"SoundAdvice$Text", "digit", "(I)I"⟩, prog_12_method_4_code, 2, (some .int), 10, 1) := rfl
set_option maxRecDepth 10000 in
theorem mi_27 : amMi[27]? = some (⟨"SoundAdvice$Text", "readPays", "(LSoundAdvice$Game;I)I"⟩, prog_12_method_9_code, 6, (some .int), 10, 2) := rfl
set_option maxRecDepth 10000 in
theorem mi_28 : amMi[28]? = some (⟨"SoundAdvice$Text", "isLetter", "(I)Z"⟩, prog_12_method_6_code, 2, (some .boolean), 10, 1) := rfl
set_option maxRecDepth 10000 in
theorem mi_29 : amMi[29]? = some (⟨"SoundAdvice$Game", "setPay", "(III)Z"⟩, prog_4_method_12_code, 4, (some .boolean), 2, 3) := rfl
set_option maxRecDepth 10000 in
theorem mi_30 : amMi[30]? = some (⟨"SoundAdvice$Game", "hasPay", "(II)Z"⟩, prog_4_method_7_code, 3, (some .boolean), 2, 2) := rfl
set_option maxRecDepth 10000 in
theorem mi_31 : amMi[31]? = some (⟨"SoundAdvice$Game", "hasPlayer", "(I)Z"⟩, prog_4_method_4_code, 2, (some .boolean), 2, 1) := rfl
set_option maxRecDepth 10000 in
theorem mi_32 : amMi[32]? = some (⟨"SoundAdvice$Game", "hasProfile", "(I)Z"⟩, prog_4_method_6_code, 2, (some .boolean), 2, 1) := rfl
set_option maxRecDepth 10000 in
theorem mi_33 : amMi[33]? = some (⟨"SoundAdvice$Game", "payOf", "(II)I"⟩, prog_4_method_11_code, 3, (some .int), 2, 2) := rfl
set_option maxRecDepth 10000 in
theorem mi_34 : amMi[34]? = some (⟨"SoundAdvice$Past", "settle", "(I)I"⟩, prog_9_method_4_code, 2, (some .int), 7, 1) := rfl
set_option maxRecDepth 10000 in
theorem mi_35 : amMi[35]? = some (⟨"SoundAdvice", "advice", "()I"⟩, prog_1_method_5_code, 2, (some .int), 11, 0) := rfl
set_option maxRecDepth 10000 in
theorem mi_36 : amMi[36]? = some (⟨"SoundAdvice$Text", "readAdvice", "(I[I)I"⟩, prog_12_method_10_code, 5, (some .int), 10, 2) := rfl
set_option maxRecDepth 10000 in
theorem mi_37 : amMi[37]? = some (⟨"SoundAdvice$Text", "isDigit", "(I)Z"⟩, prog_12_method_5_code, 2, (some .boolean), 10, 1) := rfl
set_option maxRecDepth 10000 in
theorem mi_38 : amMi[38]? = some (⟨"SoundAdvice", "sheet", "(IIIIII)I"⟩, prog_1_method_6_code, 9, (some .int), 11, 6) := rfl
set_option maxRecDepth 10000 in
theorem mi_39 : amMi[39]? = some (⟨"SoundAdvice", "entry", "(II)I"⟩, prog_1_method_7_code, 2, (some .int), 11, 2) := rfl
set_option maxRecDepth 10000 in
theorem mi_40 : amMi[40]? = some (⟨"SoundAdvice", "entryFault", "(II)I"⟩, prog_1_method_8_code, 3, (some .int), 11, 2) := rfl
set_option maxRecDepth 10000 in
theorem mi_41 : amMi[41]? = some (⟨"SoundAdvice", "isPay", "(I)Z"⟩, prog_1_method_61_code, 1, (some .boolean), 11, 1) := rfl
set_option maxRecDepth 10000 in
theorem mi_42 : amMi[42]? = some (⟨"SoundAdvice$Numbers", "clear", "()V"⟩, prog_8_method_2_code, 1, none, 6, 0) := rfl
set_option maxRecDepth 10000 in
theorem mi_43 : amMi[43]? = some (⟨"SoundAdvice$Numbers", "add", "(J)V"⟩, prog_8_method_3_code, 3, none, 6, 1) := rfl
set_option maxRecDepth 10000 in
theorem mi_44 : amMi[44]? = some (⟨"SoundAdvice", "profile", "(III)I"⟩, prog_1_method_9_code, 4, (some .int), 11, 3) := rfl
set_option maxRecDepth 10000 in
theorem mi_45 : amMi[45]? = some (⟨"SoundAdvice$Game", "hasAction", "(II)Z"⟩, prog_4_method_5_code, 3, (some .boolean), 2, 2) := rfl
set_option maxRecDepth 10000 in
theorem mi_46 : amMi[46]? = some (⟨"SoundAdvice", "gain", "(III)I"⟩, prog_1_method_11_code, 4, (some .int), 11, 3) := rfl
set_option maxRecDepth 10000 in
theorem mi_47 : amMi[47]? = some (⟨"SoundAdvice$Tally", "weigh", "(LSoundAdvice$Game;[I)V"⟩, prog_11_method_5_code, 3, none, 9, 2) := rfl
set_option maxRecDepth 10000 in
theorem mi_48 : amMi[48]? = some (⟨"SoundAdvice$Tally", "read", "(LSoundAdvice$Game;)V"⟩, prog_11_method_2_code, 4, none, 9, 1) := rfl
set_option maxRecDepth 10000 in
theorem mi_49 : amMi[49]? = some (⟨"SoundAdvice$Tally", "clear", "()V"⟩, prog_11_method_3_code, 1, none, 9, 0) := rfl
set_option maxRecDepth 10000 in
theorem mi_50 : amMi[50]? = some (⟨"SoundAdvice$Tally", "readLures", "(LSoundAdvice$Game;II)V"⟩, prog_11_method_4_code, 7, none, 9, 3) := rfl
set_option maxRecDepth 10000 in
theorem mi_51 : amMi[51]? = some (⟨"SoundAdvice$Game", "doing", "(II)I"⟩, prog_4_method_9_code, 3, (some .int), 2, 2) := rfl
set_option maxRecDepth 10000 in
theorem mi_52 : amMi[52]? = some (⟨"SoundAdvice$Game", "instead", "(III)I"⟩, prog_4_method_10_code, 4, (some .int), 2, 3) := rfl
set_option maxRecDepth 10000 in
theorem mi_53 : amMi[53]? = some (⟨"SoundAdvice$Tally", "putAll", "([I)V"⟩, prog_11_method_6_code, 3, none, 9, 1) := rfl
set_option maxRecDepth 10000 in
theorem mi_54 : amMi[54]? = some (⟨"SoundAdvice$Tally", "put", "(II)V"⟩, prog_11_method_7_code, 7, none, 9, 2) := rfl
set_option maxRecDepth 10000 in
theorem mi_55 : amMi[55]? = some (⟨"SoundAdvice$Tally", "gainOf", "(III)I"⟩, prog_11_method_8_code, 4, (some .int), 9, 3) := rfl
set_option maxRecDepth 10000 in
theorem mi_56 : amMi[56]? = some (⟨"SoundAdvice", "sound", "()I"⟩, prog_1_method_12_code, 1, (some .int), 11, 0) := rfl
set_option maxRecDepth 10000 in
theorem mi_57 : amMi[57]? = some (⟨"SoundAdvice$Tally", "findGreatest", "()I"⟩, prog_11_method_11_code, 4, (some .int), 9, 0) := rfl
set_option maxRecDepth 10000 in
theorem mi_58 : amMi[58]? = some (⟨"SoundAdvice$Tally", "isSound", "()Z"⟩, prog_11_method_9_code, 1, (some .boolean), 9, 0) := rfl
set_option maxRecDepth 10000 in
theorem mi_59 : amMi[59]? = some (⟨"SoundAdvice$Tally", "settledBy", "()I"⟩, prog_11_method_10_code, 2, (some .int), 9, 0) := rfl
set_option maxRecDepth 10000 in
theorem mi_60 : amMi[60]? = some (⟨"SoundAdvice", "tight", "()I"⟩, prog_1_method_13_code, 3, (some .int), 11, 0) := rfl
set_option maxRecDepth 10000 in
theorem mi_61 : amMi[61]? = some (⟨"SoundAdvice", "tellTight", "(II)V"⟩, prog_1_method_14_code, 4, none, 11, 2) := rfl
set_option maxRecDepth 10000 in
theorem mi_62 : amMi[62]? = some (⟨"SoundAdvice$Game", "tokensDoing", "(II[I)I"⟩, prog_4_method_14_code, 6, (some .int), 2, 3) := rfl
set_option maxRecDepth 10000 in
theorem mi_63 : amMi[63]? = some (⟨"SoundAdvice", "hangs", "(I)I"⟩, prog_1_method_15_code, 8, (some .int), 11, 1) := rfl
set_option maxRecDepth 10000 in
theorem mi_64 : amMi[64]? = some (⟨"SoundAdvice", "hangsThere", "(III)I"⟩, prog_1_method_16_code, 7, (some .int), 11, 3) := rfl
set_option maxRecDepth 10000 in
theorem mi_65 : amMi[65]? = some (⟨"java/lang/Math", "abs", "(I)I"⟩, prog_18_method_59_code, 1, (some .int), 15, 1) := rfl
set_option maxRecDepth 10000 in
theorem mi_66 : amMi[66]? = some (⟨"SoundAdvice", "values", "()I"⟩, prog_1_method_17_code, 2, (some .int), 11, 0) := rfl
set_option maxRecDepth 10000 in
theorem mi_67 : amMi[67]? = some (⟨"SoundAdvice$Game", "valueOf", "(I[I)I"⟩, prog_4_method_17_code, 5, (some .int), 2, 2) := rfl
set_option maxRecDepth 10000 in
theorem mi_68 : amMi[68]? = some (⟨"SoundAdvice$Game", "welfareOf", "([I)I"⟩, prog_4_method_18_code, 4, (some .int), 2, 1) := rfl
set_option maxRecDepth 10000 in
theorem mi_69 : amMi[69]? = some (⟨"SoundAdvice$Game", "floorOf", "([I)I"⟩, prog_4_method_19_code, 4, (some .int), 2, 1) := rfl
set_option maxRecDepth 10000 in
theorem mi_70 : amMi[70]? = some (⟨"java/lang/Math", "min", "(II)I"⟩, prog_18_method_69_code, 2, (some .int), 15, 2) := rfl
set_option maxRecDepth 10000 in
theorem mi_71 : amMi[71]? = some (⟨"SoundAdvice$Game", "tokens", "()I"⟩, prog_4_method_13_code, 3, (some .int), 2, 0) := rfl
set_option maxRecDepth 10000 in
theorem mi_72 : amMi[72]? = some (⟨"SoundAdvice", "map", "(I)I"⟩, prog_1_method_18_code, 6, (some .int), 11, 1) := rfl
set_option maxRecDepth 10000 in
theorem mi_73 : amMi[73]? = some (⟨"SoundAdvice$Tally", "bestInstead", "(II)I"⟩, prog_11_method_12_code, 5, (some .int), 9, 2) := rfl
set_option maxRecDepth 10000 in
theorem mi_74 : amMi[74]? = some (⟨"SoundAdvice", "corner", "()I"⟩, prog_1_method_19_code, 1, (some .int), 11, 0) := rfl
set_option maxRecDepth 10000 in
theorem mi_75 : amMi[75]? = some (⟨"SoundAdvice", "isListed", "()Z"⟩, prog_1_method_31_code, 1, (some .boolean), 11, 0) := rfl
set_option maxRecDepth 10000 in
theorem mi_76 : amMi[76]? = some (⟨"SoundAdvice", "isSoundNow", "(LSoundAdvice$Game;)Z"⟩, prog_1_method_59_code, 2, (some .boolean), 11, 1) := rfl
set_option maxRecDepth 10000 in
theorem mi_77 : amMi[77]? = some (⟨"SoundAdvice$Game", "isApart", "([I)Z"⟩, prog_4_method_24_code, 7, (some .boolean), 2, 1) := rfl
set_option maxRecDepth 10000 in
theorem mi_78 : amMi[78]? = some (⟨"SoundAdvice$Halves", "read", "(LSoundAdvice$Game;)V"⟩, prog_5_method_2_code, 2, none, 3, 1) := rfl
set_option maxRecDepth 10000 in
theorem mi_79 : amMi[79]? = some (⟨"SoundAdvice$Halves", "isCorner", "([I)Z"⟩, prog_5_method_3_code, 2, (some .boolean), 3, 1) := rfl
set_option maxRecDepth 10000 in
theorem mi_80 : amMi[80]? = some (⟨"SoundAdvice$Halves", "leans", "(LSoundAdvice$Tally;LSoundAdvice$Tally;IIZ)Z"⟩, prog_5_method_4_code, 8, (some .boolean), 3, 5) := rfl
set_option maxRecDepth 10000 in
theorem mi_81 : amMi[81]? = some (⟨"SoundAdvice$Halves", "isWithin", "(LSoundAdvice$Tally;LSoundAdvice$Tally;)Z"⟩, prog_5_method_5_code, 3, (some .boolean), 3, 2) := rfl
set_option maxRecDepth 10000 in
theorem mi_82 : amMi[82]? = some (⟨"SoundAdvice", "plans", "()I"⟩, prog_1_method_20_code, 3, (some .int), 11, 0) := rfl
set_option maxRecDepth 10000 in
theorem mi_83 : amMi[83]? = some (⟨"SoundAdvice$Game", "planBits", "()I"⟩, prog_4_method_22_code, 3, (some .int), 2, 0) := rfl
set_option maxRecDepth 10000 in
theorem mi_84 : amMi[84]? = some (⟨"SoundAdvice$Game", "isPlan", "(I)Z"⟩, prog_4_method_23_code, 4, (some .boolean), 2, 1) := rfl
set_option maxRecDepth 10000 in
theorem mi_85 : amMi[85]? = some (⟨"SoundAdvice$Game", "welfareAt", "(I)I"⟩, prog_4_method_20_code, 4, (some .int), 2, 1) := rfl
set_option maxRecDepth 10000 in
theorem mi_86 : amMi[86]? = some (⟨"java/lang/Integer", "bitCount", "(I)I"⟩, prog_17_method_49_code, 1, (some .int), 16, 1) := rfl
set_option maxRecDepth 10000 in
theorem mi_87 : amMi[87]? = some (⟨"SoundAdvice", "sure", "(I)I"⟩, prog_1_method_21_code, 4, (some .int), 11, 1) := rfl
set_option maxRecDepth 10000 in
theorem mi_88 : amMi[88]? = some (⟨"SoundAdvice$Game", "leastPay", "(II)I"⟩, prog_4_method_21_code, 5, (some .int), 2, 2) := rfl
set_option maxRecDepth 10000 in
theorem mi_89 : amMi[89]? = some (⟨"SoundAdvice", "left", "()I"⟩, prog_1_method_22_code, 2, (some .int), 11, 0) := rfl
set_option maxRecDepth 10000 in
theorem mi_90 : amMi[90]? = some (⟨"SoundAdvice$Sieve", "sift", "(LSoundAdvice$Game;)V"⟩, prog_10_method_2_code, 3, none, 8, 1) := rfl
set_option maxRecDepth 10000 in
theorem mi_91 : amMi[91]? = some (⟨"SoundAdvice$Sieve", "takeFirst", "(LSoundAdvice$Game;)Z"⟩, prog_10_method_4_code, 4, (some .boolean), 8, 1) := rfl
set_option maxRecDepth 10000 in
theorem mi_92 : amMi[92]? = some (⟨"SoundAdvice$Sieve", "isStaying", "(II)Z"⟩, prog_10_method_5_code, 3, (some .boolean), 8, 2) := rfl
set_option maxRecDepth 10000 in
theorem mi_93 : amMi[93]? = some (⟨"SoundAdvice$Sieve", "isWorthless", "(LSoundAdvice$Game;II)Z"⟩, prog_10_method_6_code, 5, (some .boolean), 8, 3) := rfl
set_option maxRecDepth 10000 in
theorem mi_94 : amMi[94]? = some (⟨"SoundAdvice$Sieve", "isLess", "(LSoundAdvice$Game;III)Z"⟩, prog_10_method_7_code, 7, (some .boolean), 8, 4) := rfl
set_option maxRecDepth 10000 in
theorem mi_95 : amMi[95]? = some (⟨"SoundAdvice$Sieve", "isProfileStaying", "(LSoundAdvice$Game;I)Z"⟩, prog_10_method_8_code, 4, (some .boolean), 8, 2) := rfl
set_option maxRecDepth 10000 in
theorem mi_96 : amMi[96]? = some (⟨"SoundAdvice$Sieve", "staying", "()I"⟩, prog_10_method_3_code, 1, (some .int), 8, 0) := rfl
set_option maxRecDepth 10000 in
theorem mi_97 : amMi[97]? = some (⟨"SoundAdvice", "list", "(I)I"⟩, prog_1_method_23_code, 5, (some .int), 11, 1) := rfl
set_option maxRecDepth 10000 in
theorem mi_98 : amMi[98]? = some (⟨"SoundAdvice$Lister", "begin", "(LSoundAdvice$Game;I)V"⟩, prog_6_method_2_code, 3, none, 4, 2) := rfl
set_option maxRecDepth 10000 in
theorem mi_99 : amMi[99]? = some (⟨"SoundAdvice$Lister", "next", "()Z"⟩, prog_6_method_3_code, 3, (some .boolean), 4, 0) := rfl
set_option maxRecDepth 10000 in
theorem mi_100 : amMi[100]? = some (⟨"SoundAdvice$Lister", "step", "()Z"⟩, prog_6_method_4_code, 4, (some .boolean), 4, 0) := rfl
set_option maxRecDepth 10000 in
theorem mi_101 : amMi[101]? = some (⟨"SoundAdvice", "best", "(II)I"⟩, prog_1_method_24_code, 3, (some .int), 11, 2) := rfl
set_option maxRecDepth 10000 in
theorem mi_102 : amMi[102]? = some (⟨"SoundAdvice", "isChoice", "(II)Z"⟩, prog_1_method_32_code, 3, (some .boolean), 11, 2) := rfl
set_option maxRecDepth 10000 in
theorem mi_103 : amMi[103]? = some (⟨"SoundAdvice", "isSize", "(I)Z"⟩, prog_1_method_62_code, 1, (some .boolean), 11, 1) := rfl
set_option maxRecDepth 10000 in
theorem mi_104 : amMi[104]? = some (⟨"SoundAdvice$Choice", "choose", "(LSoundAdvice$Game;LSoundAdvice$Lister;I)Z"⟩, prog_2_method_2_code, 7, (some .boolean), 0, 3) := rfl
set_option maxRecDepth 10000 in
theorem mi_105 : amMi[105]? = some (⟨"SoundAdvice$Choice", "worthOf", "(LSoundAdvice$Game;[III)I"⟩, prog_2_method_4_code, 4, (some .int), 0, 4) := rfl
set_option maxRecDepth 10000 in
theorem mi_106 : amMi[106]? = some (⟨"SoundAdvice$Choice", "tokensOn", "([II)I"⟩, prog_2_method_5_code, 4, (some .int), 0, 2) := rfl
set_option maxRecDepth 10000 in
theorem mi_107 : amMi[107]? = some (⟨"SoundAdvice$Game", "usedBits", "([I)I"⟩, prog_4_method_15_code, 4, (some .int), 2, 1) := rfl
set_option maxRecDepth 10000 in
theorem mi_108 : amMi[108]? = some (⟨"SoundAdvice$Choice", "isBetter", "(II)Z"⟩, prog_2_method_3_code, 3, (some .boolean), 0, 2) := rfl
set_option maxRecDepth 10000 in
theorem mi_109 : amMi[109]? = some (⟨"SoundAdvice", "tellTokens", "([I)V"⟩, prog_1_method_60_code, 3, none, 11, 1) := rfl
set_option maxRecDepth 10000 in
theorem mi_110 : amMi[110]? = some (⟨"SoundAdvice", "number", "(II)I"⟩, prog_1_method_25_code, 3, (some .int), 11, 2) := rfl
set_option maxRecDepth 10000 in
theorem mi_111 : amMi[111]? = some (⟨"SoundAdvice", "findListed", "(II)Z"⟩, prog_1_method_30_code, 4, (some .boolean), 11, 2) := rfl
set_option maxRecDepth 10000 in
theorem mi_112 : amMi[112]? = some (⟨"SoundAdvice", "which", "()I"⟩, prog_1_method_26_code, 2, (some .int), 11, 0) := rfl
set_option maxRecDepth 10000 in
theorem mi_113 : amMi[113]? = some (⟨"SoundAdvice$Game", "isAdvice", "([I)Z"⟩, prog_4_method_16_code, 3, (some .boolean), 2, 1) := rfl
set_option maxRecDepth 10000 in
theorem mi_114 : amMi[114]? = some (⟨"SoundAdvice", "near", "(II)I"⟩, prog_1_method_27_code, 6, (some .int), 11, 2) := rfl
set_option maxRecDepth 10000 in
theorem mi_115 : amMi[115]? = some (⟨"SoundAdvice", "movedBetween", "([I[I)I"⟩, prog_1_method_63_code, 4, (some .int), 11, 2) := rfl
set_option maxRecDepth 10000 in
theorem mi_116 : amMi[116]? = some (⟨"SoundAdvice", "beyond", "()I"⟩, prog_1_method_28_code, 4, (some .int), 11, 0) := rfl
set_option maxRecDepth 10000 in
theorem mi_117 : amMi[117]? = some (⟨"SoundAdvice", "countBeyond", "(II)I"⟩, prog_1_method_29_code, 5, (some .int), 11, 2) := rfl
set_option maxRecDepth 10000 in
theorem mi_118 : amMi[118]? = some (⟨"SoundAdvice", "play", "(IIII)I"⟩, prog_1_method_33_code, 6, (some .int), 11, 4) := rfl
set_option maxRecDepth 10000 in
theorem mi_119 : amMi[119]? = some (⟨"SoundAdvice", "isPlay", "(II)Z"⟩, prog_1_method_35_code, 3, (some .boolean), 11, 2) := rfl
set_option maxRecDepth 10000 in
theorem mi_120 : amMi[120]? = some (⟨"SoundAdvice$Match", "begin", "(LSoundAdvice$Game;III)V"⟩, prog_7_method_2_code, 5, none, 5, 4) := rfl
set_option maxRecDepth 10000 in
theorem mi_121 : amMi[121]? = some (⟨"SoundAdvice$Match", "book", "(LSoundAdvice$Game;)V"⟩, prog_7_method_4_code, 4, none, 5, 1) := rfl
set_option maxRecDepth 10000 in
theorem mi_122 : amMi[122]? = some (⟨"SoundAdvice$Match", "playOn", "(LSoundAdvice$Game;)V"⟩, prog_7_method_3_code, 4, none, 5, 1) := rfl
set_option maxRecDepth 10000 in
theorem mi_123 : amMi[123]? = some (⟨"SoundAdvice$Match", "mostRegretted", "(LSoundAdvice$Game;I)I"⟩, prog_7_method_5_code, 5, (some .int), 5, 2) := rfl
set_option maxRecDepth 10000 in
theorem mi_124 : amMi[124]? = some (⟨"SoundAdvice$Match", "drawn", "(LSoundAdvice$Game;I)I"⟩, prog_7_method_6_code, 7, (some .int), 5, 2) := rfl
set_option maxRecDepth 10000 in
theorem mi_125 : amMi[125]? = some (⟨"SoundAdvice$Dice", "draw", "(I)I"⟩, prog_3_method_2_code, 2, (some .int), 1, 1) := rfl
set_option maxRecDepth 10000 in
theorem mi_126 : amMi[126]? = some (⟨"SoundAdvice$Match", "mostRegret", "(LSoundAdvice$Game;)I"⟩, prog_7_method_7_code, 5, (some .int), 5, 1) := rfl
set_option maxRecDepth 10000 in
theorem mi_127 : amMi[127]? = some (⟨"SoundAdvice", "calm", "(IIII)I"⟩, prog_1_method_34_code, 8, (some .int), 11, 4) := rfl
set_option maxRecDepth 10000 in
theorem mi_128 : amMi[128]? = some (⟨"SoundAdvice", "mixed", "(I)I"⟩, prog_1_method_36_code, 3, (some .int), 11, 1) := rfl
set_option maxRecDepth 10000 in
theorem mi_129 : amMi[129]? = some (⟨"SoundAdvice", "isShelved", "(I)Z"⟩, prog_1_method_58_code, 2, (some .boolean), 11, 1) := rfl
set_option maxRecDepth 10000 in
theorem mi_130 : amMi[130]? = some (⟨"SoundAdvice", "were", "(III)I"⟩, prog_1_method_37_code, 4, (some .int), 11, 3) := rfl
set_option maxRecDepth 10000 in
theorem mi_131 : amMi[131]? = some (⟨"SoundAdvice", "range", "(II)I"⟩, prog_1_method_38_code, 7, (some .int), 11, 2) := rfl
set_option maxRecDepth 10000 in
theorem mi_132 : amMi[132]? = some (⟨"SoundAdvice", "mends", "()I"⟩, prog_1_method_39_code, 4, (some .int), 11, 0) := rfl
set_option maxRecDepth 10000 in
theorem mi_133 : amMi[133]? = some (⟨"SoundAdvice", "pays", "(III)I"⟩, prog_1_method_40_code, 4, (some .int), 11, 3) := rfl
set_option maxRecDepth 10000 in
theorem mi_134 : amMi[134]? = some (⟨"SoundAdvice", "changePay", "(III)I"⟩, prog_1_method_50_code, 5, (some .int), 11, 3) := rfl
set_option maxRecDepth 10000 in
theorem mi_135 : amMi[135]? = some (⟨"SoundAdvice", "scales", "(III)I"⟩, prog_1_method_41_code, 6, (some .int), 11, 3) := rfl
set_option maxRecDepth 10000 in
theorem mi_136 : amMi[136]? = some (⟨"SoundAdvice", "scaleFault", "(III)I"⟩, prog_1_method_42_code, 7, (some .int), 11, 3) := rfl
set_option maxRecDepth 10000 in
theorem mi_137 : amMi[137]? = some (⟨"SoundAdvice", "moves", "(II)I"⟩, prog_1_method_43_code, 3, (some .int), 11, 2) := rfl
set_option maxRecDepth 10000 in
theorem mi_138 : amMi[138]? = some (⟨"SoundAdvice", "moveToken", "(II)I"⟩, prog_1_method_51_code, 3, (some .int), 11, 2) := rfl
set_option maxRecDepth 10000 in
theorem mi_139 : amMi[139]? = some (⟨"SoundAdvice", "lays", "(II)I"⟩, prog_1_method_44_code, 3, (some .int), 11, 2) := rfl
set_option maxRecDepth 10000 in
theorem mi_140 : amMi[140]? = some (⟨"SoundAdvice", "layTokens", "(II)I"⟩, prog_1_method_52_code, 3, (some .int), 11, 2) := rfl
set_option maxRecDepth 10000 in
theorem mi_141 : amMi[141]? = some (⟨"SoundAdvice", "takes", "(II)I"⟩, prog_1_method_45_code, 3, (some .int), 11, 2) := rfl
set_option maxRecDepth 10000 in
theorem mi_142 : amMi[142]? = some (⟨"SoundAdvice", "takeBest", "(II)I"⟩, prog_1_method_53_code, 3, (some .int), 11, 2) := rfl
set_option maxRecDepth 10000 in
theorem mi_143 : amMi[143]? = some (⟨"SoundAdvice", "day", "()I"⟩, prog_1_method_46_code, 5, (some .int), 11, 0) := rfl
set_option maxRecDepth 10000 in
theorem mi_144 : amMi[144]? = some (⟨"SoundAdvice$Text", "dayFault", "()I"⟩, prog_12_method_11_code, 6, (some .int), 10, 0) := rfl
set_option maxRecDepth 10000 in
theorem mi_145 : amMi[145]? = some (⟨"SoundAdvice$Text", "actLength", "(I)I"⟩, prog_12_method_13_code, 1, (some .int), 10, 1) := rfl
set_option maxRecDepth 10000 in
theorem mi_146 : amMi[146]? = some (⟨"SoundAdvice$Text", "canStand", "(III)Z"⟩, prog_12_method_12_code, 4, (some .boolean), 10, 3) := rfl
set_option maxRecDepth 10000 in
theorem mi_147 : amMi[147]? = some (⟨"SoundAdvice", "act", "(I)I"⟩, prog_1_method_47_code, 3, (some .int), 11, 1) := rfl
set_option maxRecDepth 10000 in
theorem mi_148 : amMi[148]? = some (⟨"SoundAdvice", "undo", "()I"⟩, prog_1_method_48_code, 1, (some .int), 11, 0) := rfl
set_option maxRecDepth 10000 in
theorem mi_149 : amMi[149]? = some (⟨"SoundAdvice$Past", "back", "(LSoundAdvice$Game;)I"⟩, prog_9_method_5_code, 2, (some .int), 7, 1) := rfl
set_option maxRecDepth 10000 in
theorem mi_150 : amMi[150]? = some (⟨"SoundAdvice", "years", "(II)I"⟩, prog_1_method_49_code, 6, (some .int), 11, 2) := rfl
set_option maxRecDepth 10000 in
theorem mi_151 : amMi[151]? = some (⟨"SoundAdvice", "keep", "(I)Z"⟩, prog_1_method_54_code, 2, (some .boolean), 11, 1) := rfl
set_option maxRecDepth 10000 in
theorem mi_152 : amMi[152]? = some (⟨"SoundAdvice", "again", "(I)Z"⟩, prog_1_method_55_code, 2, (some .boolean), 11, 1) := rfl
set_option maxRecDepth 10000 in
theorem mi_153 : amMi[153]? = some (⟨"SoundAdvice", "count", "(I)I"⟩, prog_1_method_56_code, 2, (some .int), 11, 1) := rfl
set_option maxRecDepth 10000 in
theorem mi_154 : amMi[154]? = some (⟨"SoundAdvice", "of", "(II)I"⟩, prog_1_method_10_code, 4, (some .int), 11, 2) := rfl
set_option maxRecDepth 10000 in
theorem mi_155 : amMi[155]? = some (⟨"SoundAdvice", "row", "(I)J"⟩, prog_1_method_57_code, 2, (some .long), 11, 1) := rfl
set_option maxRecDepth 10000 in
theorem mi_156 : amMi[156]? = some (⟨"SoundAdviceModel", "<init>", "()V"⟩, prog_14_method_1_code, 1, none, 12, 0) := rfl
set_option maxRecDepth 10000 in
theorem mi_157 : amMi[157]? = some (⟨"SoundAdviceModel", "thrown", "()I"⟩, prog_14_method_2_code, 1, (some .int), 12, 0) := rfl
set_option maxRecDepth 10000 in
theorem mi_158 : amMi[158]? = some (⟨"SoundAdviceModel", "sign", "(I)I"⟩, prog_14_method_14_code, 3, (some .int), 12, 1) := rfl
set_option maxRecDepth 10000 in
theorem mi_159 : amMi[159]? = some (⟨"SoundAdviceModel", "end", "(I)Z"⟩, prog_14_method_15_code, 2, (some .boolean), 12, 1) := rfl
set_option maxRecDepth 10000 in
theorem mi_160 : amMi[160]? = some (⟨"SoundAdviceModel", "in", "(III)Z"⟩, prog_14_method_3_code, 3, (some .boolean), 12, 3) := rfl
set_option maxRecDepth 10000 in
theorem mi_161 : amMi[161]? = some (⟨"SoundAdviceModel", "game", "()I"⟩, prog_14_method_22_code, 7, (some .int), 12, 0) := rfl
set_option maxRecDepth 10000 in
theorem mi_162 : amMi[162]? = some (⟨"SoundAdviceModel", "begin", "()V"⟩, prog_14_method_16_code, 1, none, 12, 0) := rfl
set_option maxRecDepth 10000 in
theorem mi_163 : amMi[163]? = some (⟨"SoundAdviceModel", "oneOf", "(CI)I"⟩, prog_14_method_20_code, 3, (some .int), 12, 2) := rfl
set_option maxRecDepth 10000 in
theorem mi_164 : amMi[164]? = some (⟨"SoundAdviceModel", "fine", "()Z"⟩, prog_14_method_18_code, 1, (some .boolean), 12, 0) := rfl
set_option maxRecDepth 10000 in
theorem mi_165 : amMi[165]? = some (⟨"SoundAdviceModel", "here", "()I"⟩, prog_14_method_17_code, 1, (some .int), 12, 0) := rfl
set_option maxRecDepth 10000 in
theorem mi_166 : amMi[166]? = some (⟨"SoundAdviceModel", "fault", "(I)V"⟩, prog_14_method_19_code, 2, none, 12, 1) := rfl
set_option maxRecDepth 10000 in
theorem mi_167 : amMi[167]? = some (⟨"SoundAdviceModel", "wasRight", "()Z"⟩, prog_14_method_21_code, 1, (some .boolean), 12, 0) := rfl
set_option maxRecDepth 10000 in
theorem mi_168 : amMi[168]? = some (⟨"SoundAdviceModel", "change", "()V"⟩, prog_14_method_95_code, 1, none, 12, 0) := rfl
set_option maxRecDepth 10000 in
theorem mi_169 : amMi[169]? = some (⟨"SoundAdviceModel", "lay", "()V"⟩, prog_14_method_93_code, 2, none, 12, 0) := rfl
set_option maxRecDepth 10000 in
theorem mi_170 : amMi[170]? = some (⟨"SoundAdviceModel", "note", "()V"⟩, prog_14_method_94_code, 2, none, 12, 0) := rfl
set_option maxRecDepth 10000 in
theorem mi_171 : amMi[171]? = some (⟨"SoundAdviceModel", "advice", "()I"⟩, prog_14_method_24_code, 4, (some .int), 12, 0) := rfl
set_option maxRecDepth 10000 in
theorem mi_172 : amMi[172]? = some (⟨"SoundAdviceModel", "profiles", "()I"⟩, prog_14_method_8_code, 1, (some .int), 12, 0) := rfl
set_option maxRecDepth 10000 in
theorem mi_173 : amMi[173]? = some (⟨"SoundAdviceModel", "has", "(I)I"⟩, prog_14_method_7_code, 2, (some .int), 12, 1) := rfl
set_option maxRecDepth 10000 in
theorem mi_174 : amMi[174]? = some (⟨"SoundAdviceModel", "sheet", "(IIIIII)I"⟩, prog_14_method_26_code, 11, (some .int), 12, 6) := rfl
set_option maxRecDepth 10000 in
theorem mi_175 : amMi[175]? = some (⟨"SoundAdviceModel", "isPlayer", "(I)Z"⟩, prog_14_method_6_code, 2, (some .boolean), 12, 1) := rfl
set_option maxRecDepth 10000 in
theorem mi_176 : amMi[176]? = some (⟨"SoundAdviceModel", "entryOf", "(IIII)I"⟩, prog_14_method_25_code, 5, (some .int), 12, 4) := rfl
set_option maxRecDepth 10000 in
theorem mi_177 : amMi[177]? = some (⟨"SoundAdviceModel", "tell", "(J)V"⟩, prog_14_method_5_code, 3, none, 12, 1) := rfl
set_option maxRecDepth 10000 in
theorem mi_178 : amMi[178]? = some (⟨"SoundAdviceModel", "pay", "(II)I"⟩, prog_14_method_13_code, 3, (some .int), 12, 2) := rfl
set_option maxRecDepth 10000 in
theorem mi_179 : amMi[179]? = some (⟨"SoundAdviceModel", "profile", "(III)I"⟩, prog_14_method_27_code, 5, (some .int), 12, 3) := rfl
set_option maxRecDepth 10000 in
theorem mi_180 : amMi[180]? = some (⟨"SoundAdviceModel", "stride", "(I)I"⟩, prog_14_method_10_code, 4, (some .int), 12, 1) := rfl
set_option maxRecDepth 10000 in
theorem mi_181 : amMi[181]? = some (⟨"SoundAdviceModel", "of", "(II)I"⟩, prog_14_method_28_code, 4, (some .int), 12, 2) := rfl
set_option maxRecDepth 10000 in
theorem mi_182 : amMi[182]? = some (⟨"SoundAdviceModel", "isProfile", "(I)Z"⟩, prog_14_method_9_code, 2, (some .boolean), 12, 1) := rfl
set_option maxRecDepth 10000 in
theorem mi_183 : amMi[183]? = some (⟨"SoundAdviceModel", "lost", "()I"⟩, prog_14_method_4_code, 1, (some .int), 12, 0) := rfl
set_option maxRecDepth 10000 in
theorem mi_184 : amMi[184]? = some (⟨"SoundAdviceModel", "actionIn", "(II)I"⟩, prog_14_method_11_code, 3, (some .int), 12, 2) := rfl
set_option maxRecDepth 10000 in
theorem mi_185 : amMi[185]? = some (⟨"SoundAdviceModel", "gain", "(III)I"⟩, prog_14_method_33_code, 4, (some .int), 12, 3) := rfl
set_option maxRecDepth 10000 in
theorem mi_186 : amMi[186]? = some (⟨"SoundAdviceModel", "askNow", "()V"⟩, prog_14_method_29_code, 2, none, 12, 0) := rfl
set_option maxRecDepth 10000 in
theorem mi_187 : amMi[187]? = some (⟨"SoundAdviceModel", "gainOf", "(III)I"⟩, prog_14_method_30_code, 6, (some .int), 12, 3) := rfl
set_option maxRecDepth 10000 in
theorem mi_188 : amMi[188]? = some (⟨"SoundAdviceModel", "but", "(III)I"⟩, prog_14_method_12_code, 4, (some .int), 12, 3) := rfl
set_option maxRecDepth 10000 in
theorem mi_189 : amMi[189]? = some (⟨"SoundAdviceModel", "sound", "()I"⟩, prog_14_method_35_code, 2, (some .int), 12, 0) := rfl
set_option maxRecDepth 10000 in
theorem mi_190 : amMi[190]? = some (⟨"SoundAdviceModel", "greatest", "()I"⟩, prog_14_method_34_code, 5, (some .int), 12, 0) := rfl
set_option maxRecDepth 10000 in
theorem mi_191 : amMi[191]? = some (⟨"SoundAdviceModel", "tight", "()I"⟩, prog_14_method_37_code, 4, (some .int), 12, 0) := rfl
set_option maxRecDepth 10000 in
theorem mi_192 : amMi[192]? = some (⟨"SoundAdviceModel", "isTold", "(II)Z"⟩, prog_14_method_36_code, 4, (some .boolean), 12, 2) := rfl
set_option maxRecDepth 10000 in
theorem mi_193 : amMi[193]? = some (⟨"SoundAdviceModel", "hangs", "(I)I"⟩, prog_14_method_38_code, 9, (some .int), 12, 1) := rfl
set_option maxRecDepth 10000 in
theorem mi_194 : amMi[194]? = some (⟨"SoundAdviceModel", "values", "()I"⟩, prog_14_method_42_code, 2, (some .int), 12, 0) := rfl
set_option maxRecDepth 10000 in
theorem mi_195 : amMi[195]? = some (⟨"SoundAdviceModel", "valueOf", "(I)I"⟩, prog_14_method_39_code, 4, (some .int), 12, 1) := rfl
set_option maxRecDepth 10000 in
theorem mi_196 : amMi[196]? = some (⟨"SoundAdviceModel", "welfare", "()I"⟩, prog_14_method_40_code, 3, (some .int), 12, 0) := rfl
set_option maxRecDepth 10000 in
theorem mi_197 : amMi[197]? = some (⟨"SoundAdviceModel", "floor", "()I"⟩, prog_14_method_41_code, 3, (some .int), 12, 0) := rfl
set_option maxRecDepth 10000 in
theorem mi_198 : amMi[198]? = some (⟨"SoundAdviceModel", "total", "()I"⟩, prog_14_method_23_code, 3, (some .int), 12, 0) := rfl
set_option maxRecDepth 10000 in
theorem mi_199 : amMi[199]? = some (⟨"SoundAdviceModel", "map", "(I)I"⟩, prog_14_method_43_code, 7, (some .int), 12, 1) := rfl
set_option maxRecDepth 10000 in
theorem mi_200 : amMi[200]? = some (⟨"SoundAdviceModel", "corner", "()I"⟩, prog_14_method_52_code, 2, (some .int), 12, 0) := rfl
set_option maxRecDepth 10000 in
theorem mi_201 : amMi[201]? = some (⟨"SoundAdviceModel", "isSoundNow", "()Z"⟩, prog_14_method_32_code, 1, (some .boolean), 12, 0) := rfl
set_option maxRecDepth 10000 in
theorem mi_202 : amMi[202]? = some (⟨"SoundAdviceModel", "isSound", "()Z"⟩, prog_14_method_31_code, 4, (some .boolean), 12, 0) := rfl
set_option maxRecDepth 10000 in
theorem mi_203 : amMi[203]? = some (⟨"SoundAdviceModel", "layList", "(I)V"⟩, prog_14_method_47_code, 3, none, 12, 1) := rfl
set_option maxRecDepth 10000 in
theorem mi_204 : amMi[204]? = some (⟨"SoundAdviceModel", "lists", "(II)V"⟩, prog_14_method_46_code, 4, none, 12, 2) := rfl
set_option maxRecDepth 10000 in
theorem mi_205 : amMi[205]? = some (⟨"SoundAdviceModel", "isApart", "()Z"⟩, prog_14_method_51_code, 8, (some .boolean), 12, 0) := rfl
set_option maxRecDepth 10000 in
theorem mi_206 : amMi[206]? = some (⟨"SoundAdviceModel", "isCorner", "()Z"⟩, prog_14_method_50_code, 2, (some .boolean), 12, 0) := rfl
set_option maxRecDepth 10000 in
theorem mi_207 : amMi[207]? = some (⟨"SoundAdviceModel", "isEnd", "(I)Z"⟩, prog_14_method_49_code, 4, (some .boolean), 12, 1) := rfl
set_option maxRecDepth 10000 in
theorem mi_208 : amMi[208]? = some (⟨"SoundAdviceModel", "listed", "(II)I"⟩, prog_14_method_44_code, 3, (some .int), 12, 2) := rfl
set_option maxRecDepth 10000 in
theorem mi_209 : amMi[209]? = some (⟨"SoundAdviceModel", "plans", "()I"⟩, prog_14_method_55_code, 5, (some .int), 12, 0) := rfl
set_option maxRecDepth 10000 in
theorem mi_210 : amMi[210]? = some (⟨"SoundAdviceModel", "planBits", "()I"⟩, prog_14_method_53_code, 4, (some .int), 12, 0) := rfl
set_option maxRecDepth 10000 in
theorem mi_211 : amMi[211]? = some (⟨"SoundAdviceModel", "countBits", "(I)I"⟩, prog_14_method_54_code, 3, (some .int), 12, 1) := rfl
set_option maxRecDepth 10000 in
theorem mi_212 : amMi[212]? = some (⟨"SoundAdviceModel", "sure", "(I)I"⟩, prog_14_method_57_code, 4, (some .int), 12, 1) := rfl
set_option maxRecDepth 10000 in
theorem mi_213 : amMi[213]? = some (⟨"SoundAdviceModel", "leastBy", "(II)I"⟩, prog_14_method_56_code, 5, (some .int), 12, 2) := rfl
set_option maxRecDepth 10000 in
theorem mi_214 : amMi[214]? = some (⟨"SoundAdviceModel", "left", "()I"⟩, prog_14_method_62_code, 3, (some .int), 12, 0) := rfl
set_option maxRecDepth 10000 in
theorem mi_215 : amMi[215]? = some (⟨"SoundAdviceModel", "layLeft", "()I"⟩, prog_14_method_61_code, 4, (some .int), 12, 0) := rfl
set_option maxRecDepth 10000 in
theorem mi_216 : amMi[216]? = some (⟨"SoundAdviceModel", "takeOne", "()Z"⟩, prog_14_method_60_code, 4, (some .boolean), 12, 0) := rfl
set_option maxRecDepth 10000 in
theorem mi_217 : amMi[217]? = some (⟨"SoundAdviceModel", "isWorthless", "(III)Z"⟩, prog_14_method_59_code, 5, (some .boolean), 12, 3) := rfl
set_option maxRecDepth 10000 in
theorem mi_218 : amMi[218]? = some (⟨"SoundAdviceModel", "isLeft", "(II)Z"⟩, prog_14_method_58_code, 4, (some .boolean), 12, 2) := rfl
set_option maxRecDepth 10000 in
theorem mi_219 : amMi[219]? = some (⟨"SoundAdviceModel", "list", "(I)I"⟩, prog_14_method_63_code, 5, (some .int), 12, 1) := rfl
set_option maxRecDepth 10000 in
theorem mi_220 : amMi[220]? = some (⟨"SoundAdviceModel", "takeMid", "(I)V"⟩, prog_14_method_48_code, 3, none, 12, 1) := rfl
set_option maxRecDepth 10000 in
theorem mi_221 : amMi[221]? = some (⟨"SoundAdviceModel", "best", "(II)I"⟩, prog_14_method_70_code, 4, (some .int), 12, 2) := rfl
set_option maxRecDepth 10000 in
theorem mi_222 : amMi[222]? = some (⟨"SoundAdviceModel", "isWhat", "(II)Z"⟩, prog_14_method_67_code, 3, (some .boolean), 12, 2) := rfl
set_option maxRecDepth 10000 in
theorem mi_223 : amMi[223]? = some (⟨"SoundAdviceModel", "bestOf", "(II)I"⟩, prog_14_method_68_code, 7, (some .int), 12, 2) := rfl
set_option maxRecDepth 10000 in
theorem mi_224 : amMi[224]? = some (⟨"SoundAdviceModel", "ask", "(I)V"⟩, prog_14_method_45_code, 3, none, 12, 1) := rfl
set_option maxRecDepth 10000 in
theorem mi_225 : amMi[225]? = some (⟨"SoundAdviceModel", "worth", "(II)I"⟩, prog_14_method_66_code, 3, (some .int), 12, 2) := rfl
set_option maxRecDepth 10000 in
theorem mi_226 : amMi[226]? = some (⟨"SoundAdviceModel", "tokensOn", "(I)I"⟩, prog_14_method_64_code, 4, (some .int), 12, 1) := rfl
set_option maxRecDepth 10000 in
theorem mi_227 : amMi[227]? = some (⟨"SoundAdviceModel", "profilesOn", "()I"⟩, prog_14_method_65_code, 3, (some .int), 12, 0) := rfl
set_option maxRecDepth 10000 in
theorem mi_228 : amMi[228]? = some (⟨"SoundAdviceModel", "tellListed", "(I)V"⟩, prog_14_method_69_code, 3, none, 12, 1) := rfl
set_option maxRecDepth 10000 in
theorem mi_229 : amMi[229]? = some (⟨"SoundAdviceModel", "number", "(II)I"⟩, prog_14_method_71_code, 3, (some .int), 12, 2) := rfl
set_option maxRecDepth 10000 in
theorem mi_230 : amMi[230]? = some (⟨"SoundAdviceModel", "which", "()I"⟩, prog_14_method_73_code, 2, (some .int), 12, 0) := rfl
set_option maxRecDepth 10000 in
theorem mi_231 : amMi[231]? = some (⟨"SoundAdviceModel", "isNow", "(I)Z"⟩, prog_14_method_72_code, 3, (some .boolean), 12, 1) := rfl
set_option maxRecDepth 10000 in
theorem mi_232 : amMi[232]? = some (⟨"SoundAdviceModel", "near", "(II)I"⟩, prog_14_method_75_code, 6, (some .int), 12, 2) := rfl
set_option maxRecDepth 10000 in
theorem mi_233 : amMi[233]? = some (⟨"SoundAdviceModel", "movedFrom", "(I)I"⟩, prog_14_method_74_code, 4, (some .int), 12, 1) := rfl
set_option maxRecDepth 10000 in
theorem mi_234 : amMi[234]? = some (⟨"SoundAdviceModel", "beyond", "()I"⟩, prog_14_method_76_code, 5, (some .int), 12, 0) := rfl
set_option maxRecDepth 10000 in
theorem mi_235 : amMi[235]? = some (⟨"SoundAdviceModel", "play", "(IIII)I"⟩, prog_14_method_84_code, 7, (some .int), 12, 4) := rfl
set_option maxRecDepth 10000 in
theorem mi_236 : amMi[236]? = some (⟨"SoundAdviceModel", "startPlay", "(II)V"⟩, prog_14_method_78_code, 4, none, 12, 2) := rfl
set_option maxRecDepth 10000 in
theorem mi_237 : amMi[237]? = some (⟨"SoundAdviceModel", "addRegrets", "()V"⟩, prog_14_method_79_code, 3, none, 12, 0) := rfl
set_option maxRecDepth 10000 in
theorem mi_238 : amMi[238]? = some (⟨"SoundAdviceModel", "goRound", "(I)V"⟩, prog_14_method_82_code, 4, none, 12, 1) := rfl
set_option maxRecDepth 10000 in
theorem mi_239 : amMi[239]? = some (⟨"SoundAdviceModel", "byMost", "(I)I"⟩, prog_14_method_80_code, 4, (some .int), 12, 1) := rfl
set_option maxRecDepth 10000 in
theorem mi_240 : amMi[240]? = some (⟨"SoundAdviceModel", "byDraw", "(I)I"⟩, prog_14_method_81_code, 5, (some .int), 12, 1) := rfl
set_option maxRecDepth 10000 in
theorem mi_241 : amMi[241]? = some (⟨"SoundAdviceModel", "draw", "(I)I"⟩, prog_14_method_77_code, 2, (some .int), 12, 1) := rfl
set_option maxRecDepth 10000 in
theorem mi_242 : amMi[242]? = some (⟨"SoundAdviceModel", "mostRegret", "()I"⟩, prog_14_method_83_code, 4, (some .int), 12, 0) := rfl
set_option maxRecDepth 10000 in
theorem mi_243 : amMi[243]? = some (⟨"SoundAdviceModel", "calm", "(IIII)I"⟩, prog_14_method_85_code, 8, (some .int), 12, 4) := rfl
set_option maxRecDepth 10000 in
theorem mi_244 : amMi[244]? = some (⟨"SoundAdviceModel", "mixed", "(I)I"⟩, prog_14_method_86_code, 4, (some .int), 12, 1) := rfl
set_option maxRecDepth 10000 in
theorem mi_245 : amMi[245]? = some (⟨"SoundAdviceModel", "keptProfiles", "(I)I"⟩, prog_14_method_87_code, 4, (some .int), 12, 1) := rfl
set_option maxRecDepth 10000 in
theorem mi_246 : amMi[246]? = some (⟨"SoundAdviceModel", "were", "(III)I"⟩, prog_14_method_90_code, 5, (some .int), 12, 3) := rfl
set_option maxRecDepth 10000 in
theorem mi_247 : amMi[247]? = some (⟨"SoundAdviceModel", "isPay", "(II)Z"⟩, prog_14_method_88_code, 3, (some .boolean), 12, 2) := rfl
set_option maxRecDepth 10000 in
theorem mi_248 : amMi[248]? = some (⟨"SoundAdviceModel", "greatestBy", "(III)I"⟩, prog_14_method_89_code, 6, (some .int), 12, 3) := rfl
set_option maxRecDepth 10000 in
theorem mi_249 : amMi[249]? = some (⟨"SoundAdviceModel", "range", "(II)I"⟩, prog_14_method_91_code, 7, (some .int), 12, 2) := rfl
set_option maxRecDepth 10000 in
theorem mi_250 : amMi[250]? = some (⟨"SoundAdviceModel", "mends", "()I"⟩, prog_14_method_92_code, 4, (some .int), 12, 0) := rfl
set_option maxRecDepth 10000 in
theorem mi_251 : amMi[251]? = some (⟨"SoundAdviceModel", "pays", "(III)I"⟩, prog_14_method_97_code, 6, (some .int), 12, 3) := rfl
set_option maxRecDepth 10000 in
theorem mi_252 : amMi[252]? = some (⟨"SoundAdviceModel", "refusesPay", "(III)I"⟩, prog_14_method_96_code, 4, (some .int), 12, 3) := rfl
set_option maxRecDepth 10000 in
theorem mi_253 : amMi[253]? = some (⟨"SoundAdviceModel", "scales", "(III)I"⟩, prog_14_method_99_code, 8, (some .int), 12, 3) := rfl
set_option maxRecDepth 10000 in
theorem mi_254 : amMi[254]? = some (⟨"SoundAdviceModel", "fits", "(J)Z"⟩, prog_14_method_98_code, 2, (some .boolean), 12, 1) := rfl
set_option maxRecDepth 10000 in
theorem mi_255 : amMi[255]? = some (⟨"SoundAdviceModel", "moves", "(II)I"⟩, prog_14_method_102_code, 4, (some .int), 12, 2) := rfl
set_option maxRecDepth 10000 in
theorem mi_256 : amMi[256]? = some (⟨"SoundAdviceModel", "refusesMove", "(II)I"⟩, prog_14_method_100_code, 3, (some .int), 12, 2) := rfl
set_option maxRecDepth 10000 in
theorem mi_257 : amMi[257]? = some (⟨"SoundAdviceModel", "goMove", "(II)V"⟩, prog_14_method_101_code, 3, none, 12, 2) := rfl
set_option maxRecDepth 10000 in
theorem mi_258 : amMi[258]? = some (⟨"SoundAdviceModel", "lays", "(II)I"⟩, prog_14_method_104_code, 4, (some .int), 12, 2) := rfl
set_option maxRecDepth 10000 in
theorem mi_259 : amMi[259]? = some (⟨"SoundAdviceModel", "refusesLay", "(II)I"⟩, prog_14_method_103_code, 3, (some .int), 12, 2) := rfl
set_option maxRecDepth 10000 in
theorem mi_260 : amMi[260]? = some (⟨"SoundAdviceModel", "takes", "(II)I"⟩, prog_14_method_107_code, 4, (some .int), 12, 2) := rfl
set_option maxRecDepth 10000 in
theorem mi_261 : amMi[261]? = some (⟨"SoundAdviceModel", "refusesTake", "(II)I"⟩, prog_14_method_105_code, 4, (some .int), 12, 2) := rfl
set_option maxRecDepth 10000 in
theorem mi_262 : amMi[262]? = some (⟨"SoundAdviceModel", "goTake", "(I)I"⟩, prog_14_method_106_code, 3, (some .int), 12, 1) := rfl
set_option maxRecDepth 10000 in
theorem mi_263 : amMi[263]? = some (⟨"SoundAdviceModel", "day", "()I"⟩, prog_14_method_110_code, 3, (some .int), 12, 0) := rfl
set_option maxRecDepth 10000 in
theorem mi_264 : amMi[264]? = some (⟨"SoundAdviceModel", "readAct", "(I)V"⟩, prog_14_method_108_code, 5, none, 12, 1) := rfl
set_option maxRecDepth 10000 in
theorem mi_265 : amMi[265]? = some (⟨"SoundAdviceModel", "act", "(I)Z"⟩, prog_14_method_109_code, 5, (some .boolean), 12, 1) := rfl
set_option maxRecDepth 10000 in
theorem mi_266 : amMi[266]? = some (⟨"SoundAdviceModel", "undo", "()I"⟩, prog_14_method_111_code, 2, (some .int), 12, 0) := rfl
set_option maxRecDepth 10000 in
theorem mi_267 : amMi[267]? = some (⟨"SoundAdviceModel", "years", "(II)I"⟩, prog_14_method_112_code, 6, (some .int), 12, 2) := rfl
set_option maxRecDepth 10000 in
theorem mi_268 : amMi[268]? = some (⟨"SoundAdviceModel", "keep", "(I)Z"⟩, prog_14_method_113_code, 3, (some .boolean), 12, 1) := rfl
set_option maxRecDepth 10000 in
theorem mi_269 : amMi[269]? = some (⟨"SoundAdviceModel", "again", "(I)Z"⟩, prog_14_method_114_code, 3, (some .boolean), 12, 1) := rfl
set_option maxRecDepth 10000 in
theorem mi_270 : amMi[270]? = some (⟨"SoundAdviceModel", "count", "(I)I"⟩, prog_14_method_116_code, 2, (some .int), 12, 1) := rfl
set_option maxRecDepth 10000 in
theorem mi_271 : amMi[271]? = some (⟨"SoundAdviceModel", "tokenBits", "()I"⟩, prog_14_method_115_code, 3, (some .int), 12, 0) := rfl
set_option maxRecDepth 10000 in
theorem mi_272 : amMi[272]? = some (⟨"SoundAdviceModel", "row", "(I)J"⟩, prog_14_method_117_code, 2, (some .long), 12, 1) := rfl
set_option maxRecDepth 10000 in
theorem mi_273 : amMi[273]? = some (⟨"SoundAdviceLaw", "law", "([I)Z"⟩, code, 8, (some .boolean), 13, 1) := rfl
set_option maxRecDepth 10000 in
theorem mi_274 : amMi[274]? = some (⟨"SoundAdviceLaw", "of", "(LSoundAdvice;II[J)I"⟩, method_3_code, 5, (some .int), 13, 4) := rfl
set_option maxRecDepth 10000 in
theorem mi_275 : amMi[275]? = some (⟨"SoundAdviceLaw", "row", "(LSoundAdvice;I[J)I"⟩, method_4_code, 4, (some .int), 13, 3) := rfl
theorem fl_0_9 : amFL 0 9 = some (0, 0) := by decide +kernel
theorem fl_0_21 : amFL 0 21 = some (0, 1) := by decide +kernel
theorem fl_0_25 : amFL 0 25 = some (0, 2) := by decide +kernel
theorem fl_0_34 : amFL 0 34 = some (4, 1) := by decide +kernel
theorem fl_1_7 : amFL 1 7 = some (1, 0) := by decide +kernel
theorem fl_2_9 : amFL 2 9 = some (2, 0) := by decide +kernel
theorem fl_2_15 : amFL 2 15 = some (2, 1) := by decide +kernel
theorem fl_2_18 : amFL 2 18 = some (2, 2) := by decide +kernel
theorem fl_2_21 : amFL 2 21 = some (2, 3) := by decide +kernel
theorem fl_2_24 : amFL 2 24 = some (2, 4) := by decide +kernel
theorem fl_2_31 : amFL 2 31 = some (2, 5) := by decide +kernel
theorem fl_2_35 : amFL 2 35 = some (2, 6) := by decide +kernel
theorem fl_3_10 : amFL 3 10 = some (3, 0) := by decide +kernel
theorem fl_3_16 : amFL 3 16 = some (3, 1) := by decide +kernel
theorem fl_3_34 : amFL 3 34 = some (9, 7) := by decide +kernel
theorem fl_3_42 : amFL 3 42 = some (9, 0) := by decide +kernel
theorem fl_3_50 : amFL 3 50 = some (9, 1) := by decide +kernel
theorem fl_4_12 : amFL 4 12 = some (4, 0) := by decide +kernel
theorem fl_4_18 : amFL 4 18 = some (9, 0) := by decide +kernel
theorem fl_4_22 : amFL 4 22 = some (4, 1) := by decide +kernel
theorem fl_4_31 : amFL 4 31 = some (4, 2) := by decide +kernel
theorem fl_4_43 : amFL 4 43 = some (9, 7) := by decide +kernel
theorem fl_4_47 : amFL 4 47 = some (4, 3) := by decide +kernel
theorem fl_5_12 : amFL 5 12 = some (5, 0) := by decide +kernel
theorem fl_5_18 : amFL 5 18 = some (5, 1) := by decide +kernel
theorem fl_5_22 : amFL 5 22 = some (5, 2) := by decide +kernel
theorem fl_5_25 : amFL 5 25 = some (5, 3) := by decide +kernel
theorem fl_5_34 : amFL 5 34 = some (5, 4) := by decide +kernel
theorem fl_5_38 : amFL 5 38 = some (5, 5) := by decide +kernel
theorem fl_5_41 : amFL 5 41 = some (1, 0) := by decide +kernel
theorem fl_5_44 : amFL 5 44 = some (5, 6) := by decide +kernel
theorem fl_5_51 : amFL 5 51 = some (2, 5) := by decide +kernel
theorem fl_5_56 : amFL 5 56 = some (2, 1) := by decide +kernel
theorem fl_5_66 : amFL 5 66 = some (2, 0) := by decide +kernel
theorem fl_6_9 : amFL 6 9 = some (6, 0) := by decide +kernel
theorem fl_6_15 : amFL 6 15 = some (6, 1) := by decide +kernel
theorem fl_7_11 : amFL 7 11 = some (7, 0) := by decide +kernel
theorem fl_7_18 : amFL 7 18 = some (7, 1) := by decide +kernel
theorem fl_7_22 : amFL 7 22 = some (7, 2) := by decide +kernel
theorem fl_8_9 : amFL 8 9 = some (8, 0) := by decide +kernel
theorem fl_8_15 : amFL 8 15 = some (8, 1) := by decide +kernel
theorem fl_8_18 : amFL 8 18 = some (8, 2) := by decide +kernel
theorem fl_8_22 : amFL 8 22 = some (2, 0) := by decide +kernel
theorem fl_8_37 : amFL 8 37 = some (2, 5) := by decide +kernel
theorem fl_8_52 : amFL 8 52 = some (2, 6) := by decide +kernel
theorem fl_9_9 : amFL 9 9 = some (9, 0) := by decide +kernel
theorem fl_9_15 : amFL 9 15 = some (9, 1) := by decide +kernel
theorem fl_9_18 : amFL 9 18 = some (9, 2) := by decide +kernel
theorem fl_9_21 : amFL 9 21 = some (9, 3) := by decide +kernel
theorem fl_9_24 : amFL 9 24 = some (9, 4) := by decide +kernel
theorem fl_9_27 : amFL 9 27 = some (9, 5) := by decide +kernel
theorem fl_9_30 : amFL 9 30 = some (2, 5) := by decide +kernel
theorem fl_9_36 : amFL 9 36 = some (9, 6) := by decide +kernel
theorem fl_9_37 : amFL 9 37 = some (2, 6) := by decide +kernel
theorem fl_9_40 : amFL 9 40 = some (9, 7) := by decide +kernel
theorem fl_9_41 : amFL 9 41 = some (2, 0) := by decide +kernel
theorem fl_9_88 : amFL 9 88 = some (9, 8) := by decide +kernel
theorem fl_9_91 : amFL 9 91 = some (9, 9) := by decide +kernel
theorem fl_9_94 : amFL 9 94 = some (9, 10) := by decide +kernel
theorem fl_10_9 : amFL 10 9 = some (10, 0) := by decide +kernel
theorem fl_10_15 : amFL 10 15 = some (10, 1) := by decide +kernel
theorem fl_10_40 : amFL 10 40 = some (2, 6) := by decide +kernel
theorem fl_10_43 : amFL 10 43 = some (2, 5) := by decide +kernel
theorem fl_11_10 : amFL 11 10 = some (11, 0) := by decide +kernel
theorem fl_11_16 : amFL 11 16 = some (11, 1) := by decide +kernel
theorem fl_11_19 : amFL 11 19 = some (11, 2) := by decide +kernel
theorem fl_11_23 : amFL 11 23 = some (11, 3) := by decide +kernel
theorem fl_11_30 : amFL 11 30 = some (11, 4) := by decide +kernel
theorem fl_11_37 : amFL 11 37 = some (11, 5) := by decide +kernel
theorem fl_11_44 : amFL 11 44 = some (11, 6) := by decide +kernel
theorem fl_11_51 : amFL 11 51 = some (11, 7) := by decide +kernel
theorem fl_11_58 : amFL 11 58 = some (11, 8) := by decide +kernel
theorem fl_11_65 : amFL 11 65 = some (11, 9) := by decide +kernel
theorem fl_11_72 : amFL 11 72 = some (11, 10) := by decide +kernel
theorem fl_11_79 : amFL 11 79 = some (11, 11) := by decide +kernel
theorem fl_11_86 : amFL 11 86 = some (11, 12) := by decide +kernel
theorem fl_11_93 : amFL 11 93 = some (11, 13) := by decide +kernel
theorem fl_11_97 : amFL 11 97 = some (11, 14) := by decide +kernel
theorem fl_11_105 : amFL 11 105 = some (10, 1) := by decide +kernel
theorem fl_11_124 : amFL 11 124 = some (2, 6) := by decide +kernel
theorem fl_11_131 : amFL 11 131 = some (2, 4) := by decide +kernel
theorem fl_11_170 : amFL 11 170 = some (2, 5) := by decide +kernel
theorem fl_11_203 : amFL 11 203 = some (9, 8) := by decide +kernel
theorem fl_11_206 : amFL 11 206 = some (9, 9) := by decide +kernel
theorem fl_11_209 : amFL 11 209 = some (9, 10) := by decide +kernel
theorem fl_11_216 : amFL 11 216 = some (2, 0) := by decide +kernel
theorem fl_11_223 : amFL 11 223 = some (6, 1) := by decide +kernel
theorem fl_11_290 : amFL 11 290 = some (8, 0) := by decide +kernel
theorem fl_11_293 : amFL 11 293 = some (8, 2) := by decide +kernel
theorem fl_11_296 : amFL 11 296 = some (8, 1) := by decide +kernel
theorem fl_11_309 : amFL 11 309 = some (4, 1) := by decide +kernel
theorem fl_11_317 : amFL 11 317 = some (0, 0) := by decide +kernel
theorem fl_11_322 : amFL 11 322 = some (0, 2) := by decide +kernel
theorem fl_11_325 : amFL 11 325 = some (0, 1) := by decide +kernel
theorem fl_11_360 : amFL 11 360 = some (5, 4) := by decide +kernel
theorem fl_11_363 : amFL 11 363 = some (5, 3) := by decide +kernel
theorem fl_11_366 : amFL 11 366 = some (5, 2) := by decide +kernel
theorem fl_11_411 : amFL 11 411 = some (1, 0) := by decide +kernel
theorem fl_11_417 : amFL 11 417 = some (7, 2) := by decide +kernel
theorem fl_11_420 : amFL 11 420 = some (6, 0) := by decide +kernel
theorem fl_12_9 : amFL 12 9 = some (12, 0) := by decide +kernel
theorem fl_12_13 : amFL 12 13 = some (12, 1) := by decide +kernel
theorem fl_12_17 : amFL 12 17 = some (12, 3) := by decide +kernel
theorem fl_12_21 : amFL 12 21 = some (12, 9) := by decide +kernel
theorem fl_12_24 : amFL 12 24 = some (12, 10) := by decide +kernel
theorem fl_12_27 : amFL 12 27 = some (12, 14) := by decide +kernel
theorem fl_12_30 : amFL 12 30 = some (12, 16) := by decide +kernel
theorem fl_12_33 : amFL 12 33 = some (12, 17) := by decide +kernel
theorem fl_12_36 : amFL 12 36 = some (12, 18) := by decide +kernel
theorem fl_12_39 : amFL 12 39 = some (12, 22) := by decide +kernel
theorem fl_12_42 : amFL 12 42 = some (12, 24) := by decide +kernel
theorem fl_12_45 : amFL 12 45 = some (12, 25) := by decide +kernel
theorem fl_12_48 : amFL 12 48 = some (12, 26) := by decide +kernel
theorem fl_12_52 : amFL 12 52 = some (12, 27) := by decide +kernel
theorem fl_12_55 : amFL 12 55 = some (12, 28) := by decide +kernel
theorem fl_12_58 : amFL 12 58 = some (12, 30) := by decide +kernel
theorem fl_12_61 : amFL 12 61 = some (12, 31) := by decide +kernel
theorem fl_12_64 : amFL 12 64 = some (12, 32) := by decide +kernel
theorem fl_12_67 : amFL 12 67 = some (12, 5) := by decide +kernel
theorem fl_12_71 : amFL 12 71 = some (12, 4) := by decide +kernel
theorem fl_12_93 : amFL 12 93 = some (12, 2) := by decide +kernel
theorem fl_12_96 : amFL 12 96 = some (12, 6) := by decide +kernel
theorem fl_12_99 : amFL 12 99 = some (12, 7) := by decide +kernel
theorem fl_12_102 : amFL 12 102 = some (12, 8) := by decide +kernel
theorem fl_12_168 : amFL 12 168 = some (12, 11) := by decide +kernel
theorem fl_12_171 : amFL 12 171 = some (12, 12) := by decide +kernel
theorem fl_12_174 : amFL 12 174 = some (12, 13) := by decide +kernel
theorem fl_12_207 : amFL 12 207 = some (12, 15) := by decide +kernel
theorem fl_12_244 : amFL 12 244 = some (12, 19) := by decide +kernel
theorem fl_12_268 : amFL 12 268 = some (12, 20) := by decide +kernel
theorem fl_12_289 : amFL 12 289 = some (12, 21) := by decide +kernel
theorem fl_12_293 : amFL 12 293 = some (12, 23) := by decide +kernel
theorem fl_12_326 : amFL 12 326 = some (12, 29) := by decide +kernel
theorem ml_0_15 : amML 0 15 = some (83, 0) := by decide +kernel
theorem ml_0_28 : amML 0 28 = some (99, 0) := by decide +kernel
theorem ml_0_35 : amML 0 35 = some (105, 1) := by decide +kernel
theorem ml_0_39 : amML 0 39 = some (108, 0) := by decide +kernel
theorem ml_0_49 : amML 0 49 = some (68, 0) := by decide +kernel
theorem ml_0_53 : amML 0 53 = some (69, 0) := by decide +kernel
theorem ml_0_56 : amML 0 56 = some (106, 1) := by decide +kernel
theorem ml_0_60 : amML 0 60 = some (107, 0) := by decide +kernel
theorem ml_0_63 : amML 0 63 = some (86, 1) := by decide +kernel
theorem ml_0_69 : amML 0 69 = some (67, 0) := by decide +kernel
theorem ml_2_27 : amML 2 27 = some (2, 0) := by decide +kernel
theorem ml_2_38 : amML 2 38 = some (3, 1) := by decide +kernel
theorem ml_2_50 : amML 2 50 = some (5, 0) := by decide +kernel
theorem ml_2_60 : amML 2 60 = some (31, 0) := by decide +kernel
theorem ml_2_64 : amML 2 64 = some (32, 0) := by decide +kernel
theorem ml_2_67 : amML 2 67 = some (30, 0) := by decide +kernel
theorem ml_2_71 : amML 2 71 = some (33, 0) := by decide +kernel
theorem ml_2_74 : amML 2 74 = some (51, 0) := by decide +kernel
theorem ml_2_77 : amML 2 77 = some (67, 0) := by decide +kernel
theorem ml_2_84 : amML 2 84 = some (84, 0) := by decide +kernel
theorem ml_2_87 : amML 2 87 = some (52, 0) := by decide +kernel
theorem ml_2_90 : amML 2 90 = some (62, 0) := by decide +kernel
theorem ml_3_9 : amML 3 9 = some (9, 3) := by decide +kernel
theorem ml_3_19 : amML 3 19 = some (48, 0) := by decide +kernel
theorem ml_3_23 : amML 3 23 = some (49, 0) := by decide +kernel
theorem ml_3_26 : amML 3 26 = some (53, 0) := by decide +kernel
theorem ml_3_30 : amML 3 30 = some (80, 1) := by decide +kernel
theorem ml_3_38 : amML 3 38 = some (81, 1) := by decide +kernel
theorem ml_3_46 : amML 3 46 = some (54, 0) := by decide +kernel
theorem ml_4_11 : amML 4 11 = some (9, 3) := by decide +kernel
theorem ml_4_23 : amML 4 23 = some (48, 0) := by decide +kernel
theorem ml_4_27 : amML 4 27 = some (54, 0) := by decide +kernel
theorem ml_4_35 : amML 4 35 = some (100, 0) := by decide +kernel
theorem ml_4_39 : amML 4 39 = some (59, 0) := by decide +kernel
theorem ml_5_11 : amML 5 11 = some (14, 3) := by decide +kernel
theorem ml_5_28 : amML 5 28 = some (3, 1) := by decide +kernel
theorem ml_5_47 : amML 5 47 = some (121, 0) := by decide +kernel
theorem ml_5_59 : amML 5 59 = some (123, 0) := by decide +kernel
theorem ml_5_63 : amML 5 63 = some (124, 0) := by decide +kernel
theorem ml_5_69 : amML 5 69 = some (52, 0) := by decide +kernel
theorem ml_5_73 : amML 5 73 = some (33, 0) := by decide +kernel
theorem ml_5_82 : amML 5 82 = some (51, 0) := by decide +kernel
theorem ml_5_85 : amML 5 85 = some (125, 0) := by decide +kernel
theorem ml_7_17 : amML 7 17 = some (1, 2) := by decide +kernel
theorem ml_7_25 : amML 7 25 = some (21, 0) := by decide +kernel
theorem ml_7_29 : amML 7 29 = some (22, 0) := by decide +kernel
theorem ml_8_27 : amML 8 27 = some (91, 0) := by decide +kernel
theorem ml_8_31 : amML 8 31 = some (86, 1) := by decide +kernel
theorem ml_8_40 : amML 8 40 = some (92, 0) := by decide +kernel
theorem ml_8_44 : amML 8 44 = some (93, 0) := by decide +kernel
theorem ml_8_48 : amML 8 48 = some (94, 0) := by decide +kernel
theorem ml_8_55 : amML 8 55 = some (51, 0) := by decide +kernel
theorem ml_8_59 : amML 8 59 = some (95, 0) := by decide +kernel
theorem ml_8_63 : amML 8 63 = some (52, 0) := by decide +kernel
theorem ml_8_67 : amML 8 67 = some (33, 0) := by decide +kernel
theorem ml_9_48 : amML 9 48 = some (49, 0) := by decide +kernel
theorem ml_9_51 : amML 9 51 = some (50, 0) := by decide +kernel
theorem ml_9_55 : amML 9 55 = some (3, 1) := by decide +kernel
theorem ml_9_61 : amML 9 61 = some (51, 0) := by decide +kernel
theorem ml_9_65 : amML 9 65 = some (52, 0) := by decide +kernel
theorem ml_9_69 : amML 9 69 = some (33, 0) := by decide +kernel
theorem ml_9_72 : amML 9 72 = some (48, 0) := by decide +kernel
theorem ml_9_76 : amML 9 76 = some (53, 0) := by decide +kernel
theorem ml_9_80 : amML 9 80 = some (54, 0) := by decide +kernel
theorem ml_9_84 : amML 9 84 = some (59, 0) := by decide +kernel
theorem ml_9_97 : amML 9 97 = some (55, 0) := by decide +kernel
theorem ml_10_19 : amML 10 19 = some (25, 0) := by decide +kernel
theorem ml_10_23 : amML 10 23 = some (24, 0) := by decide +kernel
theorem ml_10_27 : amML 10 27 = some (26, 0) := by decide +kernel
theorem ml_10_30 : amML 10 30 = some (2, 0) := by decide +kernel
theorem ml_10_36 : amML 10 36 = some (27, 0) := by decide +kernel
theorem ml_10_46 : amML 10 46 = some (28, 0) := by decide +kernel
theorem ml_10_49 : amML 10 49 = some (29, 0) := by decide +kernel
theorem ml_10_53 : amML 10 53 = some (37, 0) := by decide +kernel
theorem ml_10_56 : amML 10 56 = some (145, 1) := by decide +kernel
theorem ml_10_59 : amML 10 59 = some (146, 0) := by decide +kernel
theorem ml_11_9 : amML 11 9 = some (1, 2) := by decide +kernel
theorem ml_11_29 : amML 11 29 = some (6, 2) := by decide +kernel
theorem ml_11_36 : amML 11 36 = some (7, 3) := by decide +kernel
theorem ml_11_43 : amML 11 43 = some (8, 3) := by decide +kernel
theorem ml_11_50 : amML 11 50 = some (9, 3) := by decide +kernel
theorem ml_11_57 : amML 11 57 = some (10, 3) := by decide +kernel
theorem ml_11_64 : amML 11 64 = some (11, 3) := by decide +kernel
theorem ml_11_71 : amML 11 71 = some (12, 3) := by decide +kernel
theorem ml_11_78 : amML 11 78 = some (13, 3) := by decide +kernel
theorem ml_11_85 : amML 11 85 = some (15, 3) := by decide +kernel
theorem ml_11_92 : amML 11 92 = some (14, 3) := by decide +kernel
theorem ml_11_101 : amML 11 101 = some (17, 0) := by decide +kernel
theorem ml_11_109 : amML 11 109 = some (20, 0) := by decide +kernel
theorem ml_11_113 : amML 11 113 = some (23, 0) := by decide +kernel
theorem ml_11_117 : amML 11 117 = some (22, 0) := by decide +kernel
theorem ml_11_120 : amML 11 120 = some (34, 0) := by decide +kernel
theorem ml_11_127 : amML 11 127 = some (36, 0) := by decide +kernel
theorem ml_11_140 : amML 11 140 = some (31, 0) := by decide +kernel
theorem ml_11_143 : amML 11 143 = some (39, 1) := by decide +kernel
theorem ml_11_147 : amML 11 147 = some (40, 0) := by decide +kernel
theorem ml_11_150 : amML 11 150 = some (42, 0) := by decide +kernel
theorem ml_11_153 : amML 11 153 = some (43, 0) := by decide +kernel
theorem ml_11_156 : amML 11 156 = some (29, 0) := by decide +kernel
theorem ml_11_160 : amML 11 160 = some (32, 0) := by decide +kernel
theorem ml_11_163 : amML 11 163 = some (41, 1) := by decide +kernel
theorem ml_11_166 : amML 11 166 = some (45, 0) := by decide +kernel
theorem ml_11_173 : amML 11 173 = some (5, 0) := by decide +kernel
theorem ml_11_186 : amML 11 186 = some (33, 0) := by decide +kernel
theorem ml_11_189 : amML 11 189 = some (51, 0) := by decide +kernel
theorem ml_11_192 : amML 11 192 = some (47, 0) := by decide +kernel
theorem ml_11_196 : amML 11 196 = some (55, 0) := by decide +kernel
theorem ml_11_199 : amML 11 199 = some (57, 0) := by decide +kernel
theorem ml_11_212 : amML 11 212 = some (58, 0) := by decide +kernel
theorem ml_11_219 : amML 11 219 = some (61, 0) := by decide +kernel
theorem ml_11_226 : amML 11 226 = some (62, 0) := by decide +kernel
theorem ml_11_230 : amML 11 230 = some (64, 0) := by decide +kernel
theorem ml_11_233 : amML 11 233 = some (52, 0) := by decide +kernel
theorem ml_11_244 : amML 11 244 = some (67, 0) := by decide +kernel
theorem ml_11_247 : amML 11 247 = some (68, 0) := by decide +kernel
theorem ml_11_251 : amML 11 251 = some (69, 0) := by decide +kernel
theorem ml_11_254 : amML 11 254 = some (71, 0) := by decide +kernel
theorem ml_11_257 : amML 11 257 = some (73, 0) := by decide +kernel
theorem ml_11_260 : amML 11 260 = some (75, 0) := by decide +kernel
theorem ml_11_263 : amML 11 263 = some (77, 0) := by decide +kernel
theorem ml_11_267 : amML 11 267 = some (78, 0) := by decide +kernel
theorem ml_11_270 : amML 11 270 = some (79, 0) := by decide +kernel
theorem ml_11_273 : amML 11 273 = some (83, 0) := by decide +kernel
theorem ml_11_276 : amML 11 276 = some (85, 0) := by decide +kernel
theorem ml_11_279 : amML 11 279 = some (86, 1) := by decide +kernel
theorem ml_11_284 : amML 11 284 = some (88, 0) := by decide +kernel
theorem ml_11_287 : amML 11 287 = some (90, 0) := by decide +kernel
theorem ml_11_299 : amML 11 299 = some (96, 0) := by decide +kernel
theorem ml_11_302 : amML 11 302 = some (98, 0) := by decide +kernel
theorem ml_11_306 : amML 11 306 = some (99, 0) := by decide +kernel
theorem ml_11_310 : amML 11 310 = some (102, 0) := by decide +kernel
theorem ml_11_313 : amML 11 313 = some (104, 0) := by decide +kernel
theorem ml_11_318 : amML 11 318 = some (109, 0) := by decide +kernel
theorem ml_11_328 : amML 11 328 = some (111, 0) := by decide +kernel
theorem ml_11_331 : amML 11 331 = some (107, 0) := by decide +kernel
theorem ml_11_334 : amML 11 334 = some (113, 0) := by decide +kernel
theorem ml_11_337 : amML 11 337 = some (115, 1) := by decide +kernel
theorem ml_11_341 : amML 11 341 = some (117, 0) := by decide +kernel
theorem ml_11_344 : amML 11 344 = some (103, 1) := by decide +kernel
theorem ml_11_347 : amML 11 347 = some (76, 0) := by decide +kernel
theorem ml_11_351 : amML 11 351 = some (119, 0) := by decide +kernel
theorem ml_11_354 : amML 11 354 = some (120, 0) := by decide +kernel
theorem ml_11_357 : amML 11 357 = some (122, 0) := by decide +kernel
theorem ml_11_369 : amML 11 369 = some (126, 0) := by decide +kernel
theorem ml_11_372 : amML 11 372 = some (129, 0) := by decide +kernel
theorem ml_11_375 : amML 11 375 = some (30, 0) := by decide +kernel
theorem ml_11_378 : amML 11 378 = some (134, 0) := by decide +kernel
theorem ml_11_381 : amML 11 381 = some (136, 1) := by decide +kernel
theorem ml_11_384 : amML 11 384 = some (138, 0) := by decide +kernel
theorem ml_11_387 : amML 11 387 = some (140, 0) := by decide +kernel
theorem ml_11_390 : amML 11 390 = some (142, 0) := by decide +kernel
theorem ml_11_393 : amML 11 393 = some (144, 0) := by decide +kernel
theorem ml_11_396 : amML 11 396 = some (147, 0) := by decide +kernel
theorem ml_11_399 : amML 11 399 = some (25, 0) := by decide +kernel
theorem ml_11_402 : amML 11 402 = some (145, 1) := by decide +kernel
theorem ml_11_405 : amML 11 405 = some (26, 0) := by decide +kernel
theorem ml_11_408 : amML 11 408 = some (149, 0) := by decide +kernel
theorem ml_11_414 : amML 11 414 = some (125, 0) := by decide +kernel
theorem ml_12_74 : amML 12 74 = some (160, 1) := by decide +kernel
theorem ml_12_78 : amML 12 78 = some (173, 0) := by decide +kernel
theorem ml_12_82 : amML 12 82 = some (172, 0) := by decide +kernel
theorem ml_12_86 : amML 12 86 = some (180, 0) := by decide +kernel
theorem ml_12_89 : amML 12 89 = some (184, 0) := by decide +kernel
theorem ml_12_105 : amML 12 105 = some (164, 0) := by decide +kernel
theorem ml_12_109 : amML 12 109 = some (165, 0) := by decide +kernel
theorem ml_12_112 : amML 12 112 = some (166, 0) := by decide +kernel
theorem ml_12_116 : amML 12 116 = some (162, 0) := by decide +kernel
theorem ml_12_119 : amML 12 119 = some (163, 0) := by decide +kernel
theorem ml_12_123 : amML 12 123 = some (167, 0) := by decide +kernel
theorem ml_12_126 : amML 12 126 = some (168, 0) := by decide +kernel
theorem ml_12_129 : amML 12 129 = some (175, 0) := by decide +kernel
theorem ml_12_133 : amML 12 133 = some (176, 1) := by decide +kernel
theorem ml_12_137 : amML 12 137 = some (177, 0) := by decide +kernel
theorem ml_12_143 : amML 12 143 = some (178, 0) := by decide +kernel
theorem ml_12_146 : amML 12 146 = some (182, 0) := by decide +kernel
theorem ml_12_149 : amML 12 149 = some (183, 0) := by decide +kernel
theorem ml_12_152 : amML 12 152 = some (188, 0) := by decide +kernel
theorem ml_12_156 : amML 12 156 = some (187, 0) := by decide +kernel
theorem ml_12_159 : amML 12 159 = some (186, 0) := by decide +kernel
theorem ml_12_162 : amML 12 162 = some (202, 0) := by decide +kernel
theorem ml_12_177 : amML 12 177 = some (190, 0) := by decide +kernel
theorem ml_12_180 : amML 12 180 = some (192, 0) := by decide +kernel
theorem ml_12_189 : amML 12 189 = some (195, 0) := by decide +kernel
theorem ml_12_195 : amML 12 195 = some (196, 0) := by decide +kernel
theorem ml_12_198 : amML 12 198 = some (197, 0) := by decide +kernel
theorem ml_12_201 : amML 12 201 = some (198, 0) := by decide +kernel
theorem ml_12_204 : amML 12 204 = some (208, 0) := by decide +kernel
theorem ml_12_210 : amML 12 210 = some (204, 0) := by decide +kernel
theorem ml_12_214 : amML 12 214 = some (207, 0) := by decide +kernel
theorem ml_12_217 : amML 12 217 = some (201, 0) := by decide +kernel
theorem ml_12_220 : amML 12 220 = some (203, 0) := by decide +kernel
theorem ml_12_223 : amML 12 223 = some (205, 0) := by decide +kernel
theorem ml_12_226 : amML 12 226 = some (206, 0) := by decide +kernel
theorem ml_12_229 : amML 12 229 = some (210, 0) := by decide +kernel
theorem ml_12_232 : amML 12 232 = some (211, 1) := by decide +kernel
theorem ml_12_235 : amML 12 235 = some (213, 0) := by decide +kernel
theorem ml_12_238 : amML 12 238 = some (218, 0) := by decide +kernel
theorem ml_12_241 : amML 12 241 = some (217, 0) := by decide +kernel
theorem ml_12_247 : amML 12 247 = some (216, 0) := by decide +kernel
theorem ml_12_250 : amML 12 250 = some (215, 0) := by decide +kernel
theorem ml_12_253 : amML 12 253 = some (220, 0) := by decide +kernel
theorem ml_12_256 : amML 12 256 = some (226, 0) := by decide +kernel
theorem ml_12_259 : amML 12 259 = some (227, 0) := by decide +kernel
theorem ml_12_262 : amML 12 262 = some (224, 0) := by decide +kernel
theorem ml_12_265 : amML 12 265 = some (225, 0) := by decide +kernel
theorem ml_12_271 : amML 12 271 = some (222, 0) := by decide +kernel
theorem ml_12_274 : amML 12 274 = some (223, 0) := by decide +kernel
theorem ml_12_277 : amML 12 277 = some (228, 0) := by decide +kernel
theorem ml_12_280 : amML 12 280 = some (231, 0) := by decide +kernel
theorem ml_12_286 : amML 12 286 = some (233, 0) := by decide +kernel
theorem ml_12_296 : amML 12 296 = some (237, 0) := by decide +kernel
theorem ml_12_299 : amML 12 299 = some (241, 0) := by decide +kernel
theorem ml_12_302 : amML 12 302 = some (239, 0) := by decide +kernel
theorem ml_12_305 : amML 12 305 = some (240, 0) := by decide +kernel
theorem ml_12_308 : amML 12 308 = some (236, 0) := by decide +kernel
theorem ml_12_311 : amML 12 311 = some (238, 0) := by decide +kernel
theorem ml_12_314 : amML 12 314 = some (242, 0) := by decide +kernel
theorem ml_12_317 : amML 12 317 = some (245, 0) := by decide +kernel
theorem ml_12_320 : amML 12 320 = some (247, 0) := by decide +kernel
theorem ml_12_323 : amML 12 323 = some (248, 0) := by decide +kernel
theorem ml_12_329 : amML 12 329 = some (169, 0) := by decide +kernel
theorem ml_12_332 : amML 12 332 = some (170, 0) := by decide +kernel
theorem ml_12_335 : amML 12 335 = some (252, 0) := by decide +kernel
theorem ml_12_342 : amML 12 342 = some (254, 1) := by decide +kernel
theorem ml_12_350 : amML 12 350 = some (256, 0) := by decide +kernel
theorem ml_12_353 : amML 12 353 = some (257, 0) := by decide +kernel
theorem ml_12_358 : amML 12 358 = some (259, 0) := by decide +kernel
theorem ml_12_361 : amML 12 361 = some (261, 0) := by decide +kernel
theorem ml_12_364 : amML 12 364 = some (262, 0) := by decide +kernel
theorem ml_12_367 : amML 12 367 = some (264, 0) := by decide +kernel
theorem ml_12_370 : amML 12 370 = some (265, 0) := by decide +kernel
theorem ml_12_373 : amML 12 373 = some (271, 0) := by decide +kernel
theorem ml_13_19 : amML 13 19 = some (0, 2) := by decide +kernel
theorem ml_13_22 : amML 13 22 = some (156, 2) := by decide +kernel
theorem ml_13_23 : amML 13 23 = some (16, 0) := by decide +kernel
theorem ml_13_27 : amML 13 27 = some (158, 0) := by decide +kernel
theorem ml_13_28 : amML 13 28 = some (18, 0) := by decide +kernel
theorem ml_13_32 : amML 13 32 = some (159, 0) := by decide +kernel
theorem ml_13_33 : amML 13 33 = some (19, 0) := by decide +kernel
theorem ml_13_37 : amML 13 37 = some (161, 0) := by decide +kernel
theorem ml_13_38 : amML 13 38 = some (35, 0) := by decide +kernel
theorem ml_13_41 : amML 13 41 = some (171, 0) := by decide +kernel
theorem ml_13_42 : amML 13 42 = some (38, 0) := by decide +kernel
theorem ml_13_46 : amML 13 46 = some (174, 0) := by decide +kernel
theorem ml_13_47 : amML 13 47 = some (44, 0) := by decide +kernel
theorem ml_13_51 : amML 13 51 = some (179, 0) := by decide +kernel
theorem ml_13_52 : amML 13 52 = some (274, 6) := by decide +kernel
theorem ml_13_57 : amML 13 57 = some (181, 0) := by decide +kernel
theorem ml_13_58 : amML 13 58 = some (157, 0) := by decide +kernel
theorem ml_13_61 : amML 13 61 = some (46, 0) := by decide +kernel
theorem ml_13_64 : amML 13 64 = some (185, 0) := by decide +kernel
theorem ml_13_65 : amML 13 65 = some (56, 0) := by decide +kernel
theorem ml_13_68 : amML 13 68 = some (189, 0) := by decide +kernel
theorem ml_13_69 : amML 13 69 = some (60, 0) := by decide +kernel
theorem ml_13_72 : amML 13 72 = some (191, 0) := by decide +kernel
theorem ml_13_73 : amML 13 73 = some (63, 0) := by decide +kernel
theorem ml_13_76 : amML 13 76 = some (193, 0) := by decide +kernel
theorem ml_13_77 : amML 13 77 = some (66, 0) := by decide +kernel
theorem ml_13_80 : amML 13 80 = some (194, 0) := by decide +kernel
theorem ml_13_81 : amML 13 81 = some (72, 0) := by decide +kernel
theorem ml_13_84 : amML 13 84 = some (199, 0) := by decide +kernel
theorem ml_13_85 : amML 13 85 = some (74, 0) := by decide +kernel
theorem ml_13_88 : amML 13 88 = some (200, 0) := by decide +kernel
theorem ml_13_89 : amML 13 89 = some (82, 0) := by decide +kernel
theorem ml_13_92 : amML 13 92 = some (209, 0) := by decide +kernel
theorem ml_13_93 : amML 13 93 = some (87, 0) := by decide +kernel
theorem ml_13_96 : amML 13 96 = some (212, 0) := by decide +kernel
theorem ml_13_97 : amML 13 97 = some (89, 0) := by decide +kernel
theorem ml_13_100 : amML 13 100 = some (214, 0) := by decide +kernel
theorem ml_13_101 : amML 13 101 = some (97, 0) := by decide +kernel
theorem ml_13_104 : amML 13 104 = some (219, 0) := by decide +kernel
theorem ml_13_105 : amML 13 105 = some (101, 0) := by decide +kernel
theorem ml_13_108 : amML 13 108 = some (221, 0) := by decide +kernel
theorem ml_13_109 : amML 13 109 = some (110, 0) := by decide +kernel
theorem ml_13_112 : amML 13 112 = some (229, 0) := by decide +kernel
theorem ml_13_113 : amML 13 113 = some (112, 0) := by decide +kernel
theorem ml_13_116 : amML 13 116 = some (230, 0) := by decide +kernel
theorem ml_13_117 : amML 13 117 = some (114, 0) := by decide +kernel
theorem ml_13_120 : amML 13 120 = some (232, 0) := by decide +kernel
theorem ml_13_121 : amML 13 121 = some (116, 0) := by decide +kernel
theorem ml_13_124 : amML 13 124 = some (234, 0) := by decide +kernel
theorem ml_13_125 : amML 13 125 = some (118, 0) := by decide +kernel
theorem ml_13_129 : amML 13 129 = some (235, 0) := by decide +kernel
theorem ml_13_130 : amML 13 130 = some (127, 0) := by decide +kernel
theorem ml_13_133 : amML 13 133 = some (243, 0) := by decide +kernel
theorem ml_13_134 : amML 13 134 = some (128, 0) := by decide +kernel
theorem ml_13_137 : amML 13 137 = some (244, 0) := by decide +kernel
theorem ml_13_138 : amML 13 138 = some (130, 0) := by decide +kernel
theorem ml_13_141 : amML 13 141 = some (246, 0) := by decide +kernel
theorem ml_13_142 : amML 13 142 = some (131, 0) := by decide +kernel
theorem ml_13_145 : amML 13 145 = some (249, 0) := by decide +kernel
theorem ml_13_146 : amML 13 146 = some (132, 0) := by decide +kernel
theorem ml_13_149 : amML 13 149 = some (250, 0) := by decide +kernel
theorem ml_13_150 : amML 13 150 = some (133, 0) := by decide +kernel
theorem ml_13_153 : amML 13 153 = some (251, 0) := by decide +kernel
theorem ml_13_154 : amML 13 154 = some (135, 0) := by decide +kernel
theorem ml_13_157 : amML 13 157 = some (253, 0) := by decide +kernel
theorem ml_13_158 : amML 13 158 = some (137, 0) := by decide +kernel
theorem ml_13_161 : amML 13 161 = some (255, 0) := by decide +kernel
theorem ml_13_162 : amML 13 162 = some (139, 0) := by decide +kernel
theorem ml_13_165 : amML 13 165 = some (258, 0) := by decide +kernel
theorem ml_13_166 : amML 13 166 = some (141, 0) := by decide +kernel
theorem ml_13_169 : amML 13 169 = some (260, 0) := by decide +kernel
theorem ml_13_170 : amML 13 170 = some (143, 0) := by decide +kernel
theorem ml_13_173 : amML 13 173 = some (263, 0) := by decide +kernel
theorem ml_13_174 : amML 13 174 = some (148, 0) := by decide +kernel
theorem ml_13_177 : amML 13 177 = some (266, 0) := by decide +kernel
theorem ml_13_178 : amML 13 178 = some (150, 0) := by decide +kernel
theorem ml_13_181 : amML 13 181 = some (267, 0) := by decide +kernel
theorem ml_13_182 : amML 13 182 = some (151, 0) := by decide +kernel
theorem ml_13_185 : amML 13 185 = some (268, 0) := by decide +kernel
theorem ml_13_186 : amML 13 186 = some (152, 0) := by decide +kernel
theorem ml_13_189 : amML 13 189 = some (269, 0) := by decide +kernel
theorem ml_13_190 : amML 13 190 = some (153, 0) := by decide +kernel
theorem ml_13_193 : amML 13 193 = some (270, 0) := by decide +kernel
theorem ml_13_194 : amML 13 194 = some (275, 6) := by decide +kernel
theorem ml_13_197 : amML 13 197 = some (272, 0) := by decide +kernel
