/-! the static tables of this system, printed by wip/whole/gen.py -/
def amNm : List String := ["SoundAdvice$Choice", "SoundAdvice$Dice", "SoundAdvice$Game", "SoundAdvice$Halves", "SoundAdvice$Lister", "SoundAdvice$Match", "SoundAdvice$Numbers", "SoundAdvice$Past", "SoundAdvice$Sieve", "SoundAdvice$Tally", "SoundAdvice$Text", "SoundAdvice", "SoundAdviceModel", "SoundAdviceLaw", "java/util/Arrays", "java/lang/Math", "java/lang/Integer"]
def amFs : List (String × List (String × String × Bool)) := [("SoundAdvice$Choice", [("token", "[I", true), ("number", "I", false), ("worth", "I", false)]), ("SoundAdvice$Dice", [("state", "I", false)]), ("SoundAdvice$Game", [("acts", "[I", true), ("stride", "[I", true), ("does", "[I", true), ("pay", "[I", true), ("token", "[I", true), ("players", "I", false), ("profiles", "I", false)]), ("SoundAdvice$Halves", [("whole", "LSoundAdvice$Tally;", true), ("lean", "LSoundAdvice$Tally;", true)]), ("SoundAdvice$Lister", [("tally", "LSoundAdvice$Tally;", true), ("token", "[I", true), ("fresh", "Z", false), ("stepFrom", "I", false)]), ("SoundAdvice$Match", [("dice", "LSoundAdvice$Dice;", true), ("regret", "[I", true), ("times", "[I", true), ("order", "[I", true), ("unlike", "I", false), ("rule", "I", false), ("at", "I", false)]), ("SoundAdvice$Numbers", [("number", "[J", true), ("size", "I", false)]), ("SoundAdvice$Past", [("ring", "[LSoundAdvice$Game;", true), ("first", "I", false), ("size", "I", false)]), ("SoundAdvice$Sieve", [("stays", "[I", true), ("out", "[I", true), ("outs", "I", false)]), ("SoundAdvice$Tally", [("token", "[I", true), ("gains", "[I", true), ("lure", "[I", true), ("place", "[I", true), ("lastShare", "[I", true), ("acts", "[I", true), ("players", "I", false), ("profiles", "I", false), ("topPlayer", "I", false), ("topTold", "I", false), ("topDone", "I", false)]), ("SoundAdvice$Text", [("signs", "[I", true), ("length", "I", false)]), ("SoundAdvice", [("now", "LSoundAdvice$Game;", true), ("draft", "LSoundAdvice$Game;", true), ("shelf", "[LSoundAdvice$Game;", true), ("shelved", "[Z", true), ("past", "LSoundAdvice$Past;", true), ("text", "LSoundAdvice$Text;", true), ("told", "LSoundAdvice$Numbers;", true), ("scale", "LSoundAdvice$Tally;", true), ("lister", "LSoundAdvice$Lister;", true), ("choice", "LSoundAdvice$Choice;", true), ("halves", "LSoundAdvice$Halves;", true), ("match", "LSoundAdvice$Match;", true), ("sieve", "LSoundAdvice$Sieve;", true), ("dice", "LSoundAdvice$Dice;", true), ("marked", "[I", true)]), ("SoundAdviceModel", [("now", "[I", true), ("text", "[B", true), ("typed", "I", false), ("row", "[J", true), ("rowMany", "I", false), ("thrown", "I", false), ("length", "I", false), ("at", "I", false), ("wrong", "I", false), ("read", "[I", true), ("asked", "[I", true), ("gainer", "I", false), ("gainTold", "I", false), ("gainDone", "I", false), ("list", "[I", true), ("listMany", "I", false), ("mid", "[I", true), ("left", "[I", true), ("taken", "[I", true), ("takenMany", "I", false), ("bestWorth", "I", false), ("drawn", "I", false), ("regrets", "[I", true), ("played", "I", false), ("cameFirst", "[I", true), ("often", "[I", true), ("isCalm", "[Z", true), ("undos", "[I", true), ("was", "[I", true), ("undoMany", "I", false), ("aside", "[I", true), ("kept", "[I", true), ("isKept", "[Z", true)])]
/-- where a reference field points -/
def amTg : Nat → Nat → Nat → Nat × Nat := fun c k i => match c, k with
  | 0, 0 => (105, 0)
  | 2, 0 => (100, i)
  | 2, 1 => (101, i)
  | 2, 2 => (102, i)
  | 2, 3 => (103, i)
  | 2, 4 => (104, i)
  | 3, 0 => (9, 2)
  | 3, 1 => (9, 3)
  | 4, 0 => (9, 1)
  | 4, 1 => (113, 1)
  | 5, 0 => (1, 1)
  | 5, 1 => (106, 0)
  | 5, 2 => (107, 0)
  | 5, 3 => (108, 0)
  | 6, 0 => (109, 0)
  | 7, 0 => (110, 0)
  | 8, 0 => (111, 0)
  | 8, 1 => (112, 0)
  | 9, 0 => (113, i)
  | 9, 1 => (114, i)
  | 9, 2 => (115, i)
  | 9, 3 => (116, i)
  | 9, 4 => (117, i)
  | 9, 5 => (118, i)
  | 10, 0 => (119, 0)
  | 11, 0 => (2, 0)
  | 11, 1 => (2, 1)
  | 11, 2 => (120, 0)
  | 11, 3 => (121, 0)
  | 11, 4 => (7, 0)
  | 11, 5 => (10, 0)
  | 11, 6 => (6, 0)
  | 11, 7 => (9, 0)
  | 11, 8 => (4, 0)
  | 11, 9 => (0, 0)
  | 11, 10 => (3, 0)
  | 11, 11 => (5, 0)
  | 11, 12 => (8, 0)
  | 11, 13 => (1, 0)
  | 11, 14 => (122, 0)
  | 12, 0 => (130, 0)
  | 12, 1 => (131, 0)
  | 12, 3 => (132, 0)
  | 12, 9 => (133, 0)
  | 12, 10 => (134, 0)
  | 12, 14 => (135, 0)
  | 12, 16 => (136, 0)
  | 12, 17 => (137, 0)
  | 12, 18 => (138, 0)
  | 12, 22 => (139, 0)
  | 12, 24 => (140, 0)
  | 12, 25 => (141, 0)
  | 12, 26 => (142, 0)
  | 12, 27 => (143, 0)
  | 12, 28 => (144, 0)
  | 12, 30 => (145, 0)
  | 12, 31 => (146, 0)
  | 12, 32 => (147, 0)
  | _, _ => (0, 0)
/-- where a place of an array of references points -/
def amEt : Nat → Nat → Nat × Nat := fun c j => match c with
  | 110 => (2, 4 + j)
  | _ => (2, 2 + j)
/-- what an array holds: 0 ints, 1 bytes, 2 booleans, 3 longs, 4 Games -/
def amTn : Nat → Nat := fun c => match c with
  | 109 => 3
  | 110 => 4
  | 120 => 4
  | 121 => 2
  | 131 => 1
  | 132 => 3
  | 142 => 2
  | 147 => 2
  | 150 => 3
  | _ => 0
/-- what a field holds: 0 an int, 1 a boolean, 2 a reference -/
def amKd : Nat → Nat → Nat := fun c k => match c, k with
  | 0, 0 => 2
  | 2, 0 => 2
  | 2, 1 => 2
  | 2, 2 => 2
  | 2, 3 => 2
  | 2, 4 => 2
  | 3, 0 => 2
  | 3, 1 => 2
  | 4, 0 => 2
  | 4, 1 => 2
  | 5, 0 => 2
  | 5, 1 => 2
  | 5, 2 => 2
  | 5, 3 => 2
  | 6, 0 => 2
  | 7, 0 => 2
  | 8, 0 => 2
  | 8, 1 => 2
  | 9, 0 => 2
  | 9, 1 => 2
  | 9, 2 => 2
  | 9, 3 => 2
  | 9, 4 => 2
  | 9, 5 => 2
  | 10, 0 => 2
  | 11, 0 => 2
  | 11, 1 => 2
  | 11, 2 => 2
  | 11, 3 => 2
  | 11, 4 => 2
  | 11, 5 => 2
  | 11, 6 => 2
  | 11, 7 => 2
  | 11, 8 => 2
  | 11, 9 => 2
  | 11, 10 => 2
  | 11, 11 => 2
  | 11, 12 => 2
  | 11, 13 => 2
  | 11, 14 => 2
  | 12, 0 => 2
  | 12, 1 => 2
  | 12, 3 => 2
  | 12, 9 => 2
  | 12, 10 => 2
  | 12, 14 => 2
  | 12, 16 => 2
  | 12, 17 => 2
  | 12, 18 => 2
  | 12, 22 => 2
  | 12, 24 => 2
  | 12, 25 => 2
  | 12, 26 => 2
  | 12, 27 => 2
  | 12, 28 => 2
  | 12, 30 => 2
  | 12, 31 => 2
  | 12, 32 => 2
  | 4, 2 => 1
  | _, _ => 0
def amLen : Nat → Nat := fun c => match c with
  | 100 => 3
  | 101 => 3
  | 102 => 27
  | 103 => 27
  | 104 => 9
  | 105 => 9
  | 106 => 9
  | 107 => 9
  | 108 => 9
  | 109 => 32
  | 110 => 9
  | 111 => 3
  | 112 => 9
  | 113 => 9
  | 114 => 27
  | 115 => 81
  | 116 => 27
  | 117 => 27
  | 118 => 3
  | 119 => 80
  | 120 => 2
  | 121 => 2
  | 122 => 9
  | 130 => 40
  | 131 => 80
  | 132 => 64
  | 133 => 320
  | 134 => 9
  | 135 => 27027
  | 136 => 9
  | 137 => 3
  | 138 => 9
  | 139 => 9
  | 140 => 9
  | 141 => 9
  | 142 => 61
  | 143 => 320
  | 144 => 40
  | 145 => 40
  | 146 => 80
  | 147 => 2
  | 150 => 1
  | _ => 0
def amOrc : List (Nat × Nat) := [(11, 0), (2, 0), (100, 0), (101, 0), (102, 0), (103, 0), (104, 0), (2, 1), (100, 1), (101, 1), (102, 1), (103, 1), (104, 1), (120, 0), (121, 0), (7, 0), (110, 0), (2, 4), (100, 4), (101, 4), (102, 4), (103, 4), (104, 4), (2, 5), (100, 5), (101, 5), (102, 5), (103, 5), (104, 5), (2, 6), (100, 6), (101, 6), (102, 6), (103, 6), (104, 6), (2, 7), (100, 7), (101, 7), (102, 7), (103, 7), (104, 7), (2, 8), (100, 8), (101, 8), (102, 8), (103, 8), (104, 8), (2, 9), (100, 9), (101, 9), (102, 9), (103, 9), (104, 9), (2, 10), (100, 10), (101, 10), (102, 10), (103, 10), (104, 10), (2, 11), (100, 11), (101, 11), (102, 11), (103, 11), (104, 11), (2, 12), (100, 12), (101, 12), (102, 12), (103, 12), (104, 12), (10, 0), (119, 0), (6, 0), (109, 0), (9, 0), (113, 0), (114, 0), (115, 0), (116, 0), (117, 0), (118, 0), (4, 0), (9, 1), (113, 1), (114, 1), (115, 1), (116, 1), (117, 1), (118, 1), (0, 0), (105, 0), (3, 0), (9, 2), (113, 2), (114, 2), (115, 2), (116, 2), (117, 2), (118, 2), (9, 3), (113, 3), (114, 3), (115, 3), (116, 3), (117, 3), (118, 3), (5, 0), (1, 1), (106, 0), (107, 0), (108, 0), (8, 0), (111, 0), (112, 0), (1, 0), (122, 0), (2, 2), (100, 2), (101, 2), (102, 2), (103, 2), (104, 2), (2, 3), (100, 3), (101, 3), (102, 3), (103, 3), (104, 3), (12, 0), (130, 0), (131, 0), (132, 0), (133, 0), (134, 0), (135, 0), (136, 0), (137, 0), (138, 0), (139, 0), (140, 0), (141, 0), (142, 0), (143, 0), (144, 0), (145, 0), (146, 0), (147, 0), (150, 0)]
def amSz : List Nat := [15, 7, 3, 3, 27, 27, 9, 7, 3, 3, 27, 27, 9, 2, 2, 3, 9, 7, 3, 3, 27, 27, 9, 7, 3, 3, 27, 27, 9, 7, 3, 3, 27, 27, 9, 7, 3, 3, 27, 27, 9, 7, 3, 3, 27, 27, 9, 7, 3, 3, 27, 27, 9, 7, 3, 3, 27, 27, 9, 7, 3, 3, 27, 27, 9, 7, 3, 3, 27, 27, 9, 2, 80, 2, 32, 11, 9, 27, 81, 27, 27, 3, 4, 11, 9, 27, 81, 27, 27, 3, 3, 9, 2, 11, 9, 27, 81, 27, 27, 3, 11, 9, 27, 81, 27, 27, 3, 7, 1, 9, 9, 9, 3, 3, 9, 1, 9, 7, 3, 3, 27, 27, 9, 7, 3, 3, 27, 27, 9, 33, 40, 80, 64, 320, 9, 27027, 9, 3, 9, 9, 9, 9, 61, 320, 40, 40, 80, 2, 1]
def amOrf : List (Nat × Nat × Nat) := [(1100, 0, 0), (1101, 0, 0), (1102, 0, 0), (1103, 0, 0), (1104, 0, 0), (1550, 0, 0), (1100, 1, 0), (1101, 1, 0), (1102, 1, 0), (1103, 1, 0), (1104, 1, 0), (1551, 0, 0), (1552, 0, 0), (1553, 0, 0), (1350, 0, 0), (1100, 4, 0), (1101, 4, 0), (1102, 4, 0), (1103, 4, 0), (1104, 4, 0), (110, 0, 0), (1100, 5, 0), (1101, 5, 0), (1102, 5, 0), (1103, 5, 0), (1104, 5, 0), (110, 0, 1), (1100, 6, 0), (1101, 6, 0), (1102, 6, 0), (1103, 6, 0), (1104, 6, 0), (110, 0, 2), (1100, 7, 0), (1101, 7, 0), (1102, 7, 0), (1103, 7, 0), (1104, 7, 0), (110, 0, 3), (1100, 8, 0), (1101, 8, 0), (1102, 8, 0), (1103, 8, 0), (1104, 8, 0), (110, 0, 4), (1100, 9, 0), (1101, 9, 0), (1102, 9, 0), (1103, 9, 0), (1104, 9, 0), (110, 0, 5), (1100, 10, 0), (1101, 10, 0), (1102, 10, 0), (1103, 10, 0), (1104, 10, 0), (110, 0, 6), (1100, 11, 0), (1101, 11, 0), (1102, 11, 0), (1103, 11, 0), (1104, 11, 0), (110, 0, 7), (1100, 12, 0), (1101, 12, 0), (1102, 12, 0), (1103, 12, 0), (1104, 12, 0), (110, 0, 8), (1554, 0, 0), (1500, 0, 0), (1555, 0, 0), (1300, 0, 0), (1556, 0, 0), (1450, 0, 0), (1451, 0, 0), (1452, 0, 0), (1453, 0, 0), (1454, 0, 0), (1455, 0, 0), (1557, 0, 0), (1450, 1, 0), (1451, 1, 0), (1452, 1, 0), (1453, 1, 0), (1454, 1, 0), (1455, 1, 0), (1200, 0, 0), (1201, 0, 0), (1558, 0, 0), (1000, 0, 0), (1559, 0, 0), (1450, 2, 0), (1451, 2, 0), (1452, 2, 0), (1453, 2, 0), (1454, 2, 0), (1455, 2, 0), (1150, 0, 0), (1450, 3, 0), (1451, 3, 0), (1452, 3, 0), (1453, 3, 0), (1454, 3, 0), (1455, 3, 0), (1151, 0, 0), (1560, 0, 0), (1250, 0, 0), (1251, 0, 0), (1252, 0, 0), (1253, 0, 0), (1561, 0, 0), (1400, 0, 0), (1401, 0, 0), (1562, 0, 0), (1563, 0, 0), (1564, 0, 0), (1100, 2, 0), (1101, 2, 0), (1102, 2, 0), (1103, 2, 0), (1104, 2, 0), (120, 0, 0), (1100, 3, 0), (1101, 3, 0), (1102, 3, 0), (1103, 3, 0), (1104, 3, 0), (120, 0, 1), (1600, 0, 0), (1601, 0, 0), (1603, 0, 0), (1609, 0, 0), (1610, 0, 0), (1614, 0, 0), (1616, 0, 0), (1617, 0, 0), (1618, 0, 0), (1622, 0, 0), (1624, 0, 0), (1625, 0, 0), (1626, 0, 0), (1627, 0, 0), (1628, 0, 0), (1630, 0, 0), (1631, 0, 0), (1632, 0, 0)]
/-- a method: its name, bytes, locals, what it returns, its class, its parameters -/
def amMi0 : List (MethodName × ByteArray × Nat × Option FieldType × Nat × Nat) := [(⟨"SoundAdvice", "<init>", "()V"⟩, prog_1_method_1_code, 2, none, 11, 0),
  (⟨"SoundAdvice$Game", "<init>", "()V"⟩, prog_4_method_1_code, 1, none, 2, 0),
  (⟨"SoundAdvice$Game", "shape", "(III)V"⟩, prog_4_method_2_code, 8, none, 2, 3),
  (⟨"java/util/Arrays", "fill", "([II)V"⟩, prog_23_method_103_code, 4, none, 14, 2),
  (⟨"java/lang/Math", "max", "(II)I"⟩, prog_18_method_65_code, 2, (some .int), 15, 2),
  (⟨"SoundAdvice$Game", "profileOf", "(III)I"⟩, prog_4_method_8_code, 4, (some .int), 2, 3),
  (⟨"SoundAdvice$Past", "<init>", "()V"⟩, prog_9_method_1_code, 2, none, 7, 0),
  (⟨"SoundAdvice$Text", "<init>", "()V"⟩, prog_12_method_1_code, 1, none, 10, 0),
  (⟨"SoundAdvice$Numbers", "<init>", "()V"⟩, prog_8_method_1_code, 1, none, 6, 0),
  (⟨"SoundAdvice$Tally", "<init>", "()V"⟩, prog_11_method_1_code, 1, none, 9, 0),
  (⟨"SoundAdvice$Lister", "<init>", "()V"⟩, prog_6_method_1_code, 1, none, 4, 0),
  (⟨"SoundAdvice$Choice", "<init>", "()V"⟩, prog_2_method_1_code, 1, none, 0, 0),
  (⟨"SoundAdvice$Halves", "<init>", "()V"⟩, prog_5_method_1_code, 1, none, 3, 0),
  (⟨"SoundAdvice$Match", "<init>", "()V"⟩, prog_7_method_1_code, 1, none, 5, 0),
  (⟨"SoundAdvice$Dice", "<init>", "()V"⟩, prog_3_method_1_code, 1, none, 1, 0),
  (⟨"SoundAdvice$Sieve", "<init>", "()V"⟩, prog_10_method_1_code, 1, none, 8, 0),
  (⟨"SoundAdvice", "sign", "(I)I"⟩, prog_1_method_2_code, 2, (some .int), 11, 1),
  (⟨"SoundAdvice$Text", "add", "(I)Z"⟩, prog_12_method_2_code, 3, (some .boolean), 10, 1),
  (⟨"SoundAdvice", "end", "(I)Z"⟩, prog_1_method_3_code, 2, (some .boolean), 11, 1),
  (⟨"SoundAdvice", "game", "()I"⟩, prog_1_method_4_code, 2, (some .int), 11, 0),
  (⟨"SoundAdvice$Past", "mark", "(LSoundAdvice$Game;)V"⟩, prog_9_method_3_code, 2, none, 7, 1),
  (⟨"SoundAdvice$Past", "slot", "(I)LSoundAdvice$Game;"⟩, prog_9_method_2_code, 3, (some (.object "SoundAdvice$Game")), 7, 1),
  (⟨"SoundAdvice$Game", "copy", "(LSoundAdvice$Game;)V"⟩, prog_4_method_3_code, 2, none, 2, 1),
  (⟨"SoundAdvice$Text", "readGame", "(LSoundAdvice$Game;)I"⟩, prog_12_method_8_code, 4, (some .int), 10, 1),
  (⟨"SoundAdvice$Text", "isActions", "(I)Z"⟩, prog_12_method_7_code, 2, (some .boolean), 10, 1),
  (⟨"SoundAdvice$Text", "at", "(I)I"⟩, prog_12_method_3_code, 2, (some .int), 10, 1),
  (⟨"SoundAdvice$Text", "digit", "(I)I"⟩, prog_12_method_4_code, 2, (some .int), 10, 1),
  (⟨"SoundAdvice$Text", "readPays", "(LSoundAdvice$Game;I)I"⟩, prog_12_method_9_code, 6, (some .int), 10, 2),
  (⟨"SoundAdvice$Text", "isLetter", "(I)Z"⟩, prog_12_method_6_code, 2, (some .boolean), 10, 1),
  (⟨"SoundAdvice$Game", "setPay", "(III)Z"⟩, prog_4_method_12_code, 4, (some .boolean), 2, 3),
  (⟨"SoundAdvice$Game", "hasPay", "(II)Z"⟩, prog_4_method_7_code, 3, (some .boolean), 2, 2),
  (⟨"SoundAdvice$Game", "hasPlayer", "(I)Z"⟩, prog_4_method_4_code, 2, (some .boolean), 2, 1),
  (⟨"SoundAdvice$Game", "hasProfile", "(I)Z"⟩, prog_4_method_6_code, 2, (some .boolean), 2, 1),
  (⟨"SoundAdvice$Game", "payOf", "(II)I"⟩, prog_4_method_11_code, 3, (some .int), 2, 2),
  (⟨"SoundAdvice$Past", "settle", "(I)I"⟩, prog_9_method_4_code, 2, (some .int), 7, 1),
  (⟨"SoundAdvice", "advice", "()I"⟩, prog_1_method_5_code, 2, (some .int), 11, 0),
  (⟨"SoundAdvice$Text", "readAdvice", "(I[I)I"⟩, prog_12_method_10_code, 5, (some .int), 10, 2),
  (⟨"SoundAdvice$Text", "isDigit", "(I)Z"⟩, prog_12_method_5_code, 2, (some .boolean), 10, 1),
  (⟨"SoundAdvice", "sheet", "(IIIIII)I"⟩, prog_1_method_6_code, 9, (some .int), 11, 6),
  (⟨"SoundAdvice", "entry", "(II)I"⟩, prog_1_method_7_code, 2, (some .int), 11, 2),
  (⟨"SoundAdvice", "entryFault", "(II)I"⟩, prog_1_method_8_code, 3, (some .int), 11, 2),
  (⟨"SoundAdvice", "isPay", "(I)Z"⟩, prog_1_method_61_code, 1, (some .boolean), 11, 1),
  (⟨"SoundAdvice$Numbers", "clear", "()V"⟩, prog_8_method_2_code, 1, none, 6, 0),
  (⟨"SoundAdvice$Numbers", "add", "(J)V"⟩, prog_8_method_3_code, 3, none, 6, 1),
  (⟨"SoundAdvice", "profile", "(III)I"⟩, prog_1_method_9_code, 4, (some .int), 11, 3),
  (⟨"SoundAdvice$Game", "hasAction", "(II)Z"⟩, prog_4_method_5_code, 3, (some .boolean), 2, 2),
  (⟨"SoundAdvice", "gain", "(III)I"⟩, prog_1_method_11_code, 4, (some .int), 11, 3),
  (⟨"SoundAdvice$Tally", "weigh", "(LSoundAdvice$Game;[I)V"⟩, prog_11_method_5_code, 3, none, 9, 2),
  (⟨"SoundAdvice$Tally", "read", "(LSoundAdvice$Game;)V"⟩, prog_11_method_2_code, 4, none, 9, 1),
  (⟨"SoundAdvice$Tally", "clear", "()V"⟩, prog_11_method_3_code, 1, none, 9, 0),
  (⟨"SoundAdvice$Tally", "readLures", "(LSoundAdvice$Game;II)V"⟩, prog_11_method_4_code, 7, none, 9, 3),
  (⟨"SoundAdvice$Game", "doing", "(II)I"⟩, prog_4_method_9_code, 3, (some .int), 2, 2),
  (⟨"SoundAdvice$Game", "instead", "(III)I"⟩, prog_4_method_10_code, 4, (some .int), 2, 3),
  (⟨"SoundAdvice$Tally", "putAll", "([I)V"⟩, prog_11_method_6_code, 3, none, 9, 1),
  (⟨"SoundAdvice$Tally", "put", "(II)V"⟩, prog_11_method_7_code, 7, none, 9, 2),
  (⟨"SoundAdvice$Tally", "gainOf", "(III)I"⟩, prog_11_method_8_code, 4, (some .int), 9, 3),
  (⟨"SoundAdvice", "sound", "()I"⟩, prog_1_method_12_code, 1, (some .int), 11, 0),
  (⟨"SoundAdvice$Tally", "findGreatest", "()I"⟩, prog_11_method_11_code, 4, (some .int), 9, 0),
  (⟨"SoundAdvice$Tally", "isSound", "()Z"⟩, prog_11_method_9_code, 1, (some .boolean), 9, 0),
  (⟨"SoundAdvice$Tally", "settledBy", "()I"⟩, prog_11_method_10_code, 2, (some .int), 9, 0),
  (⟨"SoundAdvice", "tight", "()I"⟩, prog_1_method_13_code, 3, (some .int), 11, 0),
  (⟨"SoundAdvice", "tellTight", "(II)V"⟩, prog_1_method_14_code, 4, none, 11, 2),
  (⟨"SoundAdvice$Game", "tokensDoing", "(II[I)I"⟩, prog_4_method_14_code, 6, (some .int), 2, 3),
  (⟨"SoundAdvice", "hangs", "(I)I"⟩, prog_1_method_15_code, 8, (some .int), 11, 1),
  (⟨"SoundAdvice", "hangsThere", "(III)I"⟩, prog_1_method_16_code, 7, (some .int), 11, 3),
  (⟨"java/lang/Math", "abs", "(I)I"⟩, prog_18_method_59_code, 1, (some .int), 15, 1),
  (⟨"SoundAdvice", "values", "()I"⟩, prog_1_method_17_code, 2, (some .int), 11, 0),
  (⟨"SoundAdvice$Game", "valueOf", "(I[I)I"⟩, prog_4_method_17_code, 5, (some .int), 2, 2),
  (⟨"SoundAdvice$Game", "welfareOf", "([I)I"⟩, prog_4_method_18_code, 4, (some .int), 2, 1),
  (⟨"SoundAdvice$Game", "floorOf", "([I)I"⟩, prog_4_method_19_code, 4, (some .int), 2, 1)]
def amMi1 : List (MethodName × ByteArray × Nat × Option FieldType × Nat × Nat) := [(⟨"java/lang/Math", "min", "(II)I"⟩, prog_18_method_69_code, 2, (some .int), 15, 2),
  (⟨"SoundAdvice$Game", "tokens", "()I"⟩, prog_4_method_13_code, 3, (some .int), 2, 0),
  (⟨"SoundAdvice", "map", "(I)I"⟩, prog_1_method_18_code, 6, (some .int), 11, 1),
  (⟨"SoundAdvice$Tally", "bestInstead", "(II)I"⟩, prog_11_method_12_code, 5, (some .int), 9, 2),
  (⟨"SoundAdvice", "corner", "()I"⟩, prog_1_method_19_code, 1, (some .int), 11, 0),
  (⟨"SoundAdvice", "isListed", "()Z"⟩, prog_1_method_31_code, 1, (some .boolean), 11, 0),
  (⟨"SoundAdvice", "isSoundNow", "(LSoundAdvice$Game;)Z"⟩, prog_1_method_59_code, 2, (some .boolean), 11, 1),
  (⟨"SoundAdvice$Game", "isApart", "([I)Z"⟩, prog_4_method_24_code, 7, (some .boolean), 2, 1),
  (⟨"SoundAdvice$Halves", "read", "(LSoundAdvice$Game;)V"⟩, prog_5_method_2_code, 2, none, 3, 1),
  (⟨"SoundAdvice$Halves", "isCorner", "([I)Z"⟩, prog_5_method_3_code, 2, (some .boolean), 3, 1),
  (⟨"SoundAdvice$Halves", "leans", "(LSoundAdvice$Tally;LSoundAdvice$Tally;IIZ)Z"⟩, prog_5_method_4_code, 8, (some .boolean), 3, 5),
  (⟨"SoundAdvice$Halves", "isWithin", "(LSoundAdvice$Tally;LSoundAdvice$Tally;)Z"⟩, prog_5_method_5_code, 3, (some .boolean), 3, 2),
  (⟨"SoundAdvice", "plans", "()I"⟩, prog_1_method_20_code, 3, (some .int), 11, 0),
  (⟨"SoundAdvice$Game", "planBits", "()I"⟩, prog_4_method_22_code, 3, (some .int), 2, 0),
  (⟨"SoundAdvice$Game", "isPlan", "(I)Z"⟩, prog_4_method_23_code, 4, (some .boolean), 2, 1),
  (⟨"SoundAdvice$Game", "welfareAt", "(I)I"⟩, prog_4_method_20_code, 4, (some .int), 2, 1),
  (⟨"java/lang/Integer", "bitCount", "(I)I"⟩, prog_17_method_49_code, 1, (some .int), 16, 1),
  (⟨"SoundAdvice", "sure", "(I)I"⟩, prog_1_method_21_code, 4, (some .int), 11, 1),
  (⟨"SoundAdvice$Game", "leastPay", "(II)I"⟩, prog_4_method_21_code, 5, (some .int), 2, 2),
  (⟨"SoundAdvice", "left", "()I"⟩, prog_1_method_22_code, 2, (some .int), 11, 0),
  (⟨"SoundAdvice$Sieve", "sift", "(LSoundAdvice$Game;)V"⟩, prog_10_method_2_code, 3, none, 8, 1),
  (⟨"SoundAdvice$Sieve", "takeFirst", "(LSoundAdvice$Game;)Z"⟩, prog_10_method_4_code, 4, (some .boolean), 8, 1),
  (⟨"SoundAdvice$Sieve", "isStaying", "(II)Z"⟩, prog_10_method_5_code, 3, (some .boolean), 8, 2),
  (⟨"SoundAdvice$Sieve", "isWorthless", "(LSoundAdvice$Game;II)Z"⟩, prog_10_method_6_code, 5, (some .boolean), 8, 3),
  (⟨"SoundAdvice$Sieve", "isLess", "(LSoundAdvice$Game;III)Z"⟩, prog_10_method_7_code, 7, (some .boolean), 8, 4),
  (⟨"SoundAdvice$Sieve", "isProfileStaying", "(LSoundAdvice$Game;I)Z"⟩, prog_10_method_8_code, 4, (some .boolean), 8, 2),
  (⟨"SoundAdvice$Sieve", "staying", "()I"⟩, prog_10_method_3_code, 1, (some .int), 8, 0),
  (⟨"SoundAdvice", "list", "(I)I"⟩, prog_1_method_23_code, 5, (some .int), 11, 1),
  (⟨"SoundAdvice$Lister", "begin", "(LSoundAdvice$Game;I)V"⟩, prog_6_method_2_code, 3, none, 4, 2),
  (⟨"SoundAdvice$Lister", "next", "()Z"⟩, prog_6_method_3_code, 3, (some .boolean), 4, 0),
  (⟨"SoundAdvice$Lister", "step", "()Z"⟩, prog_6_method_4_code, 4, (some .boolean), 4, 0),
  (⟨"SoundAdvice", "best", "(II)I"⟩, prog_1_method_24_code, 3, (some .int), 11, 2),
  (⟨"SoundAdvice", "isChoice", "(II)Z"⟩, prog_1_method_32_code, 3, (some .boolean), 11, 2),
  (⟨"SoundAdvice", "isSize", "(I)Z"⟩, prog_1_method_62_code, 1, (some .boolean), 11, 1),
  (⟨"SoundAdvice$Choice", "choose", "(LSoundAdvice$Game;LSoundAdvice$Lister;I)Z"⟩, prog_2_method_2_code, 7, (some .boolean), 0, 3),
  (⟨"SoundAdvice$Choice", "worthOf", "(LSoundAdvice$Game;[III)I"⟩, prog_2_method_4_code, 4, (some .int), 0, 4),
  (⟨"SoundAdvice$Choice", "tokensOn", "([II)I"⟩, prog_2_method_5_code, 4, (some .int), 0, 2),
  (⟨"SoundAdvice$Game", "usedBits", "([I)I"⟩, prog_4_method_15_code, 4, (some .int), 2, 1),
  (⟨"SoundAdvice$Choice", "isBetter", "(II)Z"⟩, prog_2_method_3_code, 3, (some .boolean), 0, 2),
  (⟨"SoundAdvice", "tellTokens", "([I)V"⟩, prog_1_method_60_code, 3, none, 11, 1),
  (⟨"SoundAdvice", "number", "(II)I"⟩, prog_1_method_25_code, 3, (some .int), 11, 2),
  (⟨"SoundAdvice", "findListed", "(II)Z"⟩, prog_1_method_30_code, 4, (some .boolean), 11, 2),
  (⟨"SoundAdvice", "which", "()I"⟩, prog_1_method_26_code, 2, (some .int), 11, 0),
  (⟨"SoundAdvice$Game", "isAdvice", "([I)Z"⟩, prog_4_method_16_code, 3, (some .boolean), 2, 1),
  (⟨"SoundAdvice", "near", "(II)I"⟩, prog_1_method_27_code, 6, (some .int), 11, 2),
  (⟨"SoundAdvice", "movedBetween", "([I[I)I"⟩, prog_1_method_63_code, 4, (some .int), 11, 2),
  (⟨"SoundAdvice", "beyond", "()I"⟩, prog_1_method_28_code, 4, (some .int), 11, 0),
  (⟨"SoundAdvice", "countBeyond", "(II)I"⟩, prog_1_method_29_code, 5, (some .int), 11, 2),
  (⟨"SoundAdvice", "play", "(IIII)I"⟩, prog_1_method_33_code, 6, (some .int), 11, 4),
  (⟨"SoundAdvice", "isPlay", "(II)Z"⟩, prog_1_method_35_code, 3, (some .boolean), 11, 2),
  (⟨"SoundAdvice$Match", "begin", "(LSoundAdvice$Game;III)V"⟩, prog_7_method_2_code, 5, none, 5, 4),
  (⟨"SoundAdvice$Match", "book", "(LSoundAdvice$Game;)V"⟩, prog_7_method_4_code, 4, none, 5, 1),
  (⟨"SoundAdvice$Match", "playOn", "(LSoundAdvice$Game;)V"⟩, prog_7_method_3_code, 4, none, 5, 1),
  (⟨"SoundAdvice$Match", "mostRegretted", "(LSoundAdvice$Game;I)I"⟩, prog_7_method_5_code, 5, (some .int), 5, 2),
  (⟨"SoundAdvice$Match", "drawn", "(LSoundAdvice$Game;I)I"⟩, prog_7_method_6_code, 7, (some .int), 5, 2),
  (⟨"SoundAdvice$Dice", "draw", "(I)I"⟩, prog_3_method_2_code, 2, (some .int), 1, 1),
  (⟨"SoundAdvice$Match", "mostRegret", "(LSoundAdvice$Game;)I"⟩, prog_7_method_7_code, 5, (some .int), 5, 1),
  (⟨"SoundAdvice", "calm", "(IIII)I"⟩, prog_1_method_34_code, 8, (some .int), 11, 4),
  (⟨"SoundAdvice", "mixed", "(I)I"⟩, prog_1_method_36_code, 3, (some .int), 11, 1),
  (⟨"SoundAdvice", "isShelved", "(I)Z"⟩, prog_1_method_58_code, 2, (some .boolean), 11, 1),
  (⟨"SoundAdvice", "were", "(III)I"⟩, prog_1_method_37_code, 4, (some .int), 11, 3),
  (⟨"SoundAdvice", "range", "(II)I"⟩, prog_1_method_38_code, 7, (some .int), 11, 2),
  (⟨"SoundAdvice", "mends", "()I"⟩, prog_1_method_39_code, 4, (some .int), 11, 0),
  (⟨"SoundAdvice", "pays", "(III)I"⟩, prog_1_method_40_code, 4, (some .int), 11, 3),
  (⟨"SoundAdvice", "changePay", "(III)I"⟩, prog_1_method_50_code, 5, (some .int), 11, 3),
  (⟨"SoundAdvice", "scales", "(III)I"⟩, prog_1_method_41_code, 6, (some .int), 11, 3),
  (⟨"SoundAdvice", "scaleFault", "(III)I"⟩, prog_1_method_42_code, 7, (some .int), 11, 3),
  (⟨"SoundAdvice", "moves", "(II)I"⟩, prog_1_method_43_code, 3, (some .int), 11, 2),
  (⟨"SoundAdvice", "moveToken", "(II)I"⟩, prog_1_method_51_code, 3, (some .int), 11, 2),
  (⟨"SoundAdvice", "lays", "(II)I"⟩, prog_1_method_44_code, 3, (some .int), 11, 2)]
def amMi2 : List (MethodName × ByteArray × Nat × Option FieldType × Nat × Nat) := [(⟨"SoundAdvice", "layTokens", "(II)I"⟩, prog_1_method_52_code, 3, (some .int), 11, 2),
  (⟨"SoundAdvice", "takes", "(II)I"⟩, prog_1_method_45_code, 3, (some .int), 11, 2),
  (⟨"SoundAdvice", "takeBest", "(II)I"⟩, prog_1_method_53_code, 3, (some .int), 11, 2),
  (⟨"SoundAdvice", "day", "()I"⟩, prog_1_method_46_code, 5, (some .int), 11, 0),
  (⟨"SoundAdvice$Text", "dayFault", "()I"⟩, prog_12_method_11_code, 6, (some .int), 10, 0),
  (⟨"SoundAdvice$Text", "actLength", "(I)I"⟩, prog_12_method_13_code, 1, (some .int), 10, 1),
  (⟨"SoundAdvice$Text", "canStand", "(III)Z"⟩, prog_12_method_12_code, 4, (some .boolean), 10, 3),
  (⟨"SoundAdvice", "act", "(I)I"⟩, prog_1_method_47_code, 3, (some .int), 11, 1),
  (⟨"SoundAdvice", "undo", "()I"⟩, prog_1_method_48_code, 1, (some .int), 11, 0),
  (⟨"SoundAdvice$Past", "back", "(LSoundAdvice$Game;)I"⟩, prog_9_method_5_code, 2, (some .int), 7, 1),
  (⟨"SoundAdvice", "years", "(II)I"⟩, prog_1_method_49_code, 6, (some .int), 11, 2),
  (⟨"SoundAdvice", "keep", "(I)Z"⟩, prog_1_method_54_code, 2, (some .boolean), 11, 1),
  (⟨"SoundAdvice", "again", "(I)Z"⟩, prog_1_method_55_code, 2, (some .boolean), 11, 1),
  (⟨"SoundAdvice", "count", "(I)I"⟩, prog_1_method_56_code, 2, (some .int), 11, 1),
  (⟨"SoundAdvice", "of", "(II)I"⟩, prog_1_method_10_code, 4, (some .int), 11, 2),
  (⟨"SoundAdvice", "row", "(I)J"⟩, prog_1_method_57_code, 2, (some .long), 11, 1),
  (⟨"SoundAdviceModel", "<init>", "()V"⟩, prog_14_method_1_code, 1, none, 12, 0),
  (⟨"SoundAdviceModel", "thrown", "()I"⟩, prog_14_method_2_code, 1, (some .int), 12, 0),
  (⟨"SoundAdviceModel", "sign", "(I)I"⟩, prog_14_method_14_code, 3, (some .int), 12, 1),
  (⟨"SoundAdviceModel", "end", "(I)Z"⟩, prog_14_method_15_code, 2, (some .boolean), 12, 1),
  (⟨"SoundAdviceModel", "in", "(III)Z"⟩, prog_14_method_3_code, 3, (some .boolean), 12, 3),
  (⟨"SoundAdviceModel", "game", "()I"⟩, prog_14_method_22_code, 7, (some .int), 12, 0),
  (⟨"SoundAdviceModel", "begin", "()V"⟩, prog_14_method_16_code, 1, none, 12, 0),
  (⟨"SoundAdviceModel", "oneOf", "(CI)I"⟩, prog_14_method_20_code, 3, (some .int), 12, 2),
  (⟨"SoundAdviceModel", "fine", "()Z"⟩, prog_14_method_18_code, 1, (some .boolean), 12, 0),
  (⟨"SoundAdviceModel", "here", "()I"⟩, prog_14_method_17_code, 1, (some .int), 12, 0),
  (⟨"SoundAdviceModel", "fault", "(I)V"⟩, prog_14_method_19_code, 2, none, 12, 1),
  (⟨"SoundAdviceModel", "wasRight", "()Z"⟩, prog_14_method_21_code, 1, (some .boolean), 12, 0),
  (⟨"SoundAdviceModel", "change", "()V"⟩, prog_14_method_95_code, 1, none, 12, 0),
  (⟨"SoundAdviceModel", "lay", "()V"⟩, prog_14_method_93_code, 2, none, 12, 0),
  (⟨"SoundAdviceModel", "note", "()V"⟩, prog_14_method_94_code, 2, none, 12, 0),
  (⟨"SoundAdviceModel", "advice", "()I"⟩, prog_14_method_24_code, 4, (some .int), 12, 0),
  (⟨"SoundAdviceModel", "profiles", "()I"⟩, prog_14_method_8_code, 1, (some .int), 12, 0),
  (⟨"SoundAdviceModel", "has", "(I)I"⟩, prog_14_method_7_code, 2, (some .int), 12, 1),
  (⟨"SoundAdviceModel", "sheet", "(IIIIII)I"⟩, prog_14_method_26_code, 11, (some .int), 12, 6),
  (⟨"SoundAdviceModel", "isPlayer", "(I)Z"⟩, prog_14_method_6_code, 2, (some .boolean), 12, 1),
  (⟨"SoundAdviceModel", "entryOf", "(IIII)I"⟩, prog_14_method_25_code, 5, (some .int), 12, 4),
  (⟨"SoundAdviceModel", "tell", "(J)V"⟩, prog_14_method_5_code, 3, none, 12, 1),
  (⟨"SoundAdviceModel", "pay", "(II)I"⟩, prog_14_method_13_code, 3, (some .int), 12, 2),
  (⟨"SoundAdviceModel", "profile", "(III)I"⟩, prog_14_method_27_code, 5, (some .int), 12, 3),
  (⟨"SoundAdviceModel", "stride", "(I)I"⟩, prog_14_method_10_code, 4, (some .int), 12, 1),
  (⟨"SoundAdviceModel", "of", "(II)I"⟩, prog_14_method_28_code, 4, (some .int), 12, 2),
  (⟨"SoundAdviceModel", "isProfile", "(I)Z"⟩, prog_14_method_9_code, 2, (some .boolean), 12, 1),
  (⟨"SoundAdviceModel", "lost", "()I"⟩, prog_14_method_4_code, 1, (some .int), 12, 0),
  (⟨"SoundAdviceModel", "actionIn", "(II)I"⟩, prog_14_method_11_code, 3, (some .int), 12, 2),
  (⟨"SoundAdviceModel", "gain", "(III)I"⟩, prog_14_method_33_code, 4, (some .int), 12, 3),
  (⟨"SoundAdviceModel", "askNow", "()V"⟩, prog_14_method_29_code, 2, none, 12, 0),
  (⟨"SoundAdviceModel", "gainOf", "(III)I"⟩, prog_14_method_30_code, 6, (some .int), 12, 3),
  (⟨"SoundAdviceModel", "but", "(III)I"⟩, prog_14_method_12_code, 4, (some .int), 12, 3),
  (⟨"SoundAdviceModel", "sound", "()I"⟩, prog_14_method_35_code, 2, (some .int), 12, 0),
  (⟨"SoundAdviceModel", "greatest", "()I"⟩, prog_14_method_34_code, 5, (some .int), 12, 0),
  (⟨"SoundAdviceModel", "tight", "()I"⟩, prog_14_method_37_code, 4, (some .int), 12, 0),
  (⟨"SoundAdviceModel", "isTold", "(II)Z"⟩, prog_14_method_36_code, 4, (some .boolean), 12, 2),
  (⟨"SoundAdviceModel", "hangs", "(I)I"⟩, prog_14_method_38_code, 9, (some .int), 12, 1),
  (⟨"SoundAdviceModel", "values", "()I"⟩, prog_14_method_42_code, 2, (some .int), 12, 0),
  (⟨"SoundAdviceModel", "valueOf", "(I)I"⟩, prog_14_method_39_code, 4, (some .int), 12, 1),
  (⟨"SoundAdviceModel", "welfare", "()I"⟩, prog_14_method_40_code, 3, (some .int), 12, 0),
  (⟨"SoundAdviceModel", "floor", "()I"⟩, prog_14_method_41_code, 3, (some .int), 12, 0),
  (⟨"SoundAdviceModel", "total", "()I"⟩, prog_14_method_23_code, 3, (some .int), 12, 0),
  (⟨"SoundAdviceModel", "map", "(I)I"⟩, prog_14_method_43_code, 7, (some .int), 12, 1),
  (⟨"SoundAdviceModel", "corner", "()I"⟩, prog_14_method_52_code, 2, (some .int), 12, 0),
  (⟨"SoundAdviceModel", "isSoundNow", "()Z"⟩, prog_14_method_32_code, 1, (some .boolean), 12, 0),
  (⟨"SoundAdviceModel", "isSound", "()Z"⟩, prog_14_method_31_code, 4, (some .boolean), 12, 0),
  (⟨"SoundAdviceModel", "layList", "(I)V"⟩, prog_14_method_47_code, 3, none, 12, 1),
  (⟨"SoundAdviceModel", "lists", "(II)V"⟩, prog_14_method_46_code, 4, none, 12, 2),
  (⟨"SoundAdviceModel", "isApart", "()Z"⟩, prog_14_method_51_code, 8, (some .boolean), 12, 0),
  (⟨"SoundAdviceModel", "isCorner", "()Z"⟩, prog_14_method_50_code, 2, (some .boolean), 12, 0),
  (⟨"SoundAdviceModel", "isEnd", "(I)Z"⟩, prog_14_method_49_code, 4, (some .boolean), 12, 1),
  (⟨"SoundAdviceModel", "listed", "(II)I"⟩, prog_14_method_44_code, 3, (some .int), 12, 2),
  (⟨"SoundAdviceModel", "plans", "()I"⟩, prog_14_method_55_code, 5, (some .int), 12, 0)]
def amMi3 : List (MethodName × ByteArray × Nat × Option FieldType × Nat × Nat) := [(⟨"SoundAdviceModel", "planBits", "()I"⟩, prog_14_method_53_code, 4, (some .int), 12, 0),
  (⟨"SoundAdviceModel", "countBits", "(I)I"⟩, prog_14_method_54_code, 3, (some .int), 12, 1),
  (⟨"SoundAdviceModel", "sure", "(I)I"⟩, prog_14_method_57_code, 4, (some .int), 12, 1),
  (⟨"SoundAdviceModel", "leastBy", "(II)I"⟩, prog_14_method_56_code, 5, (some .int), 12, 2),
  (⟨"SoundAdviceModel", "left", "()I"⟩, prog_14_method_62_code, 3, (some .int), 12, 0),
  (⟨"SoundAdviceModel", "layLeft", "()I"⟩, prog_14_method_61_code, 4, (some .int), 12, 0),
  (⟨"SoundAdviceModel", "takeOne", "()Z"⟩, prog_14_method_60_code, 4, (some .boolean), 12, 0),
  (⟨"SoundAdviceModel", "isWorthless", "(III)Z"⟩, prog_14_method_59_code, 5, (some .boolean), 12, 3),
  (⟨"SoundAdviceModel", "isLeft", "(II)Z"⟩, prog_14_method_58_code, 4, (some .boolean), 12, 2),
  (⟨"SoundAdviceModel", "list", "(I)I"⟩, prog_14_method_63_code, 5, (some .int), 12, 1),
  (⟨"SoundAdviceModel", "takeMid", "(I)V"⟩, prog_14_method_48_code, 3, none, 12, 1),
  (⟨"SoundAdviceModel", "best", "(II)I"⟩, prog_14_method_70_code, 4, (some .int), 12, 2),
  (⟨"SoundAdviceModel", "isWhat", "(II)Z"⟩, prog_14_method_67_code, 3, (some .boolean), 12, 2),
  (⟨"SoundAdviceModel", "bestOf", "(II)I"⟩, prog_14_method_68_code, 7, (some .int), 12, 2),
  (⟨"SoundAdviceModel", "ask", "(I)V"⟩, prog_14_method_45_code, 3, none, 12, 1),
  (⟨"SoundAdviceModel", "worth", "(II)I"⟩, prog_14_method_66_code, 3, (some .int), 12, 2),
  (⟨"SoundAdviceModel", "tokensOn", "(I)I"⟩, prog_14_method_64_code, 4, (some .int), 12, 1),
  (⟨"SoundAdviceModel", "profilesOn", "()I"⟩, prog_14_method_65_code, 3, (some .int), 12, 0),
  (⟨"SoundAdviceModel", "tellListed", "(I)V"⟩, prog_14_method_69_code, 3, none, 12, 1),
  (⟨"SoundAdviceModel", "number", "(II)I"⟩, prog_14_method_71_code, 3, (some .int), 12, 2),
  (⟨"SoundAdviceModel", "which", "()I"⟩, prog_14_method_73_code, 2, (some .int), 12, 0),
  (⟨"SoundAdviceModel", "isNow", "(I)Z"⟩, prog_14_method_72_code, 3, (some .boolean), 12, 1),
  (⟨"SoundAdviceModel", "near", "(II)I"⟩, prog_14_method_75_code, 6, (some .int), 12, 2),
  (⟨"SoundAdviceModel", "movedFrom", "(I)I"⟩, prog_14_method_74_code, 4, (some .int), 12, 1),
  (⟨"SoundAdviceModel", "beyond", "()I"⟩, prog_14_method_76_code, 5, (some .int), 12, 0),
  (⟨"SoundAdviceModel", "play", "(IIII)I"⟩, prog_14_method_84_code, 7, (some .int), 12, 4),
  (⟨"SoundAdviceModel", "startPlay", "(II)V"⟩, prog_14_method_78_code, 4, none, 12, 2),
  (⟨"SoundAdviceModel", "addRegrets", "()V"⟩, prog_14_method_79_code, 3, none, 12, 0),
  (⟨"SoundAdviceModel", "goRound", "(I)V"⟩, prog_14_method_82_code, 4, none, 12, 1),
  (⟨"SoundAdviceModel", "byMost", "(I)I"⟩, prog_14_method_80_code, 4, (some .int), 12, 1),
  (⟨"SoundAdviceModel", "byDraw", "(I)I"⟩, prog_14_method_81_code, 5, (some .int), 12, 1),
  (⟨"SoundAdviceModel", "draw", "(I)I"⟩, prog_14_method_77_code, 2, (some .int), 12, 1),
  (⟨"SoundAdviceModel", "mostRegret", "()I"⟩, prog_14_method_83_code, 4, (some .int), 12, 0),
  (⟨"SoundAdviceModel", "calm", "(IIII)I"⟩, prog_14_method_85_code, 8, (some .int), 12, 4),
  (⟨"SoundAdviceModel", "mixed", "(I)I"⟩, prog_14_method_86_code, 4, (some .int), 12, 1),
  (⟨"SoundAdviceModel", "keptProfiles", "(I)I"⟩, prog_14_method_87_code, 4, (some .int), 12, 1),
  (⟨"SoundAdviceModel", "were", "(III)I"⟩, prog_14_method_90_code, 5, (some .int), 12, 3),
  (⟨"SoundAdviceModel", "isPay", "(II)Z"⟩, prog_14_method_88_code, 3, (some .boolean), 12, 2),
  (⟨"SoundAdviceModel", "greatestBy", "(III)I"⟩, prog_14_method_89_code, 6, (some .int), 12, 3),
  (⟨"SoundAdviceModel", "range", "(II)I"⟩, prog_14_method_91_code, 7, (some .int), 12, 2),
  (⟨"SoundAdviceModel", "mends", "()I"⟩, prog_14_method_92_code, 4, (some .int), 12, 0),
  (⟨"SoundAdviceModel", "pays", "(III)I"⟩, prog_14_method_97_code, 6, (some .int), 12, 3),
  (⟨"SoundAdviceModel", "refusesPay", "(III)I"⟩, prog_14_method_96_code, 4, (some .int), 12, 3),
  (⟨"SoundAdviceModel", "scales", "(III)I"⟩, prog_14_method_99_code, 8, (some .int), 12, 3),
  (⟨"SoundAdviceModel", "fits", "(J)Z"⟩, prog_14_method_98_code, 2, (some .boolean), 12, 1),
  (⟨"SoundAdviceModel", "moves", "(II)I"⟩, prog_14_method_102_code, 4, (some .int), 12, 2),
  (⟨"SoundAdviceModel", "refusesMove", "(II)I"⟩, prog_14_method_100_code, 3, (some .int), 12, 2),
  (⟨"SoundAdviceModel", "goMove", "(II)V"⟩, prog_14_method_101_code, 3, none, 12, 2),
  (⟨"SoundAdviceModel", "lays", "(II)I"⟩, prog_14_method_104_code, 4, (some .int), 12, 2),
  (⟨"SoundAdviceModel", "refusesLay", "(II)I"⟩, prog_14_method_103_code, 3, (some .int), 12, 2),
  (⟨"SoundAdviceModel", "takes", "(II)I"⟩, prog_14_method_107_code, 4, (some .int), 12, 2),
  (⟨"SoundAdviceModel", "refusesTake", "(II)I"⟩, prog_14_method_105_code, 4, (some .int), 12, 2),
  (⟨"SoundAdviceModel", "goTake", "(I)I"⟩, prog_14_method_106_code, 3, (some .int), 12, 1),
  (⟨"SoundAdviceModel", "day", "()I"⟩, prog_14_method_110_code, 3, (some .int), 12, 0),
  (⟨"SoundAdviceModel", "readAct", "(I)V"⟩, prog_14_method_108_code, 5, none, 12, 1),
  (⟨"SoundAdviceModel", "act", "(I)Z"⟩, prog_14_method_109_code, 5, (some .boolean), 12, 1),
  (⟨"SoundAdviceModel", "undo", "()I"⟩, prog_14_method_111_code, 2, (some .int), 12, 0),
  (⟨"SoundAdviceModel", "years", "(II)I"⟩, prog_14_method_112_code, 6, (some .int), 12, 2),
  (⟨"SoundAdviceModel", "keep", "(I)Z"⟩, prog_14_method_113_code, 3, (some .boolean), 12, 1),
  (⟨"SoundAdviceModel", "again", "(I)Z"⟩, prog_14_method_114_code, 3, (some .boolean), 12, 1),
  (⟨"SoundAdviceModel", "count", "(I)I"⟩, prog_14_method_116_code, 2, (some .int), 12, 1),
  (⟨"SoundAdviceModel", "tokenBits", "()I"⟩, prog_14_method_115_code, 3, (some .int), 12, 0),
  (⟨"SoundAdviceModel", "row", "(I)J"⟩, prog_14_method_117_code, 2, (some .long), 12, 1),
  (⟨"SoundAdviceLaw", "law", "([I)Z"⟩, code, 8, (some .boolean), 13, 1),
  (⟨"SoundAdviceLaw", "of", "(LSoundAdvice;II[J)I"⟩, method_3_code, 5, (some .int), 13, 4),
  (⟨"SoundAdviceLaw", "row", "(LSoundAdvice;I[J)I"⟩, method_4_code, 4, (some .int), 13, 3)]
def amMi : List (MethodName × ByteArray × Nat × Option FieldType × Nat × Nat) := amMi0 ++ (amMi1 ++ (amMi2 ++ (amMi3)))
/-- the methods that a class names: number in its pool, method, kind, places of the words -/
def amMl0 : List (Nat × Nat × Nat × List Nat) := [(3, 0, 4, [320]), (15, 83, 0, [845, 748, 749, 107]), (28, 99, 0, [846, 821, 822, 114]), (35, 105, 1, [847, 848, 115]), (39, 108, 0, [861, 863, 19, 115]), (43, 0, 5, [865]), (49, 68, 0, [850, 684, 685, 107]), (53, 69, 0, [851, 689, 690, 107]), (56, 106, 1, [852, 853, 115]), (60, 107, 0, [855, 856, 857, 107]), (63, 86, 1, [859, 761, 126]), (69, 67, 0, [860, 680, 681, 107])]
def amMl1 : List (Nat × Nat × Nat × List Nat) := [(1, 0, 4, [360])]
def amMl2 : List (Nat × Nat × Nat × List Nat) := [(3, 0, 4, [140]), (27, 2, 0, [141, 142, 143, 107]), (38, 3, 1, [145, 146, 108]), (44, 4, 7, [148]), (50, 5, 0, [151, 152, 153, 107]), (54, 0, 5, [487]), (60, 31, 0, [523, 524, 525, 107]), (64, 32, 0, [527, 528, 529, 107]), (67, 30, 0, [519, 520, 521, 107]), (71, 33, 0, [531, 532, 533, 107]), (74, 51, 0, [659, 610, 611, 107]), (77, 67, 0, [687, 680, 681, 107]), (81, 70, 8, [692]), (84, 84, 0, [751, 753, 11, 107]), (87, 52, 0, [755, 614, 615, 107]), (90, 62, 0, [723, 656, 657, 107])]
def amMl3 : List (Nat × Nat × Nat × List Nat) := [(1, 0, 4, [339]), (9, 9, 3, [247, 113]), (19, 48, 0, [728, 596, 597, 113]), (23, 49, 0, [733, 601, 602, 113]), (26, 53, 0, [734, 619, 620, 113]), (30, 80, 1, [735, 736, 116]), (38, 81, 1, [738, 739, 116]), (46, 54, 0, [742, 623, 624, 113]), (53, 65, 9, [741])]
def amMl4 : List (Nat × Nat × Nat × List Nat) := [(3, 0, 4, [297]), (11, 9, 3, [247, 113]), (23, 48, 0, [818, 596, 597, 113]), (27, 54, 0, [819, 623, 624, 113]), (35, 100, 0, [824, 826, 17, 114]), (39, 59, 0, [828, 644, 645, 113]), (50, 70, 8, [829])]
def amMl5 : List (Nat × Nat × Nat × List Nat) := [(3, 0, 4, [354]), (11, 14, 3, [358, 118]), (28, 3, 1, [914, 146, 108]), (47, 121, 0, [915, 917, 24, 117]), (59, 123, 0, [925, 927, 25, 117]), (63, 124, 0, [929, 931, 26, 117]), (69, 52, 0, [919, 614, 615, 107]), (73, 33, 0, [920, 532, 533, 107]), (77, 4, 7, [933]), (82, 51, 0, [934, 610, 611, 107]), (85, 125, 0, [935, 936, 937, 118])]
def amMl6 : List (Nat × Nat × Nat × List Nat) := [(3, 0, 4, [233])]
def amMl7 : List (Nat × Nat × Nat × List Nat) := [(3, 0, 4, [199]), (17, 1, 2, [201, 138, 107]), (25, 21, 0, [479, 481, 0, 110]), (29, 22, 0, [483, 484, 485, 107])]
def amMl8 : List (Nat × Nat × Nat × List Nat) := [(3, 0, 4, [397]), (27, 91, 0, [782, 784, 12, 119]), (31, 86, 1, [809, 761, 126]), (40, 92, 0, [786, 788, 13, 119]), (44, 93, 0, [790, 792, 14, 119]), (48, 94, 0, [794, 796, 15, 119]), (55, 51, 0, [798, 610, 611, 107]), (59, 95, 0, [799, 801, 16, 119]), (63, 52, 0, [803, 614, 615, 107]), (67, 33, 0, [804, 532, 533, 107])]
def amMl9 : List (Nat × Nat × Nat × List Nat) := [(3, 0, 4, [249]), (42, 0, 5, [599]), (48, 49, 0, [600, 601, 602, 113]), (51, 50, 0, [605, 607, 6, 113]), (55, 3, 1, [604, 146, 108]), (61, 51, 0, [609, 610, 611, 107]), (65, 52, 0, [613, 614, 615, 107]), (69, 33, 0, [617, 532, 533, 107]), (72, 48, 0, [595, 596, 597, 113]), (76, 53, 0, [618, 619, 620, 113]), (80, 54, 0, [622, 623, 624, 113]), (84, 59, 0, [643, 644, 645, 113]), (97, 55, 0, [638, 627, 628, 113])]
def amMl10 : List (Nat × Nat × Nat × List Nat) := [(3, 0, 4, [219]), (19, 25, 0, [498, 499, 500, 111]), (23, 24, 0, [494, 496, 1, 111]), (27, 26, 0, [502, 503, 504, 111]), (30, 2, 0, [506, 142, 143, 107]), (36, 27, 0, [507, 509, 2, 111]), (46, 28, 0, [511, 513, 3, 111]), (49, 29, 0, [515, 516, 517, 107]), (53, 37, 0, [548, 550, 4, 111]), (56, 145, 1, [1016, 1017, 111]), (59, 146, 0, [1019, 1021, 32, 111])]
def amMl11 : List (Nat × Nat × Nat × List Nat) := [(1, 0, 4, [132]), (9, 1, 2, [137, 138, 107]), (29, 6, 2, [196, 197, 110]), (36, 7, 3, [217, 111]), (43, 8, 3, [231, 112]), (50, 9, 3, [247, 113]), (57, 10, 3, [295, 114]), (64, 11, 3, [318, 115]), (71, 12, 3, [337, 116]), (78, 13, 3, [352, 117]), (85, 15, 3, [395, 119]), (92, 14, 3, [358, 118]), (101, 17, 0, [463, 464, 465, 111]), (109, 20, 0, [475, 476, 477, 110]), (113, 23, 0, [490, 491, 492, 111]), (117, 22, 0, [535, 484, 485, 107]), (120, 34, 0, [536, 537, 538, 110]), (127, 36, 0, [544, 545, 546, 111]), (134, 0, 5, [552]), (140, 31, 0, [557, 524, 525, 107]), (143, 39, 1, [558, 559, 106]), (147, 40, 0, [561, 563, 5, 106]), (150, 42, 0, [569, 570, 571, 112]), (153, 43, 0, [573, 574, 575, 112]), (156, 29, 0, [577, 516, 517, 107]), (160, 32, 0, [565, 528, 529, 107]), (163, 41, 1, [566, 567, 106]), (166, 45, 0, [582, 583, 584, 107]), (173, 5, 0, [586, 152, 153, 107]), (186, 33, 0, [670, 532, 533, 107]), (189, 51, 0, [668, 610, 611, 107]), (192, 47, 0, [591, 592, 593, 113]), (196, 55, 0, [626, 627, 628, 113]), (199, 57, 0, [634, 635, 636, 113]), (212, 58, 0, [639, 640, 641, 113]), (219, 61, 0, [651, 653, 7, 106]), (226, 62, 0, [655, 656, 657, 107]), (230, 64, 0, [664, 666, 8, 106]), (233, 52, 0, [669, 614, 615, 107]), (236, 65, 9, [671]), (241, 4, 7, [674]), (244, 67, 0, [679, 680, 681, 107]), (247, 68, 0, [683, 684, 685, 107]), (251, 69, 0, [688, 689, 690, 107]), (254, 71, 0, [695, 696, 697, 107]), (257, 73, 0, [703, 704, 705, 113]), (260, 75, 0, [711, 713, 9, 106]), (263, 77, 0, [719, 720, 721, 107]), (267, 78, 0, [724, 725, 726, 116]), (270, 79, 0, [729, 730, 731, 116]), (273, 83, 0, [747, 748, 749, 107]), (276, 85, 0, [756, 757, 758, 107]), (279, 86, 1, [760, 761, 126]), (284, 88, 0, [770, 771, 772, 107]), (287, 90, 0, [778, 779, 780, 119]), (299, 96, 0, [805, 806, 807, 119]), (302, 98, 0, [814, 815, 816, 114]), (306, 99, 0, [820, 821, 822, 114]), (310, 102, 0, [834, 836, 18, 106]), (313, 104, 0, [841, 842, 843, 115]), (318, 109, 0, [866, 868, 20, 106]), (328, 111, 0, [874, 876, 21, 106]), (331, 107, 0, [878, 856, 857, 107]), (334, 113, 0, [883, 884, 885, 107]), (337, 115, 1, [891, 892, 106]), (341, 117, 0, [898, 900, 22, 106]), (344, 103, 1, [838, 839, 106]), (347, 76, 0, [715, 717, 10, 106]), (351, 119, 0, [906, 908, 23, 106]), (354, 120, 0, [910, 911, 912, 117]), (357, 122, 0, [921, 922, 923, 117]), (369, 126, 0, [940, 941, 942, 117]), (372, 129, 0, [952, 954, 27, 106]), (375, 30, 0, [960, 520, 521, 107]), (378, 134, 0, [973, 975, 28, 106]), (381, 136, 1, [981, 982, 106]), (384, 138, 0, [988, 990, 29, 106]), (387, 140, 0, [996, 998, 30, 106]), (390, 142, 0, [1004, 1006, 31, 106]), (393, 144, 0, [1012, 1013, 1014, 111]), (396, 147, 0, [1023, 1025, 33, 106]), (399, 25, 0, [1027, 499, 500, 111]), (402, 145, 1, [1029, 1017, 111]), (405, 26, 0, [1028, 503, 504, 111]), (408, 149, 0, [1034, 1035, 1036, 110]), (414, 125, 0, [1042, 936, 937, 118])]
def amMl12 : List (Nat × Nat × Nat × List Nat) := [(3, 0, 4, [1143]), (74, 160, 1, [1256, 1257, 120]), (78, 173, 0, [1307, 1309, 45, 120]), (82, 172, 0, [1303, 1305, 44, 120]), (86, 180, 0, [1335, 1337, 49, 120]), (89, 184, 0, [1351, 1353, 52, 120]), (105, 164, 0, [1271, 1273, 37, 120]), (109, 165, 0, [1275, 1277, 38, 120]), (112, 166, 0, [1279, 1281, 39, 120]), (116, 162, 0, [1263, 1265, 35, 120]), (119, 163, 0, [1267, 1269, 36, 120]), (123, 167, 0, [1283, 1285, 40, 120]), (126, 168, 0, [1287, 1289, 41, 120]), (129, 175, 0, [1315, 1317, 46, 120]), (133, 176, 1, [1319, 1320, 120]), (137, 177, 0, [1322, 1324, 47, 120]), (143, 178, 0, [1327, 1329, 48, 120]), (146, 182, 0, [1343, 1345, 50, 120]), (149, 183, 0, [1347, 1349, 51, 120]), (152, 188, 0, [1367, 1369, 55, 120]), (156, 187, 0, [1363, 1365, 54, 120]), (159, 186, 0, [1359, 1361, 53, 120]), (162, 202, 0, [1426, 1428, 63, 120]), (177, 190, 0, [1375, 1377, 56, 120]), (180, 192, 0, [1384, 1386, 57, 120]), (184, 65, 9, [1392]), (189, 195, 0, [1397, 1399, 58, 120]), (192, 70, 8, [1409]), (195, 196, 0, [1401, 1403, 59, 120]), (198, 197, 0, [1405, 1407, 60, 120]), (201, 198, 0, [1410, 1412, 61, 120]), (204, 208, 0, [1450, 1452, 69, 120]), (210, 204, 0, [1434, 1436, 65, 120]), (214, 207, 0, [1446, 1448, 68, 120]), (217, 201, 0, [1422, 1424, 62, 120]), (220, 203, 0, [1430, 1432, 64, 120]), (223, 205, 0, [1438, 1440, 66, 120]), (226, 206, 0, [1442, 1444, 67, 120]), (229, 210, 0, [1458, 1460, 70, 120]), (232, 211, 1, [1462, 1463, 120]), (235, 213, 0, [1469, 1471, 71, 120]), (238, 218, 0, [1489, 1491, 75, 120]), (241, 217, 0, [1485, 1487, 74, 120]), (247, 216, 0, [1481, 1483, 73, 120]), (250, 215, 0, [1477, 1479, 72, 120]), (253, 220, 0, [1497, 1499, 76, 120]), (256, 226, 0, [1521, 1523, 81, 120]), (259, 227, 0, [1525, 1527, 82, 120]), (262, 224, 0, [1513, 1515, 79, 120]), (265, 225, 0, [1517, 1519, 80, 120]), (271, 222, 0, [1505, 1507, 77, 120]), (274, 223, 0, [1509, 1511, 78, 120]), (277, 228, 0, [1529, 1531, 83, 120]), (280, 231, 0, [1541, 1543, 84, 120]), (283, 4, 7, [1553]), (286, 233, 0, [1549, 1551, 85, 120]), (296, 237, 0, [1566, 1568, 87, 120]), (299, 241, 0, [1582, 1584, 91, 120]), (302, 239, 0, [1574, 1576, 89, 120]), (305, 240, 0, [1578, 1580, 90, 120]), (308, 236, 0, [1562, 1564, 86, 120]), (311, 238, 0, [1570, 1572, 88, 120]), (314, 242, 0, [1587, 1589, 92, 120]), (317, 245, 0, [1599, 1601, 93, 120]), (320, 247, 0, [1607, 1609, 94, 120]), (323, 248, 0, [1611, 1613, 95, 120]), (329, 169, 0, [1291, 1293, 42, 120]), (332, 170, 0, [1295, 1297, 43, 120]), (335, 252, 0, [1627, 1629, 96, 120]), (342, 254, 1, [1635, 1636, 120]), (350, 256, 0, [1646, 1648, 97, 120]), (353, 257, 0, [1650, 1652, 98, 120]), (358, 259, 0, [1658, 1660, 99, 120]), (361, 261, 0, [1667, 1669, 100, 120]), (364, 262, 0, [1671, 1673, 101, 120]), (367, 264, 0, [1679, 1681, 102, 120]), (370, 265, 0, [1683, 1685, 103, 120]), (373, 271, 0, [1707, 1709, 104, 120])]
def amMl13 : List (Nat × Nat × Nat × List Nat) := [(19, 0, 2, [129, 130, 106]), (22, 156, 2, [1140, 1141, 120]), (23, 16, 0, [459, 460, 461, 106]), (27, 158, 0, [1248, 1249, 1250, 120]), (28, 18, 0, [467, 468, 469, 106]), (32, 159, 0, [1252, 1253, 1254, 120]), (33, 19, 0, [471, 472, 473, 106]), (37, 161, 0, [1259, 1260, 1261, 120]), (38, 35, 0, [540, 541, 542, 106]), (41, 171, 0, [1299, 1300, 1301, 120]), (42, 38, 0, [553, 554, 555, 106]), (46, 174, 0, [1311, 1312, 1313, 120]), (47, 44, 0, [578, 579, 580, 106]), (51, 179, 0, [1331, 1332, 1333, 120]), (52, 274, 6, [1055]), (57, 181, 0, [1339, 1340, 1341, 120]), (58, 157, 0, [1244, 1245, 1246, 120]), (61, 46, 0, [587, 588, 589, 106]), (64, 185, 0, [1355, 1356, 1357, 120]), (65, 56, 0, [630, 631, 632, 106]), (68, 189, 0, [1371, 1372, 1373, 120]), (69, 60, 0, [647, 648, 649, 106]), (72, 191, 0, [1380, 1381, 1382, 120]), (73, 63, 0, [660, 661, 662, 106]), (76, 193, 0, [1388, 1389, 1390, 120]), (77, 66, 0, [675, 676, 677, 106]), (80, 194, 0, [1393, 1394, 1395, 120]), (81, 72, 0, [699, 700, 701, 106]), (84, 199, 0, [1414, 1415, 1416, 120]), (85, 74, 0, [707, 708, 709, 106]), (88, 200, 0, [1418, 1419, 1420, 120]), (89, 82, 0, [743, 744, 745, 106]), (92, 209, 0, [1454, 1455, 1456, 120]), (93, 87, 0, [766, 767, 768, 106]), (96, 212, 0, [1465, 1466, 1467, 120]), (97, 89, 0, [774, 775, 776, 106]), (100, 214, 0, [1473, 1474, 1475, 120]), (101, 97, 0, [810, 811, 812, 106]), (104, 219, 0, [1493, 1494, 1495, 120]), (105, 101, 0, [830, 831, 832, 106]), (108, 221, 0, [1501, 1502, 1503, 120]), (109, 110, 0, [870, 871, 872, 106]), (112, 229, 0, [1533, 1534, 1535, 120]), (113, 112, 0, [879, 880, 881, 106]), (116, 230, 0, [1537, 1538, 1539, 120]), (117, 114, 0, [887, 888, 889, 106]), (120, 232, 0, [1545, 1546, 1547, 120]), (121, 116, 0, [894, 895, 896, 106]), (124, 234, 0, [1554, 1555, 1556, 120]), (125, 118, 0, [902, 903, 904, 106]), (129, 235, 0, [1558, 1559, 1560, 120]), (130, 127, 0, [944, 945, 946, 106]), (133, 243, 0, [1591, 1592, 1593, 120]), (134, 128, 0, [948, 949, 950, 106]), (137, 244, 0, [1595, 1596, 1597, 120]), (138, 130, 0, [956, 957, 958, 106]), (141, 246, 0, [1603, 1604, 1605, 120]), (142, 131, 0, [961, 962, 963, 106]), (145, 249, 0, [1615, 1616, 1617, 120]), (146, 132, 0, [965, 966, 967, 106]), (149, 250, 0, [1619, 1620, 1621, 120]), (150, 133, 0, [969, 970, 971, 106]), (153, 251, 0, [1623, 1624, 1625, 120]), (154, 135, 0, [977, 978, 979, 106]), (157, 253, 0, [1631, 1632, 1633, 120]), (158, 137, 0, [984, 985, 986, 106]), (161, 255, 0, [1642, 1643, 1644, 120]), (162, 139, 0, [992, 993, 994, 106]), (165, 258, 0, [1654, 1655, 1656, 120]), (166, 141, 0, [1000, 1001, 1002, 106]), (169, 260, 0, [1663, 1664, 1665, 120]), (170, 143, 0, [1008, 1009, 1010, 106]), (173, 263, 0, [1675, 1676, 1677, 120]), (174, 148, 0, [1030, 1031, 1032, 106]), (177, 266, 0, [1687, 1688, 1689, 120]), (178, 150, 0, [1038, 1039, 1040, 106]), (181, 267, 0, [1691, 1692, 1693, 120]), (182, 151, 0, [1043, 1044, 1045, 106]), (185, 268, 0, [1695, 1696, 1697, 120]), (186, 152, 0, [1047, 1048, 1049, 106]), (189, 269, 0, [1699, 1700, 1701, 120]), (190, 153, 0, [1051, 1052, 1053, 106]), (193, 270, 0, [1703, 1704, 1705, 120]), (194, 275, 6, [1130]), (197, 272, 0, [1711, 1712, 1713, 120])]
def amMl14 : List (Nat × Nat × Nat × List Nat) := []
def amMl15 : List (Nat × Nat × Nat × List Nat) := []
def amMl16 : List (Nat × Nat × Nat × List Nat) := []
def amMl : Nat → List (Nat × Nat × Nat × List Nat) := fun cn => match cn with
  | 0 => amMl0
  | 1 => amMl1
  | 2 => amMl2
  | 3 => amMl3
  | 4 => amMl4
  | 5 => amMl5
  | 6 => amMl6
  | 7 => amMl7
  | 8 => amMl8
  | 9 => amMl9
  | 10 => amMl10
  | 11 => amMl11
  | 12 => amMl12
  | 13 => amMl13
  | 14 => amMl14
  | 15 => amMl15
  | 16 => amMl16
  | _ => []
/-- the fields that a class names: number in its pool, class, field, place of the word -/
def amFl0 : List (Nat × Nat × Nat × Nat) := [(9, 0, 0, 321), (21, 0, 1, 323), (25, 0, 2, 325), (34, 4, 1, 302)]
def amFl1 : List (Nat × Nat × Nat × Nat) := [(7, 1, 0, 361)]
def amFl2 : List (Nat × Nat × Nat × Nat) := [(9, 2, 0, 155), (15, 2, 1, 160), (18, 2, 2, 162), (21, 2, 3, 163), (24, 2, 4, 164), (31, 2, 5, 167), (35, 2, 6, 173)]
def amFl3 : List (Nat × Nat × Nat × Nat) := [(10, 3, 0, 342), (16, 3, 1, 343), (34, 9, 7, 262), (42, 9, 0, 252), (50, 9, 1, 254)]
def amFl4 : List (Nat × Nat × Nat × Nat) := [(12, 4, 0, 300), (18, 9, 0, 251), (22, 4, 1, 301), (31, 4, 2, 304), (43, 9, 7, 261), (47, 4, 3, 305)]
def amFl5 : List (Nat × Nat × Nat × Nat) := [(12, 5, 0, 367), (18, 5, 1, 368), (22, 5, 2, 369), (25, 5, 3, 371), (34, 5, 4, 373), (38, 5, 5, 375), (41, 1, 0, 362), (44, 5, 6, 376), (51, 2, 5, 168), (56, 2, 1, 161), (66, 2, 0, 158)]
def amFl6 : List (Nat × Nat × Nat × Nat) := [(9, 6, 0, 234), (15, 6, 1, 236)]
def amFl7 : List (Nat × Nat × Nat × Nat) := [(11, 7, 0, 202), (18, 7, 1, 203), (22, 7, 2, 204)]
def amFl8 : List (Nat × Nat × Nat × Nat) := [(9, 8, 0, 398), (15, 8, 1, 400), (18, 8, 2, 402), (22, 2, 0, 157), (37, 2, 5, 169), (52, 2, 6, 175)]
def amFl9 : List (Nat × Nat × Nat × Nat) := [(9, 9, 0, 250), (15, 9, 1, 253), (18, 9, 2, 255), (21, 9, 3, 256), (24, 9, 4, 257), (27, 9, 5, 258), (30, 2, 5, 166), (36, 9, 6, 259), (37, 2, 6, 172), (40, 9, 7, 260), (41, 2, 0, 156), (88, 9, 8, 263), (91, 9, 9, 265), (94, 9, 10, 267)]
def amFl10 : List (Nat × Nat × Nat × Nat) := [(9, 10, 0, 220), (15, 10, 1, 221), (40, 2, 6, 176), (43, 2, 5, 170)]
def amFl11 : List (Nat × Nat × Nat × Nat) := [(10, 11, 0, 413), (16, 11, 1, 414), (19, 11, 2, 415), (23, 11, 3, 416), (30, 11, 4, 417), (37, 11, 5, 418), (44, 11, 6, 419), (51, 11, 7, 420), (58, 11, 8, 421), (65, 11, 9, 422), (72, 11, 10, 423), (79, 11, 11, 424), (86, 11, 12, 425), (93, 11, 13, 426), (97, 11, 14, 427), (105, 10, 1, 222), (124, 2, 6, 174), (131, 2, 4, 165), (170, 2, 5, 171), (203, 9, 8, 264), (206, 9, 9, 266), (209, 9, 10, 268), (216, 2, 0, 159), (223, 6, 1, 237), (290, 8, 0, 399), (293, 8, 2, 403), (296, 8, 1, 401), (309, 4, 1, 303), (317, 0, 0, 322), (322, 0, 2, 326), (325, 0, 1, 324), (360, 5, 4, 374), (363, 5, 3, 372), (366, 5, 2, 370), (411, 1, 0, 363), (417, 7, 2, 205), (420, 6, 0, 235)]
def amFl12 : List (Nat × Nat × Nat × Nat) := [(9, 12, 0, 1144), (13, 12, 1, 1145), (17, 12, 3, 1147), (21, 12, 9, 1153), (24, 12, 10, 1154), (27, 12, 14, 1158), (30, 12, 16, 1160), (33, 12, 17, 1161), (36, 12, 18, 1162), (39, 12, 22, 1166), (42, 12, 24, 1168), (45, 12, 25, 1169), (48, 12, 26, 1170), (52, 12, 27, 1171), (55, 12, 28, 1172), (58, 12, 30, 1174), (61, 12, 31, 1175), (64, 12, 32, 1176), (67, 12, 5, 1149), (71, 12, 4, 1148), (93, 12, 2, 1146), (96, 12, 6, 1150), (99, 12, 7, 1151), (102, 12, 8, 1152), (168, 12, 11, 1155), (171, 12, 12, 1156), (174, 12, 13, 1157), (207, 12, 15, 1159), (244, 12, 19, 1163), (268, 12, 20, 1164), (289, 12, 21, 1165), (293, 12, 23, 1167), (326, 12, 29, 1173)]
def amFl13 : List (Nat × Nat × Nat × Nat) := []
def amFl14 : List (Nat × Nat × Nat × Nat) := []
def amFl15 : List (Nat × Nat × Nat × Nat) := []
def amFl16 : List (Nat × Nat × Nat × Nat) := []
def amFl : Nat → List (Nat × Nat × Nat × Nat) := fun cn => match cn with
  | 0 => amFl0
  | 1 => amFl1
  | 2 => amFl2
  | 3 => amFl3
  | 4 => amFl4
  | 5 => amFl5
  | 6 => amFl6
  | 7 => amFl7
  | 8 => amFl8
  | 9 => amFl9
  | 10 => amFl10
  | 11 => amFl11
  | 12 => amFl12
  | 13 => amFl13
  | 14 => amFl14
  | 15 => amFl15
  | 16 => amFl16
  | _ => []
/-- the classes that a class names -/
def amKl : List (Nat × Nat × Nat × Nat) := [(13, 8, 11, 127), (11, 7, 2, 135), (11, 27, 7, 194), (7, 9, 2, 200), (11, 34, 10, 214), (11, 41, 6, 228), (11, 48, 9, 244), (11, 55, 4, 292), (4, 9, 9, 298), (11, 62, 0, 315), (11, 69, 3, 334), (3, 7, 9, 340), (11, 76, 5, 349), (5, 9, 1, 355), (11, 83, 8, 392), (11, 90, 1, 411), (13, 20, 12, 1138)]
def amKi : List (Nat × Nat × Int32 × Nat) := [(16, 265, 1431655765, 763), (16, 266, 858993459, 764), (16, 267, 252645135, 765), (1, 13, 1103515245, 939), (12, 167, (-2147483648), 1379), (12, 292, 1103515245, 1586)]
def amKj : List (Nat × Nat × Int64 × Nat) := [(12, 141, 2, 1326), (12, 338, (-2147483648), 1638), (12, 340, 2147483647, 1639), (12, 346, (-9), 1640), (12, 348, 9, 1641), (12, 356, 6, 1662)]
def amCp : List (List Nat × Nat × Nat) := [([327, 329, 331], 316, 115), ([364], 356, 118), ([177, 179, 181, 183, 185, 187, 189], 136, 107), ([344, 346], 335, 116), ([306, 308, 310, 312], 293, 114), ([377, 379, 381, 383, 385, 387, 389], 350, 117), ([238, 240], 229, 112), ([206, 208, 210], 195, 110), ([404, 406, 408], 393, 119), ([269, 271, 273, 275, 277, 279, 281, 283, 285, 287, 289], 245, 113), ([223, 225], 215, 111), ([428, 430, 432, 434, 436, 438, 440, 442, 444, 446, 448, 450, 452, 454, 456], 128, 106), ([1177, 1179, 1181, 1183, 1185, 1187, 1189, 1191, 1193, 1195, 1197, 1199, 1201, 1203, 1205, 1207, 1209, 1211, 1213, 1215, 1217, 1219, 1221, 1223, 1225, 1227, 1229, 1231, 1233, 1235, 1237, 1239, 1241], 1139, 120)]
