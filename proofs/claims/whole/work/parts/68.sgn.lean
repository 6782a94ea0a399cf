/-! sign, end -/
def by8 (v : Int32) (s : Nat) : Nat := v.toBitVec.toNat / 2 ^ s % 256
theorem by8_lt {v : Int32} {s : Nat} : by8 v s < 256 := Nat.mod_lt _ (by decide)
theorem by8_c {v : Int32} {s : Nat} (hs : (((nI s).toUInt32 &&& Int32.toUInt32 31).toBitVec % 32).toNat = s) : (v.toUInt32 >>> ((nI s).toUInt32 &&& (nI 31).toUInt32)).toInt32 &&& nI 255 = nI (by8 v s) := by
  have h1 := pk_ushr v (nI s) s hs
  rw [show (nI 31).toUInt32 = Int32.toUInt32 31 from rfl, pk_and _ 8 (show (nI 255).toBitVec.toNat = 2 ^ 8 - 1 by decide), h1]
  rfl
theorem i8_eq {x y : Int32} (h : x.toInt.bmod (2 ^ 8) = y.toInt.bmod (2 ^ 8)) : x.toInt8.toInt32 = y.toInt8.toInt32 := by
  rw [show x.toInt8 = y.toInt8 from Int8.toInt_inj.mp (by rw [Int32.toInt_toInt8, Int32.toInt_toInt8]; exact h)]
theorem i_sg (v : Int32) : v.toInt = (v.toBitVec.toNat : Int) ∨ v.toInt = (v.toBitVec.toNat : Int) - 4294967296 := by
  have h : v.toInt = v.toBitVec.toInt := rfl
  rw [h, BitVec.toInt_eq_toNat_cond]
  split
  · exact Or.inl rfl
  · exact Or.inr rfl
theorem by8_m24 {v : Int32} : (v >>> (nI 24 &&& nI 31)).toInt8.toInt32 = (nI (by8 v 24)).toInt8.toInt32 := by
  have h1 := pk_shr v (nI 24 &&& nI 31) 24 (by decide)
  have h2 := i_sg v
  have h3 : v.toBitVec.toNat < 4294967296 := v.toBitVec.isLt
  have h4 : by8 v 24 = v.toBitVec.toNat / 16777216 % 256 := rfl
  rw [Int.shiftRight_eq_div_pow, show ((2 ^ 24 : Nat) : Int) = 16777216 from rfl] at h1
  refine i8_eq ?_
  rw [h1, nI_toInt (by have := by8_lt (v := v) (s := 24); omega), h4, Int.bmod_def, Int.bmod_def, show ((2 ^ 8 : Nat) : Int) = 256 from rfl]
  have h5 : (v.toInt / 16777216) % 256 = ((v.toBitVec.toNat / 16777216 % 256 : Nat) : Int) % 256 := by omega
  rw [h5]
theorem by8_m16 {v : Int32} : (v >>> (nI 16 &&& nI 31)).toInt8.toInt32 = (nI (by8 v 16)).toInt8.toInt32 := by
  have h1 := pk_shr v (nI 16 &&& nI 31) 16 (by decide)
  have h2 := i_sg v
  have h3 : v.toBitVec.toNat < 4294967296 := v.toBitVec.isLt
  have h4 : by8 v 16 = v.toBitVec.toNat / 65536 % 256 := rfl
  rw [Int.shiftRight_eq_div_pow, show ((2 ^ 16 : Nat) : Int) = 65536 from rfl] at h1
  refine i8_eq ?_
  rw [h1, nI_toInt (by have := by8_lt (v := v) (s := 16); omega), h4, Int.bmod_def, Int.bmod_def, show ((2 ^ 8 : Nat) : Int) = 256 from rfl]
  have h5 : (v.toInt / 65536) % 256 = ((v.toBitVec.toNat / 65536 % 256 : Nat) : Int) % 256 := by omega
  rw [h5]
theorem by8_m8 {v : Int32} : (v >>> (nI 8 &&& nI 31)).toInt8.toInt32 = (nI (by8 v 8)).toInt8.toInt32 := by
  have h1 := pk_shr v (nI 8 &&& nI 31) 8 (by decide)
  have h2 := i_sg v
  have h3 : v.toBitVec.toNat < 4294967296 := v.toBitVec.isLt
  have h4 : by8 v 8 = v.toBitVec.toNat / 256 % 256 := rfl
  rw [Int.shiftRight_eq_div_pow, show ((2 ^ 8 : Nat) : Int) = 256 from rfl] at h1
  refine i8_eq ?_
  rw [h1, nI_toInt (by have := by8_lt (v := v) (s := 8); omega), h4, Int.bmod_def, Int.bmod_def, show ((2 ^ 8 : Nat) : Int) = 256 from rfl]
  have h5 : (v.toInt / 256) % 256 = ((v.toBitVec.toNat / 256 % 256 : Nat) : Int) % 256 := by omega
  rw [h5]
theorem by8_m0 {v : Int32} : (v >>> (nI 0 &&& nI 31)).toInt8.toInt32 = (nI (by8 v 0)).toInt8.toInt32 := by
  have h1 := pk_shr v (nI 0 &&& nI 31) 0 (by decide)
  have h2 := i_sg v
  have h3 : v.toBitVec.toNat < 4294967296 := v.toBitVec.isLt
  have h4 : by8 v 0 = v.toBitVec.toNat / 1 % 256 := rfl
  rw [Int.shiftRight_eq_div_pow, show ((2 ^ 0 : Nat) : Int) = 1 from rfl] at h1
  refine i8_eq ?_
  rw [h1, nI_toInt (by have := by8_lt (v := v) (s := 0); omega), h4, Int.bmod_def, Int.bmod_def, show ((2 ^ 8 : Nat) : Int) = 256 from rfl]
  have h5 : (v.toInt / 1) % 256 = ((v.toBitVec.toNat / 1 % 256 : Nat) : Int) % 256 := by omega
  rw [h5]
def sgT (x : Nat × (Nat → Nat)) (v : Int32) : Nat × (Nat → Nat) := (x.1 + 4, fun k => if k = x.1 + 3 then by8 v 0 else if k = x.1 + 2 then by8 v 8 else if k = x.1 + 1 then by8 v 16 else if k = x.1 then by8 v 24 else x.2 k)
def txS (A : Sta) (x : Nat × (Nat → Nat)) : Sta := (A.1, A.2.1, A.2.2.1, x, A.2.2.2.2)
def oSg (A : Sta) (v : Int32) : Int32 × Sta := if A.2.2.2.1.1 ≤ 76 then (nI (A.2.2.2.1.1 + 4), txS A (sgT A.2.2.2.1 v)) else (-nI 1, A)
def oEn (A : Sta) (n : Int32) : Int32 × Sta := if nI 0 ≤ n ∧ n ≤ nI A.2.2.2.1.1 then (nI 1, txS A (n.toNatClampNeg, A.2.2.2.1.2)) else (nI 0, A)
section SGN
variable {d g t jk X sh : Nat} {M M1 M2 : amM} {J J1 J2 : amJ} {Q : Option amV → amS → Prop} {pay tok tk : Nat → Int32}
theorem RC.tx {A : Sta} {x : Nat × (Nat → Nat)} (hR : RC M J A) (hF : ∀ c j k, c ≠ 119 → c ≠ 1501 → M1 c j k = M c j k) (hx : TX M1 x) : RC M1 J (txS A x) := by
  unfold txS
  obtain ⟨h1, ⟨f, f1, f2, f3, f4, f5⟩, h3, -, r1, r2, r3⟩ := hR
  have hg : ∀ {g : Nat} {G : Gm}, GW M g G → GW M1 g G := fun h => GV.of h (fun c k hc => hF _ _ _ (by omega) (by omega))
  exact ⟨hg h1, ⟨f, f1, by rw [hF _ _ _ (by omega) (by omega), f2], by rw [hF _ _ _ (by omega) (by omega), f3], f4, fun k G hk => hg (f5 k G hk)⟩, fun i hi => ⟨by rw [hF _ _ _ (by omega) (by omega), (h3 i hi).1], fun G hG => hg ((h3 i hi).2 G hG)⟩, hx, by rw [hF _ _ _ (by omega) (by omega)]; exact r1, r2, r3⟩
theorem RM.tx {A : Sta} {x : Nat × (Nat → Nat)} (hR : RM M J A) (hF : ∀ c j k, c ≠ 131 → c ≠ 1602 → c ≠ 1605 → M1 c j k = M c j k) (hx : Mt M1 x) : RM M1 J (txS A x) := by
  unfold txS
  obtain ⟨h1, ⟨h2, h3, h4⟩, h5, -, h9⟩ := hR
  have f : ∀ c j k, (c = 130 ∨ c = 143 ∨ c = 1629 ∨ c = 146 ∨ c = 147 ∨ c = 1604) → M1 c j k = M c j k := fun c j k h => hF c j k (by omega) (by omega) (by omega)
  exact ⟨fun k hk => by rw [f _ _ _ (by omega), h1 k hk], ⟨by rw [f _ _ _ (by omega), h2], h3, fun n G hG k hk => by rw [f _ _ _ (by omega), h4 n G hG k hk]⟩, fun i hi => ⟨by rw [f _ _ _ (by omega), (h5 i hi).1], fun G hG k hk => by rw [f _ _ _ (by omega), (h5 i hi).2 G hG k hk]⟩, hx, h9.k (f _ _ _ (by omega)) (fun _ => rfl)⟩
theorem sgT_o {x : Nat × (Nat → Nat)} {v : Int32} {k : Nat} (h : k < x.1) : (sgT x v).2 k = x.2 k := by
  unfold sgT
  dsimp only
  rw [if_neg (by omega), if_neg (by omega), if_neg (by omega), if_neg (by omega)]
theorem sgT_n {x : Nat × (Nat → Nat)} {v : Int32} : (sgT x v).2 x.1 = by8 v 24 ∧ (sgT x v).2 (x.1 + 1) = by8 v 16 ∧ (sgT x v).2 (x.1 + 2) = by8 v 8 ∧ (sgT x v).2 (x.1 + 3) = by8 v 0 := by
  unfold sgT
  dsimp only
  refine ⟨?_, ?_, ?_, ?_⟩
  · rw [if_neg (by omega), if_neg (by omega), if_neg (by omega), if_pos rfl]
  · rw [if_neg (by omega), if_neg (by omega), if_pos rfl]
  · rw [if_neg (by omega), if_pos rfl]
  · rw [if_pos rfl]
theorem k16 {A : Sta} {v : Int32} (hR : RC M J A) (hW : WF A) (H : ∀ M1 J1, RC M1 J1 (oSg A v).2 → FC M M1 → FCJ J J1 → Q (some (vI (oSg A v).1)) (M1, J1, (jk, 149, 147, X))) : Call (d + 2) 16 [vR 11 0, vI v] (M, J, (jk, 149, 147, X)) Q := by
  obtain ⟨x1', x2', x3'⟩ : TX M A.2.2.2.1 := hR.2.2.2.1
  obtain ⟨G0, U, S, ⟨n, f⟩, r⟩ := A
  dsimp only at x1' x2' x3'
  unfold oSg at H
  dsimp only at H
  have b24 := by8_c (v := v) (s := 24) (by decide)
  have b16 := by8_c (v := v) (s := 16) (by decide)
  have b8 := by8_c (v := v) (s := 8) (by decide)
  have b0 := by8_c (v := v) (s := 0) (by decide)
  have p1 : nI 24 + Int32.ofInt (-8) = nI 16 := by decide
  have p2 : nI 16 + Int32.ofInt (-8) = nI 8 := by decide
  have p3 : nI 8 + Int32.ofInt (-8) = nI 0 := by decide
  have p4 : nI 0 + Int32.ofInt (-8) = -nI 8 := by decide
  have p5 : -nI 8 < nI 0 := by decide
  rw [e_16]
  simp (disch := omega) only [s_16_0, s_16_1, s_16_4, s_16_5, s_16_8, s_16_11, s_16_12, s_16_15, s_16_18, s_16_21, s_16_22, amLong_I, amLong_R, amLong_N, amLong_L, cond_true, cond_false, Option.toList_some, Option.toList_none, List.cons_append, List.nil_append, List.append_nil, setE, setN, cpy_set, lit, nle, nlt, neq, inb_iff, cl_nI, tle, fle, tlt, flt, teq, feq, m9, m3, x9, x3, nI_add, nsub, upN, upE, b0', b01', r100, w100, r101, w101, r102, w102, r103, w103, r104, w104, r105, w105, r106, w106, r107, w107, r108, w108, w109, w110, r111, w111, r112, w112, r113, w113, r114, w114, r115, w115, r116, w116, r117, w117, r118, w118, r119, w119, w120, w121, r122, w122, r130, w130, w131, w132, r133, w133, r134, w134, r135, w135, r136, w136, r137, w137, r138, w138, r139, w139, r140, w140, r141, w141, w142, r143, w143, r144, w144, r145, w145, r146, w146, w147, w150, b1', em1, Bool.false_eq_true, not_true_eq_false, not_false_eq_true, false_implies, true_implies, and_true, true_and, if_true, if_false, implies_true, Classical.not_not, true_or, or_true, false_or, or_false, and_self, ite_true, ite_false, reduceIte]
  rw [e_17]
  by_cases c0 : n ≤ 76
  · rw [if_pos c0] at H
    simp (disch := omega) only [s_17_0, s_17_1, s_17_4, s_17_6, s_17_9, s_17_10, s_17_11, s_17_13, s_17_15, s_17_18, s_17_19, s_17_22, s_17_23, s_17_26, s_17_27, s_17_28, s_17_29, s_17_32, s_17_33, s_17_34, s_17_35, s_17_36, s_17_39, s_17_40, s_17_41, s_17_44, s_17_47, s_17_50, s_17_51, amLong_I, amLong_R, amLong_N, amLong_L, cond_true, cond_false, Option.toList_some, Option.toList_none, List.cons_append, List.nil_append, List.append_nil, setE, setN, cpy_set, lit, nle, nlt, neq, inb_iff, cl_nI, tle, fle, tlt, flt, teq, feq, m9, m3, x9, x3, nI_add, nsub, upN, upE, b0', b01', r100, w100, r101, w101, r102, w102, r103, w103, r104, w104, r105, w105, r106, w106, r107, w107, r108, w108, w109, w110, r111, w111, r112, w112, r113, w113, r114, w114, r115, w115, r116, w116, r117, w117, r118, w118, r119, w119, w120, w121, r122, w122, r130, w130, w131, w132, r133, w133, r134, w134, r135, w135, r136, w136, r137, w137, r138, w138, r139, w139, r140, w140, r141, w141, w142, r143, w143, r144, w144, r145, w145, r146, w146, w147, w150, b1', em1, Bool.false_eq_true, not_true_eq_false, not_false_eq_true, false_implies, true_implies, and_true, true_and, if_true, if_false, implies_true, Classical.not_not, true_or, or_true, false_or, or_false, and_self, ite_true, ite_false, reduceIte, x1']
    rw [h_17_14]
    simp (disch := omega) only [s_17_0, s_17_1, s_17_4, s_17_6, s_17_9, s_17_10, s_17_11, s_17_13, s_17_15, s_17_18, s_17_19, s_17_22, s_17_23, s_17_26, s_17_27, s_17_28, s_17_29, s_17_32, s_17_33, s_17_34, s_17_35, s_17_36, s_17_39, s_17_40, s_17_41, s_17_44, s_17_47, s_17_50, s_17_51, amLong_I, amLong_R, amLong_N, amLong_L, cond_true, cond_false, Option.toList_some, Option.toList_none, List.cons_append, List.nil_append, List.append_nil, setE, setN, cpy_set, lit, nle, nlt, neq, inb_iff, cl_nI, tle, fle, tlt, flt, teq, feq, m9, m3, x9, x3, nI_add, nsub, upN, upE, b0', b01', r100, w100, r101, w101, r102, w102, r103, w103, r104, w104, r105, w105, r106, w106, r107, w107, r108, w108, w109, w110, r111, w111, r112, w112, r113, w113, r114, w114, r115, w115, r116, w116, r117, w117, r118, w118, r119, w119, w120, w121, r122, w122, r130, w130, w131, w132, r133, w133, r134, w134, r135, w135, r136, w136, r137, w137, r138, w138, r139, w139, r140, w140, r141, w141, w142, r143, w143, r144, w144, r145, w145, r146, w146, w147, w150, b1', em1, Bool.false_eq_true, not_true_eq_false, not_false_eq_true, false_implies, true_implies, and_true, true_and, if_true, if_false, implies_true, Classical.not_not, true_or, or_true, false_or, or_false, and_self, ite_true, ite_false, reduceIte, x1', b24, p1]
    rw [h_17_14]
    simp (disch := omega) only [s_17_0, s_17_1, s_17_4, s_17_6, s_17_9, s_17_10, s_17_11, s_17_13, s_17_15, s_17_18, s_17_19, s_17_22, s_17_23, s_17_26, s_17_27, s_17_28, s_17_29, s_17_32, s_17_33, s_17_34, s_17_35, s_17_36, s_17_39, s_17_40, s_17_41, s_17_44, s_17_47, s_17_50, s_17_51, amLong_I, amLong_R, amLong_N, amLong_L, cond_true, cond_false, Option.toList_some, Option.toList_none, List.cons_append, List.nil_append, List.append_nil, setE, setN, cpy_set, lit, nle, nlt, neq, inb_iff, cl_nI, tle, fle, tlt, flt, teq, feq, m9, m3, x9, x3, nI_add, nsub, upN, upE, b0', b01', r100, w100, r101, w101, r102, w102, r103, w103, r104, w104, r105, w105, r106, w106, r107, w107, r108, w108, w109, w110, r111, w111, r112, w112, r113, w113, r114, w114, r115, w115, r116, w116, r117, w117, r118, w118, r119, w119, w120, w121, r122, w122, r130, w130, w131, w132, r133, w133, r134, w134, r135, w135, r136, w136, r137, w137, r138, w138, r139, w139, r140, w140, r141, w141, w142, r143, w143, r144, w144, r145, w145, r146, w146, w147, w150, b1', em1, Bool.false_eq_true, not_true_eq_false, not_false_eq_true, false_implies, true_implies, and_true, true_and, if_true, if_false, implies_true, Classical.not_not, true_or, or_true, false_or, or_false, and_self, ite_true, ite_false, reduceIte, x1', b16, p2]
    rw [h_17_14]
    simp (disch := omega) only [s_17_0, s_17_1, s_17_4, s_17_6, s_17_9, s_17_10, s_17_11, s_17_13, s_17_15, s_17_18, s_17_19, s_17_22, s_17_23, s_17_26, s_17_27, s_17_28, s_17_29, s_17_32, s_17_33, s_17_34, s_17_35, s_17_36, s_17_39, s_17_40, s_17_41, s_17_44, s_17_47, s_17_50, s_17_51, amLong_I, amLong_R, amLong_N, amLong_L, cond_true, cond_false, Option.toList_some, Option.toList_none, List.cons_append, List.nil_append, List.append_nil, setE, setN, cpy_set, lit, nle, nlt, neq, inb_iff, cl_nI, tle, fle, tlt, flt, teq, feq, m9, m3, x9, x3, nI_add, nsub, upN, upE, b0', b01', r100, w100, r101, w101, r102, w102, r103, w103, r104, w104, r105, w105, r106, w106, r107, w107, r108, w108, w109, w110, r111, w111, r112, w112, r113, w113, r114, w114, r115, w115, r116, w116, r117, w117, r118, w118, r119, w119, w120, w121, r122, w122, r130, w130, w131, w132, r133, w133, r134, w134, r135, w135, r136, w136, r137, w137, r138, w138, r139, w139, r140, w140, r141, w141, w142, r143, w143, r144, w144, r145, w145, r146, w146, w147, w150, b1', em1, Bool.false_eq_true, not_true_eq_false, not_false_eq_true, false_implies, true_implies, and_true, true_and, if_true, if_false, implies_true, Classical.not_not, true_or, or_true, false_or, or_false, and_self, ite_true, ite_false, reduceIte, x1', b8, p3]
    rw [h_17_14]
    simp (disch := omega) only [s_17_0, s_17_1, s_17_4, s_17_6, s_17_9, s_17_10, s_17_11, s_17_13, s_17_15, s_17_18, s_17_19, s_17_22, s_17_23, s_17_26, s_17_27, s_17_28, s_17_29, s_17_32, s_17_33, s_17_34, s_17_35, s_17_36, s_17_39, s_17_40, s_17_41, s_17_44, s_17_47, s_17_50, s_17_51, amLong_I, amLong_R, amLong_N, amLong_L, cond_true, cond_false, Option.toList_some, Option.toList_none, List.cons_append, List.nil_append, List.append_nil, setE, setN, cpy_set, lit, nle, nlt, neq, inb_iff, cl_nI, tle, fle, tlt, flt, teq, feq, m9, m3, x9, x3, nI_add, nsub, upN, upE, b0', b01', r100, w100, r101, w101, r102, w102, r103, w103, r104, w104, r105, w105, r106, w106, r107, w107, r108, w108, w109, w110, r111, w111, r112, w112, r113, w113, r114, w114, r115, w115, r116, w116, r117, w117, r118, w118, r119, w119, w120, w121, r122, w122, r130, w130, w131, w132, r133, w133, r134, w134, r135, w135, r136, w136, r137, w137, r138, w138, r139, w139, r140, w140, r141, w141, w142, r143, w143, r144, w144, r145, w145, r146, w146, w147, w150, b1', em1, Bool.false_eq_true, not_true_eq_false, not_false_eq_true, false_implies, true_implies, and_true, true_and, if_true, if_false, implies_true, Classical.not_not, true_or, or_true, false_or, or_false, and_self, ite_true, ite_false, reduceIte, x1', b0, p4]
    rw [h_17_14]
    simp (disch := omega) only [s_17_0, s_17_1, s_17_4, s_17_6, s_17_9, s_17_10, s_17_11, s_17_13, s_17_15, s_17_18, s_17_19, s_17_22, s_17_23, s_17_26, s_17_27, s_17_28, s_17_29, s_17_32, s_17_33, s_17_34, s_17_35, s_17_36, s_17_39, s_17_40, s_17_41, s_17_44, s_17_47, s_17_50, s_17_51, amLong_I, amLong_R, amLong_N, amLong_L, cond_true, cond_false, Option.toList_some, Option.toList_none, List.cons_append, List.nil_append, List.append_nil, setE, setN, cpy_set, lit, nle, nlt, neq, inb_iff, cl_nI, tle, fle, tlt, flt, teq, feq, m9, m3, x9, x3, nI_add, nsub, upN, upE, b0', b01', r100, w100, r101, w101, r102, w102, r103, w103, r104, w104, r105, w105, r106, w106, r107, w107, r108, w108, w109, w110, r111, w111, r112, w112, r113, w113, r114, w114, r115, w115, r116, w116, r117, w117, r118, w118, r119, w119, w120, w121, r122, w122, r130, w130, w131, w132, r133, w133, r134, w134, r135, w135, r136, w136, r137, w137, r138, w138, r139, w139, r140, w140, r141, w141, w142, r143, w143, r144, w144, r145, w145, r146, w146, w147, w150, b1', em1, Bool.false_eq_true, not_true_eq_false, not_false_eq_true, false_implies, true_implies, and_true, true_and, if_true, if_false, implies_true, Classical.not_not, true_or, or_true, false_or, or_false, and_self, ite_true, ite_false, reduceIte, p5]
    simp (disch := omega) only [s_16_0, s_16_1, s_16_4, s_16_5, s_16_8, s_16_11, s_16_12, s_16_15, s_16_18, s_16_21, s_16_22, amLong_I, amLong_R, amLong_N, amLong_L, cond_true, cond_false, Option.toList_some, Option.toList_none, List.cons_append, List.nil_append, List.append_nil, setE, setN, cpy_set, lit, nle, nlt, neq, inb_iff, cl_nI, tle, fle, tlt, flt, teq, feq, m9, m3, x9, x3, nI_add, nsub, upN, upE, b0', b01', r100, w100, r101, w101, r102, w102, r103, w103, r104, w104, r105, w105, r106, w106, r107, w107, r108, w108, w109, w110, r111, w111, r112, w112, r113, w113, r114, w114, r115, w115, r116, w116, r117, w117, r118, w118, r119, w119, w120, w121, r122, w122, r130, w130, w131, w132, r133, w133, r134, w134, r135, w135, r136, w136, r137, w137, r138, w138, r139, w139, r140, w140, r141, w141, w142, r143, w143, r144, w144, r145, w145, r146, w146, w147, w150, b1', em1, Bool.false_eq_true, not_true_eq_false, not_false_eq_true, false_implies, true_implies, and_true, true_and, if_true, if_false, implies_true, Classical.not_not, true_or, or_true, false_or, or_false, and_self, ite_true, ite_false, reduceIte]
    obtain ⟨t0, t1, t2, t3⟩ := sgT_n (x := (n, f)) (v := v)
    dsimp only at t0 t1 t2 t3
    refine H _ J (hR.tx (fun c j k z1 z2 => by rw [upN (by omega), upN (by omega), upN (by omega), upN (by omega), upN (by omega), upN (by omega), upN (by omega), upN (by omega)]) ⟨?_, ?_, fun k hk => ?_⟩) (fun c j k hc => by rw [upN (by omega), upN (by omega), upN (by omega), upN (by omega), upN (by omega), upN (by omega), upN (by omega), upN (by omega)]) FCJ.rfl
    · rw [upE ⟨rfl, rfl, rfl⟩]
      rfl
    · show n + 4 ≤ 80
      omega
    · have hk' : k < n + 4 := hk
      rw [upN (by omega)]
      by_cases e3 : k = n + 3
      · rw [e3, t3, upE ⟨rfl, rfl, rfl⟩]
      · rw [upN (by omega), upN (by omega)]
        by_cases e2 : k = n + 2
        · rw [e2, t2, upE ⟨rfl, rfl, rfl⟩]
        · rw [upN (by omega), upN (by omega)]
          by_cases e1 : k = n + 1
          · rw [e1, t1, upE ⟨rfl, rfl, rfl⟩]
          · rw [upN (by omega), upN (by omega)]
            by_cases e0 : k = n
            · rw [e0, t0, upE ⟨rfl, rfl, rfl⟩]
            · rw [upN (by omega), x3' k (by omega), sgT_o (x := (n, f)) (show k < n by omega)]
  · rw [if_neg c0] at H
    simp (disch := omega) only [s_17_0, s_17_1, s_17_4, s_17_6, s_17_9, s_17_10, s_17_11, s_17_13, s_17_15, s_17_18, s_17_19, s_17_22, s_17_23, s_17_26, s_17_27, s_17_28, s_17_29, s_17_32, s_17_33, s_17_34, s_17_35, s_17_36, s_17_39, s_17_40, s_17_41, s_17_44, s_17_47, s_17_50, s_17_51, amLong_I, amLong_R, amLong_N, amLong_L, cond_true, cond_false, Option.toList_some, Option.toList_none, List.cons_append, List.nil_append, List.append_nil, setE, setN, cpy_set, lit, nle, nlt, neq, inb_iff, cl_nI, tle, fle, tlt, flt, teq, feq, m9, m3, x9, x3, nI_add, nsub, upN, upE, b0', b01', r100, w100, r101, w101, r102, w102, r103, w103, r104, w104, r105, w105, r106, w106, r107, w107, r108, w108, w109, w110, r111, w111, r112, w112, r113, w113, r114, w114, r115, w115, r116, w116, r117, w117, r118, w118, r119, w119, w120, w121, r122, w122, r130, w130, w131, w132, r133, w133, r134, w134, r135, w135, r136, w136, r137, w137, r138, w138, r139, w139, r140, w140, r141, w141, w142, r143, w143, r144, w144, r145, w145, r146, w146, w147, w150, b1', em1, Bool.false_eq_true, not_true_eq_false, not_false_eq_true, false_implies, true_implies, and_true, true_and, if_true, if_false, implies_true, Classical.not_not, true_or, or_true, false_or, or_false, and_self, ite_true, ite_false, reduceIte, x1']
    simp (disch := omega) only [s_16_0, s_16_1, s_16_4, s_16_5, s_16_8, s_16_11, s_16_12, s_16_15, s_16_18, s_16_21, s_16_22, amLong_I, amLong_R, amLong_N, amLong_L, cond_true, cond_false, Option.toList_some, Option.toList_none, List.cons_append, List.nil_append, List.append_nil, setE, setN, cpy_set, lit, nle, nlt, neq, inb_iff, cl_nI, tle, fle, tlt, flt, teq, feq, m9, m3, x9, x3, nI_add, nsub, upN, upE, b0', b01', r100, w100, r101, w101, r102, w102, r103, w103, r104, w104, r105, w105, r106, w106, r107, w107, r108, w108, w109, w110, r111, w111, r112, w112, r113, w113, r114, w114, r115, w115, r116, w116, r117, w117, r118, w118, r119, w119, w120, w121, r122, w122, r130, w130, w131, w132, r133, w133, r134, w134, r135, w135, r136, w136, r137, w137, r138, w138, r139, w139, r140, w140, r141, w141, w142, r143, w143, r144, w144, r145, w145, r146, w146, w147, w150, b1', em1, Bool.false_eq_true, not_true_eq_false, not_false_eq_true, false_implies, true_implies, and_true, true_and, if_true, if_false, implies_true, Classical.not_not, true_or, or_true, false_or, or_false, and_self, ite_true, ite_false, reduceIte]
    exact H M J hR FC.rfl FCJ.rfl
theorem n158 {A : Sta} {v : Int32} (hR : RM M J A) (hW : WF A) (H : ∀ M1 J1, RM M1 J1 (oSg A v).2 → FM M M1 → FMJ J J1 → Q (some (vI (oSg A v).1)) (M1, J1, (jk, 149, 147, X))) : Call (d + 2) 158 [vR 12 0, vI v] (M, J, (jk, 149, 147, X)) Q := by
  have hK0 : Kp M (upM M 1605 0 0 (nI 0)) := thr
  obtain ⟨x1', x2', x3'⟩ : Mt M A.2.2.2.1 := hR.2.2.2.1
  obtain ⟨G0, U, S, ⟨n, f⟩, r⟩ := A
  dsimp only at x1' x2' x3'
  unfold oSg at H
  dsimp only at H
  have b24 := by8_m24 (v := v)
  have b16 := by8_m16 (v := v)
  have b8 := by8_m8 (v := v)
  have b0 := by8_m0 (v := v)
  have p1 : nI 3 + Int32.ofInt (-1) = nI 2 := by decide
  have p2 : nI 2 + Int32.ofInt (-1) = nI 1 := by decide
  have p3 : nI 1 + Int32.ofInt (-1) = nI 0 := by decide
  have p4 : nI 0 + Int32.ofInt (-1) = -nI 1 := by decide
  have p5 : -nI 1 < nI 0 := by decide
  rw [e_158]
  by_cases c0 : n ≤ 76
  · rw [if_pos c0] at H
    simp (disch := omega) only [s_158_0, s_158_1, s_158_2, s_158_5, s_158_6, s_158_9, s_158_10, s_158_11, s_158_13, s_158_16, s_158_17, s_158_18, s_158_19, s_158_21, s_158_24, s_158_25, s_158_28, s_158_29, s_158_30, s_158_33, s_158_34, s_158_35, s_158_36, s_158_39, s_158_40, s_158_42, s_158_43, s_158_44, s_158_45, s_158_46, s_158_47, s_158_50, s_158_53, s_158_54, s_158_57, amLong_I, amLong_R, amLong_N, amLong_L, cond_true, cond_false, Option.toList_some, Option.toList_none, List.cons_append, List.nil_append, List.append_nil, setE, setN, cpy_set, lit, nle, nlt, neq, inb_iff, cl_nI, tle, fle, tlt, flt, teq, feq, m9, m3, x9, x3, nI_add, nsub, upN, upE, b0', b01', r100, w100, r101, w101, r102, w102, r103, w103, r104, w104, r105, w105, r106, w106, r107, w107, r108, w108, w109, w110, r111, w111, r112, w112, r113, w113, r114, w114, r115, w115, r116, w116, r117, w117, r118, w118, r119, w119, w120, w121, r122, w122, r130, w130, w131, w132, r133, w133, r134, w134, r135, w135, r136, w136, r137, w137, r138, w138, r139, w139, r140, w140, r141, w141, w142, r143, w143, r144, w144, r145, w145, r146, w146, w147, w150, b1', em1, Bool.false_eq_true, not_true_eq_false, not_false_eq_true, false_implies, true_implies, and_true, true_and, if_true, if_false, implies_true, Classical.not_not, true_or, or_true, false_or, or_false, and_self, ite_true, ite_false, reduceIte, x1', pk_mul]
    rw [h_158_20]
    simp (disch := omega) only [s_158_0, s_158_1, s_158_2, s_158_5, s_158_6, s_158_9, s_158_10, s_158_11, s_158_13, s_158_16, s_158_17, s_158_18, s_158_19, s_158_21, s_158_24, s_158_25, s_158_28, s_158_29, s_158_30, s_158_33, s_158_34, s_158_35, s_158_36, s_158_39, s_158_40, s_158_42, s_158_43, s_158_44, s_158_45, s_158_46, s_158_47, s_158_50, s_158_53, s_158_54, s_158_57, amLong_I, amLong_R, amLong_N, amLong_L, cond_true, cond_false, Option.toList_some, Option.toList_none, List.cons_append, List.nil_append, List.append_nil, setE, setN, cpy_set, lit, nle, nlt, neq, inb_iff, cl_nI, tle, fle, tlt, flt, teq, feq, m9, m3, x9, x3, nI_add, nsub, upN, upE, b0', b01', r100, w100, r101, w101, r102, w102, r103, w103, r104, w104, r105, w105, r106, w106, r107, w107, r108, w108, w109, w110, r111, w111, r112, w112, r113, w113, r114, w114, r115, w115, r116, w116, r117, w117, r118, w118, r119, w119, w120, w121, r122, w122, r130, w130, w131, w132, r133, w133, r134, w134, r135, w135, r136, w136, r137, w137, r138, w138, r139, w139, r140, w140, r141, w141, w142, r143, w143, r144, w144, r145, w145, r146, w146, w147, w150, b1', em1, Bool.false_eq_true, not_true_eq_false, not_false_eq_true, false_implies, true_implies, and_true, true_and, if_true, if_false, implies_true, Classical.not_not, true_or, or_true, false_or, or_false, and_self, ite_true, ite_false, reduceIte, x1', pk_mul, pk_vb, b24, p1]
    rw [h_158_20]
    simp (disch := omega) only [s_158_0, s_158_1, s_158_2, s_158_5, s_158_6, s_158_9, s_158_10, s_158_11, s_158_13, s_158_16, s_158_17, s_158_18, s_158_19, s_158_21, s_158_24, s_158_25, s_158_28, s_158_29, s_158_30, s_158_33, s_158_34, s_158_35, s_158_36, s_158_39, s_158_40, s_158_42, s_158_43, s_158_44, s_158_45, s_158_46, s_158_47, s_158_50, s_158_53, s_158_54, s_158_57, amLong_I, amLong_R, amLong_N, amLong_L, cond_true, cond_false, Option.toList_some, Option.toList_none, List.cons_append, List.nil_append, List.append_nil, setE, setN, cpy_set, lit, nle, nlt, neq, inb_iff, cl_nI, tle, fle, tlt, flt, teq, feq, m9, m3, x9, x3, nI_add, nsub, upN, upE, b0', b01', r100, w100, r101, w101, r102, w102, r103, w103, r104, w104, r105, w105, r106, w106, r107, w107, r108, w108, w109, w110, r111, w111, r112, w112, r113, w113, r114, w114, r115, w115, r116, w116, r117, w117, r118, w118, r119, w119, w120, w121, r122, w122, r130, w130, w131, w132, r133, w133, r134, w134, r135, w135, r136, w136, r137, w137, r138, w138, r139, w139, r140, w140, r141, w141, w142, r143, w143, r144, w144, r145, w145, r146, w146, w147, w150, b1', em1, Bool.false_eq_true, not_true_eq_false, not_false_eq_true, false_implies, true_implies, and_true, true_and, if_true, if_false, implies_true, Classical.not_not, true_or, or_true, false_or, or_false, and_self, ite_true, ite_false, reduceIte, x1', pk_mul, pk_vb, b16, p2]
    rw [h_158_20]
    simp (disch := omega) only [s_158_0, s_158_1, s_158_2, s_158_5, s_158_6, s_158_9, s_158_10, s_158_11, s_158_13, s_158_16, s_158_17, s_158_18, s_158_19, s_158_21, s_158_24, s_158_25, s_158_28, s_158_29, s_158_30, s_158_33, s_158_34, s_158_35, s_158_36, s_158_39, s_158_40, s_158_42, s_158_43, s_158_44, s_158_45, s_158_46, s_158_47, s_158_50, s_158_53, s_158_54, s_158_57, amLong_I, amLong_R, amLong_N, amLong_L, cond_true, cond_false, Option.toList_some, Option.toList_none, List.cons_append, List.nil_append, List.append_nil, setE, setN, cpy_set, lit, nle, nlt, neq, inb_iff, cl_nI, tle, fle, tlt, flt, teq, feq, m9, m3, x9, x3, nI_add, nsub, upN, upE, b0', b01', r100, w100, r101, w101, r102, w102, r103, w103, r104, w104, r105, w105, r106, w106, r107, w107, r108, w108, w109, w110, r111, w111, r112, w112, r113, w113, r114, w114, r115, w115, r116, w116, r117, w117, r118, w118, r119, w119, w120, w121, r122, w122, r130, w130, w131, w132, r133, w133, r134, w134, r135, w135, r136, w136, r137, w137, r138, w138, r139, w139, r140, w140, r141, w141, w142, r143, w143, r144, w144, r145, w145, r146, w146, w147, w150, b1', em1, Bool.false_eq_true, not_true_eq_false, not_false_eq_true, false_implies, true_implies, and_true, true_and, if_true, if_false, implies_true, Classical.not_not, true_or, or_true, false_or, or_false, and_self, ite_true, ite_false, reduceIte, x1', pk_mul, pk_vb, b8, p3]
    rw [h_158_20]
    simp (disch := omega) only [s_158_0, s_158_1, s_158_2, s_158_5, s_158_6, s_158_9, s_158_10, s_158_11, s_158_13, s_158_16, s_158_17, s_158_18, s_158_19, s_158_21, s_158_24, s_158_25, s_158_28, s_158_29, s_158_30, s_158_33, s_158_34, s_158_35, s_158_36, s_158_39, s_158_40, s_158_42, s_158_43, s_158_44, s_158_45, s_158_46, s_158_47, s_158_50, s_158_53, s_158_54, s_158_57, amLong_I, amLong_R, amLong_N, amLong_L, cond_true, cond_false, Option.toList_some, Option.toList_none, List.cons_append, List.nil_append, List.append_nil, setE, setN, cpy_set, lit, nle, nlt, neq, inb_iff, cl_nI, tle, fle, tlt, flt, teq, feq, m9, m3, x9, x3, nI_add, nsub, upN, upE, b0', b01', r100, w100, r101, w101, r102, w102, r103, w103, r104, w104, r105, w105, r106, w106, r107, w107, r108, w108, w109, w110, r111, w111, r112, w112, r113, w113, r114, w114, r115, w115, r116, w116, r117, w117, r118, w118, r119, w119, w120, w121, r122, w122, r130, w130, w131, w132, r133, w133, r134, w134, r135, w135, r136, w136, r137, w137, r138, w138, r139, w139, r140, w140, r141, w141, w142, r143, w143, r144, w144, r145, w145, r146, w146, w147, w150, b1', em1, Bool.false_eq_true, not_true_eq_false, not_false_eq_true, false_implies, true_implies, and_true, true_and, if_true, if_false, implies_true, Classical.not_not, true_or, or_true, false_or, or_false, and_self, ite_true, ite_false, reduceIte, x1', pk_mul, pk_vb, b0, p4]
    rw [h_158_20]
    simp (disch := omega) only [s_158_0, s_158_1, s_158_2, s_158_5, s_158_6, s_158_9, s_158_10, s_158_11, s_158_13, s_158_16, s_158_17, s_158_18, s_158_19, s_158_21, s_158_24, s_158_25, s_158_28, s_158_29, s_158_30, s_158_33, s_158_34, s_158_35, s_158_36, s_158_39, s_158_40, s_158_42, s_158_43, s_158_44, s_158_45, s_158_46, s_158_47, s_158_50, s_158_53, s_158_54, s_158_57, amLong_I, amLong_R, amLong_N, amLong_L, cond_true, cond_false, Option.toList_some, Option.toList_none, List.cons_append, List.nil_append, List.append_nil, setE, setN, cpy_set, lit, nle, nlt, neq, inb_iff, cl_nI, tle, fle, tlt, flt, teq, feq, m9, m3, x9, x3, nI_add, nsub, upN, upE, b0', b01', r100, w100, r101, w101, r102, w102, r103, w103, r104, w104, r105, w105, r106, w106, r107, w107, r108, w108, w109, w110, r111, w111, r112, w112, r113, w113, r114, w114, r115, w115, r116, w116, r117, w117, r118, w118, r119, w119, w120, w121, r122, w122, r130, w130, w131, w132, r133, w133, r134, w134, r135, w135, r136, w136, r137, w137, r138, w138, r139, w139, r140, w140, r141, w141, w142, r143, w143, r144, w144, r145, w145, r146, w146, w147, w150, b1', em1, Bool.false_eq_true, not_true_eq_false, not_false_eq_true, false_implies, true_implies, and_true, true_and, if_true, if_false, implies_true, Classical.not_not, true_or, or_true, false_or, or_false, and_self, ite_true, ite_false, reduceIte, p5]
    obtain ⟨t0, t1, t2, t3⟩ := sgT_n (x := (n, f)) (v := v)
    dsimp only at t0 t1 t2 t3
    refine H _ J (hR.tx (fun c j k z1 z2 z3 => by rw [upN (by omega), upN (by omega), upN (by omega), upN (by omega), upN (by omega), upN (by omega), upN (by omega), upN (by omega), upN (by omega)]) ⟨?_, ?_, fun k hk => ?_⟩) (fun c j k hc => by rw [upN (by omega), upN (by omega), upN (by omega), upN (by omega), upN (by omega), upN (by omega), upN (by omega), upN (by omega), upN (by omega)]) FMJ.rfl
    · rw [upN (by omega), upE ⟨rfl, rfl, rfl⟩]
      rfl
    · show n + 4 ≤ 80
      omega
    · have hk' : k < n + 4 := hk
      by_cases e3 : k = n + 3
      · rw [e3, t3, upE ⟨rfl, rfl, rfl⟩]
      · rw [upN (by omega), upN (by omega)]
        by_cases e2 : k = n + 2
        · rw [e2, t2, upE ⟨rfl, rfl, rfl⟩]
        · rw [upN (by omega), upN (by omega)]
          by_cases e1 : k = n + 1
          · rw [e1, t1, upE ⟨rfl, rfl, rfl⟩]
          · rw [upN (by omega), upN (by omega)]
            by_cases e0 : k = n
            · rw [e0, t0, upE ⟨rfl, rfl, rfl⟩]
            · rw [upN (by omega), upN (by omega), upN (by omega)]
              rw [x3' k (by omega), sgT_o (x := (n, f)) (show k < n by omega)]
  · rw [if_neg c0] at H
    simp (disch := omega) only [s_158_0, s_158_1, s_158_2, s_158_5, s_158_6, s_158_9, s_158_10, s_158_11, s_158_13, s_158_16, s_158_17, s_158_18, s_158_19, s_158_21, s_158_24, s_158_25, s_158_28, s_158_29, s_158_30, s_158_33, s_158_34, s_158_35, s_158_36, s_158_39, s_158_40, s_158_42, s_158_43, s_158_44, s_158_45, s_158_46, s_158_47, s_158_50, s_158_53, s_158_54, s_158_57, amLong_I, amLong_R, amLong_N, amLong_L, cond_true, cond_false, Option.toList_some, Option.toList_none, List.cons_append, List.nil_append, List.append_nil, setE, setN, cpy_set, lit, nle, nlt, neq, inb_iff, cl_nI, tle, fle, tlt, flt, teq, feq, m9, m3, x9, x3, nI_add, nsub, upN, upE, b0', b01', r100, w100, r101, w101, r102, w102, r103, w103, r104, w104, r105, w105, r106, w106, r107, w107, r108, w108, w109, w110, r111, w111, r112, w112, r113, w113, r114, w114, r115, w115, r116, w116, r117, w117, r118, w118, r119, w119, w120, w121, r122, w122, r130, w130, w131, w132, r133, w133, r134, w134, r135, w135, r136, w136, r137, w137, r138, w138, r139, w139, r140, w140, r141, w141, w142, r143, w143, r144, w144, r145, w145, r146, w146, w147, w150, b1', em1, Bool.false_eq_true, not_true_eq_false, not_false_eq_true, false_implies, true_implies, and_true, true_and, if_true, if_false, implies_true, Classical.not_not, true_or, or_true, false_or, or_false, and_self, ite_true, ite_false, reduceIte, x1']
    exact H _ J (hR.s hK0 (fun _ => rfl)) hK0.fm FMJ.rfl
theorem en_n {n : Nat} {m : Int32} (hn : n ≤ 80) (h : nI 0 ≤ m ∧ m ≤ nI n) : ∃ k, k ≤ n ∧ m = nI k := by
  have h2 := h.2
  rw [Int32.le_iff_toInt_le, nI_toInt (by omega)] at h2
  obtain ⟨k, hk, rfl⟩ := (in_iff (n := n + 1) (by omega)).mp ⟨h.1, by
    rw [Int32.lt_iff_toInt_lt, nI_toInt (by omega)]
    omega⟩
  exact ⟨k, by omega, rfl⟩
theorem k18 {A : Sta} {m : Int32} (hR : RC M J A) (hW : WF A) (H : ∀ M1 J1, RC M1 J1 (oEn A m).2 → FC M M1 → FCJ J J1 → Q (some (vI (oEn A m).1)) (M1, J1, (jk, 149, 147, X))) : Call (d + 1) 18 [vR 11 0, vI m] (M, J, (jk, 149, 147, X)) Q := by
  obtain ⟨x1', x2', x3'⟩ : TX M A.2.2.2.1 := hR.2.2.2.1
  obtain ⟨G0, U, S, ⟨n, f⟩, r⟩ := A
  dsimp only at x1' x2' x3'
  unfold oEn at H
  dsimp only at H
  rw [e_18]
  by_cases c0 : nI 0 ≤ m ∧ m ≤ nI n
  · rw [if_pos c0] at H
    obtain ⟨m, hm, rfl⟩ := en_n x2' c0
    rw [cl_nI (by omega)] at H
    simp (disch := omega) only [s_18_0, s_18_1, s_18_4, s_18_5, s_18_6, s_18_9, s_18_12, s_18_15, s_18_16, s_18_17, s_18_18, s_18_21, s_18_22, s_18_25, s_18_26, amLong_I, amLong_R, amLong_N, amLong_L, cond_true, cond_false, Option.toList_some, Option.toList_none, List.cons_append, List.nil_append, List.append_nil, setE, setN, cpy_set, lit, nle, nlt, neq, inb_iff, cl_nI, tle, fle, tlt, flt, teq, feq, m9, m3, x9, x3, nI_add, nsub, upN, upE, b0', b01', r100, w100, r101, w101, r102, w102, r103, w103, r104, w104, r105, w105, r106, w106, r107, w107, r108, w108, w109, w110, r111, w111, r112, w112, r113, w113, r114, w114, r115, w115, r116, w116, r117, w117, r118, w118, r119, w119, w120, w121, r122, w122, r130, w130, w131, w132, r133, w133, r134, w134, r135, w135, r136, w136, r137, w137, r138, w138, r139, w139, r140, w140, r141, w141, w142, r143, w143, r144, w144, r145, w145, r146, w146, w147, w150, b1', em1, Bool.false_eq_true, not_true_eq_false, not_false_eq_true, false_implies, true_implies, and_true, true_and, if_true, if_false, implies_true, Classical.not_not, true_or, or_true, false_or, or_false, and_self, ite_true, ite_false, reduceIte, x1']
    refine H _ J (hR.tx (fun c j k z1 z2 => upN (by omega)) ⟨upE ⟨rfl, rfl, rfl⟩, ?_, fun k hk => ?_⟩) (fun c j k hc => upN (by omega)) FCJ.rfl
    · show m ≤ 80
      omega
    · have hk' : k < m := hk
      rw [upN (by omega), x3' k (by omega)]
  · rw [if_neg c0] at H
    by_cases c1 : m < nI 0
    · simp (disch := omega) only [s_18_0, s_18_1, s_18_4, s_18_5, s_18_6, s_18_9, s_18_12, s_18_15, s_18_16, s_18_17, s_18_18, s_18_21, s_18_22, s_18_25, s_18_26, amLong_I, amLong_R, amLong_N, amLong_L, cond_true, cond_false, Option.toList_some, Option.toList_none, List.cons_append, List.nil_append, List.append_nil, setE, setN, cpy_set, lit, nle, nlt, neq, inb_iff, cl_nI, tle, fle, tlt, flt, teq, feq, m9, m3, x9, x3, nI_add, nsub, upN, upE, b0', b01', r100, w100, r101, w101, r102, w102, r103, w103, r104, w104, r105, w105, r106, w106, r107, w107, r108, w108, w109, w110, r111, w111, r112, w112, r113, w113, r114, w114, r115, w115, r116, w116, r117, w117, r118, w118, r119, w119, w120, w121, r122, w122, r130, w130, w131, w132, r133, w133, r134, w134, r135, w135, r136, w136, r137, w137, r138, w138, r139, w139, r140, w140, r141, w141, w142, r143, w143, r144, w144, r145, w145, r146, w146, w147, w150, b1', em1, Bool.false_eq_true, not_true_eq_false, not_false_eq_true, false_implies, true_implies, and_true, true_and, if_true, if_false, implies_true, Classical.not_not, true_or, or_true, false_or, or_false, and_self, ite_true, ite_false, reduceIte, c1]
      exact H M J hR FC.rfl FCJ.rfl
    · have c2 : ¬ m ≤ nI n := fun z => c0 ⟨Int32.not_lt.mp c1, z⟩
      simp (disch := omega) only [s_18_0, s_18_1, s_18_4, s_18_5, s_18_6, s_18_9, s_18_12, s_18_15, s_18_16, s_18_17, s_18_18, s_18_21, s_18_22, s_18_25, s_18_26, amLong_I, amLong_R, amLong_N, amLong_L, cond_true, cond_false, Option.toList_some, Option.toList_none, List.cons_append, List.nil_append, List.append_nil, setE, setN, cpy_set, lit, nle, nlt, neq, inb_iff, cl_nI, tle, fle, tlt, flt, teq, feq, m9, m3, x9, x3, nI_add, nsub, upN, upE, b0', b01', r100, w100, r101, w101, r102, w102, r103, w103, r104, w104, r105, w105, r106, w106, r107, w107, r108, w108, w109, w110, r111, w111, r112, w112, r113, w113, r114, w114, r115, w115, r116, w116, r117, w117, r118, w118, r119, w119, w120, w121, r122, w122, r130, w130, w131, w132, r133, w133, r134, w134, r135, w135, r136, w136, r137, w137, r138, w138, r139, w139, r140, w140, r141, w141, w142, r143, w143, r144, w144, r145, w145, r146, w146, w147, w150, b1', em1, Bool.false_eq_true, not_true_eq_false, not_false_eq_true, false_implies, true_implies, and_true, true_and, if_true, if_false, implies_true, Classical.not_not, true_or, or_true, false_or, or_false, and_self, ite_true, ite_false, reduceIte, x1', c1, c2]
      exact H M J hR FC.rfl FCJ.rfl
theorem n159 {A : Sta} {m : Int32} (hR : RM M J A) (hW : WF A) (H : ∀ M1 J1, RM M1 J1 (oEn A m).2 → FM M M1 → FMJ J J1 → Q (some (vI (oEn A m).1)) (M1, J1, (jk, 149, 147, X))) : Call (d + 2) 159 [vR 12 0, vI m] (M, J, (jk, 149, 147, X)) Q := by
  have hK0 : Kp M (upM M 1605 0 0 (nI 0)) := thr
  obtain ⟨x1', x2', x3'⟩ : Mt M A.2.2.2.1 := hR.2.2.2.1
  obtain ⟨G0, U, S, ⟨n, f⟩, r⟩ := A
  dsimp only at x1' x2' x3'
  unfold oEn at H
  dsimp only at H
  rw [e_159]
  by_cases c0 : nI 0 ≤ m ∧ m ≤ nI n
  · rw [if_pos c0] at H
    have c1 := c0
    obtain ⟨m, hm, rfl⟩ := en_n x2' c0
    rw [cl_nI (by omega)] at H
    simp (disch := omega) only [s_159_0, s_159_1, s_159_2, s_159_5, s_159_6, s_159_7, s_159_8, s_159_11, s_159_14, s_159_17, s_159_18, s_159_19, s_159_20, s_159_21, s_159_24, s_159_25, amLong_I, amLong_R, amLong_N, amLong_L, cond_true, cond_false, Option.toList_some, Option.toList_none, List.cons_append, List.nil_append, List.append_nil, setE, setN, cpy_set, lit, nle, nlt, neq, inb_iff, cl_nI, tle, fle, tlt, flt, teq, feq, m9, m3, x9, x3, nI_add, nsub, upN, upE, b0', b01', r100, w100, r101, w101, r102, w102, r103, w103, r104, w104, r105, w105, r106, w106, r107, w107, r108, w108, w109, w110, r111, w111, r112, w112, r113, w113, r114, w114, r115, w115, r116, w116, r117, w117, r118, w118, r119, w119, w120, w121, r122, w122, r130, w130, w131, w132, r133, w133, r134, w134, r135, w135, r136, w136, r137, w137, r138, w138, r139, w139, r140, w140, r141, w141, w142, r143, w143, r144, w144, r145, w145, r146, w146, w147, w150, b1', em1, Bool.false_eq_true, not_true_eq_false, not_false_eq_true, false_implies, true_implies, and_true, true_and, if_true, if_false, implies_true, Classical.not_not, true_or, or_true, false_or, or_false, and_self, ite_true, ite_false, reduceIte, x1', m160, c1]
    refine H _ J (hR.tx (fun c j k z1 z2 z3 => by rw [upN (by omega), upN (by omega)]) ⟨upE ⟨rfl, rfl, rfl⟩, ?_, fun k hk => ?_⟩) (fun c j k hc => by rw [upN (by omega), upN (by omega)]) FMJ.rfl
    · show m ≤ 80
      omega
    · have hk' : k < m := hk
      rw [upN (by omega), upN (by omega), x3' k (by omega)]
  · rw [if_neg c0] at H
    simp (disch := omega) only [s_159_0, s_159_1, s_159_2, s_159_5, s_159_6, s_159_7, s_159_8, s_159_11, s_159_14, s_159_17, s_159_18, s_159_19, s_159_20, s_159_21, s_159_24, s_159_25, amLong_I, amLong_R, amLong_N, amLong_L, cond_true, cond_false, Option.toList_some, Option.toList_none, List.cons_append, List.nil_append, List.append_nil, setE, setN, cpy_set, lit, nle, nlt, neq, inb_iff, cl_nI, tle, fle, tlt, flt, teq, feq, m9, m3, x9, x3, nI_add, nsub, upN, upE, b0', b01', r100, w100, r101, w101, r102, w102, r103, w103, r104, w104, r105, w105, r106, w106, r107, w107, r108, w108, w109, w110, r111, w111, r112, w112, r113, w113, r114, w114, r115, w115, r116, w116, r117, w117, r118, w118, r119, w119, w120, w121, r122, w122, r130, w130, w131, w132, r133, w133, r134, w134, r135, w135, r136, w136, r137, w137, r138, w138, r139, w139, r140, w140, r141, w141, w142, r143, w143, r144, w144, r145, w145, r146, w146, w147, w150, b1', em1, Bool.false_eq_true, not_true_eq_false, not_false_eq_true, false_implies, true_implies, and_true, true_and, if_true, if_false, implies_true, Classical.not_not, true_or, or_true, false_or, or_false, and_self, ite_true, ite_false, reduceIte, x1', m160, c0]
    exact H _ J (hR.s hK0 (fun _ => rfl)) hK0.fm FMJ.rfl
end SGN
