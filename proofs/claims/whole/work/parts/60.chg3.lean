/-! changes: the reference's way -/
theorem lg_lt {x y : Int64} : lg_cmp x y < nI 0 ↔ x < y := by
  unfold lg_cmp
  by_cases h1 : x > y
  · rw [if_pos h1]
    refine ⟨fun z => absurd z (by decide), fun z => ?_⟩
    rw [Int64.lt_iff_toInt_lt] at z
    have h1' : y < x := h1
    rw [Int64.lt_iff_toInt_lt] at h1'
    omega
  · rw [if_neg h1]
    by_cases h2 : x = y
    · rw [if_pos h2]
      refine ⟨fun z => absurd z (by decide), fun z => ?_⟩
      rw [h2, Int64.lt_iff_toInt_lt] at z
      omega
    · rw [if_neg h2]
      refine ⟨fun _ => ?_, fun _ => by decide⟩
      have h1' : ¬ y < x := h1
      rw [Int64.lt_iff_toInt_lt] at h1' ⊢
      have : x.toInt ≠ y.toInt := fun z => h2 (Int64.toInt_inj.mp z)
      omega
theorem lg_le {x y : Int64} : lg_cmp x y ≤ nI 0 ↔ x ≤ y := by
  unfold lg_cmp
  by_cases h1 : x > y
  · rw [if_pos h1]
    refine ⟨fun z => absurd z (by decide), fun z => ?_⟩
    have h1' : y < x := h1
    rw [Int64.lt_iff_toInt_lt] at h1'
    rw [Int64.le_iff_toInt_le] at z
    omega
  · rw [if_neg h1]
    have h1' : ¬ y < x := h1
    rw [Int64.lt_iff_toInt_lt] at h1'
    refine ⟨fun _ => ?_, fun _ => by split <;> decide⟩
    rw [Int64.le_iff_toInt_le]
    omega
theorem lg_eq {x y : Int64} : lg_cmp x y = nI 0 ↔ x = y := by
  unfold lg_cmp
  by_cases h1 : x > y
  · rw [if_pos h1]
    refine ⟨fun z => absurd z (by decide), fun z => ?_⟩
    have h1' : y < x := h1
    rw [z, Int64.lt_iff_toInt_lt] at h1'
    omega
  · rw [if_neg h1]
    by_cases h2 : x = y
    · rw [if_pos h2]
      exact ⟨fun _ => h2, fun _ => rfl⟩
    · rw [if_neg h2]
      exact ⟨fun z => absurd z (by decide), fun z => absurd z h2⟩
theorem bm64 {x : Int} (h1 : -9223372036854775808 ≤ x) (h2 : x < 9223372036854775808) : x.bmod (2 ^ 64) = x := by
  rw [Int.bmod_def, show ((2 ^ 64 : Nat) : Int) = 18446744073709551616 from rfl]
  split <;> omega
theorem l_add {a b : Int32} : (a.toInt64 + b.toInt64).toInt = a.toInt + b.toInt := by
  have h1 := a.le_toInt
  have h2 := a.toInt_lt
  have h3 := b.le_toInt
  have h4 := b.toInt_lt
  rw [Int64.toInt_add, Int32.toInt_toInt64, Int32.toInt_toInt64, bm64 (by omega) (by omega)]
def UM (M : amM) (U : List Gm) : Prop := M 1629 0 0 = nI U.length ∧ U.length ≤ 8 ∧ ∀ n G, U[n]? = some G → ∀ k, k < 40 → M 143 0 (40 * n + k) = img G k
section CHG3
variable {d g t jk X sh : Nat} {M M1 M2 : amM} {J J1 J2 : amJ} {Q : Option amV → amS → Prop} {pay tok tk : Nat → Int32}
theorem UM.lt {U : List Gm} {n : Nat} {G : Gm} (h : U[n]? = some G) : n < U.length := by
  rcases Nat.lt_or_ge n U.length with z | z
  · exact z
  · rw [List.getElem?_eq_none z] at h
    cases h
theorem m170b {U : List Gm} {G : Gm} {l0 : Option amV} (hU : UM M U) (h8 : U.length < 8) (hw : ∀ k, k < 40 → M 144 0 k = img G k) (H : ∀ M1, (∀ c j k, c ≠ 143 → c ≠ 1629 → M1 c j k = M c j k) → UM M1 (U ++ [G]) → Q none (M1, J, (jk, 149, 147, X))) : Ev d 170 51 [some (vR 12 0), some (vI (nI 0))] [] (M, J, (jk, 149, 147, X)) Q := by
  obtain ⟨u1, u2, u3⟩ := hU
  refine lpH (T := Unit) (U := Unit) (P := 40) (E := fun k M1 J1 u x => Ev (d) 170 51 [some (vR 12 (0)), some (vI (nI k))] [] (M1, J1, (jk, 149, 147, X)) Q) (I := fun k M1 J1 _ => J = J1 ∧ (∀ c j x, c ≠ 143 → M1 c j x = M c j x) ∧ (∀ x, x < 40 * U.length → M1 143 0 x = M 143 0 x) ∧ ∀ x, x < k → M1 143 0 (40 * U.length + x) = img G x) (fun M1 J1 u x hI => ?_) (fun k M1 J1 u x hk hI next => ?_) 0 _ _ () () (by omega) ⟨rfl, fun _ _ _ _ => rfl, fun _ _ => rfl, no_lt _⟩
  · obtain ⟨rfl, i1, i2, i3⟩ := hI
    have e : M1 1629 0 0 = nI U.length := by rw [i1 _ _ _ (by omega), u1]
    rw [h_170_51]
    simp (disch := omega) only [s_170_0, s_170_1, s_170_4, s_170_6, s_170_9, s_170_10, s_170_12, s_170_15, s_170_18, s_170_19, s_170_22, s_170_23, s_170_24, s_170_27, s_170_28, s_170_30, s_170_31, s_170_32, s_170_33, s_170_36, s_170_39, s_170_40, s_170_41, s_170_44, s_170_45, s_170_46, s_170_49, s_170_50, s_170_52, s_170_54, s_170_57, s_170_58, s_170_61, s_170_63, s_170_64, s_170_67, s_170_68, s_170_69, s_170_70, s_170_71, s_170_74, s_170_75, s_170_76, s_170_77, s_170_80, s_170_83, s_170_84, s_170_85, s_170_88, s_170_89, s_170_90, s_170_93, amLong_I, amLong_R, amLong_N, amLong_L, cond_true, cond_false, Option.toList_some, Option.toList_none, List.cons_append, List.nil_append, List.append_nil, setE, setN, cpy_set, lit, nle, nlt, neq, inb_iff, cl_nI, tle, fle, tlt, flt, teq, feq, m9, m3, x9, x3, nI_add, nsub, upN, upE, b0', b01', r100, w100, r101, w101, r102, w102, r103, w103, r104, w104, r105, w105, r106, w106, r107, w107, r108, w108, w109, w110, r111, w111, r112, w112, r113, w113, r114, w114, r115, w115, r116, w116, r117, w117, r118, w118, r119, w119, w120, w121, r122, w122, r130, w130, w131, w132, r133, w133, r134, w134, r135, w135, r136, w136, r137, w137, r138, w138, r139, w139, r140, w140, r141, w141, w142, r143, w143, r144, w144, r145, w145, r146, w146, w147, w150, b1', em1, Bool.false_eq_true, not_true_eq_false, not_false_eq_true, false_implies, true_implies, and_true, true_and, if_true, if_false, implies_true, Classical.not_not, true_or, or_true, false_or, or_false, and_self, ite_true, ite_false, reduceIte, e]
    refine H _ (fun c j k a b => by rw [upN (by omega), i1 c j k a]) ⟨?_, by simp; omega, fun n G' hn k hk => ?_⟩
    · rw [upE ⟨rfl, rfl, rfl⟩]
      simp
    · have hl := UM.lt hn
      rw [List.length_append, List.length_singleton] at hl
      rw [upN (by omega)]
      by_cases e2 : n < U.length
      · rw [List.getElem?_append_left e2] at hn
        rw [i2 _ (by omega), u3 n G' hn k hk]
      · have e3 : n = U.length := by omega
        subst e3
        simp at hn
        subst hn
        exact i3 k hk
  · obtain ⟨rfl, i1, i2, i3⟩ := hI
    have e : M1 1629 0 0 = nI U.length := by rw [i1 _ _ _ (by omega), u1]
    have e2 : M1 144 0 k = img G k := by rw [i1 _ _ _ (by omega), hw k hk]
    rw [h_170_51]
    simp (disch := omega) only [s_170_0, s_170_1, s_170_4, s_170_6, s_170_9, s_170_10, s_170_12, s_170_15, s_170_18, s_170_19, s_170_22, s_170_23, s_170_24, s_170_27, s_170_28, s_170_30, s_170_31, s_170_32, s_170_33, s_170_36, s_170_39, s_170_40, s_170_41, s_170_44, s_170_45, s_170_46, s_170_49, s_170_50, s_170_52, s_170_54, s_170_57, s_170_58, s_170_61, s_170_63, s_170_64, s_170_67, s_170_68, s_170_69, s_170_70, s_170_71, s_170_74, s_170_75, s_170_76, s_170_77, s_170_80, s_170_83, s_170_84, s_170_85, s_170_88, s_170_89, s_170_90, s_170_93, amLong_I, amLong_R, amLong_N, amLong_L, cond_true, cond_false, Option.toList_some, Option.toList_none, List.cons_append, List.nil_append, List.append_nil, setE, setN, cpy_set, lit, nle, nlt, neq, inb_iff, cl_nI, tle, fle, tlt, flt, teq, feq, m9, m3, x9, x3, nI_add, nsub, upN, upE, b0', b01', r100, w100, r101, w101, r102, w102, r103, w103, r104, w104, r105, w105, r106, w106, r107, w107, r108, w108, w109, w110, r111, w111, r112, w112, r113, w113, r114, w114, r115, w115, r116, w116, r117, w117, r118, w118, r119, w119, w120, w121, r122, w122, r130, w130, w131, w132, r133, w133, r134, w134, r135, w135, r136, w136, r137, w137, r138, w138, r139, w139, r140, w140, r141, w141, w142, r143, w143, r144, w144, r145, w145, r146, w146, w147, w150, b1', em1, Bool.false_eq_true, not_true_eq_false, not_false_eq_true, false_implies, true_implies, and_true, true_and, if_true, if_false, implies_true, Classical.not_not, true_or, or_true, false_or, or_false, and_self, ite_true, ite_false, reduceIte, e, e2, pk_mul]
    refine next _ _ () () ⟨rfl, fun c j x a => by rw [upN (by omega), i1 c j x a], fun x hx => by rw [upN (by omega), i2 x hx], fun x hx => ?_⟩
    by_cases e3 : x = k
    · rw [upE ⟨rfl, rfl, by omega⟩, e3]
    · rw [upN (by omega), i3 x (by omega)]
theorem m170 {U : List Gm} {G : Gm} (hU : UM M U) (hw : ∀ k, k < 40 → M 144 0 k = img G k) (H : ∀ M1, (∀ c j k, c ≠ 143 → c ≠ 1629 → M1 c j k = M c j k) → UM M1 (pushU U G) → Q none (M1, J, (jk, 149, 147, X))) : Call (d + 1) 170 [vR 12 0] (M, J, (jk, 149, 147, X)) Q := by
  have hU' := hU
  obtain ⟨u1, u2, u3⟩ := hU
  unfold pushU at H
  rw [e_170]
  by_cases e : U.length < 8
  · rw [if_pos e] at H
    have ne : ¬ U.length = 8 := by omega
    simp (disch := omega) only [s_170_0, s_170_1, s_170_4, s_170_6, s_170_9, s_170_10, s_170_12, s_170_15, s_170_18, s_170_19, s_170_22, s_170_23, s_170_24, s_170_27, s_170_28, s_170_30, s_170_31, s_170_32, s_170_33, s_170_36, s_170_39, s_170_40, s_170_41, s_170_44, s_170_45, s_170_46, s_170_49, s_170_50, s_170_52, s_170_54, s_170_57, s_170_58, s_170_61, s_170_63, s_170_64, s_170_67, s_170_68, s_170_69, s_170_70, s_170_71, s_170_74, s_170_75, s_170_76, s_170_77, s_170_80, s_170_83, s_170_84, s_170_85, s_170_88, s_170_89, s_170_90, s_170_93, amLong_I, amLong_R, amLong_N, amLong_L, cond_true, cond_false, Option.toList_some, Option.toList_none, List.cons_append, List.nil_append, List.append_nil, setE, setN, cpy_set, lit, nle, nlt, neq, inb_iff, cl_nI, tle, fle, tlt, flt, teq, feq, m9, m3, x9, x3, nI_add, nsub, upN, upE, b0', b01', r100, w100, r101, w101, r102, w102, r103, w103, r104, w104, r105, w105, r106, w106, r107, w107, r108, w108, w109, w110, r111, w111, r112, w112, r113, w113, r114, w114, r115, w115, r116, w116, r117, w117, r118, w118, r119, w119, w120, w121, r122, w122, r130, w130, w131, w132, r133, w133, r134, w134, r135, w135, r136, w136, r137, w137, r138, w138, r139, w139, r140, w140, r141, w141, w142, r143, w143, r144, w144, r145, w145, r146, w146, w147, w150, b1', em1, Bool.false_eq_true, not_true_eq_false, not_false_eq_true, false_implies, true_implies, and_true, true_and, if_true, if_false, implies_true, Classical.not_not, true_or, or_true, false_or, or_false, and_self, ite_true, ite_false, reduceIte, u1, ne]
    exact m170b (l0 := none) hU' e hw H
  · have e8 : U.length = 8 := by omega
    rw [if_neg e] at H
    rw [e8] at u1
    simp (disch := omega) only [s_170_0, s_170_1, s_170_4, s_170_6, s_170_9, s_170_10, s_170_12, s_170_15, s_170_18, s_170_19, s_170_22, s_170_23, s_170_24, s_170_27, s_170_28, s_170_30, s_170_31, s_170_32, s_170_33, s_170_36, s_170_39, s_170_40, s_170_41, s_170_44, s_170_45, s_170_46, s_170_49, s_170_50, s_170_52, s_170_54, s_170_57, s_170_58, s_170_61, s_170_63, s_170_64, s_170_67, s_170_68, s_170_69, s_170_70, s_170_71, s_170_74, s_170_75, s_170_76, s_170_77, s_170_80, s_170_83, s_170_84, s_170_85, s_170_88, s_170_89, s_170_90, s_170_93, amLong_I, amLong_R, amLong_N, amLong_L, cond_true, cond_false, Option.toList_some, Option.toList_none, List.cons_append, List.nil_append, List.append_nil, setE, setN, cpy_set, lit, nle, nlt, neq, inb_iff, cl_nI, tle, fle, tlt, flt, teq, feq, m9, m3, x9, x3, nI_add, nsub, upN, upE, b0', b01', r100, w100, r101, w101, r102, w102, r103, w103, r104, w104, r105, w105, r106, w106, r107, w107, r108, w108, w109, w110, r111, w111, r112, w112, r113, w113, r114, w114, r115, w115, r116, w116, r117, w117, r118, w118, r119, w119, w120, w121, r122, w122, r130, w130, w131, w132, r133, w133, r134, w134, r135, w135, r136, w136, r137, w137, r138, w138, r139, w139, r140, w140, r141, w141, w142, r143, w143, r144, w144, r145, w145, r146, w146, w147, w150, b1', em1, Bool.false_eq_true, not_true_eq_false, not_false_eq_true, false_implies, true_implies, and_true, true_and, if_true, if_false, implies_true, Classical.not_not, true_or, or_true, false_or, or_false, and_self, ite_true, ite_false, reduceIte, u1]
    refine lpH (T := Unit) (U := Unit) (P := 280) (E := fun k M1 J1 u x => Ev (d) 170 11 [some (vR 12 (0)), some (vI (nI k))] [] (M1, J1, (jk, 149, 147, X)) Q) (I := fun k M1 J1 _ => J = J1 ∧ (∀ c j x, c ≠ 143 → M1 c j x = M c j x) ∧ (∀ x, x < k → M1 143 0 x = M 143 0 (x + 40)) ∧ ∀ x, k ≤ x → M1 143 0 x = M 143 0 x) (fun M1 J1 u x hI => ?_) (fun k M1 J1 u x hk hI next => ?_) 0 _ _ () () (by omega) ⟨rfl, fun _ _ _ _ => rfl, no_lt _, fun _ _ => rfl⟩
    · obtain ⟨rfl, i1, i2, i3⟩ := hI
      have e1 : M1 1629 0 0 = nI 8 := by rw [i1 _ _ _ (by omega), u1]
      rw [h_170_11]
      simp (disch := omega) only [s_170_0, s_170_1, s_170_4, s_170_6, s_170_9, s_170_10, s_170_12, s_170_15, s_170_18, s_170_19, s_170_22, s_170_23, s_170_24, s_170_27, s_170_28, s_170_30, s_170_31, s_170_32, s_170_33, s_170_36, s_170_39, s_170_40, s_170_41, s_170_44, s_170_45, s_170_46, s_170_49, s_170_50, s_170_52, s_170_54, s_170_57, s_170_58, s_170_61, s_170_63, s_170_64, s_170_67, s_170_68, s_170_69, s_170_70, s_170_71, s_170_74, s_170_75, s_170_76, s_170_77, s_170_80, s_170_83, s_170_84, s_170_85, s_170_88, s_170_89, s_170_90, s_170_93, amLong_I, amLong_R, amLong_N, amLong_L, cond_true, cond_false, Option.toList_some, Option.toList_none, List.cons_append, List.nil_append, List.append_nil, setE, setN, cpy_set, lit, nle, nlt, neq, inb_iff, cl_nI, tle, fle, tlt, flt, teq, feq, m9, m3, x9, x3, nI_add, nsub, upN, upE, b0', b01', r100, w100, r101, w101, r102, w102, r103, w103, r104, w104, r105, w105, r106, w106, r107, w107, r108, w108, w109, w110, r111, w111, r112, w112, r113, w113, r114, w114, r115, w115, r116, w116, r117, w117, r118, w118, r119, w119, w120, w121, r122, w122, r130, w130, w131, w132, r133, w133, r134, w134, r135, w135, r136, w136, r137, w137, r138, w138, r139, w139, r140, w140, r141, w141, w142, r143, w143, r144, w144, r145, w145, r146, w146, w147, w150, b1', em1, Bool.false_eq_true, not_true_eq_false, not_false_eq_true, false_implies, true_implies, and_true, true_and, if_true, if_false, implies_true, Classical.not_not, true_or, or_true, false_or, or_false, and_self, ite_true, ite_false, reduceIte, e1]
      refine m170b (U := U.tail) (G := G) (l0 := none) ⟨?_, by rw [List.length_tail]; omega, fun n G' hn k hk => ?_⟩ (by rw [List.length_tail]; omega) (fun k hk => by rw [upN (by omega), i1 _ _ _ (by omega), hw k hk]) (fun M2 f1 f2 => H M2 (fun c j k a b => by rw [f1 c j k a b, upN (by omega), i1 c j k a]) f2)
      · rw [upE ⟨rfl, rfl, rfl⟩, List.length_tail, e8]
      · have hl := UM.lt hn
        rw [List.length_tail] at hl
        rw [List.getElem?_tail] at hn
        rw [upN (by omega), i2 _ (by omega), ← u3 (n + 1) G' hn k hk]
        congr 1
        omega
    · obtain ⟨rfl, i1, i2, i3⟩ := hI
      rw [h_170_11]
      simp (disch := omega) only [s_170_0, s_170_1, s_170_4, s_170_6, s_170_9, s_170_10, s_170_12, s_170_15, s_170_18, s_170_19, s_170_22, s_170_23, s_170_24, s_170_27, s_170_28, s_170_30, s_170_31, s_170_32, s_170_33, s_170_36, s_170_39, s_170_40, s_170_41, s_170_44, s_170_45, s_170_46, s_170_49, s_170_50, s_170_52, s_170_54, s_170_57, s_170_58, s_170_61, s_170_63, s_170_64, s_170_67, s_170_68, s_170_69, s_170_70, s_170_71, s_170_74, s_170_75, s_170_76, s_170_77, s_170_80, s_170_83, s_170_84, s_170_85, s_170_88, s_170_89, s_170_90, s_170_93, amLong_I, amLong_R, amLong_N, amLong_L, cond_true, cond_false, Option.toList_some, Option.toList_none, List.cons_append, List.nil_append, List.append_nil, setE, setN, cpy_set, lit, nle, nlt, neq, inb_iff, cl_nI, tle, fle, tlt, flt, teq, feq, m9, m3, x9, x3, nI_add, nsub, upN, upE, b0', b01', r100, w100, r101, w101, r102, w102, r103, w103, r104, w104, r105, w105, r106, w106, r107, w107, r108, w108, w109, w110, r111, w111, r112, w112, r113, w113, r114, w114, r115, w115, r116, w116, r117, w117, r118, w118, r119, w119, w120, w121, r122, w122, r130, w130, w131, w132, r133, w133, r134, w134, r135, w135, r136, w136, r137, w137, r138, w138, r139, w139, r140, w140, r141, w141, w142, r143, w143, r144, w144, r145, w145, r146, w146, w147, w150, b1', em1, Bool.false_eq_true, not_true_eq_false, not_false_eq_true, false_implies, true_implies, and_true, true_and, if_true, if_false, implies_true, Classical.not_not, true_or, or_true, false_or, or_false, and_self, ite_true, ite_false, reduceIte]
      refine next _ _ () () ⟨rfl, fun c j x a => by rw [upN (by omega), i1 c j x a], fun x hx => ?_, fun x hx => by rw [upN (by omega), i3 x (by omega)]⟩
      by_cases e3 : x = k
      · rw [upE ⟨rfl, rfl, e3⟩, i3 _ (by omega), e3]
      · rw [upN (by omega), i2 x (by omega)]
theorem m169 {G : Gm} (hG : ∀ k, k < 40 → M 130 0 k = img G k) (H : ∀ M1, (∀ c j k, c ≠ 144 → M1 c j k = M c j k) → (∀ k, k < 40 → M1 144 0 k = img G k) → Q none (M1, J, (jk, 149, 147, X))) : Call (d + 1) 169 [vR 12 0] (M, J, (jk, 149, 147, X)) Q := by
  rw [e_169]
  simp (disch := omega) only [s_169_0, s_169_1, s_169_3, s_169_5, s_169_8, s_169_9, s_169_12, s_169_13, s_169_14, s_169_17, s_169_18, s_169_19, s_169_20, s_169_23, s_169_26, amLong_I, amLong_R, amLong_N, amLong_L, cond_true, cond_false, Option.toList_some, Option.toList_none, List.cons_append, List.nil_append, List.append_nil, setE, setN, cpy_set, lit, nle, nlt, neq, inb_iff, cl_nI, tle, fle, tlt, flt, teq, feq, m9, m3, x9, x3, nI_add, nsub, upN, upE, b0', b01', r100, w100, r101, w101, r102, w102, r103, w103, r104, w104, r105, w105, r106, w106, r107, w107, r108, w108, w109, w110, r111, w111, r112, w112, r113, w113, r114, w114, r115, w115, r116, w116, r117, w117, r118, w118, r119, w119, w120, w121, r122, w122, r130, w130, w131, w132, r133, w133, r134, w134, r135, w135, r136, w136, r137, w137, r138, w138, r139, w139, r140, w140, r141, w141, w142, r143, w143, r144, w144, r145, w145, r146, w146, w147, w150, b1', em1, Bool.false_eq_true, not_true_eq_false, not_false_eq_true, false_implies, true_implies, and_true, true_and, if_true, if_false, implies_true, Classical.not_not, true_or, or_true, false_or, or_false, and_self, ite_true, ite_false, reduceIte]
  refine lpH (T := Unit) (U := Unit) (P := 40) (E := fun k M1 J1 u x => Ev (d) 169 2 [some (vR 12 (0)), some (vI (nI k))] [] (M1, J1, (jk, 149, 147, X)) Q) (I := fun k M1 J1 _ => J = J1 ∧ (∀ c j k, c ≠ 144 → M1 c j k = M c j k) ∧ ∀ x, x < k → M1 144 0 x = img G x) (fun M1 J1 u x hI => ?_) (fun k M1 J1 u x hk hI next => ?_) 0 _ _ () () (by omega) ⟨rfl, fun _ _ _ _ => rfl, no_lt _⟩
  · obtain ⟨rfl, i1, i2⟩ := hI
    rw [h_169_2]
    simp (disch := omega) only [s_169_0, s_169_1, s_169_3, s_169_5, s_169_8, s_169_9, s_169_12, s_169_13, s_169_14, s_169_17, s_169_18, s_169_19, s_169_20, s_169_23, s_169_26, amLong_I, amLong_R, amLong_N, amLong_L, cond_true, cond_false, Option.toList_some, Option.toList_none, List.cons_append, List.nil_append, List.append_nil, setE, setN, cpy_set, lit, nle, nlt, neq, inb_iff, cl_nI, tle, fle, tlt, flt, teq, feq, m9, m3, x9, x3, nI_add, nsub, upN, upE, b0', b01', r100, w100, r101, w101, r102, w102, r103, w103, r104, w104, r105, w105, r106, w106, r107, w107, r108, w108, w109, w110, r111, w111, r112, w112, r113, w113, r114, w114, r115, w115, r116, w116, r117, w117, r118, w118, r119, w119, w120, w121, r122, w122, r130, w130, w131, w132, r133, w133, r134, w134, r135, w135, r136, w136, r137, w137, r138, w138, r139, w139, r140, w140, r141, w141, w142, r143, w143, r144, w144, r145, w145, r146, w146, w147, w150, b1', em1, Bool.false_eq_true, not_true_eq_false, not_false_eq_true, false_implies, true_implies, and_true, true_and, if_true, if_false, implies_true, Classical.not_not, true_or, or_true, false_or, or_false, and_self, ite_true, ite_false, reduceIte]
    exact H M1 i1 i2
  · obtain ⟨rfl, i1, i2⟩ := hI
    have e : M1 130 0 k = img G k := by rw [i1 _ _ _ (by omega), hG k hk]
    rw [h_169_2]
    simp (disch := omega) only [s_169_0, s_169_1, s_169_3, s_169_5, s_169_8, s_169_9, s_169_12, s_169_13, s_169_14, s_169_17, s_169_18, s_169_19, s_169_20, s_169_23, s_169_26, amLong_I, amLong_R, amLong_N, amLong_L, cond_true, cond_false, Option.toList_some, Option.toList_none, List.cons_append, List.nil_append, List.append_nil, setE, setN, cpy_set, lit, nle, nlt, neq, inb_iff, cl_nI, tle, fle, tlt, flt, teq, feq, m9, m3, x9, x3, nI_add, nsub, upN, upE, b0', b01', r100, w100, r101, w101, r102, w102, r103, w103, r104, w104, r105, w105, r106, w106, r107, w107, r108, w108, w109, w110, r111, w111, r112, w112, r113, w113, r114, w114, r115, w115, r116, w116, r117, w117, r118, w118, r119, w119, w120, w121, r122, w122, r130, w130, w131, w132, r133, w133, r134, w134, r135, w135, r136, w136, r137, w137, r138, w138, r139, w139, r140, w140, r141, w141, w142, r143, w143, r144, w144, r145, w145, r146, w146, w147, w150, b1', em1, Bool.false_eq_true, not_true_eq_false, not_false_eq_true, false_implies, true_implies, and_true, true_and, if_true, if_false, implies_true, Classical.not_not, true_or, or_true, false_or, or_false, and_self, ite_true, ite_false, reduceIte, e]
    refine next _ _ () () ⟨rfl, fun c j x a => by rw [upN (by omega), i1 c j x a], fun x hx => ?_⟩
    by_cases e3 : x = k
    · rw [upE ⟨rfl, rfl, e3⟩, e3]
    · rw [upN (by omega), i2 x (by omega)]
theorem m168 {U : List Gm} {G : Gm} (hG : ∀ k, k < 40 → M 130 0 k = img G k) (hU : UM M U) (H : ∀ M1, (∀ c j k, c ≠ 143 → c ≠ 144 → c ≠ 1629 → M1 c j k = M c j k) → UM M1 (pushU U G) → Q none (M1, J, (jk, 149, 147, X))) : Call (d + 2) 168 [vR 12 0] (M, J, (jk, 149, 147, X)) Q := by
  rw [e_168]
  simp (disch := omega) only [s_168_0, s_168_1, s_168_4, s_168_5, s_168_8, amLong_I, amLong_R, amLong_N, amLong_L, cond_true, cond_false, Option.toList_some, Option.toList_none, List.cons_append, List.nil_append, List.append_nil, setE, setN, cpy_set, lit, nle, nlt, neq, inb_iff, cl_nI, tle, fle, tlt, flt, teq, feq, m9, m3, x9, x3, nI_add, nsub, upN, upE, b0', b01', r100, w100, r101, w101, r102, w102, r103, w103, r104, w104, r105, w105, r106, w106, r107, w107, r108, w108, w109, w110, r111, w111, r112, w112, r113, w113, r114, w114, r115, w115, r116, w116, r117, w117, r118, w118, r119, w119, w120, w121, r122, w122, r130, w130, w131, w132, r133, w133, r134, w134, r135, w135, r136, w136, r137, w137, r138, w138, r139, w139, r140, w140, r141, w141, w142, r143, w143, r144, w144, r145, w145, r146, w146, w147, w150, b1', em1, Bool.false_eq_true, not_true_eq_false, not_false_eq_true, false_implies, true_implies, and_true, true_and, if_true, if_false, implies_true, Classical.not_not, true_or, or_true, false_or, or_false, and_self, ite_true, ite_false, reduceIte]
  refine m169 hG (fun M1 f1 f2 => ?_)
  simp (disch := omega) only [s_168_0, s_168_1, s_168_4, s_168_5, s_168_8, amLong_I, amLong_R, amLong_N, amLong_L, cond_true, cond_false, Option.toList_some, Option.toList_none, List.cons_append, List.nil_append, List.append_nil, setE, setN, cpy_set, lit, nle, nlt, neq, inb_iff, cl_nI, tle, fle, tlt, flt, teq, feq, m9, m3, x9, x3, nI_add, nsub, upN, upE, b0', b01', r100, w100, r101, w101, r102, w102, r103, w103, r104, w104, r105, w105, r106, w106, r107, w107, r108, w108, w109, w110, r111, w111, r112, w112, r113, w113, r114, w114, r115, w115, r116, w116, r117, w117, r118, w118, r119, w119, w120, w121, r122, w122, r130, w130, w131, w132, r133, w133, r134, w134, r135, w135, r136, w136, r137, w137, r138, w138, r139, w139, r140, w140, r141, w141, w142, r143, w143, r144, w144, r145, w145, r146, w146, w147, w150, b1', em1, Bool.false_eq_true, not_true_eq_false, not_false_eq_true, false_implies, true_implies, and_true, true_and, if_true, if_false, implies_true, Classical.not_not, true_or, or_true, false_or, or_false, and_self, ite_true, ite_false, reduceIte]
  refine m170 (U := U) ⟨by rw [f1 _ _ _ (by omega), hU.1], hU.2.1, fun n G hn k hk => by rw [f1 _ _ _ (by omega), hU.2.2 n G hn k hk]⟩ f2 (fun M2 g1 g2 => ?_)
  simp (disch := omega) only [s_168_0, s_168_1, s_168_4, s_168_5, s_168_8, amLong_I, amLong_R, amLong_N, amLong_L, cond_true, cond_false, Option.toList_some, Option.toList_none, List.cons_append, List.nil_append, List.append_nil, setE, setN, cpy_set, lit, nle, nlt, neq, inb_iff, cl_nI, tle, fle, tlt, flt, teq, feq, m9, m3, x9, x3, nI_add, nsub, upN, upE, b0', b01', r100, w100, r101, w101, r102, w102, r103, w103, r104, w104, r105, w105, r106, w106, r107, w107, r108, w108, w109, w110, r111, w111, r112, w112, r113, w113, r114, w114, r115, w115, r116, w116, r117, w117, r118, w118, r119, w119, w120, w121, r122, w122, r130, w130, w131, w132, r133, w133, r134, w134, r135, w135, r136, w136, r137, w137, r138, w138, r139, w139, r140, w140, r141, w141, w142, r143, w143, r144, w144, r145, w145, r146, w146, w147, w150, b1', em1, Bool.false_eq_true, not_true_eq_false, not_false_eq_true, false_implies, true_implies, and_true, true_and, if_true, if_false, implies_true, Classical.not_not, true_or, or_true, false_or, or_false, and_self, ite_true, ite_false, reduceIte]
  exact H M2 (fun c j k a b e => by rw [g1 c j k a e, f1 c j k b]) g2
/-- the reference, changed -/
theorem RM.chg {A : Sta} {G : Gm} {U : List Gm} (hR : RM M J A) (hG : ∀ k, k < 40 → M1 130 0 k = img G k) (hU : UM M1 U) (hF : ∀ c j k, ¬ Sc c → c ≠ 130 → c ≠ 143 → c ≠ 1629 → M1 c j k = M c j k) (hJ : ∀ k, J1 132 k = J 132 k) : RM M1 J1 (G, U, A.2.2) := by
  obtain ⟨h1, h2, h5, ⟨h6, h7, h8⟩, h9⟩ := hR
  have f : ∀ c j k, (c = 131 ∨ c = 146 ∨ c = 147 ∨ c = 1602 ∨ c = 1604) → M1 c j k = M c j k := fun c j k h => hF c j k (by unfold Sc; omega) (by omega) (by omega) (by omega)
  exact ⟨hG, hU, fun i hi => ⟨by rw [f _ _ _ (by omega), (h5 i hi).1], fun G hG k hk => by rw [f _ _ _ (by omega), (h5 i hi).2 G hG k hk]⟩, ⟨by rw [f _ _ _ (by omega), h6], h7, fun k hk => by rw [f _ _ _ (by omega), h8 k hk]⟩, h9.k (f _ _ _ (by omega)) hJ⟩
theorem m247 {i p : Int32} (hV : MV M sh pay tok) : Call (d + 4) 247 [vR 12 0, vI i, vI p] (M, J, (jk, 149, 147, X)) Q ↔ Q (some (vI (bI (bo (pyC sh i p) = true)))) (M, J, (jk, 149, 147, X)) := by
  refine pureC (fun Q hQ => ?_)
  rw [e_247]
  by_cases c1 : nI 0 ≤ i ∧ i < nI (plr sh)
  · by_cases c2 : nI 0 ≤ p ∧ p < nI (prf sh)
    · rw [bo_t (P := pyC sh i p) ⟨c1, c2⟩] at hQ
      simp (disch := omega) only [s_247_0, s_247_1, s_247_2, s_247_5, s_247_8, s_247_9, s_247_10, s_247_13, s_247_16, s_247_17, s_247_20, s_247_21, amLong_I, amLong_R, amLong_N, amLong_L, cond_true, cond_false, Option.toList_some, Option.toList_none, List.cons_append, List.nil_append, List.append_nil, setE, setN, cpy_set, lit, nle, nlt, neq, inb_iff, cl_nI, tle, fle, tlt, flt, teq, feq, m9, m3, x9, x3, nI_add, nsub, upN, upE, b0', b01', r100, w100, r101, w101, r102, w102, r103, w103, r104, w104, r105, w105, r106, w106, r107, w107, r108, w108, w109, w110, r111, w111, r112, w112, r113, w113, r114, w114, r115, w115, r116, w116, r117, w117, r118, w118, r119, w119, w120, w121, r122, w122, r130, w130, w131, w132, r133, w133, r134, w134, r135, w135, r136, w136, r137, w137, r138, w138, r139, w139, r140, w140, r141, w141, w142, r143, w143, r144, w144, r145, w145, r146, w146, w147, w150, b1', em1, Bool.false_eq_true, not_true_eq_false, not_false_eq_true, false_implies, true_implies, and_true, true_and, if_true, if_false, implies_true, Classical.not_not, true_or, or_true, false_or, or_false, and_self, ite_true, ite_false, reduceIte, m175 hV, c1, m182 hV, c2]
      exact hQ
    · rw [bo_f (P := pyC sh i p) (fun z => c2 z.2)] at hQ
      simp (disch := omega) only [s_247_0, s_247_1, s_247_2, s_247_5, s_247_8, s_247_9, s_247_10, s_247_13, s_247_16, s_247_17, s_247_20, s_247_21, amLong_I, amLong_R, amLong_N, amLong_L, cond_true, cond_false, Option.toList_some, Option.toList_none, List.cons_append, List.nil_append, List.append_nil, setE, setN, cpy_set, lit, nle, nlt, neq, inb_iff, cl_nI, tle, fle, tlt, flt, teq, feq, m9, m3, x9, x3, nI_add, nsub, upN, upE, b0', b01', r100, w100, r101, w101, r102, w102, r103, w103, r104, w104, r105, w105, r106, w106, r107, w107, r108, w108, w109, w110, r111, w111, r112, w112, r113, w113, r114, w114, r115, w115, r116, w116, r117, w117, r118, w118, r119, w119, w120, w121, r122, w122, r130, w130, w131, w132, r133, w133, r134, w134, r135, w135, r136, w136, r137, w137, r138, w138, r139, w139, r140, w140, r141, w141, w142, r143, w143, r144, w144, r145, w145, r146, w146, w147, w150, b1', em1, Bool.false_eq_true, not_true_eq_false, not_false_eq_true, false_implies, true_implies, and_true, true_and, if_true, if_false, implies_true, Classical.not_not, true_or, or_true, false_or, or_false, and_self, ite_true, ite_false, reduceIte, m175 hV, c1, m182 hV, c2]
      exact hQ
  · rw [bo_f (P := pyC sh i p) (fun z => c1 z.1)] at hQ
    simp (disch := omega) only [s_247_0, s_247_1, s_247_2, s_247_5, s_247_8, s_247_9, s_247_10, s_247_13, s_247_16, s_247_17, s_247_20, s_247_21, amLong_I, amLong_R, amLong_N, amLong_L, cond_true, cond_false, Option.toList_some, Option.toList_none, List.cons_append, List.nil_append, List.append_nil, setE, setN, cpy_set, lit, nle, nlt, neq, inb_iff, cl_nI, tle, fle, tlt, flt, teq, feq, m9, m3, x9, x3, nI_add, nsub, upN, upE, b0', b01', r100, w100, r101, w101, r102, w102, r103, w103, r104, w104, r105, w105, r106, w106, r107, w107, r108, w108, w109, w110, r111, w111, r112, w112, r113, w113, r114, w114, r115, w115, r116, w116, r117, w117, r118, w118, r119, w119, w120, w121, r122, w122, r130, w130, w131, w132, r133, w133, r134, w134, r135, w135, r136, w136, r137, w137, r138, w138, r139, w139, r140, w140, r141, w141, w142, r143, w143, r144, w144, r145, w145, r146, w146, w147, w150, b1', em1, Bool.false_eq_true, not_true_eq_false, not_false_eq_true, false_implies, true_implies, and_true, true_and, if_true, if_false, implies_true, Classical.not_not, true_or, or_true, false_or, or_false, and_self, ite_true, ite_false, reduceIte, m175 hV, c1]
    exact hQ
theorem m252 {i p v : Int32} (hV : MV M sh pay tok) : Call (d + 5) 252 [vR 12 0, vI i, vI p, vI v] (M, J, (jk, 149, 147, X)) Q ↔ Q (some (vI (if bo (pyC sh i p ∧ isP v) = true then (if pay (9 * i.toNatClampNeg + p.toNatClampNeg) = v then -nI 2 else nI 0) else -nI 1))) (M, J, (jk, 149, 147, X)) := by
  obtain ⟨l1, l2, l3, l4⟩ := hV.lim
  refine pureC (fun Q hQ => ?_)
  rw [e_252]
  by_cases c1 : pyC sh i p
  · have c1' := bo_iff.mpr c1
    by_cases c2 : isP v
    · have c2' := c2
      unfold isP at c2'
      rw [if_pos (bo_iff.mpr ⟨c1, c2⟩)] at hQ
      obtain ⟨i, p, hi, hp, rfl, rfl⟩ := py_of hV.1 c1
      rw [cl_nI (by omega), cl_nI (by omega)] at hQ
      by_cases c3 : pay (9 * i + p) = v
      · rw [if_pos c3] at hQ
        simp (disch := omega) only [s_252_0, s_252_1, s_252_2, s_252_3, s_252_6, s_252_9, s_252_10, s_252_12, s_252_14, s_252_17, s_252_20, s_252_21, s_252_24, s_252_25, s_252_26, s_252_27, s_252_30, s_252_31, s_252_34, s_252_36, s_252_39, s_252_40, amLong_I, amLong_R, amLong_N, amLong_L, cond_true, cond_false, Option.toList_some, Option.toList_none, List.cons_append, List.nil_append, List.append_nil, setE, setN, cpy_set, lit, nle, nlt, neq, inb_iff, cl_nI, tle, fle, tlt, flt, teq, feq, m9, m3, x9, x3, nI_add, nsub, upN, upE, b0', b01', r100, w100, r101, w101, r102, w102, r103, w103, r104, w104, r105, w105, r106, w106, r107, w107, r108, w108, w109, w110, r111, w111, r112, w112, r113, w113, r114, w114, r115, w115, r116, w116, r117, w117, r118, w118, r119, w119, w120, w121, r122, w122, r130, w130, w131, w132, r133, w133, r134, w134, r135, w135, r136, w136, r137, w137, r138, w138, r139, w139, r140, w140, r141, w141, w142, r143, w143, r144, w144, r145, w145, r146, w146, w147, w150, b1', em1, Bool.false_eq_true, not_true_eq_false, not_false_eq_true, false_implies, true_implies, and_true, true_and, if_true, if_false, implies_true, Classical.not_not, true_or, or_true, false_or, or_false, and_self, ite_true, ite_false, reduceIte, m247 hV, c1', m160, c2', m178 hV, c3]
        exact hQ
      · rw [if_neg c3] at hQ
        simp (disch := omega) only [s_252_0, s_252_1, s_252_2, s_252_3, s_252_6, s_252_9, s_252_10, s_252_12, s_252_14, s_252_17, s_252_20, s_252_21, s_252_24, s_252_25, s_252_26, s_252_27, s_252_30, s_252_31, s_252_34, s_252_36, s_252_39, s_252_40, amLong_I, amLong_R, amLong_N, amLong_L, cond_true, cond_false, Option.toList_some, Option.toList_none, List.cons_append, List.nil_append, List.append_nil, setE, setN, cpy_set, lit, nle, nlt, neq, inb_iff, cl_nI, tle, fle, tlt, flt, teq, feq, m9, m3, x9, x3, nI_add, nsub, upN, upE, b0', b01', r100, w100, r101, w101, r102, w102, r103, w103, r104, w104, r105, w105, r106, w106, r107, w107, r108, w108, w109, w110, r111, w111, r112, w112, r113, w113, r114, w114, r115, w115, r116, w116, r117, w117, r118, w118, r119, w119, w120, w121, r122, w122, r130, w130, w131, w132, r133, w133, r134, w134, r135, w135, r136, w136, r137, w137, r138, w138, r139, w139, r140, w140, r141, w141, w142, r143, w143, r144, w144, r145, w145, r146, w146, w147, w150, b1', em1, Bool.false_eq_true, not_true_eq_false, not_false_eq_true, false_implies, true_implies, and_true, true_and, if_true, if_false, implies_true, Classical.not_not, true_or, or_true, false_or, or_false, and_self, ite_true, ite_false, reduceIte, m247 hV, c1', m160, c2', m178 hV, c3]
        exact hQ
    · have c2' := c2
      unfold isP at c2'
      rw [if_neg (fun z => c2 (bo_iff.mp z).2)] at hQ
      simp (disch := omega) only [s_252_0, s_252_1, s_252_2, s_252_3, s_252_6, s_252_9, s_252_10, s_252_12, s_252_14, s_252_17, s_252_20, s_252_21, s_252_24, s_252_25, s_252_26, s_252_27, s_252_30, s_252_31, s_252_34, s_252_36, s_252_39, s_252_40, amLong_I, amLong_R, amLong_N, amLong_L, cond_true, cond_false, Option.toList_some, Option.toList_none, List.cons_append, List.nil_append, List.append_nil, setE, setN, cpy_set, lit, nle, nlt, neq, inb_iff, cl_nI, tle, fle, tlt, flt, teq, feq, m9, m3, x9, x3, nI_add, nsub, upN, upE, b0', b01', r100, w100, r101, w101, r102, w102, r103, w103, r104, w104, r105, w105, r106, w106, r107, w107, r108, w108, w109, w110, r111, w111, r112, w112, r113, w113, r114, w114, r115, w115, r116, w116, r117, w117, r118, w118, r119, w119, w120, w121, r122, w122, r130, w130, w131, w132, r133, w133, r134, w134, r135, w135, r136, w136, r137, w137, r138, w138, r139, w139, r140, w140, r141, w141, w142, r143, w143, r144, w144, r145, w145, r146, w146, w147, w150, b1', em1, Bool.false_eq_true, not_true_eq_false, not_false_eq_true, false_implies, true_implies, and_true, true_and, if_true, if_false, implies_true, Classical.not_not, true_or, or_true, false_or, or_false, and_self, ite_true, ite_false, reduceIte, m247 hV, c1', m160, c2']
      exact hQ
  · have c1' : ¬ bo (pyC sh i p) = true := fun z => c1 (bo_iff.mp z)
    rw [if_neg (fun z => c1 (bo_iff.mp z).1)] at hQ
    simp (disch := omega) only [s_252_0, s_252_1, s_252_2, s_252_3, s_252_6, s_252_9, s_252_10, s_252_12, s_252_14, s_252_17, s_252_20, s_252_21, s_252_24, s_252_25, s_252_26, s_252_27, s_252_30, s_252_31, s_252_34, s_252_36, s_252_39, s_252_40, amLong_I, amLong_R, amLong_N, amLong_L, cond_true, cond_false, Option.toList_some, Option.toList_none, List.cons_append, List.nil_append, List.append_nil, setE, setN, cpy_set, lit, nle, nlt, neq, inb_iff, cl_nI, tle, fle, tlt, flt, teq, feq, m9, m3, x9, x3, nI_add, nsub, upN, upE, b0', b01', r100, w100, r101, w101, r102, w102, r103, w103, r104, w104, r105, w105, r106, w106, r107, w107, r108, w108, w109, w110, r111, w111, r112, w112, r113, w113, r114, w114, r115, w115, r116, w116, r117, w117, r118, w118, r119, w119, w120, w121, r122, w122, r130, w130, w131, w132, r133, w133, r134, w134, r135, w135, r136, w136, r137, w137, r138, w138, r139, w139, r140, w140, r141, w141, w142, r143, w143, r144, w144, r145, w145, r146, w146, w147, w150, b1', em1, Bool.false_eq_true, not_true_eq_false, not_false_eq_true, false_implies, true_implies, and_true, true_and, if_true, if_false, implies_true, Classical.not_not, true_or, or_true, false_or, or_false, and_self, ite_true, ite_false, reduceIte, m247 hV, c1']
    exact hQ
theorem RM.um {A : Sta} (h : RM M J A) : UM M A.2.1 := h.2.1
theorem UM.of {U : List Gm} (h : UM M U) (hf : ∀ c j k, (c = 143 ∨ c = 1629) → M1 c j k = M c j k) : UM M1 U := ⟨by rw [hf _ _ _ (by omega), h.1], h.2.1, fun n G hn k hk => by rw [hf _ _ _ (by omega), h.2.2 n G hn k hk]⟩
theorem n251 {A : Sta} {i p v : Int32} (hR : RM M J A) (hW : WF A) (H : ∀ M1 J1, RM M1 J1 (opU A (cpF A.1 i p v)).2 → FM M M1 → FMJ J J1 → Q (some (vI (opU A (cpF A.1 i p v)).1)) (M1, J1, (jk, 149, 147, X))) : Call (d + 6) 251 [vR 12 0, vI i, vI p, vI v] (M, J, (jk, 149, 147, X)) Q := by
  have hok := (cpF_ok (i := i) (p := p) (v := v) hW.1).2
  have hV0 := (thr (x := nI 0)).v (hR.v hW)
  have hK0 : Kp M (upM M 1605 0 0 (nI 0)) := thr
  obtain ⟨⟨sh, pay, tok⟩, U, S, tx, r⟩ := A
  dsimp only at hV0
  obtain ⟨l1, l2, l3, l4⟩ := hV0.lim
  unfold opU cpF at H
  unfold cpF at hok
  dsimp only at H hok
  rw [e_251]
  simp (disch := omega) only [s_251_0, s_251_1, s_251_2, s_251_5, s_251_6, s_251_7, s_251_8, s_251_9, s_251_12, s_251_14, s_251_16, s_251_19, s_251_21, s_251_22, s_251_23, s_251_26, s_251_27, s_251_28, s_251_29, s_251_32, s_251_34, s_251_35, s_251_38, s_251_39, s_251_41, s_251_42, s_251_43, s_251_44, s_251_45, s_251_46, s_251_47, s_251_48, s_251_50, s_251_52, s_251_53, amLong_I, amLong_R, amLong_N, amLong_L, cond_true, cond_false, Option.toList_some, Option.toList_none, List.cons_append, List.nil_append, List.append_nil, setE, setN, cpy_set, lit, nle, nlt, neq, inb_iff, cl_nI, tle, fle, tlt, flt, teq, feq, m9, m3, x9, x3, nI_add, nsub, upN, upE, b0', b01', r100, w100, r101, w101, r102, w102, r103, w103, r104, w104, r105, w105, r106, w106, r107, w107, r108, w108, w109, w110, r111, w111, r112, w112, r113, w113, r114, w114, r115, w115, r116, w116, r117, w117, r118, w118, r119, w119, w120, w121, r122, w122, r130, w130, w131, w132, r133, w133, r134, w134, r135, w135, r136, w136, r137, w137, r138, w138, r139, w139, r140, w140, r141, w141, w142, r143, w143, r144, w144, r145, w145, r146, w146, w147, w150, b1', em1, Bool.false_eq_true, not_true_eq_false, not_false_eq_true, false_implies, true_implies, and_true, true_and, if_true, if_false, implies_true, Classical.not_not, true_or, or_true, false_or, or_false, and_self, ite_true, ite_false, reduceIte, m252 hV0]
  by_cases c1 : pyC sh i p ∧ isP v
  · rw [if_pos (bo_iff.mpr c1)] at H hok ⊢
    obtain ⟨i, p, hi, hp, rfl, rfl⟩ := py_of hV0.1 c1.1
    rw [cl_nI (by omega), cl_nI (by omega)] at H hok ⊢
    by_cases c3 : pay (9 * i + p) = v
    · rw [if_pos c3] at H ⊢
      rw [if_pos (neg_lt (by decide) (by decide))] at H
      simp (disch := omega) only [s_251_0, s_251_1, s_251_2, s_251_5, s_251_6, s_251_7, s_251_8, s_251_9, s_251_12, s_251_14, s_251_16, s_251_19, s_251_21, s_251_22, s_251_23, s_251_26, s_251_27, s_251_28, s_251_29, s_251_32, s_251_34, s_251_35, s_251_38, s_251_39, s_251_41, s_251_42, s_251_43, s_251_44, s_251_45, s_251_46, s_251_47, s_251_48, s_251_50, s_251_52, s_251_53, amLong_I, amLong_R, amLong_N, amLong_L, cond_true, cond_false, Option.toList_some, Option.toList_none, List.cons_append, List.nil_append, List.append_nil, setE, setN, cpy_set, lit, nle, nlt, neq, inb_iff, cl_nI, tle, fle, tlt, flt, teq, feq, m9, m3, x9, x3, nI_add, nsub, upN, upE, b0', b01', r100, w100, r101, w101, r102, w102, r103, w103, r104, w104, r105, w105, r106, w106, r107, w107, r108, w108, w109, w110, r111, w111, r112, w112, r113, w113, r114, w114, r115, w115, r116, w116, r117, w117, r118, w118, r119, w119, w120, w121, r122, w122, r130, w130, w131, w132, r133, w133, r134, w134, r135, w135, r136, w136, r137, w137, r138, w138, r139, w139, r140, w140, r141, w141, w142, r143, w143, r144, w144, r145, w145, r146, w146, w147, w150, b1', em1, Bool.false_eq_true, not_true_eq_false, not_false_eq_true, false_implies, true_implies, and_true, true_and, if_true, if_false, implies_true, Classical.not_not, true_or, or_true, false_or, or_false, and_self, ite_true, ite_false, reduceIte, show ¬ nI 0 ≤ -nI 2 from by decide]
      exact H _ J (hR.s hK0 (fun _ => rfl)) hK0.fm FMJ.rfl
    · rw [if_neg c3] at H hok ⊢
      have hb : -9 ≤ (pay (9 * i + p)).toInt ∧ (pay (9 * i + p)).toInt ≤ 9 := hW.1.2.1 (9 * i + p) (by omega)
      have hnn : ¬ pay (9 * i + p) + nI 9 < nI 0 := by
        rw [Int32.lt_iff_toInt_lt, tA (by rw [nI_toInt (by decide)]; omega) (by rw [nI_toInt (by decide)]; omega), nI_toInt (by decide), show (nI 0).toInt = 0 from rfl]
        omega
      rw [if_neg hnn] at H
      simp (disch := omega) only [s_251_0, s_251_1, s_251_2, s_251_5, s_251_6, s_251_7, s_251_8, s_251_9, s_251_12, s_251_14, s_251_16, s_251_19, s_251_21, s_251_22, s_251_23, s_251_26, s_251_27, s_251_28, s_251_29, s_251_32, s_251_34, s_251_35, s_251_38, s_251_39, s_251_41, s_251_42, s_251_43, s_251_44, s_251_45, s_251_46, s_251_47, s_251_48, s_251_50, s_251_52, s_251_53, amLong_I, amLong_R, amLong_N, amLong_L, cond_true, cond_false, Option.toList_some, Option.toList_none, List.cons_append, List.nil_append, List.append_nil, setE, setN, cpy_set, lit, nle, nlt, neq, inb_iff, cl_nI, tle, fle, tlt, flt, teq, feq, m9, m3, x9, x3, nI_add, nsub, upN, upE, b0', b01', r100, w100, r101, w101, r102, w102, r103, w103, r104, w104, r105, w105, r106, w106, r107, w107, r108, w108, w109, w110, r111, w111, r112, w112, r113, w113, r114, w114, r115, w115, r116, w116, r117, w117, r118, w118, r119, w119, w120, w121, r122, w122, r130, w130, w131, w132, r133, w133, r134, w134, r135, w135, r136, w136, r137, w137, r138, w138, r139, w139, r140, w140, r141, w141, w142, r143, w143, r144, w144, r145, w145, r146, w146, w147, w150, b1', em1, Bool.false_eq_true, not_true_eq_false, not_false_eq_true, false_implies, true_implies, and_true, true_and, if_true, if_false, implies_true, Classical.not_not, true_or, or_true, false_or, or_false, and_self, ite_true, ite_false, reduceIte]
      refine m168 (V_img (G := (sh, pay, tok)) hV0) (hR.um.of (fun c j k hc => upN (by omega))) (fun M2 f1 f2 => ?_)
      have hV2 : MV M2 sh pay tok := hV0.of (fun k _ => f1 _ _ _ (by omega) (by omega) (by omega))
      simp (disch := omega) only [s_251_0, s_251_1, s_251_2, s_251_5, s_251_6, s_251_7, s_251_8, s_251_9, s_251_12, s_251_14, s_251_16, s_251_19, s_251_21, s_251_22, s_251_23, s_251_26, s_251_27, s_251_28, s_251_29, s_251_32, s_251_34, s_251_35, s_251_38, s_251_39, s_251_41, s_251_42, s_251_43, s_251_44, s_251_45, s_251_46, s_251_47, s_251_48, s_251_50, s_251_52, s_251_53, amLong_I, amLong_R, amLong_N, amLong_L, cond_true, cond_false, Option.toList_some, Option.toList_none, List.cons_append, List.nil_append, List.append_nil, setE, setN, cpy_set, lit, nle, nlt, neq, inb_iff, cl_nI, tle, fle, tlt, flt, teq, feq, m9, m3, x9, x3, nI_add, nsub, upN, upE, b0', b01', r100, w100, r101, w101, r102, w102, r103, w103, r104, w104, r105, w105, r106, w106, r107, w107, r108, w108, w109, w110, r111, w111, r112, w112, r113, w113, r114, w114, r115, w115, r116, w116, r117, w117, r118, w118, r119, w119, w120, w121, r122, w122, r130, w130, w131, w132, r133, w133, r134, w134, r135, w135, r136, w136, r137, w137, r138, w138, r139, w139, r140, w140, r141, w141, w142, r143, w143, r144, w144, r145, w145, r146, w146, w147, w150, b1', em1, Bool.false_eq_true, not_true_eq_false, not_false_eq_true, false_implies, true_implies, and_true, true_and, if_true, if_false, implies_true, Classical.not_not, true_or, or_true, false_or, or_false, and_self, ite_true, ite_false, reduceIte, m178 hV2]
      rw [Int32.add_comm] at H
      have hV3 : MV (upM M2 130 0 (4 + 9 * i + p) v) sh (fun k => if k = 9 * i + p then v else pay k) tok := ⟨hV2.1, by rw [upN (by omega), hV2.2.1], fun j hj => by rw [upN (by omega), hV2.2.2.1 j hj], fun k hk => by
        dsimp only
        by_cases e : k = 9 * i + p
        · rw [if_pos e, upE ⟨rfl, rfl, by omega⟩]
        · rw [if_neg e, upN (by omega), hV2.2.2.2.1 k hk], fun q hq => by rw [upN (by omega), hV2.2.2.2.2 q hq]⟩
      refine H _ J (RM.chg (G := (sh, fun k => if k = 9 * i + p then v else pay k, tok)) hR (V_img (G := (sh, fun k => if k = 9 * i + p then v else pay k, tok)) hV3) (f2.of (fun c j k hc => upN (by omega))) (fun c j k a b e g => ?_) (fun _ => rfl)) (fun c j k hc => ?_) FMJ.rfl
      · rw [upN (by omega), f1 c j k e (by unfold Sc at a; omega) g, upN (by unfold Sc at a; omega)]
      · rw [upN (by omega), f1 c j k (by omega) (by omega) (by omega), upN (by omega)]
  · rw [if_neg (fun z => c1 (bo_iff.mp z))] at H ⊢
    rw [if_pos (neg_lt (by decide) (by decide))] at H
    simp (disch := omega) only [s_251_0, s_251_1, s_251_2, s_251_5, s_251_6, s_251_7, s_251_8, s_251_9, s_251_12, s_251_14, s_251_16, s_251_19, s_251_21, s_251_22, s_251_23, s_251_26, s_251_27, s_251_28, s_251_29, s_251_32, s_251_34, s_251_35, s_251_38, s_251_39, s_251_41, s_251_42, s_251_43, s_251_44, s_251_45, s_251_46, s_251_47, s_251_48, s_251_50, s_251_52, s_251_53, amLong_I, amLong_R, amLong_N, amLong_L, cond_true, cond_false, Option.toList_some, Option.toList_none, List.cons_append, List.nil_append, List.append_nil, setE, setN, cpy_set, lit, nle, nlt, neq, inb_iff, cl_nI, tle, fle, tlt, flt, teq, feq, m9, m3, x9, x3, nI_add, nsub, upN, upE, b0', b01', r100, w100, r101, w101, r102, w102, r103, w103, r104, w104, r105, w105, r106, w106, r107, w107, r108, w108, w109, w110, r111, w111, r112, w112, r113, w113, r114, w114, r115, w115, r116, w116, r117, w117, r118, w118, r119, w119, w120, w121, r122, w122, r130, w130, w131, w132, r133, w133, r134, w134, r135, w135, r136, w136, r137, w137, r138, w138, r139, w139, r140, w140, r141, w141, w142, r143, w143, r144, w144, r145, w145, r146, w146, w147, w150, b1', em1, Bool.false_eq_true, not_true_eq_false, not_false_eq_true, false_implies, true_implies, and_true, true_and, if_true, if_false, implies_true, Classical.not_not, true_or, or_true, false_or, or_false, and_self, ite_true, ite_false, reduceIte, show ¬ nI 0 ≤ -nI 1 from by decide]
    exact H _ J (hR.s hK0 (fun _ => rfl)) hK0.fm FMJ.rfl
end CHG3
