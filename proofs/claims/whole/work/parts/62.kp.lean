/-! keep, again: the reference's -/
theorem le1_lt2 {i : Int32} : i ≤ nI 1 ↔ i < nI 2 := by
  rw [Int32.le_iff_toInt_le, Int32.lt_iff_toInt_lt, nI_toInt (by decide), nI_toInt (by decide)]
  omega
section KP
variable {d g t jk X sh : Nat} {M M1 M2 : amM} {J J1 J2 : amJ} {Q : Option amV → amS → Prop} {pay tok tk : Nat → Int32}
theorem RM.shl {A : Sta} {S : Nat → Option Gm} (hR : RM M J A) (hS : ∀ i, i < 2 → M1 147 0 i = bI ((S i).isSome = true) ∧ ∀ G, S i = some G → ∀ k, k < 40 → M1 146 0 (40 * i + k) = img G k) (hF : ∀ c j k, ¬ Sc c → c ≠ 146 → c ≠ 147 → M1 c j k = M c j k) (hJ : ∀ k, J1 132 k = J 132 k) : RM M1 J1 (A.1, A.2.1, S, A.2.2.2) := by
  obtain ⟨h1, ⟨h2, h3, h4⟩, h5, ⟨h6, h7, h8⟩, h9⟩ := hR
  have f : ∀ c j k, (c = 130 ∨ c = 131 ∨ c = 143 ∨ c = 1629 ∨ c = 1602 ∨ c = 1604) → M1 c j k = M c j k := fun c j k h => hF c j k (by unfold Sc; omega) (by omega) (by omega)
  exact ⟨fun k hk => by rw [f _ _ _ (by omega), h1 k hk], ⟨by rw [f _ _ _ (by omega), h2], h3, fun n G hG k hk => by rw [f _ _ _ (by omega), h4 n G hG k hk]⟩, hS, ⟨by rw [f _ _ _ (by omega), h6], h7, fun k hk => by rw [f _ _ _ (by omega), h8 k hk]⟩, h9.k (f _ _ _ (by omega)) hJ⟩
theorem n268 {A : Sta} {i : Int32} (hR : RM M J A) (hW : WF A) (H : ∀ M1 J1, RM M1 J1 (o37 A i).2 → FM M M1 → FMJ J J1 → Q (some (vI (o37 A i).1)) (M1, J1, (jk, 149, 147, X))) : Call (d + 2) 268 [vR 12 0, vI i] (M, J, (jk, 149, 147, X)) Q := by
  have hK0 : Kp M (upM M 1605 0 0 (nI 0)) := thr
  have hR' := hR
  obtain ⟨h1, -, h5, -⟩ := hR
  unfold o37 at H
  rw [e_268]
  by_cases c0 : nI 0 ≤ i ∧ i < nI 2
  · rw [if_pos c0] at H
    have c1 : nI 0 ≤ i ∧ i ≤ nI 1 := ⟨c0.1, le1_lt2.mpr c0.2⟩
    obtain ⟨i, hi, rfl⟩ := (in_iff (by omega)).mp c0
    rw [cl_nI (by omega)] at H
    simp (disch := omega) only [s_268_0, s_268_1, s_268_2, s_268_5, s_268_6, s_268_7, s_268_8, s_268_11, s_268_14, s_268_15, s_268_16, s_268_17, s_268_20, s_268_21, s_268_22, s_268_23, s_268_24, s_268_26, s_268_28, s_268_31, s_268_32, s_268_35, s_268_37, s_268_38, s_268_39, s_268_40, s_268_41, s_268_42, s_268_45, s_268_46, s_268_47, s_268_48, s_268_51, s_268_54, s_268_55, amLong_I, amLong_R, amLong_N, amLong_L, cond_true, cond_false, Option.toList_some, Option.toList_none, List.cons_append, List.nil_append, List.append_nil, setE, setN, cpy_set, lit, nle, nlt, neq, inb_iff, cl_nI, tle, fle, tlt, flt, teq, feq, m9, m3, x9, x3, nI_add, nsub, upN, upE, b0', b01', r100, w100, r101, w101, r102, w102, r103, w103, r104, w104, r105, w105, r106, w106, r107, w107, r108, w108, w109, w110, r111, w111, r112, w112, r113, w113, r114, w114, r115, w115, r116, w116, r117, w117, r118, w118, r119, w119, w120, w121, r122, w122, r130, w130, w131, w132, r133, w133, r134, w134, r135, w135, r136, w136, r137, w137, r138, w138, r139, w139, r140, w140, r141, w141, w142, r143, w143, r144, w144, r145, w145, r146, w146, w147, w150, b1', em1, Bool.false_eq_true, not_true_eq_false, not_false_eq_true, false_implies, true_implies, and_true, true_and, if_true, if_false, implies_true, Classical.not_not, true_or, or_true, false_or, or_false, and_self, ite_true, ite_false, reduceIte, m160, c1, nb1]
    refine lpH (T := Unit) (U := Unit) (P := 40) (E := fun k M1 J1 u x => Ev (d + 1) 268 25 [some (vR 12 (0)), some (vI (nI i)), some (vI (nI k))] [] (M1, J1, (jk, 149, 147, X)) Q) (I := fun k M1 J1 _ => J = J1 ∧ (∀ j, j < 2 → M1 147 0 j = bI (j = i ∨ (A.2.2.1 j).isSome = true)) ∧ (∀ c j x, c ≠ 146 → c ≠ 147 → c ≠ 1605 → M1 c j x = M c j x) ∧ (∀ j x, j ≠ i → x < 40 → M1 146 0 (40 * j + x) = M 146 0 (40 * j + x)) ∧ ∀ x, x < k → M1 146 0 (40 * i + x) = img A.1 x) (fun M1 J1 u x hI => ?_) (fun k M1 J1 u x hk hI next => ?_) 0 _ _ () () (by omega) ⟨rfl, fun j hj => ?_, fun c j x a b f => by rw [upN (by omega), upN (by omega)], fun j x _ _ => by rw [upN (by omega), upN (by omega)], no_lt _⟩
    · obtain ⟨rfl, i1, i2, i3, i4⟩ := hI
      rw [h_268_25]
      simp (disch := omega) only [s_268_0, s_268_1, s_268_2, s_268_5, s_268_6, s_268_7, s_268_8, s_268_11, s_268_14, s_268_15, s_268_16, s_268_17, s_268_20, s_268_21, s_268_22, s_268_23, s_268_24, s_268_26, s_268_28, s_268_31, s_268_32, s_268_35, s_268_37, s_268_38, s_268_39, s_268_40, s_268_41, s_268_42, s_268_45, s_268_46, s_268_47, s_268_48, s_268_51, s_268_54, s_268_55, amLong_I, amLong_R, amLong_N, amLong_L, cond_true, cond_false, Option.toList_some, Option.toList_none, List.cons_append, List.nil_append, List.append_nil, setE, setN, cpy_set, lit, nle, nlt, neq, inb_iff, cl_nI, tle, fle, tlt, flt, teq, feq, m9, m3, x9, x3, nI_add, nsub, upN, upE, b0', b01', r100, w100, r101, w101, r102, w102, r103, w103, r104, w104, r105, w105, r106, w106, r107, w107, r108, w108, w109, w110, r111, w111, r112, w112, r113, w113, r114, w114, r115, w115, r116, w116, r117, w117, r118, w118, r119, w119, w120, w121, r122, w122, r130, w130, w131, w132, r133, w133, r134, w134, r135, w135, r136, w136, r137, w137, r138, w138, r139, w139, r140, w140, r141, w141, w142, r143, w143, r144, w144, r145, w145, r146, w146, w147, w150, b1', em1, Bool.false_eq_true, not_true_eq_false, not_false_eq_true, false_implies, true_implies, and_true, true_and, if_true, if_false, implies_true, Classical.not_not, true_or, or_true, false_or, or_false, and_self, ite_true, ite_false, reduceIte]
      refine H M1 J (RM.shl hR' (fun j hj => ⟨?_, fun G hG k hk => ?_⟩) (fun c j k z1 z2 z3 => i2 c j k z2 z3 (by unfold Sc at z1; omega)) (fun _ => rfl)) (fun c j k hc => i2 c j k (by omega) (by omega) (by omega)) FMJ.rfl
      · rw [i1 j hj]
        by_cases e : j = i
        · rw [bI_t (Or.inl e), if_pos e, bI_t (by rfl)]
        · rw [if_neg e]
          by_cases e2 : (A.2.2.1 j).isSome = true
          · rw [bI_t (Or.inr e2), bI_t e2]
          · rw [bI_f (fun z => z.elim e e2), bI_f e2]
      · have hG' : (if j = i then some A.1 else A.2.2.1 j) = some G := hG
        by_cases e : j = i
        · rw [if_pos e] at hG'
          cases hG'
          rw [e, i4 k hk]
        · rw [if_neg e] at hG'
          rw [i3 j k e hk, (h5 j hj).2 G hG' k hk]
    · obtain ⟨rfl, i1, i2, i3, i4⟩ := hI
      have e2 : M1 130 0 k = img A.1 k := by rw [i2 _ _ _ (by omega) (by omega) (by omega), h1 k hk]
      rw [h_268_25]
      simp (disch := omega) only [s_268_0, s_268_1, s_268_2, s_268_5, s_268_6, s_268_7, s_268_8, s_268_11, s_268_14, s_268_15, s_268_16, s_268_17, s_268_20, s_268_21, s_268_22, s_268_23, s_268_24, s_268_26, s_268_28, s_268_31, s_268_32, s_268_35, s_268_37, s_268_38, s_268_39, s_268_40, s_268_41, s_268_42, s_268_45, s_268_46, s_268_47, s_268_48, s_268_51, s_268_54, s_268_55, amLong_I, amLong_R, amLong_N, amLong_L, cond_true, cond_false, Option.toList_some, Option.toList_none, List.cons_append, List.nil_append, List.append_nil, setE, setN, cpy_set, lit, nle, nlt, neq, inb_iff, cl_nI, tle, fle, tlt, flt, teq, feq, m9, m3, x9, x3, nI_add, nsub, upN, upE, b0', b01', r100, w100, r101, w101, r102, w102, r103, w103, r104, w104, r105, w105, r106, w106, r107, w107, r108, w108, w109, w110, r111, w111, r112, w112, r113, w113, r114, w114, r115, w115, r116, w116, r117, w117, r118, w118, r119, w119, w120, w121, r122, w122, r130, w130, w131, w132, r133, w133, r134, w134, r135, w135, r136, w136, r137, w137, r138, w138, r139, w139, r140, w140, r141, w141, w142, r143, w143, r144, w144, r145, w145, r146, w146, w147, w150, b1', em1, Bool.false_eq_true, not_true_eq_false, not_false_eq_true, false_implies, true_implies, and_true, true_and, if_true, if_false, implies_true, Classical.not_not, true_or, or_true, false_or, or_false, and_self, ite_true, ite_false, reduceIte, pk_mul, e2]
      refine next _ _ () () ⟨rfl, fun j hj => by rw [upN (by omega), i1 j hj], fun c j x a b f => by rw [upN (by omega), i2 c j x a b f], fun j x a b => by rw [upN (by omega), i3 j x a b], fun x hx => ?_⟩
      by_cases e3 : x = k
      · rw [upE ⟨rfl, rfl, by omega⟩, e3]
      · rw [upN (by omega), i4 x (by omega)]
    · by_cases e : j = i
      · rw [upE ⟨rfl, rfl, e⟩, bI_t (Or.inl e)]
        rfl
      · rw [upN (by omega), upN (by omega), (h5 j hj).1]
        by_cases e2 : (A.2.2.1 j).isSome = true
        · rw [bI_t e2, bI_t (Or.inr e2)]
        · rw [bI_f e2, bI_f (fun z => z.elim e e2)]
  · rw [if_neg c0] at H
    have c1 : ¬ (nI 0 ≤ i ∧ i ≤ nI 1) := fun z => c0 ⟨z.1, le1_lt2.mp z.2⟩
    simp (disch := omega) only [s_268_0, s_268_1, s_268_2, s_268_5, s_268_6, s_268_7, s_268_8, s_268_11, s_268_14, s_268_15, s_268_16, s_268_17, s_268_20, s_268_21, s_268_22, s_268_23, s_268_24, s_268_26, s_268_28, s_268_31, s_268_32, s_268_35, s_268_37, s_268_38, s_268_39, s_268_40, s_268_41, s_268_42, s_268_45, s_268_46, s_268_47, s_268_48, s_268_51, s_268_54, s_268_55, amLong_I, amLong_R, amLong_N, amLong_L, cond_true, cond_false, Option.toList_some, Option.toList_none, List.cons_append, List.nil_append, List.append_nil, setE, setN, cpy_set, lit, nle, nlt, neq, inb_iff, cl_nI, tle, fle, tlt, flt, teq, feq, m9, m3, x9, x3, nI_add, nsub, upN, upE, b0', b01', r100, w100, r101, w101, r102, w102, r103, w103, r104, w104, r105, w105, r106, w106, r107, w107, r108, w108, w109, w110, r111, w111, r112, w112, r113, w113, r114, w114, r115, w115, r116, w116, r117, w117, r118, w118, r119, w119, w120, w121, r122, w122, r130, w130, w131, w132, r133, w133, r134, w134, r135, w135, r136, w136, r137, w137, r138, w138, r139, w139, r140, w140, r141, w141, w142, r143, w143, r144, w144, r145, w145, r146, w146, w147, w150, b1', em1, Bool.false_eq_true, not_true_eq_false, not_false_eq_true, false_implies, true_implies, and_true, true_and, if_true, if_false, implies_true, Classical.not_not, true_or, or_true, false_or, or_false, and_self, ite_true, ite_false, reduceIte, m160, c1]
    exact H _ J (hR'.s hK0 (fun _ => rfl)) hK0.fm FMJ.rfl
theorem n269 {A : Sta} {i : Int32} (hR : RM M J A) (hW : WF A) (H : ∀ M1 J1, RM M1 J1 (o38 A i).2 → FM M M1 → FMJ J J1 → Q (some (vI (o38 A i).1)) (M1, J1, (jk, 149, 147, X))) : Call (d + 2) 269 [vR 12 0, vI i] (M, J, (jk, 149, 147, X)) Q := by
  have hK0 : Kp M (upM M 1605 0 0 (nI 0)) := thr
  have hR' := hR
  obtain ⟨h1, -, h5, -⟩ := hR
  unfold o38 at H
  rw [e_269]
  by_cases c0 : nI 0 ≤ i ∧ i < nI 2
  · rw [if_pos c0] at H
    have c1 : nI 0 ≤ i ∧ i ≤ nI 1 := ⟨c0.1, le1_lt2.mpr c0.2⟩
    obtain ⟨i, hi, rfl⟩ := (in_iff (by omega)).mp c0
    rw [cl_nI (by omega)] at H
    obtain ⟨s1, s2⟩ := h5 i hi
    cases hS : A.2.2.1 i with
    | none =>
      rw [hS] at H s1
      have s1' : M 147 0 i = nI 0 := by rw [s1, bI_f (by intro z; cases z)]; rfl
      simp (disch := omega) only [s_269_0, s_269_1, s_269_2, s_269_5, s_269_6, s_269_7, s_269_8, s_269_11, s_269_14, s_269_15, s_269_18, s_269_19, s_269_20, s_269_23, s_269_24, s_269_25, s_269_26, s_269_28, s_269_30, s_269_33, s_269_34, s_269_37, s_269_38, s_269_39, s_269_42, s_269_44, s_269_45, s_269_46, s_269_47, s_269_48, s_269_49, s_269_50, s_269_53, s_269_56, s_269_57, s_269_58, s_269_61, s_269_62, amLong_I, amLong_R, amLong_N, amLong_L, cond_true, cond_false, Option.toList_some, Option.toList_none, List.cons_append, List.nil_append, List.append_nil, setE, setN, cpy_set, lit, nle, nlt, neq, inb_iff, cl_nI, tle, fle, tlt, flt, teq, feq, m9, m3, x9, x3, nI_add, nsub, upN, upE, b0', b01', r100, w100, r101, w101, r102, w102, r103, w103, r104, w104, r105, w105, r106, w106, r107, w107, r108, w108, w109, w110, r111, w111, r112, w112, r113, w113, r114, w114, r115, w115, r116, w116, r117, w117, r118, w118, r119, w119, w120, w121, r122, w122, r130, w130, w131, w132, r133, w133, r134, w134, r135, w135, r136, w136, r137, w137, r138, w138, r139, w139, r140, w140, r141, w141, w142, r143, w143, r144, w144, r145, w145, r146, w146, w147, w150, b1', em1, Bool.false_eq_true, not_true_eq_false, not_false_eq_true, false_implies, true_implies, and_true, true_and, if_true, if_false, implies_true, Classical.not_not, true_or, or_true, false_or, or_false, and_self, ite_true, ite_false, reduceIte, m160, c1, s1']
      exact H _ J (hR'.s hK0 (fun _ => rfl)) hK0.fm FMJ.rfl
    | some G =>
      rw [hS] at H s1
      have s1' : M 147 0 i = nI 1 := by rw [s1, bI_t (by rfl)]; rfl
      have s2' := s2 G hS
      simp (disch := omega) only [s_269_0, s_269_1, s_269_2, s_269_5, s_269_6, s_269_7, s_269_8, s_269_11, s_269_14, s_269_15, s_269_18, s_269_19, s_269_20, s_269_23, s_269_24, s_269_25, s_269_26, s_269_28, s_269_30, s_269_33, s_269_34, s_269_37, s_269_38, s_269_39, s_269_42, s_269_44, s_269_45, s_269_46, s_269_47, s_269_48, s_269_49, s_269_50, s_269_53, s_269_56, s_269_57, s_269_58, s_269_61, s_269_62, amLong_I, amLong_R, amLong_N, amLong_L, cond_true, cond_false, Option.toList_some, Option.toList_none, List.cons_append, List.nil_append, List.append_nil, setE, setN, cpy_set, lit, nle, nlt, neq, inb_iff, cl_nI, tle, fle, tlt, flt, teq, feq, m9, m3, x9, x3, nI_add, nsub, upN, upE, b0', b01', r100, w100, r101, w101, r102, w102, r103, w103, r104, w104, r105, w105, r106, w106, r107, w107, r108, w108, w109, w110, r111, w111, r112, w112, r113, w113, r114, w114, r115, w115, r116, w116, r117, w117, r118, w118, r119, w119, w120, w121, r122, w122, r130, w130, w131, w132, r133, w133, r134, w134, r135, w135, r136, w136, r137, w137, r138, w138, r139, w139, r140, w140, r141, w141, w142, r143, w143, r144, w144, r145, w145, r146, w146, w147, w150, b1', em1, Bool.false_eq_true, not_true_eq_false, not_false_eq_true, false_implies, true_implies, and_true, true_and, if_true, if_false, implies_true, Classical.not_not, true_or, or_true, false_or, or_false, and_self, ite_true, ite_false, reduceIte, m160, c1, s1']
      refine lpH (T := Unit) (U := Unit) (P := 40) (E := fun k M1 J1 u x => Ev (d + 1) 269 27 [some (vR 12 (0)), some (vI (nI i)), some (vI (nI k))] [] (M1, J1, (jk, 149, 147, X)) Q) (I := fun k M1 J1 _ => J = J1 ∧ (∀ c j x, c ≠ 130 → c ≠ 1605 → M1 c j x = M c j x) ∧ ∀ x, x < k → M1 130 0 x = img G x) (fun M1 J1 u x hI => ?_) (fun k M1 J1 u x hk hI next => ?_) 0 _ _ () () (by omega) ⟨rfl, fun c j x a b => by rw [upN (by omega)], no_lt _⟩
      · obtain ⟨rfl, i2, i3⟩ := hI
        rw [h_269_27]
        simp (disch := omega) only [s_269_0, s_269_1, s_269_2, s_269_5, s_269_6, s_269_7, s_269_8, s_269_11, s_269_14, s_269_15, s_269_18, s_269_19, s_269_20, s_269_23, s_269_24, s_269_25, s_269_26, s_269_28, s_269_30, s_269_33, s_269_34, s_269_37, s_269_38, s_269_39, s_269_42, s_269_44, s_269_45, s_269_46, s_269_47, s_269_48, s_269_49, s_269_50, s_269_53, s_269_56, s_269_57, s_269_58, s_269_61, s_269_62, amLong_I, amLong_R, amLong_N, amLong_L, cond_true, cond_false, Option.toList_some, Option.toList_none, List.cons_append, List.nil_append, List.append_nil, setE, setN, cpy_set, lit, nle, nlt, neq, inb_iff, cl_nI, tle, fle, tlt, flt, teq, feq, m9, m3, x9, x3, nI_add, nsub, upN, upE, b0', b01', r100, w100, r101, w101, r102, w102, r103, w103, r104, w104, r105, w105, r106, w106, r107, w107, r108, w108, w109, w110, r111, w111, r112, w112, r113, w113, r114, w114, r115, w115, r116, w116, r117, w117, r118, w118, r119, w119, w120, w121, r122, w122, r130, w130, w131, w132, r133, w133, r134, w134, r135, w135, r136, w136, r137, w137, r138, w138, r139, w139, r140, w140, r141, w141, w142, r143, w143, r144, w144, r145, w145, r146, w146, w147, w150, b1', em1, Bool.false_eq_true, not_true_eq_false, not_false_eq_true, false_implies, true_implies, and_true, true_and, if_true, if_false, implies_true, Classical.not_not, true_or, or_true, false_or, or_false, and_self, ite_true, ite_false, reduceIte]
        refine H _ J (RM.chg (G := G) (U := []) hR' (fun k hk => by rw [upN (by omega), i3 k hk]) ⟨upE ⟨rfl, rfl, rfl⟩, Nat.zero_le _, fun n G hG => by cases hG⟩ (fun c j k z1 z2 z3 z4 => by rw [upN (by omega), i2 c j k z2 (by unfold Sc at z1; omega)]) (fun _ => rfl)) (fun c j k hc => by rw [upN (by omega), i2 c j k (by omega) (by omega)]) FMJ.rfl
      · obtain ⟨rfl, i2, i3⟩ := hI
        have e2 : M1 146 0 (40 * i + k) = img G k := by rw [i2 _ _ _ (by omega) (by omega), s2' k hk]
        rw [h_269_27]
        simp (disch := omega) only [s_269_0, s_269_1, s_269_2, s_269_5, s_269_6, s_269_7, s_269_8, s_269_11, s_269_14, s_269_15, s_269_18, s_269_19, s_269_20, s_269_23, s_269_24, s_269_25, s_269_26, s_269_28, s_269_30, s_269_33, s_269_34, s_269_37, s_269_38, s_269_39, s_269_42, s_269_44, s_269_45, s_269_46, s_269_47, s_269_48, s_269_49, s_269_50, s_269_53, s_269_56, s_269_57, s_269_58, s_269_61, s_269_62, amLong_I, amLong_R, amLong_N, amLong_L, cond_true, cond_false, Option.toList_some, Option.toList_none, List.cons_append, List.nil_append, List.append_nil, setE, setN, cpy_set, lit, nle, nlt, neq, inb_iff, cl_nI, tle, fle, tlt, flt, teq, feq, m9, m3, x9, x3, nI_add, nsub, upN, upE, b0', b01', r100, w100, r101, w101, r102, w102, r103, w103, r104, w104, r105, w105, r106, w106, r107, w107, r108, w108, w109, w110, r111, w111, r112, w112, r113, w113, r114, w114, r115, w115, r116, w116, r117, w117, r118, w118, r119, w119, w120, w121, r122, w122, r130, w130, w131, w132, r133, w133, r134, w134, r135, w135, r136, w136, r137, w137, r138, w138, r139, w139, r140, w140, r141, w141, w142, r143, w143, r144, w144, r145, w145, r146, w146, w147, w150, b1', em1, Bool.false_eq_true, not_true_eq_false, not_false_eq_true, false_implies, true_implies, and_true, true_and, if_true, if_false, implies_true, Classical.not_not, true_or, or_true, false_or, or_false, and_self, ite_true, ite_false, reduceIte, pk_mul, e2]
        refine next _ _ () () ⟨rfl, fun c j x a b => by rw [upN (by omega), i2 c j x a b], fun x hx => ?_⟩
        by_cases e3 : x = k
        · rw [upE ⟨rfl, rfl, e3⟩, e3]
        · rw [upN (by omega), i3 x (by omega)]
  · rw [if_neg c0] at H
    have c1 : ¬ (nI 0 ≤ i ∧ i ≤ nI 1) := fun z => c0 ⟨z.1, le1_lt2.mp z.2⟩
    simp (disch := omega) only [s_269_0, s_269_1, s_269_2, s_269_5, s_269_6, s_269_7, s_269_8, s_269_11, s_269_14, s_269_15, s_269_18, s_269_19, s_269_20, s_269_23, s_269_24, s_269_25, s_269_26, s_269_28, s_269_30, s_269_33, s_269_34, s_269_37, s_269_38, s_269_39, s_269_42, s_269_44, s_269_45, s_269_46, s_269_47, s_269_48, s_269_49, s_269_50, s_269_53, s_269_56, s_269_57, s_269_58, s_269_61, s_269_62, amLong_I, amLong_R, amLong_N, amLong_L, cond_true, cond_false, Option.toList_some, Option.toList_none, List.cons_append, List.nil_append, List.append_nil, setE, setN, cpy_set, lit, nle, nlt, neq, inb_iff, cl_nI, tle, fle, tlt, flt, teq, feq, m9, m3, x9, x3, nI_add, nsub, upN, upE, b0', b01', r100, w100, r101, w101, r102, w102, r103, w103, r104, w104, r105, w105, r106, w106, r107, w107, r108, w108, w109, w110, r111, w111, r112, w112, r113, w113, r114, w114, r115, w115, r116, w116, r117, w117, r118, w118, r119, w119, w120, w121, r122, w122, r130, w130, w131, w132, r133, w133, r134, w134, r135, w135, r136, w136, r137, w137, r138, w138, r139, w139, r140, w140, r141, w141, w142, r143, w143, r144, w144, r145, w145, r146, w146, w147, w150, b1', em1, Bool.false_eq_true, not_true_eq_false, not_false_eq_true, false_implies, true_implies, and_true, true_and, if_true, if_false, implies_true, Classical.not_not, true_or, or_true, false_or, or_false, and_self, ite_true, ite_false, reduceIte, m160, c1]
    exact H _ J (hR'.s hK0 (fun _ => rfl)) hK0.fm FMJ.rfl
end KP
