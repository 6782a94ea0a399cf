/-! changes: the reference's calls -/
section CHG4
variable {d g t jk X sh : Nat} {M M1 M2 : amM} {J J1 J2 : amJ} {Q : Option amV → amS → Prop} {pay tok tk : Nat → Int32}
theorem m256 {a b : Int32} (hV : MV M sh pay tok) : Call (d + 4) 256 [vR 12 0, vI a, vI b] (M, J, (jk, 149, 147, X)) Q ↔ Q (some (vI (if bo ((nI 0 ≤ a ∧ a < nI (prf sh)) ∧ (nI 0 ≤ b ∧ b < nI (prf sh)) ∧ ¬ a = b) = true then (if tok a.toNatClampNeg = nI 0 then -nI 3 else nI 0) else -nI 1))) (M, J, (jk, 149, 147, X)) := by
  obtain ⟨l1, l2, l3, l4⟩ := hV.lim
  refine pureC (fun Q hQ => ?_)
  rw [e_256]
  by_cases c1 : nI 0 ≤ a ∧ a < nI (prf sh)
  · by_cases c2 : nI 0 ≤ b ∧ b < nI (prf sh)
    · by_cases c0 : a = b
      · rw [if_neg (fun z => (bo_iff.mp z).2.2 c0)] at hQ
        subst c0
        simp (disch := omega) only [s_256_0, s_256_1, s_256_2, s_256_5, s_256_8, s_256_9, s_256_10, s_256_13, s_256_16, s_256_17, s_256_18, s_256_21, s_256_22, s_256_25, s_256_26, s_256_29, s_256_31, s_256_32, s_256_33, s_256_34, s_256_37, s_256_39, s_256_42, s_256_43, amLong_I, amLong_R, amLong_N, amLong_L, cond_true, cond_false, Option.toList_some, Option.toList_none, List.cons_append, List.nil_append, List.append_nil, setE, setN, cpy_set, lit, nle, nlt, neq, inb_iff, cl_nI, tle, fle, tlt, flt, teq, feq, m9, m3, x9, x3, nI_add, nsub, upN, upE, b0', b01', r100, w100, r101, w101, r102, w102, r103, w103, r104, w104, r105, w105, r106, w106, r107, w107, r108, w108, w109, w110, r111, w111, r112, w112, r113, w113, r114, w114, r115, w115, r116, w116, r117, w117, r118, w118, r119, w119, w120, w121, r122, w122, r130, w130, w131, w132, r133, w133, r134, w134, r135, w135, r136, w136, r137, w137, r138, w138, r139, w139, r140, w140, r141, w141, w142, r143, w143, r144, w144, r145, w145, r146, w146, w147, w150, b1', em1, Bool.false_eq_true, not_true_eq_false, not_false_eq_true, false_implies, true_implies, and_true, true_and, if_true, if_false, implies_true, Classical.not_not, true_or, or_true, false_or, or_false, and_self, ite_true, ite_false, reduceIte, m182 hV, c1]
        exact hQ
      · rw [if_pos (bo_iff.mpr ⟨c1, c2, c0⟩)] at hQ
        obtain ⟨a, ha, rfl⟩ := (in_iff (by omega)).mp c1
        obtain ⟨b, hb, rfl⟩ := (in_iff (by omega)).mp c2
        have c0' : ¬ a = b := fun z => c0 (by rw [z])
        rw [cl_nI (by omega)] at hQ
        have ea : M 130 0 (31 + a) = tok a := hV.2.2.2.2 a (by omega)
        by_cases c3 : tok a = nI 0
        · rw [if_pos c3] at hQ
          simp (disch := omega) only [s_256_0, s_256_1, s_256_2, s_256_5, s_256_8, s_256_9, s_256_10, s_256_13, s_256_16, s_256_17, s_256_18, s_256_21, s_256_22, s_256_25, s_256_26, s_256_29, s_256_31, s_256_32, s_256_33, s_256_34, s_256_37, s_256_39, s_256_42, s_256_43, amLong_I, amLong_R, amLong_N, amLong_L, cond_true, cond_false, Option.toList_some, Option.toList_none, List.cons_append, List.nil_append, List.append_nil, setE, setN, cpy_set, lit, nle, nlt, neq, inb_iff, cl_nI, tle, fle, tlt, flt, teq, feq, m9, m3, x9, x3, nI_add, nsub, upN, upE, b0', b01', r100, w100, r101, w101, r102, w102, r103, w103, r104, w104, r105, w105, r106, w106, r107, w107, r108, w108, w109, w110, r111, w111, r112, w112, r113, w113, r114, w114, r115, w115, r116, w116, r117, w117, r118, w118, r119, w119, w120, w121, r122, w122, r130, w130, w131, w132, r133, w133, r134, w134, r135, w135, r136, w136, r137, w137, r138, w138, r139, w139, r140, w140, r141, w141, w142, r143, w143, r144, w144, r145, w145, r146, w146, w147, w150, b1', em1, Bool.false_eq_true, not_true_eq_false, not_false_eq_true, false_implies, true_implies, and_true, true_and, if_true, if_false, implies_true, Classical.not_not, true_or, or_true, false_or, or_false, and_self, ite_true, ite_false, reduceIte, m182 hV, c0', ea, c3]
          exact hQ
        · rw [if_neg c3] at hQ
          simp (disch := omega) only [s_256_0, s_256_1, s_256_2, s_256_5, s_256_8, s_256_9, s_256_10, s_256_13, s_256_16, s_256_17, s_256_18, s_256_21, s_256_22, s_256_25, s_256_26, s_256_29, s_256_31, s_256_32, s_256_33, s_256_34, s_256_37, s_256_39, s_256_42, s_256_43, amLong_I, amLong_R, amLong_N, amLong_L, cond_true, cond_false, Option.toList_some, Option.toList_none, List.cons_append, List.nil_append, List.append_nil, setE, setN, cpy_set, lit, nle, nlt, neq, inb_iff, cl_nI, tle, fle, tlt, flt, teq, feq, m9, m3, x9, x3, nI_add, nsub, upN, upE, b0', b01', r100, w100, r101, w101, r102, w102, r103, w103, r104, w104, r105, w105, r106, w106, r107, w107, r108, w108, w109, w110, r111, w111, r112, w112, r113, w113, r114, w114, r115, w115, r116, w116, r117, w117, r118, w118, r119, w119, w120, w121, r122, w122, r130, w130, w131, w132, r133, w133, r134, w134, r135, w135, r136, w136, r137, w137, r138, w138, r139, w139, r140, w140, r141, w141, w142, r143, w143, r144, w144, r145, w145, r146, w146, w147, w150, b1', em1, Bool.false_eq_true, not_true_eq_false, not_false_eq_true, false_implies, true_implies, and_true, true_and, if_true, if_false, implies_true, Classical.not_not, true_or, or_true, false_or, or_false, and_self, ite_true, ite_false, reduceIte, m182 hV, c0', ea, c3]
          exact hQ
    · rw [if_neg (fun z => c2 (bo_iff.mp z).2.1)] at hQ
      simp (disch := omega) only [s_256_0, s_256_1, s_256_2, s_256_5, s_256_8, s_256_9, s_256_10, s_256_13, s_256_16, s_256_17, s_256_18, s_256_21, s_256_22, s_256_25, s_256_26, s_256_29, s_256_31, s_256_32, s_256_33, s_256_34, s_256_37, s_256_39, s_256_42, s_256_43, amLong_I, amLong_R, amLong_N, amLong_L, cond_true, cond_false, Option.toList_some, Option.toList_none, List.cons_append, List.nil_append, List.append_nil, setE, setN, cpy_set, lit, nle, nlt, neq, inb_iff, cl_nI, tle, fle, tlt, flt, teq, feq, m9, m3, x9, x3, nI_add, nsub, upN, upE, b0', b01', r100, w100, r101, w101, r102, w102, r103, w103, r104, w104, r105, w105, r106, w106, r107, w107, r108, w108, w109, w110, r111, w111, r112, w112, r113, w113, r114, w114, r115, w115, r116, w116, r117, w117, r118, w118, r119, w119, w120, w121, r122, w122, r130, w130, w131, w132, r133, w133, r134, w134, r135, w135, r136, w136, r137, w137, r138, w138, r139, w139, r140, w140, r141, w141, w142, r143, w143, r144, w144, r145, w145, r146, w146, w147, w150, b1', em1, Bool.false_eq_true, not_true_eq_false, not_false_eq_true, false_implies, true_implies, and_true, true_and, if_true, if_false, implies_true, Classical.not_not, true_or, or_true, false_or, or_false, and_self, ite_true, ite_false, reduceIte, m182 hV, c1, c2]
      exact hQ
  · rw [if_neg (fun z => c1 (bo_iff.mp z).1)] at hQ
    simp (disch := omega) only [s_256_0, s_256_1, s_256_2, s_256_5, s_256_8, s_256_9, s_256_10, s_256_13, s_256_16, s_256_17, s_256_18, s_256_21, s_256_22, s_256_25, s_256_26, s_256_29, s_256_31, s_256_32, s_256_33, s_256_34, s_256_37, s_256_39, s_256_42, s_256_43, amLong_I, amLong_R, amLong_N, amLong_L, cond_true, cond_false, Option.toList_some, Option.toList_none, List.cons_append, List.nil_append, List.append_nil, setE, setN, cpy_set, lit, nle, nlt, neq, inb_iff, cl_nI, tle, fle, tlt, flt, teq, feq, m9, m3, x9, x3, nI_add, nsub, upN, upE, b0', b01', r100, w100, r101, w101, r102, w102, r103, w103, r104, w104, r105, w105, r106, w106, r107, w107, r108, w108, w109, w110, r111, w111, r112, w112, r113, w113, r114, w114, r115, w115, r116, w116, r117, w117, r118, w118, r119, w119, w120, w121, r122, w122, r130, w130, w131, w132, r133, w133, r134, w134, r135, w135, r136, w136, r137, w137, r138, w138, r139, w139, r140, w140, r141, w141, w142, r143, w143, r144, w144, r145, w145, r146, w146, w147, w150, b1', em1, Bool.false_eq_true, not_true_eq_false, not_false_eq_true, false_implies, true_implies, and_true, true_and, if_true, if_false, implies_true, Classical.not_not, true_or, or_true, false_or, or_false, and_self, ite_true, ite_false, reduceIte, m182 hV, c1]
    exact hQ
theorem m257 {a b : Nat} (hV : MV M sh pay tok) (ha : a < 9) (hb : b < 9) (hne : ¬ a = b) (H : ∀ M1, (∀ c j k, c ≠ 130 → M1 c j k = M c j k) → MV M1 sh pay (mvT tok a b) → Q none (M1, J, (jk, 149, 147, X))) : Call (d + 1) 257 [vR 12 0, vI (nI a), vI (nI b)] (M, J, (jk, 149, 147, X)) Q := by
  have ea : M 130 0 (31 + a) = tok a := hV.2.2.2.2 a ha
  have eb : M 130 0 (31 + b) = tok b := hV.2.2.2.2 b hb
  rw [e_257]
  simp (disch := omega) only [s_257_0, s_257_1, s_257_4, s_257_6, s_257_7, s_257_8, s_257_9, s_257_10, s_257_11, s_257_12, s_257_13, s_257_14, s_257_17, s_257_19, s_257_20, s_257_21, s_257_22, s_257_23, s_257_24, s_257_25, s_257_26, amLong_I, amLong_R, amLong_N, amLong_L, cond_true, cond_false, Option.toList_some, Option.toList_none, List.cons_append, List.nil_append, List.append_nil, setE, setN, cpy_set, lit, nle, nlt, neq, inb_iff, cl_nI, tle, fle, tlt, flt, teq, feq, m9, m3, x9, x3, nI_add, nsub, upN, upE, b0', b01', r100, w100, r101, w101, r102, w102, r103, w103, r104, w104, r105, w105, r106, w106, r107, w107, r108, w108, w109, w110, r111, w111, r112, w112, r113, w113, r114, w114, r115, w115, r116, w116, r117, w117, r118, w118, r119, w119, w120, w121, r122, w122, r130, w130, w131, w132, r133, w133, r134, w134, r135, w135, r136, w136, r137, w137, r138, w138, r139, w139, r140, w140, r141, w141, w142, r143, w143, r144, w144, r145, w145, r146, w146, w147, w150, b1', em1, Bool.false_eq_true, not_true_eq_false, not_false_eq_true, false_implies, true_implies, and_true, true_and, if_true, if_false, implies_true, Classical.not_not, true_or, or_true, false_or, or_false, and_self, ite_true, ite_false, reduceIte, ea, eb]
  refine H _ (fun c j k h => by rw [upN (by omega), upN (by omega)]) ⟨hV.1, ?_, fun i hi => ?_, fun k hk => ?_, fun p hp => ?_⟩
  · rw [upN (by omega), upN (by omega), hV.2.1]
  · rw [upN (by omega), upN (by omega), hV.2.2.1 i hi]
  · rw [upN (by omega), upN (by omega), hV.2.2.2.1 k hk]
  · unfold mvT
    by_cases e1 : p = b
    · rw [if_pos e1, upE ⟨rfl, rfl, by omega⟩]
    · rw [if_neg e1, upN (by omega)]
      by_cases e2 : p = a
      · rw [if_pos e2, upE ⟨rfl, rfl, by omega⟩]
      · rw [if_neg e2, upN (by omega), hV.2.2.2.2 p hp]
theorem n255 {A : Sta} {a b : Int32} (hR : RM M J A) (hW : WF A) (H : ∀ M1 J1, RM M1 J1 (opU A (mvF A.1 a b)).2 → FM M M1 → FMJ J J1 → Q (some (vI (opU A (mvF A.1 a b)).1)) (M1, J1, (jk, 149, 147, X))) : Call (d + 5) 255 [vR 12 0, vI a, vI b] (M, J, (jk, 149, 147, X)) Q := by
  obtain ⟨f, g1, g2, g3, g4, g5⟩ := hW.1.f
  have hV0 := (thr (x := nI 0)).v (hR.v hW)
  have hK0 : Kp M (upM M 1605 0 0 (nI 0)) := thr
  obtain ⟨⟨sh, pay, tok⟩, U, S, tx, r⟩ := A
  dsimp only at hV0 g1
  obtain ⟨l1, l2, l3, l4⟩ := hV0.lim
  unfold opU mvF at H
  dsimp only at H
  rw [e_255]
  simp (disch := omega) only [s_255_0, s_255_1, s_255_2, s_255_5, s_255_6, s_255_7, s_255_8, s_255_11, s_255_12, s_255_13, s_255_16, s_255_17, s_255_18, s_255_19, s_255_22, s_255_23, s_255_24, s_255_25, s_255_28, s_255_29, s_255_32, s_255_34, s_255_35, s_255_36, s_255_37, amLong_I, amLong_R, amLong_N, amLong_L, cond_true, cond_false, Option.toList_some, Option.toList_none, List.cons_append, List.nil_append, List.append_nil, setE, setN, cpy_set, lit, nle, nlt, neq, inb_iff, cl_nI, tle, fle, tlt, flt, teq, feq, m9, m3, x9, x3, nI_add, nsub, upN, upE, b0', b01', r100, w100, r101, w101, r102, w102, r103, w103, r104, w104, r105, w105, r106, w106, r107, w107, r108, w108, w109, w110, r111, w111, r112, w112, r113, w113, r114, w114, r115, w115, r116, w116, r117, w117, r118, w118, r119, w119, w120, w121, r122, w122, r130, w130, w131, w132, r133, w133, r134, w134, r135, w135, r136, w136, r137, w137, r138, w138, r139, w139, r140, w140, r141, w141, w142, r143, w143, r144, w144, r145, w145, r146, w146, w147, w150, b1', em1, Bool.false_eq_true, not_true_eq_false, not_false_eq_true, false_implies, true_implies, and_true, true_and, if_true, if_false, implies_true, Classical.not_not, true_or, or_true, false_or, or_false, and_self, ite_true, ite_false, reduceIte, m256 hV0]
  by_cases c1 : (nI 0 ≤ a ∧ a < nI (prf sh)) ∧ (nI 0 ≤ b ∧ b < nI (prf sh)) ∧ ¬ a = b
  · rw [if_pos (bo_iff.mpr c1)] at H ⊢
    obtain ⟨a, ha, rfl⟩ := (in_iff (by omega)).mp c1.1
    obtain ⟨b, hb, rfl⟩ := (in_iff (by omega)).mp c1.2.1
    have c0' : ¬ a = b := fun z => c1.2.2 (by rw [z])
    rw [cl_nI (by omega), cl_nI (by omega)] at H
    rw [cl_nI (by omega)]
    by_cases c3 : tok a = nI 0
    · rw [if_pos c3] at H ⊢
      rw [if_pos (neg_lt (by decide) (by decide))] at H
      simp (disch := omega) only [s_255_0, s_255_1, s_255_2, s_255_5, s_255_6, s_255_7, s_255_8, s_255_11, s_255_12, s_255_13, s_255_16, s_255_17, s_255_18, s_255_19, s_255_22, s_255_23, s_255_24, s_255_25, s_255_28, s_255_29, s_255_32, s_255_34, s_255_35, s_255_36, s_255_37, amLong_I, amLong_R, amLong_N, amLong_L, cond_true, cond_false, Option.toList_some, Option.toList_none, List.cons_append, List.nil_append, List.append_nil, setE, setN, cpy_set, lit, nle, nlt, neq, inb_iff, cl_nI, tle, fle, tlt, flt, teq, feq, m9, m3, x9, x3, nI_add, nsub, upN, upE, b0', b01', r100, w100, r101, w101, r102, w102, r103, w103, r104, w104, r105, w105, r106, w106, r107, w107, r108, w108, w109, w110, r111, w111, r112, w112, r113, w113, r114, w114, r115, w115, r116, w116, r117, w117, r118, w118, r119, w119, w120, w121, r122, w122, r130, w130, w131, w132, r133, w133, r134, w134, r135, w135, r136, w136, r137, w137, r138, w138, r139, w139, r140, w140, r141, w141, w142, r143, w143, r144, w144, r145, w145, r146, w146, w147, w150, b1', em1, Bool.false_eq_true, not_true_eq_false, not_false_eq_true, false_implies, true_implies, and_true, true_and, if_true, if_false, implies_true, Classical.not_not, true_or, or_true, false_or, or_false, and_self, ite_true, ite_false, reduceIte, show ¬ nI 0 ≤ -nI 3 from by decide]
      exact H _ J (hR.s hK0 (fun _ => rfl)) hK0.fm FMJ.rfl
    · rw [if_neg c3] at H ⊢
      have hnn : ¬ tok b + nI 1 < nI 0 := by
        have := g5 b
        rw [g1 b (by omega), nI_add, nlt (by omega) (by omega)]
        omega
      rw [if_neg hnn] at H
      simp (disch := omega) only [s_255_0, s_255_1, s_255_2, s_255_5, s_255_6, s_255_7, s_255_8, s_255_11, s_255_12, s_255_13, s_255_16, s_255_17, s_255_18, s_255_19, s_255_22, s_255_23, s_255_24, s_255_25, s_255_28, s_255_29, s_255_32, s_255_34, s_255_35, s_255_36, s_255_37, amLong_I, amLong_R, amLong_N, amLong_L, cond_true, cond_false, Option.toList_some, Option.toList_none, List.cons_append, List.nil_append, List.append_nil, setE, setN, cpy_set, lit, nle, nlt, neq, inb_iff, cl_nI, tle, fle, tlt, flt, teq, feq, m9, m3, x9, x3, nI_add, nsub, upN, upE, b0', b01', r100, w100, r101, w101, r102, w102, r103, w103, r104, w104, r105, w105, r106, w106, r107, w107, r108, w108, w109, w110, r111, w111, r112, w112, r113, w113, r114, w114, r115, w115, r116, w116, r117, w117, r118, w118, r119, w119, w120, w121, r122, w122, r130, w130, w131, w132, r133, w133, r134, w134, r135, w135, r136, w136, r137, w137, r138, w138, r139, w139, r140, w140, r141, w141, w142, r143, w143, r144, w144, r145, w145, r146, w146, w147, w150, b1', em1, Bool.false_eq_true, not_true_eq_false, not_false_eq_true, false_implies, true_implies, and_true, true_and, if_true, if_false, implies_true, Classical.not_not, true_or, or_true, false_or, or_false, and_self, ite_true, ite_false, reduceIte]
      refine m168 (V_img (G := (sh, pay, tok)) hV0) (hR.um.of (fun c j k hc => upN (by omega))) (fun M2 f1 f2 => ?_)
      have hV2 : MV M2 sh pay tok := hV0.of (fun k _ => f1 _ _ _ (by omega) (by omega) (by omega))
      simp (disch := omega) only [s_255_0, s_255_1, s_255_2, s_255_5, s_255_6, s_255_7, s_255_8, s_255_11, s_255_12, s_255_13, s_255_16, s_255_17, s_255_18, s_255_19, s_255_22, s_255_23, s_255_24, s_255_25, s_255_28, s_255_29, s_255_32, s_255_34, s_255_35, s_255_36, s_255_37, amLong_I, amLong_R, amLong_N, amLong_L, cond_true, cond_false, Option.toList_some, Option.toList_none, List.cons_append, List.nil_append, List.append_nil, setE, setN, cpy_set, lit, nle, nlt, neq, inb_iff, cl_nI, tle, fle, tlt, flt, teq, feq, m9, m3, x9, x3, nI_add, nsub, upN, upE, b0', b01', r100, w100, r101, w101, r102, w102, r103, w103, r104, w104, r105, w105, r106, w106, r107, w107, r108, w108, w109, w110, r111, w111, r112, w112, r113, w113, r114, w114, r115, w115, r116, w116, r117, w117, r118, w118, r119, w119, w120, w121, r122, w122, r130, w130, w131, w132, r133, w133, r134, w134, r135, w135, r136, w136, r137, w137, r138, w138, r139, w139, r140, w140, r141, w141, w142, r143, w143, r144, w144, r145, w145, r146, w146, w147, w150, b1', em1, Bool.false_eq_true, not_true_eq_false, not_false_eq_true, false_implies, true_implies, and_true, true_and, if_true, if_false, implies_true, Classical.not_not, true_or, or_true, false_or, or_false, and_self, ite_true, ite_false, reduceIte]
      refine m257 hV2 (by omega) (by omega) c0' (fun M3 y1 y2 => ?_)
      have eb : M3 130 0 (31 + b) = tok b + nI 1 := by
        rw [y2.2.2.2.2 b (by omega)]
        unfold mvT
        rw [if_pos rfl]
      simp (disch := omega) only [s_255_0, s_255_1, s_255_2, s_255_5, s_255_6, s_255_7, s_255_8, s_255_11, s_255_12, s_255_13, s_255_16, s_255_17, s_255_18, s_255_19, s_255_22, s_255_23, s_255_24, s_255_25, s_255_28, s_255_29, s_255_32, s_255_34, s_255_35, s_255_36, s_255_37, amLong_I, amLong_R, amLong_N, amLong_L, cond_true, cond_false, Option.toList_some, Option.toList_none, List.cons_append, List.nil_append, List.append_nil, setE, setN, cpy_set, lit, nle, nlt, neq, inb_iff, cl_nI, tle, fle, tlt, flt, teq, feq, m9, m3, x9, x3, nI_add, nsub, upN, upE, b0', b01', r100, w100, r101, w101, r102, w102, r103, w103, r104, w104, r105, w105, r106, w106, r107, w107, r108, w108, w109, w110, r111, w111, r112, w112, r113, w113, r114, w114, r115, w115, r116, w116, r117, w117, r118, w118, r119, w119, w120, w121, r122, w122, r130, w130, w131, w132, r133, w133, r134, w134, r135, w135, r136, w136, r137, w137, r138, w138, r139, w139, r140, w140, r141, w141, w142, r143, w143, r144, w144, r145, w145, r146, w146, w147, w150, b1', em1, Bool.false_eq_true, not_true_eq_false, not_false_eq_true, false_implies, true_implies, and_true, true_and, if_true, if_false, implies_true, Classical.not_not, true_or, or_true, false_or, or_false, and_self, ite_true, ite_false, reduceIte, eb]
      refine H _ J (RM.chg (G := (sh, pay, mvT tok a b)) hR (V_img (G := (sh, pay, mvT tok a b)) y2) (f2.of (fun c j k hc => y1 c j k (by omega))) (fun c j k z1 z2 z3 z4 => ?_) (fun _ => rfl)) (fun c j k hc => ?_) FMJ.rfl
      · rw [y1 c j k z2, f1 c j k z3 (by unfold Sc at z1; omega) z4, upN (by unfold Sc at z1; omega)]
      · rw [y1 c j k (by omega), f1 c j k (by omega) (by omega) (by omega), upN (by omega)]
  · rw [if_neg (fun z => c1 (bo_iff.mp z))] at H ⊢
    rw [if_pos (neg_lt (by decide) (by decide))] at H
    simp (disch := omega) only [s_255_0, s_255_1, s_255_2, s_255_5, s_255_6, s_255_7, s_255_8, s_255_11, s_255_12, s_255_13, s_255_16, s_255_17, s_255_18, s_255_19, s_255_22, s_255_23, s_255_24, s_255_25, s_255_28, s_255_29, s_255_32, s_255_34, s_255_35, s_255_36, s_255_37, amLong_I, amLong_R, amLong_N, amLong_L, cond_true, cond_false, Option.toList_some, Option.toList_none, List.cons_append, List.nil_append, List.append_nil, setE, setN, cpy_set, lit, nle, nlt, neq, inb_iff, cl_nI, tle, fle, tlt, flt, teq, feq, m9, m3, x9, x3, nI_add, nsub, upN, upE, b0', b01', r100, w100, r101, w101, r102, w102, r103, w103, r104, w104, r105, w105, r106, w106, r107, w107, r108, w108, w109, w110, r111, w111, r112, w112, r113, w113, r114, w114, r115, w115, r116, w116, r117, w117, r118, w118, r119, w119, w120, w121, r122, w122, r130, w130, w131, w132, r133, w133, r134, w134, r135, w135, r136, w136, r137, w137, r138, w138, r139, w139, r140, w140, r141, w141, w142, r143, w143, r144, w144, r145, w145, r146, w146, w147, w150, b1', em1, Bool.false_eq_true, not_true_eq_false, not_false_eq_true, false_implies, true_implies, and_true, true_and, if_true, if_false, implies_true, Classical.not_not, true_or, or_true, false_or, or_false, and_self, ite_true, ite_false, reduceIte, show ¬ nI 0 ≤ -nI 1 from by decide]
    exact H _ J (hR.s hK0 (fun _ => rfl)) hK0.fm FMJ.rfl
theorem m259 {p n : Int32} (hV : MV M sh pay tok) (hW : WG (sh, pay, tok)) : Call (d + 4) 259 [vR 12 0, vI p, vI n] (M, J, (jk, 149, 147, X)) Q ↔ Q (some (vI (if bo ((nI 0 ≤ p ∧ p < nI (prf sh)) ∧ ¬ n = nI 0) = true then (if bo ((tok p.toNatClampNeg).toInt + n.toInt < 0 ∨ 6 < (ttl (sh, pay, tok) : Int) + n.toInt) = true then -nI 3 else nI 0) else -nI 1))) (M, J, (jk, 149, 147, X)) := by
  obtain ⟨l1, l2, l3, l4⟩ := hV.lim
  obtain ⟨t1, t2, -⟩ := hW.tt
  dsimp only at t1
  generalize ttl (sh, pay, tok) = T at *
  refine pureC (fun Q hQ => ?_)
  rw [e_259]
  by_cases c1 : nI 0 ≤ p ∧ p < nI (prf sh)
  · by_cases c0 : n = nI 0
    · rw [if_neg (fun z => (bo_iff.mp z).2 c0)] at hQ
      simp (disch := omega) only [s_259_0, s_259_1, s_259_2, s_259_5, s_259_8, s_259_9, s_259_12, s_259_13, s_259_14, s_259_15, s_259_18, s_259_20, s_259_21, s_259_22, s_259_23, s_259_24, s_259_25, s_259_26, s_259_27, s_259_28, s_259_29, s_259_32, s_259_33, s_259_36, s_259_37, s_259_38, s_259_39, s_259_40, s_259_43, s_259_44, s_259_47, s_259_49, s_259_52, s_259_53, amLong_I, amLong_R, amLong_N, amLong_L, cond_true, cond_false, Option.toList_some, Option.toList_none, List.cons_append, List.nil_append, List.append_nil, setE, setN, cpy_set, lit, nle, nlt, neq, inb_iff, cl_nI, tle, fle, tlt, flt, teq, feq, m9, m3, x9, x3, nI_add, nsub, upN, upE, b0', b01', r100, w100, r101, w101, r102, w102, r103, w103, r104, w104, r105, w105, r106, w106, r107, w107, r108, w108, w109, w110, r111, w111, r112, w112, r113, w113, r114, w114, r115, w115, r116, w116, r117, w117, r118, w118, r119, w119, w120, w121, r122, w122, r130, w130, w131, w132, r133, w133, r134, w134, r135, w135, r136, w136, r137, w137, r138, w138, r139, w139, r140, w140, r141, w141, w142, r143, w143, r144, w144, r145, w145, r146, w146, w147, w150, b1', em1, Bool.false_eq_true, not_true_eq_false, not_false_eq_true, false_implies, true_implies, and_true, true_and, if_true, if_false, implies_true, Classical.not_not, true_or, or_true, false_or, or_false, and_self, ite_true, ite_false, reduceIte, m182 hV, c1, c0]
      exact hQ
    · rw [if_pos (bo_iff.mpr ⟨c1, c0⟩)] at hQ
      obtain ⟨p, hp, rfl⟩ := (in_iff (by omega)).mp c1
      rw [cl_nI (by omega)] at hQ
      have ep : M 130 0 (31 + p) = tok p := hV.2.2.2.2 p (by omega)
      have q1 : (tok p).toInt64 + n.toInt64 < 0 ↔ (tok p).toInt + n.toInt < 0 := by
        rw [Int64.lt_iff_toInt_lt, l_add]
        exact Iff.rfl
      have q2 : (nI T).toInt64 + n.toInt64 ≤ 6 ↔ ¬ 6 < (T : Int) + n.toInt := by
        rw [Int64.le_iff_toInt_le, l_add, nI_toInt (by omega), show (6 : Int64).toInt = 6 from rfl]
        omega
      by_cases c3 : (tok p).toInt + n.toInt < 0
      · have c3' := q1.mpr c3
        rw [if_pos (bo_iff.mpr (Or.inl c3))] at hQ
        simp (disch := omega) only [s_259_0, s_259_1, s_259_2, s_259_5, s_259_8, s_259_9, s_259_12, s_259_13, s_259_14, s_259_15, s_259_18, s_259_20, s_259_21, s_259_22, s_259_23, s_259_24, s_259_25, s_259_26, s_259_27, s_259_28, s_259_29, s_259_32, s_259_33, s_259_36, s_259_37, s_259_38, s_259_39, s_259_40, s_259_43, s_259_44, s_259_47, s_259_49, s_259_52, s_259_53, amLong_I, amLong_R, amLong_N, amLong_L, cond_true, cond_false, Option.toList_some, Option.toList_none, List.cons_append, List.nil_append, List.append_nil, setE, setN, cpy_set, lit, nle, nlt, neq, inb_iff, cl_nI, tle, fle, tlt, flt, teq, feq, m9, m3, x9, x3, nI_add, nsub, upN, upE, b0', b01', r100, w100, r101, w101, r102, w102, r103, w103, r104, w104, r105, w105, r106, w106, r107, w107, r108, w108, w109, w110, r111, w111, r112, w112, r113, w113, r114, w114, r115, w115, r116, w116, r117, w117, r118, w118, r119, w119, w120, w121, r122, w122, r130, w130, w131, w132, r133, w133, r134, w134, r135, w135, r136, w136, r137, w137, r138, w138, r139, w139, r140, w140, r141, w141, w142, r143, w143, r144, w144, r145, w145, r146, w146, w147, w150, b1', em1, Bool.false_eq_true, not_true_eq_false, not_false_eq_true, false_implies, true_implies, and_true, true_and, if_true, if_false, implies_true, Classical.not_not, true_or, or_true, false_or, or_false, and_self, ite_true, ite_false, reduceIte, m182 hV, c0, ep, lg_lt, c3']
        exact hQ
      · have c3' : ¬ (tok p).toInt64 + n.toInt64 < 0 := fun z => c3 (q1.mp z)
        by_cases c4 : 6 < (T : Int) + n.toInt
        · have c4' : ¬ (nI T).toInt64 + n.toInt64 ≤ 6 := fun z => q2.mp z c4
          rw [if_pos (bo_iff.mpr (Or.inr c4))] at hQ
          simp (disch := omega) only [s_259_0, s_259_1, s_259_2, s_259_5, s_259_8, s_259_9, s_259_12, s_259_13, s_259_14, s_259_15, s_259_18, s_259_20, s_259_21, s_259_22, s_259_23, s_259_24, s_259_25, s_259_26, s_259_27, s_259_28, s_259_29, s_259_32, s_259_33, s_259_36, s_259_37, s_259_38, s_259_39, s_259_40, s_259_43, s_259_44, s_259_47, s_259_49, s_259_52, s_259_53, amLong_I, amLong_R, amLong_N, amLong_L, cond_true, cond_false, Option.toList_some, Option.toList_none, List.cons_append, List.nil_append, List.append_nil, setE, setN, cpy_set, lit, nle, nlt, neq, inb_iff, cl_nI, tle, fle, tlt, flt, teq, feq, m9, m3, x9, x3, nI_add, nsub, upN, upE, b0', b01', r100, w100, r101, w101, r102, w102, r103, w103, r104, w104, r105, w105, r106, w106, r107, w107, r108, w108, w109, w110, r111, w111, r112, w112, r113, w113, r114, w114, r115, w115, r116, w116, r117, w117, r118, w118, r119, w119, w120, w121, r122, w122, r130, w130, w131, w132, r133, w133, r134, w134, r135, w135, r136, w136, r137, w137, r138, w138, r139, w139, r140, w140, r141, w141, w142, r143, w143, r144, w144, r145, w145, r146, w146, w147, w150, b1', em1, Bool.false_eq_true, not_true_eq_false, not_false_eq_true, false_implies, true_implies, and_true, true_and, if_true, if_false, implies_true, Classical.not_not, true_or, or_true, false_or, or_false, and_self, ite_true, ite_false, reduceIte, m182 hV, c0, ep, lg_lt, c3', w198 hV hW, t1, lg_le, c4']
          exact hQ
        · have c4' := q2.mpr c4
          rw [if_neg (fun z => by rcases bo_iff.mp z with z | z; exact c3 z; exact c4 z)] at hQ
          simp (disch := omega) only [s_259_0, s_259_1, s_259_2, s_259_5, s_259_8, s_259_9, s_259_12, s_259_13, s_259_14, s_259_15, s_259_18, s_259_20, s_259_21, s_259_22, s_259_23, s_259_24, s_259_25, s_259_26, s_259_27, s_259_28, s_259_29, s_259_32, s_259_33, s_259_36, s_259_37, s_259_38, s_259_39, s_259_40, s_259_43, s_259_44, s_259_47, s_259_49, s_259_52, s_259_53, amLong_I, amLong_R, amLong_N, amLong_L, cond_true, cond_false, Option.toList_some, Option.toList_none, List.cons_append, List.nil_append, List.append_nil, setE, setN, cpy_set, lit, nle, nlt, neq, inb_iff, cl_nI, tle, fle, tlt, flt, teq, feq, m9, m3, x9, x3, nI_add, nsub, upN, upE, b0', b01', r100, w100, r101, w101, r102, w102, r103, w103, r104, w104, r105, w105, r106, w106, r107, w107, r108, w108, w109, w110, r111, w111, r112, w112, r113, w113, r114, w114, r115, w115, r116, w116, r117, w117, r118, w118, r119, w119, w120, w121, r122, w122, r130, w130, w131, w132, r133, w133, r134, w134, r135, w135, r136, w136, r137, w137, r138, w138, r139, w139, r140, w140, r141, w141, w142, r143, w143, r144, w144, r145, w145, r146, w146, w147, w150, b1', em1, Bool.false_eq_true, not_true_eq_false, not_false_eq_true, false_implies, true_implies, and_true, true_and, if_true, if_false, implies_true, Classical.not_not, true_or, or_true, false_or, or_false, and_self, ite_true, ite_false, reduceIte, m182 hV, c0, ep, lg_lt, c3', w198 hV hW, t1, lg_le, c4']
          exact hQ
  · rw [if_neg (fun z => c1 (bo_iff.mp z).1)] at hQ
    simp (disch := omega) only [s_259_0, s_259_1, s_259_2, s_259_5, s_259_8, s_259_9, s_259_12, s_259_13, s_259_14, s_259_15, s_259_18, s_259_20, s_259_21, s_259_22, s_259_23, s_259_24, s_259_25, s_259_26, s_259_27, s_259_28, s_259_29, s_259_32, s_259_33, s_259_36, s_259_37, s_259_38, s_259_39, s_259_40, s_259_43, s_259_44, s_259_47, s_259_49, s_259_52, s_259_53, amLong_I, amLong_R, amLong_N, amLong_L, cond_true, cond_false, Option.toList_some, Option.toList_none, List.cons_append, List.nil_append, List.append_nil, setE, setN, cpy_set, lit, nle, nlt, neq, inb_iff, cl_nI, tle, fle, tlt, flt, teq, feq, m9, m3, x9, x3, nI_add, nsub, upN, upE, b0', b01', r100, w100, r101, w101, r102, w102, r103, w103, r104, w104, r105, w105, r106, w106, r107, w107, r108, w108, w109, w110, r111, w111, r112, w112, r113, w113, r114, w114, r115, w115, r116, w116, r117, w117, r118, w118, r119, w119, w120, w121, r122, w122, r130, w130, w131, w132, r133, w133, r134, w134, r135, w135, r136, w136, r137, w137, r138, w138, r139, w139, r140, w140, r141, w141, w142, r143, w143, r144, w144, r145, w145, r146, w146, w147, w150, b1', em1, Bool.false_eq_true, not_true_eq_false, not_false_eq_true, false_implies, true_implies, and_true, true_and, if_true, if_false, implies_true, Classical.not_not, true_or, or_true, false_or, or_false, and_self, ite_true, ite_false, reduceIte, m182 hV, c1]
    exact hQ
theorem MV.lay {p : Nat} {v : Int32} (hV : MV M sh pay tok) (hp : p < 9) : MV (upM M 130 0 (31 + p) v) sh pay (fun q => if q = p then v else tok q) :=
  ⟨hV.1, by rw [upN (by omega), hV.2.1], fun i hi => by rw [upN (by omega), hV.2.2.1 i hi], fun k hk => by rw [upN (by omega), hV.2.2.2.1 k hk], fun q hq => by
    dsimp only
    by_cases e : q = p
    · rw [if_pos e, upE ⟨rfl, rfl, by omega⟩]
    · rw [if_neg e, upN (by omega), hV.2.2.2.2 q hq]⟩
theorem n258 {A : Sta} {p n : Int32} (hR : RM M J A) (hW : WF A) (H : ∀ M1 J1, RM M1 J1 (opU A (lyF A.1 p n)).2 → FM M M1 → FMJ J J1 → Q (some (vI (opU A (lyF A.1 p n)).1)) (M1, J1, (jk, 149, 147, X))) : Call (d + 5) 258 [vR 12 0, vI p, vI n] (M, J, (jk, 149, 147, X)) Q := by
  have hV0 := (thr (x := nI 0)).v (hR.v hW)
  have hK0 : Kp M (upM M 1605 0 0 (nI 0)) := thr
  have hl := (lyF_ok (p := p) (n := n) hW.1)
  obtain ⟨⟨sh, pay, tok⟩, U, S, tx, r⟩ := A
  have hW1 : WG (sh, pay, tok) := hW.1
  dsimp only at hV0
  obtain ⟨l1, l2, l3, l4⟩ := hV0.lim
  unfold opU lyF at H
  unfold lyF at hl
  dsimp only at H hl
  rw [e_258]
  simp (disch := omega) only [s_258_0, s_258_1, s_258_2, s_258_5, s_258_6, s_258_7, s_258_8, s_258_11, s_258_12, s_258_13, s_258_16, s_258_17, s_258_18, s_258_19, s_258_22, s_258_23, s_258_26, s_258_28, s_258_29, s_258_30, s_258_31, s_258_32, s_258_33, s_258_34, s_258_35, s_258_36, s_258_39, s_258_41, s_258_42, s_258_43, s_258_44, amLong_I, amLong_R, amLong_N, amLong_L, cond_true, cond_false, Option.toList_some, Option.toList_none, List.cons_append, List.nil_append, List.append_nil, setE, setN, cpy_set, lit, nle, nlt, neq, inb_iff, cl_nI, tle, fle, tlt, flt, teq, feq, m9, m3, x9, x3, nI_add, nsub, upN, upE, b0', b01', r100, w100, r101, w101, r102, w102, r103, w103, r104, w104, r105, w105, r106, w106, r107, w107, r108, w108, w109, w110, r111, w111, r112, w112, r113, w113, r114, w114, r115, w115, r116, w116, r117, w117, r118, w118, r119, w119, w120, w121, r122, w122, r130, w130, w131, w132, r133, w133, r134, w134, r135, w135, r136, w136, r137, w137, r138, w138, r139, w139, r140, w140, r141, w141, w142, r143, w143, r144, w144, r145, w145, r146, w146, w147, w150, b1', em1, Bool.false_eq_true, not_true_eq_false, not_false_eq_true, false_implies, true_implies, and_true, true_and, if_true, if_false, implies_true, Classical.not_not, true_or, or_true, false_or, or_false, and_self, ite_true, ite_false, reduceIte, m259 hV0 hW1]
  by_cases c1 : (nI 0 ≤ p ∧ p < nI (prf sh)) ∧ ¬ n = nI 0
  · rw [if_pos (bo_iff.mpr c1)] at H hl ⊢
    obtain ⟨p, hp, rfl⟩ := (in_iff (by omega)).mp c1.1
    rw [cl_nI (by omega)] at H hl ⊢
    by_cases c3 : (tok p).toInt + n.toInt < 0 ∨ 6 < (ttl (sh, pay, tok) : Int) + n.toInt
    · rw [if_pos (bo_iff.mpr c3)] at H ⊢
      rw [if_pos (neg_lt (by decide) (by decide))] at H
      simp (disch := omega) only [s_258_0, s_258_1, s_258_2, s_258_5, s_258_6, s_258_7, s_258_8, s_258_11, s_258_12, s_258_13, s_258_16, s_258_17, s_258_18, s_258_19, s_258_22, s_258_23, s_258_26, s_258_28, s_258_29, s_258_30, s_258_31, s_258_32, s_258_33, s_258_34, s_258_35, s_258_36, s_258_39, s_258_41, s_258_42, s_258_43, s_258_44, amLong_I, amLong_R, amLong_N, amLong_L, cond_true, cond_false, Option.toList_some, Option.toList_none, List.cons_append, List.nil_append, List.append_nil, setE, setN, cpy_set, lit, nle, nlt, neq, inb_iff, cl_nI, tle, fle, tlt, flt, teq, feq, m9, m3, x9, x3, nI_add, nsub, upN, upE, b0', b01', r100, w100, r101, w101, r102, w102, r103, w103, r104, w104, r105, w105, r106, w106, r107, w107, r108, w108, w109, w110, r111, w111, r112, w112, r113, w113, r114, w114, r115, w115, r116, w116, r117, w117, r118, w118, r119, w119, w120, w121, r122, w122, r130, w130, w131, w132, r133, w133, r134, w134, r135, w135, r136, w136, r137, w137, r138, w138, r139, w139, r140, w140, r141, w141, w142, r143, w143, r144, w144, r145, w145, r146, w146, w147, w150, b1', em1, Bool.false_eq_true, not_true_eq_false, not_false_eq_true, false_implies, true_implies, and_true, true_and, if_true, if_false, implies_true, Classical.not_not, true_or, or_true, false_or, or_false, and_self, ite_true, ite_false, reduceIte, show ¬ nI 0 ≤ -nI 3 from by decide]
      exact H _ J (hR.s hK0 (fun _ => rfl)) hK0.fm FMJ.rfl
    · have c3' : ¬ bo ((tok p).toInt + n.toInt < 0 ∨ 6 < (ttl (sh, pay, tok) : Int) + n.toInt) = true := fun z => c3 (bo_iff.mp z)
      rw [if_neg c3'] at H hl ⊢
      have hb : 0 ≤ (tok p).toInt ∧ (tok p).toInt ≤ 6 := hW1.tb p (by omega)
      have hnn : ¬ tok p + n < nI 0 := by
        have : 0 ≤ (tok p).toInt + n.toInt := by omega
        have : (tok p).toInt + n.toInt ≤ 12 := by
          have := (hW1.tt).2.1
          omega
        rw [Int32.lt_iff_toInt_lt, tA (by omega) (by omega), show (nI 0).toInt = 0 from rfl]
        omega
      rw [if_neg hnn] at H
      simp (disch := omega) only [s_258_0, s_258_1, s_258_2, s_258_5, s_258_6, s_258_7, s_258_8, s_258_11, s_258_12, s_258_13, s_258_16, s_258_17, s_258_18, s_258_19, s_258_22, s_258_23, s_258_26, s_258_28, s_258_29, s_258_30, s_258_31, s_258_32, s_258_33, s_258_34, s_258_35, s_258_36, s_258_39, s_258_41, s_258_42, s_258_43, s_258_44, amLong_I, amLong_R, amLong_N, amLong_L, cond_true, cond_false, Option.toList_some, Option.toList_none, List.cons_append, List.nil_append, List.append_nil, setE, setN, cpy_set, lit, nle, nlt, neq, inb_iff, cl_nI, tle, fle, tlt, flt, teq, feq, m9, m3, x9, x3, nI_add, nsub, upN, upE, b0', b01', r100, w100, r101, w101, r102, w102, r103, w103, r104, w104, r105, w105, r106, w106, r107, w107, r108, w108, w109, w110, r111, w111, r112, w112, r113, w113, r114, w114, r115, w115, r116, w116, r117, w117, r118, w118, r119, w119, w120, w121, r122, w122, r130, w130, w131, w132, r133, w133, r134, w134, r135, w135, r136, w136, r137, w137, r138, w138, r139, w139, r140, w140, r141, w141, w142, r143, w143, r144, w144, r145, w145, r146, w146, w147, w150, b1', em1, Bool.false_eq_true, not_true_eq_false, not_false_eq_true, false_implies, true_implies, and_true, true_and, if_true, if_false, implies_true, Classical.not_not, true_or, or_true, false_or, or_false, and_self, ite_true, ite_false, reduceIte]
      refine m168 (V_img (G := (sh, pay, tok)) hV0) (hR.um.of (fun c j k hc => upN (by omega))) (fun M2 f1 f2 => ?_)
      have hV2 : MV M2 sh pay tok := hV0.of (fun k _ => f1 _ _ _ (by omega) (by omega) (by omega))
      have ep : M2 130 0 (31 + p) = tok p := hV2.2.2.2.2 p (by omega)
      simp (disch := omega) only [s_258_0, s_258_1, s_258_2, s_258_5, s_258_6, s_258_7, s_258_8, s_258_11, s_258_12, s_258_13, s_258_16, s_258_17, s_258_18, s_258_19, s_258_22, s_258_23, s_258_26, s_258_28, s_258_29, s_258_30, s_258_31, s_258_32, s_258_33, s_258_34, s_258_35, s_258_36, s_258_39, s_258_41, s_258_42, s_258_43, s_258_44, amLong_I, amLong_R, amLong_N, amLong_L, cond_true, cond_false, Option.toList_some, Option.toList_none, List.cons_append, List.nil_append, List.append_nil, setE, setN, cpy_set, lit, nle, nlt, neq, inb_iff, cl_nI, tle, fle, tlt, flt, teq, feq, m9, m3, x9, x3, nI_add, nsub, upN, upE, b0', b01', r100, w100, r101, w101, r102, w102, r103, w103, r104, w104, r105, w105, r106, w106, r107, w107, r108, w108, w109, w110, r111, w111, r112, w112, r113, w113, r114, w114, r115, w115, r116, w116, r117, w117, r118, w118, r119, w119, w120, w121, r122, w122, r130, w130, w131, w132, r133, w133, r134, w134, r135, w135, r136, w136, r137, w137, r138, w138, r139, w139, r140, w140, r141, w141, w142, r143, w143, r144, w144, r145, w145, r146, w146, w147, w150, b1', em1, Bool.false_eq_true, not_true_eq_false, not_false_eq_true, false_implies, true_implies, and_true, true_and, if_true, if_false, implies_true, Classical.not_not, true_or, or_true, false_or, or_false, and_self, ite_true, ite_false, reduceIte, ep]
      have hV3 := hV2.lay (v := tok p + n) (show p < 9 by omega)
      refine H _ J (RM.chg (G := (sh, pay, fun q => if q = p then tok p + n else tok q)) hR (V_img (G := (sh, pay, fun q => if q = p then tok p + n else tok q)) hV3) (f2.of (fun c j k hc => upN (by omega))) (fun c j k z1 z2 z3 z4 => ?_) (fun _ => rfl)) (fun c j k hc => ?_) FMJ.rfl
      · rw [upN (by omega), f1 c j k z3 (by unfold Sc at z1; omega) z4, upN (by unfold Sc at z1; omega)]
      · rw [upN (by omega), f1 c j k (by omega) (by omega) (by omega), upN (by omega)]
  · rw [if_neg (fun z => c1 (bo_iff.mp z))] at H ⊢
    rw [if_pos (neg_lt (by decide) (by decide))] at H
    simp (disch := omega) only [s_258_0, s_258_1, s_258_2, s_258_5, s_258_6, s_258_7, s_258_8, s_258_11, s_258_12, s_258_13, s_258_16, s_258_17, s_258_18, s_258_19, s_258_22, s_258_23, s_258_26, s_258_28, s_258_29, s_258_30, s_258_31, s_258_32, s_258_33, s_258_34, s_258_35, s_258_36, s_258_39, s_258_41, s_258_42, s_258_43, s_258_44, amLong_I, amLong_R, amLong_N, amLong_L, cond_true, cond_false, Option.toList_some, Option.toList_none, List.cons_append, List.nil_append, List.append_nil, setE, setN, cpy_set, lit, nle, nlt, neq, inb_iff, cl_nI, tle, fle, tlt, flt, teq, feq, m9, m3, x9, x3, nI_add, nsub, upN, upE, b0', b01', r100, w100, r101, w101, r102, w102, r103, w103, r104, w104, r105, w105, r106, w106, r107, w107, r108, w108, w109, w110, r111, w111, r112, w112, r113, w113, r114, w114, r115, w115, r116, w116, r117, w117, r118, w118, r119, w119, w120, w121, r122, w122, r130, w130, w131, w132, r133, w133, r134, w134, r135, w135, r136, w136, r137, w137, r138, w138, r139, w139, r140, w140, r141, w141, w142, r143, w143, r144, w144, r145, w145, r146, w146, w147, w150, b1', em1, Bool.false_eq_true, not_true_eq_false, not_false_eq_true, false_implies, true_implies, and_true, true_and, if_true, if_false, implies_true, Classical.not_not, true_or, or_true, false_or, or_false, and_self, ite_true, ite_false, reduceIte, show ¬ nI 0 ≤ -nI 1 from by decide]
    exact H _ J (hR.s hK0 (fun _ => rfl)) hK0.fm FMJ.rfl
/-- taken or not -/
noncomputable def tkN (G : Gm) (n what : Int32) : Option (Nat × List Nat) := if bo (whO G.1 n what) = true then (match bsF G.1 G.2.1 what.toNatClampNeg (LST G.1 G.2.1 n.toNatClampNeg) 0 none with
  | none => none
  | some y => if bo (eqv G.1 G.2.2 y.2.2) = true then none else some (y.1, y.2.2)) else none
noncomputable def tkA (G : Gm) (n what : Int32) : Int32 := if bo (whO G.1 n what) = true then -nI 2 else -nI 1
theorem tkF_N {G : Gm} {n what : Int32} : tkF G n what = match tkN G n what with
    | none => (tkA G n what, G)
    | some y => (nI 1000 + wlf G.1 G.2.1 (tf y.2), (G.1, G.2.1, tf y.2)) := by
  unfold tkF tkN tkA
  by_cases c1 : bo (whO G.1 n what) = true
  · rw [if_pos c1, if_pos c1, if_pos c1]
    cases bsF G.1 G.2.1 what.toNatClampNeg (LST G.1 G.2.1 n.toNatClampNeg) 0 none with
    | none => rfl
    | some y =>
      dsimp only
      by_cases c2 : bo (eqv G.1 G.2.2 y.2.2) = true
      · rw [if_pos c2, if_pos c2]
      · rw [if_neg c2, if_neg c2]
  · rw [if_neg c1, if_neg c1, if_neg c1]
theorem m261 {n what : Int32} (hV : MV M sh pay tok) (hW : WG (sh, pay, tok)) (H0 : ∀ M1, Kp M M1 → tkN (sh, pay, tok) n what = none → Q (some (vI (tkA (sh, pay, tok) n what))) (M1, J, (jk, 149, 147, X))) (H1 : ∀ M1 l y, Kp M M1 → tkN (sh, pay, tok) n what = some y → LM M1 l → y.1 < l.length → y.2 = l.getD y.1 [] → lsum y.2 ≤ 6 → y.2.length = prf sh → Q (some (vI (nI y.1))) (M1, J, (jk, 149, 147, X))) : Call (d + 19) 261 [vR 12 0, vI n, vI what] (M, J, (jk, 149, 147, X)) Q := by
  unfold tkN tkA at H0
  unfold tkN at H1
  dsimp only at H0 H1
  rw [e_261]
  by_cases c1 : whO sh n what
  · have c2 : bo (whO sh n what) = true := bo_iff.mpr c1
    rw [if_pos c2] at H0 H1
    obtain ⟨n, w, hn, hn1, hw, hpl, rfl, rfl⟩ := wh_of hV.1 c1
    rw [cl_nI (by omega), cl_nI (by omega)] at H0 H1
    have hlen := LST_len (pay := pay) hV.1 hn
    simp (disch := omega) only [s_261_0, s_261_1, s_261_2, s_261_3, s_261_6, s_261_9, s_261_10, s_261_11, s_261_12, s_261_13, s_261_14, s_261_17, s_261_18, s_261_19, s_261_20, s_261_23, s_261_24, s_261_25, s_261_28, s_261_31, s_261_33, s_261_36, s_261_37, amLong_I, amLong_R, amLong_N, amLong_L, cond_true, cond_false, Option.toList_some, Option.toList_none, List.cons_append, List.nil_append, List.append_nil, setE, setN, cpy_set, lit, nle, nlt, neq, inb_iff, cl_nI, tle, fle, tlt, flt, teq, feq, m9, m3, x9, x3, nI_add, nsub, upN, upE, b0', b01', r100, w100, r101, w101, r102, w102, r103, w103, r104, w104, r105, w105, r106, w106, r107, w107, r108, w108, w109, w110, r111, w111, r112, w112, r113, w113, r114, w114, r115, w115, r116, w116, r117, w117, r118, w118, r119, w119, w120, w121, r122, w122, r130, w130, w131, w132, r133, w133, r134, w134, r135, w135, r136, w136, r137, w137, r138, w138, r139, w139, r140, w140, r141, w141, w142, r143, w143, r144, w144, r145, w145, r146, w146, w147, w150, b1', em1, Bool.false_eq_true, not_true_eq_false, not_false_eq_true, false_implies, true_implies, and_true, true_and, if_true, if_false, implies_true, Classical.not_not, true_or, or_true, false_or, or_false, and_self, ite_true, ite_false, reduceIte, m222 hV, c2]
    refine m223 hV hW.2.1 hn hw hpl (fun M1 hK hL hc => ?_)
    have hV1 := hK.v hV
    have hmem : ∀ k, k < (LST sh pay n).length → ((LST sh pay n).getD k []).length = prf sh ∧ lsum ((LST sh pay n).getD k []) = n := fun k hk => by
      have := LST_mem hV.1 (getD_mem hk)
      exact ⟨this.1, this.2.1⟩
    generalize hs : bsF sh pay w (LST sh pay n) 0 none = s at *
    cases s with
    | none =>
      rw [if_pos c2] at H0
      simp (disch := omega) only [s_261_0, s_261_1, s_261_2, s_261_3, s_261_6, s_261_9, s_261_10, s_261_11, s_261_12, s_261_13, s_261_14, s_261_17, s_261_18, s_261_19, s_261_20, s_261_23, s_261_24, s_261_25, s_261_28, s_261_31, s_261_33, s_261_36, s_261_37, amLong_I, amLong_R, amLong_N, amLong_L, cond_true, cond_false, Option.toList_some, Option.toList_none, List.cons_append, List.nil_append, List.append_nil, setE, setN, cpy_set, lit, nle, nlt, neq, inb_iff, cl_nI, tle, fle, tlt, flt, teq, feq, m9, m3, x9, x3, nI_add, nsub, upN, upE, b0', b01', r100, w100, r101, w101, r102, w102, r103, w103, r104, w104, r105, w105, r106, w106, r107, w107, r108, w108, w109, w110, r111, w111, r112, w112, r113, w113, r114, w114, r115, w115, r116, w116, r117, w117, r118, w118, r119, w119, w120, w121, r122, w122, r130, w130, w131, w132, r133, w133, r134, w134, r135, w135, r136, w136, r137, w137, r138, w138, r139, w139, r140, w140, r141, w141, w142, r143, w143, r144, w144, r145, w145, r146, w146, w147, w150, b1', em1, Bool.false_eq_true, not_true_eq_false, not_false_eq_true, false_implies, true_implies, and_true, true_and, if_true, if_false, implies_true, Classical.not_not, true_or, or_true, false_or, or_false, and_self, ite_true, ite_false, reduceIte, bsN]
      exact H0 M1 hK rfl
    | some y =>
      obtain ⟨j1, j2, j3⟩ := hc y rfl
      obtain ⟨m1, m2⟩ := hmem y.1 j1
      have f7 : ¬ nI y.1 = -nI 1 := fun z => (nI_neg1 (by omega)).mp z
      dsimp only at H0 H1
      by_cases e : bo (eqv sh tok y.2.2) = true
      · rw [if_pos e] at H0
        have e' := e
        rw [j2] at e'
        rw [if_pos c2] at H0
        simp (disch := omega) only [s_261_0, s_261_1, s_261_2, s_261_3, s_261_6, s_261_9, s_261_10, s_261_11, s_261_12, s_261_13, s_261_14, s_261_17, s_261_18, s_261_19, s_261_20, s_261_23, s_261_24, s_261_25, s_261_28, s_261_31, s_261_33, s_261_36, s_261_37, amLong_I, amLong_R, amLong_N, amLong_L, cond_true, cond_false, Option.toList_some, Option.toList_none, List.cons_append, List.nil_append, List.append_nil, setE, setN, cpy_set, lit, nle, nlt, neq, inb_iff, cl_nI, tle, fle, tlt, flt, teq, feq, m9, m3, x9, x3, nI_add, nsub, upN, upE, b0', b01', r100, w100, r101, w101, r102, w102, r103, w103, r104, w104, r105, w105, r106, w106, r107, w107, r108, w108, w109, w110, r111, w111, r112, w112, r113, w113, r114, w114, r115, w115, r116, w116, r117, w117, r118, w118, r119, w119, w120, w121, r122, w122, r130, w130, w131, w132, r133, w133, r134, w134, r135, w135, r136, w136, r137, w137, r138, w138, r139, w139, r140, w140, r141, w141, w142, r143, w143, r144, w144, r145, w145, r146, w146, w147, w150, b1', em1, Bool.false_eq_true, not_true_eq_false, not_false_eq_true, false_implies, true_implies, and_true, true_and, if_true, if_false, implies_true, Classical.not_not, true_or, or_true, false_or, or_false, and_self, ite_true, ite_false, reduceIte, bsN, f7, m231 hV1 hL j1 m1 hW.tz (show _ ≤ 6 by omega), e']
        exact H0 M1 hK rfl
      · rw [if_neg e] at H1
        have e' := e
        rw [j2] at e'
        simp (disch := omega) only [s_261_0, s_261_1, s_261_2, s_261_3, s_261_6, s_261_9, s_261_10, s_261_11, s_261_12, s_261_13, s_261_14, s_261_17, s_261_18, s_261_19, s_261_20, s_261_23, s_261_24, s_261_25, s_261_28, s_261_31, s_261_33, s_261_36, s_261_37, amLong_I, amLong_R, amLong_N, amLong_L, cond_true, cond_false, Option.toList_some, Option.toList_none, List.cons_append, List.nil_append, List.append_nil, setE, setN, cpy_set, lit, nle, nlt, neq, inb_iff, cl_nI, tle, fle, tlt, flt, teq, feq, m9, m3, x9, x3, nI_add, nsub, upN, upE, b0', b01', r100, w100, r101, w101, r102, w102, r103, w103, r104, w104, r105, w105, r106, w106, r107, w107, r108, w108, w109, w110, r111, w111, r112, w112, r113, w113, r114, w114, r115, w115, r116, w116, r117, w117, r118, w118, r119, w119, w120, w121, r122, w122, r130, w130, w131, w132, r133, w133, r134, w134, r135, w135, r136, w136, r137, w137, r138, w138, r139, w139, r140, w140, r141, w141, w142, r143, w143, r144, w144, r145, w145, r146, w146, w147, w150, b1', em1, Bool.false_eq_true, not_true_eq_false, not_false_eq_true, false_implies, true_implies, and_true, true_and, if_true, if_false, implies_true, Classical.not_not, true_or, or_true, false_or, or_false, and_self, ite_true, ite_false, reduceIte, bsN, f7, m231 hV1 hL j1 m1 hW.tz (show _ ≤ 6 by omega), e']
        exact H1 M1 _ (y.1, y.2.2) hK rfl hL j1 j2 (by dsimp only; rw [j2]; omega) (by dsimp only; rw [j2]; exact m1)
  · have c2 : ¬ bo (whO sh n what) = true := fun z => c1 (bo_iff.mp z)
    rw [if_neg c2, if_neg c2] at H0
    simp (disch := omega) only [s_261_0, s_261_1, s_261_2, s_261_3, s_261_6, s_261_9, s_261_10, s_261_11, s_261_12, s_261_13, s_261_14, s_261_17, s_261_18, s_261_19, s_261_20, s_261_23, s_261_24, s_261_25, s_261_28, s_261_31, s_261_33, s_261_36, s_261_37, amLong_I, amLong_R, amLong_N, amLong_L, cond_true, cond_false, Option.toList_some, Option.toList_none, List.cons_append, List.nil_append, List.append_nil, setE, setN, cpy_set, lit, nle, nlt, neq, inb_iff, cl_nI, tle, fle, tlt, flt, teq, feq, m9, m3, x9, x3, nI_add, nsub, upN, upE, b0', b01', r100, w100, r101, w101, r102, w102, r103, w103, r104, w104, r105, w105, r106, w106, r107, w107, r108, w108, w109, w110, r111, w111, r112, w112, r113, w113, r114, w114, r115, w115, r116, w116, r117, w117, r118, w118, r119, w119, w120, w121, r122, w122, r130, w130, w131, w132, r133, w133, r134, w134, r135, w135, r136, w136, r137, w137, r138, w138, r139, w139, r140, w140, r141, w141, w142, r143, w143, r144, w144, r145, w145, r146, w146, w147, w150, b1', em1, Bool.false_eq_true, not_true_eq_false, not_false_eq_true, false_implies, true_implies, and_true, true_and, if_true, if_false, implies_true, Classical.not_not, true_or, or_true, false_or, or_false, and_self, ite_true, ite_false, reduceIte, m222 hV, c2]
    exact H0 M Kp.rfl rfl
theorem m262 {l : List (List Nat)} {w : Nat} (hV : MV M sh pay tok) (hL : LM M l) (hw : w < l.length) (H : ∀ M1, (∀ c j k, c ≠ 130 → c ≠ 134 → M1 c j k = M c j k) → MV M1 sh pay (tf (l.getD w [])) → Q (some (vI (wlf sh pay (tf (l.getD w []))))) (M1, J, (jk, 149, 147, X))) : Call (d + 5) 262 [vR 12 0, vI (nI w)] (M, J, (jk, 149, 147, X)) Q := by
  have h3 := hL.2.1
  rw [e_262]
  simp (disch := omega) only [s_262_0, s_262_1, s_262_3, s_262_5, s_262_8, s_262_9, s_262_12, s_262_14, s_262_15, s_262_16, s_262_17, s_262_18, s_262_19, s_262_22, s_262_23, s_262_26, s_262_29, s_262_30, s_262_33, s_262_34, s_262_37, amLong_I, amLong_R, amLong_N, amLong_L, cond_true, cond_false, Option.toList_some, Option.toList_none, List.cons_append, List.nil_append, List.append_nil, setE, setN, cpy_set, lit, nle, nlt, neq, inb_iff, cl_nI, tle, fle, tlt, flt, teq, feq, m9, m3, x9, x3, nI_add, nsub, upN, upE, b0', b01', r100, w100, r101, w101, r102, w102, r103, w103, r104, w104, r105, w105, r106, w106, r107, w107, r108, w108, w109, w110, r111, w111, r112, w112, r113, w113, r114, w114, r115, w115, r116, w116, r117, w117, r118, w118, r119, w119, w120, w121, r122, w122, r130, w130, w131, w132, r133, w133, r134, w134, r135, w135, r136, w136, r137, w137, r138, w138, r139, w139, r140, w140, r141, w141, w142, r143, w143, r144, w144, r145, w145, r146, w146, w147, w150, b1', em1, Bool.false_eq_true, not_true_eq_false, not_false_eq_true, false_implies, true_implies, and_true, true_and, if_true, if_false, implies_true, Classical.not_not, true_or, or_true, false_or, or_false, and_self, ite_true, ite_false, reduceIte]
  refine lpH (T := Unit) (U := Unit) (P := 9) (E := fun k M1 J1 u x => Ev (d + 4) 262 2 [some (vR 12 (0)), some (vI (nI w)), some (vI (nI k))] [] (M1, J1, (jk, 149, 147, X)) Q) (I := fun k M1 J1 _ => J = J1 ∧ (∀ c j x, c ≠ 130 → M1 c j x = M c j x) ∧ (∀ x, x < 31 → M1 130 0 x = M 130 0 x) ∧ ∀ p, p < k → M1 130 0 (31 + p) = tf (l.getD w []) p) (fun M1 J1 u x hI => ?_) (fun k M1 J1 u x hk hI next => ?_) 0 _ _ () () (by omega) ⟨rfl, fun _ _ _ _ => rfl, fun _ _ => rfl, no_lt _⟩
  · obtain ⟨rfl, i1, i2, i3⟩ := hI
    have hV1 : MV M1 sh pay (tf (l.getD w [])) := ⟨hV.1, by rw [i2 _ (by omega), hV.2.1], fun i hi => by rw [i2 _ (by omega), hV.2.2.1 i hi], fun k hk => by rw [i2 _ (by omega), hV.2.2.2.1 k hk], i3⟩
    rw [h_262_2]
    simp (disch := omega) only [s_262_0, s_262_1, s_262_3, s_262_5, s_262_8, s_262_9, s_262_12, s_262_14, s_262_15, s_262_16, s_262_17, s_262_18, s_262_19, s_262_22, s_262_23, s_262_26, s_262_29, s_262_30, s_262_33, s_262_34, s_262_37, amLong_I, amLong_R, amLong_N, amLong_L, cond_true, cond_false, Option.toList_some, Option.toList_none, List.cons_append, List.nil_append, List.append_nil, setE, setN, cpy_set, lit, nle, nlt, neq, inb_iff, cl_nI, tle, fle, tlt, flt, teq, feq, m9, m3, x9, x3, nI_add, nsub, upN, upE, b0', b01', r100, w100, r101, w101, r102, w102, r103, w103, r104, w104, r105, w105, r106, w106, r107, w107, r108, w108, w109, w110, r111, w111, r112, w112, r113, w113, r114, w114, r115, w115, r116, w116, r117, w117, r118, w118, r119, w119, w120, w121, r122, w122, r130, w130, w131, w132, r133, w133, r134, w134, r135, w135, r136, w136, r137, w137, r138, w138, r139, w139, r140, w140, r141, w141, w142, r143, w143, r144, w144, r145, w145, r146, w146, w147, w150, b1', em1, Bool.false_eq_true, not_true_eq_false, not_false_eq_true, false_implies, true_implies, and_true, true_and, if_true, if_false, implies_true, Classical.not_not, true_or, or_true, false_or, or_false, and_self, ite_true, ite_false, reduceIte]
    refine m186 hV1 (fun M2 f1 f2 => ?_)
    have hV2 : MV M2 sh pay (tf (l.getD w [])) := hV1.of (fun k _ => f1 _ _ _ (by omega))
    simp (disch := omega) only [s_262_0, s_262_1, s_262_3, s_262_5, s_262_8, s_262_9, s_262_12, s_262_14, s_262_15, s_262_16, s_262_17, s_262_18, s_262_19, s_262_22, s_262_23, s_262_26, s_262_29, s_262_30, s_262_33, s_262_34, s_262_37, amLong_I, amLong_R, amLong_N, amLong_L, cond_true, cond_false, Option.toList_some, Option.toList_none, List.cons_append, List.nil_append, List.append_nil, setE, setN, cpy_set, lit, nle, nlt, neq, inb_iff, cl_nI, tle, fle, tlt, flt, teq, feq, m9, m3, x9, x3, nI_add, nsub, upN, upE, b0', b01', r100, w100, r101, w101, r102, w102, r103, w103, r104, w104, r105, w105, r106, w106, r107, w107, r108, w108, w109, w110, r111, w111, r112, w112, r113, w113, r114, w114, r115, w115, r116, w116, r117, w117, r118, w118, r119, w119, w120, w121, r122, w122, r130, w130, w131, w132, r133, w133, r134, w134, r135, w135, r136, w136, r137, w137, r138, w138, r139, w139, r140, w140, r141, w141, w142, r143, w143, r144, w144, r145, w145, r146, w146, w147, w150, b1', em1, Bool.false_eq_true, not_true_eq_false, not_false_eq_true, false_implies, true_implies, and_true, true_and, if_true, if_false, implies_true, Classical.not_not, true_or, or_true, false_or, or_false, and_self, ite_true, ite_false, reduceIte, w196 hV2 f2]
    exact H M2 (fun c j k a b => by rw [f1 c j k b, i1 c j k a]) hV2
  · obtain ⟨rfl, i1, i2, i3⟩ := hI
    have hL1 : LM M1 l := hL.of (fun c j k hc => i1 c j k (by omega))
    rw [h_262_2]
    simp (disch := omega) only [s_262_0, s_262_1, s_262_3, s_262_5, s_262_8, s_262_9, s_262_12, s_262_14, s_262_15, s_262_16, s_262_17, s_262_18, s_262_19, s_262_22, s_262_23, s_262_26, s_262_29, s_262_30, s_262_33, s_262_34, s_262_37, amLong_I, amLong_R, amLong_N, amLong_L, cond_true, cond_false, Option.toList_some, Option.toList_none, List.cons_append, List.nil_append, List.append_nil, setE, setN, cpy_set, lit, nle, nlt, neq, inb_iff, cl_nI, tle, fle, tlt, flt, teq, feq, m9, m3, x9, x3, nI_add, nsub, upN, upE, b0', b01', r100, w100, r101, w101, r102, w102, r103, w103, r104, w104, r105, w105, r106, w106, r107, w107, r108, w108, w109, w110, r111, w111, r112, w112, r113, w113, r114, w114, r115, w115, r116, w116, r117, w117, r118, w118, r119, w119, w120, w121, r122, w122, r130, w130, w131, w132, r133, w133, r134, w134, r135, w135, r136, w136, r137, w137, r138, w138, r139, w139, r140, w140, r141, w141, w142, r143, w143, r144, w144, r145, w145, r146, w146, w147, w150, b1', em1, Bool.false_eq_true, not_true_eq_false, not_false_eq_true, false_implies, true_implies, and_true, true_and, if_true, if_false, implies_true, Classical.not_not, true_or, or_true, false_or, or_false, and_self, ite_true, ite_false, reduceIte, m208 hL1 hw]
    refine next _ _ () () ⟨rfl, fun c j x a => by rw [upN (by omega), i1 c j x a], fun x hx => by rw [upN (by omega), i2 x hx], fun p hp => ?_⟩
    by_cases e : p = k
    · rw [upE ⟨rfl, rfl, by omega⟩, e]
      rfl
    · rw [upN (by omega), i3 p (by omega)]
theorem n260 {A : Sta} {n what : Int32} (hR : RM M J A) (hW : WF A) (H : ∀ M1 J1, RM M1 J1 (opU A (tkF A.1 n what)).2 → FM M M1 → FMJ J J1 → Q (some (vI (opU A (tkF A.1 n what)).1)) (M1, J1, (jk, 149, 147, X))) : Call (d + 20) 260 [vR 12 0, vI n, vI what] (M, J, (jk, 149, 147, X)) Q := by
  have hV0 := (thr (x := nI 0)).v (hR.v hW)
  have hK0 : Kp M (upM M 1605 0 0 (nI 0)) := thr
  obtain ⟨⟨sh, pay, tok⟩, U, S, tx, r⟩ := A
  have hW1 : WG (sh, pay, tok) := hW.1
  dsimp only at hV0
  rw [tkF_N] at H
  unfold opU at H
  dsimp only at H
  rw [e_260]
  simp (disch := omega) only [s_260_0, s_260_1, s_260_2, s_260_5, s_260_6, s_260_7, s_260_8, s_260_11, s_260_12, s_260_13, s_260_16, s_260_17, s_260_18, s_260_19, s_260_22, s_260_25, s_260_26, s_260_27, s_260_30, s_260_31, amLong_I, amLong_R, amLong_N, amLong_L, cond_true, cond_false, Option.toList_some, Option.toList_none, List.cons_append, List.nil_append, List.append_nil, setE, setN, cpy_set, lit, nle, nlt, neq, inb_iff, cl_nI, tle, fle, tlt, flt, teq, feq, m9, m3, x9, x3, nI_add, nsub, upN, upE, b0', b01', r100, w100, r101, w101, r102, w102, r103, w103, r104, w104, r105, w105, r106, w106, r107, w107, r108, w108, w109, w110, r111, w111, r112, w112, r113, w113, r114, w114, r115, w115, r116, w116, r117, w117, r118, w118, r119, w119, w120, w121, r122, w122, r130, w130, w131, w132, r133, w133, r134, w134, r135, w135, r136, w136, r137, w137, r138, w138, r139, w139, r140, w140, r141, w141, w142, r143, w143, r144, w144, r145, w145, r146, w146, w147, w150, b1', em1, Bool.false_eq_true, not_true_eq_false, not_false_eq_true, false_implies, true_implies, and_true, true_and, if_true, if_false, implies_true, Classical.not_not, true_or, or_true, false_or, or_false, and_self, ite_true, ite_false, reduceIte]
  refine m261 hV0 hW1 (fun M1 hK hN => ?_) (fun M1 l y hK hN hL hy1 hy2 hy3 hy4 => ?_)
  · rw [hN] at H
    dsimp only at H
    have hK1 := hK0.trans hK
    have hneg : tkA (sh, pay, tok) n what < nI 0 := by
      unfold tkA
      split <;> decide
    have hneg' : ¬ nI 0 ≤ tkA (sh, pay, tok) n what := Int32.not_le.mpr hneg
    rw [if_pos hneg] at H
    simp (disch := omega) only [s_260_0, s_260_1, s_260_2, s_260_5, s_260_6, s_260_7, s_260_8, s_260_11, s_260_12, s_260_13, s_260_16, s_260_17, s_260_18, s_260_19, s_260_22, s_260_25, s_260_26, s_260_27, s_260_30, s_260_31, amLong_I, amLong_R, amLong_N, amLong_L, cond_true, cond_false, Option.toList_some, Option.toList_none, List.cons_append, List.nil_append, List.append_nil, setE, setN, cpy_set, lit, nle, nlt, neq, inb_iff, cl_nI, tle, fle, tlt, flt, teq, feq, m9, m3, x9, x3, nI_add, nsub, upN, upE, b0', b01', r100, w100, r101, w101, r102, w102, r103, w103, r104, w104, r105, w105, r106, w106, r107, w107, r108, w108, w109, w110, r111, w111, r112, w112, r113, w113, r114, w114, r115, w115, r116, w116, r117, w117, r118, w118, r119, w119, w120, w121, r122, w122, r130, w130, w131, w132, r133, w133, r134, w134, r135, w135, r136, w136, r137, w137, r138, w138, r139, w139, r140, w140, r141, w141, w142, r143, w143, r144, w144, r145, w145, r146, w146, w147, w150, b1', em1, Bool.false_eq_true, not_true_eq_false, not_false_eq_true, false_implies, true_implies, and_true, true_and, if_true, if_false, implies_true, Classical.not_not, true_or, or_true, false_or, or_false, and_self, ite_true, ite_false, reduceIte, hneg']
    exact H _ J (hR.s hK1 (fun _ => rfl)) hK1.fm FMJ.rfl
  · rw [hN] at H
    dsimp only at H
    have hlen := hL.2.1
    have hK1 := hK0.trans hK
    have hV1 := hK.v hV0
    have hb := wlf_b (pay := pay) (a := y.2) hV0.1 hW1.2.1 hy3
    have hnn : ¬ nI 1000 + wlf sh pay (tf y.2) < nI 0 := by
      rw [Int32.lt_iff_toInt_lt, tA (by rw [nI_toInt (by decide)]; omega) (by rw [nI_toInt (by decide)]; omega), nI_toInt (by decide), show (nI 0).toInt = 0 from rfl]
      omega
    rw [if_neg hnn] at H
    simp (disch := omega) only [s_260_0, s_260_1, s_260_2, s_260_5, s_260_6, s_260_7, s_260_8, s_260_11, s_260_12, s_260_13, s_260_16, s_260_17, s_260_18, s_260_19, s_260_22, s_260_25, s_260_26, s_260_27, s_260_30, s_260_31, amLong_I, amLong_R, amLong_N, amLong_L, cond_true, cond_false, Option.toList_some, Option.toList_none, List.cons_append, List.nil_append, List.append_nil, setE, setN, cpy_set, lit, nle, nlt, neq, inb_iff, cl_nI, tle, fle, tlt, flt, teq, feq, m9, m3, x9, x3, nI_add, nsub, upN, upE, b0', b01', r100, w100, r101, w101, r102, w102, r103, w103, r104, w104, r105, w105, r106, w106, r107, w107, r108, w108, w109, w110, r111, w111, r112, w112, r113, w113, r114, w114, r115, w115, r116, w116, r117, w117, r118, w118, r119, w119, w120, w121, r122, w122, r130, w130, w131, w132, r133, w133, r134, w134, r135, w135, r136, w136, r137, w137, r138, w138, r139, w139, r140, w140, r141, w141, w142, r143, w143, r144, w144, r145, w145, r146, w146, w147, w150, b1', em1, Bool.false_eq_true, not_true_eq_false, not_false_eq_true, false_implies, true_implies, and_true, true_and, if_true, if_false, implies_true, Classical.not_not, true_or, or_true, false_or, or_false, and_self, ite_true, ite_false, reduceIte]
    refine m168 (V_img (G := (sh, pay, tok)) hV1) (hR.um.of (fun c j k hc => hK1 c j k (by unfold Sc; omega))) (fun M2 f1 f2 => ?_)
    have hV2 : MV M2 sh pay tok := hV1.of (fun k _ => f1 _ _ _ (by omega) (by omega) (by omega))
    have hL2 : LM M2 l := hL.of (fun c j k hc => f1 c j k (by omega) (by omega) (by omega))
    simp (disch := omega) only [s_260_0, s_260_1, s_260_2, s_260_5, s_260_6, s_260_7, s_260_8, s_260_11, s_260_12, s_260_13, s_260_16, s_260_17, s_260_18, s_260_19, s_260_22, s_260_25, s_260_26, s_260_27, s_260_30, s_260_31, amLong_I, amLong_R, amLong_N, amLong_L, cond_true, cond_false, Option.toList_some, Option.toList_none, List.cons_append, List.nil_append, List.append_nil, setE, setN, cpy_set, lit, nle, nlt, neq, inb_iff, cl_nI, tle, fle, tlt, flt, teq, feq, m9, m3, x9, x3, nI_add, nsub, upN, upE, b0', b01', r100, w100, r101, w101, r102, w102, r103, w103, r104, w104, r105, w105, r106, w106, r107, w107, r108, w108, w109, w110, r111, w111, r112, w112, r113, w113, r114, w114, r115, w115, r116, w116, r117, w117, r118, w118, r119, w119, w120, w121, r122, w122, r130, w130, w131, w132, r133, w133, r134, w134, r135, w135, r136, w136, r137, w137, r138, w138, r139, w139, r140, w140, r141, w141, w142, r143, w143, r144, w144, r145, w145, r146, w146, w147, w150, b1', em1, Bool.false_eq_true, not_true_eq_false, not_false_eq_true, false_implies, true_implies, and_true, true_and, if_true, if_false, implies_true, Classical.not_not, true_or, or_true, false_or, or_false, and_self, ite_true, ite_false, reduceIte]
    refine m262 hV2 hL2 hy1 (fun M3 y1 y2 => ?_)
    rw [← hy2] at y2 ⊢
    simp (disch := omega) only [s_260_0, s_260_1, s_260_2, s_260_5, s_260_6, s_260_7, s_260_8, s_260_11, s_260_12, s_260_13, s_260_16, s_260_17, s_260_18, s_260_19, s_260_22, s_260_25, s_260_26, s_260_27, s_260_30, s_260_31, amLong_I, amLong_R, amLong_N, amLong_L, cond_true, cond_false, Option.toList_some, Option.toList_none, List.cons_append, List.nil_append, List.append_nil, setE, setN, cpy_set, lit, nle, nlt, neq, inb_iff, cl_nI, tle, fle, tlt, flt, teq, feq, m9, m3, x9, x3, nI_add, nsub, upN, upE, b0', b01', r100, w100, r101, w101, r102, w102, r103, w103, r104, w104, r105, w105, r106, w106, r107, w107, r108, w108, w109, w110, r111, w111, r112, w112, r113, w113, r114, w114, r115, w115, r116, w116, r117, w117, r118, w118, r119, w119, w120, w121, r122, w122, r130, w130, w131, w132, r133, w133, r134, w134, r135, w135, r136, w136, r137, w137, r138, w138, r139, w139, r140, w140, r141, w141, w142, r143, w143, r144, w144, r145, w145, r146, w146, w147, w150, b1', em1, Bool.false_eq_true, not_true_eq_false, not_false_eq_true, false_implies, true_implies, and_true, true_and, if_true, if_false, implies_true, Classical.not_not, true_or, or_true, false_or, or_false, and_self, ite_true, ite_false, reduceIte]
    refine H _ J (RM.chg (G := (sh, pay, tf y.2)) hR (V_img (G := (sh, pay, tf y.2)) y2) (f2.of (fun c j k hc => y1 c j k (by omega) (by omega))) (fun c j k z1 z2 z3 z4 => ?_) (fun _ => rfl)) (fun c j k hc => ?_) FMJ.rfl
    · rw [y1 c j k z2 (by unfold Sc at z1; omega), f1 c j k z3 (by unfold Sc at z1; omega) z4, hK1 c j k z1]
    · rw [y1 c j k (by omega) (by omega), f1 c j k (by omega) (by omega) (by omega), hK1.fm c j k hc]
/-- undo, keep, again -/
theorem n266 {A : Sta} (hR : RM M J A) (hW : WF A) (H : ∀ M1 J1, RM M1 J1 (o35 A).2 → FM M M1 → FMJ J J1 → Q (some (vI (o35 A).1)) (M1, J1, (jk, 149, 147, X))) : Call (d + 1) 266 [vR 12 0] (M, J, (jk, 149, 147, X)) Q := by
  have hK0 : Kp M (upM M 1605 0 0 (nI 0)) := thr
  have hU := hR.um
  unfold o35 at H
  rw [e_266]
  by_cases e : A.2.1 = []
  · rw [dif_pos e] at H
    have e1 : M 1629 0 0 = nI 0 := by rw [hU.1, e]; rfl
    simp (disch := omega) only [s_266_0, s_266_1, s_266_2, s_266_5, s_266_6, s_266_9, s_266_12, s_266_13, s_266_14, s_266_15, s_266_16, s_266_19, s_266_20, s_266_21, s_266_24, s_266_25, s_266_27, s_266_29, s_266_32, s_266_33, s_266_36, s_266_37, s_266_38, s_266_41, s_266_43, s_266_44, s_266_47, s_266_48, s_266_49, s_266_50, s_266_51, s_266_52, s_266_55, s_266_58, s_266_59, s_266_62, amLong_I, amLong_R, amLong_N, amLong_L, cond_true, cond_false, Option.toList_some, Option.toList_none, List.cons_append, List.nil_append, List.append_nil, setE, setN, cpy_set, lit, nle, nlt, neq, inb_iff, cl_nI, tle, fle, tlt, flt, teq, feq, m9, m3, x9, x3, nI_add, nsub, upN, upE, b0', b01', r100, w100, r101, w101, r102, w102, r103, w103, r104, w104, r105, w105, r106, w106, r107, w107, r108, w108, w109, w110, r111, w111, r112, w112, r113, w113, r114, w114, r115, w115, r116, w116, r117, w117, r118, w118, r119, w119, w120, w121, r122, w122, r130, w130, w131, w132, r133, w133, r134, w134, r135, w135, r136, w136, r137, w137, r138, w138, r139, w139, r140, w140, r141, w141, w142, r143, w143, r144, w144, r145, w145, r146, w146, w147, w150, b1', em1, Bool.false_eq_true, not_true_eq_false, not_false_eq_true, false_implies, true_implies, and_true, true_and, if_true, if_false, implies_true, Classical.not_not, true_or, or_true, false_or, or_false, and_self, ite_true, ite_false, reduceIte, e1]
    exact H _ J (hR.s hK0 (fun _ => rfl)) hK0.fm FMJ.rfl
  · rw [dif_neg e] at H
    have hl : 0 < A.2.1.length := List.length_pos_iff.mpr e
    obtain ⟨n, hn⟩ : ∃ n, A.2.1.length = n + 1 := ⟨A.2.1.length - 1, by omega⟩
    have e1 : M 1629 0 0 = nI (n + 1) := by rw [hU.1, hn]
    have h8 := hU.2.1
    have hlast : A.2.1[n]? = some (A.2.1.getLast e) := by
      rw [List.getLast_eq_getElem, List.getElem?_eq_getElem (by omega)]
      congr 1
      simp [hn]
    rw [show A.2.1.length - 1 = n by omega] at H
    have hu3 := hU.2.2 n _ hlast
    simp (disch := omega) only [s_266_0, s_266_1, s_266_2, s_266_5, s_266_6, s_266_9, s_266_12, s_266_13, s_266_14, s_266_15, s_266_16, s_266_19, s_266_20, s_266_21, s_266_24, s_266_25, s_266_27, s_266_29, s_266_32, s_266_33, s_266_36, s_266_37, s_266_38, s_266_41, s_266_43, s_266_44, s_266_47, s_266_48, s_266_49, s_266_50, s_266_51, s_266_52, s_266_55, s_266_58, s_266_59, s_266_62, amLong_I, amLong_R, amLong_N, amLong_L, cond_true, cond_false, Option.toList_some, Option.toList_none, List.cons_append, List.nil_append, List.append_nil, setE, setN, cpy_set, lit, nle, nlt, neq, inb_iff, cl_nI, tle, fle, tlt, flt, teq, feq, m9, m3, x9, x3, nI_add, nsub, upN, upE, b0', b01', r100, w100, r101, w101, r102, w102, r103, w103, r104, w104, r105, w105, r106, w106, r107, w107, r108, w108, w109, w110, r111, w111, r112, w112, r113, w113, r114, w114, r115, w115, r116, w116, r117, w117, r118, w118, r119, w119, w120, w121, r122, w122, r130, w130, w131, w132, r133, w133, r134, w134, r135, w135, r136, w136, r137, w137, r138, w138, r139, w139, r140, w140, r141, w141, w142, r143, w143, r144, w144, r145, w145, r146, w146, w147, w150, b1', em1, Bool.false_eq_true, not_true_eq_false, not_false_eq_true, false_implies, true_implies, and_true, true_and, if_true, if_false, implies_true, Classical.not_not, true_or, or_true, false_or, or_false, and_self, ite_true, ite_false, reduceIte, e1, Nat.add_sub_cancel]
    refine lpH (T := Unit) (U := Unit) (P := 40) (E := fun k M1 J1 u x => Ev (d) 266 26 [some (vR 12 (0)), some (vI (nI k))] [] (M1, J1, (jk, 149, 147, X)) Q) (I := fun k M1 J1 _ => J = J1 ∧ M1 1629 0 0 = nI n ∧ (∀ c j x, c ≠ 130 → c ≠ 1605 → c ≠ 1629 → M1 c j x = M c j x) ∧ ∀ x, x < k → M1 130 0 x = img (A.2.1.getLast e) x) (fun M1 J1 u x hI => ?_) (fun k M1 J1 u x hk hI next => ?_) 0 _ _ () () (by omega) ⟨rfl, upE ⟨rfl, rfl, rfl⟩, fun c j x a b f => by rw [upN (by omega), upN (by omega)], no_lt _⟩
    · obtain ⟨rfl, i1, i2, i3⟩ := hI
      rw [h_266_26]
      simp (disch := omega) only [s_266_0, s_266_1, s_266_2, s_266_5, s_266_6, s_266_9, s_266_12, s_266_13, s_266_14, s_266_15, s_266_16, s_266_19, s_266_20, s_266_21, s_266_24, s_266_25, s_266_27, s_266_29, s_266_32, s_266_33, s_266_36, s_266_37, s_266_38, s_266_41, s_266_43, s_266_44, s_266_47, s_266_48, s_266_49, s_266_50, s_266_51, s_266_52, s_266_55, s_266_58, s_266_59, s_266_62, amLong_I, amLong_R, amLong_N, amLong_L, cond_true, cond_false, Option.toList_some, Option.toList_none, List.cons_append, List.nil_append, List.append_nil, setE, setN, cpy_set, lit, nle, nlt, neq, inb_iff, cl_nI, tle, fle, tlt, flt, teq, feq, m9, m3, x9, x3, nI_add, nsub, upN, upE, b0', b01', r100, w100, r101, w101, r102, w102, r103, w103, r104, w104, r105, w105, r106, w106, r107, w107, r108, w108, w109, w110, r111, w111, r112, w112, r113, w113, r114, w114, r115, w115, r116, w116, r117, w117, r118, w118, r119, w119, w120, w121, r122, w122, r130, w130, w131, w132, r133, w133, r134, w134, r135, w135, r136, w136, r137, w137, r138, w138, r139, w139, r140, w140, r141, w141, w142, r143, w143, r144, w144, r145, w145, r146, w146, w147, w150, b1', em1, Bool.false_eq_true, not_true_eq_false, not_false_eq_true, false_implies, true_implies, and_true, true_and, if_true, if_false, implies_true, Classical.not_not, true_or, or_true, false_or, or_false, and_self, ite_true, ite_false, reduceIte, i1]
      refine H M1 J (RM.chg hR i3 ⟨?_, ?_, fun m G hm k hk => ?_⟩ (fun c j k z1 z2 z3 z4 => i2 c j k z2 (by unfold Sc at z1; omega) z4) (fun _ => rfl)) (fun c j k hc => i2 c j k (by omega) (by omega) (by omega)) FMJ.rfl
      · rw [i1, List.length_dropLast, hn]
        rfl
      · rw [List.length_dropLast]
        omega
      · rw [List.getElem?_dropLast] at hm
        split at hm
        · rw [i2 _ _ _ (by omega) (by omega) (by omega), hU.2.2 m G hm k hk]
        · cases hm
    · obtain ⟨rfl, i1, i2, i3⟩ := hI
      have e2 : M1 143 0 (40 * n + k) = img (A.2.1.getLast e) k := by rw [i2 _ _ _ (by omega) (by omega) (by omega), hu3 k hk]
      rw [h_266_26]
      simp (disch := omega) only [s_266_0, s_266_1, s_266_2, s_266_5, s_266_6, s_266_9, s_266_12, s_266_13, s_266_14, s_266_15, s_266_16, s_266_19, s_266_20, s_266_21, s_266_24, s_266_25, s_266_27, s_266_29, s_266_32, s_266_33, s_266_36, s_266_37, s_266_38, s_266_41, s_266_43, s_266_44, s_266_47, s_266_48, s_266_49, s_266_50, s_266_51, s_266_52, s_266_55, s_266_58, s_266_59, s_266_62, amLong_I, amLong_R, amLong_N, amLong_L, cond_true, cond_false, Option.toList_some, Option.toList_none, List.cons_append, List.nil_append, List.append_nil, setE, setN, cpy_set, lit, nle, nlt, neq, inb_iff, cl_nI, tle, fle, tlt, flt, teq, feq, m9, m3, x9, x3, nI_add, nsub, upN, upE, b0', b01', r100, w100, r101, w101, r102, w102, r103, w103, r104, w104, r105, w105, r106, w106, r107, w107, r108, w108, w109, w110, r111, w111, r112, w112, r113, w113, r114, w114, r115, w115, r116, w116, r117, w117, r118, w118, r119, w119, w120, w121, r122, w122, r130, w130, w131, w132, r133, w133, r134, w134, r135, w135, r136, w136, r137, w137, r138, w138, r139, w139, r140, w140, r141, w141, w142, r143, w143, r144, w144, r145, w145, r146, w146, w147, w150, b1', em1, Bool.false_eq_true, not_true_eq_false, not_false_eq_true, false_implies, true_implies, and_true, true_and, if_true, if_false, implies_true, Classical.not_not, true_or, or_true, false_or, or_false, and_self, ite_true, ite_false, reduceIte, i1, pk_mul, e2]
      refine next _ _ () () ⟨rfl, by rw [upN (by omega), i1], fun c j x a b f => by rw [upN (by omega), i2 c j x a b f], fun x hx => ?_⟩
      by_cases e3 : x = k
      · rw [upE ⟨rfl, rfl, e3⟩, e3]
      · rw [upN (by omega), i3 x (by omega)]
end CHG4
