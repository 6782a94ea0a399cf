/-! of, row: they throw where there is none -/
noncomputable def ofV (A : Sta) (p w : Int32) : Option Int32 :=
  if bo ((nI 0 ≤ p ∧ p < nI (prf A.1.1)) ∧ nI 0 ≤ w ∧ w ≤ nI 6) = true then
    (if w = nI 3 then some (A.1.2.2 p.toNatClampNeg)
    else if w < nI 3 then (if w < nI (plr A.1.1) then some (nI (act A.1.1 w.toNatClampNeg p.toNatClampNeg)) else none)
    else (if w - nI 4 < nI (plr A.1.1) then some (nI 9 + A.1.2.1 (9 * (w.toNatClampNeg - 4) + p.toNatClampNeg)) else none))
  else none
noncomputable def rwV (A : Sta) (i : Int32) : Option Int32 := if bo (nI 0 ≤ i ∧ i < nI A.2.2.2.2.length) = true then some (A.2.2.2.2.getD i.toNatClampNeg 0) else none
section OFR
variable {d g t jk X sh : Nat} {M M1 M2 : amM} {J J1 J2 : amJ} {Q : Option amV → amS → Prop} {pay tok tk : Nat → Int32} {tx : Nat × (Nat → Nat)}
theorem w_of {w : Int32} (h : nI 0 ≤ w ∧ w ≤ nI 6) : ∃ k, k ≤ 6 ∧ w = nI k := by
  have h2 := h.2
  rw [Int32.le_iff_toInt_le, nI_toInt (by decide)] at h2
  obtain ⟨m, hm, rfl⟩ := (in_iff (n := 7) (x := w) (by omega)).mp ⟨h.1, by
    rw [Int32.lt_iff_toInt_lt, nI_toInt (by decide)]
    omega⟩
  exact ⟨m, by omega, rfl⟩
theorem k154 {A : Sta} {p w : Int32} (hR : RC M J A) (H : Q ((ofV A p w).map (fun x => vI x)) (M, J, (jk, 149, 147, X))) : Call (d + 2) 154 [vR 11 0, vI p, vI w] (M, J, (jk, 149, 147, X)) Q := by
  have h0 : (0 : Nat) < 13 := by decide
  have hV' : GV M 0 A.1.1 A.1.2.1 A.1.2.2 := hR.1
  have hG := hV'.1
  obtain ⟨⟨l1, l2, l3, l4⟩, l5⟩ := sh_ok _ hG.1
  have g1 := hG.2.1
  have g2 := hG.2.2.1
  unfold ofV at H
  rw [e_154]
  by_cases c1 : nI 0 ≤ p ∧ p < nI (prf A.1.1)
  · by_cases c2 : nI 0 ≤ w ∧ w ≤ nI 6
    · rw [if_pos (bo_iff.mpr ⟨c1, c2⟩)] at H
      obtain ⟨p, hp, rfl⟩ := (in_iff (by omega)).mp c1
      obtain ⟨w, hw, rfl⟩ := w_of c2
      rw [cl_nI (by omega), cl_nI (by omega)] at H
      by_cases e3 : w = 3
      · subst e3
        rw [if_pos rfl] at H
        have e := hV'.2.2 p (by omega)
        simp (disch := omega) only [s_154_0, s_154_1, s_154_4, s_154_5, s_154_8, s_154_11, s_154_21, s_154_22, s_154_23, s_154_26, s_154_27, s_154_30, s_154_33, s_154_34, s_154_35, s_154_36, s_154_37, s_154_38, s_154_41, s_154_42, s_154_43, s_154_44, s_154_47, s_154_48, s_154_49, s_154_50, s_154_53, s_154_54, s_154_57, s_154_60, s_154_70, s_154_71, s_154_72, s_154_75, s_154_76, s_154_79, s_154_80, s_154_81, s_154_84, s_154_86, s_154_87, s_154_90, s_154_91, s_154_94, s_154_95, s_154_96, s_154_99, amLong_I, amLong_R, amLong_N, amLong_L, cond_true, cond_false, Option.toList_some, Option.toList_none, List.cons_append, List.nil_append, List.append_nil, setE, setN, cpy_set, lit, nle, nlt, neq, inb_iff, cl_nI, tle, fle, tlt, flt, teq, feq, m9, m3, x9, x3, nI_add, nsub, upN, upE, b0', b01', r100, w100, r101, w101, r102, w102, r103, w103, r104, w104, r105, w105, r106, w106, r107, w107, r108, w108, w109, w110, r111, w111, r112, w112, r113, w113, r114, w114, r115, w115, r116, w116, r117, w117, r118, w118, r119, w119, w120, w121, r122, w122, r130, w130, w131, w132, r133, w133, r134, w134, r135, w135, r136, w136, r137, w137, r138, w138, r139, w139, r140, w140, r141, w141, w142, r143, w143, r144, w144, r145, w145, r146, w146, w147, w150, b1', em1, Bool.false_eq_true, not_true_eq_false, not_false_eq_true, false_implies, true_implies, and_true, true_and, if_true, if_false, implies_true, Classical.not_not, true_or, or_true, false_or, or_false, and_self, ite_true, ite_false, reduceIte, c32 h0, g2, c1, e]
        exact H
      · rw [if_neg (fun z => e3 ((neq (by omega) (by omega)).mp z))] at H
        by_cases e4 : w < 3
        · rw [if_pos ((nlt (by omega) (by omega)).mpr e4)] at H
          by_cases e5 : w < plr A.1.1
          · rw [if_pos ((nlt (by omega) (by omega)).mpr e5)] at H
            have e := hG.2.2.2.2 w p e5 hp
            simp (disch := omega) only [s_154_0, s_154_1, s_154_4, s_154_5, s_154_8, s_154_11, s_154_21, s_154_22, s_154_23, s_154_26, s_154_27, s_154_30, s_154_33, s_154_34, s_154_35, s_154_36, s_154_37, s_154_38, s_154_41, s_154_42, s_154_43, s_154_44, s_154_47, s_154_48, s_154_49, s_154_50, s_154_53, s_154_54, s_154_57, s_154_60, s_154_70, s_154_71, s_154_72, s_154_75, s_154_76, s_154_79, s_154_80, s_154_81, s_154_84, s_154_86, s_154_87, s_154_90, s_154_91, s_154_94, s_154_95, s_154_96, s_154_99, amLong_I, amLong_R, amLong_N, amLong_L, cond_true, cond_false, Option.toList_some, Option.toList_none, List.cons_append, List.nil_append, List.append_nil, setE, setN, cpy_set, lit, nle, nlt, neq, inb_iff, cl_nI, tle, fle, tlt, flt, teq, feq, m9, m3, x9, x3, nI_add, nsub, upN, upE, b0', b01', r100, w100, r101, w101, r102, w102, r103, w103, r104, w104, r105, w105, r106, w106, r107, w107, r108, w108, w109, w110, r111, w111, r112, w112, r113, w113, r114, w114, r115, w115, r116, w116, r117, w117, r118, w118, r119, w119, w120, w121, r122, w122, r130, w130, w131, w132, r133, w133, r134, w134, r135, w135, r136, w136, r137, w137, r138, w138, r139, w139, r140, w140, r141, w141, w142, r143, w143, r144, w144, r145, w145, r146, w146, w147, w150, b1', em1, Bool.false_eq_true, not_true_eq_false, not_false_eq_true, false_implies, true_implies, and_true, true_and, if_true, if_false, implies_true, Classical.not_not, true_or, or_true, false_or, or_false, and_self, ite_true, ite_false, reduceIte, c32 h0, g2, c1, c31 h0, g1, c51 h0, e]
            exact H
          · rw [if_neg (fun z => e5 ((nlt (by omega) (by omega)).mp z))] at H
            simp (disch := omega) only [s_154_0, s_154_1, s_154_4, s_154_5, s_154_8, s_154_11, s_154_21, s_154_22, s_154_23, s_154_26, s_154_27, s_154_30, s_154_33, s_154_34, s_154_35, s_154_36, s_154_37, s_154_38, s_154_41, s_154_42, s_154_43, s_154_44, s_154_47, s_154_48, s_154_49, s_154_50, s_154_53, s_154_54, s_154_57, s_154_60, s_154_70, s_154_71, s_154_72, s_154_75, s_154_76, s_154_79, s_154_80, s_154_81, s_154_84, s_154_86, s_154_87, s_154_90, s_154_91, s_154_94, s_154_95, s_154_96, s_154_99, amLong_I, amLong_R, amLong_N, amLong_L, cond_true, cond_false, Option.toList_some, Option.toList_none, List.cons_append, List.nil_append, List.append_nil, setE, setN, cpy_set, lit, nle, nlt, neq, inb_iff, cl_nI, tle, fle, tlt, flt, teq, feq, m9, m3, x9, x3, nI_add, nsub, upN, upE, b0', b01', r100, w100, r101, w101, r102, w102, r103, w103, r104, w104, r105, w105, r106, w106, r107, w107, r108, w108, w109, w110, r111, w111, r112, w112, r113, w113, r114, w114, r115, w115, r116, w116, r117, w117, r118, w118, r119, w119, w120, w121, r122, w122, r130, w130, w131, w132, r133, w133, r134, w134, r135, w135, r136, w136, r137, w137, r138, w138, r139, w139, r140, w140, r141, w141, w142, r143, w143, r144, w144, r145, w145, r146, w146, w147, w150, b1', em1, Bool.false_eq_true, not_true_eq_false, not_false_eq_true, false_implies, true_implies, and_true, true_and, if_true, if_false, implies_true, Classical.not_not, true_or, or_true, false_or, or_false, and_self, ite_true, ite_false, reduceIte, c32 h0, g2, c1, c31 h0, g1]
            exact H
        · rw [if_neg (fun z => e4 ((nlt (by omega) (by omega)).mp z)), pk_sub (show 4 ≤ w by omega)] at H
          by_cases e5 : w - 4 < plr A.1.1
          · rw [if_pos ((nlt (by omega) (by omega)).mpr e5), Int32.add_comm] at H
            have e := hV'.2.1 (9 * (w - 4) + p) (by omega)
            simp (disch := omega) only [s_154_0, s_154_1, s_154_4, s_154_5, s_154_8, s_154_11, s_154_21, s_154_22, s_154_23, s_154_26, s_154_27, s_154_30, s_154_33, s_154_34, s_154_35, s_154_36, s_154_37, s_154_38, s_154_41, s_154_42, s_154_43, s_154_44, s_154_47, s_154_48, s_154_49, s_154_50, s_154_53, s_154_54, s_154_57, s_154_60, s_154_70, s_154_71, s_154_72, s_154_75, s_154_76, s_154_79, s_154_80, s_154_81, s_154_84, s_154_86, s_154_87, s_154_90, s_154_91, s_154_94, s_154_95, s_154_96, s_154_99, amLong_I, amLong_R, amLong_N, amLong_L, cond_true, cond_false, Option.toList_some, Option.toList_none, List.cons_append, List.nil_append, List.append_nil, setE, setN, cpy_set, lit, nle, nlt, neq, inb_iff, cl_nI, tle, fle, tlt, flt, teq, feq, m9, m3, x9, x3, nI_add, nsub, upN, upE, b0', b01', r100, w100, r101, w101, r102, w102, r103, w103, r104, w104, r105, w105, r106, w106, r107, w107, r108, w108, w109, w110, r111, w111, r112, w112, r113, w113, r114, w114, r115, w115, r116, w116, r117, w117, r118, w118, r119, w119, w120, w121, r122, w122, r130, w130, w131, w132, r133, w133, r134, w134, r135, w135, r136, w136, r137, w137, r138, w138, r139, w139, r140, w140, r141, w141, w142, r143, w143, r144, w144, r145, w145, r146, w146, w147, w150, b1', em1, Bool.false_eq_true, not_true_eq_false, not_false_eq_true, false_implies, true_implies, and_true, true_and, if_true, if_false, implies_true, Classical.not_not, true_or, or_true, false_or, or_false, and_self, ite_true, ite_false, reduceIte, c32 h0, g2, c1, c31 h0, g1, c33 h0, e]
            exact H
          · rw [if_neg (fun z => e5 ((nlt (by omega) (by omega)).mp z))] at H
            simp (disch := omega) only [s_154_0, s_154_1, s_154_4, s_154_5, s_154_8, s_154_11, s_154_21, s_154_22, s_154_23, s_154_26, s_154_27, s_154_30, s_154_33, s_154_34, s_154_35, s_154_36, s_154_37, s_154_38, s_154_41, s_154_42, s_154_43, s_154_44, s_154_47, s_154_48, s_154_49, s_154_50, s_154_53, s_154_54, s_154_57, s_154_60, s_154_70, s_154_71, s_154_72, s_154_75, s_154_76, s_154_79, s_154_80, s_154_81, s_154_84, s_154_86, s_154_87, s_154_90, s_154_91, s_154_94, s_154_95, s_154_96, s_154_99, amLong_I, amLong_R, amLong_N, amLong_L, cond_true, cond_false, Option.toList_some, Option.toList_none, List.cons_append, List.nil_append, List.append_nil, setE, setN, cpy_set, lit, nle, nlt, neq, inb_iff, cl_nI, tle, fle, tlt, flt, teq, feq, m9, m3, x9, x3, nI_add, nsub, upN, upE, b0', b01', r100, w100, r101, w101, r102, w102, r103, w103, r104, w104, r105, w105, r106, w106, r107, w107, r108, w108, w109, w110, r111, w111, r112, w112, r113, w113, r114, w114, r115, w115, r116, w116, r117, w117, r118, w118, r119, w119, w120, w121, r122, w122, r130, w130, w131, w132, r133, w133, r134, w134, r135, w135, r136, w136, r137, w137, r138, w138, r139, w139, r140, w140, r141, w141, w142, r143, w143, r144, w144, r145, w145, r146, w146, w147, w150, b1', em1, Bool.false_eq_true, not_true_eq_false, not_false_eq_true, false_implies, true_implies, and_true, true_and, if_true, if_false, implies_true, Classical.not_not, true_or, or_true, false_or, or_false, and_self, ite_true, ite_false, reduceIte, c32 h0, g2, c1, c31 h0, g1]
            exact H
    · rw [if_neg (fun z => c2 (bo_iff.mp z).2)] at H
      have ne : ¬ w = nI 3 := fun z => c2 (by rw [z]; decide)
      rw [Int32.le_iff_toInt_le, Int32.le_iff_toInt_le, show (nI 0).toInt = 0 from rfl, show (nI 6).toInt = 6 from rfl] at c2
      by_cases e4 : w ≤ nI 3
      · have e5 : ¬ (nI 0 ≤ w ∧ w < nI (plr A.1.1)) := fun z => by
          have z1 := z.1
          rw [Int32.le_iff_toInt_le] at z1 e4
          rw [show (nI 0).toInt = 0 from rfl] at z1
          rw [show (nI 3).toInt = 3 from rfl] at e4
          omega
        simp (disch := omega) only [s_154_0, s_154_1, s_154_4, s_154_5, s_154_8, s_154_11, s_154_21, s_154_22, s_154_23, s_154_26, s_154_27, s_154_30, s_154_33, s_154_34, s_154_35, s_154_36, s_154_37, s_154_38, s_154_41, s_154_42, s_154_43, s_154_44, s_154_47, s_154_48, s_154_49, s_154_50, s_154_53, s_154_54, s_154_57, s_154_60, s_154_70, s_154_71, s_154_72, s_154_75, s_154_76, s_154_79, s_154_80, s_154_81, s_154_84, s_154_86, s_154_87, s_154_90, s_154_91, s_154_94, s_154_95, s_154_96, s_154_99, amLong_I, amLong_R, amLong_N, amLong_L, cond_true, cond_false, Option.toList_some, Option.toList_none, List.cons_append, List.nil_append, List.append_nil, setE, setN, cpy_set, lit, nle, nlt, neq, inb_iff, cl_nI, tle, fle, tlt, flt, teq, feq, m9, m3, x9, x3, nI_add, nsub, upN, upE, b0', b01', r100, w100, r101, w101, r102, w102, r103, w103, r104, w104, r105, w105, r106, w106, r107, w107, r108, w108, w109, w110, r111, w111, r112, w112, r113, w113, r114, w114, r115, w115, r116, w116, r117, w117, r118, w118, r119, w119, w120, w121, r122, w122, r130, w130, w131, w132, r133, w133, r134, w134, r135, w135, r136, w136, r137, w137, r138, w138, r139, w139, r140, w140, r141, w141, w142, r143, w143, r144, w144, r145, w145, r146, w146, w147, w150, b1', em1, Bool.false_eq_true, not_true_eq_false, not_false_eq_true, false_implies, true_implies, and_true, true_and, if_true, if_false, implies_true, Classical.not_not, true_or, or_true, false_or, or_false, and_self, ite_true, ite_false, reduceIte, c32 h0, g2, c1, ne, e4, c31 h0, g1, e5]
        exact H
      · have e6 : 6 < w.toInt := by
          rw [Int32.le_iff_toInt_le, show (nI 3).toInt = 3 from rfl] at e4
          omega
        have e5 : ¬ (nI 0 ≤ w - nI 4 ∧ w - nI 4 < nI (plr A.1.1)) := fun z => by
          have z2 := z.2
          have := w.toInt_lt
          rw [Int32.lt_iff_toInt_lt, tS (by rw [show (nI 4).toInt = 4 from rfl]; omega) (by rw [show (nI 4).toInt = 4 from rfl]; omega), show (nI 4).toInt = 4 from rfl, nI_toInt (by omega)] at z2
          omega
        simp (disch := omega) only [s_154_0, s_154_1, s_154_4, s_154_5, s_154_8, s_154_11, s_154_21, s_154_22, s_154_23, s_154_26, s_154_27, s_154_30, s_154_33, s_154_34, s_154_35, s_154_36, s_154_37, s_154_38, s_154_41, s_154_42, s_154_43, s_154_44, s_154_47, s_154_48, s_154_49, s_154_50, s_154_53, s_154_54, s_154_57, s_154_60, s_154_70, s_154_71, s_154_72, s_154_75, s_154_76, s_154_79, s_154_80, s_154_81, s_154_84, s_154_86, s_154_87, s_154_90, s_154_91, s_154_94, s_154_95, s_154_96, s_154_99, amLong_I, amLong_R, amLong_N, amLong_L, cond_true, cond_false, Option.toList_some, Option.toList_none, List.cons_append, List.nil_append, List.append_nil, setE, setN, cpy_set, lit, nle, nlt, neq, inb_iff, cl_nI, tle, fle, tlt, flt, teq, feq, m9, m3, x9, x3, nI_add, nsub, upN, upE, b0', b01', r100, w100, r101, w101, r102, w102, r103, w103, r104, w104, r105, w105, r106, w106, r107, w107, r108, w108, w109, w110, r111, w111, r112, w112, r113, w113, r114, w114, r115, w115, r116, w116, r117, w117, r118, w118, r119, w119, w120, w121, r122, w122, r130, w130, w131, w132, r133, w133, r134, w134, r135, w135, r136, w136, r137, w137, r138, w138, r139, w139, r140, w140, r141, w141, w142, r143, w143, r144, w144, r145, w145, r146, w146, w147, w150, b1', em1, Bool.false_eq_true, not_true_eq_false, not_false_eq_true, false_implies, true_implies, and_true, true_and, if_true, if_false, implies_true, Classical.not_not, true_or, or_true, false_or, or_false, and_self, ite_true, ite_false, reduceIte, c32 h0, g2, c1, ne, e4, c31 h0, g1, e5]
        exact H
  · rw [if_neg (fun z => c1 (bo_iff.mp z).1)] at H
    simp (disch := omega) only [s_154_0, s_154_1, s_154_4, s_154_5, s_154_8, s_154_11, s_154_21, s_154_22, s_154_23, s_154_26, s_154_27, s_154_30, s_154_33, s_154_34, s_154_35, s_154_36, s_154_37, s_154_38, s_154_41, s_154_42, s_154_43, s_154_44, s_154_47, s_154_48, s_154_49, s_154_50, s_154_53, s_154_54, s_154_57, s_154_60, s_154_70, s_154_71, s_154_72, s_154_75, s_154_76, s_154_79, s_154_80, s_154_81, s_154_84, s_154_86, s_154_87, s_154_90, s_154_91, s_154_94, s_154_95, s_154_96, s_154_99, amLong_I, amLong_R, amLong_N, amLong_L, cond_true, cond_false, Option.toList_some, Option.toList_none, List.cons_append, List.nil_append, List.append_nil, setE, setN, cpy_set, lit, nle, nlt, neq, inb_iff, cl_nI, tle, fle, tlt, flt, teq, feq, m9, m3, x9, x3, nI_add, nsub, upN, upE, b0', b01', r100, w100, r101, w101, r102, w102, r103, w103, r104, w104, r105, w105, r106, w106, r107, w107, r108, w108, w109, w110, r111, w111, r112, w112, r113, w113, r114, w114, r115, w115, r116, w116, r117, w117, r118, w118, r119, w119, w120, w121, r122, w122, r130, w130, w131, w132, r133, w133, r134, w134, r135, w135, r136, w136, r137, w137, r138, w138, r139, w139, r140, w140, r141, w141, w142, r143, w143, r144, w144, r145, w145, r146, w146, w147, w150, b1', em1, Bool.false_eq_true, not_true_eq_false, not_false_eq_true, false_implies, true_implies, and_true, true_and, if_true, if_false, implies_true, Classical.not_not, true_or, or_true, false_or, or_false, and_self, ite_true, ite_false, reduceIte, c32 h0, g2, c1]
    exact H
theorem m183 : Call (d + 1) 183 [vR 12 0] (M, J, (jk, 149, 147, X)) Q ↔ Q (some (vI (nI 0))) (upM M 1605 0 0 (nI 1), J, (jk, 149, 147, X)) := by
  rw [e_183]
  simp (disch := omega) only [s_183_0, s_183_1, s_183_2, s_183_5, s_183_6, amLong_I, amLong_R, amLong_N, amLong_L, cond_true, cond_false, Option.toList_some, Option.toList_none, List.cons_append, List.nil_append, List.append_nil, setE, setN, cpy_set, lit, nle, nlt, neq, inb_iff, cl_nI, tle, fle, tlt, flt, teq, feq, m9, m3, x9, x3, nI_add, nsub, upN, upE, b0', b01', r100, w100, r101, w101, r102, w102, r103, w103, r104, w104, r105, w105, r106, w106, r107, w107, r108, w108, w109, w110, r111, w111, r112, w112, r113, w113, r114, w114, r115, w115, r116, w116, r117, w117, r118, w118, r119, w119, w120, w121, r122, w122, r130, w130, w131, w132, r133, w133, r134, w134, r135, w135, r136, w136, r137, w137, r138, w138, r139, w139, r140, w140, r141, w141, w142, r143, w143, r144, w144, r145, w145, r146, w146, w147, w150, b1', em1, Bool.false_eq_true, not_true_eq_false, not_false_eq_true, false_implies, true_implies, and_true, true_and, if_true, if_false, implies_true, Classical.not_not, true_or, or_true, false_or, or_false, and_self, ite_true, ite_false, reduceIte]
theorem n181 {A : Sta} {p w : Int32} (hR : RM M J A) (hW : WF A) (H : ∀ M1, RM M1 J A → FM M M1 → M1 1605 0 0 = (if (ofV A p w).isSome = true then nI 0 else nI 1) → Q (some (vI ((ofV A p w).getD (nI 0)))) (M1, J, (jk, 149, 147, X))) : Call (d + 4) 181 [vR 12 0, vI p, vI w] (M, J, (jk, 149, 147, X)) Q := by
  have hV0 := (thr (x := nI 0)).v (hR.v hW)
  have hK0 : Kp M (upM M 1605 0 0 (nI 0)) := thr
  have hK1 : Kp M (upM (upM M 1605 0 0 (nI 0)) 1605 0 0 (nI 1)) := hK0.up (by unfold Sc; omega)
  obtain ⟨⟨l1, l2, l3, l4⟩, l5⟩ := sh_ok _ hV0.1
  have Hs : ∀ v, ofV A p w = some v → Q (some (vI v)) (upM M 1605 0 0 (nI 0), J, (jk, 149, 147, X)) := fun v e => by
    rw [e] at H
    exact H _ (hR.s hK0 (fun _ => rfl)) hK0.fm (upE ⟨rfl, rfl, rfl⟩)
  have Hn : ofV A p w = none → Q (some (vI (nI 0))) (upM (upM M 1605 0 0 (nI 0)) 1605 0 0 (nI 1), J, (jk, 149, 147, X)) := fun e => by
    rw [e] at H
    exact H _ (hR.s hK1 (fun _ => rfl)) hK1.fm (upE ⟨rfl, rfl, rfl⟩)
  clear H
  unfold ofV at Hs Hn
  rw [e_181]
  by_cases c1 : nI 0 ≤ p ∧ p < nI (prf A.1.1)
  · by_cases c2 : nI 0 ≤ w ∧ w ≤ nI 6
    · rw [if_pos (bo_iff.mpr ⟨c1, c2⟩)] at Hs Hn
      obtain ⟨p, hp, rfl⟩ := (in_iff (by omega)).mp c1
      obtain ⟨w, hw, rfl⟩ := w_of c2
      rw [cl_nI (by omega), cl_nI (by omega)] at Hs Hn
      by_cases e3 : w = 3
      · subst e3
        rw [if_pos rfl] at Hs
        have e := (hR.v hW).2.2.2.2 p (by omega)
        simp (disch := omega) only [s_181_0, s_181_1, s_181_2, s_181_5, s_181_6, s_181_7, s_181_10, s_181_13, s_181_14, s_181_15, s_181_17, s_181_20, s_181_23, s_181_24, s_181_27, s_181_28, s_181_29, s_181_30, s_181_33, s_181_34, s_181_37, s_181_39, s_181_40, s_181_41, s_181_42, s_181_43, s_181_44, s_181_45, s_181_48, s_181_49, s_181_52, s_181_53, s_181_54, s_181_55, s_181_56, s_181_57, s_181_58, s_181_61, s_181_64, s_181_65, s_181_68, s_181_69, s_181_70, s_181_71, s_181_74, s_181_75, s_181_76, s_181_77, s_181_80, s_181_83, s_181_85, s_181_86, s_181_87, s_181_88, s_181_91, s_181_92, amLong_I, amLong_R, amLong_N, amLong_L, cond_true, cond_false, Option.toList_some, Option.toList_none, List.cons_append, List.nil_append, List.append_nil, setE, setN, cpy_set, lit, nle, nlt, neq, inb_iff, cl_nI, tle, fle, tlt, flt, teq, feq, m9, m3, x9, x3, nI_add, nsub, upN, upE, b0', b01', r100, w100, r101, w101, r102, w102, r103, w103, r104, w104, r105, w105, r106, w106, r107, w107, r108, w108, w109, w110, r111, w111, r112, w112, r113, w113, r114, w114, r115, w115, r116, w116, r117, w117, r118, w118, r119, w119, w120, w121, r122, w122, r130, w130, w131, w132, r133, w133, r134, w134, r135, w135, r136, w136, r137, w137, r138, w138, r139, w139, r140, w140, r141, w141, w142, r143, w143, r144, w144, r145, w145, r146, w146, w147, w150, b1', em1, Bool.false_eq_true, not_true_eq_false, not_false_eq_true, false_implies, true_implies, and_true, true_and, if_true, if_false, implies_true, Classical.not_not, true_or, or_true, false_or, or_false, and_self, ite_true, ite_false, reduceIte, m182 hV0, c1, m160, c2, e]
        exact Hs _ rfl
      · rw [if_neg (fun z => e3 ((neq (by omega) (by omega)).mp z))] at Hs Hn
        by_cases e4 : w < 3
        · rw [if_pos ((nlt (by omega) (by omega)).mpr e4)] at Hs Hn
          by_cases e5 : w < plr A.1.1
          · rw [if_pos ((nlt (by omega) (by omega)).mpr e5)] at Hs
            simp (disch := omega) only [s_181_0, s_181_1, s_181_2, s_181_5, s_181_6, s_181_7, s_181_10, s_181_13, s_181_14, s_181_15, s_181_17, s_181_20, s_181_23, s_181_24, s_181_27, s_181_28, s_181_29, s_181_30, s_181_33, s_181_34, s_181_37, s_181_39, s_181_40, s_181_41, s_181_42, s_181_43, s_181_44, s_181_45, s_181_48, s_181_49, s_181_52, s_181_53, s_181_54, s_181_55, s_181_56, s_181_57, s_181_58, s_181_61, s_181_64, s_181_65, s_181_68, s_181_69, s_181_70, s_181_71, s_181_74, s_181_75, s_181_76, s_181_77, s_181_80, s_181_83, s_181_85, s_181_86, s_181_87, s_181_88, s_181_91, s_181_92, amLong_I, amLong_R, amLong_N, amLong_L, cond_true, cond_false, Option.toList_some, Option.toList_none, List.cons_append, List.nil_append, List.append_nil, setE, setN, cpy_set, lit, nle, nlt, neq, inb_iff, cl_nI, tle, fle, tlt, flt, teq, feq, m9, m3, x9, x3, nI_add, nsub, upN, upE, b0', b01', r100, w100, r101, w101, r102, w102, r103, w103, r104, w104, r105, w105, r106, w106, r107, w107, r108, w108, w109, w110, r111, w111, r112, w112, r113, w113, r114, w114, r115, w115, r116, w116, r117, w117, r118, w118, r119, w119, w120, w121, r122, w122, r130, w130, w131, w132, r133, w133, r134, w134, r135, w135, r136, w136, r137, w137, r138, w138, r139, w139, r140, w140, r141, w141, w142, r143, w143, r144, w144, r145, w145, r146, w146, w147, w150, b1', em1, Bool.false_eq_true, not_true_eq_false, not_false_eq_true, false_implies, true_implies, and_true, true_and, if_true, if_false, implies_true, Classical.not_not, true_or, or_true, false_or, or_false, and_self, ite_true, ite_false, reduceIte, m182 hV0, c1, m160, c2, m175 hV0, m184 hV0]
            exact Hs _ rfl
          · rw [if_neg (fun z => e5 ((nlt (by omega) (by omega)).mp z))] at Hn
            simp (disch := omega) only [s_181_0, s_181_1, s_181_2, s_181_5, s_181_6, s_181_7, s_181_10, s_181_13, s_181_14, s_181_15, s_181_17, s_181_20, s_181_23, s_181_24, s_181_27, s_181_28, s_181_29, s_181_30, s_181_33, s_181_34, s_181_37, s_181_39, s_181_40, s_181_41, s_181_42, s_181_43, s_181_44, s_181_45, s_181_48, s_181_49, s_181_52, s_181_53, s_181_54, s_181_55, s_181_56, s_181_57, s_181_58, s_181_61, s_181_64, s_181_65, s_181_68, s_181_69, s_181_70, s_181_71, s_181_74, s_181_75, s_181_76, s_181_77, s_181_80, s_181_83, s_181_85, s_181_86, s_181_87, s_181_88, s_181_91, s_181_92, amLong_I, amLong_R, amLong_N, amLong_L, cond_true, cond_false, Option.toList_some, Option.toList_none, List.cons_append, List.nil_append, List.append_nil, setE, setN, cpy_set, lit, nle, nlt, neq, inb_iff, cl_nI, tle, fle, tlt, flt, teq, feq, m9, m3, x9, x3, nI_add, nsub, upN, upE, b0', b01', r100, w100, r101, w101, r102, w102, r103, w103, r104, w104, r105, w105, r106, w106, r107, w107, r108, w108, w109, w110, r111, w111, r112, w112, r113, w113, r114, w114, r115, w115, r116, w116, r117, w117, r118, w118, r119, w119, w120, w121, r122, w122, r130, w130, w131, w132, r133, w133, r134, w134, r135, w135, r136, w136, r137, w137, r138, w138, r139, w139, r140, w140, r141, w141, w142, r143, w143, r144, w144, r145, w145, r146, w146, w147, w150, b1', em1, Bool.false_eq_true, not_true_eq_false, not_false_eq_true, false_implies, true_implies, and_true, true_and, if_true, if_false, implies_true, Classical.not_not, true_or, or_true, false_or, or_false, and_self, ite_true, ite_false, reduceIte, m182 hV0, c1, m160, c2, m175 hV0, m183]
            exact Hn rfl
        · rw [if_neg (fun z => e4 ((nlt (by omega) (by omega)).mp z)), pk_sub (show 4 ≤ w by omega)] at Hs Hn
          by_cases e5 : w - 4 < plr A.1.1
          · rw [if_pos ((nlt (by omega) (by omega)).mpr e5)] at Hs
            simp (disch := omega) only [s_181_0, s_181_1, s_181_2, s_181_5, s_181_6, s_181_7, s_181_10, s_181_13, s_181_14, s_181_15, s_181_17, s_181_20, s_181_23, s_181_24, s_181_27, s_181_28, s_181_29, s_181_30, s_181_33, s_181_34, s_181_37, s_181_39, s_181_40, s_181_41, s_181_42, s_181_43, s_181_44, s_181_45, s_181_48, s_181_49, s_181_52, s_181_53, s_181_54, s_181_55, s_181_56, s_181_57, s_181_58, s_181_61, s_181_64, s_181_65, s_181_68, s_181_69, s_181_70, s_181_71, s_181_74, s_181_75, s_181_76, s_181_77, s_181_80, s_181_83, s_181_85, s_181_86, s_181_87, s_181_88, s_181_91, s_181_92, amLong_I, amLong_R, amLong_N, amLong_L, cond_true, cond_false, Option.toList_some, Option.toList_none, List.cons_append, List.nil_append, List.append_nil, setE, setN, cpy_set, lit, nle, nlt, neq, inb_iff, cl_nI, tle, fle, tlt, flt, teq, feq, m9, m3, x9, x3, nI_add, nsub, upN, upE, b0', b01', r100, w100, r101, w101, r102, w102, r103, w103, r104, w104, r105, w105, r106, w106, r107, w107, r108, w108, w109, w110, r111, w111, r112, w112, r113, w113, r114, w114, r115, w115, r116, w116, r117, w117, r118, w118, r119, w119, w120, w121, r122, w122, r130, w130, w131, w132, r133, w133, r134, w134, r135, w135, r136, w136, r137, w137, r138, w138, r139, w139, r140, w140, r141, w141, w142, r143, w143, r144, w144, r145, w145, r146, w146, w147, w150, b1', em1, Bool.false_eq_true, not_true_eq_false, not_false_eq_true, false_implies, true_implies, and_true, true_and, if_true, if_false, implies_true, Classical.not_not, true_or, or_true, false_or, or_false, and_self, ite_true, ite_false, reduceIte, m182 hV0, c1, m160, c2, m175 hV0, m178 hV0]
            exact Hs _ rfl
          · rw [if_neg (fun z => e5 ((nlt (by omega) (by omega)).mp z))] at Hn
            simp (disch := omega) only [s_181_0, s_181_1, s_181_2, s_181_5, s_181_6, s_181_7, s_181_10, s_181_13, s_181_14, s_181_15, s_181_17, s_181_20, s_181_23, s_181_24, s_181_27, s_181_28, s_181_29, s_181_30, s_181_33, s_181_34, s_181_37, s_181_39, s_181_40, s_181_41, s_181_42, s_181_43, s_181_44, s_181_45, s_181_48, s_181_49, s_181_52, s_181_53, s_181_54, s_181_55, s_181_56, s_181_57, s_181_58, s_181_61, s_181_64, s_181_65, s_181_68, s_181_69, s_181_70, s_181_71, s_181_74, s_181_75, s_181_76, s_181_77, s_181_80, s_181_83, s_181_85, s_181_86, s_181_87, s_181_88, s_181_91, s_181_92, amLong_I, amLong_R, amLong_N, amLong_L, cond_true, cond_false, Option.toList_some, Option.toList_none, List.cons_append, List.nil_append, List.append_nil, setE, setN, cpy_set, lit, nle, nlt, neq, inb_iff, cl_nI, tle, fle, tlt, flt, teq, feq, m9, m3, x9, x3, nI_add, nsub, upN, upE, b0', b01', r100, w100, r101, w101, r102, w102, r103, w103, r104, w104, r105, w105, r106, w106, r107, w107, r108, w108, w109, w110, r111, w111, r112, w112, r113, w113, r114, w114, r115, w115, r116, w116, r117, w117, r118, w118, r119, w119, w120, w121, r122, w122, r130, w130, w131, w132, r133, w133, r134, w134, r135, w135, r136, w136, r137, w137, r138, w138, r139, w139, r140, w140, r141, w141, w142, r143, w143, r144, w144, r145, w145, r146, w146, w147, w150, b1', em1, Bool.false_eq_true, not_true_eq_false, not_false_eq_true, false_implies, true_implies, and_true, true_and, if_true, if_false, implies_true, Classical.not_not, true_or, or_true, false_or, or_false, and_self, ite_true, ite_false, reduceIte, m182 hV0, c1, m160, c2, m175 hV0, m183]
            exact Hn rfl
    · rw [if_neg (fun z => c2 (bo_iff.mp z).2)] at Hn
      simp (disch := omega) only [s_181_0, s_181_1, s_181_2, s_181_5, s_181_6, s_181_7, s_181_10, s_181_13, s_181_14, s_181_15, s_181_17, s_181_20, s_181_23, s_181_24, s_181_27, s_181_28, s_181_29, s_181_30, s_181_33, s_181_34, s_181_37, s_181_39, s_181_40, s_181_41, s_181_42, s_181_43, s_181_44, s_181_45, s_181_48, s_181_49, s_181_52, s_181_53, s_181_54, s_181_55, s_181_56, s_181_57, s_181_58, s_181_61, s_181_64, s_181_65, s_181_68, s_181_69, s_181_70, s_181_71, s_181_74, s_181_75, s_181_76, s_181_77, s_181_80, s_181_83, s_181_85, s_181_86, s_181_87, s_181_88, s_181_91, s_181_92, amLong_I, amLong_R, amLong_N, amLong_L, cond_true, cond_false, Option.toList_some, Option.toList_none, List.cons_append, List.nil_append, List.append_nil, setE, setN, cpy_set, lit, nle, nlt, neq, inb_iff, cl_nI, tle, fle, tlt, flt, teq, feq, m9, m3, x9, x3, nI_add, nsub, upN, upE, b0', b01', r100, w100, r101, w101, r102, w102, r103, w103, r104, w104, r105, w105, r106, w106, r107, w107, r108, w108, w109, w110, r111, w111, r112, w112, r113, w113, r114, w114, r115, w115, r116, w116, r117, w117, r118, w118, r119, w119, w120, w121, r122, w122, r130, w130, w131, w132, r133, w133, r134, w134, r135, w135, r136, w136, r137, w137, r138, w138, r139, w139, r140, w140, r141, w141, w142, r143, w143, r144, w144, r145, w145, r146, w146, w147, w150, b1', em1, Bool.false_eq_true, not_true_eq_false, not_false_eq_true, false_implies, true_implies, and_true, true_and, if_true, if_false, implies_true, Classical.not_not, true_or, or_true, false_or, or_false, and_self, ite_true, ite_false, reduceIte, m182 hV0, c1, m160, c2, m183]
      exact Hn rfl
  · rw [if_neg (fun z => c1 (bo_iff.mp z).1)] at Hn
    simp (disch := omega) only [s_181_0, s_181_1, s_181_2, s_181_5, s_181_6, s_181_7, s_181_10, s_181_13, s_181_14, s_181_15, s_181_17, s_181_20, s_181_23, s_181_24, s_181_27, s_181_28, s_181_29, s_181_30, s_181_33, s_181_34, s_181_37, s_181_39, s_181_40, s_181_41, s_181_42, s_181_43, s_181_44, s_181_45, s_181_48, s_181_49, s_181_52, s_181_53, s_181_54, s_181_55, s_181_56, s_181_57, s_181_58, s_181_61, s_181_64, s_181_65, s_181_68, s_181_69, s_181_70, s_181_71, s_181_74, s_181_75, s_181_76, s_181_77, s_181_80, s_181_83, s_181_85, s_181_86, s_181_87, s_181_88, s_181_91, s_181_92, amLong_I, amLong_R, amLong_N, amLong_L, cond_true, cond_false, Option.toList_some, Option.toList_none, List.cons_append, List.nil_append, List.append_nil, setE, setN, cpy_set, lit, nle, nlt, neq, inb_iff, cl_nI, tle, fle, tlt, flt, teq, feq, m9, m3, x9, x3, nI_add, nsub, upN, upE, b0', b01', r100, w100, r101, w101, r102, w102, r103, w103, r104, w104, r105, w105, r106, w106, r107, w107, r108, w108, w109, w110, r111, w111, r112, w112, r113, w113, r114, w114, r115, w115, r116, w116, r117, w117, r118, w118, r119, w119, w120, w121, r122, w122, r130, w130, w131, w132, r133, w133, r134, w134, r135, w135, r136, w136, r137, w137, r138, w138, r139, w139, r140, w140, r141, w141, w142, r143, w143, r144, w144, r145, w145, r146, w146, w147, w150, b1', em1, Bool.false_eq_true, not_true_eq_false, not_false_eq_true, false_implies, true_implies, and_true, true_and, if_true, if_false, implies_true, Classical.not_not, true_or, or_true, false_or, or_false, and_self, ite_true, ite_false, reduceIte, m182 hV0, c1, m183]
    exact Hn rfl
theorem k155 {A : Sta} {i : Int32} (hR : RC M J A) (H : Q ((rwV A i).map (fun x => vL x.toInt64)) (M, J, (jk, 149, 147, X))) : Call (d + 1) 155 [vR 11 0, vI i] (M, J, (jk, 149, 147, X)) Q := by
  obtain ⟨r1, r2, r3⟩ := hR.2.2.2.2
  unfold rwV at H
  rw [e_155]
  by_cases c : nI 0 ≤ i ∧ i < nI A.2.2.2.2.length
  · rw [if_pos (bo_iff.mpr c)] at H
    obtain ⟨i, hi, rfl⟩ := (in_iff (by omega)).mp c
    rw [cl_nI (by omega)] at H
    have e := r3 i hi
    simp (disch := omega) only [s_155_0, s_155_1, s_155_4, s_155_5, s_155_6, s_155_9, s_155_12, s_155_15, s_155_26, s_155_27, s_155_30, s_155_33, s_155_34, s_155_35, amLong_I, amLong_R, amLong_N, amLong_L, cond_true, cond_false, Option.toList_some, Option.toList_none, List.cons_append, List.nil_append, List.append_nil, setE, setN, cpy_set, lit, nle, nlt, neq, inb_iff, cl_nI, tle, fle, tlt, flt, teq, feq, m9, m3, x9, x3, nI_add, nsub, upN, upE, b0', b01', r100, w100, r101, w101, r102, w102, r103, w103, r104, w104, r105, w105, r106, w106, r107, w107, r108, w108, w109, w110, r111, w111, r112, w112, r113, w113, r114, w114, r115, w115, r116, w116, r117, w117, r118, w118, r119, w119, w120, w121, r122, w122, r130, w130, w131, w132, r133, w133, r134, w134, r135, w135, r136, w136, r137, w137, r138, w138, r139, w139, r140, w140, r141, w141, w142, r143, w143, r144, w144, r145, w145, r146, w146, w147, w150, b1', em1, Bool.false_eq_true, not_true_eq_false, not_false_eq_true, false_implies, true_implies, and_true, true_and, if_true, if_false, implies_true, Classical.not_not, true_or, or_true, false_or, or_false, and_self, ite_true, ite_false, reduceIte, r1, e]
    exact H
  · rw [if_neg (fun z => c (bo_iff.mp z))] at H
    by_cases c1 : i < nI 0
    · simp (disch := omega) only [s_155_0, s_155_1, s_155_4, s_155_5, s_155_6, s_155_9, s_155_12, s_155_15, s_155_26, s_155_27, s_155_30, s_155_33, s_155_34, s_155_35, amLong_I, amLong_R, amLong_N, amLong_L, cond_true, cond_false, Option.toList_some, Option.toList_none, List.cons_append, List.nil_append, List.append_nil, setE, setN, cpy_set, lit, nle, nlt, neq, inb_iff, cl_nI, tle, fle, tlt, flt, teq, feq, m9, m3, x9, x3, nI_add, nsub, upN, upE, b0', b01', r100, w100, r101, w101, r102, w102, r103, w103, r104, w104, r105, w105, r106, w106, r107, w107, r108, w108, w109, w110, r111, w111, r112, w112, r113, w113, r114, w114, r115, w115, r116, w116, r117, w117, r118, w118, r119, w119, w120, w121, r122, w122, r130, w130, w131, w132, r133, w133, r134, w134, r135, w135, r136, w136, r137, w137, r138, w138, r139, w139, r140, w140, r141, w141, w142, r143, w143, r144, w144, r145, w145, r146, w146, w147, w150, b1', em1, Bool.false_eq_true, not_true_eq_false, not_false_eq_true, false_implies, true_implies, and_true, true_and, if_true, if_false, implies_true, Classical.not_not, true_or, or_true, false_or, or_false, and_self, ite_true, ite_false, reduceIte, c1]
      exact H
    · have c2 : ¬ i < nI A.2.2.2.2.length := fun z => c ⟨Int32.not_lt.mp c1, z⟩
      simp (disch := omega) only [s_155_0, s_155_1, s_155_4, s_155_5, s_155_6, s_155_9, s_155_12, s_155_15, s_155_26, s_155_27, s_155_30, s_155_33, s_155_34, s_155_35, amLong_I, amLong_R, amLong_N, amLong_L, cond_true, cond_false, Option.toList_some, Option.toList_none, List.cons_append, List.nil_append, List.append_nil, setE, setN, cpy_set, lit, nle, nlt, neq, inb_iff, cl_nI, tle, fle, tlt, flt, teq, feq, m9, m3, x9, x3, nI_add, nsub, upN, upE, b0', b01', r100, w100, r101, w101, r102, w102, r103, w103, r104, w104, r105, w105, r106, w106, r107, w107, r108, w108, w109, w110, r111, w111, r112, w112, r113, w113, r114, w114, r115, w115, r116, w116, r117, w117, r118, w118, r119, w119, w120, w121, r122, w122, r130, w130, w131, w132, r133, w133, r134, w134, r135, w135, r136, w136, r137, w137, r138, w138, r139, w139, r140, w140, r141, w141, w142, r143, w143, r144, w144, r145, w145, r146, w146, w147, w150, b1', em1, Bool.false_eq_true, not_true_eq_false, not_false_eq_true, false_implies, true_implies, and_true, true_and, if_true, if_false, implies_true, Classical.not_not, true_or, or_true, false_or, or_false, and_self, ite_true, ite_false, reduceIte, c1, r1, c2]
      exact H
theorem n272 {A : Sta} {i : Int32} (hR : RM M J A) (H : ∀ M1, RM M1 J A → FM M M1 → M1 1605 0 0 = (if (rwV A i).isSome = true then nI 0 else nI 1) → Q (some (vL ((rwV A i).getD (nI 0)).toInt64)) (M1, J, (jk, 149, 147, X))) : Call (d + 2) 272 [vR 12 0, vI i] (M, J, (jk, 149, 147, X)) Q := by
  have hK0 : Kp M (upM M 1605 0 0 (nI 0)) := thr
  have hK1 : Kp M (upM (upM M 1605 0 0 (nI 0)) 1605 0 0 (nI 1)) := hK0.up (by unfold Sc; omega)
  obtain ⟨r1, r2, r3⟩ := hR.2.2.2.2
  unfold rwV at H
  rw [e_272]
  by_cases c : nI 0 ≤ i ∧ i < nI A.2.2.2.2.length
  · rw [if_pos (bo_iff.mpr c)] at H
    obtain ⟨i, hi, rfl⟩ := (in_iff (by omega)).mp c
    rw [cl_nI (by omega)] at H
    have e := r3 i hi
    simp (disch := omega) only [s_272_0, s_272_1, s_272_2, s_272_5, s_272_6, s_272_7, s_272_8, s_272_11, s_272_12, s_272_13, s_272_16, s_272_19, s_272_20, s_272_23, s_272_24, s_272_25, s_272_28, s_272_29, s_272_32, s_272_33, amLong_I, amLong_R, amLong_N, amLong_L, cond_true, cond_false, Option.toList_some, Option.toList_none, List.cons_append, List.nil_append, List.append_nil, setE, setN, cpy_set, lit, nle, nlt, neq, inb_iff, cl_nI, tle, fle, tlt, flt, teq, feq, m9, m3, x9, x3, nI_add, nsub, upN, upE, b0', b01', r100, w100, r101, w101, r102, w102, r103, w103, r104, w104, r105, w105, r106, w106, r107, w107, r108, w108, w109, w110, r111, w111, r112, w112, r113, w113, r114, w114, r115, w115, r116, w116, r117, w117, r118, w118, r119, w119, w120, w121, r122, w122, r130, w130, w131, w132, r133, w133, r134, w134, r135, w135, r136, w136, r137, w137, r138, w138, r139, w139, r140, w140, r141, w141, w142, r143, w143, r144, w144, r145, w145, r146, w146, w147, w150, b1', em1, Bool.false_eq_true, not_true_eq_false, not_false_eq_true, false_implies, true_implies, and_true, true_and, if_true, if_false, implies_true, Classical.not_not, true_or, or_true, false_or, or_false, and_self, ite_true, ite_false, reduceIte, r1, m160p, c, e]
    exact H _ (hR.s hK0 (fun _ => rfl)) hK0.fm (upE ⟨rfl, rfl, rfl⟩)
  · rw [if_neg (fun z => c (bo_iff.mp z))] at H
    have hin : ¬ (nI 0 ≤ i ∧ i ≤ nI A.2.2.2.2.length - nI 1) := fun z => by
      have z1 := z.1
      have z2 := z.2
      rw [Int32.le_iff_toInt_le, show (nI 0).toInt = 0 from rfl] at z1
      rw [Int32.le_iff_toInt_le, tS (by rw [show (nI 1).toInt = 1 from rfl, nI_toInt (by omega)]; omega) (by rw [show (nI 1).toInt = 1 from rfl, nI_toInt (by omega)]; omega), show (nI 1).toInt = 1 from rfl, nI_toInt (by omega)] at z2
      refine c ⟨z.1, ?_⟩
      rw [Int32.lt_iff_toInt_lt, nI_toInt (by omega)]
      omega
    by_cases c0 : 1 ≤ A.2.2.2.2.length
    · rw [pk_sub c0] at hin
      simp (disch := omega) only [s_272_0, s_272_1, s_272_2, s_272_5, s_272_6, s_272_7, s_272_8, s_272_11, s_272_12, s_272_13, s_272_16, s_272_19, s_272_20, s_272_23, s_272_24, s_272_25, s_272_28, s_272_29, s_272_32, s_272_33, amLong_I, amLong_R, amLong_N, amLong_L, cond_true, cond_false, Option.toList_some, Option.toList_none, List.cons_append, List.nil_append, List.append_nil, setE, setN, cpy_set, lit, nle, nlt, neq, inb_iff, cl_nI, tle, fle, tlt, flt, teq, feq, m9, m3, x9, x3, nI_add, nsub, upN, upE, b0', b01', r100, w100, r101, w101, r102, w102, r103, w103, r104, w104, r105, w105, r106, w106, r107, w107, r108, w108, w109, w110, r111, w111, r112, w112, r113, w113, r114, w114, r115, w115, r116, w116, r117, w117, r118, w118, r119, w119, w120, w121, r122, w122, r130, w130, w131, w132, r133, w133, r134, w134, r135, w135, r136, w136, r137, w137, r138, w138, r139, w139, r140, w140, r141, w141, w142, r143, w143, r144, w144, r145, w145, r146, w146, w147, w150, b1', em1, Bool.false_eq_true, not_true_eq_false, not_false_eq_true, false_implies, true_implies, and_true, true_and, if_true, if_false, implies_true, Classical.not_not, true_or, or_true, false_or, or_false, and_self, ite_true, ite_false, reduceIte, r1, m160, hin, m183]
      exact H _ (hR.s hK1 (fun _ => rfl)) hK1.fm (upE ⟨rfl, rfl, rfl⟩)
    · simp (disch := omega) only [s_272_0, s_272_1, s_272_2, s_272_5, s_272_6, s_272_7, s_272_8, s_272_11, s_272_12, s_272_13, s_272_16, s_272_19, s_272_20, s_272_23, s_272_24, s_272_25, s_272_28, s_272_29, s_272_32, s_272_33, amLong_I, amLong_R, amLong_N, amLong_L, cond_true, cond_false, Option.toList_some, Option.toList_none, List.cons_append, List.nil_append, List.append_nil, setE, setN, cpy_set, lit, nle, nlt, neq, inb_iff, cl_nI, tle, fle, tlt, flt, teq, feq, m9, m3, x9, x3, nI_add, nsub, upN, upE, b0', b01', r100, w100, r101, w101, r102, w102, r103, w103, r104, w104, r105, w105, r106, w106, r107, w107, r108, w108, w109, w110, r111, w111, r112, w112, r113, w113, r114, w114, r115, w115, r116, w116, r117, w117, r118, w118, r119, w119, w120, w121, r122, w122, r130, w130, w131, w132, r133, w133, r134, w134, r135, w135, r136, w136, r137, w137, r138, w138, r139, w139, r140, w140, r141, w141, w142, r143, w143, r144, w144, r145, w145, r146, w146, w147, w150, b1', em1, Bool.false_eq_true, not_true_eq_false, not_false_eq_true, false_implies, true_implies, and_true, true_and, if_true, if_false, implies_true, Classical.not_not, true_or, or_true, false_or, or_false, and_self, ite_true, ite_false, reduceIte, r1, m160, hin, m183]
      exact H _ (hR.s hK1 (fun _ => rfl)) hK1.fm (upE ⟨rfl, rfl, rfl⟩)
theorem p274 {a b : Int32} {st : amS} (h : Call d 154 [vR 11 0, vI a, vI b] st (fun v st' => match v with
    | none => Q (some (vI 1)) (st'.1, st'.2.1, (st'.2.2.1 + 1, st'.2.2.2))
    | some (.inl x) => Q (some (vI 0)) (st'.1, upJ st'.2.1 150 0 x.toInt64, st'.2.2)
    | some (.inr (.inl x)) => Q (some (vI 0)) (st'.1, upJ st'.2.1 150 0 x, st'.2.2)
    | _ => False)) : Call (d + 1) 274 [vR 11 0, vI a, vI b, vR 150 0] st Q := by
  obtain ⟨n, v, st', h1, h2⟩ := h
  match v, h1, h2 with
  | none, h1, h2 => exact ⟨n, some (vI 1), _, by
      show amPrm (amEx d n 154 [vR 11 0, vI a, vI b] st) 0 = _
      rw [h1]
      rfl, h2⟩
  | some (.inl x), h1, h2 => exact ⟨n, some (vI 0), _, by
      show amPrm (amEx d n 154 [vR 11 0, vI a, vI b] st) 0 = _
      rw [h1]
      rfl, h2⟩
  | some (.inr (.inl x)), h1, h2 => exact ⟨n, some (vI 0), _, by
      show amPrm (amEx d n 154 [vR 11 0, vI a, vI b] st) 0 = _
      rw [h1]
      rfl, h2⟩
  | some (.inr (.inr x)), h1, h2 => exact absurd h2 id
theorem p275 {a : Int32} {st : amS} (h : Call d 155 [vR 11 0, vI a] st (fun v st' => match v with
    | none => Q (some (vI 1)) (st'.1, st'.2.1, (st'.2.2.1 + 1, st'.2.2.2))
    | some (.inl x) => Q (some (vI 0)) (st'.1, upJ st'.2.1 150 0 x.toInt64, st'.2.2)
    | some (.inr (.inl x)) => Q (some (vI 0)) (st'.1, upJ st'.2.1 150 0 x, st'.2.2)
    | _ => False)) : Call (d + 1) 275 [vR 11 0, vI a, vR 150 0] st Q := by
  obtain ⟨n, v, st', h1, h2⟩ := h
  match v, h1, h2 with
  | none, h1, h2 => exact ⟨n, some (vI 1), _, by
      show amPrm (amEx d n 155 [vR 11 0, vI a] st) 0 = _
      rw [h1]
      rfl, h2⟩
  | some (.inl x), h1, h2 => exact ⟨n, some (vI 0), _, by
      show amPrm (amEx d n 155 [vR 11 0, vI a] st) 0 = _
      rw [h1]
      rfl, h2⟩
  | some (.inr (.inl x)), h1, h2 => exact ⟨n, some (vI 0), _, by
      show amPrm (amEx d n 155 [vR 11 0, vI a] st) 0 = _
      rw [h1]
      rfl, h2⟩
  | some (.inr (.inr x)), h1, h2 => exact absurd h2 id
end OFR
