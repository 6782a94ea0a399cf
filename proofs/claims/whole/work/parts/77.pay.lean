/-! readPays, the class's way -/
noncomputable def gmX (tx : Nat × (Nat → Nat)) (fr y : Nat) : Bool := bo (¬ ltr tx (fr + y))
noncomputable def gmA (tx : Nat × (Nat → Nat)) (fr sh : Nat) : Int32 := match fst1 (gmX tx fr) (prf sh * plr sh) with
  | some y => -nI 1 - nI (fr + y)
  | none => if fr + prf sh * plr sh < tx.1 then -nI 1 - nI (fr + prf sh * plr sh) else nI (prf sh)
def pyG (tx : Nat × (Nat → Nat)) (fr pl n : Nat) : Nat → Int32 := fun k => if k / 9 < pl ∧ k % 9 * pl + k / 9 < n then nI (tx.2 (fr + (k % 9 * pl + k / 9))) - nI 106 else nI 0
theorem pyG_s {tx : Nat × (Nat → Nat)} {fr pl p q : Nat} (hpl : pl = 2 ∨ pl = 3) (hp : p < 9) (hq : q < pl) : pyG tx fr pl (p * pl + q + 1) = pyS (pyG tx fr pl (p * pl + q)) q p (nI (tx.2 (fr + (p * pl + q))) - nI 106) := by
  funext k
  unfold pyG pyS
  by_cases e : k = 9 * q + p
  · have e1 : k / 9 = q := by omega
    have e2 : k % 9 = p := by omega
    rw [if_pos e, e1, e2, if_pos ⟨hq, by omega⟩]
  · rw [if_neg e]
    dsimp only
    by_cases c : k / 9 < pl ∧ k % 9 * pl + k / 9 < p * pl + q
    · rw [if_pos c, if_pos ⟨c.1, by omega⟩]
    · rw [if_neg c, if_neg (fun z => ?_)]
      have z1 := z.1
      have z2 := z.2
      have c' : ¬ k % 9 * pl + k / 9 < p * pl + q := fun y => c ⟨z1, y⟩
      rcases hpl with h | h <;> subst h <;> omega
section PAY
variable {d g t jk X sh : Nat} {M M1 M2 : amM} {J J1 J2 : amJ} {Q : Option amV → amS → Prop} {pay tok tk : Nat → Int32} {tx : Nat × (Nat → Nat)}
theorem c27 {fr : Nat} (hV : GV M 1 sh (fun _ => nI 0) (fun _ => nI 0)) (hT : TX M tx) (hb : ∀ k, tx.2 k < 256) (hf : fr ≤ 4) (H : ∀ M1, (∀ c j k, ¬ (c = 103 ∧ j = 1) → M1 c j k = M c j k) → (¬ gmA tx fr sh < nI 0 → GV M1 1 sh (pyG tx fr (plr sh) (prf sh * plr sh)) (fun _ => nI 0)) → Q (some (vI (gmA tx fr sh))) (M1, J, (jk, 149, 147, X))) : Call (d + 4) 27 [vR 10 0, vR 2 1, vI (nI fr)] (M, J, (jk, 149, 147, X)) Q := by
  have h1 : (1 : Nat) < 13 := by decide
  obtain ⟨l1, l2, l3, l4⟩ := (sh_ok sh hV.1.1).1
  have hpl : plr sh = 2 ∨ plr sh = 3 := by omega
  have hm : ∀ p, p ≤ prf sh → p * plr sh ≤ 27 := fun p hp => by
    have := Nat.mul_le_mul (show p ≤ 9 by omega) l2
    omega
  rw [e_27]
  simp (disch := omega) only [s_27_0, s_27_1, s_27_2, s_27_3, s_27_7, s_27_8, s_27_11, s_27_14, s_27_15, s_27_19, s_27_20, s_27_23, s_27_26, s_27_27, s_27_28, s_27_31, s_27_34, s_27_35, s_27_36, s_27_37, s_27_38, s_27_39, s_27_41, s_27_43, s_27_44, s_27_45, s_27_48, s_27_50, s_27_51, s_27_54, s_27_55, s_27_58, s_27_61, s_27_64, s_27_67, s_27_70, s_27_71, s_27_72, s_27_75, s_27_78, s_27_79, s_27_80, s_27_81, s_27_84, s_27_85, s_27_88, amLong_I, amLong_R, amLong_N, amLong_L, cond_true, cond_false, Option.toList_some, Option.toList_none, List.cons_append, List.nil_append, List.append_nil, setE, setN, cpy_set, lit, nle, nlt, neq, inb_iff, cl_nI, tle, fle, tlt, flt, teq, feq, m9, m3, x9, x3, nI_add, nsub, upN, upE, b0', b01', r100, w100, r101, w101, r102, w102, r103, w103, r104, w104, r105, w105, r106, w106, r107, w107, r108, w108, w109, w110, r111, w111, r112, w112, r113, w113, r114, w114, r115, w115, r116, w116, r117, w117, r118, w118, r119, w119, w120, w121, r122, w122, r130, w130, w131, w132, r133, w133, r134, w134, r135, w135, r136, w136, r137, w137, r138, w138, r139, w139, r140, w140, r141, w141, w142, r143, w143, r144, w144, r145, w145, r146, w146, w147, w150, b1', em1, Bool.false_eq_true, not_true_eq_false, not_false_eq_true, false_implies, true_implies, and_true, true_and, if_true, if_false, implies_true, Classical.not_not, true_or, or_true, false_or, or_false, and_self, ite_true, ite_false, reduceIte]
  suffices key : Ev (d + 3) 27 5 [some (vR 10 0), some (vR 2 1), some (vI (nI fr)), some (vI (nI (fr + 0 * plr sh))), some (vI (nI 0)), none] [] (M, J, (jk, 149, 147, X)) Q by
    rw [Nat.zero_mul, Nat.add_zero] at key
    exact key
  refine lpH (T := Unit) (U := Option amV) (P := prf sh) (E := fun k M1 J1 u x => Ev (d + 3) 27 5 [some (vR 10 (0)), some (vR 2 (1)), some (vI (nI fr)), some (vI (nI (fr + k * plr sh))), some (vI (nI k)), u] [] (M1, J1, (jk, 149, 147, X)) Q) (I := fun k M1 J1 _ => J = J1 ∧ (∀ c j y, ¬ (c = 103 ∧ j = 1) → M1 c j y = M c j y) ∧ (∀ y, y < k * plr sh → ¬ gmX tx fr y = true) ∧ GV M1 1 sh (pyG tx fr (plr sh) (k * plr sh)) (fun _ => nI 0)) (fun M1 J1 u x hI => ?_) (fun p M1 J1 u x hp hI next => ?_) 0 _ _ _ () (by omega) ⟨rfl, fun _ _ _ _ => rfl, fun y hy => by omega, ?_⟩
  · obtain ⟨rfl, i1, i2, i3⟩ := hI
    have hmm := hm (prf sh) (Nat.le_refl _)
    have x1' : M1 1501 0 0 = nI tx.1 := by rw [i1 _ _ _ (by omega), hT.1]
    have h80 := hT.2.1
    have hA : gmA tx fr sh = if fr + prf sh * plr sh < tx.1 then -nI 1 - nI (fr + prf sh * plr sh) else nI (prf sh) := by
      unfold gmA
      rw [fst1_n i2]
    rw [h_27_5]
    by_cases c : fr + prf sh * plr sh < tx.1
    · rw [if_pos c] at hA
      rw [hA] at H
      simp (disch := omega) only [s_27_0, s_27_1, s_27_2, s_27_3, s_27_7, s_27_8, s_27_11, s_27_14, s_27_15, s_27_19, s_27_20, s_27_23, s_27_26, s_27_27, s_27_28, s_27_31, s_27_34, s_27_35, s_27_36, s_27_37, s_27_38, s_27_39, s_27_41, s_27_43, s_27_44, s_27_45, s_27_48, s_27_50, s_27_51, s_27_54, s_27_55, s_27_58, s_27_61, s_27_64, s_27_67, s_27_70, s_27_71, s_27_72, s_27_75, s_27_78, s_27_79, s_27_80, s_27_81, s_27_84, s_27_85, s_27_88, amLong_I, amLong_R, amLong_N, amLong_L, cond_true, cond_false, Option.toList_some, Option.toList_none, List.cons_append, List.nil_append, List.append_nil, setE, setN, cpy_set, lit, nle, nlt, neq, inb_iff, cl_nI, tle, fle, tlt, flt, teq, feq, m9, m3, x9, x3, nI_add, nsub, upN, upE, b0', b01', r100, w100, r101, w101, r102, w102, r103, w103, r104, w104, r105, w105, r106, w106, r107, w107, r108, w108, w109, w110, r111, w111, r112, w112, r113, w113, r114, w114, r115, w115, r116, w116, r117, w117, r118, w118, r119, w119, w120, w121, r122, w122, r130, w130, w131, w132, r133, w133, r134, w134, r135, w135, r136, w136, r137, w137, r138, w138, r139, w139, r140, w140, r141, w141, w142, r143, w143, r144, w144, r145, w145, r146, w146, w147, w150, b1', em1, Bool.false_eq_true, not_true_eq_false, not_false_eq_true, false_implies, true_implies, and_true, true_and, if_true, if_false, implies_true, Classical.not_not, true_or, or_true, false_or, or_false, and_self, ite_true, ite_false, reduceIte, i3.1.2.2.1, x1', c]
      exact H M1 i1 (fun _ => i3)
    · rw [if_neg c] at hA
      rw [hA] at H
      simp (disch := omega) only [s_27_0, s_27_1, s_27_2, s_27_3, s_27_7, s_27_8, s_27_11, s_27_14, s_27_15, s_27_19, s_27_20, s_27_23, s_27_26, s_27_27, s_27_28, s_27_31, s_27_34, s_27_35, s_27_36, s_27_37, s_27_38, s_27_39, s_27_41, s_27_43, s_27_44, s_27_45, s_27_48, s_27_50, s_27_51, s_27_54, s_27_55, s_27_58, s_27_61, s_27_64, s_27_67, s_27_70, s_27_71, s_27_72, s_27_75, s_27_78, s_27_79, s_27_80, s_27_81, s_27_84, s_27_85, s_27_88, amLong_I, amLong_R, amLong_N, amLong_L, cond_true, cond_false, Option.toList_some, Option.toList_none, List.cons_append, List.nil_append, List.append_nil, setE, setN, cpy_set, lit, nle, nlt, neq, inb_iff, cl_nI, tle, fle, tlt, flt, teq, feq, m9, m3, x9, x3, nI_add, nsub, upN, upE, b0', b01', r100, w100, r101, w101, r102, w102, r103, w103, r104, w104, r105, w105, r106, w106, r107, w107, r108, w108, w109, w110, r111, w111, r112, w112, r113, w113, r114, w114, r115, w115, r116, w116, r117, w117, r118, w118, r119, w119, w120, w121, r122, w122, r130, w130, w131, w132, r133, w133, r134, w134, r135, w135, r136, w136, r137, w137, r138, w138, r139, w139, r140, w140, r141, w141, w142, r143, w143, r144, w144, r145, w145, r146, w146, w147, w150, b1', em1, Bool.false_eq_true, not_true_eq_false, not_false_eq_true, false_implies, true_implies, and_true, true_and, if_true, if_false, implies_true, Classical.not_not, true_or, or_true, false_or, or_false, and_self, ite_true, ite_false, reduceIte, i3.1.2.2.1, x1', c]
      exact H M1 i1 (fun _ => i3)
  · obtain ⟨rfl, i1, i2, i3⟩ := hI
    rw [h_27_5]
    simp (disch := omega) only [s_27_0, s_27_1, s_27_2, s_27_3, s_27_7, s_27_8, s_27_11, s_27_14, s_27_15, s_27_19, s_27_20, s_27_23, s_27_26, s_27_27, s_27_28, s_27_31, s_27_34, s_27_35, s_27_36, s_27_37, s_27_38, s_27_39, s_27_41, s_27_43, s_27_44, s_27_45, s_27_48, s_27_50, s_27_51, s_27_54, s_27_55, s_27_58, s_27_61, s_27_64, s_27_67, s_27_70, s_27_71, s_27_72, s_27_75, s_27_78, s_27_79, s_27_80, s_27_81, s_27_84, s_27_85, s_27_88, amLong_I, amLong_R, amLong_N, amLong_L, cond_true, cond_false, Option.toList_some, Option.toList_none, List.cons_append, List.nil_append, List.append_nil, setE, setN, cpy_set, lit, nle, nlt, neq, inb_iff, cl_nI, tle, fle, tlt, flt, teq, feq, m9, m3, x9, x3, nI_add, nsub, upN, upE, b0', b01', r100, w100, r101, w101, r102, w102, r103, w103, r104, w104, r105, w105, r106, w106, r107, w107, r108, w108, w109, w110, r111, w111, r112, w112, r113, w113, r114, w114, r115, w115, r116, w116, r117, w117, r118, w118, r119, w119, w120, w121, r122, w122, r130, w130, w131, w132, r133, w133, r134, w134, r135, w135, r136, w136, r137, w137, r138, w138, r139, w139, r140, w140, r141, w141, w142, r143, w143, r144, w144, r145, w145, r146, w146, w147, w150, b1', em1, Bool.false_eq_true, not_true_eq_false, not_false_eq_true, false_implies, true_implies, and_true, true_and, if_true, if_false, implies_true, Classical.not_not, true_or, or_true, false_or, or_false, and_self, ite_true, ite_false, reduceIte, i3.1.2.2.1]
    refine lpH (T := Unit) (U := Unit) (P := plr sh) (E := fun k M1 J1 u x => Ev (d + 3) 27 17 [some (vR 10 (0)), some (vR 2 (1)), some (vI (nI fr)), some (vI (nI (fr + (p * plr sh + k)))), some (vI (nI p)), some (vI (nI k))] [] (M1, J1, (jk, 149, 147, X)) Q) (I := fun k M2 J2 _ => J = J2 ∧ (∀ c j y, ¬ (c = 103 ∧ j = 1) → M2 c j y = M c j y) ∧ (∀ y, y < p * plr sh + k → ¬ gmX tx fr y = true) ∧ GV M2 1 sh (pyG tx fr (plr sh) (p * plr sh + k)) (fun _ => nI 0)) (fun M2 J2 u x hI => ?_) (fun q M2 J2 u x hq hI next2 => ?_) 0 _ _ () () (by omega) ⟨rfl, i1, i2, i3⟩
    · obtain ⟨rfl, j1, j2, j3⟩ := hI
      have hmm := hm (p + 1) (by omega)
      rw [← Nat.succ_mul] at j2 j3 ⊢
      rw [h_27_17]
      simp (disch := omega) only [s_27_0, s_27_1, s_27_2, s_27_3, s_27_7, s_27_8, s_27_11, s_27_14, s_27_15, s_27_19, s_27_20, s_27_23, s_27_26, s_27_27, s_27_28, s_27_31, s_27_34, s_27_35, s_27_36, s_27_37, s_27_38, s_27_39, s_27_41, s_27_43, s_27_44, s_27_45, s_27_48, s_27_50, s_27_51, s_27_54, s_27_55, s_27_58, s_27_61, s_27_64, s_27_67, s_27_70, s_27_71, s_27_72, s_27_75, s_27_78, s_27_79, s_27_80, s_27_81, s_27_84, s_27_85, s_27_88, amLong_I, amLong_R, amLong_N, amLong_L, cond_true, cond_false, Option.toList_some, Option.toList_none, List.cons_append, List.nil_append, List.append_nil, setE, setN, cpy_set, lit, nle, nlt, neq, inb_iff, cl_nI, tle, fle, tlt, flt, teq, feq, m9, m3, x9, x3, nI_add, nsub, upN, upE, b0', b01', r100, w100, r101, w101, r102, w102, r103, w103, r104, w104, r105, w105, r106, w106, r107, w107, r108, w108, w109, w110, r111, w111, r112, w112, r113, w113, r114, w114, r115, w115, r116, w116, r117, w117, r118, w118, r119, w119, w120, w121, r122, w122, r130, w130, w131, w132, r133, w133, r134, w134, r135, w135, r136, w136, r137, w137, r138, w138, r139, w139, r140, w140, r141, w141, w142, r143, w143, r144, w144, r145, w145, r146, w146, w147, w150, b1', em1, Bool.false_eq_true, not_true_eq_false, not_false_eq_true, false_implies, true_implies, and_true, true_and, if_true, if_false, implies_true, Classical.not_not, true_or, or_true, false_or, or_false, and_self, ite_true, ite_false, reduceIte, j3.1.2.1]
      exact next M2 J _ () ⟨rfl, j1, j2, j3⟩
    · obtain ⟨rfl, j1, j2, j3⟩ := hI
      have hmm := hm p (by omega)
      have hT2 : TX M2 tx := ⟨by rw [j1 _ _ _ (by omega), hT.1], hT.2.1, fun k hk => by rw [j1 _ _ _ (by omega), hT.2.2 k hk]⟩
      have hy : p * plr sh + q < prf sh * plr sh := by
        have := Nat.mul_le_mul_right (plr sh) (show p + 1 ≤ prf sh by omega)
        rw [Nat.succ_mul] at this
        omega
      rw [h_27_17]
      by_cases c : ltr tx (fr + (p * plr sh + q))
      · have hgo : ¬ gmX tx fr (p * plr sh + q) = true := fun z => bo_iff.mp z c
        have hc : chr tx (fr + (p * plr sh + q)) = nI (tx.2 (fr + (p * plr sh + q))) := if_pos c.1
        have c' := bo_iff.mpr c
        simp (disch := omega) only [s_27_0, s_27_1, s_27_2, s_27_3, s_27_7, s_27_8, s_27_11, s_27_14, s_27_15, s_27_19, s_27_20, s_27_23, s_27_26, s_27_27, s_27_28, s_27_31, s_27_34, s_27_35, s_27_36, s_27_37, s_27_38, s_27_39, s_27_41, s_27_43, s_27_44, s_27_45, s_27_48, s_27_50, s_27_51, s_27_54, s_27_55, s_27_58, s_27_61, s_27_64, s_27_67, s_27_70, s_27_71, s_27_72, s_27_75, s_27_78, s_27_79, s_27_80, s_27_81, s_27_84, s_27_85, s_27_88, amLong_I, amLong_R, amLong_N, amLong_L, cond_true, cond_false, Option.toList_some, Option.toList_none, List.cons_append, List.nil_append, List.append_nil, setE, setN, cpy_set, lit, nle, nlt, neq, inb_iff, cl_nI, tle, fle, tlt, flt, teq, feq, m9, m3, x9, x3, nI_add, nsub, upN, upE, b0', b01', r100, w100, r101, w101, r102, w102, r103, w103, r104, w104, r105, w105, r106, w106, r107, w107, r108, w108, w109, w110, r111, w111, r112, w112, r113, w113, r114, w114, r115, w115, r116, w116, r117, w117, r118, w118, r119, w119, w120, w121, r122, w122, r130, w130, w131, w132, r133, w133, r134, w134, r135, w135, r136, w136, r137, w137, r138, w138, r139, w139, r140, w140, r141, w141, w142, r143, w143, r144, w144, r145, w145, r146, w146, w147, w150, b1', em1, Bool.false_eq_true, not_true_eq_false, not_false_eq_true, false_implies, true_implies, and_true, true_and, if_true, if_false, implies_true, Classical.not_not, true_or, or_true, false_or, or_false, and_self, ite_true, ite_false, reduceIte, j3.1.2.1, c28 hT2 hb, c', c25 hT2, hc]
        refine v29 h1 j3 hq hp (fun M3 y f3 h3 => ?_)
        rw [← pyG_s hpl (by omega) hq] at h3
        simp (disch := omega) only [s_27_0, s_27_1, s_27_2, s_27_3, s_27_7, s_27_8, s_27_11, s_27_14, s_27_15, s_27_19, s_27_20, s_27_23, s_27_26, s_27_27, s_27_28, s_27_31, s_27_34, s_27_35, s_27_36, s_27_37, s_27_38, s_27_39, s_27_41, s_27_43, s_27_44, s_27_45, s_27_48, s_27_50, s_27_51, s_27_54, s_27_55, s_27_58, s_27_61, s_27_64, s_27_67, s_27_70, s_27_71, s_27_72, s_27_75, s_27_78, s_27_79, s_27_80, s_27_81, s_27_84, s_27_85, s_27_88, amLong_I, amLong_R, amLong_N, amLong_L, cond_true, cond_false, Option.toList_some, Option.toList_none, List.cons_append, List.nil_append, List.append_nil, setE, setN, cpy_set, lit, nle, nlt, neq, inb_iff, cl_nI, tle, fle, tlt, flt, teq, feq, m9, m3, x9, x3, nI_add, nsub, upN, upE, b0', b01', r100, w100, r101, w101, r102, w102, r103, w103, r104, w104, r105, w105, r106, w106, r107, w107, r108, w108, w109, w110, r111, w111, r112, w112, r113, w113, r114, w114, r115, w115, r116, w116, r117, w117, r118, w118, r119, w119, w120, w121, r122, w122, r130, w130, w131, w132, r133, w133, r134, w134, r135, w135, r136, w136, r137, w137, r138, w138, r139, w139, r140, w140, r141, w141, w142, r143, w143, r144, w144, r145, w145, r146, w146, w147, w150, b1', em1, Bool.false_eq_true, not_true_eq_false, not_false_eq_true, false_implies, true_implies, and_true, true_and, if_true, if_false, implies_true, Classical.not_not, true_or, or_true, false_or, or_false, and_self, ite_true, ite_false, reduceIte]
        refine next2 M3 J () () ⟨rfl, fun c j y hc => by rw [f3 c j y hc, j1 c j y hc], ext_lt j2 hgo, h3⟩
      · have c' : ¬ bo (ltr tx (fr + (p * plr sh + q))) = true := fun z => c (bo_iff.mp z)
        have hA : gmA tx fr sh = -nI 1 - nI (fr + (p * plr sh + q)) := by
          unfold gmA
          rw [fst1_s (bo_iff.mpr c) j2 hy]
        rw [hA] at H
        simp (disch := omega) only [s_27_0, s_27_1, s_27_2, s_27_3, s_27_7, s_27_8, s_27_11, s_27_14, s_27_15, s_27_19, s_27_20, s_27_23, s_27_26, s_27_27, s_27_28, s_27_31, s_27_34, s_27_35, s_27_36, s_27_37, s_27_38, s_27_39, s_27_41, s_27_43, s_27_44, s_27_45, s_27_48, s_27_50, s_27_51, s_27_54, s_27_55, s_27_58, s_27_61, s_27_64, s_27_67, s_27_70, s_27_71, s_27_72, s_27_75, s_27_78, s_27_79, s_27_80, s_27_81, s_27_84, s_27_85, s_27_88, amLong_I, amLong_R, amLong_N, amLong_L, cond_true, cond_false, Option.toList_some, Option.toList_none, List.cons_append, List.nil_append, List.append_nil, setE, setN, cpy_set, lit, nle, nlt, neq, inb_iff, cl_nI, tle, fle, tlt, flt, teq, feq, m9, m3, x9, x3, nI_add, nsub, upN, upE, b0', b01', r100, w100, r101, w101, r102, w102, r103, w103, r104, w104, r105, w105, r106, w106, r107, w107, r108, w108, w109, w110, r111, w111, r112, w112, r113, w113, r114, w114, r115, w115, r116, w116, r117, w117, r118, w118, r119, w119, w120, w121, r122, w122, r130, w130, w131, w132, r133, w133, r134, w134, r135, w135, r136, w136, r137, w137, r138, w138, r139, w139, r140, w140, r141, w141, w142, r143, w143, r144, w144, r145, w145, r146, w146, w147, w150, b1', em1, Bool.false_eq_true, not_true_eq_false, not_false_eq_true, false_implies, true_implies, and_true, true_and, if_true, if_false, implies_true, Classical.not_not, true_or, or_true, false_or, or_false, and_self, ite_true, ite_false, reduceIte, j3.1.2.1, c28 hT2 hb, c']
        exact H M2 j1 (fun z => absurd (m1_neg (by omega)) z)
  · rw [Nat.zero_mul]
    have e : pyG tx fr (plr sh) 0 = fun _ => nI 0 := funext fun k => if_neg (fun z => by have := z.2; omega)
    rw [e]
    exact hV
end PAY
