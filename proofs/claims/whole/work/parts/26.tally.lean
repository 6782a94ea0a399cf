/-! Tally -/
/-- what one token on p brings to the gain at place k -/
def dl (sh : Nat) (pay : Nat → Int32) (p k : Nat) : Int32 := if k / 9 < plr sh ∧ k % 9 / 3 = act sh (k / 9) p ∧ k % 3 < hsN sh (k / 9) then pay (9 * (k / 9) + ins sh (k / 9) p (k % 3)) - pay (9 * (k / 9) + p) else 0
/-- all gains -/
def gns (sh : Nat) (pay tok : Nat → Int32) (k : Nat) : Int32 := sumN (fun p => tok p * dl sh pay p k) 0 (prf sh)
/-- the last profile that has a share -/
def lst (sh i a : Nat) : Nat := foldN (fun p s => if act sh i p = a then p else s) 0 (prf sh) 0
theorem lst_okB : ((List.range 5).all (fun sh => (List.range (plr sh)).all (fun i => (List.range (hsN sh i)).all (fun a => decide (lst sh i a < prf sh ∧ act sh i (lst sh i a) = a) && (List.range (prf sh)).all (fun p => decide (act sh i p = a → p ≤ lst sh i a)))))) = true := by decide +kernel
theorem lst_ok {sh i a : Nat} (h : sh < 5) (hi : i < plr sh) (ha : a < hsN sh i) : (lst sh i a < prf sh ∧ act sh i (lst sh i a) = a) ∧ ∀ p, p < prf sh → act sh i p = a → p ≤ lst sh i a := by
  have h1 := List.all_eq_true.mp (List.all_eq_true.mp (List.all_eq_true.mp lst_okB sh (List.mem_range.mpr h)) i (List.mem_range.mpr hi)) a (List.mem_range.mpr ha)
  rw [Bool.and_eq_true] at h1
  exact ⟨of_decide_eq_true h1.1, fun p hp => of_decide_eq_true (List.all_eq_true.mp h1.2 p (List.mem_range.mpr hp))⟩
/-- a Tally has read a game -/
def TR (M : amM) (t sh : Nat) (pay : Nat → Int32) : Prop := sh < 5 ∧ M 1456 t 0 = nI (plr sh) ∧ M 1457 t 0 = nI (prf sh) ∧ (∀ i, i < 3 → M 118 t i = nI (hsN sh i)) ∧ (∀ p i, p < prf sh → i < plr sh → M 116 t (3 * p + i) = nI (9 * i + 3 * act sh i p)) ∧ (∀ p i b, p < prf sh → i < plr sh → b < hsN sh i → M 115 t (9 * p + 3 * i + b) = pay (9 * i + ins sh i p b) - pay (9 * i + p)) ∧ (∀ i a b, i < plr sh → a < hsN sh i → b < hsN sh i → M 117 t (9 * i + 3 * a + b) = nI (lst sh i a))
/-- a Tally has those tokens -/
def TL (M : amM) (t sh : Nat) (pay tok : Nat → Int32) : Prop := TR M t sh pay ∧ (∀ p, p < 9 → M 113 t p = tok p) ∧ (∀ k, k < 27 → M 114 t k = gns sh pay tok k)
theorem GS.of {M M' : amM} {g g' sh : Nat} (h : GS M g sh) (hf : ∀ c k, (c = 100 ∨ c = 101 ∨ c = 102 ∨ c = 1105 ∨ c = 1106) → M' c g' k = M c g k) : GS M' g' sh := by
  obtain ⟨h1, h2, h3, h4, h5⟩ := h
  refine ⟨h1, ?_, ?_, fun i hi => ⟨?_, ?_⟩, fun i p hi hp => ?_⟩
  · rw [hf _ _ (by omega), h2]
  · rw [hf _ _ (by omega), h3]
  · rw [hf _ _ (by omega), (h4 i hi).1]
  · rw [hf _ _ (by omega), (h4 i hi).2]
  · rw [hf _ _ (by omega), h5 i p hi hp]
section TALLY
variable {d g t jk X sh : Nat} {M : amM} {J : amJ} {Q : Option amV → amS → Prop} {pay : Nat → Int32}
theorem c49 (ht : t < 4) : Call (d + 2) 49 [vR 9 t] (M, J, (jk, 149, 147, X)) Q ↔ Q none (setA (setA M 113 t 9 (fun _ => nI 0)) 114 t 27 (fun _ => nI 0), J, (jk, 149, 147, X)) := by
  rw [e_49]
  simp (disch := omega) only [s_49_0, s_49_1, s_49_4, s_49_5, s_49_8, s_49_9, s_49_12, s_49_13, s_49_16, amLong_I, amLong_R, amLong_N, amLong_L, cond_true, cond_false, Option.toList_some, Option.toList_none, List.cons_append, List.nil_append, List.append_nil, setE, setN, cpy_set, lit, nle, nlt, neq, inb_iff, cl_nI, tle, fle, tlt, flt, teq, feq, m9, m3, x9, x3, nI_add, nsub, upN, upE, b0', b01', r100, w100, r101, w101, r102, w102, r103, w103, r104, w104, r105, w105, r106, w106, r107, w107, r108, w108, w109, w110, r111, w111, r112, w112, r113, w113, r114, w114, r115, w115, r116, w116, r117, w117, r118, w118, r119, w119, w120, w121, r122, w122, r130, w130, w131, w132, r133, w133, r134, w134, r135, w135, r136, w136, r137, w137, r138, w138, r139, w139, r140, w140, r141, w141, w142, r143, w143, r144, w144, r145, w145, r146, w146, w147, w150, Bool.false_eq_true, not_true_eq_false, not_false_eq_true, false_implies, true_implies, and_true, true_and, if_true, if_false, implies_true, Classical.not_not, true_or, or_true, false_or, or_false, and_self, ite_true, ite_false, reduceIte, c3' (a113 ht), c3' (a114 ht)]
theorem c55 {i a b : Nat} (ht : t < 4) (hi : i < 3) (ha : a < 3) (hb : b < 3) : Call (d + 1) 55 [vR 9 t, vI (nI i), vI (nI a), vI (nI b)] (M, J, (jk, 149, 147, X)) Q ↔ Q (some (vI (M 114 t (9 * i + 3 * a + b)))) (M, J, (jk, 149, 147, X)) := by
  rw [e_55]
  simp (disch := omega) only [s_55_0, s_55_1, s_55_4, s_55_5, s_55_7, s_55_8, s_55_9, s_55_10, s_55_11, s_55_12, s_55_13, s_55_14, s_55_15, amLong_I, amLong_R, amLong_N, amLong_L, cond_true, cond_false, Option.toList_some, Option.toList_none, List.cons_append, List.nil_append, List.append_nil, setE, setN, cpy_set, lit, nle, nlt, neq, inb_iff, cl_nI, tle, fle, tlt, flt, teq, feq, m9, m3, x9, x3, nI_add, nsub, upN, upE, b0', b01', r100, w100, r101, w101, r102, w102, r103, w103, r104, w104, r105, w105, r106, w106, r107, w107, r108, w108, w109, w110, r111, w111, r112, w112, r113, w113, r114, w114, r115, w115, r116, w116, r117, w117, r118, w118, r119, w119, w120, w121, r122, w122, r130, w130, w131, w132, r133, w133, r134, w134, r135, w135, r136, w136, r137, w137, r138, w138, r139, w139, r140, w140, r141, w141, w142, r143, w143, r144, w144, r145, w145, r146, w146, w147, w150, Bool.false_eq_true, not_true_eq_false, not_false_eq_true, false_implies, true_implies, and_true, true_and, if_true, if_false, implies_true, Classical.not_not, true_or, or_true, false_or, or_false, and_self, ite_true, ite_false, reduceIte]
/-- what put leaves -/
def putM (M : amM) (t sh : Nat) (pay : Nat → Int32) (p : Nat) (n : Int32) : amM := fun c j k => if c = 113 ∧ j = t ∧ k = p then M 113 t p + n else if c = 114 ∧ j = t ∧ k < 27 then M 114 t k + n * dl sh pay p k else M c j k
def putI (M : amM) (t sh : Nat) (pay : Nat → Int32) (p : Nat) (n : Int32) (i b : Nat) : amM := fun c j k => if c = 113 ∧ j = t ∧ k = p then M 113 t p + n else if c = 114 ∧ j = t ∧ k < 27 ∧ (k / 9 < i ∨ (k / 9 = i ∧ k % 3 < b)) then M 114 t k + n * dl sh pay p k else M c j k
theorem putI_0 {p : Nat} {n : Int32} : putI M t sh pay p n 0 0 = upM M 113 t p (M 113 t p + n) := by
  refine (up_ext ?_ (fun c j k h => ?_)).symm
  · unfold putI
    rw [if_pos ⟨rfl, rfl, rfl⟩]
  · unfold putI
    rw [if_neg (by omega), if_neg (by omega)]
theorem putI_s {p i b : Nat} {n : Int32} (hp : p < prf sh) (hi : i < plr sh) (hi3 : i < 3) (ha : act sh i p < hsN sh i) (h3 : hsN sh i ≤ 3) (hb : b < hsN sh i) : upM (putI M t sh pay p n i b) 114 t (9 * i + 3 * act sh i p + b) (M 114 t (9 * i + 3 * act sh i p + b) + n * (pay (9 * i + ins sh i p b) - pay (9 * i + p))) = putI M t sh pay p n i (b + 1) := by
  refine up_ext ?_ (fun c j k h => ?_)
  · have e1 : (9 * i + 3 * act sh i p + b) / 9 = i := by omega
    have e2 : (9 * i + 3 * act sh i p + b) % 9 / 3 = act sh i p := by omega
    have e3 : (9 * i + 3 * act sh i p + b) % 3 = b := by omega
    unfold putI dl
    rw [if_neg (by omega), if_pos ⟨rfl, rfl, by omega, by omega⟩, e1, e2, e3, if_pos ⟨hi, rfl, hb⟩]
  · unfold putI
    by_cases h1 : c = 113 ∧ j = t ∧ k = p
    · rw [if_pos h1, if_pos h1]
    · rw [if_neg h1, if_neg h1]
      by_cases h2 : c = 114 ∧ j = t ∧ k < 27 ∧ (k / 9 < i ∨ (k / 9 = i ∧ k % 3 < b))
      · rw [if_pos h2, if_pos (by omega)]
      · by_cases h4 : c = 114 ∧ j = t ∧ k < 27 ∧ (k / 9 = i ∧ k % 3 = b)
        · rw [if_pos (by omega), if_neg h2]
          obtain ⟨rfl, rfl, h5, h6, h7⟩ := h4
          unfold dl
          rw [if_neg (fun z => by rw [h6] at z; omega), show n * (0 : Int32) = 0 from Int32.mul_zero, Int32.add_zero]
        · rw [if_neg (by omega), if_neg h2]
theorem putI_e {p i : Nat} {n : Int32} : putI M t sh pay p n i (hsN sh i) = putI M t sh pay p n (i + 1) 0 := by
  funext c j k
  unfold putI
  by_cases h1 : c = 113 ∧ j = t ∧ k = p
  · rw [if_pos h1, if_pos h1]
  · rw [if_neg h1, if_neg h1]
    by_cases h2 : c = 114 ∧ j = t ∧ k < 27 ∧ (k / 9 < i ∨ (k / 9 = i ∧ k % 3 < hsN sh i))
    · rw [if_pos h2, if_pos (by omega)]
    · by_cases h4 : c = 114 ∧ j = t ∧ k < 27 ∧ k / 9 = i
      · rw [if_neg h2, if_pos (by omega)]
        obtain ⟨rfl, rfl, h5, h6⟩ := h4
        unfold dl
        rw [if_neg (fun z => by rw [h6] at z; omega), show n * (0 : Int32) = 0 from Int32.mul_zero, Int32.add_zero]
      · rw [if_neg h2, if_neg (by omega)]
theorem putI_P {p : Nat} {n : Int32} : putI M t sh pay p n (plr sh) 0 = putM M t sh pay p n := by
  funext c j k
  unfold putI putM
  by_cases h1 : c = 113 ∧ j = t ∧ k = p
  · rw [if_pos h1, if_pos h1]
  · rw [if_neg h1, if_neg h1]
    by_cases h2 : c = 114 ∧ j = t ∧ k < 27
    · by_cases h3 : k / 9 < plr sh
      · rw [if_pos (by omega), if_pos h2]
      · rw [if_neg (by omega), if_pos h2]
        obtain ⟨rfl, rfl, h5⟩ := h2
        unfold dl
        rw [if_neg (fun z => by omega), show n * (0 : Int32) = 0 from Int32.mul_zero, Int32.add_zero]
    · rw [if_neg (by omega), if_neg h2]
theorem putM_0 {p : Nat} : putM M t sh pay p (nI 0) = M := by
  funext c j k
  unfold putM
  by_cases h1 : c = 113 ∧ j = t ∧ k = p
  · rw [if_pos h1]
    obtain ⟨rfl, rfl, rfl⟩ := h1
    exact Int32.add_zero _
  · rw [if_neg h1]
    by_cases h2 : c = 114 ∧ j = t ∧ k < 27
    · rw [if_pos h2]
      obtain ⟨rfl, rfl, h5⟩ := h2
      rw [show nI 0 * dl sh pay p k = 0 from Int32.zero_mul, Int32.add_zero]
    · rw [if_neg h2]
theorem c54 {p : Nat} {n : Int32} (ht : t < 4) (hT : TR M t sh pay) (hp : p < prf sh) : Call (d + 1) 54 [vR 9 t, vI (nI p), vI n] (M, J, (jk, 149, 147, X)) Q ↔ Q none (putM M t sh pay p n, J, (jk, 149, 147, X)) := by
  obtain ⟨t1, t2, t3, t4, t5, t6, t7⟩ := hT
  obtain ⟨⟨l1, l2, l3, l4⟩, l5⟩ := sh_ok sh t1
  rw [e_54]
  by_cases hn : n = nI 0
  · subst hn
    rw [putM_0]
    simp (disch := omega) only [s_54_0, s_54_1, s_54_4, s_54_5, s_54_6, s_54_9, s_54_10, s_54_11, s_54_12, s_54_13, s_54_14, s_54_15, s_54_16, s_54_18, s_54_19, s_54_22, s_54_25, s_54_26, s_54_29, s_54_30, s_54_31, s_54_32, s_54_33, s_54_34, s_54_35, s_54_37, s_54_38, s_54_40, s_54_41, s_54_42, s_54_43, s_54_44, s_54_45, s_54_47, s_54_48, s_54_52, s_54_53, s_54_56, s_54_57, s_54_58, s_54_61, s_54_62, s_54_65, s_54_67, s_54_69, s_54_70, s_54_71, s_54_72, s_54_73, s_54_74, s_54_77, s_54_79, s_54_81, s_54_82, s_54_83, s_54_84, s_54_85, s_54_86, s_54_89, s_54_92, s_54_95, s_54_98, amLong_I, amLong_R, amLong_N, amLong_L, cond_true, cond_false, Option.toList_some, Option.toList_none, List.cons_append, List.nil_append, List.append_nil, setE, setN, cpy_set, lit, nle, nlt, neq, inb_iff, cl_nI, tle, fle, tlt, flt, teq, feq, m9, m3, x9, x3, nI_add, nsub, upN, upE, b0', b01', r100, w100, r101, w101, r102, w102, r103, w103, r104, w104, r105, w105, r106, w106, r107, w107, r108, w108, w109, w110, r111, w111, r112, w112, r113, w113, r114, w114, r115, w115, r116, w116, r117, w117, r118, w118, r119, w119, w120, w121, r122, w122, r130, w130, w131, w132, r133, w133, r134, w134, r135, w135, r136, w136, r137, w137, r138, w138, r139, w139, r140, w140, r141, w141, w142, r143, w143, r144, w144, r145, w145, r146, w146, w147, w150, Bool.false_eq_true, not_true_eq_false, not_false_eq_true, false_implies, true_implies, and_true, true_and, if_true, if_false, implies_true, Classical.not_not, true_or, or_true, false_or, or_false, and_self, ite_true, ite_false, reduceIte]
  simp (disch := omega) only [s_54_0, s_54_1, s_54_4, s_54_5, s_54_6, s_54_9, s_54_10, s_54_11, s_54_12, s_54_13, s_54_14, s_54_15, s_54_16, s_54_18, s_54_19, s_54_22, s_54_25, s_54_26, s_54_29, s_54_30, s_54_31, s_54_32, s_54_33, s_54_34, s_54_35, s_54_37, s_54_38, s_54_40, s_54_41, s_54_42, s_54_43, s_54_44, s_54_45, s_54_47, s_54_48, s_54_52, s_54_53, s_54_56, s_54_57, s_54_58, s_54_61, s_54_62, s_54_65, s_54_67, s_54_69, s_54_70, s_54_71, s_54_72, s_54_73, s_54_74, s_54_77, s_54_79, s_54_81, s_54_82, s_54_83, s_54_84, s_54_85, s_54_86, s_54_89, s_54_92, s_54_95, s_54_98, amLong_I, amLong_R, amLong_N, amLong_L, cond_true, cond_false, Option.toList_some, Option.toList_none, List.cons_append, List.nil_append, List.append_nil, setE, setN, cpy_set, lit, nle, nlt, neq, inb_iff, cl_nI, tle, fle, tlt, flt, teq, feq, m9, m3, x9, x3, nI_add, nsub, upN, upE, b0', b01', r100, w100, r101, w101, r102, w102, r103, w103, r104, w104, r105, w105, r106, w106, r107, w107, r108, w108, w109, w110, r111, w111, r112, w112, r113, w113, r114, w114, r115, w115, r116, w116, r117, w117, r118, w118, r119, w119, w120, w121, r122, w122, r130, w130, w131, w132, r133, w133, r134, w134, r135, w135, r136, w136, r137, w137, r138, w138, r139, w139, r140, w140, r141, w141, w142, r143, w143, r144, w144, r145, w145, r146, w146, w147, w150, Bool.false_eq_true, not_true_eq_false, not_false_eq_true, false_implies, true_implies, and_true, true_and, if_true, if_false, implies_true, Classical.not_not, true_or, or_true, false_or, or_false, and_self, ite_true, ite_false, reduceIte, hn, ← putI_0 (pay := pay) (sh := sh)]
  have out := lpF (α := Option amV × Option amV × Option amV) (P := plr sh) (E := fun i a => Ev d 54 17 [some (vR 9 t), some (vI (nI p)), some (vI n), some (vI (nI i)), a.1, a.2.1, a.2.2] [] (putI M t sh pay p n i 0, J, (jk, 149, 147, X)) Q) (F := fun _ => Q none (putM M t sh pay p n, J, (jk, 149, 147, X))) (f := fun i _ => (some (vI (nI (9 * i + 3 * act sh i p))), some (vI (nI (9 * p + 3 * i))), some (vI (nI (hsN sh i))))) (fun a => ?_) (fun i a hi => ?_) (plr sh) 0 (none, none, none) (by omega)
  · exact out
  · have f1 : ∀ i b, putI M t sh pay p n i b 1456 t 0 = nI (plr sh) := fun i b => by unfold putI; rw [if_neg (by omega), if_neg (by omega), t2]
    rw [← putI_P, h_54_17]
    simp (disch := omega) only [s_54_0, s_54_1, s_54_4, s_54_5, s_54_6, s_54_9, s_54_10, s_54_11, s_54_12, s_54_13, s_54_14, s_54_15, s_54_16, s_54_18, s_54_19, s_54_22, s_54_25, s_54_26, s_54_29, s_54_30, s_54_31, s_54_32, s_54_33, s_54_34, s_54_35, s_54_37, s_54_38, s_54_40, s_54_41, s_54_42, s_54_43, s_54_44, s_54_45, s_54_47, s_54_48, s_54_52, s_54_53, s_54_56, s_54_57, s_54_58, s_54_61, s_54_62, s_54_65, s_54_67, s_54_69, s_54_70, s_54_71, s_54_72, s_54_73, s_54_74, s_54_77, s_54_79, s_54_81, s_54_82, s_54_83, s_54_84, s_54_85, s_54_86, s_54_89, s_54_92, s_54_95, s_54_98, amLong_I, amLong_R, amLong_N, amLong_L, cond_true, cond_false, Option.toList_some, Option.toList_none, List.cons_append, List.nil_append, List.append_nil, setE, setN, cpy_set, lit, nle, nlt, neq, inb_iff, cl_nI, tle, fle, tlt, flt, teq, feq, m9, m3, x9, x3, nI_add, nsub, upN, upE, b0', b01', r100, w100, r101, w101, r102, w102, r103, w103, r104, w104, r105, w105, r106, w106, r107, w107, r108, w108, w109, w110, r111, w111, r112, w112, r113, w113, r114, w114, r115, w115, r116, w116, r117, w117, r118, w118, r119, w119, w120, w121, r122, w122, r130, w130, w131, w132, r133, w133, r134, w134, r135, w135, r136, w136, r137, w137, r138, w138, r139, w139, r140, w140, r141, w141, w142, r143, w143, r144, w144, r145, w145, r146, w146, w147, w150, Bool.false_eq_true, not_true_eq_false, not_false_eq_true, false_implies, true_implies, and_true, true_and, if_true, if_false, implies_true, Classical.not_not, true_or, or_true, false_or, or_false, and_self, ite_true, ite_false, reduceIte, f1]
  · obtain ⟨⟨q1, q2, q3, q4⟩, q5⟩ := l5 i hi
    obtain ⟨q6, q7, q8⟩ := q5 p hp
    have f1 : ∀ i b, putI M t sh pay p n i b 1456 t 0 = nI (plr sh) := fun i b => by unfold putI; rw [if_neg (by omega), if_neg (by omega), t2]
    have f2 : ∀ i' b, putI M t sh pay p n i' b 116 t (3 * p + i) = nI (9 * i + 3 * act sh i p) := fun i' b => by unfold putI; rw [if_neg (by omega), if_neg (by omega), t5 p i hp hi]
    have f3 : ∀ i' b, putI M t sh pay p n i' b 118 t i = nI (hsN sh i) := fun i' b => by unfold putI; rw [if_neg (by omega), if_neg (by omega), t4 i (by omega)]
    rw [h_54_17]
    simp (disch := omega) only [s_54_0, s_54_1, s_54_4, s_54_5, s_54_6, s_54_9, s_54_10, s_54_11, s_54_12, s_54_13, s_54_14, s_54_15, s_54_16, s_54_18, s_54_19, s_54_22, s_54_25, s_54_26, s_54_29, s_54_30, s_54_31, s_54_32, s_54_33, s_54_34, s_54_35, s_54_37, s_54_38, s_54_40, s_54_41, s_54_42, s_54_43, s_54_44, s_54_45, s_54_47, s_54_48, s_54_52, s_54_53, s_54_56, s_54_57, s_54_58, s_54_61, s_54_62, s_54_65, s_54_67, s_54_69, s_54_70, s_54_71, s_54_72, s_54_73, s_54_74, s_54_77, s_54_79, s_54_81, s_54_82, s_54_83, s_54_84, s_54_85, s_54_86, s_54_89, s_54_92, s_54_95, s_54_98, amLong_I, amLong_R, amLong_N, amLong_L, cond_true, cond_false, Option.toList_some, Option.toList_none, List.cons_append, List.nil_append, List.append_nil, setE, setN, cpy_set, lit, nle, nlt, neq, inb_iff, cl_nI, tle, fle, tlt, flt, teq, feq, m9, m3, x9, x3, nI_add, nsub, upN, upE, b0', b01', r100, w100, r101, w101, r102, w102, r103, w103, r104, w104, r105, w105, r106, w106, r107, w107, r108, w108, w109, w110, r111, w111, r112, w112, r113, w113, r114, w114, r115, w115, r116, w116, r117, w117, r118, w118, r119, w119, w120, w121, r122, w122, r130, w130, w131, w132, r133, w133, r134, w134, r135, w135, r136, w136, r137, w137, r138, w138, r139, w139, r140, w140, r141, w141, w142, r143, w143, r144, w144, r145, w145, r146, w146, w147, w150, Bool.false_eq_true, not_true_eq_false, not_false_eq_true, false_implies, true_implies, and_true, true_and, if_true, if_false, implies_true, Classical.not_not, true_or, or_true, false_or, or_false, and_self, ite_true, ite_false, reduceIte, f1, f2]
    have inn := lpD (P := hsN sh i) (E := fun b => Ev d 54 50 [some (vR 9 t), some (vI (nI p)), some (vI n), some (vI (nI i)), some (vI (nI (9 * i + 3 * act sh i p))), some (vI (nI (9 * p + 3 * i))), some (vI (nI b))] [] (putI M t sh pay p n i b, J, (jk, 149, 147, X)) Q) (fun b hb => ?_) (hsN sh i) 0 (by omega)
    · rw [inn, h_54_50]
      simp (disch := omega) only [s_54_0, s_54_1, s_54_4, s_54_5, s_54_6, s_54_9, s_54_10, s_54_11, s_54_12, s_54_13, s_54_14, s_54_15, s_54_16, s_54_18, s_54_19, s_54_22, s_54_25, s_54_26, s_54_29, s_54_30, s_54_31, s_54_32, s_54_33, s_54_34, s_54_35, s_54_37, s_54_38, s_54_40, s_54_41, s_54_42, s_54_43, s_54_44, s_54_45, s_54_47, s_54_48, s_54_52, s_54_53, s_54_56, s_54_57, s_54_58, s_54_61, s_54_62, s_54_65, s_54_67, s_54_69, s_54_70, s_54_71, s_54_72, s_54_73, s_54_74, s_54_77, s_54_79, s_54_81, s_54_82, s_54_83, s_54_84, s_54_85, s_54_86, s_54_89, s_54_92, s_54_95, s_54_98, amLong_I, amLong_R, amLong_N, amLong_L, cond_true, cond_false, Option.toList_some, Option.toList_none, List.cons_append, List.nil_append, List.append_nil, setE, setN, cpy_set, lit, nle, nlt, neq, inb_iff, cl_nI, tle, fle, tlt, flt, teq, feq, m9, m3, x9, x3, nI_add, nsub, upN, upE, b0', b01', r100, w100, r101, w101, r102, w102, r103, w103, r104, w104, r105, w105, r106, w106, r107, w107, r108, w108, w109, w110, r111, w111, r112, w112, r113, w113, r114, w114, r115, w115, r116, w116, r117, w117, r118, w118, r119, w119, w120, w121, r122, w122, r130, w130, w131, w132, r133, w133, r134, w134, r135, w135, r136, w136, r137, w137, r138, w138, r139, w139, r140, w140, r141, w141, w142, r143, w143, r144, w144, r145, w145, r146, w146, w147, w150, Bool.false_eq_true, not_true_eq_false, not_false_eq_true, false_implies, true_implies, and_true, true_and, if_true, if_false, implies_true, Classical.not_not, true_or, or_true, false_or, or_false, and_self, ite_true, ite_false, reduceIte, f3, putI_e]
    · have f4 : putI M t sh pay p n i b 115 t (9 * p + 3 * i + b) = pay (9 * i + ins sh i p b) - pay (9 * i + p) := by unfold putI; rw [if_neg (by omega), if_neg (by omega), t6 p i b hp hi hb]
      have f5 : putI M t sh pay p n i b 114 t (9 * i + 3 * act sh i p + b) = M 114 t (9 * i + 3 * act sh i p + b) := by
        unfold putI
        rw [if_neg (by omega), if_neg (by omega)]
      rw [h_54_50]
      simp (disch := omega) only [s_54_0, s_54_1, s_54_4, s_54_5, s_54_6, s_54_9, s_54_10, s_54_11, s_54_12, s_54_13, s_54_14, s_54_15, s_54_16, s_54_18, s_54_19, s_54_22, s_54_25, s_54_26, s_54_29, s_54_30, s_54_31, s_54_32, s_54_33, s_54_34, s_54_35, s_54_37, s_54_38, s_54_40, s_54_41, s_54_42, s_54_43, s_54_44, s_54_45, s_54_47, s_54_48, s_54_52, s_54_53, s_54_56, s_54_57, s_54_58, s_54_61, s_54_62, s_54_65, s_54_67, s_54_69, s_54_70, s_54_71, s_54_72, s_54_73, s_54_74, s_54_77, s_54_79, s_54_81, s_54_82, s_54_83, s_54_84, s_54_85, s_54_86, s_54_89, s_54_92, s_54_95, s_54_98, amLong_I, amLong_R, amLong_N, amLong_L, cond_true, cond_false, Option.toList_some, Option.toList_none, List.cons_append, List.nil_append, List.append_nil, setE, setN, cpy_set, lit, nle, nlt, neq, inb_iff, cl_nI, tle, fle, tlt, flt, teq, feq, m9, m3, x9, x3, nI_add, nsub, upN, upE, b0', b01', r100, w100, r101, w101, r102, w102, r103, w103, r104, w104, r105, w105, r106, w106, r107, w107, r108, w108, w109, w110, r111, w111, r112, w112, r113, w113, r114, w114, r115, w115, r116, w116, r117, w117, r118, w118, r119, w119, w120, w121, r122, w122, r130, w130, w131, w132, r133, w133, r134, w134, r135, w135, r136, w136, r137, w137, r138, w138, r139, w139, r140, w140, r141, w141, w142, r143, w143, r144, w144, r145, w145, r146, w146, w147, w150, Bool.false_eq_true, not_true_eq_false, not_false_eq_true, false_implies, true_implies, and_true, true_and, if_true, if_false, implies_true, Classical.not_not, true_or, or_true, false_or, or_false, and_self, ite_true, ite_false, reduceIte, f3, f4, f5, putI_s hp hi (show i < 3 by omega) q6 q2 hb]
end TALLY
