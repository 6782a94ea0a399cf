/-! Tally: reading, weighing, asking -/
theorem TR.of {M M' : amM} {t sh : Nat} {pay : Nat → Int32} (h : TR M t sh pay) (hf : ∀ c k, ((115 ≤ c ∧ c ≤ 118) ∨ c = 1456 ∨ c = 1457) → M' c t k = M c t k) : TR M' t sh pay := by
  obtain ⟨h1, h2, h3, h4, h5, h6, h7⟩ := h
  refine ⟨h1, ?_, ?_, fun i hi => ?_, fun p i hp hi => ?_, fun p i b hp hi hb => ?_, fun i a b hi ha hb => ?_⟩
  · rw [hf _ _ (by omega), h2]
  · rw [hf _ _ (by omega), h3]
  · rw [hf _ _ (by omega), h4 i hi]
  · rw [hf _ _ (by omega), h5 p i hp hi]
  · rw [hf _ _ (by omega), h6 p i b hp hi hb]
  · rw [hf _ _ (by omega), h7 i a b hi ha hb]
section TALLY2
variable {d g t jk X sh : Nat} {M : amM} {J : amJ} {Q : Option amV → amS → Prop} {pay : Nat → Int32}
/-- what putAll leaves when it has done k profiles -/
def paM (M : amM) (t sh : Nat) (pay tok : Nat → Int32) (k : Nat) : amM := fun c j x => if c = 113 ∧ j = t ∧ x < k then M 113 t x + tok x else if c = 114 ∧ j = t ∧ x < 27 then M 114 t x + sumN (fun p => tok p * dl sh pay p x) 0 k else M c j x
theorem paM_0 {tok : Nat → Int32} : paM M t sh pay tok 0 = M := by
  funext c j x
  unfold paM
  rw [if_neg (by omega)]
  by_cases h : c = 114 ∧ j = t ∧ x < 27
  · rw [if_pos h]
    obtain ⟨rfl, rfl, h5⟩ := h
    exact Int32.add_zero _
  · rw [if_neg h]
theorem paM_s {tok : Nat → Int32} {k : Nat} : putM (paM M t sh pay tok k) t sh pay k (tok k) = paM M t sh pay tok (k + 1) := by
  funext c j x
  by_cases h1 : c = 113 ∧ j = t
  · obtain ⟨rfl, rfl⟩ := h1
    unfold putM paM
    rcases Nat.lt_trichotomy x k with h | h | h
    · rw [if_neg (by omega), if_neg (by omega), if_pos (by omega), if_pos (by omega)]
    · subst h
      rw [if_pos (by omega), if_neg (by omega), if_neg (by omega), if_pos (by omega)]
    · rw [if_neg (by omega), if_neg (by omega), if_neg (by omega), if_neg (by omega), if_neg (by omega), if_neg (by omega)]
  · by_cases h2 : c = 114 ∧ j = t ∧ x < 27
    · obtain ⟨rfl, rfl, h3⟩ := h2
      unfold putM paM
      rw [if_neg (by omega), if_pos (by omega), if_neg (by omega), if_pos (by omega), if_neg (by omega), if_pos (by omega), sumN_last, Int32.add_assoc, Nat.zero_add]
    · unfold putM paM
      rw [if_neg (by omega), if_neg h2, if_neg (by omega), if_neg h2, if_neg (by omega), if_neg h2]
theorem c53 {c i : Nat} (ht : t < 4) (hT : TR M t sh pay) (hk : tokA c i) (hne : c ≠ 113 ∨ i ≠ t) : Call (d + 2) 53 [vR 9 t, vR c i] (M, J, (jk, 149, 147, X)) Q ↔ Q none (paM M t sh pay (M c i) (prf sh), J, (jk, 149, 147, X)) := by
  have hc : c ≠ 114 := by rcases hk with h | h | h | h <;> omega
  have hT' : ∀ k, TR (paM M t sh pay (M c i) k) t sh pay := fun k => hT.of (fun c x h => by unfold paM; rw [if_neg (by omega), if_neg (by omega)])
  obtain ⟨⟨l1, l2, l3, l4⟩, l5⟩ := sh_ok sh hT.1
  rw [e_53]
  simp (disch := omega) only [s_53_0, s_53_1, s_53_3, s_53_4, s_53_7, s_53_10, s_53_11, s_53_12, s_53_13, s_53_14, s_53_15, s_53_18, s_53_21, s_53_24, amLong_I, amLong_R, amLong_N, amLong_L, cond_true, cond_false, Option.toList_some, Option.toList_none, List.cons_append, List.nil_append, List.append_nil, setE, setN, cpy_set, lit, nle, nlt, neq, inb_iff, cl_nI, tle, fle, tlt, flt, teq, feq, m9, m3, x9, x3, nI_add, nsub, upN, upE, b0', b01', r100, w100, r101, w101, r102, w102, r103, w103, r104, w104, r105, w105, r106, w106, r107, w107, r108, w108, w109, w110, r111, w111, r112, w112, r113, w113, r114, w114, r115, w115, r116, w116, r117, w117, r118, w118, r119, w119, w120, w121, r122, w122, r130, w130, w131, w132, r133, w133, r134, w134, r135, w135, r136, w136, r137, w137, r138, w138, r139, w139, r140, w140, r141, w141, w142, r143, w143, r144, w144, r145, w145, r146, w146, w147, w150, Bool.false_eq_true, not_true_eq_false, not_false_eq_true, false_implies, true_implies, and_true, true_and, if_true, if_false, implies_true, Classical.not_not, true_or, or_true, false_or, or_false, and_self, ite_true, ite_false, reduceIte]
  have key := lpD (P := prf sh) (E := fun k => Ev (d + 1) 53 2 [some (vR 9 t), some (vR c i), some (vI (nI k))] [] (paM M t sh pay (M c i) k, J, (jk, 149, 147, X)) Q) (fun k hk2 => ?_) (prf sh) 0 (by omega)
  · rw [paM_0] at key
    rw [key, h_53_2]
    simp (disch := omega) only [s_53_0, s_53_1, s_53_3, s_53_4, s_53_7, s_53_10, s_53_11, s_53_12, s_53_13, s_53_14, s_53_15, s_53_18, s_53_21, s_53_24, amLong_I, amLong_R, amLong_N, amLong_L, cond_true, cond_false, Option.toList_some, Option.toList_none, List.cons_append, List.nil_append, List.append_nil, setE, setN, cpy_set, lit, nle, nlt, neq, inb_iff, cl_nI, tle, fle, tlt, flt, teq, feq, m9, m3, x9, x3, nI_add, nsub, upN, upE, b0', b01', r100, w100, r101, w101, r102, w102, r103, w103, r104, w104, r105, w105, r106, w106, r107, w107, r108, w108, w109, w110, r111, w111, r112, w112, r113, w113, r114, w114, r115, w115, r116, w116, r117, w117, r118, w118, r119, w119, w120, w121, r122, w122, r130, w130, w131, w132, r133, w133, r134, w134, r135, w135, r136, w136, r137, w137, r138, w138, r139, w139, r140, w140, r141, w141, w142, r143, w143, r144, w144, r145, w145, r146, w146, w147, w150, Bool.false_eq_true, not_true_eq_false, not_false_eq_true, false_implies, true_implies, and_true, true_and, if_true, if_false, implies_true, Classical.not_not, true_or, or_true, false_or, or_false, and_self, ite_true, ite_false, reduceIte, (hT' _).2.2.1]
  · have h3 := tokA_ok (X := X) hk (show k < 9 by omega)
    have h4 : paM M t sh pay (M c i) k c i k = M c i k := by
      unfold paM
      rw [if_neg (by omega), if_neg (by omega)]
    rw [h_53_2]
    simp (disch := omega) only [s_53_0, s_53_1, s_53_3, s_53_4, s_53_7, s_53_10, s_53_11, s_53_12, s_53_13, s_53_14, s_53_15, s_53_18, s_53_21, s_53_24, amLong_I, amLong_R, amLong_N, amLong_L, cond_true, cond_false, Option.toList_some, Option.toList_none, List.cons_append, List.nil_append, List.append_nil, setE, setN, cpy_set, lit, nle, nlt, neq, inb_iff, cl_nI, tle, fle, tlt, flt, teq, feq, m9, m3, x9, x3, nI_add, nsub, upN, upE, b0', b01', r100, w100, r101, w101, r102, w102, r103, w103, r104, w104, r105, w105, r106, w106, r107, w107, r108, w108, w109, w110, r111, w111, r112, w112, r113, w113, r114, w114, r115, w115, r116, w116, r117, w117, r118, w118, r119, w119, w120, w121, r122, w122, r130, w130, w131, w132, r133, w133, r134, w134, r135, w135, r136, w136, r137, w137, r138, w138, r139, w139, r140, w140, r141, w141, w142, r143, w143, r144, w144, r145, w145, r146, w146, w147, w150, Bool.false_eq_true, not_true_eq_false, not_false_eq_true, false_implies, true_implies, and_true, true_and, if_true, if_false, implies_true, Classical.not_not, true_or, or_true, false_or, or_false, and_self, ite_true, ite_false, reduceIte, (hT' _).2.2.1, h3, h4, c54 ht (hT' k) hk2, paM_s]
/-- what readLures leaves when it has done b actions -/
def lmM (M : amM) (t sh : Nat) (pay : Nat → Int32) (p i b : Nat) : amM := fun c j k => if c = 116 ∧ j = t ∧ k = 3 * p + i then nI (9 * i + 3 * act sh i p) else if c = 115 ∧ j = t ∧ 9 * p + 3 * i ≤ k ∧ k < 9 * p + 3 * i + b then pay (9 * i + ins sh i p (k - (9 * p + 3 * i))) - pay (9 * i + p) else if c = 117 ∧ j = t ∧ 9 * i + 3 * act sh i p ≤ k ∧ k < 9 * i + 3 * act sh i p + b then nI p else M c j k
theorem lmM_0 {p i : Nat} : upM M 116 t (3 * p + i) (nI (9 * i + 3 * act sh i p)) = lmM M t sh pay p i 0 := by
  refine up_ext ?_ (fun c j k h => ?_)
  · unfold lmM
    rw [if_pos (by omega)]
  · unfold lmM
    rw [if_neg (by omega), if_neg (by omega), if_neg (by omega)]
theorem lmM_s {p i b : Nat} : upM (upM (lmM M t sh pay p i b) 115 t (9 * p + 3 * i + b) (pay (9 * i + ins sh i p b) - pay (9 * i + p))) 117 t (9 * i + 3 * act sh i p + b) (nI p) = lmM M t sh pay p i (b + 1) := by
  refine up_ext ?_ (fun c j k h => ?_)
  · unfold lmM
    rw [if_neg (by omega), if_neg (by omega), if_pos (by omega)]
  · by_cases h1 : c = 115 ∧ j = t ∧ k = 9 * p + 3 * i + b
    · obtain ⟨rfl, rfl, rfl⟩ := h1
      rw [upM_eq]
      unfold lmM
      rw [if_neg (by omega), if_pos (by omega), show 9 * p + 3 * i + b - (9 * p + 3 * i) = b by omega]
    · rw [upN (by omega)]
      unfold lmM
      by_cases h2 : c = 116 ∧ j = t ∧ k = 3 * p + i
      · rw [if_pos h2, if_pos h2]
      · rw [if_neg h2, if_neg h2]
        by_cases h3 : c = 115 ∧ j = t ∧ 9 * p + 3 * i ≤ k ∧ k < 9 * p + 3 * i + b
        · rw [if_pos h3, if_pos (by omega)]
        · rw [if_neg h3, if_neg (by omega)]
          by_cases h4 : c = 117 ∧ j = t ∧ 9 * i + 3 * act sh i p ≤ k ∧ k < 9 * i + 3 * act sh i p + b
          · rw [if_pos h4, if_pos (by omega)]
          · rw [if_neg h4, if_neg (by omega)]
theorem c50 {p i : Nat} (ht : t < 4) (hg : g < 13) (hG : GS M g sh) (ha : ∀ i, i < 3 → M 118 t i = nI (hsN sh i)) (hp : p < prf sh) (hi : i < plr sh) : Call (d + 2) 50 [vR 9 t, vR 2 g, vI (nI p), vI (nI i)] (M, J, (jk, 149, 147, X)) Q ↔ Q none (lmM M t sh (M 103 g) p i (hsN sh i), J, (jk, 149, 147, X)) := by
  obtain ⟨⟨l1, l2, l3, l4⟩, l5⟩ := sh_ok sh hG.1
  obtain ⟨⟨q1, q2, q3, q4⟩, q5⟩ := l5 i hi
  obtain ⟨q6, q7, q8⟩ := q5 p hp
  have f0 : ∀ b c j k, (c < 115 ∨ 117 < c) → lmM M t sh (M 103 g) p i b c j k = M c j k := fun b c j k h => by unfold lmM; rw [if_neg (by omega), if_neg (by omega), if_neg (by omega)]
  have fG : ∀ b, GS (lmM M t sh (M 103 g) p i b) g sh := fun b => hG.of (fun c k h => f0 b c g k (by omega))
  rw [e_50]
  simp (disch := omega) only [s_50_0, s_50_1, s_50_3, s_50_4, s_50_5, s_50_6, s_50_7, s_50_10, s_50_11, s_50_12, s_50_13, s_50_15, s_50_16, s_50_19, s_50_20, s_50_21, s_50_22, s_50_23, s_50_24, s_50_26, s_50_27, s_50_28, s_50_32, s_50_33, s_50_36, s_50_37, s_50_38, s_50_41, s_50_42, s_50_43, s_50_44, s_50_45, s_50_46, s_50_48, s_50_51, s_50_54, s_50_55, s_50_56, s_50_57, s_50_60, s_50_61, s_50_63, s_50_64, s_50_67, s_50_68, s_50_70, s_50_71, s_50_72, s_50_73, s_50_74, s_50_75, s_50_77, s_50_78, s_50_80, s_50_81, s_50_82, s_50_85, s_50_87, s_50_89, s_50_90, s_50_91, s_50_92, s_50_95, s_50_98, amLong_I, amLong_R, amLong_N, amLong_L, cond_true, cond_false, Option.toList_some, Option.toList_none, List.cons_append, List.nil_append, List.append_nil, setE, setN, cpy_set, lit, nle, nlt, neq, inb_iff, cl_nI, tle, fle, tlt, flt, teq, feq, m9, m3, x9, x3, nI_add, nsub, upN, upE, b0', b01', r100, w100, r101, w101, r102, w102, r103, w103, r104, w104, r105, w105, r106, w106, r107, w107, r108, w108, w109, w110, r111, w111, r112, w112, r113, w113, r114, w114, r115, w115, r116, w116, r117, w117, r118, w118, r119, w119, w120, w121, r122, w122, r130, w130, w131, w132, r133, w133, r134, w134, r135, w135, r136, w136, r137, w137, r138, w138, r139, w139, r140, w140, r141, w141, w142, r143, w143, r144, w144, r145, w145, r146, w146, w147, w150, Bool.false_eq_true, not_true_eq_false, not_false_eq_true, false_implies, true_implies, and_true, true_and, if_true, if_false, implies_true, Classical.not_not, true_or, or_true, false_or, or_false, and_self, ite_true, ite_false, reduceIte, c51 hg (show i < 3 by omega) (show p < 9 by omega), hG.2.2.2.2 i p hi hp, lmM_0 (pay := M 103 g)]
  have key := lpF (α := Option amV) (P := hsN sh i) (E := fun b a => Ev (d + 1) 50 30 [some (vR 9 t), some (vR 2 g), some (vI (nI p)), some (vI (nI i)), some (vI (nI (9 * i + 3 * act sh i p))), some (vI (nI b)), a] [] (lmM M t sh (M 103 g) p i b, J, (jk, 149, 147, X)) Q) (F := fun _ => Q none (lmM M t sh (M 103 g) p i (hsN sh i), J, (jk, 149, 147, X))) (f := fun b _ => some (vI (M 103 g (9 * i + ins sh i p b) - M 103 g (9 * i + p)))) (fun a => ?_) (fun b a hb => ?_) (hsN sh i) 0 none (by omega)
  · exact key
  · rw [h_50_30]
    simp (disch := omega) only [s_50_0, s_50_1, s_50_3, s_50_4, s_50_5, s_50_6, s_50_7, s_50_10, s_50_11, s_50_12, s_50_13, s_50_15, s_50_16, s_50_19, s_50_20, s_50_21, s_50_22, s_50_23, s_50_24, s_50_26, s_50_27, s_50_28, s_50_32, s_50_33, s_50_36, s_50_37, s_50_38, s_50_41, s_50_42, s_50_43, s_50_44, s_50_45, s_50_46, s_50_48, s_50_51, s_50_54, s_50_55, s_50_56, s_50_57, s_50_60, s_50_61, s_50_63, s_50_64, s_50_67, s_50_68, s_50_70, s_50_71, s_50_72, s_50_73, s_50_74, s_50_75, s_50_77, s_50_78, s_50_80, s_50_81, s_50_82, s_50_85, s_50_87, s_50_89, s_50_90, s_50_91, s_50_92, s_50_95, s_50_98, amLong_I, amLong_R, amLong_N, amLong_L, cond_true, cond_false, Option.toList_some, Option.toList_none, List.cons_append, List.nil_append, List.append_nil, setE, setN, cpy_set, lit, nle, nlt, neq, inb_iff, cl_nI, tle, fle, tlt, flt, teq, feq, m9, m3, x9, x3, nI_add, nsub, upN, upE, b0', b01', r100, w100, r101, w101, r102, w102, r103, w103, r104, w104, r105, w105, r106, w106, r107, w107, r108, w108, w109, w110, r111, w111, r112, w112, r113, w113, r114, w114, r115, w115, r116, w116, r117, w117, r118, w118, r119, w119, w120, w121, r122, w122, r130, w130, w131, w132, r133, w133, r134, w134, r135, w135, r136, w136, r137, w137, r138, w138, r139, w139, r140, w140, r141, w141, w142, r143, w143, r144, w144, r145, w145, r146, w146, w147, w150, Bool.false_eq_true, not_true_eq_false, not_false_eq_true, false_implies, true_implies, and_true, true_and, if_true, if_false, implies_true, Classical.not_not, true_or, or_true, false_or, or_false, and_self, ite_true, ite_false, reduceIte, f0, ha]
  · have h5 := (q8 b hb).1
    rw [h_50_30]
    simp (disch := omega) only [s_50_0, s_50_1, s_50_3, s_50_4, s_50_5, s_50_6, s_50_7, s_50_10, s_50_11, s_50_12, s_50_13, s_50_15, s_50_16, s_50_19, s_50_20, s_50_21, s_50_22, s_50_23, s_50_24, s_50_26, s_50_27, s_50_28, s_50_32, s_50_33, s_50_36, s_50_37, s_50_38, s_50_41, s_50_42, s_50_43, s_50_44, s_50_45, s_50_46, s_50_48, s_50_51, s_50_54, s_50_55, s_50_56, s_50_57, s_50_60, s_50_61, s_50_63, s_50_64, s_50_67, s_50_68, s_50_70, s_50_71, s_50_72, s_50_73, s_50_74, s_50_75, s_50_77, s_50_78, s_50_80, s_50_81, s_50_82, s_50_85, s_50_87, s_50_89, s_50_90, s_50_91, s_50_92, s_50_95, s_50_98, amLong_I, amLong_R, amLong_N, amLong_L, cond_true, cond_false, Option.toList_some, Option.toList_none, List.cons_append, List.nil_append, List.append_nil, setE, setN, cpy_set, lit, nle, nlt, neq, inb_iff, cl_nI, tle, fle, tlt, flt, teq, feq, m9, m3, x9, x3, nI_add, nsub, upN, upE, b0', b01', r100, w100, r101, w101, r102, w102, r103, w103, r104, w104, r105, w105, r106, w106, r107, w107, r108, w108, w109, w110, r111, w111, r112, w112, r113, w113, r114, w114, r115, w115, r116, w116, r117, w117, r118, w118, r119, w119, w120, w121, r122, w122, r130, w130, w131, w132, r133, w133, r134, w134, r135, w135, r136, w136, r137, w137, r138, w138, r139, w139, r140, w140, r141, w141, w142, r143, w143, r144, w144, r145, w145, r146, w146, w147, w150, Bool.false_eq_true, not_true_eq_false, not_false_eq_true, false_implies, true_implies, and_true, true_and, if_true, if_false, implies_true, Classical.not_not, true_or, or_true, false_or, or_false, and_self, ite_true, ite_false, reduceIte, f0, ha, c52 hg (fG b) hi hp, c33 hg (show i < 3 by omega) (show ins sh i p b < 9 by omega), c33 hg (show i < 3 by omega) (show p < 9 by omega), lmM_s]
/-- cells that are not of that Tally are as they were -/
def FrT (M M' : amM) (t : Nat) : Prop := ∀ c j k, (j ≠ t ∨ c < 113 ∨ (118 < c ∧ c < 1456) ∨ 1460 < c) → M' c j k = M c j k
def rdI (M M2 : amM) (t sh : Nat) (pay : Nat → Int32) (p i : Nat) : Prop := (∀ c j k, (j ≠ t ∨ c < 113 ∨ (118 < c ∧ c < 1456) ∨ 1457 < c) → M2 c j k = M c j k) ∧ (M2 1456 t 0 = nI (plr sh) ∧ M2 1457 t 0 = nI (prf sh) ∧ (∀ i, i < 3 → M2 118 t i = nI (hsN sh i))) ∧ ((∀ k, k < 9 → M2 113 t k = nI 0) ∧ (∀ k, k < 27 → M2 114 t k = nI 0)) ∧ (∀ p' i', i' < plr sh → (p' < p ∨ p' = p ∧ i' < i) → M2 116 t (3 * p' + i') = nI (9 * i' + 3 * act sh i' p')) ∧ (∀ p' i' b', i' < plr sh → b' < hsN sh i' → (p' < p ∨ p' = p ∧ i' < i) → M2 115 t (9 * p' + 3 * i' + b') = pay (9 * i' + ins sh i' p' b') - pay (9 * i' + p')) ∧ (∀ i' b' p', i' < plr sh → b' < hsN sh i' → (p' < p ∨ p' = p ∧ i' < i) → (∀ p'', (p'' < p ∨ p'' = p ∧ i' < i) → act sh i' p'' = act sh i' p' → p'' ≤ p') → M2 117 t (9 * i' + 3 * act sh i' p' + b') = nI p')
theorem rdI_s {M2 : amM} {p i : Nat} (h5 : sh < 5) (hp : p < prf sh) (hi : i < plr sh) (h : rdI M M2 t sh pay p i) : rdI M (lmM M2 t sh pay p i (hsN sh i)) t sh pay p (i + 1) := by
  obtain ⟨⟨l1, l2, l3, l4⟩, l5⟩ := sh_ok sh h5
  obtain ⟨⟨q1, q2, q3, q4⟩, q5⟩ := l5 i hi
  have q6 := (q5 p hp).1
  obtain ⟨r1, ⟨r2, r3, r4⟩, ⟨r5, r6⟩, r7, r8, r9⟩ := h
  have f0 : ∀ b c j k, (j ≠ t ∨ c < 115 ∨ 117 < c) → lmM M2 t sh pay p i b c j k = M2 c j k := fun b c j k h => by unfold lmM; rw [if_neg (by omega), if_neg (by omega), if_neg (by omega)]
  refine ⟨fun c j k h => ?_, ⟨?_, ?_, fun i hi => ?_⟩, ⟨fun k hk => ?_, fun k hk => ?_⟩, fun p' i' hi' h => ?_, fun p' i' b' hi' hb' h => ?_, fun i' b' p' hi' hb' h h2 => ?_⟩
  · rw [f0 _ _ _ _ (by omega), r1 c j k h]
  · rw [f0 _ _ _ _ (by omega), r2]
  · rw [f0 _ _ _ _ (by omega), r3]
  · rw [f0 _ _ _ _ (by omega), r4 i hi]
  · rw [f0 _ _ _ _ (by omega), r5 k hk]
  · rw [f0 _ _ _ _ (by omega), r6 k hk]
  · by_cases e : p' = p ∧ i' = i
    · obtain ⟨rfl, rfl⟩ := e
      unfold lmM
      rw [if_pos (by omega)]
    · unfold lmM
      rw [if_neg (by omega), if_neg (by omega), if_neg (by omega), r7 p' i' hi' (by omega)]
  · have hh := (l5 i' hi').1
    by_cases e : p' = p ∧ i' = i
    · obtain ⟨rfl, rfl⟩ := e
      unfold lmM
      rw [if_neg (by omega), if_pos (by omega), show 9 * p' + 3 * i' + b' - (9 * p' + 3 * i') = b' by omega]
    · unfold lmM
      rw [if_neg (by omega), if_neg (by omega), if_neg (by omega), r8 p' i' b' hi' hb' (by omega)]
  · have hh := (l5 i' hi').1
    have hp' : p' < prf sh := by omega
    have ha := ((l5 i' hi').2 p' hp').1
    by_cases e : i' = i
    · subst e
      by_cases e2 : act sh i' p' = act sh i' p
      · have h3 := h2 p (by omega) e2.symm
        obtain rfl : p' = p := by omega
        unfold lmM
        rw [if_neg (by omega), if_neg (by omega), if_pos (by omega)]
      · have e3 : p' ≠ p := fun z => e2 (by rw [z])
        unfold lmM
        rw [if_neg (by omega), if_neg (by omega), if_neg (by omega), r9 i' b' p' hi' hb' (by omega) (fun p'' h4 h5 => h2 p'' (by omega) h5)]
    · unfold lmM
      rw [if_neg (by omega), if_neg (by omega), if_neg (by omega), r9 i' b' p' hi' hb' (by omega) (fun p'' h4 h5 => h2 p'' (by omega) h5)]
theorem rdI_e {M2 : amM} {p : Nat} (h : rdI M M2 t sh pay p (plr sh)) : rdI M M2 t sh pay (p + 1) 0 := by
  obtain ⟨r1, r2, r5, r7, r8, r9⟩ := h
  exact ⟨r1, r2, r5, fun p' i' hi h => r7 p' i' hi (by omega), fun p' i' b' hi hb h => r8 p' i' b' hi hb (by omega), fun i' b' p' hi hb h h2 => r9 i' b' p' hi hb (by omega) (fun p'' h3 h4 => h2 p'' (by omega) h4)⟩
theorem sum_0 (f : Nat → Int32) : ∀ (n k : Nat), (∀ p, f p = 0) → sumN f k n = 0
  | 0, _, _ => rfl
  | n + 1, k, h => by
    show f k + sumN f (k + 1) n = 0
    rw [h k, sum_0 f n (k + 1) h]
    rfl
theorem gns_0 {k : Nat} : gns sh pay (fun _ => nI 0) k = nI 0 := sum_0 _ _ _ (fun p => Int32.zero_mul)
theorem rdI_T {M2 : amM} (h5 : sh < 5) (h : rdI M M2 t sh pay (prf sh) 0) : TL M2 t sh pay (fun _ => nI 0) := by
  obtain ⟨r1, ⟨r2, r3, r4⟩, ⟨r5, r6⟩, r7, r8, r9⟩ := h
  refine ⟨⟨h5, r2, r3, r4, fun p i hp hi => r7 p i hi (by omega), fun p i b hp hi hb => r8 p i b hi hb (by omega), fun i a b hi ha hb => ?_⟩, r5, fun k hk => ?_⟩
  · obtain ⟨⟨z1, z2⟩, z3⟩ := lst_ok h5 hi ha
    have := r9 i b (lst sh i a) hi hb (by omega) (fun p'' h3 h4 => z3 p'' (by omega) (by rw [h4, z2]))
    rw [z2] at this
    exact this
  · rw [r6 k hk, gns_0]
theorem c48 (ht : t < 4) (hg : g < 13) (hG : GS M g sh) (H : ∀ M', FrT M M' t → TL M' t sh (M 103 g) (fun _ => nI 0) → Q none (M', J, (jk, 149, 147, X))) : Call (d + 3) 48 [vR 9 t, vR 2 g] (M, J, (jk, 149, 147, X)) Q := by
  obtain ⟨⟨l1, l2, l3, l4⟩, l5⟩ := sh_ok sh hG.1
  rw [e_48]
  simp (disch := omega) only [s_48_0, s_48_1, s_48_2, s_48_5, s_48_8, s_48_9, s_48_10, s_48_13, s_48_16, s_48_17, s_48_20, s_48_21, s_48_22, s_48_25, s_48_26, s_48_27, s_48_30, s_48_31, s_48_34, s_48_35, s_48_37, s_48_38, s_48_41, s_48_44, s_48_45, s_48_47, s_48_48, s_48_51, s_48_54, s_48_55, s_48_56, s_48_57, s_48_58, s_48_61, s_48_64, s_48_67, s_48_70, s_48_73, amLong_I, amLong_R, amLong_N, amLong_L, cond_true, cond_false, Option.toList_some, Option.toList_none, List.cons_append, List.nil_append, List.append_nil, setE, setN, cpy_set, lit, nle, nlt, neq, inb_iff, cl_nI, tle, fle, tlt, flt, teq, feq, m9, m3, x9, x3, nI_add, nsub, upN, upE, b0', b01', r100, w100, r101, w101, r102, w102, r103, w103, r104, w104, r105, w105, r106, w106, r107, w107, r108, w108, w109, w110, r111, w111, r112, w112, r113, w113, r114, w114, r115, w115, r116, w116, r117, w117, r118, w118, r119, w119, w120, w121, r122, w122, r130, w130, w131, w132, r133, w133, r134, w134, r135, w135, r136, w136, r137, w137, r138, w138, r139, w139, r140, w140, r141, w141, w142, r143, w143, r144, w144, r145, w145, r146, w146, w147, w150, Bool.false_eq_true, not_true_eq_false, not_false_eq_true, false_implies, true_implies, and_true, true_and, if_true, if_false, implies_true, Classical.not_not, true_or, or_true, false_or, or_false, and_self, ite_true, ite_false, reduceIte, hG.2.1, hG.2.2.1, ocp (a100 hg) (a118 ht) (Nat.le_refl 3) (Nat.le_refl 3) (show 3 < 2 ^ 31 by decide), c49 ht]
  have key : ∀ M1, rdI M M1 t sh (M 103 g) 0 0 → Ev (d + 2) 48 36 [some (vR 9 t), some (vR 2 g), some (vI (nI 0)), none] [] (M1, J, (jk, 149, 147, X)) Q := fun M1 h1 => lpW (α := amM × Option amV) (P := prf sh) (I := fun p a => rdI M a.1 t sh (M 103 g) p 0) (E := fun p a => Ev (d + 2) 48 36 [some (vR 9 t), some (vR 2 g), some (vI (nI p)), a.2] [] (a.1, J, (jk, 149, 147, X)) Q) (fun a hI => ?_) (fun p a hp hI next => ?_) (prf sh) 0 (M1, none) (by omega) h1
  · refine key _ ⟨fun c j k h => ?_, ⟨?_, ?_, fun i hi => ?_⟩, ⟨fun k hk => ?_, fun k hk => ?_⟩, fun p' i' hi' h => ?_, fun p' i' b' hi' hb' h => ?_, fun i' b' p' hi' hb' h h2 => ?_⟩
    · simp (disch := omega) only [setE, setN, cpy_set, lit, nle, nlt, neq, inb_iff, cl_nI, tle, fle, tlt, flt, teq, feq, m9, m3, x9, x3, nI_add, nsub, upN, upE, b0', b01', r100, w100, r101, w101, r102, w102, r103, w103, r104, w104, r105, w105, r106, w106, r107, w107, r108, w108, w109, w110, r111, w111, r112, w112, r113, w113, r114, w114, r115, w115, r116, w116, r117, w117, r118, w118, r119, w119, w120, w121, r122, w122, r130, w130, w131, w132, r133, w133, r134, w134, r135, w135, r136, w136, r137, w137, r138, w138, r139, w139, r140, w140, r141, w141, w142, r143, w143, r144, w144, r145, w145, r146, w146, w147, w150, Bool.false_eq_true, not_true_eq_false, not_false_eq_true, false_implies, true_implies, and_true, true_and, if_true, if_false, implies_true, Classical.not_not, true_or, or_true, false_or, or_false, and_self, ite_true, ite_false, reduceIte]
    · simp (disch := omega) only [setE, setN, cpy_set, lit, nle, nlt, neq, inb_iff, cl_nI, tle, fle, tlt, flt, teq, feq, m9, m3, x9, x3, nI_add, nsub, upN, upE, b0', b01', r100, w100, r101, w101, r102, w102, r103, w103, r104, w104, r105, w105, r106, w106, r107, w107, r108, w108, w109, w110, r111, w111, r112, w112, r113, w113, r114, w114, r115, w115, r116, w116, r117, w117, r118, w118, r119, w119, w120, w121, r122, w122, r130, w130, w131, w132, r133, w133, r134, w134, r135, w135, r136, w136, r137, w137, r138, w138, r139, w139, r140, w140, r141, w141, w142, r143, w143, r144, w144, r145, w145, r146, w146, w147, w150, Bool.false_eq_true, not_true_eq_false, not_false_eq_true, false_implies, true_implies, and_true, true_and, if_true, if_false, implies_true, Classical.not_not, true_or, or_true, false_or, or_false, and_self, ite_true, ite_false, reduceIte]
    · simp (disch := omega) only [setE, setN, cpy_set, lit, nle, nlt, neq, inb_iff, cl_nI, tle, fle, tlt, flt, teq, feq, m9, m3, x9, x3, nI_add, nsub, upN, upE, b0', b01', r100, w100, r101, w101, r102, w102, r103, w103, r104, w104, r105, w105, r106, w106, r107, w107, r108, w108, w109, w110, r111, w111, r112, w112, r113, w113, r114, w114, r115, w115, r116, w116, r117, w117, r118, w118, r119, w119, w120, w121, r122, w122, r130, w130, w131, w132, r133, w133, r134, w134, r135, w135, r136, w136, r137, w137, r138, w138, r139, w139, r140, w140, r141, w141, w142, r143, w143, r144, w144, r145, w145, r146, w146, w147, w150, Bool.false_eq_true, not_true_eq_false, not_false_eq_true, false_implies, true_implies, and_true, true_and, if_true, if_false, implies_true, Classical.not_not, true_or, or_true, false_or, or_false, and_self, ite_true, ite_false, reduceIte]
    · simp (disch := omega) only [setE, setN, cpy_set, lit, nle, nlt, neq, inb_iff, cl_nI, tle, fle, tlt, flt, teq, feq, m9, m3, x9, x3, nI_add, nsub, upN, upE, b0', b01', r100, w100, r101, w101, r102, w102, r103, w103, r104, w104, r105, w105, r106, w106, r107, w107, r108, w108, w109, w110, r111, w111, r112, w112, r113, w113, r114, w114, r115, w115, r116, w116, r117, w117, r118, w118, r119, w119, w120, w121, r122, w122, r130, w130, w131, w132, r133, w133, r134, w134, r135, w135, r136, w136, r137, w137, r138, w138, r139, w139, r140, w140, r141, w141, w142, r143, w143, r144, w144, r145, w145, r146, w146, w147, w150, Bool.false_eq_true, not_true_eq_false, not_false_eq_true, false_implies, true_implies, and_true, true_and, if_true, if_false, implies_true, Classical.not_not, true_or, or_true, false_or, or_false, and_self, ite_true, ite_false, reduceIte, (hG.2.2.2.1 i hi).1]
    · simp (disch := omega) only [setE, setN, cpy_set, lit, nle, nlt, neq, inb_iff, cl_nI, tle, fle, tlt, flt, teq, feq, m9, m3, x9, x3, nI_add, nsub, upN, upE, b0', b01', r100, w100, r101, w101, r102, w102, r103, w103, r104, w104, r105, w105, r106, w106, r107, w107, r108, w108, w109, w110, r111, w111, r112, w112, r113, w113, r114, w114, r115, w115, r116, w116, r117, w117, r118, w118, r119, w119, w120, w121, r122, w122, r130, w130, w131, w132, r133, w133, r134, w134, r135, w135, r136, w136, r137, w137, r138, w138, r139, w139, r140, w140, r141, w141, w142, r143, w143, r144, w144, r145, w145, r146, w146, w147, w150, Bool.false_eq_true, not_true_eq_false, not_false_eq_true, false_implies, true_implies, and_true, true_and, if_true, if_false, implies_true, Classical.not_not, true_or, or_true, false_or, or_false, and_self, ite_true, ite_false, reduceIte]
    · simp (disch := omega) only [setE, setN, cpy_set, lit, nle, nlt, neq, inb_iff, cl_nI, tle, fle, tlt, flt, teq, feq, m9, m3, x9, x3, nI_add, nsub, upN, upE, b0', b01', r100, w100, r101, w101, r102, w102, r103, w103, r104, w104, r105, w105, r106, w106, r107, w107, r108, w108, w109, w110, r111, w111, r112, w112, r113, w113, r114, w114, r115, w115, r116, w116, r117, w117, r118, w118, r119, w119, w120, w121, r122, w122, r130, w130, w131, w132, r133, w133, r134, w134, r135, w135, r136, w136, r137, w137, r138, w138, r139, w139, r140, w140, r141, w141, w142, r143, w143, r144, w144, r145, w145, r146, w146, w147, w150, Bool.false_eq_true, not_true_eq_false, not_false_eq_true, false_implies, true_implies, and_true, true_and, if_true, if_false, implies_true, Classical.not_not, true_or, or_true, false_or, or_false, and_self, ite_true, ite_false, reduceIte]
    · omega
    · omega
    · omega
  · rw [h_48_36]
    simp (disch := omega) only [s_48_0, s_48_1, s_48_2, s_48_5, s_48_8, s_48_9, s_48_10, s_48_13, s_48_16, s_48_17, s_48_20, s_48_21, s_48_22, s_48_25, s_48_26, s_48_27, s_48_30, s_48_31, s_48_34, s_48_35, s_48_37, s_48_38, s_48_41, s_48_44, s_48_45, s_48_47, s_48_48, s_48_51, s_48_54, s_48_55, s_48_56, s_48_57, s_48_58, s_48_61, s_48_64, s_48_67, s_48_70, s_48_73, amLong_I, amLong_R, amLong_N, amLong_L, cond_true, cond_false, Option.toList_some, Option.toList_none, List.cons_append, List.nil_append, List.append_nil, setE, setN, cpy_set, lit, nle, nlt, neq, inb_iff, cl_nI, tle, fle, tlt, flt, teq, feq, m9, m3, x9, x3, nI_add, nsub, upN, upE, b0', b01', r100, w100, r101, w101, r102, w102, r103, w103, r104, w104, r105, w105, r106, w106, r107, w107, r108, w108, w109, w110, r111, w111, r112, w112, r113, w113, r114, w114, r115, w115, r116, w116, r117, w117, r118, w118, r119, w119, w120, w121, r122, w122, r130, w130, w131, w132, r133, w133, r134, w134, r135, w135, r136, w136, r137, w137, r138, w138, r139, w139, r140, w140, r141, w141, w142, r143, w143, r144, w144, r145, w145, r146, w146, w147, w150, Bool.false_eq_true, not_true_eq_false, not_false_eq_true, false_implies, true_implies, and_true, true_and, if_true, if_false, implies_true, Classical.not_not, true_or, or_true, false_or, or_false, and_self, ite_true, ite_false, reduceIte, hI.2.1.2.1]
    refine H _ (fun c j k h => ?_) (rdI_T hG.1 hI)
    exact hI.1 c j k (by omega)
  · rw [h_48_36]
    simp (disch := omega) only [s_48_0, s_48_1, s_48_2, s_48_5, s_48_8, s_48_9, s_48_10, s_48_13, s_48_16, s_48_17, s_48_20, s_48_21, s_48_22, s_48_25, s_48_26, s_48_27, s_48_30, s_48_31, s_48_34, s_48_35, s_48_37, s_48_38, s_48_41, s_48_44, s_48_45, s_48_47, s_48_48, s_48_51, s_48_54, s_48_55, s_48_56, s_48_57, s_48_58, s_48_61, s_48_64, s_48_67, s_48_70, s_48_73, amLong_I, amLong_R, amLong_N, amLong_L, cond_true, cond_false, Option.toList_some, Option.toList_none, List.cons_append, List.nil_append, List.append_nil, setE, setN, cpy_set, lit, nle, nlt, neq, inb_iff, cl_nI, tle, fle, tlt, flt, teq, feq, m9, m3, x9, x3, nI_add, nsub, upN, upE, b0', b01', r100, w100, r101, w101, r102, w102, r103, w103, r104, w104, r105, w105, r106, w106, r107, w107, r108, w108, w109, w110, r111, w111, r112, w112, r113, w113, r114, w114, r115, w115, r116, w116, r117, w117, r118, w118, r119, w119, w120, w121, r122, w122, r130, w130, w131, w132, r133, w133, r134, w134, r135, w135, r136, w136, r137, w137, r138, w138, r139, w139, r140, w140, r141, w141, w142, r143, w143, r144, w144, r145, w145, r146, w146, w147, w150, Bool.false_eq_true, not_true_eq_false, not_false_eq_true, false_implies, true_implies, and_true, true_and, if_true, if_false, implies_true, Classical.not_not, true_or, or_true, false_or, or_false, and_self, ite_true, ite_false, reduceIte, hI.2.1.2.1]
    refine lpW (α := amM) (P := plr sh) (I := fun i M2 => rdI M M2 t sh (M 103 g) p i) (E := fun i M2 => Ev (d + 2) 48 46 [some (vR 9 t), some (vR 2 g), some (vI (nI p)), some (vI (nI i))] [] (M2, J, (jk, 149, 147, X)) Q) (fun M2 hI2 => ?_) (fun i M2 hi hI2 next2 => ?_) (plr sh) 0 a.1 (by omega) hI
    · rw [h_48_46]
      simp (disch := omega) only [s_48_0, s_48_1, s_48_2, s_48_5, s_48_8, s_48_9, s_48_10, s_48_13, s_48_16, s_48_17, s_48_20, s_48_21, s_48_22, s_48_25, s_48_26, s_48_27, s_48_30, s_48_31, s_48_34, s_48_35, s_48_37, s_48_38, s_48_41, s_48_44, s_48_45, s_48_47, s_48_48, s_48_51, s_48_54, s_48_55, s_48_56, s_48_57, s_48_58, s_48_61, s_48_64, s_48_67, s_48_70, s_48_73, amLong_I, amLong_R, amLong_N, amLong_L, cond_true, cond_false, Option.toList_some, Option.toList_none, List.cons_append, List.nil_append, List.append_nil, setE, setN, cpy_set, lit, nle, nlt, neq, inb_iff, cl_nI, tle, fle, tlt, flt, teq, feq, m9, m3, x9, x3, nI_add, nsub, upN, upE, b0', b01', r100, w100, r101, w101, r102, w102, r103, w103, r104, w104, r105, w105, r106, w106, r107, w107, r108, w108, w109, w110, r111, w111, r112, w112, r113, w113, r114, w114, r115, w115, r116, w116, r117, w117, r118, w118, r119, w119, w120, w121, r122, w122, r130, w130, w131, w132, r133, w133, r134, w134, r135, w135, r136, w136, r137, w137, r138, w138, r139, w139, r140, w140, r141, w141, w142, r143, w143, r144, w144, r145, w145, r146, w146, w147, w150, Bool.false_eq_true, not_true_eq_false, not_false_eq_true, false_implies, true_implies, and_true, true_and, if_true, if_false, implies_true, Classical.not_not, true_or, or_true, false_or, or_false, and_self, ite_true, ite_false, reduceIte, hI2.2.1.1]
      exact next (M2, some (vI (nI (plr sh)))) (rdI_e hI2)
    · have hG2 : GS M2 g sh := hG.of (fun c k h => hI2.1 c g k (by omega))
      have hp2 : M2 103 g = M 103 g := by funext k; exact hI2.1 103 g k (by omega)
      rw [h_48_46]
      simp (disch := omega) only [s_48_0, s_48_1, s_48_2, s_48_5, s_48_8, s_48_9, s_48_10, s_48_13, s_48_16, s_48_17, s_48_20, s_48_21, s_48_22, s_48_25, s_48_26, s_48_27, s_48_30, s_48_31, s_48_34, s_48_35, s_48_37, s_48_38, s_48_41, s_48_44, s_48_45, s_48_47, s_48_48, s_48_51, s_48_54, s_48_55, s_48_56, s_48_57, s_48_58, s_48_61, s_48_64, s_48_67, s_48_70, s_48_73, amLong_I, amLong_R, amLong_N, amLong_L, cond_true, cond_false, Option.toList_some, Option.toList_none, List.cons_append, List.nil_append, List.append_nil, setE, setN, cpy_set, lit, nle, nlt, neq, inb_iff, cl_nI, tle, fle, tlt, flt, teq, feq, m9, m3, x9, x3, nI_add, nsub, upN, upE, b0', b01', r100, w100, r101, w101, r102, w102, r103, w103, r104, w104, r105, w105, r106, w106, r107, w107, r108, w108, w109, w110, r111, w111, r112, w112, r113, w113, r114, w114, r115, w115, r116, w116, r117, w117, r118, w118, r119, w119, w120, w121, r122, w122, r130, w130, w131, w132, r133, w133, r134, w134, r135, w135, r136, w136, r137, w137, r138, w138, r139, w139, r140, w140, r141, w141, w142, r143, w143, r144, w144, r145, w145, r146, w146, w147, w150, Bool.false_eq_true, not_true_eq_false, not_false_eq_true, false_implies, true_implies, and_true, true_and, if_true, if_false, implies_true, Classical.not_not, true_or, or_true, false_or, or_false, and_self, ite_true, ite_false, reduceIte, hI2.2.1.1, c50 ht hg hG2 hI2.2.1.2.2 hp hi, hp2]
      exact next2 _ (rdI_s hG.1 hp hi hI2)
end TALLY2
