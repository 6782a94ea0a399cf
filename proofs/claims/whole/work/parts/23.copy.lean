/-! copies of games, what can be undone: contracts -/
/-- game g becomes as game g2 is -/
def cpG (M : amM) (g g2 : Nat) : amM := fun c i j => if i = g ∧ ((c = 100 ∧ j < 3) ∨ (c = 101 ∧ j < 3) ∨ (c = 102 ∧ j < 27) ∨ (c = 103 ∧ j < 27) ∨ (c = 104 ∧ j < 9) ∨ ((c = 1105 ∨ c = 1106) ∧ j = 0)) then M c g2 j else M c i j
theorem cp_100 {g g2 n : Nat} (hg : g < 13) (h2 : g2 < 13) (hn : n ≤ 3) : okCp 100 g2 (nI 0) 100 g (nI 0) (nI n) := by
  have hl : amLen 100 = 3 := rfl
  refine ⟨⟨by decide, al_100 hg, rfl⟩, ⟨by decide, al_100 h2, rfl⟩, ⟨nI_pos (by omega), nI_pos (by omega), nI_pos (by omega)⟩, ?_, ?_⟩ <;> rw [cl_nI (by omega), cl_nI (by omega), hl] <;> omega
theorem cp_101 {g g2 n : Nat} (hg : g < 13) (h2 : g2 < 13) (hn : n ≤ 3) : okCp 101 g2 (nI 0) 101 g (nI 0) (nI n) := by
  have hl : amLen 101 = 3 := rfl
  refine ⟨⟨by decide, al_101 hg, rfl⟩, ⟨by decide, al_101 h2, rfl⟩, ⟨nI_pos (by omega), nI_pos (by omega), nI_pos (by omega)⟩, ?_, ?_⟩ <;> rw [cl_nI (by omega), cl_nI (by omega), hl] <;> omega
theorem cp_102 {g g2 n : Nat} (hg : g < 13) (h2 : g2 < 13) (hn : n ≤ 27) : okCp 102 g2 (nI 0) 102 g (nI 0) (nI n) := by
  have hl : amLen 102 = 27 := rfl
  refine ⟨⟨by decide, al_102 hg, rfl⟩, ⟨by decide, al_102 h2, rfl⟩, ⟨nI_pos (by omega), nI_pos (by omega), nI_pos (by omega)⟩, ?_, ?_⟩ <;> rw [cl_nI (by omega), cl_nI (by omega), hl] <;> omega
theorem cp_103 {g g2 n : Nat} (hg : g < 13) (h2 : g2 < 13) (hn : n ≤ 27) : okCp 103 g2 (nI 0) 103 g (nI 0) (nI n) := by
  have hl : amLen 103 = 27 := rfl
  refine ⟨⟨by decide, al_103 hg, rfl⟩, ⟨by decide, al_103 h2, rfl⟩, ⟨nI_pos (by omega), nI_pos (by omega), nI_pos (by omega)⟩, ?_, ?_⟩ <;> rw [cl_nI (by omega), cl_nI (by omega), hl] <;> omega
theorem cp_104 {g g2 n : Nat} (hg : g < 13) (h2 : g2 < 13) (hn : n ≤ 9) : okCp 104 g2 (nI 0) 104 g (nI 0) (nI n) := by
  have hl : amLen 104 = 9 := rfl
  refine ⟨⟨by decide, al_104 hg, rfl⟩, ⟨by decide, al_104 h2, rfl⟩, ⟨nI_pos (by omega), nI_pos (by omega), nI_pos (by omega)⟩, ?_, ?_⟩ <;> rw [cl_nI (by omega), cl_nI (by omega), hl] <;> omega
section COPY
variable {d g g2 jk X : Nat} {M : amM} {J : amJ} {Q : Option amV → amS → Prop}
theorem c22_mem : upM (upM (amCpy (amCpy (amCpy (amCpy (amCpy M 100 g2 0 100 g 0 3) 101 g2 0 101 g 0 3) 102 g2 0 102 g 0 27) 103 g2 0 103 g 0 27) 104 g2 0 104 g 0 9) 1105 g 0 (M 1105 g2 0)) 1106 g 0 (M 1106 g2 0) = cpG M g g2 := by
  funext c i j
  unfold cpG upM amCpy
  by_cases hi : i = g
  · subst hi
    by_cases h0 : c = 1106
    · subst h0
      by_cases hj : j = 0 <;> simp [hj]
    by_cases h1 : c = 1105
    · subst h1
      by_cases hj : j = 0 <;> simp [hj]
    by_cases h2 : c = 104
    · subst h2; simp
    by_cases h3 : c = 103
    · subst h3; simp
    by_cases h4 : c = 102
    · subst h4; simp
    by_cases h5 : c = 101
    · subst h5; simp
    by_cases h6 : c = 100
    · subst h6; simp
    simp [h0, h1, h2, h3, h4, h5, h6]
  · simp [hi]
theorem c22 (hg : g < 13) (h2 : g2 < 13) : Call (d + 1) 22 [vR 2 g, vR 2 g2] (M, J, (jk, 149, 147, X)) Q ↔ Q none (cpG M g g2, J, (jk, 149, 147, X)) := by
  have hn : ∀ k : Nat, k < 2 ^ 31 → (nI k).toNatClampNeg = k := fun k hk => cl_nI hk
  rw [e_22]
  simp only [s_22_0, s_22_1, s_22_4, s_22_5, s_22_6, s_22_9, s_22_10, s_22_11, s_22_14, s_22_15, s_22_18, s_22_19, s_22_20, s_22_23, s_22_24, s_22_25, s_22_28, s_22_29, s_22_32, s_22_33, s_22_34, s_22_37, s_22_38, s_22_39, s_22_42, s_22_43, s_22_46, s_22_47, s_22_50, s_22_51, s_22_52, s_22_55, s_22_56, s_22_57, s_22_60, s_22_61, s_22_64, s_22_65, s_22_68, s_22_69, s_22_70, s_22_73, s_22_74, s_22_76, s_22_79, s_22_80, s_22_81, s_22_84, s_22_87, s_22_88, s_22_89, s_22_92, s_22_95, amLong_I, amLong_R, amLong_N, amLong_L, cond_true, cond_false, Option.toList_some, Option.toList_none, List.cons_append, List.nil_append, List.append_nil, hg, h2, i_0, i_3, i_9, al_102 hg, al_103 hg, decide_true, Bool.and_self, Bool.or_true, show ((102 : Nat) == 99) = false from rfl, show ((103 : Nat) == 99) = false from rfl, show Int32.ofNat (amLen 102) = nI 27 from rfl, show Int32.ofNat (amLen 103) = nI 27 from rfl, cp_100 hg h2 (Nat.le_refl 3), cp_101 hg h2 (Nat.le_refl 3), cp_102 hg h2 (Nat.le_refl 27), cp_103 hg h2 (Nat.le_refl 27), cp_104 hg h2 (Nat.le_refl 9), hn 0 (by decide), hn 3 (by decide), hn 27 (by decide), hn 9 (by decide), show (100 : Nat) ≤ 102 from by decide, show (100 : Nat) ≤ 103 from by decide, not_true_eq_false, not_false_eq_true, false_implies, true_implies, and_true, true_and, if_true, if_false, implies_true, Classical.not_not, true_or, or_true]
  have e1 : ∀ c, c = 1105 ∨ c = 1106 → (amCpy (amCpy (amCpy (amCpy (amCpy M 100 g2 0 100 g 0 3) 101 g2 0 101 g 0 3) 102 g2 0 102 g 0 27) 103 g2 0 103 g 0 27) 104 g2 0 104 g 0 9) c g2 0 = M c g2 0 := by
    intro c hc
    unfold amCpy
    rcases hc with rfl | rfl <;> simp
  rw [upM_ne (by omega), e1 1105 (Or.inl rfl), e1 1106 (Or.inr rfl), c22_mem]
/-- a pay is set: it must be there; it may be so already -/
theorem c29 {sh i p : Nat} {v : Int32} (hg : g < 13) (hG : GS M g sh) (hi : i < plr sh) (hp : p < prf sh) : Call (d + 3) 29 [vR 2 g, vI (nI i), vI (nI p), vI v] (M, J, (jk, 149, 147, X)) Q ↔ (M 103 g (9 * i + p) = v → Q (some (vI 0)) (M, J, (jk, 149, 147, X))) ∧ (¬ M 103 g (9 * i + p) = v → Q (some (vI 1)) (upM M 103 g (9 * i + p) v, J, (jk, 149, 147, X))) := by
  obtain ⟨l1, l2, l3, l4⟩ := hG.lim
  have h1 : (0 ≤ nI i ∧ nI i < nI (plr sh)) ∧ (0 ≤ nI p ∧ nI p < nI (prf sh)) := ⟨⟨nI_pos' (by omega), nI_lt hi (by omega)⟩, nI_pos' (by omega), nI_lt hp (by omega)⟩
  have h2 : inb (nI (9 * i + p)) 27 := inb_nI (by omega) (by omega)
  rw [e_29]
  simp only [s_29_0, s_29_1, s_29_2, s_29_3, s_29_6, s_29_9, s_29_10, s_29_11, s_29_12, s_29_15, s_29_16, s_29_19, s_29_20, s_29_21, s_29_22, s_29_25, s_29_26, s_29_28, s_29_29, s_29_30, s_29_31, s_29_32, s_29_33, s_29_34, amLong_I, amLong_R, amLong_N, amLong_L, cond_true, cond_false, Option.toList_some, Option.toList_none, List.cons_append, List.nil_append, List.append_nil, hg, c30 hg, hG.2.1, hG.2.2.1, bI_t h1, c33 hg (show i < 3 by omega) (show p < 9 by omega), nI_x9, ow_103, h2, cl_nI (show 9 * i + p < 2 ^ 31 by omega), o0, z01, o01, not_true_eq_false, not_false_eq_true, false_implies, true_implies, and_true, true_and, if_true, if_false, implies_true, Classical.not_not, true_or, or_true]
  exact And.comm
theorem c29_no {sh : Nat} {x y v : Int32} (hg : g < 13) (hG : GS M g sh) (hn : ¬ ((0 ≤ x ∧ x < nI (plr sh)) ∧ (0 ≤ y ∧ y < nI (prf sh)))) : Call (d + 3) 29 [vR 2 g, vI x, vI y, vI v] (M, J, (jk, 149, 147, X)) Q ↔ Q (some (vI 0)) (M, J, (jk, 149, 147, X)) := by
  rw [e_29]
  simp only [s_29_0, s_29_1, s_29_2, s_29_3, s_29_6, s_29_9, s_29_10, s_29_11, s_29_12, s_29_15, s_29_16, s_29_19, s_29_20, s_29_21, s_29_22, s_29_25, s_29_26, s_29_28, s_29_29, s_29_30, s_29_31, s_29_32, s_29_33, s_29_34, amLong_I, amLong_R, amLong_N, amLong_L, cond_true, cond_false, Option.toList_some, Option.toList_none, List.cons_append, List.nil_append, List.append_nil, hg, c30 hg, hG.2.1, hG.2.2.1, bI_f hn, z01, not_true_eq_false, not_false_eq_true, false_implies, true_implies, and_true, true_and, if_true, if_false, implies_true, Classical.not_not, true_or, or_true]
/-! Past -/
/-- which game stands in a slot -/
def slt (f k : Nat) : Nat := 4 + (if f + k < 9 then f + k else f + k - 9)
theorem slt_lt {f k : Nat} (hf : f < 9) (hk : k < 9) : slt f k < 13 := by
  unfold slt
  split <;> omega
theorem c21 {f k : Nat} (hf : M 1351 0 0 = nI f) (h1 : f < 9) (h2 : k < 9) : Call (d + 1) 21 [vR 7 0, vI (nI k)] (M, J, (jk, 149, 147, X)) Q ↔ Q (some (vR 2 (slt f k))) (M, J, (jk, 149, 147, X)) := by
  rw [e_21]
  simp only [s_21_0, s_21_1, s_21_4, s_21_5, s_21_6, s_21_7, s_21_8, s_21_11, s_21_12, s_21_13, s_21_16, s_21_17, s_21_20, s_21_21, s_21_24, s_21_25, s_21_26, s_21_29, s_21_30, s_21_31, s_21_32, amLong_I, amLong_R, amLong_N, amLong_L, cond_true, cond_false, Option.toList_some, Option.toList_none, List.cons_append, List.nil_append, List.append_nil, hf, nI_add, al_110 Nat.one_pos, decide_true, Bool.and_self, Bool.or_true, show ((110 : Nat) == 99) = false from rfl, show Int32.ofNat (amLen 110) = nI 9 from rfl, show (100 : Nat) ≤ 110 from by decide, not_true_eq_false, not_false_eq_true, false_implies, true_implies, and_true, true_and, if_true, if_false, implies_true, Classical.not_not, true_or, or_true]
  by_cases h3 : f + k < 9
  · have h4 : ¬ nI 9 ≤ nI (f + k) := nI_ge h3 (by omega)
    have h5 : inb (nI (f + k)) 9 := inb_nI h3 (by omega)
    have h6 : slt f k = 4 + (f + k) := by unfold slt; rw [if_pos h3]
    simp only [h4, h5, ow_110, cl_nI (show f + k < 2 ^ 31 by omega), st_110 h3, h6, amEt, not_true_eq_false, not_false_eq_true, false_implies, true_implies, and_true, true_and, if_true, if_false, implies_true, Classical.not_not, true_or, or_true]
  · have h4 : nI 9 ≤ nI (f + k) := nI_le (by omega) (by omega)
    have h5 : inb (nI (f + k - 9)) 9 := inb_nI (by omega) (by omega)
    have h6 : slt f k = 4 + (f + k - 9) := by unfold slt; rw [if_neg h3]
    simp only [h4, h5, ow_110, pk_sub (show 9 ≤ f + k by omega), cl_nI (show f + k - 9 < 2 ^ 31 by omega), st_110 (show f + k - 9 < 9 by omega), h6, amEt, not_true_eq_false, not_false_eq_true, false_implies, true_implies, and_true, true_and, if_true, if_false, implies_true, Classical.not_not, true_or, or_true]
theorem c20 {f n : Nat} (hf : M 1351 0 0 = nI f) (hs : M 1352 0 0 = nI n) (h1 : f < 9) (h2 : n < 9) (hg : g < 13) : Call (d + 2) 20 [vR 7 0, vR 2 g] (M, J, (jk, 149, 147, X)) Q ↔ Q none (cpG M (slt f n) g, J, (jk, 149, 147, X)) := by
  have h3 := slt_lt h1 h2
  rw [e_20]
  simp only [s_20_0, s_20_1, s_20_2, s_20_5, s_20_8, s_20_9, s_20_12, amLong_I, amLong_R, amLong_N, amLong_L, cond_true, cond_false, Option.toList_some, Option.toList_none, List.cons_append, List.nil_append, List.append_nil, hs, c21 hf h1 h2, h3, c22 h3 hg]
/-- a change that was done counts -/
theorem c34_no {x : Int32} (h : x < 0) : Call (d + 1) 34 [vR 7 0, vI x] (M, J, (jk, 149, 147, X)) Q ↔ Q (some (vI x)) (M, J, (jk, 149, 147, X)) := by
  have h1 : ¬ 0 ≤ x := Int32.not_le.mpr h
  rw [e_34]
  simp only [s_34_0, s_34_1, s_34_4, s_34_5, s_34_6, s_34_7, s_34_10, s_34_12, s_34_15, s_34_16, s_34_17, s_34_20, s_34_21, s_34_22, s_34_25, s_34_28, s_34_29, s_34_30, s_34_33, s_34_34, s_34_35, s_34_36, s_34_39, s_34_40, s_34_43, s_34_44, s_34_47, s_34_48, s_34_49, s_34_52, s_34_53, s_34_56, s_34_57, amLong_I, amLong_R, amLong_N, amLong_L, cond_true, cond_false, Option.toList_some, Option.toList_none, List.cons_append, List.nil_append, List.append_nil, h, h1, not_true_eq_false, not_false_eq_true, false_implies, true_implies, and_true, true_and, if_true, if_false, implies_true, Classical.not_not, true_or, or_true]
theorem c34 {x : Int32} {f n : Nat} (h : ¬ x < 0) (hf : M 1351 0 0 = nI f) (hs : M 1352 0 0 = nI n) (h1 : f < 9) (h2 : n ≤ 8) : Call (d + 1) 34 [vR 7 0, vI x] (M, J, (jk, 149, 147, X)) Q ↔ Q (some (vI x)) (if n < 8 then upM M 1352 0 0 (nI (n + 1)) else upM M 1351 0 0 (nI (if f + 1 < 9 then f + 1 else 0)), J, (jk, 149, 147, X)) := by
  have h0 : 0 ≤ x := Int32.not_lt.mp h
  have e8 : (8 : Int32) = nI 8 := rfl
  rw [e_34]
  by_cases h3 : n < 8
  · have h4 : ¬ nI 8 ≤ nI n := nI_ge h3 (by omega)
    simp only [s_34_0, s_34_1, s_34_4, s_34_5, s_34_6, s_34_7, s_34_10, s_34_12, s_34_15, s_34_16, s_34_17, s_34_20, s_34_21, s_34_22, s_34_25, s_34_28, s_34_29, s_34_30, s_34_33, s_34_34, s_34_35, s_34_36, s_34_39, s_34_40, s_34_43, s_34_44, s_34_47, s_34_48, s_34_49, s_34_52, s_34_53, s_34_56, s_34_57, amLong_I, amLong_R, amLong_N, amLong_L, cond_true, cond_false, Option.toList_some, Option.toList_none, List.cons_append, List.nil_append, List.append_nil, h, h0, hf, hs, e8, h4, h3, nI_s, not_true_eq_false, not_false_eq_true, false_implies, true_implies, and_true, true_and, if_true, if_false, implies_true, Classical.not_not, true_or, or_true]
  · have h4 : nI 8 ≤ nI n := nI_le (by omega) (by omega)
    by_cases h5 : f + 1 < 9
    · have h6 : ¬ nI 9 ≤ nI (f + 1) := nI_ge h5 (by omega)
      simp only [s_34_0, s_34_1, s_34_4, s_34_5, s_34_6, s_34_7, s_34_10, s_34_12, s_34_15, s_34_16, s_34_17, s_34_20, s_34_21, s_34_22, s_34_25, s_34_28, s_34_29, s_34_30, s_34_33, s_34_34, s_34_35, s_34_36, s_34_39, s_34_40, s_34_43, s_34_44, s_34_47, s_34_48, s_34_49, s_34_52, s_34_53, s_34_56, s_34_57, amLong_I, amLong_R, amLong_N, amLong_L, cond_true, cond_false, Option.toList_some, Option.toList_none, List.cons_append, List.nil_append, List.append_nil, h, h0, hf, hs, e8, h4, h3, h5, h6, nI_s, al_110 Nat.one_pos, decide_true, Bool.and_self, Bool.or_true, show ((110 : Nat) == 99) = false from rfl, show Int32.ofNat (amLen 110) = nI 9 from rfl, show (100 : Nat) ≤ 110 from by decide, not_true_eq_false, not_false_eq_true, false_implies, true_implies, and_true, true_and, if_true, if_false, implies_true, Classical.not_not, true_or, or_true]
    · have h6 : nI 9 ≤ nI (f + 1) := nI_le (by omega) (by omega)
      simp only [s_34_0, s_34_1, s_34_4, s_34_5, s_34_6, s_34_7, s_34_10, s_34_12, s_34_15, s_34_16, s_34_17, s_34_20, s_34_21, s_34_22, s_34_25, s_34_28, s_34_29, s_34_30, s_34_33, s_34_34, s_34_35, s_34_36, s_34_39, s_34_40, s_34_43, s_34_44, s_34_47, s_34_48, s_34_49, s_34_52, s_34_53, s_34_56, s_34_57, amLong_I, amLong_R, amLong_N, amLong_L, cond_true, cond_false, Option.toList_some, Option.toList_none, List.cons_append, List.nil_append, List.append_nil, h, h0, hf, hs, e8, h4, h3, h5, h6, nI_s, al_110 Nat.one_pos, decide_true, Bool.and_self, Bool.or_true, show ((110 : Nat) == 99) = false from rfl, show Int32.ofNat (amLen 110) = nI 9 from rfl, show (100 : Nat) ≤ 110 from by decide, ← i_0, not_true_eq_false, not_false_eq_true, false_implies, true_implies, and_true, true_and, if_true, if_false, implies_true, Classical.not_not, true_or, or_true]
theorem c149_0 (hs : M 1352 0 0 = nI 0) : Call (d + 2) 149 [vR 7 0, vR 2 g] (M, J, (jk, 149, 147, X)) Q ↔ Q (some (vI (-1))) (M, J, (jk, 149, 147, X)) := by
  rw [e_149]
  simp only [s_149_0, s_149_1, s_149_4, s_149_7, s_149_8, s_149_9, s_149_10, s_149_11, s_149_14, s_149_15, s_149_16, s_149_19, s_149_20, s_149_21, s_149_22, s_149_25, s_149_28, s_149_31, s_149_32, s_149_35, amLong_I, amLong_R, amLong_N, amLong_L, cond_true, cond_false, Option.toList_some, Option.toList_none, List.cons_append, List.nil_append, List.append_nil, hs, ← i_0, not_true_eq_false, not_false_eq_true, false_implies, true_implies, and_true, true_and, if_true, if_false, implies_true, Classical.not_not, true_or, or_true]
theorem c149 {f n : Nat} (hf : M 1351 0 0 = nI f) (hs : M 1352 0 0 = nI (n + 1)) (h1 : f < 9) (h2 : n < 8) (hg : g < 13) : Call (d + 2) 149 [vR 7 0, vR 2 g] (M, J, (jk, 149, 147, X)) Q ↔ Q (some (vI (nI n))) (cpG (upM M 1352 0 0 (nI n)) g (slt f n), J, (jk, 149, 147, X)) := by
  have h3 := slt_lt h1 (show n < 9 by omega)
  have h4 : ¬ nI (n + 1) = 0 := nI_ne0 (by omega) (by omega)
  have h5 : (upM M 1352 0 0 (nI n)) 1351 0 0 = nI f := by rw [upM_ne (by omega)]; exact hf
  have h6 : (cpG (upM M 1352 0 0 (nI n)) g (slt f n)) 1352 0 0 = nI n := by
    unfold cpG
    rw [if_neg (by omega), upM_eq]
  rw [e_149]
  simp only [s_149_0, s_149_1, s_149_4, s_149_7, s_149_8, s_149_9, s_149_10, s_149_11, s_149_14, s_149_15, s_149_16, s_149_19, s_149_20, s_149_21, s_149_22, s_149_25, s_149_28, s_149_31, s_149_32, s_149_35, amLong_I, amLong_R, amLong_N, amLong_L, cond_true, cond_false, Option.toList_some, Option.toList_none, List.cons_append, List.nil_append, List.append_nil, hs, h4, nI_pred, upM_eq, hg, c21 h5 h1 (show n < 9 by omega), c22 hg h3, h6, not_true_eq_false, not_false_eq_true, false_implies, true_implies, and_true, true_and, if_true, if_false, implies_true, Classical.not_not, true_or, or_true]
end COPY
