/-! Game: contracts of what only reads -/
section GAME
variable {d g jk X : Nat} {M : amM} {J : amJ} {Q : Option amV → amS → Prop}
theorem c31 {x : Int32} (hg : g < 13) : Call (d + 1) 31 [vR 2 g, vI x] (M, J, (jk, 149, 147, X)) Q ↔ Q (some (vI (bI (0 ≤ x ∧ x < M 1105 g 0)))) (M, J, (jk, 149, 147, X)) := by
  rw [e_31]
  simp only [s_31_0, s_31_1, s_31_4, s_31_5, s_31_6, s_31_9, s_31_12, s_31_13, s_31_16, s_31_17, amLong_I, amLong_R, amLong_N, amLong_L, cond_true, cond_false, Option.toList_some, Option.toList_none, List.cons_append, List.nil_append, List.append_nil, hg, z01, o01, true_and]
  by_cases h1 : x < 0
  · have h2 : ¬ 0 ≤ x := Int32.not_le.mpr h1
    simp [h1, h2, bI]
  · have h2 : 0 ≤ x := Int32.not_lt.mp h1
    by_cases h3 : M 1105 g 0 ≤ x
    · have h4 : ¬ x < M 1105 g 0 := Int32.not_lt.mpr h3
      simp [h1, h3, h4, bI]
    · have h4 : x < M 1105 g 0 := Int32.not_le.mp h3
      simp [h1, h2, h3, h4, bI]
theorem c32 {x : Int32} (hg : g < 13) : Call (d + 1) 32 [vR 2 g, vI x] (M, J, (jk, 149, 147, X)) Q ↔ Q (some (vI (bI (0 ≤ x ∧ x < M 1106 g 0)))) (M, J, (jk, 149, 147, X)) := by
  rw [e_32]
  simp only [s_32_0, s_32_1, s_32_4, s_32_5, s_32_6, s_32_9, s_32_12, s_32_13, s_32_16, s_32_17, amLong_I, amLong_R, amLong_N, amLong_L, cond_true, cond_false, Option.toList_some, Option.toList_none, List.cons_append, List.nil_append, List.append_nil, hg, z01, o01, true_and]
  by_cases h1 : x < 0
  · have h2 : ¬ 0 ≤ x := Int32.not_le.mpr h1
    simp [h1, h2, bI]
  · have h2 : 0 ≤ x := Int32.not_lt.mp h1
    by_cases h3 : M 1106 g 0 ≤ x
    · have h4 : ¬ x < M 1106 g 0 := Int32.not_lt.mpr h3
      simp [h1, h3, h4, bI]
    · have h4 : x < M 1106 g 0 := Int32.not_le.mp h3
      simp [h1, h2, h3, h4, bI]
theorem c30 {x p : Int32} (hg : g < 13) : Call (d + 2) 30 [vR 2 g, vI x, vI p] (M, J, (jk, 149, 147, X)) Q ↔ Q (some (vI (bI ((0 ≤ x ∧ x < M 1105 g 0) ∧ (0 ≤ p ∧ p < M 1106 g 0))))) (M, J, (jk, 149, 147, X)) := by
  rw [e_30]
  simp only [s_30_0, s_30_1, s_30_2, s_30_5, s_30_8, s_30_9, s_30_10, s_30_13, s_30_16, s_30_17, s_30_20, s_30_21, amLong_I, amLong_R, amLong_N, amLong_L, cond_true, cond_false, Option.toList_some, Option.toList_none, List.cons_append, List.nil_append, List.append_nil, hg, c31, c32, z01, o01, true_and, bI_0, Classical.not_not]
  by_cases h1 : 0 ≤ x ∧ x < M 1105 g 0
  · by_cases h2 : 0 ≤ p ∧ p < M 1106 g 0
    · simp [h1, h2, bI]
    · simp [h1, h2, bI]
  · simp [h1, bI]
theorem c33 {i p : Nat} (hg : g < 13) (hi : i < 3) (hp : p < 9) : Call (d + 1) 33 [vR 2 g, vI (nI i), vI (nI p)] (M, J, (jk, 149, 147, X)) Q ↔ Q (some (vI (M 103 g (9 * i + p)))) (M, J, (jk, 149, 147, X)) := by
  have h1 : inb (nI (9 * i + p)) 27 := inb_nI (by omega) (by omega)
  rw [e_33]
  simp only [s_33_0, s_33_1, s_33_4, s_33_5, s_33_7, s_33_8, s_33_9, s_33_10, s_33_11, amLong_I, amLong_R, amLong_N, amLong_L, cond_true, cond_false, Option.toList_some, Option.toList_none, List.cons_append, List.nil_append, List.append_nil, hg, nI_x9, ok_103, h1, cl_nI (show 9 * i + p < 2 ^ 31 by omega), true_and]
theorem c51 {i p : Nat} (hg : g < 13) (hi : i < 3) (hp : p < 9) : Call (d + 1) 51 [vR 2 g, vI (nI i), vI (nI p)] (M, J, (jk, 149, 147, X)) Q ↔ Q (some (vI (M 102 g (9 * i + p)))) (M, J, (jk, 149, 147, X)) := by
  have h1 : inb (nI (9 * i + p)) 27 := inb_nI (by omega) (by omega)
  rw [e_51]
  simp only [s_51_0, s_51_1, s_51_4, s_51_5, s_51_7, s_51_8, s_51_9, s_51_10, s_51_11, amLong_I, amLong_R, amLong_N, amLong_L, cond_true, cond_false, Option.toList_some, Option.toList_none, List.cons_append, List.nil_append, List.append_nil, hg, nI_x9, ok_102, h1, cl_nI (show 9 * i + p < 2 ^ 31 by omega), true_and]
theorem c52 {i p sh b : Nat} (hg : g < 13) (hG : GS M g sh) (hi : i < plr sh) (hp : p < prf sh) : Call (d + 1) 52 [vR 2 g, vI (nI i), vI (nI p), vI (nI b)] (M, J, (jk, 149, 147, X)) Q ↔ Q (some (vI (nI (ins sh i p b)))) (M, J, (jk, 149, 147, X)) := by
  obtain ⟨h5, -, -, g3, g4⟩ := hG
  obtain ⟨⟨-, s2, -, s4⟩, s5⟩ := sh_ok sh h5
  obtain ⟨-, s6⟩ := s5 i hi
  obtain ⟨-, s7, -⟩ := s6 p hp
  have h1 : inb (nI (9 * i + p)) 27 := inb_nI (by omega) (by omega)
  have h2 : inb (nI i) 3 := inb_nI (by omega) (by omega)
  rw [e_52]
  simp only [s_52_0, s_52_1, s_52_2, s_52_3, s_52_6, s_52_7, s_52_9, s_52_10, s_52_11, s_52_12, s_52_13, s_52_14, s_52_15, s_52_18, s_52_19, s_52_20, s_52_21, s_52_22, amLong_I, amLong_R, amLong_N, amLong_L, cond_true, cond_false, Option.toList_some, Option.toList_none, List.cons_append, List.nil_append, List.append_nil, hg, nI_x9, ok_102, ok_101, h1, h2, cl_nI (show 9 * i + p < 2 ^ 31 by omega), cl_nI (show i < 2 ^ 31 by omega), true_and, g4 i p hi hp, (g3 i (by omega)).2, nI_ins s7]
theorem c71_loop {P : Nat} (hg : g < 13) (hP : M 1106 g 0 = nI P) (h9 : P ≤ 9) : ∀ (n k : Nat) (s : Int32), k + n = P → (Ev d 71 4 [some (vR 2 g), some (vI s), some (vI (nI k))] [] (M, J, (jk, 149, 147, X)) Q ↔ Q (some (vI (s + sumN (M 104 g) k n))) (M, J, (jk, 149, 147, X))) := by
  intro n
  induction n with
  | zero =>
    intro k s h
    have h1 : nI P ≤ nI k := nI_le (by omega) (by omega)
    rw [h_71_4]
    simp only [s_71_0, s_71_1, s_71_2, s_71_3, s_71_5, s_71_6, s_71_9, s_71_12, s_71_13, s_71_14, s_71_17, s_71_18, s_71_19, s_71_20, s_71_21, s_71_24, s_71_27, s_71_28, amLong_I, amLong_R, amLong_N, amLong_L, cond_true, cond_false, Option.toList_some, Option.toList_none, List.cons_append, List.nil_append, List.append_nil, hg, hP, h1, sumN, Int32.add_zero, not_true_eq_false, false_implies, and_true, true_implies]
  | succ n ih =>
    intro k s h
    have h1 : ¬ nI P ≤ nI k := nI_ge (by omega) (by omega)
    have h2 : inb (nI k) 9 := inb_nI (by omega) (by omega)
    rw [h_71_4]
    simp only [s_71_0, s_71_1, s_71_2, s_71_3, s_71_5, s_71_6, s_71_9, s_71_12, s_71_13, s_71_14, s_71_17, s_71_18, s_71_19, s_71_20, s_71_21, s_71_24, s_71_27, s_71_28, amLong_I, amLong_R, amLong_N, amLong_L, cond_true, cond_false, Option.toList_some, Option.toList_none, List.cons_append, List.nil_append, List.append_nil, hg, hP, h1, h2, ok_104, cl_nI (show k < 2 ^ 31 by omega), nI_s, false_implies, true_and, not_false_eq_true, true_implies]
    rw [ih (k + 1) (s + M 104 g k) (by omega), sumN, Int32.add_assoc]
theorem c71 {sh : Nat} (hg : g < 13) (hG : GS M g sh) : Call (d + 1) 71 [vR 2 g] (M, J, (jk, 149, 147, X)) Q ↔ Q (some (vI (sumN (M 104 g) 0 (prf sh)))) (M, J, (jk, 149, 147, X)) := by
  have h9 := (sh_ok sh hG.1).1.2.2.2
  rw [e_71]
  simp only [s_71_0, s_71_1, s_71_2, s_71_3, s_71_5, s_71_6, s_71_9, s_71_12, s_71_13, s_71_14, s_71_17, s_71_18, s_71_19, s_71_20, s_71_21, s_71_24, s_71_27, s_71_28, amLong_I, amLong_R, amLong_N, amLong_L, cond_true, cond_false, Option.toList_some, Option.toList_none, List.cons_append, List.nil_append, List.append_nil]
  rw [i_0, c71_loop hg hG.2.2.1 h9 (prf sh) 0 _ (by omega), ← i_0, Int32.zero_add]
/-- tokens times pays, together -/
theorem c67_loop {c i pl sh : Nat} (hg : g < 13) (hG : GS M g sh) (ht : tokA c i) (hpl : pl < 3) : ∀ (n k : Nat) (s : Int32), k + n = prf sh → (Ev d 67 5 [some (vR 2 g), some (vI (nI pl)), some (vR c i), some (vI s), some (vI (nI k))] [] (M, J, (jk, 149, 147, X)) Q ↔ Q (some (vI (s + sumN (fun p => M c i p * M 103 g (9 * pl + p)) k n))) (M, J, (jk, 149, 147, X))) := by
  have h9 := (sh_ok sh hG.1).1.2.2.2
  have hP := hG.2.2.1
  intro n
  induction n with
  | zero =>
    intro k s h
    have h1 : nI (prf sh) ≤ nI k := nI_le (by omega) (by omega)
    rw [h_67_5]
    simp only [s_67_0, s_67_1, s_67_2, s_67_3, s_67_7, s_67_8, s_67_11, s_67_14, s_67_15, s_67_16, s_67_18, s_67_19, s_67_20, s_67_23, s_67_24, s_67_26, s_67_27, s_67_29, s_67_30, s_67_31, s_67_32, s_67_33, s_67_34, s_67_37, s_67_40, s_67_41, amLong_I, amLong_R, amLong_N, amLong_L, cond_true, cond_false, Option.toList_some, Option.toList_none, List.cons_append, List.nil_append, List.append_nil, hg, hP, h1, sumN, Int32.add_zero, not_true_eq_false, false_implies, and_true, true_implies]
  | succ n ih =>
    intro k s h
    have h1 : ¬ nI (prf sh) ≤ nI k := nI_ge (by omega) (by omega)
    have h2 : inb (nI (9 * pl + k)) 27 := inb_nI (by omega) (by omega)
    have h3 := tokA_ok (X := X) ht (show k < 9 by omega)
    rw [h_67_5]
    simp only [s_67_0, s_67_1, s_67_2, s_67_3, s_67_7, s_67_8, s_67_11, s_67_14, s_67_15, s_67_16, s_67_18, s_67_19, s_67_20, s_67_23, s_67_24, s_67_26, s_67_27, s_67_29, s_67_30, s_67_31, s_67_32, s_67_33, s_67_34, s_67_37, s_67_40, s_67_41, amLong_I, amLong_R, amLong_N, amLong_L, cond_true, cond_false, Option.toList_some, Option.toList_none, List.cons_append, List.nil_append, List.append_nil, hg, hP, h1, h2, h3, nI_x9, ok_103, cl_nI (show 9 * pl + k < 2 ^ 31 by omega), cl_nI (show k < 2 ^ 31 by omega), nI_s, false_implies, true_and, not_false_eq_true, true_implies]
    rw [ih (k + 1) _ (by omega), sumN, Int32.add_assoc]
theorem c67 {c i pl sh : Nat} (hg : g < 13) (hG : GS M g sh) (ht : tokA c i) (hpl : pl < 3) : Call (d + 1) 67 [vR 2 g, vI (nI pl), vR c i] (M, J, (jk, 149, 147, X)) Q ↔ Q (some (vI (sumN (fun p => M c i p * M 103 g (9 * pl + p)) 0 (prf sh)))) (M, J, (jk, 149, 147, X)) := by
  rw [e_67]
  simp only [s_67_0, s_67_1, s_67_2, s_67_3, s_67_7, s_67_8, s_67_11, s_67_14, s_67_15, s_67_16, s_67_18, s_67_19, s_67_20, s_67_23, s_67_24, s_67_26, s_67_27, s_67_29, s_67_30, s_67_31, s_67_32, s_67_33, s_67_34, s_67_37, s_67_40, s_67_41, amLong_I, amLong_R, amLong_N, amLong_L, cond_true, cond_false, Option.toList_some, Option.toList_none, List.cons_append, List.nil_append, List.append_nil]
  rw [i_0, c67_loop hg hG ht hpl (prf sh) 0 _ (by omega), ← i_0, Int32.zero_add]
end GAME
