/-! Game: contracts of what only reads -/
section GAME
variable {d g jk X : Nat} {M : amM} {J : amJ} {Q : Option amV → amS → Prop}
theorem c31 {x : Int32} (hg : g < 13) : Call (d + 1) 31 [vR 2 g, vI x] (M, J, (jk, 149, 147, X)) Q ↔ Q (some (vI (bI (0 ≤ x ∧ x < M 1105 g 0)))) (M, J, (jk, 149, 147, X)) := by
  rw [e_31]
  simp only [s_31_0, s_31_1, s_31_4, s_31_5, s_31_6, s_31_9, s_31_12, s_31_13, s_31_16, s_31_17, amLong_I, amLong_R, amLong_N, amLong_L, cond_true, cond_false, Option.toList_some, Option.toList_none, List.cons_append, List.nil_append, List.append_nil, hg, z01, o01, true_and]
  by_cases h1 : x < 0
  · have h2 : ¬ 0 ≤ x := Int32.not_le.mpr h1
    simp [h1, h2, bI]
  · have h2 : 0 ≤ x := Int32.not_lt.mp h1
    by_cases h3 : M 1105 g 0 ≤ x
    · have h4 : ¬ x < M 1105 g 0 := Int32.not_lt.mpr h3
      simp [h1, h3, h4, bI]
    · have h4 : x < M 1105 g 0 := Int32.not_le.mp h3
      simp [h1, h2, h3, h4, bI]
theorem c32 {x : Int32} (hg : g < 13) : Call (d + 1) 32 [vR 2 g, vI x] (M, J, (jk, 149, 147, X)) Q ↔ Q (some (vI (bI (0 ≤ x ∧ x < M 1106 g 0)))) (M, J, (jk, 149, 147, X)) := by
  rw [e_32]
  simp only [s_32_0, s_32_1, s_32_4, s_32_5, s_32_6, s_32_9, s_32_12, s_32_13, s_32_16, s_32_17, amLong_I, amLong_R, amLong_N, amLong_L, cond_true, cond_false, Option.toList_some, Option.toList_none, List.cons_append, List.nil_append, List.append_nil, hg, z01, o01, true_and]
  by_cases h1 : x < 0
  · have h2 : ¬ 0 ≤ x := Int32.not_le.mpr h1
    simp [h1, h2, bI]
  · have h2 : 0 ≤ x := Int32.not_lt.mp h1
    by_cases h3 : M 1106 g 0 ≤ x
    · have h4 : ¬ x < M 1106 g 0 := Int32.not_lt.mpr h3
      simp [h1, h3, h4, bI]
    · have h4 : x < M 1106 g 0 := Int32.not_le.mp h3
      simp [h1, h2, h3, h4, bI]
theorem c30 {x p : Int32} (hg : g < 13) : Call (d + 2) 30 [vR 2 g, vI x, vI p] (M, J, (jk, 149, 147, X)) Q ↔ Q (some (vI (bI ((0 ≤ x ∧ x < M 1105 g 0) ∧ (0 ≤ p ∧ p < M 1106 g 0))))) (M, J, (jk, 149, 147, X)) := by
  rw [e_30]
  simp only [s_30_0, s_30_1, s_30_2, s_30_5, s_30_8, s_30_9, s_30_10, s_30_13, s_30_16, s_30_17, s_30_20, s_30_21, amLong_I, amLong_R, amLong_N, amLong_L, cond_true, cond_false, Option.toList_some, Option.toList_none, List.cons_append, List.nil_append, List.append_nil, hg, c31, c32, z01, o01, true_and, bI_0, Classical.not_not]
  by_cases h1 : 0 ≤ x ∧ x < M 1105 g 0
  · by_cases h2 : 0 ≤ p ∧ p < M 1106 g 0
    · simp [h1, h2, bI]
    · simp [h1, h2, bI]
  · simp [h1, bI]
theorem c33 {i p : Nat} (hg : g < 13) (hi : i < 3) (hp : p < 9) : Call (d + 1) 33 [vR 2 g, vI (nI i), vI (nI p)] (M, J, (jk, 149, 147, X)) Q ↔ Q (some (vI (M 103 g (9 * i + p)))) (M, J, (jk, 149, 147, X)) := by
  have h1 : inb (nI (9 * i + p)) 27 := inb_nI (by omega) (by omega)
  rw [e_33]
  simp only [s_33_0, s_33_1, s_33_4, s_33_5, s_33_7, s_33_8, s_33_9, s_33_10, s_33_11, amLong_I, amLong_R, amLong_N, amLong_L, cond_true, cond_false, Option.toList_some, Option.toList_none, List.cons_append, List.nil_append, List.append_nil, hg, nI_x9, ok_103, h1, cl_nI (show 9 * i + p < 2 ^ 31 by omega), true_and]
theorem c51 {i p : Nat} (hg : g < 13) (hi : i < 3) (hp : p < 9) : Call (d + 1) 51 [vR 2 g, vI (nI i), vI (nI p)] (M, J, (jk, 149, 147, X)) Q ↔ Q (some (vI (M 102 g (9 * i + p)))) (M, J, (jk, 149, 147, X)) := by
  have h1 : inb (nI (9 * i + p)) 27 := inb_nI (by omega) (by omega)
  rw [e_51]
  simp only [s_51_0, s_51_1, s_51_4, s_51_5, s_51_7, s_51_8, s_51_9, s_51_10, s_51_11, amLong_I, amLong_R, amLong_N, amLong_L, cond_true, cond_false, Option.toList_some, Option.toList_none, List.cons_append, List.nil_append, List.append_nil, hg, nI_x9, ok_102, h1, cl_nI (show 9 * i + p < 2 ^ 31 by omega), true_and]
theorem c52 {i p sh b : Nat} (hg : g < 13) (hG : GS M g sh) (hi : i < plr sh) (hp : p < prf sh) : Call (d + 1) 52 [vR 2 g, vI (nI i), vI (nI p), vI (nI b)] (M, J, (jk, 149, 147, X)) Q ↔ Q (some (vI (nI (ins sh i p b)))) (M, J, (jk, 149, 147, X)) := by
  obtain ⟨h5, -, -, g3, g4⟩ := hG
  obtain ⟨⟨-, s2, -, s4⟩, s5⟩ := sh_ok sh h5
  obtain ⟨-, s6⟩ := s5 i hi
  obtain ⟨-, s7, -⟩ := s6 p hp
  have h1 : inb (nI (9 * i + p)) 27 := inb_nI (by omega) (by omega)
  have h2 : inb (nI i) 3 := inb_nI (by omega) (by omega)
  rw [e_52]
  simp only [s_52_0, s_52_1, s_52_2, s_52_3, s_52_6, s_52_7, s_52_9, s_52_10, s_52_11, s_52_12, s_52_13, s_52_14, s_52_15, s_52_18, s_52_19, s_52_20, s_52_21, s_52_22, amLong_I, amLong_R, amLong_N, amLong_L, cond_true, cond_false, Option.toList_some, Option.toList_none, List.cons_append, List.nil_append, List.append_nil, hg, nI_x9, ok_102, ok_101, h1, h2, cl_nI (show 9 * i + p < 2 ^ 31 by omega), cl_nI (show i < 2 ^ 31 by omega), true_and, g4 i p hi hp, (g3 i (by omega)).2, nI_ins s7]
theorem c71_loop {P : Nat} (hg : g < 13) (hP : M 1106 g 0 = nI P) (h9 : P ≤ 9) : ∀ (n k : Nat) (s : Int32), k + n = P → (Ev d 71 4 [some (vR 2 g), some (vI s), some (vI (nI k))] [] (M, J, (jk, 149, 147, X)) Q ↔ Q (some (vI (s + sumN (M 104 g) k n))) (M, J, (jk, 149, 147, X))) := by
  intro n
  induction n with
  | zero =>
    intro k s h
    have h1 : nI P ≤ nI k := nI_le (by omega) (by omega)
    rw [h_71_4]
    simp only [s_71_0, s_71_1, s_71_2, s_71_3, s_71_5, s_71_6, s_71_9, s_71_12, s_71_13, s_71_14, s_71_17, s_71_18, s_71_19, s_71_20, s_71_21, s_71_24, s_71_27, s_71_28, amLong_I, amLong_R, amLong_N, amLong_L, cond_true, cond_false, Option.toList_some, Option.toList_none, List.cons_append, List.nil_append, List.append_nil, hg, hP, h1, sumN, Int32.add_zero, not_true_eq_false, false_implies, and_true, true_implies]
  | succ n ih =>
    intro k s h
    have h1 : ¬ nI P ≤ nI k := nI_ge (by omega) (by omega)
    have h2 : inb (nI k) 9 := inb_nI (by omega) (by omega)
    rw [h_71_4]
    simp only [s_71_0, s_71_1, s_71_2, s_71_3, s_71_5, s_71_6, s_71_9, s_71_12, s_71_13, s_71_14, s_71_17, s_71_18, s_71_19, s_71_20, s_71_21, s_71_24, s_71_27, s_71_28, amLong_I, amLong_R, amLong_N, amLong_L, cond_true, cond_false, Option.toList_some, Option.toList_none, List.cons_append, List.nil_append, List.append_nil, hg, hP, h1, h2, ok_104, cl_nI (show k < 2 ^ 31 by omega), nI_s, false_implies, true_and, not_false_eq_true, true_implies]
    rw [ih (k + 1) (s + M 104 g k) (by omega), sumN, Int32.add_assoc]
theorem c71 {sh : Nat} (hg : g < 13) (hG : GS M g sh) : Call (d + 1) 71 [vR 2 g] (M, J, (jk, 149, 147, X)) Q ↔ Q (some (vI (sumN (M 104 g) 0 (prf sh)))) (M, J, (jk, 149, 147, X)) := by
  have h9 := (sh_ok sh hG.1).1.2.2.2
  rw [e_71]
  simp only [s_71_0, s_71_1, s_71_2, s_71_3, s_71_5, s_71_6, s_71_9, s_71_12, s_71_13, s_71_14, s_71_17, s_71_18, s_71_19, s_71_20, s_71_21, s_71_24, s_71_27, s_71_28, amLong_I, amLong_R, amLong_N, amLong_L, cond_true, cond_false, Option.toList_some, Option.toList_none, List.cons_append, List.nil_append, List.append_nil]
  rw [i_0, c71_loop hg hG.2.2.1 h9 (prf sh) 0 _ (by omega), ← i_0, Int32.zero_add]
/-- tokens times pays, together -/
theorem c67_loop {c i pl sh : Nat} (hg : g < 13) (hG : GS M g sh) (ht : tokA c i) (hpl : pl < 3) : ∀ (n k : Nat) (s : Int32), k + n = prf sh → (Ev d 67 5 [some (vR 2 g), some (vI (nI pl)), some (vR c i), some (vI s), some (vI (nI k))] [] (M, J, (jk, 149, 147, X)) Q ↔ Q (some (vI (s + sumN (fun p => M c i p * M 103 g (9 * pl + p)) k n))) (M, J, (jk, 149, 147, X))) := by
  have h9 := (sh_ok sh hG.1).1.2.2.2
  have hP := hG.2.2.1
  intro n
  induction n with
  | zero =>
    intro k s h
    have h1 : nI (prf sh) ≤ nI k := nI_le (by omega) (by omega)
    rw [h_67_5]
    simp only [s_67_0, s_67_1, s_67_2, s_67_3, s_67_7, s_67_8, s_67_11, s_67_14, s_67_15, s_67_16, s_67_18, s_67_19, s_67_20, s_67_23, s_67_24, s_67_26, s_67_27, s_67_29, s_67_30, s_67_31, s_67_32, s_67_33, s_67_34, s_67_37, s_67_40, s_67_41, amLong_I, amLong_R, amLong_N, amLong_L, cond_true, cond_false, Option.toList_some, Option.toList_none, List.cons_append, List.nil_append, List.append_nil, hg, hP, h1, sumN, Int32.add_zero, not_true_eq_false, false_implies, and_true, true_implies]
  | succ n ih =>
    intro k s h
    have h1 : ¬ nI (prf sh) ≤ nI k := nI_ge (by omega) (by omega)
    have h2 : inb (nI (9 * pl + k)) 27 := inb_nI (by omega) (by omega)
    have h3 := tokA_ok (X := X) ht (show k < 9 by omega)
    rw [h_67_5]
    simp only [s_67_0, s_67_1, s_67_2, s_67_3, s_67_7, s_67_8, s_67_11, s_67_14, s_67_15, s_67_16, s_67_18, s_67_19, s_67_20, s_67_23, s_67_24, s_67_26, s_67_27, s_67_29, s_67_30, s_67_31, s_67_32, s_67_33, s_67_34, s_67_37, s_67_40, s_67_41, amLong_I, amLong_R, amLong_N, amLong_L, cond_true, cond_false, Option.toList_some, Option.toList_none, List.cons_append, List.nil_append, List.append_nil, hg, hP, h1, h2, h3, nI_x9, ok_103, cl_nI (show 9 * pl + k < 2 ^ 31 by omega), cl_nI (show k < 2 ^ 31 by omega), nI_s, false_implies, true_and, not_false_eq_true, true_implies]
    rw [ih (k + 1) _ (by omega), sumN, Int32.add_assoc]
theorem c67 {c i pl sh : Nat} (hg : g < 13) (hG : GS M g sh) (ht : tokA c i) (hpl : pl < 3) : Call (d + 1) 67 [vR 2 g, vI (nI pl), vR c i] (M, J, (jk, 149, 147, X)) Q ↔ Q (some (vI (sumN (fun p => M c i p * M 103 g (9 * pl + p)) 0 (prf sh)))) (M, J, (jk, 149, 147, X)) := by
  rw [e_67]
  simp only [s_67_0, s_67_1, s_67_2, s_67_3, s_67_7, s_67_8, s_67_11, s_67_14, s_67_15, s_67_16, s_67_18, s_67_19, s_67_20, s_67_23, s_67_24, s_67_26, s_67_27, s_67_29, s_67_30, s_67_31, s_67_32, s_67_33, s_67_34, s_67_37, s_67_40, s_67_41, amLong_I, amLong_R, amLong_N, amLong_L, cond_true, cond_false, Option.toList_some, Option.toList_none, List.cons_append, List.nil_append, List.append_nil]
  rw [i_0, c67_loop hg hG ht hpl (prf sh) 0 _ (by omega), ← i_0, Int32.zero_add]
end GAME
section GAME2
variable {d g jk X : Nat} {M : amM} {J : amJ} {Q : Option amV → amS → Prop}
theorem GS.lim {sh : Nat} (hG : GS M g sh) : (2 ≤ plr sh ∧ plr sh ≤ 3 ∧ 4 ≤ prf sh ∧ prf sh ≤ 9) := (sh_ok sh hG.1).1
theorem c45 {sh : Nat} {y x : Int32} (hg : g < 13) (hG : GS M g sh) : Call (d + 2) 45 [vR 2 g, vI y, vI x] (M, J, (jk, 149, 147, X)) Q ↔ Q (some (vI (bI ((0 ≤ y ∧ y < nI (plr sh)) ∧ (0 ≤ x ∧ x < nI (hsN sh y.toNatClampNeg)))))) (M, J, (jk, 149, 147, X)) := by
  obtain ⟨l1, l2, l3, l4⟩ := hG.lim
  rw [e_45]
  simp only [s_45_0, s_45_1, s_45_2, s_45_5, s_45_8, s_45_9, s_45_12, s_45_13, s_45_14, s_45_17, s_45_18, s_45_19, s_45_22, s_45_23, s_45_26, s_45_27, amLong_I, amLong_R, amLong_N, amLong_L, cond_true, cond_false, Option.toList_some, Option.toList_none, List.cons_append, List.nil_append, List.append_nil, hg, c31, z01, o01, true_and, bI_0, Classical.not_not, hG.2.1]
  by_cases h1 : 0 ≤ y ∧ y < nI (plr sh)
  · obtain ⟨a, ha, rfl⟩ := (in_iff (by omega)).mp h1
    have h2 : inb (nI a) 3 := inb_nI (by omega) (by omega)
    simp only [h1, not_true_eq_false, false_implies, true_implies, true_and, ok_100, hg, h2, cl_nI (show a < 2 ^ 31 by omega), (hG.2.2.2.1 a (by omega)).1]
    by_cases h3 : x < 0
    · have h4 : ¬ 0 ≤ x := Int32.not_le.mpr h3
      simp [h3, h4, bI]
    · have h4 : 0 ≤ x := Int32.not_lt.mp h3
      by_cases h5 : nI (hsN sh a) ≤ x
      · have h6 : ¬ x < nI (hsN sh a) := Int32.not_lt.mpr h5
        simp [h3, h5, h6, bI]
      · have h6 : x < nI (hsN sh a) := Int32.not_le.mp h5
        simp [h3, h4, h5, h6, bI]
  · simp [h1, bI]
theorem c5 {sh a b c : Nat} (hg : g < 13) (hG : GS M g sh) : Call (d + 1) 5 [vR 2 g, vI (nI a), vI (nI b), vI (nI c)] (M, J, (jk, 149, 147, X)) Q ↔ Q (some (vI (nI (a * srN sh 0 + b * srN sh 1 + c * srN sh 2)))) (M, J, (jk, 149, 147, X)) := by
  have hz : ∀ i : Nat, i < 3 → inb (nI i) 3 := fun i hi => inb_nI hi (by omega)
  rw [e_5]
  simp only [s_5_0, s_5_1, s_5_2, s_5_5, s_5_6, s_5_7, s_5_8, s_5_9, s_5_10, s_5_13, s_5_14, s_5_15, s_5_16, s_5_17, s_5_18, s_5_19, s_5_22, s_5_23, s_5_24, s_5_25, s_5_26, amLong_I, amLong_R, amLong_N, amLong_L, cond_true, cond_false, Option.toList_some, Option.toList_none, List.cons_append, List.nil_append, List.append_nil, hg, i_0, i_1, show (2 : Int32) = nI 2 from rfl, ok_101, hz 0 (by decide), hz 1 (by decide), hz 2 (by decide), cl_nI (show 0 < 2 ^ 31 by decide), cl_nI (show 1 < 2 ^ 31 by decide), cl_nI (show 2 < 2 ^ 31 by decide), true_and, (hG.2.2.2.1 0 (by decide)).2, (hG.2.2.2.1 1 (by decide)).2, (hG.2.2.2.1 2 (by decide)).2, pk_mul, nI_add]
theorem c62 {c i pl a sh : Nat} (hg : g < 13) (hG : GS M g sh) (ht : tokA c i) (hpl : pl < plr sh) (ha : a < 3) : Call (d + 2) 62 [vR 2 g, vI (nI pl), vI (nI a), vR c i] (M, J, (jk, 149, 147, X)) Q ↔ Q (some (vI (sumN (fun p => if act sh pl p = a then M c i p else 0) 0 (prf sh)))) (M, J, (jk, 149, 147, X)) := by
  obtain ⟨l1, l2, l3, l4⟩ := hG.lim
  rw [e_62]
  simp only [s_62_0, s_62_1, s_62_3, s_62_4, s_62_8, s_62_9, s_62_12, s_62_15, s_62_17, s_62_18, s_62_19, s_62_21, s_62_24, s_62_25, s_62_28, s_62_29, s_62_31, s_62_32, s_62_35, s_62_36, s_62_37, s_62_39, s_62_42, s_62_45, s_62_47, amLong_I, amLong_R, amLong_N, amLong_L, cond_true, cond_false, Option.toList_some, Option.toList_none, List.cons_append, List.nil_append, List.append_nil]
  have key := lpF (P := prf sh) (E := fun k s => Ev (d + 1) 62 6 [some (vR 2 g), some (vI (nI pl)), some (vI (nI a)), some (vR c i), some (vI s), some (vI (nI k))] [] (M, J, (jk, 149, 147, X)) Q) (F := fun s => Q (some (vI s)) (M, J, (jk, 149, 147, X))) (f := fun p s => s + (if act sh pl p = a then M c i p else 0)) (fun s => ?_) (fun k s hk => ?_) (prf sh) 0 0 (by omega)
  · rw [foldN_sum, Int32.zero_add] at key
    exact key
  · have h1 : nI (prf sh) ≤ nI (prf sh) := Int32.le_refl _
    try dsimp only
    rw [h_62_6]
    simp only [s_62_0, s_62_1, s_62_3, s_62_4, s_62_8, s_62_9, s_62_12, s_62_15, s_62_17, s_62_18, s_62_19, s_62_21, s_62_24, s_62_25, s_62_28, s_62_29, s_62_31, s_62_32, s_62_35, s_62_36, s_62_37, s_62_39, s_62_42, s_62_45, s_62_47, amLong_I, amLong_R, amLong_N, amLong_L, cond_true, cond_false, Option.toList_some, Option.toList_none, List.cons_append, List.nil_append, List.append_nil, hg, hG.2.2.1, h1, not_true_eq_false, false_implies, and_true, true_implies]
  · have h1 : ¬ nI (prf sh) ≤ nI k := nI_ge hk (by omega)
    have h3 := tokA_ok (X := X) ht (show k < 9 by omega)
    have h4 := ((sh_ok sh hG.1).2 pl hpl).2 k hk
    have h5 := ((sh_ok sh hG.1).2 pl hpl).1
    try dsimp only
    rw [h_62_6]
    simp only [s_62_0, s_62_1, s_62_3, s_62_4, s_62_8, s_62_9, s_62_12, s_62_15, s_62_17, s_62_18, s_62_19, s_62_21, s_62_24, s_62_25, s_62_28, s_62_29, s_62_31, s_62_32, s_62_35, s_62_36, s_62_37, s_62_39, s_62_42, s_62_45, s_62_47, amLong_I, amLong_R, amLong_N, amLong_L, cond_true, cond_false, Option.toList_some, Option.toList_none, List.cons_append, List.nil_append, List.append_nil, hg, hG.2.2.1, h1, false_implies, true_and, not_false_eq_true, true_implies, c51 hg (show pl < 3 by omega) (show k < 9 by omega), hG.2.2.2.2 pl k hpl hk, h3, cl_nI (show k < 2 ^ 31 by omega), nI_s, nI_eq (show act sh pl k < 2 ^ 31 by omega) (show a < 2 ^ 31 by omega)]
    by_cases h6 : act sh pl k = a
    · simp only [h6, not_true_eq_false, not_false_eq_true, false_implies, true_implies, and_true, true_and, if_true, if_false, implies_true, Classical.not_not, true_or, or_true]
    · simp only [h6, not_true_eq_false, not_false_eq_true, false_implies, true_implies, and_true, true_and, if_true, if_false, implies_true, Classical.not_not, true_or, or_true]
theorem c68 {c i sh : Nat} (hg : g < 13) (hG : GS M g sh) (ht : tokA c i) : Call (d + 2) 68 [vR 2 g, vR c i] (M, J, (jk, 149, 147, X)) Q ↔ Q (some (vI (sumN (fun pl => sumN (fun p => M c i p * M 103 g (9 * pl + p)) 0 (prf sh)) 0 (plr sh)))) (M, J, (jk, 149, 147, X)) := by
  obtain ⟨l1, l2, l3, l4⟩ := hG.lim
  rw [e_68]
  simp only [s_68_0, s_68_1, s_68_2, s_68_3, s_68_5, s_68_6, s_68_9, s_68_12, s_68_13, s_68_14, s_68_15, s_68_16, s_68_19, s_68_20, s_68_21, s_68_24, s_68_27, s_68_28, amLong_I, amLong_R, amLong_N, amLong_L, cond_true, cond_false, Option.toList_some, Option.toList_none, List.cons_append, List.nil_append, List.append_nil]
  have key := lpF (P := plr sh) (E := fun k s => Ev (d + 1) 68 4 [some (vR 2 g), some (vR c i), some (vI s), some (vI (nI k))] [] (M, J, (jk, 149, 147, X)) Q) (F := fun s => Q (some (vI s)) (M, J, (jk, 149, 147, X))) (f := fun pl s => s + (sumN (fun p => M c i p * M 103 g (9 * pl + p)) 0 (prf sh))) (fun s => ?_) (fun k s hk => ?_) (plr sh) 0 0 (by omega)
  · rw [foldN_sum, Int32.zero_add] at key
    exact key
  · have h1 : nI (plr sh) ≤ nI (plr sh) := Int32.le_refl _
    try dsimp only
    rw [h_68_4]
    simp only [s_68_0, s_68_1, s_68_2, s_68_3, s_68_5, s_68_6, s_68_9, s_68_12, s_68_13, s_68_14, s_68_15, s_68_16, s_68_19, s_68_20, s_68_21, s_68_24, s_68_27, s_68_28, amLong_I, amLong_R, amLong_N, amLong_L, cond_true, cond_false, Option.toList_some, Option.toList_none, List.cons_append, List.nil_append, List.append_nil, hg, hG.2.1, h1, not_true_eq_false, false_implies, and_true, true_implies]
  · have h1 : ¬ nI (plr sh) ≤ nI k := nI_ge hk (by omega)
    try dsimp only
    rw [h_68_4]
    simp only [s_68_0, s_68_1, s_68_2, s_68_3, s_68_5, s_68_6, s_68_9, s_68_12, s_68_13, s_68_14, s_68_15, s_68_16, s_68_19, s_68_20, s_68_21, s_68_24, s_68_27, s_68_28, amLong_I, amLong_R, amLong_N, amLong_L, cond_true, cond_false, Option.toList_some, Option.toList_none, List.cons_append, List.nil_append, List.append_nil, hg, hG.2.1, h1, false_implies, true_and, not_false_eq_true, true_implies, c67 hg hG ht (show k < 3 by omega), nI_s]
/-- the least of several -/
def minN (f : Nat → Int32) : Nat → Nat → Int32 → Int32
  | _, 0, a => a
  | k, n + 1, a => minN f (k + 1) n (if f k < a then f k else a)
theorem foldN_min (g : Nat → Int32) : ∀ (n k : Nat) (a : Int32), foldN (fun p s => if g p < s then g p else s) k n a = minN g k n a
  | 0, k, a => rfl
  | n + 1, k, a => foldN_min g n (k + 1) _
theorem c69 {c i sh : Nat} (hg : g < 13) (hG : GS M g sh) (ht : tokA c i) : Call (d + 2) 69 [vR 2 g, vR c i] (M, J, (jk, 149, 147, X)) Q ↔ Q (some (vI (minN (fun pl => sumN (fun p => M c i p * M 103 g (9 * pl + p)) 0 (prf sh)) 1 (plr sh - 1) (sumN (fun p => M c i p * M 103 g (9 * 0 + p)) 0 (prf sh))))) (M, J, (jk, 149, 147, X)) := by
  obtain ⟨l1, l2, l3, l4⟩ := hG.lim
  rw [e_69]
  simp only [s_69_0, s_69_1, s_69_2, s_69_3, s_69_6, s_69_7, s_69_8, s_69_10, s_69_11, s_69_14, s_69_17, s_69_18, s_69_19, s_69_20, s_69_21, s_69_24, s_69_27, s_69_28, s_69_31, s_69_34, s_69_35, amLong_I, amLong_R, amLong_N, amLong_L, cond_true, cond_false, Option.toList_some, Option.toList_none, List.cons_append, List.nil_append, List.append_nil, hg, i_0, c67 hg hG ht (show 0 < 3 by decide), i_1]
  have key := lpF (P := plr sh) (E := fun k s => Ev (d + 1) 69 9 [some (vR 2 g), some (vR c i), some (vI s), some (vI (nI k))] [] (M, J, (jk, 149, 147, X)) Q) (F := fun s => Q (some (vI s)) (M, J, (jk, 149, 147, X))) (f := fun pl s => if sumN (fun p => M c i p * M 103 g (9 * pl + p)) 0 (prf sh) < s then sumN (fun p => M c i p * M 103 g (9 * pl + p)) 0 (prf sh) else s) (fun s => ?_) (fun k s hk => ?_) (plr sh - 1) 1 (sumN (fun p => M c i p * M 103 g (9 * 0 + p)) 0 (prf sh)) (by omega)
  · rw [foldN_min] at key
    exact key
  · have h1 : nI (plr sh) ≤ nI (plr sh) := Int32.le_refl _
    try dsimp only
    rw [h_69_9]
    simp only [s_69_0, s_69_1, s_69_2, s_69_3, s_69_6, s_69_7, s_69_8, s_69_10, s_69_11, s_69_14, s_69_17, s_69_18, s_69_19, s_69_20, s_69_21, s_69_24, s_69_27, s_69_28, s_69_31, s_69_34, s_69_35, amLong_I, amLong_R, amLong_N, amLong_L, cond_true, cond_false, Option.toList_some, Option.toList_none, List.cons_append, List.nil_append, List.append_nil, hg, hG.2.1, h1, not_true_eq_false, false_implies, and_true, true_implies]
  · have h1 : ¬ nI (plr sh) ≤ nI k := nI_ge hk (by omega)
    try dsimp only
    rw [h_69_9]
    simp only [s_69_0, s_69_1, s_69_2, s_69_3, s_69_6, s_69_7, s_69_8, s_69_10, s_69_11, s_69_14, s_69_17, s_69_18, s_69_19, s_69_20, s_69_21, s_69_24, s_69_27, s_69_28, s_69_31, s_69_34, s_69_35, amLong_I, amLong_R, amLong_N, amLong_L, cond_true, cond_false, Option.toList_some, Option.toList_none, List.cons_append, List.nil_append, List.append_nil, hg, hG.2.1, h1, false_implies, true_and, not_false_eq_true, true_implies, c67 hg hG ht (show k < 3 by omega), nI_s]
theorem c85 {p sh : Nat} (hg : g < 13) (hG : GS M g sh) (hp : p < 9) : Call (d + 2) 85 [vR 2 g, vI (nI p)] (M, J, (jk, 149, 147, X)) Q ↔ Q (some (vI (sumN (fun pl => M 103 g (9 * pl + p)) 0 (plr sh)))) (M, J, (jk, 149, 147, X)) := by
  obtain ⟨l1, l2, l3, l4⟩ := hG.lim
  rw [e_85]
  simp only [s_85_0, s_85_1, s_85_2, s_85_3, s_85_5, s_85_6, s_85_9, s_85_12, s_85_13, s_85_14, s_85_15, s_85_16, s_85_19, s_85_20, s_85_21, s_85_24, s_85_27, s_85_28, amLong_I, amLong_R, amLong_N, amLong_L, cond_true, cond_false, Option.toList_some, Option.toList_none, List.cons_append, List.nil_append, List.append_nil]
  have key := lpF (P := plr sh) (E := fun k s => Ev (d + 1) 85 4 [some (vR 2 g), some (vI (nI p)), some (vI s), some (vI (nI k))] [] (M, J, (jk, 149, 147, X)) Q) (F := fun s => Q (some (vI s)) (M, J, (jk, 149, 147, X))) (f := fun pl s => s + M 103 g (9 * pl + p)) (fun s => ?_) (fun k s hk => ?_) (plr sh) 0 0 (by omega)
  · rw [foldN_sum, Int32.zero_add] at key
    exact key
  · have h1 : nI (plr sh) ≤ nI (plr sh) := Int32.le_refl _
    try dsimp only
    rw [h_85_4]
    simp only [s_85_0, s_85_1, s_85_2, s_85_3, s_85_5, s_85_6, s_85_9, s_85_12, s_85_13, s_85_14, s_85_15, s_85_16, s_85_19, s_85_20, s_85_21, s_85_24, s_85_27, s_85_28, amLong_I, amLong_R, amLong_N, amLong_L, cond_true, cond_false, Option.toList_some, Option.toList_none, List.cons_append, List.nil_append, List.append_nil, hg, hG.2.1, h1, not_true_eq_false, false_implies, and_true, true_implies]
  · have h1 : ¬ nI (plr sh) ≤ nI k := nI_ge hk (by omega)
    try dsimp only
    rw [h_85_4]
    simp only [s_85_0, s_85_1, s_85_2, s_85_3, s_85_5, s_85_6, s_85_9, s_85_12, s_85_13, s_85_14, s_85_15, s_85_16, s_85_19, s_85_20, s_85_21, s_85_24, s_85_27, s_85_28, amLong_I, amLong_R, amLong_N, amLong_L, cond_true, cond_false, Option.toList_some, Option.toList_none, List.cons_append, List.nil_append, List.append_nil, hg, hG.2.1, h1, false_implies, true_and, not_false_eq_true, true_implies, c33 hg (show k < 3 by omega) hp, nI_s]
theorem c88 {pl a sh : Nat} (hg : g < 13) (hG : GS M g sh) (hpl : pl < plr sh) (ha : a < 3) : Call (d + 2) 88 [vR 2 g, vI (nI pl), vI (nI a)] (M, J, (jk, 149, 147, X)) Q ↔ Q (some (vI (foldN (fun p s => if act sh pl p = a then (if M 103 g (9 * pl + p) < s then M 103 g (9 * pl + p) else s) else s) 0 (prf sh) 9))) (M, J, (jk, 149, 147, X)) := by
  obtain ⟨l1, l2, l3, l4⟩ := hG.lim
  rw [e_88]
  simp only [s_88_0, s_88_2, s_88_3, s_88_4, s_88_8, s_88_9, s_88_12, s_88_15, s_88_16, s_88_17, s_88_19, s_88_22, s_88_23, s_88_26, s_88_27, s_88_28, s_88_29, s_88_31, s_88_34, s_88_37, s_88_38, s_88_41, s_88_44, s_88_45, amLong_I, amLong_R, amLong_N, amLong_L, cond_true, cond_false, Option.toList_some, Option.toList_none, List.cons_append, List.nil_append, List.append_nil]
  refine lpF (P := prf sh) (E := fun k s => Ev (d + 1) 88 6 [some (vR 2 g), some (vI (nI pl)), some (vI (nI a)), some (vI s), some (vI (nI k))] [] (M, J, (jk, 149, 147, X)) Q) (F := fun s => Q (some (vI s)) (M, J, (jk, 149, 147, X))) (fun s => ?_) (fun k s hk => ?_) (prf sh) 0 9 (by omega)
  · have h1 : nI (prf sh) ≤ nI (prf sh) := Int32.le_refl _
    try dsimp only
    rw [h_88_6]
    simp only [s_88_0, s_88_2, s_88_3, s_88_4, s_88_8, s_88_9, s_88_12, s_88_15, s_88_16, s_88_17, s_88_19, s_88_22, s_88_23, s_88_26, s_88_27, s_88_28, s_88_29, s_88_31, s_88_34, s_88_37, s_88_38, s_88_41, s_88_44, s_88_45, amLong_I, amLong_R, amLong_N, amLong_L, cond_true, cond_false, Option.toList_some, Option.toList_none, List.cons_append, List.nil_append, List.append_nil, hg, hG.2.2.1, h1, not_true_eq_false, false_implies, and_true, true_implies]
  · have h1 : ¬ nI (prf sh) ≤ nI k := nI_ge hk (by omega)
    have h4 := ((sh_ok sh hG.1).2 pl hpl).2 k hk
    have h5 := ((sh_ok sh hG.1).2 pl hpl).1
    try dsimp only
    rw [h_88_6]
    simp only [s_88_0, s_88_2, s_88_3, s_88_4, s_88_8, s_88_9, s_88_12, s_88_15, s_88_16, s_88_17, s_88_19, s_88_22, s_88_23, s_88_26, s_88_27, s_88_28, s_88_29, s_88_31, s_88_34, s_88_37, s_88_38, s_88_41, s_88_44, s_88_45, amLong_I, amLong_R, amLong_N, amLong_L, cond_true, cond_false, Option.toList_some, Option.toList_none, List.cons_append, List.nil_append, List.append_nil, hg, hG.2.2.1, h1, false_implies, true_and, not_false_eq_true, true_implies, c51 hg (show pl < 3 by omega) (show k < 9 by omega), hG.2.2.2.2 pl k hpl hk, c33 hg (show pl < 3 by omega) (show k < 9 by omega), nI_s, nI_eq (show act sh pl k < 2 ^ 31 by omega) (show a < 2 ^ 31 by omega)]
    by_cases h6 : act sh pl k = a
    · simp only [h6, not_true_eq_false, not_false_eq_true, false_implies, true_implies, and_true, true_and, if_true, if_false, implies_true, Classical.not_not, true_or, or_true]
    · simp only [h6, not_true_eq_false, not_false_eq_true, false_implies, true_implies, and_true, true_and, if_true, if_false, implies_true, Classical.not_not, true_or, or_true]
/-- a profile of which one token alone is sound -/
def isPl (M : amM) (c g sh p : Nat) : Prop := ∀ i, i < plr sh → ∀ b, b < hsN sh i → ¬ M c g (9 * i + p) < M c g (9 * i + ins sh i p b)
theorem c84 {p sh : Nat} (hg : g < 13) (hG : GS M g sh) (hp : p < prf sh) [Decidable (isPl M 103 g sh p)] : Call (d + 2) 84 [vR 2 g, vI (nI p)] (M, J, (jk, 149, 147, X)) Q ↔ Q (some (vI (bI (isPl M 103 g sh p)))) (M, J, (jk, 149, 147, X)) := by
  obtain ⟨l1, l2, l3, l4⟩ := hG.lim
  rw [e_84]
  simp only [s_84_0, s_84_1, s_84_3, s_84_4, s_84_7, s_84_10, s_84_11, s_84_13, s_84_14, s_84_17, s_84_18, s_84_19, s_84_22, s_84_23, s_84_24, s_84_25, s_84_26, s_84_27, s_84_28, s_84_31, s_84_34, s_84_35, s_84_36, s_84_37, s_84_40, s_84_43, s_84_44, s_84_45, s_84_48, s_84_51, s_84_54, s_84_57, s_84_58, amLong_I, amLong_R, amLong_N, amLong_L, cond_true, cond_false, Option.toList_some, Option.toList_none, List.cons_append, List.nil_append, List.append_nil]
  have inner : ∀ (i : Nat) (hi : i < plr sh) (l : Option amV), (Ev (d + 1) 84 12 [some (vR 2 g), some (vI (nI p)), some (vI (nI i)), some (vI 0)] [] (M, J, (jk, 149, 147, X)) Q ↔ ((∃ j, 0 ≤ j ∧ j < hsN sh i ∧ M 103 g (9 * i + p) < M 103 g (9 * i + ins sh i p j)) → Q (some (vI 0)) (M, J, (jk, 149, 147, X))) ∧ (¬ (∃ j, 0 ≤ j ∧ j < hsN sh i ∧ M 103 g (9 * i + p) < M 103 g (9 * i + ins sh i p j)) → Ev (d + 1) 84 2 [some (vR 2 g), some (vI (nI p)), some (vI (nI (i + 1))), some (vI (nI (hsN sh i)))] [] (M, J, (jk, 149, 147, X)) Q)) := by
    intro i hi l
    obtain ⟨⟨q1, q2, q3, q4⟩, q5⟩ := (sh_ok sh hG.1).2 i hi
    have hz : inb (nI i) 3 := inb_nI (by omega) (by omega)
    refine lpX (α := Unit) (P := hsN sh i) (E := fun k _ => Ev (d + 1) 84 12 [some (vR 2 g), some (vI (nI p)), some (vI (nI i)), some (vI (nI k))] [] (M, J, (jk, 149, 147, X)) Q) (c := fun j => M 103 g (9 * i + p) < M 103 g (9 * i + ins sh i p j)) (fun _ => ?_) (fun k _ hk => ⟨(), ?_⟩) (hsN sh i) 0 () (by omega)
    · have h1 : nI (hsN sh i) ≤ nI (hsN sh i) := Int32.le_refl _
      rw [h_84_12]
      simp only [s_84_0, s_84_1, s_84_3, s_84_4, s_84_7, s_84_10, s_84_11, s_84_13, s_84_14, s_84_17, s_84_18, s_84_19, s_84_22, s_84_23, s_84_24, s_84_25, s_84_26, s_84_27, s_84_28, s_84_31, s_84_34, s_84_35, s_84_36, s_84_37, s_84_40, s_84_43, s_84_44, s_84_45, s_84_48, s_84_51, s_84_54, s_84_57, s_84_58, amLong_I, amLong_R, amLong_N, amLong_L, cond_true, cond_false, Option.toList_some, Option.toList_none, List.cons_append, List.nil_append, List.append_nil, hg, ok_100, hz, cl_nI (show i < 2 ^ 31 by omega), (hG.2.2.2.1 i (by omega)).1, h1, nI_s, not_true_eq_false, not_false_eq_true, false_implies, true_implies, and_true, true_and, if_true, if_false, implies_true, Classical.not_not, true_or, or_true]
    · have h1 : ¬ nI (hsN sh i) ≤ nI k := nI_ge hk (by omega)
      have h2 := ((q5 p hp).2.2 k hk).1
      rw [h_84_12]
      simp only [s_84_0, s_84_1, s_84_3, s_84_4, s_84_7, s_84_10, s_84_11, s_84_13, s_84_14, s_84_17, s_84_18, s_84_19, s_84_22, s_84_23, s_84_24, s_84_25, s_84_26, s_84_27, s_84_28, s_84_31, s_84_34, s_84_35, s_84_36, s_84_37, s_84_40, s_84_43, s_84_44, s_84_45, s_84_48, s_84_51, s_84_54, s_84_57, s_84_58, amLong_I, amLong_R, amLong_N, amLong_L, cond_true, cond_false, Option.toList_some, Option.toList_none, List.cons_append, List.nil_append, List.append_nil, hg, ok_100, hz, cl_nI (show i < 2 ^ 31 by omega), (hG.2.2.2.1 i (by omega)).1, h1, c52 hg hG hi hp, c33 hg (show i < 3 by omega) (show ins sh i p k < 9 by omega), c33 hg (show i < 3 by omega) (show p < 9 by omega), nI_s, z01, not_true_eq_false, not_false_eq_true, false_implies, true_implies, and_true, true_and, if_true, if_false, implies_true, Classical.not_not, true_or, or_true]
      by_cases h3 : M 103 g (9 * i + p) < M 103 g (9 * i + ins sh i p k)
      · have h4 : ¬ M 103 g (9 * i + ins sh i p k) ≤ M 103 g (9 * i + p) := Int32.not_le.mpr h3
        simp only [h3, h4, not_true_eq_false, not_false_eq_true, false_implies, true_implies, and_true, true_and, if_true, if_false, implies_true, Classical.not_not, true_or, or_true]
      · have h4 : M 103 g (9 * i + ins sh i p k) ≤ M 103 g (9 * i + p) := Int32.not_lt.mp h3
        simp only [h3, h4, not_true_eq_false, not_false_eq_true, false_implies, true_implies, and_true, true_and, if_true, if_false, implies_true, Classical.not_not, true_or, or_true]
  have outer := lpX (α := Option amV) (P := plr sh) (E := fun k l => Ev (d + 1) 84 2 [some (vR 2 g), some (vI (nI p)), some (vI (nI k)), l] [] (M, J, (jk, 149, 147, X)) Q) (c := fun i => ∃ j, 0 ≤ j ∧ j < hsN sh i ∧ M 103 g (9 * i + p) < M 103 g (9 * i + ins sh i p j)) (R := Q (some (vI 0)) (M, J, (jk, 149, 147, X))) (F := Q (some (vI 1)) (M, J, (jk, 149, 147, X))) (fun l => ?_) (fun k l hk => ⟨some (vI (nI (hsN sh k))), ?_⟩) (plr sh) 0 none (by omega)
  · have hI : isPl M 103 g sh p ↔ ¬ ∃ i, 0 ≤ i ∧ i < plr sh ∧ ∃ j, 0 ≤ j ∧ j < hsN sh i ∧ M 103 g (9 * i + p) < M 103 g (9 * i + ins sh i p j) := by
      unfold isPl
      constructor
      · rintro h ⟨i, -, hi, j, -, hj, h3⟩
        exact h i hi j hj h3
      · intro h i hi j hj h3
        exact h ⟨i, by omega, hi, j, by omega, hj, h3⟩
    rw [i_0, outer]
    by_cases h : isPl M 103 g sh p
    · rw [bI_t h]
      exact pick_f (hI.mp h)
    · rw [bI_f h]
      exact pick_t (Classical.not_not.mp (fun h2 => h (hI.mpr h2)))
  · have h1 : nI (plr sh) ≤ nI (plr sh) := Int32.le_refl _
    rw [h_84_2]
    simp only [s_84_0, s_84_1, s_84_3, s_84_4, s_84_7, s_84_10, s_84_11, s_84_13, s_84_14, s_84_17, s_84_18, s_84_19, s_84_22, s_84_23, s_84_24, s_84_25, s_84_26, s_84_27, s_84_28, s_84_31, s_84_34, s_84_35, s_84_36, s_84_37, s_84_40, s_84_43, s_84_44, s_84_45, s_84_48, s_84_51, s_84_54, s_84_57, s_84_58, amLong_I, amLong_R, amLong_N, amLong_L, cond_true, cond_false, Option.toList_some, Option.toList_none, List.cons_append, List.nil_append, List.append_nil, hg, hG.2.1, h1, o01, not_true_eq_false, not_false_eq_true, false_implies, true_implies, and_true, true_and, if_true, if_false, implies_true, Classical.not_not, true_or, or_true]
  · have h1 : ¬ nI (plr sh) ≤ nI k := nI_ge hk (by omega)
    rw [h_84_2]
    simp only [s_84_0, s_84_1, s_84_3, s_84_4, s_84_7, s_84_10, s_84_11, s_84_13, s_84_14, s_84_17, s_84_18, s_84_19, s_84_22, s_84_23, s_84_24, s_84_25, s_84_26, s_84_27, s_84_28, s_84_31, s_84_34, s_84_35, s_84_36, s_84_37, s_84_40, s_84_43, s_84_44, s_84_45, s_84_48, s_84_51, s_84_54, s_84_57, s_84_58, amLong_I, amLong_R, amLong_N, amLong_L, cond_true, cond_false, Option.toList_some, Option.toList_none, List.cons_append, List.nil_append, List.append_nil, hg, hG.2.1, h1, not_true_eq_false, not_false_eq_true, false_implies, true_implies, and_true, true_and, if_true, if_false, implies_true, Classical.not_not, true_or, or_true]
    exact inner k hk l
theorem c107 {c i sh : Nat} (hg : g < 13) (hG : GS M g sh) (ht : tokA c i) : Call (d + 1) 107 [vR 2 g, vR c i] (M, J, (jk, 149, 147, X)) Q ↔ Q (some (vI (foldN (fun p s => s ||| (if 0 < M c i p then 1 <<< (nI p &&& 31) else 0)) 0 (prf sh) 0))) (M, J, (jk, 149, 147, X)) := by
  obtain ⟨l1, l2, l3, l4⟩ := hG.lim
  rw [e_107]
  simp only [s_107_0, s_107_1, s_107_2, s_107_3, s_107_5, s_107_6, s_107_9, s_107_12, s_107_13, s_107_14, s_107_15, s_107_16, s_107_19, s_107_20, s_107_21, s_107_22, s_107_25, s_107_26, s_107_27, s_107_28, s_107_31, s_107_34, s_107_35, amLong_I, amLong_R, amLong_N, amLong_L, cond_true, cond_false, Option.toList_some, Option.toList_none, List.cons_append, List.nil_append, List.append_nil]
  refine lpF (P := prf sh) (E := fun k s => Ev d 107 4 [some (vR 2 g), some (vR c i), some (vI s), some (vI (nI k))] [] (M, J, (jk, 149, 147, X)) Q) (F := fun s => Q (some (vI s)) (M, J, (jk, 149, 147, X))) (fun s => ?_) (fun k s hk => ?_) (prf sh) 0 0 (by omega)
  · have h1 : nI (prf sh) ≤ nI (prf sh) := Int32.le_refl _
    rw [h_107_4]
    simp only [s_107_0, s_107_1, s_107_2, s_107_3, s_107_5, s_107_6, s_107_9, s_107_12, s_107_13, s_107_14, s_107_15, s_107_16, s_107_19, s_107_20, s_107_21, s_107_22, s_107_25, s_107_26, s_107_27, s_107_28, s_107_31, s_107_34, s_107_35, amLong_I, amLong_R, amLong_N, amLong_L, cond_true, cond_false, Option.toList_some, Option.toList_none, List.cons_append, List.nil_append, List.append_nil, hg, hG.2.2.1, h1, not_true_eq_false, not_false_eq_true, false_implies, true_implies, and_true, true_and, if_true, if_false, implies_true, Classical.not_not, true_or, or_true]
  · have h1 : ¬ nI (prf sh) ≤ nI k := nI_ge hk (by omega)
    have h3 := tokA_ok (X := X) ht (show k < 9 by omega)
    rw [h_107_4]
    simp only [s_107_0, s_107_1, s_107_2, s_107_3, s_107_5, s_107_6, s_107_9, s_107_12, s_107_13, s_107_14, s_107_15, s_107_16, s_107_19, s_107_20, s_107_21, s_107_22, s_107_25, s_107_26, s_107_27, s_107_28, s_107_31, s_107_34, s_107_35, amLong_I, amLong_R, amLong_N, amLong_L, cond_true, cond_false, Option.toList_some, Option.toList_none, List.cons_append, List.nil_append, List.append_nil, hg, hG.2.2.1, h1, h3, cl_nI (show k < 2 ^ 31 by omega), nI_s, not_true_eq_false, not_false_eq_true, false_implies, true_implies, and_true, true_and, if_true, if_false, implies_true, Classical.not_not, true_or, or_true]
    by_cases h4 : M c i k ≤ 0
    · have h5 : ¬ 0 < M c i k := Int32.not_lt.mpr h4
      simp only [h4, h5, not_true_eq_false, not_false_eq_true, false_implies, true_implies, and_true, true_and, if_true, if_false, implies_true, Classical.not_not, true_or, or_true]
    · have h5 : 0 < M c i k := Int32.not_le.mp h4
      simp only [h4, h5, not_true_eq_false, not_false_eq_true, false_implies, true_implies, and_true, true_and, if_true, if_false, implies_true, Classical.not_not, true_or, or_true]
theorem c113 {c i sh : Nat} (hg : g < 13) (hG : GS M g sh) (ht : tokA c i) [Decidable (∀ p, p < prf sh → M 104 g p = M c i p)] : Call (d + 1) 113 [vR 2 g, vR c i] (M, J, (jk, 149, 147, X)) Q ↔ Q (some (vI (bI (∀ p, p < prf sh → M 104 g p = M c i p)))) (M, J, (jk, 149, 147, X)) := by
  obtain ⟨l1, l2, l3, l4⟩ := hG.lim
  rw [e_113]
  simp only [s_113_0, s_113_1, s_113_3, s_113_4, s_113_7, s_113_10, s_113_11, s_113_14, s_113_15, s_113_16, s_113_17, s_113_18, s_113_19, s_113_22, s_113_23, s_113_24, s_113_27, s_113_30, s_113_31, amLong_I, amLong_R, amLong_N, amLong_L, cond_true, cond_false, Option.toList_some, Option.toList_none, List.cons_append, List.nil_append, List.append_nil]
  have key := lpX (α := Unit) (P := prf sh) (E := fun k _ => Ev d 113 2 [some (vR 2 g), some (vR c i), some (vI (nI k))] [] (M, J, (jk, 149, 147, X)) Q) (c := fun j => ¬ M 104 g j = M c i j) (R := Q (some (vI 0)) (M, J, (jk, 149, 147, X))) (F := Q (some (vI 1)) (M, J, (jk, 149, 147, X))) (fun _ => ?_) (fun k _ hk => ⟨(), ?_⟩) (prf sh) 0 () (by omega)
  · have hI : (∀ p, p < prf sh → M 104 g p = M c i p) ↔ ¬ ∃ j, 0 ≤ j ∧ j < prf sh ∧ ¬ M 104 g j = M c i j := by
      constructor
      · rintro h ⟨j, -, hj, h3⟩
        exact h3 (h j hj)
      · intro h p hp
        exact Classical.not_not.mp (fun h3 => h ⟨p, by omega, hp, h3⟩)
    rw [i_0, key]
    by_cases h : ∀ p, p < prf sh → M 104 g p = M c i p
    · rw [bI_t h]
      exact pick_f (hI.mp h)
    · rw [bI_f h]
      exact pick_t (Classical.not_not.mp (fun h2 => h (hI.mpr h2)))
  · have h1 : nI (prf sh) ≤ nI (prf sh) := Int32.le_refl _
    rw [h_113_2]
    simp only [s_113_0, s_113_1, s_113_3, s_113_4, s_113_7, s_113_10, s_113_11, s_113_14, s_113_15, s_113_16, s_113_17, s_113_18, s_113_19, s_113_22, s_113_23, s_113_24, s_113_27, s_113_30, s_113_31, amLong_I, amLong_R, amLong_N, amLong_L, cond_true, cond_false, Option.toList_some, Option.toList_none, List.cons_append, List.nil_append, List.append_nil, hg, hG.2.2.1, h1, o01, not_true_eq_false, not_false_eq_true, false_implies, true_implies, and_true, true_and, if_true, if_false, implies_true, Classical.not_not, true_or, or_true]
  · have h1 : ¬ nI (prf sh) ≤ nI k := nI_ge hk (by omega)
    have h2 : inb (nI k) 9 := inb_nI (by omega) (by omega)
    have h3 := tokA_ok (X := X) ht (show k < 9 by omega)
    rw [h_113_2]
    simp only [s_113_0, s_113_1, s_113_3, s_113_4, s_113_7, s_113_10, s_113_11, s_113_14, s_113_15, s_113_16, s_113_17, s_113_18, s_113_19, s_113_22, s_113_23, s_113_24, s_113_27, s_113_30, s_113_31, amLong_I, amLong_R, amLong_N, amLong_L, cond_true, cond_false, Option.toList_some, Option.toList_none, List.cons_append, List.nil_append, List.append_nil, hg, hG.2.2.1, h1, h2, h3, ok_104, cl_nI (show k < 2 ^ 31 by omega), nI_s, z01, not_true_eq_false, not_false_eq_true, false_implies, true_implies, and_true, true_and, if_true, if_false, implies_true, Classical.not_not, true_or, or_true]
    by_cases h4 : M 104 g k = M c i k
    · simp only [h4, not_true_eq_false, not_false_eq_true, false_implies, true_implies, and_true, true_and, if_true, if_false, implies_true, Classical.not_not, true_or, or_true]
    · simp only [h4, not_true_eq_false, not_false_eq_true, false_implies, true_implies, and_true, true_and, if_true, if_false, implies_true, Classical.not_not, true_or, or_true]
end GAME2
