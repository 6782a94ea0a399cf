/-! Game: contracts -/
theorem c71_loop {d g P jk X : Nat} {M : amM} {J : amJ} {Q : Option amV → amS → Prop} (hg : g < 13) (hP : M 1106 g 0 = nI P) (h9 : P ≤ 9) : ∀ (n k : Nat) (s : Int32), k + n = P → (Ev d 71 4 [some (vR 2 g), some (vI s), some (vI (nI k))] [] (M, J, (jk, 149, 147, X)) Q ↔ Q (some (vI (s + sumN (M 104 g) k n))) (M, J, (jk, 149, 147, X))) := by
  intro n
  induction n with
  | zero =>
    intro k s h
    have h1 : nI P ≤ nI k := nI_le (by omega) (by omega)
    rw [h_71_4]
    simp only [s_71_0, s_71_1, s_71_2, s_71_3, s_71_5, s_71_6, s_71_9, s_71_12, s_71_13, s_71_14, s_71_17, s_71_18, s_71_19, s_71_20, s_71_21, s_71_24, s_71_27, s_71_28, amLong_I, amLong_R, amLong_N, amLong_L, cond_true, cond_false, Option.toList_some, Option.toList_none, List.cons_append, List.nil_append, List.append_nil, hg, hP, h1, sumN, Int32.add_zero, not_true_eq_false, false_implies, and_true, true_implies]
  | succ n ih =>
    intro k s h
    have h1 : ¬ nI P ≤ nI k := nI_ge (by omega) (by omega)
    have h2 : inb (nI k) 9 := inb_nI (by omega) (by omega)
    rw [h_71_4]
    simp only [s_71_0, s_71_1, s_71_2, s_71_3, s_71_5, s_71_6, s_71_9, s_71_12, s_71_13, s_71_14, s_71_17, s_71_18, s_71_19, s_71_20, s_71_21, s_71_24, s_71_27, s_71_28, amLong_I, amLong_R, amLong_N, amLong_L, cond_true, cond_false, Option.toList_some, Option.toList_none, List.cons_append, List.nil_append, List.append_nil, hg, hP, h1, h2, ok_104, cl_nI (show k < 2 ^ 31 by omega), nI_s, false_implies, true_and, not_false_eq_true, true_implies]
    rw [ih (k + 1) (s + M 104 g k) (by omega), sumN, Int32.add_assoc]
