/-! Numbers, Dice, bits, copies: contracts -/
theorem ow_109 {j : Int32} : okW 109 0 j 3 ↔ inb j 32 := (okW_iff (c := 109) (by decide) (by decide) rfl).trans ⟨fun h => h.2, fun h => ⟨by decide, h⟩⟩
theorem ow_119 {j : Int32} : okW 119 0 j 0 ↔ inb j 80 := (okW_iff (c := 119) (by decide) (by decide) rfl).trans ⟨fun h => h.2, fun h => ⟨by decide, h⟩⟩
theorem ok_119 {X : Nat} {j : Int32} : okR X 119 0 j ↔ inb j 80 := by
  rw [okR_iff (by decide) (by decide) rfl]
  exact ⟨fun h => h.2, fun h => ⟨by decide, h⟩⟩
theorem ow_110 {j : Int32} : okW 110 0 j 4 ↔ inb j 9 := (okW_iff (c := 110) (by decide) (by decide) rfl).trans ⟨fun h => h.2, fun h => ⟨by decide, h⟩⟩
theorem ow_120 {j : Int32} : okW 120 0 j 4 ↔ inb j 2 := (okW_iff (c := 120) (by decide) (by decide) rfl).trans ⟨fun h => h.2, fun h => ⟨by decide, h⟩⟩
theorem st_110 {j : Nat} (h : j < 9) : amSt 147 110 0 j = true := by
  have h1 : (List.range 9).all (fun i => amSt 147 110 0 i) = true := by decide +kernel
  exact List.all_eq_true.mp h1 j (List.mem_range.mpr h)
theorem st_120 {j : Nat} (h : j < 2) : amSt 147 120 0 j = true := by
  have h1 : (List.range 2).all (fun i => amSt 147 120 0 i) = true := by decide +kernel
  exact List.all_eq_true.mp h1 j (List.mem_range.mpr h)
/-- an array filled -/
def fillM (M : amM) (c i : Nat) (x : Int32) : amM := fun c' i' j' => if (c' = c ∧ i' = i) ∧ j' < amLen c then x else M c' i' j'
theorem fill_fold {M : amM} {c i : Nat} {x : Int32} : ∀ (n k : Nat) (M1 : amM), k + n = amLen c → (∀ c' i' j', M1 c' i' j' = if (c' = c ∧ i' = i) ∧ j' < k then x else M c' i' j') → foldN (fun k M2 => upM M2 c i k x) k n M1 = fillM M c i x
  | 0, k, M1, h, hM => by
    obtain rfl : k = amLen c := by omega
    funext c' i' j'
    exact hM c' i' j'
  | n + 1, k, M1, h, hM => by
    refine fill_fold n (k + 1) (upM M1 c i k x) (by omega) (fun c' i' j' => ?_)
    unfold upM
    rw [hM c' i' j']
    by_cases h1 : c' = c ∧ i' = i
    · by_cases h2 : j' = k
      · rw [if_pos ⟨h1.1, h1.2, h2⟩, if_pos ⟨h1, by omega⟩]
      · rw [if_neg (fun z => h2 z.2.2)]
        by_cases h3 : j' < k
        · rw [if_pos ⟨h1, h3⟩, if_pos ⟨h1, by omega⟩]
        · rw [if_neg (fun z => h3 z.2), if_neg (fun z => by omega)]
    · rw [if_neg (fun z => h1 ⟨z.1, z.2.1⟩), if_neg (fun z => h1 z.1), if_neg (fun z => h1 z.1)]
theorem amLen_le {c : Nat} : amLen c ≤ 30000 := by
  unfold amLen
  split <;> decide
/-- Arrays.fill, at any time -/
theorem c3 {d jk kk tt X c i : Nat} {M : amM} {J : amJ} {Q : Option amV → amS → Prop} {x : Int32} (hc : 100 ≤ c) (ht : amTn c = 0) (hal : amAl kk c i = true) : Call (d + 1) 3 [vR c i, vI x] (M, J, (jk, kk, tt, X)) Q ↔ Q none (fillM M c i x, J, (jk, kk, tt, X)) := by
  have h99 : (c == 99) = false := by simp; omega
  have hb := amLen_le (c := c)
  rw [e_3]
  simp only [s_3_0, s_3_1, s_3_2, s_3_4, s_3_6, s_3_7, s_3_10, s_3_11, s_3_12, s_3_14, s_3_17, s_3_20, Gs_3_3, Gs_3_13, amLong_I, amLong_R, amLong_N, amLong_L, cond_true, cond_false, Option.toList_some, Option.toList_none, List.cons_append, List.nil_append, List.append_nil, h99, decide_eq_true hc, hal, Bool.false_and, Bool.false_or, Bool.and_self, not_true_eq_false, not_false_eq_true, false_implies, true_implies, and_true, true_and, if_true, if_false, implies_true, Classical.not_not, true_or, or_true]
  have key := lpF (P := amLen c) (E := fun k M2 => Ev d 3 5 [some (vR c i), some (vI x), some (vI (nI k)), some (vI (nI (amLen c)))] [] (M2, J, (jk, kk, tt, X)) Q) (F := fun M2 => Q none (M2, J, (jk, kk, tt, X))) (f := fun k M2 => upM M2 c i k x) (fun M2 => ?_) (fun k M2 hk => ?_) (amLen c) 0 M (by omega)
  · rw [fill_fold (M := M) (amLen c) 0 M (by omega) (fun c' i' j' => by rw [if_neg (fun z => by omega)])] at key
    exact key
  · have h1 : nI (amLen c) ≤ nI (amLen c) := Int32.le_refl _
    rw [h_3_5]
    simp only [s_3_0, s_3_1, s_3_2, s_3_4, s_3_6, s_3_7, s_3_10, s_3_11, s_3_12, s_3_14, s_3_17, s_3_20, Gs_3_3, Gs_3_13, amLong_I, amLong_R, amLong_N, amLong_L, cond_true, cond_false, Option.toList_some, Option.toList_none, List.cons_append, List.nil_append, List.append_nil, h1, not_true_eq_false, not_false_eq_true, false_implies, true_implies, and_true, true_and, if_true, if_false, implies_true, Classical.not_not, true_or, or_true]
  · have h1 : ¬ nI (amLen c) ≤ nI k := nI_ge hk (by omega)
    have h2 : inb (nI k) (amLen c) := inb_nI hk (by omega)
    rw [h_3_5]
    simp only [s_3_0, s_3_1, s_3_2, s_3_4, s_3_6, s_3_7, s_3_10, s_3_11, s_3_12, s_3_14, s_3_17, s_3_20, Gs_3_3, Gs_3_13, amLong_I, amLong_R, amLong_N, amLong_L, cond_true, cond_false, Option.toList_some, Option.toList_none, List.cons_append, List.nil_append, List.append_nil, h1, h2, amOw_any, hc, hal, ht, cl_nI (show k < 2 ^ 31 by omega), nI_s, not_true_eq_false, not_false_eq_true, false_implies, true_implies, and_true, true_and, if_true, if_false, implies_true, Classical.not_not, true_or, or_true]
section SMALL
variable {d g jk X : Nat} {M : amM} {J : amJ} {Q : Option amV → amS → Prop}
theorem c42 : Call (d + 1) 42 [vR 6 0] (M, J, (jk, 149, 147, X)) Q ↔ Q none (upM M 1301 0 0 0, J, (jk, 149, 147, X)) := by
  rw [e_42]
  simp only [s_42_0, s_42_1, s_42_2, s_42_5, amLong_I, amLong_R, amLong_N, amLong_L, cond_true, cond_false, Option.toList_some, Option.toList_none, List.cons_append, List.nil_append, List.append_nil]
theorem c43 {n : Nat} {v : Int64} (hn : M 1301 0 0 = nI n) (h : n < 32) : Call (d + 1) 43 [vR 6 0, vL v] (M, J, (jk, 149, 147, X)) Q ↔ Q none (upM M 1301 0 0 (nI (n + 1)), upJ J 109 n v, (jk, 149, 147, X)) := by
  have h1 : ¬ (32 : Int32) ≤ nI n := by
    rw [show (32 : Int32) = nI 32 from rfl]
    exact nI_ge h (by omega)
  have h2 : inb (nI n) 32 := inb_nI h (by omega)
  rw [e_43]
  simp only [s_43_0, s_43_1, s_43_4, s_43_6, s_43_9, s_43_10, s_43_13, s_43_14, s_43_17, s_43_18, s_43_19, s_43_20, s_43_21, s_43_24, s_43_25, s_43_26, s_43_29, amLong_I, amLong_R, amLong_N, amLong_L, cond_true, cond_false, Option.toList_some, Option.toList_none, List.cons_append, List.nil_append, List.append_nil, hn, h1, h2, ow_109, cl_nI (show n < 2 ^ 31 by omega), nI_s, not_true_eq_false, not_false_eq_true, false_implies, true_implies, and_true, true_and, if_true, if_false, implies_true, Classical.not_not, true_or, or_true]
/-- the next number of a row of drawn ones, and what is drawn out of so many -/
def rnd (s : Int32) : Int32 := s * 1103515245 + 12345
def drw (s n : Int32) : Int32 := (s.toUInt32 >>> (Int32.toUInt32 16 &&& Int32.toUInt32 31)).toInt32 - (s.toUInt32 >>> (Int32.toUInt32 16 &&& Int32.toUInt32 31)).toInt32 / n * n
theorem c125 {i : Nat} {n : Int32} (hi : i < 2) (hn : 0 < n) : Call (d + 1) 125 [vR 1 i, vI n] (M, J, (jk, 149, 147, X)) Q ↔ Q (some (vI (drw (rnd (M 1050 i 0)) n))) (upM M 1050 i 0 (rnd (M 1050 i 0)), J, (jk, 149, 147, X)) := by
  have h1 : ¬ n ≤ 0 := Int32.not_le.mpr hn
  have h2 : ¬ n = 0 := fun h => by rw [h] at hn; exact absurd hn (by decide)
  rw [e_125]
  simp only [s_125_0, s_125_1, s_125_2, s_125_5, s_125_7, s_125_8, s_125_11, s_125_12, s_125_15, s_125_16, s_125_19, s_125_20, s_125_23, s_125_25, s_125_26, s_125_27, s_125_28, s_125_31, s_125_32, amLong_I, amLong_R, amLong_N, amLong_L, cond_true, cond_false, Option.toList_some, Option.toList_none, List.cons_append, List.nil_append, List.append_nil, hi, h1, h2, upM_eq, not_true_eq_false, not_false_eq_true, false_implies, true_implies, and_true, true_and, if_true, if_false, implies_true, Classical.not_not, true_or, or_true]
  exact Iff.rfl
end SMALL
