/-! loops, once more: what is promised of the memory; folds -/
theorem lpH {T U : Type} {P : Nat} {E : Nat → amM → amJ → U → T → Prop} {I : Nat → amM → amJ → T → Prop} (hx : ∀ M J u x, I P M J x → E P M J u x) (hs : ∀ k M J u x, k < P → I k M J x → (∀ M' J' u' x', I (k + 1) M' J' x' → E (k + 1) M' J' u' x') → E k M J u x) : ∀ (k : Nat) (M : amM) (J : amJ) (u : U) (x : T), k ≤ P → I k M J x → E k M J u x := by
  have key : ∀ (n k : Nat) (M : amM) (J : amJ) (u : U) (x : T), k + n = P → I k M J x → E k M J u x := by
    intro n
    induction n with
    | zero =>
      intro k M J u x h hi
      obtain rfl : k = P := by omega
      exact hx M J u x hi
    | succ n ih =>
      intro k M J u x h hi
      exact hs k M J u x (by omega) hi (fun M' J' u' x' h' => ih (k + 1) M' J' u' x' (by omega) h')
  intro k M J u x h hi
  exact key (P - k) k M J u x (by omega) hi
theorem lpM {T U : Type} {E : amM → amJ → U → T → Prop} {I : amM → amJ → T → Prop} (μ : T → Nat) (hs : ∀ M J u x, I M J x → (∀ M' J' u' x', I M' J' x' → μ x' < μ x → E M' J' u' x') → E M J u x) : ∀ (M : amM) (J : amJ) (u : U) (x : T), I M J x → E M J u x := by
  have key : ∀ (n : Nat) (M : amM) (J : amJ) (u : U) (x : T), μ x < n → I M J x → E M J u x := by
    intro n
    induction n with
    | zero => intro M J u x h; omega
    | succ n ih =>
      intro M J u x h hi
      exact hs M J u x hi (fun M' J' u' x' h1 h2 => ih M' J' u' x' (by omega) h1)
  intro M J u x hi
  exact key (μ x + 1) M J u x (by omega) hi
/-- what has one end -/
theorem pureC {d y : Nat} {as : List amV} {st st' : amS} {v : Option amV} {Q : Option amV → amS → Prop} (h : ∀ Q : Option amV → amS → Prop, Q v st' → Call d y as st Q) : Call d y as st Q ↔ Q v st' := by
  have h1 : Runs d y as st v st' := h _ ⟨rfl, rfl⟩
  exact h1.call (Nat.le_refl _)
/-- f (n-1) (.. (f 1 (f 0 a))) -/
def fd {α : Type} (f : Nat → α → α) (a : α) : Nat → α
  | 0 => a
  | n + 1 => f n (fd f a n)
theorem fd_N {α : Type} (f : Nat → α → α) (a : α) : ∀ n, foldN f 0 n a = fd f a n := by
  have h1 : ∀ (n k : Nat) (a : α), foldN f k (n + 1) a = f (k + n) (foldN f k n a) := by
    intro n
    induction n with
    | zero => intro k a; rfl
    | succ n ih =>
      intro k a
      show foldN f (k + 1) (n + 1) (f k a) = f (k + (n + 1)) (foldN f (k + 1) n (f k a))
      rw [ih (k + 1) (f k a), show k + 1 + n = k + (n + 1) by omega]
  intro n
  induction n with
  | zero => rfl
  | succ n ih => rw [h1, ih, Nat.zero_add]; rfl
theorem fd_sum (g : Nat → Int32) : ∀ n, fd (fun p s => s + g p) (nI 0) n = sumN g 0 n
  | 0 => rfl
  | n + 1 => by
    show fd _ _ n + g n = _
    rw [fd_sum g n, sumN_last, Nat.zero_add]
theorem fd_congr {α : Type} {f g : Nat → α → α} {a : α} : ∀ n, (∀ k, k < n → ∀ x, f k x = g k x) → fd f a n = fd g a n
  | 0, _ => rfl
  | n + 1, h => by
    show f n (fd f a n) = g n (fd g a n)
    rw [h n (by omega), fd_congr n (fun k hk x => h k (by omega) x)]
theorem fd_inv {α : Type} {f : Nat → α → α} {I : Nat → α → Prop} {a : α} (h0 : I 0 a) : ∀ n, (∀ k x, k < n → I k x → I (k + 1) (f k x)) → I n (fd f a n)
  | 0, _ => h0
  | n + 1, h => h n _ (by omega) (fd_inv h0 n (fun k x hk => h k x (by omega)))
theorem le_not {x y : Int32} (h : ¬ x ≤ y) : y < x := Int32.not_le.mp h
theorem lt_not {x y : Int32} (h : ¬ x < y) : y ≤ x := Int32.not_lt.mp h
theorem not_lt' {x y : Int32} : (¬ x < y) ↔ y ≤ x := Int32.not_lt
theorem not_le' {x y : Int32} : (¬ x ≤ y) ↔ y < x := Int32.not_le
theorem bF {c : Prop} [Decidable c] {A B : Prop} : ((¬ c → A) ∧ (c → B)) ↔ (if c then B else A) := by
  by_cases h : c <;> simp [h]
/-! Tally: weighing, asking -/
section TALLY3
variable {d g t jk X sh : Nat} {M : amM} {J : amJ} {Q : Option amV → amS → Prop} {pay tok : Nat → Int32}
theorem FrT.tkk {M' : amM} {c i : Nat} (h : FrT M M' t) (hk : tokA c i) (hne : c ≠ 113 ∨ i ≠ t) : M' c i = M c i := by
  funext k
  refine h c i k ?_
  rcases hk with h | h | h | h <;> omega
theorem c47 {c i : Nat} (ht : t < 4) (hg : g < 13) (hG : GS M g sh) (hk : tokA c i) (hne : c ≠ 113 ∨ i ≠ t) (H : ∀ M', FrT M M' t → TL M' t sh (M 103 g) (fun p => if p < prf sh then M c i p else nI 0) → Q none (M', J, (jk, 149, 147, X))) : Call (d + 4) 47 [vR 9 t, vR 2 g, vR c i] (M, J, (jk, 149, 147, X)) Q := by
  obtain ⟨⟨l1, l2, l3, l4⟩, l5⟩ := sh_ok sh hG.1
  rw [e_47]
  simp (disch := omega) only [s_47_0, s_47_1, s_47_2, s_47_5, s_47_6, s_47_7, s_47_10, amLong_I, amLong_R, amLong_N, amLong_L, cond_true, cond_false, Option.toList_some, Option.toList_none, List.cons_append, List.nil_append, List.append_nil, setE, setN, cpy_set, lit, nle, nlt, neq, inb_iff, cl_nI, tle, fle, tlt, flt, teq, feq, m9, m3, x9, x3, nI_add, nsub, upN, upE, b0', b01', r100, w100, r101, w101, r102, w102, r103, w103, r104, w104, r105, w105, r106, w106, r107, w107, r108, w108, w109, w110, r111, w111, r112, w112, r113, w113, r114, w114, r115, w115, r116, w116, r117, w117, r118, w118, r119, w119, w120, w121, r122, w122, r130, w130, w131, w132, r133, w133, r134, w134, r135, w135, r136, w136, r137, w137, r138, w138, r139, w139, r140, w140, r141, w141, w142, r143, w143, r144, w144, r145, w145, r146, w146, w147, w150, Bool.false_eq_true, not_true_eq_false, not_false_eq_true, false_implies, true_implies, and_true, true_and, if_true, if_false, implies_true, Classical.not_not, true_or, or_true, false_or, or_false, and_self, ite_true, ite_false, reduceIte]
  refine c48 ht hg hG (fun M1 hF hT => ?_)
  simp (disch := omega) only [s_47_0, s_47_1, s_47_2, s_47_5, s_47_6, s_47_7, s_47_10, amLong_I, amLong_R, amLong_N, amLong_L, cond_true, cond_false, Option.toList_some, Option.toList_none, List.cons_append, List.nil_append, List.append_nil, setE, setN, cpy_set, lit, nle, nlt, neq, inb_iff, cl_nI, tle, fle, tlt, flt, teq, feq, m9, m3, x9, x3, nI_add, nsub, upN, upE, b0', b01', r100, w100, r101, w101, r102, w102, r103, w103, r104, w104, r105, w105, r106, w106, r107, w107, r108, w108, w109, w110, r111, w111, r112, w112, r113, w113, r114, w114, r115, w115, r116, w116, r117, w117, r118, w118, r119, w119, w120, w121, r122, w122, r130, w130, w131, w132, r133, w133, r134, w134, r135, w135, r136, w136, r137, w137, r138, w138, r139, w139, r140, w140, r141, w141, w142, r143, w143, r144, w144, r145, w145, r146, w146, w147, w150, Bool.false_eq_true, not_true_eq_false, not_false_eq_true, false_implies, true_implies, and_true, true_and, if_true, if_false, implies_true, Classical.not_not, true_or, or_true, false_or, or_false, and_self, ite_true, ite_false, reduceIte, c53 ht hT.1 hk hne, hF.tkk hk hne]
  refine H _ (fun c' j k h => ?_) ⟨hT.1.of (fun c x h => ?_), fun p hp => ?_, fun k hk => ?_⟩
  · unfold paM
    rw [if_neg (by omega), if_neg (by omega), hF c' j k h]
  · unfold paM
    rw [if_neg (by omega), if_neg (by omega)]
  · unfold paM
    by_cases h : p < prf sh
    · dsimp only
      rw [if_pos (by omega), if_pos h, hT.2.1 p hp]
      exact Int32.zero_add _
    · dsimp only
      rw [if_neg (by omega), if_neg (by omega), if_neg h, hT.2.1 p hp]
  · unfold paM
    rw [if_neg (by omega), if_pos (by omega), hT.2.2 k hk, gns_0]
    rw [show ∀ x : Int32, nI 0 + x = x from Int32.zero_add]
    refine sumN_congr _ _ (fun p h1 h2 => ?_)
    dsimp only
    rw [if_pos (by omega)]
/-- where the first gain above nothing stands -/
def stl (G L : Nat → Int32) : Nat → Nat → Int32
  | _, 0 => - nI 1
  | k, n + 1 => if nI 0 < G k then L k else stl G L (k + 1) n
theorem stl_no {G L : Nat → Int32} : ∀ (n k : Nat), (∀ j, k ≤ j → j < k + n → ¬ nI 0 < G j) → stl G L k n = - nI 1
  | 0, _, _ => rfl
  | n + 1, k, h => by
    show (if nI 0 < G k then L k else stl G L (k + 1) n) = - nI 1
    rw [if_neg (h k (by omega) (by omega)), stl_no n (k + 1) (fun j h1 h2 => h j (by omega) (by omega))]
theorem stl_yes {G L : Nat → Int32} : ∀ (n k j : Nat), k ≤ j → j < k + n → nI 0 < G j → ∃ i, k ≤ i ∧ i < k + n ∧ nI 0 < G i ∧ stl G L k n = L i
  | 0, k, j, h1, h2, _ => by omega
  | n + 1, k, j, h1, h2, h3 => by
    by_cases h4 : nI 0 < G k
    · exact ⟨k, by omega, by omega, h4, if_pos h4⟩
    · have h5 : k ≠ j := fun e => h4 (e ▸ h3)
      obtain ⟨i, i1, i2, i3, i4⟩ := stl_yes (L := L) n (k + 1) j (by omega) (by omega) h3
      exact ⟨i, by omega, by omega, i3, by rw [← i4]; exact if_neg h4⟩
theorem c59 (ht : t < 4) (h5 : sh < 5) (hP : M 1456 t 0 = nI (plr sh)) : Call (d + 1) 59 [vR 9 t] (M, J, (jk, 149, 147, X)) Q ↔ Q (some (vI (stl (M 114 t) (M 117 t) 0 (9 * plr sh)))) (M, J, (jk, 149, 147, X)) := by
  obtain ⟨⟨l1, l2, l3, l4⟩, l5⟩ := sh_ok sh h5
  rw [e_59]
  simp (disch := omega) only [s_59_0, s_59_1, s_59_3, s_59_4, s_59_7, s_59_9, s_59_10, s_59_13, s_59_14, s_59_17, s_59_18, s_59_19, s_59_22, s_59_23, s_59_26, s_59_27, s_59_28, s_59_29, s_59_32, s_59_35, s_59_36, amLong_I, amLong_R, amLong_N, amLong_L, cond_true, cond_false, Option.toList_some, Option.toList_none, List.cons_append, List.nil_append, List.append_nil, setE, setN, cpy_set, lit, nle, nlt, neq, inb_iff, cl_nI, tle, fle, tlt, flt, teq, feq, m9, m3, x9, x3, nI_add, nsub, upN, upE, b0', b01', r100, w100, r101, w101, r102, w102, r103, w103, r104, w104, r105, w105, r106, w106, r107, w107, r108, w108, w109, w110, r111, w111, r112, w112, r113, w113, r114, w114, r115, w115, r116, w116, r117, w117, r118, w118, r119, w119, w120, w121, r122, w122, r130, w130, w131, w132, r133, w133, r134, w134, r135, w135, r136, w136, r137, w137, r138, w138, r139, w139, r140, w140, r141, w141, w142, r143, w143, r144, w144, r145, w145, r146, w146, w147, w150, Bool.false_eq_true, not_true_eq_false, not_false_eq_true, false_implies, true_implies, and_true, true_and, if_true, if_false, implies_true, Classical.not_not, true_or, or_true, false_or, or_false, and_self, ite_true, ite_false, reduceIte]
  have key : ∀ n k, k + n = 9 * plr sh → (Ev d 59 2 [some (vR 9 t), some (vI (nI k))] [] (M, J, (jk, 149, 147, X)) Q ↔ Q (some (vI (stl (M 114 t) (M 117 t) k n))) (M, J, (jk, 149, 147, X))) := by
    intro n
    induction n with
    | zero =>
      intro k h
      rw [h_59_2]
      simp (disch := omega) only [s_59_0, s_59_1, s_59_3, s_59_4, s_59_7, s_59_9, s_59_10, s_59_13, s_59_14, s_59_17, s_59_18, s_59_19, s_59_22, s_59_23, s_59_26, s_59_27, s_59_28, s_59_29, s_59_32, s_59_35, s_59_36, amLong_I, amLong_R, amLong_N, amLong_L, cond_true, cond_false, Option.toList_some, Option.toList_none, List.cons_append, List.nil_append, List.append_nil, setE, setN, cpy_set, lit, nle, nlt, neq, inb_iff, cl_nI, tle, fle, tlt, flt, teq, feq, m9, m3, x9, x3, nI_add, nsub, upN, upE, b0', b01', r100, w100, r101, w101, r102, w102, r103, w103, r104, w104, r105, w105, r106, w106, r107, w107, r108, w108, w109, w110, r111, w111, r112, w112, r113, w113, r114, w114, r115, w115, r116, w116, r117, w117, r118, w118, r119, w119, w120, w121, r122, w122, r130, w130, w131, w132, r133, w133, r134, w134, r135, w135, r136, w136, r137, w137, r138, w138, r139, w139, r140, w140, r141, w141, w142, r143, w143, r144, w144, r145, w145, r146, w146, w147, w150, Bool.false_eq_true, not_true_eq_false, not_false_eq_true, false_implies, true_implies, and_true, true_and, if_true, if_false, implies_true, Classical.not_not, true_or, or_true, false_or, or_false, and_self, ite_true, ite_false, reduceIte, hP, stl]
    | succ n ih =>
      intro k h
      rw [h_59_2]
      simp (disch := omega) only [s_59_0, s_59_1, s_59_3, s_59_4, s_59_7, s_59_9, s_59_10, s_59_13, s_59_14, s_59_17, s_59_18, s_59_19, s_59_22, s_59_23, s_59_26, s_59_27, s_59_28, s_59_29, s_59_32, s_59_35, s_59_36, amLong_I, amLong_R, amLong_N, amLong_L, cond_true, cond_false, Option.toList_some, Option.toList_none, List.cons_append, List.nil_append, List.append_nil, setE, setN, cpy_set, lit, nle, nlt, neq, inb_iff, cl_nI, tle, fle, tlt, flt, teq, feq, m9, m3, x9, x3, nI_add, nsub, upN, upE, b0', b01', r100, w100, r101, w101, r102, w102, r103, w103, r104, w104, r105, w105, r106, w106, r107, w107, r108, w108, w109, w110, r111, w111, r112, w112, r113, w113, r114, w114, r115, w115, r116, w116, r117, w117, r118, w118, r119, w119, w120, w121, r122, w122, r130, w130, w131, w132, r133, w133, r134, w134, r135, w135, r136, w136, r137, w137, r138, w138, r139, w139, r140, w140, r141, w141, w142, r143, w143, r144, w144, r145, w145, r146, w146, w147, w150, Bool.false_eq_true, not_true_eq_false, not_false_eq_true, false_implies, true_implies, and_true, true_and, if_true, if_false, implies_true, Classical.not_not, true_or, or_true, false_or, or_false, and_self, ite_true, ite_false, reduceIte, hP, stl, ih (k + 1) (show k + 1 + n = 9 * plr sh by omega)]
      by_cases h4 : nI 0 < M 114 t k
      · have h5 : ¬ M 114 t k ≤ nI 0 := Int32.not_le.mpr h4
        simp (disch := omega) only [setE, setN, cpy_set, lit, nle, nlt, neq, inb_iff, cl_nI, tle, fle, tlt, flt, teq, feq, m9, m3, x9, x3, nI_add, nsub, upN, upE, b0', b01', r100, w100, r101, w101, r102, w102, r103, w103, r104, w104, r105, w105, r106, w106, r107, w107, r108, w108, w109, w110, r111, w111, r112, w112, r113, w113, r114, w114, r115, w115, r116, w116, r117, w117, r118, w118, r119, w119, w120, w121, r122, w122, r130, w130, w131, w132, r133, w133, r134, w134, r135, w135, r136, w136, r137, w137, r138, w138, r139, w139, r140, w140, r141, w141, w142, r143, w143, r144, w144, r145, w145, r146, w146, w147, w150, Bool.false_eq_true, not_true_eq_false, not_false_eq_true, false_implies, true_implies, and_true, true_and, if_true, if_false, implies_true, Classical.not_not, true_or, or_true, false_or, or_false, and_self, ite_true, ite_false, reduceIte, h4, h5]
      · have h5 : M 114 t k ≤ nI 0 := Int32.not_lt.mp h4
        simp (disch := omega) only [setE, setN, cpy_set, lit, nle, nlt, neq, inb_iff, cl_nI, tle, fle, tlt, flt, teq, feq, m9, m3, x9, x3, nI_add, nsub, upN, upE, b0', b01', r100, w100, r101, w101, r102, w102, r103, w103, r104, w104, r105, w105, r106, w106, r107, w107, r108, w108, w109, w110, r111, w111, r112, w112, r113, w113, r114, w114, r115, w115, r116, w116, r117, w117, r118, w118, r119, w119, w120, w121, r122, w122, r130, w130, w131, w132, r133, w133, r134, w134, r135, w135, r136, w136, r137, w137, r138, w138, r139, w139, r140, w140, r141, w141, w142, r143, w143, r144, w144, r145, w145, r146, w146, w147, w150, Bool.false_eq_true, not_true_eq_false, not_false_eq_true, false_implies, true_implies, and_true, true_and, if_true, if_false, implies_true, Classical.not_not, true_or, or_true, false_or, or_false, and_self, ite_true, ite_false, reduceIte, h4, h5]
  exact key (9 * plr sh) 0 (by omega)
/-- sound -/
def sndB (sh : Nat) (pay tok : Nat → Int32) : Bool := (List.range 27).all (fun k => !decide (nI 0 < gns sh pay tok k))
theorem snd_iff {sh : Nat} {pay tok : Nat → Int32} : sndB sh pay tok = true ↔ ∀ k, k < 27 → ¬ nI 0 < gns sh pay tok k := by
  unfold sndB
  rw [List.all_eq_true]
  constructor
  · intro h k hk h2
    have := h k (List.mem_range.mpr hk)
    rw [decide_eq_true h2] at this
    cases this
  · intro h k hk
    rw [decide_eq_false (h k (List.mem_range.mp hk))]
    rfl
theorem dl_0 {p k : Nat} (h5 : sh < 5) (hp : p < prf sh) (h : ¬ (k / 9 < plr sh ∧ k % 9 / 3 < hsN sh (k / 9) ∧ k % 3 < hsN sh (k / 9))) : dl sh pay p k = 0 := by
  refine if_neg (fun z => h ⟨z.1, ?_, z.2.2⟩)
  rw [z.2.1]
  exact (((sh_ok sh h5).2 (k / 9) z.1).2 p hp).1
theorem sum_00 (f : Nat → Int32) : ∀ (n k : Nat), (∀ p, k ≤ p → p < k + n → f p = 0) → sumN f k n = 0
  | 0, _, _ => rfl
  | n + 1, k, h => by
    show f k + sumN f (k + 1) n = 0
    rw [h k (by omega) (by omega), sum_00 f n (k + 1) (fun p h1 h2 => h p (by omega) (by omega))]
    rfl
theorem gns_out {k : Nat} (h5 : sh < 5) (h : ¬ (k / 9 < plr sh ∧ k % 9 / 3 < hsN sh (k / 9) ∧ k % 3 < hsN sh (k / 9))) : gns sh pay tok k = 0 :=
  sum_00 _ _ _ (fun p _ h2 => by rw [dl_0 h5 (by omega) h]; exact Int32.mul_zero)
theorem gns_pos {k : Nat} (h5 : sh < 5) (h : nI 0 < gns sh pay tok k) : k / 9 < plr sh ∧ k % 9 / 3 < hsN sh (k / 9) ∧ k % 3 < hsN sh (k / 9) := by
  refine Classical.byContradiction (fun h2 => ?_)
  rw [gns_out h5 h2] at h
  exact absurd h (by decide)
theorem TL.ls {k : Nat} (hT : TL M t sh pay tok) (h : nI 0 < gns sh pay tok k) : M 117 t k = nI (lst sh (k / 9) (k % 9 / 3)) := by
  obtain ⟨z1, z2, z3⟩ := gns_pos hT.1.1 h
  have := hT.1.2.2.2.2.2.2 (k / 9) (k % 9 / 3) (k % 3) z1 z2 z3
  rw [show 9 * (k / 9) + 3 * (k % 9 / 3) + k % 3 = k by omega] at this
  exact this
theorem TL.pos {k : Nat} (hT : TL M t sh pay tok) (hk : k < 9 * plr sh) : (nI 0 < M 114 t k) ↔ nI 0 < gns sh pay tok k := by
  have := (sh_ok sh hT.1.1).1
  rw [hT.2.2 k (by omega)]
theorem TL.yes (hT : TL M t sh pay tok) (h : sndB sh pay tok = true) : stl (M 114 t) (M 117 t) 0 (9 * plr sh) = - nI 1 := by
  have := (sh_ok sh hT.1.1).1
  exact stl_no _ _ (fun j h1 h2 => by rw [hT.pos (by omega)]; exact snd_iff.mp h j (by omega))
theorem TL.no (hT : TL M t sh pay tok) (h : ¬ sndB sh pay tok = true) : ∃ k, k < 9 * plr sh ∧ nI 0 < gns sh pay tok k ∧ stl (M 114 t) (M 117 t) 0 (9 * plr sh) = nI (lst sh (k / 9) (k % 9 / 3)) := by
  have := (sh_ok sh hT.1.1).1
  have h1 : ∃ k, k < 27 ∧ nI 0 < gns sh pay tok k := by
    refine Classical.byContradiction (fun h2 => h (snd_iff.mpr (fun k hk h3 => h2 ⟨k, hk, h3⟩)))
  obtain ⟨k, h2, h3⟩ := h1
  have h4 := (gns_pos hT.1.1 h3).1
  obtain ⟨i, i1, i2, i3, i4⟩ := stl_yes (L := M 117 t) (9 * plr sh) 0 k (by omega) (by omega) ((hT.pos (by omega)).mpr h3)
  have i5 := (hT.pos (by omega)).mp i3
  exact ⟨i, by omega, i5, by rw [i4, hT.ls i5]⟩
theorem nI_neg1 {k : Nat} (h : k < 2 ^ 31) : nI k = - nI 1 ↔ False := by
  refine iff_false_intro (fun e => ?_)
  have h1 := nI_toInt h
  rw [e] at h1
  have h2 : (- nI 1).toInt = -1 := by decide
  omega
theorem lst_lt {i a : Nat} (h5 : sh < 5) (hi : i < plr sh) (ha : a < hsN sh i) : lst sh i a < 9 := by
  have := (sh_ok sh h5).1
  have := (lst_ok h5 hi ha).1.1
  omega
theorem c58 (ht : t < 4) (hT : TL M t sh pay tok) : Call (d + 2) 58 [vR 9 t] (M, J, (jk, 149, 147, X)) Q ↔ Q (some (vI (bI (sndB sh pay tok = true)))) (M, J, (jk, 149, 147, X)) := by
  rw [e_58]
  simp (disch := omega) only [s_58_0, s_58_1, s_58_4, s_58_5, s_58_8, s_58_9, s_58_12, s_58_13, amLong_I, amLong_R, amLong_N, amLong_L, cond_true, cond_false, Option.toList_some, Option.toList_none, List.cons_append, List.nil_append, List.append_nil, setE, setN, cpy_set, lit, nle, nlt, neq, inb_iff, cl_nI, tle, fle, tlt, flt, teq, feq, m9, m3, x9, x3, nI_add, nsub, upN, upE, b0', b01', r100, w100, r101, w101, r102, w102, r103, w103, r104, w104, r105, w105, r106, w106, r107, w107, r108, w108, w109, w110, r111, w111, r112, w112, r113, w113, r114, w114, r115, w115, r116, w116, r117, w117, r118, w118, r119, w119, w120, w121, r122, w122, r130, w130, w131, w132, r133, w133, r134, w134, r135, w135, r136, w136, r137, w137, r138, w138, r139, w139, r140, w140, r141, w141, w142, r143, w143, r144, w144, r145, w145, r146, w146, w147, w150, Bool.false_eq_true, not_true_eq_false, not_false_eq_true, false_implies, true_implies, and_true, true_and, if_true, if_false, implies_true, Classical.not_not, true_or, or_true, false_or, or_false, and_self, ite_true, ite_false, reduceIte, c59 ht hT.1.1 hT.1.2.1]
  by_cases h : sndB sh pay tok = true
  · simp (disch := omega) only [setE, setN, cpy_set, lit, nle, nlt, neq, inb_iff, cl_nI, tle, fle, tlt, flt, teq, feq, m9, m3, x9, x3, nI_add, nsub, upN, upE, b0', b01', r100, w100, r101, w101, r102, w102, r103, w103, r104, w104, r105, w105, r106, w106, r107, w107, r108, w108, w109, w110, r111, w111, r112, w112, r113, w113, r114, w114, r115, w115, r116, w116, r117, w117, r118, w118, r119, w119, w120, w121, r122, w122, r130, w130, w131, w132, r133, w133, r134, w134, r135, w135, r136, w136, r137, w137, r138, w138, r139, w139, r140, w140, r141, w141, w142, r143, w143, r144, w144, r145, w145, r146, w146, w147, w150, Bool.false_eq_true, not_true_eq_false, not_false_eq_true, false_implies, true_implies, and_true, true_and, if_true, if_false, implies_true, Classical.not_not, true_or, or_true, false_or, or_false, and_self, ite_true, ite_false, reduceIte, hT.yes h, bI_t h]
  · obtain ⟨k, h1, h2, h3⟩ := hT.no h
    obtain ⟨z1, z2, z3⟩ := gns_pos hT.1.1 h2
    have h4 := lst_lt hT.1.1 z1 z2
    simp (disch := omega) only [setE, setN, cpy_set, lit, nle, nlt, neq, inb_iff, cl_nI, tle, fle, tlt, flt, teq, feq, m9, m3, x9, x3, nI_add, nsub, upN, upE, b0', b01', r100, w100, r101, w101, r102, w102, r103, w103, r104, w104, r105, w105, r106, w106, r107, w107, r108, w108, w109, w110, r111, w111, r112, w112, r113, w113, r114, w114, r115, w115, r116, w116, r117, w117, r118, w118, r119, w119, w120, w121, r122, w122, r130, w130, w131, w132, r133, w133, r134, w134, r135, w135, r136, w136, r137, w137, r138, w138, r139, w139, r140, w140, r141, w141, w142, r143, w143, r144, w144, r145, w145, r146, w146, w147, w150, Bool.false_eq_true, not_true_eq_false, not_false_eq_true, false_implies, true_implies, and_true, true_and, if_true, if_false, implies_true, Classical.not_not, true_or, or_true, false_or, or_false, and_self, ite_true, ite_false, reduceIte, h3, nI_neg1 (show lst sh (k / 9) (k % 9 / 3) < 2 ^ 31 by omega), bI_f h]
/-- where the greatest gain stands -/
def stp (G : Nat → Int32) (i a b : Nat) (x : Nat × Nat × Nat) : Nat × Nat × Nat := if a ≠ b ∧ G (9 * x.1 + 3 * x.2.1 + x.2.2) < G (9 * i + 3 * a + b) then (i, a, b) else x
def t3b (G : Nat → Int32) (i a : Nat) (x : Nat × Nat × Nat) (n : Nat) : Nat × Nat × Nat := fd (fun b x => stp G i a b x) x n
def t3a (sh : Nat) (G : Nat → Int32) (i : Nat) (x : Nat × Nat × Nat) (n : Nat) : Nat × Nat × Nat := fd (fun a x => t3b G i a x (hsN sh i)) x n
def t3 (sh : Nat) (G : Nat → Int32) (n : Nat) : Nat × Nat × Nat := fd (fun i x => t3a sh G i x (hsN sh i)) (0, 0, 1) n
def tpM (M : amM) (t : Nat) (x : Nat × Nat × Nat) : amM := upM (upM (upM M 1458 t 0 (nI x.1)) 1459 t 0 (nI x.2.1)) 1460 t 0 (nI x.2.2)
theorem tpM_up {x : Nat × Nat × Nat} {i a b : Nat} : upM (upM (upM (tpM M t x) 1458 t 0 (nI i)) 1459 t 0 (nI a)) 1460 t 0 (nI b) = tpM M t (i, a, b) := by
  funext c j k
  unfold tpM upM
  by_cases h1 : c = 1460 ∧ j = t ∧ k = 0
  · rw [if_pos h1, if_pos h1]
  rw [if_neg h1, if_neg h1]
  by_cases h2 : c = 1459 ∧ j = t ∧ k = 0
  · rw [if_pos h2, if_neg h1, if_pos h2]
  rw [if_neg h2]
  by_cases h3 : c = 1458 ∧ j = t ∧ k = 0
  · rw [if_pos h3, if_neg h1, if_neg h2, if_pos h3]
  simp only [h1, h2, h3, if_false]
theorem tpM_f {x : Nat × Nat × Nat} {c j k : Nat} (h : c < 1458 ∨ 1460 < c ∨ j ≠ t) : tpM M t x c j k = M c j k := by
  unfold tpM
  rw [upN (by omega), upN (by omega), upN (by omega)]
theorem tpM_1 {x : Nat × Nat × Nat} : tpM M t x 1458 t 0 = nI x.1 := by
  unfold tpM
  rw [upN (by omega), upN (by omega), upM_eq]
theorem tpM_2 {x : Nat × Nat × Nat} : tpM M t x 1459 t 0 = nI x.2.1 := by
  unfold tpM
  rw [upN (by omega), upM_eq]
theorem tpM_3 {x : Nat × Nat × Nat} : tpM M t x 1460 t 0 = nI x.2.2 := by
  unfold tpM
  rw [upM_eq]
def in3 (x : Nat × Nat × Nat) : Prop := x.1 < 3 ∧ x.2.1 < 3 ∧ x.2.2 < 3
theorem stp_in {G : Nat → Int32} {i a b : Nat} {x : Nat × Nat × Nat} (hi : i < 3) (ha : a < 3) (hb : b < 3) (h : in3 x) : in3 (stp G i a b x) := by
  unfold stp
  split
  · exact ⟨hi, ha, hb⟩
  · exact h
end TALLY3
