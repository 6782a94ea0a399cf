/-! how great numbers get; the greatest gain -/
theorem bm {x : Int} (h1 : -2147483648 ≤ x) (h2 : x < 2147483648) : x.bmod (2 ^ 32) = x := by
  rw [Int.bmod_def, show ((2 ^ 32 : Nat) : Int) = 4294967296 from rfl]
  split <;> omega
theorem tA {a b : Int32} (h1 : -2147483648 ≤ a.toInt + b.toInt) (h2 : a.toInt + b.toInt < 2147483648) : (a + b).toInt = a.toInt + b.toInt := by
  rw [Int32.toInt_add, bm h1 h2]
theorem tS {a b : Int32} (h1 : -2147483648 ≤ a.toInt - b.toInt) (h2 : a.toInt - b.toInt < 2147483648) : (a - b).toInt = a.toInt - b.toInt := by
  rw [Int32.toInt_sub, bm h1 h2]
theorem tM {a b : Int32} (h1 : -2147483648 ≤ a.toInt * b.toInt) (h2 : a.toInt * b.toInt < 2147483648) : (a * b).toInt = a.toInt * b.toInt := by
  rw [Int32.toInt_mul, bm h1 h2]
theorem tN {a : Int32} (h : -2147483648 < a.toInt) : (-a).toInt = -a.toInt := by
  have := a.toInt_lt
  rw [Int32.toInt_neg, bm (by omega) (by omega)]
theorem mul_b {a b : Int} {A B : Nat} (h1 : a.natAbs ≤ A) (h2 : b.natAbs ≤ B) : (a * b).natAbs ≤ A * B := by
  rw [Int.natAbs_mul]
  exact Nat.mul_le_mul h1 h2
def sumZ (f : Nat → Int) : Nat → Int
  | 0 => 0
  | n + 1 => sumZ f n + f n
theorem sumZ_c {f g : Nat → Int} : ∀ n, (∀ p, p < n → f p = g p) → sumZ f n = sumZ g n
  | 0, _ => rfl
  | n + 1, h => by
    show sumZ f n + f n = sumZ g n + g n
    rw [sumZ_c n (fun p hp => h p (by omega)), h n (by omega)]
theorem sum_int {f : Nat → Int32} {P : Nat} (h9 : P ≤ 9) (h : ∀ p, p < P → -216 ≤ (f p).toInt ∧ (f p).toInt ≤ 216) : ∀ n, n ≤ P → (sumN f 0 n).toInt = sumZ (fun p => (f p).toInt) n ∧ -(216 * (n : Int)) ≤ (sumN f 0 n).toInt ∧ (sumN f 0 n).toInt ≤ 216 * (n : Int)
  | 0, _ => by
    have e : (sumN f 0 0).toInt = 0 := rfl
    rw [e]
    exact ⟨rfl, by omega, by omega⟩
  | n + 1, hn => by
    obtain ⟨i1, i2, i3⟩ := sum_int h9 h n (by omega)
    obtain ⟨j1, j2⟩ := h n (by omega)
    have e : (sumN f 0 (n + 1)).toInt = (sumN f 0 n).toInt + (f n).toInt := by
      rw [sum_s, tA (by omega) (by omega)]
    refine ⟨?_, by omega, by omega⟩
    rw [e, i1]
    rfl
/-- pays, tokens as they may be -/
def pB (pay : Nat → Int32) : Prop := ∀ k, k < 27 → -9 ≤ (pay k).toInt ∧ (pay k).toInt ≤ 9
def tB (tok : Nat → Int32) : Prop := ∀ p, p < 9 → -12 ≤ (tok p).toInt ∧ (tok p).toInt ≤ 12
section BND
variable {d g t jk X sh : Nat} {M M1 M2 : amM} {J J1 J2 : amJ} {Q : Option amV → amS → Prop} {pay tok : Nat → Int32}
theorem dl_b {p k : Nat} (h5 : sh < 5) (hp : pB pay) (hpp : p < prf sh) : (-18 ≤ (dl sh pay p k).toInt ∧ (dl sh pay p k).toInt ≤ 18) ∧ ((k / 9 < plr sh ∧ k % 9 / 3 = act sh (k / 9) p ∧ k % 3 < hsN sh (k / 9)) → (dl sh pay p k).toInt = (pay (9 * (k / 9) + ins sh (k / 9) p (k % 3))).toInt - (pay (9 * (k / 9) + p)).toInt) := by
  obtain ⟨⟨l1, l2, l3, l4⟩, l5⟩ := sh_ok sh h5
  unfold dl
  by_cases e : k / 9 < plr sh ∧ k % 9 / 3 = act sh (k / 9) p ∧ k % 3 < hsN sh (k / 9)
  · have h1 := (((l5 _ e.1).2 p hpp).2.2 _ e.2.2).1
    have h2 := hp (9 * (k / 9) + ins sh (k / 9) p (k % 3)) (by omega)
    have h3 := hp (9 * (k / 9) + p) (by omega)
    rw [if_pos e, tS (by omega) (by omega)]
    exact ⟨by omega, fun _ => rfl⟩
  · rw [if_neg e]
    exact ⟨by decide, fun z => absurd z e⟩
theorem pr_b {p k : Nat} (h5 : sh < 5) (hp : pB pay) (ht : tB tok) (hpp : p < prf sh) : (tok p * dl sh pay p k).toInt = (tok p).toInt * (dl sh pay p k).toInt ∧ -216 ≤ (tok p * dl sh pay p k).toInt ∧ (tok p * dl sh pay p k).toInt ≤ 216 := by
  have h4 := (sh_ok sh h5).1
  have h1 := (dl_b (k := k) h5 hp hpp).1
  have h2 := ht p (by omega)
  have h3 := mul_b (a := (tok p).toInt) (b := (dl sh pay p k).toInt) (A := 12) (B := 18) (by omega) (by omega)
  rw [tM (by omega) (by omega)]
  exact ⟨rfl, by omega, by omega⟩
theorem gns_b {k : Nat} (h5 : sh < 5) (hp : pB pay) (ht : tB tok) : (gns sh pay tok k).toInt = sumZ (fun p => (tok p).toInt * (dl sh pay p k).toInt) (prf sh) ∧ -1944 ≤ (gns sh pay tok k).toInt ∧ (gns sh pay tok k).toInt ≤ 1944 := by
  have h4 := (sh_ok sh h5).1
  obtain ⟨h1, h2, h3⟩ := sum_int (f := fun p => tok p * dl sh pay p k) (P := prf sh) (by omega) (fun p hpp => (pr_b h5 hp ht hpp).2) (prf sh) (Nat.le_refl _)
  refine ⟨?_, ?_, ?_⟩
  · rw [show (gns sh pay tok k) = sumN (fun p => tok p * dl sh pay p k) 0 (prf sh) from rfl, h1]
    exact sumZ_c _ (fun p hpp => (pr_b h5 hp ht hpp).1)
  · show -1944 ≤ (sumN (fun p => tok p * dl sh pay p k) 0 (prf sh)).toInt
    omega
  · show (sumN (fun p => tok p * dl sh pay p k) 0 (prf sh)).toInt ≤ 1944
    omega
/-- the greatest one is the greatest -/
theorem fd_ci {α : Type} {f g : Nat → α → α} {I : Nat → α → Prop} {a : α} (h0 : I 0 a) : ∀ n, (∀ k x, k < n → I k x → f k x = g k x ∧ I (k + 1) (f k x)) → fd f a n = fd g a n ∧ I n (fd f a n)
  | 0, _ => ⟨rfl, h0⟩
  | n + 1, h => by
    obtain ⟨h1, h2⟩ := fd_ci h0 n (fun k x hk => h k x (by omega))
    obtain ⟨h3, h4⟩ := h n _ (by omega) h2
    refine ⟨?_, h4⟩
    show f n (fd f a n) = g n (fd g a n)
    rw [← h1, h3]
theorem t3_cg {G G' : Nat → Int32} (h5 : sh < 5) (h : ∀ k, k < 27 → G k = G' k) : t3 sh G (plr sh) = t3 sh G' (plr sh) := by
  obtain ⟨⟨l1, l2, l3, l4⟩, l5⟩ := sh_ok sh h5
  refine (fd_ci (I := fun _ x => in3 x) (by unfold in3; decide) (plr sh) (fun i x hi hx => ?_)).1
  obtain ⟨l6, -⟩ := l5 i hi
  refine fd_ci (I := fun _ x => in3 x) hx (hsN sh i) (fun a x ha hx => ?_)
  refine fd_ci (I := fun _ x => in3 x) hx (hsN sh i) (fun b x hb hx => ?_)
  refine ⟨?_, stp_in (by omega) (by omega) (by omega) hx⟩
  unfold stp
  obtain ⟨x1, x2, x3⟩ := hx
  rw [h _ (by omega), h _ (by omega)]
/-- what the greatest one is -/
def tpI (sh : Nat) (G : Nat → Int32) (P : Nat → Nat → Nat → Prop) (x : Nat × Nat × Nat) : Prop := (x.1 < plr sh ∧ x.2.1 < hsN sh x.1 ∧ x.2.2 < hsN sh x.1 ∧ x.2.1 ≠ x.2.2) ∧ ∀ i a b, P i a b → a ≠ b → G (9 * i + 3 * a + b) ≤ G (9 * x.1 + 3 * x.2.1 + x.2.2)
theorem t3_top {G : Nat → Int32} (h5 : sh < 5) : tpI sh G (fun i a b => i < plr sh ∧ a < hsN sh i ∧ b < hsN sh i) (t3 sh G (plr sh)) := by
  obtain ⟨⟨l1, l2, l3, l4⟩, l5⟩ := sh_ok sh h5
  have l0 := (l5 0 (by omega)).1
  refine fd_inv (I := fun n x => tpI sh G (fun i a b => i < n ∧ a < hsN sh i ∧ b < hsN sh i) x) ⟨⟨by show 0 < plr sh; omega, by show 0 < hsN sh 0; omega, by show 1 < hsN sh 0; omega, by show (0 : Nat) ≠ 1; omega⟩, fun i a b h => by omega⟩ (plr sh) (fun i x hi hx => ?_)
  have hx2 := fd_inv (f := fun a x => t3b G i a x (hsN sh i)) (I := fun n x => tpI sh G (fun i' a b => (i' < i ∧ a < hsN sh i' ∧ b < hsN sh i') ∨ (i' = i ∧ a < n ∧ b < hsN sh i)) x) (a := x) ⟨hx.1, fun i' a b h hn => hx.2 i' a b (by omega) hn⟩ (hsN sh i) (fun a x ha hx => ?_)
  · refine ⟨hx2.1, fun i' a b h hn => hx2.2 i' a b ?_ hn⟩
    by_cases e : i' = i
    · subst e
      exact Or.inr ⟨rfl, h.2.1, h.2.2⟩
    · exact Or.inl ⟨by omega, h.2.1, h.2.2⟩
  · have hx3 := fd_inv (f := fun b x => stp G i a b x) (I := fun n x => tpI sh G (fun i' a' b => (i' < i ∧ a' < hsN sh i' ∧ b < hsN sh i') ∨ (i' = i ∧ a' < a ∧ b < hsN sh i) ∨ (i' = i ∧ a' = a ∧ b < n)) x) (a := x) ⟨hx.1, fun i' a b h hn => hx.2 i' a b (by omega) hn⟩ (hsN sh i) (fun b x hb hx => ?_)
    · exact ⟨hx3.1, fun i' a' b h hn => hx3.2 i' a' b (by omega) hn⟩
    · unfold stp
      by_cases e : a ≠ b ∧ G (9 * x.1 + 3 * x.2.1 + x.2.2) < G (9 * i + 3 * a + b)
      · rw [if_pos e]
        refine ⟨⟨hi, ha, hb, e.1⟩, fun i' a' b' h hn => ?_⟩
        by_cases e2 : i' = i ∧ a' = a ∧ b' = b
        · obtain ⟨rfl, rfl, rfl⟩ := e2
          exact Int32.le_refl _
        · exact Int32.le_trans (hx.2 i' a' b' (by omega) hn) (Int32.le_of_lt e.2)
      · rw [if_neg e]
        refine ⟨hx.1, fun i' a' b' h hn => ?_⟩
        by_cases e2 : i' = i ∧ a' = a ∧ b' = b
        · obtain ⟨rfl, rfl, rfl⟩ := e2
          exact Int32.not_lt.mp (fun z => e ⟨hn, z⟩)
        · exact hx.2 i' a' b' (by omega) hn
def topG (sh : Nat) (G : Nat → Int32) : Int32 := G (9 * (t3 sh G (plr sh)).1 + 3 * (t3 sh G (plr sh)).2.1 + (t3 sh G (plr sh)).2.2)
theorem top_snd (h5 : sh < 5) : sndB sh pay tok = true ↔ topG sh (gns sh pay tok) ≤ nI 0 := by
  obtain ⟨⟨x1, x2, x3, x4⟩, h⟩ := t3_top (G := gns sh pay tok) h5
  rw [snd_iff3 h5]
  constructor
  · intro h2
    exact Int32.not_lt.mp (h2 _ x1 _ x2 _ x3 x4)
  · intro h2 i hi a ha b hb hn
    exact Int32.not_lt.mpr (Int32.le_trans (h i a b ⟨hi, ha, hb⟩ hn) h2)
/-- the reference's way to it -/
def gI (G : Nat → Int32) (M1 : amM) (x : Int32) (y : Nat × Nat × Nat) (un : Prop) : Prop := (un → x = -nI 2147483648 ∧ y = (0, 0, 1)) ∧ (¬ un → x = G (9 * y.1 + 3 * y.2.1 + y.2.2) ∧ M1 1611 0 0 = nI y.1 ∧ M1 1612 0 0 = nI y.2.1 ∧ M1 1613 0 0 = nI y.2.2)
theorem m190 (hV : MV M sh pay tok) (hm : ∀ k, k < 27 → -2147483648 < (gns sh pay (M 134 0) k).toInt) (H : ∀ M1, (∀ c j k, (c < 1611 ∨ 1613 < c) → M1 c j k = M c j k) → M1 1611 0 0 = nI (t3 sh (gns sh pay (M 134 0)) (plr sh)).1 → M1 1612 0 0 = nI (t3 sh (gns sh pay (M 134 0)) (plr sh)).2.1 → M1 1613 0 0 = nI (t3 sh (gns sh pay (M 134 0)) (plr sh)).2.2 → Q (some (vI (topG sh (gns sh pay (M 134 0))))) (M1, J, (jk, 149, 147, X))) : Call (d + 6) 190 [vR 12 0] (M, J, (jk, 149, 147, X)) Q := by
  obtain ⟨⟨l1, l2, l3, l4⟩, l5⟩ := sh_ok sh hV.1
  generalize hG : gns sh pay (M 134 0) = G at *
  have hg : ∀ {M1 : amM} {i a b : Nat} {Q : Option amV → amS → Prop}, (∀ c j k, (c < 1611 ∨ 1613 < c) → M1 c j k = M c j k) → i < plr sh → a < 3 → b < hsN sh i → (Call (d + 5) 187 [vR 12 0, vI (nI i), vI (nI a), vI (nI b)] (M1, J, (jk, 149, 147, X)) Q ↔ Q (some (vI (G (9 * i + 3 * a + b)))) (M1, J, (jk, 149, 147, X))) := by
    intro M1 i a b Q hF hi ha hb
    have hV1 : MV M1 sh pay tok := hV.of (fun k _ => hF _ _ _ (by omega))
    rw [m187 hV1 hi ha hb, ← hG, show M1 134 0 = M 134 0 from funext fun k => hF _ _ _ (by omega)]
  rw [e_190]
  simp (disch := omega) only [s_190_0, s_190_2, s_190_3, s_190_4, s_190_6, s_190_7, s_190_10, s_190_11, s_190_12, s_190_15, s_190_16, s_190_18, s_190_19, s_190_20, s_190_23, s_190_26, s_190_27, s_190_31, s_190_32, s_190_33, s_190_36, s_190_39, s_190_40, s_190_42, s_190_45, s_190_46, s_190_47, s_190_48, s_190_50, s_190_53, s_190_54, s_190_57, s_190_60, s_190_61, s_190_62, s_190_63, s_190_65, s_190_68, s_190_69, s_190_70, s_190_71, s_190_74, s_190_75, s_190_76, s_190_79, s_190_80, s_190_82, s_190_85, s_190_88, s_190_91, s_190_94, s_190_97, s_190_100, s_190_103, s_190_104, amLong_I, amLong_R, amLong_N, amLong_L, cond_true, cond_false, Option.toList_some, Option.toList_none, List.cons_append, List.nil_append, List.append_nil, setE, setN, cpy_set, lit, nle, nlt, neq, inb_iff, cl_nI, tle, fle, tlt, flt, teq, feq, m9, m3, x9, x3, nI_add, nsub, upN, upE, b0', b01', r100, w100, r101, w101, r102, w102, r103, w103, r104, w104, r105, w105, r106, w106, r107, w107, r108, w108, w109, w110, r111, w111, r112, w112, r113, w113, r114, w114, r115, w115, r116, w116, r117, w117, r118, w118, r119, w119, w120, w121, r122, w122, r130, w130, w131, w132, r133, w133, r134, w134, r135, w135, r136, w136, r137, w137, r138, w138, r139, w139, r140, w140, r141, w141, w142, r143, w143, r144, w144, r145, w145, r146, w146, w147, w150, b1', em1, Bool.false_eq_true, not_true_eq_false, not_false_eq_true, false_implies, true_implies, and_true, true_and, if_true, if_false, implies_true, Classical.not_not, true_or, or_true, false_or, or_false, and_self, ite_true, ite_false, reduceIte]
  refine lpH (T := Int32) (U := Option amV × Option amV) (P := plr sh) (E := fun k M1 J1 u x => Ev (d + 5) 190 5 [some (vR 12 (0)), some (vI (x)), some (vI (nI k)), u.1, u.2] [] (M1, J1, (jk, 149, 147, X)) Q) (I := fun k M1 J1 x => J = J1 ∧ (∀ c j k, (c < 1611 ∨ 1613 < c) → M1 c j k = M c j k) ∧ gI G M1 x (t3 sh G k) (k = 0)) (fun M1 J1 u x hI => ?_) (fun i M1 J1 u x hi hI next => ?_) 0 _ _ (none, none) _ (by omega) ⟨rfl, fun _ _ _ _ => rfl, fun _ => ⟨rfl, rfl⟩, fun z => absurd rfl z⟩
  · obtain ⟨rfl, i2, i3⟩ := hI
    have e0 : M1 130 0 0 = nI (plr sh) := by rw [i2 _ _ _ (by omega), hV.2.1]
    obtain ⟨j1, j2, j3, j4⟩ := i3.2 (by omega)
    rw [h_190_5]
    simp (disch := omega) only [s_190_0, s_190_2, s_190_3, s_190_4, s_190_6, s_190_7, s_190_10, s_190_11, s_190_12, s_190_15, s_190_16, s_190_18, s_190_19, s_190_20, s_190_23, s_190_26, s_190_27, s_190_31, s_190_32, s_190_33, s_190_36, s_190_39, s_190_40, s_190_42, s_190_45, s_190_46, s_190_47, s_190_48, s_190_50, s_190_53, s_190_54, s_190_57, s_190_60, s_190_61, s_190_62, s_190_63, s_190_65, s_190_68, s_190_69, s_190_70, s_190_71, s_190_74, s_190_75, s_190_76, s_190_79, s_190_80, s_190_82, s_190_85, s_190_88, s_190_91, s_190_94, s_190_97, s_190_100, s_190_103, s_190_104, amLong_I, amLong_R, amLong_N, amLong_L, cond_true, cond_false, Option.toList_some, Option.toList_none, List.cons_append, List.nil_append, List.append_nil, setE, setN, cpy_set, lit, nle, nlt, neq, inb_iff, cl_nI, tle, fle, tlt, flt, teq, feq, m9, m3, x9, x3, nI_add, nsub, upN, upE, b0', b01', r100, w100, r101, w101, r102, w102, r103, w103, r104, w104, r105, w105, r106, w106, r107, w107, r108, w108, w109, w110, r111, w111, r112, w112, r113, w113, r114, w114, r115, w115, r116, w116, r117, w117, r118, w118, r119, w119, w120, w121, r122, w122, r130, w130, w131, w132, r133, w133, r134, w134, r135, w135, r136, w136, r137, w137, r138, w138, r139, w139, r140, w140, r141, w141, w142, r143, w143, r144, w144, r145, w145, r146, w146, w147, w150, b1', em1, Bool.false_eq_true, not_true_eq_false, not_false_eq_true, false_implies, true_implies, and_true, true_and, if_true, if_false, implies_true, Classical.not_not, true_or, or_true, false_or, or_false, and_self, ite_true, ite_false, reduceIte, e0]
    rw [j1]
    exact H M1 i2 j2 j3 j4
  · obtain ⟨rfl, i2, i3⟩ := hI
    obtain ⟨l6, -⟩ := l5 i hi
    have e0 : M1 130 0 0 = nI (plr sh) := by rw [i2 _ _ _ (by omega), hV.2.1]
    rw [h_190_5]
    simp (disch := omega) only [s_190_0, s_190_2, s_190_3, s_190_4, s_190_6, s_190_7, s_190_10, s_190_11, s_190_12, s_190_15, s_190_16, s_190_18, s_190_19, s_190_20, s_190_23, s_190_26, s_190_27, s_190_31, s_190_32, s_190_33, s_190_36, s_190_39, s_190_40, s_190_42, s_190_45, s_190_46, s_190_47, s_190_48, s_190_50, s_190_53, s_190_54, s_190_57, s_190_60, s_190_61, s_190_62, s_190_63, s_190_65, s_190_68, s_190_69, s_190_70, s_190_71, s_190_74, s_190_75, s_190_76, s_190_79, s_190_80, s_190_82, s_190_85, s_190_88, s_190_91, s_190_94, s_190_97, s_190_100, s_190_103, s_190_104, amLong_I, amLong_R, amLong_N, amLong_L, cond_true, cond_false, Option.toList_some, Option.toList_none, List.cons_append, List.nil_append, List.append_nil, setE, setN, cpy_set, lit, nle, nlt, neq, inb_iff, cl_nI, tle, fle, tlt, flt, teq, feq, m9, m3, x9, x3, nI_add, nsub, upN, upE, b0', b01', r100, w100, r101, w101, r102, w102, r103, w103, r104, w104, r105, w105, r106, w106, r107, w107, r108, w108, w109, w110, r111, w111, r112, w112, r113, w113, r114, w114, r115, w115, r116, w116, r117, w117, r118, w118, r119, w119, w120, w121, r122, w122, r130, w130, w131, w132, r133, w133, r134, w134, r135, w135, r136, w136, r137, w137, r138, w138, r139, w139, r140, w140, r141, w141, w142, r143, w143, r144, w144, r145, w145, r146, w146, w147, w150, b1', em1, Bool.false_eq_true, not_true_eq_false, not_false_eq_true, false_implies, true_implies, and_true, true_and, if_true, if_false, implies_true, Classical.not_not, true_or, or_true, false_or, or_false, and_self, ite_true, ite_false, reduceIte, e0]
    refine lpH (T := Int32) (U := Option amV) (P := hsN sh i) (E := fun k M1 J1 u x => Ev (d + 5) 190 17 [some (vR 12 (0)), some (vI (x)), some (vI (nI i)), some (vI (nI k)), u] [] (M1, J1, (jk, 149, 147, X)) Q) (I := fun k M1 J1 x => J = J1 ∧ (∀ c j k, (c < 1611 ∨ 1613 < c) → M1 c j k = M c j k) ∧ gI G M1 x (t3a sh G i (t3 sh G i) k) (i = 0 ∧ k = 0)) (fun M1 J1 u x hI => ?_) (fun a M1 J1 u x ha hI next2 => ?_) 0 _ _ u.2 _ (by omega) ⟨rfl, i2, fun h => i3.1 h.1, fun z => i3.2 (fun e => z ⟨e, rfl⟩)⟩
    · obtain ⟨rfl, i2, i3⟩ := hI
      have hV1 : MV M1 sh pay tok := hV.of (fun k _ => i2 _ _ _ (by omega))
      rw [h_190_17]
      simp (disch := omega) only [s_190_0, s_190_2, s_190_3, s_190_4, s_190_6, s_190_7, s_190_10, s_190_11, s_190_12, s_190_15, s_190_16, s_190_18, s_190_19, s_190_20, s_190_23, s_190_26, s_190_27, s_190_31, s_190_32, s_190_33, s_190_36, s_190_39, s_190_40, s_190_42, s_190_45, s_190_46, s_190_47, s_190_48, s_190_50, s_190_53, s_190_54, s_190_57, s_190_60, s_190_61, s_190_62, s_190_63, s_190_65, s_190_68, s_190_69, s_190_70, s_190_71, s_190_74, s_190_75, s_190_76, s_190_79, s_190_80, s_190_82, s_190_85, s_190_88, s_190_91, s_190_94, s_190_97, s_190_100, s_190_103, s_190_104, amLong_I, amLong_R, amLong_N, amLong_L, cond_true, cond_false, Option.toList_some, Option.toList_none, List.cons_append, List.nil_append, List.append_nil, setE, setN, cpy_set, lit, nle, nlt, neq, inb_iff, cl_nI, tle, fle, tlt, flt, teq, feq, m9, m3, x9, x3, nI_add, nsub, upN, upE, b0', b01', r100, w100, r101, w101, r102, w102, r103, w103, r104, w104, r105, w105, r106, w106, r107, w107, r108, w108, w109, w110, r111, w111, r112, w112, r113, w113, r114, w114, r115, w115, r116, w116, r117, w117, r118, w118, r119, w119, w120, w121, r122, w122, r130, w130, w131, w132, r133, w133, r134, w134, r135, w135, r136, w136, r137, w137, r138, w138, r139, w139, r140, w140, r141, w141, w142, r143, w143, r144, w144, r145, w145, r146, w146, w147, w150, b1', em1, Bool.false_eq_true, not_true_eq_false, not_false_eq_true, false_implies, true_implies, and_true, true_and, if_true, if_false, implies_true, Classical.not_not, true_or, or_true, false_or, or_false, and_self, ite_true, ite_false, reduceIte, m173 hV1, hs1_eq]
      exact next _ _ (_, _) _ ⟨rfl, i2, fun h => by omega, fun _ => i3.2 (by omega)⟩
    · obtain ⟨rfl, i2, i3⟩ := hI
      have hV1 : MV M1 sh pay tok := hV.of (fun k _ => i2 _ _ _ (by omega))
      rw [h_190_17]
      simp (disch := omega) only [s_190_0, s_190_2, s_190_3, s_190_4, s_190_6, s_190_7, s_190_10, s_190_11, s_190_12, s_190_15, s_190_16, s_190_18, s_190_19, s_190_20, s_190_23, s_190_26, s_190_27, s_190_31, s_190_32, s_190_33, s_190_36, s_190_39, s_190_40, s_190_42, s_190_45, s_190_46, s_190_47, s_190_48, s_190_50, s_190_53, s_190_54, s_190_57, s_190_60, s_190_61, s_190_62, s_190_63, s_190_65, s_190_68, s_190_69, s_190_70, s_190_71, s_190_74, s_190_75, s_190_76, s_190_79, s_190_80, s_190_82, s_190_85, s_190_88, s_190_91, s_190_94, s_190_97, s_190_100, s_190_103, s_190_104, amLong_I, amLong_R, amLong_N, amLong_L, cond_true, cond_false, Option.toList_some, Option.toList_none, List.cons_append, List.nil_append, List.append_nil, setE, setN, cpy_set, lit, nle, nlt, neq, inb_iff, cl_nI, tle, fle, tlt, flt, teq, feq, m9, m3, x9, x3, nI_add, nsub, upN, upE, b0', b01', r100, w100, r101, w101, r102, w102, r103, w103, r104, w104, r105, w105, r106, w106, r107, w107, r108, w108, w109, w110, r111, w111, r112, w112, r113, w113, r114, w114, r115, w115, r116, w116, r117, w117, r118, w118, r119, w119, w120, w121, r122, w122, r130, w130, w131, w132, r133, w133, r134, w134, r135, w135, r136, w136, r137, w137, r138, w138, r139, w139, r140, w140, r141, w141, w142, r143, w143, r144, w144, r145, w145, r146, w146, w147, w150, b1', em1, Bool.false_eq_true, not_true_eq_false, not_false_eq_true, false_implies, true_implies, and_true, true_and, if_true, if_false, implies_true, Classical.not_not, true_or, or_true, false_or, or_false, and_self, ite_true, ite_false, reduceIte, m173 hV1, hs1_eq]
      refine lpH (T := Int32) (U := Unit) (P := hsN sh i) (E := fun k M1 J1 u x => Ev (d + 5) 190 29 [some (vR 12 (0)), some (vI (x)), some (vI (nI i)), some (vI (nI a)), some (vI (nI k))] [] (M1, J1, (jk, 149, 147, X)) Q) (I := fun k M1 J1 x => J = J1 ∧ (∀ c j k, (c < 1611 ∨ 1613 < c) → M1 c j k = M c j k) ∧ gI G M1 x (t3b G i a (t3a sh G i (t3 sh G i) a) k) (i = 0 ∧ a = 0 ∧ k ≤ 1)) (fun M1 J1 u x hI => ?_) (fun b M1 J1 u x hb hI next3 => ?_) 0 _ _ () _ (by omega) ⟨rfl, i2, fun h => i3.1 ⟨h.1, h.2.1⟩, fun z => i3.2 (fun e => z ⟨e.1, e.2, by omega⟩)⟩
      · obtain ⟨rfl, i2, i3⟩ := hI
        have hV1 : MV M1 sh pay tok := hV.of (fun k _ => i2 _ _ _ (by omega))
        rw [h_190_29]
        simp (disch := omega) only [s_190_0, s_190_2, s_190_3, s_190_4, s_190_6, s_190_7, s_190_10, s_190_11, s_190_12, s_190_15, s_190_16, s_190_18, s_190_19, s_190_20, s_190_23, s_190_26, s_190_27, s_190_31, s_190_32, s_190_33, s_190_36, s_190_39, s_190_40, s_190_42, s_190_45, s_190_46, s_190_47, s_190_48, s_190_50, s_190_53, s_190_54, s_190_57, s_190_60, s_190_61, s_190_62, s_190_63, s_190_65, s_190_68, s_190_69, s_190_70, s_190_71, s_190_74, s_190_75, s_190_76, s_190_79, s_190_80, s_190_82, s_190_85, s_190_88, s_190_91, s_190_94, s_190_97, s_190_100, s_190_103, s_190_104, amLong_I, amLong_R, amLong_N, amLong_L, cond_true, cond_false, Option.toList_some, Option.toList_none, List.cons_append, List.nil_append, List.append_nil, setE, setN, cpy_set, lit, nle, nlt, neq, inb_iff, cl_nI, tle, fle, tlt, flt, teq, feq, m9, m3, x9, x3, nI_add, nsub, upN, upE, b0', b01', r100, w100, r101, w101, r102, w102, r103, w103, r104, w104, r105, w105, r106, w106, r107, w107, r108, w108, w109, w110, r111, w111, r112, w112, r113, w113, r114, w114, r115, w115, r116, w116, r117, w117, r118, w118, r119, w119, w120, w121, r122, w122, r130, w130, w131, w132, r133, w133, r134, w134, r135, w135, r136, w136, r137, w137, r138, w138, r139, w139, r140, w140, r141, w141, w142, r143, w143, r144, w144, r145, w145, r146, w146, w147, w150, b1', em1, Bool.false_eq_true, not_true_eq_false, not_false_eq_true, false_implies, true_implies, and_true, true_and, if_true, if_false, implies_true, Classical.not_not, true_or, or_true, false_or, or_false, and_self, ite_true, ite_false, reduceIte, m173 hV1, hs1_eq]
        exact next2 _ _ _ _ ⟨rfl, i2, fun h => by omega, fun _ => i3.2 (by omega)⟩
      · obtain ⟨rfl, i2, i3⟩ := hI
        have hV1 : MV M1 sh pay tok := hV.of (fun k _ => i2 _ _ _ (by omega))
        have e : t3b G i a (t3a sh G i (t3 sh G i) a) (b + 1) = stp G i a b (t3b G i a (t3a sh G i (t3 sh G i) a) b) := rfl
        generalize t3b G i a (t3a sh G i (t3 sh G i) a) b = y at *
        rw [e] at next3
        unfold stp at next3
        rw [h_190_29]
        by_cases h1 : a = b
        · simp (disch := omega) only [s_190_0, s_190_2, s_190_3, s_190_4, s_190_6, s_190_7, s_190_10, s_190_11, s_190_12, s_190_15, s_190_16, s_190_18, s_190_19, s_190_20, s_190_23, s_190_26, s_190_27, s_190_31, s_190_32, s_190_33, s_190_36, s_190_39, s_190_40, s_190_42, s_190_45, s_190_46, s_190_47, s_190_48, s_190_50, s_190_53, s_190_54, s_190_57, s_190_60, s_190_61, s_190_62, s_190_63, s_190_65, s_190_68, s_190_69, s_190_70, s_190_71, s_190_74, s_190_75, s_190_76, s_190_79, s_190_80, s_190_82, s_190_85, s_190_88, s_190_91, s_190_94, s_190_97, s_190_100, s_190_103, s_190_104, amLong_I, amLong_R, amLong_N, amLong_L, cond_true, cond_false, Option.toList_some, Option.toList_none, List.cons_append, List.nil_append, List.append_nil, setE, setN, cpy_set, lit, nle, nlt, neq, inb_iff, cl_nI, tle, fle, tlt, flt, teq, feq, m9, m3, x9, x3, nI_add, nsub, upN, upE, b0', b01', r100, w100, r101, w101, r102, w102, r103, w103, r104, w104, r105, w105, r106, w106, r107, w107, r108, w108, w109, w110, r111, w111, r112, w112, r113, w113, r114, w114, r115, w115, r116, w116, r117, w117, r118, w118, r119, w119, w120, w121, r122, w122, r130, w130, w131, w132, r133, w133, r134, w134, r135, w135, r136, w136, r137, w137, r138, w138, r139, w139, r140, w140, r141, w141, w142, r143, w143, r144, w144, r145, w145, r146, w146, w147, w150, b1', em1, Bool.false_eq_true, not_true_eq_false, not_false_eq_true, false_implies, true_implies, and_true, true_and, if_true, if_false, implies_true, Classical.not_not, true_or, or_true, false_or, or_false, and_self, ite_true, ite_false, reduceIte, m173 hV1, hs1_eq, h1]
          rw [if_neg (fun z => z.1 h1)] at next3
          subst h1
          exact next3 _ _ () _ ⟨rfl, i2, fun h => i3.1 (by omega), fun z => i3.2 (by omega)⟩
        · have hk := hm (9 * i + 3 * a + b) (by omega)
          simp (disch := omega) only [s_190_0, s_190_2, s_190_3, s_190_4, s_190_6, s_190_7, s_190_10, s_190_11, s_190_12, s_190_15, s_190_16, s_190_18, s_190_19, s_190_20, s_190_23, s_190_26, s_190_27, s_190_31, s_190_32, s_190_33, s_190_36, s_190_39, s_190_40, s_190_42, s_190_45, s_190_46, s_190_47, s_190_48, s_190_50, s_190_53, s_190_54, s_190_57, s_190_60, s_190_61, s_190_62, s_190_63, s_190_65, s_190_68, s_190_69, s_190_70, s_190_71, s_190_74, s_190_75, s_190_76, s_190_79, s_190_80, s_190_82, s_190_85, s_190_88, s_190_91, s_190_94, s_190_97, s_190_100, s_190_103, s_190_104, amLong_I, amLong_R, amLong_N, amLong_L, cond_true, cond_false, Option.toList_some, Option.toList_none, List.cons_append, List.nil_append, List.append_nil, setE, setN, cpy_set, lit, nle, nlt, neq, inb_iff, cl_nI, tle, fle, tlt, flt, teq, feq, m9, m3, x9, x3, nI_add, nsub, upN, upE, b0', b01', r100, w100, r101, w101, r102, w102, r103, w103, r104, w104, r105, w105, r106, w106, r107, w107, r108, w108, w109, w110, r111, w111, r112, w112, r113, w113, r114, w114, r115, w115, r116, w116, r117, w117, r118, w118, r119, w119, w120, w121, r122, w122, r130, w130, w131, w132, r133, w133, r134, w134, r135, w135, r136, w136, r137, w137, r138, w138, r139, w139, r140, w140, r141, w141, w142, r143, w143, r144, w144, r145, w145, r146, w146, w147, w150, b1', em1, Bool.false_eq_true, not_true_eq_false, not_false_eq_true, false_implies, true_implies, and_true, true_and, if_true, if_false, implies_true, Classical.not_not, true_or, or_true, false_or, or_false, and_self, ite_true, ite_false, reduceIte, m173 hV1, hs1_eq, h1, hg i2]
          by_cases un : i = 0 ∧ a = 0 ∧ b ≤ 1
          · obtain ⟨j1, j2⟩ := i3.1 un
            obtain ⟨rfl, rfl, un3⟩ := un
            obtain rfl : b = 1 := by omega
            subst j1 j2
            have hlt : -nI 2147483648 < G (9 * 0 + 3 * 0 + 1) := by
              rw [Int32.lt_iff_toInt_lt, show (-nI 2147483648).toInt = -2147483648 from rfl]
              exact hk
            refine ⟨fun _ => ?_, fun z => absurd hlt z⟩
            have e1 : (if (0 : Nat) ≠ 1 ∧ G (9 * (0, 0, 1).1 + 3 * (0, 0, 1).2.1 + (0, 0, 1).2.2) < G (9 * 0 + 3 * 0 + 1) then (0, 0, 1) else (0, 0, 1)) = (0, 0, 1) := ite_self _
            rw [e1] at next3
            refine next3 _ _ () _ ⟨rfl, fun c j k h => ?_, fun h => by omega, fun _ => ⟨rfl, ?_, ?_, ?_⟩⟩
            · rw [upN (by omega), upN (by omega), upN (by omega), i2 c j k h]
            · rw [upN (by omega), upN (by omega), upE ⟨rfl, rfl, rfl⟩]
            · rw [upN (by omega), upE ⟨rfl, rfl, rfl⟩]
            · rw [upE ⟨rfl, rfl, rfl⟩]
          · obtain ⟨j1, j2, j3, j4⟩ := i3.2 un
            rw [j1]
            refine ⟨fun h2 => ?_, fun h2 => ?_⟩
            · rw [if_pos ⟨h1, h2⟩] at next3
              refine next3 _ _ () _ ⟨rfl, fun c j k h => ?_, fun h => by omega, fun _ => ⟨rfl, ?_, ?_, ?_⟩⟩
              · rw [upN (by omega), upN (by omega), upN (by omega), i2 c j k h]
              · rw [upN (by omega), upN (by omega), upE ⟨rfl, rfl, rfl⟩]
              · rw [upN (by omega), upE ⟨rfl, rfl, rfl⟩]
              · rw [upE ⟨rfl, rfl, rfl⟩]
            · rw [if_neg (fun z => h2 z.2)] at next3
              exact next3 _ _ () _ ⟨rfl, i2, fun h => by omega, fun _ => ⟨rfl, j2, j3, j4⟩⟩
end BND
