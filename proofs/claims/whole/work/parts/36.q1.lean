/-! questions: what is asked of the picture; the class's way -/
def FC (M M1 : amM) : Prop := ∀ c j k, (c = 99 ∨ (130 ≤ c ∧ c < 1000) ∨ 1600 ≤ c) → M1 c j k = M c j k
def FCJ (J J1 : amJ) : Prop := ∀ c k, c ≠ 109 → J1 c k = J c k
def vlu (sh : Nat) (pay tok : Nat → Int32) (i : Nat) : Int32 := sumN (fun p => tok p * pay (9 * i + p)) 0 (prf sh)
def wlf (sh : Nat) (pay tok : Nat → Int32) : Int32 := sumN (fun i => vlu sh pay tok i) 0 (plr sh)
def flr (sh : Nat) (pay tok : Nat → Int32) : Int32 := minN (fun i => vlu sh pay tok i) 1 (plr sh - 1) (vlu sh pay tok 0)
def lsp (sh : Nat) (pay : Nat → Int32) (i a : Nat) : Int32 := foldN (fun p s => if act sh i p = a then (if pay (9 * i + p) < s then pay (9 * i + p) else s) else s) 0 (prf sh) 9
section Q1
variable {d g t jk X sh : Nat} {M M1 M2 : amM} {J J1 J2 : amJ} {Q : Option amV → amS → Prop} {pay tok tk : Nat → Int32}
theorem FC.rfl : FC M M := fun _ _ _ _ => by rfl
theorem FCJ.rfl : FCJ J J := fun _ _ _ => by rfl
theorem FrQ.fc (h : FrQ M M1) : FC M M1 := fun c j k hc => h c j k (by unfold Pc; omega)
theorem RWo.j {r : List Int32} (h : RWo M M1 J J1 r) : FCJ J J1 := fun c k hc => h.2.2 c k hc
theorem RWo.gv {r : List Int32} {g : Nat} (h : RWo M M1 J J1 r) (hV : GV M g sh pay tok) : GV M1 g sh pay tok := hV.of (fun c k hc => h.f (by omega))
theorem RWo.tl {r : List Int32} (h : RWo M M1 J J1 r) (hT : TL M t sh pay tok) : TL M1 t sh pay tok :=
  ⟨hT.1.of (fun c k hc => h.f (by omega)), fun p hp => by rw [h.f (by omega), hT.2.1 p hp], fun k hk => by rw [h.f (by omega), hT.2.2 k hk]⟩
theorem RC.w {A : Sta} {r : List Int32} (hR : RC M J A) (hF : FrQ M M1) (ho : RWo M1 M2 J J1 r) : RC M2 J1 (tel A r) := hR.q (hF.trans ho.q) ho.2.1
theorem WG.tz {G : Gm} (h : WG G) : ∀ p, prf G.1 ≤ p → p < 9 → G.2.2 p = nI 0 := by
  obtain ⟨-, -, a, h1, -, h3⟩ := h
  intro p h4 h5
  rw [h3 p h5]
  show nI (gt a p) = nI 0
  rw [gt_out a p (by omega)]
theorem WG.tb {G : Gm} (h : WG G) : ∀ p, p < 9 → 0 ≤ (G.2.2 p).toInt ∧ (G.2.2 p).toInt ≤ 6 := by
  obtain ⟨-, -, a, h1, h2, h3⟩ := h
  intro p h5
  have := gt_le a p
  rw [h3 p h5]
  show 0 ≤ (nI (gt a p)).toInt ∧ (nI (gt a p)).toInt ≤ 6
  rw [nI_toInt (by omega)]
  omega
theorem WG.tB {G : Gm} (h : WG G) : tB G.2.2 := fun p hp => by
  have := h.tb p hp
  omega
theorem WG.gm {G : Gm} (h : WG G) {k : Nat} : -2147483648 < (gns G.1 G.2.1 G.2.2 k).toInt := by
  have := (gns_b (k := k) h.1 h.2.1 h.tB).2
  omega
theorem wgh (hV : GV M 0 sh pay tok) (hW : WG (sh, pay, tok)) (H : ∀ M1, FrT M M1 0 → TL M1 0 sh pay tok → Q none (M1, J, (jk, 149, 147, X))) : Call (d + 4) 47 [vR 9 0, vR 2 0, vR 104 0] (M, J, (jk, 149, 147, X)) Q :=
  v47 (by decide) (by decide) hV (Or.inl ⟨rfl, by decide⟩) (Or.inl (by decide)) hV.2.2 hW.tz H
theorem vlu_cg {c i : Nat} {i' : Nat} (h5 : sh < 5) (hi : i' < 3) (hV : ∀ k, k < 27 → M 103 g k = pay k) (hc : ∀ p, p < 9 → M c i p = tk p) : sumN (fun p => M c i p * M 103 g (9 * i' + p)) 0 (prf sh) = vlu sh pay tk i' := by
  have := (sh_ok sh h5).1
  exact sumN_congr _ _ (fun p _ hp => by rw [hc p (by omega), hV _ (by omega)])
theorem v67 {c i pl : Nat} (hg : g < 13) (hV : GV M g sh pay tok) (ht : tokA c i) (hc : ∀ p, p < 9 → M c i p = tk p) (hpl : pl < 3) : Call (d + 1) 67 [vR 2 g, vI (nI pl), vR c i] (M, J, (jk, 149, 147, X)) Q ↔ Q (some (vI (vlu sh pay tk pl))) (M, J, (jk, 149, 147, X)) := by
  rw [c67 hg hV.1 ht hpl, vlu_cg hV.1.1 hpl hV.2.1 hc]
theorem v68 {c i : Nat} (hg : g < 13) (hV : GV M g sh pay tok) (ht : tokA c i) (hc : ∀ p, p < 9 → M c i p = tk p) : Call (d + 2) 68 [vR 2 g, vR c i] (M, J, (jk, 149, 147, X)) Q ↔ Q (some (vI (wlf sh pay tk))) (M, J, (jk, 149, 147, X)) := by
  have := (sh_ok sh hV.1.1).1
  rw [c68 hg hV.1 ht, show sumN (fun pl => sumN (fun p => M c i p * M 103 g (9 * pl + p)) 0 (prf sh)) 0 (plr sh) = wlf sh pay tk from sumN_congr _ _ (fun pl _ hp => vlu_cg hV.1.1 (by omega) hV.2.1 hc)]
theorem minN_cg {f f' : Nat → Int32} : ∀ (n k : Nat) (a : Int32), (∀ j, k ≤ j → j < k + n → f j = f' j) → minN f k n a = minN f' k n a
  | 0, _, _, _ => rfl
  | n + 1, k, a, h => by
    show minN f (k + 1) n (if f k < a then f k else a) = minN f' (k + 1) n (if f' k < a then f' k else a)
    rw [h k (by omega) (by omega), minN_cg n (k + 1) _ (fun j h1 h2 => h j (by omega) (by omega))]
theorem v69 {c i : Nat} (hg : g < 13) (hV : GV M g sh pay tok) (ht : tokA c i) (hc : ∀ p, p < 9 → M c i p = tk p) : Call (d + 2) 69 [vR 2 g, vR c i] (M, J, (jk, 149, 147, X)) Q ↔ Q (some (vI (flr sh pay tk))) (M, J, (jk, 149, 147, X)) := by
  have := (sh_ok sh hV.1.1).1
  rw [c69 hg hV.1 ht, vlu_cg hV.1.1 (by omega) hV.2.1 hc, minN_cg (f' := fun i => vlu sh pay tk i) _ _ _ (fun pl _ hp => vlu_cg hV.1.1 (by omega) hV.2.1 hc)]
  exact Iff.rfl
theorem v71 (hg : g < 13) (hV : GV M g sh pay tok) : Call (d + 1) 71 [vR 2 g] (M, J, (jk, 149, 147, X)) Q ↔ Q (some (vI (sumN tok 0 (prf sh)))) (M, J, (jk, 149, 147, X)) := by
  have := (sh_ok sh hV.1.1).1
  rw [c71 hg hV.1, sumN_congr (g := tok) _ _ (fun p _ hp => hV.2.2 p (by omega))]
theorem v62 {c i pl a : Nat} (hg : g < 13) (hV : GV M g sh pay tok) (ht : tokA c i) (hc : ∀ p, p < 9 → M c i p = tk p) (hpl : pl < plr sh) (ha : a < 3) : Call (d + 2) 62 [vR 2 g, vI (nI pl), vI (nI a), vR c i] (M, J, (jk, 149, 147, X)) Q ↔ Q (some (vI (tdo sh tk pl a))) (M, J, (jk, 149, 147, X)) := by
  have := (sh_ok sh hV.1.1).1
  rw [c62 hg hV.1 ht hpl ha, show sumN (fun p => if act sh pl p = a then M c i p else 0) 0 (prf sh) = tdo sh tk pl a from sumN_congr _ _ (fun p _ hp => by rw [hc p (by omega)])]
theorem foldN_cg {α : Type} {f f' : Nat → α → α} : ∀ (n k : Nat) (a : α), (∀ j x, k ≤ j → j < k + n → f j x = f' j x) → foldN f k n a = foldN f' k n a
  | 0, _, _, _ => rfl
  | n + 1, k, a, h => by
    show foldN f (k + 1) n (f k a) = foldN f' (k + 1) n (f' k a)
    rw [h k a (by omega) (by omega), foldN_cg n (k + 1) _ (fun j x h1 h2 => h j x (by omega) (by omega))]
theorem v88 {pl a : Nat} (hg : g < 13) (hV : GV M g sh pay tok) (hpl : pl < plr sh) (ha : a < 3) : Call (d + 2) 88 [vR 2 g, vI (nI pl), vI (nI a)] (M, J, (jk, 149, 147, X)) Q ↔ Q (some (vI (lsp sh pay pl a))) (M, J, (jk, 149, 147, X)) := by
  have := (sh_ok sh hV.1.1).1
  rw [c88 hg hV.1 hpl ha, foldN_cg (f' := fun p s => if act sh pl p = a then (if pay (9 * pl + p) < s then pay (9 * pl + p) else s) else s) _ _ _ (fun p x _ hp => by rw [hV.2.1 _ (by omega)])]
  exact Iff.rfl
/-- two numbers that are there -/
theorem act_of {i a : Int32} (h5 : sh < 5) (h1 : nI 0 ≤ i ∧ i < nI (plr sh)) (h2 : nI 0 ≤ a ∧ a < nI (hsN sh i.toNatClampNeg)) : ∃ i' a', i' < plr sh ∧ a' < hsN sh i' ∧ i = nI i' ∧ a = nI a' := by
  obtain ⟨⟨l1, l2, l3, l4⟩, l5⟩ := sh_ok sh h5
  obtain ⟨i', hi, rfl⟩ := (in_iff (by omega)).mp h1
  obtain ⟨l6, -⟩ := l5 i' hi
  rw [cl_nI (by omega)] at h2
  obtain ⟨a', ha, rfl⟩ := (in_iff (by omega)).mp h2
  exact ⟨i', a', hi, ha, rfl, rfl⟩
/-- gain -/
def o7 (A : Sta) (i a b : Int32) : Int32 × Sta := if (nI 0 ≤ i ∧ i < nI (plr A.1.1)) ∧ (nI 0 ≤ a ∧ a < nI (hsN A.1.1 i.toNatClampNeg)) ∧ (nI 0 ≤ b ∧ b < nI (hsN A.1.1 i.toNatClampNeg)) ∧ ¬ a = b then (nI 0, tel A [gns A.1.1 A.1.2.1 A.1.2.2 (9 * i.toNatClampNeg + 3 * a.toNatClampNeg + b.toNatClampNeg)]) else (-nI 1, A)
theorem k46 {A : Sta} {i a b : Int32} (hR : RC M J A) (hW : WF A) (H : ∀ M1 J1, RC M1 J1 (o7 A i a b).2 → FC M M1 → FCJ J J1 → Q (some (vI (o7 A i a b).1)) (M1, J1, (jk, 149, 147, X))) : Call (d + 5) 46 [vR 11 0, vI i, vI a, vI b] (M, J, (jk, 149, 147, X)) Q := by
  obtain ⟨⟨sh, pay, tok⟩, U, S, x, r⟩ := A
  have hV : GV M 0 sh pay tok := hR.1
  have hG := hV.1
  have h0 : (0 : Nat) < 13 := by decide
  obtain ⟨⟨l1, l2, l3, l4⟩, l5⟩ := sh_ok sh hG.1
  unfold o7 at H
  dsimp only at H
  rw [e_46]
  by_cases c1 : a = b
  · rw [if_neg (fun z => z.2.2.2 c1)] at H
    simp (disch := omega) only [s_46_0, s_46_1, s_46_2, s_46_5, s_46_6, s_46_9, s_46_10, s_46_11, s_46_14, s_46_17, s_46_18, s_46_21, s_46_22, s_46_23, s_46_26, s_46_29, s_46_30, s_46_31, s_46_32, s_46_35, s_46_36, s_46_39, s_46_40, s_46_43, s_46_46, s_46_49, s_46_50, s_46_53, s_46_56, s_46_57, s_46_60, s_46_61, s_46_64, s_46_65, s_46_66, s_46_67, s_46_70, s_46_71, s_46_74, s_46_75, amLong_I, amLong_R, amLong_N, amLong_L, cond_true, cond_false, Option.toList_some, Option.toList_none, List.cons_append, List.nil_append, List.append_nil, setE, setN, cpy_set, lit, nle, nlt, neq, inb_iff, cl_nI, tle, fle, tlt, flt, teq, feq, m9, m3, x9, x3, nI_add, nsub, upN, upE, b0', b01', r100, w100, r101, w101, r102, w102, r103, w103, r104, w104, r105, w105, r106, w106, r107, w107, r108, w108, w109, w110, r111, w111, r112, w112, r113, w113, r114, w114, r115, w115, r116, w116, r117, w117, r118, w118, r119, w119, w120, w121, r122, w122, r130, w130, w131, w132, r133, w133, r134, w134, r135, w135, r136, w136, r137, w137, r138, w138, r139, w139, r140, w140, r141, w141, w142, r143, w143, r144, w144, r145, w145, r146, w146, w147, w150, b1', em1, Bool.false_eq_true, not_true_eq_false, not_false_eq_true, false_implies, true_implies, and_true, true_and, if_true, if_false, implies_true, Classical.not_not, true_or, or_true, false_or, or_false, and_self, ite_true, ite_false, reduceIte, c1]
    exact H M J hR FC.rfl FCJ.rfl
  by_cases c2 : (nI 0 ≤ i ∧ i < nI (plr sh)) ∧ (nI 0 ≤ a ∧ a < nI (hsN sh i.toNatClampNeg))
  · by_cases c3 : nI 0 ≤ b ∧ b < nI (hsN sh i.toNatClampNeg)
    · rw [if_pos ⟨c2.1, c2.2, c3, c1⟩] at H
      obtain ⟨i', a', hi, ha, rfl, rfl⟩ := act_of hG.1 c2.1 c2.2
      obtain ⟨l6, -⟩ := l5 i' hi
      rw [cl_nI (by omega)] at c3
      obtain ⟨b', hb, rfl⟩ := (in_iff (by omega)).mp c3
      rw [cl_nI (by omega), cl_nI (by omega), cl_nI (by omega)] at H
      have c4 : ¬ a' = b' := fun z => c1 (by rw [z])
      simp (disch := omega) only [s_46_0, s_46_1, s_46_2, s_46_5, s_46_6, s_46_9, s_46_10, s_46_11, s_46_14, s_46_17, s_46_18, s_46_21, s_46_22, s_46_23, s_46_26, s_46_29, s_46_30, s_46_31, s_46_32, s_46_35, s_46_36, s_46_39, s_46_40, s_46_43, s_46_46, s_46_49, s_46_50, s_46_53, s_46_56, s_46_57, s_46_60, s_46_61, s_46_64, s_46_65, s_46_66, s_46_67, s_46_70, s_46_71, s_46_74, s_46_75, amLong_I, amLong_R, amLong_N, amLong_L, cond_true, cond_false, Option.toList_some, Option.toList_none, List.cons_append, List.nil_append, List.append_nil, setE, setN, cpy_set, lit, nle, nlt, neq, inb_iff, cl_nI, tle, fle, tlt, flt, teq, feq, m9, m3, x9, x3, nI_add, nsub, upN, upE, b0', b01', r100, w100, r101, w101, r102, w102, r103, w103, r104, w104, r105, w105, r106, w106, r107, w107, r108, w108, w109, w110, r111, w111, r112, w112, r113, w113, r114, w114, r115, w115, r116, w116, r117, w117, r118, w118, r119, w119, w120, w121, r122, w122, r130, w130, w131, w132, r133, w133, r134, w134, r135, w135, r136, w136, r137, w137, r138, w138, r139, w139, r140, w140, r141, w141, w142, r143, w143, r144, w144, r145, w145, r146, w146, w147, w150, b1', em1, Bool.false_eq_true, not_true_eq_false, not_false_eq_true, false_implies, true_implies, and_true, true_and, if_true, if_false, implies_true, Classical.not_not, true_or, or_true, false_or, or_false, and_self, ite_true, ite_false, reduceIte, c45 h0 hG]
      refine wgh hV hW.1 (fun M1 hF hT => ?_)
      simp (disch := omega) only [s_46_0, s_46_1, s_46_2, s_46_5, s_46_6, s_46_9, s_46_10, s_46_11, s_46_14, s_46_17, s_46_18, s_46_21, s_46_22, s_46_23, s_46_26, s_46_29, s_46_30, s_46_31, s_46_32, s_46_35, s_46_36, s_46_39, s_46_40, s_46_43, s_46_46, s_46_49, s_46_50, s_46_53, s_46_56, s_46_57, s_46_60, s_46_61, s_46_64, s_46_65, s_46_66, s_46_67, s_46_70, s_46_71, s_46_74, s_46_75, amLong_I, amLong_R, amLong_N, amLong_L, cond_true, cond_false, Option.toList_some, Option.toList_none, List.cons_append, List.nil_append, List.append_nil, setE, setN, cpy_set, lit, nle, nlt, neq, inb_iff, cl_nI, tle, fle, tlt, flt, teq, feq, m9, m3, x9, x3, nI_add, nsub, upN, upE, b0', b01', r100, w100, r101, w101, r102, w102, r103, w103, r104, w104, r105, w105, r106, w106, r107, w107, r108, w108, w109, w110, r111, w111, r112, w112, r113, w113, r114, w114, r115, w115, r116, w116, r117, w117, r118, w118, r119, w119, w120, w121, r122, w122, r130, w130, w131, w132, r133, w133, r134, w134, r135, w135, r136, w136, r137, w137, r138, w138, r139, w139, r140, w140, r141, w141, w142, r143, w143, r144, w144, r145, w145, r146, w146, w147, w150, b1', em1, Bool.false_eq_true, not_true_eq_false, not_false_eq_true, false_implies, true_implies, and_true, true_and, if_true, if_false, implies_true, Classical.not_not, true_or, or_true, false_or, or_false, and_self, ite_true, ite_false, reduceIte]
      refine v42 (fun M2 h2 => ?_)
      have eG : M2 114 0 (9 * i' + 3 * a' + b') = gns sh pay tok (9 * i' + 3 * a' + b') := by rw [h2.f (by omega), hT.2.2 _ (by omega)]
      simp (disch := omega) only [s_46_0, s_46_1, s_46_2, s_46_5, s_46_6, s_46_9, s_46_10, s_46_11, s_46_14, s_46_17, s_46_18, s_46_21, s_46_22, s_46_23, s_46_26, s_46_29, s_46_30, s_46_31, s_46_32, s_46_35, s_46_36, s_46_39, s_46_40, s_46_43, s_46_46, s_46_49, s_46_50, s_46_53, s_46_56, s_46_57, s_46_60, s_46_61, s_46_64, s_46_65, s_46_66, s_46_67, s_46_70, s_46_71, s_46_74, s_46_75, amLong_I, amLong_R, amLong_N, amLong_L, cond_true, cond_false, Option.toList_some, Option.toList_none, List.cons_append, List.nil_append, List.append_nil, setE, setN, cpy_set, lit, nle, nlt, neq, inb_iff, cl_nI, tle, fle, tlt, flt, teq, feq, m9, m3, x9, x3, nI_add, nsub, upN, upE, b0', b01', r100, w100, r101, w101, r102, w102, r103, w103, r104, w104, r105, w105, r106, w106, r107, w107, r108, w108, w109, w110, r111, w111, r112, w112, r113, w113, r114, w114, r115, w115, r116, w116, r117, w117, r118, w118, r119, w119, w120, w121, r122, w122, r130, w130, w131, w132, r133, w133, r134, w134, r135, w135, r136, w136, r137, w137, r138, w138, r139, w139, r140, w140, r141, w141, w142, r143, w143, r144, w144, r145, w145, r146, w146, w147, w150, b1', em1, Bool.false_eq_true, not_true_eq_false, not_false_eq_true, false_implies, true_implies, and_true, true_and, if_true, if_false, implies_true, Classical.not_not, true_or, or_true, false_or, or_false, and_self, ite_true, ite_false, reduceIte, c55, eG]
      refine v43 h2 (by decide) (fun M3 J3 h3 => ?_)
      simp (disch := omega) only [s_46_0, s_46_1, s_46_2, s_46_5, s_46_6, s_46_9, s_46_10, s_46_11, s_46_14, s_46_17, s_46_18, s_46_21, s_46_22, s_46_23, s_46_26, s_46_29, s_46_30, s_46_31, s_46_32, s_46_35, s_46_36, s_46_39, s_46_40, s_46_43, s_46_46, s_46_49, s_46_50, s_46_53, s_46_56, s_46_57, s_46_60, s_46_61, s_46_64, s_46_65, s_46_66, s_46_67, s_46_70, s_46_71, s_46_74, s_46_75, amLong_I, amLong_R, amLong_N, amLong_L, cond_true, cond_false, Option.toList_some, Option.toList_none, List.cons_append, List.nil_append, List.append_nil, setE, setN, cpy_set, lit, nle, nlt, neq, inb_iff, cl_nI, tle, fle, tlt, flt, teq, feq, m9, m3, x9, x3, nI_add, nsub, upN, upE, b0', b01', r100, w100, r101, w101, r102, w102, r103, w103, r104, w104, r105, w105, r106, w106, r107, w107, r108, w108, w109, w110, r111, w111, r112, w112, r113, w113, r114, w114, r115, w115, r116, w116, r117, w117, r118, w118, r119, w119, w120, w121, r122, w122, r130, w130, w131, w132, r133, w133, r134, w134, r135, w135, r136, w136, r137, w137, r138, w138, r139, w139, r140, w140, r141, w141, w142, r143, w143, r144, w144, r145, w145, r146, w146, w147, w150, b1', em1, Bool.false_eq_true, not_true_eq_false, not_false_eq_true, false_implies, true_implies, and_true, true_and, if_true, if_false, implies_true, Classical.not_not, true_or, or_true, false_or, or_false, and_self, ite_true, ite_false, reduceIte]
      exact H M3 J3 (hR.w hF.q h3) ((hF.q.trans h3.q).fc) h3.j
    · rw [if_neg (fun z => c3 z.2.2.1)] at H
      have c4 : ¬ ((nI 0 ≤ i ∧ i < nI (plr sh)) ∧ (nI 0 ≤ b ∧ b < nI (hsN sh i.toNatClampNeg))) := fun z => c3 z.2
      simp (disch := omega) only [s_46_0, s_46_1, s_46_2, s_46_5, s_46_6, s_46_9, s_46_10, s_46_11, s_46_14, s_46_17, s_46_18, s_46_21, s_46_22, s_46_23, s_46_26, s_46_29, s_46_30, s_46_31, s_46_32, s_46_35, s_46_36, s_46_39, s_46_40, s_46_43, s_46_46, s_46_49, s_46_50, s_46_53, s_46_56, s_46_57, s_46_60, s_46_61, s_46_64, s_46_65, s_46_66, s_46_67, s_46_70, s_46_71, s_46_74, s_46_75, amLong_I, amLong_R, amLong_N, amLong_L, cond_true, cond_false, Option.toList_some, Option.toList_none, List.cons_append, List.nil_append, List.append_nil, setE, setN, cpy_set, lit, nle, nlt, neq, inb_iff, cl_nI, tle, fle, tlt, flt, teq, feq, m9, m3, x9, x3, nI_add, nsub, upN, upE, b0', b01', r100, w100, r101, w101, r102, w102, r103, w103, r104, w104, r105, w105, r106, w106, r107, w107, r108, w108, w109, w110, r111, w111, r112, w112, r113, w113, r114, w114, r115, w115, r116, w116, r117, w117, r118, w118, r119, w119, w120, w121, r122, w122, r130, w130, w131, w132, r133, w133, r134, w134, r135, w135, r136, w136, r137, w137, r138, w138, r139, w139, r140, w140, r141, w141, w142, r143, w143, r144, w144, r145, w145, r146, w146, w147, w150, b1', em1, Bool.false_eq_true, not_true_eq_false, not_false_eq_true, false_implies, true_implies, and_true, true_and, if_true, if_false, implies_true, Classical.not_not, true_or, or_true, false_or, or_false, and_self, ite_true, ite_false, reduceIte, c1, c45 h0 hG, c2, c3]
      exact H M J hR FC.rfl FCJ.rfl
  · rw [if_neg (fun z => c2 ⟨z.1, z.2.1⟩)] at H
    simp (disch := omega) only [s_46_0, s_46_1, s_46_2, s_46_5, s_46_6, s_46_9, s_46_10, s_46_11, s_46_14, s_46_17, s_46_18, s_46_21, s_46_22, s_46_23, s_46_26, s_46_29, s_46_30, s_46_31, s_46_32, s_46_35, s_46_36, s_46_39, s_46_40, s_46_43, s_46_46, s_46_49, s_46_50, s_46_53, s_46_56, s_46_57, s_46_60, s_46_61, s_46_64, s_46_65, s_46_66, s_46_67, s_46_70, s_46_71, s_46_74, s_46_75, amLong_I, amLong_R, amLong_N, amLong_L, cond_true, cond_false, Option.toList_some, Option.toList_none, List.cons_append, List.nil_append, List.append_nil, setE, setN, cpy_set, lit, nle, nlt, neq, inb_iff, cl_nI, tle, fle, tlt, flt, teq, feq, m9, m3, x9, x3, nI_add, nsub, upN, upE, b0', b01', r100, w100, r101, w101, r102, w102, r103, w103, r104, w104, r105, w105, r106, w106, r107, w107, r108, w108, w109, w110, r111, w111, r112, w112, r113, w113, r114, w114, r115, w115, r116, w116, r117, w117, r118, w118, r119, w119, w120, w121, r122, w122, r130, w130, w131, w132, r133, w133, r134, w134, r135, w135, r136, w136, r137, w137, r138, w138, r139, w139, r140, w140, r141, w141, w142, r143, w143, r144, w144, r145, w145, r146, w146, w147, w150, b1', em1, Bool.false_eq_true, not_true_eq_false, not_false_eq_true, false_implies, true_implies, and_true, true_and, if_true, if_false, implies_true, Classical.not_not, true_or, or_true, false_or, or_false, and_self, ite_true, ite_false, reduceIte, c1, c45 h0 hG, c2]
    exact H M J hR FC.rfl FCJ.rfl
/-- sound -/
def o8 (A : Sta) : Int32 × Sta := (bI (sndB A.1.1 A.1.2.1 A.1.2.2 = true), tel A [topG A.1.1 (gns A.1.1 A.1.2.1 A.1.2.2), nI (t3 A.1.1 (gns A.1.1 A.1.2.1 A.1.2.2) (plr A.1.1)).1, nI (t3 A.1.1 (gns A.1.1 A.1.2.1 A.1.2.2) (plr A.1.1)).2.1, nI (t3 A.1.1 (gns A.1.1 A.1.2.1 A.1.2.2) (plr A.1.1)).2.2])
theorem v57 (hT : TL M 0 sh pay tok) : Call (d + 2) 57 [vR 9 0] (M, J, (jk, 149, 147, X)) Q ↔ Q (some (vI (topG sh (gns sh pay tok)))) (tpM M 0 (t3 sh (gns sh pay tok) (plr sh)), J, (jk, 149, 147, X)) := by
  have e : t3 sh (M 114 0) (plr sh) = t3 sh (gns sh pay tok) (plr sh) := t3_cg hT.1.1 hT.2.2
  obtain ⟨⟨l1, l2, l3, l4⟩, l5⟩ := sh_ok sh hT.1.1
  obtain ⟨⟨x1, x2, x3, x4⟩, -⟩ := t3_top (G := gns sh pay tok) hT.1.1
  have := (l5 _ x1).1
  rw [c57 (by decide) hT.1.1 hT.1.2.1 hT.1.2.2.2.1, e, hT.2.2 _ (by omega)]
  exact Iff.rfl
theorem tpM_q {x : Nat × Nat × Nat} : FrQ M (tpM M 0 x) := fun c j k hp => tpM_f (by unfold Pc at hp; omega)
theorem k56 {A : Sta} (hR : RC M J A) (hW : WF A) (H : ∀ M1 J1, RC M1 J1 (o8 A).2 → FC M M1 → FCJ J J1 → Q (some (vI (o8 A).1)) (M1, J1, (jk, 149, 147, X))) : Call (d + 5) 56 [vR 11 0] (M, J, (jk, 149, 147, X)) Q := by
  obtain ⟨⟨sh, pay, tok⟩, U, S, x, r⟩ := A
  have hV : GV M 0 sh pay tok := hR.1
  unfold o8 at H
  dsimp only at H
  rw [e_56]
  simp (disch := omega) only [s_56_0, s_56_1, s_56_4, s_56_5, s_56_8, s_56_9, s_56_12, s_56_15, s_56_18, s_56_19, s_56_22, s_56_25, s_56_26, s_56_29, s_56_30, s_56_33, s_56_36, s_56_37, s_56_40, s_56_41, s_56_44, s_56_45, s_56_48, s_56_51, s_56_52, s_56_55, s_56_56, s_56_59, s_56_60, s_56_63, s_56_66, s_56_67, s_56_70, s_56_71, s_56_74, s_56_75, s_56_78, s_56_81, s_56_82, s_56_85, s_56_86, s_56_89, s_56_92, s_56_95, s_56_96, s_56_99, s_56_100, amLong_I, amLong_R, amLong_N, amLong_L, cond_true, cond_false, Option.toList_some, Option.toList_none, List.cons_append, List.nil_append, List.append_nil, setE, setN, cpy_set, lit, nle, nlt, neq, inb_iff, cl_nI, tle, fle, tlt, flt, teq, feq, m9, m3, x9, x3, nI_add, nsub, upN, upE, b0', b01', r100, w100, r101, w101, r102, w102, r103, w103, r104, w104, r105, w105, r106, w106, r107, w107, r108, w108, w109, w110, r111, w111, r112, w112, r113, w113, r114, w114, r115, w115, r116, w116, r117, w117, r118, w118, r119, w119, w120, w121, r122, w122, r130, w130, w131, w132, r133, w133, r134, w134, r135, w135, r136, w136, r137, w137, r138, w138, r139, w139, r140, w140, r141, w141, w142, r143, w143, r144, w144, r145, w145, r146, w146, w147, w150, b1', em1, Bool.false_eq_true, not_true_eq_false, not_false_eq_true, false_implies, true_implies, and_true, true_and, if_true, if_false, implies_true, Classical.not_not, true_or, or_true, false_or, or_false, and_self, ite_true, ite_false, reduceIte]
  refine wgh hV hW.1 (fun M1 hF hT => ?_)
  simp (disch := omega) only [s_56_0, s_56_1, s_56_4, s_56_5, s_56_8, s_56_9, s_56_12, s_56_15, s_56_18, s_56_19, s_56_22, s_56_25, s_56_26, s_56_29, s_56_30, s_56_33, s_56_36, s_56_37, s_56_40, s_56_41, s_56_44, s_56_45, s_56_48, s_56_51, s_56_52, s_56_55, s_56_56, s_56_59, s_56_60, s_56_63, s_56_66, s_56_67, s_56_70, s_56_71, s_56_74, s_56_75, s_56_78, s_56_81, s_56_82, s_56_85, s_56_86, s_56_89, s_56_92, s_56_95, s_56_96, s_56_99, s_56_100, amLong_I, amLong_R, amLong_N, amLong_L, cond_true, cond_false, Option.toList_some, Option.toList_none, List.cons_append, List.nil_append, List.append_nil, setE, setN, cpy_set, lit, nle, nlt, neq, inb_iff, cl_nI, tle, fle, tlt, flt, teq, feq, m9, m3, x9, x3, nI_add, nsub, upN, upE, b0', b01', r100, w100, r101, w101, r102, w102, r103, w103, r104, w104, r105, w105, r106, w106, r107, w107, r108, w108, w109, w110, r111, w111, r112, w112, r113, w113, r114, w114, r115, w115, r116, w116, r117, w117, r118, w118, r119, w119, w120, w121, r122, w122, r130, w130, w131, w132, r133, w133, r134, w134, r135, w135, r136, w136, r137, w137, r138, w138, r139, w139, r140, w140, r141, w141, w142, r143, w143, r144, w144, r145, w145, r146, w146, w147, w150, b1', em1, Bool.false_eq_true, not_true_eq_false, not_false_eq_true, false_implies, true_implies, and_true, true_and, if_true, if_false, implies_true, Classical.not_not, true_or, or_true, false_or, or_false, and_self, ite_true, ite_false, reduceIte]
  refine v42 (fun M2 h2 => ?_)
  have hT2 := h2.tl hT
  simp (disch := omega) only [s_56_0, s_56_1, s_56_4, s_56_5, s_56_8, s_56_9, s_56_12, s_56_15, s_56_18, s_56_19, s_56_22, s_56_25, s_56_26, s_56_29, s_56_30, s_56_33, s_56_36, s_56_37, s_56_40, s_56_41, s_56_44, s_56_45, s_56_48, s_56_51, s_56_52, s_56_55, s_56_56, s_56_59, s_56_60, s_56_63, s_56_66, s_56_67, s_56_70, s_56_71, s_56_74, s_56_75, s_56_78, s_56_81, s_56_82, s_56_85, s_56_86, s_56_89, s_56_92, s_56_95, s_56_96, s_56_99, s_56_100, amLong_I, amLong_R, amLong_N, amLong_L, cond_true, cond_false, Option.toList_some, Option.toList_none, List.cons_append, List.nil_append, List.append_nil, setE, setN, cpy_set, lit, nle, nlt, neq, inb_iff, cl_nI, tle, fle, tlt, flt, teq, feq, m9, m3, x9, x3, nI_add, nsub, upN, upE, b0', b01', r100, w100, r101, w101, r102, w102, r103, w103, r104, w104, r105, w105, r106, w106, r107, w107, r108, w108, w109, w110, r111, w111, r112, w112, r113, w113, r114, w114, r115, w115, r116, w116, r117, w117, r118, w118, r119, w119, w120, w121, r122, w122, r130, w130, w131, w132, r133, w133, r134, w134, r135, w135, r136, w136, r137, w137, r138, w138, r139, w139, r140, w140, r141, w141, w142, r143, w143, r144, w144, r145, w145, r146, w146, w147, w150, b1', em1, Bool.false_eq_true, not_true_eq_false, not_false_eq_true, false_implies, true_implies, and_true, true_and, if_true, if_false, implies_true, Classical.not_not, true_or, or_true, false_or, or_false, and_self, ite_true, ite_false, reduceIte, v57 hT2]
  generalize ht : t3 sh (gns sh pay tok) (plr sh) = tt at *
  have h2' : RWo (tpM M1 0 tt) (tpM M2 0 tt) J J [] := by
    refine ⟨?_, ⟨?_, h2.2.1.2⟩, h2.2.2⟩
    · rw [h2.1]
      unfold tpM
      funext c j k
      unfold upM
      by_cases e : c = 1301
      · subst e
        simp
      · simp [e]
    · rw [tpM_f (by omega), h2.2.1.1]
  refine v43 h2' (by decide) (fun M3 J3 h3 => ?_)
  have e1 : ∀ {M' : amM} {J' : amJ} {r : List Int32}, RWo (tpM M1 0 tt) M' J J' r → M' 1458 0 0 = nI tt.1 ∧ M' 1459 0 0 = nI tt.2.1 ∧ M' 1460 0 0 = nI tt.2.2 := by
    intro M' J' r h
    exact ⟨by rw [h.f (by omega), tpM_1], by rw [h.f (by omega), tpM_2], by rw [h.f (by omega), tpM_3]⟩
  simp (disch := omega) only [s_56_0, s_56_1, s_56_4, s_56_5, s_56_8, s_56_9, s_56_12, s_56_15, s_56_18, s_56_19, s_56_22, s_56_25, s_56_26, s_56_29, s_56_30, s_56_33, s_56_36, s_56_37, s_56_40, s_56_41, s_56_44, s_56_45, s_56_48, s_56_51, s_56_52, s_56_55, s_56_56, s_56_59, s_56_60, s_56_63, s_56_66, s_56_67, s_56_70, s_56_71, s_56_74, s_56_75, s_56_78, s_56_81, s_56_82, s_56_85, s_56_86, s_56_89, s_56_92, s_56_95, s_56_96, s_56_99, s_56_100, amLong_I, amLong_R, amLong_N, amLong_L, cond_true, cond_false, Option.toList_some, Option.toList_none, List.cons_append, List.nil_append, List.append_nil, setE, setN, cpy_set, lit, nle, nlt, neq, inb_iff, cl_nI, tle, fle, tlt, flt, teq, feq, m9, m3, x9, x3, nI_add, nsub, upN, upE, b0', b01', r100, w100, r101, w101, r102, w102, r103, w103, r104, w104, r105, w105, r106, w106, r107, w107, r108, w108, w109, w110, r111, w111, r112, w112, r113, w113, r114, w114, r115, w115, r116, w116, r117, w117, r118, w118, r119, w119, w120, w121, r122, w122, r130, w130, w131, w132, r133, w133, r134, w134, r135, w135, r136, w136, r137, w137, r138, w138, r139, w139, r140, w140, r141, w141, w142, r143, w143, r144, w144, r145, w145, r146, w146, w147, w150, b1', em1, Bool.false_eq_true, not_true_eq_false, not_false_eq_true, false_implies, true_implies, and_true, true_and, if_true, if_false, implies_true, Classical.not_not, true_or, or_true, false_or, or_false, and_self, ite_true, ite_false, reduceIte, e1 h3]
  refine v43 h3 (by simp) (fun M4 J4 h4 => ?_)
  simp (disch := omega) only [s_56_0, s_56_1, s_56_4, s_56_5, s_56_8, s_56_9, s_56_12, s_56_15, s_56_18, s_56_19, s_56_22, s_56_25, s_56_26, s_56_29, s_56_30, s_56_33, s_56_36, s_56_37, s_56_40, s_56_41, s_56_44, s_56_45, s_56_48, s_56_51, s_56_52, s_56_55, s_56_56, s_56_59, s_56_60, s_56_63, s_56_66, s_56_67, s_56_70, s_56_71, s_56_74, s_56_75, s_56_78, s_56_81, s_56_82, s_56_85, s_56_86, s_56_89, s_56_92, s_56_95, s_56_96, s_56_99, s_56_100, amLong_I, amLong_R, amLong_N, amLong_L, cond_true, cond_false, Option.toList_some, Option.toList_none, List.cons_append, List.nil_append, List.append_nil, setE, setN, cpy_set, lit, nle, nlt, neq, inb_iff, cl_nI, tle, fle, tlt, flt, teq, feq, m9, m3, x9, x3, nI_add, nsub, upN, upE, b0', b01', r100, w100, r101, w101, r102, w102, r103, w103, r104, w104, r105, w105, r106, w106, r107, w107, r108, w108, w109, w110, r111, w111, r112, w112, r113, w113, r114, w114, r115, w115, r116, w116, r117, w117, r118, w118, r119, w119, w120, w121, r122, w122, r130, w130, w131, w132, r133, w133, r134, w134, r135, w135, r136, w136, r137, w137, r138, w138, r139, w139, r140, w140, r141, w141, w142, r143, w143, r144, w144, r145, w145, r146, w146, w147, w150, b1', em1, Bool.false_eq_true, not_true_eq_false, not_false_eq_true, false_implies, true_implies, and_true, true_and, if_true, if_false, implies_true, Classical.not_not, true_or, or_true, false_or, or_false, and_self, ite_true, ite_false, reduceIte, e1 h4]
  refine v43 h4 (by simp) (fun M5 J5 h5 => ?_)
  simp (disch := omega) only [s_56_0, s_56_1, s_56_4, s_56_5, s_56_8, s_56_9, s_56_12, s_56_15, s_56_18, s_56_19, s_56_22, s_56_25, s_56_26, s_56_29, s_56_30, s_56_33, s_56_36, s_56_37, s_56_40, s_56_41, s_56_44, s_56_45, s_56_48, s_56_51, s_56_52, s_56_55, s_56_56, s_56_59, s_56_60, s_56_63, s_56_66, s_56_67, s_56_70, s_56_71, s_56_74, s_56_75, s_56_78, s_56_81, s_56_82, s_56_85, s_56_86, s_56_89, s_56_92, s_56_95, s_56_96, s_56_99, s_56_100, amLong_I, amLong_R, amLong_N, amLong_L, cond_true, cond_false, Option.toList_some, Option.toList_none, List.cons_append, List.nil_append, List.append_nil, setE, setN, cpy_set, lit, nle, nlt, neq, inb_iff, cl_nI, tle, fle, tlt, flt, teq, feq, m9, m3, x9, x3, nI_add, nsub, upN, upE, b0', b01', r100, w100, r101, w101, r102, w102, r103, w103, r104, w104, r105, w105, r106, w106, r107, w107, r108, w108, w109, w110, r111, w111, r112, w112, r113, w113, r114, w114, r115, w115, r116, w116, r117, w117, r118, w118, r119, w119, w120, w121, r122, w122, r130, w130, w131, w132, r133, w133, r134, w134, r135, w135, r136, w136, r137, w137, r138, w138, r139, w139, r140, w140, r141, w141, w142, r143, w143, r144, w144, r145, w145, r146, w146, w147, w150, b1', em1, Bool.false_eq_true, not_true_eq_false, not_false_eq_true, false_implies, true_implies, and_true, true_and, if_true, if_false, implies_true, Classical.not_not, true_or, or_true, false_or, or_false, and_self, ite_true, ite_false, reduceIte, e1 h5]
  refine v43 h5 (by simp) (fun M6 J6 h6 => ?_)
  have hT6 : TL M6 0 sh pay tok := h6.tl ⟨hT.1.of (fun c k hc => tpM_f (by omega)), fun p hp => by rw [tpM_f (by omega), hT.2.1 p hp], fun k hk => by rw [tpM_f (by omega), hT.2.2 k hk]⟩
  simp (disch := omega) only [s_56_0, s_56_1, s_56_4, s_56_5, s_56_8, s_56_9, s_56_12, s_56_15, s_56_18, s_56_19, s_56_22, s_56_25, s_56_26, s_56_29, s_56_30, s_56_33, s_56_36, s_56_37, s_56_40, s_56_41, s_56_44, s_56_45, s_56_48, s_56_51, s_56_52, s_56_55, s_56_56, s_56_59, s_56_60, s_56_63, s_56_66, s_56_67, s_56_70, s_56_71, s_56_74, s_56_75, s_56_78, s_56_81, s_56_82, s_56_85, s_56_86, s_56_89, s_56_92, s_56_95, s_56_96, s_56_99, s_56_100, amLong_I, amLong_R, amLong_N, amLong_L, cond_true, cond_false, Option.toList_some, Option.toList_none, List.cons_append, List.nil_append, List.append_nil, setE, setN, cpy_set, lit, nle, nlt, neq, inb_iff, cl_nI, tle, fle, tlt, flt, teq, feq, m9, m3, x9, x3, nI_add, nsub, upN, upE, b0', b01', r100, w100, r101, w101, r102, w102, r103, w103, r104, w104, r105, w105, r106, w106, r107, w107, r108, w108, w109, w110, r111, w111, r112, w112, r113, w113, r114, w114, r115, w115, r116, w116, r117, w117, r118, w118, r119, w119, w120, w121, r122, w122, r130, w130, w131, w132, r133, w133, r134, w134, r135, w135, r136, w136, r137, w137, r138, w138, r139, w139, r140, w140, r141, w141, w142, r143, w143, r144, w144, r145, w145, r146, w146, w147, w150, b1', em1, Bool.false_eq_true, not_true_eq_false, not_false_eq_true, false_implies, true_implies, and_true, true_and, if_true, if_false, implies_true, Classical.not_not, true_or, or_true, false_or, or_false, and_self, ite_true, ite_false, reduceIte, c58 (show (0 : Nat) < 4 by decide) hT6]
  have hR6 := hR.w (hF.q.trans tpM_q) h6
  have hq := ((hF.q.trans tpM_q).trans h6.q).fc
  by_cases hs : sndB sh pay tok = true
  · rw [bI_t hs] at H
    simp (disch := omega) only [setE, setN, cpy_set, lit, nle, nlt, neq, inb_iff, cl_nI, tle, fle, tlt, flt, teq, feq, m9, m3, x9, x3, nI_add, nsub, upN, upE, b0', b01', r100, w100, r101, w101, r102, w102, r103, w103, r104, w104, r105, w105, r106, w106, r107, w107, r108, w108, w109, w110, r111, w111, r112, w112, r113, w113, r114, w114, r115, w115, r116, w116, r117, w117, r118, w118, r119, w119, w120, w121, r122, w122, r130, w130, w131, w132, r133, w133, r134, w134, r135, w135, r136, w136, r137, w137, r138, w138, r139, w139, r140, w140, r141, w141, w142, r143, w143, r144, w144, r145, w145, r146, w146, w147, w150, b1', em1, Bool.false_eq_true, not_true_eq_false, not_false_eq_true, false_implies, true_implies, and_true, true_and, if_true, if_false, implies_true, Classical.not_not, true_or, or_true, false_or, or_false, and_self, ite_true, ite_false, reduceIte, hs]
    exact H M6 J6 hR6 hq h6.j
  · rw [bI_f hs] at H
    simp (disch := omega) only [setE, setN, cpy_set, lit, nle, nlt, neq, inb_iff, cl_nI, tle, fle, tlt, flt, teq, feq, m9, m3, x9, x3, nI_add, nsub, upN, upE, b0', b01', r100, w100, r101, w101, r102, w102, r103, w103, r104, w104, r105, w105, r106, w106, r107, w107, r108, w108, w109, w110, r111, w111, r112, w112, r113, w113, r114, w114, r115, w115, r116, w116, r117, w117, r118, w118, r119, w119, w120, w121, r122, w122, r130, w130, w131, w132, r133, w133, r134, w134, r135, w135, r136, w136, r137, w137, r138, w138, r139, w139, r140, w140, r141, w141, w142, r143, w143, r144, w144, r145, w145, r146, w146, w147, w150, b1', em1, Bool.false_eq_true, not_true_eq_false, not_false_eq_true, false_implies, true_implies, and_true, true_and, if_true, if_false, implies_true, Classical.not_not, true_or, or_true, false_or, or_false, and_self, ite_true, ite_false, reduceIte, hs]
    exact H M6 J6 hR6 hq h6.j
end Q1
