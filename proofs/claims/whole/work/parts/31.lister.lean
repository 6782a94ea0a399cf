/-! Lister -/
def gt : List Nat → Nat → Nat
  | [], _ => 0
  | x :: _, 0 => x
  | _ :: l, n + 1 => gt l n
def tf (a : List Nat) : Nat → Int32 := fun q => nI (gt a q)
def stpL : Nat → List Nat → List Nat
  | _, [] => []
  | 0, x :: l => (x - 1) :: (1 + lsum l) :: zer (l.length - 1)
  | s + 1, x :: l => x :: stpL s l
theorem gt_out : ∀ (a : List Nat) (q : Nat), a.length ≤ q → gt a q = 0
  | [], q, _ => rfl
  | x :: l, 0, h => by simp only [List.length_cons] at h; omega
  | x :: l, q + 1, h => gt_out l q (by simp only [List.length_cons] at h; omega)
theorem gt_zer : ∀ m q, gt (zer m) q = 0
  | 0, q => rfl
  | m + 1, 0 => rfl
  | m + 1, q + 1 => gt_zer m q
theorem stepO_0 : ∀ (s : Nat) (a : List Nat), s + 3 ≤ a.length → gt a (s + 1) = 0 → stepO (s + 1) a = stepO s a
  | 0, x :: z :: w :: ws, _, h => by
    obtain rfl : z = 0 := h
    rfl
  | s + 1, x :: z :: zs, h, h2 => by
    show (match stepO (s + 1) (z :: zs) with
      | some b => some (x :: b)
      | none => hit x (z :: zs)) = (match stepO s (z :: zs) with
      | some b => some (x :: b)
      | none => hit x (z :: zs))
    rw [stepO_0 s (z :: zs) (by simp only [List.length_cons] at h ⊢; omega) h2]
  | 0, [], h, _ => by simp only [List.length_nil] at h; omega
  | 0, [_], h, _ => by simp only [List.length_cons, List.length_nil] at h; omega
  | 0, [_, _], h, _ => by simp only [List.length_cons, List.length_nil] at h; omega
  | s + 1, [], h, _ => by simp only [List.length_nil] at h; omega
  | s + 1, [_], h, _ => by simp only [List.length_cons, List.length_nil] at h; omega
theorem stepO_at : ∀ (s : Nat) (a : List Nat), s + 2 ≤ a.length → gt a s ≠ 0 → stepO s a = some (stpL s a)
  | 0, x :: z :: zs, _, h => if_neg h
  | s + 1, x :: z :: zs, h, h2 => by
    show (match stepO s (z :: zs) with
      | some b => some (x :: b)
      | none => hit x (z :: zs)) = some (x :: stpL s (z :: zs))
    rw [stepO_at s (z :: zs) (by simp only [List.length_cons] at h ⊢; omega) h2]
  | 0, [], h, _ => by simp only [List.length_nil] at h; omega
  | 0, [_], h, _ => by simp only [List.length_cons, List.length_nil] at h; omega
  | s + 1, [], h, _ => by simp only [List.length_nil] at h; omega
  | s + 1, [_], h, _ => by simp only [List.length_cons, List.length_nil] at h; omega
theorem stepO_no : ∀ (a : List Nat), gt a 0 = 0 → stepO 0 a = none
  | [], _ => rfl
  | [_], _ => rfl
  | x :: z :: zs, h => if_pos h
theorem gt_stpL : ∀ (s : Nat) (a : List Nat) (q : Nat), s < a.length → gt (stpL s a) q = if q < s then gt a q else if q = s then gt a s - 1 else if q = s + 1 then 1 + lsum (a.drop (s + 1)) else 0
  | s, [], q, h => by simp only [List.length_nil] at h; omega
  | 0, x :: l, 0, _ => rfl
  | 0, x :: l, 1, _ => rfl
  | 0, x :: l, q + 2, _ => by
    rw [if_neg (by omega), if_neg (by omega), if_neg (by omega)]
    exact gt_zer _ q
  | s + 1, x :: l, 0, _ => by
    rw [if_pos (by omega)]
    rfl
  | s + 1, x :: l, q + 1, h => by
    show gt (stpL s l) q = _
    rw [gt_stpL s l q (by simp only [List.length_cons] at h; omega)]
    simp only [Nat.add_lt_add_iff_right, Nat.add_right_cancel_iff]
    rfl
theorem fd_cons {α : Type} (f : Nat → α → α) (a : α) : ∀ n, fd f a (n + 1) = fd (fun k => f (k + 1)) (f 0 a) n
  | 0 => rfl
  | n + 1 => by
    show f (n + 1) (fd f a (n + 1)) = f (n + 1) (fd (fun k => f (k + 1)) (f 0 a) n)
    rw [fd_cons f a n]
theorem fd_all : ∀ (l : List Nat) (s0 : Nat), fd (fun r s => s + gt l r) s0 l.length = s0 + lsum l
  | [], s0 => rfl
  | x :: l, s0 => by
    rw [List.length_cons, fd_cons]
    show fd (fun r s => s + gt l r) (s0 + x) l.length = s0 + (x + lsum l)
    rw [fd_all l (s0 + x)]
    omega
/-- together with what lies behind p, as far as q -/
def rsm (a : List Nat) (p q : Nat) : Nat := fd (fun r s => if p < r then s + gt a r else s) 1 q
theorem rsm_all' : ∀ (a : List Nat) (p s0 : Nat), fd (fun r s => if p < r then s + gt a r else s) s0 a.length = s0 + lsum (a.drop (p + 1))
  | [], p, s0 => rfl
  | x :: l, 0, s0 => by
    rw [List.length_cons, fd_cons]
    exact (fd_congr (g := fun r s => s + gt l r) _ (fun k _ x => if_pos (by omega))).trans (fd_all l s0)
  | x :: l, p + 1, s0 => by
    rw [List.length_cons, fd_cons]
    refine (fd_congr (g := fun r s => if p < r then s + gt l r else s) _ (fun k _ x => ?_)).trans (rsm_all' l p s0)
    by_cases h : p < k
    · rw [if_pos h, if_pos (by omega)]
      rfl
    · rw [if_neg h, if_neg (by omega)]
theorem rsm_all {a : List Nat} {p : Nat} : rsm a p a.length = 1 + lsum (a.drop (p + 1)) := rsm_all' a p 1
theorem rsm_0 {a : List Nat} {p : Nat} : ∀ q, q ≤ p + 1 → rsm a p q = 1
  | 0, _ => rfl
  | q + 1, h => by
    show (if p < q then _ else rsm a p q) = 1
    rw [if_neg (by omega), rsm_0 q (by omega)]
theorem gt_take : ∀ (s : Nat) (a b : List Nat) (q : Nat), b.take (s + 1) = a.take (s + 1) → q ≤ s → gt b q = gt a q
  | s, [], [], q, _, _ => rfl
  | s, [], y :: b, q, h, _ => by simp at h
  | s, x :: a, [], q, h, _ => by simp at h
  | s, x :: a, y :: b, 0, h, _ => by
    have h2 : y :: b.take s = x :: a.take s := h
    have h3 : y = x := by injection h2
    exact h3
  | 0, x :: a, y :: b, q + 1, h, hq => by omega
  | s + 1, x :: a, y :: b, q + 1, h, hq => by
    have h2 : y :: b.take (s + 1) = x :: a.take (s + 1) := h
    have h3 : b.take (s + 1) = a.take (s + 1) := by injection h2
    exact gt_take s a b q h3 (by omega)
theorem gt_le : ∀ (a : List Nat) (q : Nat), gt a q ≤ lsum a
  | [], q => Nat.le_refl 0
  | x :: l, 0 => Nat.le_add_right x _
  | x :: l, q + 1 => Nat.le_trans (gt_le l q) (Nat.le_add_left _ x)
section LISTER
variable {d g t jk X sh : Nat} {M : amM} {J : amJ} {Q : Option amV → amS → Prop} {pay tok : Nat → Int32}
theorem sum_upd {f D : Nat → Int32} {n : Int32} {p : Nat} : ∀ P, p < P → sumN (fun q => (if q = p then f q + n else f q) * D q) 0 P = sumN (fun q => f q * D q) 0 P + n * D p
  | 0, h => by omega
  | P + 1, h => by
    rw [sumN_last, sumN_last, Nat.zero_add]
    by_cases e : p = P
    · subst e
      rw [sumN_congr (g := fun q => f q * D q) p 0 (fun q _ h2 => by rw [if_neg (by omega)]), if_pos rfl]
      grind
    · rw [sum_upd P (by omega), if_neg (fun z => e z.symm)]
      grind
theorem gns_congr {pay' tok' : Nat → Int32} {k : Nat} (h : ∀ p, p < prf sh → tok p = tok' p) : gns sh pay tok k = gns sh pay tok' k := sumN_congr _ _ (fun p _ h2 => by rw [h p (by omega)])
theorem TL.tk {tok' : Nat → Int32} (hT : TL M t sh pay tok) (h : ∀ p, p < 9 → tok p = tok' p) : TL M t sh pay tok' := by
  have := (sh_ok sh hT.1.1).1
  exact ⟨hT.1, fun p hp => by rw [hT.2.1 p hp, h p hp], fun k hk => by rw [hT.2.2 k hk]; exact gns_congr (pay' := pay) (fun p hp => h p (by omega))⟩
theorem putM_f {p c j k : Nat} {n : Int32} (h : j ≠ t ∨ (c ≠ 113 ∧ c ≠ 114)) : putM M t sh pay p n c j k = M c j k := by
  unfold putM
  rw [if_neg (by omega), if_neg (by omega)]
theorem TL.put {p : Nat} {n : Int32} (hT : TL M t sh pay tok) (hp : p < prf sh) : TL (putM M t sh pay p n) t sh pay (fun q => if q = p then tok q + n else tok q) := by
  have := (sh_ok sh hT.1.1).1
  refine ⟨hT.1.of (fun c k h => putM_f (by omega)), fun q hq => ?_, fun k hk => ?_⟩
  · unfold putM
    dsimp only
    by_cases e : q = p
    · subst e
      rw [if_pos ⟨rfl, rfl, rfl⟩, if_pos rfl, hT.2.1 q hq]
    · rw [if_neg (by omega), if_neg (by omega), if_neg e, hT.2.1 q hq]
  · unfold putM
    rw [if_neg (by omega), if_pos ⟨rfl, rfl, hk⟩, hT.2.2 k hk]
    exact (sum_upd (D := fun q => dl sh pay q k) (prf sh) hp).symm
/-- cells that are not of the lister are as they were -/
def FrL (M M' : amM) : Prop := ∀ c j k, (j ≠ 1 ∨ c < 113 ∨ (118 < c ∧ c < 1456) ∨ 1460 < c) → c ≠ 1202 → c ≠ 1203 → M' c j k = M c j k
theorem FrL.rfl : FrL M M := fun _ _ _ _ _ _ => by rfl
theorem FrL.trans {M1 M2 : amM} (h1 : FrL M M1) (h2 : FrL M1 M2) : FrL M M2 := fun c j k a b e => by rw [h2 c j k a b e, h1 c j k a b e]
/-- the lister stands ahead of these -/
def CU (M : amM) (sh : Nat) (pay : Nat → Int32) (cand : List (List Nat)) : Prop := ∃ a, a.length = prf sh ∧ lsum a ≤ 6 ∧ TL M 1 sh pay (tf a) ∧ ((M 1202 0 0 = nI 1 ∧ cand = a :: aft a) ∨ (∃ s, s + 2 ≤ prf sh ∧ M 1202 0 0 = nI 0 ∧ M 1203 0 0 = nI s ∧ cand = rmd s a))
theorem m1a {k : Nat} : nI (k + 1) + Int32.ofInt (-1) = nI k := by
  rw [show Int32.ofInt (-1) = -nI 1 from rfl, ← nI_1 k, show (1 : Int32) = nI 1 from rfl]
  grind
theorem m1b : nI 0 + Int32.ofInt (-1) = Int32.ofInt (-1) := by decide
theorem m1c : Int32.ofInt (-1) < nI 0 := by decide
theorem m1d : ¬ nI 0 ≤ Int32.ofInt (-1) := by decide
theorem m1e {k : Nat} (h : k ≠ 0) : nI k + -nI 1 = nI (k - 1) := by
  obtain ⟨j, rfl⟩ : ∃ j, k = j + 1 := ⟨k - 1, by omega⟩
  rw [← nI_1 j, show (1 : Int32) = nI 1 from rfl, Nat.add_sub_cancel]
  grind
theorem nadd0 (x : Int32) : nI 0 + x = x := Int32.zero_add x
theorem nsubs (x : Int32) : x + -x = nI 0 := by
  have : x + -x = 0 := by grind
  exact this
theorem c100_hit {a : List Nat} {p : Nat} (ha : a.length = prf sh) (h6 : lsum a ≤ 6) (hT : TL M 1 sh pay (tf a)) (u2 u3 : Option amV) (hp : p + 2 ≤ prf sh) (h0 : ¬ gt a p = 0) (H : ∀ M', FrT M M' 1 → TL M' 1 sh pay (tf (stpL p a)) → Q (some (vI (nI 1))) (M', J, (jk, 149, 147, X))) : Ev (d + 1) 100 19 [some (vR 4 0), some (vI (nI p)), u2, u3] [] (M, J, (jk, 149, 147, X)) Q := by
  obtain ⟨⟨l1, l2, l3, l4⟩, l5⟩ := sh_ok sh hT.1.1
  have e0 : M 113 1 p = nI (gt a p) := hT.2.1 p (by omega)
  have hb := gt_le a p
  have h4 : (1 : Nat) < 4 := by decide
  rw [h_100_19]
  simp (disch := omega) only [s_100_0, s_100_1, s_100_4, s_100_7, s_100_8, s_100_9, s_100_12, s_100_13, s_100_14, s_100_15, s_100_18, s_100_20, s_100_23, s_100_24, s_100_27, s_100_28, s_100_29, s_100_32, s_100_35, s_100_38, s_100_39, s_100_42, s_100_43, s_100_44, s_100_45, s_100_46, s_100_47, s_100_50, s_100_51, s_100_52, s_100_55, s_100_56, s_100_57, s_100_58, s_100_60, s_100_61, s_100_64, s_100_67, s_100_70, s_100_71, s_100_72, s_100_75, s_100_76, s_100_77, s_100_78, s_100_79, s_100_80, s_100_83, s_100_84, s_100_85, s_100_88, s_100_89, s_100_90, s_100_91, s_100_94, s_100_97, s_100_100, s_100_101, s_100_104, s_100_105, s_100_106, s_100_107, s_100_108, s_100_111, s_100_112, amLong_I, amLong_R, amLong_N, amLong_L, cond_true, cond_false, Option.toList_some, Option.toList_none, List.cons_append, List.nil_append, List.append_nil, setE, setN, cpy_set, lit, nle, nlt, neq, inb_iff, cl_nI, tle, fle, tlt, flt, teq, feq, m9, m3, x9, x3, nI_add, nsub, upN, upE, b0', b01', r100, w100, r101, w101, r102, w102, r103, w103, r104, w104, r105, w105, r106, w106, r107, w107, r108, w108, w109, w110, r111, w111, r112, w112, r113, w113, r114, w114, r115, w115, r116, w116, r117, w117, r118, w118, r119, w119, w120, w121, r122, w122, r130, w130, w131, w132, r133, w133, r134, w134, r135, w135, r136, w136, r137, w137, r138, w138, r139, w139, r140, w140, r141, w141, w142, r143, w143, r144, w144, r145, w145, r146, w146, w147, w150, Bool.false_eq_true, not_true_eq_false, not_false_eq_true, false_implies, true_implies, and_true, true_and, if_true, if_false, implies_true, Classical.not_not, true_or, or_true, false_or, or_false, and_self, ite_true, ite_false, reduceIte, e0, h0, c54 h4 hT.1]
  have key := lpH (T := Unit) (U := Unit) (P := prf sh) (E := fun k M1 J1 u x => Ev (d + 1) 100 59 [some (vR 4 (0)), some (vI (nI p)), some (vI (nI (rsm a p k))), some (vI (nI k))] [] (M1, J1, (jk, 149, 147, X)) Q) (I := fun k M1 J1 _ => p + 1 ≤ k ∧ J = J1 ∧ FrT M M1 1 ∧ TL M1 1 sh pay (fun r => if r < p then tf a r else if r = p then tf a p + -nI 1 else if r < k then nI 0 else tf a r)) (fun M1 J1 u x hI => ?_) (fun k M1 J1 u x hk hI next => ?_) (p + 1) (putM M 1 sh pay p (-nI 1)) J () () (by omega) ⟨by omega, rfl, fun c j k h => putM_f (by omega), (hT.put (by omega)).tk (fun r hr => ?_)⟩
  · try dsimp only at key
    rw [rsm_0 (p + 1) (Nat.le_refl _)] at key
    exact key
  · obtain ⟨i1, rfl, i3, i4⟩ := hI
    rw [h_100_59]
    simp (disch := omega) only [s_100_0, s_100_1, s_100_4, s_100_7, s_100_8, s_100_9, s_100_12, s_100_13, s_100_14, s_100_15, s_100_18, s_100_20, s_100_23, s_100_24, s_100_27, s_100_28, s_100_29, s_100_32, s_100_35, s_100_38, s_100_39, s_100_42, s_100_43, s_100_44, s_100_45, s_100_46, s_100_47, s_100_50, s_100_51, s_100_52, s_100_55, s_100_56, s_100_57, s_100_58, s_100_60, s_100_61, s_100_64, s_100_67, s_100_70, s_100_71, s_100_72, s_100_75, s_100_76, s_100_77, s_100_78, s_100_79, s_100_80, s_100_83, s_100_84, s_100_85, s_100_88, s_100_89, s_100_90, s_100_91, s_100_94, s_100_97, s_100_100, s_100_101, s_100_104, s_100_105, s_100_106, s_100_107, s_100_108, s_100_111, s_100_112, amLong_I, amLong_R, amLong_N, amLong_L, cond_true, cond_false, Option.toList_some, Option.toList_none, List.cons_append, List.nil_append, List.append_nil, setE, setN, cpy_set, lit, nle, nlt, neq, inb_iff, cl_nI, tle, fle, tlt, flt, teq, feq, m9, m3, x9, x3, nI_add, nsub, upN, upE, b0', b01', r100, w100, r101, w101, r102, w102, r103, w103, r104, w104, r105, w105, r106, w106, r107, w107, r108, w108, w109, w110, r111, w111, r112, w112, r113, w113, r114, w114, r115, w115, r116, w116, r117, w117, r118, w118, r119, w119, w120, w121, r122, w122, r130, w130, w131, w132, r133, w133, r134, w134, r135, w135, r136, w136, r137, w137, r138, w138, r139, w139, r140, w140, r141, w141, w142, r143, w143, r144, w144, r145, w145, r146, w146, w147, w150, Bool.false_eq_true, not_true_eq_false, not_false_eq_true, false_implies, true_implies, and_true, true_and, if_true, if_false, implies_true, Classical.not_not, true_or, or_true, false_or, or_false, and_self, ite_true, ite_false, reduceIte, i4.1.2.2.1, c54 h4 i4.1]
    refine H _ (fun c j k h => ?_) ((i4.put (by omega)).tk (fun r hr => ?_))
    · rw [putM_f (by omega), i3 c j k h]
    · rw [← ha, rsm_all]
      unfold tf
      rw [gt_stpL p a r (by omega)]
      by_cases r1 : r < p
      · rw [if_neg (by omega), if_pos r1, if_pos r1]
      · by_cases r2 : r = p
        · rw [if_neg (by omega), if_neg r1, if_pos r2, if_neg r1, if_pos r2, m1e h0]
        · by_cases r3 : r = p + 1
          · rw [if_pos r3, if_neg r1, if_neg r2, if_pos (by omega), if_neg r1, if_neg r2, if_pos r3, nadd0]
          · rw [if_neg r3, if_neg r1, if_neg r2, if_neg r1, if_neg r2, if_neg r3]
            by_cases r4 : r < a.length
            · rw [if_pos r4]
            · rw [if_neg r4, gt_out a r (by omega)]
  · obtain ⟨i1, rfl, i3, i4⟩ := hI
    have e1 : M1 113 1 k = nI (gt a k) := by
      rw [i4.2.1 k (by omega)]
      dsimp only
      rw [if_neg (by omega), if_neg (by omega), if_neg (by omega)]
      rfl
    have e2 : rsm a p (k + 1) = rsm a p k + gt a k := if_pos (by omega)
    rw [e2] at next
    rw [h_100_59]
    simp (disch := omega) only [s_100_0, s_100_1, s_100_4, s_100_7, s_100_8, s_100_9, s_100_12, s_100_13, s_100_14, s_100_15, s_100_18, s_100_20, s_100_23, s_100_24, s_100_27, s_100_28, s_100_29, s_100_32, s_100_35, s_100_38, s_100_39, s_100_42, s_100_43, s_100_44, s_100_45, s_100_46, s_100_47, s_100_50, s_100_51, s_100_52, s_100_55, s_100_56, s_100_57, s_100_58, s_100_60, s_100_61, s_100_64, s_100_67, s_100_70, s_100_71, s_100_72, s_100_75, s_100_76, s_100_77, s_100_78, s_100_79, s_100_80, s_100_83, s_100_84, s_100_85, s_100_88, s_100_89, s_100_90, s_100_91, s_100_94, s_100_97, s_100_100, s_100_101, s_100_104, s_100_105, s_100_106, s_100_107, s_100_108, s_100_111, s_100_112, amLong_I, amLong_R, amLong_N, amLong_L, cond_true, cond_false, Option.toList_some, Option.toList_none, List.cons_append, List.nil_append, List.append_nil, setE, setN, cpy_set, lit, nle, nlt, neq, inb_iff, cl_nI, tle, fle, tlt, flt, teq, feq, m9, m3, x9, x3, nI_add, nsub, upN, upE, b0', b01', r100, w100, r101, w101, r102, w102, r103, w103, r104, w104, r105, w105, r106, w106, r107, w107, r108, w108, w109, w110, r111, w111, r112, w112, r113, w113, r114, w114, r115, w115, r116, w116, r117, w117, r118, w118, r119, w119, w120, w121, r122, w122, r130, w130, w131, w132, r133, w133, r134, w134, r135, w135, r136, w136, r137, w137, r138, w138, r139, w139, r140, w140, r141, w141, w142, r143, w143, r144, w144, r145, w145, r146, w146, w147, w150, Bool.false_eq_true, not_true_eq_false, not_false_eq_true, false_implies, true_implies, and_true, true_and, if_true, if_false, implies_true, Classical.not_not, true_or, or_true, false_or, or_false, and_self, ite_true, ite_false, reduceIte, i4.1.2.2.1, e1, c54 h4 i4.1]
    refine next _ _ () () ⟨by omega, rfl, fun c j k h => ?_, (i4.put (by omega)).tk (fun r hr => ?_)⟩
    · rw [putM_f (by omega), i3 c j k h]
    · by_cases r1 : r < p
      · rw [if_neg (by omega), if_pos r1, if_pos r1]
      · by_cases r2 : r = p
        · rw [if_neg (by omega), if_neg r1, if_pos r2, if_neg r1, if_pos r2]
        · by_cases r3 : r = k
          · rw [if_pos r3, if_neg r1, if_neg r2, if_neg (by omega), if_neg r1, if_neg r2, if_pos (by omega), r3]
            exact nsubs _
          · rw [if_neg r3, if_neg r1, if_neg r2, if_neg r1, if_neg r2]
            by_cases r4 : r < k
            · rw [if_pos r4, if_pos (by omega)]
            · rw [if_neg r4, if_neg (by omega)]
  · by_cases r1 : r < p
    · rw [if_neg (by omega), if_pos r1]
    · by_cases r2 : r = p
      · rw [if_pos r2, if_neg r1, if_pos r2, r2]
      · rw [if_neg r2, if_neg r1, if_neg r2, if_neg (by omega)]
theorem c100_loop {a : List Nat} (ha : a.length = prf sh) (h6 : lsum a ≤ 6) (hT : TL M 1 sh pay (tf a)) (u2 u3 : Option amV) : ∀ s, s + 2 ≤ prf sh → (stepO s a = none → Q (some (vI (nI 0))) (M, J, (jk, 149, 147, X))) → (∀ b M', stepO s a = some b → FrT M M' 1 → TL M' 1 sh pay (tf b) → Q (some (vI (nI 1))) (M', J, (jk, 149, 147, X))) → Ev (d + 1) 100 19 [some (vR 4 0), some (vI (nI s)), u2, u3] [] (M, J, (jk, 149, 147, X)) Q := by
  obtain ⟨⟨l1, l2, l3, l4⟩, l5⟩ := sh_ok sh hT.1.1
  intro s
  induction s with
  | zero =>
    intro hs H0 H1
    have e0 : M 113 1 0 = nI (gt a 0) := hT.2.1 0 (by omega)
    by_cases h0 : gt a 0 = 0
    · rw [h_100_19]
      simp (disch := omega) only [s_100_0, s_100_1, s_100_4, s_100_7, s_100_8, s_100_9, s_100_12, s_100_13, s_100_14, s_100_15, s_100_18, s_100_20, s_100_23, s_100_24, s_100_27, s_100_28, s_100_29, s_100_32, s_100_35, s_100_38, s_100_39, s_100_42, s_100_43, s_100_44, s_100_45, s_100_46, s_100_47, s_100_50, s_100_51, s_100_52, s_100_55, s_100_56, s_100_57, s_100_58, s_100_60, s_100_61, s_100_64, s_100_67, s_100_70, s_100_71, s_100_72, s_100_75, s_100_76, s_100_77, s_100_78, s_100_79, s_100_80, s_100_83, s_100_84, s_100_85, s_100_88, s_100_89, s_100_90, s_100_91, s_100_94, s_100_97, s_100_100, s_100_101, s_100_104, s_100_105, s_100_106, s_100_107, s_100_108, s_100_111, s_100_112, amLong_I, amLong_R, amLong_N, amLong_L, cond_true, cond_false, Option.toList_some, Option.toList_none, List.cons_append, List.nil_append, List.append_nil, setE, setN, cpy_set, lit, nle, nlt, neq, inb_iff, cl_nI, tle, fle, tlt, flt, teq, feq, m9, m3, x9, x3, nI_add, nsub, upN, upE, b0', b01', r100, w100, r101, w101, r102, w102, r103, w103, r104, w104, r105, w105, r106, w106, r107, w107, r108, w108, w109, w110, r111, w111, r112, w112, r113, w113, r114, w114, r115, w115, r116, w116, r117, w117, r118, w118, r119, w119, w120, w121, r122, w122, r130, w130, w131, w132, r133, w133, r134, w134, r135, w135, r136, w136, r137, w137, r138, w138, r139, w139, r140, w140, r141, w141, w142, r143, w143, r144, w144, r145, w145, r146, w146, w147, w150, Bool.false_eq_true, not_true_eq_false, not_false_eq_true, false_implies, true_implies, and_true, true_and, if_true, if_false, implies_true, Classical.not_not, true_or, or_true, false_or, or_false, and_self, ite_true, ite_false, reduceIte, e0, h0, m1b]
      rw [h_100_19]
      simp (disch := omega) only [s_100_0, s_100_1, s_100_4, s_100_7, s_100_8, s_100_9, s_100_12, s_100_13, s_100_14, s_100_15, s_100_18, s_100_20, s_100_23, s_100_24, s_100_27, s_100_28, s_100_29, s_100_32, s_100_35, s_100_38, s_100_39, s_100_42, s_100_43, s_100_44, s_100_45, s_100_46, s_100_47, s_100_50, s_100_51, s_100_52, s_100_55, s_100_56, s_100_57, s_100_58, s_100_60, s_100_61, s_100_64, s_100_67, s_100_70, s_100_71, s_100_72, s_100_75, s_100_76, s_100_77, s_100_78, s_100_79, s_100_80, s_100_83, s_100_84, s_100_85, s_100_88, s_100_89, s_100_90, s_100_91, s_100_94, s_100_97, s_100_100, s_100_101, s_100_104, s_100_105, s_100_106, s_100_107, s_100_108, s_100_111, s_100_112, amLong_I, amLong_R, amLong_N, amLong_L, cond_true, cond_false, Option.toList_some, Option.toList_none, List.cons_append, List.nil_append, List.append_nil, setE, setN, cpy_set, lit, nle, nlt, neq, inb_iff, cl_nI, tle, fle, tlt, flt, teq, feq, m9, m3, x9, x3, nI_add, nsub, upN, upE, b0', b01', r100, w100, r101, w101, r102, w102, r103, w103, r104, w104, r105, w105, r106, w106, r107, w107, r108, w108, w109, w110, r111, w111, r112, w112, r113, w113, r114, w114, r115, w115, r116, w116, r117, w117, r118, w118, r119, w119, w120, w121, r122, w122, r130, w130, w131, w132, r133, w133, r134, w134, r135, w135, r136, w136, r137, w137, r138, w138, r139, w139, r140, w140, r141, w141, w142, r143, w143, r144, w144, r145, w145, r146, w146, w147, w150, Bool.false_eq_true, not_true_eq_false, not_false_eq_true, false_implies, true_implies, and_true, true_and, if_true, if_false, implies_true, Classical.not_not, true_or, or_true, false_or, or_false, and_self, ite_true, ite_false, reduceIte, m1c, m1d]
      exact H0 (stepO_no a h0)
    · exact c100_hit ha h6 hT u2 u3 hs h0 (fun M' hF hT' => H1 _ M' (stepO_at 0 a (by omega) h0) hF hT')
  | succ s ih =>
    intro hs H0 H1
    have e0 : M 113 1 (s + 1) = nI (gt a (s + 1)) := hT.2.1 (s + 1) (by omega)
    by_cases h0 : gt a (s + 1) = 0
    · rw [h_100_19]
      simp (disch := omega) only [s_100_0, s_100_1, s_100_4, s_100_7, s_100_8, s_100_9, s_100_12, s_100_13, s_100_14, s_100_15, s_100_18, s_100_20, s_100_23, s_100_24, s_100_27, s_100_28, s_100_29, s_100_32, s_100_35, s_100_38, s_100_39, s_100_42, s_100_43, s_100_44, s_100_45, s_100_46, s_100_47, s_100_50, s_100_51, s_100_52, s_100_55, s_100_56, s_100_57, s_100_58, s_100_60, s_100_61, s_100_64, s_100_67, s_100_70, s_100_71, s_100_72, s_100_75, s_100_76, s_100_77, s_100_78, s_100_79, s_100_80, s_100_83, s_100_84, s_100_85, s_100_88, s_100_89, s_100_90, s_100_91, s_100_94, s_100_97, s_100_100, s_100_101, s_100_104, s_100_105, s_100_106, s_100_107, s_100_108, s_100_111, s_100_112, amLong_I, amLong_R, amLong_N, amLong_L, cond_true, cond_false, Option.toList_some, Option.toList_none, List.cons_append, List.nil_append, List.append_nil, setE, setN, cpy_set, lit, nle, nlt, neq, inb_iff, cl_nI, tle, fle, tlt, flt, teq, feq, m9, m3, x9, x3, nI_add, nsub, upN, upE, b0', b01', r100, w100, r101, w101, r102, w102, r103, w103, r104, w104, r105, w105, r106, w106, r107, w107, r108, w108, w109, w110, r111, w111, r112, w112, r113, w113, r114, w114, r115, w115, r116, w116, r117, w117, r118, w118, r119, w119, w120, w121, r122, w122, r130, w130, w131, w132, r133, w133, r134, w134, r135, w135, r136, w136, r137, w137, r138, w138, r139, w139, r140, w140, r141, w141, w142, r143, w143, r144, w144, r145, w145, r146, w146, w147, w150, Bool.false_eq_true, not_true_eq_false, not_false_eq_true, false_implies, true_implies, and_true, true_and, if_true, if_false, implies_true, Classical.not_not, true_or, or_true, false_or, or_false, and_self, ite_true, ite_false, reduceIte, e0, h0, m1a]
      rw [stepO_0 s a (by omega) h0] at H0 H1
      exact ih (by omega) H0 H1
    · exact c100_hit ha h6 hT u2 u3 hs h0 (fun M' hF hT' => H1 _ M' (stepO_at (s + 1) a (by omega) h0) hF hT')
theorem c100 {cand : List (List Nat)} (hC : CU M sh pay cand) (H0 : cand = [] → Q (some (vI (nI 0))) (M, J, (jk, 149, 147, X))) (H1 : ∀ b M', cand = b :: aft b → b.length = prf sh → lsum b ≤ 6 → FrL M M' → M' 1202 0 0 = nI 0 → TL M' 1 sh pay (tf b) → Q (some (vI (nI 1))) (M', J, (jk, 149, 147, X))) : Call (d + 2) 100 [vR 4 0] (M, J, (jk, 149, 147, X)) Q := by
  obtain ⟨a, ha, h6, hT, h⟩ := hC
  rw [e_100]
  rcases h with ⟨h1, h2⟩ | ⟨s, hs, h1, h2, h3⟩
  · simp (disch := omega) only [s_100_0, s_100_1, s_100_4, s_100_7, s_100_8, s_100_9, s_100_12, s_100_13, s_100_14, s_100_15, s_100_18, s_100_20, s_100_23, s_100_24, s_100_27, s_100_28, s_100_29, s_100_32, s_100_35, s_100_38, s_100_39, s_100_42, s_100_43, s_100_44, s_100_45, s_100_46, s_100_47, s_100_50, s_100_51, s_100_52, s_100_55, s_100_56, s_100_57, s_100_58, s_100_60, s_100_61, s_100_64, s_100_67, s_100_70, s_100_71, s_100_72, s_100_75, s_100_76, s_100_77, s_100_78, s_100_79, s_100_80, s_100_83, s_100_84, s_100_85, s_100_88, s_100_89, s_100_90, s_100_91, s_100_94, s_100_97, s_100_100, s_100_101, s_100_104, s_100_105, s_100_106, s_100_107, s_100_108, s_100_111, s_100_112, amLong_I, amLong_R, amLong_N, amLong_L, cond_true, cond_false, Option.toList_some, Option.toList_none, List.cons_append, List.nil_append, List.append_nil, setE, setN, cpy_set, lit, nle, nlt, neq, inb_iff, cl_nI, tle, fle, tlt, flt, teq, feq, m9, m3, x9, x3, nI_add, nsub, upN, upE, b0', b01', r100, w100, r101, w101, r102, w102, r103, w103, r104, w104, r105, w105, r106, w106, r107, w107, r108, w108, w109, w110, r111, w111, r112, w112, r113, w113, r114, w114, r115, w115, r116, w116, r117, w117, r118, w118, r119, w119, w120, w121, r122, w122, r130, w130, w131, w132, r133, w133, r134, w134, r135, w135, r136, w136, r137, w137, r138, w138, r139, w139, r140, w140, r141, w141, w142, r143, w143, r144, w144, r145, w145, r146, w146, w147, w150, Bool.false_eq_true, not_true_eq_false, not_false_eq_true, false_implies, true_implies, and_true, true_and, if_true, if_false, implies_true, Classical.not_not, true_or, or_true, false_or, or_false, and_self, ite_true, ite_false, reduceIte, h1]
    refine H1 a _ h2 ha h6 (fun c j k h e1 e2 => ?_) ?_ ⟨hT.1.of (fun c k h => ?_), fun p hp => ?_, fun k hk => ?_⟩
    · rw [upN (by omega)]
    · rw [upE ⟨rfl, rfl, rfl⟩]
    · rw [upN (by omega)]
    · rw [upN (by omega), hT.2.1 p hp]
    · rw [upN (by omega), hT.2.2 k hk]
  · simp (disch := omega) only [s_100_0, s_100_1, s_100_4, s_100_7, s_100_8, s_100_9, s_100_12, s_100_13, s_100_14, s_100_15, s_100_18, s_100_20, s_100_23, s_100_24, s_100_27, s_100_28, s_100_29, s_100_32, s_100_35, s_100_38, s_100_39, s_100_42, s_100_43, s_100_44, s_100_45, s_100_46, s_100_47, s_100_50, s_100_51, s_100_52, s_100_55, s_100_56, s_100_57, s_100_58, s_100_60, s_100_61, s_100_64, s_100_67, s_100_70, s_100_71, s_100_72, s_100_75, s_100_76, s_100_77, s_100_78, s_100_79, s_100_80, s_100_83, s_100_84, s_100_85, s_100_88, s_100_89, s_100_90, s_100_91, s_100_94, s_100_97, s_100_100, s_100_101, s_100_104, s_100_105, s_100_106, s_100_107, s_100_108, s_100_111, s_100_112, amLong_I, amLong_R, amLong_N, amLong_L, cond_true, cond_false, Option.toList_some, Option.toList_none, List.cons_append, List.nil_append, List.append_nil, setE, setN, cpy_set, lit, nle, nlt, neq, inb_iff, cl_nI, tle, fle, tlt, flt, teq, feq, m9, m3, x9, x3, nI_add, nsub, upN, upE, b0', b01', r100, w100, r101, w101, r102, w102, r103, w103, r104, w104, r105, w105, r106, w106, r107, w107, r108, w108, w109, w110, r111, w111, r112, w112, r113, w113, r114, w114, r115, w115, r116, w116, r117, w117, r118, w118, r119, w119, w120, w121, r122, w122, r130, w130, w131, w132, r133, w133, r134, w134, r135, w135, r136, w136, r137, w137, r138, w138, r139, w139, r140, w140, r141, w141, w142, r143, w143, r144, w144, r145, w145, r146, w146, w147, w150, Bool.false_eq_true, not_true_eq_false, not_false_eq_true, false_implies, true_implies, and_true, true_and, if_true, if_false, implies_true, Classical.not_not, true_or, or_true, false_or, or_false, and_self, ite_true, ite_false, reduceIte, h1, h2]
    have hr := rmd_step s a
    refine c100_loop ha h6 hT none none s hs (fun h4 => H0 ?_) (fun b M' h4 hF hT' => H1 b M' ?_ ?_ ?_ (fun c j k h e1 e2 => hF c j k h) ?_ hT')
    · rw [h3, hr, h4]
    · rw [h3, hr, h4]
    · rw [(stepO_len s a b h4).1, ha]
    · rw [(stepO_len s a b h4).2]
      exact h6
    · rw [hF 1202 0 0 (by omega), h1]
/-- sound -/
def sdL (sh : Nat) (pay : Nat → Int32) (a : List Nat) : Bool := sndB sh pay (tf a)
def LI (M : amM) (sh : Nat) (pay : Nat → Int32) (rest : List (List Nat)) : Prop := ∃ cand, CU M sh pay cand ∧ cand.length ≤ 3003 ∧ rest = cand.filter (sdL sh pay)
theorem sd_pre {a b : List Nat} {k : Nat} (h5 : sh < 5) (h : nI 0 < gns sh pay (tf a) k) (hk : k < 27) (hb : b.take (lst sh (k / 9) (k % 9 / 3) + 1) = a.take (lst sh (k / 9) (k % 9 / 3) + 1)) : sdL sh pay b = false := by
  obtain ⟨z1, z2, z3⟩ := gns_pos h5 h
  obtain ⟨⟨w1, w2⟩, w3⟩ := lst_ok h5 z1 z2
  have e : gns sh pay (tf b) k = gns sh pay (tf a) k := by
    refine sumN_congr _ _ (fun p _ hp => ?_)
    by_cases hl : p ≤ lst sh (k / 9) (k % 9 / 3)
    · unfold tf
      rw [gt_take _ a b p hb hl]
    · have : dl sh pay p k = 0 := if_neg (fun z => hl (w3 p (by omega) z.2.1.symm))
      rw [this, Int32.mul_zero, Int32.mul_zero]
  refine Bool.eq_false_iff.mpr (fun z => ?_)
  have := snd_iff.mp z k hk
  rw [e] at this
  exact this h
theorem CU.of {M' : amM} {cand : List (List Nat)} {a : List Nat} {s : Nat} (ha : a.length = prf sh) (h6 : lsum a ≤ 6) (hT : TL M 1 sh pay (tf a)) (hs : s + 2 ≤ prf sh) (h0 : M 1202 0 0 = nI 0) (hc : cand = rmd s a) : CU (upM M 1203 0 0 (nI s)) sh pay cand := by
  refine ⟨a, ha, h6, ⟨hT.1.of (fun c k h => upN (by omega)), fun p hp => ?_, fun k hk => ?_⟩, Or.inr ⟨s, hs, ?_, ?_, hc⟩⟩
  · rw [upN (by omega), hT.2.1 p hp]
  · rw [upN (by omega), hT.2.2 k hk]
  · rw [upN (by omega), h0]
  · rw [upE ⟨rfl, rfl, rfl⟩]
theorem c99 {rest : List (List Nat)} (hL : LI M sh pay rest) (H0 : ∀ M', rest = [] → FrL M M' → Q (some (vI (nI 0))) (M', J, (jk, 149, 147, X))) (H1 : ∀ b bs M', rest = b :: bs → b.length = prf sh → lsum b ≤ 6 → FrL M M' → LI M' sh pay bs → (∀ p, p < 9 → M' 113 1 p = tf b p) → Q (some (vI (nI 1))) (M', J, (jk, 149, 147, X))) : Call (d + 3) 99 [vR 4 0] (M, J, (jk, 149, 147, X)) Q := by
  obtain ⟨cand, hC, hl, hr⟩ := hL
  have h5 : sh < 5 := by
    obtain ⟨a, -, -, hT, -⟩ := hC
    exact hT.1.1
  obtain ⟨⟨l1, l2, l3, l4⟩, l5⟩ := sh_ok sh h5
  have h14 : (1 : Nat) < 4 := by decide
  rw [e_99]
  simp (disch := omega) only [s_99_0, s_99_1, s_99_3, s_99_6, s_99_9, s_99_10, s_99_13, s_99_16, s_99_17, s_99_18, s_99_19, s_99_22, s_99_25, s_99_26, s_99_27, s_99_28, s_99_31, s_99_32, s_99_33, s_99_36, s_99_39, s_99_40, s_99_41, s_99_44, s_99_45, s_99_46, s_99_47, s_99_48, s_99_49, s_99_52, s_99_55, s_99_56, s_99_57, s_99_60, s_99_63, s_99_66, s_99_69, s_99_70, amLong_I, amLong_R, amLong_N, amLong_L, cond_true, cond_false, Option.toList_some, Option.toList_none, List.cons_append, List.nil_append, List.append_nil, setE, setN, cpy_set, lit, nle, nlt, neq, inb_iff, cl_nI, tle, fle, tlt, flt, teq, feq, m9, m3, x9, x3, nI_add, nsub, upN, upE, b0', b01', r100, w100, r101, w101, r102, w102, r103, w103, r104, w104, r105, w105, r106, w106, r107, w107, r108, w108, w109, w110, r111, w111, r112, w112, r113, w113, r114, w114, r115, w115, r116, w116, r117, w117, r118, w118, r119, w119, w120, w121, r122, w122, r130, w130, w131, w132, r133, w133, r134, w134, r135, w135, r136, w136, r137, w137, r138, w138, r139, w139, r140, w140, r141, w141, w142, r143, w143, r144, w144, r145, w145, r146, w146, w147, w150, Bool.false_eq_true, not_true_eq_false, not_false_eq_true, false_implies, true_implies, and_true, true_and, if_true, if_false, implies_true, Classical.not_not, true_or, or_true, false_or, or_false, and_self, ite_true, ite_false, reduceIte]
  refine lpM (T := Nat × List (List Nat)) (U := Option amV) (μ := fun x => x.2.length) (E := fun M1 J1 u x => Ev (d + 2) 99 2 [some (vR 4 (0)), some (vI (nI x.1)), u] [] (M1, J1, (jk, 149, 147, X)) Q) (I := fun M1 J1 x => J = J1 ∧ FrL M M1 ∧ CU M1 sh pay x.2 ∧ x.1 + x.2.length ≤ 3003 ∧ rest = x.2.filter (sdL sh pay)) (fun M1 J1 u x hI next => ?_) _ _ none (0, cand) ⟨rfl, FrL.rfl, hC, by show 0 + cand.length ≤ 3003; omega, hr⟩
  obtain ⟨i, cd⟩ := x
  obtain ⟨rfl, i2, i3, i4, i5⟩ := hI
  dsimp only at *
  rw [h_99_2]
  simp (disch := omega) only [s_99_0, s_99_1, s_99_3, s_99_6, s_99_9, s_99_10, s_99_13, s_99_16, s_99_17, s_99_18, s_99_19, s_99_22, s_99_25, s_99_26, s_99_27, s_99_28, s_99_31, s_99_32, s_99_33, s_99_36, s_99_39, s_99_40, s_99_41, s_99_44, s_99_45, s_99_46, s_99_47, s_99_48, s_99_49, s_99_52, s_99_55, s_99_56, s_99_57, s_99_60, s_99_63, s_99_66, s_99_69, s_99_70, amLong_I, amLong_R, amLong_N, amLong_L, cond_true, cond_false, Option.toList_some, Option.toList_none, List.cons_append, List.nil_append, List.append_nil, setE, setN, cpy_set, lit, nle, nlt, neq, inb_iff, cl_nI, tle, fle, tlt, flt, teq, feq, m9, m3, x9, x3, nI_add, nsub, upN, upE, b0', b01', r100, w100, r101, w101, r102, w102, r103, w103, r104, w104, r105, w105, r106, w106, r107, w107, r108, w108, w109, w110, r111, w111, r112, w112, r113, w113, r114, w114, r115, w115, r116, w116, r117, w117, r118, w118, r119, w119, w120, w121, r122, w122, r130, w130, w131, w132, r133, w133, r134, w134, r135, w135, r136, w136, r137, w137, r138, w138, r139, w139, r140, w140, r141, w141, w142, r143, w143, r144, w144, r145, w145, r146, w146, w147, w150, Bool.false_eq_true, not_true_eq_false, not_false_eq_true, false_implies, true_implies, and_true, true_and, if_true, if_false, implies_true, Classical.not_not, true_or, or_true, false_or, or_false, and_self, ite_true, ite_false, reduceIte]
  refine c100 i3 (fun h => ?_) (fun b M2 h1 h2 h3 h4 h6 hT => ?_)
  · simp (disch := omega) only [s_99_0, s_99_1, s_99_3, s_99_6, s_99_9, s_99_10, s_99_13, s_99_16, s_99_17, s_99_18, s_99_19, s_99_22, s_99_25, s_99_26, s_99_27, s_99_28, s_99_31, s_99_32, s_99_33, s_99_36, s_99_39, s_99_40, s_99_41, s_99_44, s_99_45, s_99_46, s_99_47, s_99_48, s_99_49, s_99_52, s_99_55, s_99_56, s_99_57, s_99_60, s_99_63, s_99_66, s_99_69, s_99_70, amLong_I, amLong_R, amLong_N, amLong_L, cond_true, cond_false, Option.toList_some, Option.toList_none, List.cons_append, List.nil_append, List.append_nil, setE, setN, cpy_set, lit, nle, nlt, neq, inb_iff, cl_nI, tle, fle, tlt, flt, teq, feq, m9, m3, x9, x3, nI_add, nsub, upN, upE, b0', b01', r100, w100, r101, w101, r102, w102, r103, w103, r104, w104, r105, w105, r106, w106, r107, w107, r108, w108, w109, w110, r111, w111, r112, w112, r113, w113, r114, w114, r115, w115, r116, w116, r117, w117, r118, w118, r119, w119, w120, w121, r122, w122, r130, w130, w131, w132, r133, w133, r134, w134, r135, w135, r136, w136, r137, w137, r138, w138, r139, w139, r140, w140, r141, w141, w142, r143, w143, r144, w144, r145, w145, r146, w146, w147, w150, Bool.false_eq_true, not_true_eq_false, not_false_eq_true, false_implies, true_implies, and_true, true_and, if_true, if_false, implies_true, Classical.not_not, true_or, or_true, false_or, or_false, and_self, ite_true, ite_false, reduceIte]
    refine H0 _ ?_ i2
    rw [i5, h]
    rfl
  · rw [h1, List.length_cons] at i4
    have i6 : rest = (b :: aft b).filter (sdL sh pay) := by rw [i5, h1]
    simp (disch := omega) only [s_99_0, s_99_1, s_99_3, s_99_6, s_99_9, s_99_10, s_99_13, s_99_16, s_99_17, s_99_18, s_99_19, s_99_22, s_99_25, s_99_26, s_99_27, s_99_28, s_99_31, s_99_32, s_99_33, s_99_36, s_99_39, s_99_40, s_99_41, s_99_44, s_99_45, s_99_46, s_99_47, s_99_48, s_99_49, s_99_52, s_99_55, s_99_56, s_99_57, s_99_60, s_99_63, s_99_66, s_99_69, s_99_70, amLong_I, amLong_R, amLong_N, amLong_L, cond_true, cond_false, Option.toList_some, Option.toList_none, List.cons_append, List.nil_append, List.append_nil, setE, setN, cpy_set, lit, nle, nlt, neq, inb_iff, cl_nI, tle, fle, tlt, flt, teq, feq, m9, m3, x9, x3, nI_add, nsub, upN, upE, b0', b01', r100, w100, r101, w101, r102, w102, r103, w103, r104, w104, r105, w105, r106, w106, r107, w107, r108, w108, w109, w110, r111, w111, r112, w112, r113, w113, r114, w114, r115, w115, r116, w116, r117, w117, r118, w118, r119, w119, w120, w121, r122, w122, r130, w130, w131, w132, r133, w133, r134, w134, r135, w135, r136, w136, r137, w137, r138, w138, r139, w139, r140, w140, r141, w141, w142, r143, w143, r144, w144, r145, w145, r146, w146, w147, w150, Bool.false_eq_true, not_true_eq_false, not_false_eq_true, false_implies, true_implies, and_true, true_and, if_true, if_false, implies_true, Classical.not_not, true_or, or_true, false_or, or_false, and_self, ite_true, ite_false, reduceIte, c59 h14 h5 hT.1.2.1]
    by_cases hs : sdL sh pay b = true
    · have hy := hT.yes hs
      simp (disch := omega) only [s_99_0, s_99_1, s_99_3, s_99_6, s_99_9, s_99_10, s_99_13, s_99_16, s_99_17, s_99_18, s_99_19, s_99_22, s_99_25, s_99_26, s_99_27, s_99_28, s_99_31, s_99_32, s_99_33, s_99_36, s_99_39, s_99_40, s_99_41, s_99_44, s_99_45, s_99_46, s_99_47, s_99_48, s_99_49, s_99_52, s_99_55, s_99_56, s_99_57, s_99_60, s_99_63, s_99_66, s_99_69, s_99_70, amLong_I, amLong_R, amLong_N, amLong_L, cond_true, cond_false, Option.toList_some, Option.toList_none, List.cons_append, List.nil_append, List.append_nil, setE, setN, cpy_set, lit, nle, nlt, neq, inb_iff, cl_nI, tle, fle, tlt, flt, teq, feq, m9, m3, x9, x3, nI_add, nsub, upN, upE, b0', b01', r100, w100, r101, w101, r102, w102, r103, w103, r104, w104, r105, w105, r106, w106, r107, w107, r108, w108, w109, w110, r111, w111, r112, w112, r113, w113, r114, w114, r115, w115, r116, w116, r117, w117, r118, w118, r119, w119, w120, w121, r122, w122, r130, w130, w131, w132, r133, w133, r134, w134, r135, w135, r136, w136, r137, w137, r138, w138, r139, w139, r140, w140, r141, w141, w142, r143, w143, r144, w144, r145, w145, r146, w146, w147, w150, Bool.false_eq_true, not_true_eq_false, not_false_eq_true, false_implies, true_implies, and_true, true_and, if_true, if_false, implies_true, Classical.not_not, true_or, or_true, false_or, or_false, and_self, ite_true, ite_false, reduceIte, hy, hT.1.2.2.1]
      refine H1 b ((aft b).filter (sdL sh pay)) _ ?_ h2 h3 (fun c j k h e1 e2 => ?_) ⟨aft b, ?_, by omega, rfl⟩ (fun p hp => ?_)
      · rw [i6, List.filter_cons_of_pos hs]
      · rw [upN (by omega), h4 c j k h e1 e2, i2 c j k h e1 e2]
      · exact CU.of (M' := M) h2 h3 hT (by omega) h6 (aft_all _ _ (by omega))
      · rw [upN (by omega), hT.2.1 p hp]
    · obtain ⟨k, k1, k2, k3⟩ := hT.no hs
      obtain ⟨z1, z2, z3⟩ := gns_pos h5 k2
      have z4 := (lst_ok h5 z1 z2).1.1
      have hf : (b :: aft b).filter (sdL sh pay) = (rmd (min (lst sh (k / 9) (k % 9 / 3)) (prf sh - 2)) b).filter (sdL sh pay) := by
        rw [List.filter_cons_of_neg hs]
        by_cases hm : lst sh (k / 9) (k % 9 / 3) ≤ prf sh - 2
        · rw [Nat.min_eq_left hm]
          exact aft_skip _ b _ (fun b' hb' => sd_pre h5 k2 (by omega) hb')
        · rw [Nat.min_eq_right (by omega), aft_all (prf sh - 2) b (by omega)]
      have hq : (if prf sh - 2 < lst sh (k / 9) (k % 9 / 3) then nI (prf sh - 2) else nI (lst sh (k / 9) (k % 9 / 3))) = nI (min (lst sh (k / 9) (k % 9 / 3)) (prf sh - 2)) := by
        rw [Nat.min_def]
        by_cases hm : lst sh (k / 9) (k % 9 / 3) ≤ prf sh - 2
        · rw [if_pos hm, if_neg (by omega)]
        · rw [if_neg hm, if_pos (by omega)]
      have hq2 := rmd_le (min (lst sh (k / 9) (k % 9 / 3)) (prf sh - 2)) b
      simp (disch := omega) only [s_99_0, s_99_1, s_99_3, s_99_6, s_99_9, s_99_10, s_99_13, s_99_16, s_99_17, s_99_18, s_99_19, s_99_22, s_99_25, s_99_26, s_99_27, s_99_28, s_99_31, s_99_32, s_99_33, s_99_36, s_99_39, s_99_40, s_99_41, s_99_44, s_99_45, s_99_46, s_99_47, s_99_48, s_99_49, s_99_52, s_99_55, s_99_56, s_99_57, s_99_60, s_99_63, s_99_66, s_99_69, s_99_70, amLong_I, amLong_R, amLong_N, amLong_L, cond_true, cond_false, Option.toList_some, Option.toList_none, List.cons_append, List.nil_append, List.append_nil, setE, setN, cpy_set, lit, nle, nlt, neq, inb_iff, cl_nI, tle, fle, tlt, flt, teq, feq, m9, m3, x9, x3, nI_add, nsub, upN, upE, b0', b01', r100, w100, r101, w101, r102, w102, r103, w103, r104, w104, r105, w105, r106, w106, r107, w107, r108, w108, w109, w110, r111, w111, r112, w112, r113, w113, r114, w114, r115, w115, r116, w116, r117, w117, r118, w118, r119, w119, w120, w121, r122, w122, r130, w130, w131, w132, r133, w133, r134, w134, r135, w135, r136, w136, r137, w137, r138, w138, r139, w139, r140, w140, r141, w141, w142, r143, w143, r144, w144, r145, w145, r146, w146, w147, w150, Bool.false_eq_true, not_true_eq_false, not_false_eq_true, false_implies, true_implies, and_true, true_and, if_true, if_false, implies_true, Classical.not_not, true_or, or_true, false_or, or_false, and_self, ite_true, ite_false, reduceIte, k3, nI_neg1, hT.1.2.2.1, hq]
      refine next _ _ _ (i + 1, _) ⟨rfl, fun c j k h e1 e2 => ?_, CU.of (M' := M) h2 h3 hT (by omega) h6 rfl, by dsimp only; omega, by rw [i6, hf]⟩ (by dsimp only; rw [h1, List.length_cons]; omega)
      rw [upN (by omega), h4 c j k h e1 e2, i2 c j k h e1 e2]
end LISTER
