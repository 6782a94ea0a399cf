/-! plans -/
/-- bits of places -/
def bn (f : Nat → Bool) : Nat → Nat
  | 0 => 0
  | p + 1 => bn f p + (if f p = true then 2 ^ p else 0)
theorem bn_lt {f : Nat → Bool} : ∀ n, bn f n < 2 ^ n
  | 0 => Nat.one_pos
  | n + 1 => by
    have := bn_lt (f := f) n
    show bn f n + (if f n = true then 2 ^ n else 0) < 2 ^ (n + 1)
    rw [Nat.pow_succ]
    split <;> omega
def cnt (f : Nat → Bool) : Nat → Nat
  | 0 => 0
  | p + 1 => cnt f p + (if f p = true then 1 else 0)
theorem or_b {n p : Nat} (hp : p < 9) (hn : n < 2 ^ p) : (nI n ||| (nI 1 <<< (nI p &&& nI 31))) = nI (n + 2 ^ p) ∧ popc (n + 2 ^ p) = popc n + 1 := by
  have h : (List.range 9).all (fun p => (List.range (2 ^ p)).all (fun n => decide ((nI n ||| (nI 1 <<< (nI p &&& nI 31))) = nI (n + 2 ^ p) ∧ popc (n + 2 ^ p) = popc n + 1))) = true := by decide +kernel
  exact of_decide_eq_true (List.all_eq_true.mp (List.all_eq_true.mp h p (List.mem_range.mpr hp)) n (List.mem_range.mpr hn))
theorem or_0 (x : Int32) : x ||| nI 0 = x := Int32.or_zero
def bfd (f : Nat → Bool) (n : Nat) : Int32 := fd (fun p s => s ||| (if f p = true then nI 1 <<< (nI p &&& nI 31) else nI 0)) (nI 0) n
theorem bfd_bn {f : Nat → Bool} : ∀ n, n ≤ 9 → bfd f n = nI (bn f n) ∧ popc (bn f n) = cnt f n
  | 0, _ => ⟨rfl, by show popc 0 = 0; decide⟩
  | n + 1, h => by
    obtain ⟨h1, h2⟩ := bfd_bn (f := f) n (by omega)
    obtain ⟨h3, h4⟩ := or_b (p := n) (by omega) (bn_lt (f := f) n)
    show (bfd f n ||| (if f n = true then nI 1 <<< (nI n &&& nI 31) else nI 0)) = nI (bn f n + (if f n = true then 2 ^ n else 0)) ∧ popc (bn f n + (if f n = true then 2 ^ n else 0)) = cnt f n + (if f n = true then 1 else 0)
    by_cases e : f n = true
    · rw [if_pos e, if_pos e, if_pos e, h1, h3, h4, h2]
      exact ⟨rfl, rfl⟩
    · rw [if_neg e, if_neg e, if_neg e, or_0, h1]
      exact ⟨rfl, h2⟩
theorem bn_512 {f : Nat → Bool} {n : Nat} (h : n ≤ 9) : bn f n < 512 := Nat.lt_of_lt_of_le (bn_lt n) (Nat.pow_le_pow_right (by decide) h)
section PLANS
variable {d g t jk X sh : Nat} {M M1 M2 : amM} {J J1 J2 : amJ} {Q : Option amV → amS → Prop} {pay tok tk : Nat → Int32}
def plF (sh : Nat) (pay : Nat → Int32) : Int32 := bfd (plB sh pay) (prf sh)
theorem plB_cg {pay' : Nat → Int32} {p : Nat} (h5 : sh < 5) (h : ∀ k, k < 27 → pay k = pay' k) (hp : p < prf sh) : plB sh pay p = plB sh pay' p := by
  obtain ⟨⟨l1, l2, l3, l4⟩, l5⟩ := sh_ok sh h5
  unfold plB
  rw [decide_eq_decide]
  constructor
  · intro z i hi b hb
    have := (((l5 i hi).2 p hp).2.2 b hb).1
    have := z i hi b hb
    rw [h _ (by omega), h _ (by omega)] at this
    exact this
  · intro z i hi b hb
    have := (((l5 i hi).2 p hp).2.2 b hb).1
    rw [h _ (by omega), h _ (by omega)]
    exact z i hi b hb
theorem v83 (hg : g < 13) (hV : GV M g sh pay tok) : Call (d + 3) 83 [vR 2 g] (M, J, (jk, 149, 147, X)) Q ↔ Q (some (vI (plF sh pay))) (M, J, (jk, 149, 147, X)) := by
  rw [c83 hg hV.1]
  unfold plBits plF bfd
  rw [fd_N, fd_congr (g := fun p s => s ||| (if plB sh pay p = true then nI 1 <<< (nI p &&& nI 31) else nI 0)) _ (fun p hp x => by rw [plB_cg hV.1.1 hV.2.1 hp])]
/-- all plans, each with its welfare -/
def wat (sh : Nat) (pay : Nat → Int32) (p : Nat) : Int32 := sumN (fun i => pay (9 * i + p)) 0 (plr sh)
def plR (sh : Nat) (pay : Nat → Int32) (b : Int32) (n : Nat) : List Int32 := fd (fun p r => if (b >>> (nI p &&& nI 31)) &&& nI 1 = nI 0 then r else r ++ [nI p] ++ [wat sh pay p]) [] n
theorem plR_len {b : Int32} : ∀ n, (plR sh pay b n).length ≤ 2 * n
  | 0 => Nat.le_refl 0
  | n + 1 => by
    have := plR_len (b := b) n
    show (if _ then plR sh pay b n else plR sh pay b n ++ [nI n] ++ [wat sh pay n]).length ≤ 2 * (n + 1)
    split
    · omega
    · rw [len1, len1]
      omega
def o14 (A : Sta) : Int32 × Sta := (nI (cnt (plB A.1.1 A.1.2.1) (prf A.1.1)), tel A (plR A.1.1 A.1.2.1 (plF A.1.1 A.1.2.1) (prf A.1.1)))
theorem v85 {p : Nat} (hg : g < 13) (hV : GV M g sh pay tok) (hp : p < 9) : Call (d + 2) 85 [vR 2 g, vI (nI p)] (M, J, (jk, 149, 147, X)) Q ↔ Q (some (vI (wat sh pay p))) (M, J, (jk, 149, 147, X)) := by
  have := (sh_ok sh hV.1.1).1
  rw [c85 hg hV.1 hp, sumN_congr (g := fun i => pay (9 * i + p)) _ _ (fun i _ hi => by rw [hV.2.1 _ (by omega)])]
  exact Iff.rfl
theorem c86p (h9 : prf sh ≤ 9) : Call (d + 1) 86 [vI (plF sh pay)] (M, J, (jk, 149, 147, X)) Q ↔ Q (some (vI (nI (cnt (plB sh pay) (prf sh))))) (M, J, (jk, 149, 147, X)) := by
  obtain ⟨h1, h2⟩ := bfd_bn (f := plB sh pay) (prf sh) h9
  unfold plF
  rw [h1, c86n (bn_512 h9), h2]
theorem k82 {A : Sta} (hR : RC M J A) (hW : WF A) (H : ∀ M1 J1, RC M1 J1 (o14 A).2 → FC M M1 → FCJ J J1 → Q (some (vI (o14 A).1)) (M1, J1, (jk, 149, 147, X))) : Call (d + 4) 82 [vR 11 0] (M, J, (jk, 149, 147, X)) Q := by
  obtain ⟨⟨sh, pay, tok⟩, U, S, x, r⟩ := A
  have hV : GV M 0 sh pay tok := hR.1
  have h0 : (0 : Nat) < 13 := by decide
  obtain ⟨⟨l1, l2, l3, l4⟩, l5⟩ := sh_ok sh hV.1.1
  unfold o14 at H
  dsimp only at H
  have hc : ∀ {M' : amM} {J' : amJ} {Q' : Option amV → amS → Prop}, Call (d + 3) 86 [vI (plF sh pay)] (M', J', (jk, 149, 147, X)) Q' ↔ Q' (some (vI (nI (cnt (plB sh pay) (prf sh))))) (M', J', (jk, 149, 147, X)) := c86p l4
  generalize hb : plF sh pay = b at *
  rw [e_82]
  simp (disch := omega) only [s_82_0, s_82_1, s_82_4, s_82_7, s_82_8, s_82_9, s_82_12, s_82_15, s_82_16, s_82_18, s_82_19, s_82_22, s_82_25, s_82_28, s_82_29, s_82_30, s_82_31, s_82_32, s_82_33, s_82_36, s_82_37, s_82_40, s_82_41, s_82_42, s_82_45, s_82_46, s_82_49, s_82_50, s_82_53, s_82_54, s_82_57, s_82_58, s_82_61, s_82_64, s_82_67, s_82_68, s_82_71, amLong_I, amLong_R, amLong_N, amLong_L, cond_true, cond_false, Option.toList_some, Option.toList_none, List.cons_append, List.nil_append, List.append_nil, setE, setN, cpy_set, lit, nle, nlt, neq, inb_iff, cl_nI, tle, fle, tlt, flt, teq, feq, m9, m3, x9, x3, nI_add, nsub, upN, upE, b0', b01', r100, w100, r101, w101, r102, w102, r103, w103, r104, w104, r105, w105, r106, w106, r107, w107, r108, w108, w109, w110, r111, w111, r112, w112, r113, w113, r114, w114, r115, w115, r116, w116, r117, w117, r118, w118, r119, w119, w120, w121, r122, w122, r130, w130, w131, w132, r133, w133, r134, w134, r135, w135, r136, w136, r137, w137, r138, w138, r139, w139, r140, w140, r141, w141, w142, r143, w143, r144, w144, r145, w145, r146, w146, w147, w150, b1', em1, Bool.false_eq_true, not_true_eq_false, not_false_eq_true, false_implies, true_implies, and_true, true_and, if_true, if_false, implies_true, Classical.not_not, true_or, or_true, false_or, or_false, and_self, ite_true, ite_false, reduceIte, v83 h0 hV, hb]
  refine v42 (fun M2 h2 => ?_)
  simp (disch := omega) only [s_82_0, s_82_1, s_82_4, s_82_7, s_82_8, s_82_9, s_82_12, s_82_15, s_82_16, s_82_18, s_82_19, s_82_22, s_82_25, s_82_28, s_82_29, s_82_30, s_82_31, s_82_32, s_82_33, s_82_36, s_82_37, s_82_40, s_82_41, s_82_42, s_82_45, s_82_46, s_82_49, s_82_50, s_82_53, s_82_54, s_82_57, s_82_58, s_82_61, s_82_64, s_82_67, s_82_68, s_82_71, amLong_I, amLong_R, amLong_N, amLong_L, cond_true, cond_false, Option.toList_some, Option.toList_none, List.cons_append, List.nil_append, List.append_nil, setE, setN, cpy_set, lit, nle, nlt, neq, inb_iff, cl_nI, tle, fle, tlt, flt, teq, feq, m9, m3, x9, x3, nI_add, nsub, upN, upE, b0', b01', r100, w100, r101, w101, r102, w102, r103, w103, r104, w104, r105, w105, r106, w106, r107, w107, r108, w108, w109, w110, r111, w111, r112, w112, r113, w113, r114, w114, r115, w115, r116, w116, r117, w117, r118, w118, r119, w119, w120, w121, r122, w122, r130, w130, w131, w132, r133, w133, r134, w134, r135, w135, r136, w136, r137, w137, r138, w138, r139, w139, r140, w140, r141, w141, w142, r143, w143, r144, w144, r145, w145, r146, w146, w147, w150, b1', em1, Bool.false_eq_true, not_true_eq_false, not_false_eq_true, false_implies, true_implies, and_true, true_and, if_true, if_false, implies_true, Classical.not_not, true_or, or_true, false_or, or_false, and_self, ite_true, ite_false, reduceIte]
  refine lpH (T := Unit) (U := Unit) (P := prf sh) (E := fun k M1 J1 u x => Ev (d + 3) 82 17 [some (vR 11 (0)), some (vI (b)), some (vI (nI k))] [] (M1, J1, (jk, 149, 147, X)) Q) (I := fun k M1 J1 _ => RWo M M1 J J1 (plR sh pay b k)) (fun M1 J1 u x hI => ?_) (fun p M1 J1 u x hp hI next => ?_) 0 _ _ () () (by omega) h2
  · have hV2 := hI.gv hV
    rw [h_82_17]
    simp (disch := omega) only [s_82_0, s_82_1, s_82_4, s_82_7, s_82_8, s_82_9, s_82_12, s_82_15, s_82_16, s_82_18, s_82_19, s_82_22, s_82_25, s_82_28, s_82_29, s_82_30, s_82_31, s_82_32, s_82_33, s_82_36, s_82_37, s_82_40, s_82_41, s_82_42, s_82_45, s_82_46, s_82_49, s_82_50, s_82_53, s_82_54, s_82_57, s_82_58, s_82_61, s_82_64, s_82_67, s_82_68, s_82_71, amLong_I, amLong_R, amLong_N, amLong_L, cond_true, cond_false, Option.toList_some, Option.toList_none, List.cons_append, List.nil_append, List.append_nil, setE, setN, cpy_set, lit, nle, nlt, neq, inb_iff, cl_nI, tle, fle, tlt, flt, teq, feq, m9, m3, x9, x3, nI_add, nsub, upN, upE, b0', b01', r100, w100, r101, w101, r102, w102, r103, w103, r104, w104, r105, w105, r106, w106, r107, w107, r108, w108, w109, w110, r111, w111, r112, w112, r113, w113, r114, w114, r115, w115, r116, w116, r117, w117, r118, w118, r119, w119, w120, w121, r122, w122, r130, w130, w131, w132, r133, w133, r134, w134, r135, w135, r136, w136, r137, w137, r138, w138, r139, w139, r140, w140, r141, w141, w142, r143, w143, r144, w144, r145, w145, r146, w146, w147, w150, b1', em1, Bool.false_eq_true, not_true_eq_false, not_false_eq_true, false_implies, true_implies, and_true, true_and, if_true, if_false, implies_true, Classical.not_not, true_or, or_true, false_or, or_false, and_self, ite_true, ite_false, reduceIte, hV2.1.2.2.1, hc]
    exact H M1 J1 (hR.w FrQ.rfl hI) hI.q.fc hI.j
  · have hV2 := hI.gv hV
    have hl := plR_len (sh := sh) (pay := pay) (b := b) p
    have e : plR sh pay b (p + 1) = if (b >>> (nI p &&& nI 31)) &&& nI 1 = nI 0 then plR sh pay b p else plR sh pay b p ++ [nI p] ++ [wat sh pay p] := rfl
    rw [e] at next
    rw [h_82_17]
    by_cases e1 : (b >>> (nI p &&& nI 31)) &&& nI 1 = nI 0
    · rw [if_pos e1] at next
      simp (disch := omega) only [s_82_0, s_82_1, s_82_4, s_82_7, s_82_8, s_82_9, s_82_12, s_82_15, s_82_16, s_82_18, s_82_19, s_82_22, s_82_25, s_82_28, s_82_29, s_82_30, s_82_31, s_82_32, s_82_33, s_82_36, s_82_37, s_82_40, s_82_41, s_82_42, s_82_45, s_82_46, s_82_49, s_82_50, s_82_53, s_82_54, s_82_57, s_82_58, s_82_61, s_82_64, s_82_67, s_82_68, s_82_71, amLong_I, amLong_R, amLong_N, amLong_L, cond_true, cond_false, Option.toList_some, Option.toList_none, List.cons_append, List.nil_append, List.append_nil, setE, setN, cpy_set, lit, nle, nlt, neq, inb_iff, cl_nI, tle, fle, tlt, flt, teq, feq, m9, m3, x9, x3, nI_add, nsub, upN, upE, b0', b01', r100, w100, r101, w101, r102, w102, r103, w103, r104, w104, r105, w105, r106, w106, r107, w107, r108, w108, w109, w110, r111, w111, r112, w112, r113, w113, r114, w114, r115, w115, r116, w116, r117, w117, r118, w118, r119, w119, w120, w121, r122, w122, r130, w130, w131, w132, r133, w133, r134, w134, r135, w135, r136, w136, r137, w137, r138, w138, r139, w139, r140, w140, r141, w141, w142, r143, w143, r144, w144, r145, w145, r146, w146, w147, w150, b1', em1, Bool.false_eq_true, not_true_eq_false, not_false_eq_true, false_implies, true_implies, and_true, true_and, if_true, if_false, implies_true, Classical.not_not, true_or, or_true, false_or, or_false, and_self, ite_true, ite_false, reduceIte, hV2.1.2.2.1, e1]
      exact next _ _ () () hI
    · rw [if_neg e1] at next
      simp (disch := omega) only [s_82_0, s_82_1, s_82_4, s_82_7, s_82_8, s_82_9, s_82_12, s_82_15, s_82_16, s_82_18, s_82_19, s_82_22, s_82_25, s_82_28, s_82_29, s_82_30, s_82_31, s_82_32, s_82_33, s_82_36, s_82_37, s_82_40, s_82_41, s_82_42, s_82_45, s_82_46, s_82_49, s_82_50, s_82_53, s_82_54, s_82_57, s_82_58, s_82_61, s_82_64, s_82_67, s_82_68, s_82_71, amLong_I, amLong_R, amLong_N, amLong_L, cond_true, cond_false, Option.toList_some, Option.toList_none, List.cons_append, List.nil_append, List.append_nil, setE, setN, cpy_set, lit, nle, nlt, neq, inb_iff, cl_nI, tle, fle, tlt, flt, teq, feq, m9, m3, x9, x3, nI_add, nsub, upN, upE, b0', b01', r100, w100, r101, w101, r102, w102, r103, w103, r104, w104, r105, w105, r106, w106, r107, w107, r108, w108, w109, w110, r111, w111, r112, w112, r113, w113, r114, w114, r115, w115, r116, w116, r117, w117, r118, w118, r119, w119, w120, w121, r122, w122, r130, w130, w131, w132, r133, w133, r134, w134, r135, w135, r136, w136, r137, w137, r138, w138, r139, w139, r140, w140, r141, w141, w142, r143, w143, r144, w144, r145, w145, r146, w146, w147, w150, b1', em1, Bool.false_eq_true, not_true_eq_false, not_false_eq_true, false_implies, true_implies, and_true, true_and, if_true, if_false, implies_true, Classical.not_not, true_or, or_true, false_or, or_false, and_self, ite_true, ite_false, reduceIte, hV2.1.2.2.1, e1]
      refine v43 hI (by omega) (fun M3 J3 h3 => ?_)
      have hV3 := h3.gv hV
      simp (disch := omega) only [s_82_0, s_82_1, s_82_4, s_82_7, s_82_8, s_82_9, s_82_12, s_82_15, s_82_16, s_82_18, s_82_19, s_82_22, s_82_25, s_82_28, s_82_29, s_82_30, s_82_31, s_82_32, s_82_33, s_82_36, s_82_37, s_82_40, s_82_41, s_82_42, s_82_45, s_82_46, s_82_49, s_82_50, s_82_53, s_82_54, s_82_57, s_82_58, s_82_61, s_82_64, s_82_67, s_82_68, s_82_71, amLong_I, amLong_R, amLong_N, amLong_L, cond_true, cond_false, Option.toList_some, Option.toList_none, List.cons_append, List.nil_append, List.append_nil, setE, setN, cpy_set, lit, nle, nlt, neq, inb_iff, cl_nI, tle, fle, tlt, flt, teq, feq, m9, m3, x9, x3, nI_add, nsub, upN, upE, b0', b01', r100, w100, r101, w101, r102, w102, r103, w103, r104, w104, r105, w105, r106, w106, r107, w107, r108, w108, w109, w110, r111, w111, r112, w112, r113, w113, r114, w114, r115, w115, r116, w116, r117, w117, r118, w118, r119, w119, w120, w121, r122, w122, r130, w130, w131, w132, r133, w133, r134, w134, r135, w135, r136, w136, r137, w137, r138, w138, r139, w139, r140, w140, r141, w141, w142, r143, w143, r144, w144, r145, w145, r146, w146, w147, w150, b1', em1, Bool.false_eq_true, not_true_eq_false, not_false_eq_true, false_implies, true_implies, and_true, true_and, if_true, if_false, implies_true, Classical.not_not, true_or, or_true, false_or, or_false, and_self, ite_true, ite_false, reduceIte, v85 h0 hV3]
      refine v43 h3 (by rw [len1]; omega) (fun M4 J4 h4 => ?_)
      simp (disch := omega) only [s_82_0, s_82_1, s_82_4, s_82_7, s_82_8, s_82_9, s_82_12, s_82_15, s_82_16, s_82_18, s_82_19, s_82_22, s_82_25, s_82_28, s_82_29, s_82_30, s_82_31, s_82_32, s_82_33, s_82_36, s_82_37, s_82_40, s_82_41, s_82_42, s_82_45, s_82_46, s_82_49, s_82_50, s_82_53, s_82_54, s_82_57, s_82_58, s_82_61, s_82_64, s_82_67, s_82_68, s_82_71, amLong_I, amLong_R, amLong_N, amLong_L, cond_true, cond_false, Option.toList_some, Option.toList_none, List.cons_append, List.nil_append, List.append_nil, setE, setN, cpy_set, lit, nle, nlt, neq, inb_iff, cl_nI, tle, fle, tlt, flt, teq, feq, m9, m3, x9, x3, nI_add, nsub, upN, upE, b0', b01', r100, w100, r101, w101, r102, w102, r103, w103, r104, w104, r105, w105, r106, w106, r107, w107, r108, w108, w109, w110, r111, w111, r112, w112, r113, w113, r114, w114, r115, w115, r116, w116, r117, w117, r118, w118, r119, w119, w120, w121, r122, w122, r130, w130, w131, w132, r133, w133, r134, w134, r135, w135, r136, w136, r137, w137, r138, w138, r139, w139, r140, w140, r141, w141, w142, r143, w143, r144, w144, r145, w145, r146, w146, w147, w150, b1', em1, Bool.false_eq_true, not_true_eq_false, not_false_eq_true, false_implies, true_implies, and_true, true_and, if_true, if_false, implies_true, Classical.not_not, true_or, or_true, false_or, or_false, and_self, ite_true, ite_false, reduceIte]
      exact next _ _ () () h4
/-- one token alone -/
theorem sum_one {f D : Nat → Int32} {p : Nat} : ∀ n, p < n → (∀ q, f q = if q = p then nI 1 else nI 0) → sumN (fun q => f q * D q) 0 n = D p
  | 0, h, _ => by omega
  | n + 1, h, hf => by
    rw [sum_s]
    by_cases e : p = n
    · subst e
      rw [sum_zero p (fun q hq => by rw [hf q, if_neg (by omega)]; exact Int32.zero_mul), hf p, if_pos rfl]
      show 0 + 1 * D p = D p
      grind
    · rw [sum_one n (by omega) hf, hf n, if_neg (fun z => e z.symm)]
      show D p + 0 * D n = D p
      grind
theorem one_snd {p : Nat} {f : Nat → Int32} (h5 : sh < 5) (hb : pB pay) (hp : p < prf sh) (hf : ∀ q, f q = if q = p then nI 1 else nI 0) : sndB sh pay f = plB sh pay p := by
  obtain ⟨⟨l1, l2, l3, l4⟩, l5⟩ := sh_ok sh h5
  have hg : ∀ k, gns sh pay f k = dl sh pay p k := fun k => sum_one (D := fun q => dl sh pay q k) (prf sh) hp hf
  rw [Bool.eq_iff_iff, snd_iff3 h5]
  unfold plB
  rw [decide_eq_true_iff]
  constructor
  · intro h i hi b hb' hlt
    obtain ⟨l6, l7⟩ := l5 i hi
    obtain ⟨l8, l9, l10⟩ := l7 p hp
    have l11 := (l10 b hb').1
    by_cases e : act sh i p = b
    · rw [← e, ins_act l9] at hlt
      exact absurd hlt (by rw [Int32.lt_iff_toInt_lt]; omega)
    · have h2 := h i hi (act sh i p) l8 b hb' e
      rw [hg, dl_at hi (by omega) (by omega) hb', if_pos rfl] at h2
      have b1 := hb (9 * i + ins sh i p b) (by omega)
      have b2 := hb (9 * i + p) (by omega)
      rw [Int32.lt_iff_toInt_lt, tS (by omega) (by omega), show (nI 0).toInt = 0 from rfl] at h2
      rw [Int32.lt_iff_toInt_lt] at hlt
      omega
  · intro h i hi a ha b hb' hn hlt
    obtain ⟨l6, l7⟩ := l5 i hi
    obtain ⟨l8, l9, l10⟩ := l7 p hp
    have l11 := (l10 b hb').1
    rw [hg, dl_at hi (by omega) (by omega) hb'] at hlt
    by_cases e : act sh i p = a
    · rw [if_pos e] at hlt
      have h2 := h i hi b hb'
      have b1 := hb (9 * i + ins sh i p b) (by omega)
      have b2 := hb (9 * i + p) (by omega)
      rw [Int32.lt_iff_toInt_lt, tS (by omega) (by omega), show (nI 0).toInt = 0 from rfl] at hlt
      rw [Int32.lt_iff_toInt_lt] at h2
      omega
    · rw [if_neg e] at hlt
      exact absurd hlt (by decide)
theorem m210 (hV : MV M sh pay tok) (hb : pB pay) (H : ∀ M1, (∀ c j k, c ≠ 134 → M1 c j k = M c j k) → Q (some (vI (plF sh pay))) (M1, J, (jk, 149, 147, X))) : Call (d + 7) 210 [vR 12 0] (M, J, (jk, 149, 147, X)) Q := by
  obtain ⟨⟨l1, l2, l3, l4⟩, l5⟩ := sh_ok sh hV.1
  rw [e_210]
  simp (disch := omega) only [s_210_0, s_210_1, s_210_2, s_210_3, s_210_5, s_210_6, s_210_9, s_210_12, s_210_13, s_210_15, s_210_17, s_210_20, s_210_21, s_210_24, s_210_25, s_210_26, s_210_27, s_210_30, s_210_31, s_210_34, s_210_35, s_210_36, s_210_39, s_210_42, s_210_43, s_210_44, s_210_47, s_210_50, s_210_51, s_210_52, s_210_53, s_210_56, s_210_57, s_210_58, s_210_59, s_210_62, s_210_65, s_210_66, amLong_I, amLong_R, amLong_N, amLong_L, cond_true, cond_false, Option.toList_some, Option.toList_none, List.cons_append, List.nil_append, List.append_nil, setE, setN, cpy_set, lit, nle, nlt, neq, inb_iff, cl_nI, tle, fle, tlt, flt, teq, feq, m9, m3, x9, x3, nI_add, nsub, upN, upE, b0', b01', r100, w100, r101, w101, r102, w102, r103, w103, r104, w104, r105, w105, r106, w106, r107, w107, r108, w108, w109, w110, r111, w111, r112, w112, r113, w113, r114, w114, r115, w115, r116, w116, r117, w117, r118, w118, r119, w119, w120, w121, r122, w122, r130, w130, w131, w132, r133, w133, r134, w134, r135, w135, r136, w136, r137, w137, r138, w138, r139, w139, r140, w140, r141, w141, w142, r143, w143, r144, w144, r145, w145, r146, w146, w147, w150, b1', em1, Bool.false_eq_true, not_true_eq_false, not_false_eq_true, false_implies, true_implies, and_true, true_and, if_true, if_false, implies_true, Classical.not_not, true_or, or_true, false_or, or_false, and_self, ite_true, ite_false, reduceIte]
  refine lpH (T := Unit) (U := Option amV) (P := prf sh) (E := fun k M1 J1 u x => Ev (d + 6) 210 4 [some (vR 12 (0)), some (vI (bfd (plB sh pay) k)), some (vI (nI k)), u] [] (M1, J1, (jk, 149, 147, X)) Q) (I := fun k M1 J1 _ => J = J1 ∧ (∀ c j k, c ≠ 134 → M1 c j k = M c j k)) (fun M1 J1 u x hI => ?_) (fun p M1 J1 u x hp hI next => ?_) 0 _ _ none () (by omega) ⟨rfl, fun _ _ _ _ => rfl⟩
  · obtain ⟨rfl, i2⟩ := hI
    have hV1 : MV M1 sh pay tok := hV.of (fun k _ => i2 _ _ _ (by omega))
    rw [h_210_4]
    simp (disch := omega) only [s_210_0, s_210_1, s_210_2, s_210_3, s_210_5, s_210_6, s_210_9, s_210_12, s_210_13, s_210_15, s_210_17, s_210_20, s_210_21, s_210_24, s_210_25, s_210_26, s_210_27, s_210_30, s_210_31, s_210_34, s_210_35, s_210_36, s_210_39, s_210_42, s_210_43, s_210_44, s_210_47, s_210_50, s_210_51, s_210_52, s_210_53, s_210_56, s_210_57, s_210_58, s_210_59, s_210_62, s_210_65, s_210_66, amLong_I, amLong_R, amLong_N, amLong_L, cond_true, cond_false, Option.toList_some, Option.toList_none, List.cons_append, List.nil_append, List.append_nil, setE, setN, cpy_set, lit, nle, nlt, neq, inb_iff, cl_nI, tle, fle, tlt, flt, teq, feq, m9, m3, x9, x3, nI_add, nsub, upN, upE, b0', b01', r100, w100, r101, w101, r102, w102, r103, w103, r104, w104, r105, w105, r106, w106, r107, w107, r108, w108, w109, w110, r111, w111, r112, w112, r113, w113, r114, w114, r115, w115, r116, w116, r117, w117, r118, w118, r119, w119, w120, w121, r122, w122, r130, w130, w131, w132, r133, w133, r134, w134, r135, w135, r136, w136, r137, w137, r138, w138, r139, w139, r140, w140, r141, w141, w142, r143, w143, r144, w144, r145, w145, r146, w146, w147, w150, b1', em1, Bool.false_eq_true, not_true_eq_false, not_false_eq_true, false_implies, true_implies, and_true, true_and, if_true, if_false, implies_true, Classical.not_not, true_or, or_true, false_or, or_false, and_self, ite_true, ite_false, reduceIte, m172 hV1]
    exact H M1 i2
  · obtain ⟨rfl, i2⟩ := hI
    have hV1 : MV M1 sh pay tok := hV.of (fun k _ => i2 _ _ _ (by omega))
    rw [h_210_4]
    simp (disch := omega) only [s_210_0, s_210_1, s_210_2, s_210_3, s_210_5, s_210_6, s_210_9, s_210_12, s_210_13, s_210_15, s_210_17, s_210_20, s_210_21, s_210_24, s_210_25, s_210_26, s_210_27, s_210_30, s_210_31, s_210_34, s_210_35, s_210_36, s_210_39, s_210_42, s_210_43, s_210_44, s_210_47, s_210_50, s_210_51, s_210_52, s_210_53, s_210_56, s_210_57, s_210_58, s_210_59, s_210_62, s_210_65, s_210_66, amLong_I, amLong_R, amLong_N, amLong_L, cond_true, cond_false, Option.toList_some, Option.toList_none, List.cons_append, List.nil_append, List.append_nil, setE, setN, cpy_set, lit, nle, nlt, neq, inb_iff, cl_nI, tle, fle, tlt, flt, teq, feq, m9, m3, x9, x3, nI_add, nsub, upN, upE, b0', b01', r100, w100, r101, w101, r102, w102, r103, w103, r104, w104, r105, w105, r106, w106, r107, w107, r108, w108, w109, w110, r111, w111, r112, w112, r113, w113, r114, w114, r115, w115, r116, w116, r117, w117, r118, w118, r119, w119, w120, w121, r122, w122, r130, w130, w131, w132, r133, w133, r134, w134, r135, w135, r136, w136, r137, w137, r138, w138, r139, w139, r140, w140, r141, w141, w142, r143, w143, r144, w144, r145, w145, r146, w146, w147, w150, b1', em1, Bool.false_eq_true, not_true_eq_false, not_false_eq_true, false_implies, true_implies, and_true, true_and, if_true, if_false, implies_true, Classical.not_not, true_or, or_true, false_or, or_false, and_self, ite_true, ite_false, reduceIte, m172 hV1]
    refine lpH (T := Unit) (U := Unit) (P := 9) (E := fun k M1 J1 u x => Ev (d + 6) 210 14 [some (vR 12 (0)), some (vI (bfd (plB sh pay) p)), some (vI (nI p)), some (vI (nI k))] [] (M1, J1, (jk, 149, 147, X)) Q) (I := fun k M2 J1 _ => J = J1 ∧ (∀ c j k, c ≠ 134 → M2 c j k = M c j k) ∧ ∀ q, q < k → M2 134 0 q = if q = p then nI 1 else nI 0) (fun M2 J1 u x hI => ?_) (fun q M2 J1 u x hq hI next2 => ?_) 0 _ _ () () (by omega) ⟨rfl, i2, no_lt _⟩
    · obtain ⟨rfl, i3, i4⟩ := hI
      have hV2 : MV M2 sh pay tok := hV.of (fun k _ => i3 _ _ _ (by omega))
      have es : sndB sh pay (M2 134 0) = plB sh pay p := by
        rw [snd_tk (tk' := fun q => if q = p then nI 1 else nI 0) hV.1 i4]
        exact one_snd hV.1 hb hp (fun _ => rfl)
      have e : bfd (plB sh pay) (p + 1) = bfd (plB sh pay) p ||| (if plB sh pay p = true then nI 1 <<< (nI p &&& nI 31) else nI 0) := rfl
      rw [e] at next
      rw [h_210_14]
      simp (disch := omega) only [s_210_0, s_210_1, s_210_2, s_210_3, s_210_5, s_210_6, s_210_9, s_210_12, s_210_13, s_210_15, s_210_17, s_210_20, s_210_21, s_210_24, s_210_25, s_210_26, s_210_27, s_210_30, s_210_31, s_210_34, s_210_35, s_210_36, s_210_39, s_210_42, s_210_43, s_210_44, s_210_47, s_210_50, s_210_51, s_210_52, s_210_53, s_210_56, s_210_57, s_210_58, s_210_59, s_210_62, s_210_65, s_210_66, amLong_I, amLong_R, amLong_N, amLong_L, cond_true, cond_false, Option.toList_some, Option.toList_none, List.cons_append, List.nil_append, List.append_nil, setE, setN, cpy_set, lit, nle, nlt, neq, inb_iff, cl_nI, tle, fle, tlt, flt, teq, feq, m9, m3, x9, x3, nI_add, nsub, upN, upE, b0', b01', r100, w100, r101, w101, r102, w102, r103, w103, r104, w104, r105, w105, r106, w106, r107, w107, r108, w108, w109, w110, r111, w111, r112, w112, r113, w113, r114, w114, r115, w115, r116, w116, r117, w117, r118, w118, r119, w119, w120, w121, r122, w122, r130, w130, w131, w132, r133, w133, r134, w134, r135, w135, r136, w136, r137, w137, r138, w138, r139, w139, r140, w140, r141, w141, w142, r143, w143, r144, w144, r145, w145, r146, w146, w147, w150, b1', em1, Bool.false_eq_true, not_true_eq_false, not_false_eq_true, false_implies, true_implies, and_true, true_and, if_true, if_false, implies_true, Classical.not_not, true_or, or_true, false_or, or_false, and_self, ite_true, ite_false, reduceIte, m202 hV2, es]
      by_cases e1 : plB sh pay p = true
      · rw [if_pos e1] at next
        simp (disch := omega) only [setE, setN, cpy_set, lit, nle, nlt, neq, inb_iff, cl_nI, tle, fle, tlt, flt, teq, feq, m9, m3, x9, x3, nI_add, nsub, upN, upE, b0', b01', r100, w100, r101, w101, r102, w102, r103, w103, r104, w104, r105, w105, r106, w106, r107, w107, r108, w108, w109, w110, r111, w111, r112, w112, r113, w113, r114, w114, r115, w115, r116, w116, r117, w117, r118, w118, r119, w119, w120, w121, r122, w122, r130, w130, w131, w132, r133, w133, r134, w134, r135, w135, r136, w136, r137, w137, r138, w138, r139, w139, r140, w140, r141, w141, w142, r143, w143, r144, w144, r145, w145, r146, w146, w147, w150, b1', em1, Bool.false_eq_true, not_true_eq_false, not_false_eq_true, false_implies, true_implies, and_true, true_and, if_true, if_false, implies_true, Classical.not_not, true_or, or_true, false_or, or_false, and_self, ite_true, ite_false, reduceIte, e1]
        exact next _ _ _ () ⟨rfl, i3⟩
      · rw [if_neg e1] at next
        simp (disch := omega) only [setE, setN, cpy_set, lit, nle, nlt, neq, inb_iff, cl_nI, tle, fle, tlt, flt, teq, feq, m9, m3, x9, x3, nI_add, nsub, upN, upE, b0', b01', r100, w100, r101, w101, r102, w102, r103, w103, r104, w104, r105, w105, r106, w106, r107, w107, r108, w108, w109, w110, r111, w111, r112, w112, r113, w113, r114, w114, r115, w115, r116, w116, r117, w117, r118, w118, r119, w119, w120, w121, r122, w122, r130, w130, w131, w132, r133, w133, r134, w134, r135, w135, r136, w136, r137, w137, r138, w138, r139, w139, r140, w140, r141, w141, w142, r143, w143, r144, w144, r145, w145, r146, w146, w147, w150, b1', em1, Bool.false_eq_true, not_true_eq_false, not_false_eq_true, false_implies, true_implies, and_true, true_and, if_true, if_false, implies_true, Classical.not_not, true_or, or_true, false_or, or_false, and_self, ite_true, ite_false, reduceIte, e1]
        exact next _ _ _ () ⟨rfl, i3⟩
    · obtain ⟨rfl, i3, i4⟩ := hI
      rw [h_210_14]
      by_cases e1 : q = p
      · subst e1
        simp (disch := omega) only [s_210_0, s_210_1, s_210_2, s_210_3, s_210_5, s_210_6, s_210_9, s_210_12, s_210_13, s_210_15, s_210_17, s_210_20, s_210_21, s_210_24, s_210_25, s_210_26, s_210_27, s_210_30, s_210_31, s_210_34, s_210_35, s_210_36, s_210_39, s_210_42, s_210_43, s_210_44, s_210_47, s_210_50, s_210_51, s_210_52, s_210_53, s_210_56, s_210_57, s_210_58, s_210_59, s_210_62, s_210_65, s_210_66, amLong_I, amLong_R, amLong_N, amLong_L, cond_true, cond_false, Option.toList_some, Option.toList_none, List.cons_append, List.nil_append, List.append_nil, setE, setN, cpy_set, lit, nle, nlt, neq, inb_iff, cl_nI, tle, fle, tlt, flt, teq, feq, m9, m3, x9, x3, nI_add, nsub, upN, upE, b0', b01', r100, w100, r101, w101, r102, w102, r103, w103, r104, w104, r105, w105, r106, w106, r107, w107, r108, w108, w109, w110, r111, w111, r112, w112, r113, w113, r114, w114, r115, w115, r116, w116, r117, w117, r118, w118, r119, w119, w120, w121, r122, w122, r130, w130, w131, w132, r133, w133, r134, w134, r135, w135, r136, w136, r137, w137, r138, w138, r139, w139, r140, w140, r141, w141, w142, r143, w143, r144, w144, r145, w145, r146, w146, w147, w150, b1', em1, Bool.false_eq_true, not_true_eq_false, not_false_eq_true, false_implies, true_implies, and_true, true_and, if_true, if_false, implies_true, Classical.not_not, true_or, or_true, false_or, or_false, and_self, ite_true, ite_false, reduceIte]
        refine next2 _ _ () () ⟨rfl, fun c j k h => ?_, fun r hr => ?_⟩
        · rw [upN (by omega), i3 c j k h]
        · by_cases e2 : r = q
          · rw [upE ⟨rfl, rfl, e2⟩, if_pos e2]
          · rw [upN (by omega), i4 r (by omega)]
      · simp (disch := omega) only [s_210_0, s_210_1, s_210_2, s_210_3, s_210_5, s_210_6, s_210_9, s_210_12, s_210_13, s_210_15, s_210_17, s_210_20, s_210_21, s_210_24, s_210_25, s_210_26, s_210_27, s_210_30, s_210_31, s_210_34, s_210_35, s_210_36, s_210_39, s_210_42, s_210_43, s_210_44, s_210_47, s_210_50, s_210_51, s_210_52, s_210_53, s_210_56, s_210_57, s_210_58, s_210_59, s_210_62, s_210_65, s_210_66, amLong_I, amLong_R, amLong_N, amLong_L, cond_true, cond_false, Option.toList_some, Option.toList_none, List.cons_append, List.nil_append, List.append_nil, setE, setN, cpy_set, lit, nle, nlt, neq, inb_iff, cl_nI, tle, fle, tlt, flt, teq, feq, m9, m3, x9, x3, nI_add, nsub, upN, upE, b0', b01', r100, w100, r101, w101, r102, w102, r103, w103, r104, w104, r105, w105, r106, w106, r107, w107, r108, w108, w109, w110, r111, w111, r112, w112, r113, w113, r114, w114, r115, w115, r116, w116, r117, w117, r118, w118, r119, w119, w120, w121, r122, w122, r130, w130, w131, w132, r133, w133, r134, w134, r135, w135, r136, w136, r137, w137, r138, w138, r139, w139, r140, w140, r141, w141, w142, r143, w143, r144, w144, r145, w145, r146, w146, w147, w150, b1', em1, Bool.false_eq_true, not_true_eq_false, not_false_eq_true, false_implies, true_implies, and_true, true_and, if_true, if_false, implies_true, Classical.not_not, true_or, or_true, false_or, or_false, and_self, ite_true, ite_false, reduceIte, e1]
        refine next2 _ _ () () ⟨rfl, fun c j k h => ?_, fun r hr => ?_⟩
        · rw [upN (by omega), i3 c j k h]
        · by_cases e2 : r = q
          · rw [upE ⟨rfl, rfl, e2⟩, if_neg (fun z => e1 (by omega))]
          · rw [upN (by omega), i4 r (by omega)]
theorem m211p (h9 : prf sh ≤ 9) : Call (d + 1) 211 [vI (plF sh pay)] (M, J, (jk, 149, 147, X)) Q ↔ Q (some (vI (nI (cnt (plB sh pay) (prf sh))))) (M, J, (jk, 149, 147, X)) := by
  obtain ⟨h1, h2⟩ := bfd_bn (f := plB sh pay) (prf sh) h9
  unfold plF
  rw [h1, m211 (bn_512 h9), h2]
theorem n209 {A : Sta} (hR : RM M J A) (hW : WF A) (H : ∀ M1 J1, RM M1 J1 (o14 A).2 → FM M M1 → FMJ J J1 → Q (some (vI (o14 A).1)) (M1, J1, (jk, 149, 147, X))) : Call (d + 8) 209 [vR 12 0] (M, J, (jk, 149, 147, X)) Q := by
  have hV0 := (thr (x := nI 0)).v (hR.v hW)
  obtain ⟨⟨sh, pay, tok⟩, U, S, x, r⟩ := A
  dsimp only at hV0
  obtain ⟨⟨l1, l2, l3, l4⟩, l5⟩ := sh_ok sh hV0.1
  unfold o14 at H
  dsimp only at H
  have hc : ∀ {M' : amM} {J' : amJ} {Q' : Option amV → amS → Prop}, Call (d + 7) 211 [vI (plF sh pay)] (M', J', (jk, 149, 147, X)) Q' ↔ Q' (some (vI (nI (cnt (plB sh pay) (prf sh))))) (M', J', (jk, 149, 147, X)) := m211p l4
  rw [e_209]
  simp (disch := omega) only [s_209_0, s_209_1, s_209_2, s_209_5, s_209_6, s_209_9, s_209_10, s_209_11, s_209_12, s_209_15, s_209_16, s_209_18, s_209_19, s_209_22, s_209_25, s_209_26, s_209_27, s_209_28, s_209_29, s_209_30, s_209_33, s_209_36, s_209_37, s_209_38, s_209_39, s_209_43, s_209_44, s_209_47, s_209_48, s_209_49, s_209_52, s_209_53, s_209_54, s_209_56, s_209_57, s_209_60, s_209_61, s_209_62, s_209_65, s_209_68, s_209_69, s_209_70, s_209_71, s_209_74, s_209_75, s_209_76, s_209_77, s_209_80, s_209_83, s_209_86, s_209_87, s_209_90, amLong_I, amLong_R, amLong_N, amLong_L, cond_true, cond_false, Option.toList_some, Option.toList_none, List.cons_append, List.nil_append, List.append_nil, setE, setN, cpy_set, lit, nle, nlt, neq, inb_iff, cl_nI, tle, fle, tlt, flt, teq, feq, m9, m3, x9, x3, nI_add, nsub, upN, upE, b0', b01', r100, w100, r101, w101, r102, w102, r103, w103, r104, w104, r105, w105, r106, w106, r107, w107, r108, w108, w109, w110, r111, w111, r112, w112, r113, w113, r114, w114, r115, w115, r116, w116, r117, w117, r118, w118, r119, w119, w120, w121, r122, w122, r130, w130, w131, w132, r133, w133, r134, w134, r135, w135, r136, w136, r137, w137, r138, w138, r139, w139, r140, w140, r141, w141, w142, r143, w143, r144, w144, r145, w145, r146, w146, w147, w150, b1', em1, Bool.false_eq_true, not_true_eq_false, not_false_eq_true, false_implies, true_implies, and_true, true_and, if_true, if_false, implies_true, Classical.not_not, true_or, or_true, false_or, or_false, and_self, ite_true, ite_false, reduceIte]
  refine m210 hV0 hW.1.2.1 (fun M0 h1 => ?_)
  have hK : Kp M M0 := thr.trans (fun c j k hc => h1 c j k (by unfold Sc at hc; omega))
  have hVa : MV M0 sh pay tok := hV0.of (fun k _ => h1 _ _ _ (by omega))
  generalize plF sh pay = b at *
  simp (disch := omega) only [s_209_0, s_209_1, s_209_2, s_209_5, s_209_6, s_209_9, s_209_10, s_209_11, s_209_12, s_209_15, s_209_16, s_209_18, s_209_19, s_209_22, s_209_25, s_209_26, s_209_27, s_209_28, s_209_29, s_209_30, s_209_33, s_209_36, s_209_37, s_209_38, s_209_39, s_209_43, s_209_44, s_209_47, s_209_48, s_209_49, s_209_52, s_209_53, s_209_54, s_209_56, s_209_57, s_209_60, s_209_61, s_209_62, s_209_65, s_209_68, s_209_69, s_209_70, s_209_71, s_209_74, s_209_75, s_209_76, s_209_77, s_209_80, s_209_83, s_209_86, s_209_87, s_209_90, amLong_I, amLong_R, amLong_N, amLong_L, cond_true, cond_false, Option.toList_some, Option.toList_none, List.cons_append, List.nil_append, List.append_nil, setE, setN, cpy_set, lit, nle, nlt, neq, inb_iff, cl_nI, tle, fle, tlt, flt, teq, feq, m9, m3, x9, x3, nI_add, nsub, upN, upE, b0', b01', r100, w100, r101, w101, r102, w102, r103, w103, r104, w104, r105, w105, r106, w106, r107, w107, r108, w108, w109, w110, r111, w111, r112, w112, r113, w113, r114, w114, r115, w115, r116, w116, r117, w117, r118, w118, r119, w119, w120, w121, r122, w122, r130, w130, w131, w132, r133, w133, r134, w134, r135, w135, r136, w136, r137, w137, r138, w138, r139, w139, r140, w140, r141, w141, w142, r143, w143, r144, w144, r145, w145, r146, w146, w147, w150, b1', em1, Bool.false_eq_true, not_true_eq_false, not_false_eq_true, false_implies, true_implies, and_true, true_and, if_true, if_false, implies_true, Classical.not_not, true_or, or_true, false_or, or_false, and_self, ite_true, ite_false, reduceIte]
  refine lpH (T := Unit) (U := Option amV × Option amV) (P := prf sh) (E := fun k M1 J1 u x => Ev (d + 7) 209 17 [some (vR 12 (0)), some (vI (b)), some (vI (nI k)), u.1, u.2] [] (M1, J1, (jk, 149, 147, X)) Q) (I := fun k M1 J1 _ => MRo M0 M1 J J1 (plR sh pay b k)) (fun M1 J1 u x hI => ?_) (fun p M1 J1 u x hp hI next => ?_) 0 _ _ (none, none) () (by omega) MRo0
  · have hV2 := hI.v hVa
    rw [h_209_17]
    simp (disch := omega) only [s_209_0, s_209_1, s_209_2, s_209_5, s_209_6, s_209_9, s_209_10, s_209_11, s_209_12, s_209_15, s_209_16, s_209_18, s_209_19, s_209_22, s_209_25, s_209_26, s_209_27, s_209_28, s_209_29, s_209_30, s_209_33, s_209_36, s_209_37, s_209_38, s_209_39, s_209_43, s_209_44, s_209_47, s_209_48, s_209_49, s_209_52, s_209_53, s_209_54, s_209_56, s_209_57, s_209_60, s_209_61, s_209_62, s_209_65, s_209_68, s_209_69, s_209_70, s_209_71, s_209_74, s_209_75, s_209_76, s_209_77, s_209_80, s_209_83, s_209_86, s_209_87, s_209_90, amLong_I, amLong_R, amLong_N, amLong_L, cond_true, cond_false, Option.toList_some, Option.toList_none, List.cons_append, List.nil_append, List.append_nil, setE, setN, cpy_set, lit, nle, nlt, neq, inb_iff, cl_nI, tle, fle, tlt, flt, teq, feq, m9, m3, x9, x3, nI_add, nsub, upN, upE, b0', b01', r100, w100, r101, w101, r102, w102, r103, w103, r104, w104, r105, w105, r106, w106, r107, w107, r108, w108, w109, w110, r111, w111, r112, w112, r113, w113, r114, w114, r115, w115, r116, w116, r117, w117, r118, w118, r119, w119, w120, w121, r122, w122, r130, w130, w131, w132, r133, w133, r134, w134, r135, w135, r136, w136, r137, w137, r138, w138, r139, w139, r140, w140, r141, w141, w142, r143, w143, r144, w144, r145, w145, r146, w146, w147, w150, b1', em1, Bool.false_eq_true, not_true_eq_false, not_false_eq_true, false_implies, true_implies, and_true, true_and, if_true, if_false, implies_true, Classical.not_not, true_or, or_true, false_or, or_false, and_self, ite_true, ite_false, reduceIte, m172 hV2, hc]
    exact H M1 J1 (hR.w hK hI) (hK.fm.o hI) hI.j
  · have hV2 := hI.v hVa
    have hl := plR_len (sh := sh) (pay := pay) (b := b) p
    have e : plR sh pay b (p + 1) = if (b >>> (nI p &&& nI 31)) &&& nI 1 = nI 0 then plR sh pay b p else plR sh pay b p ++ [nI p] ++ [wat sh pay p] := rfl
    rw [e] at next
    rw [h_209_17]
    by_cases e1 : (b >>> (nI p &&& nI 31)) &&& nI 1 = nI 0
    · rw [if_pos e1] at next
      simp (disch := omega) only [s_209_0, s_209_1, s_209_2, s_209_5, s_209_6, s_209_9, s_209_10, s_209_11, s_209_12, s_209_15, s_209_16, s_209_18, s_209_19, s_209_22, s_209_25, s_209_26, s_209_27, s_209_28, s_209_29, s_209_30, s_209_33, s_209_36, s_209_37, s_209_38, s_209_39, s_209_43, s_209_44, s_209_47, s_209_48, s_209_49, s_209_52, s_209_53, s_209_54, s_209_56, s_209_57, s_209_60, s_209_61, s_209_62, s_209_65, s_209_68, s_209_69, s_209_70, s_209_71, s_209_74, s_209_75, s_209_76, s_209_77, s_209_80, s_209_83, s_209_86, s_209_87, s_209_90, amLong_I, amLong_R, amLong_N, amLong_L, cond_true, cond_false, Option.toList_some, Option.toList_none, List.cons_append, List.nil_append, List.append_nil, setE, setN, cpy_set, lit, nle, nlt, neq, inb_iff, cl_nI, tle, fle, tlt, flt, teq, feq, m9, m3, x9, x3, nI_add, nsub, upN, upE, b0', b01', r100, w100, r101, w101, r102, w102, r103, w103, r104, w104, r105, w105, r106, w106, r107, w107, r108, w108, w109, w110, r111, w111, r112, w112, r113, w113, r114, w114, r115, w115, r116, w116, r117, w117, r118, w118, r119, w119, w120, w121, r122, w122, r130, w130, w131, w132, r133, w133, r134, w134, r135, w135, r136, w136, r137, w137, r138, w138, r139, w139, r140, w140, r141, w141, w142, r143, w143, r144, w144, r145, w145, r146, w146, w147, w150, b1', em1, Bool.false_eq_true, not_true_eq_false, not_false_eq_true, false_implies, true_implies, and_true, true_and, if_true, if_false, implies_true, Classical.not_not, true_or, or_true, false_or, or_false, and_self, ite_true, ite_false, reduceIte, m172 hV2, e1]
      exact next _ _ (_, _) () hI
    · rw [if_neg e1] at next
      simp (disch := omega) only [s_209_0, s_209_1, s_209_2, s_209_5, s_209_6, s_209_9, s_209_10, s_209_11, s_209_12, s_209_15, s_209_16, s_209_18, s_209_19, s_209_22, s_209_25, s_209_26, s_209_27, s_209_28, s_209_29, s_209_30, s_209_33, s_209_36, s_209_37, s_209_38, s_209_39, s_209_43, s_209_44, s_209_47, s_209_48, s_209_49, s_209_52, s_209_53, s_209_54, s_209_56, s_209_57, s_209_60, s_209_61, s_209_62, s_209_65, s_209_68, s_209_69, s_209_70, s_209_71, s_209_74, s_209_75, s_209_76, s_209_77, s_209_80, s_209_83, s_209_86, s_209_87, s_209_90, amLong_I, amLong_R, amLong_N, amLong_L, cond_true, cond_false, Option.toList_some, Option.toList_none, List.cons_append, List.nil_append, List.append_nil, setE, setN, cpy_set, lit, nle, nlt, neq, inb_iff, cl_nI, tle, fle, tlt, flt, teq, feq, m9, m3, x9, x3, nI_add, nsub, upN, upE, b0', b01', r100, w100, r101, w101, r102, w102, r103, w103, r104, w104, r105, w105, r106, w106, r107, w107, r108, w108, w109, w110, r111, w111, r112, w112, r113, w113, r114, w114, r115, w115, r116, w116, r117, w117, r118, w118, r119, w119, w120, w121, r122, w122, r130, w130, w131, w132, r133, w133, r134, w134, r135, w135, r136, w136, r137, w137, r138, w138, r139, w139, r140, w140, r141, w141, w142, r143, w143, r144, w144, r145, w145, r146, w146, w147, w150, b1', em1, Bool.false_eq_true, not_true_eq_false, not_false_eq_true, false_implies, true_implies, and_true, true_and, if_true, if_false, implies_true, Classical.not_not, true_or, or_true, false_or, or_false, and_self, ite_true, ite_false, reduceIte, m172 hV2, e1]
      refine lpH (T := Unit) (U := Unit) (P := plr sh) (E := fun k M1 J1 u x => Ev (d + 7) 209 41 [some (vR 12 (0)), some (vI (b)), some (vI (nI p)), some (vI (sumN (fun i => pay (9 * i + p)) 0 k)), some (vI (nI k))] [] (M1, J1, (jk, 149, 147, X)) Q) (I := fun k M' J' _ => M1 = M' ∧ J1 = J') (fun M' J' u x hI2 => ?_) (fun i M' J' u x hi hI2 next2 => ?_) 0 _ _ () () (by omega) ⟨rfl, rfl⟩
      · obtain ⟨rfl, rfl⟩ := hI2
        rw [h_209_41]
        simp (disch := omega) only [s_209_0, s_209_1, s_209_2, s_209_5, s_209_6, s_209_9, s_209_10, s_209_11, s_209_12, s_209_15, s_209_16, s_209_18, s_209_19, s_209_22, s_209_25, s_209_26, s_209_27, s_209_28, s_209_29, s_209_30, s_209_33, s_209_36, s_209_37, s_209_38, s_209_39, s_209_43, s_209_44, s_209_47, s_209_48, s_209_49, s_209_52, s_209_53, s_209_54, s_209_56, s_209_57, s_209_60, s_209_61, s_209_62, s_209_65, s_209_68, s_209_69, s_209_70, s_209_71, s_209_74, s_209_75, s_209_76, s_209_77, s_209_80, s_209_83, s_209_86, s_209_87, s_209_90, amLong_I, amLong_R, amLong_N, amLong_L, cond_true, cond_false, Option.toList_some, Option.toList_none, List.cons_append, List.nil_append, List.append_nil, setE, setN, cpy_set, lit, nle, nlt, neq, inb_iff, cl_nI, tle, fle, tlt, flt, teq, feq, m9, m3, x9, x3, nI_add, nsub, upN, upE, b0', b01', r100, w100, r101, w101, r102, w102, r103, w103, r104, w104, r105, w105, r106, w106, r107, w107, r108, w108, w109, w110, r111, w111, r112, w112, r113, w113, r114, w114, r115, w115, r116, w116, r117, w117, r118, w118, r119, w119, w120, w121, r122, w122, r130, w130, w131, w132, r133, w133, r134, w134, r135, w135, r136, w136, r137, w137, r138, w138, r139, w139, r140, w140, r141, w141, w142, r143, w143, r144, w144, r145, w145, r146, w146, w147, w150, b1', em1, Bool.false_eq_true, not_true_eq_false, not_false_eq_true, false_implies, true_implies, and_true, true_and, if_true, if_false, implies_true, Classical.not_not, true_or, or_true, false_or, or_false, and_self, ite_true, ite_false, reduceIte, hV2.2.1]
        refine m177 hI (by omega) (fun M3 J3 h3 => ?_)
        simp (disch := omega) only [s_209_0, s_209_1, s_209_2, s_209_5, s_209_6, s_209_9, s_209_10, s_209_11, s_209_12, s_209_15, s_209_16, s_209_18, s_209_19, s_209_22, s_209_25, s_209_26, s_209_27, s_209_28, s_209_29, s_209_30, s_209_33, s_209_36, s_209_37, s_209_38, s_209_39, s_209_43, s_209_44, s_209_47, s_209_48, s_209_49, s_209_52, s_209_53, s_209_54, s_209_56, s_209_57, s_209_60, s_209_61, s_209_62, s_209_65, s_209_68, s_209_69, s_209_70, s_209_71, s_209_74, s_209_75, s_209_76, s_209_77, s_209_80, s_209_83, s_209_86, s_209_87, s_209_90, amLong_I, amLong_R, amLong_N, amLong_L, cond_true, cond_false, Option.toList_some, Option.toList_none, List.cons_append, List.nil_append, List.append_nil, setE, setN, cpy_set, lit, nle, nlt, neq, inb_iff, cl_nI, tle, fle, tlt, flt, teq, feq, m9, m3, x9, x3, nI_add, nsub, upN, upE, b0', b01', r100, w100, r101, w101, r102, w102, r103, w103, r104, w104, r105, w105, r106, w106, r107, w107, r108, w108, w109, w110, r111, w111, r112, w112, r113, w113, r114, w114, r115, w115, r116, w116, r117, w117, r118, w118, r119, w119, w120, w121, r122, w122, r130, w130, w131, w132, r133, w133, r134, w134, r135, w135, r136, w136, r137, w137, r138, w138, r139, w139, r140, w140, r141, w141, w142, r143, w143, r144, w144, r145, w145, r146, w146, w147, w150, b1', em1, Bool.false_eq_true, not_true_eq_false, not_false_eq_true, false_implies, true_implies, and_true, true_and, if_true, if_false, implies_true, Classical.not_not, true_or, or_true, false_or, or_false, and_self, ite_true, ite_false, reduceIte]
        refine m177 h3 (by rw [len1]; omega) (fun M4 J4 h4 => ?_)
        simp (disch := omega) only [s_209_0, s_209_1, s_209_2, s_209_5, s_209_6, s_209_9, s_209_10, s_209_11, s_209_12, s_209_15, s_209_16, s_209_18, s_209_19, s_209_22, s_209_25, s_209_26, s_209_27, s_209_28, s_209_29, s_209_30, s_209_33, s_209_36, s_209_37, s_209_38, s_209_39, s_209_43, s_209_44, s_209_47, s_209_48, s_209_49, s_209_52, s_209_53, s_209_54, s_209_56, s_209_57, s_209_60, s_209_61, s_209_62, s_209_65, s_209_68, s_209_69, s_209_70, s_209_71, s_209_74, s_209_75, s_209_76, s_209_77, s_209_80, s_209_83, s_209_86, s_209_87, s_209_90, amLong_I, amLong_R, amLong_N, amLong_L, cond_true, cond_false, Option.toList_some, Option.toList_none, List.cons_append, List.nil_append, List.append_nil, setE, setN, cpy_set, lit, nle, nlt, neq, inb_iff, cl_nI, tle, fle, tlt, flt, teq, feq, m9, m3, x9, x3, nI_add, nsub, upN, upE, b0', b01', r100, w100, r101, w101, r102, w102, r103, w103, r104, w104, r105, w105, r106, w106, r107, w107, r108, w108, w109, w110, r111, w111, r112, w112, r113, w113, r114, w114, r115, w115, r116, w116, r117, w117, r118, w118, r119, w119, w120, w121, r122, w122, r130, w130, w131, w132, r133, w133, r134, w134, r135, w135, r136, w136, r137, w137, r138, w138, r139, w139, r140, w140, r141, w141, w142, r143, w143, r144, w144, r145, w145, r146, w146, w147, w150, b1', em1, Bool.false_eq_true, not_true_eq_false, not_false_eq_true, false_implies, true_implies, and_true, true_and, if_true, if_false, implies_true, Classical.not_not, true_or, or_true, false_or, or_false, and_self, ite_true, ite_false, reduceIte]
        exact next _ _ (_, _) () h4
      · obtain ⟨rfl, rfl⟩ := hI2
        rw [sum_s] at next2
        rw [h_209_41]
        simp (disch := omega) only [s_209_0, s_209_1, s_209_2, s_209_5, s_209_6, s_209_9, s_209_10, s_209_11, s_209_12, s_209_15, s_209_16, s_209_18, s_209_19, s_209_22, s_209_25, s_209_26, s_209_27, s_209_28, s_209_29, s_209_30, s_209_33, s_209_36, s_209_37, s_209_38, s_209_39, s_209_43, s_209_44, s_209_47, s_209_48, s_209_49, s_209_52, s_209_53, s_209_54, s_209_56, s_209_57, s_209_60, s_209_61, s_209_62, s_209_65, s_209_68, s_209_69, s_209_70, s_209_71, s_209_74, s_209_75, s_209_76, s_209_77, s_209_80, s_209_83, s_209_86, s_209_87, s_209_90, amLong_I, amLong_R, amLong_N, amLong_L, cond_true, cond_false, Option.toList_some, Option.toList_none, List.cons_append, List.nil_append, List.append_nil, setE, setN, cpy_set, lit, nle, nlt, neq, inb_iff, cl_nI, tle, fle, tlt, flt, teq, feq, m9, m3, x9, x3, nI_add, nsub, upN, upE, b0', b01', r100, w100, r101, w101, r102, w102, r103, w103, r104, w104, r105, w105, r106, w106, r107, w107, r108, w108, w109, w110, r111, w111, r112, w112, r113, w113, r114, w114, r115, w115, r116, w116, r117, w117, r118, w118, r119, w119, w120, w121, r122, w122, r130, w130, w131, w132, r133, w133, r134, w134, r135, w135, r136, w136, r137, w137, r138, w138, r139, w139, r140, w140, r141, w141, w142, r143, w143, r144, w144, r145, w145, r146, w146, w147, w150, b1', em1, Bool.false_eq_true, not_true_eq_false, not_false_eq_true, false_implies, true_implies, and_true, true_and, if_true, if_false, implies_true, Classical.not_not, true_or, or_true, false_or, or_false, and_self, ite_true, ite_false, reduceIte, hV2.2.1, m178 hV2]
        exact next2 _ _ () () ⟨rfl, rfl⟩
end PLANS
