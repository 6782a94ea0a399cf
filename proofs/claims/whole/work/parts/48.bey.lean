/-! beyond, mends -/
theorem bt_add {n x p : Nat} (hn : n < 9) (hx : x < 2 ^ n) (hp : p < 9) : bt (x + 2 ^ n) p = if p = n then 1 else bt x p := by
  have h : (List.range 9).all (fun n => (List.range (2 ^ n)).all (fun x => (List.range 9).all (fun p => decide (bt (x + 2 ^ n) p = if p = n then 1 else bt x p)))) = true := by decide +kernel
  exact of_decide_eq_true (List.all_eq_true.mp (List.all_eq_true.mp (List.all_eq_true.mp h n (List.mem_range.mpr hn)) x (List.mem_range.mpr hx)) p (List.mem_range.mpr hp))
theorem bt_out {n x p : Nat} (hn : n < 9) (hx : x < 2 ^ n) (hp : p < 9) (h : n ≤ p) : bt x p = 0 := by
  unfold bt
  have : x / 2 ^ p = 0 := Nat.div_eq_of_lt (Nat.lt_of_lt_of_le hx (Nat.pow_le_pow_right (by decide) h))
  rw [this]
theorem bt_bn {f : Nat → Bool} {p : Nat} (hp : p < 9) : ∀ n, n ≤ 9 → bt (bn f n) p = if p < n ∧ f p = true then 1 else 0
  | 0, _ => by
    rw [if_neg (by omega)]
    show bt 0 p = 0
    unfold bt
    rw [Nat.zero_div]
  | n + 1, h => by
    have ih := bt_bn (f := f) hp n (by omega)
    have hl := bn_lt (f := f) n
    show bt (bn f n + (if f n = true then 2 ^ n else 0)) p = _
    by_cases e : f n = true
    · rw [if_pos e, bt_add (by omega) hl hp]
      by_cases e2 : p = n
      · rw [if_pos e2, if_pos ⟨by omega, by rw [e2]; exact e⟩]
      · rw [if_neg e2, ih]
        by_cases e3 : p < n ∧ f p = true
        · rw [if_pos e3, if_pos ⟨by omega, e3.2⟩]
        · rw [if_neg e3, if_neg (fun z => e3 ⟨by omega, z.2⟩)]
    · rw [if_neg e, Nat.add_zero, ih]
      by_cases e3 : p < n ∧ f p = true
      · rw [if_pos e3, if_pos ⟨by omega, e3.2⟩]
      · rw [if_neg e3, if_neg (fun z => e3 ⟨by have : p ≠ n := fun y => e (y ▸ z.2); omega, z.2⟩)]
theorem shr9 {x p : Nat} (hx : x < 512) (hp : p < 9) : (nI x >>> (nI p &&& nI 31)) &&& nI 1 = nI (bt x p) := by
  have h : (List.range 512).all (fun x => (List.range 9).all (fun p => decide ((nI x >>> (nI p &&& nI 31)) &&& nI 1 = nI (bt x p)))) = true := by decide +kernel
  exact of_decide_eq_true (List.all_eq_true.mp (List.all_eq_true.mp h x (List.mem_range.mpr hx)) p (List.mem_range.mpr hp))
theorem land0 {a b : Nat} (ha : a < 512) (hb : b < 512) : (nI a &&& nI b = nI 0) ↔ ∀ p, p < 9 → ¬ (bt a p = 1 ∧ bt b p = 1) := by
  have e1 : (nI a &&& nI b).toBitVec.toNat = a &&& b := by
    rw [Int32.toBitVec_and, BitVec.toNat_and, pk_tn (by omega), pk_tn (by omega)]
  have e2 : (nI a &&& nI b = nI 0) ↔ a &&& b = 0 := by
    constructor
    · intro h
      rw [← e1, h]
      rfl
    · intro h
      refine Int32.toBitVec_inj.mp (BitVec.eq_of_toNat_eq ?_)
      rw [e1, h]
      rfl
  rw [e2]
  constructor
  · intro h p hp z
    have h1 : (a &&& b).testBit p = false := by rw [h]; exact Nat.zero_testBit p
    rw [Nat.testBit_and, Nat.testBit_eq_decide_div_mod_eq, Nat.testBit_eq_decide_div_mod_eq, decide_eq_true (p := a / 2 ^ p % 2 = 1) z.1, decide_eq_true (p := b / 2 ^ p % 2 = 1) z.2] at h1
    cases h1
  · intro h
    refine Nat.eq_of_testBit_eq (fun p => ?_)
    rw [Nat.zero_testBit, Nat.testBit_and, Nat.testBit_eq_decide_div_mod_eq, Nat.testBit_eq_decide_div_mod_eq]
    by_cases hp : p < 9
    · have h1 := h p hp
      by_cases z1 : bt a p = 1
      · have z2 : ¬ bt b p = 1 := fun z => h1 ⟨z1, z⟩
        rw [decide_eq_false (p := b / 2 ^ p % 2 = 1) z2, Bool.and_false]
      · rw [decide_eq_false (p := a / 2 ^ p % 2 = 1) z1, Bool.false_and]
    · have h2 : a / 2 ^ p = 0 := Nat.div_eq_of_lt (Nat.lt_of_lt_of_le ha (Nat.pow_le_pow_right (n := 2) (by decide) (show 9 ≤ p by omega)))
      rw [h2, decide_eq_false (p := 0 % 2 = 1) (by decide), Bool.false_and]
/-- no tokens on plans -/
def byd (sh : Nat) (pay : Nat → Int32) (a : List Nat) : Prop := tks sh (plF sh pay) (tf a) = nI 0
theorem tks_iff {sh : Nat} {pay : Nat → Int32} {a : List Nat} (h5 : sh < 5) (h6 : lsum a ≤ 6) : byd sh pay a ↔ ∀ p, p < prf sh → plB sh pay p = true → gt a p = 0 := by
  obtain ⟨l1, l2, l3, l4⟩ := (sh_ok sh h5).1
  have hv : ∀ p, p < prf sh → (if (plF sh pay >>> (nI p &&& nI 31)) &&& nI 1 = nI 0 then nI 0 else tf a p) = if plB sh pay p = true then nI (gt a p) else nI 0 := by
    intro p hp
    unfold plF
    rw [(bfd_bn (prf sh) l4).1, shr9 (bn_512 l4) (by omega), bt_bn (by omega) _ l4]
    by_cases e : plB sh pay p = true
    · rw [if_pos (show p < prf sh ∧ plB sh pay p = true from ⟨hp, e⟩), if_neg (show ¬ nI 1 = nI 0 by decide), if_pos e]
      rfl
    · rw [if_neg (show ¬ (p < prf sh ∧ plB sh pay p = true) from fun z => e z.2), if_pos (show nI 0 = nI 0 from rfl), if_neg e]
  unfold byd tks
  rw [sum_tk hv]
  have hb : ∀ p, p < prf sh → 0 ≤ (if plB sh pay p = true then nI (gt a p) else nI 0).toInt ∧ (if plB sh pay p = true then nI (gt a p) else nI 0).toInt ≤ 12 := by
    intro p hp
    have := gt_le a p
    by_cases e : plB sh pay p = true
    · rw [if_pos e, nI_toInt (by omega)]
      omega
    · rw [if_neg e]
      decide
  obtain ⟨h1, -, -⟩ := sum_int (f := fun p => if plB sh pay p = true then nI (gt a p) else nI 0) (P := prf sh) l4 (fun p hp => by have := hb p hp; omega) (prf sh) (Nat.le_refl _)
  obtain ⟨-, h2⟩ := sumZ_nn (f := fun p => (if plB sh pay p = true then nI (gt a p) else nI 0).toInt) (prf sh) (fun p hp => (hb p hp).1)
  rw [← Int32.toInt_inj, h1, show (nI 0).toInt = 0 from rfl, h2]
  constructor
  · intro h p hp e
    have h3 := h p hp
    have := gt_le a p
    rw [if_pos e, nI_toInt (by omega)] at h3
    omega
  · intro h p hp
    by_cases e : plB sh pay p = true
    · rw [if_pos e, h p hp e]
      rfl
    · rw [if_neg e]
      rfl
theorem used_iff {sh : Nat} {pay : Nat → Int32} {a : List Nat} (h5 : sh < 5) (h6 : lsum a ≤ 6) : (bfd (usd a) (prf sh) &&& plF sh pay = nI 0) ↔ byd sh pay a := by
  obtain ⟨l1, l2, l3, l4⟩ := (sh_ok sh h5).1
  rw [tks_iff h5 h6]
  unfold plF
  rw [(bfd_bn (prf sh) l4).1, (bfd_bn (prf sh) l4).1, land0 (bn_512 l4) (bn_512 l4)]
  constructor
  · intro h p hp e
    have h1 := h p (by omega)
    rw [bt_bn (by omega) _ l4, bt_bn (by omega) _ l4, if_pos (show p < prf sh ∧ plB sh pay p = true from ⟨hp, e⟩)] at h1
    by_cases e2 : usd a p = true
    · rw [if_pos ⟨hp, e2⟩] at h1
      exact absurd ⟨rfl, rfl⟩ h1
    · unfold usd at e2
      rw [decide_eq_true_iff] at e2
      omega
  · intro h p hp z
    rw [bt_bn hp _ l4, bt_bn hp _ l4] at z
    by_cases e1 : p < prf sh ∧ plB sh pay p = true
    · by_cases e2 : p < prf sh ∧ usd a p = true
      · have := h p e1.1 e1.2
        have e3 := e2.2
        unfold usd at e3
        rw [decide_eq_true_iff] at e3
        omega
      · rw [if_neg e2] at z
        omega
    · rw [if_neg e1] at z
      omega
noncomputable def byC (sh : Nat) (pay : Nat → Int32) : List (List Nat) → Nat
  | [] => 0
  | a :: l => (if bo (byd sh pay a) = true then 1 else 0) + byC sh pay l
theorem byC_le {sh : Nat} {pay : Nat → Int32} : ∀ l, byC sh pay l ≤ l.length
  | [] => Nat.le_refl 0
  | a :: l => by
    have := byC_le (sh := sh) (pay := pay) l
    show (if bo (byd sh pay a) = true then 1 else 0) + byC sh pay l ≤ l.length + 1
    split <;> omega
noncomputable def byO (sh : Nat) (pay : Nat → Int32) : Nat → Nat → Option (Nat × Nat)
  | 0, _ => none
  | f + 1, n => if byC sh pay (LST sh pay n) = 0 then byO sh pay f (n + 1) else some (n, byC sh pay (LST sh pay n))
section BEY
variable {d g t jk X sh : Nat} {M M1 M2 : amM} {J J1 J2 : amJ} {Q : Option amV → amS → Prop} {pay tok tk : Nat → Int32}
noncomputable def o22 (A : Sta) : Int32 × Sta := match byO A.1.1 A.1.2.1 6 1 with
  | none => (-nI 2, A)
  | some y => (nI y.1, tel A [nI y.2])
theorem c117 {n : Nat} (hV : GV M 0 sh pay tok) (hn : n ≤ 6) (H : ∀ M1, FrR M M1 → Q (some (vI (nI (byC sh pay (LST sh pay n))))) (M1, J, (jk, 149, 147, X))) : Call (d + 5) 117 [vR 11 0, vI (nI n), vI (plF sh pay)] (M, J, (jk, 149, 147, X)) Q := by
  have h0 : (0 : Nat) < 13 := by decide
  have ht : tokA 113 1 := Or.inr (Or.inr (Or.inl ⟨rfl, by decide⟩))
  have hlen := LST_len (pay := pay) hV.1.1 hn
  rw [e_117]
  simp (disch := omega) only [s_117_0, s_117_1, s_117_2, s_117_3, s_117_6, s_117_7, s_117_10, s_117_11, s_117_14, s_117_15, s_117_19, s_117_22, s_117_25, s_117_26, s_117_29, s_117_32, s_117_35, s_117_36, s_117_37, s_117_40, s_117_41, s_117_44, s_117_47, s_117_50, s_117_51, s_117_52, s_117_55, s_117_56, s_117_59, s_117_60, s_117_61, s_117_62, s_117_65, s_117_68, s_117_69, amLong_I, amLong_R, amLong_N, amLong_L, cond_true, cond_false, Option.toList_some, Option.toList_none, List.cons_append, List.nil_append, List.append_nil, setE, setN, cpy_set, lit, nle, nlt, neq, inb_iff, cl_nI, tle, fle, tlt, flt, teq, feq, m9, m3, x9, x3, nI_add, nsub, upN, upE, b0', b01', r100, w100, r101, w101, r102, w102, r103, w103, r104, w104, r105, w105, r106, w106, r107, w107, r108, w108, w109, w110, r111, w111, r112, w112, r113, w113, r114, w114, r115, w115, r116, w116, r117, w117, r118, w118, r119, w119, w120, w121, r122, w122, r130, w130, w131, w132, r133, w133, r134, w134, r135, w135, r136, w136, r137, w137, r138, w138, r139, w139, r140, w140, r141, w141, w142, r143, w143, r144, w144, r145, w145, r146, w146, w147, w150, b1', em1, Bool.false_eq_true, not_true_eq_false, not_false_eq_true, false_implies, true_implies, and_true, true_and, if_true, if_false, implies_true, Classical.not_not, true_or, or_true, false_or, or_false, and_self, ite_true, ite_false, reduceIte]
  refine c98 h0 hV hn (fun M0 hF hL => ?_)
  simp (disch := omega) only [s_117_0, s_117_1, s_117_2, s_117_3, s_117_6, s_117_7, s_117_10, s_117_11, s_117_14, s_117_15, s_117_19, s_117_22, s_117_25, s_117_26, s_117_29, s_117_32, s_117_35, s_117_36, s_117_37, s_117_40, s_117_41, s_117_44, s_117_47, s_117_50, s_117_51, s_117_52, s_117_55, s_117_56, s_117_59, s_117_60, s_117_61, s_117_62, s_117_65, s_117_68, s_117_69, amLong_I, amLong_R, amLong_N, amLong_L, cond_true, cond_false, Option.toList_some, Option.toList_none, List.cons_append, List.nil_append, List.append_nil, setE, setN, cpy_set, lit, nle, nlt, neq, inb_iff, cl_nI, tle, fle, tlt, flt, teq, feq, m9, m3, x9, x3, nI_add, nsub, upN, upE, b0', b01', r100, w100, r101, w101, r102, w102, r103, w103, r104, w104, r105, w105, r106, w106, r107, w107, r108, w108, w109, w110, r111, w111, r112, w112, r113, w113, r114, w114, r115, w115, r116, w116, r117, w117, r118, w118, r119, w119, w120, w121, r122, w122, r130, w130, w131, w132, r133, w133, r134, w134, r135, w135, r136, w136, r137, w137, r138, w138, r139, w139, r140, w140, r141, w141, w142, r143, w143, r144, w144, r145, w145, r146, w146, w147, w150, b1', em1, Bool.false_eq_true, not_true_eq_false, not_false_eq_true, false_implies, true_implies, and_true, true_and, if_true, if_false, implies_true, Classical.not_not, true_or, or_true, false_or, or_false, and_self, ite_true, ite_false, reduceIte]
  refine lpM (T := Nat × Nat) (U := Unit) (μ := fun x => (LST sh pay n).length - x.1) (E := fun M1 J1 u x => Ev (d + 4) 117 17 [some (vR 11 (0)), some (vI (nI n)), some (vI (plF sh pay)), some (vI (nI x.2)), some (vI (nI x.1))] [] (M1, J1, (jk, 149, 147, X)) Q) (I := fun M' J' x => J = J' ∧ FrR M M' ∧ LI M' sh pay ((LST sh pay n).drop x.1) ∧ x.1 ≤ (LST sh pay n).length ∧ x.2 + byC sh pay ((LST sh pay n).drop x.1) = byC sh pay (LST sh pay n)) (fun M' J' u x hI next => ?_) _ _ () (0, 0) ⟨rfl, hF.r, hL, Nat.zero_le _, Nat.zero_add _⟩
  obtain ⟨k, fo⟩ := x
  obtain ⟨rfl, i1, i2, i3, i4⟩ := hI
  dsimp only at i2 i3 i4 next
  have hfo := byC_le (sh := sh) (pay := pay) (LST sh pay n)
  have fin : ∀ M', FrR M M' → (LST sh pay n).length ≤ k → Q (some (vI (nI fo))) (M', J, (jk, 149, 147, X)) := by
    intro M' z1 z2
    have z3 : (LST sh pay n).drop k = [] := List.drop_eq_nil_iff.mpr z2
    rw [z3] at i4
    have z4 : fo = byC sh pay (LST sh pay n) := i4
    rw [z4]
    exact H M' z1
  rw [h_117_17]
  by_cases e1 : k < 3003
  · simp (disch := omega) only [s_117_0, s_117_1, s_117_2, s_117_3, s_117_6, s_117_7, s_117_10, s_117_11, s_117_14, s_117_15, s_117_19, s_117_22, s_117_25, s_117_26, s_117_29, s_117_32, s_117_35, s_117_36, s_117_37, s_117_40, s_117_41, s_117_44, s_117_47, s_117_50, s_117_51, s_117_52, s_117_55, s_117_56, s_117_59, s_117_60, s_117_61, s_117_62, s_117_65, s_117_68, s_117_69, amLong_I, amLong_R, amLong_N, amLong_L, cond_true, cond_false, Option.toList_some, Option.toList_none, List.cons_append, List.nil_append, List.append_nil, setE, setN, cpy_set, lit, nle, nlt, neq, inb_iff, cl_nI, tle, fle, tlt, flt, teq, feq, m9, m3, x9, x3, nI_add, nsub, upN, upE, b0', b01', r100, w100, r101, w101, r102, w102, r103, w103, r104, w104, r105, w105, r106, w106, r107, w107, r108, w108, w109, w110, r111, w111, r112, w112, r113, w113, r114, w114, r115, w115, r116, w116, r117, w117, r118, w118, r119, w119, w120, w121, r122, w122, r130, w130, w131, w132, r133, w133, r134, w134, r135, w135, r136, w136, r137, w137, r138, w138, r139, w139, r140, w140, r141, w141, w142, r143, w143, r144, w144, r145, w145, r146, w146, w147, w150, b1', em1, Bool.false_eq_true, not_true_eq_false, not_false_eq_true, false_implies, true_implies, and_true, true_and, if_true, if_false, implies_true, Classical.not_not, true_or, or_true, false_or, or_false, and_self, ite_true, ite_false, reduceIte]
    refine c99 i2 (fun M4 y1 y2 => ?_) (fun b bs M4 y1 y2 y3 y4 y5 y6 => ?_)
    · simp (disch := omega) only [s_117_0, s_117_1, s_117_2, s_117_3, s_117_6, s_117_7, s_117_10, s_117_11, s_117_14, s_117_15, s_117_19, s_117_22, s_117_25, s_117_26, s_117_29, s_117_32, s_117_35, s_117_36, s_117_37, s_117_40, s_117_41, s_117_44, s_117_47, s_117_50, s_117_51, s_117_52, s_117_55, s_117_56, s_117_59, s_117_60, s_117_61, s_117_62, s_117_65, s_117_68, s_117_69, amLong_I, amLong_R, amLong_N, amLong_L, cond_true, cond_false, Option.toList_some, Option.toList_none, List.cons_append, List.nil_append, List.append_nil, setE, setN, cpy_set, lit, nle, nlt, neq, inb_iff, cl_nI, tle, fle, tlt, flt, teq, feq, m9, m3, x9, x3, nI_add, nsub, upN, upE, b0', b01', r100, w100, r101, w101, r102, w102, r103, w103, r104, w104, r105, w105, r106, w106, r107, w107, r108, w108, w109, w110, r111, w111, r112, w112, r113, w113, r114, w114, r115, w115, r116, w116, r117, w117, r118, w118, r119, w119, w120, w121, r122, w122, r130, w130, w131, w132, r133, w133, r134, w134, r135, w135, r136, w136, r137, w137, r138, w138, r139, w139, r140, w140, r141, w141, w142, r143, w143, r144, w144, r145, w145, r146, w146, w147, w150, b1', em1, Bool.false_eq_true, not_true_eq_false, not_false_eq_true, false_implies, true_implies, and_true, true_and, if_true, if_false, implies_true, Classical.not_not, true_or, or_true, false_or, or_false, and_self, ite_true, ite_false, reduceIte]
      exact fin M4 (i1.trans y2.r) (dc_nil y1)
    · obtain ⟨z1, z2, z3⟩ := dc_cons y1
      have hV4 := (i1.trans y4.r).gv (by decide) hV
      have hu := used_iff (pay := pay) hV.1.1 y3
      rw [y1] at i4
      have i5 : fo + ((if bo (byd sh pay b) = true then 1 else 0) + byC sh pay bs) = byC sh pay (LST sh pay n) := i4
      by_cases e2 : byd sh pay b
      · have e3 := hu.mpr e2
        rw [if_pos (bo_iff.mpr e2)] at i5
        simp (disch := omega) only [s_117_0, s_117_1, s_117_2, s_117_3, s_117_6, s_117_7, s_117_10, s_117_11, s_117_14, s_117_15, s_117_19, s_117_22, s_117_25, s_117_26, s_117_29, s_117_32, s_117_35, s_117_36, s_117_37, s_117_40, s_117_41, s_117_44, s_117_47, s_117_50, s_117_51, s_117_52, s_117_55, s_117_56, s_117_59, s_117_60, s_117_61, s_117_62, s_117_65, s_117_68, s_117_69, amLong_I, amLong_R, amLong_N, amLong_L, cond_true, cond_false, Option.toList_some, Option.toList_none, List.cons_append, List.nil_append, List.append_nil, setE, setN, cpy_set, lit, nle, nlt, neq, inb_iff, cl_nI, tle, fle, tlt, flt, teq, feq, m9, m3, x9, x3, nI_add, nsub, upN, upE, b0', b01', r100, w100, r101, w101, r102, w102, r103, w103, r104, w104, r105, w105, r106, w106, r107, w107, r108, w108, w109, w110, r111, w111, r112, w112, r113, w113, r114, w114, r115, w115, r116, w116, r117, w117, r118, w118, r119, w119, w120, w121, r122, w122, r130, w130, w131, w132, r133, w133, r134, w134, r135, w135, r136, w136, r137, w137, r138, w138, r139, w139, r140, w140, r141, w141, w142, r143, w143, r144, w144, r145, w145, r146, w146, w147, w150, b1', em1, Bool.false_eq_true, not_true_eq_false, not_false_eq_true, false_implies, true_implies, and_true, true_and, if_true, if_false, implies_true, Classical.not_not, true_or, or_true, false_or, or_false, and_self, ite_true, ite_false, reduceIte, v107 h0 hV4.1 ht y6 y3, e3]
        exact next _ _ () (k + 1, fo + 1) ⟨rfl, i1.trans y4.r, by rw [← z3]; exact y5, by dsimp only; omega, by rw [← z3]; dsimp only; omega⟩ (by dsimp only; omega)
      · have e3 : ¬ bfd (usd b) (prf sh) &&& plF sh pay = nI 0 := fun z => e2 (hu.mp z)
        rw [if_neg (fun z => e2 (bo_iff.mp z))] at i5
        simp (disch := omega) only [s_117_0, s_117_1, s_117_2, s_117_3, s_117_6, s_117_7, s_117_10, s_117_11, s_117_14, s_117_15, s_117_19, s_117_22, s_117_25, s_117_26, s_117_29, s_117_32, s_117_35, s_117_36, s_117_37, s_117_40, s_117_41, s_117_44, s_117_47, s_117_50, s_117_51, s_117_52, s_117_55, s_117_56, s_117_59, s_117_60, s_117_61, s_117_62, s_117_65, s_117_68, s_117_69, amLong_I, amLong_R, amLong_N, amLong_L, cond_true, cond_false, Option.toList_some, Option.toList_none, List.cons_append, List.nil_append, List.append_nil, setE, setN, cpy_set, lit, nle, nlt, neq, inb_iff, cl_nI, tle, fle, tlt, flt, teq, feq, m9, m3, x9, x3, nI_add, nsub, upN, upE, b0', b01', r100, w100, r101, w101, r102, w102, r103, w103, r104, w104, r105, w105, r106, w106, r107, w107, r108, w108, w109, w110, r111, w111, r112, w112, r113, w113, r114, w114, r115, w115, r116, w116, r117, w117, r118, w118, r119, w119, w120, w121, r122, w122, r130, w130, w131, w132, r133, w133, r134, w134, r135, w135, r136, w136, r137, w137, r138, w138, r139, w139, r140, w140, r141, w141, w142, r143, w143, r144, w144, r145, w145, r146, w146, w147, w150, b1', em1, Bool.false_eq_true, not_true_eq_false, not_false_eq_true, false_implies, true_implies, and_true, true_and, if_true, if_false, implies_true, Classical.not_not, true_or, or_true, false_or, or_false, and_self, ite_true, ite_false, reduceIte, v107 h0 hV4.1 ht y6 y3, e3]
        exact next _ _ () (k + 1, fo) ⟨rfl, i1.trans y4.r, by rw [← z3]; exact y5, by dsimp only; omega, by rw [← z3]; dsimp only; omega⟩ (by dsimp only; omega)
  · simp (disch := omega) only [s_117_0, s_117_1, s_117_2, s_117_3, s_117_6, s_117_7, s_117_10, s_117_11, s_117_14, s_117_15, s_117_19, s_117_22, s_117_25, s_117_26, s_117_29, s_117_32, s_117_35, s_117_36, s_117_37, s_117_40, s_117_41, s_117_44, s_117_47, s_117_50, s_117_51, s_117_52, s_117_55, s_117_56, s_117_59, s_117_60, s_117_61, s_117_62, s_117_65, s_117_68, s_117_69, amLong_I, amLong_R, amLong_N, amLong_L, cond_true, cond_false, Option.toList_some, Option.toList_none, List.cons_append, List.nil_append, List.append_nil, setE, setN, cpy_set, lit, nle, nlt, neq, inb_iff, cl_nI, tle, fle, tlt, flt, teq, feq, m9, m3, x9, x3, nI_add, nsub, upN, upE, b0', b01', r100, w100, r101, w101, r102, w102, r103, w103, r104, w104, r105, w105, r106, w106, r107, w107, r108, w108, w109, w110, r111, w111, r112, w112, r113, w113, r114, w114, r115, w115, r116, w116, r117, w117, r118, w118, r119, w119, w120, w121, r122, w122, r130, w130, w131, w132, r133, w133, r134, w134, r135, w135, r136, w136, r137, w137, r138, w138, r139, w139, r140, w140, r141, w141, w142, r143, w143, r144, w144, r145, w145, r146, w146, w147, w150, b1', em1, Bool.false_eq_true, not_true_eq_false, not_false_eq_true, false_implies, true_implies, and_true, true_and, if_true, if_false, implies_true, Classical.not_not, true_or, or_true, false_or, or_false, and_self, ite_true, ite_false, reduceIte]
    exact fin M' i1 (by omega)
theorem k116 {A : Sta} (hR : RC M J A) (hW : WF A) (H : ∀ M1 J1, RC M1 J1 (o22 A).2 → FC M M1 → FCJ J J1 → Q (some (vI (o22 A).1)) (M1, J1, (jk, 149, 147, X))) : Call (d + 6) 116 [vR 11 0] (M, J, (jk, 149, 147, X)) Q := by
  obtain ⟨⟨sh, pay, tok⟩, U, S, x, r⟩ := A
  have hV : GV M 0 sh pay tok := hR.1
  have h0 : (0 : Nat) < 13 := by decide
  unfold o22 at H
  dsimp only at H
  rw [e_116]
  simp (disch := omega) only [s_116_0, s_116_1, s_116_4, s_116_7, s_116_8, s_116_9, s_116_11, s_116_13, s_116_16, s_116_17, s_116_18, s_116_19, s_116_22, s_116_23, s_116_24, s_116_27, s_116_28, s_116_31, s_116_34, s_116_35, s_116_38, s_116_39, s_116_40, s_116_43, s_116_44, s_116_45, s_116_48, s_116_51, s_116_53, amLong_I, amLong_R, amLong_N, amLong_L, cond_true, cond_false, Option.toList_some, Option.toList_none, List.cons_append, List.nil_append, List.append_nil, setE, setN, cpy_set, lit, nle, nlt, neq, inb_iff, cl_nI, tle, fle, tlt, flt, teq, feq, m9, m3, x9, x3, nI_add, nsub, upN, upE, b0', b01', r100, w100, r101, w101, r102, w102, r103, w103, r104, w104, r105, w105, r106, w106, r107, w107, r108, w108, w109, w110, r111, w111, r112, w112, r113, w113, r114, w114, r115, w115, r116, w116, r117, w117, r118, w118, r119, w119, w120, w121, r122, w122, r130, w130, w131, w132, r133, w133, r134, w134, r135, w135, r136, w136, r137, w137, r138, w138, r139, w139, r140, w140, r141, w141, w142, r143, w143, r144, w144, r145, w145, r146, w146, w147, w150, b1', em1, Bool.false_eq_true, not_true_eq_false, not_false_eq_true, false_implies, true_implies, and_true, true_and, if_true, if_false, implies_true, Classical.not_not, true_or, or_true, false_or, or_false, and_self, ite_true, ite_false, reduceIte, v83 h0 hV]
  refine lpH (T := Unit) (U := Option amV) (P := 7) (E := fun k M1 J1 u x => Ev (d + 5) 116 10 [some (vR 11 (0)), some (vI (plF sh pay)), some (vI (nI k)), u] [] (M1, J1, (jk, 149, 147, X)) Q) (I := fun k M' J' _ => J = J' ∧ FrR M M' ∧ 1 ≤ k ∧ byO sh pay 6 1 = byO sh pay (7 - k) k) (fun M' J' u x hI => ?_) (fun n M' J' u x hk hI next => ?_) 1 _ _ none () (by omega) ⟨rfl, FrR.rfl, Nat.le_refl 1, rfl⟩
  · obtain ⟨rfl, i1, i2, i3⟩ := hI
    have i4 : byO sh pay 6 1 = none := i3
    rw [i4] at H
    rw [h_116_10]
    simp (disch := omega) only [s_116_0, s_116_1, s_116_4, s_116_7, s_116_8, s_116_9, s_116_11, s_116_13, s_116_16, s_116_17, s_116_18, s_116_19, s_116_22, s_116_23, s_116_24, s_116_27, s_116_28, s_116_31, s_116_34, s_116_35, s_116_38, s_116_39, s_116_40, s_116_43, s_116_44, s_116_45, s_116_48, s_116_51, s_116_53, amLong_I, amLong_R, amLong_N, amLong_L, cond_true, cond_false, Option.toList_some, Option.toList_none, List.cons_append, List.nil_append, List.append_nil, setE, setN, cpy_set, lit, nle, nlt, neq, inb_iff, cl_nI, tle, fle, tlt, flt, teq, feq, m9, m3, x9, x3, nI_add, nsub, upN, upE, b0', b01', r100, w100, r101, w101, r102, w102, r103, w103, r104, w104, r105, w105, r106, w106, r107, w107, r108, w108, w109, w110, r111, w111, r112, w112, r113, w113, r114, w114, r115, w115, r116, w116, r117, w117, r118, w118, r119, w119, w120, w121, r122, w122, r130, w130, w131, w132, r133, w133, r134, w134, r135, w135, r136, w136, r137, w137, r138, w138, r139, w139, r140, w140, r141, w141, w142, r143, w143, r144, w144, r145, w145, r146, w146, w147, w150, b1', em1, Bool.false_eq_true, not_true_eq_false, not_false_eq_true, false_implies, true_implies, and_true, true_and, if_true, if_false, implies_true, Classical.not_not, true_or, or_true, false_or, or_false, and_self, ite_true, ite_false, reduceIte]
    exact H M' J (hR.s i1) i1.q.fc FCJ.rfl
  · obtain ⟨rfl, i1, i2, i3⟩ := hI
    have hV1 := i1.gv (by decide) hV
    have hlen := LST_len (pay := pay) hV.1.1 (show n ≤ 6 by omega)
    have hbc := byC_le (sh := sh) (pay := pay) (LST sh pay n)
    rw [show 7 - n = (7 - (n + 1)) + 1 by omega] at i3
    have i4 : byO sh pay 6 1 = if byC sh pay (LST sh pay n) = 0 then byO sh pay (7 - (n + 1)) (n + 1) else some (n, byC sh pay (LST sh pay n)) := i3
    rw [h_116_10]
    simp (disch := omega) only [s_116_0, s_116_1, s_116_4, s_116_7, s_116_8, s_116_9, s_116_11, s_116_13, s_116_16, s_116_17, s_116_18, s_116_19, s_116_22, s_116_23, s_116_24, s_116_27, s_116_28, s_116_31, s_116_34, s_116_35, s_116_38, s_116_39, s_116_40, s_116_43, s_116_44, s_116_45, s_116_48, s_116_51, s_116_53, amLong_I, amLong_R, amLong_N, amLong_L, cond_true, cond_false, Option.toList_some, Option.toList_none, List.cons_append, List.nil_append, List.append_nil, setE, setN, cpy_set, lit, nle, nlt, neq, inb_iff, cl_nI, tle, fle, tlt, flt, teq, feq, m9, m3, x9, x3, nI_add, nsub, upN, upE, b0', b01', r100, w100, r101, w101, r102, w102, r103, w103, r104, w104, r105, w105, r106, w106, r107, w107, r108, w108, w109, w110, r111, w111, r112, w112, r113, w113, r114, w114, r115, w115, r116, w116, r117, w117, r118, w118, r119, w119, w120, w121, r122, w122, r130, w130, w131, w132, r133, w133, r134, w134, r135, w135, r136, w136, r137, w137, r138, w138, r139, w139, r140, w140, r141, w141, w142, r143, w143, r144, w144, r145, w145, r146, w146, w147, w150, b1', em1, Bool.false_eq_true, not_true_eq_false, not_false_eq_true, false_implies, true_implies, and_true, true_and, if_true, if_false, implies_true, Classical.not_not, true_or, or_true, false_or, or_false, and_self, ite_true, ite_false, reduceIte]
    refine c117 hV1 (by omega) (fun M2 f1 => ?_)
    have hq := i1.trans f1
    by_cases e : byC sh pay (LST sh pay n) = 0
    · rw [if_pos e] at i4
      simp (disch := omega) only [s_116_0, s_116_1, s_116_4, s_116_7, s_116_8, s_116_9, s_116_11, s_116_13, s_116_16, s_116_17, s_116_18, s_116_19, s_116_22, s_116_23, s_116_24, s_116_27, s_116_28, s_116_31, s_116_34, s_116_35, s_116_38, s_116_39, s_116_40, s_116_43, s_116_44, s_116_45, s_116_48, s_116_51, s_116_53, amLong_I, amLong_R, amLong_N, amLong_L, cond_true, cond_false, Option.toList_some, Option.toList_none, List.cons_append, List.nil_append, List.append_nil, setE, setN, cpy_set, lit, nle, nlt, neq, inb_iff, cl_nI, tle, fle, tlt, flt, teq, feq, m9, m3, x9, x3, nI_add, nsub, upN, upE, b0', b01', r100, w100, r101, w101, r102, w102, r103, w103, r104, w104, r105, w105, r106, w106, r107, w107, r108, w108, w109, w110, r111, w111, r112, w112, r113, w113, r114, w114, r115, w115, r116, w116, r117, w117, r118, w118, r119, w119, w120, w121, r122, w122, r130, w130, w131, w132, r133, w133, r134, w134, r135, w135, r136, w136, r137, w137, r138, w138, r139, w139, r140, w140, r141, w141, w142, r143, w143, r144, w144, r145, w145, r146, w146, w147, w150, b1', em1, Bool.false_eq_true, not_true_eq_false, not_false_eq_true, false_implies, true_implies, and_true, true_and, if_true, if_false, implies_true, Classical.not_not, true_or, or_true, false_or, or_false, and_self, ite_true, ite_false, reduceIte, e]
      exact next _ _ _ () ⟨rfl, hq, by omega, i4⟩
    · rw [if_neg e] at i4
      rw [i4] at H
      simp (disch := omega) only [s_116_0, s_116_1, s_116_4, s_116_7, s_116_8, s_116_9, s_116_11, s_116_13, s_116_16, s_116_17, s_116_18, s_116_19, s_116_22, s_116_23, s_116_24, s_116_27, s_116_28, s_116_31, s_116_34, s_116_35, s_116_38, s_116_39, s_116_40, s_116_43, s_116_44, s_116_45, s_116_48, s_116_51, s_116_53, amLong_I, amLong_R, amLong_N, amLong_L, cond_true, cond_false, Option.toList_some, Option.toList_none, List.cons_append, List.nil_append, List.append_nil, setE, setN, cpy_set, lit, nle, nlt, neq, inb_iff, cl_nI, tle, fle, tlt, flt, teq, feq, m9, m3, x9, x3, nI_add, nsub, upN, upE, b0', b01', r100, w100, r101, w101, r102, w102, r103, w103, r104, w104, r105, w105, r106, w106, r107, w107, r108, w108, w109, w110, r111, w111, r112, w112, r113, w113, r114, w114, r115, w115, r116, w116, r117, w117, r118, w118, r119, w119, w120, w121, r122, w122, r130, w130, w131, w132, r133, w133, r134, w134, r135, w135, r136, w136, r137, w137, r138, w138, r139, w139, r140, w140, r141, w141, w142, r143, w143, r144, w144, r145, w145, r146, w146, w147, w150, b1', em1, Bool.false_eq_true, not_true_eq_false, not_false_eq_true, false_implies, true_implies, and_true, true_and, if_true, if_false, implies_true, Classical.not_not, true_or, or_true, false_or, or_false, and_self, ite_true, ite_false, reduceIte]
      refine v42 (fun M3 h3 => ?_)
      simp (disch := omega) only [s_116_0, s_116_1, s_116_4, s_116_7, s_116_8, s_116_9, s_116_11, s_116_13, s_116_16, s_116_17, s_116_18, s_116_19, s_116_22, s_116_23, s_116_24, s_116_27, s_116_28, s_116_31, s_116_34, s_116_35, s_116_38, s_116_39, s_116_40, s_116_43, s_116_44, s_116_45, s_116_48, s_116_51, s_116_53, amLong_I, amLong_R, amLong_N, amLong_L, cond_true, cond_false, Option.toList_some, Option.toList_none, List.cons_append, List.nil_append, List.append_nil, setE, setN, cpy_set, lit, nle, nlt, neq, inb_iff, cl_nI, tle, fle, tlt, flt, teq, feq, m9, m3, x9, x3, nI_add, nsub, upN, upE, b0', b01', r100, w100, r101, w101, r102, w102, r103, w103, r104, w104, r105, w105, r106, w106, r107, w107, r108, w108, w109, w110, r111, w111, r112, w112, r113, w113, r114, w114, r115, w115, r116, w116, r117, w117, r118, w118, r119, w119, w120, w121, r122, w122, r130, w130, w131, w132, r133, w133, r134, w134, r135, w135, r136, w136, r137, w137, r138, w138, r139, w139, r140, w140, r141, w141, w142, r143, w143, r144, w144, r145, w145, r146, w146, w147, w150, b1', em1, Bool.false_eq_true, not_true_eq_false, not_false_eq_true, false_implies, true_implies, and_true, true_and, if_true, if_false, implies_true, Classical.not_not, true_or, or_true, false_or, or_false, and_self, ite_true, ite_false, reduceIte]
      refine v43 h3 (by decide) (fun M4 J4 h4 => ?_)
      simp (disch := omega) only [s_116_0, s_116_1, s_116_4, s_116_7, s_116_8, s_116_9, s_116_11, s_116_13, s_116_16, s_116_17, s_116_18, s_116_19, s_116_22, s_116_23, s_116_24, s_116_27, s_116_28, s_116_31, s_116_34, s_116_35, s_116_38, s_116_39, s_116_40, s_116_43, s_116_44, s_116_45, s_116_48, s_116_51, s_116_53, amLong_I, amLong_R, amLong_N, amLong_L, cond_true, cond_false, Option.toList_some, Option.toList_none, List.cons_append, List.nil_append, List.append_nil, setE, setN, cpy_set, lit, nle, nlt, neq, inb_iff, cl_nI, tle, fle, tlt, flt, teq, feq, m9, m3, x9, x3, nI_add, nsub, upN, upE, b0', b01', r100, w100, r101, w101, r102, w102, r103, w103, r104, w104, r105, w105, r106, w106, r107, w107, r108, w108, w109, w110, r111, w111, r112, w112, r113, w113, r114, w114, r115, w115, r116, w116, r117, w117, r118, w118, r119, w119, w120, w121, r122, w122, r130, w130, w131, w132, r133, w133, r134, w134, r135, w135, r136, w136, r137, w137, r138, w138, r139, w139, r140, w140, r141, w141, w142, r143, w143, r144, w144, r145, w145, r146, w146, w147, w150, b1', em1, Bool.false_eq_true, not_true_eq_false, not_false_eq_true, false_implies, true_implies, and_true, true_and, if_true, if_false, implies_true, Classical.not_not, true_or, or_true, false_or, or_false, and_self, ite_true, ite_false, reduceIte]
      exact H M4 J4 (hR.w hq.q h4) ((hq.q.trans h4.q).fc) h4.j
theorem n234 {A : Sta} (hR : RM M J A) (hW : WF A) (H : ∀ M1 J1, RM M1 J1 (o22 A).2 → FM M M1 → FMJ J J1 → Q (some (vI (o22 A).1)) (M1, J1, (jk, 149, 147, X))) : Call (d + 18) 234 [vR 12 0] (M, J, (jk, 149, 147, X)) Q := by
  have hV0 := (thr (x := nI 0)).v (hR.v hW)
  obtain ⟨⟨sh, pay, tok⟩, U, S, x, r⟩ := A
  dsimp only at hV0
  obtain ⟨l1, l2, l3, l4⟩ := hV0.lim
  unfold o22 at H
  dsimp only at H
  rw [e_234]
  simp (disch := omega) only [s_234_0, s_234_1, s_234_2, s_234_5, s_234_6, s_234_9, s_234_10, s_234_11, s_234_13, s_234_15, s_234_18, s_234_19, s_234_20, s_234_23, s_234_24, s_234_25, s_234_26, s_234_30, s_234_31, s_234_34, s_234_37, s_234_38, s_234_40, s_234_43, s_234_44, s_234_45, s_234_46, s_234_49, s_234_52, s_234_53, s_234_56, s_234_57, s_234_58, s_234_59, s_234_62, s_234_65, s_234_66, s_234_69, s_234_72, s_234_73, s_234_74, s_234_77, s_234_78, s_234_79, s_234_80, s_234_83, s_234_84, s_234_85, s_234_88, s_234_91, s_234_93, amLong_I, amLong_R, amLong_N, amLong_L, cond_true, cond_false, Option.toList_some, Option.toList_none, List.cons_append, List.nil_append, List.append_nil, setE, setN, cpy_set, lit, nle, nlt, neq, inb_iff, cl_nI, tle, fle, tlt, flt, teq, feq, m9, m3, x9, x3, nI_add, nsub, upN, upE, b0', b01', r100, w100, r101, w101, r102, w102, r103, w103, r104, w104, r105, w105, r106, w106, r107, w107, r108, w108, w109, w110, r111, w111, r112, w112, r113, w113, r114, w114, r115, w115, r116, w116, r117, w117, r118, w118, r119, w119, w120, w121, r122, w122, r130, w130, w131, w132, r133, w133, r134, w134, r135, w135, r136, w136, r137, w137, r138, w138, r139, w139, r140, w140, r141, w141, w142, r143, w143, r144, w144, r145, w145, r146, w146, w147, w150, b1', em1, Bool.false_eq_true, not_true_eq_false, not_false_eq_true, false_implies, true_implies, and_true, true_and, if_true, if_false, implies_true, Classical.not_not, true_or, or_true, false_or, or_false, and_self, ite_true, ite_false, reduceIte]
  refine m210 hV0 hW.1.2.1 (fun M1 h1 => ?_)
  have hK1 : Kp M M1 := thr.trans (fun c j k hc => h1 c j k (by unfold Sc at hc; omega))
  have hV1 : MV M1 sh pay tok := hV0.of (fun k _ => h1 _ _ _ (by omega))
  simp (disch := omega) only [s_234_0, s_234_1, s_234_2, s_234_5, s_234_6, s_234_9, s_234_10, s_234_11, s_234_13, s_234_15, s_234_18, s_234_19, s_234_20, s_234_23, s_234_24, s_234_25, s_234_26, s_234_30, s_234_31, s_234_34, s_234_37, s_234_38, s_234_40, s_234_43, s_234_44, s_234_45, s_234_46, s_234_49, s_234_52, s_234_53, s_234_56, s_234_57, s_234_58, s_234_59, s_234_62, s_234_65, s_234_66, s_234_69, s_234_72, s_234_73, s_234_74, s_234_77, s_234_78, s_234_79, s_234_80, s_234_83, s_234_84, s_234_85, s_234_88, s_234_91, s_234_93, amLong_I, amLong_R, amLong_N, amLong_L, cond_true, cond_false, Option.toList_some, Option.toList_none, List.cons_append, List.nil_append, List.append_nil, setE, setN, cpy_set, lit, nle, nlt, neq, inb_iff, cl_nI, tle, fle, tlt, flt, teq, feq, m9, m3, x9, x3, nI_add, nsub, upN, upE, b0', b01', r100, w100, r101, w101, r102, w102, r103, w103, r104, w104, r105, w105, r106, w106, r107, w107, r108, w108, w109, w110, r111, w111, r112, w112, r113, w113, r114, w114, r115, w115, r116, w116, r117, w117, r118, w118, r119, w119, w120, w121, r122, w122, r130, w130, w131, w132, r133, w133, r134, w134, r135, w135, r136, w136, r137, w137, r138, w138, r139, w139, r140, w140, r141, w141, w142, r143, w143, r144, w144, r145, w145, r146, w146, w147, w150, b1', em1, Bool.false_eq_true, not_true_eq_false, not_false_eq_true, false_implies, true_implies, and_true, true_and, if_true, if_false, implies_true, Classical.not_not, true_or, or_true, false_or, or_false, and_self, ite_true, ite_false, reduceIte]
  refine lpH (T := Unit) (U := Option amV × Option amV) (P := 7) (E := fun k M1 J1 u x => Ev (d + 17) 234 12 [some (vR 12 (0)), some (vI (plF sh pay)), some (vI (nI k)), u.1, u.2] [] (M1, J1, (jk, 149, 147, X)) Q) (I := fun k M' J' _ => J = J' ∧ Kp M M' ∧ 1 ≤ k ∧ byO sh pay 6 1 = byO sh pay (7 - k) k) (fun M' J' u x hI => ?_) (fun n M' J' u x hk hI next => ?_) 1 _ _ (none, none) () (by omega) ⟨rfl, hK1, Nat.le_refl 1, rfl⟩
  · obtain ⟨rfl, i1, i2, i3⟩ := hI
    have i4 : byO sh pay 6 1 = none := i3
    rw [i4] at H
    rw [h_234_12]
    simp (disch := omega) only [s_234_0, s_234_1, s_234_2, s_234_5, s_234_6, s_234_9, s_234_10, s_234_11, s_234_13, s_234_15, s_234_18, s_234_19, s_234_20, s_234_23, s_234_24, s_234_25, s_234_26, s_234_30, s_234_31, s_234_34, s_234_37, s_234_38, s_234_40, s_234_43, s_234_44, s_234_45, s_234_46, s_234_49, s_234_52, s_234_53, s_234_56, s_234_57, s_234_58, s_234_59, s_234_62, s_234_65, s_234_66, s_234_69, s_234_72, s_234_73, s_234_74, s_234_77, s_234_78, s_234_79, s_234_80, s_234_83, s_234_84, s_234_85, s_234_88, s_234_91, s_234_93, amLong_I, amLong_R, amLong_N, amLong_L, cond_true, cond_false, Option.toList_some, Option.toList_none, List.cons_append, List.nil_append, List.append_nil, setE, setN, cpy_set, lit, nle, nlt, neq, inb_iff, cl_nI, tle, fle, tlt, flt, teq, feq, m9, m3, x9, x3, nI_add, nsub, upN, upE, b0', b01', r100, w100, r101, w101, r102, w102, r103, w103, r104, w104, r105, w105, r106, w106, r107, w107, r108, w108, w109, w110, r111, w111, r112, w112, r113, w113, r114, w114, r115, w115, r116, w116, r117, w117, r118, w118, r119, w119, w120, w121, r122, w122, r130, w130, w131, w132, r133, w133, r134, w134, r135, w135, r136, w136, r137, w137, r138, w138, r139, w139, r140, w140, r141, w141, w142, r143, w143, r144, w144, r145, w145, r146, w146, w147, w150, b1', em1, Bool.false_eq_true, not_true_eq_false, not_false_eq_true, false_implies, true_implies, and_true, true_and, if_true, if_false, implies_true, Classical.not_not, true_or, or_true, false_or, or_false, and_self, ite_true, ite_false, reduceIte]
    exact H M' J (hR.s i1 (fun _ => rfl)) i1.fm FMJ.rfl
  · obtain ⟨rfl, i1, i2, i3⟩ := hI
    have hV1 := i1.v (hR.v hW)
    dsimp only at hV1
    have hlen := LST_len (pay := pay) hV0.1 (show n ≤ 6 by omega)
    have hbc := byC_le (sh := sh) (pay := pay) (LST sh pay n)
    have hmem : ∀ k, k < (LST sh pay n).length → lsum ((LST sh pay n).getD k []) = n := fun k hk => (LST_mem hV0.1 (getD_mem hk)).2.1
    rw [show 7 - n = (7 - (n + 1)) + 1 by omega] at i3
    have i4 : byO sh pay 6 1 = if byC sh pay (LST sh pay n) = 0 then byO sh pay (7 - (n + 1)) (n + 1) else some (n, byC sh pay (LST sh pay n)) := i3
    generalize hl : LST sh pay n = l at *
    rw [h_234_12]
    simp (disch := omega) only [s_234_0, s_234_1, s_234_2, s_234_5, s_234_6, s_234_9, s_234_10, s_234_11, s_234_13, s_234_15, s_234_18, s_234_19, s_234_20, s_234_23, s_234_24, s_234_25, s_234_26, s_234_30, s_234_31, s_234_34, s_234_37, s_234_38, s_234_40, s_234_43, s_234_44, s_234_45, s_234_46, s_234_49, s_234_52, s_234_53, s_234_56, s_234_57, s_234_58, s_234_59, s_234_62, s_234_65, s_234_66, s_234_69, s_234_72, s_234_73, s_234_74, s_234_77, s_234_78, s_234_79, s_234_80, s_234_83, s_234_84, s_234_85, s_234_88, s_234_91, s_234_93, amLong_I, amLong_R, amLong_N, amLong_L, cond_true, cond_false, Option.toList_some, Option.toList_none, List.cons_append, List.nil_append, List.append_nil, setE, setN, cpy_set, lit, nle, nlt, neq, inb_iff, cl_nI, tle, fle, tlt, flt, teq, feq, m9, m3, x9, x3, nI_add, nsub, upN, upE, b0', b01', r100, w100, r101, w101, r102, w102, r103, w103, r104, w104, r105, w105, r106, w106, r107, w107, r108, w108, w109, w110, r111, w111, r112, w112, r113, w113, r114, w114, r115, w115, r116, w116, r117, w117, r118, w118, r119, w119, w120, w121, r122, w122, r130, w130, w131, w132, r133, w133, r134, w134, r135, w135, r136, w136, r137, w137, r138, w138, r139, w139, r140, w140, r141, w141, w142, r143, w143, r144, w144, r145, w145, r146, w146, w147, w150, b1', em1, Bool.false_eq_true, not_true_eq_false, not_false_eq_true, false_implies, true_implies, and_true, true_and, if_true, if_false, implies_true, Classical.not_not, true_or, or_true, false_or, or_false, and_self, ite_true, ite_false, reduceIte]
    refine m203 hV1 (by omega) (fun M2 f1 hL => ?_)
    rw [hl] at hL
    have hK2 := i1.trans f1.k
    simp (disch := omega) only [s_234_0, s_234_1, s_234_2, s_234_5, s_234_6, s_234_9, s_234_10, s_234_11, s_234_13, s_234_15, s_234_18, s_234_19, s_234_20, s_234_23, s_234_24, s_234_25, s_234_26, s_234_30, s_234_31, s_234_34, s_234_37, s_234_38, s_234_40, s_234_43, s_234_44, s_234_45, s_234_46, s_234_49, s_234_52, s_234_53, s_234_56, s_234_57, s_234_58, s_234_59, s_234_62, s_234_65, s_234_66, s_234_69, s_234_72, s_234_73, s_234_74, s_234_77, s_234_78, s_234_79, s_234_80, s_234_83, s_234_84, s_234_85, s_234_88, s_234_91, s_234_93, amLong_I, amLong_R, amLong_N, amLong_L, cond_true, cond_false, Option.toList_some, Option.toList_none, List.cons_append, List.nil_append, List.append_nil, setE, setN, cpy_set, lit, nle, nlt, neq, inb_iff, cl_nI, tle, fle, tlt, flt, teq, feq, m9, m3, x9, x3, nI_add, nsub, upN, upE, b0', b01', r100, w100, r101, w101, r102, w102, r103, w103, r104, w104, r105, w105, r106, w106, r107, w107, r108, w108, w109, w110, r111, w111, r112, w112, r113, w113, r114, w114, r115, w115, r116, w116, r117, w117, r118, w118, r119, w119, w120, w121, r122, w122, r130, w130, w131, w132, r133, w133, r134, w134, r135, w135, r136, w136, r137, w137, r138, w138, r139, w139, r140, w140, r141, w141, w142, r143, w143, r144, w144, r145, w145, r146, w146, w147, w150, b1', em1, Bool.false_eq_true, not_true_eq_false, not_false_eq_true, false_implies, true_implies, and_true, true_and, if_true, if_false, implies_true, Classical.not_not, true_or, or_true, false_or, or_false, and_self, ite_true, ite_false, reduceIte]
    refine lpH (T := Nat) (U := Unit) (P := l.length) (E := fun k M1 J1 u x => Ev (d + 17) 234 28 [some (vR 12 (0)), some (vI (plF sh pay)), some (vI (nI n)), some (vI (nI x)), some (vI (nI k))] [] (M1, J1, (jk, 149, 147, X)) Q) (I := fun k M' J' x => J = J' ∧ Kp M M' ∧ LM M' l ∧ x + byC sh pay (l.drop k) = byC sh pay l) (fun M' J' u x hI => ?_) (fun k M' J' u x hk hI next2 => ?_) 0 _ _ () 0 (by omega) ⟨rfl, hK2, hL, Nat.zero_add _⟩
    · obtain ⟨rfl, j1, j2, j3⟩ := hI
      rw [List.drop_length] at j3
      have j4 : x = byC sh pay l := j3
      subst j4
      rw [h_234_28]
      by_cases e : byC sh pay l = 0
      · rw [if_pos e] at i4
        simp (disch := omega) only [s_234_0, s_234_1, s_234_2, s_234_5, s_234_6, s_234_9, s_234_10, s_234_11, s_234_13, s_234_15, s_234_18, s_234_19, s_234_20, s_234_23, s_234_24, s_234_25, s_234_26, s_234_30, s_234_31, s_234_34, s_234_37, s_234_38, s_234_40, s_234_43, s_234_44, s_234_45, s_234_46, s_234_49, s_234_52, s_234_53, s_234_56, s_234_57, s_234_58, s_234_59, s_234_62, s_234_65, s_234_66, s_234_69, s_234_72, s_234_73, s_234_74, s_234_77, s_234_78, s_234_79, s_234_80, s_234_83, s_234_84, s_234_85, s_234_88, s_234_91, s_234_93, amLong_I, amLong_R, amLong_N, amLong_L, cond_true, cond_false, Option.toList_some, Option.toList_none, List.cons_append, List.nil_append, List.append_nil, setE, setN, cpy_set, lit, nle, nlt, neq, inb_iff, cl_nI, tle, fle, tlt, flt, teq, feq, m9, m3, x9, x3, nI_add, nsub, upN, upE, b0', b01', r100, w100, r101, w101, r102, w102, r103, w103, r104, w104, r105, w105, r106, w106, r107, w107, r108, w108, w109, w110, r111, w111, r112, w112, r113, w113, r114, w114, r115, w115, r116, w116, r117, w117, r118, w118, r119, w119, w120, w121, r122, w122, r130, w130, w131, w132, r133, w133, r134, w134, r135, w135, r136, w136, r137, w137, r138, w138, r139, w139, r140, w140, r141, w141, w142, r143, w143, r144, w144, r145, w145, r146, w146, w147, w150, b1', em1, Bool.false_eq_true, not_true_eq_false, not_false_eq_true, false_implies, true_implies, and_true, true_and, if_true, if_false, implies_true, Classical.not_not, true_or, or_true, false_or, or_false, and_self, ite_true, ite_false, reduceIte, j2.1, e]
        exact next _ _ (_, _) () ⟨rfl, j1, by omega, i4⟩
      · rw [if_neg e] at i4
        rw [i4] at H
        simp (disch := omega) only [s_234_0, s_234_1, s_234_2, s_234_5, s_234_6, s_234_9, s_234_10, s_234_11, s_234_13, s_234_15, s_234_18, s_234_19, s_234_20, s_234_23, s_234_24, s_234_25, s_234_26, s_234_30, s_234_31, s_234_34, s_234_37, s_234_38, s_234_40, s_234_43, s_234_44, s_234_45, s_234_46, s_234_49, s_234_52, s_234_53, s_234_56, s_234_57, s_234_58, s_234_59, s_234_62, s_234_65, s_234_66, s_234_69, s_234_72, s_234_73, s_234_74, s_234_77, s_234_78, s_234_79, s_234_80, s_234_83, s_234_84, s_234_85, s_234_88, s_234_91, s_234_93, amLong_I, amLong_R, amLong_N, amLong_L, cond_true, cond_false, Option.toList_some, Option.toList_none, List.cons_append, List.nil_append, List.append_nil, setE, setN, cpy_set, lit, nle, nlt, neq, inb_iff, cl_nI, tle, fle, tlt, flt, teq, feq, m9, m3, x9, x3, nI_add, nsub, upN, upE, b0', b01', r100, w100, r101, w101, r102, w102, r103, w103, r104, w104, r105, w105, r106, w106, r107, w107, r108, w108, w109, w110, r111, w111, r112, w112, r113, w113, r114, w114, r115, w115, r116, w116, r117, w117, r118, w118, r119, w119, w120, w121, r122, w122, r130, w130, w131, w132, r133, w133, r134, w134, r135, w135, r136, w136, r137, w137, r138, w138, r139, w139, r140, w140, r141, w141, w142, r143, w143, r144, w144, r145, w145, r146, w146, w147, w150, b1', em1, Bool.false_eq_true, not_true_eq_false, not_false_eq_true, false_implies, true_implies, and_true, true_and, if_true, if_false, implies_true, Classical.not_not, true_or, or_true, false_or, or_false, and_self, ite_true, ite_false, reduceIte, j2.1, e]
        refine m177 MRo0 (by decide) (fun M4 J4 h4 => ?_)
        simp (disch := omega) only [s_234_0, s_234_1, s_234_2, s_234_5, s_234_6, s_234_9, s_234_10, s_234_11, s_234_13, s_234_15, s_234_18, s_234_19, s_234_20, s_234_23, s_234_24, s_234_25, s_234_26, s_234_30, s_234_31, s_234_34, s_234_37, s_234_38, s_234_40, s_234_43, s_234_44, s_234_45, s_234_46, s_234_49, s_234_52, s_234_53, s_234_56, s_234_57, s_234_58, s_234_59, s_234_62, s_234_65, s_234_66, s_234_69, s_234_72, s_234_73, s_234_74, s_234_77, s_234_78, s_234_79, s_234_80, s_234_83, s_234_84, s_234_85, s_234_88, s_234_91, s_234_93, amLong_I, amLong_R, amLong_N, amLong_L, cond_true, cond_false, Option.toList_some, Option.toList_none, List.cons_append, List.nil_append, List.append_nil, setE, setN, cpy_set, lit, nle, nlt, neq, inb_iff, cl_nI, tle, fle, tlt, flt, teq, feq, m9, m3, x9, x3, nI_add, nsub, upN, upE, b0', b01', r100, w100, r101, w101, r102, w102, r103, w103, r104, w104, r105, w105, r106, w106, r107, w107, r108, w108, w109, w110, r111, w111, r112, w112, r113, w113, r114, w114, r115, w115, r116, w116, r117, w117, r118, w118, r119, w119, w120, w121, r122, w122, r130, w130, w131, w132, r133, w133, r134, w134, r135, w135, r136, w136, r137, w137, r138, w138, r139, w139, r140, w140, r141, w141, w142, r143, w143, r144, w144, r145, w145, r146, w146, w147, w150, b1', em1, Bool.false_eq_true, not_true_eq_false, not_false_eq_true, false_implies, true_implies, and_true, true_and, if_true, if_false, implies_true, Classical.not_not, true_or, or_true, false_or, or_false, and_self, ite_true, ite_false, reduceIte]
        exact H M4 J4 (hR.w j1 h4) (j1.fm.o h4) h4.j
    · obtain ⟨rfl, j1, j2, j3⟩ := hI
      have hs := hmem k hk
      rw [drop_c hk] at j3
      have j4 : x + ((if bo (byd sh pay (l.getD k [])) = true then 1 else 0) + byC sh pay (l.drop (k + 1))) = byC sh pay l := j3
      rw [h_234_28]
      simp (disch := omega) only [s_234_0, s_234_1, s_234_2, s_234_5, s_234_6, s_234_9, s_234_10, s_234_11, s_234_13, s_234_15, s_234_18, s_234_19, s_234_20, s_234_23, s_234_24, s_234_25, s_234_26, s_234_30, s_234_31, s_234_34, s_234_37, s_234_38, s_234_40, s_234_43, s_234_44, s_234_45, s_234_46, s_234_49, s_234_52, s_234_53, s_234_56, s_234_57, s_234_58, s_234_59, s_234_62, s_234_65, s_234_66, s_234_69, s_234_72, s_234_73, s_234_74, s_234_77, s_234_78, s_234_79, s_234_80, s_234_83, s_234_84, s_234_85, s_234_88, s_234_91, s_234_93, amLong_I, amLong_R, amLong_N, amLong_L, cond_true, cond_false, Option.toList_some, Option.toList_none, List.cons_append, List.nil_append, List.append_nil, setE, setN, cpy_set, lit, nle, nlt, neq, inb_iff, cl_nI, tle, fle, tlt, flt, teq, feq, m9, m3, x9, x3, nI_add, nsub, upN, upE, b0', b01', r100, w100, r101, w101, r102, w102, r103, w103, r104, w104, r105, w105, r106, w106, r107, w107, r108, w108, w109, w110, r111, w111, r112, w112, r113, w113, r114, w114, r115, w115, r116, w116, r117, w117, r118, w118, r119, w119, w120, w121, r122, w122, r130, w130, w131, w132, r133, w133, r134, w134, r135, w135, r136, w136, r137, w137, r138, w138, r139, w139, r140, w140, r141, w141, w142, r143, w143, r144, w144, r145, w145, r146, w146, w147, w150, b1', em1, Bool.false_eq_true, not_true_eq_false, not_false_eq_true, false_implies, true_implies, and_true, true_and, if_true, if_false, implies_true, Classical.not_not, true_or, or_true, false_or, or_false, and_self, ite_true, ite_false, reduceIte, j2.1]
      refine m224 j2 hk (fun M3 g1 g2 => ?_)
      have hK3 : Kp M M3 := j1.trans (fun c j k hc => g1 c j k (by unfold Sc at hc; omega))
      have hV3 := hK3.v (hR.v hW)
      dsimp only at hV3
      have hL3 : LM M3 l := j2.of (fun c j k hc => g1 c j k (by omega))
      have et : tks sh (plF sh pay) (M3 134 0) = tks sh (plF sh pay) (tf (l.getD k [])) := sum_tk (fun p hp => by rw [g2 p (by omega)])
      by_cases e2 : byd sh pay (l.getD k [])
      · have e3 : tks sh (plF sh pay) (tf (l.getD k [])) = nI 0 := e2
        rw [if_pos (bo_iff.mpr e2)] at j4
        simp (disch := omega) only [s_234_0, s_234_1, s_234_2, s_234_5, s_234_6, s_234_9, s_234_10, s_234_11, s_234_13, s_234_15, s_234_18, s_234_19, s_234_20, s_234_23, s_234_24, s_234_25, s_234_26, s_234_30, s_234_31, s_234_34, s_234_37, s_234_38, s_234_40, s_234_43, s_234_44, s_234_45, s_234_46, s_234_49, s_234_52, s_234_53, s_234_56, s_234_57, s_234_58, s_234_59, s_234_62, s_234_65, s_234_66, s_234_69, s_234_72, s_234_73, s_234_74, s_234_77, s_234_78, s_234_79, s_234_80, s_234_83, s_234_84, s_234_85, s_234_88, s_234_91, s_234_93, amLong_I, amLong_R, amLong_N, amLong_L, cond_true, cond_false, Option.toList_some, Option.toList_none, List.cons_append, List.nil_append, List.append_nil, setE, setN, cpy_set, lit, nle, nlt, neq, inb_iff, cl_nI, tle, fle, tlt, flt, teq, feq, m9, m3, x9, x3, nI_add, nsub, upN, upE, b0', b01', r100, w100, r101, w101, r102, w102, r103, w103, r104, w104, r105, w105, r106, w106, r107, w107, r108, w108, w109, w110, r111, w111, r112, w112, r113, w113, r114, w114, r115, w115, r116, w116, r117, w117, r118, w118, r119, w119, w120, w121, r122, w122, r130, w130, w131, w132, r133, w133, r134, w134, r135, w135, r136, w136, r137, w137, r138, w138, r139, w139, r140, w140, r141, w141, w142, r143, w143, r144, w144, r145, w145, r146, w146, w147, w150, b1', em1, Bool.false_eq_true, not_true_eq_false, not_false_eq_true, false_implies, true_implies, and_true, true_and, if_true, if_false, implies_true, Classical.not_not, true_or, or_true, false_or, or_false, and_self, ite_true, ite_false, reduceIte, m226 hV3, et, e3]
        exact next2 _ _ () (x + 1) ⟨rfl, hK3, hL3, by omega⟩
      · have e3 : ¬ tks sh (plF sh pay) (tf (l.getD k [])) = nI 0 := e2
        rw [if_neg (fun z => e2 (bo_iff.mp z))] at j4
        simp (disch := omega) only [s_234_0, s_234_1, s_234_2, s_234_5, s_234_6, s_234_9, s_234_10, s_234_11, s_234_13, s_234_15, s_234_18, s_234_19, s_234_20, s_234_23, s_234_24, s_234_25, s_234_26, s_234_30, s_234_31, s_234_34, s_234_37, s_234_38, s_234_40, s_234_43, s_234_44, s_234_45, s_234_46, s_234_49, s_234_52, s_234_53, s_234_56, s_234_57, s_234_58, s_234_59, s_234_62, s_234_65, s_234_66, s_234_69, s_234_72, s_234_73, s_234_74, s_234_77, s_234_78, s_234_79, s_234_80, s_234_83, s_234_84, s_234_85, s_234_88, s_234_91, s_234_93, amLong_I, amLong_R, amLong_N, amLong_L, cond_true, cond_false, Option.toList_some, Option.toList_none, List.cons_append, List.nil_append, List.append_nil, setE, setN, cpy_set, lit, nle, nlt, neq, inb_iff, cl_nI, tle, fle, tlt, flt, teq, feq, m9, m3, x9, x3, nI_add, nsub, upN, upE, b0', b01', r100, w100, r101, w101, r102, w102, r103, w103, r104, w104, r105, w105, r106, w106, r107, w107, r108, w108, w109, w110, r111, w111, r112, w112, r113, w113, r114, w114, r115, w115, r116, w116, r117, w117, r118, w118, r119, w119, w120, w121, r122, w122, r130, w130, w131, w132, r133, w133, r134, w134, r135, w135, r136, w136, r137, w137, r138, w138, r139, w139, r140, w140, r141, w141, w142, r143, w143, r144, w144, r145, w145, r146, w146, w147, w150, b1', em1, Bool.false_eq_true, not_true_eq_false, not_false_eq_true, false_implies, true_implies, and_true, true_and, if_true, if_false, implies_true, Classical.not_not, true_or, or_true, false_or, or_false, and_self, ite_true, ite_false, reduceIte, m226 hV3, et, e3]
        exact next2 _ _ () x ⟨rfl, hK3, hL3, by omega⟩
end BEY
