/-! a day, told as text: what can stand in it -/
def dyL (c : Nat) : Nat := if c = 112 ∨ c = 108 then 4 else if c = 109 ∨ c = 116 then 3 else 0
def ps (tx : Nat × (Nat → Nat)) : Nat → Nat
  | 0 => 0
  | k + 1 => ps tx k + dyL (tx.2 (ps tx k))
def isD (tx : Nat × (Nat → Nat)) (i : Nat) : Prop := i < tx.1 ∧ 48 ≤ tx.2 i ∧ tx.2 i ≤ 57
def isS (tx : Nat × (Nat → Nat)) (i : Nat) : Prop := i < tx.1 ∧ (tx.2 i = 43 ∨ tx.2 i = 45)
def cst (tx : Nat × (Nat → Nat)) (c pl i : Nat) : Prop := (c = 112 ∧ pl = 3 ∧ ltr tx i) ∨ (c = 108 ∧ pl = 2 ∧ isS tx i) ∨ (¬ (c = 112 ∧ pl = 3) ∧ ¬ (c = 108 ∧ pl = 2) ∧ isD tx i)
noncomputable def dyX (tx : Nat × (Nat → Nat)) (i q : Nat) : Bool := bo (¬ cst tx (tx.2 i) (q + 1) (i + (q + 1)))
noncomputable def dyF (tx : Nat × (Nat → Nat)) (i : Nat) : Option Nat := if dyL (tx.2 i) = 0 then some i else (fst1 (dyX tx i) (dyL (tx.2 i) - 1)).map (fun q => i + (q + 1))
def dgo (tx : Nat × (Nat → Nat)) (k : Nat) : Prop := ps tx k < tx.1 ∧ dyF tx (ps tx k) = none
noncomputable def dyK (tx : Nat × (Nat → Nat)) : Nat := (fst1 (fun k => bo (¬ dgo tx k)) 81).getD 0
noncomputable def dyW (tx : Nat × (Nat → Nat)) : Option Nat := if ps tx (dyK tx) < tx.1 then dyF tx (ps tx (dyK tx)) else none
theorem fst1_o {P : Nat → Bool} : ∀ {n : Nat}, fst1 P n = none → ∀ q, q < n → ¬ P q = true := by
  intro n
  induction n with
  | zero => intro _ q hq; omega
  | succ n ih =>
    intro h q hq
    unfold fst1 at h
    split at h
    · cases h
    · rename_i hn
      by_cases e : q = n
      · subst e
        intro z
        rw [if_pos z] at h
        cases h
      · exact ih hn q (by omega)
theorem dy_f {tx : Nat × (Nat → Nat)} {i : Nat} (h : dyF tx i = none) : (tx.2 i = 112 ∧ isD tx (i + 1) ∧ isD tx (i + 2) ∧ ltr tx (i + 3)) ∨ (tx.2 i = 109 ∧ isD tx (i + 1) ∧ isD tx (i + 2)) ∨ (tx.2 i = 108 ∧ isD tx (i + 1) ∧ isS tx (i + 2) ∧ isD tx (i + 3)) ∨ (tx.2 i = 116 ∧ isD tx (i + 1) ∧ isD tx (i + 2)) := by
  unfold dyF at h
  by_cases c : dyL (tx.2 i) = 0
  · rw [if_pos c] at h
    cases h
  · rw [if_neg c] at h
    have h2 := fst1_o (Option.map_eq_none_iff.mp h)
    have h3 : ∀ q, q < dyL (tx.2 i) - 1 → cst tx (tx.2 i) (q + 1) (i + (q + 1)) := fun q hq => Classical.byContradiction (fun z => h2 q hq (bo_iff.mpr z))
    have h4 := h3 0
    have h5 := h3 1
    have h6 := h3 2
    unfold cst at h4 h5 h6
    unfold dyL at h4 h5 h6 c
    by_cases c1 : tx.2 i = 112
    · rw [c1] at h4 h5 h6
      have a1 := h4 (by decide)
      have a2 := h5 (by decide)
      have a3 := h6 (by decide)
      refine Or.inl ⟨c1, ?_, ?_, ?_⟩
      · rcases a1 with z | z | z
        · omega
        · omega
        · exact z.2.2
      · rcases a2 with z | z | z
        · omega
        · omega
        · exact z.2.2
      · rcases a3 with z | z | z
        · exact z.2.2
        · omega
        · omega
    · by_cases c2 : tx.2 i = 108
      · rw [c2] at h4 h5 h6
        have a1 := h4 (by decide)
        have a2 := h5 (by decide)
        have a3 := h6 (by decide)
        refine Or.inr (Or.inr (Or.inl ⟨c2, ?_, ?_, ?_⟩))
        · rcases a1 with z | z | z
          · omega
          · omega
          · exact z.2.2
        · rcases a2 with z | z | z
          · omega
          · exact z.2.2
          · omega
        · rcases a3 with z | z | z
          · omega
          · omega
          · exact z.2.2
      · rw [if_neg (by omega)] at c h4 h5
        by_cases c3 : tx.2 i = 109 ∨ tx.2 i = 116
        · rw [if_pos c3] at h4 h5
          have a1 := h4 (by decide)
          have a2 := h5 (by decide)
          have b1 : isD tx (i + 1) := by
            rcases a1 with z | z | z
            · omega
            · omega
            · exact z.2.2
          have b2 : isD tx (i + 2) := by
            rcases a2 with z | z | z
            · omega
            · omega
            · exact z.2.2
          rcases c3 with z | z
          · exact Or.inr (Or.inl ⟨z, b1, b2⟩)
          · exact Or.inr (Or.inr (Or.inr ⟨z, b1, b2⟩))
        · rw [if_neg c3] at c
          exact absurd rfl c
theorem dy_3 {tx : Nat × (Nat → Nat)} {i : Nat} (h : dyF tx i = none) : 3 ≤ dyL (tx.2 i) ∧ dyL (tx.2 i) ≤ 4 := by
  rcases dy_f h with z | z | z | z <;> rw [z.1] <;> decide
theorem ps_3 {tx : Nat × (Nat → Nat)} : ∀ {k : Nat}, (∀ j, j < k → dgo tx j) → 3 * k ≤ ps tx k := by
  intro k
  induction k with
  | zero => intro _; exact Nat.zero_le _
  | succ k ih =>
    intro h
    have h1 := ih (fun j hj => h j (by omega))
    have h2 := (dy_3 (h k (by omega)).2).1
    show 3 * (k + 1) ≤ ps tx k + dyL (tx.2 (ps tx k))
    omega
theorem ps_27 {tx : Nat × (Nat → Nat)} {k : Nat} (hl : tx.1 ≤ 80) (h : ∀ j, j < k → dgo tx j) : k ≤ 27 ∧ ps tx k < 100 := by
  cases k with
  | zero => exact ⟨by omega, by show 0 < 100; omega⟩
  | succ k =>
    have h1 := ps_3 (k := k) (fun j hj => h j (by omega))
    have h2 := h k (by omega)
    have h3 := h2.1
    have h4 := dy_3 h2.2
    refine ⟨by omega, ?_⟩
    show ps tx k + dyL (tx.2 (ps tx k)) < 100
    omega
theorem dyK_is {tx : Nat × (Nat → Nat)} {k : Nat} (hl : tx.1 ≤ 80) (h : ∀ j, j < k → dgo tx j) (hn : ¬ dgo tx k) : dyK tx = k := by
  unfold dyK
  rw [fst1_s (P := fun k => bo (¬ dgo tx k)) (p := k) (bo_iff.mpr hn) (fun q hq z => bo_iff.mp z (h q hq)) (by have := (ps_27 hl h).1; omega)]
  rfl
theorem dyW_s {tx : Nat × (Nat → Nat)} {k w : Nat} (hl : tx.1 ≤ 80) (h : ∀ j, j < k → dgo tx j) (h1 : ps tx k < tx.1) (h2 : dyF tx (ps tx k) = some w) : dyW tx = some w := by
  have h3 := dyK_is hl h (fun z => by rw [z.2] at h2; cases h2)
  unfold dyW
  rw [h3, if_pos h1, h2]
theorem dyW_n {tx : Nat × (Nat → Nat)} {k : Nat} (hl : tx.1 ≤ 80) (h : ∀ j, j < k → dgo tx j) (h1 : ¬ ps tx k < tx.1) : dyW tx = none ∧ dyK tx = k := by
  have h3 := dyK_is hl h (fun z => h1 z.1)
  refine ⟨?_, h3⟩
  unfold dyW
  rw [h3, if_neg h1]
theorem dyK_go {tx : Nat × (Nat → Nat)} {k : Nat} (hk : k < dyK tx) : dgo tx k := by
  refine Classical.byContradiction (fun z => ?_)
  unfold dyK at hk
  cases hf : fst1 (fun k => bo (¬ dgo tx k)) 81 with
  | none => rw [hf] at hk; exact absurd hk (Nat.not_lt_zero k)
  | some n =>
    rw [hf] at hk
    have hk' : k < n := hk
    have key : ∀ {P : Nat → Bool} {m n : Nat}, fst1 P m = some n → ∀ q, q < n → ¬ P q = true := by
      intro P m
      induction m with
      | zero => intro n h; cases h
      | succ m ih =>
        intro n h q hq
        unfold fst1 at h
        split at h
        · rename_i p hp
          cases h
          exact ih hp q hq
        · rename_i hp
          by_cases e : P m = true
          · rw [if_pos e] at h
            cases h
            exact fst1_o hp q hq
          · rw [if_neg e] at h
            cases h
    exact key hf k hk' (bo_iff.mpr z)
section DAY
variable {d g t jk X sh : Nat} {M M1 M2 : amM} {J J1 J2 : amJ} {Q : Option amV → amS → Prop} {pay tok tk : Nat → Int32} {tx : Nat × (Nat → Nat)}
theorem sw145 : ∀ c, c < 256 → sw_145_1 (nI c) = some (if c = 112 ∨ c = 108 then 52 else if c = 109 ∨ c = 116 then 54 else 56) := by decide +kernel
theorem c145 {c : Nat} (hc : c < 256) : Call (d + 1) 145 [vI (nI c)] (M, J, (jk, 149, 147, X)) Q ↔ Q (some (vI (nI (dyL c)))) (M, J, (jk, 149, 147, X)) := by
  have hs := sw145 c hc
  unfold dyL
  rw [e_145]
  by_cases h1 : c = 112 ∨ c = 108
  · rw [if_pos h1] at hs ⊢
    simp (disch := omega) only [s_145_0, s_145_1, s_145_52, s_145_53, s_145_54, s_145_55, s_145_56, s_145_57, amLong_I, amLong_R, amLong_N, amLong_L, cond_true, cond_false, Option.toList_some, Option.toList_none, List.cons_append, List.nil_append, List.append_nil, setE, setN, cpy_set, lit, nle, nlt, neq, inb_iff, cl_nI, tle, fle, tlt, flt, teq, feq, m9, m3, x9, x3, nI_add, nsub, upN, upE, b0', b01', r100, w100, r101, w101, r102, w102, r103, w103, r104, w104, r105, w105, r106, w106, r107, w107, r108, w108, w109, w110, r111, w111, r112, w112, r113, w113, r114, w114, r115, w115, r116, w116, r117, w117, r118, w118, r119, w119, w120, w121, r122, w122, r130, w130, w131, w132, r133, w133, r134, w134, r135, w135, r136, w136, r137, w137, r138, w138, r139, w139, r140, w140, r141, w141, w142, r143, w143, r144, w144, r145, w145, r146, w146, w147, w150, b1', em1, Bool.false_eq_true, not_true_eq_false, not_false_eq_true, false_implies, true_implies, and_true, true_and, if_true, if_false, implies_true, Classical.not_not, true_or, or_true, false_or, or_false, and_self, ite_true, ite_false, reduceIte, ex_s, hs]
  · rw [if_neg h1] at hs ⊢
    by_cases h2 : c = 109 ∨ c = 116
    · rw [if_pos h2] at hs ⊢
      simp (disch := omega) only [s_145_0, s_145_1, s_145_52, s_145_53, s_145_54, s_145_55, s_145_56, s_145_57, amLong_I, amLong_R, amLong_N, amLong_L, cond_true, cond_false, Option.toList_some, Option.toList_none, List.cons_append, List.nil_append, List.append_nil, setE, setN, cpy_set, lit, nle, nlt, neq, inb_iff, cl_nI, tle, fle, tlt, flt, teq, feq, m9, m3, x9, x3, nI_add, nsub, upN, upE, b0', b01', r100, w100, r101, w101, r102, w102, r103, w103, r104, w104, r105, w105, r106, w106, r107, w107, r108, w108, w109, w110, r111, w111, r112, w112, r113, w113, r114, w114, r115, w115, r116, w116, r117, w117, r118, w118, r119, w119, w120, w121, r122, w122, r130, w130, w131, w132, r133, w133, r134, w134, r135, w135, r136, w136, r137, w137, r138, w138, r139, w139, r140, w140, r141, w141, w142, r143, w143, r144, w144, r145, w145, r146, w146, w147, w150, b1', em1, Bool.false_eq_true, not_true_eq_false, not_false_eq_true, false_implies, true_implies, and_true, true_and, if_true, if_false, implies_true, Classical.not_not, true_or, or_true, false_or, or_false, and_self, ite_true, ite_false, reduceIte, ex_s, hs]
    · rw [if_neg h2] at hs ⊢
      simp (disch := omega) only [s_145_0, s_145_1, s_145_52, s_145_53, s_145_54, s_145_55, s_145_56, s_145_57, amLong_I, amLong_R, amLong_N, amLong_L, cond_true, cond_false, Option.toList_some, Option.toList_none, List.cons_append, List.nil_append, List.append_nil, setE, setN, cpy_set, lit, nle, nlt, neq, inb_iff, cl_nI, tle, fle, tlt, flt, teq, feq, m9, m3, x9, x3, nI_add, nsub, upN, upE, b0', b01', r100, w100, r101, w101, r102, w102, r103, w103, r104, w104, r105, w105, r106, w106, r107, w107, r108, w108, w109, w110, r111, w111, r112, w112, r113, w113, r114, w114, r115, w115, r116, w116, r117, w117, r118, w118, r119, w119, w120, w121, r122, w122, r130, w130, w131, w132, r133, w133, r134, w134, r135, w135, r136, w136, r137, w137, r138, w138, r139, w139, r140, w140, r141, w141, w142, r143, w143, r144, w144, r145, w145, r146, w146, w147, w150, b1', em1, Bool.false_eq_true, not_true_eq_false, not_false_eq_true, false_implies, true_implies, and_true, true_and, if_true, if_false, implies_true, Classical.not_not, true_or, or_true, false_or, or_false, and_self, ite_true, ite_false, reduceIte, ex_s, hs]
theorem c146 {c pl i : Nat} (hT : TX M tx) (hb : ∀ k, tx.2 k < 256) (hc : c < 256) (hp : pl < 10) (hi : i < 1000) : Call (d + 3) 146 [vR 10 0, vI (nI c), vI (nI pl), vI (nI i)] (M, J, (jk, 149, 147, X)) Q ↔ Q (some (vI (bI (bo (cst tx c pl i) = true)))) (M, J, (jk, 149, 147, X)) := by
  have hdg := dg_in (x := tx) (i := i) hb
  refine pureC (fun Q hQ => ?_)
  rw [e_146]
  by_cases h1 : c = 112 ∧ pl = 3
  · rw [bI_c (c' := bo (ltr tx i) = true) (by
      rw [bo_iff, bo_iff]
      unfold cst
      exact ⟨fun z => by
        rcases z with z | z | z
        · exact z.2.2
        · omega
        · exact absurd h1 z.1, fun z => Or.inl ⟨h1.1, h1.2, z⟩⟩)] at hQ
    simp (disch := omega) only [s_146_0, s_146_1, s_146_3, s_146_6, s_146_7, s_146_8, s_146_11, s_146_12, s_146_13, s_146_16, s_146_17, s_146_18, s_146_20, s_146_23, s_146_24, s_146_25, s_146_28, s_146_29, s_146_30, s_146_33, s_146_35, s_146_38, s_146_39, s_146_40, s_146_43, s_146_45, s_146_48, s_146_49, s_146_52, s_146_53, s_146_54, s_146_55, s_146_56, s_146_59, amLong_I, amLong_R, amLong_N, amLong_L, cond_true, cond_false, Option.toList_some, Option.toList_none, List.cons_append, List.nil_append, List.append_nil, setE, setN, cpy_set, lit, nle, nlt, neq, inb_iff, cl_nI, tle, fle, tlt, flt, teq, feq, m9, m3, x9, x3, nI_add, nsub, upN, upE, b0', b01', r100, w100, r101, w101, r102, w102, r103, w103, r104, w104, r105, w105, r106, w106, r107, w107, r108, w108, w109, w110, r111, w111, r112, w112, r113, w113, r114, w114, r115, w115, r116, w116, r117, w117, r118, w118, r119, w119, w120, w121, r122, w122, r130, w130, w131, w132, r133, w133, r134, w134, r135, w135, r136, w136, r137, w137, r138, w138, r139, w139, r140, w140, r141, w141, w142, r143, w143, r144, w144, r145, w145, r146, w146, w147, w150, b1', em1, Bool.false_eq_true, not_true_eq_false, not_false_eq_true, false_implies, true_implies, and_true, true_and, if_true, if_false, implies_true, Classical.not_not, true_or, or_true, false_or, or_false, and_self, ite_true, ite_false, reduceIte, c28 hT hb]
    exact hQ
  · by_cases h2 : c = 108 ∧ pl = 2
    · have es : bo (cst tx c pl i) = true ↔ (chr tx i = nI 43 ∨ chr tx i = nI 45) := by
        rw [bo_iff]
        unfold cst isS
        constructor
        · intro z
          rcases z with z | z | z
          · omega
          · unfold chr
            rw [if_pos z.2.2.1]
            rcases z.2.2.2 with y | y
            · exact Or.inl (by rw [y])
            · exact Or.inr (by rw [y])
          · exact absurd h2 z.2.1
        · rintro (z | z)
          · have := chr_of hb (by decide) z
            exact Or.inr (Or.inl ⟨h2.1, h2.2, this.1, Or.inl this.2⟩)
          · have := chr_of hb (by decide) z
            exact Or.inr (Or.inl ⟨h2.1, h2.2, this.1, Or.inr this.2⟩)
      rw [bI_c es] at hQ
      by_cases a1 : chr tx i = nI 43
      · rw [bI_t (Or.inl a1)] at hQ
        simp (disch := omega) only [s_146_0, s_146_1, s_146_3, s_146_6, s_146_7, s_146_8, s_146_11, s_146_12, s_146_13, s_146_16, s_146_17, s_146_18, s_146_20, s_146_23, s_146_24, s_146_25, s_146_28, s_146_29, s_146_30, s_146_33, s_146_35, s_146_38, s_146_39, s_146_40, s_146_43, s_146_45, s_146_48, s_146_49, s_146_52, s_146_53, s_146_54, s_146_55, s_146_56, s_146_59, amLong_I, amLong_R, amLong_N, amLong_L, cond_true, cond_false, Option.toList_some, Option.toList_none, List.cons_append, List.nil_append, List.append_nil, setE, setN, cpy_set, lit, nle, nlt, neq, inb_iff, cl_nI, tle, fle, tlt, flt, teq, feq, m9, m3, x9, x3, nI_add, nsub, upN, upE, b0', b01', r100, w100, r101, w101, r102, w102, r103, w103, r104, w104, r105, w105, r106, w106, r107, w107, r108, w108, w109, w110, r111, w111, r112, w112, r113, w113, r114, w114, r115, w115, r116, w116, r117, w117, r118, w118, r119, w119, w120, w121, r122, w122, r130, w130, w131, w132, r133, w133, r134, w134, r135, w135, r136, w136, r137, w137, r138, w138, r139, w139, r140, w140, r141, w141, w142, r143, w143, r144, w144, r145, w145, r146, w146, w147, w150, b1', em1, Bool.false_eq_true, not_true_eq_false, not_false_eq_true, false_implies, true_implies, and_true, true_and, if_true, if_false, implies_true, Classical.not_not, true_or, or_true, false_or, or_false, and_self, ite_true, ite_false, reduceIte, c25 hT, a1]
        exact hQ
      · by_cases a2 : chr tx i = nI 45
        · rw [bI_t (Or.inr a2)] at hQ
          have a3 : ¬ nI 45 = nI 43 := by decide
          simp (disch := omega) only [s_146_0, s_146_1, s_146_3, s_146_6, s_146_7, s_146_8, s_146_11, s_146_12, s_146_13, s_146_16, s_146_17, s_146_18, s_146_20, s_146_23, s_146_24, s_146_25, s_146_28, s_146_29, s_146_30, s_146_33, s_146_35, s_146_38, s_146_39, s_146_40, s_146_43, s_146_45, s_146_48, s_146_49, s_146_52, s_146_53, s_146_54, s_146_55, s_146_56, s_146_59, amLong_I, amLong_R, amLong_N, amLong_L, cond_true, cond_false, Option.toList_some, Option.toList_none, List.cons_append, List.nil_append, List.append_nil, setE, setN, cpy_set, lit, nle, nlt, neq, inb_iff, cl_nI, tle, fle, tlt, flt, teq, feq, m9, m3, x9, x3, nI_add, nsub, upN, upE, b0', b01', r100, w100, r101, w101, r102, w102, r103, w103, r104, w104, r105, w105, r106, w106, r107, w107, r108, w108, w109, w110, r111, w111, r112, w112, r113, w113, r114, w114, r115, w115, r116, w116, r117, w117, r118, w118, r119, w119, w120, w121, r122, w122, r130, w130, w131, w132, r133, w133, r134, w134, r135, w135, r136, w136, r137, w137, r138, w138, r139, w139, r140, w140, r141, w141, w142, r143, w143, r144, w144, r145, w145, r146, w146, w147, w150, b1', em1, Bool.false_eq_true, not_true_eq_false, not_false_eq_true, false_implies, true_implies, and_true, true_and, if_true, if_false, implies_true, Classical.not_not, true_or, or_true, false_or, or_false, and_self, ite_true, ite_false, reduceIte, c25 hT, a2, a3]
          exact hQ
        · rw [bI_f (fun z => z.elim a1 a2)] at hQ
          simp (disch := omega) only [s_146_0, s_146_1, s_146_3, s_146_6, s_146_7, s_146_8, s_146_11, s_146_12, s_146_13, s_146_16, s_146_17, s_146_18, s_146_20, s_146_23, s_146_24, s_146_25, s_146_28, s_146_29, s_146_30, s_146_33, s_146_35, s_146_38, s_146_39, s_146_40, s_146_43, s_146_45, s_146_48, s_146_49, s_146_52, s_146_53, s_146_54, s_146_55, s_146_56, s_146_59, amLong_I, amLong_R, amLong_N, amLong_L, cond_true, cond_false, Option.toList_some, Option.toList_none, List.cons_append, List.nil_append, List.append_nil, setE, setN, cpy_set, lit, nle, nlt, neq, inb_iff, cl_nI, tle, fle, tlt, flt, teq, feq, m9, m3, x9, x3, nI_add, nsub, upN, upE, b0', b01', r100, w100, r101, w101, r102, w102, r103, w103, r104, w104, r105, w105, r106, w106, r107, w107, r108, w108, w109, w110, r111, w111, r112, w112, r113, w113, r114, w114, r115, w115, r116, w116, r117, w117, r118, w118, r119, w119, w120, w121, r122, w122, r130, w130, w131, w132, r133, w133, r134, w134, r135, w135, r136, w136, r137, w137, r138, w138, r139, w139, r140, w140, r141, w141, w142, r143, w143, r144, w144, r145, w145, r146, w146, w147, w150, b1', em1, Bool.false_eq_true, not_true_eq_false, not_false_eq_true, false_implies, true_implies, and_true, true_and, if_true, if_false, implies_true, Classical.not_not, true_or, or_true, false_or, or_false, and_self, ite_true, ite_false, reduceIte, c25 hT, a1, a2]
          exact hQ
    · have es : bo (cst tx c pl i) = true ↔ (nI 48 ≤ chr tx i ∧ chr tx i ≤ nI 57) := by
        rw [bo_iff, hdg]
        unfold cst isD
        constructor
        · intro z
          rcases z with z | z | z
          · exact absurd ⟨z.1, z.2.1⟩ h1
          · exact absurd ⟨z.1, z.2.1⟩ h2
          · exact z.2.2
        · exact fun z => Or.inr (Or.inr ⟨h1, h2, z⟩)
      rw [bI_c es] at hQ
      by_cases e1 : c = 112
      · simp (disch := omega) only [s_146_0, s_146_1, s_146_3, s_146_6, s_146_7, s_146_8, s_146_11, s_146_12, s_146_13, s_146_16, s_146_17, s_146_18, s_146_20, s_146_23, s_146_24, s_146_25, s_146_28, s_146_29, s_146_30, s_146_33, s_146_35, s_146_38, s_146_39, s_146_40, s_146_43, s_146_45, s_146_48, s_146_49, s_146_52, s_146_53, s_146_54, s_146_55, s_146_56, s_146_59, amLong_I, amLong_R, amLong_N, amLong_L, cond_true, cond_false, Option.toList_some, Option.toList_none, List.cons_append, List.nil_append, List.append_nil, setE, setN, cpy_set, lit, nle, nlt, neq, inb_iff, cl_nI, tle, fle, tlt, flt, teq, feq, m9, m3, x9, x3, nI_add, nsub, upN, upE, b0', b01', r100, w100, r101, w101, r102, w102, r103, w103, r104, w104, r105, w105, r106, w106, r107, w107, r108, w108, w109, w110, r111, w111, r112, w112, r113, w113, r114, w114, r115, w115, r116, w116, r117, w117, r118, w118, r119, w119, w120, w121, r122, w122, r130, w130, w131, w132, r133, w133, r134, w134, r135, w135, r136, w136, r137, w137, r138, w138, r139, w139, r140, w140, r141, w141, w142, r143, w143, r144, w144, r145, w145, r146, w146, w147, w150, b1', em1, Bool.false_eq_true, not_true_eq_false, not_false_eq_true, false_implies, true_implies, and_true, true_and, if_true, if_false, implies_true, Classical.not_not, true_or, or_true, false_or, or_false, and_self, ite_true, ite_false, reduceIte, c37 hT]
        exact hQ
      · by_cases e2 : c = 108
        · simp (disch := omega) only [s_146_0, s_146_1, s_146_3, s_146_6, s_146_7, s_146_8, s_146_11, s_146_12, s_146_13, s_146_16, s_146_17, s_146_18, s_146_20, s_146_23, s_146_24, s_146_25, s_146_28, s_146_29, s_146_30, s_146_33, s_146_35, s_146_38, s_146_39, s_146_40, s_146_43, s_146_45, s_146_48, s_146_49, s_146_52, s_146_53, s_146_54, s_146_55, s_146_56, s_146_59, amLong_I, amLong_R, amLong_N, amLong_L, cond_true, cond_false, Option.toList_some, Option.toList_none, List.cons_append, List.nil_append, List.append_nil, setE, setN, cpy_set, lit, nle, nlt, neq, inb_iff, cl_nI, tle, fle, tlt, flt, teq, feq, m9, m3, x9, x3, nI_add, nsub, upN, upE, b0', b01', r100, w100, r101, w101, r102, w102, r103, w103, r104, w104, r105, w105, r106, w106, r107, w107, r108, w108, w109, w110, r111, w111, r112, w112, r113, w113, r114, w114, r115, w115, r116, w116, r117, w117, r118, w118, r119, w119, w120, w121, r122, w122, r130, w130, w131, w132, r133, w133, r134, w134, r135, w135, r136, w136, r137, w137, r138, w138, r139, w139, r140, w140, r141, w141, w142, r143, w143, r144, w144, r145, w145, r146, w146, w147, w150, b1', em1, Bool.false_eq_true, not_true_eq_false, not_false_eq_true, false_implies, true_implies, and_true, true_and, if_true, if_false, implies_true, Classical.not_not, true_or, or_true, false_or, or_false, and_self, ite_true, ite_false, reduceIte, c37 hT]
          exact hQ
        · simp (disch := omega) only [s_146_0, s_146_1, s_146_3, s_146_6, s_146_7, s_146_8, s_146_11, s_146_12, s_146_13, s_146_16, s_146_17, s_146_18, s_146_20, s_146_23, s_146_24, s_146_25, s_146_28, s_146_29, s_146_30, s_146_33, s_146_35, s_146_38, s_146_39, s_146_40, s_146_43, s_146_45, s_146_48, s_146_49, s_146_52, s_146_53, s_146_54, s_146_55, s_146_56, s_146_59, amLong_I, amLong_R, amLong_N, amLong_L, cond_true, cond_false, Option.toList_some, Option.toList_none, List.cons_append, List.nil_append, List.append_nil, setE, setN, cpy_set, lit, nle, nlt, neq, inb_iff, cl_nI, tle, fle, tlt, flt, teq, feq, m9, m3, x9, x3, nI_add, nsub, upN, upE, b0', b01', r100, w100, r101, w101, r102, w102, r103, w103, r104, w104, r105, w105, r106, w106, r107, w107, r108, w108, w109, w110, r111, w111, r112, w112, r113, w113, r114, w114, r115, w115, r116, w116, r117, w117, r118, w118, r119, w119, w120, w121, r122, w122, r130, w130, w131, w132, r133, w133, r134, w134, r135, w135, r136, w136, r137, w137, r138, w138, r139, w139, r140, w140, r141, w141, w142, r143, w143, r144, w144, r145, w145, r146, w146, w147, w150, b1', em1, Bool.false_eq_true, not_true_eq_false, not_false_eq_true, false_implies, true_implies, and_true, true_and, if_true, if_false, implies_true, Classical.not_not, true_or, or_true, false_or, or_false, and_self, ite_true, ite_false, reduceIte, c37 hT]
          exact hQ
noncomputable def dyR (tx : Nat × (Nat → Nat)) : Int32 := match dyW tx with
  | some w => nI w
  | none => -nI 1
theorem dyR_s {w : Nat} (h : dyW tx = some w) : dyR tx = nI w := by
  unfold dyR
  rw [h]
theorem dyR_n (h : dyW tx = none) : dyR tx = -nI 1 := by
  unfold dyR
  rw [h]
theorem c144 (hT : TX M tx) (hb : ∀ k, tx.2 k < 256) : Call (d + 4) 144 [vR 10 0] (M, J, (jk, 149, 147, X)) Q ↔ Q (some (vI (dyR tx))) (M, J, (jk, 149, 147, X)) := by
  have hl := hT.2.1
  have x1' := hT.1
  refine pureC (fun Q hQ => ?_)
  rw [e_144]
  simp (disch := omega) only [s_144_0, s_144_1, s_144_2, s_144_3, s_144_5, s_144_7, s_144_10, s_144_11, s_144_12, s_144_15, s_144_18, s_144_19, s_144_20, s_144_23, s_144_24, s_144_25, s_144_28, s_144_30, s_144_32, s_144_35, s_144_36, s_144_37, s_144_38, s_144_42, s_144_44, s_144_47, s_144_48, s_144_49, s_144_51, s_144_52, s_144_54, s_144_55, s_144_58, s_144_61, s_144_62, s_144_64, s_144_65, s_144_66, s_144_69, s_144_72, s_144_73, s_144_75, s_144_76, s_144_77, s_144_80, s_144_83, s_144_84, amLong_I, amLong_R, amLong_N, amLong_L, cond_true, cond_false, Option.toList_some, Option.toList_none, List.cons_append, List.nil_append, List.append_nil, setE, setN, cpy_set, lit, nle, nlt, neq, inb_iff, cl_nI, tle, fle, tlt, flt, teq, feq, m9, m3, x9, x3, nI_add, nsub, upN, upE, b0', b01', r100, w100, r101, w101, r102, w102, r103, w103, r104, w104, r105, w105, r106, w106, r107, w107, r108, w108, w109, w110, r111, w111, r112, w112, r113, w113, r114, w114, r115, w115, r116, w116, r117, w117, r118, w118, r119, w119, w120, w121, r122, w122, r130, w130, w131, w132, r133, w133, r134, w134, r135, w135, r136, w136, r137, w137, r138, w138, r139, w139, r140, w140, r141, w141, w142, r143, w143, r144, w144, r145, w145, r146, w146, w147, w150, b1', em1, Bool.false_eq_true, not_true_eq_false, not_false_eq_true, false_implies, true_implies, and_true, true_and, if_true, if_false, implies_true, Classical.not_not, true_or, or_true, false_or, or_false, and_self, ite_true, ite_false, reduceIte]
  refine lpP (U := Option amV × Option amV × Option amV) (P := 80) (E := fun k u => Ev (d + 3) 144 4 [some (vR 10 (0)), some (vI (nI (ps tx k))), some (vI (nI k)), u.1, u.2.1, u.2.2] [] (M, J, (jk, 149, 147, X)) Q) (I := fun k => ∀ j, j < k → dgo tx j) (fun u hI => ?_) (fun y u hy hI next => ?_) 0 (none, none, none) (by omega) (no_lt _)
  · have := (ps_27 hl hI).1
    omega
  · have h27 := ps_27 hl hI
    have hbp := hb (ps tx y)
    rw [h_144_4]
    by_cases c0 : ps tx y < tx.1
    · have hc : chr tx (ps tx y) = nI (tx.2 (ps tx y)) := if_pos c0
      by_cases cl : dyL (tx.2 (ps tx y)) = 0
      · rw [dyR_s (dyW_s hl hI c0 (by unfold dyF; rw [if_pos cl]))] at hQ
        simp (disch := omega) only [s_144_0, s_144_1, s_144_2, s_144_3, s_144_5, s_144_7, s_144_10, s_144_11, s_144_12, s_144_15, s_144_18, s_144_19, s_144_20, s_144_23, s_144_24, s_144_25, s_144_28, s_144_30, s_144_32, s_144_35, s_144_36, s_144_37, s_144_38, s_144_42, s_144_44, s_144_47, s_144_48, s_144_49, s_144_51, s_144_52, s_144_54, s_144_55, s_144_58, s_144_61, s_144_62, s_144_64, s_144_65, s_144_66, s_144_69, s_144_72, s_144_73, s_144_75, s_144_76, s_144_77, s_144_80, s_144_83, s_144_84, amLong_I, amLong_R, amLong_N, amLong_L, cond_true, cond_false, Option.toList_some, Option.toList_none, List.cons_append, List.nil_append, List.append_nil, setE, setN, cpy_set, lit, nle, nlt, neq, inb_iff, cl_nI, tle, fle, tlt, flt, teq, feq, m9, m3, x9, x3, nI_add, nsub, upN, upE, b0', b01', r100, w100, r101, w101, r102, w102, r103, w103, r104, w104, r105, w105, r106, w106, r107, w107, r108, w108, w109, w110, r111, w111, r112, w112, r113, w113, r114, w114, r115, w115, r116, w116, r117, w117, r118, w118, r119, w119, w120, w121, r122, w122, r130, w130, w131, w132, r133, w133, r134, w134, r135, w135, r136, w136, r137, w137, r138, w138, r139, w139, r140, w140, r141, w141, w142, r143, w143, r144, w144, r145, w145, r146, w146, w147, w150, b1', em1, Bool.false_eq_true, not_true_eq_false, not_false_eq_true, false_implies, true_implies, and_true, true_and, if_true, if_false, implies_true, Classical.not_not, true_or, or_true, false_or, or_false, and_self, ite_true, ite_false, reduceIte, x1', c25 hT, hc, c145 hbp, cl]
        exact hQ
      · have hL4 : dyL (tx.2 (ps tx y)) ≤ 4 := by
          unfold dyL
          split
          · omega
          · split <;> omega
        simp (disch := omega) only [s_144_0, s_144_1, s_144_2, s_144_3, s_144_5, s_144_7, s_144_10, s_144_11, s_144_12, s_144_15, s_144_18, s_144_19, s_144_20, s_144_23, s_144_24, s_144_25, s_144_28, s_144_30, s_144_32, s_144_35, s_144_36, s_144_37, s_144_38, s_144_42, s_144_44, s_144_47, s_144_48, s_144_49, s_144_51, s_144_52, s_144_54, s_144_55, s_144_58, s_144_61, s_144_62, s_144_64, s_144_65, s_144_66, s_144_69, s_144_72, s_144_73, s_144_75, s_144_76, s_144_77, s_144_80, s_144_83, s_144_84, amLong_I, amLong_R, amLong_N, amLong_L, cond_true, cond_false, Option.toList_some, Option.toList_none, List.cons_append, List.nil_append, List.append_nil, setE, setN, cpy_set, lit, nle, nlt, neq, inb_iff, cl_nI, tle, fle, tlt, flt, teq, feq, m9, m3, x9, x3, nI_add, nsub, upN, upE, b0', b01', r100, w100, r101, w101, r102, w102, r103, w103, r104, w104, r105, w105, r106, w106, r107, w107, r108, w108, w109, w110, r111, w111, r112, w112, r113, w113, r114, w114, r115, w115, r116, w116, r117, w117, r118, w118, r119, w119, w120, w121, r122, w122, r130, w130, w131, w132, r133, w133, r134, w134, r135, w135, r136, w136, r137, w137, r138, w138, r139, w139, r140, w140, r141, w141, w142, r143, w143, r144, w144, r145, w145, r146, w146, w147, w150, b1', em1, Bool.false_eq_true, not_true_eq_false, not_false_eq_true, false_implies, true_implies, and_true, true_and, if_true, if_false, implies_true, Classical.not_not, true_or, or_true, false_or, or_false, and_self, ite_true, ite_false, reduceIte, x1', c25 hT, hc, c145 hbp, cl]
        refine lpP (U := Unit) (P := dyL (tx.2 (ps tx y))) (E := fun k u => Ev (d + 3) 144 40 [some (vR 10 (0)), some (vI (nI (ps tx y))), some (vI (nI y)), some (vI (nI (tx.2 (ps tx y)))), some (vI (nI (dyL (tx.2 (ps tx y))))), some (vI (nI k))] [] (M, J, (jk, 149, 147, X)) Q) (I := fun k => 1 ≤ k ∧ ∀ q, q + 1 < k → ¬ dyX tx (ps tx y) q = true) (fun u2 hI2 => ?_) (fun z u2 hz hI2 next2 => ?_) 1 () (by omega) ⟨Nat.le_refl 1, fun q hq => by omega⟩
        · have hgo : dgo tx y := ⟨c0, by
            unfold dyF
            rw [if_neg cl, fst1_n (fun q hq => hI2.2 q (by omega))]
            rfl⟩
          rw [h_144_40]
          simp (disch := omega) only [s_144_0, s_144_1, s_144_2, s_144_3, s_144_5, s_144_7, s_144_10, s_144_11, s_144_12, s_144_15, s_144_18, s_144_19, s_144_20, s_144_23, s_144_24, s_144_25, s_144_28, s_144_30, s_144_32, s_144_35, s_144_36, s_144_37, s_144_38, s_144_42, s_144_44, s_144_47, s_144_48, s_144_49, s_144_51, s_144_52, s_144_54, s_144_55, s_144_58, s_144_61, s_144_62, s_144_64, s_144_65, s_144_66, s_144_69, s_144_72, s_144_73, s_144_75, s_144_76, s_144_77, s_144_80, s_144_83, s_144_84, amLong_I, amLong_R, amLong_N, amLong_L, cond_true, cond_false, Option.toList_some, Option.toList_none, List.cons_append, List.nil_append, List.append_nil, setE, setN, cpy_set, lit, nle, nlt, neq, inb_iff, cl_nI, tle, fle, tlt, flt, teq, feq, m9, m3, x9, x3, nI_add, nsub, upN, upE, b0', b01', r100, w100, r101, w101, r102, w102, r103, w103, r104, w104, r105, w105, r106, w106, r107, w107, r108, w108, w109, w110, r111, w111, r112, w112, r113, w113, r114, w114, r115, w115, r116, w116, r117, w117, r118, w118, r119, w119, w120, w121, r122, w122, r130, w130, w131, w132, r133, w133, r134, w134, r135, w135, r136, w136, r137, w137, r138, w138, r139, w139, r140, w140, r141, w141, w142, r143, w143, r144, w144, r145, w145, r146, w146, w147, w150, b1', em1, Bool.false_eq_true, not_true_eq_false, not_false_eq_true, false_implies, true_implies, and_true, true_and, if_true, if_false, implies_true, Classical.not_not, true_or, or_true, false_or, or_false, and_self, ite_true, ite_false, reduceIte]
          exact next (ext_lt hI hgo) (_, _, _)
        · obtain ⟨q, rfl⟩ : ∃ q, z = q + 1 := ⟨z - 1, by omega⟩
          rw [h_144_40]
          by_cases cs : cst tx (tx.2 (ps tx y)) (q + 1) (ps tx y + (q + 1))
          · have cs' := bo_iff.mpr cs
            simp (disch := omega) only [s_144_0, s_144_1, s_144_2, s_144_3, s_144_5, s_144_7, s_144_10, s_144_11, s_144_12, s_144_15, s_144_18, s_144_19, s_144_20, s_144_23, s_144_24, s_144_25, s_144_28, s_144_30, s_144_32, s_144_35, s_144_36, s_144_37, s_144_38, s_144_42, s_144_44, s_144_47, s_144_48, s_144_49, s_144_51, s_144_52, s_144_54, s_144_55, s_144_58, s_144_61, s_144_62, s_144_64, s_144_65, s_144_66, s_144_69, s_144_72, s_144_73, s_144_75, s_144_76, s_144_77, s_144_80, s_144_83, s_144_84, amLong_I, amLong_R, amLong_N, amLong_L, cond_true, cond_false, Option.toList_some, Option.toList_none, List.cons_append, List.nil_append, List.append_nil, setE, setN, cpy_set, lit, nle, nlt, neq, inb_iff, cl_nI, tle, fle, tlt, flt, teq, feq, m9, m3, x9, x3, nI_add, nsub, upN, upE, b0', b01', r100, w100, r101, w101, r102, w102, r103, w103, r104, w104, r105, w105, r106, w106, r107, w107, r108, w108, w109, w110, r111, w111, r112, w112, r113, w113, r114, w114, r115, w115, r116, w116, r117, w117, r118, w118, r119, w119, w120, w121, r122, w122, r130, w130, w131, w132, r133, w133, r134, w134, r135, w135, r136, w136, r137, w137, r138, w138, r139, w139, r140, w140, r141, w141, w142, r143, w143, r144, w144, r145, w145, r146, w146, w147, w150, b1', em1, Bool.false_eq_true, not_true_eq_false, not_false_eq_true, false_implies, true_implies, and_true, true_and, if_true, if_false, implies_true, Classical.not_not, true_or, or_true, false_or, or_false, and_self, ite_true, ite_false, reduceIte, c146 hT hb, hbp, cs']
            refine next2 ⟨by omega, fun p hp => ?_⟩ ()
            by_cases e : p = q
            · subst e
              exact fun z => bo_iff.mp z cs
            · exact hI2.2 p (by omega)
          · have cs' : ¬ bo (cst tx (tx.2 (ps tx y)) (q + 1) (ps tx y + (q + 1))) = true := fun z => cs (bo_iff.mp z)
            rw [dyR_s (w := ps tx y + (q + 1)) (dyW_s hl hI c0 (by
              unfold dyF
              rw [if_neg cl, fst1_s (p := q) (bo_iff.mpr cs) (fun p hp => hI2.2 p (by omega)) (by omega)]
              rfl))] at hQ
            simp (disch := omega) only [s_144_0, s_144_1, s_144_2, s_144_3, s_144_5, s_144_7, s_144_10, s_144_11, s_144_12, s_144_15, s_144_18, s_144_19, s_144_20, s_144_23, s_144_24, s_144_25, s_144_28, s_144_30, s_144_32, s_144_35, s_144_36, s_144_37, s_144_38, s_144_42, s_144_44, s_144_47, s_144_48, s_144_49, s_144_51, s_144_52, s_144_54, s_144_55, s_144_58, s_144_61, s_144_62, s_144_64, s_144_65, s_144_66, s_144_69, s_144_72, s_144_73, s_144_75, s_144_76, s_144_77, s_144_80, s_144_83, s_144_84, amLong_I, amLong_R, amLong_N, amLong_L, cond_true, cond_false, Option.toList_some, Option.toList_none, List.cons_append, List.nil_append, List.append_nil, setE, setN, cpy_set, lit, nle, nlt, neq, inb_iff, cl_nI, tle, fle, tlt, flt, teq, feq, m9, m3, x9, x3, nI_add, nsub, upN, upE, b0', b01', r100, w100, r101, w101, r102, w102, r103, w103, r104, w104, r105, w105, r106, w106, r107, w107, r108, w108, w109, w110, r111, w111, r112, w112, r113, w113, r114, w114, r115, w115, r116, w116, r117, w117, r118, w118, r119, w119, w120, w121, r122, w122, r130, w130, w131, w132, r133, w133, r134, w134, r135, w135, r136, w136, r137, w137, r138, w138, r139, w139, r140, w140, r141, w141, w142, r143, w143, r144, w144, r145, w145, r146, w146, w147, w150, b1', em1, Bool.false_eq_true, not_true_eq_false, not_false_eq_true, false_implies, true_implies, and_true, true_and, if_true, if_false, implies_true, Classical.not_not, true_or, or_true, false_or, or_false, and_self, ite_true, ite_false, reduceIte, c146 hT hb, hbp, cs']
            exact hQ
    · rw [dyR_n (dyW_n hl hI c0).1] at hQ
      simp (disch := omega) only [s_144_0, s_144_1, s_144_2, s_144_3, s_144_5, s_144_7, s_144_10, s_144_11, s_144_12, s_144_15, s_144_18, s_144_19, s_144_20, s_144_23, s_144_24, s_144_25, s_144_28, s_144_30, s_144_32, s_144_35, s_144_36, s_144_37, s_144_38, s_144_42, s_144_44, s_144_47, s_144_48, s_144_49, s_144_51, s_144_52, s_144_54, s_144_55, s_144_58, s_144_61, s_144_62, s_144_64, s_144_65, s_144_66, s_144_69, s_144_72, s_144_73, s_144_75, s_144_76, s_144_77, s_144_80, s_144_83, s_144_84, amLong_I, amLong_R, amLong_N, amLong_L, cond_true, cond_false, Option.toList_some, Option.toList_none, List.cons_append, List.nil_append, List.append_nil, setE, setN, cpy_set, lit, nle, nlt, neq, inb_iff, cl_nI, tle, fle, tlt, flt, teq, feq, m9, m3, x9, x3, nI_add, nsub, upN, upE, b0', b01', r100, w100, r101, w101, r102, w102, r103, w103, r104, w104, r105, w105, r106, w106, r107, w107, r108, w108, w109, w110, r111, w111, r112, w112, r113, w113, r114, w114, r115, w115, r116, w116, r117, w117, r118, w118, r119, w119, w120, w121, r122, w122, r130, w130, w131, w132, r133, w133, r134, w134, r135, w135, r136, w136, r137, w137, r138, w138, r139, w139, r140, w140, r141, w141, w142, r143, w143, r144, w144, r145, w145, r146, w146, w147, w150, b1', em1, Bool.false_eq_true, not_true_eq_false, not_false_eq_true, false_implies, true_implies, and_true, true_and, if_true, if_false, implies_true, Classical.not_not, true_or, or_true, false_or, or_false, and_self, ite_true, ite_false, reduceIte, x1']
      exact hQ
end DAY
