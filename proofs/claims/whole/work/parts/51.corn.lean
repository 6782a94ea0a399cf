/-! corners: both ways are one -/
def mkL : Nat → (Nat → Nat) → List Nat
  | 0, _ => []
  | n + 1, f => f 0 :: mkL n (fun q => f (q + 1))
theorem mkL_len : ∀ (n : Nat) (f : Nat → Nat), (mkL n f).length = n
  | 0, _ => rfl
  | n + 1, f => by show (mkL n _).length + 1 = n + 1; rw [mkL_len n]
theorem mkL_gt : ∀ (n : Nat) (f : Nat → Nat) (q : Nat), gt (mkL n f) q = if q < n then f q else 0
  | 0, f, q => by rw [if_neg (by omega)]; rfl
  | n + 1, f, 0 => by rw [if_pos (by omega)]; rfl
  | n + 1, f, q + 1 => by
    show gt (mkL n _) q = _
    rw [mkL_gt n _ q]
    simp only [Nat.add_lt_add_iff_right]
theorem sumZ_l : ∀ a : List Nat, sumZ (fun q => (gt a q : Int)) a.length = lsum a := by
  have h : ∀ n (f : Nat → Nat), sumZ (fun q => (f q : Int)) n = (smf f n : Int) := by
    intro n f
    induction n with
    | zero => rfl
    | succ n ih =>
      show sumZ (fun q => (f q : Int)) n + (f n : Int) = ((smf f n + f n : Nat) : Int)
      rw [ih]
      omega
  intro a
  rw [h, smf_l a a.length (Nat.le_refl _)]
theorem first_of {P : Nat → Prop} : ∀ n, P n → ∃ q, P q ∧ ∀ r, r < q → ¬ P r := by
  intro n
  induction n using Nat.strongRecOn with
  | ind n ih =>
    intro h
    by_cases e : ∃ r, r < n ∧ P r
    · obtain ⟨r, h1, h2⟩ := e
      exact ih r h1 h2
    · exact ⟨n, h, fun r hr hp => e ⟨r, hr, hp⟩⟩
def endP (sh : Nat) (pay : Nat → Int32) (a b : List Nat) : Prop := (∀ p, p < 9 → gt b p ≤ 2 * gt a p) ∧ (∃ p, p < 9 ∧ gt b p ≠ gt a p) ∧ sndB sh pay (fun p => nI (2 * gt a p - gt b p)) = true
theorem snd_GZ {sh : Nat} {pay : Nat → Int32} {f : Nat → Nat} (h5 : sh < 5) (hp : pB pay) (hf : ∀ q, f q ≤ 12) : sndB sh pay (fun q => nI (f q)) = true ↔ ∀ k, k < 27 → GZ sh pay (fun q => f q) k ≤ 0 := by
  rw [snd_iff]
  have key : ∀ k, (¬ nI 0 < gns sh pay (fun q => nI (f q)) k) ↔ GZ sh pay (fun q => f q) k ≤ 0 := by
    intro k
    obtain ⟨e1, -, -⟩ := GZ_b (k := k) (e := fun q => (f q : Int)) h5 hp (fun q _ => by have := hf q; omega)
    rw [Int32.lt_iff_toInt_lt, gns_congr (tok := fun q => nI (f q)) (pay' := pay) (tok' := fun q => iI (f q)) (fun p _ => iI_n (f p)), e1, show (nI 0).toInt = 0 from rfl]
    omega
  exact ⟨fun h k hk => (key k).mp (h k hk), fun h k hk => (key k).mpr (h k hk)⟩
theorem corner_iff {sh : Nat} {pay : Nat → Int32} {a : List Nat} (h5 : sh < 5) (hp : pB pay) (ha : a.length = prf sh) (h6 : lsum a ≤ 6) : (∃ b, b ∈ LST sh pay (lsum a) ∧ endP sh pay a b) ↔ Ec sh pay a 0 (fun _ => 0) := by
  obtain ⟨l1, l2, l3, l4⟩ := (sh_ok sh h5).1
  have hga : ∀ q, gt a q ≤ 6 := fun q => by have := gt_le a q; omega
  constructor
  · rintro ⟨b, hb, h1, ⟨p0, h2, h3⟩, h4⟩
    obtain ⟨b1, b2, b3⟩ := LST_mem h5 hb
    have hgb : ∀ q, gt b q ≤ 6 := fun q => by have := gt_le b q; omega
    have hz : ∀ q, prf sh ≤ q → gt b q = 0 ∧ gt a q = 0 := fun q hq => ⟨gt_out b q (by omega), gt_out a q (by omega)⟩
    have k1 := (snd_GZ h5 hp (fun q => Nat.le_trans (hgb q) (by decide))).mp b3
    have k2 := (snd_GZ (f := fun q => 2 * gt a q - gt b q) h5 hp (fun q => by have := hga q; omega)).mp h4
    have gsum : ∀ k, GZ sh pay (fun q => (gt b q : Int)) k = GZ sh pay (fun q => (gt a q : Int)) k + GZ sh pay (fun q => (gt b q : Int) - gt a q) k := by
      intro k
      rw [← GZ_add]
      exact congrArg (fun f => GZ sh pay f k) (funext fun q => by omega)
    have gdif : ∀ k, GZ sh pay (fun q => ((2 * gt a q - gt b q : Nat) : Int)) k = GZ sh pay (fun q => (gt a q : Int)) k + -GZ sh pay (fun q => (gt b q : Int) - gt a q) k := by
      intro k
      rw [← GZ_neg, ← GZ_add]
      refine congrArg (fun f => GZ sh pay f k) (funext fun q => ?_)
      by_cases e : q < 9
      · have := h1 q e
        omega
      · have := hz q (by omega)
        omega
    have hw : ∀ k, k < 27 → GZ sh pay (fun q => (gt a q : Int)) k ≤ GZ sh pay (fun q => (gt b q : Int) - gt a q) k ∧ GZ sh pay (fun q => (gt b q : Int) - gt a q) k ≤ -GZ sh pay (fun q => (gt a q : Int)) k := by
      intro k hk
      have e1 := k1 k hk
      have e2 := k2 k hk
      rw [gsum] at e1
      rw [gdif] at e2
      omega
    have hs : sumZ (fun q => (gt b q : Int) - gt a q) (prf sh) = 0 := by
      have e1 := sumZ_l b
      have e2 := sumZ_l a
      rw [b1] at e1
      rw [ha] at e2
      have e3 := sumZ_add (f := fun q => (gt a q : Int)) (g := fun q => (gt b q : Int) - gt a q) (prf sh)
      rw [sumZ_c (g := fun q => (gt b q : Int)) _ (fun q _ => by omega), e1, e2] at e3
      omega
    obtain ⟨q0, f1, f2⟩ := first_of (P := fun q => (gt b q : Int) - gt a q ≠ 0) p0 (by omega)
    have hq0 : q0 < prf sh := Classical.byContradiction (fun z => by have := hz q0 (by omega); omega)
    by_cases hsg : 0 ≤ (gt b q0 : Int) - gt a q0
    · refine ⟨fun q => (gt b q : Int) - gt a q, fun q hq => by omega, fun q _ hq => ?_, fun q hq hr => ?_, hs, ⟨q0, hq0, f1⟩, hw⟩
      · have := h1 q (by omega)
        dsimp only
        omega
      · rcases Nat.lt_trichotomy q q0 with e | e | e
        · have := f2 q e
          dsimp only at this ⊢
          omega
        · rw [e]
          exact hsg
        · exact absurd (hr q0 e) f1
    · refine ⟨fun q => -((gt b q : Int) - gt a q), fun q hq => by omega, fun q _ hq => ?_, fun q hq hr => ?_, by rw [sumZ_neg, hs]; rfl, ⟨q0, hq0, by dsimp only; omega⟩, fun k hk => ?_⟩
      · have := h1 q (by omega)
        dsimp only
        omega
      · rcases Nat.lt_trichotomy q q0 with e | e | e
        · have := f2 q e
          dsimp only at this ⊢
          omega
        · rw [e]
          dsimp only
          omega
        · have := hr q0 e
          dsimp only at this
          omega
      · have := hw k hk
        rw [GZ_neg]
        omega
  · rintro ⟨e, -, h2, -, h4, ⟨q0, h7, h8⟩, h9⟩
    have hE : ∀ q, q < prf sh → -(gt a q : Int) ≤ e q ∧ e q ≤ gt a q := fun q hq => h2 q (Nat.zero_le _) hq
    have hgb : ∀ q, gt (mkL (prf sh) (fun q => ((gt a q : Int) + e q).toNat)) q = if q < prf sh then ((gt a q : Int) + e q).toNat else 0 := mkL_gt _ _
    generalize hbb : mkL (prf sh) (fun q => ((gt a q : Int) + e q).toNat) = b at *
    have hbl : b.length = prf sh := by rw [← hbb, mkL_len]
    have hb1 : ∀ q, q < prf sh → (gt b q : Int) = gt a q + e q := fun q hq => by
      have := hE q hq
      rw [hgb, if_pos hq]
      omega
    have hbs : lsum b = lsum a := by
      have e1 := sumZ_l b
      have e2 := sumZ_l a
      rw [hbl, sumZ_c (g := fun q => (gt a q : Int) + e q) _ hb1, sumZ_add, h4] at e1
      rw [ha] at e2
      omega
    have hle : ∀ q, gt b q ≤ 2 * gt a q := fun q => by
      by_cases hq : q < prf sh
      · have := hE q hq
        have := hb1 q hq
        omega
      · rw [hgb, if_neg hq]
        omega
    have GZc : ∀ {f g : Nat → Int} {k : Nat}, (∀ q, q < prf sh → f q = g q) → GZ sh pay f k = GZ sh pay g k := fun h => sumZ_c _ (fun q hq => by rw [h q hq])
    refine ⟨b, List.mem_filter.mpr ⟨(cmps_mem _ _ _).mpr ⟨by omega, hbs⟩, ?_⟩, fun p _ => hle p, ⟨q0, by omega, ?_⟩, ?_⟩
    · refine (snd_GZ h5 hp (fun q => by have := gt_le b q; omega)).mpr (fun k hk => ?_)
      have := h9 k hk
      rw [GZc hb1, GZ_add]
      omega
    · have := hb1 q0 h7
      omega
    · refine (snd_GZ (f := fun q => 2 * gt a q - gt b q) h5 hp (fun q => by have := hga q; omega)).mpr (fun k hk => ?_)
      have := h9 k hk
      rw [GZc (g := fun q => (gt a q : Int) + -e q) (fun q hq => by have := hb1 q hq; have := hle q; omega), GZ_add, GZ_neg]
      omega
section CORN
variable {d g t jk X sh : Nat} {M M1 M2 : amM} {J J1 J2 : amJ} {Q : Option amV → amS → Prop} {pay tok tk : Nat → Int32}
def FrH (M M1 : amM) : Prop := ∀ c j k, ((j ≠ 2 ∧ j ≠ 3) ∨ c < 113 ∨ (118 < c ∧ c < 1456) ∨ 1460 < c) → M1 c j k = M c j k
theorem FrH.r (h : FrH M M1) : FrR M M1 := fun c j k hp => h c j k (by unfold Pc at hp; omega)
theorem FrH.trans (h1 : FrH M M1) (h2 : FrH M1 M2) : FrH M M2 := fun c j k h => by rw [h2 c j k h, h1 c j k h]
theorem FrT.h2 (h : FrT M M1 2) : FrH M M1 := fun c j k hc => h c j k (by omega)
theorem FrT.h3 (h : FrT M M1 3) : FrH M M1 := fun c j k hc => h c j k (by omega)
theorem TR.cl (h : TR M t sh pay) : TL (setA (setA M 113 t 9 (fun _ => nI 0)) 114 t 27 (fun _ => nI 0)) t sh pay (fun _ => nI 0) :=
  ⟨h.of (fun c k hc => by rw [setN (by omega), setN (by omega)]), fun p hp => by rw [setN (by omega), setE ⟨rfl, rfl, hp⟩], fun k hk => by rw [setE ⟨rfl, rfl, hk⟩, gns_0]⟩
theorem cl_fr : FrT M (setA (setA M 113 t 9 (fun _ => nI 0)) 114 t 27 (fun _ => nI 0)) t := fun c j k h => by rw [setN (by omega), setN (by omega)]
theorem pa_tl {c i : Nat} {a : List Nat} (hT : TL M t sh pay (fun _ => nI 0)) (hc : ∀ p, p < 9 → M c i p = tf a p) (ha : a.length = prf sh) : TL (paM M t sh pay (M c i) (prf sh)) t sh pay (tf a) ∧ FrT M (paM M t sh pay (M c i) (prf sh)) t := by
  have h4 := (sh_ok sh hT.1.1).1
  refine ⟨⟨hT.1.of (fun c x h => ?_), fun p hp => ?_, fun k hk => ?_⟩, fun c j k h => ?_⟩
  · unfold paM
    rw [if_neg (by omega), if_neg (by omega)]
  · unfold paM
    by_cases h : p < prf sh
    · rw [if_pos (by omega), hT.2.1 p hp, hc p hp]
      exact Int32.zero_add _
    · rw [if_neg (by omega), if_neg (by omega), hT.2.1 p hp]
      unfold tf
      rw [gt_out a p (by omega)]
  · unfold paM
    rw [if_neg (by omega), if_pos (by omega), hT.2.2 k hk, gns_0]
    rw [show ∀ x : Int32, nI 0 + x = x from Int32.zero_add]
    exact sum_tk (fun p hp => by rw [hc p (by omega)])
  · unfold paM
    rw [if_neg (by omega), if_neg (by omega)]
theorem c79 {c i : Nat} {a : List Nat} (hpB : pB pay) (h2 : TR M 2 sh pay) (h3 : TR M 3 sh pay) (ht : tokA c i) (hn : i ≠ 2 ∧ i ≠ 3) (hc : ∀ p, p < 9 → M c i p = tf a p) (ha : a.length = prf sh) (h6 : lsum a ≤ 6) (H : ∀ M1, FrH M M1 → TR M1 2 sh pay → TR M1 3 sh pay → Q (some (vI (bI (bo (¬ Ec sh pay a 0 (fun _ => 0)) = true)))) (M1, J, (jk, 149, 147, X))) : Call (d + 12) 79 [vR 3 0, vR c i] (M, J, (jk, 149, 147, X)) Q := by
  obtain ⟨l1, l2, l3, l4⟩ := (sh_ok sh h2.1).1
  have h24 : (2 : Nat) < 4 := by decide
  have h34 : (3 : Nat) < 4 := by decide
  have hc4 : c ≠ 114 := by rcases ht with h | h | h | h <;> omega
  have q1 := h2.cl
  have q2 : FrT M (setA (setA M 113 2 9 (fun _ => nI 0)) 114 2 27 (fun _ => nI 0)) 2 := cl_fr
  rw [e_79]
  simp (disch := omega) only [s_79_0, s_79_1, s_79_4, s_79_7, s_79_8, s_79_11, s_79_12, s_79_15, s_79_16, s_79_19, s_79_22, s_79_23, s_79_26, s_79_27, s_79_30, s_79_31, s_79_32, s_79_33, s_79_36, s_79_39, s_79_40, s_79_43, s_79_44, amLong_I, amLong_R, amLong_N, amLong_L, cond_true, cond_false, Option.toList_some, Option.toList_none, List.cons_append, List.nil_append, List.append_nil, setE, setN, cpy_set, lit, nle, nlt, neq, inb_iff, cl_nI, tle, fle, tlt, flt, teq, feq, m9, m3, x9, x3, nI_add, nsub, upN, upE, b0', b01', r100, w100, r101, w101, r102, w102, r103, w103, r104, w104, r105, w105, r106, w106, r107, w107, r108, w108, w109, w110, r111, w111, r112, w112, r113, w113, r114, w114, r115, w115, r116, w116, r117, w117, r118, w118, r119, w119, w120, w121, r122, w122, r130, w130, w131, w132, r133, w133, r134, w134, r135, w135, r136, w136, r137, w137, r138, w138, r139, w139, r140, w140, r141, w141, w142, r143, w143, r144, w144, r145, w145, r146, w146, w147, w150, b1', em1, Bool.false_eq_true, not_true_eq_false, not_false_eq_true, false_implies, true_implies, and_true, true_and, if_true, if_false, implies_true, Classical.not_not, true_or, or_true, false_or, or_false, and_self, ite_true, ite_false, reduceIte, c49 h24]
  generalize setA (setA M 113 2 9 (fun _ => nI 0)) 114 2 27 (fun _ => nI 0) = M1 at *
  have hc1 : ∀ p, p < 9 → M1 c i p = tf a p := fun p hp => by rw [q2 c i p (by omega), hc p hp]
  obtain ⟨q3, q4⟩ := pa_tl q1 hc1 ha
  simp (disch := omega) only [s_79_0, s_79_1, s_79_4, s_79_7, s_79_8, s_79_11, s_79_12, s_79_15, s_79_16, s_79_19, s_79_22, s_79_23, s_79_26, s_79_27, s_79_30, s_79_31, s_79_32, s_79_33, s_79_36, s_79_39, s_79_40, s_79_43, s_79_44, amLong_I, amLong_R, amLong_N, amLong_L, cond_true, cond_false, Option.toList_some, Option.toList_none, List.cons_append, List.nil_append, List.append_nil, setE, setN, cpy_set, lit, nle, nlt, neq, inb_iff, cl_nI, tle, fle, tlt, flt, teq, feq, m9, m3, x9, x3, nI_add, nsub, upN, upE, b0', b01', r100, w100, r101, w101, r102, w102, r103, w103, r104, w104, r105, w105, r106, w106, r107, w107, r108, w108, w109, w110, r111, w111, r112, w112, r113, w113, r114, w114, r115, w115, r116, w116, r117, w117, r118, w118, r119, w119, w120, w121, r122, w122, r130, w130, w131, w132, r133, w133, r134, w134, r135, w135, r136, w136, r137, w137, r138, w138, r139, w139, r140, w140, r141, w141, w142, r143, w143, r144, w144, r145, w145, r146, w146, w147, w150, b1', em1, Bool.false_eq_true, not_true_eq_false, not_false_eq_true, false_implies, true_implies, and_true, true_and, if_true, if_false, implies_true, Classical.not_not, true_or, or_true, false_or, or_false, and_self, ite_true, ite_false, reduceIte, c53 h24 q1.1 ht (Or.inr hn.1), c49 h34]
  generalize paM M1 2 sh pay (M1 c i) (prf sh) = M2 at *
  have q5 := q2.trans q4
  have h3' : TR M2 3 sh pay := h3.of (fun c k hc => q5 c 3 k (by omega))
  have q6 := h3'.cl
  have q7 : FrT M2 (setA (setA M2 113 3 9 (fun _ => nI 0)) 114 3 27 (fun _ => nI 0)) 3 := cl_fr
  generalize setA (setA M2 113 3 9 (fun _ => nI 0)) 114 3 27 (fun _ => nI 0) = M3 at *
  have q8 : TL M3 2 sh pay (tf a) := q3.fr q7 (by decide)
  have := c80 (d := d + 9 - prf sh) (J := J) (jk := jk) (X := X) hpB h2.1 h6 (prf sh) 0 (fun _ => 0) false M3 (fun v st2 => Ev (d + 11) 79 36 [some (vR 3 0), some (vR c i)] v.toList st2 Q) (by omega) q8 q6 (fun _ _ => rfl) (fun _ => by omega) (fun q hq => absurd hq (Nat.not_lt_zero q)) ⟨fun z => (by cases z), fun ⟨q, hq, _⟩ => absurd hq (Nat.not_lt_zero q)⟩ (fun M4 f1 f2 => ?_)
  · have e : Call (d + 11) 80 [vR 9 2, vR 9 3, vI (nI 0), vI (nI 0), vI (nI 0)] (M3, J, (jk, 149, 147, X)) (fun v st2 => Ev (d + 11) 79 36 [some (vR 3 0), some (vR c i)] v.toList st2 Q) := Call.up (by omega) this
    exact e
  · have HQ := H M4 ((q5.h2.trans q7.h3).trans f1.h3) ((q8.fr f1 (by decide)).1) f2.1
    by_cases eE : Ec sh pay a 0 (fun _ => 0)
    · rw [bo_f (fun z => z eE)] at HQ
      rw [bo_t eE]
      simp (disch := omega) only [s_79_0, s_79_1, s_79_4, s_79_7, s_79_8, s_79_11, s_79_12, s_79_15, s_79_16, s_79_19, s_79_22, s_79_23, s_79_26, s_79_27, s_79_30, s_79_31, s_79_32, s_79_33, s_79_36, s_79_39, s_79_40, s_79_43, s_79_44, amLong_I, amLong_R, amLong_N, amLong_L, cond_true, cond_false, Option.toList_some, Option.toList_none, List.cons_append, List.nil_append, List.append_nil, setE, setN, cpy_set, lit, nle, nlt, neq, inb_iff, cl_nI, tle, fle, tlt, flt, teq, feq, m9, m3, x9, x3, nI_add, nsub, upN, upE, b0', b01', r100, w100, r101, w101, r102, w102, r103, w103, r104, w104, r105, w105, r106, w106, r107, w107, r108, w108, w109, w110, r111, w111, r112, w112, r113, w113, r114, w114, r115, w115, r116, w116, r117, w117, r118, w118, r119, w119, w120, w121, r122, w122, r130, w130, w131, w132, r133, w133, r134, w134, r135, w135, r136, w136, r137, w137, r138, w138, r139, w139, r140, w140, r141, w141, w142, r143, w143, r144, w144, r145, w145, r146, w146, w147, w150, b1', em1, Bool.false_eq_true, not_true_eq_false, not_false_eq_true, false_implies, true_implies, and_true, true_and, if_true, if_false, implies_true, Classical.not_not, true_or, or_true, false_or, or_false, and_self, ite_true, ite_false, reduceIte]
      exact HQ
    · rw [bo_t eE] at HQ
      rw [bo_f eE]
      simp (disch := omega) only [s_79_0, s_79_1, s_79_4, s_79_7, s_79_8, s_79_11, s_79_12, s_79_15, s_79_16, s_79_19, s_79_22, s_79_23, s_79_26, s_79_27, s_79_30, s_79_31, s_79_32, s_79_33, s_79_36, s_79_39, s_79_40, s_79_43, s_79_44, amLong_I, amLong_R, amLong_N, amLong_L, cond_true, cond_false, Option.toList_some, Option.toList_none, List.cons_append, List.nil_append, List.append_nil, setE, setN, cpy_set, lit, nle, nlt, neq, inb_iff, cl_nI, tle, fle, tlt, flt, teq, feq, m9, m3, x9, x3, nI_add, nsub, upN, upE, b0', b01', r100, w100, r101, w101, r102, w102, r103, w103, r104, w104, r105, w105, r106, w106, r107, w107, r108, w108, w109, w110, r111, w111, r112, w112, r113, w113, r114, w114, r115, w115, r116, w116, r117, w117, r118, w118, r119, w119, w120, w121, r122, w122, r130, w130, w131, w132, r133, w133, r134, w134, r135, w135, r136, w136, r137, w137, r138, w138, r139, w139, r140, w140, r141, w141, w142, r143, w143, r144, w144, r145, w145, r146, w146, w147, w150, b1', em1, Bool.false_eq_true, not_true_eq_false, not_false_eq_true, false_implies, true_implies, and_true, true_and, if_true, if_false, implies_true, Classical.not_not, true_or, or_true, false_or, or_false, and_self, ite_true, ite_false, reduceIte]
      exact HQ
theorem c78 (hV : GV M 0 sh pay tok) (H : ∀ M1, FrH M M1 → TR M1 2 sh pay → TR M1 3 sh pay → Q none (M1, J, (jk, 149, 147, X))) : Call (d + 4) 78 [vR 3 0, vR 2 0] (M, J, (jk, 149, 147, X)) Q := by
  rw [e_78]
  simp (disch := omega) only [s_78_0, s_78_1, s_78_4, s_78_5, s_78_8, s_78_9, s_78_12, s_78_13, s_78_16, amLong_I, amLong_R, amLong_N, amLong_L, cond_true, cond_false, Option.toList_some, Option.toList_none, List.cons_append, List.nil_append, List.append_nil, setE, setN, cpy_set, lit, nle, nlt, neq, inb_iff, cl_nI, tle, fle, tlt, flt, teq, feq, m9, m3, x9, x3, nI_add, nsub, upN, upE, b0', b01', r100, w100, r101, w101, r102, w102, r103, w103, r104, w104, r105, w105, r106, w106, r107, w107, r108, w108, w109, w110, r111, w111, r112, w112, r113, w113, r114, w114, r115, w115, r116, w116, r117, w117, r118, w118, r119, w119, w120, w121, r122, w122, r130, w130, w131, w132, r133, w133, r134, w134, r135, w135, r136, w136, r137, w137, r138, w138, r139, w139, r140, w140, r141, w141, w142, r143, w143, r144, w144, r145, w145, r146, w146, w147, w150, b1', em1, Bool.false_eq_true, not_true_eq_false, not_false_eq_true, false_implies, true_implies, and_true, true_and, if_true, if_false, implies_true, Classical.not_not, true_or, or_true, false_or, or_false, and_self, ite_true, ite_false, reduceIte]
  refine v48 (by decide) (by decide) hV (fun M1 f1 f2 => ?_)
  simp (disch := omega) only [s_78_0, s_78_1, s_78_4, s_78_5, s_78_8, s_78_9, s_78_12, s_78_13, s_78_16, amLong_I, amLong_R, amLong_N, amLong_L, cond_true, cond_false, Option.toList_some, Option.toList_none, List.cons_append, List.nil_append, List.append_nil, setE, setN, cpy_set, lit, nle, nlt, neq, inb_iff, cl_nI, tle, fle, tlt, flt, teq, feq, m9, m3, x9, x3, nI_add, nsub, upN, upE, b0', b01', r100, w100, r101, w101, r102, w102, r103, w103, r104, w104, r105, w105, r106, w106, r107, w107, r108, w108, w109, w110, r111, w111, r112, w112, r113, w113, r114, w114, r115, w115, r116, w116, r117, w117, r118, w118, r119, w119, w120, w121, r122, w122, r130, w130, w131, w132, r133, w133, r134, w134, r135, w135, r136, w136, r137, w137, r138, w138, r139, w139, r140, w140, r141, w141, w142, r143, w143, r144, w144, r145, w145, r146, w146, w147, w150, b1', em1, Bool.false_eq_true, not_true_eq_false, not_false_eq_true, false_implies, true_implies, and_true, true_and, if_true, if_false, implies_true, Classical.not_not, true_or, or_true, false_or, or_false, and_self, ite_true, ite_false, reduceIte]
  refine v48 (by decide) (by decide) (f1.r.gv (by decide) hV) (fun M2 g1 g2 => ?_)
  simp (disch := omega) only [s_78_0, s_78_1, s_78_4, s_78_5, s_78_8, s_78_9, s_78_12, s_78_13, s_78_16, amLong_I, amLong_R, amLong_N, amLong_L, cond_true, cond_false, Option.toList_some, Option.toList_none, List.cons_append, List.nil_append, List.append_nil, setE, setN, cpy_set, lit, nle, nlt, neq, inb_iff, cl_nI, tle, fle, tlt, flt, teq, feq, m9, m3, x9, x3, nI_add, nsub, upN, upE, b0', b01', r100, w100, r101, w101, r102, w102, r103, w103, r104, w104, r105, w105, r106, w106, r107, w107, r108, w108, w109, w110, r111, w111, r112, w112, r113, w113, r114, w114, r115, w115, r116, w116, r117, w117, r118, w118, r119, w119, w120, w121, r122, w122, r130, w130, w131, w132, r133, w133, r134, w134, r135, w135, r136, w136, r137, w137, r138, w138, r139, w139, r140, w140, r141, w141, w142, r143, w143, r144, w144, r145, w145, r146, w146, w147, w150, b1', em1, Bool.false_eq_true, not_true_eq_false, not_false_eq_true, false_implies, true_implies, and_true, true_and, if_true, if_false, implies_true, Classical.not_not, true_or, or_true, false_or, or_false, and_self, ite_true, ite_false, reduceIte]
  exact H M2 (f1.h2.trans g1.h3) (f2.fr g1 (by decide)).1 g2.1
theorem apr_cg {tk' : Nat → Int32} (h : ∀ p, p < prf sh → tk p = tk' p) : aprB sh tk = aprB sh tk' := by
  have e1 : sumN tk 0 (prf sh) = sumN tk' 0 (prf sh) := sum_tk h
  have e2 : ∀ i a, tdo sh tk i a = tdo sh tk' i a := fun i a => sum_tk (fun p hp => by rw [h p hp])
  unfold aprB
  rw [decide_eq_decide]
  constructor
  · intro z p hp
    have := z p hp
    rw [e1, h p hp] at this
    rw [this]
    exact congrArg (fun f => foldN f 0 (plr sh) (nI 1)) (funext fun i => funext fun s => by rw [e2])
  · intro z p hp
    have := z p hp
    rw [e1, h p hp, this]
    exact congrArg (fun f => foldN f 0 (plr sh) (nI 1)) (funext fun i => funext fun s => by rw [e2])
/-- corner -/
noncomputable def o13 (A : Sta) : Int32 × Sta := if bo (¬ ttl A.1 = 0 ∧ sndB A.1.1 A.1.2.1 A.1.2.2 = true) = true then (bI (bo (¬ Ec A.1.1 A.1.2.1 (mkL (prf A.1.1) (tn A.1.2.2)) 0 (fun _ => 0)) = true), tel A [bI (aprB A.1.1 A.1.2.2 = true)]) else (-nI 2, A)
theorem mk_a {a : List Nat} (ha : a.length = prf sh) (h6 : lsum a ≤ 6) (h9 : a.length ≤ 9) (hA : ∀ p, p < 9 → tok p = tf a p) : mkL (prf sh) (tn tok) = a := by
  have ext : ∀ (l1 l2 : List Nat), l1.length = l2.length → (∀ q, gt l1 q = gt l2 q) → l1 = l2 := by
    intro l1
    induction l1 with
    | nil => intro l2 h _; exact (List.eq_nil_of_length_eq_zero h.symm).symm
    | cons x l ih =>
      intro l2 h hq
      cases l2 with
      | nil => cases h
      | cons y l2 =>
        have e1 : x = y := hq 0
        rw [e1, ih l2 (Nat.succ.inj h) (fun q => hq (q + 1))]
  refine ext _ _ (by rw [mkL_len, ha]) (fun q => ?_)
  rw [mkL_gt, tn_a h6 h9 hA]
  by_cases e : q < prf sh
  · rw [if_pos e]
  · rw [if_neg e, gt_out a q (by omega)]
theorem k74 {A : Sta} (hR : RC M J A) (hW : WF A) (H : ∀ M1 J1, RC M1 J1 (o13 A).2 → FC M M1 → FCJ J J1 → Q (some (vI (o13 A).1)) (M1, J1, (jk, 149, 147, X))) : Call (d + 13) 74 [vR 11 0] (M, J, (jk, 149, 147, X)) Q := by
  obtain ⟨⟨sh, pay, tok⟩, U, S, x, r⟩ := A
  have hV : GV M 0 sh pay tok := hR.1
  have hW1 : WG (sh, pay, tok) := hW.1
  have h0 : (0 : Nat) < 13 := by decide
  obtain ⟨l1, l2, l3, l4⟩ := (sh_ok sh hV.1.1).1
  obtain ⟨t1, t2, a, t3, t4, t5⟩ := hW1.tt
  dsimp only at t1 t3 t5
  have ht0 : tokA 104 0 := Or.inl ⟨rfl, by decide⟩
  unfold o13 at H
  dsimp only at H
  rw [mk_a t3 (by omega) (by omega) t5] at H
  generalize hT : ttl (sh, pay, tok) = T at *
  rw [e_74]
  simp (disch := omega) only [s_74_0, s_74_1, s_74_4, s_74_7, s_74_9, s_74_10, s_74_11, s_74_14, s_74_17, s_74_18, s_74_21, s_74_22, s_74_25, s_74_26, s_74_29, s_74_32, s_74_35, s_74_38, s_74_39, s_74_42, s_74_43, s_74_46, s_74_47, s_74_50, s_74_51, s_74_54, s_74_57, s_74_58, s_74_61, s_74_62, s_74_65, s_74_68, s_74_71, s_74_74, s_74_75, s_74_78, s_74_79, amLong_I, amLong_R, amLong_N, amLong_L, cond_true, cond_false, Option.toList_some, Option.toList_none, List.cons_append, List.nil_append, List.append_nil, setE, setN, cpy_set, lit, nle, nlt, neq, inb_iff, cl_nI, tle, fle, tlt, flt, teq, feq, m9, m3, x9, x3, nI_add, nsub, upN, upE, b0', b01', r100, w100, r101, w101, r102, w102, r103, w103, r104, w104, r105, w105, r106, w106, r107, w107, r108, w108, w109, w110, r111, w111, r112, w112, r113, w113, r114, w114, r115, w115, r116, w116, r117, w117, r118, w118, r119, w119, w120, w121, r122, w122, r130, w130, w131, w132, r133, w133, r134, w134, r135, w135, r136, w136, r137, w137, r138, w138, r139, w139, r140, w140, r141, w141, w142, r143, w143, r144, w144, r145, w145, r146, w146, w147, w150, b1', em1, Bool.false_eq_true, not_true_eq_false, not_false_eq_true, false_implies, true_implies, and_true, true_and, if_true, if_false, implies_true, Classical.not_not, true_or, or_true, false_or, or_false, and_self, ite_true, ite_false, reduceIte]
  refine c75 hV hW1 (fun M1 f1 => ?_)
  rw [hT]
  by_cases c1 : bo (¬ T = 0 ∧ sndB sh pay tok = true) = true
  · rw [if_pos c1] at H
    simp (disch := omega) only [s_74_0, s_74_1, s_74_4, s_74_7, s_74_9, s_74_10, s_74_11, s_74_14, s_74_17, s_74_18, s_74_21, s_74_22, s_74_25, s_74_26, s_74_29, s_74_32, s_74_35, s_74_38, s_74_39, s_74_42, s_74_43, s_74_46, s_74_47, s_74_50, s_74_51, s_74_54, s_74_57, s_74_58, s_74_61, s_74_62, s_74_65, s_74_68, s_74_71, s_74_74, s_74_75, s_74_78, s_74_79, amLong_I, amLong_R, amLong_N, amLong_L, cond_true, cond_false, Option.toList_some, Option.toList_none, List.cons_append, List.nil_append, List.append_nil, setE, setN, cpy_set, lit, nle, nlt, neq, inb_iff, cl_nI, tle, fle, tlt, flt, teq, feq, m9, m3, x9, x3, nI_add, nsub, upN, upE, b0', b01', r100, w100, r101, w101, r102, w102, r103, w103, r104, w104, r105, w105, r106, w106, r107, w107, r108, w108, w109, w110, r111, w111, r112, w112, r113, w113, r114, w114, r115, w115, r116, w116, r117, w117, r118, w118, r119, w119, w120, w121, r122, w122, r130, w130, w131, w132, r133, w133, r134, w134, r135, w135, r136, w136, r137, w137, r138, w138, r139, w139, r140, w140, r141, w141, w142, r143, w143, r144, w144, r145, w145, r146, w146, w147, w150, b1', em1, Bool.false_eq_true, not_true_eq_false, not_false_eq_true, false_implies, true_implies, and_true, true_and, if_true, if_false, implies_true, Classical.not_not, true_or, or_true, false_or, or_false, and_self, ite_true, ite_false, reduceIte, c1]
    refine v42 (fun M2 h2 => ?_)
    have hV2 := h2.gv (f1.gv (by decide) hV)
    have ea : aprB sh (M2 104 0) = aprB sh tok := apr_cg (fun p hp => hV2.2.2 p (by omega))
    have fin : ∀ {M3 : amM} {J3 : amJ} {v : Int32}, RWo M1 M3 J J3 [v] → v = bI (aprB sh tok = true) → Call (d + 12) 78 [vR 3 0, vR 2 0] (M3, J3, (jk, 149, 147, X)) (fun v st2 => Ev (d + 12) 74 58 [some (vR 11 0)] (vR 11 0 :: v.toList) st2 Q) := by
      intro M3 J3 v h3 hv
      subst hv
      have hV3 := h3.gv (f1.gv (by decide) hV)
      refine c78 hV3 (fun M4 g1 g2 g3 => ?_)
      have hV4 := g1.r.gv (by decide) hV3
      simp (disch := omega) only [s_74_0, s_74_1, s_74_4, s_74_7, s_74_9, s_74_10, s_74_11, s_74_14, s_74_17, s_74_18, s_74_21, s_74_22, s_74_25, s_74_26, s_74_29, s_74_32, s_74_35, s_74_38, s_74_39, s_74_42, s_74_43, s_74_46, s_74_47, s_74_50, s_74_51, s_74_54, s_74_57, s_74_58, s_74_61, s_74_62, s_74_65, s_74_68, s_74_71, s_74_74, s_74_75, s_74_78, s_74_79, amLong_I, amLong_R, amLong_N, amLong_L, cond_true, cond_false, Option.toList_some, Option.toList_none, List.cons_append, List.nil_append, List.append_nil, setE, setN, cpy_set, lit, nle, nlt, neq, inb_iff, cl_nI, tle, fle, tlt, flt, teq, feq, m9, m3, x9, x3, nI_add, nsub, upN, upE, b0', b01', r100, w100, r101, w101, r102, w102, r103, w103, r104, w104, r105, w105, r106, w106, r107, w107, r108, w108, w109, w110, r111, w111, r112, w112, r113, w113, r114, w114, r115, w115, r116, w116, r117, w117, r118, w118, r119, w119, w120, w121, r122, w122, r130, w130, w131, w132, r133, w133, r134, w134, r135, w135, r136, w136, r137, w137, r138, w138, r139, w139, r140, w140, r141, w141, w142, r143, w143, r144, w144, r145, w145, r146, w146, w147, w150, b1', em1, Bool.false_eq_true, not_true_eq_false, not_false_eq_true, false_implies, true_implies, and_true, true_and, if_true, if_false, implies_true, Classical.not_not, true_or, or_true, false_or, or_false, and_self, ite_true, ite_false, reduceIte]
      refine c79 hW1.2.1 g2 g3 ht0 ⟨by decide, by decide⟩ (fun p hp => by rw [hV4.2.2 p hp, t5 p hp]) t3 (by omega) (fun M5 y1 y2 y3 => ?_)
      have hR5 : RC M5 J3 (tel ((sh, pay, tok), U, S, x, r) [bI (aprB sh tok = true)]) := (hR.w f1.q h3).s (g1.trans y1).r
      have hF5 : FC M M5 := ((f1.q.trans h3.q).trans (g1.trans y1).r.q).fc
      have HQ := H M5 J3 hR5 hF5 h3.j
      by_cases e : bo (¬ Ec sh pay a 0 (fun _ => 0)) = true
      · rw [bI_t e] at HQ
        simp (disch := omega) only [s_74_0, s_74_1, s_74_4, s_74_7, s_74_9, s_74_10, s_74_11, s_74_14, s_74_17, s_74_18, s_74_21, s_74_22, s_74_25, s_74_26, s_74_29, s_74_32, s_74_35, s_74_38, s_74_39, s_74_42, s_74_43, s_74_46, s_74_47, s_74_50, s_74_51, s_74_54, s_74_57, s_74_58, s_74_61, s_74_62, s_74_65, s_74_68, s_74_71, s_74_74, s_74_75, s_74_78, s_74_79, amLong_I, amLong_R, amLong_N, amLong_L, cond_true, cond_false, Option.toList_some, Option.toList_none, List.cons_append, List.nil_append, List.append_nil, setE, setN, cpy_set, lit, nle, nlt, neq, inb_iff, cl_nI, tle, fle, tlt, flt, teq, feq, m9, m3, x9, x3, nI_add, nsub, upN, upE, b0', b01', r100, w100, r101, w101, r102, w102, r103, w103, r104, w104, r105, w105, r106, w106, r107, w107, r108, w108, w109, w110, r111, w111, r112, w112, r113, w113, r114, w114, r115, w115, r116, w116, r117, w117, r118, w118, r119, w119, w120, w121, r122, w122, r130, w130, w131, w132, r133, w133, r134, w134, r135, w135, r136, w136, r137, w137, r138, w138, r139, w139, r140, w140, r141, w141, w142, r143, w143, r144, w144, r145, w145, r146, w146, w147, w150, b1', em1, Bool.false_eq_true, not_true_eq_false, not_false_eq_true, false_implies, true_implies, and_true, true_and, if_true, if_false, implies_true, Classical.not_not, true_or, or_true, false_or, or_false, and_self, ite_true, ite_false, reduceIte, e]
        exact HQ
      · rw [bI_f e] at HQ
        simp (disch := omega) only [s_74_0, s_74_1, s_74_4, s_74_7, s_74_9, s_74_10, s_74_11, s_74_14, s_74_17, s_74_18, s_74_21, s_74_22, s_74_25, s_74_26, s_74_29, s_74_32, s_74_35, s_74_38, s_74_39, s_74_42, s_74_43, s_74_46, s_74_47, s_74_50, s_74_51, s_74_54, s_74_57, s_74_58, s_74_61, s_74_62, s_74_65, s_74_68, s_74_71, s_74_74, s_74_75, s_74_78, s_74_79, amLong_I, amLong_R, amLong_N, amLong_L, cond_true, cond_false, Option.toList_some, Option.toList_none, List.cons_append, List.nil_append, List.append_nil, setE, setN, cpy_set, lit, nle, nlt, neq, inb_iff, cl_nI, tle, fle, tlt, flt, teq, feq, m9, m3, x9, x3, nI_add, nsub, upN, upE, b0', b01', r100, w100, r101, w101, r102, w102, r103, w103, r104, w104, r105, w105, r106, w106, r107, w107, r108, w108, w109, w110, r111, w111, r112, w112, r113, w113, r114, w114, r115, w115, r116, w116, r117, w117, r118, w118, r119, w119, w120, w121, r122, w122, r130, w130, w131, w132, r133, w133, r134, w134, r135, w135, r136, w136, r137, w137, r138, w138, r139, w139, r140, w140, r141, w141, w142, r143, w143, r144, w144, r145, w145, r146, w146, w147, w150, b1', em1, Bool.false_eq_true, not_true_eq_false, not_false_eq_true, false_implies, true_implies, and_true, true_and, if_true, if_false, implies_true, Classical.not_not, true_or, or_true, false_or, or_false, and_self, ite_true, ite_false, reduceIte, e]
        exact HQ
    by_cases eb : aprB sh tok = true
    · simp (disch := omega) only [s_74_0, s_74_1, s_74_4, s_74_7, s_74_9, s_74_10, s_74_11, s_74_14, s_74_17, s_74_18, s_74_21, s_74_22, s_74_25, s_74_26, s_74_29, s_74_32, s_74_35, s_74_38, s_74_39, s_74_42, s_74_43, s_74_46, s_74_47, s_74_50, s_74_51, s_74_54, s_74_57, s_74_58, s_74_61, s_74_62, s_74_65, s_74_68, s_74_71, s_74_74, s_74_75, s_74_78, s_74_79, amLong_I, amLong_R, amLong_N, amLong_L, cond_true, cond_false, Option.toList_some, Option.toList_none, List.cons_append, List.nil_append, List.append_nil, setE, setN, cpy_set, lit, nle, nlt, neq, inb_iff, cl_nI, tle, fle, tlt, flt, teq, feq, m9, m3, x9, x3, nI_add, nsub, upN, upE, b0', b01', r100, w100, r101, w101, r102, w102, r103, w103, r104, w104, r105, w105, r106, w106, r107, w107, r108, w108, w109, w110, r111, w111, r112, w112, r113, w113, r114, w114, r115, w115, r116, w116, r117, w117, r118, w118, r119, w119, w120, w121, r122, w122, r130, w130, w131, w132, r133, w133, r134, w134, r135, w135, r136, w136, r137, w137, r138, w138, r139, w139, r140, w140, r141, w141, w142, r143, w143, r144, w144, r145, w145, r146, w146, w147, w150, b1', em1, Bool.false_eq_true, not_true_eq_false, not_false_eq_true, false_implies, true_implies, and_true, true_and, if_true, if_false, implies_true, Classical.not_not, true_or, or_true, false_or, or_false, and_self, ite_true, ite_false, reduceIte, c77 h0 hV2.1 ht0, ea, eb]
      refine v43 (v := nI 1) h2 (by decide) (fun M3 J3 h3 => ?_)
      simp (disch := omega) only [s_74_0, s_74_1, s_74_4, s_74_7, s_74_9, s_74_10, s_74_11, s_74_14, s_74_17, s_74_18, s_74_21, s_74_22, s_74_25, s_74_26, s_74_29, s_74_32, s_74_35, s_74_38, s_74_39, s_74_42, s_74_43, s_74_46, s_74_47, s_74_50, s_74_51, s_74_54, s_74_57, s_74_58, s_74_61, s_74_62, s_74_65, s_74_68, s_74_71, s_74_74, s_74_75, s_74_78, s_74_79, amLong_I, amLong_R, amLong_N, amLong_L, cond_true, cond_false, Option.toList_some, Option.toList_none, List.cons_append, List.nil_append, List.append_nil, setE, setN, cpy_set, lit, nle, nlt, neq, inb_iff, cl_nI, tle, fle, tlt, flt, teq, feq, m9, m3, x9, x3, nI_add, nsub, upN, upE, b0', b01', r100, w100, r101, w101, r102, w102, r103, w103, r104, w104, r105, w105, r106, w106, r107, w107, r108, w108, w109, w110, r111, w111, r112, w112, r113, w113, r114, w114, r115, w115, r116, w116, r117, w117, r118, w118, r119, w119, w120, w121, r122, w122, r130, w130, w131, w132, r133, w133, r134, w134, r135, w135, r136, w136, r137, w137, r138, w138, r139, w139, r140, w140, r141, w141, w142, r143, w143, r144, w144, r145, w145, r146, w146, w147, w150, b1', em1, Bool.false_eq_true, not_true_eq_false, not_false_eq_true, false_implies, true_implies, and_true, true_and, if_true, if_false, implies_true, Classical.not_not, true_or, or_true, false_or, or_false, and_self, ite_true, ite_false, reduceIte]
      exact fin h3 (by rw [bI_t eb]; rfl)
    · simp (disch := omega) only [s_74_0, s_74_1, s_74_4, s_74_7, s_74_9, s_74_10, s_74_11, s_74_14, s_74_17, s_74_18, s_74_21, s_74_22, s_74_25, s_74_26, s_74_29, s_74_32, s_74_35, s_74_38, s_74_39, s_74_42, s_74_43, s_74_46, s_74_47, s_74_50, s_74_51, s_74_54, s_74_57, s_74_58, s_74_61, s_74_62, s_74_65, s_74_68, s_74_71, s_74_74, s_74_75, s_74_78, s_74_79, amLong_I, amLong_R, amLong_N, amLong_L, cond_true, cond_false, Option.toList_some, Option.toList_none, List.cons_append, List.nil_append, List.append_nil, setE, setN, cpy_set, lit, nle, nlt, neq, inb_iff, cl_nI, tle, fle, tlt, flt, teq, feq, m9, m3, x9, x3, nI_add, nsub, upN, upE, b0', b01', r100, w100, r101, w101, r102, w102, r103, w103, r104, w104, r105, w105, r106, w106, r107, w107, r108, w108, w109, w110, r111, w111, r112, w112, r113, w113, r114, w114, r115, w115, r116, w116, r117, w117, r118, w118, r119, w119, w120, w121, r122, w122, r130, w130, w131, w132, r133, w133, r134, w134, r135, w135, r136, w136, r137, w137, r138, w138, r139, w139, r140, w140, r141, w141, w142, r143, w143, r144, w144, r145, w145, r146, w146, w147, w150, b1', em1, Bool.false_eq_true, not_true_eq_false, not_false_eq_true, false_implies, true_implies, and_true, true_and, if_true, if_false, implies_true, Classical.not_not, true_or, or_true, false_or, or_false, and_self, ite_true, ite_false, reduceIte, c77 h0 hV2.1 ht0, ea, eb]
      refine v43 (v := nI 0) h2 (by decide) (fun M3 J3 h3 => ?_)
      simp (disch := omega) only [s_74_0, s_74_1, s_74_4, s_74_7, s_74_9, s_74_10, s_74_11, s_74_14, s_74_17, s_74_18, s_74_21, s_74_22, s_74_25, s_74_26, s_74_29, s_74_32, s_74_35, s_74_38, s_74_39, s_74_42, s_74_43, s_74_46, s_74_47, s_74_50, s_74_51, s_74_54, s_74_57, s_74_58, s_74_61, s_74_62, s_74_65, s_74_68, s_74_71, s_74_74, s_74_75, s_74_78, s_74_79, amLong_I, amLong_R, amLong_N, amLong_L, cond_true, cond_false, Option.toList_some, Option.toList_none, List.cons_append, List.nil_append, List.append_nil, setE, setN, cpy_set, lit, nle, nlt, neq, inb_iff, cl_nI, tle, fle, tlt, flt, teq, feq, m9, m3, x9, x3, nI_add, nsub, upN, upE, b0', b01', r100, w100, r101, w101, r102, w102, r103, w103, r104, w104, r105, w105, r106, w106, r107, w107, r108, w108, w109, w110, r111, w111, r112, w112, r113, w113, r114, w114, r115, w115, r116, w116, r117, w117, r118, w118, r119, w119, w120, w121, r122, w122, r130, w130, w131, w132, r133, w133, r134, w134, r135, w135, r136, w136, r137, w137, r138, w138, r139, w139, r140, w140, r141, w141, w142, r143, w143, r144, w144, r145, w145, r146, w146, w147, w150, b1', em1, Bool.false_eq_true, not_true_eq_false, not_false_eq_true, false_implies, true_implies, and_true, true_and, if_true, if_false, implies_true, Classical.not_not, true_or, or_true, false_or, or_false, and_self, ite_true, ite_false, reduceIte]
      exact fin h3 (by rw [bI_f eb]; rfl)
  · rw [if_neg c1] at H
    simp (disch := omega) only [s_74_0, s_74_1, s_74_4, s_74_7, s_74_9, s_74_10, s_74_11, s_74_14, s_74_17, s_74_18, s_74_21, s_74_22, s_74_25, s_74_26, s_74_29, s_74_32, s_74_35, s_74_38, s_74_39, s_74_42, s_74_43, s_74_46, s_74_47, s_74_50, s_74_51, s_74_54, s_74_57, s_74_58, s_74_61, s_74_62, s_74_65, s_74_68, s_74_71, s_74_74, s_74_75, s_74_78, s_74_79, amLong_I, amLong_R, amLong_N, amLong_L, cond_true, cond_false, Option.toList_some, Option.toList_none, List.cons_append, List.nil_append, List.append_nil, setE, setN, cpy_set, lit, nle, nlt, neq, inb_iff, cl_nI, tle, fle, tlt, flt, teq, feq, m9, m3, x9, x3, nI_add, nsub, upN, upE, b0', b01', r100, w100, r101, w101, r102, w102, r103, w103, r104, w104, r105, w105, r106, w106, r107, w107, r108, w108, w109, w110, r111, w111, r112, w112, r113, w113, r114, w114, r115, w115, r116, w116, r117, w117, r118, w118, r119, w119, w120, w121, r122, w122, r130, w130, w131, w132, r133, w133, r134, w134, r135, w135, r136, w136, r137, w137, r138, w138, r139, w139, r140, w140, r141, w141, w142, r143, w143, r144, w144, r145, w145, r146, w146, w147, w150, b1', em1, Bool.false_eq_true, not_true_eq_false, not_false_eq_true, false_implies, true_implies, and_true, true_and, if_true, if_false, implies_true, Classical.not_not, true_or, or_true, false_or, or_false, and_self, ite_true, ite_false, reduceIte, c1]
    exact H M1 J (hR.s f1) f1.q.fc FCJ.rfl
end CORN
