/-! corners: the class's way -/
def iI (z : Int) : Int32 := Int32.ofInt z
theorem iI_t {z : Int} (h1 : -1000 ≤ z) (h2 : z ≤ 1000) : (iI z).toInt = z := Int32.toInt_ofInt_of_le (by omega) (by omega)
theorem iI_add (x y : Int) : iI x + iI y = iI (x + y) := (Int32.ofInt_add x y).symm
theorem iI_neg (x : Int) : -iI x = iI (-x) := (Int32.ofInt_neg x).symm
theorem iI_n (n : Nat) : nI n = iI n := Int32.ofInt_eq_ofNat.symm
theorem iI_s (x : Int) : iI x + nI 1 = iI (x + 1) := by
  rw [iI_n, iI_add]
  rfl
theorem iI_lt {n : Nat} {z : Int} (hn : n ≤ 1000) (h1 : -1000 ≤ z) (h2 : z ≤ 1000) : nI n < iI z ↔ (n : Int) < z := by
  rw [Int32.lt_iff_toInt_lt, nI_toInt (by omega), iI_t h1 h2]
theorem iI_0 {z : Int} (h1 : -1000 ≤ z) (h2 : z ≤ 1000) : iI z = nI 0 ↔ z = 0 := by
  rw [← Int32.toInt_inj, iI_t h1 h2]
  exact Iff.rfl
/-- a gain of anything laid on the profiles -/
def GZ (sh : Nat) (pay : Nat → Int32) (e : Nat → Int) (k : Nat) : Int := sumZ (fun p => e p * (dl sh pay p k).toInt) (prf sh)
theorem GZ_b {sh : Nat} {pay : Nat → Int32} {e : Nat → Int} {k : Nat} (h5 : sh < 5) (hp : pB pay) (he : ∀ q, q < 9 → -12 ≤ e q ∧ e q ≤ 12) : (gns sh pay (fun q => iI (e q)) k).toInt = GZ sh pay e k ∧ -1944 ≤ GZ sh pay e k ∧ GZ sh pay e k ≤ 1944 := by
  have h4 := (sh_ok sh h5).1
  obtain ⟨h1, h2, h3⟩ := gns_b (k := k) (tok := fun q => iI (e q)) h5 hp (fun q hq => by have := he q hq; rw [iI_t (by omega) (by omega)]; exact this)
  have h6 : (gns sh pay (fun q => iI (e q)) k).toInt = GZ sh pay e k := by
    rw [h1]
    exact sumZ_c _ (fun q hq => by have := he q (by omega); rw [iI_t (by omega) (by omega)])
  rw [h6] at h2 h3
  exact ⟨h6, h2, h3⟩
theorem sumZ_add {f g : Nat → Int} : ∀ n, sumZ (fun p => f p + g p) n = sumZ f n + sumZ g n
  | 0 => rfl
  | n + 1 => by
    show sumZ (fun p => f p + g p) n + (f n + g n) = sumZ f n + f n + (sumZ g n + g n)
    rw [sumZ_add n]
    omega
theorem sumZ_neg {f : Nat → Int} : ∀ n, sumZ (fun p => -f p) n = -sumZ f n
  | 0 => rfl
  | n + 1 => by
    show sumZ (fun p => -f p) n + -f n = -(sumZ f n + f n)
    rw [sumZ_neg n]
    omega
theorem GZ_add {sh : Nat} {pay : Nat → Int32} {f g : Nat → Int} {k : Nat} : GZ sh pay (fun p => f p + g p) k = GZ sh pay f k + GZ sh pay g k := by
  unfold GZ
  rw [← sumZ_add]
  exact sumZ_c _ (fun p _ => Int.add_mul _ _ _)
theorem GZ_neg {sh : Nat} {pay : Nat → Int32} {f : Nat → Int} {k : Nat} : GZ sh pay (fun p => -f p) k = -GZ sh pay f k := by
  unfold GZ
  rw [← sumZ_neg]
  exact sumZ_c _ (fun p _ => Int.neg_mul _ _)
/-- a lean that goes on as told up to p -/
def Ec (sh : Nat) (pay : Nat → Int32) (a : List Nat) (p : Nat) (δ : Nat → Int) : Prop := ∃ e : Nat → Int, (∀ q, q < p → e q = δ q) ∧ (∀ q, p ≤ q → q < prf sh → -(gt a q : Int) ≤ e q ∧ e q ≤ gt a q) ∧ (∀ q, q < prf sh → (∀ r, r < q → e r = 0) → 0 ≤ e q) ∧ sumZ e (prf sh) = 0 ∧ (∃ q, q < prf sh ∧ e q ≠ 0) ∧ ∀ k, k < 27 → GZ sh pay (fun q => gt a q) k ≤ GZ sh pay e k ∧ GZ sh pay e k ≤ -GZ sh pay (fun q => gt a q) k
def upd1 (δ : Nat → Int) (p : Nat) (z : Int) : Nat → Int := fun q => if q = p then z else δ q
theorem Ec_s {sh : Nat} {pay : Nat → Int32} {a : List Nat} {p : Nat} {δ : Nat → Int} (hp : p < prf sh) : Ec sh pay a p δ ↔ ∃ z : Int, (-(gt a p : Int) ≤ z ∧ z ≤ gt a p) ∧ ((∀ r, r < p → δ r = 0) → 0 ≤ z) ∧ Ec sh pay a (p + 1) (upd1 δ p z) := by
  constructor
  · rintro ⟨e, h1, h2, h3, h4⟩
    refine ⟨e p, h2 p (Nat.le_refl _) hp, fun h => h3 p hp (fun r hr => by rw [h1 r hr, h r hr]), e, fun q hq => ?_, fun q h5 h6 => h2 q (by omega) h6, h3, h4⟩
    unfold upd1
    by_cases e1 : q = p
    · rw [if_pos e1, e1]
    · rw [if_neg e1, h1 q (by omega)]
  · rintro ⟨z, h0, hz, e, h1, h2, h3, h4⟩
    refine ⟨e, fun q hq => ?_, fun q h5 h6 => ?_, h3, h4⟩
    · rw [h1 q (by omega)]
      exact if_neg (by omega)
    · by_cases e1 : q = p
      · subst e1
        rw [h1 q (by omega)]
        unfold upd1
        rw [if_pos rfl]
        exact h0
      · exact h2 q (by omega) h6
section HALF
variable {d g t jk X sh : Nat} {M M1 M2 : amM} {J J1 J2 : amJ} {Q : Option amV → amS → Prop} {pay tok tk : Nat → Int32}
theorem c81 : Call (d + 1) 81 [vR 9 2, vR 9 3] (M, J, (jk, 149, 147, X)) Q ↔ Q (some (vI (bI (bo (∀ k, k < 27 → ab (M 114 3 k) ≤ -M 114 2 k) = true)))) (M, J, (jk, 149, 147, X)) := by
  refine pureC (fun Q hQ => ?_)
  have hal := al_114 (show 2 < 4 by decide)
  rw [e_81]
  simp (disch := omega) only [s_81_0, s_81_1, s_81_3, s_81_4, s_81_7, s_81_8, s_81_11, s_81_12, s_81_15, s_81_16, s_81_17, s_81_20, s_81_21, s_81_24, s_81_25, s_81_26, s_81_27, s_81_30, s_81_31, s_81_32, s_81_35, s_81_38, s_81_39, amLong_I, amLong_R, amLong_N, amLong_L, cond_true, cond_false, Option.toList_some, Option.toList_none, List.cons_append, List.nil_append, List.append_nil, setE, setN, cpy_set, lit, nle, nlt, neq, inb_iff, cl_nI, tle, fle, tlt, flt, teq, feq, m9, m3, x9, x3, nI_add, nsub, upN, upE, b0', b01', r100, w100, r101, w101, r102, w102, r103, w103, r104, w104, r105, w105, r106, w106, r107, w107, r108, w108, w109, w110, r111, w111, r112, w112, r113, w113, r114, w114, r115, w115, r116, w116, r117, w117, r118, w118, r119, w119, w120, w121, r122, w122, r130, w130, w131, w132, r133, w133, r134, w134, r135, w135, r136, w136, r137, w137, r138, w138, r139, w139, r140, w140, r141, w141, w142, r143, w143, r144, w144, r145, w145, r146, w146, w147, w150, b1', em1, Bool.false_eq_true, not_true_eq_false, not_false_eq_true, false_implies, true_implies, and_true, true_and, if_true, if_false, implies_true, Classical.not_not, true_or, or_true, false_or, or_false, and_self, ite_true, ite_false, reduceIte]
  refine lpP (U := Unit) (P := 27) (E := fun k u => Ev (d) 81 2 [some (vR 9 (2)), some (vR 9 (3)), some (vI (nI k))] [] (M, J, (jk, 149, 147, X)) Q) (I := fun k => ∀ j, j < k → ab (M 114 3 j) ≤ -M 114 2 j) (fun u hI => ?_) (fun k u hk hI next => ?_) 0 () (by omega) (no_lt _)
  · rw [h_81_2]
    simp (disch := omega) only [s_81_0, s_81_1, s_81_3, s_81_4, s_81_7, s_81_8, s_81_11, s_81_12, s_81_15, s_81_16, s_81_17, s_81_20, s_81_21, s_81_24, s_81_25, s_81_26, s_81_27, s_81_30, s_81_31, s_81_32, s_81_35, s_81_38, s_81_39, amLong_I, amLong_R, amLong_N, amLong_L, cond_true, cond_false, Option.toList_some, Option.toList_none, List.cons_append, List.nil_append, List.append_nil, setE, setN, cpy_set, lit, nle, nlt, neq, inb_iff, cl_nI, tle, fle, tlt, flt, teq, feq, m9, m3, x9, x3, nI_add, nsub, upN, upE, b0', b01', r100, w100, r101, w101, r102, w102, r103, w103, r104, w104, r105, w105, r106, w106, r107, w107, r108, w108, w109, w110, r111, w111, r112, w112, r113, w113, r114, w114, r115, w115, r116, w116, r117, w117, r118, w118, r119, w119, w120, w121, r122, w122, r130, w130, w131, w132, r133, w133, r134, w134, r135, w135, r136, w136, r137, w137, r138, w138, r139, w139, r140, w140, r141, w141, w142, r143, w143, r144, w144, r145, w145, r146, w146, w147, w150, b1', em1, Bool.false_eq_true, not_true_eq_false, not_false_eq_true, false_implies, true_implies, and_true, true_and, if_true, if_false, implies_true, Classical.not_not, true_or, or_true, false_or, or_false, and_self, ite_true, ite_false, reduceIte, hal, show Int32.ofNat (amLen 114) = nI 27 from rfl, show ((114 : Nat) == 99) = false from rfl, decide_true, Bool.and_self, Bool.or_true, show (100 : Nat) ≤ 114 from by decide]
    rw [bo_t hI] at hQ
    exact hQ
  · rw [h_81_2]
    simp (disch := omega) only [s_81_0, s_81_1, s_81_3, s_81_4, s_81_7, s_81_8, s_81_11, s_81_12, s_81_15, s_81_16, s_81_17, s_81_20, s_81_21, s_81_24, s_81_25, s_81_26, s_81_27, s_81_30, s_81_31, s_81_32, s_81_35, s_81_38, s_81_39, amLong_I, amLong_R, amLong_N, amLong_L, cond_true, cond_false, Option.toList_some, Option.toList_none, List.cons_append, List.nil_append, List.append_nil, setE, setN, cpy_set, lit, nle, nlt, neq, inb_iff, cl_nI, tle, fle, tlt, flt, teq, feq, m9, m3, x9, x3, nI_add, nsub, upN, upE, b0', b01', r100, w100, r101, w101, r102, w102, r103, w103, r104, w104, r105, w105, r106, w106, r107, w107, r108, w108, w109, w110, r111, w111, r112, w112, r113, w113, r114, w114, r115, w115, r116, w116, r117, w117, r118, w118, r119, w119, w120, w121, r122, w122, r130, w130, w131, w132, r133, w133, r134, w134, r135, w135, r136, w136, r137, w137, r138, w138, r139, w139, r140, w140, r141, w141, w142, r143, w143, r144, w144, r145, w145, r146, w146, w147, w150, b1', em1, Bool.false_eq_true, not_true_eq_false, not_false_eq_true, false_implies, true_implies, and_true, true_and, if_true, if_false, implies_true, Classical.not_not, true_or, or_true, false_or, or_false, and_self, ite_true, ite_false, reduceIte, hal, show Int32.ofNat (amLen 114) = nI 27 from rfl, show ((114 : Nat) == 99) = false from rfl, decide_true, Bool.and_self, Bool.or_true, show (100 : Nat) ≤ 114 from by decide]
    refine ⟨fun h => next (ext_lt hI h) (), fun h => ?_⟩
    rw [bo_f (fun z => h (z k hk))] at hQ
    exact hQ
theorem ab_t {x : Int32} (h : -1944 ≤ x.toInt) : (ab x).toInt = if 0 ≤ x.toInt then x.toInt else -x.toInt := by
  have h2 := x.toInt_lt
  unfold ab
  by_cases e : nI 0 ≤ x
  · have e1 := e
    rw [Int32.le_iff_toInt_le, show (nI 0).toInt = 0 from rfl] at e1
    rw [if_pos e, if_pos e1]
  · have e1 := e
    rw [Int32.le_iff_toInt_le, show (nI 0).toInt = 0 from rfl] at e1
    rw [if_neg e, if_neg e1, tS (by rw [show (nI 0).toInt = 0 from rfl]; omega) (by rw [show (nI 0).toInt = 0 from rfl]; omega), show (nI 0).toInt = 0 from rfl]
    omega
theorem wth_iff {a : List Nat} {δ : Nat → Int} (h5 : sh < 5) (hp : pB pay) (h6 : lsum a ≤ 6) (hd : ∀ q, -6 ≤ δ q ∧ δ q ≤ 6) (h2 : TL M 2 sh pay (tf a)) (h3 : TL M 3 sh pay (fun q => iI (δ q))) : (∀ k, k < 27 → ab (M 114 3 k) ≤ -M 114 2 k) ↔ ∀ k, k < 27 → GZ sh pay (fun q => gt a q) k ≤ GZ sh pay δ k ∧ GZ sh pay δ k ≤ -GZ sh pay (fun q => gt a q) k := by
  have key : ∀ k, k < 27 → (ab (M 114 3 k) ≤ -M 114 2 k ↔ GZ sh pay (fun q => gt a q) k ≤ GZ sh pay δ k ∧ GZ sh pay δ k ≤ -GZ sh pay (fun q => gt a q) k) := by
    intro k hk
    obtain ⟨e1, e2, e3⟩ := GZ_b (k := k) (e := δ) h5 hp (fun q _ => by have := hd q; omega)
    obtain ⟨f1, f2, f3⟩ := GZ_b (k := k) (e := fun q => (gt a q : Int)) h5 hp (fun q _ => by have := gt_le a q; omega)
    have e4 : (M 114 3 k).toInt = GZ sh pay δ k := by rw [h3.2.2 k hk, e1]
    have f4 : (M 114 2 k).toInt = GZ sh pay (fun q => gt a q) k := by
      rw [h2.2.2 k hk, ← f1, gns_congr (tok := tf a) (pay' := pay) (tok' := fun q => iI (gt a q)) (fun p _ => iI_n (gt a p))]
    rw [Int32.le_iff_toInt_le, ab_t (by omega), tN (by omega), e4, f4]
    split <;> omega
  exact ⟨fun h k hk => (key k hk).mp (h k hk), fun h k hk => (key k hk).mpr (h k hk)⟩
theorem TL.fr {t' : Nat} {f : Nat → Int32} (h : TL M t' sh pay f) (hF : FrT M M1 t) (hn : t' ≠ t) : TL M1 t' sh pay f :=
  ⟨h.1.of (fun c k hc => hF c t' k (by omega)), fun p hp => by rw [hF _ _ _ (by omega), h.2.1 p hp], fun k hk => by rw [hF _ _ _ (by omega), h.2.2 k hk]⟩
theorem FrT.trans (h1 : FrT M M1 t) (h2 : FrT M1 M2 t) : FrT M M2 t := fun c j k h => by rw [h2 c j k h, h1 c j k h]
theorem putM_fr {p : Nat} {n : Int32} : FrT M (putM M t sh pay p n) t := fun c j k h => putM_f (by omega)
theorem sumZ_upd {δ : Nat → Int} {p : Nat} {z : Int} : sumZ (upd1 δ p z) (p + 1) = sumZ δ p + z := by
  show sumZ (upd1 δ p z) p + upd1 δ p z p = _
  rw [sumZ_c (f := upd1 δ p z) (g := δ) p (fun q hq => by unfold upd1; rw [if_neg (by omega)])]
  unfold upd1
  rw [if_pos rfl]
theorem sumZ_bd {δ : Nat → Int} (hd : ∀ q, -6 ≤ δ q ∧ δ q ≤ 6) : ∀ n : Nat, -(6 * (n : Int)) ≤ sumZ δ n ∧ sumZ δ n ≤ 6 * (n : Int)
  | 0 => ⟨by show _ ≤ (0 : Int); omega, by show (0 : Int) ≤ _; omega⟩
  | n + 1 => by
    have h1 := sumZ_bd hd n
    have h2 := hd n
    show _ ≤ sumZ δ n + δ n ∧ sumZ δ n + δ n ≤ _
    omega
theorem c80 {a : List Nat} (hpB : pB pay) (h5 : sh < 5) (h6 : lsum a ≤ 6) : ∀ (m p : Nat) (δ : Nat → Int) (bg : Bool) (M : amM) (Q : Option amV → amS → Prop), p + m = prf sh → TL M 2 sh pay (tf a) → TL M 3 sh pay (fun q => iI (δ q)) → (∀ q, p ≤ q → δ q = 0) → (∀ q, -6 ≤ δ q ∧ δ q ≤ 6) → (∀ q, q < p → (∀ r, r < q → δ r = 0) → 0 ≤ δ q) → (bg = true ↔ ∃ q, q < p ∧ δ q ≠ 0) → (∀ M1, FrT M M1 3 → TL M1 3 sh pay (fun q => iI (δ q)) → Q (some (vI (bI (bo (Ec sh pay a p δ) = true)))) (M1, J, (jk, 149, 147, X))) → Call (d + m + 2) 80 [vR 9 2, vR 9 3, vI (nI p), vI (iI (sumZ δ p)), vI (nI (if bg = true then 1 else 0))] (M, J, (jk, 149, 147, X)) Q
  | 0, p, δ, bg, M, Q, hp, h2, h3, hz, hd, hf, hb, H => by
    obtain ⟨l1, l2, l3, l4⟩ := (sh_ok sh h5).1
    have hs := sumZ_bd hd p
    have hw := wth_iff h5 hpB h6 hd h2 h3
    have hE : Ec sh pay a p δ ↔ (bg = true ∧ sumZ δ p = 0 ∧ ∀ k, k < 27 → ab (M 114 3 k) ≤ -M 114 2 k) := by
      rw [hw, hb]
      constructor
      · rintro ⟨e, g1, g2, g3, g4, ⟨q, g5, g6⟩, g7⟩
        have ee : ∀ n, n ≤ p → sumZ e n = sumZ δ n := fun n hn => sumZ_c n (fun q hq => g1 q (by omega))
        refine ⟨⟨q, by omega, by rw [← g1 q (by omega)]; exact g6⟩, by rw [← ee p (Nat.le_refl _), show p = prf sh by omega]; exact g4, fun k hk => ?_⟩
        have e2 : GZ sh pay e k = GZ sh pay δ k := sumZ_c _ (fun q hq => by rw [g1 q (by omega)])
        rw [← e2]
        exact g7 k hk
      · rintro ⟨⟨q, g1, g2⟩, g3, g4⟩
        exact ⟨δ, fun _ _ => rfl, fun q h1 h2 => by omega, fun q hq h => hf q (by omega) h, by rw [show prf sh = p by omega]; exact g3, ⟨q, by omega, g2⟩, g4⟩
    have HQ := H M (fun _ _ _ _ => rfl) h3
    rw [e_80]
    cases bg with
    | false =>
      rw [bo_f (fun z => by have := (hE.mp z).1; cases this)] at HQ
      simp (disch := omega) only [s_80_0, s_80_1, s_80_2, s_80_5, s_80_8, s_80_10, s_80_13, s_80_14, s_80_17, s_80_18, s_80_19, s_80_22, s_80_25, s_80_26, s_80_29, s_80_30, s_80_31, s_80_32, s_80_35, s_80_36, s_80_37, s_80_39, s_80_40, s_80_42, s_80_44, s_80_47, s_80_49, s_80_50, s_80_53, s_80_54, s_80_58, s_80_60, s_80_63, s_80_65, s_80_68, s_80_69, s_80_70, s_80_72, s_80_75, s_80_76, s_80_77, s_80_78, s_80_79, s_80_80, s_80_81, s_80_83, s_80_84, s_80_86, s_80_89, s_80_91, s_80_94, s_80_95, s_80_98, s_80_99, s_80_102, s_80_104, s_80_105, s_80_106, s_80_108, s_80_109, s_80_112, s_80_115, s_80_118, s_80_120, amLong_I, amLong_R, amLong_N, amLong_L, cond_true, cond_false, Option.toList_some, Option.toList_none, List.cons_append, List.nil_append, List.append_nil, setE, setN, cpy_set, lit, nle, nlt, neq, inb_iff, cl_nI, tle, fle, tlt, flt, teq, feq, m9, m3, x9, x3, nI_add, nsub, upN, upE, b0', b01', r100, w100, r101, w101, r102, w102, r103, w103, r104, w104, r105, w105, r106, w106, r107, w107, r108, w108, w109, w110, r111, w111, r112, w112, r113, w113, r114, w114, r115, w115, r116, w116, r117, w117, r118, w118, r119, w119, w120, w121, r122, w122, r130, w130, w131, w132, r133, w133, r134, w134, r135, w135, r136, w136, r137, w137, r138, w138, r139, w139, r140, w140, r141, w141, w142, r143, w143, r144, w144, r145, w145, r146, w146, w147, w150, b1', em1, Bool.false_eq_true, not_true_eq_false, not_false_eq_true, false_implies, true_implies, and_true, true_and, if_true, if_false, implies_true, Classical.not_not, true_or, or_true, false_or, or_false, and_self, ite_true, ite_false, reduceIte, h2.1.2.2.1, show ¬ (false = true) from by decide]
      exact HQ
    | true =>
      by_cases e1 : sumZ δ p = 0
      · have e2 : iI (sumZ δ p) = nI 0 := (iI_0 (by omega) (by omega)).mpr e1
        by_cases e3 : ∀ k, k < 27 → ab (M 114 3 k) ≤ -M 114 2 k
        · have e4 := bo_iff.mpr e3
          rw [bo_t (hE.mpr ⟨rfl, e1, e3⟩)] at HQ
          simp (disch := omega) only [s_80_0, s_80_1, s_80_2, s_80_5, s_80_8, s_80_10, s_80_13, s_80_14, s_80_17, s_80_18, s_80_19, s_80_22, s_80_25, s_80_26, s_80_29, s_80_30, s_80_31, s_80_32, s_80_35, s_80_36, s_80_37, s_80_39, s_80_40, s_80_42, s_80_44, s_80_47, s_80_49, s_80_50, s_80_53, s_80_54, s_80_58, s_80_60, s_80_63, s_80_65, s_80_68, s_80_69, s_80_70, s_80_72, s_80_75, s_80_76, s_80_77, s_80_78, s_80_79, s_80_80, s_80_81, s_80_83, s_80_84, s_80_86, s_80_89, s_80_91, s_80_94, s_80_95, s_80_98, s_80_99, s_80_102, s_80_104, s_80_105, s_80_106, s_80_108, s_80_109, s_80_112, s_80_115, s_80_118, s_80_120, amLong_I, amLong_R, amLong_N, amLong_L, cond_true, cond_false, Option.toList_some, Option.toList_none, List.cons_append, List.nil_append, List.append_nil, setE, setN, cpy_set, lit, nle, nlt, neq, inb_iff, cl_nI, tle, fle, tlt, flt, teq, feq, m9, m3, x9, x3, nI_add, nsub, upN, upE, b0', b01', r100, w100, r101, w101, r102, w102, r103, w103, r104, w104, r105, w105, r106, w106, r107, w107, r108, w108, w109, w110, r111, w111, r112, w112, r113, w113, r114, w114, r115, w115, r116, w116, r117, w117, r118, w118, r119, w119, w120, w121, r122, w122, r130, w130, w131, w132, r133, w133, r134, w134, r135, w135, r136, w136, r137, w137, r138, w138, r139, w139, r140, w140, r141, w141, w142, r143, w143, r144, w144, r145, w145, r146, w146, w147, w150, b1', em1, Bool.false_eq_true, not_true_eq_false, not_false_eq_true, false_implies, true_implies, and_true, true_and, if_true, if_false, implies_true, Classical.not_not, true_or, or_true, false_or, or_false, and_self, ite_true, ite_false, reduceIte, h2.1.2.2.1, e2, c81, e4]
          exact HQ
        · have e4 : ¬ bo (∀ k, k < 27 → ab (M 114 3 k) ≤ -M 114 2 k) = true := fun z => e3 (bo_iff.mp z)
          rw [bo_f (fun z => e3 (hE.mp z).2.2)] at HQ
          simp (disch := omega) only [s_80_0, s_80_1, s_80_2, s_80_5, s_80_8, s_80_10, s_80_13, s_80_14, s_80_17, s_80_18, s_80_19, s_80_22, s_80_25, s_80_26, s_80_29, s_80_30, s_80_31, s_80_32, s_80_35, s_80_36, s_80_37, s_80_39, s_80_40, s_80_42, s_80_44, s_80_47, s_80_49, s_80_50, s_80_53, s_80_54, s_80_58, s_80_60, s_80_63, s_80_65, s_80_68, s_80_69, s_80_70, s_80_72, s_80_75, s_80_76, s_80_77, s_80_78, s_80_79, s_80_80, s_80_81, s_80_83, s_80_84, s_80_86, s_80_89, s_80_91, s_80_94, s_80_95, s_80_98, s_80_99, s_80_102, s_80_104, s_80_105, s_80_106, s_80_108, s_80_109, s_80_112, s_80_115, s_80_118, s_80_120, amLong_I, amLong_R, amLong_N, amLong_L, cond_true, cond_false, Option.toList_some, Option.toList_none, List.cons_append, List.nil_append, List.append_nil, setE, setN, cpy_set, lit, nle, nlt, neq, inb_iff, cl_nI, tle, fle, tlt, flt, teq, feq, m9, m3, x9, x3, nI_add, nsub, upN, upE, b0', b01', r100, w100, r101, w101, r102, w102, r103, w103, r104, w104, r105, w105, r106, w106, r107, w107, r108, w108, w109, w110, r111, w111, r112, w112, r113, w113, r114, w114, r115, w115, r116, w116, r117, w117, r118, w118, r119, w119, w120, w121, r122, w122, r130, w130, w131, w132, r133, w133, r134, w134, r135, w135, r136, w136, r137, w137, r138, w138, r139, w139, r140, w140, r141, w141, w142, r143, w143, r144, w144, r145, w145, r146, w146, w147, w150, b1', em1, Bool.false_eq_true, not_true_eq_false, not_false_eq_true, false_implies, true_implies, and_true, true_and, if_true, if_false, implies_true, Classical.not_not, true_or, or_true, false_or, or_false, and_self, ite_true, ite_false, reduceIte, h2.1.2.2.1, e2, c81, e4]
          exact HQ
      · have e2 : ¬ iI (sumZ δ p) = nI 0 := fun z => e1 ((iI_0 (by omega) (by omega)).mp z)
        rw [bo_f (fun z => e1 (hE.mp z).2.1)] at HQ
        simp (disch := omega) only [s_80_0, s_80_1, s_80_2, s_80_5, s_80_8, s_80_10, s_80_13, s_80_14, s_80_17, s_80_18, s_80_19, s_80_22, s_80_25, s_80_26, s_80_29, s_80_30, s_80_31, s_80_32, s_80_35, s_80_36, s_80_37, s_80_39, s_80_40, s_80_42, s_80_44, s_80_47, s_80_49, s_80_50, s_80_53, s_80_54, s_80_58, s_80_60, s_80_63, s_80_65, s_80_68, s_80_69, s_80_70, s_80_72, s_80_75, s_80_76, s_80_77, s_80_78, s_80_79, s_80_80, s_80_81, s_80_83, s_80_84, s_80_86, s_80_89, s_80_91, s_80_94, s_80_95, s_80_98, s_80_99, s_80_102, s_80_104, s_80_105, s_80_106, s_80_108, s_80_109, s_80_112, s_80_115, s_80_118, s_80_120, amLong_I, amLong_R, amLong_N, amLong_L, cond_true, cond_false, Option.toList_some, Option.toList_none, List.cons_append, List.nil_append, List.append_nil, setE, setN, cpy_set, lit, nle, nlt, neq, inb_iff, cl_nI, tle, fle, tlt, flt, teq, feq, m9, m3, x9, x3, nI_add, nsub, upN, upE, b0', b01', r100, w100, r101, w101, r102, w102, r103, w103, r104, w104, r105, w105, r106, w106, r107, w107, r108, w108, w109, w110, r111, w111, r112, w112, r113, w113, r114, w114, r115, w115, r116, w116, r117, w117, r118, w118, r119, w119, w120, w121, r122, w122, r130, w130, w131, w132, r133, w133, r134, w134, r135, w135, r136, w136, r137, w137, r138, w138, r139, w139, r140, w140, r141, w141, w142, r143, w143, r144, w144, r145, w145, r146, w146, w147, w150, b1', em1, Bool.false_eq_true, not_true_eq_false, not_false_eq_true, false_implies, true_implies, and_true, true_and, if_true, if_false, implies_true, Classical.not_not, true_or, or_true, false_or, or_false, and_self, ite_true, ite_false, reduceIte, h2.1.2.2.1, e2]
        exact HQ
  | m + 1, p, δ, bg, M, Q, hp, h2, h3, hz, hd, hf, hb, H => by
    obtain ⟨l1, l2, l3, l4⟩ := (sh_ok sh h5).1
    have hpp : p < prf sh := by omega
    have hg := gt_le a p
    have e0 : M 113 2 p = nI (gt a p) := h2.2.1 p (by omega)
    have hs := sumZ_bd hd p
    have hEs := Ec_s (pay := pay) (a := a) (δ := δ) hpp
    have h34 : (3 : Nat) < 4 := by decide
    have lo : ∃ z0 : Int, (z0 = if bg = true then -(gt a p : Int) else 0) := ⟨_, rfl⟩
    obtain ⟨z0, hz0⟩ := lo
    have key : ∀ (n : Nat) (z : Int) (M1 : amM), z + n = gt a p + 1 → z0 ≤ z → -6 ≤ z → FrT M M1 3 → TL M1 3 sh pay (fun q => iI (δ q)) → (∀ y, z0 ≤ y → y < z → ¬ Ec sh pay a (p + 1) (upd1 δ p y)) → Ev (d + m + 2) 80 56 [some (vR 9 2), some (vR 9 3), some (vI (nI p)), some (vI (iI (sumZ δ p))), some (vI (nI (if bg = true then 1 else 0))), some (vI (nI (gt a p))), some (vI (nI 0)), some (vI (iI z))] [] (M1, J, (jk, 149, 147, X)) Q := by
      intro n
      induction n with
      | zero =>
        intro z M1 hn hz1 hz6 hF hT hno
        have HQ := H M1 hF hT
        rw [bo_f (fun y => ?_)] at HQ
        · have e1 : nI (gt a p) < iI z := (iI_lt (by omega) (by omega) (by omega)).mpr (by omega)
          rw [h_80_56]
          simp (disch := omega) only [s_80_0, s_80_1, s_80_2, s_80_5, s_80_8, s_80_10, s_80_13, s_80_14, s_80_17, s_80_18, s_80_19, s_80_22, s_80_25, s_80_26, s_80_29, s_80_30, s_80_31, s_80_32, s_80_35, s_80_36, s_80_37, s_80_39, s_80_40, s_80_42, s_80_44, s_80_47, s_80_49, s_80_50, s_80_53, s_80_54, s_80_58, s_80_60, s_80_63, s_80_65, s_80_68, s_80_69, s_80_70, s_80_72, s_80_75, s_80_76, s_80_77, s_80_78, s_80_79, s_80_80, s_80_81, s_80_83, s_80_84, s_80_86, s_80_89, s_80_91, s_80_94, s_80_95, s_80_98, s_80_99, s_80_102, s_80_104, s_80_105, s_80_106, s_80_108, s_80_109, s_80_112, s_80_115, s_80_118, s_80_120, amLong_I, amLong_R, amLong_N, amLong_L, cond_true, cond_false, Option.toList_some, Option.toList_none, List.cons_append, List.nil_append, List.append_nil, setE, setN, cpy_set, lit, nle, nlt, neq, inb_iff, cl_nI, tle, fle, tlt, flt, teq, feq, m9, m3, x9, x3, nI_add, nsub, upN, upE, b0', b01', r100, w100, r101, w101, r102, w102, r103, w103, r104, w104, r105, w105, r106, w106, r107, w107, r108, w108, w109, w110, r111, w111, r112, w112, r113, w113, r114, w114, r115, w115, r116, w116, r117, w117, r118, w118, r119, w119, w120, w121, r122, w122, r130, w130, w131, w132, r133, w133, r134, w134, r135, w135, r136, w136, r137, w137, r138, w138, r139, w139, r140, w140, r141, w141, w142, r143, w143, r144, w144, r145, w145, r146, w146, w147, w150, b1', em1, Bool.false_eq_true, not_true_eq_false, not_false_eq_true, false_implies, true_implies, and_true, true_and, if_true, if_false, implies_true, Classical.not_not, true_or, or_true, false_or, or_false, and_self, ite_true, ite_false, reduceIte, e1]
          exact HQ
        · obtain ⟨y1, y2, y3, y4⟩ := hEs.mp y
          refine hno y1 ?_ (by omega) y4
          rw [hz0]
          cases bg with
          | true =>
            rw [if_pos rfl]
            exact y2.1
          | false =>
            rw [if_neg (by decide)]
            refine y3 (fun r hr => Classical.byContradiction (fun w => ?_))
            have := hb.mpr ⟨r, hr, w⟩
            cases this
      | succ n ih =>
        intro z M1 hn hz1 hz6 hF hT hno
        have e1 : ¬ nI (gt a p) < iI z := fun w => by
          have := (iI_lt (by omega) (by omega) (by omega)).mp w
          omega
        have hzb : z ≤ gt a p := by omega
        have hT1 : TL (putM M1 3 sh pay p (iI z)) 3 sh pay (fun q => iI (upd1 δ p z q)) := (hT.put hpp).tk (fun q hq => by
          unfold upd1
          by_cases e : q = p
          · rw [if_pos e, if_pos e, hz q (by omega), iI_add, Int.zero_add]
          · rw [if_neg e, if_neg e])
        have hF1 : FrT M (putM M1 3 sh pay p (iI z)) 3 := hF.trans putM_fr
        have hT2 : TL (putM M1 3 sh pay p (iI z)) 2 sh pay (tf a) := h2.fr hF1 (by decide)
        have hbg : ∀ b2 : Bool, (b2 = true ↔ (bg = true ∨ z ≠ 0)) → (b2 = true ↔ ∃ q, q < p + 1 ∧ upd1 δ p z q ≠ 0) := by
          intro b2 h
          rw [h, hb]
          constructor
          · rintro (⟨q, q1, q2⟩ | q2)
            · exact ⟨q, by omega, by unfold upd1; rw [if_neg (by omega)]; exact q2⟩
            · exact ⟨p, by omega, by unfold upd1; rw [if_pos rfl]; exact q2⟩
          · rintro ⟨q, q1, q2⟩
            unfold upd1 at q2
            by_cases e : q = p
            · rw [if_pos e] at q2
              exact Or.inr q2
            · rw [if_neg e] at q2
              exact Or.inl ⟨q, by omega, q2⟩
        have hfp : ∀ q, q < p + 1 → (∀ r, r < q → upd1 δ p z r = 0) → 0 ≤ upd1 δ p z q := by
          intro q hq h
          unfold upd1
          by_cases e : q = p
          · rw [if_pos e]
            subst e
            cases bg with
            | true =>
              obtain ⟨r, r1, r2⟩ := hb.mp rfl
              have := h r r1
              unfold upd1 at this
              rw [if_neg (by omega)] at this
              exact absurd this r2
            | false =>
              rw [if_neg (by decide)] at hz0
              omega
          · rw [if_neg e]
            refine hf q (by omega) (fun r hr => ?_)
            have := h r hr
            unfold upd1 at this
            rw [if_neg (by omega)] at this
            exact this
        have go : ∀ b2 : Bool, (b2 = true ↔ (bg = true ∨ z ≠ 0)) → Call (d + m + 2) 80 [vR 9 2, vR 9 3, vI (nI (p + 1)), vI (iI (sumZ δ p + z)), vI (nI (if b2 = true then 1 else 0))] (putM M1 3 sh pay p (iI z), J, (jk, 149, 147, X)) (fun v st2 => Ev (d + m + 2) 80 102 [some (vR 9 2), some (vR 9 3), some (vI (nI p)), some (vI (iI (sumZ δ p))), some (vI (nI (if bg = true then 1 else 0))), some (vI (nI (gt a p))), some (vI (nI 0)), some (vI (iI z))] v.toList st2 Q) := by
          intro b2 h
          rw [← sumZ_upd]
          refine c80 hpB h5 h6 m (p + 1) (upd1 δ p z) b2 _ _ (by omega) hT2 hT1 (fun q hq => ?_) (fun q => ?_) hfp (hbg b2 h) (fun M3 f1 f2 => ?_)
          · unfold upd1
            rw [if_neg (by omega), hz q (by omega)]
          · unfold upd1
            by_cases e : q = p
            · rw [if_pos e]
              omega
            · rw [if_neg e]
              exact hd q
          · have hT3 : TL (putM M3 3 sh pay p (iI (-z))) 3 sh pay (fun q => iI (δ q)) := (f2.put hpp).tk (fun q hq => by
              unfold upd1
              by_cases e : q = p
              · rw [if_pos e, if_pos e, iI_add, hz q (by omega), Int.add_right_neg]
              · rw [if_neg e, if_neg e])
            have hF3 : FrT M (putM M3 3 sh pay p (iI (-z))) 3 := (hF1.trans f1).trans putM_fr
            by_cases eE : Ec sh pay a (p + 1) (upd1 δ p z)
            · rw [bo_t eE]
              have HQ := H _ hF3 hT3
              rw [bo_t (hEs.mpr ⟨z, ?_, fun w => ?_, eE⟩)] at HQ
              · simp (disch := omega) only [s_80_0, s_80_1, s_80_2, s_80_5, s_80_8, s_80_10, s_80_13, s_80_14, s_80_17, s_80_18, s_80_19, s_80_22, s_80_25, s_80_26, s_80_29, s_80_30, s_80_31, s_80_32, s_80_35, s_80_36, s_80_37, s_80_39, s_80_40, s_80_42, s_80_44, s_80_47, s_80_49, s_80_50, s_80_53, s_80_54, s_80_58, s_80_60, s_80_63, s_80_65, s_80_68, s_80_69, s_80_70, s_80_72, s_80_75, s_80_76, s_80_77, s_80_78, s_80_79, s_80_80, s_80_81, s_80_83, s_80_84, s_80_86, s_80_89, s_80_91, s_80_94, s_80_95, s_80_98, s_80_99, s_80_102, s_80_104, s_80_105, s_80_106, s_80_108, s_80_109, s_80_112, s_80_115, s_80_118, s_80_120, amLong_I, amLong_R, amLong_N, amLong_L, cond_true, cond_false, Option.toList_some, Option.toList_none, List.cons_append, List.nil_append, List.append_nil, setE, setN, cpy_set, lit, nle, nlt, neq, inb_iff, cl_nI, tle, fle, tlt, flt, teq, feq, m9, m3, x9, x3, nI_add, nsub, upN, upE, b0', b01', r100, w100, r101, w101, r102, w102, r103, w103, r104, w104, r105, w105, r106, w106, r107, w107, r108, w108, w109, w110, r111, w111, r112, w112, r113, w113, r114, w114, r115, w115, r116, w116, r117, w117, r118, w118, r119, w119, w120, w121, r122, w122, r130, w130, w131, w132, r133, w133, r134, w134, r135, w135, r136, w136, r137, w137, r138, w138, r139, w139, r140, w140, r141, w141, w142, r143, w143, r144, w144, r145, w145, r146, w146, w147, w150, b1', em1, Bool.false_eq_true, not_true_eq_false, not_false_eq_true, false_implies, true_implies, and_true, true_and, if_true, if_false, implies_true, Classical.not_not, true_or, or_true, false_or, or_false, and_self, ite_true, ite_false, reduceIte, iI_neg, c54 h34 f2.1, iI_s]
                rw [h_80_56]
                simp (disch := omega) only [s_80_0, s_80_1, s_80_2, s_80_5, s_80_8, s_80_10, s_80_13, s_80_14, s_80_17, s_80_18, s_80_19, s_80_22, s_80_25, s_80_26, s_80_29, s_80_30, s_80_31, s_80_32, s_80_35, s_80_36, s_80_37, s_80_39, s_80_40, s_80_42, s_80_44, s_80_47, s_80_49, s_80_50, s_80_53, s_80_54, s_80_58, s_80_60, s_80_63, s_80_65, s_80_68, s_80_69, s_80_70, s_80_72, s_80_75, s_80_76, s_80_77, s_80_78, s_80_79, s_80_80, s_80_81, s_80_83, s_80_84, s_80_86, s_80_89, s_80_91, s_80_94, s_80_95, s_80_98, s_80_99, s_80_102, s_80_104, s_80_105, s_80_106, s_80_108, s_80_109, s_80_112, s_80_115, s_80_118, s_80_120, amLong_I, amLong_R, amLong_N, amLong_L, cond_true, cond_false, Option.toList_some, Option.toList_none, List.cons_append, List.nil_append, List.append_nil, setE, setN, cpy_set, lit, nle, nlt, neq, inb_iff, cl_nI, tle, fle, tlt, flt, teq, feq, m9, m3, x9, x3, nI_add, nsub, upN, upE, b0', b01', r100, w100, r101, w101, r102, w102, r103, w103, r104, w104, r105, w105, r106, w106, r107, w107, r108, w108, w109, w110, r111, w111, r112, w112, r113, w113, r114, w114, r115, w115, r116, w116, r117, w117, r118, w118, r119, w119, w120, w121, r122, w122, r130, w130, w131, w132, r133, w133, r134, w134, r135, w135, r136, w136, r137, w137, r138, w138, r139, w139, r140, w140, r141, w141, w142, r143, w143, r144, w144, r145, w145, r146, w146, w147, w150, b1', em1, Bool.false_eq_true, not_true_eq_false, not_false_eq_true, false_implies, true_implies, and_true, true_and, if_true, if_false, implies_true, Classical.not_not, true_or, or_true, false_or, or_false, and_self, ite_true, ite_false, reduceIte]
                exact ⟨fun _ => HQ, fun _ => HQ⟩
              · rw [hz0] at hz1
                cases bg <;> simp at hz1 <;> omega
              · cases bg with
                | true =>
                  obtain ⟨r, r1, r2⟩ := hb.mp rfl
                  exact absurd (w r r1) r2
                | false =>
                  rw [if_neg (by decide)] at hz0
                  omega
            · rw [bo_f eE]
              simp (disch := omega) only [s_80_0, s_80_1, s_80_2, s_80_5, s_80_8, s_80_10, s_80_13, s_80_14, s_80_17, s_80_18, s_80_19, s_80_22, s_80_25, s_80_26, s_80_29, s_80_30, s_80_31, s_80_32, s_80_35, s_80_36, s_80_37, s_80_39, s_80_40, s_80_42, s_80_44, s_80_47, s_80_49, s_80_50, s_80_53, s_80_54, s_80_58, s_80_60, s_80_63, s_80_65, s_80_68, s_80_69, s_80_70, s_80_72, s_80_75, s_80_76, s_80_77, s_80_78, s_80_79, s_80_80, s_80_81, s_80_83, s_80_84, s_80_86, s_80_89, s_80_91, s_80_94, s_80_95, s_80_98, s_80_99, s_80_102, s_80_104, s_80_105, s_80_106, s_80_108, s_80_109, s_80_112, s_80_115, s_80_118, s_80_120, amLong_I, amLong_R, amLong_N, amLong_L, cond_true, cond_false, Option.toList_some, Option.toList_none, List.cons_append, List.nil_append, List.append_nil, setE, setN, cpy_set, lit, nle, nlt, neq, inb_iff, cl_nI, tle, fle, tlt, flt, teq, feq, m9, m3, x9, x3, nI_add, nsub, upN, upE, b0', b01', r100, w100, r101, w101, r102, w102, r103, w103, r104, w104, r105, w105, r106, w106, r107, w107, r108, w108, w109, w110, r111, w111, r112, w112, r113, w113, r114, w114, r115, w115, r116, w116, r117, w117, r118, w118, r119, w119, w120, w121, r122, w122, r130, w130, w131, w132, r133, w133, r134, w134, r135, w135, r136, w136, r137, w137, r138, w138, r139, w139, r140, w140, r141, w141, w142, r143, w143, r144, w144, r145, w145, r146, w146, w147, w150, b1', em1, Bool.false_eq_true, not_true_eq_false, not_false_eq_true, false_implies, true_implies, and_true, true_and, if_true, if_false, implies_true, Classical.not_not, true_or, or_true, false_or, or_false, and_self, ite_true, ite_false, reduceIte, iI_neg, c54 h34 f2.1, iI_s]
              refine ih (z + 1) _ (by omega) (by omega) (by omega) hF3 hT3 (fun y y1 y2 => ?_)
              by_cases e : y = z
              · rw [e]
                exact eE
              · exact hno y y1 (by omega)
        rw [h_80_56]
        cases bg with
        | true =>
          simp (disch := omega) only [s_80_0, s_80_1, s_80_2, s_80_5, s_80_8, s_80_10, s_80_13, s_80_14, s_80_17, s_80_18, s_80_19, s_80_22, s_80_25, s_80_26, s_80_29, s_80_30, s_80_31, s_80_32, s_80_35, s_80_36, s_80_37, s_80_39, s_80_40, s_80_42, s_80_44, s_80_47, s_80_49, s_80_50, s_80_53, s_80_54, s_80_58, s_80_60, s_80_63, s_80_65, s_80_68, s_80_69, s_80_70, s_80_72, s_80_75, s_80_76, s_80_77, s_80_78, s_80_79, s_80_80, s_80_81, s_80_83, s_80_84, s_80_86, s_80_89, s_80_91, s_80_94, s_80_95, s_80_98, s_80_99, s_80_102, s_80_104, s_80_105, s_80_106, s_80_108, s_80_109, s_80_112, s_80_115, s_80_118, s_80_120, amLong_I, amLong_R, amLong_N, amLong_L, cond_true, cond_false, Option.toList_some, Option.toList_none, List.cons_append, List.nil_append, List.append_nil, setE, setN, cpy_set, lit, nle, nlt, neq, inb_iff, cl_nI, tle, fle, tlt, flt, teq, feq, m9, m3, x9, x3, nI_add, nsub, upN, upE, b0', b01', r100, w100, r101, w101, r102, w102, r103, w103, r104, w104, r105, w105, r106, w106, r107, w107, r108, w108, w109, w110, r111, w111, r112, w112, r113, w113, r114, w114, r115, w115, r116, w116, r117, w117, r118, w118, r119, w119, w120, w121, r122, w122, r130, w130, w131, w132, r133, w133, r134, w134, r135, w135, r136, w136, r137, w137, r138, w138, r139, w139, r140, w140, r141, w141, w142, r143, w143, r144, w144, r145, w145, r146, w146, w147, w150, b1', em1, Bool.false_eq_true, not_true_eq_false, not_false_eq_true, false_implies, true_implies, and_true, true_and, if_true, if_false, implies_true, Classical.not_not, true_or, or_true, false_or, or_false, and_self, ite_true, ite_false, reduceIte, e1, c54 h34 hT.1, iI_add, show (1 : Nat) = 0 ↔ False from by decide]
          exact go true ⟨fun _ => Or.inl rfl, fun _ => rfl⟩
        | false =>
          by_cases ez : z = 0
          · have ez2 : iI z = nI 0 := (iI_0 (by omega) (by omega)).mpr ez
            have g2 := go false ⟨fun w => (by cases w), fun w => by rcases w with w | w; cases w; exact absurd ez w⟩
            have ez3 := eq_true ez2
            simp (disch := omega) only [s_80_0, s_80_1, s_80_2, s_80_5, s_80_8, s_80_10, s_80_13, s_80_14, s_80_17, s_80_18, s_80_19, s_80_22, s_80_25, s_80_26, s_80_29, s_80_30, s_80_31, s_80_32, s_80_35, s_80_36, s_80_37, s_80_39, s_80_40, s_80_42, s_80_44, s_80_47, s_80_49, s_80_50, s_80_53, s_80_54, s_80_58, s_80_60, s_80_63, s_80_65, s_80_68, s_80_69, s_80_70, s_80_72, s_80_75, s_80_76, s_80_77, s_80_78, s_80_79, s_80_80, s_80_81, s_80_83, s_80_84, s_80_86, s_80_89, s_80_91, s_80_94, s_80_95, s_80_98, s_80_99, s_80_102, s_80_104, s_80_105, s_80_106, s_80_108, s_80_109, s_80_112, s_80_115, s_80_118, s_80_120, amLong_I, amLong_R, amLong_N, amLong_L, cond_true, cond_false, Option.toList_some, Option.toList_none, List.cons_append, List.nil_append, List.append_nil, setE, setN, cpy_set, lit, nle, nlt, neq, inb_iff, cl_nI, tle, fle, tlt, flt, teq, feq, m9, m3, x9, x3, nI_add, nsub, upN, upE, b0', b01', r100, w100, r101, w101, r102, w102, r103, w103, r104, w104, r105, w105, r106, w106, r107, w107, r108, w108, w109, w110, r111, w111, r112, w112, r113, w113, r114, w114, r115, w115, r116, w116, r117, w117, r118, w118, r119, w119, w120, w121, r122, w122, r130, w130, w131, w132, r133, w133, r134, w134, r135, w135, r136, w136, r137, w137, r138, w138, r139, w139, r140, w140, r141, w141, w142, r143, w143, r144, w144, r145, w145, r146, w146, w147, w150, b1', em1, Bool.false_eq_true, not_true_eq_false, not_false_eq_true, false_implies, true_implies, and_true, true_and, if_true, if_false, implies_true, Classical.not_not, true_or, or_true, false_or, or_false, and_self, ite_true, ite_false, reduceIte, e1, c54 h34 hT.1, iI_add, show ¬ (false = true) from by decide, ez3]
            exact g2
          · have ez2 : ¬ iI z = nI 0 := fun w => ez ((iI_0 (by omega) (by omega)).mp w)
            have g2 := go true ⟨fun _ => Or.inr ez, fun _ => rfl⟩
            simp (disch := omega) only [s_80_0, s_80_1, s_80_2, s_80_5, s_80_8, s_80_10, s_80_13, s_80_14, s_80_17, s_80_18, s_80_19, s_80_22, s_80_25, s_80_26, s_80_29, s_80_30, s_80_31, s_80_32, s_80_35, s_80_36, s_80_37, s_80_39, s_80_40, s_80_42, s_80_44, s_80_47, s_80_49, s_80_50, s_80_53, s_80_54, s_80_58, s_80_60, s_80_63, s_80_65, s_80_68, s_80_69, s_80_70, s_80_72, s_80_75, s_80_76, s_80_77, s_80_78, s_80_79, s_80_80, s_80_81, s_80_83, s_80_84, s_80_86, s_80_89, s_80_91, s_80_94, s_80_95, s_80_98, s_80_99, s_80_102, s_80_104, s_80_105, s_80_106, s_80_108, s_80_109, s_80_112, s_80_115, s_80_118, s_80_120, amLong_I, amLong_R, amLong_N, amLong_L, cond_true, cond_false, Option.toList_some, Option.toList_none, List.cons_append, List.nil_append, List.append_nil, setE, setN, cpy_set, lit, nle, nlt, neq, inb_iff, cl_nI, tle, fle, tlt, flt, teq, feq, m9, m3, x9, x3, nI_add, nsub, upN, upE, b0', b01', r100, w100, r101, w101, r102, w102, r103, w103, r104, w104, r105, w105, r106, w106, r107, w107, r108, w108, w109, w110, r111, w111, r112, w112, r113, w113, r114, w114, r115, w115, r116, w116, r117, w117, r118, w118, r119, w119, w120, w121, r122, w122, r130, w130, w131, w132, r133, w133, r134, w134, r135, w135, r136, w136, r137, w137, r138, w138, r139, w139, r140, w140, r141, w141, w142, r143, w143, r144, w144, r145, w145, r146, w146, w147, w150, b1', em1, Bool.false_eq_true, not_true_eq_false, not_false_eq_true, false_implies, true_implies, and_true, true_and, if_true, if_false, implies_true, Classical.not_not, true_or, or_true, false_or, or_false, and_self, ite_true, ite_false, reduceIte, e1, c54 h34 hT.1, iI_add, show ¬ (false = true) from by decide, ez2]
            exact g2
    show Call (d + m + 2 + 1) 80 _ _ _
    rw [e_80]
    cases bg with
    | true =>
      simp (disch := omega) only [s_80_0, s_80_1, s_80_2, s_80_5, s_80_8, s_80_10, s_80_13, s_80_14, s_80_17, s_80_18, s_80_19, s_80_22, s_80_25, s_80_26, s_80_29, s_80_30, s_80_31, s_80_32, s_80_35, s_80_36, s_80_37, s_80_39, s_80_40, s_80_42, s_80_44, s_80_47, s_80_49, s_80_50, s_80_53, s_80_54, s_80_58, s_80_60, s_80_63, s_80_65, s_80_68, s_80_69, s_80_70, s_80_72, s_80_75, s_80_76, s_80_77, s_80_78, s_80_79, s_80_80, s_80_81, s_80_83, s_80_84, s_80_86, s_80_89, s_80_91, s_80_94, s_80_95, s_80_98, s_80_99, s_80_102, s_80_104, s_80_105, s_80_106, s_80_108, s_80_109, s_80_112, s_80_115, s_80_118, s_80_120, amLong_I, amLong_R, amLong_N, amLong_L, cond_true, cond_false, Option.toList_some, Option.toList_none, List.cons_append, List.nil_append, List.append_nil, setE, setN, cpy_set, lit, nle, nlt, neq, inb_iff, cl_nI, tle, fle, tlt, flt, teq, feq, m9, m3, x9, x3, nI_add, nsub, upN, upE, b0', b01', r100, w100, r101, w101, r102, w102, r103, w103, r104, w104, r105, w105, r106, w106, r107, w107, r108, w108, w109, w110, r111, w111, r112, w112, r113, w113, r114, w114, r115, w115, r116, w116, r117, w117, r118, w118, r119, w119, w120, w121, r122, w122, r130, w130, w131, w132, r133, w133, r134, w134, r135, w135, r136, w136, r137, w137, r138, w138, r139, w139, r140, w140, r141, w141, w142, r143, w143, r144, w144, r145, w145, r146, w146, w147, w150, b1', em1, Bool.false_eq_true, not_true_eq_false, not_false_eq_true, false_implies, true_implies, and_true, true_and, if_true, if_false, implies_true, Classical.not_not, true_or, or_true, false_or, or_false, and_self, ite_true, ite_false, reduceIte, h2.1.2.2.1, e0, show (1 : Nat) = 0 ↔ False from by decide]
      have h1 : -nI (gt a p) = iI (-(gt a p : Int)) := by rw [iI_n, iI_neg]
      rw [h1]
      exact key (2 * gt a p + 1) _ M (by omega) (by rw [hz0, if_pos rfl]; exact Int.le_refl _) (by omega) (fun _ _ _ _ => rfl) h3 (fun y y1 y2 => by rw [hz0, if_pos rfl] at y1; omega)
    | false =>
      simp (disch := omega) only [s_80_0, s_80_1, s_80_2, s_80_5, s_80_8, s_80_10, s_80_13, s_80_14, s_80_17, s_80_18, s_80_19, s_80_22, s_80_25, s_80_26, s_80_29, s_80_30, s_80_31, s_80_32, s_80_35, s_80_36, s_80_37, s_80_39, s_80_40, s_80_42, s_80_44, s_80_47, s_80_49, s_80_50, s_80_53, s_80_54, s_80_58, s_80_60, s_80_63, s_80_65, s_80_68, s_80_69, s_80_70, s_80_72, s_80_75, s_80_76, s_80_77, s_80_78, s_80_79, s_80_80, s_80_81, s_80_83, s_80_84, s_80_86, s_80_89, s_80_91, s_80_94, s_80_95, s_80_98, s_80_99, s_80_102, s_80_104, s_80_105, s_80_106, s_80_108, s_80_109, s_80_112, s_80_115, s_80_118, s_80_120, amLong_I, amLong_R, amLong_N, amLong_L, cond_true, cond_false, Option.toList_some, Option.toList_none, List.cons_append, List.nil_append, List.append_nil, setE, setN, cpy_set, lit, nle, nlt, neq, inb_iff, cl_nI, tle, fle, tlt, flt, teq, feq, m9, m3, x9, x3, nI_add, nsub, upN, upE, b0', b01', r100, w100, r101, w101, r102, w102, r103, w103, r104, w104, r105, w105, r106, w106, r107, w107, r108, w108, w109, w110, r111, w111, r112, w112, r113, w113, r114, w114, r115, w115, r116, w116, r117, w117, r118, w118, r119, w119, w120, w121, r122, w122, r130, w130, w131, w132, r133, w133, r134, w134, r135, w135, r136, w136, r137, w137, r138, w138, r139, w139, r140, w140, r141, w141, w142, r143, w143, r144, w144, r145, w145, r146, w146, w147, w150, b1', em1, Bool.false_eq_true, not_true_eq_false, not_false_eq_true, false_implies, true_implies, and_true, true_and, if_true, if_false, implies_true, Classical.not_not, true_or, or_true, false_or, or_false, and_self, ite_true, ite_false, reduceIte, h2.1.2.2.1, e0, show ¬ (false = true) from by decide]
      exact key (gt a p + 1) 0 M (by omega) (by rw [hz0, if_neg (by decide)]; exact Int.le_refl _) (by omega) (fun _ _ _ _ => rfl) h3 (fun y y1 y2 => by rw [hz0, if_neg (by decide)] at y1; omega)
end HALF
