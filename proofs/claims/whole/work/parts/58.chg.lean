/-! changes: the picture, the class's way -/
def pushU (U : List Gm) (G : Gm) : List Gm := if U.length < 8 then U ++ [G] else U.tail ++ [G]
def chg (A : Sta) (G : Gm) : Sta := (G, pushU A.2.1 A.1, A.2.2.1, A.2.2.2.1, A.2.2.2.2)
def opU (A : Sta) (y : Int32 × Gm) : Int32 × Sta := if y.1 < nI 0 then (y.1, A) else (y.1, chg A y.2)
def pyC (sh : Nat) (i p : Int32) : Prop := (nI 0 ≤ i ∧ i < nI (plr sh)) ∧ (nI 0 ≤ p ∧ p < nI (prf sh))
def isP (v : Int32) : Prop := -nI 9 ≤ v ∧ v ≤ nI 9
noncomputable def cpF (G : Gm) (i p v : Int32) : Int32 × Gm := if bo (pyC G.1 i p ∧ isP v) = true then (if G.2.1 (9 * i.toNatClampNeg + p.toNatClampNeg) = v then (-nI 2, G) else (G.2.1 (9 * i.toNatClampNeg + p.toNatClampNeg) + nI 9, (G.1, fun k => if k = 9 * i.toNatClampNeg + p.toNatClampNeg then v else G.2.1 k, G.2.2))) else (-nI 1, G)
def mvT (tok : Nat → Int32) (a b : Nat) : Nat → Int32 := fun q => if q = b then tok b + nI 1 else if q = a then tok a - nI 1 else tok q
noncomputable def mvF (G : Gm) (a b : Int32) : Int32 × Gm := if bo ((nI 0 ≤ a ∧ a < nI (prf G.1)) ∧ (nI 0 ≤ b ∧ b < nI (prf G.1)) ∧ ¬ a = b) = true then (if G.2.2 a.toNatClampNeg = nI 0 then (-nI 3, G) else (G.2.2 b.toNatClampNeg + nI 1, (G.1, G.2.1, mvT G.2.2 a.toNatClampNeg b.toNatClampNeg))) else (-nI 1, G)
noncomputable def lyF (G : Gm) (p n : Int32) : Int32 × Gm := if bo ((nI 0 ≤ p ∧ p < nI (prf G.1)) ∧ ¬ n = nI 0) = true then (if bo ((G.2.2 p.toNatClampNeg).toInt + n.toInt < 0 ∨ 6 < (ttl G : Int) + n.toInt) = true then (-nI 3, G) else (G.2.2 p.toNatClampNeg + n, (G.1, G.2.1, fun q => if q = p.toNatClampNeg then G.2.2 p.toNatClampNeg + n else G.2.2 q))) else (-nI 1, G)
noncomputable def tkF (G : Gm) (n what : Int32) : Int32 × Gm := if bo (whO G.1 n what) = true then (match bsF G.1 G.2.1 what.toNatClampNeg (LST G.1 G.2.1 n.toNatClampNeg) 0 none with
  | none => (-nI 2, G)
  | some y => if bo (eqv G.1 G.2.2 y.2.2) = true then (-nI 2, G) else (nI 1000 + wlf G.1 G.2.1 (tf y.2.2), (G.1, G.2.1, tf y.2.2))) else (-nI 1, G)
/-- cells but the game's own -/
def FrN (M M1 : amM) : Prop := ∀ c j k, (Pc c j ∨ c = 1301) → ¬ (c = 103 ∧ j = 0) → ¬ (c = 104 ∧ j = 0) → M1 c j k = M c j k
section CHG
variable {d g t jk X sh : Nat} {M M1 M2 : amM} {J J1 J2 : amJ} {Q : Option amV → amS → Prop} {pay tok tk : Nat → Int32}
theorem FrR.n (h : FrR M M1) : FrN M M1 := fun c j k hp _ _ => h c j k hp
theorem FrN.trans (h1 : FrN M M1) (h2 : FrN M1 M2) : FrN M M2 := fun c j k a b e => by rw [h2 c j k a b e, h1 c j k a b e]
theorem FrN.gw {g : Nat} {G : Gm} (h : FrN M M1) (hg : g ≠ 1 ∧ g ≠ 0) (hV : GW M g G) : GW M1 g G := GV.of hV (fun c k hc => h c g k (by unfold Pc; omega) (by omega) (by omega))
theorem slt_inj {f k k' : Nat} (hf : f < 9) (hk : k < 9) (hk' : k' < 9) (h : k ≠ k') : slt f k ≠ slt f k' := by
  unfold slt
  split <;> split <;> omega
theorem slt_4 {f k : Nat} : 4 ≤ slt f k := by
  unfold slt
  omega
/-- marked, then changed -/
def MK (M : amM) (J : amJ) (A : Sta) (f : Nat) (G : Gm) : Prop := f < 9 ∧ M 1351 0 0 = nI f ∧ M 1352 0 0 = nI A.2.1.length ∧ A.2.1.length ≤ 8 ∧ (∀ k G, A.2.1[k]? = some G → GW M (slt f k) G) ∧ GW M (slt f A.2.1.length) A.1 ∧ GW M 0 G ∧ SH M A.2.2.1 ∧ TX M A.2.2.2.1 ∧ RW M J A.2.2.2.2
theorem cpG_o {g1 g2 c i j : Nat} (h : i ≠ g1) : cpG M g1 g2 c i j = M c i j := if_neg (fun z => h z.1)
theorem cpG_c {g1 g2 c i j : Nat} (h : c ≠ 100 ∧ c ≠ 101 ∧ c ≠ 102 ∧ c ≠ 103 ∧ c ≠ 104 ∧ c ≠ 1105 ∧ c ≠ 1106) : cpG M g1 g2 c i j = M c i j := if_neg (fun z => by omega)
theorem cpG_gw {g1 g2 : Nat} {G : Gm} (hV : GW M g2 G) : GW (cpG M g1 g2) g1 G := by
  obtain ⟨⟨h1, h2, h3, h4, h5⟩, h6, h7⟩ := hV
  obtain ⟨⟨l1, l2, l3, l4⟩, l5⟩ := sh_ok _ h1
  have e : ∀ c j, ((c = 100 ∧ j < 3) ∨ (c = 101 ∧ j < 3) ∨ (c = 102 ∧ j < 27) ∨ (c = 103 ∧ j < 27) ∨ (c = 104 ∧ j < 9) ∨ ((c = 1105 ∨ c = 1106) ∧ j = 0)) → cpG M g1 g2 c g1 j = M c g2 j := fun c j h => if_pos ⟨rfl, h⟩
  refine ⟨⟨h1, ?_, ?_, fun i hi => ⟨?_, ?_⟩, fun i p hi hp => ?_⟩, fun k hk => ?_, fun k hk => ?_⟩
  · rw [e _ _ (by omega), h2]
  · rw [e _ _ (by omega), h3]
  · rw [e _ _ (by omega), (h4 i hi).1]
  · rw [e _ _ (by omega), (h4 i hi).2]
  · rw [e _ _ (by omega), h5 i p hi hp]
  · rw [e _ _ (by omega), h6 k hk]
  · rw [e _ _ (by omega), h7 k hk]
theorem cpG_gwo {g1 g2 g : Nat} {G : Gm} (h : g ≠ g1) (hV : GW M g G) : GW (cpG M g1 g2) g G := GV.of hV (fun c k hc => cpG_o h)
theorem mark {A : Sta} (hR : RC M J A) (H : ∀ f M1, MK M1 J A f A.1 → FC M M1 → Q none (M1, J, (jk, 149, 147, X))) : Call (d + 2) 20 [vR 7 0, vR 2 0] (M, J, (jk, 149, 147, X)) Q := by
  obtain ⟨h1, ⟨f, f1, f2, f3, f4, f5⟩, h3, ⟨x1, x2, x3'⟩, r1, r2, r3⟩ := hR
  have h4 := slt_4 (f := f) (k := A.2.1.length)
  rw [c20 f2 f3 f1 (by omega) (by decide)]
  refine H f _ ⟨f1, ?_, ?_, f4, fun k G hk => ?_, cpG_gw h1, cpG_gwo (by omega) h1, fun i hi => ⟨?_, fun G hG => cpG_gwo (by omega) ((h3 i hi).2 G hG)⟩, ⟨?_, x2, fun k hk => ?_⟩, ?_, r2, r3⟩ (fun c j k hc => cpG_c (by omega))
  · rw [cpG_c (by omega), f2]
  · rw [cpG_c (by omega), f3]
  · have hk' : k < A.2.1.length := by
      rcases Nat.lt_or_ge k A.2.1.length with h | h
      · exact h
      · rw [List.getElem?_eq_none h] at hk
        cases hk
    exact cpG_gwo (slt_inj f1 (by omega) (by omega) (by omega)) (f5 k G hk)
  · rw [cpG_c (by omega), (h3 i hi).1]
  · rw [cpG_c (by omega), x1]
  · rw [cpG_c (by omega), x3' k hk]
  · rw [cpG_c (by omega), r1]
theorem MK.n {A : Sta} {f : Nat} {G G' : Gm} (h : MK M J A f G) (hF : FrN M M1) (hG : GW M1 0 G') : MK M1 J A f G' := by
  obtain ⟨h1, h2, h3, h4, h5, h6, h7, h8, ⟨x1, x2, x3'⟩, r1, r2, r3⟩ := h
  have s4 : ∀ k, slt f k ≠ 1 ∧ slt f k ≠ 0 := fun k => by have := slt_4 (f := f) (k := k); omega
  refine ⟨h1, ?_, ?_, h4, fun k G hk => hF.gw (s4 k) (h5 k G hk), hF.gw (s4 _) h6, hG, fun i hi => ⟨?_, fun G hG => hF.gw (by omega) ((h8 i hi).2 G hG)⟩, ⟨?_, x2, fun k hk => ?_⟩, ?_, r2, r3⟩
  · rw [hF _ _ _ (by unfold Pc; omega) (by omega) (by omega), h2]
  · rw [hF _ _ _ (by unfold Pc; omega) (by omega) (by omega), h3]
  · rw [hF _ _ _ (by unfold Pc; omega) (by omega) (by omega), (h8 i hi).1]
  · rw [hF _ _ _ (by unfold Pc; omega) (by omega) (by omega), x1]
  · rw [hF _ _ _ (by unfold Pc; omega) (by omega) (by omega), x3' k hk]
  · rw [hF _ _ _ (by omega) (by omega) (by omega), r1]
theorem MK.rc {A : Sta} {f : Nat} (h : MK M J A f A.1) : RC M J A := ⟨h.2.2.2.2.2.2.1, ⟨f, h.1, h.2.1, h.2.2.1, h.2.2.2.1, h.2.2.2.2.1⟩, h.2.2.2.2.2.2.2.1, h.2.2.2.2.2.2.2.2.1, h.2.2.2.2.2.2.2.2.2⟩
theorem push_get {U : List Gm} {G : Gm} {k : Nat} {G' : Gm} (hl : U.length ≤ 8) (h : (pushU U G)[k]? = some G') : (U.length < 8 → (k < U.length ∧ U[k]? = some G') ∨ (k = U.length ∧ G' = G)) ∧ (¬ U.length < 8 → (k + 1 < U.length ∧ U[k + 1]? = some G') ∨ (k + 1 = U.length ∧ G' = G)) := by
  unfold pushU at h
  constructor
  · intro h8
    rw [if_pos h8] at h
    by_cases e : k < U.length
    · rw [List.getElem?_append_left e] at h
      exact Or.inl ⟨e, h⟩
    · rw [List.getElem?_append_right (by omega)] at h
      by_cases e2 : k = U.length
      · subst e2
        simp at h
        exact Or.inr ⟨rfl, h.symm⟩
      · rw [List.getElem?_eq_none (by simp; omega)] at h
        cases h
  · intro h8
    rw [if_neg h8] at h
    have ht : U.tail.length = U.length - 1 := List.length_tail
    by_cases e : k < U.tail.length
    · rw [List.getElem?_append_left e, List.getElem?_tail] at h
      exact Or.inl ⟨by omega, h⟩
    · rw [List.getElem?_append_right (by omega)] at h
      by_cases e2 : k = U.tail.length
      · subst e2
        simp at h
        exact Or.inr ⟨by omega, h.symm⟩
      · rw [List.getElem?_eq_none (by simp; omega)] at h
        cases h
theorem push_len {U : List Gm} {G : Gm} (hl : U.length ≤ 8) : (pushU U G).length = if U.length < 8 then U.length + 1 else 8 := by
  unfold pushU
  split
  · simp
  · rw [List.length_append, List.length_tail, List.length_singleton]
    omega
theorem settle {A : Sta} {f : Nat} {G : Gm} {x : Int32} (h : MK M J A f G) (hx : ¬ x < 0) (H : ∀ M1, RC M1 J (chg A G) → FC M M1 → Q (some (vI x)) (M1, J, (jk, 149, 147, X))) : Call (d + 1) 34 [vR 7 0, vI x] (M, J, (jk, 149, 147, X)) Q := by
  obtain ⟨h1, h2, h3, h4, h5, h6, h7, h8, ⟨x1, x2, x3'⟩, r1, r2, r3⟩ := h
  have hlen := push_len (G := A.1) h4
  have hgd : ∀ {M1 : amM} {g : Nat} {G' : Gm}, (∀ c j k, c ≠ 1351 → c ≠ 1352 → M1 c j k = M c j k) → GW M g G' → GW M1 g G' := fun hf hg => GV.of hg (fun c k hc => hf _ _ _ (by omega) (by omega))
  rw [c34 hx h2 h3 h1 h4]
  by_cases e : A.2.1.length < 8
  · rw [if_pos e] at hlen ⊢
    have hf : ∀ c j k, c ≠ 1351 → c ≠ 1352 → upM M 1352 0 0 (nI (A.2.1.length + 1)) c j k = M c j k := fun c j k a b => upN (by omega)
    refine H _ ⟨hgd hf h7, ⟨f, h1, ?_, ?_, ?_, fun k G' hk => ?_⟩, fun i hi => ⟨?_, fun G hG => hgd hf ((h8 i hi).2 G hG)⟩, ⟨?_, x2, fun k hk => ?_⟩, ?_, r2, r3⟩ (fun c j k hc => upN (by omega))
    · rw [upN (by omega), h2]
    · rw [upE ⟨rfl, rfl, rfl⟩]
      show _ = nI (pushU A.2.1 A.1).length
      rw [hlen]
    · show (pushU A.2.1 A.1).length ≤ 8
      omega
    · rcases (push_get h4 hk).1 e with ⟨z1, z2⟩ | ⟨z1, z2⟩
      · exact hgd hf (h5 k G' z2)
      · rw [z1, z2]
        exact hgd hf h6
    · rw [upN (by omega), (h8 i hi).1]
      rfl
    · rw [upN (by omega), x1]
      rfl
    · rw [upN (by omega), x3' k hk]
      rfl
    · rw [upN (by omega), r1]
      rfl
  · rw [if_neg e] at hlen ⊢
    have e8 : A.2.1.length = 8 := by omega
    have hf : ∀ c j k, c ≠ 1351 → c ≠ 1352 → upM M 1351 0 0 (nI (if f + 1 < 9 then f + 1 else 0)) c j k = M c j k := fun c j k a b => upN (by omega)
    have hsl : ∀ k, k < 8 → slt (if f + 1 < 9 then f + 1 else 0) k = slt f (k + 1) := fun k hk => by
      unfold slt
      split <;> split <;> split <;> omega
    refine H _ ⟨hgd hf h7, ⟨if f + 1 < 9 then f + 1 else 0, by split <;> omega, ?_, ?_, ?_, fun k G' hk => ?_⟩, fun i hi => ⟨?_, fun G hG => hgd hf ((h8 i hi).2 G hG)⟩, ⟨?_, x2, fun k hk => ?_⟩, ?_, r2, r3⟩ (fun c j k hc => upN (by omega))
    · rw [upE ⟨rfl, rfl, rfl⟩]
    · rw [upN (by omega), h3]
      show _ = nI (pushU A.2.1 A.1).length
      rw [hlen, e8]
    · show (pushU A.2.1 A.1).length ≤ 8
      omega
    · rcases (push_get h4 hk).2 e with ⟨z1, z2⟩ | ⟨z1, z2⟩
      · rw [hsl k (by omega)]
        exact hgd hf (h5 (k + 1) G' z2)
      · rw [hsl k (by omega), z1, z2]
        exact hgd hf h6
    · rw [upN (by omega), (h8 i hi).1]
      rfl
    · rw [upN (by omega), x1]
      rfl
    · rw [upN (by omega), x3' k hk]
      rfl
    · rw [upN (by omega), r1]
      rfl
theorem c41 {v : Int32} : Call (d + 1) 41 [vI v] (M, J, (jk, 149, 147, X)) Q ↔ Q (some (vI (bI (bo (isP v) = true)))) (M, J, (jk, 149, 147, X)) := by
  refine pureC (fun Q hQ => ?_)
  rw [e_41]
  by_cases h1 : -nI 9 ≤ v
  · have h1' : ¬ v < -nI 9 := Int32.not_lt.mpr h1
    by_cases h2 : v ≤ nI 9
    · have h2' : ¬ nI 9 < v := Int32.not_lt.mpr h2
      rw [bo_t (P := isP v) ⟨h1, h2⟩] at hQ
      simp (disch := omega) only [s_41_0, s_41_1, s_41_3, s_41_6, s_41_7, s_41_9, s_41_12, s_41_13, s_41_16, s_41_17, amLong_I, amLong_R, amLong_N, amLong_L, cond_true, cond_false, Option.toList_some, Option.toList_none, List.cons_append, List.nil_append, List.append_nil, setE, setN, cpy_set, lit, nle, nlt, neq, inb_iff, cl_nI, tle, fle, tlt, flt, teq, feq, m9, m3, x9, x3, nI_add, nsub, upN, upE, b0', b01', r100, w100, r101, w101, r102, w102, r103, w103, r104, w104, r105, w105, r106, w106, r107, w107, r108, w108, w109, w110, r111, w111, r112, w112, r113, w113, r114, w114, r115, w115, r116, w116, r117, w117, r118, w118, r119, w119, w120, w121, r122, w122, r130, w130, w131, w132, r133, w133, r134, w134, r135, w135, r136, w136, r137, w137, r138, w138, r139, w139, r140, w140, r141, w141, w142, r143, w143, r144, w144, r145, w145, r146, w146, w147, w150, b1', em1, Bool.false_eq_true, not_true_eq_false, not_false_eq_true, false_implies, true_implies, and_true, true_and, if_true, if_false, implies_true, Classical.not_not, true_or, or_true, false_or, or_false, and_self, ite_true, ite_false, reduceIte, h1', h2']
      exact hQ
    · have h2' : nI 9 < v := Int32.not_le.mp h2
      rw [bo_f (P := isP v) (fun z => h2 z.2)] at hQ
      simp (disch := omega) only [s_41_0, s_41_1, s_41_3, s_41_6, s_41_7, s_41_9, s_41_12, s_41_13, s_41_16, s_41_17, amLong_I, amLong_R, amLong_N, amLong_L, cond_true, cond_false, Option.toList_some, Option.toList_none, List.cons_append, List.nil_append, List.append_nil, setE, setN, cpy_set, lit, nle, nlt, neq, inb_iff, cl_nI, tle, fle, tlt, flt, teq, feq, m9, m3, x9, x3, nI_add, nsub, upN, upE, b0', b01', r100, w100, r101, w101, r102, w102, r103, w103, r104, w104, r105, w105, r106, w106, r107, w107, r108, w108, w109, w110, r111, w111, r112, w112, r113, w113, r114, w114, r115, w115, r116, w116, r117, w117, r118, w118, r119, w119, w120, w121, r122, w122, r130, w130, w131, w132, r133, w133, r134, w134, r135, w135, r136, w136, r137, w137, r138, w138, r139, w139, r140, w140, r141, w141, w142, r143, w143, r144, w144, r145, w145, r146, w146, w147, w150, b1', em1, Bool.false_eq_true, not_true_eq_false, not_false_eq_true, false_implies, true_implies, and_true, true_and, if_true, if_false, implies_true, Classical.not_not, true_or, or_true, false_or, or_false, and_self, ite_true, ite_false, reduceIte, h1', h2']
      exact hQ
  · have h1' : v < -nI 9 := Int32.not_le.mp h1
    rw [bo_f (P := isP v) (fun z => h1 z.1)] at hQ
    simp (disch := omega) only [s_41_0, s_41_1, s_41_3, s_41_6, s_41_7, s_41_9, s_41_12, s_41_13, s_41_16, s_41_17, amLong_I, amLong_R, amLong_N, amLong_L, cond_true, cond_false, Option.toList_some, Option.toList_none, List.cons_append, List.nil_append, List.append_nil, setE, setN, cpy_set, lit, nle, nlt, neq, inb_iff, cl_nI, tle, fle, tlt, flt, teq, feq, m9, m3, x9, x3, nI_add, nsub, upN, upE, b0', b01', r100, w100, r101, w101, r102, w102, r103, w103, r104, w104, r105, w105, r106, w106, r107, w107, r108, w108, w109, w110, r111, w111, r112, w112, r113, w113, r114, w114, r115, w115, r116, w116, r117, w117, r118, w118, r119, w119, w120, w121, r122, w122, r130, w130, w131, w132, r133, w133, r134, w134, r135, w135, r136, w136, r137, w137, r138, w138, r139, w139, r140, w140, r141, w141, w142, r143, w143, r144, w144, r145, w145, r146, w146, w147, w150, b1', em1, Bool.false_eq_true, not_true_eq_false, not_false_eq_true, false_implies, true_implies, and_true, true_and, if_true, if_false, implies_true, Classical.not_not, true_or, or_true, false_or, or_false, and_self, ite_true, ite_false, reduceIte, h1']
    exact hQ
theorem py_of {i p : Int32} (h5 : sh < 5) (h : pyC sh i p) : ∃ i' p', i' < plr sh ∧ p' < prf sh ∧ i = nI i' ∧ p = nI p' := by
  have l := (sh_ok sh h5).1
  obtain ⟨i', hi, rfl⟩ := (in_iff (by omega)).mp h.1
  obtain ⟨p', hp, rfl⟩ := (in_iff (by omega)).mp h.2
  exact ⟨i', p', hi, hp, rfl, rfl⟩
theorem c134 {G : Gm} {i p v : Int32} (hV : GW M 0 G) (H : ∀ M1, FrN M M1 → FC M M1 → GW M1 0 (cpF G i p v).2 → Q (some (vI (cpF G i p v).1)) (M1, J, (jk, 149, 147, X))) : Call (d + 4) 134 [vR 11 0, vI i, vI p, vI v] (M, J, (jk, 149, 147, X)) Q := by
  obtain ⟨sh, pay, tok⟩ := G
  have h0 : (0 : Nat) < 13 := by decide
  have hV' : GV M 0 sh pay tok := hV
  obtain ⟨l1, l2, l3, l4⟩ := (sh_ok sh hV'.1.1).1
  unfold cpF at H
  dsimp only at H
  rw [e_134]
  by_cases c1 : pyC sh i p
  · by_cases c2 : isP v
    · have c2' := bo_iff.mpr c2
      rw [if_pos (bo_iff.mpr ⟨c1, c2⟩)] at H
      obtain ⟨i, p, hi, hp, rfl, rfl⟩ := py_of hV'.1.1 c1
      rw [cl_nI (by omega), cl_nI (by omega)] at H
      have ep : M 103 0 (9 * i + p) = pay (9 * i + p) := hV'.2.1 _ (by omega)
      by_cases c3 : pay (9 * i + p) = v
      · rw [if_pos c3] at H
        simp (disch := omega) only [s_134_0, s_134_1, s_134_4, s_134_5, s_134_6, s_134_9, s_134_12, s_134_13, s_134_16, s_134_19, s_134_20, s_134_21, s_134_22, s_134_25, s_134_26, s_134_27, s_134_30, s_134_32, s_134_33, s_134_36, s_134_37, s_134_38, s_134_39, s_134_42, s_134_45, s_134_47, s_134_49, s_134_50, s_134_53, s_134_55, amLong_I, amLong_R, amLong_N, amLong_L, cond_true, cond_false, Option.toList_some, Option.toList_none, List.cons_append, List.nil_append, List.append_nil, setE, setN, cpy_set, lit, nle, nlt, neq, inb_iff, cl_nI, tle, fle, tlt, flt, teq, feq, m9, m3, x9, x3, nI_add, nsub, upN, upE, b0', b01', r100, w100, r101, w101, r102, w102, r103, w103, r104, w104, r105, w105, r106, w106, r107, w107, r108, w108, w109, w110, r111, w111, r112, w112, r113, w113, r114, w114, r115, w115, r116, w116, r117, w117, r118, w118, r119, w119, w120, w121, r122, w122, r130, w130, w131, w132, r133, w133, r134, w134, r135, w135, r136, w136, r137, w137, r138, w138, r139, w139, r140, w140, r141, w141, w142, r143, w143, r144, w144, r145, w145, r146, w146, w147, w150, b1', em1, Bool.false_eq_true, not_true_eq_false, not_false_eq_true, false_implies, true_implies, and_true, true_and, if_true, if_false, implies_true, Classical.not_not, true_or, or_true, false_or, or_false, and_self, ite_true, ite_false, reduceIte, c30 h0, hV'.1.2.1, hV'.1.2.2.1, c41, c2', c33 h0, c29 h0 hV'.1 hi hp, ep, c3]
        exact H M FrR.rfl.n FC.rfl hV
      · rw [if_neg c3] at H
        simp (disch := omega) only [s_134_0, s_134_1, s_134_4, s_134_5, s_134_6, s_134_9, s_134_12, s_134_13, s_134_16, s_134_19, s_134_20, s_134_21, s_134_22, s_134_25, s_134_26, s_134_27, s_134_30, s_134_32, s_134_33, s_134_36, s_134_37, s_134_38, s_134_39, s_134_42, s_134_45, s_134_47, s_134_49, s_134_50, s_134_53, s_134_55, amLong_I, amLong_R, amLong_N, amLong_L, cond_true, cond_false, Option.toList_some, Option.toList_none, List.cons_append, List.nil_append, List.append_nil, setE, setN, cpy_set, lit, nle, nlt, neq, inb_iff, cl_nI, tle, fle, tlt, flt, teq, feq, m9, m3, x9, x3, nI_add, nsub, upN, upE, b0', b01', r100, w100, r101, w101, r102, w102, r103, w103, r104, w104, r105, w105, r106, w106, r107, w107, r108, w108, w109, w110, r111, w111, r112, w112, r113, w113, r114, w114, r115, w115, r116, w116, r117, w117, r118, w118, r119, w119, w120, w121, r122, w122, r130, w130, w131, w132, r133, w133, r134, w134, r135, w135, r136, w136, r137, w137, r138, w138, r139, w139, r140, w140, r141, w141, w142, r143, w143, r144, w144, r145, w145, r146, w146, w147, w150, b1', em1, Bool.false_eq_true, not_true_eq_false, not_false_eq_true, false_implies, true_implies, and_true, true_and, if_true, if_false, implies_true, Classical.not_not, true_or, or_true, false_or, or_false, and_self, ite_true, ite_false, reduceIte, c30 h0, hV'.1.2.1, hV'.1.2.2.1, c41, c2', c33 h0, c29 h0 hV'.1 hi hp, ep, c3]
        refine H _ (fun c j k a b e => upN (by omega)) (fun c j k hc => upN (by omega)) ⟨hV'.1.of (fun c k hc => upN (by omega)), fun k hk => ?_, fun k hk => by rw [upN (by omega), hV'.2.2 k hk]⟩
        dsimp only
        by_cases e : k = 9 * i + p
        · rw [if_pos e, upE ⟨rfl, rfl, e⟩]
        · rw [if_neg e, upN (by omega), hV'.2.1 k hk]
    · have c2' : ¬ bo (isP v) = true := fun z => c2 (bo_iff.mp z)
      rw [if_neg (fun z => c2 (bo_iff.mp z).2)] at H
      have c1' := c1
      unfold pyC at c1'
      simp (disch := omega) only [s_134_0, s_134_1, s_134_4, s_134_5, s_134_6, s_134_9, s_134_12, s_134_13, s_134_16, s_134_19, s_134_20, s_134_21, s_134_22, s_134_25, s_134_26, s_134_27, s_134_30, s_134_32, s_134_33, s_134_36, s_134_37, s_134_38, s_134_39, s_134_42, s_134_45, s_134_47, s_134_49, s_134_50, s_134_53, s_134_55, amLong_I, amLong_R, amLong_N, amLong_L, cond_true, cond_false, Option.toList_some, Option.toList_none, List.cons_append, List.nil_append, List.append_nil, setE, setN, cpy_set, lit, nle, nlt, neq, inb_iff, cl_nI, tle, fle, tlt, flt, teq, feq, m9, m3, x9, x3, nI_add, nsub, upN, upE, b0', b01', r100, w100, r101, w101, r102, w102, r103, w103, r104, w104, r105, w105, r106, w106, r107, w107, r108, w108, w109, w110, r111, w111, r112, w112, r113, w113, r114, w114, r115, w115, r116, w116, r117, w117, r118, w118, r119, w119, w120, w121, r122, w122, r130, w130, w131, w132, r133, w133, r134, w134, r135, w135, r136, w136, r137, w137, r138, w138, r139, w139, r140, w140, r141, w141, w142, r143, w143, r144, w144, r145, w145, r146, w146, w147, w150, b1', em1, Bool.false_eq_true, not_true_eq_false, not_false_eq_true, false_implies, true_implies, and_true, true_and, if_true, if_false, implies_true, Classical.not_not, true_or, or_true, false_or, or_false, and_self, ite_true, ite_false, reduceIte, c30 h0, hV'.1.2.1, hV'.1.2.2.1, c1', c41, c2']
      exact H M FrR.rfl.n FC.rfl hV
  · rw [if_neg (fun z => c1 (bo_iff.mp z).1)] at H
    have c1' := c1
    unfold pyC at c1'
    simp (disch := omega) only [s_134_0, s_134_1, s_134_4, s_134_5, s_134_6, s_134_9, s_134_12, s_134_13, s_134_16, s_134_19, s_134_20, s_134_21, s_134_22, s_134_25, s_134_26, s_134_27, s_134_30, s_134_32, s_134_33, s_134_36, s_134_37, s_134_38, s_134_39, s_134_42, s_134_45, s_134_47, s_134_49, s_134_50, s_134_53, s_134_55, amLong_I, amLong_R, amLong_N, amLong_L, cond_true, cond_false, Option.toList_some, Option.toList_none, List.cons_append, List.nil_append, List.append_nil, setE, setN, cpy_set, lit, nle, nlt, neq, inb_iff, cl_nI, tle, fle, tlt, flt, teq, feq, m9, m3, x9, x3, nI_add, nsub, upN, upE, b0', b01', r100, w100, r101, w101, r102, w102, r103, w103, r104, w104, r105, w105, r106, w106, r107, w107, r108, w108, w109, w110, r111, w111, r112, w112, r113, w113, r114, w114, r115, w115, r116, w116, r117, w117, r118, w118, r119, w119, w120, w121, r122, w122, r130, w130, w131, w132, r133, w133, r134, w134, r135, w135, r136, w136, r137, w137, r138, w138, r139, w139, r140, w140, r141, w141, w142, r143, w143, r144, w144, r145, w145, r146, w146, w147, w150, b1', em1, Bool.false_eq_true, not_true_eq_false, not_false_eq_true, false_implies, true_implies, and_true, true_and, if_true, if_false, implies_true, Classical.not_not, true_or, or_true, false_or, or_false, and_self, ite_true, ite_false, reduceIte, c30 h0, hV'.1.2.1, hV'.1.2.2.1, c1']
    exact H M FrR.rfl.n FC.rfl hV
theorem c138 {G : Gm} {a b : Int32} (hV : GW M 0 G) (H : ∀ M1, FrN M M1 → FC M M1 → GW M1 0 (mvF G a b).2 → Q (some (vI (mvF G a b).1)) (M1, J, (jk, 149, 147, X))) : Call (d + 2) 138 [vR 11 0, vI a, vI b] (M, J, (jk, 149, 147, X)) Q := by
  obtain ⟨sh, pay, tok⟩ := G
  have h0 : (0 : Nat) < 13 := by decide
  have hV' : GV M 0 sh pay tok := hV
  obtain ⟨l1, l2, l3, l4⟩ := (sh_ok sh hV'.1.1).1
  unfold mvF at H
  dsimp only at H
  rw [e_138]
  by_cases c0 : a = b
  · rw [if_neg (fun z => (bo_iff.mp z).2.2 c0)] at H
    simp (disch := omega) only [s_138_0, s_138_1, s_138_2, s_138_5, s_138_6, s_138_9, s_138_10, s_138_13, s_138_16, s_138_17, s_138_20, s_138_21, s_138_24, s_138_27, s_138_28, s_138_29, s_138_30, s_138_33, s_138_36, s_138_37, s_138_38, s_138_41, s_138_43, s_138_44, s_138_45, s_138_48, s_138_51, s_138_52, s_138_53, s_138_54, s_138_55, s_138_56, s_138_57, s_138_58, s_138_61, s_138_64, s_138_65, s_138_66, s_138_67, s_138_68, s_138_69, s_138_70, s_138_71, s_138_74, s_138_77, s_138_78, s_138_79, amLong_I, amLong_R, amLong_N, amLong_L, cond_true, cond_false, Option.toList_some, Option.toList_none, List.cons_append, List.nil_append, List.append_nil, setE, setN, cpy_set, lit, nle, nlt, neq, inb_iff, cl_nI, tle, fle, tlt, flt, teq, feq, m9, m3, x9, x3, nI_add, nsub, upN, upE, b0', b01', r100, w100, r101, w101, r102, w102, r103, w103, r104, w104, r105, w105, r106, w106, r107, w107, r108, w108, w109, w110, r111, w111, r112, w112, r113, w113, r114, w114, r115, w115, r116, w116, r117, w117, r118, w118, r119, w119, w120, w121, r122, w122, r130, w130, w131, w132, r133, w133, r134, w134, r135, w135, r136, w136, r137, w137, r138, w138, r139, w139, r140, w140, r141, w141, w142, r143, w143, r144, w144, r145, w145, r146, w146, w147, w150, b1', em1, Bool.false_eq_true, not_true_eq_false, not_false_eq_true, false_implies, true_implies, and_true, true_and, if_true, if_false, implies_true, Classical.not_not, true_or, or_true, false_or, or_false, and_self, ite_true, ite_false, reduceIte, c0]
    exact H M FrR.rfl.n FC.rfl hV
  by_cases c1 : nI 0 ≤ a ∧ a < nI (prf sh)
  · by_cases c2 : nI 0 ≤ b ∧ b < nI (prf sh)
    · rw [if_pos (bo_iff.mpr ⟨c1, c2, c0⟩)] at H
      obtain ⟨a, ha, rfl⟩ := (in_iff (by omega)).mp c1
      obtain ⟨b, hb, rfl⟩ := (in_iff (by omega)).mp c2
      rw [cl_nI (by omega), cl_nI (by omega)] at H
      have c0' : ¬ a = b := fun z => c0 (by rw [z])
      have ea : M 104 0 a = tok a := hV'.2.2 a (by omega)
      have eb : M 104 0 b = tok b := hV'.2.2 b (by omega)
      by_cases c3 : tok a = nI 0
      · rw [if_pos c3] at H
        simp (disch := omega) only [s_138_0, s_138_1, s_138_2, s_138_5, s_138_6, s_138_9, s_138_10, s_138_13, s_138_16, s_138_17, s_138_20, s_138_21, s_138_24, s_138_27, s_138_28, s_138_29, s_138_30, s_138_33, s_138_36, s_138_37, s_138_38, s_138_41, s_138_43, s_138_44, s_138_45, s_138_48, s_138_51, s_138_52, s_138_53, s_138_54, s_138_55, s_138_56, s_138_57, s_138_58, s_138_61, s_138_64, s_138_65, s_138_66, s_138_67, s_138_68, s_138_69, s_138_70, s_138_71, s_138_74, s_138_77, s_138_78, s_138_79, amLong_I, amLong_R, amLong_N, amLong_L, cond_true, cond_false, Option.toList_some, Option.toList_none, List.cons_append, List.nil_append, List.append_nil, setE, setN, cpy_set, lit, nle, nlt, neq, inb_iff, cl_nI, tle, fle, tlt, flt, teq, feq, m9, m3, x9, x3, nI_add, nsub, upN, upE, b0', b01', r100, w100, r101, w101, r102, w102, r103, w103, r104, w104, r105, w105, r106, w106, r107, w107, r108, w108, w109, w110, r111, w111, r112, w112, r113, w113, r114, w114, r115, w115, r116, w116, r117, w117, r118, w118, r119, w119, w120, w121, r122, w122, r130, w130, w131, w132, r133, w133, r134, w134, r135, w135, r136, w136, r137, w137, r138, w138, r139, w139, r140, w140, r141, w141, w142, r143, w143, r144, w144, r145, w145, r146, w146, w147, w150, b1', em1, Bool.false_eq_true, not_true_eq_false, not_false_eq_true, false_implies, true_implies, and_true, true_and, if_true, if_false, implies_true, Classical.not_not, true_or, or_true, false_or, or_false, and_self, ite_true, ite_false, reduceIte, c0', c32 h0, hV'.1.2.2.1, ea, c3]
        exact H M FrR.rfl.n FC.rfl hV
      · rw [if_neg c3] at H
        simp (disch := omega) only [s_138_0, s_138_1, s_138_2, s_138_5, s_138_6, s_138_9, s_138_10, s_138_13, s_138_16, s_138_17, s_138_20, s_138_21, s_138_24, s_138_27, s_138_28, s_138_29, s_138_30, s_138_33, s_138_36, s_138_37, s_138_38, s_138_41, s_138_43, s_138_44, s_138_45, s_138_48, s_138_51, s_138_52, s_138_53, s_138_54, s_138_55, s_138_56, s_138_57, s_138_58, s_138_61, s_138_64, s_138_65, s_138_66, s_138_67, s_138_68, s_138_69, s_138_70, s_138_71, s_138_74, s_138_77, s_138_78, s_138_79, amLong_I, amLong_R, amLong_N, amLong_L, cond_true, cond_false, Option.toList_some, Option.toList_none, List.cons_append, List.nil_append, List.append_nil, setE, setN, cpy_set, lit, nle, nlt, neq, inb_iff, cl_nI, tle, fle, tlt, flt, teq, feq, m9, m3, x9, x3, nI_add, nsub, upN, upE, b0', b01', r100, w100, r101, w101, r102, w102, r103, w103, r104, w104, r105, w105, r106, w106, r107, w107, r108, w108, w109, w110, r111, w111, r112, w112, r113, w113, r114, w114, r115, w115, r116, w116, r117, w117, r118, w118, r119, w119, w120, w121, r122, w122, r130, w130, w131, w132, r133, w133, r134, w134, r135, w135, r136, w136, r137, w137, r138, w138, r139, w139, r140, w140, r141, w141, w142, r143, w143, r144, w144, r145, w145, r146, w146, w147, w150, b1', em1, Bool.false_eq_true, not_true_eq_false, not_false_eq_true, false_implies, true_implies, and_true, true_and, if_true, if_false, implies_true, Classical.not_not, true_or, or_true, false_or, or_false, and_self, ite_true, ite_false, reduceIte, c0', c32 h0, hV'.1.2.2.1, ea, eb, c3]
        refine H _ (fun c j k z1 z2 z3 => ?_) (fun c j k hc => ?_) ⟨hV'.1.of (fun c k hc => ?_), fun k hk => ?_, fun k hk => ?_⟩
        · rw [upN (by omega), upN (by omega)]
        · rw [upN (by omega), upN (by omega)]
        · rw [upN (by omega), upN (by omega)]
        · rw [upN (by omega), upN (by omega), hV'.2.1 k hk]
        · show _ = mvT tok a b k
          unfold mvT
          by_cases e1 : k = b
          · rw [if_pos e1, upE ⟨rfl, rfl, e1⟩]
          · rw [if_neg e1, upN (by omega)]
            by_cases e2 : k = a
            · rw [if_pos e2, upE ⟨rfl, rfl, e2⟩]
            · rw [if_neg e2, upN (by omega), hV'.2.2 k hk]
    · rw [if_neg (fun z => c2 (bo_iff.mp z).2.1)] at H
      simp (disch := omega) only [s_138_0, s_138_1, s_138_2, s_138_5, s_138_6, s_138_9, s_138_10, s_138_13, s_138_16, s_138_17, s_138_20, s_138_21, s_138_24, s_138_27, s_138_28, s_138_29, s_138_30, s_138_33, s_138_36, s_138_37, s_138_38, s_138_41, s_138_43, s_138_44, s_138_45, s_138_48, s_138_51, s_138_52, s_138_53, s_138_54, s_138_55, s_138_56, s_138_57, s_138_58, s_138_61, s_138_64, s_138_65, s_138_66, s_138_67, s_138_68, s_138_69, s_138_70, s_138_71, s_138_74, s_138_77, s_138_78, s_138_79, amLong_I, amLong_R, amLong_N, amLong_L, cond_true, cond_false, Option.toList_some, Option.toList_none, List.cons_append, List.nil_append, List.append_nil, setE, setN, cpy_set, lit, nle, nlt, neq, inb_iff, cl_nI, tle, fle, tlt, flt, teq, feq, m9, m3, x9, x3, nI_add, nsub, upN, upE, b0', b01', r100, w100, r101, w101, r102, w102, r103, w103, r104, w104, r105, w105, r106, w106, r107, w107, r108, w108, w109, w110, r111, w111, r112, w112, r113, w113, r114, w114, r115, w115, r116, w116, r117, w117, r118, w118, r119, w119, w120, w121, r122, w122, r130, w130, w131, w132, r133, w133, r134, w134, r135, w135, r136, w136, r137, w137, r138, w138, r139, w139, r140, w140, r141, w141, w142, r143, w143, r144, w144, r145, w145, r146, w146, w147, w150, b1', em1, Bool.false_eq_true, not_true_eq_false, not_false_eq_true, false_implies, true_implies, and_true, true_and, if_true, if_false, implies_true, Classical.not_not, true_or, or_true, false_or, or_false, and_self, ite_true, ite_false, reduceIte, c0, c32 h0, hV'.1.2.2.1, c1, c2]
      exact H M FrR.rfl.n FC.rfl hV
  · rw [if_neg (fun z => c1 (bo_iff.mp z).1)] at H
    simp (disch := omega) only [s_138_0, s_138_1, s_138_2, s_138_5, s_138_6, s_138_9, s_138_10, s_138_13, s_138_16, s_138_17, s_138_20, s_138_21, s_138_24, s_138_27, s_138_28, s_138_29, s_138_30, s_138_33, s_138_36, s_138_37, s_138_38, s_138_41, s_138_43, s_138_44, s_138_45, s_138_48, s_138_51, s_138_52, s_138_53, s_138_54, s_138_55, s_138_56, s_138_57, s_138_58, s_138_61, s_138_64, s_138_65, s_138_66, s_138_67, s_138_68, s_138_69, s_138_70, s_138_71, s_138_74, s_138_77, s_138_78, s_138_79, amLong_I, amLong_R, amLong_N, amLong_L, cond_true, cond_false, Option.toList_some, Option.toList_none, List.cons_append, List.nil_append, List.append_nil, setE, setN, cpy_set, lit, nle, nlt, neq, inb_iff, cl_nI, tle, fle, tlt, flt, teq, feq, m9, m3, x9, x3, nI_add, nsub, upN, upE, b0', b01', r100, w100, r101, w101, r102, w102, r103, w103, r104, w104, r105, w105, r106, w106, r107, w107, r108, w108, w109, w110, r111, w111, r112, w112, r113, w113, r114, w114, r115, w115, r116, w116, r117, w117, r118, w118, r119, w119, w120, w121, r122, w122, r130, w130, w131, w132, r133, w133, r134, w134, r135, w135, r136, w136, r137, w137, r138, w138, r139, w139, r140, w140, r141, w141, w142, r143, w143, r144, w144, r145, w145, r146, w146, w147, w150, b1', em1, Bool.false_eq_true, not_true_eq_false, not_false_eq_true, false_implies, true_implies, and_true, true_and, if_true, if_false, implies_true, Classical.not_not, true_or, or_true, false_or, or_false, and_self, ite_true, ite_false, reduceIte, c0, c32 h0, hV'.1.2.2.1, c1]
    exact H M FrR.rfl.n FC.rfl hV
theorem c140 {G : Gm} {p n : Int32} (hV : GW M 0 G) (hW : WG G) (H : ∀ M1, FrN M M1 → FC M M1 → GW M1 0 (lyF G p n).2 → Q (some (vI (lyF G p n).1)) (M1, J, (jk, 149, 147, X))) : Call (d + 2) 140 [vR 11 0, vI p, vI n] (M, J, (jk, 149, 147, X)) Q := by
  obtain ⟨t1, t2, -⟩ := hW.tt
  obtain ⟨sh, pay, tok⟩ := G
  have h0 : (0 : Nat) < 13 := by decide
  have hV' : GV M 0 sh pay tok := hV
  obtain ⟨l1, l2, l3, l4⟩ := (sh_ok sh hV'.1.1).1
  have htb : ∀ p, p < 9 → 0 ≤ (tok p).toInt ∧ (tok p).toInt ≤ 6 := hW.tb
  unfold lyF at H
  dsimp only at H t1
  generalize ttl (sh, pay, tok) = T at *
  rw [e_140]
  by_cases c0 : n = nI 0
  · rw [if_neg (fun z => (bo_iff.mp z).2 c0)] at H
    simp (disch := omega) only [s_140_0, s_140_1, s_140_4, s_140_5, s_140_8, s_140_9, s_140_12, s_140_15, s_140_16, s_140_17, s_140_18, s_140_19, s_140_22, s_140_25, s_140_26, s_140_27, s_140_28, s_140_31, s_140_32, s_140_34, s_140_35, s_140_38, s_140_41, s_140_42, s_140_45, s_140_47, s_140_48, s_140_49, s_140_52, s_140_55, s_140_56, s_140_57, s_140_58, s_140_59, s_140_60, s_140_61, s_140_62, s_140_65, s_140_68, s_140_69, s_140_70, amLong_I, amLong_R, amLong_N, amLong_L, cond_true, cond_false, Option.toList_some, Option.toList_none, List.cons_append, List.nil_append, List.append_nil, setE, setN, cpy_set, lit, nle, nlt, neq, inb_iff, cl_nI, tle, fle, tlt, flt, teq, feq, m9, m3, x9, x3, nI_add, nsub, upN, upE, b0', b01', r100, w100, r101, w101, r102, w102, r103, w103, r104, w104, r105, w105, r106, w106, r107, w107, r108, w108, w109, w110, r111, w111, r112, w112, r113, w113, r114, w114, r115, w115, r116, w116, r117, w117, r118, w118, r119, w119, w120, w121, r122, w122, r130, w130, w131, w132, r133, w133, r134, w134, r135, w135, r136, w136, r137, w137, r138, w138, r139, w139, r140, w140, r141, w141, w142, r143, w143, r144, w144, r145, w145, r146, w146, w147, w150, b1', em1, Bool.false_eq_true, not_true_eq_false, not_false_eq_true, false_implies, true_implies, and_true, true_and, if_true, if_false, implies_true, Classical.not_not, true_or, or_true, false_or, or_false, and_self, ite_true, ite_false, reduceIte, c0]
    exact H M FrR.rfl.n FC.rfl hV
  by_cases c1 : nI 0 ≤ p ∧ p < nI (prf sh)
  · rw [if_pos (bo_iff.mpr ⟨c1, c0⟩)] at H
    obtain ⟨p, hp, rfl⟩ := (in_iff (by omega)).mp c1
    rw [cl_nI (by omega)] at H
    have ep : M 104 0 p = tok p := hV'.2.2 p (by omega)
    have hb := htb p (by omega)
    have q1 : n < -tok p ↔ (tok p).toInt + n.toInt < 0 := by
      rw [Int32.lt_iff_toInt_lt, tN (by omega)]
      omega
    have q2 : n ≤ nI (6 - T) ↔ ¬ 6 < (T : Int) + n.toInt := by
      rw [Int32.le_iff_toInt_le, nI_toInt (by omega)]
      omega
    by_cases c3 : (tok p).toInt + n.toInt < 0
    · have c3' := q1.mpr c3
      rw [if_pos (bo_iff.mpr (Or.inl c3))] at H
      simp (disch := omega) only [s_140_0, s_140_1, s_140_4, s_140_5, s_140_8, s_140_9, s_140_12, s_140_15, s_140_16, s_140_17, s_140_18, s_140_19, s_140_22, s_140_25, s_140_26, s_140_27, s_140_28, s_140_31, s_140_32, s_140_34, s_140_35, s_140_38, s_140_41, s_140_42, s_140_45, s_140_47, s_140_48, s_140_49, s_140_52, s_140_55, s_140_56, s_140_57, s_140_58, s_140_59, s_140_60, s_140_61, s_140_62, s_140_65, s_140_68, s_140_69, s_140_70, amLong_I, amLong_R, amLong_N, amLong_L, cond_true, cond_false, Option.toList_some, Option.toList_none, List.cons_append, List.nil_append, List.append_nil, setE, setN, cpy_set, lit, nle, nlt, neq, inb_iff, cl_nI, tle, fle, tlt, flt, teq, feq, m9, m3, x9, x3, nI_add, nsub, upN, upE, b0', b01', r100, w100, r101, w101, r102, w102, r103, w103, r104, w104, r105, w105, r106, w106, r107, w107, r108, w108, w109, w110, r111, w111, r112, w112, r113, w113, r114, w114, r115, w115, r116, w116, r117, w117, r118, w118, r119, w119, w120, w121, r122, w122, r130, w130, w131, w132, r133, w133, r134, w134, r135, w135, r136, w136, r137, w137, r138, w138, r139, w139, r140, w140, r141, w141, w142, r143, w143, r144, w144, r145, w145, r146, w146, w147, w150, b1', em1, Bool.false_eq_true, not_true_eq_false, not_false_eq_true, false_implies, true_implies, and_true, true_and, if_true, if_false, implies_true, Classical.not_not, true_or, or_true, false_or, or_false, and_self, ite_true, ite_false, reduceIte, c0, c32 h0, hV'.1.2.2.1, ep, c3']
      exact H M FrR.rfl.n FC.rfl hV
    · have c3' : ¬ n < -tok p := fun z => c3 (q1.mp z)
      by_cases c4 : 6 < (T : Int) + n.toInt
      · have c4' : ¬ n ≤ nI (6 - T) := fun z => q2.mp z c4
        rw [if_pos (bo_iff.mpr (Or.inr c4))] at H
        simp (disch := omega) only [s_140_0, s_140_1, s_140_4, s_140_5, s_140_8, s_140_9, s_140_12, s_140_15, s_140_16, s_140_17, s_140_18, s_140_19, s_140_22, s_140_25, s_140_26, s_140_27, s_140_28, s_140_31, s_140_32, s_140_34, s_140_35, s_140_38, s_140_41, s_140_42, s_140_45, s_140_47, s_140_48, s_140_49, s_140_52, s_140_55, s_140_56, s_140_57, s_140_58, s_140_59, s_140_60, s_140_61, s_140_62, s_140_65, s_140_68, s_140_69, s_140_70, amLong_I, amLong_R, amLong_N, amLong_L, cond_true, cond_false, Option.toList_some, Option.toList_none, List.cons_append, List.nil_append, List.append_nil, setE, setN, cpy_set, lit, nle, nlt, neq, inb_iff, cl_nI, tle, fle, tlt, flt, teq, feq, m9, m3, x9, x3, nI_add, nsub, upN, upE, b0', b01', r100, w100, r101, w101, r102, w102, r103, w103, r104, w104, r105, w105, r106, w106, r107, w107, r108, w108, w109, w110, r111, w111, r112, w112, r113, w113, r114, w114, r115, w115, r116, w116, r117, w117, r118, w118, r119, w119, w120, w121, r122, w122, r130, w130, w131, w132, r133, w133, r134, w134, r135, w135, r136, w136, r137, w137, r138, w138, r139, w139, r140, w140, r141, w141, w142, r143, w143, r144, w144, r145, w145, r146, w146, w147, w150, b1', em1, Bool.false_eq_true, not_true_eq_false, not_false_eq_true, false_implies, true_implies, and_true, true_and, if_true, if_false, implies_true, Classical.not_not, true_or, or_true, false_or, or_false, and_self, ite_true, ite_false, reduceIte, c0, c32 h0, hV'.1.2.2.1, ep, c3', v71 h0 hV', t1, c4']
        exact H M FrR.rfl.n FC.rfl hV
      · have c4' := q2.mpr c4
        rw [if_neg (fun z => by rcases bo_iff.mp z with z | z; exact c3 z; exact c4 z)] at H
        simp (disch := omega) only [s_140_0, s_140_1, s_140_4, s_140_5, s_140_8, s_140_9, s_140_12, s_140_15, s_140_16, s_140_17, s_140_18, s_140_19, s_140_22, s_140_25, s_140_26, s_140_27, s_140_28, s_140_31, s_140_32, s_140_34, s_140_35, s_140_38, s_140_41, s_140_42, s_140_45, s_140_47, s_140_48, s_140_49, s_140_52, s_140_55, s_140_56, s_140_57, s_140_58, s_140_59, s_140_60, s_140_61, s_140_62, s_140_65, s_140_68, s_140_69, s_140_70, amLong_I, amLong_R, amLong_N, amLong_L, cond_true, cond_false, Option.toList_some, Option.toList_none, List.cons_append, List.nil_append, List.append_nil, setE, setN, cpy_set, lit, nle, nlt, neq, inb_iff, cl_nI, tle, fle, tlt, flt, teq, feq, m9, m3, x9, x3, nI_add, nsub, upN, upE, b0', b01', r100, w100, r101, w101, r102, w102, r103, w103, r104, w104, r105, w105, r106, w106, r107, w107, r108, w108, w109, w110, r111, w111, r112, w112, r113, w113, r114, w114, r115, w115, r116, w116, r117, w117, r118, w118, r119, w119, w120, w121, r122, w122, r130, w130, w131, w132, r133, w133, r134, w134, r135, w135, r136, w136, r137, w137, r138, w138, r139, w139, r140, w140, r141, w141, w142, r143, w143, r144, w144, r145, w145, r146, w146, w147, w150, b1', em1, Bool.false_eq_true, not_true_eq_false, not_false_eq_true, false_implies, true_implies, and_true, true_and, if_true, if_false, implies_true, Classical.not_not, true_or, or_true, false_or, or_false, and_self, ite_true, ite_false, reduceIte, c0, c32 h0, hV'.1.2.2.1, ep, c3', v71 h0 hV', t1, c4']
        refine H _ (fun c j k z1 z2 z3 => upN (by omega)) (fun c j k hc => upN (by omega)) ⟨hV'.1.of (fun c k hc => upN (by omega)), fun k hk => by rw [upN (by omega), hV'.2.1 k hk], fun k hk => ?_⟩
        dsimp only
        by_cases e1 : k = p
        · rw [if_pos e1, upE ⟨rfl, rfl, e1⟩]
        · rw [if_neg e1, upN (by omega), hV'.2.2 k hk]
  · rw [if_neg (fun z => c1 (bo_iff.mp z).1)] at H
    simp (disch := omega) only [s_140_0, s_140_1, s_140_4, s_140_5, s_140_8, s_140_9, s_140_12, s_140_15, s_140_16, s_140_17, s_140_18, s_140_19, s_140_22, s_140_25, s_140_26, s_140_27, s_140_28, s_140_31, s_140_32, s_140_34, s_140_35, s_140_38, s_140_41, s_140_42, s_140_45, s_140_47, s_140_48, s_140_49, s_140_52, s_140_55, s_140_56, s_140_57, s_140_58, s_140_59, s_140_60, s_140_61, s_140_62, s_140_65, s_140_68, s_140_69, s_140_70, amLong_I, amLong_R, amLong_N, amLong_L, cond_true, cond_false, Option.toList_some, Option.toList_none, List.cons_append, List.nil_append, List.append_nil, setE, setN, cpy_set, lit, nle, nlt, neq, inb_iff, cl_nI, tle, fle, tlt, flt, teq, feq, m9, m3, x9, x3, nI_add, nsub, upN, upE, b0', b01', r100, w100, r101, w101, r102, w102, r103, w103, r104, w104, r105, w105, r106, w106, r107, w107, r108, w108, w109, w110, r111, w111, r112, w112, r113, w113, r114, w114, r115, w115, r116, w116, r117, w117, r118, w118, r119, w119, w120, w121, r122, w122, r130, w130, w131, w132, r133, w133, r134, w134, r135, w135, r136, w136, r137, w137, r138, w138, r139, w139, r140, w140, r141, w141, w142, r143, w143, r144, w144, r145, w145, r146, w146, w147, w150, b1', em1, Bool.false_eq_true, not_true_eq_false, not_false_eq_true, false_implies, true_implies, and_true, true_and, if_true, if_false, implies_true, Classical.not_not, true_or, or_true, false_or, or_false, and_self, ite_true, ite_false, reduceIte, c0, c32 h0, hV'.1.2.2.1, c1]
    exact H M FrR.rfl.n FC.rfl hV
theorem c142 {G : Gm} {n what : Int32} (hV : GW M 0 G) (H : ∀ M1, FrN M M1 → FC M M1 → GW M1 0 (tkF G n what).2 → Q (some (vI (tkF G n what).1)) (M1, J, (jk, 149, 147, X))) : Call (d + 5) 142 [vR 11 0, vI n, vI what] (M, J, (jk, 149, 147, X)) Q := by
  obtain ⟨sh, pay, tok⟩ := G
  have h0 : (0 : Nat) < 13 := by decide
  have hV' : GV M 0 sh pay tok := hV
  obtain ⟨l1, l2, l3, l4⟩ := (sh_ok sh hV'.1.1).1
  have ht0 : tokA 104 0 := Or.inl ⟨rfl, by decide⟩
  have ht5 : tokA 105 0 := Or.inr (Or.inl ⟨rfl, rfl⟩)
  have ho := ocp a105 (a104 h0) (Nat.le_refl 9) (Nat.le_refl 9) (show 9 < 2 ^ 31 by decide)
  unfold tkF at H
  dsimp only at H
  rw [e_142]
  by_cases c1 : whO sh n what
  · have c2 : bo (whO sh n what) = true := bo_iff.mpr c1
    rw [if_pos c2] at H
    obtain ⟨n, w, hn, hn1, hw, hpl, rfl, rfl⟩ := wh_of hV'.1.1 c1
    rw [cl_nI (by omega), cl_nI (by omega)] at H
    simp (disch := omega) only [s_142_0, s_142_1, s_142_2, s_142_3, s_142_6, s_142_9, s_142_10, s_142_11, s_142_12, s_142_15, s_142_16, s_142_19, s_142_20, s_142_23, s_142_24, s_142_27, s_142_28, s_142_31, s_142_32, s_142_35, s_142_36, s_142_39, s_142_42, s_142_43, s_142_46, s_142_47, s_142_50, s_142_53, s_142_56, s_142_59, s_142_61, s_142_62, s_142_63, s_142_66, s_142_69, s_142_70, s_142_71, s_142_74, s_142_77, s_142_78, s_142_80, s_142_83, s_142_86, s_142_87, s_142_90, s_142_91, s_142_94, s_142_97, s_142_100, s_142_101, amLong_I, amLong_R, amLong_N, amLong_L, cond_true, cond_false, Option.toList_some, Option.toList_none, List.cons_append, List.nil_append, List.append_nil, setE, setN, cpy_set, lit, nle, nlt, neq, inb_iff, cl_nI, tle, fle, tlt, flt, teq, feq, m9, m3, x9, x3, nI_add, nsub, upN, upE, b0', b01', r100, w100, r101, w101, r102, w102, r103, w103, r104, w104, r105, w105, r106, w106, r107, w107, r108, w108, w109, w110, r111, w111, r112, w112, r113, w113, r114, w114, r115, w115, r116, w116, r117, w117, r118, w118, r119, w119, w120, w121, r122, w122, r130, w130, w131, w132, r133, w133, r134, w134, r135, w135, r136, w136, r137, w137, r138, w138, r139, w139, r140, w140, r141, w141, w142, r143, w143, r144, w144, r145, w145, r146, w146, w147, w150, b1', em1, Bool.false_eq_true, not_true_eq_false, not_false_eq_true, false_implies, true_implies, and_true, true_and, if_true, if_false, implies_true, Classical.not_not, true_or, or_true, false_or, or_false, and_self, ite_true, ite_false, reduceIte, c102 hV', c2]
    refine c98 h0 hV' hn (fun M1 hF hL => ?_)
    have hV1 : GV M1 0 sh pay tok := hF.q.gv (by decide) hV'
    simp (disch := omega) only [s_142_0, s_142_1, s_142_2, s_142_3, s_142_6, s_142_9, s_142_10, s_142_11, s_142_12, s_142_15, s_142_16, s_142_19, s_142_20, s_142_23, s_142_24, s_142_27, s_142_28, s_142_31, s_142_32, s_142_35, s_142_36, s_142_39, s_142_42, s_142_43, s_142_46, s_142_47, s_142_50, s_142_53, s_142_56, s_142_59, s_142_61, s_142_62, s_142_63, s_142_66, s_142_69, s_142_70, s_142_71, s_142_74, s_142_77, s_142_78, s_142_80, s_142_83, s_142_86, s_142_87, s_142_90, s_142_91, s_142_94, s_142_97, s_142_100, s_142_101, amLong_I, amLong_R, amLong_N, amLong_L, cond_true, cond_false, Option.toList_some, Option.toList_none, List.cons_append, List.nil_append, List.append_nil, setE, setN, cpy_set, lit, nle, nlt, neq, inb_iff, cl_nI, tle, fle, tlt, flt, teq, feq, m9, m3, x9, x3, nI_add, nsub, upN, upE, b0', b01', r100, w100, r101, w101, r102, w102, r103, w103, r104, w104, r105, w105, r106, w106, r107, w107, r108, w108, w109, w110, r111, w111, r112, w112, r113, w113, r114, w114, r115, w115, r116, w116, r117, w117, r118, w118, r119, w119, w120, w121, r122, w122, r130, w130, w131, w132, r133, w133, r134, w134, r135, w135, r136, w136, r137, w137, r138, w138, r139, w139, r140, w140, r141, w141, w142, r143, w143, r144, w144, r145, w145, r146, w146, w147, w150, b1', em1, Bool.false_eq_true, not_true_eq_false, not_false_eq_true, false_implies, true_implies, and_true, true_and, if_true, if_false, implies_true, Classical.not_not, true_or, or_true, false_or, or_false, and_self, ite_true, ite_false, reduceIte]
    refine c104 hV1 hL (LST_len hV'.1.1 hn) hw hpl (fun M2 f1 f2 => ?_) (fun M2 y f1 f2 f3 => ?_)
    · rw [f2] at H
      simp (disch := omega) only [s_142_0, s_142_1, s_142_2, s_142_3, s_142_6, s_142_9, s_142_10, s_142_11, s_142_12, s_142_15, s_142_16, s_142_19, s_142_20, s_142_23, s_142_24, s_142_27, s_142_28, s_142_31, s_142_32, s_142_35, s_142_36, s_142_39, s_142_42, s_142_43, s_142_46, s_142_47, s_142_50, s_142_53, s_142_56, s_142_59, s_142_61, s_142_62, s_142_63, s_142_66, s_142_69, s_142_70, s_142_71, s_142_74, s_142_77, s_142_78, s_142_80, s_142_83, s_142_86, s_142_87, s_142_90, s_142_91, s_142_94, s_142_97, s_142_100, s_142_101, amLong_I, amLong_R, amLong_N, amLong_L, cond_true, cond_false, Option.toList_some, Option.toList_none, List.cons_append, List.nil_append, List.append_nil, setE, setN, cpy_set, lit, nle, nlt, neq, inb_iff, cl_nI, tle, fle, tlt, flt, teq, feq, m9, m3, x9, x3, nI_add, nsub, upN, upE, b0', b01', r100, w100, r101, w101, r102, w102, r103, w103, r104, w104, r105, w105, r106, w106, r107, w107, r108, w108, w109, w110, r111, w111, r112, w112, r113, w113, r114, w114, r115, w115, r116, w116, r117, w117, r118, w118, r119, w119, w120, w121, r122, w122, r130, w130, w131, w132, r133, w133, r134, w134, r135, w135, r136, w136, r137, w137, r138, w138, r139, w139, r140, w140, r141, w141, w142, r143, w143, r144, w144, r145, w145, r146, w146, w147, w150, b1', em1, Bool.false_eq_true, not_true_eq_false, not_false_eq_true, false_implies, true_implies, and_true, true_and, if_true, if_false, implies_true, Classical.not_not, true_or, or_true, false_or, or_false, and_self, ite_true, ite_false, reduceIte]
      have hq := hF.r.trans f1
      exact H M2 hq.n hq.q.fc (hq.gv (by decide) hV')
    · rw [f2] at H
      dsimp only at H
      have hq := hF.r.trans f1
      have hV2 := hq.gv (by decide) hV'
      obtain ⟨y1, y2, y3, y4, y5, y6⟩ := f3
      have e : (∀ p, p < prf sh → M2 104 0 p = M2 105 0 p) ↔ bo (eqv sh tok y.2.2) = true := by
        rw [bo_iff]
        constructor
        · intro h p hp
          rw [← hV2.2.2 p (by omega), h p hp, y6 p (by omega)]
        · intro h p hp
          rw [hV2.2.2 p (by omega), h p hp, y6 p (by omega)]
      haveI : Decidable (∀ p, p < prf sh → M2 104 0 p = M2 105 0 p) := decidable_of_iff _ e.symm
      have h113 := fun (Q : Option amV → amS → Prop) => (c113 (d := d + 3) (X := X) (jk := jk) (J := J) (Q := Q) h0 hV2.1 ht5).trans (by rw [bI_c e])
      by_cases c3 : bo (eqv sh tok y.2.2) = true
      · rw [if_pos c3] at H
        simp (disch := omega) only [s_142_0, s_142_1, s_142_2, s_142_3, s_142_6, s_142_9, s_142_10, s_142_11, s_142_12, s_142_15, s_142_16, s_142_19, s_142_20, s_142_23, s_142_24, s_142_27, s_142_28, s_142_31, s_142_32, s_142_35, s_142_36, s_142_39, s_142_42, s_142_43, s_142_46, s_142_47, s_142_50, s_142_53, s_142_56, s_142_59, s_142_61, s_142_62, s_142_63, s_142_66, s_142_69, s_142_70, s_142_71, s_142_74, s_142_77, s_142_78, s_142_80, s_142_83, s_142_86, s_142_87, s_142_90, s_142_91, s_142_94, s_142_97, s_142_100, s_142_101, amLong_I, amLong_R, amLong_N, amLong_L, cond_true, cond_false, Option.toList_some, Option.toList_none, List.cons_append, List.nil_append, List.append_nil, setE, setN, cpy_set, lit, nle, nlt, neq, inb_iff, cl_nI, tle, fle, tlt, flt, teq, feq, m9, m3, x9, x3, nI_add, nsub, upN, upE, b0', b01', r100, w100, r101, w101, r102, w102, r103, w103, r104, w104, r105, w105, r106, w106, r107, w107, r108, w108, w109, w110, r111, w111, r112, w112, r113, w113, r114, w114, r115, w115, r116, w116, r117, w117, r118, w118, r119, w119, w120, w121, r122, w122, r130, w130, w131, w132, r133, w133, r134, w134, r135, w135, r136, w136, r137, w137, r138, w138, r139, w139, r140, w140, r141, w141, w142, r143, w143, r144, w144, r145, w145, r146, w146, w147, w150, b1', em1, Bool.false_eq_true, not_true_eq_false, not_false_eq_true, false_implies, true_implies, and_true, true_and, if_true, if_false, implies_true, Classical.not_not, true_or, or_true, false_or, or_false, and_self, ite_true, ite_false, reduceIte, h113, c3]
        exact H M2 hq.n hq.q.fc hV2
      · rw [if_neg c3] at H
        have hV3 : GV (setA M2 104 0 9 (M2 105 0)) 0 sh pay (tf y.2.2) := ⟨hV2.1.of (fun c k hc => setN (by omega)), fun k hk => by rw [setN (by omega), hV2.2.1 k hk], fun k hk => by rw [setE ⟨rfl, rfl, hk⟩, y6 k hk]⟩
        simp (disch := omega) only [s_142_0, s_142_1, s_142_2, s_142_3, s_142_6, s_142_9, s_142_10, s_142_11, s_142_12, s_142_15, s_142_16, s_142_19, s_142_20, s_142_23, s_142_24, s_142_27, s_142_28, s_142_31, s_142_32, s_142_35, s_142_36, s_142_39, s_142_42, s_142_43, s_142_46, s_142_47, s_142_50, s_142_53, s_142_56, s_142_59, s_142_61, s_142_62, s_142_63, s_142_66, s_142_69, s_142_70, s_142_71, s_142_74, s_142_77, s_142_78, s_142_80, s_142_83, s_142_86, s_142_87, s_142_90, s_142_91, s_142_94, s_142_97, s_142_100, s_142_101, amLong_I, amLong_R, amLong_N, amLong_L, cond_true, cond_false, Option.toList_some, Option.toList_none, List.cons_append, List.nil_append, List.append_nil, setE, setN, cpy_set, lit, nle, nlt, neq, inb_iff, cl_nI, tle, fle, tlt, flt, teq, feq, m9, m3, x9, x3, nI_add, nsub, upN, upE, b0', b01', r100, w100, r101, w101, r102, w102, r103, w103, r104, w104, r105, w105, r106, w106, r107, w107, r108, w108, w109, w110, r111, w111, r112, w112, r113, w113, r114, w114, r115, w115, r116, w116, r117, w117, r118, w118, r119, w119, w120, w121, r122, w122, r130, w130, w131, w132, r133, w133, r134, w134, r135, w135, r136, w136, r137, w137, r138, w138, r139, w139, r140, w140, r141, w141, w142, r143, w143, r144, w144, r145, w145, r146, w146, w147, w150, b1', em1, Bool.false_eq_true, not_true_eq_false, not_false_eq_true, false_implies, true_implies, and_true, true_and, if_true, if_false, implies_true, Classical.not_not, true_or, or_true, false_or, or_false, and_self, ite_true, ite_false, reduceIte, h113, c3, ho, v68 h0 hV3 ht0 hV3.2.2]
        exact H _ (hq.n.trans (fun c j k z1 z2 z3 => setN (by omega))) (fun c j k hc => by rw [setN (by omega), hq.q.fc c j k hc]) hV3
  · have c2 : ¬ bo (whO sh n what) = true := fun z => c1 (bo_iff.mp z)
    rw [if_neg c2] at H
    simp (disch := omega) only [s_142_0, s_142_1, s_142_2, s_142_3, s_142_6, s_142_9, s_142_10, s_142_11, s_142_12, s_142_15, s_142_16, s_142_19, s_142_20, s_142_23, s_142_24, s_142_27, s_142_28, s_142_31, s_142_32, s_142_35, s_142_36, s_142_39, s_142_42, s_142_43, s_142_46, s_142_47, s_142_50, s_142_53, s_142_56, s_142_59, s_142_61, s_142_62, s_142_63, s_142_66, s_142_69, s_142_70, s_142_71, s_142_74, s_142_77, s_142_78, s_142_80, s_142_83, s_142_86, s_142_87, s_142_90, s_142_91, s_142_94, s_142_97, s_142_100, s_142_101, amLong_I, amLong_R, amLong_N, amLong_L, cond_true, cond_false, Option.toList_some, Option.toList_none, List.cons_append, List.nil_append, List.append_nil, setE, setN, cpy_set, lit, nle, nlt, neq, inb_iff, cl_nI, tle, fle, tlt, flt, teq, feq, m9, m3, x9, x3, nI_add, nsub, upN, upE, b0', b01', r100, w100, r101, w101, r102, w102, r103, w103, r104, w104, r105, w105, r106, w106, r107, w107, r108, w108, w109, w110, r111, w111, r112, w112, r113, w113, r114, w114, r115, w115, r116, w116, r117, w117, r118, w118, r119, w119, w120, w121, r122, w122, r130, w130, w131, w132, r133, w133, r134, w134, r135, w135, r136, w136, r137, w137, r138, w138, r139, w139, r140, w140, r141, w141, w142, r143, w143, r144, w144, r145, w145, r146, w146, w147, w150, b1', em1, Bool.false_eq_true, not_true_eq_false, not_false_eq_true, false_implies, true_implies, and_true, true_and, if_true, if_false, implies_true, Classical.not_not, true_or, or_true, false_or, or_false, and_self, ite_true, ite_false, reduceIte, c102 hV', c2]
    exact H M FrR.rfl.n FC.rfl hV
end CHG
