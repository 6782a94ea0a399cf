/-! were, range -/
def pyS (pay : Nat → Int32) (i p : Nat) (v : Int32) : Nat → Int32 := fun k => if k = 9 * i + p then v else pay k
theorem pyS2 {pay : Nat → Int32} {i p : Nat} {v w : Int32} : pyS (pyS pay i p v) i p w = pyS pay i p w := by
  funext k
  unfold pyS
  by_cases e : k = 9 * i + p
  · rw [if_pos e, if_pos e]
  · rw [if_neg e, if_neg e, if_neg e]
theorem pyS0 {pay : Nat → Int32} {i p : Nat} : pyS pay i p (pay (9 * i + p)) = pay := by
  funext k
  unfold pyS
  by_cases e : k = 9 * i + p
  · rw [if_pos e, e]
  · rw [if_neg e]
theorem WG.pyS {sh i p : Nat} {pay tok : Nat → Int32} {v : Int32} (hW : WG (sh, pay, tok)) (hv : isP v) : WG (sh, pyS pay i p v, tok) := by
  refine ⟨hW.1, fun k hk => ?_, hW.2.2⟩
  show -9 ≤ (if k = 9 * i + p then v else pay k).toInt ∧ (if k = 9 * i + p then v else pay k).toInt ≤ 9
  by_cases e : k = 9 * i + p
  · rw [if_pos e]
    exact isP_i.mp hv
  · rw [if_neg e]
    exact hW.2.1 k hk
noncomputable def o26 (A : Sta) (i p v : Int32) : Int32 × Sta := if bo (pyC A.1.1 i p ∧ isP v) = true then (bI (sndB A.1.1 (pyS A.1.2.1 i.toNatClampNeg p.toNatClampNeg v) A.1.2.2 = true), tel A [topG A.1.1 (gns A.1.1 (pyS A.1.2.1 i.toNatClampNeg p.toNatClampNeg v) A.1.2.2)]) else (-nI 1, A)
def rgF (G : Gm) (i p : Nat) : Nat → Nat × Int32 × Int32
  | 0 => (0, nI 0, nI 0)
  | k + 1 => if sndB G.1 (pyS G.2.1 i p (nI k - nI 9)) G.2.2 = true then ((rgF G i p k).1 + 1, (if (rgF G i p k).1 = 0 then nI k - nI 9 else (rgF G i p k).2.1), nI k - nI 9) else rgF G i p k
theorem rgF_b {G : Gm} {i p : Nat} : ∀ k, (rgF G i p k).1 ≤ k := by
  intro k
  induction k with
  | zero => exact Nat.le_refl _
  | succ k ih =>
    unfold rgF
    split
    · dsimp only
      omega
    · omega
noncomputable def o27 (A : Sta) (i p : Int32) : Int32 × Sta := if bo (pyC A.1.1 i p) = true then (if (rgF A.1 i.toNatClampNeg p.toNatClampNeg 19).1 = 0 then (-nI 2, A) else (nI (rgF A.1 i.toNatClampNeg p.toNatClampNeg 19).1, tel A [(rgF A.1 i.toNatClampNeg p.toNatClampNeg 19).2.1, (rgF A.1 i.toNatClampNeg p.toNatClampNeg 19).2.2])) else (-nI 1, A)
theorem rg_i {k : Nat} (h : k < 100) : (nI k - nI 9).toInt = (k : Int) - 9 := by
  rw [tS (by rw [nI_toInt (by omega), nI_toInt (by decide)]; omega) (by rw [nI_toInt (by omega), nI_toInt (by decide)]; omega), nI_toInt (by omega), nI_toInt (by decide)]
  rfl
theorem rg_P {k : Nat} (h : k < 19) : isP (nI k - nI 9) := isP_i.mpr (by rw [rg_i (by omega)]; omega)
theorem rg_1 {k : Nat} : nI k - nI 9 + nI 1 = nI (k + 1) - nI 9 := by
  rw [← nI_add, Int32.sub_eq_add_neg, Int32.sub_eq_add_neg, Int32.add_assoc, Int32.add_assoc, Int32.add_comm (-nI 9)]
theorem rg_0 : -nI 9 = nI 0 - nI 9 := by decide
theorem rg_n {k : Nat} (h : k < 19) : (nI 9 < nI k - nI 9) = False := by
  rw [Int32.lt_iff_toInt_lt, rg_i (by omega), nI_toInt (by decide)]
  exact eq_false (by omega)
theorem rg_y : (nI 9 < nI 19 - nI 9) = True := by decide
section WERE
variable {d g t jk X sh : Nat} {M M1 M2 : amM} {J J1 J2 : amJ} {Q : Option amV → amS → Prop} {pay tok tk : Nat → Int32}
theorem v29 {i p : Nat} {v : Int32} (hg : g < 13) (hV : GV M g sh pay tok) (hi : i < plr sh) (hp : p < prf sh) (H : ∀ M1 x, (∀ c j k, ¬ (c = 103 ∧ j = g) → M1 c j k = M c j k) → GV M1 g sh (pyS pay i p v) tok → Q (some (vI x)) (M1, J, (jk, 149, 147, X))) : Call (d + 3) 29 [vR 2 g, vI (nI i), vI (nI p), vI v] (M, J, (jk, 149, 147, X)) Q := by
  obtain ⟨l1, l2, l3, l4⟩ := (sh_ok sh hV.1.1).1
  have ep : M 103 g (9 * i + p) = pay (9 * i + p) := hV.2.1 _ (by omega)
  rw [c29 hg hV.1 hi hp]
  refine ⟨fun e => H M _ (fun _ _ _ _ => rfl) ⟨hV.1, fun k hk => ?_, hV.2.2⟩, fun e => H _ _ (fun c j k hc => upN (by omega)) ⟨hV.1.of (fun c k hc => upN (by omega)), fun k hk => ?_, fun k hk => by rw [upN (by omega), hV.2.2 k hk]⟩⟩
  · rw [← e, ep, pyS0, hV.2.1 k hk]
  · unfold pyS
    by_cases e2 : k = 9 * i + p
    · rw [if_pos e2, upE ⟨rfl, rfl, e2⟩]
    · rw [if_neg e2, upN (by omega), hV.2.1 k hk]
theorem cpG_q {g2 : Nat} : FrQ M (cpG M 1 g2) := fun c j k hp => by
  by_cases e : j = 1
  · exact cpG_c (by unfold Pc at hp; omega)
  · exact cpG_o e
theorem k130 {A : Sta} {i p v : Int32} (hR : RC M J A) (hW : WF A) (H : ∀ M1 J1, RC M1 J1 (o26 A i p v).2 → FC M M1 → FCJ J J1 → Q (some (vI (o26 A i p v).1)) (M1, J1, (jk, 149, 147, X))) : Call (d + 5) 130 [vR 11 0, vI i, vI p, vI v] (M, J, (jk, 149, 147, X)) Q := by
  have h0 : (0 : Nat) < 13 := by decide
  have hV' : GV M 0 A.1.1 A.1.2.1 A.1.2.2 := hR.1
  obtain ⟨l1, l2, l3, l4⟩ := (sh_ok _ hV'.1.1).1
  unfold o26 at H
  rw [e_130]
  by_cases c1 : pyC A.1.1 i p
  · by_cases c2 : isP v
    · have c2' := bo_iff.mpr c2
      rw [if_pos (bo_iff.mpr ⟨c1, c2⟩)] at H
      obtain ⟨i, p, hi, hp, rfl, rfl⟩ := py_of hV'.1.1 c1
      rw [cl_nI (by omega), cl_nI (by omega)] at H
      have hV1 : GV (cpG M 1 0) 1 A.1.1 A.1.2.1 A.1.2.2 := cpG_gw (G := A.1) hR.1
      simp (disch := omega) only [s_130_0, s_130_1, s_130_4, s_130_5, s_130_6, s_130_9, s_130_12, s_130_13, s_130_16, s_130_19, s_130_20, s_130_21, s_130_22, s_130_25, s_130_26, s_130_29, s_130_32, s_130_33, s_130_36, s_130_37, s_130_38, s_130_39, s_130_42, s_130_43, s_130_44, s_130_47, s_130_48, s_130_51, s_130_52, s_130_55, s_130_58, s_130_61, s_130_62, s_130_65, s_130_68, s_130_69, s_130_72, s_130_73, s_130_76, s_130_79, s_130_80, s_130_83, s_130_84, s_130_87, s_130_90, s_130_93, s_130_94, s_130_97, s_130_98, amLong_I, amLong_R, amLong_N, amLong_L, cond_true, cond_false, Option.toList_some, Option.toList_none, List.cons_append, List.nil_append, List.append_nil, setE, setN, cpy_set, lit, nle, nlt, neq, inb_iff, cl_nI, tle, fle, tlt, flt, teq, feq, m9, m3, x9, x3, nI_add, nsub, upN, upE, b0', b01', r100, w100, r101, w101, r102, w102, r103, w103, r104, w104, r105, w105, r106, w106, r107, w107, r108, w108, w109, w110, r111, w111, r112, w112, r113, w113, r114, w114, r115, w115, r116, w116, r117, w117, r118, w118, r119, w119, w120, w121, r122, w122, r130, w130, w131, w132, r133, w133, r134, w134, r135, w135, r136, w136, r137, w137, r138, w138, r139, w139, r140, w140, r141, w141, w142, r143, w143, r144, w144, r145, w145, r146, w146, w147, w150, b1', em1, Bool.false_eq_true, not_true_eq_false, not_false_eq_true, false_implies, true_implies, and_true, true_and, if_true, if_false, implies_true, Classical.not_not, true_or, or_true, false_or, or_false, and_self, ite_true, ite_false, reduceIte, c30 h0, hV'.1.2.1, hV'.1.2.2.1, c41, c2', c22 (show 1 < 13 by decide) (show 0 < 13 by decide)]
      refine v29 (by decide) hV1 hi hp (fun M2 y f2 h2 => ?_)
      have q2 : FrQ M M2 := cpG_q.trans (fun c j k hp => f2 c j k (by unfold Pc at hp; omega))
      simp (disch := omega) only [s_130_0, s_130_1, s_130_4, s_130_5, s_130_6, s_130_9, s_130_12, s_130_13, s_130_16, s_130_19, s_130_20, s_130_21, s_130_22, s_130_25, s_130_26, s_130_29, s_130_32, s_130_33, s_130_36, s_130_37, s_130_38, s_130_39, s_130_42, s_130_43, s_130_44, s_130_47, s_130_48, s_130_51, s_130_52, s_130_55, s_130_58, s_130_61, s_130_62, s_130_65, s_130_68, s_130_69, s_130_72, s_130_73, s_130_76, s_130_79, s_130_80, s_130_83, s_130_84, s_130_87, s_130_90, s_130_93, s_130_94, s_130_97, s_130_98, amLong_I, amLong_R, amLong_N, amLong_L, cond_true, cond_false, Option.toList_some, Option.toList_none, List.cons_append, List.nil_append, List.append_nil, setE, setN, cpy_set, lit, nle, nlt, neq, inb_iff, cl_nI, tle, fle, tlt, flt, teq, feq, m9, m3, x9, x3, nI_add, nsub, upN, upE, b0', b01', r100, w100, r101, w101, r102, w102, r103, w103, r104, w104, r105, w105, r106, w106, r107, w107, r108, w108, w109, w110, r111, w111, r112, w112, r113, w113, r114, w114, r115, w115, r116, w116, r117, w117, r118, w118, r119, w119, w120, w121, r122, w122, r130, w130, w131, w132, r133, w133, r134, w134, r135, w135, r136, w136, r137, w137, r138, w138, r139, w139, r140, w140, r141, w141, w142, r143, w143, r144, w144, r145, w145, r146, w146, w147, w150, b1', em1, Bool.false_eq_true, not_true_eq_false, not_false_eq_true, false_implies, true_implies, and_true, true_and, if_true, if_false, implies_true, Classical.not_not, true_or, or_true, false_or, or_false, and_self, ite_true, ite_false, reduceIte]
      refine v47 (by decide) (by decide) h2 (Or.inl ⟨rfl, by decide⟩) (Or.inl (by decide)) h2.2.2 hW.1.tz (fun M3 hF hT => ?_)
      simp (disch := omega) only [s_130_0, s_130_1, s_130_4, s_130_5, s_130_6, s_130_9, s_130_12, s_130_13, s_130_16, s_130_19, s_130_20, s_130_21, s_130_22, s_130_25, s_130_26, s_130_29, s_130_32, s_130_33, s_130_36, s_130_37, s_130_38, s_130_39, s_130_42, s_130_43, s_130_44, s_130_47, s_130_48, s_130_51, s_130_52, s_130_55, s_130_58, s_130_61, s_130_62, s_130_65, s_130_68, s_130_69, s_130_72, s_130_73, s_130_76, s_130_79, s_130_80, s_130_83, s_130_84, s_130_87, s_130_90, s_130_93, s_130_94, s_130_97, s_130_98, amLong_I, amLong_R, amLong_N, amLong_L, cond_true, cond_false, Option.toList_some, Option.toList_none, List.cons_append, List.nil_append, List.append_nil, setE, setN, cpy_set, lit, nle, nlt, neq, inb_iff, cl_nI, tle, fle, tlt, flt, teq, feq, m9, m3, x9, x3, nI_add, nsub, upN, upE, b0', b01', r100, w100, r101, w101, r102, w102, r103, w103, r104, w104, r105, w105, r106, w106, r107, w107, r108, w108, w109, w110, r111, w111, r112, w112, r113, w113, r114, w114, r115, w115, r116, w116, r117, w117, r118, w118, r119, w119, w120, w121, r122, w122, r130, w130, w131, w132, r133, w133, r134, w134, r135, w135, r136, w136, r137, w137, r138, w138, r139, w139, r140, w140, r141, w141, w142, r143, w143, r144, w144, r145, w145, r146, w146, w147, w150, b1', em1, Bool.false_eq_true, not_true_eq_false, not_false_eq_true, false_implies, true_implies, and_true, true_and, if_true, if_false, implies_true, Classical.not_not, true_or, or_true, false_or, or_false, and_self, ite_true, ite_false, reduceIte]
      refine v42 (fun M4 h4 => ?_)
      have hT4 := h4.tl hT
      simp (disch := omega) only [s_130_0, s_130_1, s_130_4, s_130_5, s_130_6, s_130_9, s_130_12, s_130_13, s_130_16, s_130_19, s_130_20, s_130_21, s_130_22, s_130_25, s_130_26, s_130_29, s_130_32, s_130_33, s_130_36, s_130_37, s_130_38, s_130_39, s_130_42, s_130_43, s_130_44, s_130_47, s_130_48, s_130_51, s_130_52, s_130_55, s_130_58, s_130_61, s_130_62, s_130_65, s_130_68, s_130_69, s_130_72, s_130_73, s_130_76, s_130_79, s_130_80, s_130_83, s_130_84, s_130_87, s_130_90, s_130_93, s_130_94, s_130_97, s_130_98, amLong_I, amLong_R, amLong_N, amLong_L, cond_true, cond_false, Option.toList_some, Option.toList_none, List.cons_append, List.nil_append, List.append_nil, setE, setN, cpy_set, lit, nle, nlt, neq, inb_iff, cl_nI, tle, fle, tlt, flt, teq, feq, m9, m3, x9, x3, nI_add, nsub, upN, upE, b0', b01', r100, w100, r101, w101, r102, w102, r103, w103, r104, w104, r105, w105, r106, w106, r107, w107, r108, w108, w109, w110, r111, w111, r112, w112, r113, w113, r114, w114, r115, w115, r116, w116, r117, w117, r118, w118, r119, w119, w120, w121, r122, w122, r130, w130, w131, w132, r133, w133, r134, w134, r135, w135, r136, w136, r137, w137, r138, w138, r139, w139, r140, w140, r141, w141, w142, r143, w143, r144, w144, r145, w145, r146, w146, w147, w150, b1', em1, Bool.false_eq_true, not_true_eq_false, not_false_eq_true, false_implies, true_implies, and_true, true_and, if_true, if_false, implies_true, Classical.not_not, true_or, or_true, false_or, or_false, and_self, ite_true, ite_false, reduceIte, v57 hT4]
      generalize hw : pyS A.1.2.1 i p v = py at *
      generalize ht : t3 A.1.1 (gns A.1.1 py A.1.2.2) (plr A.1.1) = tt at *
      have h4' : RWo (tpM M3 0 tt) (tpM M4 0 tt) J J [] := by
        refine ⟨?_, ⟨?_, h4.2.1.2⟩, h4.2.2⟩
        · rw [h4.1]
          unfold tpM
          funext c j k
          unfold upM
          by_cases e : c = 1301
          · subst e
            simp
          · simp [e]
        · rw [tpM_f (by omega), h4.2.1.1]
      refine v43 h4' (by decide) (fun M5 J5 h5 => ?_)
      have hT6 : TL M5 0 A.1.1 py A.1.2.2 := h5.tl ⟨hT.1.of (fun c k hc => tpM_f (by omega)), fun p hp => by rw [tpM_f (by omega), hT.2.1 p hp], fun k hk => by rw [tpM_f (by omega), hT.2.2 k hk]⟩
      simp (disch := omega) only [s_130_0, s_130_1, s_130_4, s_130_5, s_130_6, s_130_9, s_130_12, s_130_13, s_130_16, s_130_19, s_130_20, s_130_21, s_130_22, s_130_25, s_130_26, s_130_29, s_130_32, s_130_33, s_130_36, s_130_37, s_130_38, s_130_39, s_130_42, s_130_43, s_130_44, s_130_47, s_130_48, s_130_51, s_130_52, s_130_55, s_130_58, s_130_61, s_130_62, s_130_65, s_130_68, s_130_69, s_130_72, s_130_73, s_130_76, s_130_79, s_130_80, s_130_83, s_130_84, s_130_87, s_130_90, s_130_93, s_130_94, s_130_97, s_130_98, amLong_I, amLong_R, amLong_N, amLong_L, cond_true, cond_false, Option.toList_some, Option.toList_none, List.cons_append, List.nil_append, List.append_nil, setE, setN, cpy_set, lit, nle, nlt, neq, inb_iff, cl_nI, tle, fle, tlt, flt, teq, feq, m9, m3, x9, x3, nI_add, nsub, upN, upE, b0', b01', r100, w100, r101, w101, r102, w102, r103, w103, r104, w104, r105, w105, r106, w106, r107, w107, r108, w108, w109, w110, r111, w111, r112, w112, r113, w113, r114, w114, r115, w115, r116, w116, r117, w117, r118, w118, r119, w119, w120, w121, r122, w122, r130, w130, w131, w132, r133, w133, r134, w134, r135, w135, r136, w136, r137, w137, r138, w138, r139, w139, r140, w140, r141, w141, w142, r143, w143, r144, w144, r145, w145, r146, w146, w147, w150, b1', em1, Bool.false_eq_true, not_true_eq_false, not_false_eq_true, false_implies, true_implies, and_true, true_and, if_true, if_false, implies_true, Classical.not_not, true_or, or_true, false_or, or_false, and_self, ite_true, ite_false, reduceIte, c58 (show (0 : Nat) < 4 by decide) hT6]
      have hR6 := hR.w ((q2.trans hF.q).trans tpM_q) h5
      have hq := (((q2.trans hF.q).trans tpM_q).trans h5.q).fc
      by_cases hs : sndB A.1.1 py A.1.2.2 = true
      · rw [bI_t hs] at H
        simp (disch := omega) only [setE, setN, cpy_set, lit, nle, nlt, neq, inb_iff, cl_nI, tle, fle, tlt, flt, teq, feq, m9, m3, x9, x3, nI_add, nsub, upN, upE, b0', b01', r100, w100, r101, w101, r102, w102, r103, w103, r104, w104, r105, w105, r106, w106, r107, w107, r108, w108, w109, w110, r111, w111, r112, w112, r113, w113, r114, w114, r115, w115, r116, w116, r117, w117, r118, w118, r119, w119, w120, w121, r122, w122, r130, w130, w131, w132, r133, w133, r134, w134, r135, w135, r136, w136, r137, w137, r138, w138, r139, w139, r140, w140, r141, w141, w142, r143, w143, r144, w144, r145, w145, r146, w146, w147, w150, b1', em1, Bool.false_eq_true, not_true_eq_false, not_false_eq_true, false_implies, true_implies, and_true, true_and, if_true, if_false, implies_true, Classical.not_not, true_or, or_true, false_or, or_false, and_self, ite_true, ite_false, reduceIte, hs]
        exact H M5 J5 hR6 hq h5.j
      · rw [bI_f hs] at H
        simp (disch := omega) only [setE, setN, cpy_set, lit, nle, nlt, neq, inb_iff, cl_nI, tle, fle, tlt, flt, teq, feq, m9, m3, x9, x3, nI_add, nsub, upN, upE, b0', b01', r100, w100, r101, w101, r102, w102, r103, w103, r104, w104, r105, w105, r106, w106, r107, w107, r108, w108, w109, w110, r111, w111, r112, w112, r113, w113, r114, w114, r115, w115, r116, w116, r117, w117, r118, w118, r119, w119, w120, w121, r122, w122, r130, w130, w131, w132, r133, w133, r134, w134, r135, w135, r136, w136, r137, w137, r138, w138, r139, w139, r140, w140, r141, w141, w142, r143, w143, r144, w144, r145, w145, r146, w146, w147, w150, b1', em1, Bool.false_eq_true, not_true_eq_false, not_false_eq_true, false_implies, true_implies, and_true, true_and, if_true, if_false, implies_true, Classical.not_not, true_or, or_true, false_or, or_false, and_self, ite_true, ite_false, reduceIte, hs]
        exact H M5 J5 hR6 hq h5.j
    · have c2' : ¬ bo (isP v) = true := fun z => c2 (bo_iff.mp z)
      rw [if_neg (fun z => c2 (bo_iff.mp z).2)] at H
      have c1' := c1
      unfold pyC at c1'
      simp (disch := omega) only [s_130_0, s_130_1, s_130_4, s_130_5, s_130_6, s_130_9, s_130_12, s_130_13, s_130_16, s_130_19, s_130_20, s_130_21, s_130_22, s_130_25, s_130_26, s_130_29, s_130_32, s_130_33, s_130_36, s_130_37, s_130_38, s_130_39, s_130_42, s_130_43, s_130_44, s_130_47, s_130_48, s_130_51, s_130_52, s_130_55, s_130_58, s_130_61, s_130_62, s_130_65, s_130_68, s_130_69, s_130_72, s_130_73, s_130_76, s_130_79, s_130_80, s_130_83, s_130_84, s_130_87, s_130_90, s_130_93, s_130_94, s_130_97, s_130_98, amLong_I, amLong_R, amLong_N, amLong_L, cond_true, cond_false, Option.toList_some, Option.toList_none, List.cons_append, List.nil_append, List.append_nil, setE, setN, cpy_set, lit, nle, nlt, neq, inb_iff, cl_nI, tle, fle, tlt, flt, teq, feq, m9, m3, x9, x3, nI_add, nsub, upN, upE, b0', b01', r100, w100, r101, w101, r102, w102, r103, w103, r104, w104, r105, w105, r106, w106, r107, w107, r108, w108, w109, w110, r111, w111, r112, w112, r113, w113, r114, w114, r115, w115, r116, w116, r117, w117, r118, w118, r119, w119, w120, w121, r122, w122, r130, w130, w131, w132, r133, w133, r134, w134, r135, w135, r136, w136, r137, w137, r138, w138, r139, w139, r140, w140, r141, w141, w142, r143, w143, r144, w144, r145, w145, r146, w146, w147, w150, b1', em1, Bool.false_eq_true, not_true_eq_false, not_false_eq_true, false_implies, true_implies, and_true, true_and, if_true, if_false, implies_true, Classical.not_not, true_or, or_true, false_or, or_false, and_self, ite_true, ite_false, reduceIte, c30 h0, hV'.1.2.1, hV'.1.2.2.1, c1', c41, c2']
      exact H M J hR FC.rfl FCJ.rfl
  · rw [if_neg (fun z => c1 (bo_iff.mp z).1)] at H
    have c1' := c1
    unfold pyC at c1'
    simp (disch := omega) only [s_130_0, s_130_1, s_130_4, s_130_5, s_130_6, s_130_9, s_130_12, s_130_13, s_130_16, s_130_19, s_130_20, s_130_21, s_130_22, s_130_25, s_130_26, s_130_29, s_130_32, s_130_33, s_130_36, s_130_37, s_130_38, s_130_39, s_130_42, s_130_43, s_130_44, s_130_47, s_130_48, s_130_51, s_130_52, s_130_55, s_130_58, s_130_61, s_130_62, s_130_65, s_130_68, s_130_69, s_130_72, s_130_73, s_130_76, s_130_79, s_130_80, s_130_83, s_130_84, s_130_87, s_130_90, s_130_93, s_130_94, s_130_97, s_130_98, amLong_I, amLong_R, amLong_N, amLong_L, cond_true, cond_false, Option.toList_some, Option.toList_none, List.cons_append, List.nil_append, List.append_nil, setE, setN, cpy_set, lit, nle, nlt, neq, inb_iff, cl_nI, tle, fle, tlt, flt, teq, feq, m9, m3, x9, x3, nI_add, nsub, upN, upE, b0', b01', r100, w100, r101, w101, r102, w102, r103, w103, r104, w104, r105, w105, r106, w106, r107, w107, r108, w108, w109, w110, r111, w111, r112, w112, r113, w113, r114, w114, r115, w115, r116, w116, r117, w117, r118, w118, r119, w119, w120, w121, r122, w122, r130, w130, w131, w132, r133, w133, r134, w134, r135, w135, r136, w136, r137, w137, r138, w138, r139, w139, r140, w140, r141, w141, w142, r143, w143, r144, w144, r145, w145, r146, w146, w147, w150, b1', em1, Bool.false_eq_true, not_true_eq_false, not_false_eq_true, false_implies, true_implies, and_true, true_and, if_true, if_false, implies_true, Classical.not_not, true_or, or_true, false_or, or_false, and_self, ite_true, ite_false, reduceIte, c30 h0, hV'.1.2.1, hV'.1.2.2.1, c1']
    exact H M J hR FC.rfl FCJ.rfl
theorem m248 {i p : Nat} {v : Int32} (hV : MV M sh pay tok) (hW : WG (sh, pay, tok)) (hi : i < 3) (hp : p < 9) (hv : isP v) (H : ∀ M1, Kp M M1 → Q (some (vI (topG sh (gns sh (pyS pay i p v) tok)))) (M1, J, (jk, 149, 147, X))) : Call (d + 7) 248 [vR 12 0, vI (nI i), vI (nI p), vI v] (M, J, (jk, 149, 147, X)) Q := by
  have hW2 := hW.pyS (i := i) (p := p) hv
  have em : M 130 0 (4 + 9 * i + p) = pay (9 * i + p) := by rw [show 4 + 9 * i + p = 4 + (9 * i + p) by omega, hV.2.2.2.1 _ (by omega)]
  rw [e_248]
  simp (disch := omega) only [s_248_0, s_248_1, s_248_2, s_248_3, s_248_6, s_248_8, s_248_9, s_248_12, s_248_13, s_248_15, s_248_16, s_248_17, s_248_18, s_248_19, s_248_20, s_248_21, s_248_22, s_248_23, s_248_26, s_248_27, s_248_30, s_248_32, s_248_33, s_248_36, s_248_37, s_248_39, s_248_40, s_248_41, s_248_42, s_248_43, s_248_44, s_248_46, s_248_47, s_248_49, amLong_I, amLong_R, amLong_N, amLong_L, cond_true, cond_false, Option.toList_some, Option.toList_none, List.cons_append, List.nil_append, List.append_nil, setE, setN, cpy_set, lit, nle, nlt, neq, inb_iff, cl_nI, tle, fle, tlt, flt, teq, feq, m9, m3, x9, x3, nI_add, nsub, upN, upE, b0', b01', r100, w100, r101, w101, r102, w102, r103, w103, r104, w104, r105, w105, r106, w106, r107, w107, r108, w108, w109, w110, r111, w111, r112, w112, r113, w113, r114, w114, r115, w115, r116, w116, r117, w117, r118, w118, r119, w119, w120, w121, r122, w122, r130, w130, w131, w132, r133, w133, r134, w134, r135, w135, r136, w136, r137, w137, r138, w138, r139, w139, r140, w140, r141, w141, w142, r143, w143, r144, w144, r145, w145, r146, w146, w147, w150, b1', em1, Bool.false_eq_true, not_true_eq_false, not_false_eq_true, false_implies, true_implies, and_true, true_and, if_true, if_false, implies_true, Classical.not_not, true_or, or_true, false_or, or_false, and_self, ite_true, ite_false, reduceIte, m178 hV]
  have hV1 : MV (upM M 130 0 (4 + 9 * i + p) v) sh (pyS pay i p v) tok := by
    refine ⟨hV.1, ?_, fun x hx => ?_, fun x hx => ?_, fun x hx => ?_⟩
    · rw [upN (by omega), hV.2.1]
    · rw [upN (by omega), hV.2.2.1 x hx]
    · unfold pyS
      by_cases e : x = 9 * i + p
      · rw [if_pos e, upE ⟨rfl, rfl, by omega⟩]
      · rw [if_neg e, upN (by omega), hV.2.2.2.1 x hx]
    · rw [upN (by omega), hV.2.2.2.2 x hx]
  refine m186 hV1 (fun M1 h1 h2 => ?_)
  have hV2 : MV M1 sh (pyS pay i p v) tok := hV1.of (fun k _ => h1 _ _ _ (by omega))
  have eG : gns sh (pyS pay i p v) (M1 134 0) = gns sh (pyS pay i p v) tok := funext fun k => gns_tk hV.1 h2
  simp (disch := omega) only [s_248_0, s_248_1, s_248_2, s_248_3, s_248_6, s_248_8, s_248_9, s_248_12, s_248_13, s_248_15, s_248_16, s_248_17, s_248_18, s_248_19, s_248_20, s_248_21, s_248_22, s_248_23, s_248_26, s_248_27, s_248_30, s_248_32, s_248_33, s_248_36, s_248_37, s_248_39, s_248_40, s_248_41, s_248_42, s_248_43, s_248_44, s_248_46, s_248_47, s_248_49, amLong_I, amLong_R, amLong_N, amLong_L, cond_true, cond_false, Option.toList_some, Option.toList_none, List.cons_append, List.nil_append, List.append_nil, setE, setN, cpy_set, lit, nle, nlt, neq, inb_iff, cl_nI, tle, fle, tlt, flt, teq, feq, m9, m3, x9, x3, nI_add, nsub, upN, upE, b0', b01', r100, w100, r101, w101, r102, w102, r103, w103, r104, w104, r105, w105, r106, w106, r107, w107, r108, w108, w109, w110, r111, w111, r112, w112, r113, w113, r114, w114, r115, w115, r116, w116, r117, w117, r118, w118, r119, w119, w120, w121, r122, w122, r130, w130, w131, w132, r133, w133, r134, w134, r135, w135, r136, w136, r137, w137, r138, w138, r139, w139, r140, w140, r141, w141, w142, r143, w143, r144, w144, r145, w145, r146, w146, w147, w150, b1', em1, Bool.false_eq_true, not_true_eq_false, not_false_eq_true, false_implies, true_implies, and_true, true_and, if_true, if_false, implies_true, Classical.not_not, true_or, or_true, false_or, or_false, and_self, ite_true, ite_false, reduceIte]
  refine m190 hV2 (fun k hk => by rw [eG]; exact hW2.gm) (fun M2 f1 f2 f3 f4 => ?_)
  rw [eG]
  simp (disch := omega) only [s_248_0, s_248_1, s_248_2, s_248_3, s_248_6, s_248_8, s_248_9, s_248_12, s_248_13, s_248_15, s_248_16, s_248_17, s_248_18, s_248_19, s_248_20, s_248_21, s_248_22, s_248_23, s_248_26, s_248_27, s_248_30, s_248_32, s_248_33, s_248_36, s_248_37, s_248_39, s_248_40, s_248_41, s_248_42, s_248_43, s_248_44, s_248_46, s_248_47, s_248_49, amLong_I, amLong_R, amLong_N, amLong_L, cond_true, cond_false, Option.toList_some, Option.toList_none, List.cons_append, List.nil_append, List.append_nil, setE, setN, cpy_set, lit, nle, nlt, neq, inb_iff, cl_nI, tle, fle, tlt, flt, teq, feq, m9, m3, x9, x3, nI_add, nsub, upN, upE, b0', b01', r100, w100, r101, w101, r102, w102, r103, w103, r104, w104, r105, w105, r106, w106, r107, w107, r108, w108, w109, w110, r111, w111, r112, w112, r113, w113, r114, w114, r115, w115, r116, w116, r117, w117, r118, w118, r119, w119, w120, w121, r122, w122, r130, w130, w131, w132, r133, w133, r134, w134, r135, w135, r136, w136, r137, w137, r138, w138, r139, w139, r140, w140, r141, w141, w142, r143, w143, r144, w144, r145, w145, r146, w146, w147, w150, b1', em1, Bool.false_eq_true, not_true_eq_false, not_false_eq_true, false_implies, true_implies, and_true, true_and, if_true, if_false, implies_true, Classical.not_not, true_or, or_true, false_or, or_false, and_self, ite_true, ite_false, reduceIte]
  refine H _ (fun c j k hc => ?_)
  unfold Sc at hc
  by_cases e : c = 130 ∧ j = 0 ∧ k = 4 + 9 * i + p
  · obtain ⟨rfl, rfl, rfl⟩ := e
    rw [upE ⟨rfl, rfl, rfl⟩, em]
  · rw [upN (by omega), f1 c j k (by omega), h1 c j k (by omega), upN (by omega)]
theorem n246 {A : Sta} {i p v : Int32} (hR : RM M J A) (hW : WF A) (H : ∀ M1 J1, RM M1 J1 (o26 A i p v).2 → FM M M1 → FMJ J J1 → Q (some (vI (o26 A i p v).1)) (M1, J1, (jk, 149, 147, X))) : Call (d + 8) 246 [vR 12 0, vI i, vI p, vI v] (M, J, (jk, 149, 147, X)) Q := by
  have hV0 := (thr (x := nI 0)).v (hR.v hW)
  have hK0 : Kp M (upM M 1605 0 0 (nI 0)) := thr
  obtain ⟨⟨sh, pay, tok⟩, U, S, tx, r⟩ := A
  have hW1 : WG (sh, pay, tok) := hW.1
  dsimp only at hV0
  obtain ⟨l1, l2, l3, l4⟩ := hV0.lim
  unfold o26 at H
  dsimp only at H
  rw [e_246]
  by_cases c1 : pyC sh i p
  · have c1' := bo_iff.mpr c1
    by_cases c2 : isP v
    · have c2' : -nI 9 ≤ v ∧ v ≤ nI 9 := c2
      rw [if_pos (bo_iff.mpr ⟨c1, c2⟩)] at H
      obtain ⟨i, p, hi, hp, rfl, rfl⟩ := py_of hV0.1 c1
      rw [cl_nI (by omega), cl_nI (by omega)] at H
      have hs := top_snd (pay := pyS pay i p v) (tok := tok) hV0.1
      simp (disch := omega) only [s_246_0, s_246_1, s_246_2, s_246_5, s_246_6, s_246_7, s_246_8, s_246_11, s_246_14, s_246_15, s_246_17, s_246_19, s_246_22, s_246_25, s_246_26, s_246_27, s_246_28, s_246_29, s_246_30, s_246_31, s_246_34, s_246_36, s_246_37, s_246_38, s_246_41, s_246_42, s_246_44, s_246_45, s_246_48, s_246_50, s_246_53, s_246_54, s_246_57, s_246_58, amLong_I, amLong_R, amLong_N, amLong_L, cond_true, cond_false, Option.toList_some, Option.toList_none, List.cons_append, List.nil_append, List.append_nil, setE, setN, cpy_set, lit, nle, nlt, neq, inb_iff, cl_nI, tle, fle, tlt, flt, teq, feq, m9, m3, x9, x3, nI_add, nsub, upN, upE, b0', b01', r100, w100, r101, w101, r102, w102, r103, w103, r104, w104, r105, w105, r106, w106, r107, w107, r108, w108, w109, w110, r111, w111, r112, w112, r113, w113, r114, w114, r115, w115, r116, w116, r117, w117, r118, w118, r119, w119, w120, w121, r122, w122, r130, w130, w131, w132, r133, w133, r134, w134, r135, w135, r136, w136, r137, w137, r138, w138, r139, w139, r140, w140, r141, w141, w142, r143, w143, r144, w144, r145, w145, r146, w146, w147, w150, b1', em1, Bool.false_eq_true, not_true_eq_false, not_false_eq_true, false_implies, true_implies, and_true, true_and, if_true, if_false, implies_true, Classical.not_not, true_or, or_true, false_or, or_false, and_self, ite_true, ite_false, reduceIte, m247 hV0, c1', m160, c2']
      refine m248 hV0 hW1 (by omega) (by omega) c2 (fun M1 hK1 => ?_)
      simp (disch := omega) only [s_246_0, s_246_1, s_246_2, s_246_5, s_246_6, s_246_7, s_246_8, s_246_11, s_246_14, s_246_15, s_246_17, s_246_19, s_246_22, s_246_25, s_246_26, s_246_27, s_246_28, s_246_29, s_246_30, s_246_31, s_246_34, s_246_36, s_246_37, s_246_38, s_246_41, s_246_42, s_246_44, s_246_45, s_246_48, s_246_50, s_246_53, s_246_54, s_246_57, s_246_58, amLong_I, amLong_R, amLong_N, amLong_L, cond_true, cond_false, Option.toList_some, Option.toList_none, List.cons_append, List.nil_append, List.append_nil, setE, setN, cpy_set, lit, nle, nlt, neq, inb_iff, cl_nI, tle, fle, tlt, flt, teq, feq, m9, m3, x9, x3, nI_add, nsub, upN, upE, b0', b01', r100, w100, r101, w101, r102, w102, r103, w103, r104, w104, r105, w105, r106, w106, r107, w107, r108, w108, w109, w110, r111, w111, r112, w112, r113, w113, r114, w114, r115, w115, r116, w116, r117, w117, r118, w118, r119, w119, w120, w121, r122, w122, r130, w130, w131, w132, r133, w133, r134, w134, r135, w135, r136, w136, r137, w137, r138, w138, r139, w139, r140, w140, r141, w141, w142, r143, w143, r144, w144, r145, w145, r146, w146, w147, w150, b1', em1, Bool.false_eq_true, not_true_eq_false, not_false_eq_true, false_implies, true_implies, and_true, true_and, if_true, if_false, implies_true, Classical.not_not, true_or, or_true, false_or, or_false, and_self, ite_true, ite_false, reduceIte]
      refine m177 MRo0 (by decide) (fun M3 J3 h3 => ?_)
      have hK := hK0.trans hK1
      by_cases z : sndB sh (pyS pay i p v) tok = true
      · rw [bI_t z] at H
        have z' : ¬ nI 0 < topG sh (gns sh (pyS pay i p v) tok) := Int32.not_lt.mpr (hs.mp z)
        simp (disch := omega) only [s_246_0, s_246_1, s_246_2, s_246_5, s_246_6, s_246_7, s_246_8, s_246_11, s_246_14, s_246_15, s_246_17, s_246_19, s_246_22, s_246_25, s_246_26, s_246_27, s_246_28, s_246_29, s_246_30, s_246_31, s_246_34, s_246_36, s_246_37, s_246_38, s_246_41, s_246_42, s_246_44, s_246_45, s_246_48, s_246_50, s_246_53, s_246_54, s_246_57, s_246_58, amLong_I, amLong_R, amLong_N, amLong_L, cond_true, cond_false, Option.toList_some, Option.toList_none, List.cons_append, List.nil_append, List.append_nil, setE, setN, cpy_set, lit, nle, nlt, neq, inb_iff, cl_nI, tle, fle, tlt, flt, teq, feq, m9, m3, x9, x3, nI_add, nsub, upN, upE, b0', b01', r100, w100, r101, w101, r102, w102, r103, w103, r104, w104, r105, w105, r106, w106, r107, w107, r108, w108, w109, w110, r111, w111, r112, w112, r113, w113, r114, w114, r115, w115, r116, w116, r117, w117, r118, w118, r119, w119, w120, w121, r122, w122, r130, w130, w131, w132, r133, w133, r134, w134, r135, w135, r136, w136, r137, w137, r138, w138, r139, w139, r140, w140, r141, w141, w142, r143, w143, r144, w144, r145, w145, r146, w146, w147, w150, b1', em1, Bool.false_eq_true, not_true_eq_false, not_false_eq_true, false_implies, true_implies, and_true, true_and, if_true, if_false, implies_true, Classical.not_not, true_or, or_true, false_or, or_false, and_self, ite_true, ite_false, reduceIte, z']
        exact H M3 J3 (hR.w hK h3) (hK.fm.o h3) h3.j
      · rw [bI_f z] at H
        have z' : nI 0 < topG sh (gns sh (pyS pay i p v) tok) := Int32.not_le.mp (fun y => z (hs.mpr y))
        simp (disch := omega) only [s_246_0, s_246_1, s_246_2, s_246_5, s_246_6, s_246_7, s_246_8, s_246_11, s_246_14, s_246_15, s_246_17, s_246_19, s_246_22, s_246_25, s_246_26, s_246_27, s_246_28, s_246_29, s_246_30, s_246_31, s_246_34, s_246_36, s_246_37, s_246_38, s_246_41, s_246_42, s_246_44, s_246_45, s_246_48, s_246_50, s_246_53, s_246_54, s_246_57, s_246_58, amLong_I, amLong_R, amLong_N, amLong_L, cond_true, cond_false, Option.toList_some, Option.toList_none, List.cons_append, List.nil_append, List.append_nil, setE, setN, cpy_set, lit, nle, nlt, neq, inb_iff, cl_nI, tle, fle, tlt, flt, teq, feq, m9, m3, x9, x3, nI_add, nsub, upN, upE, b0', b01', r100, w100, r101, w101, r102, w102, r103, w103, r104, w104, r105, w105, r106, w106, r107, w107, r108, w108, w109, w110, r111, w111, r112, w112, r113, w113, r114, w114, r115, w115, r116, w116, r117, w117, r118, w118, r119, w119, w120, w121, r122, w122, r130, w130, w131, w132, r133, w133, r134, w134, r135, w135, r136, w136, r137, w137, r138, w138, r139, w139, r140, w140, r141, w141, w142, r143, w143, r144, w144, r145, w145, r146, w146, w147, w150, b1', em1, Bool.false_eq_true, not_true_eq_false, not_false_eq_true, false_implies, true_implies, and_true, true_and, if_true, if_false, implies_true, Classical.not_not, true_or, or_true, false_or, or_false, and_self, ite_true, ite_false, reduceIte, z']
        exact H M3 J3 (hR.w hK h3) (hK.fm.o h3) h3.j
    · have c2' : ¬ (-nI 9 ≤ v ∧ v ≤ nI 9) := c2
      rw [if_neg (fun z => c2 (bo_iff.mp z).2)] at H
      simp (disch := omega) only [s_246_0, s_246_1, s_246_2, s_246_5, s_246_6, s_246_7, s_246_8, s_246_11, s_246_14, s_246_15, s_246_17, s_246_19, s_246_22, s_246_25, s_246_26, s_246_27, s_246_28, s_246_29, s_246_30, s_246_31, s_246_34, s_246_36, s_246_37, s_246_38, s_246_41, s_246_42, s_246_44, s_246_45, s_246_48, s_246_50, s_246_53, s_246_54, s_246_57, s_246_58, amLong_I, amLong_R, amLong_N, amLong_L, cond_true, cond_false, Option.toList_some, Option.toList_none, List.cons_append, List.nil_append, List.append_nil, setE, setN, cpy_set, lit, nle, nlt, neq, inb_iff, cl_nI, tle, fle, tlt, flt, teq, feq, m9, m3, x9, x3, nI_add, nsub, upN, upE, b0', b01', r100, w100, r101, w101, r102, w102, r103, w103, r104, w104, r105, w105, r106, w106, r107, w107, r108, w108, w109, w110, r111, w111, r112, w112, r113, w113, r114, w114, r115, w115, r116, w116, r117, w117, r118, w118, r119, w119, w120, w121, r122, w122, r130, w130, w131, w132, r133, w133, r134, w134, r135, w135, r136, w136, r137, w137, r138, w138, r139, w139, r140, w140, r141, w141, w142, r143, w143, r144, w144, r145, w145, r146, w146, w147, w150, b1', em1, Bool.false_eq_true, not_true_eq_false, not_false_eq_true, false_implies, true_implies, and_true, true_and, if_true, if_false, implies_true, Classical.not_not, true_or, or_true, false_or, or_false, and_self, ite_true, ite_false, reduceIte, m247 hV0, c1', m160, c2']
      exact H _ J (hR.s hK0 (fun _ => rfl)) hK0.fm FMJ.rfl
  · have c1' : ¬ bo (pyC sh i p) = true := fun z => c1 (bo_iff.mp z)
    rw [if_neg (fun z => c1 (bo_iff.mp z).1)] at H
    simp (disch := omega) only [s_246_0, s_246_1, s_246_2, s_246_5, s_246_6, s_246_7, s_246_8, s_246_11, s_246_14, s_246_15, s_246_17, s_246_19, s_246_22, s_246_25, s_246_26, s_246_27, s_246_28, s_246_29, s_246_30, s_246_31, s_246_34, s_246_36, s_246_37, s_246_38, s_246_41, s_246_42, s_246_44, s_246_45, s_246_48, s_246_50, s_246_53, s_246_54, s_246_57, s_246_58, amLong_I, amLong_R, amLong_N, amLong_L, cond_true, cond_false, Option.toList_some, Option.toList_none, List.cons_append, List.nil_append, List.append_nil, setE, setN, cpy_set, lit, nle, nlt, neq, inb_iff, cl_nI, tle, fle, tlt, flt, teq, feq, m9, m3, x9, x3, nI_add, nsub, upN, upE, b0', b01', r100, w100, r101, w101, r102, w102, r103, w103, r104, w104, r105, w105, r106, w106, r107, w107, r108, w108, w109, w110, r111, w111, r112, w112, r113, w113, r114, w114, r115, w115, r116, w116, r117, w117, r118, w118, r119, w119, w120, w121, r122, w122, r130, w130, w131, w132, r133, w133, r134, w134, r135, w135, r136, w136, r137, w137, r138, w138, r139, w139, r140, w140, r141, w141, w142, r143, w143, r144, w144, r145, w145, r146, w146, w147, w150, b1', em1, Bool.false_eq_true, not_true_eq_false, not_false_eq_true, false_implies, true_implies, and_true, true_and, if_true, if_false, implies_true, Classical.not_not, true_or, or_true, false_or, or_false, and_self, ite_true, ite_false, reduceIte, m247 hV0, c1']
    exact H _ J (hR.s hK0 (fun _ => rfl)) hK0.fm FMJ.rfl
end WERE
