/-! changes: games stay as they may be; the class's calls -/
theorem smf_c {f g : Nat → Nat} : ∀ n, (∀ p, p < n → f p = g p) → smf f n = smf g n
  | 0, _ => rfl
  | n + 1, h => by
    show smf f n + f n = smf g n + g n
    rw [smf_c n (fun p hp => h p (by omega)), h n (by omega)]
theorem lsum_mk {n : Nat} {f : Nat → Nat} : lsum (mkL n f) = smf f n := by
  rw [← smf_l (mkL n f) n (by rw [mkL_len]; exact Nat.le_refl _)]
  exact smf_c n (fun p hp => by rw [mkL_gt, if_pos hp])
theorem smf_up {f : Nat → Nat} {p v : Nat} : ∀ n, p < n → smf (fun q => if q = p then v else f q) n + f p = smf f n + v
  | 0, h => by omega
  | n + 1, h => by
    show smf (fun q => if q = p then v else f q) n + (if n = p then v else f n) + f p = smf f n + f n + v
    by_cases e : n = p
    · subst e
      rw [if_pos rfl, smf_c (g := f) n (fun q hq => if_neg (by omega))]
      omega
    · have := smf_up (f := f) (v := v) n (show p < n by omega)
      rw [if_neg e]
      omega
theorem WGt {sh : Nat} {pay tok : Nat → Int32} {f : Nat → Nat} (h5 : sh < 5) (hp : pB pay) (hs : smf f (prf sh) ≤ 6) (hz : ∀ q, prf sh ≤ q → f q = 0) (ht : ∀ p, p < 9 → tok p = nI (f p)) : WG (sh, pay, tok) := by
  refine ⟨h5, hp, mkL (prf sh) f, mkL_len _ _, by rw [lsum_mk]; exact hs, fun p hp => ?_⟩
  show tok p = nI (gt (mkL (prf sh) f) p)
  rw [ht p hp, mkL_gt]
  by_cases e : p < prf sh
  · rw [if_pos e]
  · rw [if_neg e, hz p (by omega)]
theorem WG.f {G : Gm} (h : WG G) : ∃ f : Nat → Nat, (∀ p, p < 9 → G.2.2 p = nI (f p)) ∧ (∀ q, prf G.1 ≤ q → f q = 0) ∧ smf f (prf G.1) = ttl G ∧ ttl G ≤ 6 ∧ ∀ q, f q ≤ 6 := by
  obtain ⟨t1, t2, a, t3, t4, t5⟩ := h.tt
  refine ⟨gt a, t5, fun q hq => gt_out a q (by omega), ?_, t2, fun q => by have := gt_le a q; omega⟩
  rw [smf_l a _ (by omega), t4]
section CHG2
variable {d g t jk X sh : Nat} {M M1 M2 : amM} {J J1 J2 : amJ} {Q : Option amV → amS → Prop} {pay tok tk : Nat → Int32}
theorem neg_lt {n : Nat} (h : n < 2 ^ 31) (h0 : 0 < n) : -nI n < nI 0 := by
  rw [Int32.lt_iff_toInt_lt, sb_negT h, show (nI 0).toInt = 0 from rfl]
  omega
theorem cpF_ok {G : Gm} {i p v : Int32} (hW : WG G) : ((cpF G i p v).1 < nI 0 → (cpF G i p v).2 = G) ∧ WG (cpF G i p v).2 := by
  obtain ⟨l1, l2, l3, l4⟩ := (sh_ok _ hW.1).1
  unfold cpF
  by_cases c1 : pyC G.1 i p ∧ isP v
  · rw [if_pos (bo_iff.mpr c1)]
    obtain ⟨i, p, hi, hp, rfl, rfl⟩ := py_of hW.1 c1.1
    rw [cl_nI (by omega), cl_nI (by omega)]
    by_cases c3 : G.2.1 (9 * i + p) = v
    · rw [if_pos c3]
      exact ⟨fun _ => rfl, hW⟩
    · rw [if_neg c3]
      have hb := hW.2.1 (9 * i + p) (by omega)
      refine ⟨fun z => ?_, hW.1, fun k hk => ?_, hW.2.2⟩
      · rw [Int32.lt_iff_toInt_lt, tA (by rw [nI_toInt (by decide)]; omega) (by rw [nI_toInt (by decide)]; omega), nI_toInt (by decide), show (nI 0).toInt = 0 from rfl] at z
        omega
      · dsimp only
        by_cases e : k = 9 * i + p
        · rw [if_pos e]
          have h1 := c1.2.1
          have h2 := c1.2.2
          rw [Int32.le_iff_toInt_le] at h1 h2
          rw [sb_negT (by decide)] at h1
          rw [nI_toInt (by decide)] at h2
          exact ⟨h1, h2⟩
        · rw [if_neg e]
          exact hW.2.1 k hk
  · rw [if_neg (fun z => c1 (bo_iff.mp z))]
    exact ⟨fun _ => rfl, hW⟩
theorem mvF_ok {G : Gm} {a b : Int32} (hW : WG G) : ((mvF G a b).1 < nI 0 → (mvF G a b).2 = G) ∧ WG (mvF G a b).2 := by
  obtain ⟨l1, l2, l3, l4⟩ := (sh_ok _ hW.1).1
  obtain ⟨f, f1, f2, f3, f4, f5⟩ := hW.f
  unfold mvF
  by_cases c1 : (nI 0 ≤ a ∧ a < nI (prf G.1)) ∧ (nI 0 ≤ b ∧ b < nI (prf G.1)) ∧ ¬ a = b
  · rw [if_pos (bo_iff.mpr c1)]
    obtain ⟨a, ha, rfl⟩ := (in_iff (by omega)).mp c1.1
    obtain ⟨b, hb, rfl⟩ := (in_iff (by omega)).mp c1.2.1
    have hne : ¬ a = b := fun z => c1.2.2 (by rw [z])
    rw [cl_nI (by omega), cl_nI (by omega)]
    have g1 := f5 a
    have g2 := f5 b
    by_cases c3 : G.2.2 a = nI 0
    · rw [if_pos c3]
      exact ⟨fun _ => rfl, hW⟩
    · rw [if_neg c3]
      have ha0 : f a ≠ 0 := fun z => c3 (by rw [f1 a (by omega), z])
      refine ⟨fun z => ?_, WGt (f := fun q => if q = b then f b + 1 else if q = a then f a - 1 else f q) hW.1 hW.2.1 ?_ (fun q hq => ?_) (fun p hp => ?_)⟩
      · have z' : G.2.2 b + nI 1 < nI 0 := z
        rw [f1 b (by omega), nI_add, nlt (by omega) (by omega)] at z'
        omega
      · have u1 := smf_up (f := f) (p := a) (v := f a - 1) (prf G.1) ha
        have u2 := smf_up (f := fun q => if q = a then f a - 1 else f q) (p := b) (v := f b + 1) (prf G.1) hb
        rw [if_neg (fun z => hne z.symm)] at u2
        show smf (fun q => if q = b then f b + 1 else if q = a then f a - 1 else f q) (prf G.1) ≤ 6
        omega
      · rw [if_neg (by omega), if_neg (by omega), f2 q hq]
      · show mvT G.2.2 a b p = _
        unfold mvT
        by_cases e1 : p = b
        · rw [if_pos e1, if_pos e1, f1 b (by omega), nI_add]
        · rw [if_neg e1, if_neg e1]
          by_cases e2 : p = a
          · rw [if_pos e2, if_pos e2, f1 a (by omega), nsub (by omega)]
          · rw [if_neg e2, if_neg e2, f1 p hp]
  · rw [if_neg (fun z => c1 (bo_iff.mp z))]
    exact ⟨fun _ => rfl, hW⟩
theorem lyF_ok {G : Gm} {p n : Int32} (hW : WG G) : ((lyF G p n).1 < nI 0 → (lyF G p n).2 = G) ∧ WG (lyF G p n).2 := by
  obtain ⟨l1, l2, l3, l4⟩ := (sh_ok _ hW.1).1
  obtain ⟨f, f1, f2, f3, f4, f5⟩ := hW.f
  unfold lyF
  by_cases c1 : (nI 0 ≤ p ∧ p < nI (prf G.1)) ∧ ¬ n = nI 0
  · rw [if_pos (bo_iff.mpr c1)]
    obtain ⟨p, hp, rfl⟩ := (in_iff (by omega)).mp c1.1
    rw [cl_nI (by omega)]
    have g1 := f5 p
    have ep : (G.2.2 p).toInt = f p := by rw [f1 p (by omega), nI_toInt (by omega)]
    by_cases c3 : (G.2.2 p).toInt + n.toInt < 0 ∨ 6 < (ttl G : Int) + n.toInt
    · rw [if_pos (bo_iff.mpr c3)]
      exact ⟨fun _ => rfl, hW⟩
    · rw [if_neg (fun z => c3 (bo_iff.mp z))]
      have u1 := smf_up (f := f) (p := p) (v := ((f p : Int) + n.toInt).toNat) (prf G.1) hp
      have hn : G.2.2 p + n = nI ((f p : Int) + n.toInt).toNat := by
        rw [← Int32.toInt_inj, tA (by omega) (by omega), ep, nI_toInt (by omega)]
        omega
      refine ⟨fun z => ?_, WGt (f := fun q => if q = p then ((f p : Int) + n.toInt).toNat else f q) hW.1 hW.2.1 (by omega) (fun q hq => ?_) (fun q hq => ?_)⟩
      · have z' : G.2.2 p + n < nI 0 := z
        rw [hn, nlt (by omega) (by omega)] at z'
        omega
      · rw [if_neg (by omega), f2 q hq]
      · try dsimp only
        by_cases e1 : q = p
        · rw [if_pos e1, if_pos e1, hn]
        · rw [if_neg e1, if_neg e1, f1 q hq]
  · rw [if_neg (fun z => c1 (bo_iff.mp z))]
    exact ⟨fun _ => rfl, hW⟩
theorem bsF_mem {w : Nat} {P : List Nat → Prop} : ∀ (l : List (List Nat)) (k : Nat) (s : Option (Nat × Int32 × List Nat)), (∀ a, a ∈ l → P a) → (∀ y, s = some y → P y.2.2) → ∀ y, bsF sh pay w l k s = some y → P y.2.2
  | [], k, s, _, h2, y, hy => h2 y hy
  | a :: l, k, s, h1, h2, y, hy => by
    refine bsF_mem l (k + 1) (bsS sh pay w k a s) (fun b hb => h1 b (List.mem_cons_of_mem _ hb)) (fun z hz => ?_) y hy
    have ha := h1 a (List.mem_cons_self ..)
    cases s with
    | none =>
      have : some (k, wth sh pay w a, a) = some z := hz
      cases this
      exact ha
    | some x =>
      have hx := h2 x rfl
      have hz' : (if bo (btr w (wth sh pay w a) x.2.1) = true then some (k, wth sh pay w a, a) else some x) = some z := hz
      split at hz'
      · cases hz'
        exact ha
      · cases hz'
        exact hx
theorem wlf_b {a : List Nat} (h5 : sh < 5) (hp : pB pay) (ha : lsum a ≤ 6) : -600 ≤ (wlf sh pay (tf a)).toInt ∧ (wlf sh pay (tf a)).toInt ≤ 600 := by
  obtain ⟨l1, l2, l3, l4⟩ := (sh_ok sh h5).1
  have hv : ∀ i, i < 3 → -162 ≤ (vlu sh pay (tf a) i).toInt ∧ (vlu sh pay (tf a) i).toInt ≤ 162 := by
    intro i hi
    have hterm : ∀ p, p < prf sh → (tf a p * pay (9 * i + p)).toInt = (gt a p : Int) * (pay (9 * i + p)).toInt ∧ -(9 * (gt a p : Int)) ≤ (gt a p : Int) * (pay (9 * i + p)).toInt ∧ (gt a p : Int) * (pay (9 * i + p)).toInt ≤ 9 * (gt a p : Int) := by
      intro p hpp
      have hb := hp (9 * i + p) (by omega)
      have hg := gt_le a p
      have ht : (tf a p).toInt = gt a p := nI_toInt (by omega)
      have h1 : (gt a p : Int) * (pay (9 * i + p)).toInt ≤ (gt a p : Int) * 9 := Int.mul_le_mul_of_nonneg_left hb.2 (by omega)
      have h2 : (gt a p : Int) * (-9) ≤ (gt a p : Int) * (pay (9 * i + p)).toInt := Int.mul_le_mul_of_nonneg_left hb.1 (by omega)
      refine ⟨?_, by omega, by omega⟩
      rw [tM (by rw [ht]; omega) (by rw [ht]; omega), ht]
    obtain ⟨e1, -, -⟩ := sum_int (f := fun p => tf a p * pay (9 * i + p)) (P := prf sh) l4 (fun p hpp => by
      obtain ⟨z1, z2, z3⟩ := hterm p hpp
      have hg := gt_le a p
      rw [z1]
      omega) (prf sh) (Nat.le_refl _)
    have key : ∀ n, n ≤ prf sh → -(9 * sumZ (fun p => (gt a p : Int)) n) ≤ sumZ (fun p => (tf a p * pay (9 * i + p)).toInt) n ∧ sumZ (fun p => (tf a p * pay (9 * i + p)).toInt) n ≤ 9 * sumZ (fun p => (gt a p : Int)) n := by
      intro n
      induction n with
      | zero => intro _; exact ⟨by simp [sumZ], by simp [sumZ]⟩
      | succ n ih =>
        intro hn
        have := ih (by omega)
        obtain ⟨z1, z2, z3⟩ := hterm n (by omega)
        have s1 : sumZ (fun p => (gt a p : Int)) (n + 1) = sumZ (fun p => (gt a p : Int)) n + (gt a n : Int) := rfl
        have s2 : sumZ (fun p => (tf a p * pay (9 * i + p)).toInt) (n + 1) = sumZ (fun p => (tf a p * pay (9 * i + p)).toInt) n + (tf a n * pay (9 * i + n)).toInt := rfl
        rw [s1, s2, z1]
        omega
    have hs : ∀ n, sumZ (fun p => (gt a p : Int)) n ≤ lsum a := by
      have h1 : ∀ (f : Nat → Nat) n, sumZ (fun q => (f q : Int)) n = (smf f n : Int) := by
        intro f n
        induction n with
        | zero => rfl
        | succ n ih =>
          show sumZ (fun q => (f q : Int)) n + (f n : Int) = ((smf f n + f n : Nat) : Int)
          rw [ih]
          omega
      intro n
      rw [h1]
      have h2 : smf (gt a) n ≤ smf (gt a) (n + a.length) := by
        have : ∀ m, smf (gt a) n ≤ smf (gt a) (n + m) := by
          intro m
          induction m with
          | zero => exact Nat.le_refl _
          | succ m ih =>
            show smf (gt a) n ≤ smf (gt a) (n + m) + gt a (n + m)
            omega
        exact this _
      rw [smf_l a (n + a.length) (by omega)] at h2
      omega
    have k1 := key (prf sh) (Nat.le_refl _)
    have k2 := hs (prf sh)
    have e2 : (vlu sh pay (tf a) i).toInt = _ := e1
    omega
  have v0 := hv 0 (by omega)
  have v1 := hv 1 (by omega)
  have v2 := hv 2 (by omega)
  have e2 : sumN (fun i => vlu sh pay (tf a) i) 0 2 = vlu sh pay (tf a) 0 + vlu sh pay (tf a) 1 := by
    rw [sum_s, sum_s]
    show 0 + vlu sh pay (tf a) 0 + _ = _
    grind
  have t2 : (vlu sh pay (tf a) 0 + vlu sh pay (tf a) 1).toInt = (vlu sh pay (tf a) 0).toInt + (vlu sh pay (tf a) 1).toInt := tA (by omega) (by omega)
  unfold wlf
  by_cases e : plr sh = 3
  · rw [e, sum_s, e2, tA (by omega) (by omega)]
    omega
  · rw [show plr sh = 2 by omega, e2]
    omega
theorem tkF_ok {G : Gm} {n what : Int32} (hW : WG G) : ((tkF G n what).1 < nI 0 → (tkF G n what).2 = G) ∧ WG (tkF G n what).2 := by
  obtain ⟨sh, pay, tok⟩ := G
  have h5 : sh < 5 := hW.1
  unfold tkF
  dsimp only
  by_cases c1 : whO sh n what
  · rw [if_pos (bo_iff.mpr c1)]
    obtain ⟨n, w, hn, hn1, hw, hpl, rfl, rfl⟩ := wh_of h5 c1
    rw [cl_nI (by omega), cl_nI (by omega)]
    cases hs : bsF sh pay w (LST sh pay n) 0 none with
    | none => exact ⟨fun _ => rfl, hW⟩
    | some y =>
      dsimp only
      have hm := bsF_mem (P := fun a => a.length = prf sh ∧ lsum a = n) (LST sh pay n) 0 none (fun a ha => by have := LST_mem h5 ha; exact ⟨this.1, this.2.1⟩) (fun y hy => by cases hy) y hs
      by_cases c3 : bo (eqv sh tok y.2.2) = true
      · rw [if_pos c3]
        exact ⟨fun _ => rfl, hW⟩
      · rw [if_neg c3]
        refine ⟨fun z => ?_, h5, hW.2.1, y.2.2, hm.1, by rw [hm.2]; exact hn, fun p _ => rfl⟩
        have hb := wlf_b (pay := pay) (a := y.2.2) h5 hW.2.1 (by omega)
        have z' : nI 1000 + wlf sh pay (tf y.2.2) < nI 0 := z
        rw [Int32.lt_iff_toInt_lt, tA (by rw [nI_toInt (by decide)]; omega) (by rw [nI_toInt (by decide)]; omega), nI_toInt (by decide), show (nI 0).toInt = 0 from rfl] at z'
        omega
  · rw [if_neg (fun z => c1 (bo_iff.mp z))]
    exact ⟨fun _ => rfl, hW⟩
theorem FC.trans (h1 : FC M M1) (h2 : FC M1 M2) : FC M M2 := fun c j k h => by rw [h2 c j k h, h1 c j k h]
theorem opS {A : Sta} {y : Int32 × Gm} {f : Nat} (h : MK M J A f y.2) (hn : y.1 < nI 0 → y.2 = A.1) (H : ∀ M1, RC M1 J (opU A y).2 → FC M M1 → Q (some (vI (opU A y).1)) (M1, J, (jk, 149, 147, X))) : Call (d + 1) 34 [vR 7 0, vI y.1] (M, J, (jk, 149, 147, X)) Q := by
  unfold opU at H
  by_cases e : y.1 < nI 0
  · rw [if_pos e] at H
    rw [hn e] at h
    rw [c34_no e]
    exact H M h.rc FC.rfl
  · rw [if_neg e] at H
    exact settle h e H
theorem k133 {A : Sta} {i p v : Int32} (hR : RC M J A) (hW : WF A) (H : ∀ M1 J1, RC M1 J1 (opU A (cpF A.1 i p v)).2 → FC M M1 → FCJ J J1 → Q (some (vI (opU A (cpF A.1 i p v)).1)) (M1, J1, (jk, 149, 147, X))) : Call (d + 5) 133 [vR 11 0, vI i, vI p, vI v] (M, J, (jk, 149, 147, X)) Q := by
  rw [e_133]
  simp (disch := omega) only [s_133_0, s_133_1, s_133_4, s_133_5, s_133_8, s_133_11, s_133_12, s_133_15, s_133_16, s_133_17, s_133_18, s_133_19, s_133_22, s_133_25, amLong_I, amLong_R, amLong_N, amLong_L, cond_true, cond_false, Option.toList_some, Option.toList_none, List.cons_append, List.nil_append, List.append_nil, setE, setN, cpy_set, lit, nle, nlt, neq, inb_iff, cl_nI, tle, fle, tlt, flt, teq, feq, m9, m3, x9, x3, nI_add, nsub, upN, upE, b0', b01', r100, w100, r101, w101, r102, w102, r103, w103, r104, w104, r105, w105, r106, w106, r107, w107, r108, w108, w109, w110, r111, w111, r112, w112, r113, w113, r114, w114, r115, w115, r116, w116, r117, w117, r118, w118, r119, w119, w120, w121, r122, w122, r130, w130, w131, w132, r133, w133, r134, w134, r135, w135, r136, w136, r137, w137, r138, w138, r139, w139, r140, w140, r141, w141, w142, r143, w143, r144, w144, r145, w145, r146, w146, w147, w150, b1', em1, Bool.false_eq_true, not_true_eq_false, not_false_eq_true, false_implies, true_implies, and_true, true_and, if_true, if_false, implies_true, Classical.not_not, true_or, or_true, false_or, or_false, and_self, ite_true, ite_false, reduceIte]
  refine mark hR (fun f M1 h1 g1 => ?_)
  simp (disch := omega) only [s_133_0, s_133_1, s_133_4, s_133_5, s_133_8, s_133_11, s_133_12, s_133_15, s_133_16, s_133_17, s_133_18, s_133_19, s_133_22, s_133_25, amLong_I, amLong_R, amLong_N, amLong_L, cond_true, cond_false, Option.toList_some, Option.toList_none, List.cons_append, List.nil_append, List.append_nil, setE, setN, cpy_set, lit, nle, nlt, neq, inb_iff, cl_nI, tle, fle, tlt, flt, teq, feq, m9, m3, x9, x3, nI_add, nsub, upN, upE, b0', b01', r100, w100, r101, w101, r102, w102, r103, w103, r104, w104, r105, w105, r106, w106, r107, w107, r108, w108, w109, w110, r111, w111, r112, w112, r113, w113, r114, w114, r115, w115, r116, w116, r117, w117, r118, w118, r119, w119, w120, w121, r122, w122, r130, w130, w131, w132, r133, w133, r134, w134, r135, w135, r136, w136, r137, w137, r138, w138, r139, w139, r140, w140, r141, w141, w142, r143, w143, r144, w144, r145, w145, r146, w146, w147, w150, b1', em1, Bool.false_eq_true, not_true_eq_false, not_false_eq_true, false_implies, true_implies, and_true, true_and, if_true, if_false, implies_true, Classical.not_not, true_or, or_true, false_or, or_false, and_self, ite_true, ite_false, reduceIte]
  refine c134 h1.2.2.2.2.2.2.1 (fun M2 f2 g2 h2 => ?_)
  simp (disch := omega) only [s_133_0, s_133_1, s_133_4, s_133_5, s_133_8, s_133_11, s_133_12, s_133_15, s_133_16, s_133_17, s_133_18, s_133_19, s_133_22, s_133_25, amLong_I, amLong_R, amLong_N, amLong_L, cond_true, cond_false, Option.toList_some, Option.toList_none, List.cons_append, List.nil_append, List.append_nil, setE, setN, cpy_set, lit, nle, nlt, neq, inb_iff, cl_nI, tle, fle, tlt, flt, teq, feq, m9, m3, x9, x3, nI_add, nsub, upN, upE, b0', b01', r100, w100, r101, w101, r102, w102, r103, w103, r104, w104, r105, w105, r106, w106, r107, w107, r108, w108, w109, w110, r111, w111, r112, w112, r113, w113, r114, w114, r115, w115, r116, w116, r117, w117, r118, w118, r119, w119, w120, w121, r122, w122, r130, w130, w131, w132, r133, w133, r134, w134, r135, w135, r136, w136, r137, w137, r138, w138, r139, w139, r140, w140, r141, w141, w142, r143, w143, r144, w144, r145, w145, r146, w146, w147, w150, b1', em1, Bool.false_eq_true, not_true_eq_false, not_false_eq_true, false_implies, true_implies, and_true, true_and, if_true, if_false, implies_true, Classical.not_not, true_or, or_true, false_or, or_false, and_self, ite_true, ite_false, reduceIte]
  refine opS (h1.n f2 h2) (cpF_ok hW.1).1 (fun M3 h3 g3 => ?_)
  simp (disch := omega) only [s_133_0, s_133_1, s_133_4, s_133_5, s_133_8, s_133_11, s_133_12, s_133_15, s_133_16, s_133_17, s_133_18, s_133_19, s_133_22, s_133_25, amLong_I, amLong_R, amLong_N, amLong_L, cond_true, cond_false, Option.toList_some, Option.toList_none, List.cons_append, List.nil_append, List.append_nil, setE, setN, cpy_set, lit, nle, nlt, neq, inb_iff, cl_nI, tle, fle, tlt, flt, teq, feq, m9, m3, x9, x3, nI_add, nsub, upN, upE, b0', b01', r100, w100, r101, w101, r102, w102, r103, w103, r104, w104, r105, w105, r106, w106, r107, w107, r108, w108, w109, w110, r111, w111, r112, w112, r113, w113, r114, w114, r115, w115, r116, w116, r117, w117, r118, w118, r119, w119, w120, w121, r122, w122, r130, w130, w131, w132, r133, w133, r134, w134, r135, w135, r136, w136, r137, w137, r138, w138, r139, w139, r140, w140, r141, w141, w142, r143, w143, r144, w144, r145, w145, r146, w146, w147, w150, b1', em1, Bool.false_eq_true, not_true_eq_false, not_false_eq_true, false_implies, true_implies, and_true, true_and, if_true, if_false, implies_true, Classical.not_not, true_or, or_true, false_or, or_false, and_self, ite_true, ite_false, reduceIte]
  exact H M3 J h3 (g1.trans (g2.trans g3)) FCJ.rfl
theorem k137 {A : Sta} {a b : Int32} (hR : RC M J A) (hW : WF A) (H : ∀ M1 J1, RC M1 J1 (opU A (mvF A.1 a b)).2 → FC M M1 → FCJ J J1 → Q (some (vI (opU A (mvF A.1 a b)).1)) (M1, J1, (jk, 149, 147, X))) : Call (d + 3) 137 [vR 11 0, vI a, vI b] (M, J, (jk, 149, 147, X)) Q := by
  rw [e_137]
  simp (disch := omega) only [s_137_0, s_137_1, s_137_4, s_137_5, s_137_8, s_137_11, s_137_12, s_137_15, s_137_16, s_137_17, s_137_18, s_137_21, s_137_24, amLong_I, amLong_R, amLong_N, amLong_L, cond_true, cond_false, Option.toList_some, Option.toList_none, List.cons_append, List.nil_append, List.append_nil, setE, setN, cpy_set, lit, nle, nlt, neq, inb_iff, cl_nI, tle, fle, tlt, flt, teq, feq, m9, m3, x9, x3, nI_add, nsub, upN, upE, b0', b01', r100, w100, r101, w101, r102, w102, r103, w103, r104, w104, r105, w105, r106, w106, r107, w107, r108, w108, w109, w110, r111, w111, r112, w112, r113, w113, r114, w114, r115, w115, r116, w116, r117, w117, r118, w118, r119, w119, w120, w121, r122, w122, r130, w130, w131, w132, r133, w133, r134, w134, r135, w135, r136, w136, r137, w137, r138, w138, r139, w139, r140, w140, r141, w141, w142, r143, w143, r144, w144, r145, w145, r146, w146, w147, w150, b1', em1, Bool.false_eq_true, not_true_eq_false, not_false_eq_true, false_implies, true_implies, and_true, true_and, if_true, if_false, implies_true, Classical.not_not, true_or, or_true, false_or, or_false, and_self, ite_true, ite_false, reduceIte]
  refine mark hR (fun f M1 h1 g1 => ?_)
  simp (disch := omega) only [s_137_0, s_137_1, s_137_4, s_137_5, s_137_8, s_137_11, s_137_12, s_137_15, s_137_16, s_137_17, s_137_18, s_137_21, s_137_24, amLong_I, amLong_R, amLong_N, amLong_L, cond_true, cond_false, Option.toList_some, Option.toList_none, List.cons_append, List.nil_append, List.append_nil, setE, setN, cpy_set, lit, nle, nlt, neq, inb_iff, cl_nI, tle, fle, tlt, flt, teq, feq, m9, m3, x9, x3, nI_add, nsub, upN, upE, b0', b01', r100, w100, r101, w101, r102, w102, r103, w103, r104, w104, r105, w105, r106, w106, r107, w107, r108, w108, w109, w110, r111, w111, r112, w112, r113, w113, r114, w114, r115, w115, r116, w116, r117, w117, r118, w118, r119, w119, w120, w121, r122, w122, r130, w130, w131, w132, r133, w133, r134, w134, r135, w135, r136, w136, r137, w137, r138, w138, r139, w139, r140, w140, r141, w141, w142, r143, w143, r144, w144, r145, w145, r146, w146, w147, w150, b1', em1, Bool.false_eq_true, not_true_eq_false, not_false_eq_true, false_implies, true_implies, and_true, true_and, if_true, if_false, implies_true, Classical.not_not, true_or, or_true, false_or, or_false, and_self, ite_true, ite_false, reduceIte]
  refine c138 h1.2.2.2.2.2.2.1 (fun M2 f2 g2 h2 => ?_)
  simp (disch := omega) only [s_137_0, s_137_1, s_137_4, s_137_5, s_137_8, s_137_11, s_137_12, s_137_15, s_137_16, s_137_17, s_137_18, s_137_21, s_137_24, amLong_I, amLong_R, amLong_N, amLong_L, cond_true, cond_false, Option.toList_some, Option.toList_none, List.cons_append, List.nil_append, List.append_nil, setE, setN, cpy_set, lit, nle, nlt, neq, inb_iff, cl_nI, tle, fle, tlt, flt, teq, feq, m9, m3, x9, x3, nI_add, nsub, upN, upE, b0', b01', r100, w100, r101, w101, r102, w102, r103, w103, r104, w104, r105, w105, r106, w106, r107, w107, r108, w108, w109, w110, r111, w111, r112, w112, r113, w113, r114, w114, r115, w115, r116, w116, r117, w117, r118, w118, r119, w119, w120, w121, r122, w122, r130, w130, w131, w132, r133, w133, r134, w134, r135, w135, r136, w136, r137, w137, r138, w138, r139, w139, r140, w140, r141, w141, w142, r143, w143, r144, w144, r145, w145, r146, w146, w147, w150, b1', em1, Bool.false_eq_true, not_true_eq_false, not_false_eq_true, false_implies, true_implies, and_true, true_and, if_true, if_false, implies_true, Classical.not_not, true_or, or_true, false_or, or_false, and_self, ite_true, ite_false, reduceIte]
  refine opS (h1.n f2 h2) (mvF_ok hW.1).1 (fun M3 h3 g3 => ?_)
  simp (disch := omega) only [s_137_0, s_137_1, s_137_4, s_137_5, s_137_8, s_137_11, s_137_12, s_137_15, s_137_16, s_137_17, s_137_18, s_137_21, s_137_24, amLong_I, amLong_R, amLong_N, amLong_L, cond_true, cond_false, Option.toList_some, Option.toList_none, List.cons_append, List.nil_append, List.append_nil, setE, setN, cpy_set, lit, nle, nlt, neq, inb_iff, cl_nI, tle, fle, tlt, flt, teq, feq, m9, m3, x9, x3, nI_add, nsub, upN, upE, b0', b01', r100, w100, r101, w101, r102, w102, r103, w103, r104, w104, r105, w105, r106, w106, r107, w107, r108, w108, w109, w110, r111, w111, r112, w112, r113, w113, r114, w114, r115, w115, r116, w116, r117, w117, r118, w118, r119, w119, w120, w121, r122, w122, r130, w130, w131, w132, r133, w133, r134, w134, r135, w135, r136, w136, r137, w137, r138, w138, r139, w139, r140, w140, r141, w141, w142, r143, w143, r144, w144, r145, w145, r146, w146, w147, w150, b1', em1, Bool.false_eq_true, not_true_eq_false, not_false_eq_true, false_implies, true_implies, and_true, true_and, if_true, if_false, implies_true, Classical.not_not, true_or, or_true, false_or, or_false, and_self, ite_true, ite_false, reduceIte]
  exact H M3 J h3 (g1.trans (g2.trans g3)) FCJ.rfl
theorem k139 {A : Sta} {p n : Int32} (hR : RC M J A) (hW : WF A) (H : ∀ M1 J1, RC M1 J1 (opU A (lyF A.1 p n)).2 → FC M M1 → FCJ J J1 → Q (some (vI (opU A (lyF A.1 p n)).1)) (M1, J1, (jk, 149, 147, X))) : Call (d + 3) 139 [vR 11 0, vI p, vI n] (M, J, (jk, 149, 147, X)) Q := by
  rw [e_139]
  simp (disch := omega) only [s_139_0, s_139_1, s_139_4, s_139_5, s_139_8, s_139_11, s_139_12, s_139_15, s_139_16, s_139_17, s_139_18, s_139_21, s_139_24, amLong_I, amLong_R, amLong_N, amLong_L, cond_true, cond_false, Option.toList_some, Option.toList_none, List.cons_append, List.nil_append, List.append_nil, setE, setN, cpy_set, lit, nle, nlt, neq, inb_iff, cl_nI, tle, fle, tlt, flt, teq, feq, m9, m3, x9, x3, nI_add, nsub, upN, upE, b0', b01', r100, w100, r101, w101, r102, w102, r103, w103, r104, w104, r105, w105, r106, w106, r107, w107, r108, w108, w109, w110, r111, w111, r112, w112, r113, w113, r114, w114, r115, w115, r116, w116, r117, w117, r118, w118, r119, w119, w120, w121, r122, w122, r130, w130, w131, w132, r133, w133, r134, w134, r135, w135, r136, w136, r137, w137, r138, w138, r139, w139, r140, w140, r141, w141, w142, r143, w143, r144, w144, r145, w145, r146, w146, w147, w150, b1', em1, Bool.false_eq_true, not_true_eq_false, not_false_eq_true, false_implies, true_implies, and_true, true_and, if_true, if_false, implies_true, Classical.not_not, true_or, or_true, false_or, or_false, and_self, ite_true, ite_false, reduceIte]
  refine mark hR (fun f M1 h1 g1 => ?_)
  simp (disch := omega) only [s_139_0, s_139_1, s_139_4, s_139_5, s_139_8, s_139_11, s_139_12, s_139_15, s_139_16, s_139_17, s_139_18, s_139_21, s_139_24, amLong_I, amLong_R, amLong_N, amLong_L, cond_true, cond_false, Option.toList_some, Option.toList_none, List.cons_append, List.nil_append, List.append_nil, setE, setN, cpy_set, lit, nle, nlt, neq, inb_iff, cl_nI, tle, fle, tlt, flt, teq, feq, m9, m3, x9, x3, nI_add, nsub, upN, upE, b0', b01', r100, w100, r101, w101, r102, w102, r103, w103, r104, w104, r105, w105, r106, w106, r107, w107, r108, w108, w109, w110, r111, w111, r112, w112, r113, w113, r114, w114, r115, w115, r116, w116, r117, w117, r118, w118, r119, w119, w120, w121, r122, w122, r130, w130, w131, w132, r133, w133, r134, w134, r135, w135, r136, w136, r137, w137, r138, w138, r139, w139, r140, w140, r141, w141, w142, r143, w143, r144, w144, r145, w145, r146, w146, w147, w150, b1', em1, Bool.false_eq_true, not_true_eq_false, not_false_eq_true, false_implies, true_implies, and_true, true_and, if_true, if_false, implies_true, Classical.not_not, true_or, or_true, false_or, or_false, and_self, ite_true, ite_false, reduceIte]
  refine c140 h1.2.2.2.2.2.2.1 hW.1 (fun M2 f2 g2 h2 => ?_)
  simp (disch := omega) only [s_139_0, s_139_1, s_139_4, s_139_5, s_139_8, s_139_11, s_139_12, s_139_15, s_139_16, s_139_17, s_139_18, s_139_21, s_139_24, amLong_I, amLong_R, amLong_N, amLong_L, cond_true, cond_false, Option.toList_some, Option.toList_none, List.cons_append, List.nil_append, List.append_nil, setE, setN, cpy_set, lit, nle, nlt, neq, inb_iff, cl_nI, tle, fle, tlt, flt, teq, feq, m9, m3, x9, x3, nI_add, nsub, upN, upE, b0', b01', r100, w100, r101, w101, r102, w102, r103, w103, r104, w104, r105, w105, r106, w106, r107, w107, r108, w108, w109, w110, r111, w111, r112, w112, r113, w113, r114, w114, r115, w115, r116, w116, r117, w117, r118, w118, r119, w119, w120, w121, r122, w122, r130, w130, w131, w132, r133, w133, r134, w134, r135, w135, r136, w136, r137, w137, r138, w138, r139, w139, r140, w140, r141, w141, w142, r143, w143, r144, w144, r145, w145, r146, w146, w147, w150, b1', em1, Bool.false_eq_true, not_true_eq_false, not_false_eq_true, false_implies, true_implies, and_true, true_and, if_true, if_false, implies_true, Classical.not_not, true_or, or_true, false_or, or_false, and_self, ite_true, ite_false, reduceIte]
  refine opS (h1.n f2 h2) (lyF_ok hW.1).1 (fun M3 h3 g3 => ?_)
  simp (disch := omega) only [s_139_0, s_139_1, s_139_4, s_139_5, s_139_8, s_139_11, s_139_12, s_139_15, s_139_16, s_139_17, s_139_18, s_139_21, s_139_24, amLong_I, amLong_R, amLong_N, amLong_L, cond_true, cond_false, Option.toList_some, Option.toList_none, List.cons_append, List.nil_append, List.append_nil, setE, setN, cpy_set, lit, nle, nlt, neq, inb_iff, cl_nI, tle, fle, tlt, flt, teq, feq, m9, m3, x9, x3, nI_add, nsub, upN, upE, b0', b01', r100, w100, r101, w101, r102, w102, r103, w103, r104, w104, r105, w105, r106, w106, r107, w107, r108, w108, w109, w110, r111, w111, r112, w112, r113, w113, r114, w114, r115, w115, r116, w116, r117, w117, r118, w118, r119, w119, w120, w121, r122, w122, r130, w130, w131, w132, r133, w133, r134, w134, r135, w135, r136, w136, r137, w137, r138, w138, r139, w139, r140, w140, r141, w141, w142, r143, w143, r144, w144, r145, w145, r146, w146, w147, w150, b1', em1, Bool.false_eq_true, not_true_eq_false, not_false_eq_true, false_implies, true_implies, and_true, true_and, if_true, if_false, implies_true, Classical.not_not, true_or, or_true, false_or, or_false, and_self, ite_true, ite_false, reduceIte]
  exact H M3 J h3 (g1.trans (g2.trans g3)) FCJ.rfl
theorem k141 {A : Sta} {n what : Int32} (hR : RC M J A) (hW : WF A) (H : ∀ M1 J1, RC M1 J1 (opU A (tkF A.1 n what)).2 → FC M M1 → FCJ J J1 → Q (some (vI (opU A (tkF A.1 n what)).1)) (M1, J1, (jk, 149, 147, X))) : Call (d + 6) 141 [vR 11 0, vI n, vI what] (M, J, (jk, 149, 147, X)) Q := by
  rw [e_141]
  simp (disch := omega) only [s_141_0, s_141_1, s_141_4, s_141_5, s_141_8, s_141_11, s_141_12, s_141_15, s_141_16, s_141_17, s_141_18, s_141_21, s_141_24, amLong_I, amLong_R, amLong_N, amLong_L, cond_true, cond_false, Option.toList_some, Option.toList_none, List.cons_append, List.nil_append, List.append_nil, setE, setN, cpy_set, lit, nle, nlt, neq, inb_iff, cl_nI, tle, fle, tlt, flt, teq, feq, m9, m3, x9, x3, nI_add, nsub, upN, upE, b0', b01', r100, w100, r101, w101, r102, w102, r103, w103, r104, w104, r105, w105, r106, w106, r107, w107, r108, w108, w109, w110, r111, w111, r112, w112, r113, w113, r114, w114, r115, w115, r116, w116, r117, w117, r118, w118, r119, w119, w120, w121, r122, w122, r130, w130, w131, w132, r133, w133, r134, w134, r135, w135, r136, w136, r137, w137, r138, w138, r139, w139, r140, w140, r141, w141, w142, r143, w143, r144, w144, r145, w145, r146, w146, w147, w150, b1', em1, Bool.false_eq_true, not_true_eq_false, not_false_eq_true, false_implies, true_implies, and_true, true_and, if_true, if_false, implies_true, Classical.not_not, true_or, or_true, false_or, or_false, and_self, ite_true, ite_false, reduceIte]
  refine mark hR (fun f M1 h1 g1 => ?_)
  simp (disch := omega) only [s_141_0, s_141_1, s_141_4, s_141_5, s_141_8, s_141_11, s_141_12, s_141_15, s_141_16, s_141_17, s_141_18, s_141_21, s_141_24, amLong_I, amLong_R, amLong_N, amLong_L, cond_true, cond_false, Option.toList_some, Option.toList_none, List.cons_append, List.nil_append, List.append_nil, setE, setN, cpy_set, lit, nle, nlt, neq, inb_iff, cl_nI, tle, fle, tlt, flt, teq, feq, m9, m3, x9, x3, nI_add, nsub, upN, upE, b0', b01', r100, w100, r101, w101, r102, w102, r103, w103, r104, w104, r105, w105, r106, w106, r107, w107, r108, w108, w109, w110, r111, w111, r112, w112, r113, w113, r114, w114, r115, w115, r116, w116, r117, w117, r118, w118, r119, w119, w120, w121, r122, w122, r130, w130, w131, w132, r133, w133, r134, w134, r135, w135, r136, w136, r137, w137, r138, w138, r139, w139, r140, w140, r141, w141, w142, r143, w143, r144, w144, r145, w145, r146, w146, w147, w150, b1', em1, Bool.false_eq_true, not_true_eq_false, not_false_eq_true, false_implies, true_implies, and_true, true_and, if_true, if_false, implies_true, Classical.not_not, true_or, or_true, false_or, or_false, and_self, ite_true, ite_false, reduceIte]
  refine c142 h1.2.2.2.2.2.2.1 (fun M2 f2 g2 h2 => ?_)
  simp (disch := omega) only [s_141_0, s_141_1, s_141_4, s_141_5, s_141_8, s_141_11, s_141_12, s_141_15, s_141_16, s_141_17, s_141_18, s_141_21, s_141_24, amLong_I, amLong_R, amLong_N, amLong_L, cond_true, cond_false, Option.toList_some, Option.toList_none, List.cons_append, List.nil_append, List.append_nil, setE, setN, cpy_set, lit, nle, nlt, neq, inb_iff, cl_nI, tle, fle, tlt, flt, teq, feq, m9, m3, x9, x3, nI_add, nsub, upN, upE, b0', b01', r100, w100, r101, w101, r102, w102, r103, w103, r104, w104, r105, w105, r106, w106, r107, w107, r108, w108, w109, w110, r111, w111, r112, w112, r113, w113, r114, w114, r115, w115, r116, w116, r117, w117, r118, w118, r119, w119, w120, w121, r122, w122, r130, w130, w131, w132, r133, w133, r134, w134, r135, w135, r136, w136, r137, w137, r138, w138, r139, w139, r140, w140, r141, w141, w142, r143, w143, r144, w144, r145, w145, r146, w146, w147, w150, b1', em1, Bool.false_eq_true, not_true_eq_false, not_false_eq_true, false_implies, true_implies, and_true, true_and, if_true, if_false, implies_true, Classical.not_not, true_or, or_true, false_or, or_false, and_self, ite_true, ite_false, reduceIte]
  refine opS (h1.n f2 h2) (tkF_ok hW.1).1 (fun M3 h3 g3 => ?_)
  simp (disch := omega) only [s_141_0, s_141_1, s_141_4, s_141_5, s_141_8, s_141_11, s_141_12, s_141_15, s_141_16, s_141_17, s_141_18, s_141_21, s_141_24, amLong_I, amLong_R, amLong_N, amLong_L, cond_true, cond_false, Option.toList_some, Option.toList_none, List.cons_append, List.nil_append, List.append_nil, setE, setN, cpy_set, lit, nle, nlt, neq, inb_iff, cl_nI, tle, fle, tlt, flt, teq, feq, m9, m3, x9, x3, nI_add, nsub, upN, upE, b0', b01', r100, w100, r101, w101, r102, w102, r103, w103, r104, w104, r105, w105, r106, w106, r107, w107, r108, w108, w109, w110, r111, w111, r112, w112, r113, w113, r114, w114, r115, w115, r116, w116, r117, w117, r118, w118, r119, w119, w120, w121, r122, w122, r130, w130, w131, w132, r133, w133, r134, w134, r135, w135, r136, w136, r137, w137, r138, w138, r139, w139, r140, w140, r141, w141, w142, r143, w143, r144, w144, r145, w145, r146, w146, w147, w150, b1', em1, Bool.false_eq_true, not_true_eq_false, not_false_eq_true, false_implies, true_implies, and_true, true_and, if_true, if_false, implies_true, Classical.not_not, true_or, or_true, false_or, or_false, and_self, ite_true, ite_false, reduceIte]
  exact H M3 J h3 (g1.trans (g2.trans g3)) FCJ.rfl
/-- undo -/
def o35 (A : Sta) : Int32 × Sta := if h : A.2.1 = [] then (-nI 1, A) else (nI (A.2.1.length - 1), (A.2.1.getLast h, A.2.1.dropLast, A.2.2.1, A.2.2.2.1, A.2.2.2.2))
theorem k148 {A : Sta} (hR : RC M J A) (hW : WF A) (H : ∀ M1 J1, RC M1 J1 (o35 A).2 → FC M M1 → FCJ J J1 → Q (some (vI (o35 A).1)) (M1, J1, (jk, 149, 147, X))) : Call (d + 3) 148 [vR 11 0] (M, J, (jk, 149, 147, X)) Q := by
  have hR' := hR
  obtain ⟨h1, ⟨f, f1, f2, f3, f4, f5⟩, h3, ⟨x1, x2, x3'⟩, r1, r2, r3⟩ := hR
  unfold o35 at H
  rw [e_148]
  by_cases e : A.2.1 = []
  · rw [dif_pos e] at H
    have e1 : M 1352 0 0 = nI 0 := by rw [f3, e]; rfl
    simp (disch := omega) only [s_148_0, s_148_1, s_148_4, s_148_5, s_148_8, s_148_11, amLong_I, amLong_R, amLong_N, amLong_L, cond_true, cond_false, Option.toList_some, Option.toList_none, List.cons_append, List.nil_append, List.append_nil, setE, setN, cpy_set, lit, nle, nlt, neq, inb_iff, cl_nI, tle, fle, tlt, flt, teq, feq, m9, m3, x9, x3, nI_add, nsub, upN, upE, b0', b01', r100, w100, r101, w101, r102, w102, r103, w103, r104, w104, r105, w105, r106, w106, r107, w107, r108, w108, w109, w110, r111, w111, r112, w112, r113, w113, r114, w114, r115, w115, r116, w116, r117, w117, r118, w118, r119, w119, w120, w121, r122, w122, r130, w130, w131, w132, r133, w133, r134, w134, r135, w135, r136, w136, r137, w137, r138, w138, r139, w139, r140, w140, r141, w141, w142, r143, w143, r144, w144, r145, w145, r146, w146, w147, w150, b1', em1, Bool.false_eq_true, not_true_eq_false, not_false_eq_true, false_implies, true_implies, and_true, true_and, if_true, if_false, implies_true, Classical.not_not, true_or, or_true, false_or, or_false, and_self, ite_true, ite_false, reduceIte, c149_0 e1]
    exact H M J hR' FC.rfl FCJ.rfl
  · rw [dif_neg e] at H
    have hl : 0 < A.2.1.length := List.length_pos_iff.mpr e
    obtain ⟨n, hn⟩ : ∃ n, A.2.1.length = n + 1 := ⟨A.2.1.length - 1, by omega⟩
    have e1 : M 1352 0 0 = nI (n + 1) := by rw [f3, hn]
    have hlast : A.2.1[n]? = some (A.2.1.getLast e) := by
      rw [List.getLast_eq_getElem, List.getElem?_eq_getElem (by omega)]
      congr 1
      simp [hn]
    have h4 := slt_4 (f := f) (k := n)
    have hg : ∀ {g : Nat} {G : Gm}, GW M g G → GW (upM M 1352 0 0 (nI n)) g G := fun h => GV.of h (fun c k hc => upN (by omega))
    simp (disch := omega) only [s_148_0, s_148_1, s_148_4, s_148_5, s_148_8, s_148_11, amLong_I, amLong_R, amLong_N, amLong_L, cond_true, cond_false, Option.toList_some, Option.toList_none, List.cons_append, List.nil_append, List.append_nil, setE, setN, cpy_set, lit, nle, nlt, neq, inb_iff, cl_nI, tle, fle, tlt, flt, teq, feq, m9, m3, x9, x3, nI_add, nsub, upN, upE, b0', b01', r100, w100, r101, w101, r102, w102, r103, w103, r104, w104, r105, w105, r106, w106, r107, w107, r108, w108, w109, w110, r111, w111, r112, w112, r113, w113, r114, w114, r115, w115, r116, w116, r117, w117, r118, w118, r119, w119, w120, w121, r122, w122, r130, w130, w131, w132, r133, w133, r134, w134, r135, w135, r136, w136, r137, w137, r138, w138, r139, w139, r140, w140, r141, w141, w142, r143, w143, r144, w144, r145, w145, r146, w146, w147, w150, b1', em1, Bool.false_eq_true, not_true_eq_false, not_false_eq_true, false_implies, true_implies, and_true, true_and, if_true, if_false, implies_true, Classical.not_not, true_or, or_true, false_or, or_false, and_self, ite_true, ite_false, reduceIte, c149 f2 e1 f1 (show n < 8 by omega) (show 0 < 13 by decide)]
    rw [show A.2.1.length - 1 = n by omega] at H
    refine H _ J ⟨cpG_gw (hg (f5 n _ hlast)), ⟨f, f1, ?_, ?_, ?_, fun k G hk => ?_⟩, fun i hi => ⟨?_, fun G hG => cpG_gwo (by omega) (hg ((h3 i hi).2 G hG))⟩, ⟨?_, x2, fun k hk => ?_⟩, ?_, r2, r3⟩ (fun c j k hc => ?_) FCJ.rfl
    · rw [cpG_c (by omega), upN (by omega), f2]
    · rw [cpG_c (by omega), upE ⟨rfl, rfl, rfl⟩]
      show nI n = nI (A.2.1.dropLast).length
      rw [List.length_dropLast, hn]
      rfl
    · show (A.2.1.dropLast).length ≤ 8
      rw [List.length_dropLast]
      omega
    · have hk2 : (A.2.1.dropLast)[k]? = some G := hk
      rw [List.getElem?_dropLast] at hk2
      have s4 := slt_4 (f := f) (k := k)
      split at hk2
      · exact cpG_gwo (by omega) (hg (f5 k G hk2))
      · cases hk2
    · rw [cpG_c (by omega), upN (by omega), (h3 i hi).1]
    · rw [cpG_c (by omega), upN (by omega), x1]
    · rw [cpG_c (by omega), upN (by omega), x3' k hk]
    · rw [cpG_c (by omega), upN (by omega), r1]
    · rw [cpG_c (by omega), upN (by omega)]
/-- keep, again -/
def o37 (A : Sta) (i : Int32) : Int32 × Sta := if nI 0 ≤ i ∧ i < nI 2 then (nI 1, (A.1, A.2.1, fun j => if j = i.toNatClampNeg then some A.1 else A.2.2.1 j, A.2.2.2)) else (nI 0, A)
def o38 (A : Sta) (i : Int32) : Int32 × Sta := if nI 0 ≤ i ∧ i < nI 2 then (match A.2.2.1 i.toNatClampNeg with
  | none => (nI 0, A)
  | some G => (nI 1, (G, [], A.2.2))) else (nI 0, A)
theorem k151 {A : Sta} {i : Int32} (hR : RC M J A) (hW : WF A) (H : ∀ M1 J1, RC M1 J1 (o37 A i).2 → FC M M1 → FCJ J J1 → Q (some (vI (o37 A i).1)) (M1, J1, (jk, 149, 147, X))) : Call (d + 2) 151 [vR 11 0, vI i] (M, J, (jk, 149, 147, X)) Q := by
  have hR' := hR
  obtain ⟨h1, ⟨f, f1, f2, f3, f4, f5⟩, h3, ⟨x1, x2, x3'⟩, r1, r2, r3⟩ := hR
  unfold o37 at H
  rw [e_151]
  by_cases c0 : nI 0 ≤ i
  · have c0' : ¬ i < nI 0 := Int32.not_lt.mpr c0
    by_cases c1 : i < nI 2
    · rw [if_pos ⟨c0, c1⟩] at H
      obtain ⟨i, hi, rfl⟩ := (in_iff (by omega)).mp ⟨c0, c1⟩
      rw [cl_nI (by omega)] at H
      have hsl : ∀ k, slt f k ≠ 2 + i := fun k => by have := slt_4 (f := f) (k := k); omega
      have hg : ∀ {g : Nat} {G : Gm}, GW (cpG M (2 + i) 0) g G → GW (upM (cpG M (2 + i) 0) 121 0 i (nI 1)) g G := fun h => GV.of h (fun c k hc => upN (by omega))
      simp (disch := omega) only [s_151_0, s_151_1, s_151_4, s_151_5, s_151_6, s_151_9, s_151_10, s_151_11, s_151_12, s_151_15, s_151_16, s_151_17, s_151_18, s_151_21, s_151_24, s_151_25, s_151_28, s_151_29, s_151_30, s_151_31, s_151_32, amLong_I, amLong_R, amLong_N, amLong_L, cond_true, cond_false, Option.toList_some, Option.toList_none, List.cons_append, List.nil_append, List.append_nil, setE, setN, cpy_set, lit, nle, nlt, neq, inb_iff, cl_nI, tle, fle, tlt, flt, teq, feq, m9, m3, x9, x3, nI_add, nsub, upN, upE, b0', b01', r100, w100, r101, w101, r102, w102, r103, w103, r104, w104, r105, w105, r106, w106, r107, w107, r108, w108, w109, w110, r111, w111, r112, w112, r113, w113, r114, w114, r115, w115, r116, w116, r117, w117, r118, w118, r119, w119, w120, w121, r122, w122, r130, w130, w131, w132, r133, w133, r134, w134, r135, w135, r136, w136, r137, w137, r138, w138, r139, w139, r140, w140, r141, w141, w142, r143, w143, r144, w144, r145, w145, r146, w146, w147, w150, b1', em1, Bool.false_eq_true, not_true_eq_false, not_false_eq_true, false_implies, true_implies, and_true, true_and, if_true, if_false, implies_true, Classical.not_not, true_or, or_true, false_or, or_false, and_self, ite_true, ite_false, reduceIte, st_120 hi, amEt, c22 (show 2 + i < 13 by omega) (show 0 < 13 by decide), nb1]
      refine H _ J ⟨hg (cpG_gwo (by omega) h1), ⟨f, f1, ?_, ?_, f4, fun k G hk => hg (cpG_gwo (hsl k) (f5 k G hk))⟩, fun j hj => ⟨?_, fun G hG => ?_⟩, ⟨?_, x2, fun k hk => ?_⟩, ?_, r2, r3⟩ (fun c j k hc => ?_) FCJ.rfl
      · rw [upN (by omega), cpG_c (by omega), f2]
      · rw [upN (by omega), cpG_c (by omega), f3]
      · show _ = bI ((if j = i then some A.1 else A.2.2.1 j).isSome = true)
        by_cases e : j = i
        · rw [if_pos e, upE ⟨rfl, rfl, e⟩, bI_t (by rfl)]
          rfl
        · rw [if_neg e, upN (by omega), cpG_c (by omega), (h3 j hj).1]
      · have hG' : (if j = i then some A.1 else A.2.2.1 j) = some G := hG
        by_cases e : j = i
        · rw [if_pos e] at hG'
          cases hG'
          rw [e]
          exact hg (cpG_gw h1)
        · rw [if_neg e] at hG'
          exact hg (cpG_gwo (by omega) ((h3 j hj).2 G hG'))
      · rw [upN (by omega), cpG_c (by omega), x1]
      · rw [upN (by omega), cpG_c (by omega), x3' k hk]
      · rw [upN (by omega), cpG_c (by omega), r1]
      · rw [upN (by omega), cpG_c (by omega)]
    · rw [if_neg (fun z => c1 z.2)] at H
      simp (disch := omega) only [s_151_0, s_151_1, s_151_4, s_151_5, s_151_6, s_151_9, s_151_10, s_151_11, s_151_12, s_151_15, s_151_16, s_151_17, s_151_18, s_151_21, s_151_24, s_151_25, s_151_28, s_151_29, s_151_30, s_151_31, s_151_32, amLong_I, amLong_R, amLong_N, amLong_L, cond_true, cond_false, Option.toList_some, Option.toList_none, List.cons_append, List.nil_append, List.append_nil, setE, setN, cpy_set, lit, nle, nlt, neq, inb_iff, cl_nI, tle, fle, tlt, flt, teq, feq, m9, m3, x9, x3, nI_add, nsub, upN, upE, b0', b01', r100, w100, r101, w101, r102, w102, r103, w103, r104, w104, r105, w105, r106, w106, r107, w107, r108, w108, w109, w110, r111, w111, r112, w112, r113, w113, r114, w114, r115, w115, r116, w116, r117, w117, r118, w118, r119, w119, w120, w121, r122, w122, r130, w130, w131, w132, r133, w133, r134, w134, r135, w135, r136, w136, r137, w137, r138, w138, r139, w139, r140, w140, r141, w141, w142, r143, w143, r144, w144, r145, w145, r146, w146, w147, w150, b1', em1, Bool.false_eq_true, not_true_eq_false, not_false_eq_true, false_implies, true_implies, and_true, true_and, if_true, if_false, implies_true, Classical.not_not, true_or, or_true, false_or, or_false, and_self, ite_true, ite_false, reduceIte, c0', c1]
      exact H M J hR' FC.rfl FCJ.rfl
  · have c0' : i < nI 0 := Int32.not_le.mp c0
    rw [if_neg (fun z => c0 z.1)] at H
    simp (disch := omega) only [s_151_0, s_151_1, s_151_4, s_151_5, s_151_6, s_151_9, s_151_10, s_151_11, s_151_12, s_151_15, s_151_16, s_151_17, s_151_18, s_151_21, s_151_24, s_151_25, s_151_28, s_151_29, s_151_30, s_151_31, s_151_32, amLong_I, amLong_R, amLong_N, amLong_L, cond_true, cond_false, Option.toList_some, Option.toList_none, List.cons_append, List.nil_append, List.append_nil, setE, setN, cpy_set, lit, nle, nlt, neq, inb_iff, cl_nI, tle, fle, tlt, flt, teq, feq, m9, m3, x9, x3, nI_add, nsub, upN, upE, b0', b01', r100, w100, r101, w101, r102, w102, r103, w103, r104, w104, r105, w105, r106, w106, r107, w107, r108, w108, w109, w110, r111, w111, r112, w112, r113, w113, r114, w114, r115, w115, r116, w116, r117, w117, r118, w118, r119, w119, w120, w121, r122, w122, r130, w130, w131, w132, r133, w133, r134, w134, r135, w135, r136, w136, r137, w137, r138, w138, r139, w139, r140, w140, r141, w141, w142, r143, w143, r144, w144, r145, w145, r146, w146, w147, w150, b1', em1, Bool.false_eq_true, not_true_eq_false, not_false_eq_true, false_implies, true_implies, and_true, true_and, if_true, if_false, implies_true, Classical.not_not, true_or, or_true, false_or, or_false, and_self, ite_true, ite_false, reduceIte, c0']
    exact H M J hR' FC.rfl FCJ.rfl
theorem c129 {S : Nat → Option Gm} {i : Int32} (hS : SH M S) : Call (d + 1) 129 [vR 11 0, vI i] (M, J, (jk, 149, 147, X)) Q ↔ Q (some (vI (bI (bo ((nI 0 ≤ i ∧ i < nI 2) ∧ (S i.toNatClampNeg).isSome = true) = true)))) (M, J, (jk, 149, 147, X)) := by
  refine pureC (fun Q hQ => ?_)
  rw [e_129]
  by_cases c0 : nI 0 ≤ i
  · have c0' : ¬ i < nI 0 := Int32.not_lt.mpr c0
    by_cases c1 : i < nI 2
    · obtain ⟨i, hi, rfl⟩ := (in_iff (by omega)).mp ⟨c0, c1⟩
      have e := (hS i hi).1
      rw [cl_nI (by omega)] at hQ
      by_cases c2 : (S i).isSome = true
      · rw [bo_t ⟨⟨c0, c1⟩, c2⟩] at hQ
        simp (disch := omega) only [s_129_0, s_129_1, s_129_4, s_129_5, s_129_6, s_129_9, s_129_10, s_129_13, s_129_14, s_129_15, s_129_18, s_129_19, s_129_22, s_129_23, amLong_I, amLong_R, amLong_N, amLong_L, cond_true, cond_false, Option.toList_some, Option.toList_none, List.cons_append, List.nil_append, List.append_nil, setE, setN, cpy_set, lit, nle, nlt, neq, inb_iff, cl_nI, tle, fle, tlt, flt, teq, feq, m9, m3, x9, x3, nI_add, nsub, upN, upE, b0', b01', r100, w100, r101, w101, r102, w102, r103, w103, r104, w104, r105, w105, r106, w106, r107, w107, r108, w108, w109, w110, r111, w111, r112, w112, r113, w113, r114, w114, r115, w115, r116, w116, r117, w117, r118, w118, r119, w119, w120, w121, r122, w122, r130, w130, w131, w132, r133, w133, r134, w134, r135, w135, r136, w136, r137, w137, r138, w138, r139, w139, r140, w140, r141, w141, w142, r143, w143, r144, w144, r145, w145, r146, w146, w147, w150, b1', em1, Bool.false_eq_true, not_true_eq_false, not_false_eq_true, false_implies, true_implies, and_true, true_and, if_true, if_false, implies_true, Classical.not_not, true_or, or_true, false_or, or_false, and_self, ite_true, ite_false, reduceIte, e, c2]
        exact hQ
      · rw [bo_f (fun z => c2 z.2)] at hQ
        simp (disch := omega) only [s_129_0, s_129_1, s_129_4, s_129_5, s_129_6, s_129_9, s_129_10, s_129_13, s_129_14, s_129_15, s_129_18, s_129_19, s_129_22, s_129_23, amLong_I, amLong_R, amLong_N, amLong_L, cond_true, cond_false, Option.toList_some, Option.toList_none, List.cons_append, List.nil_append, List.append_nil, setE, setN, cpy_set, lit, nle, nlt, neq, inb_iff, cl_nI, tle, fle, tlt, flt, teq, feq, m9, m3, x9, x3, nI_add, nsub, upN, upE, b0', b01', r100, w100, r101, w101, r102, w102, r103, w103, r104, w104, r105, w105, r106, w106, r107, w107, r108, w108, w109, w110, r111, w111, r112, w112, r113, w113, r114, w114, r115, w115, r116, w116, r117, w117, r118, w118, r119, w119, w120, w121, r122, w122, r130, w130, w131, w132, r133, w133, r134, w134, r135, w135, r136, w136, r137, w137, r138, w138, r139, w139, r140, w140, r141, w141, w142, r143, w143, r144, w144, r145, w145, r146, w146, w147, w150, b1', em1, Bool.false_eq_true, not_true_eq_false, not_false_eq_true, false_implies, true_implies, and_true, true_and, if_true, if_false, implies_true, Classical.not_not, true_or, or_true, false_or, or_false, and_self, ite_true, ite_false, reduceIte, e, c2]
        exact hQ
    · have c1' : nI 2 ≤ i := Int32.not_lt.mp c1
      rw [bo_f (fun z => c1 z.1.2)] at hQ
      simp (disch := omega) only [s_129_0, s_129_1, s_129_4, s_129_5, s_129_6, s_129_9, s_129_10, s_129_13, s_129_14, s_129_15, s_129_18, s_129_19, s_129_22, s_129_23, amLong_I, amLong_R, amLong_N, amLong_L, cond_true, cond_false, Option.toList_some, Option.toList_none, List.cons_append, List.nil_append, List.append_nil, setE, setN, cpy_set, lit, nle, nlt, neq, inb_iff, cl_nI, tle, fle, tlt, flt, teq, feq, m9, m3, x9, x3, nI_add, nsub, upN, upE, b0', b01', r100, w100, r101, w101, r102, w102, r103, w103, r104, w104, r105, w105, r106, w106, r107, w107, r108, w108, w109, w110, r111, w111, r112, w112, r113, w113, r114, w114, r115, w115, r116, w116, r117, w117, r118, w118, r119, w119, w120, w121, r122, w122, r130, w130, w131, w132, r133, w133, r134, w134, r135, w135, r136, w136, r137, w137, r138, w138, r139, w139, r140, w140, r141, w141, w142, r143, w143, r144, w144, r145, w145, r146, w146, w147, w150, b1', em1, Bool.false_eq_true, not_true_eq_false, not_false_eq_true, false_implies, true_implies, and_true, true_and, if_true, if_false, implies_true, Classical.not_not, true_or, or_true, false_or, or_false, and_self, ite_true, ite_false, reduceIte, c0', c1']
      exact hQ
  · have c0' : i < nI 0 := Int32.not_le.mp c0
    rw [bo_f (fun z => c0 z.1.1)] at hQ
    simp (disch := omega) only [s_129_0, s_129_1, s_129_4, s_129_5, s_129_6, s_129_9, s_129_10, s_129_13, s_129_14, s_129_15, s_129_18, s_129_19, s_129_22, s_129_23, amLong_I, amLong_R, amLong_N, amLong_L, cond_true, cond_false, Option.toList_some, Option.toList_none, List.cons_append, List.nil_append, List.append_nil, setE, setN, cpy_set, lit, nle, nlt, neq, inb_iff, cl_nI, tle, fle, tlt, flt, teq, feq, m9, m3, x9, x3, nI_add, nsub, upN, upE, b0', b01', r100, w100, r101, w101, r102, w102, r103, w103, r104, w104, r105, w105, r106, w106, r107, w107, r108, w108, w109, w110, r111, w111, r112, w112, r113, w113, r114, w114, r115, w115, r116, w116, r117, w117, r118, w118, r119, w119, w120, w121, r122, w122, r130, w130, w131, w132, r133, w133, r134, w134, r135, w135, r136, w136, r137, w137, r138, w138, r139, w139, r140, w140, r141, w141, w142, r143, w143, r144, w144, r145, w145, r146, w146, w147, w150, b1', em1, Bool.false_eq_true, not_true_eq_false, not_false_eq_true, false_implies, true_implies, and_true, true_and, if_true, if_false, implies_true, Classical.not_not, true_or, or_true, false_or, or_false, and_self, ite_true, ite_false, reduceIte, c0']
    exact hQ
theorem k152 {A : Sta} {i : Int32} (hR : RC M J A) (hW : WF A) (H : ∀ M1 J1, RC M1 J1 (o38 A i).2 → FC M M1 → FCJ J J1 → Q (some (vI (o38 A i).1)) (M1, J1, (jk, 149, 147, X))) : Call (d + 2) 152 [vR 11 0, vI i] (M, J, (jk, 149, 147, X)) Q := by
  have hR' := hR
  obtain ⟨h1, ⟨f, f1, f2, f3, f4, f5⟩, h3, ⟨x1, x2, x3'⟩, r1, r2, r3⟩ := hR
  unfold o38 at H
  rw [e_152]
  by_cases c0 : nI 0 ≤ i ∧ i < nI 2
  · rw [if_pos c0] at H
    obtain ⟨i, hi, rfl⟩ := (in_iff (by omega)).mp c0
    rw [cl_nI (by omega)] at H
    have h129 := fun (Q : Option amV → amS → Prop) => c129 (d := d) (X := X) (jk := jk) (J := J) (Q := Q) (i := nI i) h3
    rw [cl_nI (by omega)] at h129
    cases hS : A.2.2.1 i with
    | none =>
      rw [hS] at H h129
      simp only [bo_f (show ¬ ((nI 0 ≤ nI i ∧ nI i < nI 2) ∧ (none : Option Gm).isSome = true) from fun z => by have := z.2; cases this)] at h129
      simp (disch := omega) only [s_152_0, s_152_1, s_152_2, s_152_5, s_152_8, s_152_9, s_152_10, s_152_11, s_152_14, s_152_15, s_152_18, s_152_19, s_152_20, s_152_23, s_152_24, s_152_27, s_152_28, s_152_31, s_152_32, amLong_I, amLong_R, amLong_N, amLong_L, cond_true, cond_false, Option.toList_some, Option.toList_none, List.cons_append, List.nil_append, List.append_nil, setE, setN, cpy_set, lit, nle, nlt, neq, inb_iff, cl_nI, tle, fle, tlt, flt, teq, feq, m9, m3, x9, x3, nI_add, nsub, upN, upE, b0', b01', r100, w100, r101, w101, r102, w102, r103, w103, r104, w104, r105, w105, r106, w106, r107, w107, r108, w108, w109, w110, r111, w111, r112, w112, r113, w113, r114, w114, r115, w115, r116, w116, r117, w117, r118, w118, r119, w119, w120, w121, r122, w122, r130, w130, w131, w132, r133, w133, r134, w134, r135, w135, r136, w136, r137, w137, r138, w138, r139, w139, r140, w140, r141, w141, w142, r143, w143, r144, w144, r145, w145, r146, w146, w147, w150, b1', em1, Bool.false_eq_true, not_true_eq_false, not_false_eq_true, false_implies, true_implies, and_true, true_and, if_true, if_false, implies_true, Classical.not_not, true_or, or_true, false_or, or_false, and_self, ite_true, ite_false, reduceIte, h129]
      exact H M J hR' FC.rfl FCJ.rfl
    | some G =>
      rw [hS] at H h129
      simp only [bo_t (show ((nI 0 ≤ nI i ∧ nI i < nI 2) ∧ (some G : Option Gm).isSome = true) from ⟨c0, rfl⟩)] at h129
      have hsl : ∀ k, slt f k ≠ 0 := fun k => by have := slt_4 (f := f) (k := k); omega
      have hg : ∀ {g : Nat} {G : Gm}, GW (cpG M 0 (2 + i)) g G → GW (upM (cpG M 0 (2 + i)) 1352 0 0 (nI 0)) g G := fun h => GV.of h (fun c k hc => upN (by omega))
      simp (disch := omega) only [s_152_0, s_152_1, s_152_2, s_152_5, s_152_8, s_152_9, s_152_10, s_152_11, s_152_14, s_152_15, s_152_18, s_152_19, s_152_20, s_152_23, s_152_24, s_152_27, s_152_28, s_152_31, s_152_32, amLong_I, amLong_R, amLong_N, amLong_L, cond_true, cond_false, Option.toList_some, Option.toList_none, List.cons_append, List.nil_append, List.append_nil, setE, setN, cpy_set, lit, nle, nlt, neq, inb_iff, cl_nI, tle, fle, tlt, flt, teq, feq, m9, m3, x9, x3, nI_add, nsub, upN, upE, b0', b01', r100, w100, r101, w101, r102, w102, r103, w103, r104, w104, r105, w105, r106, w106, r107, w107, r108, w108, w109, w110, r111, w111, r112, w112, r113, w113, r114, w114, r115, w115, r116, w116, r117, w117, r118, w118, r119, w119, w120, w121, r122, w122, r130, w130, w131, w132, r133, w133, r134, w134, r135, w135, r136, w136, r137, w137, r138, w138, r139, w139, r140, w140, r141, w141, w142, r143, w143, r144, w144, r145, w145, r146, w146, w147, w150, b1', em1, Bool.false_eq_true, not_true_eq_false, not_false_eq_true, false_implies, true_implies, and_true, true_and, if_true, if_false, implies_true, Classical.not_not, true_or, or_true, false_or, or_false, and_self, ite_true, ite_false, reduceIte, h129, st_120 hi, amEt, c22 (show 0 < 13 by decide) (show 2 + i < 13 by omega)]
      refine H _ J ⟨hg (cpG_gw ((h3 i hi).2 G hS)), ⟨f, f1, ?_, ?_, Nat.zero_le _, fun k G hk => ?_⟩, fun j hj => ⟨?_, fun G hG => hg (cpG_gwo (by omega) ((h3 j hj).2 G hG))⟩, ⟨?_, x2, fun k hk => ?_⟩, ?_, r2, r3⟩ (fun c j k hc => ?_) FCJ.rfl
      · rw [upN (by omega), cpG_c (by omega), f2]
      · rw [upE ⟨rfl, rfl, rfl⟩]
        rfl
      · cases hk
      · rw [upN (by omega), cpG_c (by omega), (h3 j hj).1]
      · rw [upN (by omega), cpG_c (by omega), x1]
      · rw [upN (by omega), cpG_c (by omega), x3' k hk]
      · rw [upN (by omega), cpG_c (by omega), r1]
      · rw [upN (by omega), cpG_c (by omega)]
  · rw [if_neg c0] at H
    have c1 : ¬ bo ((nI 0 ≤ i ∧ i < nI 2) ∧ (A.2.2.1 i.toNatClampNeg).isSome = true) = true := fun z => c0 (bo_iff.mp z).1
    simp (disch := omega) only [s_152_0, s_152_1, s_152_2, s_152_5, s_152_8, s_152_9, s_152_10, s_152_11, s_152_14, s_152_15, s_152_18, s_152_19, s_152_20, s_152_23, s_152_24, s_152_27, s_152_28, s_152_31, s_152_32, amLong_I, amLong_R, amLong_N, amLong_L, cond_true, cond_false, Option.toList_some, Option.toList_none, List.cons_append, List.nil_append, List.append_nil, setE, setN, cpy_set, lit, nle, nlt, neq, inb_iff, cl_nI, tle, fle, tlt, flt, teq, feq, m9, m3, x9, x3, nI_add, nsub, upN, upE, b0', b01', r100, w100, r101, w101, r102, w102, r103, w103, r104, w104, r105, w105, r106, w106, r107, w107, r108, w108, w109, w110, r111, w111, r112, w112, r113, w113, r114, w114, r115, w115, r116, w116, r117, w117, r118, w118, r119, w119, w120, w121, r122, w122, r130, w130, w131, w132, r133, w133, r134, w134, r135, w135, r136, w136, r137, w137, r138, w138, r139, w139, r140, w140, r141, w141, w142, r143, w143, r144, w144, r145, w145, r146, w146, w147, w150, b1', em1, Bool.false_eq_true, not_true_eq_false, not_false_eq_true, false_implies, true_implies, and_true, true_and, if_true, if_false, implies_true, Classical.not_not, true_or, or_true, false_or, or_false, and_self, ite_true, ite_false, reduceIte, c129 h3, c1]
    exact H M J hR' FC.rfl FCJ.rfl
end CHG2
