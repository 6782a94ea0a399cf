/-! what the class holds, as one picture -/
/-- game g: shape, pays, tokens -/
def GV (M : amM) (g sh : Nat) (pay tok : Nat → Int32) : Prop := GS M g sh ∧ (∀ k, k < 27 → M 103 g k = pay k) ∧ (∀ k, k < 9 → M 104 g k = tok k)
theorem GV.of {M M' : amM} {g g' sh : Nat} {pay tok : Nat → Int32} (h : GV M g sh pay tok) (hf : ∀ c k, ((100 ≤ c ∧ c ≤ 104) ∨ c = 1105 ∨ c = 1106) → M' c g' k = M c g k) : GV M' g' sh pay tok :=
  ⟨h.1.of (fun c k h => hf c k (by omega)), fun k hk => by rw [hf _ _ (by omega), h.2.1 k hk], fun k hk => by rw [hf _ _ (by omega), h.2.2 k hk]⟩
section STATE
variable {d g t jk X sh : Nat} {M M1 M2 : amM} {J J1 J2 : amJ} {Q : Option amV → amS → Prop} {pay tok : Nat → Int32}
theorem dl_congr {pay' : Nat → Int32} {p k : Nat} (h5 : sh < 5) (h : ∀ k, k < 27 → pay k = pay' k) (hp : p < prf sh) : dl sh pay p k = dl sh pay' p k := by
  obtain ⟨⟨l1, l2, l3, l4⟩, l5⟩ := sh_ok sh h5
  unfold dl
  by_cases e : k / 9 < plr sh ∧ k % 9 / 3 = act sh (k / 9) p ∧ k % 3 < hsN sh (k / 9)
  · have := (((l5 _ e.1).2 p hp).2.2 _ e.2.2).1
    rw [if_pos e, if_pos e, h _ (by omega), h _ (by omega)]
  · rw [if_neg e, if_neg e]
theorem gns_py {pay' : Nat → Int32} {k : Nat} (h5 : sh < 5) (h : ∀ k, k < 27 → pay k = pay' k) : gns sh pay tok k = gns sh pay' tok k := sumN_congr _ _ (fun p _ h2 => by rw [dl_congr h5 h (by omega)])
theorem TL.py {pay' : Nat → Int32} (hT : TL M t sh pay tok) (h : ∀ k, k < 27 → pay k = pay' k) : TL M t sh pay' tok := by
  obtain ⟨⟨t1, t2, t3, t4, t5, t6, t7⟩, h2, h3⟩ := hT
  obtain ⟨⟨l1, l2, l3, l4⟩, l5⟩ := sh_ok sh t1
  refine ⟨⟨t1, t2, t3, t4, t5, fun p i b hp hi hb => ?_, t7⟩, h2, fun k hk => ?_⟩
  · have := (((l5 i hi).2 p hp).2.2 b hb).1
    rw [t6 p i b hp hi hb, h _ (by omega), h _ (by omega)]
  · rw [h3 k hk, gns_py t1 h]
theorem v48 (ht : t < 4) (hg : g < 13) (hV : GV M g sh pay tok) (H : ∀ M', FrT M M' t → TL M' t sh pay (fun _ => nI 0) → Q none (M', J, (jk, 149, 147, X))) : Call (d + 3) 48 [vR 9 t, vR 2 g] (M, J, (jk, 149, 147, X)) Q :=
  c48 ht hg hV.1 (fun M' hF hT => H M' hF (hT.py hV.2.1))
theorem v47 {c i : Nat} {tk : Nat → Int32} (ht : t < 4) (hg : g < 13) (hV : GV M g sh pay tok) (hk : tokA c i) (hne : c ≠ 113 ∨ i ≠ t) (hc : ∀ p, p < 9 → M c i p = tk p) (hz : ∀ p, prf sh ≤ p → p < 9 → tk p = nI 0) (H : ∀ M', FrT M M' t → TL M' t sh pay tk → Q none (M', J, (jk, 149, 147, X))) : Call (d + 4) 47 [vR 9 t, vR 2 g, vR c i] (M, J, (jk, 149, 147, X)) Q :=
  c47 ht hg hV.1 hk hne (fun M' hF hT => H M' hF ((hT.py hV.2.1).tk (fun p hp => by
    by_cases e : p < prf sh
    · rw [if_pos e, hc p hp]
    · rw [if_neg e, hz p (by omega) hp])))
/-- all sound advice of n tokens -/
def LST (sh : Nat) (pay : Nat → Int32) (n : Nat) : List (List Nat) := (cmps (prf sh - 1) n).filter (sdL sh pay)
theorem c98 {n : Nat} (hg : g < 13) (hV : GV M g sh pay tok) (hn : n ≤ 6) (H : ∀ M', FrL M M' → LI M' sh pay (LST sh pay n) → Q none (M', J, (jk, 149, 147, X))) : Call (d + 4) 98 [vR 4 0, vR 2 g, vI (nI n)] (M, J, (jk, 149, 147, X)) Q := by
  obtain ⟨⟨l1, l2, l3, l4⟩, l5⟩ := sh_ok sh hV.1.1
  have h14 : (1 : Nat) < 4 := by decide
  rw [e_98]
  simp (disch := omega) only [s_98_0, s_98_1, s_98_4, s_98_5, s_98_8, s_98_9, s_98_12, s_98_13, s_98_14, s_98_17, s_98_18, s_98_19, s_98_22, amLong_I, amLong_R, amLong_N, amLong_L, cond_true, cond_false, Option.toList_some, Option.toList_none, List.cons_append, List.nil_append, List.append_nil, setE, setN, cpy_set, lit, nle, nlt, neq, inb_iff, cl_nI, tle, fle, tlt, flt, teq, feq, m9, m3, x9, x3, nI_add, nsub, upN, upE, b0', b01', r100, w100, r101, w101, r102, w102, r103, w103, r104, w104, r105, w105, r106, w106, r107, w107, r108, w108, w109, w110, r111, w111, r112, w112, r113, w113, r114, w114, r115, w115, r116, w116, r117, w117, r118, w118, r119, w119, w120, w121, r122, w122, r130, w130, w131, w132, r133, w133, r134, w134, r135, w135, r136, w136, r137, w137, r138, w138, r139, w139, r140, w140, r141, w141, w142, r143, w143, r144, w144, r145, w145, r146, w146, w147, w150, Bool.false_eq_true, not_true_eq_false, not_false_eq_true, false_implies, true_implies, and_true, true_and, if_true, if_false, implies_true, Classical.not_not, true_or, or_true, false_or, or_false, and_self, ite_true, ite_false, reduceIte]
  refine v48 h14 hg hV (fun M1 hF hT => ?_)
  simp (disch := omega) only [s_98_0, s_98_1, s_98_4, s_98_5, s_98_8, s_98_9, s_98_12, s_98_13, s_98_14, s_98_17, s_98_18, s_98_19, s_98_22, amLong_I, amLong_R, amLong_N, amLong_L, cond_true, cond_false, Option.toList_some, Option.toList_none, List.cons_append, List.nil_append, List.append_nil, setE, setN, cpy_set, lit, nle, nlt, neq, inb_iff, cl_nI, tle, fle, tlt, flt, teq, feq, m9, m3, x9, x3, nI_add, nsub, upN, upE, b0', b01', r100, w100, r101, w101, r102, w102, r103, w103, r104, w104, r105, w105, r106, w106, r107, w107, r108, w108, w109, w110, r111, w111, r112, w112, r113, w113, r114, w114, r115, w115, r116, w116, r117, w117, r118, w118, r119, w119, w120, w121, r122, w122, r130, w130, w131, w132, r133, w133, r134, w134, r135, w135, r136, w136, r137, w137, r138, w138, r139, w139, r140, w140, r141, w141, w142, r143, w143, r144, w144, r145, w145, r146, w146, w147, w150, Bool.false_eq_true, not_true_eq_false, not_false_eq_true, false_implies, true_implies, and_true, true_and, if_true, if_false, implies_true, Classical.not_not, true_or, or_true, false_or, or_false, and_self, ite_true, ite_false, reduceIte, c54 h14 hT.1]
  refine H _ (fun c j k h e1 e2 => ?_) ⟨cmps (prf sh - 1) n, ⟨n :: zer (prf sh - 1), ?_, ?_, ?_, Or.inl ⟨?_, cmps_first _ _⟩⟩, ?_, rfl⟩
  · rw [upN (by omega), putM_f (by omega), hF c j k h]
  · rw [List.length_cons, zer_len]
    omega
  · show n + lsum (zer (prf sh - 1)) ≤ 6
    rw [zer_sum]
    omega
  · have h2 := (hT.put (n := nI n) (show 0 < prf sh by omega)).tk (tok' := tf (n :: zer (prf sh - 1))) (fun p hp => ?_)
    · exact ⟨h2.1.of (fun c k h => upN (by omega)), fun p hp => by rw [upN (by omega), h2.2.1 p hp], fun k hk => by rw [upN (by omega), h2.2.2 k hk]⟩
    · cases p with
      | zero => exact nadd0 _
      | succ p =>
        rw [if_neg (by omega)]
        show nI 0 = nI (gt (zer (prf sh - 1)) p)
        rw [gt_zer]
  · rw [upE ⟨rfl, rfl, rfl⟩]
  · rw [cmps_len]
    exact cmpN_le (by omega) hn
/-! the row -/
def RW (M : amM) (J : amJ) (r : List Int32) : Prop := M 1301 0 0 = nI r.length ∧ r.length ≤ 32 ∧ ∀ k, k < r.length → J 109 k = (r.getD k 0).toInt64
/-- nothing but the row has changed -/
def RWo (M M1 : amM) (J J1 : amJ) (r : List Int32) : Prop := M1 = upM M 1301 0 0 (nI r.length) ∧ RW M1 J1 r ∧ ∀ c k, c ≠ 109 → J1 c k = J c k
theorem up_up {c i j : Nat} {x y : Int32} : upM (upM M c i j x) c i j y = upM M c i j y := by
  funext c' i' j'
  unfold upM
  by_cases h : c' = c ∧ i' = i ∧ j' = j
  · rw [if_pos h, if_pos h]
  · rw [if_neg h, if_neg h, if_neg h]
theorem RWo.f {r : List Int32} {c j k : Nat} (h : RWo M M1 J J1 r) (hc : c ≠ 1301) : M1 c j k = M c j k := by
  rw [h.1, upN (Or.inl hc)]
theorem v42 (H : ∀ M2, RWo M M2 J J [] → Q none (M2, J, (jk, 149, 147, X))) : Call (d + 1) 42 [vR 6 0] (M, J, (jk, 149, 147, X)) Q := by
  rw [c42]
  exact H _ ⟨rfl, ⟨upE ⟨rfl, rfl, rfl⟩, Nat.zero_le _, fun k hk => absurd hk (Nat.not_lt_zero k)⟩, fun _ _ _ => rfl⟩
theorem gd_app {r : List Int32} {v : Int32} {k : Nat} (h : k < r.length) : (r ++ [v]).getD k 0 = r.getD k 0 := by
  simp [List.getD_eq_getElem?_getD, List.getElem?_append_left h]
theorem gd_last {r : List Int32} {v : Int32} : (r ++ [v]).getD r.length 0 = v := by
  simp [List.getD_eq_getElem?_getD]
theorem v43 {r : List Int32} {v : Int32} (h : RWo M M1 J J1 r) (hl : r.length < 32) (H : ∀ M2 J2, RWo M M2 J J2 (r ++ [v]) → Q none (M2, J2, (jk, 149, 147, X))) : Call (d + 1) 43 [vR 6 0, vL v.toInt64] (M1, J1, (jk, 149, 147, X)) Q := by
  obtain ⟨h1, ⟨h2, h3, h4⟩, h5⟩ := h
  rw [c43 h2 hl]
  have hlen : (r ++ [v]).length = r.length + 1 := by simp
  refine H _ _ ⟨?_, ⟨?_, by omega, fun k hk => ?_⟩, fun c k hc => ?_⟩
  · rw [h1, up_up, hlen]
  · rw [upE ⟨rfl, rfl, rfl⟩, hlen]
  · unfold upJ
    by_cases e : k = r.length
    · subst e
      rw [if_pos ⟨rfl, rfl⟩, gd_last]
    · rw [if_neg (fun z => e z.2), h4 k (by omega), gd_app (by omega)]
  · unfold upJ
    rw [if_neg (fun z => hc z.1), h5 c k hc]
/-! all of it -/
abbrev Gm : Type := Nat × (Nat → Int32) × (Nat → Int32)
/-- the game, what can be undone, what is kept, the text, the row -/
abbrev Sta : Type := Gm × List Gm × (Nat → Option Gm) × (Nat × (Nat → Nat)) × List Int32
abbrev GW (M : amM) (g : Nat) (G : Gm) : Prop := GV M g G.1 G.2.1 G.2.2
def PS (M : amM) (U : List Gm) : Prop := ∃ f, f < 9 ∧ M 1351 0 0 = nI f ∧ M 1352 0 0 = nI U.length ∧ U.length ≤ 8 ∧ ∀ k G, U[k]? = some G → GW M (slt f k) G
def SH (M : amM) (S : Nat → Option Gm) : Prop := ∀ i, i < 2 → M 121 0 i = bI ((S i).isSome = true) ∧ ∀ G, S i = some G → GW M (2 + i) G
def TX (M : amM) (x : Nat × (Nat → Nat)) : Prop := M 1501 0 0 = nI x.1 ∧ x.1 ≤ 80 ∧ ∀ k, k < x.1 → M 119 0 k = nI (x.2 k)
def RC (M : amM) (J : amJ) (A : Sta) : Prop := GW M 0 A.1 ∧ PS M A.2.1 ∧ SH M A.2.2.1 ∧ TX M A.2.2.2.1 ∧ RW M J A.2.2.2.2
/-- a game as it may be -/
def WG (G : Gm) : Prop := G.1 < 5 ∧ (∀ k, k < 27 → -9 ≤ (G.2.1 k).toInt ∧ (G.2.1 k).toInt ≤ 9) ∧ ∃ a : List Nat, a.length = prf G.1 ∧ lsum a ≤ 6 ∧ ∀ p, p < 9 → G.2.2 p = tf a p
def WF (A : Sta) : Prop := WG A.1 ∧ (∀ G, G ∈ A.2.1 → WG G) ∧ (∀ i G, A.2.2.1 i = some G → WG G) ∧ (∀ k, A.2.2.2.1.2 k < 256)
/-- cells that a question leaves as they are -/
def Pc (c j : Nat) : Prop := c = 99 ∨ (130 ≤ c ∧ c < 1000) ∨ 1600 ≤ c ∨ (100 ≤ c ∧ c ≤ 104 ∧ j ≠ 1) ∨ ((c = 1105 ∨ c = 1106) ∧ j ≠ 1) ∨ c = 1351 ∨ c = 1352 ∨ c = 121 ∨ c = 119 ∨ c = 1501
def FrQ (M M' : amM) : Prop := ∀ c j k, Pc c j → M' c j k = M c j k
theorem FrQ.rfl : FrQ M M := fun _ _ _ _ => by rfl
theorem FrQ.trans (h1 : FrQ M M1) (h2 : FrQ M1 M2) : FrQ M M2 := fun c j k h => by rw [h2 c j k h, h1 c j k h]
theorem FrT.q (h : FrT M M1 t) : FrQ M M1 := fun c j k hp => h c j k (by unfold Pc at hp; omega)
theorem FrL.q (h : FrL M M1) : FrQ M M1 := fun c j k hp => h c j k (by unfold Pc at hp; omega) (by unfold Pc at hp; omega) (by unfold Pc at hp; omega)
theorem RWo.q {r : List Int32} (h : RWo M M1 J J1 r) : FrQ M M1 := fun c j k hp => h.f (by unfold Pc at hp; omega)
theorem FrQ.up {c i j : Nat} {x : Int32} (h : FrQ M M1) (hn : ¬ Pc c i) : FrQ M (upM M1 c i j x) := fun c' i' k hp => by
  rw [upM_ne, h c' i' k hp]
  rintro ⟨rfl, rfl, rfl⟩
  exact hn hp
theorem FrQ.gv {g : Nat} (h : FrQ M M1) (hg : g ≠ 1) (hV : GV M g sh pay tok) : GV M1 g sh pay tok := hV.of (fun c k hc => h c g k (by unfold Pc; omega))
theorem slt_ne {f k : Nat} : slt f k ≠ 1 := by
  unfold slt
  omega
theorem RC.q {A : Sta} {r : List Int32} (hR : RC M J A) (hF : FrQ M M1) (hr : RW M1 J1 r) : RC M1 J1 (A.1, A.2.1, A.2.2.1, A.2.2.2.1, r) := by
  obtain ⟨h1, ⟨f, f1, f2, f3, f4, f5⟩, h3, ⟨x1, x2, x3⟩, -⟩ := hR
  refine ⟨hF.gv (by decide) h1, ⟨f, f1, ?_, ?_, f4, fun k G hk => hF.gv slt_ne (f5 k G hk)⟩, fun i hi => ⟨?_, fun G hG => hF.gv (by omega) ((h3 i hi).2 G hG)⟩, ⟨?_, x2, fun k hk => ?_⟩, hr⟩
  · rw [hF _ _ _ (by unfold Pc; omega), f2]
  · rw [hF _ _ _ (by unfold Pc; omega), f3]
  · rw [hF _ _ _ (by unfold Pc; omega), (h3 i hi).1]
  · rw [hF _ _ _ (by unfold Pc; omega), x1]
  · rw [hF _ _ _ (by unfold Pc; omega), x3 k hk]
end STATE
