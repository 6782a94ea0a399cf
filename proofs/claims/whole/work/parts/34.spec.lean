/-! the reference's picture, its row, its frames -/
/-- a game as one row of forty numbers -/
def img (G : Gm) (k : Nat) : Int32 := if k = 0 then nI (plr G.1) else if k < 4 then nI (hsN G.1 (k - 1)) else if k < 31 then G.2.1 (k - 4) else G.2.2 (k - 31)
/-- what only helps to answer -/
def Sc (c : Nat) : Prop := (133 ≤ c ∧ c ≤ 142) ∨ c = 144 ∨ c = 145 ∨ (1605 ≤ c ∧ c ≠ 1629 ∧ c < 1650)
def Kp (M M' : amM) : Prop := ∀ c j k, ¬ Sc c → M' c j k = M c j k
theorem Kp.rfl {M : amM} : Kp M M := fun _ _ _ _ => by rfl
theorem Kp.trans {M M1 M2 : amM} (h1 : Kp M M1) (h2 : Kp M1 M2) : Kp M M2 := fun c j k h => by rw [h2 c j k h, h1 c j k h]
theorem Kp.up {M M1 : amM} {c i j : Nat} {x : Int32} (h : Kp M M1) (hc : Sc c) : Kp M (upM M1 c i j x) := fun c' i' k hp => by
  rw [upM_ne, h c' i' k hp]
  rintro ⟨rfl, rfl, rfl⟩
  exact hp hc
/-- the reference's row -/
def MW (M : amM) (J : amJ) (r : List Int32) : Prop := M 1604 0 0 = nI r.length ∧ r.length ≤ 64 ∧ ∀ k, k < r.length → J 132 k = (r.getD k 0).toInt64
def Mt (M : amM) (x : Nat × (Nat → Nat)) : Prop := M 1602 0 0 = nI x.1 ∧ x.1 ≤ 80 ∧ ∀ k, k < x.1 → M 131 0 k = (nI (x.2 k)).toInt8.toInt32
def RM (M : amM) (J : amJ) (A : Sta) : Prop := (∀ k, k < 40 → M 130 0 k = img A.1 k) ∧ (M 1629 0 0 = nI A.2.1.length ∧ A.2.1.length ≤ 8 ∧ ∀ n G, A.2.1[n]? = some G → ∀ k, k < 40 → M 143 0 (40 * n + k) = img G k) ∧ (∀ i, i < 2 → M 147 0 i = bI ((A.2.2.1 i).isSome = true) ∧ ∀ G, A.2.2.1 i = some G → ∀ k, k < 40 → M 146 0 (40 * i + k) = img G k) ∧ Mt M A.2.2.2.1 ∧ MW M J A.2.2.2.2
section SPEC
variable {d g t jk X sh : Nat} {M M1 M2 : amM} {J J1 J2 : amJ} {Q : Option amV → amS → Prop} {pay tok : Nat → Int32}
theorem img_V {G : Gm} (h5 : G.1 < 5) (h : ∀ k, k < 40 → M 130 0 k = img G k) : MV M G.1 G.2.1 G.2.2 := by
  refine ⟨h5, ?_, fun i hi => ?_, fun k hk => ?_, fun p hp => ?_⟩
  · rw [h 0 (by omega)]
    rfl
  · rw [h _ (by omega)]
    unfold img
    rw [if_neg (by omega), if_pos (by omega), show 1 + i - 1 = i by omega]
  · rw [h _ (by omega)]
    unfold img
    rw [if_neg (by omega), if_neg (by omega), if_pos (by omega), show 4 + k - 4 = k by omega]
  · rw [h _ (by omega)]
    unfold img
    rw [if_neg (by omega), if_neg (by omega), if_neg (by omega), show 31 + p - 31 = p by omega]
theorem V_img {G : Gm} (h : MV M G.1 G.2.1 G.2.2) : ∀ k, k < 40 → M 130 0 k = img G k := by
  intro k hk
  unfold img
  by_cases h0 : k = 0
  · rw [if_pos h0, h0, h.2.1]
  rw [if_neg h0]
  by_cases h1 : k < 4
  · rw [if_pos h1, ← h.2.2.1 (k - 1) (by omega), show 1 + (k - 1) = k by omega]
  rw [if_neg h1]
  by_cases h2 : k < 31
  · rw [if_pos h2, ← h.2.2.2.1 (k - 4) (by omega), show 4 + (k - 4) = k by omega]
  · rw [if_neg h2, ← h.2.2.2.2 (k - 31) (by omega), show 31 + (k - 31) = k by omega]
theorem MV.of (hV : MV M sh pay tok) (h : ∀ k, k < 40 → M1 130 0 k = M 130 0 k) : MV M1 sh pay tok :=
  ⟨hV.1, by rw [h _ (by omega), hV.2.1], fun i hi => by rw [h _ (by omega), hV.2.2.1 i hi], fun k hk => by rw [h _ (by omega), hV.2.2.2.1 k hk], fun p hp => by rw [h _ (by omega), hV.2.2.2.2 p hp]⟩
theorem Kp.v (h : Kp M M1) (hV : MV M sh pay tok) : MV M1 sh pay tok := hV.of (fun k _ => h 130 0 k (by unfold Sc; omega))
theorem RM.v {A : Sta} (h : RM M J A) (hW : WF A) : MV M A.1.1 A.1.2.1 A.1.2.2 := img_V hW.1.1 h.1
/-- only the row has changed -/
def MRo (M M1 : amM) (J J1 : amJ) (r : List Int32) : Prop := M1 = upM M 1604 0 0 (nI r.length) ∧ MW M1 J1 r ∧ ∀ c k, c ≠ 132 → J1 c k = J c k
theorem MRo.f {r : List Int32} {c j k : Nat} (h : MRo M M1 J J1 r) (hc : c ≠ 1604) : M1 c j k = M c j k := by
  rw [h.1, upN (Or.inl hc)]
theorem MRo.v {r : List Int32} (h : MRo M M1 J J1 r) (hV : MV M sh pay tok) : MV M1 sh pay tok := hV.of (fun k _ => h.f (by omega))
theorem MRo0 : MRo M (upM M 1604 0 0 (nI 0)) J J [] := ⟨rfl, ⟨upE ⟨rfl, rfl, rfl⟩, Nat.zero_le _, fun k hk => absurd hk (Nat.not_lt_zero k)⟩, fun _ _ _ => rfl⟩
theorem m177 {r : List Int32} {v : Int32} (h : MRo M M1 J J1 r) (hl : r.length < 64) (H : ∀ M2 J2, MRo M M2 J J2 (r ++ [v]) → Q none (M2, J2, (jk, 149, 147, X))) : Call (d + 1) 177 [vR 12 0, vL v.toInt64] (M1, J1, (jk, 149, 147, X)) Q := by
  obtain ⟨h1, ⟨h2, h3, h4⟩, h5⟩ := h
  have hlen : (r ++ [v]).length = r.length + 1 := by simp
  rw [e_177]
  simp (disch := omega) only [s_177_0, s_177_1, s_177_4, s_177_5, s_177_8, s_177_9, s_177_10, s_177_11, s_177_12, s_177_15, s_177_16, s_177_17, s_177_20, amLong_I, amLong_R, amLong_N, amLong_L, cond_true, cond_false, Option.toList_some, Option.toList_none, List.cons_append, List.nil_append, List.append_nil, setE, setN, cpy_set, lit, nle, nlt, neq, inb_iff, cl_nI, tle, fle, tlt, flt, teq, feq, m9, m3, x9, x3, nI_add, nsub, upN, upE, b0', b01', r100, w100, r101, w101, r102, w102, r103, w103, r104, w104, r105, w105, r106, w106, r107, w107, r108, w108, w109, w110, r111, w111, r112, w112, r113, w113, r114, w114, r115, w115, r116, w116, r117, w117, r118, w118, r119, w119, w120, w121, r122, w122, r130, w130, w131, w132, r133, w133, r134, w134, r135, w135, r136, w136, r137, w137, r138, w138, r139, w139, r140, w140, r141, w141, w142, r143, w143, r144, w144, r145, w145, r146, w146, w147, w150, b1', em1, Bool.false_eq_true, not_true_eq_false, not_false_eq_true, false_implies, true_implies, and_true, true_and, if_true, if_false, implies_true, Classical.not_not, true_or, or_true, false_or, or_false, and_self, ite_true, ite_false, reduceIte, h2]
  refine H _ _ ⟨?_, ⟨?_, by omega, fun k hk => ?_⟩, fun c k hc => ?_⟩
  · rw [h1, up_up, hlen]
  · rw [upE ⟨rfl, rfl, rfl⟩, hlen]
  · unfold upJ
    by_cases e : k = r.length
    · subst e
      rw [if_pos ⟨rfl, rfl⟩, gd_last]
    · rw [if_neg (fun z => e z.2), h4 k (by omega), gd_app (by omega)]
  · unfold upJ
    rw [if_neg (fun z => hc z.1), h5 c k hc]
/-- an end of a call of the reference: what was asked, what is told -/
def tel (A : Sta) (r : List Int32) : Sta := (A.1, A.2.1, A.2.2.1, A.2.2.2.1, r)
/-- cells of the class, of the reference -/
def FM (M M1 : amM) : Prop := ∀ c j k, (c < 130 ∨ (150 ≤ c ∧ c < 1600)) → M1 c j k = M c j k
def FMJ (J J1 : amJ) : Prop := ∀ c k, c ≠ 132 → J1 c k = J c k
theorem RM.q {A : Sta} {r : List Int32} (hR : RM M J A) (hF : ∀ c j k, ¬ Sc c → c ≠ 1604 → M1 c j k = M c j k) (hr : MW M1 J1 r) : RM M1 J1 (tel A r) := by
  obtain ⟨h1, ⟨h2, h3, h4⟩, h5, ⟨h6, h7, h8⟩, -⟩ := hR
  have f : ∀ c j k, (c = 130 ∨ c = 131 ∨ c = 143 ∨ c = 146 ∨ c = 147 ∨ c = 1602 ∨ c = 1629) → M1 c j k = M c j k := fun c j k h => hF c j k (by unfold Sc; omega) (by omega)
  refine ⟨fun k hk => by rw [f _ _ _ (by omega), h1 k hk]; rfl, ⟨by rw [f _ _ _ (by omega), h2]; rfl, h3, fun n G hn k hk => by rw [f _ _ _ (by omega), h4 n G hn k hk]⟩, fun i hi => ⟨by rw [f _ _ _ (by omega), (h5 i hi).1]; rfl, fun G hG k hk => by rw [f _ _ _ (by omega), (h5 i hi).2 G hG k hk]⟩, ⟨by rw [f _ _ _ (by omega), h6]; rfl, h7, fun k hk => by rw [f _ _ _ (by omega), h8 k hk]; rfl⟩, hr⟩
theorem MW.k {r : List Int32} (h : MW M J r) (hF : M1 1604 0 0 = M 1604 0 0) (hJ : ∀ k, J1 132 k = J 132 k) : MW M1 J1 r := ⟨by rw [hF, h.1], h.2.1, fun k hk => by rw [hJ, h.2.2 k hk]⟩
theorem RM.s {A : Sta} (hR : RM M J A) (hF : Kp M M1) (hJ : ∀ k, J1 132 k = J 132 k) : RM M1 J1 A := hR.q (fun c j k h _ => hF c j k h) (hR.2.2.2.2.k (hF _ _ _ (by unfold Sc; omega)) hJ)
theorem RM.w {A : Sta} {r : List Int32} (hR : RM M J A) (hF : Kp M M1) (ho : MRo M1 M2 J J1 r) : RM M2 J1 (tel A r) := hR.q (fun c j k h e => by rw [ho.f e, hF c j k h]) ho.2.1
theorem Kp.fm (h : Kp M M1) : FM M M1 := fun c j k hc => h c j k (by unfold Sc; omega)
theorem FM.o {r : List Int32} (h : FM M M1) (ho : MRo M1 M2 J J1 r) : FM M M2 := fun c j k hc => by rw [ho.f (by omega), h c j k hc]
theorem FM.rfl : FM M M := fun _ _ _ _ => by rfl
theorem FMJ.rfl : FMJ J J := fun _ _ _ => by rfl
theorem MRo.j {r : List Int32} (h : MRo M M1 J J1 r) : FMJ J J1 := fun c k hc => h.2.2 c k hc
/-- what is asked -/
theorem m186 (hV : MV M sh pay tok) (H : ∀ M1, (∀ c j k, c ≠ 134 → M1 c j k = M c j k) → (∀ p, p < 9 → M1 134 0 p = tok p) → Q none (M1, J, (jk, 149, 147, X))) : Call (d + 1) 186 [vR 12 0] (M, J, (jk, 149, 147, X)) Q := by
  rw [e_186]
  simp (disch := omega) only [s_186_0, s_186_1, s_186_3, s_186_5, s_186_8, s_186_9, s_186_12, s_186_13, s_186_14, s_186_17, s_186_19, s_186_20, s_186_21, s_186_22, s_186_23, s_186_26, s_186_29, amLong_I, amLong_R, amLong_N, amLong_L, cond_true, cond_false, Option.toList_some, Option.toList_none, List.cons_append, List.nil_append, List.append_nil, setE, setN, cpy_set, lit, nle, nlt, neq, inb_iff, cl_nI, tle, fle, tlt, flt, teq, feq, m9, m3, x9, x3, nI_add, nsub, upN, upE, b0', b01', r100, w100, r101, w101, r102, w102, r103, w103, r104, w104, r105, w105, r106, w106, r107, w107, r108, w108, w109, w110, r111, w111, r112, w112, r113, w113, r114, w114, r115, w115, r116, w116, r117, w117, r118, w118, r119, w119, w120, w121, r122, w122, r130, w130, w131, w132, r133, w133, r134, w134, r135, w135, r136, w136, r137, w137, r138, w138, r139, w139, r140, w140, r141, w141, w142, r143, w143, r144, w144, r145, w145, r146, w146, w147, w150, b1', em1, Bool.false_eq_true, not_true_eq_false, not_false_eq_true, false_implies, true_implies, and_true, true_and, if_true, if_false, implies_true, Classical.not_not, true_or, or_true, false_or, or_false, and_self, ite_true, ite_false, reduceIte]
  refine lpH (T := Unit) (U := Unit) (P := 9) (E := fun k M1 J1 u x => Ev (d) 186 2 [some (vR 12 (0)), some (vI (nI k))] [] (M1, J1, (jk, 149, 147, X)) Q) (I := fun k M1 J1 _ => (∀ c j k, c ≠ 134 → M1 c j k = M c j k) ∧ (∀ p, p < k → M1 134 0 p = tok p) ∧ J = J1) (fun M1 J1 u x hI => ?_) (fun k M1 J1 u x hk hI next => ?_) 0 _ _ () () (by omega) ⟨fun _ _ _ _ => rfl, no_lt _, rfl⟩
  · obtain ⟨i1, i2, rfl⟩ := hI
    rw [h_186_2]
    simp (disch := omega) only [s_186_0, s_186_1, s_186_3, s_186_5, s_186_8, s_186_9, s_186_12, s_186_13, s_186_14, s_186_17, s_186_19, s_186_20, s_186_21, s_186_22, s_186_23, s_186_26, s_186_29, amLong_I, amLong_R, amLong_N, amLong_L, cond_true, cond_false, Option.toList_some, Option.toList_none, List.cons_append, List.nil_append, List.append_nil, setE, setN, cpy_set, lit, nle, nlt, neq, inb_iff, cl_nI, tle, fle, tlt, flt, teq, feq, m9, m3, x9, x3, nI_add, nsub, upN, upE, b0', b01', r100, w100, r101, w101, r102, w102, r103, w103, r104, w104, r105, w105, r106, w106, r107, w107, r108, w108, w109, w110, r111, w111, r112, w112, r113, w113, r114, w114, r115, w115, r116, w116, r117, w117, r118, w118, r119, w119, w120, w121, r122, w122, r130, w130, w131, w132, r133, w133, r134, w134, r135, w135, r136, w136, r137, w137, r138, w138, r139, w139, r140, w140, r141, w141, w142, r143, w143, r144, w144, r145, w145, r146, w146, w147, w150, b1', em1, Bool.false_eq_true, not_true_eq_false, not_false_eq_true, false_implies, true_implies, and_true, true_and, if_true, if_false, implies_true, Classical.not_not, true_or, or_true, false_or, or_false, and_self, ite_true, ite_false, reduceIte]
    exact H M1 i1 i2
  · obtain ⟨i1, i2, rfl⟩ := hI
    have e : M1 130 0 (31 + k) = tok k := by rw [i1 130 0 _ (by omega), hV.2.2.2.2 k hk]
    rw [h_186_2]
    simp (disch := omega) only [s_186_0, s_186_1, s_186_3, s_186_5, s_186_8, s_186_9, s_186_12, s_186_13, s_186_14, s_186_17, s_186_19, s_186_20, s_186_21, s_186_22, s_186_23, s_186_26, s_186_29, amLong_I, amLong_R, amLong_N, amLong_L, cond_true, cond_false, Option.toList_some, Option.toList_none, List.cons_append, List.nil_append, List.append_nil, setE, setN, cpy_set, lit, nle, nlt, neq, inb_iff, cl_nI, tle, fle, tlt, flt, teq, feq, m9, m3, x9, x3, nI_add, nsub, upN, upE, b0', b01', r100, w100, r101, w101, r102, w102, r103, w103, r104, w104, r105, w105, r106, w106, r107, w107, r108, w108, w109, w110, r111, w111, r112, w112, r113, w113, r114, w114, r115, w115, r116, w116, r117, w117, r118, w118, r119, w119, w120, w121, r122, w122, r130, w130, w131, w132, r133, w133, r134, w134, r135, w135, r136, w136, r137, w137, r138, w138, r139, w139, r140, w140, r141, w141, w142, r143, w143, r144, w144, r145, w145, r146, w146, w147, w150, b1', em1, Bool.false_eq_true, not_true_eq_false, not_false_eq_true, false_implies, true_implies, and_true, true_and, if_true, if_false, implies_true, Classical.not_not, true_or, or_true, false_or, or_false, and_self, ite_true, ite_false, reduceIte, e]
    refine next _ _ () () ⟨fun c j k h => ?_, fun p hp => ?_, rfl⟩
    · rw [upN (by omega), i1 c j k h]
    · by_cases e2 : p = k
      · rw [upE ⟨rfl, rfl, e2⟩, e2]
      · rw [upN (by omega), i2 p (by omega)]
theorem gns_tk {tk tk' : Nat → Int32} {k : Nat} (h5 : sh < 5) (h : ∀ p, p < 9 → tk p = tk' p) : gns sh pay tk k = gns sh pay tk' k := by
  have := (sh_ok sh h5).1
  exact gns_congr (pay' := pay) (fun p hp => h p (by omega))
theorem snd_tk {tk tk' : Nat → Int32} (h5 : sh < 5) (h : ∀ p, p < 9 → tk p = tk' p) : sndB sh pay tk = sndB sh pay tk' := by
  unfold sndB
  refine congrArg _ (funext fun k => ?_)
  rw [gns_tk h5 h]
theorem m201 (hV : MV M sh pay tok) (H : ∀ M1, (∀ c j k, c ≠ 134 → M1 c j k = M c j k) → (∀ p, p < 9 → M1 134 0 p = tok p) → Q (some (vI (bI (sndB sh pay tok = true)))) (M1, J, (jk, 149, 147, X))) : Call (d + 7) 201 [vR 12 0] (M, J, (jk, 149, 147, X)) Q := by
  rw [e_201]
  simp (disch := omega) only [s_201_0, s_201_1, s_201_4, s_201_5, s_201_8, amLong_I, amLong_R, amLong_N, amLong_L, cond_true, cond_false, Option.toList_some, Option.toList_none, List.cons_append, List.nil_append, List.append_nil, setE, setN, cpy_set, lit, nle, nlt, neq, inb_iff, cl_nI, tle, fle, tlt, flt, teq, feq, m9, m3, x9, x3, nI_add, nsub, upN, upE, b0', b01', r100, w100, r101, w101, r102, w102, r103, w103, r104, w104, r105, w105, r106, w106, r107, w107, r108, w108, w109, w110, r111, w111, r112, w112, r113, w113, r114, w114, r115, w115, r116, w116, r117, w117, r118, w118, r119, w119, w120, w121, r122, w122, r130, w130, w131, w132, r133, w133, r134, w134, r135, w135, r136, w136, r137, w137, r138, w138, r139, w139, r140, w140, r141, w141, w142, r143, w143, r144, w144, r145, w145, r146, w146, w147, w150, b1', em1, Bool.false_eq_true, not_true_eq_false, not_false_eq_true, false_implies, true_implies, and_true, true_and, if_true, if_false, implies_true, Classical.not_not, true_or, or_true, false_or, or_false, and_self, ite_true, ite_false, reduceIte]
  refine m186 hV (fun M1 h1 h2 => ?_)
  have hV1 : MV M1 sh pay tok := hV.of (fun k _ => h1 _ _ _ (by omega))
  simp (disch := omega) only [s_201_0, s_201_1, s_201_4, s_201_5, s_201_8, amLong_I, amLong_R, amLong_N, amLong_L, cond_true, cond_false, Option.toList_some, Option.toList_none, List.cons_append, List.nil_append, List.append_nil, setE, setN, cpy_set, lit, nle, nlt, neq, inb_iff, cl_nI, tle, fle, tlt, flt, teq, feq, m9, m3, x9, x3, nI_add, nsub, upN, upE, b0', b01', r100, w100, r101, w101, r102, w102, r103, w103, r104, w104, r105, w105, r106, w106, r107, w107, r108, w108, w109, w110, r111, w111, r112, w112, r113, w113, r114, w114, r115, w115, r116, w116, r117, w117, r118, w118, r119, w119, w120, w121, r122, w122, r130, w130, w131, w132, r133, w133, r134, w134, r135, w135, r136, w136, r137, w137, r138, w138, r139, w139, r140, w140, r141, w141, w142, r143, w143, r144, w144, r145, w145, r146, w146, w147, w150, b1', em1, Bool.false_eq_true, not_true_eq_false, not_false_eq_true, false_implies, true_implies, and_true, true_and, if_true, if_false, implies_true, Classical.not_not, true_or, or_true, false_or, or_false, and_self, ite_true, ite_false, reduceIte, m202 hV1, snd_tk hV.1 h2]
  exact H M1 h1 h2
end SPEC
