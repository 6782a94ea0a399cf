/-! play: the picture, the class's way -/
theorem iJ_t {z : Int} (h1 : -2147483648 ≤ z) (h2 : z < 2147483648) : (iI z).toInt = z := Int32.toInt_ofInt_of_le (by omega) (by omega)
theorem iJ_lt {x y : Int} (h1 : -5000 ≤ x) (h2 : x ≤ 5000) (h3 : -5000 ≤ y) (h4 : y ≤ 5000) : iI x < iI y ↔ x < y := by
  rw [Int32.lt_iff_toInt_lt, iJ_t (by omega) (by omega), iJ_t (by omega) (by omega)]
theorem iJ_le {x y : Int} (h1 : -5000 ≤ x) (h2 : x ≤ 5000) (h3 : -5000 ≤ y) (h4 : y ≤ 5000) : iI x ≤ iI y ↔ x ≤ y := by
  rw [Int32.le_iff_toInt_le, iJ_t (by omega) (by omega), iJ_t (by omega) (by omega)]
theorem iJ_nle {x : Int} {n : Nat} (h1 : -5000 ≤ x) (h2 : x ≤ 5000) (h4 : n ≤ 5000) : iI x ≤ nI n ↔ x ≤ n := by
  rw [iI_n, iJ_le h1 h2 (by omega) (by omega)]
theorem iJ_nlt {x : Int} {n : Nat} (h1 : -5000 ≤ x) (h2 : x ≤ 5000) (h4 : n ≤ 5000) : nI n < iI x ↔ (n : Int) < x := by
  rw [iI_n, iJ_lt (by omega) (by omega) h1 h2]
theorem rg_e {z : Int} {x y : Int32} : iI z + (x - y) = iI (z + (x.toInt - y.toInt)) := by
  unfold iI
  rw [Int32.ofInt_add, Int32.ofInt_sub, Int32.ofInt_toInt, Int32.ofInt_toInt]
theorem mx0 {x : Int} (h1 : -5000 ≤ x) (h2 : x ≤ 5000) : (if nI 0 < iI x then iI x else nI 0) = nI x.toNat := by
  by_cases h : 0 < x
  · rw [if_pos ((iJ_nlt (n := 0) h1 h2 (by omega)).mpr (by omega)), iI_n, Int.toNat_of_nonneg (by omega)]
  · rw [if_neg (fun z => h (by have := (iJ_nlt (n := 0) h1 h2 (by omega)).mp z; omega)), show x.toNat = 0 by omega]
theorem mxI {x y : Int} (h1 : -5000 ≤ x) (h2 : x ≤ 5000) (h3 : -5000 ≤ y) (h4 : y ≤ 5000) : (if iI x < iI y then iI y else iI x) = iI (if x < y then y else x) := by
  by_cases h : x < y
  · rw [if_pos ((iJ_lt h1 h2 h3 h4).mpr h), if_pos h]
  · rw [if_neg (fun z => h ((iJ_lt h1 h2 h3 h4).mp z)), if_neg h]
/-- what is drawn, as a number -/
def drN (s : Int32) (n : Nat) : Nat := (s.toBitVec.toNat / 65536) % n
theorem drw_N {s : Int32} {n : Nat} (h0 : 0 < n) (hn : n < 2 ^ 31) : drw s (nI n) = nI (drN s n) := by
  have h1 := pk_ushr s (nI 16) 16 (by decide)
  have h2 : s.toBitVec.toNat < 2 ^ 32 := s.toBitVec.isLt
  have h3 : (s.toUInt32 >>> (Int32.toUInt32 16 &&& Int32.toUInt32 31)).toInt32 = nI (s.toBitVec.toNat / 65536) := by
    refine Int32.toBitVec_inj.mp (BitVec.eq_of_toNat_eq ?_)
    rw [pk_tn (by omega)]
    exact h1
  unfold drw drN
  rw [h3, pk_rem (by omega) h0 hn]
theorem drN_lt {s : Int32} {n : Nat} (h0 : 0 < n) : drN s n < n := Nat.mod_lt _ h0
/-- regrets, where, the last drawn, as they came first, how often -/
abbrev Pw : Type := (Nat → Int) × Nat × Int32 × List Nat × (Nat → Nat)
def rgB (sh : Nat) (pay : Nat → Int32) (R : Nat → Int) (p i b : Nat) : Nat → Int := fun k => if (k / 3 < i ∨ (k / 3 = i ∧ k % 3 < b)) ∧ k / 3 < plr sh ∧ k % 3 < hsN sh (k / 3) then R k + ((pay (9 * (k / 3) + ins sh (k / 3) p (k % 3))).toInt - (pay (9 * (k / 3) + p)).toInt) else R k
def rgA (sh : Nat) (pay : Nat → Int32) (R : Nat → Int) (p : Nat) : Nat → Int := rgB sh pay R p 3 0
def bkP (sh : Nat) (pay : Nat → Int32) (x : Pw) : Pw := (rgA sh pay x.1 x.2.1, x.2.1, x.2.2.1, if x.2.2.2.2 x.2.1 = 0 then x.2.2.2.1 ++ [x.2.1] else x.2.2.2.1, fun p => if p = x.2.1 then x.2.2.2.2 p + 1 else x.2.2.2.2 p)
def cumR (R : Nat → Int) (i n : Nat) : Nat := fd (fun b s => s + (R (3 * i + b)).toNat) 0 n
def pkN (R : Nat → Int) (i m : Nat) : Nat → Nat → Nat
  | 0, _ => 0
  | n + 1, b => if m < cumR R i (b + 1) then b else pkN R i m n (b + 1)
def bsR (R : Nat → Int) (i n : Nat) : Nat := fd (fun b s => if R (3 * i + s) < R (3 * i + b) then b else s) 0 n
def chc (sh : Nat) (R : Nat → Int) (rule at' i : Nat) (s : Int32) : Nat × Int32 := if rule = 0 then (bsR R i (hsN sh i), s) else if cumR R i (hsN sh i) = 0 then (act sh i at', s) else (pkN R i (drN (rnd s) (cumR R i (hsN sh i))) (hsN sh i) 0, rnd s)
def plyF (sh : Nat) (R : Nat → Int) (rule at' : Nat) (s : Int32) (n : Nat) : Nat × Int32 := fd (fun i x => (x.1 + srN sh i * (chc sh R rule at' i x.2).1, (chc sh R rule at' i x.2).2)) (0, s) n
def nxP (sh : Nat) (pay : Nat → Int32) (rule : Nat) (x : Pw) : Pw := bkP sh pay (x.1, (plyF sh x.1 rule x.2.1 x.2.2.1 (plr sh)).1, (plyF sh x.1 rule x.2.1 x.2.2.1 (plr sh)).2, x.2.2.2)
def rnP (sh : Nat) (pay : Nat → Int32) (rule : Nat) (seed : Int32) (from' : Nat) : Nat → Pw
  | 0 => bkP sh pay (fun _ => 0, from', seed, [], fun _ => 0)
  | n + 1 => nxP sh pay rule (rnP sh pay rule seed from' n)
def msR (sh : Nat) (R : Nat → Int) (n : Nat) : Int := fd (fun i s => fd (fun b s => if s < R (3 * i + b) then R (3 * i + b) else s) s (hsN sh i)) (R 0) n
theorem bsR_lt {R : Nat → Int} {i h : Nat} (h0 : 0 < h) : ∀ n, n ≤ h → bsR R i n < h := fun n hn => fd_inv (I := fun _ x => x < h) h0 n (fun b x hb hx => by split <;> omega)
theorem bsR_1 {R : Nat → Int} {i : Nat} : bsR R i 1 = 0 := by
  show (if _ then 0 else 0) = 0
  split <;> rfl
theorem pkN_lt {R : Nat → Int} {i m h : Nat} (h0 : 0 < h) : ∀ n b, b + n ≤ h → pkN R i m n b < h
  | 0, b, _ => h0
  | n + 1, b, hb => by
    show (if m < cumR R i (b + 1) then b else pkN R i m n (b + 1)) < h
    split
    · omega
    · exact pkN_lt h0 n (b + 1) (by omega)
theorem sr_lt : ∀ sh, sh < 5 → ∀ a, a < hsN sh 0 → ∀ b, b < hsN sh 1 → 0 + srN sh 0 * a + srN sh 1 * b < prf sh ∧ (plr sh = 3 → ∀ c, c < hsN sh 2 → 0 + srN sh 0 * a + srN sh 1 * b + srN sh 2 * c < prf sh) := by decide
theorem ply_lt {sh : Nat} {R : Nat → Int} {rule at' : Nat} {s : Int32} (h5 : sh < 5) (ha : at' < prf sh) : (plyF sh R rule at' s (plr sh)).1 < prf sh := by
  obtain ⟨⟨l1, l2, l3, l4⟩, l5⟩ := sh_ok sh h5
  have hc : ∀ i, i < plr sh → ∀ s, (chc sh R rule at' i s).1 < hsN sh i := by
    intro i hi s
    obtain ⟨l6, l7⟩ := l5 i hi
    unfold chc
    split
    · exact bsR_lt (by omega) _ (Nat.le_refl _)
    · split
      · exact (l7 at' ha).1
      · exact pkN_lt (by omega) _ _ (by omega)
  by_cases e : plr sh = 3
  · rw [e]
    exact (sr_lt sh h5 _ (hc 0 (by omega) _) _ (hc 1 (by omega) _)).2 e _ (hc 2 (by omega) _)
  · rw [show plr sh = 2 by omega]
    exact (sr_lt sh h5 _ (hc 0 (by omega) _) _ (hc 1 (by omega) _)).1
def PI (sh r : Nat) (x : Pw) : Prop := x.2.1 < prf sh ∧ (∀ k, -(18 * (r : Int)) ≤ x.1 k ∧ x.1 k ≤ 18 * (r : Int)) ∧ x.2.2.2.1.length = cnt (fun p => decide (0 < x.2.2.2.2 p)) 9 ∧ (∀ k, k < x.2.2.2.1.length → x.2.2.2.1.getD k 0 < 9) ∧ ∀ p, x.2.2.2.2 p ≤ r
theorem cnt_le {f : Nat → Bool} : ∀ n, cnt f n ≤ n
  | 0 => Nat.le_refl 0
  | n + 1 => by
    have := cnt_le (f := f) n
    show cnt f n + (if f n = true then 1 else 0) ≤ n + 1
    split <;> omega
theorem cnt_c {f g : Nat → Bool} : ∀ n, (∀ p, p < n → f p = g p) → cnt f n = cnt g n
  | 0, _ => rfl
  | n + 1, h => by
    show cnt f n + (if f n = true then 1 else 0) = cnt g n + (if g n = true then 1 else 0)
    rw [cnt_c n (fun p hp => h p (by omega)), h n (by omega)]
theorem cnt_one {f g : Nat → Bool} {q : Nat} : ∀ n, q < n → f q = false → g q = true → (∀ p, p ≠ q → f p = g p) → cnt g n = cnt f n + 1
  | 0, h, _, _, _ => by omega
  | n + 1, h, h1, h2, h3 => by
    show cnt g n + (if g n = true then 1 else 0) = cnt f n + (if f n = true then 1 else 0) + 1
    by_cases e : q = n
    · subst e
      rw [cnt_c (f := g) (g := f) q (fun p hp => (h3 p (by omega)).symm), if_pos h2, if_neg (by rw [h1]; decide)]
    · rw [cnt_one n (by omega) h1 h2 h3, h3 n (fun z => e z.symm)]
      omega
theorem PI.bk {sh r : Nat} {pay : Nat → Int32} {x : Pw} (h5 : sh < 5) (hp : pB pay) (h : PI sh r x) : PI sh (r + 1) (bkP sh pay x) ∧ (x.2.2.2.2 x.2.1 = 0 → x.2.2.2.1.length < 9) := by
  obtain ⟨⟨l1, l2, l3, l4⟩, l5⟩ := sh_ok sh h5
  obtain ⟨h1, h2, h3, h4, h6⟩ := h
  have hc : x.2.2.2.2 x.2.1 = 0 → cnt (fun p => decide (0 < (bkP sh pay x).2.2.2.2 p)) 9 = cnt (fun p => decide (0 < x.2.2.2.2 p)) 9 + 1 := by
    intro e
    refine cnt_one (q := x.2.1) 9 (by omega) (by rw [e]; rfl) ?_ (fun p hne => ?_)
    · show decide (0 < if x.2.1 = x.2.1 then x.2.2.2.2 x.2.1 + 1 else _) = true
      rw [if_pos rfl]
      exact decide_eq_true (by omega)
    · show _ = decide (0 < if p = x.2.1 then _ else x.2.2.2.2 p)
      rw [if_neg hne]
  have hl : x.2.2.2.2 x.2.1 = 0 → x.2.2.2.1.length < 9 := by
    intro e
    have := hc e
    have := cnt_le (f := fun p => decide (0 < (bkP sh pay x).2.2.2.2 p)) 9
    omega
  refine ⟨⟨h1, fun k => ?_, ?_, fun k hk => ?_, fun p => ?_⟩, hl⟩
  · have h7 := h2 k
    show _ ≤ rgB sh pay x.1 x.2.1 3 0 k ∧ rgB sh pay x.1 x.2.1 3 0 k ≤ _
    unfold rgB
    split
    · rename_i e
      have l11 := (((l5 _ e.2.1).2 _ h1).2.2 _ e.2.2).1
      have b1 := hp (9 * (k / 3) + ins sh (k / 3) x.2.1 (k % 3)) (by omega)
      have b2 := hp (9 * (k / 3) + x.2.1) (by omega)
      omega
    · omega
  · show (if x.2.2.2.2 x.2.1 = 0 then x.2.2.2.1 ++ [x.2.1] else x.2.2.2.1).length = _
    by_cases e : x.2.2.2.2 x.2.1 = 0
    · rw [if_pos e, hc e, List.length_append, List.length_singleton, h3]
    · rw [if_neg e, h3]
      refine cnt_c 9 (fun p _ => ?_)
      show _ = decide (0 < if p = x.2.1 then x.2.2.2.2 p + 1 else x.2.2.2.2 p)
      by_cases e2 : p = x.2.1
      · rw [if_pos e2, e2, decide_eq_true (show 0 < x.2.2.2.2 x.2.1 by omega), decide_eq_true (by omega)]
      · rw [if_neg e2]
  · have hk' : k < (if x.2.2.2.2 x.2.1 = 0 then x.2.2.2.1 ++ [x.2.1] else x.2.2.2.1).length := hk
    show (if x.2.2.2.2 x.2.1 = 0 then x.2.2.2.1 ++ [x.2.1] else x.2.2.2.1).getD k 0 < 9
    by_cases e : x.2.2.2.2 x.2.1 = 0
    · rw [if_pos e] at hk' ⊢
      rw [List.length_append, List.length_singleton] at hk'
      by_cases e2 : k = x.2.2.2.1.length
      · subst e2
        simp [List.getD_eq_getElem?_getD]
        omega
      · have := h4 k (by omega)
        simp only [List.getD_eq_getElem?_getD, List.getElem?_append_left (show k < x.2.2.2.1.length by omega)] at this ⊢
        exact this
    · rw [if_neg e] at hk' ⊢
      exact h4 k hk'
  · have := h6 p
    show (if p = x.2.1 then x.2.2.2.2 p + 1 else x.2.2.2.2 p) ≤ r + 1
    split <;> omega
theorem PI.rn {sh : Nat} {pay : Nat → Int32} {rule : Nat} {seed : Int32} {from' : Nat} (h5 : sh < 5) (hp : pB pay) (hf : from' < prf sh) : ∀ n, PI sh (n + 1) (rnP sh pay rule seed from' n)
  | 0 => (PI.bk (r := 0) (x := (fun _ => 0, from', seed, [], fun _ => 0)) h5 hp ⟨hf, fun _ => by dsimp only; omega, rfl, fun k hk => absurd hk (Nat.not_lt_zero k), fun _ => Nat.le_refl 0⟩).1
  | n + 1 => by
    have ih := PI.rn (rule := rule) (seed := seed) h5 hp hf n
    exact (PI.bk (r := n + 1) (x := ((rnP sh pay rule seed from' n).1, (plyF sh (rnP sh pay rule seed from' n).1 rule (rnP sh pay rule seed from' n).2.1 (rnP sh pay rule seed from' n).2.2.1 (plr sh)).1, (plyF sh (rnP sh pay rule seed from' n).1 rule (rnP sh pay rule seed from' n).2.1 (rnP sh pay rule seed from' n).2.2.1 (plr sh)).2, (rnP sh pay rule seed from' n).2.2.2)) h5 hp ⟨ply_lt h5 ih.1, ih.2⟩).1
/-- the class's picture -/
def MX (M : amM) (x : Pw) : Prop := (∀ k, k < 9 → M 106 0 k = iI (x.1 k)) ∧ M 1256 0 0 = nI x.2.1 ∧ M 1050 1 0 = x.2.2.1 ∧ M 1254 0 0 = nI x.2.2.2.1.length ∧ (∀ k, k < x.2.2.2.1.length → M 108 0 k = nI (x.2.2.2.1.getD k 0)) ∧ ∀ p, p < 9 → M 107 0 p = nI (x.2.2.2.2 p)
def FrP (M M1 : amM) : Prop := ∀ c j k, ¬ (106 ≤ c ∧ c ≤ 108) → c ≠ 1050 → ¬ (1254 ≤ c ∧ c ≤ 1256) → M1 c j k = M c j k
section PLAY
variable {d g t jk X sh : Nat} {M M1 M2 : amM} {J J1 J2 : amJ} {Q : Option amV → amS → Prop} {pay tok tk : Nat → Int32}
theorem FrP.r (h : FrP M M1) : FrR M M1 := fun c j k hp => h c j k (by unfold Pc at hp; omega) (by unfold Pc at hp; omega) (by unfold Pc at hp; omega)
theorem FrP.gv (h : FrP M M1) (hV : GV M 0 sh pay tok) : GV M1 0 sh pay tok := h.r.gv (by decide) hV
theorem FrP.trans (h1 : FrP M M1) (h2 : FrP M1 M2) : FrP M M2 := fun c j k a b e => by rw [h2 c j k a b e, h1 c j k a b e]
theorem c121 {x : Pw} {r : Nat} (hV : GV M 0 sh pay tok) (hx : MX M x) (hI : PI sh r x) (hr : r ≤ 61) (hp : pB pay) (H : ∀ M1, FrP M M1 → M1 1255 0 0 = M 1255 0 0 → MX M1 (bkP sh pay x) → Q none (M1, J, (jk, 149, 147, X))) : Call (d + 2) 121 [vR 5 0, vR 2 0] (M, J, (jk, 149, 147, X)) Q := by
  obtain ⟨⟨l1, l2, l3, l4⟩, l5⟩ := sh_ok sh hV.1.1
  have hG := hV.1
  have h0 : (0 : Nat) < 13 := by decide
  obtain ⟨x1, x2, x3, x4, x5, x6⟩ := hx
  obtain ⟨R, at', s, ord, tms⟩ := x
  dsimp only at x1 x2 x3 x4 x5 x6
  have hlt := (PI.bk (pay := pay) hG.1 hp hI).2
  obtain ⟨p1, p2, p3, p4, p6⟩ := hI
  dsimp only at p1 p2 p3 p4 p6 hlt
  have et : M 107 0 at' = nI (tms at') := x6 at' (by omega)
  have ht6 := p6 at'
  have key : ∀ M1 : amM, (∀ c j k, c ≠ 107 → c ≠ 108 → c ≠ 1254 → M1 c j k = M c j k) → (M1 1254 0 0 = nI (if tms at' = 0 then ord ++ [at'] else ord).length ∧ (∀ k, k < (if tms at' = 0 then ord ++ [at'] else ord).length → M1 108 0 k = nI ((if tms at' = 0 then ord ++ [at'] else ord).getD k 0)) ∧ ∀ p, p < 9 → M1 107 0 p = nI (if p = at' then tms p + 1 else tms p)) → Ev (d + 1) 121 59 [some (vR 5 0), some (vR 2 0), some (vI (nI 0)), none] [] (M1, J, (jk, 149, 147, X)) Q := by
    intro M1 f1 f2
    refine lpH (T := Unit) (U := Option amV) (P := plr sh) (E := fun k M1 J1 u x => Ev (d + 1) 121 59 [some (vR 5 (0)), some (vR 2 (0)), some (vI (nI k)), u] [] (M1, J1, (jk, 149, 147, X)) Q) (I := fun k M2 J1 _ => J = J1 ∧ (∀ c j k, c ≠ 106 → M2 c j k = M1 c j k) ∧ ∀ q, q < 9 → M2 106 0 q = iI (rgB sh pay R at' k 0 q)) (fun M2 J1 u x hI => ?_) (fun i M2 J1 u x hi hI next => ?_) 0 _ _ none () (by omega) ⟨rfl, fun _ _ _ _ => rfl, fun q hq => by rw [f1 _ _ _ (by omega) (by omega) (by omega), x1 q hq]; unfold rgB; rw [if_neg (by omega)]⟩
    · obtain ⟨rfl, i1, i2⟩ := hI
      have hG2 : GS M2 0 sh := hG.of (fun c k h => by rw [i1 c 0 k (by omega), f1 c 0 k (by omega) (by omega) (by omega)])
      rw [h_121_59]
      simp (disch := omega) only [s_121_0, s_121_1, s_121_4, s_121_5, s_121_8, s_121_9, s_121_12, s_121_13, s_121_16, s_121_18, s_121_21, s_121_22, s_121_25, s_121_26, s_121_29, s_121_30, s_121_33, s_121_34, s_121_35, s_121_36, s_121_39, s_121_40, s_121_41, s_121_44, s_121_45, s_121_48, s_121_49, s_121_52, s_121_53, s_121_54, s_121_55, s_121_56, s_121_57, s_121_58, s_121_60, s_121_61, s_121_64, s_121_67, s_121_68, s_121_70, s_121_71, s_121_74, s_121_75, s_121_76, s_121_79, s_121_80, s_121_83, s_121_84, s_121_85, s_121_86, s_121_87, s_121_88, s_121_89, s_121_90, s_121_91, s_121_92, s_121_93, s_121_94, s_121_95, s_121_98, s_121_99, s_121_102, s_121_105, s_121_106, s_121_107, s_121_108, s_121_111, s_121_114, s_121_115, s_121_116, s_121_117, s_121_120, s_121_123, s_121_126, s_121_129, amLong_I, amLong_R, amLong_N, amLong_L, cond_true, cond_false, Option.toList_some, Option.toList_none, List.cons_append, List.nil_append, List.append_nil, setE, setN, cpy_set, lit, nle, nlt, neq, inb_iff, cl_nI, tle, fle, tlt, flt, teq, feq, m9, m3, x9, x3, nI_add, nsub, upN, upE, b0', b01', r100, w100, r101, w101, r102, w102, r103, w103, r104, w104, r105, w105, r106, w106, r107, w107, r108, w108, w109, w110, r111, w111, r112, w112, r113, w113, r114, w114, r115, w115, r116, w116, r117, w117, r118, w118, r119, w119, w120, w121, r122, w122, r130, w130, w131, w132, r133, w133, r134, w134, r135, w135, r136, w136, r137, w137, r138, w138, r139, w139, r140, w140, r141, w141, w142, r143, w143, r144, w144, r145, w145, r146, w146, w147, w150, b1', em1, Bool.false_eq_true, not_true_eq_false, not_false_eq_true, false_implies, true_implies, and_true, true_and, if_true, if_false, implies_true, Classical.not_not, true_or, or_true, false_or, or_false, and_self, ite_true, ite_false, reduceIte, hG2.2.1]
      refine H M2 (fun c j k a b e => ?_) ?_ ⟨fun q hq => ?_, ?_, ?_, ?_, fun k hk => ?_, fun p hp => ?_⟩
      · rw [i1 c j k (by omega), f1 c j k (by omega) (by omega) (by omega)]
      · rw [i1 _ _ _ (by omega), f1 _ _ _ (by omega) (by omega) (by omega)]
      · rw [i2 q hq]
        show iI _ = iI (rgB sh pay R at' 3 0 q)
        unfold rgB
        by_cases e : q / 3 < plr sh ∧ q % 3 < hsN sh (q / 3)
        · rw [if_pos ⟨by omega, e⟩, if_pos ⟨by omega, e⟩]
        · rw [if_neg (fun z => e z.2), if_neg (fun z => e z.2)]
      · rw [i1 _ _ _ (by omega), f1 _ _ _ (by omega) (by omega) (by omega), x2]
        rfl
      · rw [i1 _ _ _ (by omega), f1 _ _ _ (by omega) (by omega) (by omega), x3]
        rfl
      · rw [i1 _ _ _ (by omega), f2.1]
        rfl
      · rw [i1 _ _ _ (by omega), f2.2.1 k hk]
        rfl
      · rw [i1 _ _ _ (by omega), f2.2.2 p hp]
        rfl
    · obtain ⟨rfl, i1, i2⟩ := hI
      obtain ⟨l6, l7⟩ := l5 i hi
      obtain ⟨l8, l9, l10⟩ := l7 at' p1
      have hG2 : GS M2 0 sh := hG.of (fun c k h => by rw [i1 c 0 k (by omega), f1 c 0 k (by omega) (by omega) (by omega)])
      rw [h_121_59]
      simp (disch := omega) only [s_121_0, s_121_1, s_121_4, s_121_5, s_121_8, s_121_9, s_121_12, s_121_13, s_121_16, s_121_18, s_121_21, s_121_22, s_121_25, s_121_26, s_121_29, s_121_30, s_121_33, s_121_34, s_121_35, s_121_36, s_121_39, s_121_40, s_121_41, s_121_44, s_121_45, s_121_48, s_121_49, s_121_52, s_121_53, s_121_54, s_121_55, s_121_56, s_121_57, s_121_58, s_121_60, s_121_61, s_121_64, s_121_67, s_121_68, s_121_70, s_121_71, s_121_74, s_121_75, s_121_76, s_121_79, s_121_80, s_121_83, s_121_84, s_121_85, s_121_86, s_121_87, s_121_88, s_121_89, s_121_90, s_121_91, s_121_92, s_121_93, s_121_94, s_121_95, s_121_98, s_121_99, s_121_102, s_121_105, s_121_106, s_121_107, s_121_108, s_121_111, s_121_114, s_121_115, s_121_116, s_121_117, s_121_120, s_121_123, s_121_126, s_121_129, amLong_I, amLong_R, amLong_N, amLong_L, cond_true, cond_false, Option.toList_some, Option.toList_none, List.cons_append, List.nil_append, List.append_nil, setE, setN, cpy_set, lit, nle, nlt, neq, inb_iff, cl_nI, tle, fle, tlt, flt, teq, feq, m9, m3, x9, x3, nI_add, nsub, upN, upE, b0', b01', r100, w100, r101, w101, r102, w102, r103, w103, r104, w104, r105, w105, r106, w106, r107, w107, r108, w108, w109, w110, r111, w111, r112, w112, r113, w113, r114, w114, r115, w115, r116, w116, r117, w117, r118, w118, r119, w119, w120, w121, r122, w122, r130, w130, w131, w132, r133, w133, r134, w134, r135, w135, r136, w136, r137, w137, r138, w138, r139, w139, r140, w140, r141, w141, w142, r143, w143, r144, w144, r145, w145, r146, w146, w147, w150, b1', em1, Bool.false_eq_true, not_true_eq_false, not_false_eq_true, false_implies, true_implies, and_true, true_and, if_true, if_false, implies_true, Classical.not_not, true_or, or_true, false_or, or_false, and_self, ite_true, ite_false, reduceIte, hG2.2.1]
      refine lpH (T := Unit) (U := Unit) (P := hsN sh i) (E := fun k M1 J1 u x => Ev (d + 1) 121 69 [some (vR 5 (0)), some (vR 2 (0)), some (vI (nI i)), some (vI (nI k))] [] (M1, J1, (jk, 149, 147, X)) Q) (I := fun k M2 J1 _ => J = J1 ∧ (∀ c j k, c ≠ 106 → M2 c j k = M1 c j k) ∧ ∀ q, q < 9 → M2 106 0 q = iI (rgB sh pay R at' i k q)) (fun M2 J1 u x hI => ?_) (fun b M2 J1 u x hb hI next2 => ?_) 0 _ _ () () (by omega) ⟨rfl, i1, i2⟩
      · obtain ⟨rfl, i1, i2⟩ := hI
        have hG2 : GS M2 0 sh := hG.of (fun c k h => by rw [i1 c 0 k (by omega), f1 c 0 k (by omega) (by omega) (by omega)])
        rw [h_121_69]
        simp (disch := omega) only [s_121_0, s_121_1, s_121_4, s_121_5, s_121_8, s_121_9, s_121_12, s_121_13, s_121_16, s_121_18, s_121_21, s_121_22, s_121_25, s_121_26, s_121_29, s_121_30, s_121_33, s_121_34, s_121_35, s_121_36, s_121_39, s_121_40, s_121_41, s_121_44, s_121_45, s_121_48, s_121_49, s_121_52, s_121_53, s_121_54, s_121_55, s_121_56, s_121_57, s_121_58, s_121_60, s_121_61, s_121_64, s_121_67, s_121_68, s_121_70, s_121_71, s_121_74, s_121_75, s_121_76, s_121_79, s_121_80, s_121_83, s_121_84, s_121_85, s_121_86, s_121_87, s_121_88, s_121_89, s_121_90, s_121_91, s_121_92, s_121_93, s_121_94, s_121_95, s_121_98, s_121_99, s_121_102, s_121_105, s_121_106, s_121_107, s_121_108, s_121_111, s_121_114, s_121_115, s_121_116, s_121_117, s_121_120, s_121_123, s_121_126, s_121_129, amLong_I, amLong_R, amLong_N, amLong_L, cond_true, cond_false, Option.toList_some, Option.toList_none, List.cons_append, List.nil_append, List.append_nil, setE, setN, cpy_set, lit, nle, nlt, neq, inb_iff, cl_nI, tle, fle, tlt, flt, teq, feq, m9, m3, x9, x3, nI_add, nsub, upN, upE, b0', b01', r100, w100, r101, w101, r102, w102, r103, w103, r104, w104, r105, w105, r106, w106, r107, w107, r108, w108, w109, w110, r111, w111, r112, w112, r113, w113, r114, w114, r115, w115, r116, w116, r117, w117, r118, w118, r119, w119, w120, w121, r122, w122, r130, w130, w131, w132, r133, w133, r134, w134, r135, w135, r136, w136, r137, w137, r138, w138, r139, w139, r140, w140, r141, w141, w142, r143, w143, r144, w144, r145, w145, r146, w146, w147, w150, b1', em1, Bool.false_eq_true, not_true_eq_false, not_false_eq_true, false_implies, true_implies, and_true, true_and, if_true, if_false, implies_true, Classical.not_not, true_or, or_true, false_or, or_false, and_self, ite_true, ite_false, reduceIte, (hG2.2.2.2.1 i (by omega)).1]
        refine next _ _ _ () ⟨rfl, i1, fun q hq => ?_⟩
        rw [i2 q hq]
        unfold rgB
        by_cases e : (q / 3 < i ∨ (q / 3 = i ∧ q % 3 < hsN sh i)) ∧ q / 3 < plr sh ∧ q % 3 < hsN sh (q / 3)
        · rw [if_pos e, if_pos ⟨by omega, e.2⟩]
        · rw [if_neg e, if_neg (fun z => e ⟨?_, z.2⟩)]
          by_cases e2 : q / 3 = i
          · have := z.2.2
            rw [e2] at this
            omega
          · omega
      · obtain ⟨rfl, i1, i2⟩ := hI
        have l11 := (l10 b hb).1
        have hV2 : GV M2 0 sh pay tok := hV.of (fun c k h => by rw [i1 c 0 k (by omega), f1 c 0 k (by omega) (by omega) (by omega)])
        have e1 : M2 1256 0 0 = nI at' := by rw [i1 _ _ _ (by omega), f1 _ _ _ (by omega) (by omega) (by omega), x2]
        have e2 : M2 106 0 (3 * i + b) = iI (R (3 * i + b)) := by
          rw [i2 _ (by omega)]
          unfold rgB
          rw [if_neg (by omega)]
        rw [h_121_69]
        simp (disch := omega) only [s_121_0, s_121_1, s_121_4, s_121_5, s_121_8, s_121_9, s_121_12, s_121_13, s_121_16, s_121_18, s_121_21, s_121_22, s_121_25, s_121_26, s_121_29, s_121_30, s_121_33, s_121_34, s_121_35, s_121_36, s_121_39, s_121_40, s_121_41, s_121_44, s_121_45, s_121_48, s_121_49, s_121_52, s_121_53, s_121_54, s_121_55, s_121_56, s_121_57, s_121_58, s_121_60, s_121_61, s_121_64, s_121_67, s_121_68, s_121_70, s_121_71, s_121_74, s_121_75, s_121_76, s_121_79, s_121_80, s_121_83, s_121_84, s_121_85, s_121_86, s_121_87, s_121_88, s_121_89, s_121_90, s_121_91, s_121_92, s_121_93, s_121_94, s_121_95, s_121_98, s_121_99, s_121_102, s_121_105, s_121_106, s_121_107, s_121_108, s_121_111, s_121_114, s_121_115, s_121_116, s_121_117, s_121_120, s_121_123, s_121_126, s_121_129, amLong_I, amLong_R, amLong_N, amLong_L, cond_true, cond_false, Option.toList_some, Option.toList_none, List.cons_append, List.nil_append, List.append_nil, setE, setN, cpy_set, lit, nle, nlt, neq, inb_iff, cl_nI, tle, fle, tlt, flt, teq, feq, m9, m3, x9, x3, nI_add, nsub, upN, upE, b0', b01', r100, w100, r101, w101, r102, w102, r103, w103, r104, w104, r105, w105, r106, w106, r107, w107, r108, w108, w109, w110, r111, w111, r112, w112, r113, w113, r114, w114, r115, w115, r116, w116, r117, w117, r118, w118, r119, w119, w120, w121, r122, w122, r130, w130, w131, w132, r133, w133, r134, w134, r135, w135, r136, w136, r137, w137, r138, w138, r139, w139, r140, w140, r141, w141, w142, r143, w143, r144, w144, r145, w145, r146, w146, w147, w150, b1', em1, Bool.false_eq_true, not_true_eq_false, not_false_eq_true, false_implies, true_implies, and_true, true_and, if_true, if_false, implies_true, Classical.not_not, true_or, or_true, false_or, or_false, and_self, ite_true, ite_false, reduceIte, (hV2.1.2.2.2.1 i (by omega)).1, e1, e2, c52 h0 hV2.1 hi p1, c33 h0, hV2.2.1, rg_e]
        refine next2 _ _ () () ⟨rfl, fun c j k h => ?_, fun q hq => ?_⟩
        · rw [upN (by omega), i1 c j k h]
        · by_cases e3 : q = 3 * i + b
          · subst e3
            rw [upE ⟨rfl, rfl, rfl⟩]
            unfold rgB
            rw [show (3 * i + b) / 3 = i by omega, show (3 * i + b) % 3 = b by omega, if_pos (by omega)]
          · rw [upN (by omega), i2 q hq]
            unfold rgB
            by_cases e4 : (q / 3 < i ∨ (q / 3 = i ∧ q % 3 < b)) ∧ q / 3 < plr sh ∧ q % 3 < hsN sh (q / 3)
            · rw [if_pos e4, if_pos ⟨by omega, e4.2⟩]
            · rw [if_neg e4, if_neg (fun z => e4 ⟨by omega, z.2⟩)]
  rw [e_121]
  by_cases e : tms at' = 0
  · have hl := hlt e
    rw [e] at et
    simp (disch := omega) only [s_121_0, s_121_1, s_121_4, s_121_5, s_121_8, s_121_9, s_121_12, s_121_13, s_121_16, s_121_18, s_121_21, s_121_22, s_121_25, s_121_26, s_121_29, s_121_30, s_121_33, s_121_34, s_121_35, s_121_36, s_121_39, s_121_40, s_121_41, s_121_44, s_121_45, s_121_48, s_121_49, s_121_52, s_121_53, s_121_54, s_121_55, s_121_56, s_121_57, s_121_58, s_121_60, s_121_61, s_121_64, s_121_67, s_121_68, s_121_70, s_121_71, s_121_74, s_121_75, s_121_76, s_121_79, s_121_80, s_121_83, s_121_84, s_121_85, s_121_86, s_121_87, s_121_88, s_121_89, s_121_90, s_121_91, s_121_92, s_121_93, s_121_94, s_121_95, s_121_98, s_121_99, s_121_102, s_121_105, s_121_106, s_121_107, s_121_108, s_121_111, s_121_114, s_121_115, s_121_116, s_121_117, s_121_120, s_121_123, s_121_126, s_121_129, amLong_I, amLong_R, amLong_N, amLong_L, cond_true, cond_false, Option.toList_some, Option.toList_none, List.cons_append, List.nil_append, List.append_nil, setE, setN, cpy_set, lit, nle, nlt, neq, inb_iff, cl_nI, tle, fle, tlt, flt, teq, feq, m9, m3, x9, x3, nI_add, nsub, upN, upE, b0', b01', r100, w100, r101, w101, r102, w102, r103, w103, r104, w104, r105, w105, r106, w106, r107, w107, r108, w108, w109, w110, r111, w111, r112, w112, r113, w113, r114, w114, r115, w115, r116, w116, r117, w117, r118, w118, r119, w119, w120, w121, r122, w122, r130, w130, w131, w132, r133, w133, r134, w134, r135, w135, r136, w136, r137, w137, r138, w138, r139, w139, r140, w140, r141, w141, w142, r143, w143, r144, w144, r145, w145, r146, w146, w147, w150, b1', em1, Bool.false_eq_true, not_true_eq_false, not_false_eq_true, false_implies, true_implies, and_true, true_and, if_true, if_false, implies_true, Classical.not_not, true_or, or_true, false_or, or_false, and_self, ite_true, ite_false, reduceIte, x2, et, x4]
    refine key _ (fun c j k a b f => ?_) ⟨?_, fun k hk => ?_, fun p hp => ?_⟩
    · rw [upN (by omega), upN (by omega), upN (by omega)]
    · rw [upN (by omega), upE ⟨rfl, rfl, rfl⟩, if_pos e]
      simp
    · rw [if_pos e] at hk ⊢
      rw [List.length_append, List.length_singleton] at hk
      by_cases e2 : k = ord.length
      · subst e2
        rw [upN (by omega), upN (by omega), upE ⟨rfl, rfl, rfl⟩]
        simp [List.getD_eq_getElem?_getD]
      · rw [upN (by omega), upN (by omega), upN (by omega), x5 k (by omega)]
        simp [List.getD_eq_getElem?_getD, List.getElem?_append_left (show k < ord.length by omega)]
    · by_cases e2 : p = at'
      · subst e2
        rw [upE ⟨rfl, rfl, rfl⟩, if_pos rfl, e]
      · rw [upN (by omega), upN (by omega), upN (by omega), if_neg e2, x6 p hp]
  · simp (disch := omega) only [s_121_0, s_121_1, s_121_4, s_121_5, s_121_8, s_121_9, s_121_12, s_121_13, s_121_16, s_121_18, s_121_21, s_121_22, s_121_25, s_121_26, s_121_29, s_121_30, s_121_33, s_121_34, s_121_35, s_121_36, s_121_39, s_121_40, s_121_41, s_121_44, s_121_45, s_121_48, s_121_49, s_121_52, s_121_53, s_121_54, s_121_55, s_121_56, s_121_57, s_121_58, s_121_60, s_121_61, s_121_64, s_121_67, s_121_68, s_121_70, s_121_71, s_121_74, s_121_75, s_121_76, s_121_79, s_121_80, s_121_83, s_121_84, s_121_85, s_121_86, s_121_87, s_121_88, s_121_89, s_121_90, s_121_91, s_121_92, s_121_93, s_121_94, s_121_95, s_121_98, s_121_99, s_121_102, s_121_105, s_121_106, s_121_107, s_121_108, s_121_111, s_121_114, s_121_115, s_121_116, s_121_117, s_121_120, s_121_123, s_121_126, s_121_129, amLong_I, amLong_R, amLong_N, amLong_L, cond_true, cond_false, Option.toList_some, Option.toList_none, List.cons_append, List.nil_append, List.append_nil, setE, setN, cpy_set, lit, nle, nlt, neq, inb_iff, cl_nI, tle, fle, tlt, flt, teq, feq, m9, m3, x9, x3, nI_add, nsub, upN, upE, b0', b01', r100, w100, r101, w101, r102, w102, r103, w103, r104, w104, r105, w105, r106, w106, r107, w107, r108, w108, w109, w110, r111, w111, r112, w112, r113, w113, r114, w114, r115, w115, r116, w116, r117, w117, r118, w118, r119, w119, w120, w121, r122, w122, r130, w130, w131, w132, r133, w133, r134, w134, r135, w135, r136, w136, r137, w137, r138, w138, r139, w139, r140, w140, r141, w141, w142, r143, w143, r144, w144, r145, w145, r146, w146, w147, w150, b1', em1, Bool.false_eq_true, not_true_eq_false, not_false_eq_true, false_implies, true_implies, and_true, true_and, if_true, if_false, implies_true, Classical.not_not, true_or, or_true, false_or, or_false, and_self, ite_true, ite_false, reduceIte, x2, et]
    refine key _ (fun c j k a b f => upN (by omega)) ⟨?_, fun k hk => ?_, fun p hp => ?_⟩
    · rw [upN (by omega), if_neg e, x4]
    · rw [if_neg e] at hk ⊢
      rw [upN (by omega), x5 k hk]
    · by_cases e2 : p = at'
      · subst e2
        rw [upE ⟨rfl, rfl, rfl⟩, if_pos rfl]
      · rw [upN (by omega), if_neg e2, x6 p hp]
end PLAY
