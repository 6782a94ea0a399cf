/-! rules whose conditions omega finds -/
theorem lit (m : Nat) : (no_index (OfNat.ofNat m) : Int32) = nI m := rfl
theorem nle {a b : Nat} (ha : a < 2 ^ 31) (hb : b < 2 ^ 31) : nI a ≤ nI b ↔ a ≤ b := by
  rw [Int32.le_iff_toInt_le, nI_toInt ha, nI_toInt hb]
  omega
theorem nlt {a b : Nat} (ha : a < 2 ^ 31) (hb : b < 2 ^ 31) : nI a < nI b ↔ a < b := by
  rw [Int32.lt_iff_toInt_lt, nI_toInt ha, nI_toInt hb]
  omega
theorem nle0 {b : Nat} (hb : b < 2 ^ 31) : (0 : Int32) ≤ nI b ↔ True := iff_true_intro (nI_pos' hb)
theorem neq {a b : Nat} (ha : a < 2 ^ 31) (hb : b < 2 ^ 31) : nI a = nI b ↔ a = b := nI_eq ha hb
theorem inb_iff {k n : Nat} (h : k < 2 ^ 31) : inb (nI k) n ↔ k < n := by
  unfold inb
  rw [nI_toInt h]
  omega
theorem tle {a b : Nat} (h : a ≤ b) : (a ≤ b) = True := eq_true h
theorem fle {a b : Nat} (h : ¬ a ≤ b) : (a ≤ b) = False := eq_false h
theorem tlt {a b : Nat} (h : a < b) : (a < b) = True := eq_true h
theorem flt {a b : Nat} (h : ¬ a < b) : (a < b) = False := eq_false h
theorem teq {a b : Nat} (h : a = b) : (a = b) = True := eq_true h
theorem feq {a b : Nat} (h : ¬ a = b) : (a = b) = False := eq_false h
theorem m9 (a : Nat) : nI a * nI 9 = nI (9 * a) := by rw [pk_mul, Nat.mul_comm]
theorem m3 (a : Nat) : nI a * nI 3 = nI (3 * a) := by rw [pk_mul, Nat.mul_comm]
theorem x9 (a : Nat) : nI 9 * nI a = nI (9 * a) := pk_mul ..
theorem x3 (a : Nat) : nI 3 * nI a = nI (3 * a) := pk_mul ..
theorem nsub {a b : Nat} (h : b ≤ a) : nI a - nI b = nI (a - b) := pk_sub h
theorem upN {M : amM} {c i j : Nat} {x : Int32} {c' i' j' : Nat} (h : c' ≠ c ∨ i' ≠ i ∨ j' ≠ j) : upM M c i j x c' i' j' = M c' i' j' := upM_ne (fun z => by omega)
theorem upE {M : amM} {c i j : Nat} {x : Int32} {c' i' j' : Nat} (h : c' = c ∧ i' = i ∧ j' = j) : upM M c i j x c' i' j' = x := by
  obtain ⟨rfl, rfl, rfl⟩ := h
  exact upM_eq
theorem b0' {c : Prop} [Decidable c] : bI c = nI 0 ↔ ¬ c := bI_0
theorem b01' {c : Prop} [Decidable c] : (bI c = nI 0 ∨ bI c = nI 1) ↔ True := bI_01
theorem if_imp {c : Prop} [Decidable c] {A B : Prop} : ((c → A) ∧ (¬ c → B)) ↔ (if c then A else B) := by
  by_cases h : c
  · simp [h]
  · simp [h]
/-- two ways on that end the same way, but for a value -/
theorem two {α : Sort _} {c : Prop} [Decidable c] {E : α → Prop} {a b : α} : ((c → E a) ∧ (¬ c → E b)) ↔ E (if c then a else b) := by
  by_cases h : c
  · simp [h]
  · simp [h]
theorem lpD {P : Nat} {E : Nat → Prop} (hs : ∀ k, k < P → (E k ↔ E (k + 1))) : ∀ (n k : Nat), k + n = P → (E k ↔ E P)
  | 0, k, h => by
    obtain rfl : k = P := by omega
    exact Iff.rfl
  | n + 1, k, h => by rw [hs k (by omega), lpD hs n (k + 1) (by omega)]
/-- a loop that says no at the first place where c holds, else yes -/
theorem lpAll {α : Type} {P : Nat} {E : Nat → α → Prop} {c : Nat → Prop} {G : Int32 → Prop} (b : Bool) (a : α) (hb : b = true ↔ ∀ j, j < P → ¬ c j) (hx : ∀ a, E P a ↔ G (nI 1)) (hs : ∀ k a, k < P → ∃ a', E k a ↔ (c k → G (nI 0)) ∧ (¬ c k → E (k + 1) a')) : E 0 a ↔ G (bI (b = true)) := by
  rw [lpX (c := c) (R := G (nI 0)) (F := G (nI 1)) hx hs P 0 a (by omega)]
  by_cases h : b = true
  · rw [bI_t h]
    exact pick_f (fun ⟨j, _, h2, h3⟩ => hb.mp h j h2 h3)
  · rw [bI_f h]
    exact pick_t (Classical.byContradiction fun h2 => h (hb.mpr fun j h3 h4 => h2 ⟨j, by omega, h3, h4⟩))
/-- a loop that says yes at the first place where c holds, else no -/
theorem lpAny {α : Type} {P : Nat} {E : Nat → α → Prop} {c : Nat → Prop} {G : Int32 → Prop} (b : Bool) (a : α) (hb : b = true ↔ ∃ j, j < P ∧ c j) (hx : ∀ a, E P a ↔ G (nI 0)) (hs : ∀ k a, k < P → ∃ a', E k a ↔ (c k → G (nI 1)) ∧ (¬ c k → E (k + 1) a')) : E 0 a ↔ G (bI (b = true)) := by
  rw [lpX (c := c) (R := G (nI 1)) (F := G (nI 0)) hx hs P 0 a (by omega)]
  by_cases h : b = true
  · rw [bI_t h]
    obtain ⟨j, h2, h3⟩ := hb.mp h
    exact pick_t ⟨j, by omega, h2, h3⟩
  · rw [bI_f h]
    exact pick_f (fun ⟨j, _, h2, h3⟩ => h (hb.mpr ⟨j, h2, h3⟩))
/-- a loop with a promise that is kept; what comes is not chosen -/
theorem lpW {α : Type} {P : Nat} {E : Nat → α → Prop} {I : Nat → α → Prop} (hx : ∀ a, I P a → E P a) (hs : ∀ k a, k < P → I k a → (∀ a', I (k + 1) a' → E (k + 1) a') → E k a) : ∀ (n k : Nat) (a : α), k + n = P → I k a → E k a
  | 0, k, a, h, hi => by
    obtain rfl : k = P := by omega
    exact hx a hi
  | n + 1, k, a, h, hi => hs k a (by omega) hi (fun a' h2 => lpW hx hs n (k + 1) a' (by omega) h2)
/-- places of one array written -/
def setA (M : amM) (c i n : Nat) (f : Nat → Int32) : amM := fun c' i' j' => if (c' = c ∧ i' = i) ∧ j' < n then f j' else M c' i' j'
theorem setE {M : amM} {c i n : Nat} {f : Nat → Int32} {c' i' j' : Nat} (h : c' = c ∧ i' = i ∧ j' < n) : setA M c i n f c' i' j' = f j' := if_pos ⟨⟨h.1, h.2.1⟩, h.2.2⟩
theorem setN {M : amM} {c i n : Nat} {f : Nat → Int32} {c' i' j' : Nat} (h : c' ≠ c ∨ i' ≠ i ∨ n ≤ j') : setA M c i n f c' i' j' = M c' i' j' := if_neg (fun z => by omega)
theorem cpy_set {M : amM} {c i c' i' n : Nat} : amCpy M c i 0 c' i' 0 n = setA M c' i' n (M c i) := by
  funext a b j
  unfold amCpy setA
  by_cases h : (a = c' ∧ b = i') ∧ j < n
  · rw [if_pos h, if_pos (by omega)]
    congr 1
    omega
  · rw [if_neg h, if_neg (by omega)]
/-- an int array that is there, of so many places -/
def arI (c i l : Nat) : Prop := 100 ≤ c ∧ amAl 149 c i = true ∧ amTn c = 0 ∧ amLen c = l
theorem ocp {c i c' i' l l' n : Nat} (h1 : arI c i l) (h2 : arI c' i' l') (h3 : n ≤ l) (h4 : n ≤ l') (h5 : n < 2 ^ 31) : okCp c i (nI 0) c' i' (nI 0) (nI n) := by
  obtain ⟨a1, a2, a3, a4⟩ := h1
  obtain ⟨b1, b2, b3, b4⟩ := h2
  refine ⟨⟨b1, b2, b3⟩, ⟨a1, a2, a3⟩, ⟨nI_pos (by omega), nI_pos (by omega), nI_pos (by omega)⟩, ?_, ?_⟩ <;> rw [cl_nI (by omega), cl_nI (by omega)] <;> omega
theorem c3' {d jk X c i l : Nat} {M : amM} {J : amJ} {Q : Option amV → amS → Prop} {x : Int32} (h : arI c i l) : Call (d + 1) 3 [vR c i, vI x] (M, J, (jk, 149, 147, X)) Q ↔ Q none (setA M c i l (fun _ => x), J, (jk, 149, 147, X)) := by
  obtain ⟨h1, h2, h3, h4⟩ := h
  rw [c3 h1 h3 h2]
  have e : fillM M c i x = setA M c i l (fun _ => x) := by
    unfold fillM setA
    rw [h4]
  rw [e]
theorem foldN_inv {α : Type} {P : Nat} {f : Nat → α → α} {I : α → Prop} (hI : ∀ k a, k < P → I a → I (f k a)) : ∀ (n k : Nat) (a : α), k + n ≤ P → I a → I (foldN f k n a)
  | 0, _, _, _, h => h
  | n + 1, k, a, h, hi => foldN_inv hI n (k + 1) (f k a) (by omega) (hI k a (by omega) hi)
theorem lpFI {α : Type} {P : Nat} {E : Nat → α → Prop} {F : α → Prop} {f : Nat → α → α} {I : α → Prop} (hI : ∀ k a, k < P → I a → I (f k a)) (hx : ∀ a, I a → (E P a ↔ F a)) (hs : ∀ k a, k < P → I a → (E k a ↔ E (k + 1) (f k a))) : ∀ (n k : Nat) (a : α), k + n = P → I a → (E k a ↔ F (foldN f k n a))
  | 0, k, a, h, hi => by
    obtain rfl : k = P := by omega
    exact hx a hi
  | n + 1, k, a, h, hi => by rw [hs k a (by omega) hi, lpFI hI hx hs n (k + 1) (f k a) (by omega) (hI k a (by omega) hi)]; rfl
theorem up_ext {M N : amM} {c i j : Nat} {x : Int32} (h1 : N c i j = x) (h2 : ∀ c' i' j', (c' ≠ c ∨ i' ≠ i ∨ j' ≠ j) → N c' i' j' = M c' i' j') : upM M c i j x = N := by
  funext c' i' j'
  by_cases h : c' = c ∧ i' = i ∧ j' = j
  · obtain ⟨rfl, rfl, rfl⟩ := h
    rw [upM_eq, h1]
  · rw [upM_ne h, h2 c' i' j' (by omega)]

theorem r100 {X : Nat} {i : Nat} {j : Int32} : okR X 100 i j ↔ i < 13 ∧ inb j 3 := okR_iff (by decide) (by decide) rfl
theorem a100 {i : Nat} (h : i < 13) : arI 100 i 3 := ⟨by decide, al_100 h, rfl, rfl⟩
theorem w100 {i : Nat} {j : Int32} : okW 100 i j 0 ↔ i < 13 ∧ inb j 3 := okW_iff (by decide) (by decide) rfl
theorem r101 {X : Nat} {i : Nat} {j : Int32} : okR X 101 i j ↔ i < 13 ∧ inb j 3 := okR_iff (by decide) (by decide) rfl
theorem a101 {i : Nat} (h : i < 13) : arI 101 i 3 := ⟨by decide, al_101 h, rfl, rfl⟩
theorem w101 {i : Nat} {j : Int32} : okW 101 i j 0 ↔ i < 13 ∧ inb j 3 := okW_iff (by decide) (by decide) rfl
theorem r102 {X : Nat} {i : Nat} {j : Int32} : okR X 102 i j ↔ i < 13 ∧ inb j 27 := okR_iff (by decide) (by decide) rfl
theorem a102 {i : Nat} (h : i < 13) : arI 102 i 27 := ⟨by decide, al_102 h, rfl, rfl⟩
theorem w102 {i : Nat} {j : Int32} : okW 102 i j 0 ↔ i < 13 ∧ inb j 27 := okW_iff (by decide) (by decide) rfl
theorem r103 {X : Nat} {i : Nat} {j : Int32} : okR X 103 i j ↔ i < 13 ∧ inb j 27 := okR_iff (by decide) (by decide) rfl
theorem a103 {i : Nat} (h : i < 13) : arI 103 i 27 := ⟨by decide, al_103 h, rfl, rfl⟩
theorem w103 {i : Nat} {j : Int32} : okW 103 i j 0 ↔ i < 13 ∧ inb j 27 := okW_iff (by decide) (by decide) rfl
theorem r104 {X : Nat} {i : Nat} {j : Int32} : okR X 104 i j ↔ i < 13 ∧ inb j 9 := okR_iff (by decide) (by decide) rfl
theorem a104 {i : Nat} (h : i < 13) : arI 104 i 9 := ⟨by decide, al_104 h, rfl, rfl⟩
theorem w104 {i : Nat} {j : Int32} : okW 104 i j 0 ↔ i < 13 ∧ inb j 9 := okW_iff (by decide) (by decide) rfl
theorem r105 {X : Nat} {j : Int32} : okR X 105 0 j ↔ inb j 9 := (okR_iff (c := 105) (i := 0) (by decide) (by decide) rfl).trans ⟨fun h => h.2, fun h => ⟨by decide, h⟩⟩
theorem a105 : arI 105 0 9 := ⟨by decide, al_105 Nat.one_pos, rfl, rfl⟩
theorem w105 {j : Int32} : okW 105 0 j 0 ↔ inb j 9 := (okW_iff (c := 105) (i := 0) (by decide) (by decide) rfl).trans ⟨fun h => h.2, fun h => ⟨by decide, h⟩⟩
theorem r106 {X : Nat} {j : Int32} : okR X 106 0 j ↔ inb j 9 := (okR_iff (c := 106) (i := 0) (by decide) (by decide) rfl).trans ⟨fun h => h.2, fun h => ⟨by decide, h⟩⟩
theorem a106 : arI 106 0 9 := ⟨by decide, al_106 Nat.one_pos, rfl, rfl⟩
theorem w106 {j : Int32} : okW 106 0 j 0 ↔ inb j 9 := (okW_iff (c := 106) (i := 0) (by decide) (by decide) rfl).trans ⟨fun h => h.2, fun h => ⟨by decide, h⟩⟩
theorem r107 {X : Nat} {j : Int32} : okR X 107 0 j ↔ inb j 9 := (okR_iff (c := 107) (i := 0) (by decide) (by decide) rfl).trans ⟨fun h => h.2, fun h => ⟨by decide, h⟩⟩
theorem a107 : arI 107 0 9 := ⟨by decide, al_107 Nat.one_pos, rfl, rfl⟩
theorem w107 {j : Int32} : okW 107 0 j 0 ↔ inb j 9 := (okW_iff (c := 107) (i := 0) (by decide) (by decide) rfl).trans ⟨fun h => h.2, fun h => ⟨by decide, h⟩⟩
theorem r108 {X : Nat} {j : Int32} : okR X 108 0 j ↔ inb j 9 := (okR_iff (c := 108) (i := 0) (by decide) (by decide) rfl).trans ⟨fun h => h.2, fun h => ⟨by decide, h⟩⟩
theorem a108 : arI 108 0 9 := ⟨by decide, al_108 Nat.one_pos, rfl, rfl⟩
theorem w108 {j : Int32} : okW 108 0 j 0 ↔ inb j 9 := (okW_iff (c := 108) (i := 0) (by decide) (by decide) rfl).trans ⟨fun h => h.2, fun h => ⟨by decide, h⟩⟩
theorem w109 {j : Int32} : okW 109 0 j 3 ↔ inb j 32 := (okW_iff (c := 109) (i := 0) (by decide) (by decide) rfl).trans ⟨fun h => h.2, fun h => ⟨by decide, h⟩⟩
theorem w110 {j : Int32} : okW 110 0 j 4 ↔ inb j 9 := (okW_iff (c := 110) (i := 0) (by decide) (by decide) rfl).trans ⟨fun h => h.2, fun h => ⟨by decide, h⟩⟩
theorem r111 {X : Nat} {j : Int32} : okR X 111 0 j ↔ inb j 3 := (okR_iff (c := 111) (i := 0) (by decide) (by decide) rfl).trans ⟨fun h => h.2, fun h => ⟨by decide, h⟩⟩
theorem a111 : arI 111 0 3 := ⟨by decide, al_111 Nat.one_pos, rfl, rfl⟩
theorem w111 {j : Int32} : okW 111 0 j 0 ↔ inb j 3 := (okW_iff (c := 111) (i := 0) (by decide) (by decide) rfl).trans ⟨fun h => h.2, fun h => ⟨by decide, h⟩⟩
theorem r112 {X : Nat} {j : Int32} : okR X 112 0 j ↔ inb j 9 := (okR_iff (c := 112) (i := 0) (by decide) (by decide) rfl).trans ⟨fun h => h.2, fun h => ⟨by decide, h⟩⟩
theorem a112 : arI 112 0 9 := ⟨by decide, al_112 Nat.one_pos, rfl, rfl⟩
theorem w112 {j : Int32} : okW 112 0 j 0 ↔ inb j 9 := (okW_iff (c := 112) (i := 0) (by decide) (by decide) rfl).trans ⟨fun h => h.2, fun h => ⟨by decide, h⟩⟩
theorem r113 {X : Nat} {i : Nat} {j : Int32} : okR X 113 i j ↔ i < 4 ∧ inb j 9 := okR_iff (by decide) (by decide) rfl
theorem a113 {i : Nat} (h : i < 4) : arI 113 i 9 := ⟨by decide, al_113 h, rfl, rfl⟩
theorem w113 {i : Nat} {j : Int32} : okW 113 i j 0 ↔ i < 4 ∧ inb j 9 := okW_iff (by decide) (by decide) rfl
theorem r114 {X : Nat} {i : Nat} {j : Int32} : okR X 114 i j ↔ i < 4 ∧ inb j 27 := okR_iff (by decide) (by decide) rfl
theorem a114 {i : Nat} (h : i < 4) : arI 114 i 27 := ⟨by decide, al_114 h, rfl, rfl⟩
theorem w114 {i : Nat} {j : Int32} : okW 114 i j 0 ↔ i < 4 ∧ inb j 27 := okW_iff (by decide) (by decide) rfl
theorem r115 {X : Nat} {i : Nat} {j : Int32} : okR X 115 i j ↔ i < 4 ∧ inb j 81 := okR_iff (by decide) (by decide) rfl
theorem a115 {i : Nat} (h : i < 4) : arI 115 i 81 := ⟨by decide, al_115 h, rfl, rfl⟩
theorem w115 {i : Nat} {j : Int32} : okW 115 i j 0 ↔ i < 4 ∧ inb j 81 := okW_iff (by decide) (by decide) rfl
theorem r116 {X : Nat} {i : Nat} {j : Int32} : okR X 116 i j ↔ i < 4 ∧ inb j 27 := okR_iff (by decide) (by decide) rfl
theorem a116 {i : Nat} (h : i < 4) : arI 116 i 27 := ⟨by decide, al_116 h, rfl, rfl⟩
theorem w116 {i : Nat} {j : Int32} : okW 116 i j 0 ↔ i < 4 ∧ inb j 27 := okW_iff (by decide) (by decide) rfl
theorem r117 {X : Nat} {i : Nat} {j : Int32} : okR X 117 i j ↔ i < 4 ∧ inb j 27 := okR_iff (by decide) (by decide) rfl
theorem a117 {i : Nat} (h : i < 4) : arI 117 i 27 := ⟨by decide, al_117 h, rfl, rfl⟩
theorem w117 {i : Nat} {j : Int32} : okW 117 i j 0 ↔ i < 4 ∧ inb j 27 := okW_iff (by decide) (by decide) rfl
theorem r118 {X : Nat} {i : Nat} {j : Int32} : okR X 118 i j ↔ i < 4 ∧ inb j 3 := okR_iff (by decide) (by decide) rfl
theorem a118 {i : Nat} (h : i < 4) : arI 118 i 3 := ⟨by decide, al_118 h, rfl, rfl⟩
theorem w118 {i : Nat} {j : Int32} : okW 118 i j 0 ↔ i < 4 ∧ inb j 3 := okW_iff (by decide) (by decide) rfl
theorem r119 {X : Nat} {j : Int32} : okR X 119 0 j ↔ inb j 80 := (okR_iff (c := 119) (i := 0) (by decide) (by decide) rfl).trans ⟨fun h => h.2, fun h => ⟨by decide, h⟩⟩
theorem a119 : arI 119 0 80 := ⟨by decide, al_119 Nat.one_pos, rfl, rfl⟩
theorem w119 {j : Int32} : okW 119 0 j 0 ↔ inb j 80 := (okW_iff (c := 119) (i := 0) (by decide) (by decide) rfl).trans ⟨fun h => h.2, fun h => ⟨by decide, h⟩⟩
theorem w120 {j : Int32} : okW 120 0 j 4 ↔ inb j 2 := (okW_iff (c := 120) (i := 0) (by decide) (by decide) rfl).trans ⟨fun h => h.2, fun h => ⟨by decide, h⟩⟩
theorem w121 {j : Int32} : okW 121 0 j 2 ↔ inb j 2 := (okW_iff (c := 121) (i := 0) (by decide) (by decide) rfl).trans ⟨fun h => h.2, fun h => ⟨by decide, h⟩⟩
theorem r122 {X : Nat} {j : Int32} : okR X 122 0 j ↔ inb j 9 := (okR_iff (c := 122) (i := 0) (by decide) (by decide) rfl).trans ⟨fun h => h.2, fun h => ⟨by decide, h⟩⟩
theorem a122 : arI 122 0 9 := ⟨by decide, al_122 Nat.one_pos, rfl, rfl⟩
theorem w122 {j : Int32} : okW 122 0 j 0 ↔ inb j 9 := (okW_iff (c := 122) (i := 0) (by decide) (by decide) rfl).trans ⟨fun h => h.2, fun h => ⟨by decide, h⟩⟩
theorem r130 {X : Nat} {j : Int32} : okR X 130 0 j ↔ inb j 40 := (okR_iff (c := 130) (i := 0) (by decide) (by decide) rfl).trans ⟨fun h => h.2, fun h => ⟨by decide, h⟩⟩
theorem a130 : arI 130 0 40 := ⟨by decide, al_130 Nat.one_pos, rfl, rfl⟩
theorem w130 {j : Int32} : okW 130 0 j 0 ↔ inb j 40 := (okW_iff (c := 130) (i := 0) (by decide) (by decide) rfl).trans ⟨fun h => h.2, fun h => ⟨by decide, h⟩⟩
theorem w131 {j : Int32} : okW 131 0 j 1 ↔ inb j 80 := (okW_iff (c := 131) (i := 0) (by decide) (by decide) rfl).trans ⟨fun h => h.2, fun h => ⟨by decide, h⟩⟩
theorem w132 {j : Int32} : okW 132 0 j 3 ↔ inb j 64 := (okW_iff (c := 132) (i := 0) (by decide) (by decide) rfl).trans ⟨fun h => h.2, fun h => ⟨by decide, h⟩⟩
theorem r133 {X : Nat} {j : Int32} : okR X 133 0 j ↔ inb j 320 := (okR_iff (c := 133) (i := 0) (by decide) (by decide) rfl).trans ⟨fun h => h.2, fun h => ⟨by decide, h⟩⟩
theorem a133 : arI 133 0 320 := ⟨by decide, al_133 Nat.one_pos, rfl, rfl⟩
theorem w133 {j : Int32} : okW 133 0 j 0 ↔ inb j 320 := (okW_iff (c := 133) (i := 0) (by decide) (by decide) rfl).trans ⟨fun h => h.2, fun h => ⟨by decide, h⟩⟩
theorem r134 {X : Nat} {j : Int32} : okR X 134 0 j ↔ inb j 9 := (okR_iff (c := 134) (i := 0) (by decide) (by decide) rfl).trans ⟨fun h => h.2, fun h => ⟨by decide, h⟩⟩
theorem a134 : arI 134 0 9 := ⟨by decide, al_134 Nat.one_pos, rfl, rfl⟩
theorem w134 {j : Int32} : okW 134 0 j 0 ↔ inb j 9 := (okW_iff (c := 134) (i := 0) (by decide) (by decide) rfl).trans ⟨fun h => h.2, fun h => ⟨by decide, h⟩⟩
theorem r135 {X : Nat} {j : Int32} : okR X 135 0 j ↔ inb j 27027 := (okR_iff (c := 135) (i := 0) (by decide) (by decide) rfl).trans ⟨fun h => h.2, fun h => ⟨by decide, h⟩⟩
theorem a135 : arI 135 0 27027 := ⟨by decide, al_135 Nat.one_pos, rfl, rfl⟩
theorem w135 {j : Int32} : okW 135 0 j 0 ↔ inb j 27027 := (okW_iff (c := 135) (i := 0) (by decide) (by decide) rfl).trans ⟨fun h => h.2, fun h => ⟨by decide, h⟩⟩
theorem r136 {X : Nat} {j : Int32} : okR X 136 0 j ↔ inb j 9 := (okR_iff (c := 136) (i := 0) (by decide) (by decide) rfl).trans ⟨fun h => h.2, fun h => ⟨by decide, h⟩⟩
theorem a136 : arI 136 0 9 := ⟨by decide, al_136 Nat.one_pos, rfl, rfl⟩
theorem w136 {j : Int32} : okW 136 0 j 0 ↔ inb j 9 := (okW_iff (c := 136) (i := 0) (by decide) (by decide) rfl).trans ⟨fun h => h.2, fun h => ⟨by decide, h⟩⟩
theorem r137 {X : Nat} {j : Int32} : okR X 137 0 j ↔ inb j 3 := (okR_iff (c := 137) (i := 0) (by decide) (by decide) rfl).trans ⟨fun h => h.2, fun h => ⟨by decide, h⟩⟩
theorem a137 : arI 137 0 3 := ⟨by decide, al_137 Nat.one_pos, rfl, rfl⟩
theorem w137 {j : Int32} : okW 137 0 j 0 ↔ inb j 3 := (okW_iff (c := 137) (i := 0) (by decide) (by decide) rfl).trans ⟨fun h => h.2, fun h => ⟨by decide, h⟩⟩
theorem r138 {X : Nat} {j : Int32} : okR X 138 0 j ↔ inb j 9 := (okR_iff (c := 138) (i := 0) (by decide) (by decide) rfl).trans ⟨fun h => h.2, fun h => ⟨by decide, h⟩⟩
theorem a138 : arI 138 0 9 := ⟨by decide, al_138 Nat.one_pos, rfl, rfl⟩
theorem w138 {j : Int32} : okW 138 0 j 0 ↔ inb j 9 := (okW_iff (c := 138) (i := 0) (by decide) (by decide) rfl).trans ⟨fun h => h.2, fun h => ⟨by decide, h⟩⟩
theorem r139 {X : Nat} {j : Int32} : okR X 139 0 j ↔ inb j 9 := (okR_iff (c := 139) (i := 0) (by decide) (by decide) rfl).trans ⟨fun h => h.2, fun h => ⟨by decide, h⟩⟩
theorem a139 : arI 139 0 9 := ⟨by decide, al_139 Nat.one_pos, rfl, rfl⟩
theorem w139 {j : Int32} : okW 139 0 j 0 ↔ inb j 9 := (okW_iff (c := 139) (i := 0) (by decide) (by decide) rfl).trans ⟨fun h => h.2, fun h => ⟨by decide, h⟩⟩
theorem r140 {X : Nat} {j : Int32} : okR X 140 0 j ↔ inb j 9 := (okR_iff (c := 140) (i := 0) (by decide) (by decide) rfl).trans ⟨fun h => h.2, fun h => ⟨by decide, h⟩⟩
theorem a140 : arI 140 0 9 := ⟨by decide, al_140 Nat.one_pos, rfl, rfl⟩
theorem w140 {j : Int32} : okW 140 0 j 0 ↔ inb j 9 := (okW_iff (c := 140) (i := 0) (by decide) (by decide) rfl).trans ⟨fun h => h.2, fun h => ⟨by decide, h⟩⟩
theorem r141 {X : Nat} {j : Int32} : okR X 141 0 j ↔ inb j 9 := (okR_iff (c := 141) (i := 0) (by decide) (by decide) rfl).trans ⟨fun h => h.2, fun h => ⟨by decide, h⟩⟩
theorem a141 : arI 141 0 9 := ⟨by decide, al_141 Nat.one_pos, rfl, rfl⟩
theorem w141 {j : Int32} : okW 141 0 j 0 ↔ inb j 9 := (okW_iff (c := 141) (i := 0) (by decide) (by decide) rfl).trans ⟨fun h => h.2, fun h => ⟨by decide, h⟩⟩
theorem w142 {j : Int32} : okW 142 0 j 2 ↔ inb j 61 := (okW_iff (c := 142) (i := 0) (by decide) (by decide) rfl).trans ⟨fun h => h.2, fun h => ⟨by decide, h⟩⟩
theorem r143 {X : Nat} {j : Int32} : okR X 143 0 j ↔ inb j 320 := (okR_iff (c := 143) (i := 0) (by decide) (by decide) rfl).trans ⟨fun h => h.2, fun h => ⟨by decide, h⟩⟩
theorem a143 : arI 143 0 320 := ⟨by decide, al_143 Nat.one_pos, rfl, rfl⟩
theorem w143 {j : Int32} : okW 143 0 j 0 ↔ inb j 320 := (okW_iff (c := 143) (i := 0) (by decide) (by decide) rfl).trans ⟨fun h => h.2, fun h => ⟨by decide, h⟩⟩
theorem r144 {X : Nat} {j : Int32} : okR X 144 0 j ↔ inb j 40 := (okR_iff (c := 144) (i := 0) (by decide) (by decide) rfl).trans ⟨fun h => h.2, fun h => ⟨by decide, h⟩⟩
theorem a144 : arI 144 0 40 := ⟨by decide, al_144 Nat.one_pos, rfl, rfl⟩
theorem w144 {j : Int32} : okW 144 0 j 0 ↔ inb j 40 := (okW_iff (c := 144) (i := 0) (by decide) (by decide) rfl).trans ⟨fun h => h.2, fun h => ⟨by decide, h⟩⟩
theorem r145 {X : Nat} {j : Int32} : okR X 145 0 j ↔ inb j 40 := (okR_iff (c := 145) (i := 0) (by decide) (by decide) rfl).trans ⟨fun h => h.2, fun h => ⟨by decide, h⟩⟩
theorem a145 : arI 145 0 40 := ⟨by decide, al_145 Nat.one_pos, rfl, rfl⟩
theorem w145 {j : Int32} : okW 145 0 j 0 ↔ inb j 40 := (okW_iff (c := 145) (i := 0) (by decide) (by decide) rfl).trans ⟨fun h => h.2, fun h => ⟨by decide, h⟩⟩
theorem r146 {X : Nat} {j : Int32} : okR X 146 0 j ↔ inb j 80 := (okR_iff (c := 146) (i := 0) (by decide) (by decide) rfl).trans ⟨fun h => h.2, fun h => ⟨by decide, h⟩⟩
theorem a146 : arI 146 0 80 := ⟨by decide, al_146 Nat.one_pos, rfl, rfl⟩
theorem w146 {j : Int32} : okW 146 0 j 0 ↔ inb j 80 := (okW_iff (c := 146) (i := 0) (by decide) (by decide) rfl).trans ⟨fun h => h.2, fun h => ⟨by decide, h⟩⟩
theorem w147 {j : Int32} : okW 147 0 j 2 ↔ inb j 2 := (okW_iff (c := 147) (i := 0) (by decide) (by decide) rfl).trans ⟨fun h => h.2, fun h => ⟨by decide, h⟩⟩
theorem w150 {j : Int32} : okW 150 0 j 3 ↔ inb j 1 := (okW_iff (c := 150) (i := 0) (by decide) (by decide) rfl).trans ⟨fun h => h.2, fun h => ⟨by decide, h⟩⟩
