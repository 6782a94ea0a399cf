/-! pure helps -/
theorem amLong_I {x : Int32} : amLong (some (vI x)) = false := rfl
theorem amLong_R {c i : Nat} : amLong (some (vR c i)) = false := rfl
theorem amLong_N : amLong none = false := rfl
theorem amLong_L {x : Int64} : amLong (some (vL x)) = true := rfl
/-- true and false as the machine has them -/
def bI (c : Prop) [Decidable c] : Int32 := if c then 1 else 0
theorem bI_t {c : Prop} [Decidable c] (h : c) : bI c = 1 := if_pos h
theorem bI_f {c : Prop} [Decidable c] (h : ¬ c) : bI c = 0 := if_neg h
theorem bI_0 {c : Prop} [Decidable c] : bI c = 0 ↔ ¬ c := by
  unfold bI
  split
  · rename_i h; exact ⟨fun h2 => absurd h2 (by decide), fun h2 => absurd h h2⟩
  · rename_i h; exact ⟨fun _ => h, fun _ => rfl⟩
theorem bI_1 {c : Prop} [Decidable c] : bI c = 1 ↔ c := by
  unfold bI
  split
  · rename_i h; exact ⟨fun _ => h, fun _ => rfl⟩
  · rename_i h; exact ⟨fun h2 => absurd h2 (by decide), fun h2 => absurd h2 h⟩
theorem bI_01 {c : Prop} [Decidable c] : (bI c = 0 ∨ bI c = 1) ↔ True := by
  unfold bI
  split <;> decide
theorem bI_c {c c' : Prop} [Decidable c] [Decidable c'] (h : c ↔ c') : bI c = bI c' := by
  unfold bI
  by_cases hc : c
  · rw [if_pos hc, if_pos (h.mp hc)]
  · rw [if_neg hc, if_neg (fun h2 => hc (h.mpr h2))]
theorem z01 : ((0 : Int32) = 0 ∨ (0 : Int32) = 1) ↔ True := by decide
theorem o01 : ((1 : Int32) = 0 ∨ (1 : Int32) = 1) ↔ True := by decide
theorem o0 : (1 : Int32) = 0 ↔ False := by decide
/-- f k + f (k+1) + .. , so many -/
def sumN (f : Nat → Int32) : Nat → Nat → Int32
  | _, 0 => 0
  | k, n + 1 => f k + sumN f (k + 1) n
theorem sumN_last (f : Nat → Int32) : ∀ (n k : Nat), sumN f k (n + 1) = sumN f k n + f (k + n)
  | 0, k => by simp [sumN]
  | n + 1, k => by
    show f k + sumN f (k + 1) (n + 1) = f k + sumN f (k + 1) n + f (k + (n + 1))
    rw [sumN_last f n (k + 1), Int32.add_assoc, show k + 1 + n = k + (n + 1) by omega]
theorem sumN_congr {f g : Nat → Int32} : ∀ (n k : Nat), (∀ p, k ≤ p → p < k + n → f p = g p) → sumN f k n = sumN g k n
  | 0, _, _ => rfl
  | n + 1, k, h => by
    show f k + sumN f (k + 1) n = g k + sumN g (k + 1) n
    rw [h k (by omega) (by omega), sumN_congr n (k + 1) (fun p h1 h2 => h p (by omega) (by omega))]
theorem inb_nI {k n : Nat} (h : k < n) (hn : n < 2 ^ 31) : inb (nI k) n := by
  unfold inb
  rw [nI_toInt (by omega)]
  omega
theorem inb_of {x : Int32} {n : Nat} (h : inb x n) (hn : n < 2 ^ 31) : ∃ k, k < n ∧ x = nI k := vp_in_of (vp_in_iff.mpr h) hn
theorem cl_nI {k : Nat} (h : k < 2 ^ 31) : (nI k).toNatClampNeg = k := nI_clamp h
theorem nI_s (k : Nat) : nI k + 1 = nI (k + 1) := nI_1 k
theorem i_0 : (0 : Int32) = nI 0 := rfl
theorem i_1 : (1 : Int32) = nI 1 := rfl
theorem i_3 : (3 : Int32) = nI 3 := rfl
theorem i_9 : (9 : Int32) = nI 9 := rfl
theorem nI_x9 (a b : Nat) : nI a * 9 + nI b = nI (9 * a + b) := by
  rw [i_9, pk_mul, nI_add, Nat.mul_comm]
theorem nI_9x (a b : Nat) : 9 * nI a + nI b = nI (9 * a + b) := by
  rw [i_9, pk_mul, nI_add]
theorem nI_x3 (a b : Nat) : nI a * 3 + nI b = nI (3 * a + b) := by
  rw [i_3, pk_mul, nI_add, Nat.mul_comm]
theorem nI_3x (a b : Nat) : 3 * nI a + nI b = nI (3 * a + b) := by
  rw [i_3, pk_mul, nI_add]
/-- an int that a row of so many places has -/
theorem in_iff {x : Int32} {n : Nat} (hn : n < 2 ^ 31) : (0 ≤ x ∧ x < nI n) ↔ ∃ k, k < n ∧ x = nI k := by
  constructor
  · rintro ⟨h1, h2⟩
    rw [Int32.le_iff_toInt_le] at h1
    rw [Int32.lt_iff_toInt_lt, nI_toInt hn] at h2
    have h1 : 0 ≤ x.toInt := by simpa using h1
    exact inb_of ⟨h1, h2⟩ hn
  · rintro ⟨k, h1, rfl⟩
    exact ⟨nI_pos' (by omega), nI_lt h1 hn⟩
/-! places of the arrays -/
theorem ok_100 {X i : Nat} {j : Int32} : okR X 100 i j ↔ i < 13 ∧ inb j 3 := okR_iff (by decide) (by decide) rfl
theorem ok_101 {X i : Nat} {j : Int32} : okR X 101 i j ↔ i < 13 ∧ inb j 3 := okR_iff (by decide) (by decide) rfl
theorem ok_102 {X i : Nat} {j : Int32} : okR X 102 i j ↔ i < 13 ∧ inb j 27 := okR_iff (by decide) (by decide) rfl
theorem ok_103 {X i : Nat} {j : Int32} : okR X 103 i j ↔ i < 13 ∧ inb j 27 := okR_iff (by decide) (by decide) rfl
theorem ok_104 {X i : Nat} {j : Int32} : okR X 104 i j ↔ i < 13 ∧ inb j 9 := okR_iff (by decide) (by decide) rfl
theorem ow_103 {i : Nat} {j : Int32} : okW 103 i j 0 ↔ i < 13 ∧ inb j 27 := okW_iff (by decide) (by decide) rfl
theorem ow_104 {i : Nat} {j : Int32} : okW 104 i j 0 ↔ i < 13 ∧ inb j 9 := okW_iff (by decide) (by decide) rfl
/-- an int array of nine places that may be read: tokens -/
def tokA (c i : Nat) : Prop := (c = 104 ∧ i < 13) ∨ (c = 105 ∧ i = 0) ∨ (c = 113 ∧ i < 4) ∨ (c = 122 ∧ i = 0)
theorem tokA_ok {X c i k : Nat} (h : tokA c i) (hk : k < 9) : okR X c i (nI k) := by
  have hi : inb (nI k) 9 := inb_nI hk (by omega)
  rcases h with ⟨rfl, h⟩ | ⟨rfl, rfl⟩ | ⟨rfl, h⟩ | ⟨rfl, rfl⟩
  · exact ok_104.mpr ⟨h, hi⟩
  · exact (okR_iff (by decide) (by decide) rfl).mpr ⟨by decide, hi⟩
  · exact (okR_iff (by decide) (by decide) rfl).mpr ⟨h, hi⟩
  · exact (okR_iff (by decide) (by decide) rfl).mpr ⟨by decide, hi⟩
/-! shapes of games -/
def hsN (sh i : Nat) : Nat := (([[2, 2, 0], [2, 3, 0], [3, 2, 0], [3, 3, 0], [2, 2, 2]] : List (List Nat)).getD sh []).getD i 0
def srN (sh i : Nat) : Nat := (([[2, 1, 0], [3, 1, 0], [2, 1, 0], [3, 1, 0], [4, 2, 1]] : List (List Nat)).getD sh []).getD i 0
def plr (sh : Nat) : Nat := ([2, 2, 2, 2, 3] : List Nat).getD sh 0
def prf (sh : Nat) : Nat := ([4, 6, 6, 9, 8] : List Nat).getD sh 0
/-- what player i does in profile p; the profile where it does b instead -/
def act (sh i p : Nat) : Nat := p / srN sh i % hsN sh i
def ins (sh i p b : Nat) : Nat := p - act sh i p * srN sh i + b * srN sh i
theorem sh_okB : ((List.range 5).all (fun sh => decide (2 ≤ plr sh ∧ plr sh ≤ 3 ∧ 4 ≤ prf sh ∧ prf sh ≤ 9) && (List.range (plr sh)).all (fun i => decide (2 ≤ hsN sh i ∧ hsN sh i ≤ 3 ∧ 1 ≤ srN sh i ∧ srN sh i ≤ 4) && (List.range (prf sh)).all (fun p => decide (act sh i p < hsN sh i ∧ act sh i p * srN sh i ≤ p) && (List.range (hsN sh i)).all (fun b => decide (ins sh i p b < prf sh ∧ act sh i (ins sh i p b) = b)))))) = true := by decide +kernel
theorem sh_ok : ∀ sh, sh < 5 → (2 ≤ plr sh ∧ plr sh ≤ 3 ∧ 4 ≤ prf sh ∧ prf sh ≤ 9) ∧ ∀ i, i < plr sh → (2 ≤ hsN sh i ∧ hsN sh i ≤ 3 ∧ 1 ≤ srN sh i ∧ srN sh i ≤ 4) ∧ ∀ p, p < prf sh → act sh i p < hsN sh i ∧ act sh i p * srN sh i ≤ p ∧ ∀ b, b < hsN sh i → ins sh i p b < prf sh ∧ act sh i (ins sh i p b) = b := by
  intro sh h
  have h1 := List.all_eq_true.mp sh_okB sh (List.mem_range.mpr h)
  rw [Bool.and_eq_true] at h1
  refine ⟨of_decide_eq_true h1.1, fun i hi => ?_⟩
  have h2 := List.all_eq_true.mp h1.2 i (List.mem_range.mpr hi)
  rw [Bool.and_eq_true] at h2
  refine ⟨of_decide_eq_true h2.1, fun p hp => ?_⟩
  have h3 := List.all_eq_true.mp h2.2 p (List.mem_range.mpr hp)
  rw [Bool.and_eq_true] at h3
  have h4 := of_decide_eq_true h3.1
  exact ⟨h4.1, h4.2, fun b hb => of_decide_eq_true (List.all_eq_true.mp h3.2 b (List.mem_range.mpr hb))⟩
theorem nI_ins {sh i p b : Nat} (h : act sh i p * srN sh i ≤ p) : nI p + (nI b - nI (act sh i p)) * nI (srN sh i) = nI (ins sh i p b) := by
  unfold ins
  rw [← nI_add, ← pk_sub h, ← pk_mul, ← pk_mul]
  grind
/-- a Game's shape stands in its cells -/
def GS (M : amM) (g sh : Nat) : Prop := sh < 5 ∧ M 1105 g 0 = nI (plr sh) ∧ M 1106 g 0 = nI (prf sh) ∧ (∀ i, i < 3 → M 100 g i = nI (hsN sh i) ∧ M 101 g i = nI (srN sh i)) ∧ (∀ i p, i < plr sh → p < prf sh → M 102 g (9 * i + p) = nI (act sh i p))
/-! loops -/
def foldN {α : Type} (f : Nat → α → α) : Nat → Nat → α → α
  | _, 0, a => a
  | k, n + 1, a => foldN f (k + 1) n (f k a)
theorem lpF {α : Type} {P : Nat} {E : Nat → α → Prop} {F : α → Prop} {f : Nat → α → α} (hx : ∀ a, E P a ↔ F a) (hs : ∀ k a, k < P → (E k a ↔ E (k + 1) (f k a))) : ∀ (n k : Nat) (a : α), k + n = P → (E k a ↔ F (foldN f k n a))
  | 0, k, a, h => by
    obtain rfl : k = P := by omega
    exact hx a
  | n + 1, k, a, h => by rw [hs k a (by omega), lpF hx hs n (k + 1) (f k a) (by omega)]; rfl
theorem foldN_sum (g : Nat → Int32) : ∀ (n k : Nat) (a : Int32), foldN (fun p s => s + g p) k n a = a + sumN g k n
  | 0, k, a => by simp [foldN, sumN]
  | n + 1, k, a => by
    show foldN _ (k + 1) n (a + g k) = a + (g k + sumN g (k + 1) n)
    rw [foldN_sum g n (k + 1) (a + g k), Int32.add_assoc]
/-- a loop that leaves at the first place where c holds; a is what else the locals hold -/
theorem lpX {α : Type} {P : Nat} {E : Nat → α → Prop} {c : Nat → Prop} {R F : Prop} (hx : ∀ a, E P a ↔ F) (hs : ∀ k a, k < P → ∃ a', E k a ↔ (c k → R) ∧ (¬ c k → E (k + 1) a')) : ∀ (n k : Nat) (a : α), k + n = P → (E k a ↔ ((∃ j, k ≤ j ∧ j < P ∧ c j) → R) ∧ (¬ (∃ j, k ≤ j ∧ j < P ∧ c j) → F))
  | 0, k, a, h => by
    obtain rfl : k = P := by omega
    rw [hx a]
    have : ¬ ∃ j, k ≤ j ∧ j < k ∧ c j := fun ⟨j, h1, h2, _⟩ => by omega
    exact ⟨fun h => ⟨fun h2 => absurd h2 this, fun _ => h⟩, fun h => h.2 this⟩
  | n + 1, k, a, h => by
    obtain ⟨a', he⟩ := hs k a (by omega)
    rw [he, lpX hx hs n (k + 1) a' (by omega)]
    by_cases hc : c k
    · have : ∃ j, k ≤ j ∧ j < P ∧ c j := ⟨k, by omega, by omega, hc⟩
      exact ⟨fun h => ⟨fun _ => h.1 hc, fun h2 => absurd this h2⟩, fun h => ⟨fun _ => h.1 this, fun h2 => absurd hc h2⟩⟩
    · have e : (∃ j, k ≤ j ∧ j < P ∧ c j) ↔ (∃ j, k + 1 ≤ j ∧ j < P ∧ c j) := by
        constructor
        · rintro ⟨j, h1, h2, h3⟩
          refine ⟨j, ?_, h2, h3⟩
          rcases Nat.lt_or_ge k j with h4 | h4
          · exact h4
          · obtain rfl : j = k := by omega
            exact absurd h3 hc
        · rintro ⟨j, h1, h2, h3⟩
          exact ⟨j, by omega, h2, h3⟩
      rw [e]
      exact ⟨fun h => h.2 hc, fun h => ⟨fun h2 => absurd h2 hc, fun _ => h⟩⟩
/-- a loop with a promise that is kept -/
theorem lpV {α : Type} {P : Nat} {E : Nat → α → Prop} {I : Nat → α → Prop} (hx : ∀ a, I P a → E P a) (hs : ∀ k a, k < P → I k a → ∃ a', I (k + 1) a' ∧ (E (k + 1) a' → E k a)) : ∀ (n k : Nat) (a : α), k + n = P → I k a → E k a
  | 0, k, a, h, hi => by
    obtain rfl : k = P := by omega
    exact hx a hi
  | n + 1, k, a, h, hi => by
    obtain ⟨a', h1, h2⟩ := hs k a (by omega) hi
    exact h2 (lpV hx hs n (k + 1) a' (by omega) h1)
theorem pick_t {A B C : Prop} (h : A) : ((A → B) ∧ (¬ A → C)) ↔ B := ⟨fun z => z.1 h, fun z => ⟨fun _ => z, fun n => absurd h n⟩⟩
theorem pick_f {A B C : Prop} (h : ¬ A) : ((A → B) ∧ (¬ A → C)) ↔ C := ⟨fun z => z.2 h, fun z => ⟨fun n => absurd n h, fun _ => z⟩⟩
