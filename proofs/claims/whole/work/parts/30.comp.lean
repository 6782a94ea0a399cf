/-! all ways to lay n tokens on so many profiles, that ahead first -/
def dw (f : Nat → List (List Nat)) : Nat → List (List Nat)
  | 0 => []
  | x + 1 => f x ++ dw f x
def cmps : Nat → Nat → List (List Nat)
  | 0, n => [[n]]
  | m + 1, n => dw (fun y => (cmps m (n - y)).map (fun l => y :: l)) (n + 1)
def lsum : List Nat → Nat
  | [] => 0
  | x :: l => x + lsum l
def zer : Nat → List Nat
  | 0 => []
  | m + 1 => 0 :: zer m
theorem zer_len : ∀ m, (zer m).length = m
  | 0 => rfl
  | m + 1 => by show (zer m).length + 1 = m + 1; rw [zer_len m]
theorem zer_sum : ∀ m, lsum (zer m) = 0
  | 0 => rfl
  | m + 1 => by show 0 + lsum (zer m) = 0; rw [zer_sum m]
/-- those behind one; those behind it that differ from it at s or ahead of it -/
def aft : List Nat → List (List Nat)
  | [] => []
  | x :: l => match l with
    | [] => []
    | z :: zs => (aft l).map (fun b => x :: b) ++ dw (fun y => (cmps zs.length (x + lsum (z :: zs) - y)).map (fun b => y :: b)) x
def rmd : Nat → List Nat → List (List Nat)
  | _, [] => []
  | 0, x :: l => match l with
    | [] => []
    | z :: zs => dw (fun y => (cmps zs.length (x + lsum (z :: zs) - y)).map (fun b => y :: b)) x
  | s + 1, x :: l => match l with
    | [] => []
    | z :: zs => (rmd s l).map (fun b => x :: b) ++ dw (fun y => (cmps zs.length (x + lsum (z :: zs) - y)).map (fun b => y :: b)) x
def hit (x : Nat) (l : List Nat) : Option (List Nat) := if x = 0 then none else some ((x - 1) :: (1 + lsum l) :: zer (l.length - 1))
def stepO : Nat → List Nat → Option (List Nat)
  | _, [] => none
  | 0, x :: l => match l with
    | [] => none
    | z :: zs => hit x (z :: zs)
  | s + 1, x :: l => match l with
    | [] => none
    | z :: zs => match stepO s l with
      | some b => some (x :: b)
      | none => hit x (z :: zs)
theorem cmps_first : ∀ m n, cmps m n = (n :: zer m) :: aft (n :: zer m)
  | 0, n => rfl
  | m + 1, n => by
    show (cmps m (n - n)).map (fun l => n :: l) ++ dw (fun y => (cmps m (n - y)).map (fun l => y :: l)) n = (n :: 0 :: zer m) :: ((aft (0 :: zer m)).map (fun b => n :: b) ++ dw (fun y => (cmps (zer m).length (n + lsum (0 :: zer m) - y)).map (fun b => y :: b)) n)
    rw [Nat.sub_self, cmps_first m 0, zer_len, show lsum (0 :: zer m) = 0 from zer_sum (m + 1), Nat.add_zero]
    rfl
theorem hit_rmd (x z : Nat) (zs : List Nat) : dw (fun y => (cmps zs.length (x + lsum (z :: zs) - y)).map (fun b => y :: b)) x = match hit x (z :: zs) with
    | none => []
    | some b => b :: aft b := by
  cases x with
  | zero => rfl
  | succ x =>
    have e1 : hit (x + 1) (z :: zs) = some (x :: (1 + lsum (z :: zs)) :: zer zs.length) := by
      unfold hit
      rw [if_neg (by omega)]
      rfl
    rw [e1]
    show (cmps zs.length (x + 1 + lsum (z :: zs) - x)).map (fun b => x :: b) ++ dw (fun y => (cmps zs.length (x + 1 + lsum (z :: zs) - y)).map (fun b => y :: b)) x = (x :: (1 + lsum (z :: zs)) :: zer zs.length) :: ((aft ((1 + lsum (z :: zs)) :: zer zs.length)).map (fun b => x :: b) ++ dw (fun y => (cmps (zer zs.length).length (x + ((1 + lsum (z :: zs)) + lsum (zer zs.length)) - y)).map (fun b => y :: b)) x)
    rw [show x + 1 + lsum (z :: zs) - x = 1 + lsum (z :: zs) by omega, cmps_first zs.length (1 + lsum (z :: zs)), zer_len, zer_sum, show x + (1 + lsum (z :: zs) + 0) = x + 1 + lsum (z :: zs) by omega]
    rfl
theorem hit_len {x : Nat} {l b : List Nat} (h : hit x l = some b) (hl : 0 < l.length) : b.length = l.length + 1 ∧ lsum b = x + lsum l := by
  unfold hit at h
  split at h
  · cases h
  · cases h
    constructor
    · show (zer (l.length - 1)).length + 1 + 1 = _
      rw [zer_len]
      omega
    · show x - 1 + (1 + lsum l + lsum (zer (l.length - 1))) = _
      rw [zer_sum]
      omega
theorem stepO_len : ∀ (s : Nat) (a b : List Nat), stepO s a = some b → b.length = a.length ∧ lsum b = lsum a
  | 0, [], b, h => by cases h
  | s + 1, [], b, h => by cases h
  | 0, [x], b, h => by cases h
  | s + 1, [x], b, h => by cases h
  | 0, x :: z :: zs, b, h => by
    have := hit_len (x := x) (l := z :: zs) h (Nat.succ_pos _)
    exact ⟨this.1, this.2⟩
  | s + 1, x :: z :: zs, b, h => by
    have h2 : (match stepO s (z :: zs) with
      | some b => some (x :: b)
      | none => hit x (z :: zs)) = some b := h
    cases h3 : stepO s (z :: zs) with
    | none =>
      rw [h3] at h2
      have := hit_len (x := x) (l := z :: zs) h2 (Nat.succ_pos _)
      exact ⟨this.1, this.2⟩
    | some c =>
      rw [h3] at h2
      cases h2
      have := stepO_len s (z :: zs) c h3
      exact ⟨congrArg (· + 1) this.1, congrArg (x + ·) this.2⟩
theorem rmd_step : ∀ (s : Nat) (a : List Nat), rmd s a = match stepO s a with
    | none => []
    | some b => b :: aft b
  | _, [] => by cases ‹Nat› <;> rfl
  | 0, [x] => rfl
  | s + 1, [x] => rfl
  | 0, x :: z :: zs => hit_rmd x z zs
  | s + 1, x :: z :: zs => by
    show (rmd s (z :: zs)).map (fun b => x :: b) ++ dw (fun y => (cmps zs.length (x + lsum (z :: zs) - y)).map (fun b => y :: b)) x = match (match stepO s (z :: zs) with
      | some b => some (x :: b)
      | none => hit x (z :: zs)) with
    | none => []
    | some b => b :: aft b
    rw [rmd_step s (z :: zs)]
    cases h : stepO s (z :: zs) with
    | none => exact hit_rmd x z zs
    | some b =>
      obtain ⟨h1, h2⟩ := stepO_len s (z :: zs) b h
      cases b with
      | nil => cases h1
      | cons y ys =>
        show (x :: y :: ys) :: ((aft (y :: ys)).map (fun b => x :: b) ++ _) = (x :: y :: ys) :: ((aft (y :: ys)).map (fun b => x :: b) ++ dw (fun w => (cmps ys.length (x + lsum (y :: ys) - w)).map (fun b => w :: b)) x)
        rw [h2, show ys.length = zs.length from Nat.succ.inj h1]
/-- what begins alike is left out at once -/
theorem flt_map {p : List Nat → Bool} {x : Nat} : ∀ l : List (List Nat), (∀ b, p (x :: b) = false) → (l.map (fun b => x :: b)).filter p = []
  | [], _ => rfl
  | b :: l, h => by
    show (match p (x :: b) with | true => _ | false => _) = _
    rw [h b]
    exact flt_map l h
theorem flt_cons {p : List Nat → Bool} {x : Nat} : ∀ l : List (List Nat), (l.map (fun b => x :: b)).filter p = (l.filter (fun b => p (x :: b))).map (fun b => x :: b) := by
  intro l
  rw [List.filter_map]
  rfl
theorem aft_skip : ∀ (s : Nat) (a : List Nat) (p : List Nat → Bool), (∀ b, b.take (s + 1) = a.take (s + 1) → p b = false) → (aft a).filter p = (rmd s a).filter p
  | s, [], p, h => by cases s <;> rfl
  | 0, [x], p, h => rfl
  | s + 1, [x], p, h => rfl
  | 0, x :: z :: zs, p, h => by
    show ((aft (z :: zs)).map (fun b => x :: b) ++ dw _ x).filter p = (dw _ x).filter p
    rw [List.filter_append, flt_map _ (fun b => h (x :: b) rfl), List.nil_append]
  | s + 1, x :: z :: zs, p, h => by
    show ((aft (z :: zs)).map (fun b => x :: b) ++ dw _ x).filter p = ((rmd s (z :: zs)).map (fun b => x :: b) ++ dw _ x).filter p
    rw [List.filter_append, List.filter_append, flt_cons, flt_cons, aft_skip s (z :: zs) (fun b => p (x :: b)) (fun b hb => h (x :: b) (by
      show x :: b.take (s + 1) = x :: (z :: zs).take (s + 1)
      rw [hb]))]
/-- at the last place but one nothing is left out -/
theorem aft_all : ∀ (s : Nat) (a : List Nat), a.length ≤ s + 2 → aft a = rmd s a
  | s, [], _ => by cases s <;> rfl
  | 0, [x], _ => rfl
  | s + 1, [x], _ => rfl
  | 0, x :: z :: zs, h => by
    cases zs with
    | nil => rfl
    | cons w ws => simp only [List.length_cons] at h; omega
  | s + 1, x :: z :: zs, h => by
    show (aft (z :: zs)).map (fun b => x :: b) ++ dw _ x = (rmd s (z :: zs)).map (fun b => x :: b) ++ dw _ x
    rw [aft_all s (z :: zs) (by simp only [List.length_cons] at h ⊢; omega)]
theorem rmd_le : ∀ (s : Nat) (a : List Nat), (rmd s a).length ≤ (aft a).length
  | s, [] => by cases s <;> exact Nat.le_refl _
  | 0, [x] => Nat.le_refl _
  | s + 1, [x] => Nat.le_refl _
  | 0, x :: z :: zs => by
    show (dw _ x).length ≤ ((aft (z :: zs)).map (fun b => x :: b) ++ dw _ x).length
    rw [List.length_append]
    exact Nat.le_add_left _ _
  | s + 1, x :: z :: zs => by
    show ((rmd s (z :: zs)).map (fun b => x :: b) ++ dw _ x).length ≤ ((aft (z :: zs)).map (fun b => x :: b) ++ dw _ x).length
    rw [List.length_append, List.length_append, List.length_map, List.length_map]
    exact Nat.add_le_add_right (rmd_le s (z :: zs)) _
/-- how many there are -/
def dwN (f : Nat → Nat) : Nat → Nat
  | 0 => 0
  | x + 1 => f x + dwN f x
def cmpN : Nat → Nat → Nat
  | 0, _ => 1
  | m + 1, n => dwN (fun y => cmpN m (n - y)) (n + 1)
theorem dw_len {f : Nat → List (List Nat)} {g : Nat → Nat} (h : ∀ y, (f y).length = g y) : ∀ x, (dw f x).length = dwN g x
  | 0 => rfl
  | x + 1 => by
    show (f x ++ dw f x).length = g x + dwN g x
    rw [List.length_append, h x, dw_len h x]
theorem cmps_len : ∀ m n, (cmps m n).length = cmpN m n
  | 0, n => rfl
  | m + 1, n => dw_len (fun y => by rw [List.length_map, cmps_len m]) (n + 1)
theorem cmpN_le {m n : Nat} (hm : m < 9) (hn : n ≤ 6) : cmpN m n ≤ 3003 := by
  have h : (List.range 9).all (fun m => (List.range 7).all (fun n => decide (cmpN m n ≤ 3003))) = true := by decide +kernel
  exact of_decide_eq_true (List.all_eq_true.mp (List.all_eq_true.mp h m (List.mem_range.mpr hm)) n (List.mem_range.mpr (by omega)))
theorem dw_mem {f : Nat → List (List Nat)} {b : List Nat} : ∀ x, b ∈ dw f x → ∃ y, y < x ∧ b ∈ f y
  | 0, h => by cases h
  | x + 1, h => by
    rcases List.mem_append.mp (show b ∈ f x ++ dw f x from h) with h | h
    · exact ⟨x, by omega, h⟩
    · obtain ⟨y, h1, h2⟩ := dw_mem x h
      exact ⟨y, by omega, h2⟩
theorem mem_dw {f : Nat → List (List Nat)} {b : List Nat} : ∀ x y, y < x → b ∈ f y → b ∈ dw f x
  | 0, y, h, _ => by omega
  | x + 1, y, h, h2 => by
    by_cases e : y = x
    · subst e
      exact List.mem_append.mpr (Or.inl h2)
    · exact List.mem_append.mpr (Or.inr (mem_dw x y (by omega) h2))
theorem cmps_mem : ∀ m n b, b ∈ cmps m n ↔ b.length = m + 1 ∧ lsum b = n
  | 0, n, b => by
    constructor
    · intro h
      obtain rfl : b = [n] := List.mem_singleton.mp h
      exact ⟨rfl, rfl⟩
    · rintro ⟨h1, h2⟩
      match b, h1, h2 with
      | [x], _, h2 =>
        obtain rfl : x = n := h2
        exact List.mem_singleton.mpr rfl
  | m + 1, n, b => by
    constructor
    · intro h
      obtain ⟨y, h1, h2⟩ := dw_mem (n + 1) h
      obtain ⟨c, h3, rfl⟩ := List.mem_map.mp h2
      obtain ⟨h4, h5⟩ := (cmps_mem m (n - y) c).mp h3
      exact ⟨congrArg (· + 1) h4, by show y + lsum c = n; omega⟩
    · rintro ⟨h1, h2⟩
      cases b with
      | nil => cases h1
      | cons y c =>
        have h3 : y + lsum c = n := h2
        exact mem_dw (n + 1) y (by omega) (List.mem_map.mpr ⟨c, (cmps_mem m (n - y) c).mpr ⟨Nat.succ.inj h1, by omega⟩, rfl⟩)
