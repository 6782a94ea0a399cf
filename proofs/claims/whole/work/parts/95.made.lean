/-! the fresh state -/
theorem all_of {n : Nat} {P : Nat → Bool} (h : (List.range n).all P = true) : ∀ k, k < n → P k = true := fun k hk => List.all_eq_true.mp h k (List.mem_range.mpr hk)
theorem RC0 {M M1 : amM} {J : amJ} (h : chkC M1 = true) (hM : ∀ c i j, c ≠ 99 → M c i j = M1 c i j) : RC M J sta0 := by
  unfold chkC at h
  simp only [Bool.and_eq_true, decide_eq_true_eq] at h
  obtain ⟨⟨⟨⟨⟨⟨⟨⟨⟨⟨⟨h1, h2⟩, h3⟩, h4⟩, h5⟩, h6⟩, h7⟩, h8⟩, h9⟩, h10⟩, h11⟩, h12⟩ := h
  refine ⟨⟨⟨(by decide : (0 : Nat) < 5), ?_, ?_, fun i hi => ?_, fun i p hi hp => ?_⟩, fun k hk => ?_, fun k hk => ?_⟩, ⟨0, by decide, ?_, ?_, Nat.zero_le _, fun k G hk => ?_⟩, fun i hi => ⟨?_, fun G hG => by cases hG⟩, ⟨?_, Nat.zero_le _, fun k hk => absurd hk (Nat.not_lt_zero k)⟩, ?_, Nat.zero_le _, fun k hk => absurd hk (Nat.not_lt_zero k)⟩
  · rw [hM _ _ _ (by decide), h1]
    rfl
  · rw [hM _ _ _ (by decide), h2]
    rfl
  · have := all_of h3 i hi
    rw [Bool.and_eq_true] at this
    rw [hM _ _ _ (by decide), hM _ _ _ (by decide)]
    exact ⟨of_decide_eq_true this.1, of_decide_eq_true this.2⟩
  · have := all_of (all_of h4 i hi) p hp
    rw [hM _ _ _ (by decide)]
    exact of_decide_eq_true this
  · rw [hM _ _ _ (by decide)]
    exact of_decide_eq_true (all_of h5 k hk)
  · rw [hM _ _ _ (by decide)]
    exact of_decide_eq_true (all_of h6 k hk)
  · rw [hM _ _ _ (by decide), h7]
  · rw [hM _ _ _ (by decide), h8]
    rfl
  · cases k <;> cases hk
  · rw [hM _ _ _ (by decide)]
    have e : bI ((sta0.2.2.1 i).isSome = true) = nI 0 := bI_f (fun z => by cases z)
    rw [e]
    rcases (show i = 0 ∨ i = 1 by omega) with rfl | rfl
    · exact h9
    · exact h10
  · rw [hM _ _ _ (by decide), h11]
    rfl
  · rw [hM _ _ _ (by decide), h12]
    rfl
theorem RM0 {M M1 : amM} {J : amJ} (h : chkM M1 = true) (hM : ∀ c i j, c ≠ 99 → M c i j = M1 c i j) : RM M J sta0 := by
  unfold chkM at h
  simp only [Bool.and_eq_true, decide_eq_true_eq] at h
  obtain ⟨⟨⟨⟨⟨h1, h2⟩, h3⟩, h4⟩, h5⟩, h6⟩ := h
  refine ⟨fun k hk => ?_, ⟨?_, Nat.zero_le _, fun n G hG => ?_⟩, fun i hi => ⟨?_, fun G hG => by cases hG⟩, ⟨?_, Nat.zero_le _, fun k hk => absurd hk (Nat.not_lt_zero k)⟩, ?_, Nat.zero_le _, fun k hk => absurd hk (Nat.not_lt_zero k)⟩
  · rw [hM _ _ _ (by decide)]
    exact of_decide_eq_true (all_of h1 k hk)
  · rw [hM _ _ _ (by decide), h2]
    rfl
  · cases n <;> cases hG
  · rw [hM _ _ _ (by decide)]
    have e : bI ((sta0.2.2.1 i).isSome = true) = nI 0 := bI_f (fun z => by cases z)
    rw [e]
    rcases (show i = 0 ∨ i = 1 by omega) with rfl | rfl
    · exact h3
    · exact h4
  · rw [hM _ _ _ (by decide), h5]
    rfl
  · rw [hM _ _ _ (by decide), h6]
    rfl
theorem WF0 : WF sta0 := by
  have z1 : -9 ≤ (nI 0).toInt ∧ (nI 0).toInt ≤ 9 := by decide
  have h : ∀ p, p < 9 → nI 0 = tf [0, 0, 0, 0] p := by decide
  exact ⟨⟨(by decide : (0 : Nat) < 5), fun k hk => z1, [0, 0, 0, 0], rfl, (by decide), fun p hp => h p hp⟩, fun G hG => absurd hG List.not_mem_nil, fun i G hG => (by cases hG), fun k => (by decide : 0 < 256)⟩
theorem made0 {o : Option amF} (h : chkO o = true) : ∃ (M1 : amM) (J1 : amJ), o = some (23, lawL 0, [], (M1, J1, (0, 149, 147, 0))) ∧ ∀ (M : amM) (J : amJ), (∀ c i j, c ≠ 99 → M c i j = M1 c i j) → RC M J sta0 ∧ RM M J sta0 := by
  cases o with
  | none => cases h
  | some f =>
    obtain ⟨pc, L, S, M1, J1, jk, kk, tt, X⟩ := f
    have h : chkF (pc, L, S, M1, J1, jk, kk, tt, X) = true := h
    unfold chkF at h
    simp only [Bool.and_eq_true, decide_eq_true_eq] at h
    obtain ⟨⟨⟨⟨⟨⟨⟨⟨h1, h2⟩, h3⟩, h4⟩, h5⟩, h6⟩, h7⟩, h8⟩, h9⟩ := h
    obtain rfl := h1
    obtain rfl := amEqL_ok h2
    obtain rfl : S = [] := List.isEmpty_iff.mp h3
    obtain rfl := h4
    obtain rfl := h5
    obtain rfl := h6
    obtain rfl := h7
    exact ⟨M1, J1, rfl, fun M J hM => ⟨RC0 h8 hM, RM0 h9 hM⟩⟩
theorem made1 : ∃ (M1 : amM) (J1 : amJ), amF1 = some (23, lawL 0, [], (M1, J1, (0, 149, 147, 0))) ∧ ∀ (M : amM) (J : amJ), (∀ c i j, c ≠ 99 → M c i j = M1 c i j) → RC M J sta0 ∧ RM M J sta0 := made0 (o := amF1) (show chkO amF1 = true from chk1_ok)
