/-! each call keeps WF: the small steps -/
theorem wf_tel {A : Sta} {r : List Int32} (h : WF A) : WF (tel A r) := ⟨h.1, h.2.1, h.2.2.1, h.2.2.2⟩
theorem wf_tx {A : Sta} {x : Nat × (Nat → Nat)} (h : WF A) (hx : ∀ k, x.2 k < 256) : WF (txS A x) := ⟨h.1, h.2.1, h.2.2.1, hx⟩
theorem pushU_m {U : List Gm} {G H : Gm} (h : H ∈ pushU U G) : H ∈ U ∨ H = G := by
  unfold pushU at h
  split at h
  · rcases List.mem_append.mp h with z | z
    · exact Or.inl z
    · exact Or.inr (List.mem_singleton.mp z)
  · rcases List.mem_append.mp h with z | z
    · exact Or.inl (List.mem_of_mem_tail z)
    · exact Or.inr (List.mem_singleton.mp z)
theorem wf_chg {A : Sta} {G : Gm} (h : WF A) (hG : WG G) : WF (chg A G) := ⟨hG, fun H hH => by
  rcases pushU_m hH with z | z
  · exact h.2.1 H z
  · rw [z]
    exact h.1, h.2.2.1, h.2.2.2⟩
theorem wf_op {A : Sta} {y : Int32 × Gm} (h : WF A) (hG : WG y.2) : WF (opU A y).2 := by
  by_cases e : y.1 < nI 0
  · have z : (opU A y).2 = A := by
      unfold opU
      rw [if_pos e]
    rw [z]
    exact h
  · have z : (opU A y).2 = chg A y.2 := by
      unfold opU
      rw [if_neg e]
    rw [z]
    exact wf_chg h hG
