/-! each call keeps WF: undo, keep, again, scales, years -/
theorem wf_o35 {A : Sta} (h : WF A) : WF (o35 A).2 := by
  unfold o35
  by_cases e : A.2.1 = []
  · rw [dif_pos e]
    exact h
  · rw [dif_neg e]
    exact ⟨h.2.1 _ (List.getLast_mem e), fun H hH => h.2.1 H (List.dropLast_subset _ hH), h.2.2.1, h.2.2.2⟩
theorem wf_o37 {A : Sta} {i : Int32} (h : WF A) : WF (o37 A i).2 := by
  unfold o37
  split
  · refine ⟨h.1, h.2.1, fun j G hG => ?_, h.2.2.2⟩
    have hG' : (if j = i.toNatClampNeg then some A.1 else A.2.2.1 j) = some G := hG
    split at hG'
    · cases hG'
      exact h.1
    · exact h.2.2.1 j G hG'
  · exact h
theorem wf_o38 {A : Sta} {i : Int32} (h : WF A) : WF (o38 A i).2 := by
  unfold o38
  split
  · split
    · exact h
    · rename_i G hG
      exact ⟨h.2.2.1 _ G hG, fun H hH => (by cases hH), h.2.2.1, h.2.2.2⟩
  · exact h
