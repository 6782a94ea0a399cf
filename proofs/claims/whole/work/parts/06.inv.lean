/-! ways back: what a step that goes on was made of -/
theorem amGo_inv {bb : Bool} {f : amF} {N : amF ⊕ amR} (h : amGo bb f = some N) : bb = true ∧ N = .inl f := by
  cases bb with
  | false => cases h
  | true => cases h; exact ⟨rfl, rfl⟩
theorem amRet_inv {bb : Bool} {r : amR} {N : amF ⊕ amR} (h : amRet bb r = some N) : bb = true ∧ N = .inr r := by
  cases bb with
  | false => cases h
  | true => cases h; exact ⟨rfl, rfl⟩
theorem amJmp_inv {bb : Bool} {o : Option Nat} {L : amL} {S : List amV} {st : amS} {N : amF ⊕ amR} (h : amJmp bb o L S st = some N) : ∃ t, o = some t ∧ bb = true ∧ N = .inl (t, L, S, st) := by
  cases o with
  | none => cases h
  | some t =>
    obtain ⟨h1, h2⟩ := amGo_inv h
    exact ⟨t, rfl, h1, h2⟩
theorem amTo_inv {pc : Nat} {off : Int} {t : Nat} (h : amTo pc off = some t) : (pc : Int) + off = (t : Int) := by
  unfold amTo at h
  split at h
  · cases h; assumption
  · cases h
theorem amBin_inv {L : amL} {S : List amV} {pc : Nat} {bb : Bool} {st : amS} {f : Int32 → Int32 → Int32} {N : amF ⊕ amR} (h : amBin L S pc bb st f = some N) : ∃ x y S', S = vI y :: vI x :: S' ∧ bb = true ∧ N = .inl (pc, L, vI (f x y) :: S', st) := by
  unfold amBin at h
  split at h
  · obtain ⟨h1, h2⟩ := amGo_inv h
    exact ⟨_, _, _, rfl, h1, h2⟩
  · cases h
theorem amDiv_inv {L : amL} {S : List amV} {pc : Nat} {bb : Bool} {st : amS} {f : Int32 → Int32 → Int32} {N : amF ⊕ amR} (h : amDiv L S pc bb st f = some N) : ∃ x y S', S = vI y :: vI x :: S' ∧ bb = true ∧ ¬ y = 0 ∧ N = .inl (pc, L, vI (f x y) :: S', st) := by
  unfold amDiv at h
  split at h
  · obtain ⟨h1, h2⟩ := amGo_inv h
    rw [Bool.and_eq_true] at h1
    exact ⟨_, _, _, rfl, h1.1, of_decide_eq_true h1.2, h2⟩
  · cases h
theorem amUn_inv {L : amL} {S : List amV} {pc : Nat} {bb : Bool} {st : amS} {f : Int32 → amV} {N : amF ⊕ amR} (h : amUn L S pc bb st f = some N) : ∃ x S', S = vI x :: S' ∧ bb = true ∧ N = .inl (pc, L, f x :: S', st) := by
  unfold amUn at h
  split at h
  · obtain ⟨h1, h2⟩ := amGo_inv h
    exact ⟨_, _, rfl, h1, h2⟩
  · cases h
theorem amBil_inv {L : amL} {S : List amV} {pc : Nat} {bb : Bool} {st : amS} {f : Int64 → Int64 → amV} {N : amF ⊕ amR} (h : amBil L S pc bb st f = some N) : ∃ x y S', S = vL y :: vL x :: S' ∧ bb = true ∧ N = .inl (pc, L, f x y :: S', st) := by
  unfold amBil at h
  split at h
  · obtain ⟨h1, h2⟩ := amGo_inv h
    exact ⟨_, _, _, rfl, h1, h2⟩
  · cases h
theorem amLda_inv {L : amL} {S : List amV} {k pc : Nat} {bb : Bool} {st : amS} {N : amF ⊕ amR} (h : amLda L S k pc bb st = some N) : ∃ x, getL L k = some (vI x) ∧ bb = true ∧ N = .inl (pc, L, vI x :: S, st) := by
  unfold amLda at h
  split at h
  · obtain ⟨h1, h2⟩ := amGo_inv h
    exact ⟨_, by assumption, h1, h2⟩
  · cases h
theorem amLdl_inv {L : amL} {S : List amV} {k pc : Nat} {bb : Bool} {st : amS} {N : amF ⊕ amR} (h : amLdl L S k pc bb st = some N) : ∃ x, getL L k = some (vL x) ∧ bb = true ∧ N = .inl (pc, L, vL x :: S, st) := by
  unfold amLdl at h
  split at h
  · obtain ⟨h1, h2⟩ := amGo_inv h
    exact ⟨_, by assumption, h1, h2⟩
  · cases h
theorem amLdr_inv {L : amL} {S : List amV} {k pc : Nat} {bb : Bool} {st : amS} {N : amF ⊕ amR} (h : amLdr L S k pc bb st = some N) : ∃ c i, getL L k = some (vR c i) ∧ bb = true ∧ N = .inl (pc, L, vR c i :: S, st) := by
  unfold amLdr at h
  split at h
  · obtain ⟨h1, h2⟩ := amGo_inv h
    exact ⟨_, _, by assumption, h1, h2⟩
  · cases h
theorem amSta_inv {L : amL} {S : List amV} {k pc : Nat} {bb : Bool} {st : amS} {N : amF ⊕ amR} (h : amSta L S k pc bb st = some N) : ∃ x S', S = vI x :: S' ∧ bb = true ∧ k < L.length ∧ N = .inl (pc, setL L k (vI x), S', st) := by
  unfold amSta at h
  split at h
  · obtain ⟨h1, h2⟩ := amGo_inv h
    rw [Bool.and_eq_true] at h1
    exact ⟨_, _, rfl, h1.1, of_decide_eq_true h1.2, h2⟩
  · cases h
theorem amStr_inv {L : amL} {S : List amV} {k pc : Nat} {bb : Bool} {st : amS} {N : amF ⊕ amR} (h : amStr L S k pc bb st = some N) : ∃ c i S', S = vR c i :: S' ∧ bb = true ∧ k < L.length ∧ N = .inl (pc, setL L k (vR c i), S', st) := by
  unfold amStr at h
  split at h
  · obtain ⟨h1, h2⟩ := amGo_inv h
    rw [Bool.and_eq_true] at h1
    exact ⟨_, _, _, rfl, h1.1, of_decide_eq_true h1.2, h2⟩
  · cases h
theorem amStl_inv {L : amL} {S : List amV} {k pc : Nat} {bb : Bool} {st : amS} {N : amF ⊕ amR} (h : amStl L S k pc bb st = some N) : ∃ x S', S = vL x :: S' ∧ bb = true ∧ k + 1 < L.length ∧ N = .inl (pc, (setL L k (vL x)).set (k + 1) none, S', st) := by
  unfold amStl at h
  split at h
  · obtain ⟨h1, h2⟩ := amGo_inv h
    rw [Bool.and_eq_true] at h1
    exact ⟨_, _, rfl, h1.1, of_decide_eq_true h1.2, h2⟩
  · cases h
/-! the locals -/
def amLR (b bS : Nat) (ls : Array Slot) (L : amL) : Prop := ls.size = L.length ∧ lv_wf ls ∧ ∀ (i : Nat) (v : amV), L[i]? = some (some v) → ls[i]? = some (.val (amCv b bS v))
theorem getL_some {L : amL} {k : Nat} {v : amV} (h : getL L k = some v) : L[k]? = some (some v) := by
  unfold getL at h
  cases hk : L[k]? with
  | none => rw [hk] at h; cases h
  | some o =>
    rw [hk] at h
    cases o with
    | none => cases h
    | some w => cases h; rfl
theorem amLR.at {b bS : Nat} {ls : Array Slot} {L : amL} (h : amLR b bS ls L) {k : Nat} {v : amV} (hv : getL L k = some v) : ls[k]? = some (.val (amCv b bS v)) := h.2.2 k v (getL_some hv)
theorem setL_length : ∀ (L : amL) (k : Nat) (v : amV), (setL L k v).length = L.length
  | [], _, _ => by simp [setL]
  | a :: l, 0, v => by simp [setL]
  | a :: l, 1, v => by simp [setL, setL_length l 0 v]
  | a :: l, n + 2, v => by simp [setL, setL_length l (n + 1) v]
/-- what is known behind a store: the value, and what stood elsewhere, but a long whose second half it hits -/
theorem setL_get : ∀ (L : amL) (k : Nat) (v : amV) (i : Nat) (w : amV), (setL L k v)[i]? = some (some w) → (i = k ∧ w = v) ∨ (i ≠ k ∧ L[i]? = some (some w) ∧ ¬ (i + 1 = k ∧ amCat w = 2))
  | [], k, v, i, w, h => by simp [setL] at h
  | a :: l, 0, v, i, w, h => by
    cases i with
    | zero => simp [setL] at h; exact Or.inl ⟨rfl, h.symm⟩
    | succ i => simp [setL] at h; exact Or.inr ⟨by omega, by simpa using h, by omega⟩
  | a :: l, 1, v, i, w, h => by
    cases i with
    | zero =>
      cases ha : amLong a with
      | true => simp [setL, ha] at h
      | false =>
        simp [setL, ha] at h
        refine Or.inr ⟨by omega, by simpa using h, fun q => ?_⟩
        subst h
        obtain ⟨-, q⟩ := q
        match w, q, ha with
        | .inr (.inl _), _, ha => cases ha
    | succ i =>
      have h1 : (setL l 0 v)[i]? = some (some w) := by simpa [setL] using h
      rcases setL_get l 0 v i w h1 with ⟨h2, h3⟩ | ⟨h2, h3, h4⟩
      · exact Or.inl ⟨by omega, h3⟩
      · exact Or.inr ⟨by omega, by simpa using h3, fun q => h4 ⟨by omega, q.2⟩⟩
  | a :: l, n + 2, v, i, w, h => by
    cases i with
    | zero => simp [setL] at h; exact Or.inr ⟨by omega, by simpa using h, by omega⟩
    | succ i =>
      have h1 : (setL l (n + 1) v)[i]? = some (some w) := by simpa [setL] using h
      rcases setL_get l (n + 1) v i w h1 with ⟨h2, h3⟩ | ⟨h2, h3, h4⟩
      · exact Or.inl ⟨by omega, h3⟩
      · exact Or.inr ⟨by omega, by simpa using h3, fun q => h4 ⟨by omega, q.2⟩⟩
/-- the locals as the kit lists them -/
def amKl2 (b bS : Nat) (L : amL) : List (Nat × Value) := (List.range L.length).filterMap (fun i => (getL L i).map (fun v => (i, amCv b bS v)))
theorem amKl2_in {b bS : Nat} {L : amL} {i : Nat} {v : amV} (h : L[i]? = some (some v)) : (i, amCv b bS v) ∈ amKl2 b bS L := by
  refine List.mem_filterMap.mpr ⟨i, List.mem_range.mpr (List.getElem?_eq_some_iff.mp h).1, ?_⟩
  unfold getL
  rw [h]
  rfl
theorem amKl2_of {b bS : Nat} {L : amL} {z : Nat × Value} (h : z ∈ amKl2 b bS L) : ∃ v, L[z.1]? = some (some v) ∧ z.2 = amCv b bS v := by
  obtain ⟨i, -, h1⟩ := List.mem_filterMap.mp h
  cases hg : getL L i with
  | none => rw [hg] at h1; cases h1
  | some v =>
    rw [hg] at h1
    cases h1
    exact ⟨v, getL_some hg, rfl⟩
theorem amLR.has {b bS : Nat} {ls : Array Slot} {L : amL} (h : amLR b bS ls L) {nL : Nat} (hn : L.length = nL) : lv_has ls nL (amKl2 b bS L) := by
  refine ⟨h.1.trans hn, h.2.1, fun z hz => ?_⟩
  obtain ⟨v, h1, h2⟩ := amKl2_of hz
  rw [h2]
  exact h.2.2 _ v h1
theorem amCat_cv (b bS : Nat) (v : amV) : (amCv b bS v).category = amCat v := by
  match v with
  | .inl _ => rfl
  | .inr (.inl _) => rfl
  | .inr (.inr _) => rfl
theorem amLR.st1 {b bS : Nat} {ls' : Array Slot} {L : amL} {k nL : Nat} {v : amV} (hn : L.length = nL) (h : lv_has ls' nL ((k, amCv b bS v) :: (amKl2 b bS L).filter (fun q => !(q.1 == k) && !(q.1 + 1 == k && q.2.category == 2)))) : amLR b bS ls' (setL L k v) := by
  refine ⟨by rw [setL_length, hn]; exact h.1, h.2.1, fun i w hw => ?_⟩
  rcases setL_get L k v i w hw with ⟨rfl, rfl⟩ | ⟨h1, h2, h3⟩
  · exact h.2.2 _ List.mem_cons_self
  · refine h.2.2 (i, amCv b bS w) (List.mem_cons_of_mem _ (List.mem_filter.mpr ⟨amKl2_in h2, ?_⟩))
    simp only [Bool.and_eq_true, Bool.not_eq_true', beq_eq_false_iff_ne, Bool.and_eq_false_iff, ne_eq]
    refine ⟨h1, ?_⟩
    rw [amCat_cv]
    by_cases hk : i + 1 = k
    · exact Or.inr (fun q => h3 ⟨hk, q⟩)
    · exact Or.inl hk
theorem amLR.st2 {b bS : Nat} {ls' : Array Slot} {L : amL} {k nL : Nat} {v : amV} (hn : L.length = nL) (h : lv_has ls' nL ((k, amCv b bS v) :: (amKl2 b bS L).filter (fun q => !(q.1 == k) && (!(q.1 == k + 1) && !(q.1 + 1 == k && q.2.category == 2))))) : amLR b bS ls' ((setL L k v).set (k + 1) none) := by
  refine ⟨by rw [List.length_set, setL_length, hn]; exact h.1, h.2.1, fun i w hw => ?_⟩
  rw [List.getElem?_set] at hw
  by_cases hik : k + 1 = i
  · rw [if_pos hik] at hw
    split at hw <;> cases hw
  · rw [if_neg hik] at hw
    rcases setL_get L k v i w hw with ⟨rfl, rfl⟩ | ⟨h1, h2, h3⟩
    · exact h.2.2 _ List.mem_cons_self
    · refine h.2.2 (i, amCv b bS w) (List.mem_cons_of_mem _ (List.mem_filter.mpr ⟨amKl2_in h2, ?_⟩))
      simp only [Bool.and_eq_true, Bool.not_eq_true', beq_eq_false_iff_ne, Bool.and_eq_false_iff, ne_eq]
      refine ⟨h1, fun q => hik q.symm, ?_⟩
      rw [amCat_cv]
      by_cases hk : i + 1 = k
      · exact Or.inr (fun q => h3 ⟨hk, q⟩)
      · exact Or.inl hk
theorem amCats_cv (b bS : Nat) : ∀ S : List amV, ((S.map (amCv b bS)).map fun v => v.category).sum = amCats S
  | [] => rfl
  | v :: S => by simp [amCats, amCat_cv, ← amCats_cv b bS S]
