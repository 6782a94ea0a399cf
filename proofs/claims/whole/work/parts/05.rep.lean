/-! WHAT THE MACHINE'S STATE IS IN THE HEAP -/
def amTf : Nat → FieldType
  | 0 => .int
  | 1 => .byte
  | 2 => .boolean
  | 3 => .long
  | _ => .object "SoundAdvice$Game"
def amAd (b bS : Nat) (x : Nat × Nat) : Nat := if x.1 = 99 then bS else b + amOrc.idxOf x
def amCv (b bS : Nat) : amV → Value
  | .inl x => .int x
  | .inr (.inl x) => .long x
  | .inr (.inr x) => .ref (amAd b bS x)
def amFv (b bS : Nat) (M : amM) (t c i k : Nat) : Value := match amKd c k with
  | 2 => if amSt t (amFC c k) i 0 = true then .ref (amAd b bS (amTg c k i)) else .null
  | _ => .int (M (amFC c k) i 0)
def amNf (c : Nat) : Nat := match amFs[c]? with
  | some q => q.2.length
  | none => 0
def amE (b bS : Nat) (dA : FieldType → ClassId) (st : amS) (x : Nat × Nat) : va_E :=
  if x.1 < 50 then .inr (x.1, (List.range (amNf x.1)).map (amFv b bS st.1 st.2.2.2.2.1 x.1 x.2))
  else match amTn x.1 with
    | 3 => .inl (dA .long, amLen x.1, .inr (.inl (st.2.1 x.1)))
    | 4 => .inl (dA (.object "SoundAdvice$Game"), amLen x.1, .inr (.inr (.inr (.inr (fun j => if amSt st.2.2.2.2.1 x.1 x.2 j = true then some (amAd b bS (amEt x.1 j)) else none)))))
    | n => .inl (dA (amTf n), amLen x.1, .inl (st.1 x.1 x.2))
def amWs (b bS : Nat) (dA : FieldType → ClassId) (st : amS) : va_W := (amOrc.take st.2.2.2.1).map (fun x => (amAd b bS x, amE b bS dA st x))
def amRep (b bS : Nat) (D : va_G) (dA : FieldType → ClassId) (s : State) (st : amS) (H : Heap) : Prop :=
  va_P D amCls (amWs b bS dA st) H ∧ b + st.2.2.2.1 ≤ H.size ∧ (st.2.2.2.1 < amOrc.length → H.size = b + st.2.2.2.1) ∧ st.2.2.2.1 ≤ amOrc.length ∧ (0 < st.2.2.2.2.2 → va_X bS (st.2.2.2.2.2 - 1) (st.1 99 0) s H)
theorem amOrcC : amOrc.Nodup ∧ (∀ x ∈ amOrc, x.1 < 50 ∨ (100 ≤ x.1 ∧ x.1 < 1000)) ∧ amOrf.Nodup ∧ amOrc.length = amSz.length := by decide +kernel
theorem amNot99 {x : Nat × Nat} (h : x ∈ amOrc) : x.1 ≠ 99 := by
  rcases amOrcC.2.1 x h with h | h <;> omega
theorem amIdx_lt {k c i : Nat} (hk : k ≤ amOrc.length) (h : amAl k c i = true) : amOrc.idxOf (c, i) < k ∧ (c, i) ∈ amOrc := by
  have h1 : amOrc.idxOf (c, i) < k := of_decide_eq_true h
  exact ⟨h1, List.idxOf_lt_length_iff.mp (Nat.lt_of_lt_of_le h1 hk)⟩
theorem amIdx_get {x : Nat × Nat} (h : x ∈ amOrc) : amOrc[amOrc.idxOf x]? = some x := by
  have h1 := List.idxOf_lt_length_iff.mpr h
  rw [List.getElem?_eq_getElem h1, List.getElem_idxOf]
theorem amIdx_of {x : Nat × Nat} {n : Nat} (h : amOrc[n]? = some x) : amOrc.idxOf x = n := by
  obtain ⟨h1, h2⟩ := List.getElem?_eq_some_iff.mp h
  rw [← h2]
  exact List.Nodup.idxOf_getElem amOrcC.1 n h1
theorem amAd_in {b bS : Nat} {x : Nat × Nat} (h : x ∈ amOrc) : amAd b bS x = b + amOrc.idxOf x := by
  unfold amAd
  rw [if_neg (amNot99 h)]
theorem amWs_at {b bS : Nat} {dA : FieldType → ClassId} {st : amS} {c i : Nat} (hk : st.2.2.2.1 ≤ amOrc.length) (h : amAl st.2.2.2.1 c i = true) :
    (amWs b bS dA st)[amOrc.idxOf (c, i)]? = some (amAd b bS (c, i), amE b bS dA st (c, i)) := by
  obtain ⟨h1, h2⟩ := amIdx_lt hk h
  unfold amWs
  rw [List.getElem?_map, List.getElem?_take_of_lt h1, amIdx_get h2]
  rfl
theorem amWs_get {b bS : Nat} {dA : FieldType → ClassId} {st : amS} {n : Nat} {z : Nat × va_E} (h : (amWs b bS dA st)[n]? = some z) : ∃ x, amOrc[n]? = some x ∧ n < st.2.2.2.1 ∧ z = (amAd b bS x, amE b bS dA st x) := by
  unfold amWs at h
  rw [List.getElem?_map] at h
  by_cases hn : n < st.2.2.2.1
  · rw [List.getElem?_take_of_lt hn] at h
    cases hx : amOrc[n]? with
    | none => rw [hx] at h; cases h
    | some x =>
      rw [hx] at h
      cases h
      exact ⟨x, rfl, hn, rfl⟩
  · rw [List.getElem?_eq_none (by rw [List.length_take]; omega)] at h
    cases h
theorem amWs_D {b bS : Nat} {dA : FieldType → ClassId} {st : amS} : va_D (fun q => b ≤ q) (amWs b bS dA st) := by
  refine ⟨fun i j p q hp hq h => ?_, fun k q hq => ?_⟩
  · obtain ⟨x, hx, -, rfl⟩ := amWs_get hp
    obtain ⟨y, hy, -, rfl⟩ := amWs_get hq
    dsimp only at h
    rw [amAd_in (List.mem_of_getElem? hx), amAd_in (List.mem_of_getElem? hy), amIdx_of hx, amIdx_of hy] at h
    omega
  · obtain ⟨x, hx, -, rfl⟩ := amWs_get hq
    show b ≤ amAd b bS x
    rw [amAd_in (List.mem_of_getElem? hx)]
    omega
/-- one cell changes -/
theorem amWs_set {b bS : Nat} {dA : FieldType → ClassId} {st st' : amS} {c i : Nat} (hk : st.2.2.2.1 ≤ amOrc.length) (h : amAl st.2.2.2.1 c i = true) (hkk : st'.2.2.2.1 = st.2.2.2.1) (ho : ∀ x ∈ amOrc, x ≠ (c, i) → amE b bS dA st' x = amE b bS dA st x) :
    (amWs b bS dA st).set (amOrc.idxOf (c, i)) (amAd b bS (c, i), amE b bS dA st' (c, i)) = amWs b bS dA st' := by
  obtain ⟨h1, h2⟩ := amIdx_lt hk h
  apply List.ext_getElem?
  intro n
  rw [List.getElem?_set]
  by_cases hn : amOrc.idxOf (c, i) = n
  · subst hn
    have hlen : amOrc.idxOf (c, i) < (amWs b bS dA st).length := (List.getElem?_eq_some_iff.mp (amWs_at (b := b) (bS := bS) (dA := dA) hk h)).1
    rw [if_pos rfl, if_pos hlen, amWs_at (st := st') (by rw [hkk]; exact hk) (by rw [hkk]; exact h)]
  · rw [if_neg hn]
    unfold amWs
    rw [List.getElem?_map, List.getElem?_map, hkk]
    by_cases hnk : n < st.2.2.2.1
    · rw [List.getElem?_take_of_lt hnk]
      cases hx : amOrc[n]? with
      | none => rfl
      | some x =>
        have hne : x ≠ (c, i) := fun q => hn (by rw [← q]; exact amIdx_of hx)
        show some (amAd b bS x, amE b bS dA st x) = some (amAd b bS x, amE b bS dA st' x)
        rw [ho x (List.mem_of_getElem? hx) hne]
    · rw [List.getElem?_eq_none (by rw [List.length_take]; omega)]
      rfl
theorem amE_obj {b bS : Nat} {dA : FieldType → ClassId} {st : amS} {c i : Nat} (h : c < 50) : amE b bS dA st (c, i) = .inr (c, (List.range (amNf c)).map (amFv b bS st.1 st.2.2.2.2.1 c i)) := by
  unfold amE
  rw [if_pos h]
theorem amE_int {b bS : Nat} {dA : FieldType → ClassId} {st : amS} {c i n : Nat} (h : 100 ≤ c) (hn : amTn c = n) (hn3 : n < 3) : amE b bS dA st (c, i) = .inl (dA (amTf n), amLen c, .inl (st.1 c i)) := by
  unfold amE
  rw [if_neg (by show ¬ c < 50; omega)]
  show (match amTn c with
    | 3 => _
    | 4 => _
    | n => _) = _
  rw [hn]
  match n, hn3 with
  | 0, _ => rfl
  | 1, _ => rfl
  | 2, _ => rfl
theorem amE_long {b bS : Nat} {dA : FieldType → ClassId} {st : amS} {c i : Nat} (h : 100 ≤ c) (hn : amTn c = 3) : amE b bS dA st (c, i) = .inl (dA .long, amLen c, .inr (.inl (st.2.1 c))) := by
  unfold amE
  rw [if_neg (by show ¬ c < 50; omega)]
  show (match amTn c with
    | 3 => _
    | 4 => _
    | n => _) = _
  rw [hn]
  rfl
theorem amE_ref {b bS : Nat} {dA : FieldType → ClassId} {st : amS} {c i : Nat} (h : 100 ≤ c) (hn : amTn c = 4) : amE b bS dA st (c, i) = .inl (dA (.object "SoundAdvice$Game"), amLen c, .inr (.inr (.inr (.inr (fun j => if amSt st.2.2.2.2.1 c i j = true then some (amAd b bS (amEt c j)) else none))))) := by
  unfold amE
  rw [if_neg (by show ¬ c < 50; omega)]
  show (match amTn c with
    | 3 => _
    | 4 => _
    | n => _) = _
  rw [hn]
  rfl
/-- a cell depends on its own ints, longs and stored references alone -/
theorem amE_same {b bS : Nat} {dA : FieldType → ClassId} {st st' : amS} {x : Nat × Nat} (hx : x ∈ amOrc)
    (h1 : x.1 < 50 → ∀ k, k < 50 → st'.1 (amFC x.1 k) x.2 0 = st.1 (amFC x.1 k) x.2 0) (h2 : x.1 < 50 → ∀ k, k < 50 → amSt st'.2.2.2.2.1 (amFC x.1 k) x.2 0 = amSt st.2.2.2.2.1 (amFC x.1 k) x.2 0)
    (h3 : 100 ≤ x.1 → st'.1 x.1 x.2 = st.1 x.1 x.2) (h4 : 100 ≤ x.1 → st'.2.1 x.1 = st.2.1 x.1) (h5 : 100 ≤ x.1 → ∀ j, amSt st'.2.2.2.2.1 x.1 x.2 j = amSt st.2.2.2.2.1 x.1 x.2 j) : amE b bS dA st' x = amE b bS dA st x := by
  obtain ⟨c, i⟩ := x
  rcases amOrcC.2.1 _ hx with hc | hc
  · rw [amE_obj hc, amE_obj hc]
    congr 2
    apply List.map_congr_left
    intro k hk
    have hk : k < 50 := by
      have h9 := List.mem_range.mp hk
      have h8 : ∀ c, c < 50 → amNf c ≤ 50 := by decide +kernel
      exact Nat.lt_of_lt_of_le h9 (h8 c hc)
    unfold amFv
    rw [h1 hc k hk, h2 hc k hk]
  · have hc := hc.1
    dsimp only at hc
    unfold amE
    rw [if_neg (by show ¬ c < 50; omega), if_neg (by show ¬ c < 50; omega), h3 hc, h4 hc]
    simp only [h5 hc]
theorem amNf_le : ∀ c, c < 50 → amNf c ≤ 50 := by decide +kernel
