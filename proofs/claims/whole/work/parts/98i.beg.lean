/-! what is known at the law's entry -/
theorem clsC : ((List.range 13).all (fun c => match amCls[c]? with
  | some q => (u_ws q.1 q.2.1 q.2.2).all (fun w => decide (w ∈ lw_tbl)) && decide (Cond.instantiable q.1 q.2.2 ∈ lw_tbl)
  | none => false)) = true := by decide +kernel
theorem arr_in : Cond.arrayClass .int ∈ lw_tbl ∧ Cond.arrayOver (.object "SoundAdvice$Game") ∈ lw_tbl ∧ Cond.arrayClass .boolean ∈ lw_tbl ∧ Cond.arrayClass .long ∈ lw_tbl ∧ Cond.arrayClass .byte ∈ lw_tbl := ⟨List.mem_of_getElem? (i := 192) (by decide +kernel), List.mem_of_getElem? (i := 193) (by decide +kernel), List.mem_of_getElem? (i := 213) (by decide +kernel), List.mem_of_getElem? (i := 243) (by decide +kernel), List.mem_of_getElem? (i := 1128) (by decide +kernel)⟩
theorem arr_k {args : Array Value} {s : State} {ty : FieldType} (h : (Cond.arrayClass ty).before args s = true) : ArrOfT s ((s.vm.findClass ("[" ++ ty.toString)).getD 0) ty ∧ s.vm.findClass ("[" ++ ty.toString) = some ((s.vm.findClass ("[" ++ ty.toString)).getD 0) := by
  obtain ⟨cA, kA, comp, h1, h2, h3⟩ := Cond.arrayClass_spec h
  rw [h1]
  exact ⟨fun n z => ⟨fun k h => (by cases h), kA, h2, comp, h3⟩, rfl⟩
theorem amKn_of {args : Array Value} {s : State} (hts : ∀ w ∈ lw_tbl, w.before args s = true) : ∃ (D : va_G) (dA : FieldType → ClassId), amKn D dA s := by
  have hcls : ∀ c : Nat, ∃ (z : ClassId × (Nat → Nat)), ∀ q : vw_C, amCls[c]? = some q → u_Kn s q.1 q.2.1 q.2.2 z.1 z.2 := by
    intro c
    cases hq : amCls[c]? with
    | none => exact ⟨(0, fun _ => 0), fun q h => by cases h⟩
    | some q =>
      have hc : c < 13 := by
        have h1 := (List.getElem?_eq_some_iff.mp hq).1
        have h2 : amCls.length = 13 := by decide +kernel
        omega
      have h1 := List.all_eq_true.mp clsC c (List.mem_range.mpr hc)
      rw [hq] at h1
      rw [Bool.and_eq_true] at h1
      obtain ⟨cC, iS, h2⟩ := u_known (C := q.1) (T := q.2.1) (N := q.2.2) (n := q.2.2) hts (fun w hw => of_decide_eq_true (List.all_eq_true.mp h1.1 w hw)) (hts _ (of_decide_eq_true h1.2))
      refine ⟨(cC, iS), fun q' h => ?_⟩
      cases h
      exact h2
  obtain ⟨f, hf⟩ := Classical.axiomOfChoice hcls
  refine ⟨(fun c => (f c).1, fun c => (f c).2), fun ty => (s.vm.findClass ("[" ++ ty.toString)).getD 0, ⟨fun c q hq => hf c q hq, fun k q hk => ?_⟩, fun o i x h hm => va_Nw.of rfl (hts _ hm), va_AO.of (hts _ arr_in.2.1)⟩
  match k, hk with
  | 0, hk =>
    cases hk
    exact arr_k (hts _ arr_in.1)
  | 1, hk =>
    cases hk
    exact arr_k (hts _ arr_in.2.2.2.2)
  | 2, hk =>
    cases hk
    exact arr_k (hts _ arr_in.2.2.1)
  | 3, hk =>
    cases hk
    exact arr_k (hts _ arr_in.2.2.2.1)
  | 4, hk =>
    cases hk
    obtain ⟨comp, cA, kA, h1, -, h2, h3, h4⟩ := Cond.arrayOver_spec (hts _ arr_in.2.1)
    dsimp only
    rw [h4]
    exact ⟨fun n z => ⟨fun k h => (by cases h), kA, h2, comp, h3⟩, ⟨kA, comp, h2, h3, h1, h4⟩⟩
  | k + 5, hk => cases hk
theorem str_in : Cond.stringRef "SoundAdvice" 179 "no such profile" ∈ lw_tbl ∧ Cond.stringRef "SoundAdvice" 184 "no such player" ∈ lw_tbl ∧ Cond.stringRef "SoundAdvice" 418 "no such number" ∈ lw_tbl ∧ Cond.laysStatic Bundle.tN "UNASSIGNED_STACK" Bundle.steD ∈ lw_tbl ∧ Cond.laysStatic Bundle.tN "SUPPRESSED_SENTINEL" Bundle.listD ∈ lw_tbl ∧ Cond.initialized Bundle.tN ∈ lw_tbl := ⟨List.mem_of_getElem? (i := 1102) (by decide +kernel), List.mem_of_getElem? (i := 1129) (by decide +kernel), List.mem_of_getElem? (i := 1137) (by decide +kernel), List.mem_of_getElem? (i := 1090) (by decide +kernel), List.mem_of_getElem? (i := 1092) (by decide +kernel), List.mem_of_getElem? (i := 122) (by decide +kernel)⟩
theorem amKx_of {args : Array Value} {s : State} (hts : ∀ w ∈ lw_tbl, w.before args s = true) (hgv : (Jvm.Cond.and given_1 narrow_1).before args s = true) : amKx s.heap.size s s.heap := by
  have hs := flat_of_before _ hgv
  have hstr : ∀ (k : Nat) (tx : String), (Cond.stringRef "SoundAdvice" k tx).before args s = true → (Cond.exactly (.string "SoundAdvice" k) "java/lang/String").before args s = true → ∃ sa, vk_R "SoundAdvice" k tx sa s := by
    intro k tx h1 h2
    obtain ⟨a, cC, cell, kk, h3, -⟩ := Cond.exactly_spec h2
    exact ⟨a, vk_R.of h1 h3⟩
  have hA : ∀ a : Nat, a < s.heap.size → ¬ s.heap.size ≤ a := fun a h1 h2 => by omega
  exact ⟨fun w hw => va_Nw.of (by
    simp only [xN, List.mem_cons, List.not_mem_nil, or_false] at hw
    rcases hw with rfl | rfl | rfl | rfl <;> rfl) (hts w (xN_in w hw)), hstr _ _ (hts _ str_in.1) (hs _ (by decide +kernel)), hstr _ _ (hts _ str_in.2.1) (hs _ (by decide +kernel)), hstr _ _ (hts _ str_in.2.2.1) (hs _ (by decide +kernel)), vx_Zqof (hts _ str_in.2.2.2.1) (hts _ str_in.2.2.2.2.2) (hs _ (by decide +kernel)) hA, vx_Zqof (hts _ str_in.2.2.2.2.1) (hts _ str_in.2.2.2.2.2) (hs _ (by decide +kernel)) hA⟩
