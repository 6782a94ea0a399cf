/-! what a run hands back is of the method's type -/
theorem amStep_ty {C : Nat → List amV → amS → Option amR} {q : amInf} {pc : Nat} {ins : Instr} {n : Nat} {L : amL} {S : List amV} {st st' : amS} {w : amV} (h : amStep C q pc ins n L S st = some (.inr (some w, st'))) : (∃ x, w = .inl x ∧ (q.2.2.2.1 = some .int ∨ q.2.2.2.1 = some .boolean)) ∨ (∃ x, w = .inr (.inl x) ∧ q.2.2.2.1 = some .long) ∨ (∃ x o, w = .inr (.inr x) ∧ q.2.2.2.1 = some (.object o)) := by
  cases ins
  case ireturn =>
    dsimp only [amStep] at h
    split at h
    · split at h
      · rename_i hq
        obtain ⟨-, h2⟩ := amRet_inv h
        cases h2
        exact Or.inl ⟨_, rfl, Or.inl hq⟩
      · rename_i hq
        obtain ⟨-, h2⟩ := amRet_inv h
        cases h2
        exact Or.inl ⟨_, rfl, Or.inr hq⟩
      · cases h
    · cases h
  case lreturn =>
    dsimp only [amStep] at h
    split at h
    · split at h
      · rename_i hq
        obtain ⟨-, h2⟩ := amRet_inv h
        cases h2
        exact Or.inr (Or.inl ⟨_, rfl, hq⟩)
      · cases h
    · cases h
  case areturn =>
    dsimp only [amStep] at h
    split at h
    · split at h
      · rename_i o hq
        obtain ⟨-, h2⟩ := amRet_inv h
        cases h2
        exact Or.inr (Or.inr ⟨_, o, rfl, hq⟩)
      · cases h
    · cases h
  case new k =>
    exfalso
    dsimp only [amStep] at h
    split at h
    · exact nr_New _ _ _ _ _ _ _ h
    · split at h
      · obtain ⟨-, h2⟩ := amRet_inv h
        cases h2
      · cases h
  case return_ =>
    exfalso
    dsimp only [amStep] at h
    split at h
    · split at h
      · obtain ⟨-, h2⟩ := amRet_inv h
        cases h2
      · cases h
    · cases h
  all_goals exfalso
  all_goals first
    | exact nr_go h
    | exact nr_Sta _ _ _ _ _ _ h
    | exact nr_Str _ _ _ _ _ _ h
    | exact nr_Stl _ _ _ _ _ _ h
    | exact nr_Lda _ _ _ _ _ _ h
    | exact nr_Ldr _ _ _ _ _ _ h
    | exact nr_Ldl _ _ _ _ _ _ h
    | exact nr_Bin _ _ _ _ _ _ h
    | exact nr_Div _ _ _ _ _ _ h
    | exact nr_Un _ _ _ _ _ _ h
    | exact nr_Bil _ _ _ _ _ _ h
    | exact nr_Getf _ _ _ _ _ _ _ h
    | exact nr_Putf _ _ _ _ _ _ _ _ h
    | exact nr_New _ _ _ _ _ _ _ h
    | exact nr_Newa _ _ _ _ _ _ h
    | exact nr_Anew _ _ _ _ _ _ _ h
    | exact nr_Ald _ _ _ _ _ _ h
    | exact nr_Bld _ _ _ _ _ h
    | exact nr_Lld _ _ _ _ _ h
    | exact nr_Rld _ _ _ _ _ h
    | exact nr_Ast _ _ _ _ _ h
    | exact nr_Bst _ _ _ _ _ h
    | exact nr_Lst _ _ _ _ _ h
    | exact nr_Rst _ _ _ _ _ h
    | exact nr_Aln _ _ _ _ _ h
    | exact nr_Back _ _ _ _ _ h
    | exact nr_Copy _ _ _ _ _ h
    | exact nr_Obj _ _ _ _ _ h
    | exact nr_Mat _ _ _ _ _ _ h
    | exact nr_Mab _ _ _ _ _ h
    | exact nr_Jmp _ _ _ _ _ h
    | exact nr_Inv _ _ _ _ _ _ _ _ _ h
    | cases h
    | (dsimp only [amStep] at h; (repeat' split at h) <;> first | exact nr_go h | exact nr_Jmp _ _ _ _ _ h | cases h)

theorem amEx_ty {d n y : Nat} {q : amInf} {as : List amV} {st st' : amS} {w : amV} (hq : amMi[y]? = some q) (hy : y < 274) (h : amEx (d + 1) n y as st = some (some w, st')) : (∃ x, w = .inl x ∧ (q.2.2.2.1 = some .int ∨ q.2.2.2.1 = some .boolean)) ∨ (∃ x, w = .inr (.inl x) ∧ q.2.2.2.1 = some .long) ∨ (∃ x o, w = .inr (.inr x) ∧ q.2.2.2.1 = some (.object o)) := by
  unfold amEx at h
  rw [decide_eq_false (show ¬ 274 ≤ y by omega), hq] at h
  simp only [cond_false] at h
  cases hcc : decide ((amArgs as).length ≤ q.2.2.1) with
  | false => rw [hcc] at h; cases h
  | true =>
    rw [hcc] at h
    have h : amRun (amEx d n) q n (0, amEnt q as, [], st) = some (some w, st') := h
    obtain ⟨k, f1, ins, len, h1, h2, h3⟩ := amRun_last n _ h
    exact amStep_ty h3
