/-! when all is made, nothing more is -/
def kkN : amF ⊕ amR → Nat
  | .inl f => f.2.2.2.2.2.2.1
  | .inr r => r.2.2.2.2.1
theorem fl_go {b : Bool} {f : amF} {N : amF ⊕ amR} (h : amGo b f = some N) (hk : f.2.2.2.2.2.2.1 = amOrc.length) : kkN N = amOrc.length := by
  obtain ⟨-, rfl⟩ := amGo_inv h
  exact hk
theorem fl_ret {b : Bool} {r : amR} {N : amF ⊕ amR} (h : amRet b r = some N) (hk : r.2.2.2.2.1 = amOrc.length) : kkN N = amOrc.length := by
  obtain ⟨-, rfl⟩ := amRet_inv h
  exact hk
theorem fl_orc {k : Nat} (hk : k = amOrc.length) : amOrc[k]? = none := by
  rw [hk]
  exact List.getElem?_eq_none (Nat.le_refl _)
theorem fl_Sta (L : amL) (S : List amV) (k pc : Nat) (b : Bool) (st : amS) {N : amF ⊕ amR} (h : amSta L S k pc b st = some N) (hk : st.2.2.2.1 = amOrc.length) : kkN N = amOrc.length := by
  unfold amSta at h
  (repeat' split at h) <;> first | exact fl_go h hk | (cases h; done)
theorem fl_Bin (L : amL) (S : List amV) (pc : Nat) (b : Bool) (st : amS) (f : Int32 → Int32 → Int32) {N : amF ⊕ amR} (h : amBin L S pc b st f = some N) (hk : st.2.2.2.1 = amOrc.length) : kkN N = amOrc.length := by
  unfold amBin at h
  (repeat' split at h) <;> first | exact fl_go h hk | (cases h; done)
theorem fl_Un (L : amL) (S : List amV) (pc : Nat) (b : Bool) (st : amS) (f : Int32 → amV) {N : amF ⊕ amR} (h : amUn L S pc b st f = some N) (hk : st.2.2.2.1 = amOrc.length) : kkN N = amOrc.length := by
  unfold amUn at h
  (repeat' split at h) <;> first | exact fl_go h hk | (cases h; done)
theorem fl_Bil (L : amL) (S : List amV) (pc : Nat) (b : Bool) (st : amS) (f : Int64 → Int64 → amV) {N : amF ⊕ amR} (h : amBil L S pc b st f = some N) (hk : st.2.2.2.1 = amOrc.length) : kkN N = amOrc.length := by
  unfold amBil at h
  (repeat' split at h) <;> first | exact fl_go h hk | (cases h; done)
theorem fl_Getf (cn idx pc : Nat) (b : Bool) (L : amL) (S : List amV) (st : amS) {N : amF ⊕ amR} (h : amGetf cn idx pc b L S st = some N) (hk : st.2.2.2.1 = amOrc.length) : kkN N = amOrc.length := by
  unfold amGetf at h
  (repeat' split at h) <;> first | exact fl_go h hk | (cases h; done)
theorem fl_Putf (cn idx pc : Nat) (b i : Bool) (L : amL) (S : List amV) (st : amS) {N : amF ⊕ amR} (h : amPutf cn idx pc b i L S st = some N) (hk : st.2.2.2.1 = amOrc.length) : kkN N = amOrc.length := by
  unfold amPutf at h
  (repeat' split at h) <;> first | exact fl_go h hk | (cases h; done)
theorem fl_Newa (pc : Nat) (ty : ArrayType) (b : Bool) (L : amL) (S : List amV) (st : amS) {N : amF ⊕ amR} (h : amNewa pc ty b L S st = some N) (hk : st.2.2.2.1 = amOrc.length) : kkN N = amOrc.length := by
  have ho := fl_orc hk
  unfold amNewa at h
  rw [ho] at h
  exfalso
  (repeat' split at h) <;> first | (cases h; done) | simp_all
theorem fl_Ald (pc : Nat) (b : Bool) (tn : Nat) (L : amL) (S : List amV) (st : amS) {N : amF ⊕ amR} (h : amAld pc b tn L S st = some N) (hk : st.2.2.2.1 = amOrc.length) : kkN N = amOrc.length := by
  unfold amAld at h
  (repeat' split at h) <;> first | exact fl_go h hk | (cases h; done)
theorem fl_Mat (pc : Nat) (b : Bool) (L : amL) (S : List amV) (st : amS) (f : Int32 → Int32 → Int32) {N : amF ⊕ amR} (h : amMat pc b L S st f = some N) (hk : st.2.2.2.1 = amOrc.length) : kkN N = amOrc.length := by
  unfold amMat at h
  (repeat' split at h) <;> first | exact fl_go h hk | (cases h; done)
theorem fl_Jmp (b : Bool) (o : Option Nat) (L : amL) (S : List amV) (st : amS) {N : amF ⊕ amR} (h : amJmp b o L S st = some N) (hk : st.2.2.2.1 = amOrc.length) : kkN N = amOrc.length := by
  unfold amJmp at h
  (repeat' split at h) <;> first | exact fl_go h hk | (cases h; done)
theorem fl_Str (L : amL) (S : List amV) (k pc : Nat) (b : Bool) (st : amS) {N : amF ⊕ amR} (h : amStr L S k pc b st = some N) (hk : st.2.2.2.1 = amOrc.length) : kkN N = amOrc.length := by
  unfold amStr at h
  (repeat' split at h) <;> first | exact fl_go h hk | (cases h; done)
theorem fl_Stl (L : amL) (S : List amV) (k pc : Nat) (b : Bool) (st : amS) {N : amF ⊕ amR} (h : amStl L S k pc b st = some N) (hk : st.2.2.2.1 = amOrc.length) : kkN N = amOrc.length := by
  unfold amStl at h
  (repeat' split at h) <;> first | exact fl_go h hk | (cases h; done)
theorem fl_Lda (L : amL) (S : List amV) (k pc : Nat) (b : Bool) (st : amS) {N : amF ⊕ amR} (h : amLda L S k pc b st = some N) (hk : st.2.2.2.1 = amOrc.length) : kkN N = amOrc.length := by
  unfold amLda at h
  (repeat' split at h) <;> first | exact fl_go h hk | (cases h; done)
theorem fl_Ldr (L : amL) (S : List amV) (k pc : Nat) (b : Bool) (st : amS) {N : amF ⊕ amR} (h : amLdr L S k pc b st = some N) (hk : st.2.2.2.1 = amOrc.length) : kkN N = amOrc.length := by
  unfold amLdr at h
  (repeat' split at h) <;> first | exact fl_go h hk | (cases h; done)
theorem fl_Ldl (L : amL) (S : List amV) (k pc : Nat) (b : Bool) (st : amS) {N : amF ⊕ amR} (h : amLdl L S k pc b st = some N) (hk : st.2.2.2.1 = amOrc.length) : kkN N = amOrc.length := by
  unfold amLdl at h
  (repeat' split at h) <;> first | exact fl_go h hk | (cases h; done)
theorem fl_Div (L : amL) (S : List amV) (pc : Nat) (b : Bool) (st : amS) (f : Int32 → Int32 → Int32) {N : amF ⊕ amR} (h : amDiv L S pc b st f = some N) (hk : st.2.2.2.1 = amOrc.length) : kkN N = amOrc.length := by
  unfold amDiv at h
  (repeat' split at h) <;> first | exact fl_go h hk | (cases h; done)
theorem fl_New (cn idx pc : Nat) (b : Bool) (L : amL) (S : List amV) (st : amS) {N : amF ⊕ amR} (h : amNew cn idx pc b L S st = some N) (hk : st.2.2.2.1 = amOrc.length) : kkN N = amOrc.length := by
  have ho := fl_orc hk
  unfold amNew at h
  rw [ho] at h
  exfalso
  (repeat' split at h) <;> first | (cases h; done) | simp_all
theorem fl_Anew (cn idx pc : Nat) (b : Bool) (L : amL) (S : List amV) (st : amS) {N : amF ⊕ amR} (h : amAnew cn idx pc b L S st = some N) (hk : st.2.2.2.1 = amOrc.length) : kkN N = amOrc.length := by
  have ho := fl_orc hk
  unfold amAnew at h
  rw [ho] at h
  exfalso
  (repeat' split at h) <;> first | (cases h; done) | simp_all
theorem fl_Bld (pc : Nat) (b : Bool) (L : amL) (S : List amV) (st : amS) {N : amF ⊕ amR} (h : amBld pc b L S st = some N) (hk : st.2.2.2.1 = amOrc.length) : kkN N = amOrc.length := by
  unfold amBld at h
  (repeat' split at h) <;> first | exact fl_go h hk | (cases h; done)
theorem fl_Lld (pc : Nat) (b : Bool) (L : amL) (S : List amV) (st : amS) {N : amF ⊕ amR} (h : amLld pc b L S st = some N) (hk : st.2.2.2.1 = amOrc.length) : kkN N = amOrc.length := by
  unfold amLld at h
  (repeat' split at h) <;> first | exact fl_go h hk | (cases h; done)
theorem fl_Rld (pc : Nat) (b : Bool) (L : amL) (S : List amV) (st : amS) {N : amF ⊕ amR} (h : amRld pc b L S st = some N) (hk : st.2.2.2.1 = amOrc.length) : kkN N = amOrc.length := by
  unfold amRld at h
  (repeat' split at h) <;> first | exact fl_go h hk | (cases h; done)
theorem fl_Ast (pc : Nat) (b : Bool) (L : amL) (S : List amV) (st : amS) {N : amF ⊕ amR} (h : amAst pc b L S st = some N) (hk : st.2.2.2.1 = amOrc.length) : kkN N = amOrc.length := by
  unfold amAst at h
  (repeat' split at h) <;> first | exact fl_go h hk | (cases h; done)
theorem fl_Bst (pc : Nat) (b : Bool) (L : amL) (S : List amV) (st : amS) {N : amF ⊕ amR} (h : amBst pc b L S st = some N) (hk : st.2.2.2.1 = amOrc.length) : kkN N = amOrc.length := by
  unfold amBst at h
  (repeat' split at h) <;> first | exact fl_go h hk | (cases h; done)
theorem fl_Lst (pc : Nat) (b : Bool) (L : amL) (S : List amV) (st : amS) {N : amF ⊕ amR} (h : amLst pc b L S st = some N) (hk : st.2.2.2.1 = amOrc.length) : kkN N = amOrc.length := by
  unfold amLst at h
  (repeat' split at h) <;> first | exact fl_go h hk | (cases h; done)
theorem fl_Rst (pc : Nat) (b : Bool) (L : amL) (S : List amV) (st : amS) {N : amF ⊕ amR} (h : amRst pc b L S st = some N) (hk : st.2.2.2.1 = amOrc.length) : kkN N = amOrc.length := by
  unfold amRst at h
  (repeat' split at h) <;> first | exact fl_go h hk | (cases h; done)
theorem fl_Aln (pc : Nat) (b : Bool) (L : amL) (S : List amV) (st : amS) {N : amF ⊕ amR} (h : amAln pc b L S st = some N) (hk : st.2.2.2.1 = amOrc.length) : kkN N = amOrc.length := by
  unfold amAln at h
  (repeat' split at h) <;> first | exact fl_go h hk | (cases h; done)
theorem fl_Copy (pc : Nat) (b : Bool) (L : amL) (S : List amV) (st : amS) {N : amF ⊕ amR} (h : amCopy pc b L S st = some N) (hk : st.2.2.2.1 = amOrc.length) : kkN N = amOrc.length := by
  unfold amCopy at h
  (repeat' split at h) <;> first | exact fl_go h hk | (cases h; done)
theorem fl_Obj (pc : Nat) (b : Bool) (L : amL) (S : List amV) (st : amS) {N : amF ⊕ amR} (h : amObj pc b L S st = some N) (hk : st.2.2.2.1 = amOrc.length) : kkN N = amOrc.length := by
  unfold amObj at h
  (repeat' split at h) <;> first | exact fl_go h hk | (cases h; done)
theorem fl_Mab (pc : Nat) (b : Bool) (L : amL) (S : List amV) (st : amS) {N : amF ⊕ amR} (h : amMab pc b L S st = some N) (hk : st.2.2.2.1 = amOrc.length) : kkN N = amOrc.length := by
  unfold amMab at h
  (repeat' split at h) <;> first | exact fl_go h hk | (cases h; done)
def fullC (C : Nat → List amV → amS → Option amR) : Prop := ∀ (y : Nat) (as : List amV) (st : amS) (r : amR), C y as st = some r → st.2.2.2.1 = amOrc.length → r.2.2.2.2.1 = amOrc.length
theorem fl_Back {pc : Nat} {b : Bool} {L : amL} {rest : List amV} {r : Option amR} {N : amF ⊕ amR} (h : amBack pc b L rest r = some N) (hr : ∀ r', r = some r' → r'.2.2.2.2.1 = amOrc.length) : kkN N = amOrc.length := by
  cases r with
  | none => cases h
  | some r => exact fl_go h (hr r rfl)
theorem fl_Stat {C : Nat → List amV → amS → Option amR} (hC : fullC C) {y pc : Nat} {b : Bool} {L : amL} {S : List amV} {st : amS} {N : amF ⊕ amR} (h : amStat C y pc b L S st = some N) (hk : st.2.2.2.1 = amOrc.length) : kkN N = amOrc.length := by
  unfold amStat at h
  split at h
  · exact fl_Back h (fun r' z => hC _ _ _ _ z hk)
  · cases h
theorem fl_Virt {C : Nat → List amV → amS → Option amR} (hC : fullC C) {y pc : Nat} {b : Bool} {L : amL} {S : List amV} {st : amS} {N : amF ⊕ amR} (h : amVirt C y pc b L S st = some N) (hk : st.2.2.2.1 = amOrc.length) : kkN N = amOrc.length := by
  unfold amVirt at h
  split at h
  · split at h
    · rename_i q hq _ rc ri rest hd
      cases hc : (rc == q.2.2.2.2.1 && amAl st.2.2.2.1 rc ri) with
      | true =>
        rw [hc] at h
        exact fl_Back h (fun r' z => hC _ _ _ _ z hk)
      | false =>
        rw [hc] at h
        cases h
    · cases h
  · cases h
theorem fl_Inv {C : Nat → List amV → amS → Option amR} (hC : fullC C) {ks : List Nat} {cn idx pc : Nat} {b : Bool} {L : amL} {S : List amV} {st : amS} {N : amF ⊕ amR} (h : amInv C ks cn idx pc b L S st = some N) (hk : st.2.2.2.1 = amOrc.length) : kkN N = amOrc.length := by
  unfold amInv at h
  split at h
  · rename_i y kd hm
    cases hk9 : ks.contains kd with
    | false => rw [hk9] at h; cases h
    | true =>
      rw [hk9] at h
      have h : amInvK C y kd pc b L S st = some N := h
      unfold amInvK at h
      split at h
      · exact fl_Virt hC h hk
      · exact fl_Stat hC h hk
      · exact fl_Virt hC h hk
      · exact fl_Virt hC h hk
      · exact fl_Obj _ _ _ _ _ h hk
      · exact fl_Copy _ _ _ _ _ h hk
      · exact fl_Stat hC h hk
      · exact fl_Mat _ _ _ _ _ _ h hk
      · exact fl_Mat _ _ _ _ _ _ h hk
      · exact fl_Mab _ _ _ _ _ h hk
      · cases h
  · cases h
theorem amStep_full {C : Nat → List amV → amS → Option amR} (hC : fullC C) {q : amInf} {pc : Nat} {ins : Instr} {n : Nat} {L : amL} {S : List amV} {st : amS} {N : amF ⊕ amR} (h : amStep C q pc ins n L S st = some N) (hk : st.2.2.2.1 = amOrc.length) : kkN N = amOrc.length := by
  cases ins
  all_goals first
    | exact fl_go h hk
    | exact fl_Inv hC h hk
    | exact fl_Sta _ _ _ _ _ _ h hk
    | exact fl_Bin _ _ _ _ _ _ h hk
    | exact fl_Un _ _ _ _ _ _ h hk
    | exact fl_Bil _ _ _ _ _ _ h hk
    | exact fl_Getf _ _ _ _ _ _ _ h hk
    | exact fl_Putf _ _ _ _ _ _ _ _ h hk
    | exact fl_Newa _ _ _ _ _ _ h hk
    | exact fl_Ald _ _ _ _ _ _ h hk
    | exact fl_Mat _ _ _ _ _ _ h hk
    | exact fl_Jmp _ _ _ _ _ h hk
    | exact fl_Str _ _ _ _ _ _ h hk
    | exact fl_Stl _ _ _ _ _ _ h hk
    | exact fl_Lda _ _ _ _ _ _ h hk
    | exact fl_Ldr _ _ _ _ _ _ h hk
    | exact fl_Ldl _ _ _ _ _ _ h hk
    | exact fl_Div _ _ _ _ _ _ h hk
    | exact fl_New _ _ _ _ _ _ _ h hk
    | exact fl_Anew _ _ _ _ _ _ _ h hk
    | exact fl_Bld _ _ _ _ _ h hk
    | exact fl_Lld _ _ _ _ _ h hk
    | exact fl_Rld _ _ _ _ _ h hk
    | exact fl_Ast _ _ _ _ _ h hk
    | exact fl_Bst _ _ _ _ _ h hk
    | exact fl_Lst _ _ _ _ _ h hk
    | exact fl_Rst _ _ _ _ _ h hk
    | exact fl_Aln _ _ _ _ _ h hk
    | exact fl_Copy _ _ _ _ _ h hk
    | exact fl_Obj _ _ _ _ _ h hk
    | exact fl_Mab _ _ _ _ _ h hk
    | (cases h; done)
    | (dsimp only [amStep] at h; (repeat' split at h) <;> first | exact fl_go h hk | exact fl_Jmp _ _ _ _ _ h hk | exact fl_ret h hk | exact fl_New _ _ _ _ _ _ _ h hk | (cases h; done))
theorem amRun_full {C : Nat → List amV → amS → Option amR} (hC : fullC C) {q : amInf} : ∀ (n : Nat) (f : amF) (r : amR), amRun C q n f = some r → f.2.2.2.2.2.2.1 = amOrc.length → r.2.2.2.2.1 = amOrc.length
  | 0, f, r, h, _ => by cases h
  | n + 1, f, r, h, hk => by
    unfold amRun at h
    split at h
    · split at h
      · rename_i f' hst
        exact amRun_full hC n f' r h (amStep_full hC hst hk)
      · rename_i r' hst
        cases h
        exact amStep_full hC hst hk
      · cases h
    · cases h
theorem amPrm_full {r : Option amR} {o : Nat} {r2 : amR} (h : amPrm r o = some r2) (hr : ∀ r', r = some r' → r'.2.2.2.2.1 = amOrc.length) : r2.2.2.2.2.1 = amOrc.length := by
  match r, h, hr with
  | some (none, st), h, hr =>
    have h9 : st.2.2.2.1 = amOrc.length := hr (none, st) rfl
    cases h
    exact h9
  | some (some (.inl x), st), h, hr =>
    have h9 : st.2.2.2.1 = amOrc.length := hr (some (.inl x), st) rfl
    cases o with
    | zero =>
      cases h
      exact h9
    | succ o => cases h
  | some (some (.inr (.inl x)), st), h, hr =>
    have h9 : st.2.2.2.1 = amOrc.length := hr (some (.inr (.inl x)), st) rfl
    cases o with
    | zero =>
      cases h
      exact h9
    | succ o => cases h
  | some (some (.inr (.inr x)), st), h, hr => cases h
  | none, h, hr => cases h
theorem amEx_full (n : Nat) : ∀ d, fullC (amEx d n)
  | 0 => fun y as st r h _ => by cases h
  | d + 1 => fun y as st r h hk => by
    unfold amEx at h
    cases h4 : decide (274 ≤ y) with
    | true =>
      rw [h4] at h
      have h : amPri (amEx d n) y as st = some r := h
      unfold amPri at h
      split at h
      · exact amPrm_full h (fun r' z => amEx_full n d _ _ _ _ z hk)
      · exact amPrm_full h (fun r' z => amEx_full n d _ _ _ _ z hk)
      · cases h
    | false =>
      rw [h4] at h
      simp only [cond_false] at h
      split at h
      · rename_i q hq
        cases hcc : decide ((amArgs as).length ≤ q.2.2.1) with
        | false => rw [hcc] at h; cases h
        | true =>
          rw [hcc] at h
          exact amRun_full (amEx_full n d) n _ _ h hk
      · cases h
/-- the calls, the helpers' but when all is made -/
def CLg (d n : Nat) : Nat → List amV → amS → Option amR := fun y as st => bif decide (274 ≤ y) && !decide (st.2.2.2.1 = amOrc.length) then none else amEx d n y as st
theorem CLg_le {d n y : Nat} {as : List amV} {st : amS} {r : amR} (h : CLg d n y as st = some r) : amEx d n y as st = some r ∧ (274 ≤ y → st.2.2.2.1 = amOrc.length) := by
  unfold CLg at h
  cases h1 : (decide (274 ≤ y) && !decide (st.2.2.2.1 = amOrc.length)) with
  | true => rw [h1] at h; cases h
  | false =>
    rw [h1] at h
    refine ⟨h, fun hy => ?_⟩
    rw [decide_eq_true hy] at h1
    simpa using h1
theorem CLg_ge {d n y : Nat} {as : List amV} {st : amS} (hk : st.2.2.2.1 = amOrc.length) : CLg d n y as st = amEx d n y as st := by
  unfold CLg
  rw [decide_eq_true hk]
  simp
theorem run_g {d n : Nat} {q : amInf} : ∀ (k : Nat) (f : amF) (r : amR), amRun (amEx d n) q k f = some r → f.2.2.2.2.2.2.1 = amOrc.length → amRun (CLg d n) q k f = some r
  | 0, f, r, h, _ => by cases h
  | k + 1, f, r, h, hk => by
    unfold amRun at h ⊢
    split at h
    · rename_i ins len hf
      try rw [hf]
      try dsimp only
      have key : ∀ N, amStep (amEx d n) q f.1 ins len f.2.1 f.2.2.1 f.2.2.2 = some N → amStep (CLg d n) q f.1 ins len f.2.1 f.2.2.1 f.2.2.2 = some N := fun N hN => by
        obtain ⟨y, as, h1⟩ := amStep_one hN
        exact h1 _ (fun r' z => by rw [CLg_ge hk]; exact z)
      split at h
      · rename_i f' hst
        rw [key _ hst]
        exact run_g k f' r h (amStep_full (amEx_full n d) hst hk)
      · rename_i r' hst
        rw [key _ hst]
        exact h
      · cases h
    · cases h
