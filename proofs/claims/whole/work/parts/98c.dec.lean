/-! where something is decoded, there is a byte -/
theorem u1_err {cb : ByteArray} {pc : Nat} (hn : ¬ pc < cb.size) : (Reader.u1 : Decoder Nat) cb pc = .error (HasTruncated.truncated pc) := by
  unfold Reader.u1
  show (dite (pc < cb.size) (fun h => (do set (pc + 1); pure cb[pc].toNat : Decoder Nat)) (fun _ => throw (HasTruncated.truncated pc))) cb pc = _
  rw [dif_neg hn]
  rfl
theorem dec_lt {cb : ByteArray} {pc : Nat} {x : Instr × Nat} (h : decode cb pc = .ok x) : pc < cb.size := by
  refine Classical.byContradiction (fun hn => ?_)
  have key : ∀ (K : Nat → Decoder Instr), ((Reader.u1 >>= K : Decoder Instr) cb pc) = .error (HasTruncated.truncated pc) := by
    intro K
    show (Reader.u1 cb pc >>= fun z => K z.1 cb z.2) = _
    rw [u1_err hn]
    rfl
  have h2 : (Decoder.instr pc) cb pc = .error (HasTruncated.truncated pc) := key _
  have h3 : decode cb pc = .error (HasTruncated.truncated pc) := by
    show ((Decoder.instr pc) cb pc >>= fun z => pure (z.1, z.2 - pc)) = _
    rw [h2]
    rfl
  rw [h3] at h
  cases h
theorem new154 : ∀ pc, pc < 100 → ∀ k, decode prog_1_method_10_code pc = .ok (.new k, 3) → pc = 11 ∨ pc = 60 := by
  have key : ((List.range 100).all (fun pc => match decode prog_1_method_10_code pc with
    | .ok (.new _, _) => decide (pc = 11 ∨ pc = 60)
    | _ => true)) = true := by decide +kernel
  intro pc hp k h
  have h1 := List.all_eq_true.mp key pc (List.mem_range.mpr hp)
  rw [h] at h1
  exact of_decide_eq_true h1
theorem new155 : ∀ pc, pc < 100 → ∀ k, decode prog_1_method_57_code pc = .ok (.new k, 3) → pc = 15 := by
  have key : ((List.range 100).all (fun pc => match decode prog_1_method_57_code pc with
    | .ok (.new _, _) => decide (pc = 15)
    | _ => true)) = true := by decide +kernel
  intro pc hp k h
  have h1 := List.all_eq_true.mp key pc (List.mem_range.mpr hp)
  rw [h] at h1
  exact of_decide_eq_true h1
theorem sz154 : prog_1_method_10_code.size ≤ 100 := by decide +kernel
theorem sz155 : prog_1_method_57_code.size ≤ 100 := by decide +kernel
/-- a run's last step -/
theorem amRun_last {C : Nat → List amV → amS → Option amR} {q : amInf} {r : amR} : ∀ (n : Nat) (f : amF), amRun C q n f = some r → ∃ (k : Nat) (f1 : amF) (ins : Instr) (len : Nat), amGoN C q k f = some f1 ∧ decode q.2.1 f1.1 = .ok (ins, len) ∧ amStep C q f1.1 ins len f1.2.1 f1.2.2.1 f1.2.2.2 = some (.inr r)
  | 0, f, h => by cases h
  | n + 1, f, h => by
    unfold amRun at h
    split at h
    · rename_i ins len hf
      split at h
      · rename_i f' hst
        obtain ⟨k, f1, ins1, len1, h1, h2, h3⟩ := amRun_last n f' h
        refine ⟨k + 1, f1, ins1, len1, ?_, h2, h3⟩
        unfold amGoN
        rw [hf]
        dsimp only
        rw [hst]
        exact h1
      · rename_i r' hst
        cases h
        refine ⟨0, f, ins, len, rfl, ?_, hst⟩
        unfold amFe at hf
        split at hf
        · rename_i x hx
          cases hf
          exact hx
        · cases hf
      · cases h
    · cases h
section GON
variable {p : Program} {l : Launch} {e : Env} {R : Room} {s : State} {m : MethodId} {args : Array Value} {below : List Frame} {meth : Method} {c : Code} {Q : State → Prop} {b bS : Nat} {D : va_G} {dA : FieldType → ClassId} {q : amInf} {c0 s0 d : Nat} {CALL : Nat → List amV → amS → Option amR}
theorem amGoN_mono (hM : amMonoC CALL) : ∀ (n : Nat) (f f1 : amF), amGoN CALL q n f = some f1 → amCN f.2.2.2 ≤ amCN f1.2.2.2 ∧ amSN f.2.2.2 ≤ amSN f1.2.2.2
  | 0, f, f1, h => by
    cases h
    exact ⟨Nat.le_refl _, Nat.le_refl _⟩
  | n + 1, f, f1, h => by
    unfold amGoN at h
    split at h
    · split at h
      · rename_i f' hst
        have h1 : amCN f.2.2.2 ≤ amCN f'.2.2.2 ∧ amSN f.2.2.2 ≤ amSN f'.2.2.2 := amStep_mono hM hst
        have h2 := amGoN_mono hM n f' f1 h
        exact ⟨Nat.le_trans h1.1 h2.1, Nat.le_trans h1.2 h2.2⟩
      · cases h
    · cases h
/-- so many steps, seen from behind them -/
theorem amSnd_goN (HC : amCallOk l b bS D dA d CALL) (HP : amPrimOk p l e R s m args below meth c b bS D dA q CALL) (hM : amMonoC CALL) (hfr : d + 3 ≤ R.frames) (hlo : 100 * d + 300 ≤ R.locals) (Cx : amCx p s m args meth c b bS D dA q) :
    ∀ (n : Nat) (f f1 : amF), amGoN CALL q n f = some f1 → amCN f1.2.2.2 ≤ R.cells + c0 ∧ amSN f1.2.2.2 ≤ R.slots + s0 → amCont p l e R s m args below meth c Q b bS D dA q c0 s0 (.inl f1) → amCont p l e R s m args below meth c Q b bS D dA q c0 s0 (.inl f)
  | 0, f, f1, h, _, k => by
    cases h
    exact k
  | n + 1, f, f1, h, hfin, k => by
    unfold amGoN at h
    split at h
    · rename_i ins len hf
      split at h
      · rename_i f' hst
        have k' := amSnd_goN HC HP hM hfr hlo Cx n f' f1 h hfin k
        have hmo := amGoN_mono hM n f' f1 h
        intro ls H locs cells slots hl hL hR hS hc hs
        have hdg : decode q.2.1 f.1 = .ok (ins, len) := by
          unfold amFe at hf
          split at hf
          · rename_i x hx
            cases hf
            exact hx
          · cases hf
        exact amSnd_step HC HP hM hfr hlo Cx hl hL hR hS hc hs hdg hst ⟨Nat.le_trans hmo.1 hfin.1, Nat.le_trans hmo.2 hfin.2⟩ k'
      · cases h
    · cases h
end GON
/-! no step but a return ends -/
theorem nr_go {b : Bool} {f : amF} {r : amR} : ¬ amGo b f = some (.inr r) := by
  unfold amGo
  cases b <;> (intro z; cases z)
theorem nr_Sta (L : amL) (S : List amV) (k pc : Nat) (b : Bool) (st : amS) {r9 : amR} : ¬ amSta L S k pc b st = some (.inr r9) := by
  unfold amSta
  (repeat' split) <;> first | exact nr_go | (intro z; cases z)
theorem nr_Str (L : amL) (S : List amV) (k pc : Nat) (b : Bool) (st : amS) {r9 : amR} : ¬ amStr L S k pc b st = some (.inr r9) := by
  unfold amStr
  (repeat' split) <;> first | exact nr_go | (intro z; cases z)
theorem nr_Stl (L : amL) (S : List amV) (k pc : Nat) (b : Bool) (st : amS) {r9 : amR} : ¬ amStl L S k pc b st = some (.inr r9) := by
  unfold amStl
  (repeat' split) <;> first | exact nr_go | (intro z; cases z)
theorem nr_Lda (L : amL) (S : List amV) (k pc : Nat) (b : Bool) (st : amS) {r9 : amR} : ¬ amLda L S k pc b st = some (.inr r9) := by
  unfold amLda
  (repeat' split) <;> first | exact nr_go | (intro z; cases z)
theorem nr_Ldr (L : amL) (S : List amV) (k pc : Nat) (b : Bool) (st : amS) {r9 : amR} : ¬ amLdr L S k pc b st = some (.inr r9) := by
  unfold amLdr
  (repeat' split) <;> first | exact nr_go | (intro z; cases z)
theorem nr_Ldl (L : amL) (S : List amV) (k pc : Nat) (b : Bool) (st : amS) {r9 : amR} : ¬ amLdl L S k pc b st = some (.inr r9) := by
  unfold amLdl
  (repeat' split) <;> first | exact nr_go | (intro z; cases z)
theorem nr_Bin (L : amL) (S : List amV) (pc : Nat) (b : Bool) (st : amS) (f : Int32 → Int32 → Int32) {r9 : amR} : ¬ amBin L S pc b st f = some (.inr r9) := by
  unfold amBin
  (repeat' split) <;> first | exact nr_go | (intro z; cases z)
theorem nr_Div (L : amL) (S : List amV) (pc : Nat) (b : Bool) (st : amS) (f : Int32 → Int32 → Int32) {r9 : amR} : ¬ amDiv L S pc b st f = some (.inr r9) := by
  unfold amDiv
  (repeat' split) <;> first | exact nr_go | (intro z; cases z)
theorem nr_Un (L : amL) (S : List amV) (pc : Nat) (b : Bool) (st : amS) (f : Int32 → amV) {r9 : amR} : ¬ amUn L S pc b st f = some (.inr r9) := by
  unfold amUn
  (repeat' split) <;> first | exact nr_go | (intro z; cases z)
theorem nr_Bil (L : amL) (S : List amV) (pc : Nat) (b : Bool) (st : amS) (f : Int64 → Int64 → amV) {r9 : amR} : ¬ amBil L S pc b st f = some (.inr r9) := by
  unfold amBil
  (repeat' split) <;> first | exact nr_go | (intro z; cases z)
theorem nr_Getf (cn idx pc : Nat) (b : Bool) (L : amL) (S : List amV) (st : amS) {r9 : amR} : ¬ amGetf cn idx pc b L S st = some (.inr r9) := by
  unfold amGetf
  (repeat' split) <;> first | exact nr_go | (intro z; cases z)
theorem nr_Putf (cn idx pc : Nat) (b i : Bool) (L : amL) (S : List amV) (st : amS) {r9 : amR} : ¬ amPutf cn idx pc b i L S st = some (.inr r9) := by
  unfold amPutf
  (repeat' split) <;> first | exact nr_go | (intro z; cases z)
theorem nr_New (cn idx pc : Nat) (b : Bool) (L : amL) (S : List amV) (st : amS) {r9 : amR} : ¬ amNew cn idx pc b L S st = some (.inr r9) := by
  unfold amNew
  (repeat' split) <;> first | exact nr_go | (intro z; cases z)
theorem nr_Newa (pc : Nat) (ty : ArrayType) (b : Bool) (L : amL) (S : List amV) (st : amS) {r9 : amR} : ¬ amNewa pc ty b L S st = some (.inr r9) := by
  unfold amNewa
  (repeat' split) <;> first | exact nr_go | (intro z; cases z)
theorem nr_Anew (cn idx pc : Nat) (b : Bool) (L : amL) (S : List amV) (st : amS) {r9 : amR} : ¬ amAnew cn idx pc b L S st = some (.inr r9) := by
  unfold amAnew
  (repeat' split) <;> first | exact nr_go | (intro z; cases z)
theorem nr_Ald (pc : Nat) (b : Bool) (tn : Nat) (L : amL) (S : List amV) (st : amS) {r9 : amR} : ¬ amAld pc b tn L S st = some (.inr r9) := by
  unfold amAld
  (repeat' split) <;> first | exact nr_go | (intro z; cases z)
theorem nr_Bld (pc : Nat) (b : Bool) (L : amL) (S : List amV) (st : amS) {r9 : amR} : ¬ amBld pc b L S st = some (.inr r9) := by
  unfold amBld
  (repeat' split) <;> first | exact nr_go | (intro z; cases z)
theorem nr_Lld (pc : Nat) (b : Bool) (L : amL) (S : List amV) (st : amS) {r9 : amR} : ¬ amLld pc b L S st = some (.inr r9) := by
  unfold amLld
  (repeat' split) <;> first | exact nr_go | (intro z; cases z)
theorem nr_Rld (pc : Nat) (b : Bool) (L : amL) (S : List amV) (st : amS) {r9 : amR} : ¬ amRld pc b L S st = some (.inr r9) := by
  unfold amRld
  (repeat' split) <;> first | exact nr_go | (intro z; cases z)
theorem nr_Ast (pc : Nat) (b : Bool) (L : amL) (S : List amV) (st : amS) {r9 : amR} : ¬ amAst pc b L S st = some (.inr r9) := by
  unfold amAst
  (repeat' split) <;> first | exact nr_go | (intro z; cases z)
theorem nr_Bst (pc : Nat) (b : Bool) (L : amL) (S : List amV) (st : amS) {r9 : amR} : ¬ amBst pc b L S st = some (.inr r9) := by
  unfold amBst
  (repeat' split) <;> first | exact nr_go | (intro z; cases z)
theorem nr_Lst (pc : Nat) (b : Bool) (L : amL) (S : List amV) (st : amS) {r9 : amR} : ¬ amLst pc b L S st = some (.inr r9) := by
  unfold amLst
  (repeat' split) <;> first | exact nr_go | (intro z; cases z)
theorem nr_Rst (pc : Nat) (b : Bool) (L : amL) (S : List amV) (st : amS) {r9 : amR} : ¬ amRst pc b L S st = some (.inr r9) := by
  unfold amRst
  (repeat' split) <;> first | exact nr_go | (intro z; cases z)
theorem nr_Aln (pc : Nat) (b : Bool) (L : amL) (S : List amV) (st : amS) {r9 : amR} : ¬ amAln pc b L S st = some (.inr r9) := by
  unfold amAln
  (repeat' split) <;> first | exact nr_go | (intro z; cases z)
theorem nr_Back (pc : Nat) (b : Bool) (L : amL) (rest : List amV) (r : Option amR) {r9 : amR} : ¬ amBack pc b L rest r = some (.inr r9) := by
  unfold amBack
  (repeat' split) <;> first | exact nr_go | (intro z; cases z)
theorem nr_Copy (pc : Nat) (b : Bool) (L : amL) (S : List amV) (st : amS) {r9 : amR} : ¬ amCopy pc b L S st = some (.inr r9) := by
  unfold amCopy
  (repeat' split) <;> first | exact nr_go | (intro z; cases z)
theorem nr_Obj (pc : Nat) (b : Bool) (L : amL) (S : List amV) (st : amS) {r9 : amR} : ¬ amObj pc b L S st = some (.inr r9) := by
  unfold amObj
  (repeat' split) <;> first | exact nr_go | (intro z; cases z)
theorem nr_Mat (pc : Nat) (b : Bool) (L : amL) (S : List amV) (st : amS) (f : Int32 → Int32 → Int32) {r9 : amR} : ¬ amMat pc b L S st f = some (.inr r9) := by
  unfold amMat
  (repeat' split) <;> first | exact nr_go | (intro z; cases z)
theorem nr_Mab (pc : Nat) (b : Bool) (L : amL) (S : List amV) (st : amS) {r9 : amR} : ¬ amMab pc b L S st = some (.inr r9) := by
  unfold amMab
  (repeat' split) <;> first | exact nr_go | (intro z; cases z)
theorem nr_Jmp (b : Bool) (o : Option Nat) (L : amL) (S : List amV) (st : amS) {r9 : amR} : ¬ amJmp b o L S st = some (.inr r9) := by
  unfold amJmp
  (repeat' split) <;> first | exact nr_go | (intro z; cases z)
theorem nr_Stat (C : Nat → List amV → amS → Option amR) (y pc : Nat) (b : Bool) (L : amL) (S : List amV) (st : amS) {r9 : amR} : ¬ amStat C y pc b L S st = some (.inr r9) := by
  unfold amStat
  split
  · exact nr_Back _ _ _ _ _
  · intro z; cases z
theorem nr_Virt (C : Nat → List amV → amS → Option amR) (y pc : Nat) (b : Bool) (L : amL) (S : List amV) (st : amS) {r9 : amR} : ¬ amVirt C y pc b L S st = some (.inr r9) := by
  unfold amVirt
  split
  · split
    · rename_i q hq _ rc ri rest hd
      cases hc : (rc == q.2.2.2.2.1 && amAl st.2.2.2.1 rc ri) with
      | true => exact nr_Back _ _ _ _ _
      | false => intro z; cases z
    · intro z; cases z
  · intro z; cases z
theorem nr_Inv (C : Nat → List amV → amS → Option amR) (ks : List Nat) (cn idx pc : Nat) (b : Bool) (L : amL) (S : List amV) (st : amS) {r9 : amR} : ¬ amInv C ks cn idx pc b L S st = some (.inr r9) := by
  intro h
  unfold amInv at h
  split at h
  · rename_i y kd hm
    cases hk : ks.contains kd with
    | false => rw [hk] at h; cases h
    | true =>
      rw [hk] at h
      have h : amInvK C y kd pc b L S st = some (.inr r9) := h
      unfold amInvK at h
      split at h
      · exact nr_Virt _ _ _ _ _ _ _ h
      · exact nr_Stat _ _ _ _ _ _ _ h
      · exact nr_Virt _ _ _ _ _ _ _ h
      · exact nr_Virt _ _ _ _ _ _ _ h
      · exact nr_Obj _ _ _ _ _ h
      · exact nr_Copy _ _ _ _ _ h
      · exact nr_Stat _ _ _ _ _ _ _ h
      · exact nr_Mat _ _ _ _ _ _ h
      · exact nr_Mat _ _ _ _ _ _ h
      · exact nr_Mab _ _ _ _ _ h
      · cases h
  · cases h
theorem nr_ret {b : Bool} {v : amV} {st st' : amS} : ¬ amRet b (some v, st) = some (.inr (none, st')) := by
  unfold amRet
  cases b <;> (intro z; cases z)
theorem amStep_none {C : Nat → List amV → amS → Option amR} {q : amInf} {pc : Nat} {ins : Instr} {n : Nat} {L : amL} {S : List amV} {st st' : amS} (h : amStep C q pc ins n L S st = some (.inr (none, st'))) : q.2.2.2.1 = none ∨ (∃ k, ins = .new k ∧ n = 3) ∧ S = [] ∧ st' = st ∧ amThr q := by
  cases ins
  case new k =>
    dsimp only [amStep] at h
    split at h
    · exact absurd h (nr_New _ _ _ _ _ _ _)
    · split at h
      · obtain ⟨h1, h2⟩ := amRet_inv h
        rw [Bool.and_eq_true] at h1
        cases h2
        exact Or.inr ⟨⟨k, rfl, by simpa using h1.1⟩, rfl, rfl, of_decide_eq_true h1.2⟩
      · cases h
  case return_ =>
    dsimp only [amStep] at h
    split at h
    · split at h
      · rename_i hq
        exact Or.inl hq
      · cases h
    · cases h
  case ireturn =>
    exfalso
    dsimp only [amStep] at h
    (repeat' split at h) <;> first | (cases h; done) | exact nr_ret h
  case lreturn =>
    exfalso
    dsimp only [amStep] at h
    (repeat' split at h) <;> first | (cases h; done) | exact nr_ret h
  case areturn =>
    exfalso
    dsimp only [amStep] at h
    (repeat' split at h) <;> first | (cases h; done) | exact nr_ret h
  all_goals exfalso
  all_goals first
    | exact nr_go h
    | exact nr_Sta _ _ _ _ _ _ h
    | exact nr_Str _ _ _ _ _ _ h
    | exact nr_Stl _ _ _ _ _ _ h
    | exact nr_Lda _ _ _ _ _ _ h
    | exact nr_Ldr _ _ _ _ _ _ h
    | exact nr_Ldl _ _ _ _ _ _ h
    | exact nr_Bin _ _ _ _ _ _ h
    | exact nr_Div _ _ _ _ _ _ h
    | exact nr_Un _ _ _ _ _ _ h
    | exact nr_Bil _ _ _ _ _ _ h
    | exact nr_Getf _ _ _ _ _ _ _ h
    | exact nr_Putf _ _ _ _ _ _ _ _ h
    | exact nr_New _ _ _ _ _ _ _ h
    | exact nr_Newa _ _ _ _ _ _ h
    | exact nr_Anew _ _ _ _ _ _ _ h
    | exact nr_Ald _ _ _ _ _ _ h
    | exact nr_Bld _ _ _ _ _ h
    | exact nr_Lld _ _ _ _ _ h
    | exact nr_Rld _ _ _ _ _ h
    | exact nr_Ast _ _ _ _ _ h
    | exact nr_Bst _ _ _ _ _ h
    | exact nr_Lst _ _ _ _ _ h
    | exact nr_Rst _ _ _ _ _ h
    | exact nr_Aln _ _ _ _ _ h
    | exact nr_Back _ _ _ _ _ h
    | exact nr_Copy _ _ _ _ _ h
    | exact nr_Obj _ _ _ _ _ h
    | exact nr_Mat _ _ _ _ _ _ h
    | exact nr_Mab _ _ _ _ _ h
    | exact nr_Jmp _ _ _ _ _ h
    | exact nr_Inv _ _ _ _ _ _ _ _ _ h
    | cases h
    | (dsimp only [amStep] at h; (repeat' split at h) <;> first | exact nr_go h | exact nr_Jmp _ _ _ _ _ h | cases h)
