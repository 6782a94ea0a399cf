/-! EVERY STEP, EVERY RUN, EVERY CALL IS SOUND (printed by wip/whole/snd7.py) -/
def amMonoN (st : amS) (N : amF ⊕ amR) : Prop := match N with
  | .inl f => amCN st ≤ amCN f.2.2.2 ∧ amSN st ≤ amSN f.2.2.2
  | .inr r => amCN st ≤ amCN r.2 ∧ amSN st ≤ amSN r.2
def amMonoC (CALL : Nat → List amV → amS → Option amR) : Prop := ∀ (y : Nat) (as : List amV) (st : amS) (v : Option amV) (st' : amS), CALL y as st = some (v, st') → amCN st ≤ amCN st' ∧ amSN st ≤ amSN st'
theorem amSum_le {k : Nat} : (amSz.take k).sum ≤ (amSz.take (k + 1)).sum := by
  rw [List.take_succ, List.sum_append]
  omega
theorem amInv_mono {CALL : Nat → List amV → amS → Option amR} (hM : amMonoC CALL) {ks : List Nat} {cn idx pc : Nat} {bb : Bool} {L : amL} {S : List amV} {st : amS} {N : amF ⊕ amR} (h : amInv CALL ks cn idx pc bb L S st = some N) : amMonoN st N := by
  have hback : ∀ {bb : Bool} {rest : List amV} {y : Nat} {as : List amV}, amBack pc bb L rest (CALL y as st) = some N → amMonoN st N := by
    intro bb rest y as h
    obtain ⟨v, st', h1, -, rfl⟩ := amBack_inv h
    exact hM _ _ _ _ _ h1
  have hvirt : ∀ {y : Nat}, amVirt CALL y pc bb L S st = some N → amMonoN st N := by
    intro y h
    cases hq : amMi[y]? with
    | none => unfold amVirt at h; rw [hq] at h; cases h
    | some q =>
      obtain ⟨_, _, _, v, st', _, _, _, _, _, _, h7, rfl⟩ := amVirt_inv hq h
      exact hM _ _ _ _ _ h7
  have hstat : ∀ {y : Nat}, amStat CALL y pc bb L S st = some N → amMonoN st N := by
    intro y h
    cases hq : amMi[y]? with
    | none => unfold amStat at h; rw [hq] at h; cases h
    | some q =>
      obtain ⟨v, st', _, _, _, h7, rfl⟩ := amStat_inv hq h
      exact hM _ _ _ _ _ h7
  have hz : ∀ {bb2 : Bool} {f : amF}, f.2.2.2.2.2 = st.2.2 → amGo bb2 f = some N → amMonoN st N := by
    intro bb2 f hf h
    obtain ⟨-, rfl⟩ := amGo_inv h
    show amCN st ≤ amCN f.2.2.2 ∧ amSN st ≤ amSN f.2.2.2
    unfold amCN amSN
    rw [hf]
    exact ⟨Nat.le_refl _, Nat.le_refl _⟩
  obtain ⟨y, kd, -, -, h⟩ := amInv_ks h
  split at h
  · exact hvirt h
  · exact hstat h
  · exact hvirt h
  · exact hvirt h
  · unfold amObj at h
    split at h
    · exact hz rfl h
    · cases h
  · unfold amCopy at h
    split at h
    · exact hz rfl h
    · cases h
  · exact hstat h
  · unfold amMat at h
    split at h
    · exact hz rfl h
    · cases h
  · unfold amMat at h
    split at h
    · exact hz rfl h
    · cases h
  · unfold amMab at h
    split at h
    · exact hz rfl h
    · cases h
  · cases h
theorem amGo_mono {st : amS} {bb : Bool} {f : amF} {N : amF ⊕ amR} (hf : amCN st ≤ amCN f.2.2.2 ∧ amSN st ≤ amSN f.2.2.2) (h : amGo bb f = some N) : amMonoN st N := by
  obtain ⟨-, rfl⟩ := amGo_inv h
  exact hf
theorem amStep_mono {CALL : Nat → List amV → amS → Option amR} (hM : amMonoC CALL) {q : amInf} {pc : Nat} {ins : Instr} {n : Nat} {L : amL} {S : List amV} {st : amS} {N : amF ⊕ amR} (h : amStep CALL q pc ins n L S st = some N) : amMonoN st N := by
  have same : amCN st ≤ amCN st ∧ amSN st ≤ amSN st := ⟨Nat.le_refl _, Nat.le_refl _⟩
  cases ins
  case iconst k =>
    exact amGo_mono same h
  case bipush k =>
    exact amGo_mono same h
  case sipush k =>
    exact amGo_mono same h
  case lconst k =>
    exact amGo_mono same h
  case ldc k =>
    dsimp only [amStep] at h
    split at h
    · exact amGo_mono same h
    · cases h
  case ldc_w k =>
    dsimp only [amStep] at h
    split at h
    · exact amGo_mono same h
    · cases h
  case ldc2_w k =>
    dsimp only [amStep] at h
    split at h
    · exact amGo_mono same h
    · cases h
  case iload k =>
    obtain ⟨_, _, _, rfl⟩ := amLda_inv h
    exact same
  case iload_n k =>
    obtain ⟨_, _, _, rfl⟩ := amLda_inv h
    exact same
  case lload k =>
    obtain ⟨_, _, _, rfl⟩ := amLdl_inv h
    exact same
  case lload_n k =>
    obtain ⟨_, _, _, rfl⟩ := amLdl_inv h
    exact same
  case aload k =>
    obtain ⟨_, _, _, _, rfl⟩ := amLdr_inv h
    exact same
  case aload_n k =>
    obtain ⟨_, _, _, _, rfl⟩ := amLdr_inv h
    exact same
  case istore k =>
    obtain ⟨_, _, _, _, _, rfl⟩ := amSta_inv h
    exact same
  case istore_n k =>
    obtain ⟨_, _, _, _, _, rfl⟩ := amSta_inv h
    exact same
  case lstore k =>
    obtain ⟨_, _, _, _, _, rfl⟩ := amStl_inv h
    exact same
  case lstore_n k =>
    obtain ⟨_, _, _, _, _, rfl⟩ := amStl_inv h
    exact same
  case astore k =>
    obtain ⟨_, _, _, _, _, _, rfl⟩ := amStr_inv h
    exact same
  case astore_n k =>
    obtain ⟨_, _, _, _, _, _, rfl⟩ := amStr_inv h
    exact same
  case iinc k dd =>
    dsimp only [amStep] at h
    split at h
    · exact amGo_mono same h
    · cases h
  case iadd =>
    obtain ⟨_, _, _, _, _, rfl⟩ := amBin_inv h
    exact same
  case isub =>
    obtain ⟨_, _, _, _, _, rfl⟩ := amBin_inv h
    exact same
  case imul =>
    obtain ⟨_, _, _, _, _, rfl⟩ := amBin_inv h
    exact same
  case iand =>
    obtain ⟨_, _, _, _, _, rfl⟩ := amBin_inv h
    exact same
  case ior =>
    obtain ⟨_, _, _, _, _, rfl⟩ := amBin_inv h
    exact same
  case ixor =>
    obtain ⟨_, _, _, _, _, rfl⟩ := amBin_inv h
    exact same
  case ishl =>
    obtain ⟨_, _, _, _, _, rfl⟩ := amBin_inv h
    exact same
  case ishr =>
    obtain ⟨_, _, _, _, _, rfl⟩ := amBin_inv h
    exact same
  case iushr =>
    obtain ⟨_, _, _, _, _, rfl⟩ := amBin_inv h
    exact same
  case idiv =>
    obtain ⟨_, _, _, _, _, _, rfl⟩ := amDiv_inv h
    exact same
  case irem =>
    obtain ⟨_, _, _, _, _, _, rfl⟩ := amDiv_inv h
    exact same
  case ineg =>
    obtain ⟨_, _, _, _, rfl⟩ := amUn_inv h
    exact same
  case i2b =>
    obtain ⟨_, _, _, _, rfl⟩ := amUn_inv h
    exact same
  case i2s =>
    obtain ⟨_, _, _, _, rfl⟩ := amUn_inv h
    exact same
  case i2l =>
    obtain ⟨_, _, _, _, rfl⟩ := amUn_inv h
    exact same
  case ladd =>
    obtain ⟨_, _, _, _, _, rfl⟩ := amBil_inv h
    exact same
  case lmul =>
    obtain ⟨_, _, _, _, _, rfl⟩ := amBil_inv h
    exact same
  case lcmp =>
    obtain ⟨_, _, _, _, _, rfl⟩ := amBil_inv h
    exact same
  case l2i =>
    dsimp only [amStep] at h
    split at h
    · exact amGo_mono same h
    · cases h
  case dup =>
    dsimp only [amStep] at h
    split at h
    · exact amGo_mono same h
    · cases h
  case pop =>
    dsimp only [amStep] at h
    split at h
    · exact amGo_mono same h
    · cases h
  case dup_x1 =>
    dsimp only [amStep] at h
    split at h
    · exact amGo_mono same h
    · cases h
  case dup2 =>
    dsimp only [amStep] at h
    split at h
    · exact amGo_mono same h
    · cases h
  case ifCond cc off =>
    dsimp only [amStep] at h
    split at h
    · obtain ⟨_, _, _, rfl⟩ := amJmp_inv h
      exact same
    · cases h
  case if_icmp cc off =>
    dsimp only [amStep] at h
    split at h
    · obtain ⟨_, _, _, rfl⟩ := amJmp_inv h
      exact same
    · cases h
  case tableswitch dd lo hi offs =>
    dsimp only [amStep] at h
    split at h
    · obtain ⟨_, _, _, rfl⟩ := amJmp_inv h
      exact same
    · cases h
  case lookupswitch dd ps =>
    dsimp only [amStep] at h
    split at h
    · obtain ⟨_, _, _, rfl⟩ := amJmp_inv h
      exact same
    · cases h
  case goto off =>
    obtain ⟨_, _, _, rfl⟩ := amJmp_inv h
    exact same
  case getfield k =>
    dsimp only [amStep] at h
    unfold amGetf at h
    split at h
    · split at h <;> exact amGo_mono same h
    · cases h
  case putfield k =>
    dsimp only [amStep] at h
    unfold amPutf at h
    split at h
    · split at h
      · exact amGo_mono same h
      · exact amGo_mono same h
      · cases h
    · split at h
      · exact amGo_mono same h
      · cases h
    · cases h
  case iaload =>
    dsimp only [amStep] at h
    unfold amAld at h
    split at h
    · exact amGo_mono same h
    · cases h
  case baload =>
    dsimp only [amStep] at h
    unfold amBld at h
    split at h
    · exact amGo_mono same h
    · cases h
  case laload =>
    dsimp only [amStep] at h
    unfold amLld at h
    split at h
    · exact amGo_mono same h
    · cases h
  case aaload =>
    dsimp only [amStep] at h
    unfold amRld at h
    split at h
    · exact amGo_mono same h
    · cases h
  case iastore =>
    dsimp only [amStep] at h
    unfold amAst at h
    split at h
    · exact amGo_mono same h
    · cases h
  case lastore =>
    dsimp only [amStep] at h
    unfold amLst at h
    split at h
    · exact amGo_mono same h
    · cases h
  case aastore =>
    dsimp only [amStep] at h
    unfold amRst at h
    split at h
    · exact amGo_mono same h
    · cases h
  case arraylength =>
    dsimp only [amStep] at h
    unfold amAln at h
    split at h
    · exact amGo_mono same h
    · cases h
  case bastore =>
    dsimp only [amStep] at h
    unfold amBst at h
    split at h
    · split at h
      · exact amGo_mono same h
      · exact amGo_mono same h
      · cases h
    · cases h
  case new k =>
    dsimp only [amStep] at h
    split at h
    · unfold amNew at h
      split at h
      · refine amGo_mono ⟨?_, ?_⟩ h
        · unfold amCN; dsimp only; omega
        · have := amSum_le (k := st.2.2.2.1)
          unfold amSN; dsimp only; omega
      · cases h
    · split at h
      · obtain ⟨-, rfl⟩ := amRet_inv h
        exact same
      · cases h
  case newarray ty =>
    dsimp only [amStep] at h
    unfold amNewa at h
    split at h
    · refine amGo_mono ⟨?_, ?_⟩ h
      · unfold amCN; dsimp only; omega
      · have := amSum_le (k := st.2.2.2.1)
        unfold amSN; dsimp only; omega
    · cases h
  case anewarray k =>
    dsimp only [amStep] at h
    unfold amAnew at h
    split at h
    · refine amGo_mono ⟨?_, ?_⟩ h
      · unfold amCN; dsimp only; omega
      · have := amSum_le (k := st.2.2.2.1)
        unfold amSN; dsimp only; omega
    · cases h
  case invokevirtual k =>
    exact amInv_mono hM h
  case invokespecial k =>
    exact amInv_mono hM h
  case invokestatic k =>
    exact amInv_mono hM h
  case ireturn =>
    dsimp only [amStep] at h
    split at h
    · split at h
      · obtain ⟨-, rfl⟩ := amRet_inv h
        exact same
      · obtain ⟨-, rfl⟩ := amRet_inv h
        exact same
      · cases h
    · cases h
  case lreturn =>
    dsimp only [amStep] at h
    split at h
    · split at h
      · obtain ⟨-, rfl⟩ := amRet_inv h
        exact same
      · cases h
    · cases h
  case areturn =>
    dsimp only [amStep] at h
    split at h
    · split at h
      · obtain ⟨-, rfl⟩ := amRet_inv h
        exact same
      · cases h
    · cases h
  case return_ =>
    dsimp only [amStep] at h
    split at h
    · split at h
      · obtain ⟨-, rfl⟩ := amRet_inv h
        exact same
      · cases h
    · cases h
  all_goals (cases h)
theorem amRun_mono {CALL : Nat → List amV → amS → Option amR} (hM : amMonoC CALL) {q : amInf} : ∀ (n : Nat) (f : amF) (r : amR), amRun CALL q n f = some r → amCN f.2.2.2 ≤ amCN r.2 ∧ amSN f.2.2.2 ≤ amSN r.2
  | 0, f, r, h => by cases h
  | n + 1, f, r, h => by
    unfold amRun at h
    split at h
    · split at h
      · rename_i f' hst
        have h1 := amRun_mono hM n f' r h
        have h2 := amStep_mono hM hst
        exact ⟨Nat.le_trans h2.1 h1.1, Nat.le_trans h2.2 h1.2⟩
      · rename_i r' hst
        cases h
        exact amStep_mono hM hst
      · cases h
    · cases h
theorem amPri_mono {CALL : Nat → List amV → amS → Option amR} (hM : amMonoC CALL) : amMonoC (amPri CALL) := by
  have hp : ∀ (y o : Nat) (as : List amV) (st : amS) (v : Option amV) (st' : amS), amPrm (CALL y as st) o = some (v, st') → amCN st ≤ amCN st' ∧ amSN st ≤ amSN st' := by
    intro y o as st v st' h
    unfold amPrm at h
    split at h
    · rename_i st2 hc
      have := hM _ _ _ _ _ hc
      cases h
      unfold amCN amSN amXS at *
      dsimp only at *
      omega
    · rename_i x st2 hc
      have := hM _ _ _ _ _ hc
      cases ho : o == 0 with
      | false => rw [ho] at h; cases h
      | true => rw [ho] at h; cases h; exact this
    · rename_i x st2 hc
      have := hM _ _ _ _ _ hc
      cases ho : o == 0 with
      | false => rw [ho] at h; cases h
      | true => rw [ho] at h; cases h; exact this
    · cases h
  intro y as st v st' h
  unfold amPri at h
  split at h
  · exact hp _ _ _ _ _ _ h
  · exact hp _ _ _ _ _ _ h
  · cases h
theorem amEx_mono : ∀ (d n : Nat), amMonoC (amEx d n)
  | 0, n => fun y as st v st' h => by cases h
  | d + 1, n => fun y as st v st' h => by
    unfold amEx at h
    cases h4 : decide (274 ≤ y) with
    | true =>
      rw [h4] at h
      exact amPri_mono (amEx_mono d n) y as st v st' h
    | false =>
      rw [h4] at h
      simp only [cond_false] at h
      split at h
      · rename_i q hq
        cases hcc : decide ((amArgs as).length ≤ q.2.2.1) with
        | false => rw [hcc] at h; cases h
        | true =>
          rw [hcc] at h
          exact amRun_mono (amEx_mono d n) n _ _ h
      · cases h
section SND7
variable {p : Program} {l : Launch} {e : Env} {R : Room} {s : State} {m : MethodId} {args : Array Value} {below : List Frame} {meth : Method} {c : Code} {Q : State → Prop} {b bS : Nat} {D : va_G} {dA : FieldType → ClassId} {q : amInf} {c0 s0 pc n d : Nat} {L : amL} {S : List amV} {st : amS} {N : amF ⊕ amR} {CALL : Nat → List amV → amS → Option amR} {ls : Array Slot} {H : Heap} {locs : List Loc} {cells slots : Nat}
theorem amSnd_step {ins : Instr} (HC : amCallOk l b bS D dA d CALL) (HP : amPrimOk p l e R s m args below meth c b bS D dA q CALL) (hM : amMonoC CALL) (hfr : d + 3 ≤ R.frames) (hlo : 100 * d + 300 ≤ R.locals) (Cx : amCx p s m args meth c b bS D dA q) (hl : amLR b bS ls L) (hL : L.length = q.2.2.1) (hR : amRep b bS D dA s st H) (hS : va_S (fun a => b ≤ a) s.heap H locs) (hc : cells + c0 = amCN st) (hs : slots + s0 = amSN st) (hdg : decode q.2.1 pc = .ok (ins, n)) (h : amStep CALL q pc ins n L S st = some N) (hrm : amRoom R c0 s0 N) (k : amCont p l e R s m args below meth c Q b bS D dA q c0 s0 N) : W p l e R s m args below meth c H locs cells slots Q (F0 m pc ls (S.map (amCv b bS))) := by
  cases ins
  case iconst z =>
    exact sn_iconst Cx hl hL hR hS hc hs hdg h k
  case bipush z =>
    exact sn_bipush Cx hl hL hR hS hc hs hdg h k
  case sipush z =>
    exact sn_sipush Cx hl hL hR hS hc hs hdg h k
  case lconst z =>
    exact sn_lconst Cx hl hL hR hS hc hs hdg h k
  case ldc z =>
    exact sn_ldc Cx hl hL hR hS hc hs hdg h k
  case ldc_w z =>
    exact sn_ldc_w Cx hl hL hR hS hc hs hdg h k
  case ldc2_w z =>
    exact sn_ldc2_w Cx hl hL hR hS hc hs hdg h k
  case iload z =>
    exact sn_iload Cx hl hL hR hS hc hs hdg h k
  case iload_n z =>
    exact sn_iload_n Cx hl hL hR hS hc hs hdg h k
  case lload z =>
    exact sn_lload Cx hl hL hR hS hc hs hdg h k
  case lload_n z =>
    exact sn_lload_n Cx hl hL hR hS hc hs hdg h k
  case aload z =>
    exact sn_aload Cx hl hL hR hS hc hs hdg h k
  case aload_n z =>
    exact sn_aload_n Cx hl hL hR hS hc hs hdg h k
  case istore z =>
    exact sn_istore Cx hl hL hR hS hc hs hdg h k
  case istore_n z =>
    exact sn_istore_n Cx hl hL hR hS hc hs hdg h k
  case lstore z =>
    exact sn_lstore Cx hl hL hR hS hc hs hdg h k
  case lstore_n z =>
    exact sn_lstore_n Cx hl hL hR hS hc hs hdg h k
  case astore z =>
    exact sn_astore Cx hl hL hR hS hc hs hdg h k
  case astore_n z =>
    exact sn_astore_n Cx hl hL hR hS hc hs hdg h k
  case goto z =>
    exact sn_goto Cx hl hL hR hS hc hs hdg h k
  case getfield z =>
    exact sn_getfield Cx hl hL hR hS hc hs hdg h k
  case putfield z =>
    exact sn_putfield Cx hl hL hR hS hc hs hdg h k
  case iinc z dd =>
    exact sn_iinc Cx hl hL hR hS hc hs hdg h k
  case iadd =>
    exact sn_iadd Cx hl hL hR hS hc hs hdg h k
  case isub =>
    exact sn_isub Cx hl hL hR hS hc hs hdg h k
  case imul =>
    exact sn_imul Cx hl hL hR hS hc hs hdg h k
  case iand =>
    exact sn_iand Cx hl hL hR hS hc hs hdg h k
  case ior =>
    exact sn_ior Cx hl hL hR hS hc hs hdg h k
  case ixor =>
    exact sn_ixor Cx hl hL hR hS hc hs hdg h k
  case ishl =>
    exact sn_ishl Cx hl hL hR hS hc hs hdg h k
  case ishr =>
    exact sn_ishr Cx hl hL hR hS hc hs hdg h k
  case iushr =>
    exact sn_iushr Cx hl hL hR hS hc hs hdg h k
  case idiv =>
    exact sn_idiv Cx hl hL hR hS hc hs hdg h k
  case irem =>
    exact sn_irem Cx hl hL hR hS hc hs hdg h k
  case ineg =>
    exact sn_ineg Cx hl hL hR hS hc hs hdg h k
  case i2b =>
    exact sn_i2b Cx hl hL hR hS hc hs hdg h k
  case i2s =>
    exact sn_i2s Cx hl hL hR hS hc hs hdg h k
  case i2l =>
    exact sn_i2l Cx hl hL hR hS hc hs hdg h k
  case l2i =>
    exact sn_l2i Cx hl hL hR hS hc hs hdg h k
  case ladd =>
    exact sn_ladd Cx hl hL hR hS hc hs hdg h k
  case lmul =>
    exact sn_lmul Cx hl hL hR hS hc hs hdg h k
  case lcmp =>
    exact sn_lcmp Cx hl hL hR hS hc hs hdg h k
  case dup =>
    exact sn_dup Cx hl hL hR hS hc hs hdg h k
  case pop =>
    exact sn_pop Cx hl hL hR hS hc hs hdg h k
  case dup_x1 =>
    exact sn_dup_x1 Cx hl hL hR hS hc hs hdg h k
  case dup2 =>
    exact sn_dup2 Cx hl hL hR hS hc hs hdg h k
  case iaload =>
    exact sn_iaload Cx hl hL hR hS hc hs hdg h k
  case baload =>
    exact sn_baload Cx hl hL hR hS hc hs hdg h k
  case laload =>
    exact sn_laload Cx hl hL hR hS hc hs hdg h k
  case aaload =>
    exact sn_aaload Cx hl hL hR hS hc hs hdg h k
  case iastore =>
    exact sn_iastore Cx hl hL hR hS hc hs hdg h k
  case bastore =>
    exact sn_bastore Cx hl hL hR hS hc hs hdg h k
  case lastore =>
    exact sn_lastore Cx hl hL hR hS hc hs hdg h k
  case aastore =>
    exact sn_aastore Cx hl hL hR hS hc hs hdg h k
  case arraylength =>
    exact sn_arraylength Cx hl hL hR hS hc hs hdg h k
  case ireturn =>
    exact sn_ireturn Cx hl hL hR hS hc hs hdg h k
  case lreturn =>
    exact sn_lreturn Cx hl hL hR hS hc hs hdg h k
  case areturn =>
    exact sn_areturn Cx hl hL hR hS hc hs hdg h k
  case return_ =>
    exact sn_return_ Cx hl hL hR hS hc hs hdg h k
  case ifCond cc off =>
    cases cc
    · exact sn_if_eq Cx hl hL hR hS hc hs hdg h k
    · exact sn_if_ne Cx hl hL hR hS hc hs hdg h k
    · exact sn_if_lt Cx hl hL hR hS hc hs hdg h k
    · exact sn_if_ge Cx hl hL hR hS hc hs hdg h k
    · exact sn_if_gt Cx hl hL hR hS hc hs hdg h k
    · exact sn_if_le Cx hl hL hR hS hc hs hdg h k
  case if_icmp cc off =>
    cases cc
    · exact sn_icmp_eq Cx hl hL hR hS hc hs hdg h k
    · exact sn_icmp_ne Cx hl hL hR hS hc hs hdg h k
    · exact sn_icmp_lt Cx hl hL hR hS hc hs hdg h k
    · exact sn_icmp_ge Cx hl hL hR hS hc hs hdg h k
    · exact sn_icmp_gt Cx hl hL hR hS hc hs hdg h k
    · exact sn_icmp_le Cx hl hL hR hS hc hs hdg h k
  case tableswitch dd lo hi offs =>
    exact sn_tableswitch Cx hl hL hR hS hc hs hdg h k
  case lookupswitch dd ps =>
    exact sn_lookupswitch Cx hl hL hR hS hc hs hdg h k
  case new z =>
    exact sn_new Cx hl hL hR hS hc hs hdg h hrm k
  case newarray z =>
    exact sn_newarray Cx hl hL hR hS hc hs hdg h hrm k
  case anewarray z =>
    exact sn_anewarray Cx hl hL hR hS hc hs hdg h hrm k
  case invokevirtual idx =>
    obtain ⟨y, kd, hml, hk, h⟩ := amInv_ks h
    obtain rfl : kd = 0 := by simpa using hk
    obtain ⟨qy, hq, -, hy, -⟩ := amML_wd hml
    exact sn_virt hq (hy.resolve_right (by decide)) (Or.inl ⟨rfl, rfl⟩) hml HC hfr hlo Cx hl hL hR hS hc hs hdg h hrm k
  case invokespecial idx =>
    obtain ⟨y, kd, hml, hk, h⟩ := amInv_ks h
    obtain ⟨qy, hq, -, hy, -⟩ := amML_wd hml
    rcases (show kd = 2 ∨ kd = 3 ∨ kd = 4 by simpa using hk) with rfl | rfl | rfl
    · exact sn_virt hq (hy.resolve_right (by decide)) (Or.inr ⟨Or.inl rfl, rfl⟩) hml HC hfr hlo Cx hl hL hR hS hc hs hdg h hrm k
    · exact sn_virt hq (hy.resolve_right (by decide)) (Or.inr ⟨Or.inr rfl, rfl⟩) hml HC hfr hlo Cx hl hL hR hS hc hs hdg h hrm k
    · exact sn_obj hml hfr hlo Cx hl hL hR hS hc hs hdg h k
  case invokestatic idx =>
    obtain ⟨y, kd, hml, hk, h⟩ := amInv_ks h
    obtain ⟨qy, hq, -, hy, -⟩ := amML_wd hml
    rcases (show kd = 1 ∨ kd = 5 ∨ kd = 6 ∨ kd = 7 ∨ kd = 8 ∨ kd = 9 by simpa using hk) with rfl | rfl | rfl | rfl | rfl | rfl
    · exact sn_stat hq (hy.resolve_right (by decide)) hml HC hfr hlo Cx hl hL hR hS hc hs hdg h hrm k
    · exact sn_copy hml hfr hlo Cx hl hL hR hS hc hs hdg h k
    · exact sn_prim hq hml HP hl hL hR hS hc hs hdg h hrm (fun v st2 h9 => hM _ _ _ _ _ h9) k
    · exact sn_math hq (Or.inl rfl) hml hfr hlo Cx hl hL hR hS hc hs hdg h hrm k
    · exact sn_math hq (Or.inr (Or.inl rfl)) hml hfr hlo Cx hl hL hR hS hc hs hdg h hrm k
    · exact sn_math hq (Or.inr (Or.inr rfl)) hml hfr hlo Cx hl hL hR hS hc hs hdg h hrm k
  all_goals (cases h)
theorem amSnd_run {r : amR} (HC : amCallOk l b bS D dA d CALL) (HP : amPrimOk p l e R s m args below meth c b bS D dA q CALL) (hM : amMonoC CALL) (hfr : d + 3 ≤ R.frames) (hlo : 100 * d + 300 ≤ R.locals) (Cx : amCx p s m args meth c b bS D dA q) (hfin : amCN r.2 ≤ R.cells + c0 ∧ amSN r.2 ≤ R.slots + s0) (k : amCont p l e R s m args below meth c Q b bS D dA q c0 s0 (.inr r)) :
    ∀ (n : Nat) (f : amF), amRun CALL q n f = some r → amCont p l e R s m args below meth c Q b bS D dA q c0 s0 (.inl f)
  | 0, f, h => by cases h
  | n + 1, f, h => by
    intro ls H locs cells slots hl hL hR hS hc hs
    unfold amRun at h
    split at h
    · rename_i ins len hfe
      have hdg : decode q.2.1 f.1 = .ok (ins, len) := by
        unfold amFe at hfe
        split at hfe
        · rename_i x hx
          cases hfe
          exact hx
        · cases hfe
      split at h
      · rename_i f' hst
        have hm := amRun_mono hM n f' r h
        exact amSnd_step HC HP hM hfr hlo Cx hl hL hR hS hc hs hdg hst ⟨Nat.le_trans hm.1 hfin.1, Nat.le_trans hm.2 hfin.2⟩ (amSnd_run HC HP hM hfr hlo Cx hfin k n f' h)
      · rename_i r' hst
        cases h
        exact amSnd_step HC HP hM hfr hlo Cx hl hL hR hS hc hs hdg hst hfin k
      · cases h
    · cases h
end SND7
theorem amArgs_at {b bS : Nat} : ∀ (as : List amV) (off i : Nat) (v : amV), (amArgs as)[i]? = some (some v) → (off + i, amCv b bS v) ∈ lv_args off (as.map (amCv b bS))
  | [], off, i, v, h => by simp [amArgs] at h
  | .inl x :: as, off, i, v, h => by
    cases i with
    | zero => simp [amArgs] at h; subst h; exact List.mem_cons_self
    | succ i =>
      have h1 : (amArgs as)[i]? = some (some v) := by simpa [amArgs] using h
      have h2 := amArgs_at (b := b) (bS := bS) as (off + 1) i v h1
      refine List.mem_cons_of_mem _ ?_
      show (off + (i + 1), amCv b bS v) ∈ lv_args (off + 1) (as.map (amCv b bS))
      rw [show off + (i + 1) = off + 1 + i by omega]
      exact h2
  | .inr (.inr x) :: as, off, i, v, h => by
    cases i with
    | zero => simp [amArgs] at h; subst h; exact List.mem_cons_self
    | succ i =>
      have h1 : (amArgs as)[i]? = some (some v) := by simpa [amArgs] using h
      have h2 := amArgs_at (b := b) (bS := bS) as (off + 1) i v h1
      refine List.mem_cons_of_mem _ ?_
      show (off + (i + 1), amCv b bS v) ∈ lv_args (off + 1) (as.map (amCv b bS))
      rw [show off + (i + 1) = off + 1 + i by omega]
      exact h2
  | .inr (.inl x) :: as, off, i, v, h => by
    match i, h with
    | 0, h => simp [amArgs] at h; subst h; exact List.mem_cons_self
    | 1, h => simp [amArgs] at h
    | i + 2, h =>
      have h1 : (amArgs as)[i]? = some (some v) := by simpa [amArgs] using h
      have h2 := amArgs_at (b := b) (bS := bS) as (off + 2) i v h1
      refine List.mem_cons_of_mem _ ?_
      show (off + (i + 2), amCv b bS v) ∈ lv_args (off + 2) (as.map (amCv b bS))
      rw [show off + (i + 2) = off + 2 + i by omega]
      exact h2
theorem amArgs_len {b bS : Nat} : ∀ as : List amV, (lg_sl (as.map (amCv b bS))).length = (amArgs as).length
  | [] => rfl
  | .inl x :: as => by
    have := amArgs_len (b := b) (bS := bS) as
    simp [lg_sl, amArgs, amCv, Value.category] at this ⊢
    exact this
  | .inr (.inr x) :: as => by
    have := amArgs_len (b := b) (bS := bS) as
    simp [lg_sl, amArgs, amCv, Value.category] at this ⊢
    exact this
  | .inr (.inl x) :: as => by
    have := amArgs_len (b := b) (bS := bS) as
    simp [lg_sl, amArgs, amCv, Value.category] at this ⊢
    omega
theorem amEnt_len {q : amInf} {as : List amV} (h : (amArgs as).length ≤ q.2.2.1) : (amEnt q as).length = q.2.2.1 := by
  unfold amEnt
  rw [List.length_append, List.length_replicate]
  omega
/-- the locals at a method's entry -/
theorem amEnt_ok {b bS : Nat} {q : amInf} {as : List amV} (h : (amArgs as).length ≤ q.2.2.1) : amLR b bS ((lg_sl (as.map (amCv b bS)) ++ List.replicate (q.2.2.1 - (lg_sl (as.map (amCv b bS))).length) Slot.unset).toArray) (amEnt q as) := by
  have h1 := lv_entry (as.map (amCv b bS)) (n := q.2.2.1) (by rw [amArgs_len]; exact h)
  refine ⟨by rw [amEnt_len h]; exact h1.1, h1.2.1, fun i v hv => ?_⟩
  have h2 : (amArgs as)[i]? = some (some v) := by
    unfold amEnt at hv
    rw [List.getElem?_append] at hv
    split at hv
    · exact hv
    · exfalso
      have := List.eq_of_mem_replicate (List.mem_of_getElem? hv)
      cases this
  have h3 := amArgs_at (b := b) (bS := bS) as 0 i v h2
  rw [Nat.zero_add] at h3
  exact h1.2.2 _ h3
theorem amNoLaw : ((List.range 273).all (fun y => match amMi[y]? with
  | some q => decide (q.2.2.2.2.1 ≠ 13)
  | none => false)) = true := by decide +kernel
/-- calls are sound, however deep -/
theorem amSnd_ex {l : Launch} {b bS : Nat} {D : va_G} {dA : FieldType → ClassId} (n : Nat) : ∀ d : Nat, amCallOk l b bS D dA d (amEx d n)
  | 0 => fun y q as st r st' _ _ _ _ h => by cases h
  | d + 1 => fun y q as st r st' hq hy h15 hthr h => by
    have hmono := amEx_mono (d + 1) n y as st r st' h
    refine ⟨?_, hmono⟩
    unfold amEx at h
    rw [decide_eq_false (show ¬ 274 ≤ y by omega), hq] at h
    simp only [cond_false] at h
    cases hcc : decide ((amArgs as).length ≤ q.2.2.1) with
    | false => rw [hcc] at h; cases h
    | true =>
      rw [hcc] at h
      have h : amRun (amEx d n) q n (0, amEnt q as, [], st) = some (r, st') := h
      have hlen : (amArgs as).length ≤ q.2.2.1 := of_decide_eq_true hcc
      obtain ⟨-, -, hcls, hplain⟩ := amMi_ok hq
      refine Met.ofW (cc := q.2.1) (maxL := q.2.2.1) (ret := q.2.2.2.1) (hplain h15) rfl ?_
      intro p e s m args below meth c s₁ B hml hv
      obtain ⟨rfl, hrep, hkn, hbs⟩ := hv
      have hts := atoms_spec (ws := amWy q) B.pre
      have hown : s.vm.findClass (amOwn q.2.2.2.2.1) = some m.cls := by rw [← hcls]; exact findClass_of_methodNamed B.named
      have hlocks : meth.locks = false := B.notSynchronized
      have hbz : b ≤ s.heap.size := Nat.le_trans (Nat.le_add_right _ _) hrep.2.1
      have Cx : amCx p s m (as.map (amCv b bS)).toArray meth c b bS D dA q := ⟨B.exec, B.bytes, hml, hown, fun w hw => hts w (List.mem_cons_of_mem _ hw), hkn, hbs, hbz, fun hn => by rw [(name_of_methodNamed B.named B.method).1]; exact hn⟩
      have hn13 : q.2.2.2.2.1 ≠ 13 := by
        have h1 := List.all_eq_true.mp amNoLaw y (List.mem_range.mpr hy)
        rw [hq] at h1
        exact of_decide_eq_true h1
      have HP : amPrimOk p l e (amRm (d + 1) (amCN st' - amCN st) (amSN st' - amSN st)) s m (as.map (amCv b bS)).toArray below meth c b bS D dA q (amEx d n) := fun y2 idx2 pc2 qy L2 S2 st2 st3 v2 ls2 H2 locs2 c2 s2 hm2 hq2 => absurd ((amNest hm2 hq2).2.2.1 rfl) hn13
      have kret : amCont p l e (amRm (d + 1) (amCN st' - amCN st) (amSN st' - amSN st)) s m (as.map (amCv b bS)).toArray below meth c (MQ below (amQc b bS D dA r st') (as.map (amCv b bS)).toArray s (amCN st' - amCN st) (amSN st' - amSN st) (fun a => b ≤ a)) b bS D dA q (amCN st) (amSN st) (.inr (r, st')) := by
        intro pc ls H locs cells slots hR hS hc hs hret
        dsimp only at hR hc hs hret
        obtain rfl : cells = amCN st' - amCN st := by omega
        obtain rfl : slots = amSN st' - amSN st := by omega
        have hq9 : ∀ t : State, t.heap = H → s.WarmedH t.vm → amQc b bS D dA r st' (as.map (amCv b bS)).toArray s (.returned (r.map (amCv b bS))) t := fun t ht hW => ⟨rfl, by rw [ht]; exact hR.alike hW.alike, hS.F ht⟩
        match r, hret, hq9 with
        | some (.inl x), ⟨hd9, Or.inl hr9⟩, hq9 => exact W.iret B.exec B.bytes (B.returns.trans hr9) hq9 hS.2.2 hd9
        | some (.inl x), ⟨hd9, Or.inr ⟨hr9, hx9⟩⟩, hq9 => exact W.zret (ty := .boolean) B.exec B.bytes (B.returns.trans hr9) (by rcases hx9 with rfl | rfl <;> rfl) hq9 hS.2.2 hd9
        | some (.inr (.inl x)), ⟨hd9, hr9⟩, hq9 => exact W.lret B.exec B.bytes (B.returns.trans hr9) hq9 hS.2.2 hd9
        | some (.inr (.inr x)), ⟨hd9, z, hr9⟩, hq9 => exact W.aret B.exec B.bytes (B.returns.trans hr9) (Or.inl ⟨z, rfl⟩) (Or.inr ⟨_, rfl⟩) hq9 hS.2.2 hd9
        | none, Or.inr ⟨_, _, ht9⟩, _ => exact absurd ht9 hthr
        | none, Or.inl ⟨hd9, hr9⟩, hq9 => exact W.vret B.exec B.bytes (B.returns.trans hr9) hq9 hS.2.2 hd9
      have hgo := amSnd_run (c0 := amCN st) (s0 := amSN st) (amSnd_ex (l := l) (b := b) (bS := bS) (D := D) (dA := dA) n d) HP (amEx_mono d n) (by show d + 3 ≤ d + 1 + 2; omega) (by show 100 * d + 300 ≤ 100 * (d + 1) + 200; omega) Cx ⟨by show amCN st' ≤ amCN st' - amCN st + amCN st; omega, by show amSN st' ≤ amSN st' - amSN st + amSN st; omega⟩ kret n _ h
      rw [lg_entry_eq]
      exact hgo _ s.heap [] 0 0 (amEnt_ok hlen) (amEnt_len hlen) hrep va_S.rf (Nat.zero_add _) (Nat.zero_add _)
