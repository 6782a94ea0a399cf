/-! ONE STEP IS SOUND: the other calls; then every step, every run -/
section SND6
variable {p : Program} {l : Launch} {e : Env} {R : Room} {s : State} {m : MethodId} {args : Array Value} {below : List Frame} {meth : Method} {c : Code} {Q : State → Prop} {b bS : Nat} {D : va_G} {dA : FieldType → ClassId} {q : amInf} {c0 s0 pc n d : Nat} {L : amL} {S : List amV} {st : amS} {N : amF ⊕ amR} {CALL : Nat → List amV → amS → Option amR} {ls : Array Slot} {H : Heap} {locs : List Loc} {cells slots : Nat}
theorem sn_stat {y : Nat} {qy : amInf} {idx : Nat} (hq : amMi[y]? = some qy) (hy : y < 273) (hml : amML q.2.2.2.2.1 idx = some (y, 1)) (HC : amCallOk l b bS D dA d CALL) (hfr : d + 3 ≤ R.frames) (hlo : 100 * d + 300 ≤ R.locals) (Cx : amCx p s m args meth c b bS D dA q) (hl : amLR b bS ls L) (hL : L.length = q.2.2.1) (hR : amRep b bS D dA s st H) (hS : va_S (fun a => b ≤ a) s.heap H locs) (hc : cells + c0 = amCN st) (hs : slots + s0 = amSN st) (hdg : decode q.2.1 pc = .ok (.invokestatic idx, n)) (h : amStat CALL y (pc + 3) (n == 3) L S st = some N) (hrm : amRoom R c0 s0 N) (k : amCont p l e R s m args below meth c Q b bS D dA q c0 s0 N) : W p l e R s m args below meth c H locs cells slots Q (F0 m pc ls (S.map (amCv b bS))) := by
  obtain ⟨hx, hb, hmlo, hown, hts, hKn, hbs, hbz, hini⟩ := Cx
  obtain ⟨v, st', h2, h5, h6, h7, rfl⟩ := amStat_inv hq h
  obtain rfl : n = 3 := by simpa using h5
  have hn15 := (amNest hml hq).2.2.2 (by decide)
  obtain ⟨M1, mo1, mo2⟩ := HC y qy _ st v st' hq hy hn15.1 hn15.2 h7
  obtain ⟨q', hq', hwd, -⟩ := amML_wd hml
  obtain rfl : q' = qy := Option.some.inj (hq'.symm.trans hq)
  obtain ⟨hd, hmx, hcls, -⟩ := amMi_ok hq
  obtain ⟨rm1, rm2⟩ := hrm
  dsimp only at rm1 rm2
  have hmap : S.map (amCv b bS) = (((S.take q'.2.2.2.2.2).reverse).map (amCv b bS)).reverse ++ (S.drop q'.2.2.2.2.2).map (amCv b bS) := by
    conv => lhs; rw [← List.take_append_drop q'.2.2.2.2.2 S]
    simp
  have hlenA : (((S.take q'.2.2.2.2.2).reverse).map (amCv b bS)).length = q'.2.2.2.2.2 := by simpa using h2
  have hroom : 2 * (F0 m pc ls (S.map (amCv b bS))).monitorRoom + (((S.drop q'.2.2.2.2.2).map (amCv b bS)).map fun v => v.category).sum ≤ 8 := by
    rw [amCats_cv]
    show 2 * 0 + _ ≤ 8
    omega
  have hpre := amPre (as := (S.take q'.2.2.2.2.2).reverse) hKn hbs hR
  have hinit : (Cond.initialized q'.1.cls).before args s = true := hts _ (amW_in (hwd (Cond.initialized q'.1.cls) (by simp [amWd])).1 rfl)
  have hrun : va_Run p l e R s m args below meth c H locs cells slots (amCN st' - amCN st) (amSN st' - amSN st) (F0 m pc ls (S.map (amCv b bS))) ((S.drop q'.2.2.2.2.2).map (amCv b bS)) (amQc b bS D dA v st' (((S.take q'.2.2.2.2.2).reverse).map (amCv b bS)).toArray) (fun a => b ≤ a) := by
    refine va_runS (As := ((S.take q'.2.2.2.2.2).reverse).map (amCv b bS)) ⟨hx, hb, hmlo, hown, hts⟩ M1 ⟨callB_of (ws' := amW) q'.2.2.2.2.2 hts (amWy_good hq hy) rfl rfl rfl hinit (hts _ (amW_in (hwd (Cond.methodLink (amOwn q.2.2.2.2.1) idx q'.1) (by simp [amWd])).1 rfl)) hd ⟨by show d + 2 + 1 ≤ _; omega, by show 8 + (q'.2.2.1 + 11) + (100 * d + 200) ≤ _; omega⟩, hts _ (amW_in (hwd (Cond.static q'.1) (by simp [amWd])).1 rfl)⟩ ⟨amPc_blind, hpre⟩ rfl hlenA (hl.1.trans hL) hmap hroom hdg ⟨by omega, by omega⟩
  refine am_back hrun hS (fun H1 locs1 r1 r2 => ?_)
  exact k ls H1 locs1 _ _ hl hL r1 r2 (by dsimp only; omega) (by dsimp only; omega)
theorem sn_obj {y : Nat} {idx : Nat} (hml : amML q.2.2.2.2.1 idx = some (y, 4)) (hfr : d + 3 ≤ R.frames) (hlo : 100 * d + 300 ≤ R.locals) (Cx : amCx p s m args meth c b bS D dA q) (hl : amLR b bS ls L) (hL : L.length = q.2.2.1) (hR : amRep b bS D dA s st H) (hS : va_S (fun a => b ≤ a) s.heap H locs) (hc : cells + c0 = amCN st) (hs : slots + s0 = amSN st) (hdg : decode q.2.1 pc = .ok (.invokespecial idx, n)) (h : amObj (pc + 3) (n == 3) L S st = some N) (k : amCont p l e R s m args below meth c Q b bS D dA q c0 s0 N) : W p l e R s m args below meth c H locs cells slots Q (F0 m pc ls (S.map (amCv b bS))) := by
  obtain ⟨hx, hb, hmlo, hown, hts, hKn, hbs, hbz, hini⟩ := Cx
  unfold amObj at h
  split at h
  · rename_i rr S
    obtain ⟨h1, rfl⟩ := amGo_inv h
    simp only [Bool.and_eq_true, decide_eq_true_eq] at h1
    obtain ⟨h1, h2⟩ := h1
    obtain rfl : n = 3 := by simpa using h1
    obtain ⟨q', hq', hwd, -⟩ := amML_wd hml
    refine W.objInit hx hb hown (hts _ (amW_in (hwd (Cond.methodLink (amOwn q.2.2.2.2.1) idx Lib.objectInit) (by simp [amWd])).1 rfl)) (hts _ (amW_in (by decide +kernel) rfl)) (hts _ (amW_in (by decide +kernel) rfl)) rfl (by rw [hmlo]; exact hl.1.trans hL) rfl hdg (by omega) ?_ (k ls H locs cells slots hl hL hR hS hc hs)
    show 2 * 0 + ((S.map (amCv b bS)).map fun v => v.category).sum + 12 ≤ R.locals
    rw [amCats_cv]
    omega
  · cases h
theorem amCpy_row {M : amM} {c0 i0 sp c i dp n : Nat} : amCpy M c0 i0 sp c i dp n c i = va_cpy (M c0 i0) (M c i) sp dp n := by
  funext j
  unfold amCpy va_cpy
  by_cases h : dp ≤ j ∧ j < dp + n
  · rw [if_pos ⟨⟨rfl, rfl⟩, h⟩, if_pos h]
  · rw [if_neg (fun z => h z.2), if_neg h]
theorem amCpy_oth {M : amM} {c0 i0 sp c i dp n c' i' : Nat} (h : ¬ (c' = c ∧ i' = i)) : amCpy M c0 i0 sp c i dp n c' i' = M c' i' := by
  funext j
  exact if_neg (fun z => h z.1)
theorem sn_copy {y : Nat} {idx : Nat} (hml : amML q.2.2.2.2.1 idx = some (y, 5)) (hfr : d + 3 ≤ R.frames) (hlo : 100 * d + 300 ≤ R.locals) (Cx : amCx p s m args meth c b bS D dA q) (hl : amLR b bS ls L) (hL : L.length = q.2.2.1) (hR : amRep b bS D dA s st H) (hS : va_S (fun a => b ≤ a) s.heap H locs) (hc : cells + c0 = amCN st) (hs : slots + s0 = amSN st) (hdg : decode q.2.1 pc = .ok (.invokestatic idx, n)) (h : amCopy (pc + 3) (n == 3) L S st = some N) (k : amCont p l e R s m args below meth c Q b bS D dA q c0 s0 N) : W p l e R s m args below meth c H locs cells slots Q (F0 m pc ls (S.map (amCv b bS))) := by
  obtain ⟨hx, hb, hmlo, hown, hts, hKn, hbs, hbz, hini⟩ := Cx
  unfold amCopy at h
  split at h
  · rename_i len dp rc ri sp c1 i1 S
    obtain ⟨h1, rfl⟩ := amGo_inv h
    simp only [Bool.and_eq_true, decide_eq_true_eq, beq_iff_eq] at h1
    obtain ⟨⟨⟨⟨⟨⟨⟨⟨⟨⟨⟨⟨⟨rfl, hfull⟩, hge⟩, hal⟩, htn⟩, hge1⟩, hal1⟩, htn1⟩, k1⟩, k2⟩, k3⟩, k4⟩, k5⟩, hcat⟩ := h1
    obtain ⟨q', hq', hwd, -⟩ := amML_wd hml
    have he := amWs_at (b := b) (bS := bS) (dA := dA) hR.2.2.2.1 hal
    rw [amE_int hge htn (by decide)] at he
    have he1 := amWs_at (b := b) (bS := bS) (dA := dA) hR.2.2.2.1 hal1
    rw [amE_int hge1 htn1 (by decide)] at he1
    refine va_copyi hx hb (by rw [hmlo, hl.1, hL]) hown (hts _ (amW_in (hwd (Cond.methodLink (amOwn q.2.2.2.2.1) idx arraycopyName) (by simp [amWd])).1 rfl)) (hts _ (amW_in (by decide +kernel) rfl)) (hts _ (amW_in (by decide +kernel) rfl)) (hts _ (amW_in (by decide +kernel) rfl)) hKn.1 hR.1 amWs_D hS _ _ 0 0 he1 he rfl rfl rfl k1 k2 k3 k4 k5 (fun _ _ => rfl) (by omega) ?_ hdg (fun H1 locs1 g1 g2 g3 => ?_)
    · rw [amCats_cv]
      have : nativeFrameWords "java/lang/System" "arraycopy" 5 = 7 := by decide
      rw [this]
      omega
    · refine k ls H1 locs1 cells slots hl hL ?_ g3 hc hs
      have hlt : rc < 1000 := by
        rcases amOrcC.2.1 _ (amIdx_lt hR.2.2.2.1 hal).2 with h2 | h2
        · dsimp only at h2; omega
        · exact h2.2
      have hset := amWs_set (b := b) (bS := bS) (dA := dA) (st := st) (st' := (amCpy st.1 c1 i1 sp.toNatClampNeg rc ri dp.toNatClampNeg len.toNatClampNeg, st.2.1, st.2.2)) hR.2.2.2.1 hal rfl (fun y hy hne => amE_same hy (fun h1 k2 hk2 => by
          show amCpy st.1 c1 i1 sp.toNatClampNeg rc ri dp.toNatClampNeg len.toNatClampNeg (amFC y.1 k2) y.2 0 = _
          rw [amCpy_oth (fun z => by have := z.1; unfold amFC at this; omega)]) (fun _ _ _ => rfl) (fun h1 => amCpy_oth (fun z => hne (Prod.ext z.1 z.2))) (fun _ => rfl) (fun _ _ => rfl))
      rw [amE_int hge htn (by decide)] at hset
      dsimp only at hset
      rw [amCpy_row] at hset
      rw [hset] at g1
      refine ⟨g1, ?_, fun hlt2 => ?_, hR.2.2.2.1, ?_⟩
      · show b + st.2.2.2.1 ≤ H1.size
        rw [hfull]
        have hpos : 0 < amOrc.length := by decide +kernel
        obtain ⟨x, hx2⟩ : ∃ x, amOrc[amOrc.length - 1]? = some x := ⟨_, List.getElem?_eq_getElem (by omega)⟩
        have hal2 : amAl st.2.2.2.1 x.1 x.2 = true := by
          unfold amAl
          rw [amIdx_of hx2, hfull]
          exact decide_eq_true (by omega)
        have hlt3 := (g1 _ _ (amWs_at (b := b) (bS := bS) (dA := dA) (st := (amCpy st.1 c1 i1 sp.toNatClampNeg rc ri dp.toNatClampNeg len.toNatClampNeg, st.2.1, st.2.2)) hR.2.2.2.1 hal2)).lt
        dsimp only at hlt3
        rw [amAd_in (List.mem_of_getElem? hx2), amIdx_of hx2] at hlt3
        omega
      · exfalso
        have : st.2.2.2.1 < amOrc.length := hlt2
        omega
      · show 0 < st.2.2.2.2.2 → va_X bS (st.2.2.2.2.2 - 1) (amCpy st.1 c1 i1 sp.toNatClampNeg rc ri dp.toNatClampNeg len.toNatClampNeg 99 0) s H1
        rw [amCpy_oth (by omega)]
        refine fun h9 => (hR.2.2.2.2 h9).kept ?_
        rw [g3.2.1 bS (by omega) (by omega), hS.2.1 bS (by omega) (by omega)]
  · cases h
theorem amMathC : (Cond.static Lib.Math.max.name ∈ lw_tbl ∧ Cond.static Lib.Math.min.name ∈ lw_tbl ∧ Cond.static Lib.Math.abs.name ∈ lw_tbl ∧ Cond.initialized "java/lang/Math" ∈ lw_tbl) ∧ ((List.range 17).all (fun cn => (amMl cn).all (fun e => match e.2.2.1, amMi[e.2.1]? with
  | 7, some q => decide (q.1 = Lib.Math.max.name)
  | 8, some q => decide (q.1 = Lib.Math.min.name)
  | 9, some q => decide (q.1 = Lib.Math.abs.name)
  | _, _ => true))) = true := by decide +kernel
theorem amMathW : Cond.code Lib.Math.max.name Lib.Math.max.code 2 (some .int) ∈ lw_tbl ∧ Cond.code Lib.Math.min.name Lib.Math.min.code 2 (some .int) ∈ lw_tbl ∧ Cond.code Lib.Math.abs.name Lib.Math.abs.code 1 (some .int) ∈ lw_tbl := ⟨cw_4, cw_70, cw_65⟩
theorem amMath {cn idx y kd : Nat} {qy : amInf} (h : amML cn idx = some (y, kd)) (hq : amMi[y]? = some qy) : (kd = 7 → qy.1 = Lib.Math.max.name) ∧ (kd = 8 → qy.1 = Lib.Math.min.name) ∧ (kd = 9 → qy.1 = Lib.Math.abs.name) := by
  obtain ⟨q', -, -, -, ps, hm⟩ := amML_wd h
  have h1 := List.all_eq_true.mp amMathC.2 cn (List.mem_range.mpr (amMl_cn hm))
  have h2 := List.all_eq_true.mp h1 _ hm
  dsimp only at h2
  rw [hq] at h2
  refine ⟨fun hk => ?_, fun hk => ?_, fun hk => ?_⟩ <;> subst hk <;> exact of_decide_eq_true h2
theorem sn_math {y kd : Nat} {qy : amInf} {idx : Nat} (hq : amMi[y]? = some qy) (hkd : kd = 7 ∨ kd = 8 ∨ kd = 9) (hml : amML q.2.2.2.2.1 idx = some (y, kd)) (hfr : d + 3 ≤ R.frames) (hlo : 100 * d + 300 ≤ R.locals) (Cx : amCx p s m args meth c b bS D dA q) (hl : amLR b bS ls L) (hL : L.length = q.2.2.1) (hR : amRep b bS D dA s st H) (hS : va_S (fun a => b ≤ a) s.heap H locs) (hc : cells + c0 = amCN st) (hs : slots + s0 = amSN st) (hdg : decode q.2.1 pc = .ok (.invokestatic idx, n)) (h : (match kd with
    | 7 => amMat (pc + 3) (n == 3) L S st (fun x y => if x < y then y else x)
    | 8 => amMat (pc + 3) (n == 3) L S st (fun x y => if y < x then y else x)
    | _ => amMab (pc + 3) (n == 3) L S st) = some N) (hrm : amRoom R c0 s0 N) (k : amCont p l e R s m args below meth c Q b bS D dA q c0 s0 N) : W p l e R s m args below meth c H locs cells slots Q (F0 m pc ls (S.map (amCv b bS))) := by
  obtain ⟨hx, hb, hmlo, hown, hts, hKn, hbs, hbz, hini⟩ := Cx
  obtain ⟨q', hq', hwd, -⟩ := amML_wd hml
  obtain rfl : q' = qy := Option.some.inj (hq'.symm.trans hq)
  obtain ⟨m7, m8, m9⟩ := amMath hml hq
  have hlink : Cond.methodLink (amOwn q.2.2.2.2.1) idx q'.1 ∈ lw_tbl := (hwd (Cond.methodLink (amOwn q.2.2.2.2.1) idx q'.1) (by rcases hkd with rfl | rfl | rfl <;> simp [amWd])).1
  have hsz : c.maxLocals = ls.size := by rw [hmlo, hl.1, hL]
  rcases hkd with rfl | rfl | rfl
  · have h : amMat (pc + 3) (n == 3) L S st (fun x y => if x < y then y else x) = some N := h
    unfold amMat at h
    split at h
    · rename_i y2 x2 S
      obtain ⟨h1, rfl⟩ := amGo_inv h
      simp only [Bool.and_eq_true, decide_eq_true_eq] at h1
      obtain ⟨h1, h2⟩ := h1
      obtain rfl : n = 3 := by simpa using h1
      obtain ⟨rm1, rm2⟩ := hrm
      dsimp only at rm1 rm2
      rw [m7 rfl] at hlink
      exact va_mmax hx hb hsz hown (hts _ (amW_in hlink rfl)) (hts _ (amW_in amMathC.1.1 rfl)) (hts _ (amW_in amMathC.1.2.2.2 rfl)) (hts _ (amW_in amMathW.1 rfl)) (by omega) (by rw [amCats_cv]; omega) (by omega) (by omega) hdg (k ls H locs cells slots hl hL hR hS hc hs)
    · cases h
  · have h : amMat (pc + 3) (n == 3) L S st (fun x y => if y < x then y else x) = some N := h
    unfold amMat at h
    split at h
    · rename_i y2 x2 S
      obtain ⟨h1, rfl⟩ := amGo_inv h
      simp only [Bool.and_eq_true, decide_eq_true_eq] at h1
      obtain ⟨h1, h2⟩ := h1
      obtain rfl : n = 3 := by simpa using h1
      obtain ⟨rm1, rm2⟩ := hrm
      dsimp only at rm1 rm2
      rw [m8 rfl] at hlink
      exact va_mmin hx hb hsz hown (hts _ (amW_in hlink rfl)) (hts _ (amW_in amMathC.1.2.1 rfl)) (hts _ (amW_in amMathC.1.2.2.2 rfl)) (hts _ (amW_in amMathW.2.1 rfl)) (by omega) (by rw [amCats_cv]; omega) (by omega) (by omega) hdg (k ls H locs cells slots hl hL hR hS hc hs)
    · cases h
  · have h : amMab (pc + 3) (n == 3) L S st = some N := h
    unfold amMab at h
    split at h
    · rename_i x2 S
      obtain ⟨h1, rfl⟩ := amGo_inv h
      simp only [Bool.and_eq_true, decide_eq_true_eq] at h1
      obtain ⟨h1, h2⟩ := h1
      obtain rfl : n = 3 := by simpa using h1
      obtain ⟨rm1, rm2⟩ := hrm
      dsimp only at rm1 rm2
      rw [m9 rfl] at hlink
      exact va_mabs hx hb hsz hown (hts _ (amW_in hlink rfl)) (hts _ (amW_in amMathC.1.2.2.1 rfl)) (hts _ (amW_in amMathC.1.2.2.2 rfl)) (hts _ (amW_in amMathW.2.2 rfl)) (by omega) (by rw [amCats_cv]; omega) (by omega) (by omega) hdg (k ls H locs cells slots hl hL hR hS hc hs)
    · cases h
/-- a call of the law's own helpers, which catch what is thrown: what such a call does is proved apart -/
def amPrimOk (p : Program) (l : Launch) (e : Env) (R : Room) (s : State) (m : MethodId) (args : Array Value) (below : List Frame) (meth : Method) (c : Code) (b bS : Nat) (D : va_G) (dA : FieldType → ClassId) (q : amInf) (CALL : Nat → List amV → amS → Option amR) : Prop := ∀ (y idx pc : Nat) (qy : amInf) (L : amL) (S : List amV) (st st' : amS) (v : Option amV) (ls : Array Slot) (H : Heap) (locs : List Loc) (cells slots : Nat), amML q.2.2.2.2.1 idx = some (y, 6) → amMi[y]? = some qy → decode q.2.1 pc = .ok (.invokestatic idx, 3) → amLR b bS ls L → L.length = q.2.2.1 → amRep b bS D dA s st H → va_S (fun a => b ≤ a) s.heap H locs → (S.take qy.2.2.2.2.2).length = qy.2.2.2.2.2 → amCats (S.drop qy.2.2.2.2.2) ≤ 8 → CALL y (S.take qy.2.2.2.2.2).reverse st = some (v, st') → cells + (amCN st' - amCN st) ≤ R.cells → slots + (amSN st' - amSN st) ≤ R.slots →
  (va_Run p l e R s m args below meth c H locs cells slots (amCN st' - amCN st) (amSN st' - amSN st) (F0 m pc ls (S.map (amCv b bS))) ((S.drop qy.2.2.2.2.2).map (amCv b bS)) (amQc b bS D dA v st' #[]) (fun a => b ≤ a)) ∧ amCN st ≤ amCN st' ∧ amSN st ≤ amSN st'
theorem sn_prim {y : Nat} {qy : amInf} {idx : Nat} (hq : amMi[y]? = some qy) (hml : amML q.2.2.2.2.1 idx = some (y, 6)) (HP : amPrimOk p l e R s m args below meth c b bS D dA q CALL) (hl : amLR b bS ls L) (hL : L.length = q.2.2.1) (hR : amRep b bS D dA s st H) (hS : va_S (fun a => b ≤ a) s.heap H locs) (hc : cells + c0 = amCN st) (hs : slots + s0 = amSN st) (hdg : decode q.2.1 pc = .ok (.invokestatic idx, n)) (h : amStat CALL y (pc + 3) (n == 3) L S st = some N) (hrm : amRoom R c0 s0 N) (hmono : ∀ v st', CALL y (S.take qy.2.2.2.2.2).reverse st = some (v, st') → amCN st ≤ amCN st' ∧ amSN st ≤ amSN st') (k : amCont p l e R s m args below meth c Q b bS D dA q c0 s0 N) : W p l e R s m args below meth c H locs cells slots Q (F0 m pc ls (S.map (amCv b bS))) := by
  obtain ⟨v, st', h2, h5, h6, h7, rfl⟩ := amStat_inv hq h
  obtain rfl : n = 3 := by simpa using h5
  obtain ⟨rm1, rm2⟩ := hrm
  dsimp only at rm1 rm2
  obtain ⟨mo1, mo2⟩ := hmono v st' h7
  obtain ⟨hrun, -⟩ := HP y idx pc qy L S st st' v ls H locs cells slots hml hq hdg hl hL hR hS h2 h6 h7 (by omega) (by omega)
  refine am_back hrun hS (fun H1 locs1 r1 r2 => ?_)
  exact k ls H1 locs1 _ _ hl hL r1 r2 (by dsimp only; omega) (by dsimp only; omega)
end SND6
