/-! ONE STEP IS SOUND: calls -/
def amRm (d mc ms : Nat) : Room := { frames := d + 2, cells := mc, slots := ms, locals := 100 * d + 200 }
def amPc (b bS : Nat) (D : va_G) (dA : FieldType → ClassId) (as : List amV) (st : amS) : Array Value → State → Prop := fun v U => v = (as.map (amCv b bS)).toArray ∧ amRep b bS D dA U st U.heap ∧ amKn D dA U ∧ bS < b
def amQc (b bS : Nat) (D : va_G) (dA : FieldType → ClassId) (r : Option amV) (st' : amS) : Array Value → State → Outcome → State → Prop := fun _ u o t => o = .returned (r.map (amCv b bS)) ∧ amRep b bS D dA t st' t.heap ∧ va_F (fun a => b ≤ a) u t
def amWy (q : amInf) : List Cond := amCode q :: amW
/-- what a call is known to do -/
def amCallOk (l : Launch) (b bS : Nat) (D : va_G) (dA : FieldType → ClassId) (d : Nat) (CALL : Nat → List amV → amS → Option amR) : Prop := ∀ (y : Nat) (q : amInf) (as : List amV) (st : amS) (r : Option amV) (st' : amS), amMi[y]? = some q → y < 273 → q.2.2.2.2.1 ≠ 15 → ¬ amThr q → CALL y as st = some (r, st') →
  Met l q.1 (amWy q) (amRm d (amCN st' - amCN st) (amSN st' - amSN st)) (amPc b bS D dA as st) (amQc b bS D dA r st') (amCN st' - amCN st) (amSN st' - amSN st) (fun a => b ≤ a) ∧ amCN st ≤ amCN st' ∧ amSN st ≤ amSN st'
theorem amKn.warm {D : va_G} {dA : FieldType → ClassId} {s U : State} (hW : s.WarmedH U.vm) (h : amKn D dA s) : amKn D dA U := ⟨va_K.moved hW.alike h.1, fun o i x hh hm => va_Nw.warmM hW (h.2.1 o i x hh hm), va_AO.moved hW.alike h.2.2⟩
theorem amRep.alike {b bS : Nat} {D : va_G} {dA : FieldType → ClassId} {s U : State} {st : amS} {H : Heap} (hvm : s.vm.Alike U.vm) (h : amRep b bS D dA s st H) : amRep b bS D dA U st H := ⟨h.1, h.2.1, h.2.2.1, h.2.2.2.1, fun h9 => (h.2.2.2.2 h9).moved hvm⟩
theorem amPc_blind {b bS : Nat} {D : va_G} {dA : FieldType → ClassId} {as : List amV} {st : amS} : FrameBlind (amPc b bS D dA as st) := fun a U g mk h => ⟨h.1, h.2.1.alike (Vm.Alike.refl U.vm), ⟨va_K.moved (u := U) (U := U.calling g mk a) (Vm.Alike.refl U.vm) h.2.2.1.1, fun o i x hh hm => va_Nw.same rfl (u := U) (U := U.calling g mk a) rfl (h.2.2.1.2.1 o i x hh hm), va_AO.moved (u := U) (U := U.calling g mk a) (Vm.Alike.refl U.vm) h.2.2.1.2.2⟩, h.2.2.2⟩
theorem amWy_good {y : Nat} {q : amInf} (h : amMi[y]? = some q) (hy : y < 273) : GoodIn amW (amWy q) := by
  intro w hw
  rcases List.mem_cons.mp hw with rfl | hw
  · exact ⟨amW_in (amCw h hy) rfl, Or.inl rfl⟩
  · exact ⟨hw, good_of_word (List.mem_filter.mp hw).2⟩
theorem amMiC : (amMi.all (fun q => decide (q.1.cls ≠ "java/lang/invoke/MethodHandle") && decide (q.1.cls ≠ "java/lang/invoke/VarHandle") && decide ((parseMethodDescriptor q.1.desc).map (fun d => d.parameters.length) = some q.2.2.2.2.2) && decide (q.2.2.1 ≤ 30) && decide (q.1.cls = amOwn q.2.2.2.2.1) && (decide (q.2.2.2.2.1 = 15) || plainName q.1.cls) && decide (q.2.2.2.2.1 < 17))) = true := by decide +kernel
theorem amMi_ok {y : Nat} {q : amInf} (h : amMi[y]? = some q) : (q.1.cls ≠ "java/lang/invoke/MethodHandle" ∧ q.1.cls ≠ "java/lang/invoke/VarHandle" ∧ (parseMethodDescriptor q.1.desc).map (fun d => d.parameters.length) = some q.2.2.2.2.2) ∧ q.2.2.1 ≤ 30 ∧ q.1.cls = amOwn q.2.2.2.2.1 ∧ (q.2.2.2.2.1 ≠ 15 → plainName q.1.cls = true) := by
  have h1 := List.all_eq_true.mp amMiC q (List.mem_of_getElem? h)
  simp only [Bool.and_eq_true, decide_eq_true_eq] at h1
  obtain ⟨⟨⟨⟨⟨⟨h1, h2⟩, h3⟩, h4⟩, h5⟩, h6⟩, h7⟩ := h1
  refine ⟨⟨h1, h2, h3⟩, h4, h5, fun hne => ?_⟩
  rw [Bool.or_eq_true] at h6
  rcases h6 with h8 | h8
  · exact absurd (of_decide_eq_true h8) hne
  · exact h8
theorem amML_wd {cn idx y kd : Nat} (h : amML cn idx = some (y, kd)) : ∃ q, amMi[y]? = some q ∧ (∀ w ∈ amWd cn idx kd q, w ∈ lw_tbl ∧ goodWord w = true) ∧ (y < 273 ∨ 4 ≤ kd) ∧ ∃ ps, (idx, y, kd, ps) ∈ amMl cn := by
  unfold amML at h
  cases hf : (amMl cn).find? (fun e => e.1 == idx) with
  | none => rw [hf] at h; cases h
  | some z =>
    rw [hf] at h
    have h : (z.2.1, z.2.2.1) = (y, kd) := Option.some.inj h
    have h2 := List.find?_some hf
    have h2 : z.1 = idx := by simpa using h2
    have hm := List.mem_of_find?_eq_some hf
    obtain ⟨q, h3, h4, h5⟩ := amMl_wd hm
    obtain ⟨i1, i2⟩ := Prod.mk.inj h
    rw [i1] at h3 h5
    rw [h2, i2] at h4
    rw [i2] at h5
    refine ⟨q, h3, h4, h5, z.2.2.2, ?_⟩
    rw [← h2, ← i1, ← i2]
    exact hm
/-- the links of nest mates -/
theorem amNestC : ((List.range 17).all (fun cn => (amMl cn).all (fun e => match e.2.2.1, amMi[e.2.1]? with
  | 3, some q => decide (¬ amThr q) && decide (Cond.methodLinkNest (amOwn cn) e.1 q.1 "SoundAdvice" ∈ lw_tbl) && decide (q.1.name = "<init>") && decide (q.2.2.2.1 = none) && decide (q.2.2.2.2.1 ≠ 15)
  | 2, some q => decide (¬ amThr q) && decide (q.1.name = "<init>") && decide (q.2.2.2.1 = none) && decide (q.2.2.2.2.1 ≠ 15)
  | 6, _ => decide (cn = 13)
  | 0, some q => decide (¬ amThr q) && decide (q.2.2.2.2.1 ≠ 15)
  | 1, some q => decide (¬ amThr q) && decide (q.2.2.2.2.1 ≠ 15)
  | _, _ => true))) = true := by decide +kernel
theorem amMl_cn {cn : Nat} {e : Nat × Nat × Nat × List Nat} (h : e ∈ amMl cn) : cn < 17 := by
  rcases Nat.lt_or_ge cn 17 with h1 | h1
  · exact h1
  · obtain ⟨n, rfl⟩ : ∃ n, cn = n + 17 := ⟨cn - 17, by omega⟩
    exact absurd h List.not_mem_nil
theorem amNest {cn idx y kd : Nat} {q : amInf} (h : amML cn idx = some (y, kd)) (hq : amMi[y]? = some q) : (kd = 3 → Cond.methodLinkNest (amOwn cn) idx q.1 "SoundAdvice" ∈ lw_tbl ∧ q.1.name = "<init>" ∧ q.2.2.2.1 = none) ∧ (kd = 2 → q.1.name = "<init>" ∧ q.2.2.2.1 = none) ∧ (kd = 6 → cn = 13) ∧ (kd < 4 → q.2.2.2.2.1 ≠ 15 ∧ ¬ amThr q) := by
  obtain ⟨q', -, -, -, ps, hm⟩ := amML_wd h
  have h1 := List.all_eq_true.mp amNestC cn (List.mem_range.mpr (amMl_cn hm))
  have h2 := List.all_eq_true.mp h1 _ hm
  dsimp only at h2
  rw [hq] at h2
  refine ⟨fun hk => ?_, fun hk => ?_, fun hk => ?_, fun hk => ?_⟩
  · subst hk
    have h2 : (decide (¬ amThr q) && decide (Cond.methodLinkNest (amOwn cn) idx q.1 "SoundAdvice" ∈ lw_tbl) && decide (q.1.name = "<init>") && decide (q.2.2.2.1 = none) && decide (q.2.2.2.2.1 ≠ 15)) = true := h2
    simp only [Bool.and_eq_true, decide_eq_true_eq] at h2
    exact ⟨h2.1.1.1.2, h2.1.1.2, h2.1.2⟩
  · subst hk
    have h2 : (decide (¬ amThr q) && decide (q.1.name = "<init>") && decide (q.2.2.2.1 = none) && decide (q.2.2.2.2.1 ≠ 15)) = true := h2
    simp only [Bool.and_eq_true, decide_eq_true_eq] at h2
    exact ⟨h2.1.1.2, h2.1.2⟩
  · subst hk
    exact of_decide_eq_true h2
  · rcases (show kd = 0 ∨ kd = 1 ∨ kd = 2 ∨ kd = 3 by omega) with rfl | rfl | rfl | rfl
    · have h2 : (decide (¬ amThr q) && decide (q.2.2.2.2.1 ≠ 15)) = true := h2
      rw [Bool.and_eq_true] at h2
      exact ⟨of_decide_eq_true h2.2, of_decide_eq_true h2.1⟩
    · have h2 : (decide (¬ amThr q) && decide (q.2.2.2.2.1 ≠ 15)) = true := h2
      rw [Bool.and_eq_true] at h2
      exact ⟨of_decide_eq_true h2.2, of_decide_eq_true h2.1⟩
    · have h2 : (decide (¬ amThr q) && decide (q.1.name = "<init>") && decide (q.2.2.2.1 = none) && decide (q.2.2.2.2.1 ≠ 15)) = true := h2
      rw [Bool.and_eq_true, Bool.and_eq_true, Bool.and_eq_true] at h2
      exact ⟨of_decide_eq_true h2.2, of_decide_eq_true h2.1.1.1⟩
    · have h2 : (decide (¬ amThr q) && decide (Cond.methodLinkNest (amOwn cn) idx q.1 "SoundAdvice" ∈ lw_tbl) && decide (q.1.name = "<init>") && decide (q.2.2.2.1 = none) && decide (q.2.2.2.2.1 ≠ 15)) = true := h2
      rw [Bool.and_eq_true, Bool.and_eq_true, Bool.and_eq_true, Bool.and_eq_true] at h2
      exact ⟨of_decide_eq_true h2.2, of_decide_eq_true h2.1.1.1.1⟩
section SND5
variable {p : Program} {l : Launch} {e : Env} {R : Room} {s : State} {m : MethodId} {args : Array Value} {below : List Frame} {meth : Method} {c : Code} {Q : State → Prop} {b bS : Nat} {D : va_G} {dA : FieldType → ClassId} {q : amInf} {c0 s0 pc n d : Nat} {L : amL} {S : List amV} {st : amS} {N : amF ⊕ amR} {CALL : Nat → List amV → amS → Option amR} {ls : Array Slot} {H : Heap} {locs : List Loc} {cells slots : Nat}
theorem am_back {rest : List amV} {r : Option amV} {st' : amS} {aa : Array Value} {st0 : List Value} {mc ms : Nat} (hr : va_Run p l e R s m args below meth c H locs cells slots mc ms (F0 m pc ls st0) (rest.map (amCv b bS)) (amQc b bS D dA r st' aa) (fun a => b ≤ a)) (hS : va_S (fun a => b ≤ a) s.heap H locs)
    (kk : ∀ (H1 : Heap) (locs1 : List Loc), amRep b bS D dA s st' H1 → va_S (fun a => b ≤ a) s.heap H1 locs1 → W p l e R s m args below meth c H1 locs1 (cells + mc) (slots + ms) Q (F0 m (pc + 3) ls ((r.toList ++ rest).map (amCv b bS)))) : W p l e R s m args below meth c H locs cells slots Q (F0 m pc ls st0) := by
  intro T hT X
  obtain ⟨v, st₀, t, T', L', h0, X', hL, e1, e2, ⟨hv, hrep, hz, hk⟩, go⟩ := hr T hT X
  have hv : v = r.map (amCv b bS) := by cases hv; rfl
  subst hv
  rw [h0] at hz hk
  obtain ⟨t2, a1, b1⟩ := kk T'.heap (locs ++ L') (by rw [e1]; exact hrep.alike (by rw [← e2]; exact X'.warmed.alike.symm))
    ⟨Nat.le_trans hS.1 (by rw [e1]; exact hz), fun a h1 h2 => by rw [e1, hk a (Nat.lt_of_lt_of_le h1 hS.1) h2]; exact hS.2.1 a h1 h2, fun a ha => by
      rcases List.mem_append.mp ha with h | h
      · exact hS.2.2 a h
      · exact hL a h⟩ T' rfl X'
  refine ⟨t2, go t2 ?_, b1⟩
  have hst : (r.map (amCv b bS)).toList ++ rest.map (amCv b bS) = (r.toList ++ rest).map (amCv b bS) := by
    cases r <;> simp
  rw [hst]
  exact a1
theorem amBack_inv {bb : Bool} {rest : List amV} {r : Option amR} (h : amBack pc bb L rest r = some N) : ∃ v st', r = some (v, st') ∧ bb = true ∧ N = .inl (pc, L, v.toList ++ rest, st') := by
  unfold amBack at h
  split at h
  · obtain ⟨h1, h2⟩ := amGo_inv h
    exact ⟨_, _, rfl, h1, h2⟩
  · cases h
theorem amInv_ks {ks : List Nat} {cn idx pc2 : Nat} {bb : Bool} (h : amInv CALL ks cn idx pc2 bb L S st = some N) : ∃ y kd, amML cn idx = some (y, kd) ∧ kd ∈ ks ∧ (match kd with
    | 0 => amVirt CALL y pc2 bb L S st
    | 1 => amStat CALL y pc2 bb L S st
    | 2 => amVirt CALL y pc2 bb L S st
    | 3 => amVirt CALL y pc2 bb L S st
    | 4 => amObj pc2 bb L S st
    | 5 => amCopy pc2 bb L S st
    | 6 => amStat CALL y pc2 bb L S st
    | 7 => amMat pc2 bb L S st (fun x y => if x < y then y else x)
    | 8 => amMat pc2 bb L S st (fun x y => if y < x then y else x)
    | 9 => amMab pc2 bb L S st
    | _ => none) = some N := by
  unfold amInv at h
  split at h
  · rename_i y kd hm
    cases hk : ks.contains kd with
    | false => rw [hk] at h; cases h
    | true =>
      rw [hk] at h
      exact ⟨y, kd, hm, List.contains_iff_mem.mp hk, h⟩
  · cases h
/-- a call of a method with a receiver -/
theorem amVirt_inv {y pc2 : Nat} {bb : Bool} {qy : amInf} (hq : amMi[y]? = some qy) (h : amVirt CALL y pc2 bb L S st = some N) : ∃ rc ri rest v st', S = S.take qy.2.2.2.2.2 ++ vR rc ri :: rest ∧ (S.take qy.2.2.2.2.2).length = qy.2.2.2.2.2 ∧ rc = qy.2.2.2.2.1 ∧ amAl st.2.2.2.1 rc ri = true ∧ bb = true ∧ amCats rest ≤ 8 ∧ CALL y (vR rc ri :: (S.take qy.2.2.2.2.2).reverse) st = some (v, st') ∧ N = .inl (pc2, L, v.toList ++ rest, st') := by
  unfold amVirt at h
  rw [hq] at h
  dsimp only at h
  split at h
  · rename_i rc ri rest hd
    cases hcc : (rc == qy.2.2.2.2.1 && amAl st.2.2.2.1 rc ri) with
    | false => rw [hcc] at h; cases h
    | true =>
      rw [hcc] at h
      have h : amBack pc2 (bb && decide (qy.2.2.2.2.2 ≤ S.length) && decide (amCats rest ≤ 8)) L rest (CALL y (vR rc ri :: (S.take qy.2.2.2.2.2).reverse) st) = some N := h
      obtain ⟨v, st', h1, h2, h3⟩ := amBack_inv h
      simp only [Bool.and_eq_true, beq_iff_eq, decide_eq_true_eq] at h2 hcc
      refine ⟨rc, ri, rest, v, st', ?_, ?_, hcc.1, hcc.2, h2.1.1, h2.2, h1, h3⟩
      · rw [← hd, List.take_append_drop]
      · rw [List.length_take]; omega
  · cases h
theorem amStat_inv {y pc2 : Nat} {bb : Bool} {qy : amInf} (hq : amMi[y]? = some qy) (h : amStat CALL y pc2 bb L S st = some N) : ∃ v st', (S.take qy.2.2.2.2.2).length = qy.2.2.2.2.2 ∧ bb = true ∧ amCats (S.drop qy.2.2.2.2.2) ≤ 8 ∧ CALL y (S.take qy.2.2.2.2.2).reverse st = some (v, st') ∧ N = .inl (pc2, L, v.toList ++ S.drop qy.2.2.2.2.2, st') := by
  unfold amStat at h
  rw [hq] at h
  dsimp only at h
  obtain ⟨v, st', h1, h2, h3⟩ := amBack_inv h
  simp only [Bool.and_eq_true, decide_eq_true_eq] at h2
  exact ⟨v, st', by rw [List.length_take]; omega, h2.1.1, h2.2, h1, h3⟩
theorem amPre {as : List amV} (hKn : amKn D dA s) (hbs : bS < b) (hR : amRep b bS D dA s st H) : ∀ U : State, U.heap = H → s.WarmedH U.vm → amPc b bS D dA as st (as.map (amCv b bS)).toArray U := fun U hU hW => ⟨rfl, by rw [hU]; exact hR.alike hW.alike, hKn.warm hW, hbs⟩
theorem sn_virt {ins : Instr} {y : Nat} {qy : amInf} {idx kd : Nat} (hq : amMi[y]? = some qy) (hy : y < 273) (hkd : kd = 0 ∧ ins = .invokevirtual idx ∨ (kd = 2 ∨ kd = 3) ∧ ins = .invokespecial idx) (hml : amML q.2.2.2.2.1 idx = some (y, kd)) (HC : amCallOk l b bS D dA d CALL) (hfr : d + 3 ≤ R.frames) (hlo : 100 * d + 300 ≤ R.locals) (Cx : amCx p s m args meth c b bS D dA q) (hl : amLR b bS ls L) (hL : L.length = q.2.2.1) (hR : amRep b bS D dA s st H) (hS : va_S (fun a => b ≤ a) s.heap H locs) (hc : cells + c0 = amCN st) (hs : slots + s0 = amSN st) (hdg : decode q.2.1 pc = .ok (ins, n)) (h : amVirt CALL y (pc + 3) (n == 3) L S st = some N) (hrm : amRoom R c0 s0 N) (k : amCont p l e R s m args below meth c Q b bS D dA q c0 s0 N) : W p l e R s m args below meth c H locs cells slots Q (F0 m pc ls (S.map (amCv b bS))) := by
  obtain ⟨hx, hb, hmlo, hown, hts, hKn, hbs, hbz, hini⟩ := Cx
  obtain ⟨rc, ri, rest, v, st', h1, h2, h3, h4, h5, h6, h7, rfl⟩ := amVirt_inv hq h
  obtain rfl : n = 3 := by simpa using h5
  have hn15 := (amNest hml hq).2.2.2 (by rcases hkd with ⟨rfl, -⟩ | ⟨rfl | rfl, -⟩ <;> decide)
  obtain ⟨M1, mo1, mo2⟩ := HC y qy _ st v st' hq hy hn15.1 hn15.2 h7
  obtain ⟨q', hq', hwd, -⟩ := amML_wd hml
  obtain rfl : q' = qy := Option.some.inj (hq'.symm.trans hq)
  obtain ⟨hd, hmx, hcls, -⟩ := amMi_ok hq
  obtain ⟨rm1, rm2⟩ := hrm
  dsimp only at rm1 rm2
  have hmap : S.map (amCv b bS) = (((S.take q'.2.2.2.2.2).reverse).map (amCv b bS)).reverse ++ .ref (amAd b bS (rc, ri)) :: rest.map (amCv b bS) := by
    conv => lhs; rw [h1]
    simp [amCv]
  have hlenA : (((S.take q'.2.2.2.2.2).reverse).map (amCv b bS)).length = q'.2.2.2.2.2 := by simpa using h2
  have hroom : 2 * (F0 m pc ls (S.map (amCv b bS))).monitorRoom + ((rest.map (amCv b bS)).map fun v => v.category).sum ≤ 8 := by
    rw [amCats_cv]
    show 2 * 0 + _ ≤ 8
    omega
  have hpre := amPre (as := vR rc ri :: (S.take q'.2.2.2.2.2).reverse) hKn hbs hR
  have hin : (Cond.instanceMethod q'.1).before args s = true := by
    refine hts _ (amW_in (hwd (Cond.instanceMethod q'.1) ?_).1 rfl)
    rcases hkd with ⟨rfl, -⟩ | ⟨rfl | rfl, -⟩ <;> simp [amWd]
  have hinit : (Cond.initialized q'.1.cls).before args s = true := by
    refine hts _ (amW_in (hwd (Cond.initialized q'.1.cls) ?_).1 rfl)
    rcases hkd with ⟨rfl, -⟩ | ⟨rfl | rfl, -⟩ <;> simp [amWd]
  have hcellR : ∃ cellB : Cell, H[amAd b bS (rc, ri)]? = some cellB ∧ cellB.vm.isStatics = false ∧ s.vm.findClass q'.1.cls = some cellB.cls := by
    have he := amWs_at (b := b) (bS := bS) (dA := dA) hR.2.2.2.1 h4
    have hrc : rc < 50 := by
      rcases amOrcC.2.1 _ (amIdx_lt hR.2.2.2.1 h4).2 with h9 | h9
      · exact h9
      · exfalso
        have h8 := List.all_eq_true.mp amMiC q' (List.mem_of_getElem? hq)
        simp only [Bool.and_eq_true, decide_eq_true_eq] at h8
        have := h8.2
        dsimp only at h9
        omega
    rw [amE_obj hrc] at he
    have hlt13 : rc < 13 := by
      have h8 : ∀ x ∈ amOrc, x.1 < 50 → x.1 < 13 := by decide +kernel
      exact h8 _ (amIdx_lt hR.2.2.2.1 h4).2 hrc
    obtain ⟨cq, hcq⟩ : ∃ cq, amFs[rc]? = some cq := ⟨_, List.getElem?_eq_getElem (by rw [amFsLen]; exact hlt13)⟩
    obtain ⟨cell, e1, e2, e3⟩ := va_recv hKn.1 hR.1 (amCls_at hcq) he
    refine ⟨cell, e1, e2, ?_⟩
    rw [hcls, ← h3, amOwn_at hcq]
    exact e3
  have hrun : va_Run p l e R s m args below meth c H locs cells slots (amCN st' - amCN st) (amSN st' - amSN st) (F0 m pc ls (S.map (amCv b bS))) (rest.map (amCv b bS)) (amQc b bS D dA v st' ((vR rc ri :: (S.take q'.2.2.2.2.2).reverse).map (amCv b bS)).toArray) (fun a => b ≤ a) := by
    rcases hkd with ⟨rfl, rfl⟩ | ⟨rfl | rfl, rfl⟩
    · refine va_runV (C := q'.1.cls) (As := ((S.take q'.2.2.2.2.2).reverse).map (amCv b bS)) ⟨hx, hb, hmlo, hown, hts⟩ M1 ⟨callB_of (ws' := amW) q'.2.2.2.2.2 hts (amWy_good hq hy) rfl rfl rfl hinit (hts _ (amW_in (hwd (Cond.methodLink (amOwn q.2.2.2.2.1) idx q'.1) (by simp [amWd])).1 rfl)) hd ⟨by show d + 2 + 1 ≤ _; omega, by show 8 + (q'.2.2.1 + 11) + (100 * d + 200) ≤ _; omega⟩, hin, hts _ (amW_in (hwd (Cond.selects q'.1.cls q'.1 q'.1) (by simp [amWd])).1 rfl)⟩ ⟨amPc_blind, hcellR, hpre⟩ rfl hlenA (hl.1.trans hL) hmap hroom hdg ⟨by omega, by omega⟩
    · obtain ⟨-, hn2, -, -⟩ := amNest hml hq
      obtain ⟨hn3, hn4⟩ := hn2 rfl
      refine va_runI (bytes := q'.2.1) (maxL := q'.2.2.1) (As := ((S.take q'.2.2.2.2.2).reverse).map (amCv b bS)) ⟨hx, hb, hmlo, hown, hts⟩ M1 ⟨?_, hn3, hin⟩ ⟨amPc_blind, hpre⟩ rfl hlenA (hl.1.trans hL) hmap hroom hdg ⟨by omega, by omega⟩
      have hcb := callB_of (ws' := amW) (R := R) (mc := amCN st' - amCN st) (ms := amSN st' - amSN st) (rm := amRm d (amCN st' - amCN st) (amSN st' - amSN st)) (own := amOwn q.2.2.2.2.1) (index := idx) q'.2.2.2.2.2 hts (amWy_good hq hy) rfl rfl rfl hinit (hts _ (amW_in (hwd (Cond.methodLink (amOwn q.2.2.2.2.1) idx q'.1) (by simp [amWd])).1 rfl)) hd ⟨by show d + 2 + 1 ≤ _; omega, by show 8 + (q'.2.2.1 + 11) + (100 * d + 200) ≤ _; omega⟩
      rw [hn4] at hcb
      exact hcb
    · obtain ⟨hn2, -, -, -⟩ := amNest hml hq
      obtain ⟨hn1, hn3, hn4⟩ := hn2 rfl
      refine va_runIN (host := "SoundAdvice") (bytes := q'.2.1) (maxL := q'.2.2.1) (As := ((S.take q'.2.2.2.2.2).reverse).map (amCv b bS)) ⟨hx, hb, hmlo, hown, hts⟩ M1 ⟨?_, hn3, hin⟩ ⟨amPc_blind, hpre⟩ rfl hlenA (hl.1.trans hL) hmap hroom hdg ⟨by omega, by omega⟩
      have hcb := va_cnB (ws' := amW) (R := R) (mc := amCN st' - amCN st) (ms := amSN st' - amSN st) (rm := amRm d (amCN st' - amCN st) (amSN st' - amSN st)) (own := amOwn q.2.2.2.2.1) (index := idx) q'.2.2.2.2.2 hts (amWy_good hq hy) rfl rfl rfl (hKn.2.1 _ _ _ _ hn1) hinit hd ⟨by show d + 2 + 1 ≤ _; omega, by show 8 + (q'.2.2.1 + 11) + (100 * d + 200) ≤ _; omega⟩
      rw [hn4] at hcb
      exact hcb
  refine am_back hrun hS (fun H1 locs1 r1 r2 => ?_)
  exact k ls H1 locs1 _ _ hl hL r1 r2 (by dsimp only; omega) (by dsimp only; omega)
end SND5
