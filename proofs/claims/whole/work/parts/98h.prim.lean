/-! the helpers' calls, from the law's own frame -/
theorem xh_in : (Cond.codeWith yLo method_3_code 5 (some .int) [(0, 10, 13, 13)] ∈ lw_tbl ∧ Cond.static yLo ∈ lw_tbl ∧ Cond.methodLink "SoundAdviceLaw" 52 yLo ∈ lw_tbl) ∧ (Cond.codeWith yLr method_4_code 4 (some .int) [(0, 8, 11, 13)] ∈ lw_tbl ∧ Cond.static yLr ∈ lw_tbl ∧ Cond.methodLink "SoundAdviceLaw" 194 yLr ∈ lw_tbl) ∧ Cond.initialized "SoundAdviceLaw" ∈ lw_tbl := ⟨⟨List.mem_of_getElem? (i := 1057) (by decide +kernel), List.mem_of_getElem? (i := 1056) (by decide +kernel), List.mem_of_getElem? (i := 1055) (by decide +kernel)⟩, ⟨List.mem_of_getElem? (i := 1132) (by decide +kernel), List.mem_of_getElem? (i := 1131) (by decide +kernel), List.mem_of_getElem? (i := 1130) (by decide +kernel)⟩, List.mem_of_getElem? (i := 105) (by decide +kernel)⟩
theorem ml13C : ((amMl 13).all (fun e => match e.2.2.1 with
  | 6 => decide ((e.1 = 52 ∧ e.2.1 = 274) ∨ (e.1 = 194 ∧ e.2.1 = 275))
  | _ => true)) = true := by decide +kernel
theorem ml13_6 {cn idx y : Nat} {qy : amInf} (h : amML cn idx = some (y, 6)) (hq : amMi[y]? = some qy) : (idx = 52 ∧ y = 274) ∨ (idx = 194 ∧ y = 275) := by
  obtain ⟨q', -, -, -, ps, hm⟩ := amML_wd h
  have hcn := (amNest h hq).2.2.1 rfl
  subst hcn
  have h1 := List.all_eq_true.mp ml13C _ hm
  exact of_decide_eq_true h1
theorem amPri_274 {C : Nat → List amV → amS → Option amR} {As : List amV} {st : amS} {r2 : amR} (h : amPri C 274 As st = some r2) : ∃ x1 x2 o, As = [vR 11 0, vI x1, vI x2, vR 150 o] ∧ amPrm (C 154 [vR 11 0, vI x1, vI x2] st) o = some r2 := by
  unfold amPri at h
  split at h
  · exact ⟨_, _, _, rfl, h⟩
  · first | omega | contradiction | simp_all
  · cases h
theorem amPri_275 {C : Nat → List amV → amS → Option amR} {As : List amV} {st : amS} {r2 : amR} (h : amPri C 275 As st = some r2) : ∃ x1 o, As = [vR 11 0, vI x1, vR 150 o] ∧ amPrm (C 155 [vR 11 0, vI x1] st) o = some r2 := by
  unfold amPri at h
  split at h
  · first | omega | contradiction | simp_all
  · exact ⟨_, _, rfl, h⟩
  · cases h
theorem mem_wLo : Cond.codeWith yLo method_3_code 5 (some .int) [(0, 10, 13, 13)] ∈ wLo := by
  unfold wLo
  exact List.mem_cons_self
theorem mem_wLr : Cond.codeWith yLr method_4_code 4 (some .int) [(0, 8, 11, 13)] ∈ wLr := by
  unfold wLr
  exact List.mem_cons_self
theorem gw_wLo : GoodIn amW wLo := fun w hw => by
  rcases List.mem_cons.mp hw with rfl | hw
  · exact ⟨amW_in xh_in.1.1 rfl, good_of_word rfl⟩
  · exact ⟨hw, good_of_word (List.mem_filter.mp hw).2⟩
theorem gw_wLr : GoodIn amW wLr := fun w hw => by
  rcases List.mem_cons.mp hw with rfl | hw
  · exact ⟨amW_in xh_in.2.1.1 rfl, good_of_word rfl⟩
  · exact ⟨hw, good_of_word (List.mem_filter.mp hw).2⟩
section PRM
variable {p : Program} {l : Launch} {e : Env} {R : Room} {s : State} {m : MethodId} {args : Array Value} {below : List Frame} {meth : Method} {c : Code} {b bS : Nat} {D : va_G} {dA : FieldType → ClassId}
set_option maxRecDepth 100000 in
theorem prim_ok (hl : l.stackTraces = false) {d n : Nat} (hd3 : 3 ≤ d) (hfr : d + 6 ≤ R.frames) (hlo : 100 * d + 600 ≤ R.locals) (Cx : amCx p s m args meth c b bS D dA amLawQ) (hkx : amKx b s s.heap) : amPrimOk p l e R s m args below meth c b bS D dA amLawQ (CLg (d + 2) n) := by
  have q1 : d + 4 + 1 ≤ R.frames := by omega
  have q2 : 8 + (5 + 11) + (100 * (d + 2) + 200) ≤ R.locals := by omega
  have q3 : 8 + (4 + 11) + (100 * (d + 2) + 200) ≤ R.locals := by omega
  intro y idx pc qy L S st st' v ls H locs cells slots hml hq hdg hl1 hL1 hR hS hS1 hS2 hcall hc hs
  obtain ⟨hx, hb, hmlo, hown, hts, hKn, hbs, hbz, hini⟩ := Cx
  obtain ⟨hex, hfull'⟩ := CLg_le hcall
  have hmono := amEx_mono (d + 2) n y _ st v st' hex
  have Sx : CallFix p m c code 8 s args amW "SoundAdviceLaw" := ⟨hx, hb, hmlo, hown, hts⟩
  have hsz9 : ls.size = 8 := hl1.1.trans hL1
  refine ⟨?_, hmono⟩
  have hy4 : 274 ≤ y := by rcases ml13_6 hml hq with z | z <;> omega
  have hfull := hfull' hy4
  have hmap : S.map (amCv b bS) = (((S.take qy.2.2.2.2.2).reverse).map (amCv b bS)).reverse ++ (S.drop qy.2.2.2.2.2).map (amCv b bS) := by
    conv => lhs; rw [← List.take_append_drop qy.2.2.2.2.2 S]
    simp
  have hroom : 2 * (F0 m pc ls (S.map (amCv b bS))).monitorRoom + (((S.drop qy.2.2.2.2.2).map (amCv b bS)).map fun v => v.category).sum ≤ 8 := by
    rw [amCats_cv]
    show 2 * 0 + _ ≤ 8
    omega
  have hlenA : (((S.take qy.2.2.2.2.2).reverse).map (amCv b bS)).length = qy.2.2.2.2.2 := by simpa using hS1
  generalize hAs : (S.take qy.2.2.2.2.2).reverse = As at *
  have hpre : ∀ U : State, U.heap = H → s.WarmedH U.vm → amPx b bS D dA As st (As.map (amCv b bS)).toArray U := fun U hU hW => ⟨amPre (as := As) hKn hbs hR U hU hW, by
    rw [hU]
    exact (hkx.kept hS.2.1).warm hW⟩
  have hex2 : amPri (amEx (d + 1) n) y As st = some (v, st') := by
    unfold amEx at hex
    rw [decide_eq_true hy4] at hex
    exact hex
  rcases ml13_6 hml hq with ⟨rfl, rfl⟩ | ⟨rfl, rfl⟩
  · obtain rfl : qy = qLo := Option.some.inj (hq.symm.trans mi_274)
    have hdg9 : decode code pc = .ok (.invokestatic 52, 3) := hdg
    obtain ⟨x1, x2, o, rfl, hp⟩ := amPri_274 hex2
    cases hr : amEx (d + 1) n 154 [vR 11 0, vI x1, vI x2] st with
    | none => rw [hr] at hp; cases hp
    | some rr =>
      obtain ⟨r, st1⟩ := rr
      rw [hr] at hp
      have hM := amL_of hl (b := b) (bS := bS) (D := D) (dA := dA) hd3 hfull hr hp
      have hsig : ∀ sig, parseMethodDescriptor yLo.desc = some sig → 4 = sig.parameters.length := fun sig hsig => by
        have h2 : (parseMethodDescriptor yLo.desc).map (fun d => d.parameters.length) = some 4 := by decide +kernel
        rw [hsig] at h2
        exact (Option.some.inj h2).symm
      exact vx_runSW (meth := meth) (y := yLo) (bytes := method_3_code) (maxL := 5) (ret := some .int) (hh := [(0, 10, 13, 13)]) (own := "SoundAdviceLaw") (index := 52) (ws := wLo) (As := [vR 11 0, vI x1, vI x2, vR 150 o].map (amCv b bS)) (rest := (S.drop qLo.2.2.2.2.2).map (amCv b bS)) (g := F0 m pc ls (S.map (amCv b bS))) (cells := cells) (slots := slots) (locs := locs) (below := below) (e := e) (H := H) (Ts := amW) (cc := code) (nL := 8) (n := 4) Sx hM ⟨⟨rfl, rfl, q1, q2, pay_in hts gw_wLo, mem_wLo⟩, hts _ (amW_in xh_in.1.1 rfl), hts _ (amW_in xh_in.2.2 rfl), ⟨by decide, by decide⟩, hsig, hts _ (amW_in xh_in.1.2.2 rfl), hts _ (amW_in xh_in.1.2.1 rfl)⟩ ⟨amPx_blind, hpre⟩ rfl rfl hsz9 hmap hroom hdg9 ⟨hc, hs⟩
  · obtain rfl : qy = qLr := Option.some.inj (hq.symm.trans mi_275)
    have hdg9 : decode code pc = .ok (.invokestatic 194, 3) := hdg
    obtain ⟨x1, o, rfl, hp⟩ := amPri_275 hex2
    cases hr : amEx (d + 1) n 155 [vR 11 0, vI x1] st with
    | none => rw [hr] at hp; cases hp
    | some rr =>
      obtain ⟨r, st1⟩ := rr
      rw [hr] at hp
      have hM := amL_row hl (b := b) (bS := bS) (D := D) (dA := dA) hd3 hfull hr hp
      have hsig : ∀ sig, parseMethodDescriptor yLr.desc = some sig → 3 = sig.parameters.length := fun sig hsig => by
        have h2 : (parseMethodDescriptor yLr.desc).map (fun d => d.parameters.length) = some 3 := by decide +kernel
        rw [hsig] at h2
        exact (Option.some.inj h2).symm
      exact vx_runSW (meth := meth) (y := yLr) (bytes := method_4_code) (maxL := 4) (ret := some .int) (hh := [(0, 8, 11, 13)]) (own := "SoundAdviceLaw") (index := 194) (ws := wLr) (As := [vR 11 0, vI x1, vR 150 o].map (amCv b bS)) (rest := (S.drop qLr.2.2.2.2.2).map (amCv b bS)) (g := F0 m pc ls (S.map (amCv b bS))) (cells := cells) (slots := slots) (locs := locs) (below := below) (e := e) (H := H) (Ts := amW) (cc := code) (nL := 8) (n := 3) Sx hM ⟨⟨rfl, rfl, q1, q3, pay_in hts gw_wLr, mem_wLr⟩, hts _ (amW_in xh_in.2.1.1 rfl), hts _ (amW_in xh_in.2.2 rfl), ⟨by decide, by decide⟩, hsig, hts _ (amW_in xh_in.2.1.2.2 rfl), hts _ (amW_in xh_in.2.1.2.1 rfl)⟩ ⟨amPx_blind, hpre⟩ rfl rfl hsz9 hmap hroom hdg9 ⟨hc, hs⟩
end PRM
