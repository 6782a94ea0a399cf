/-! the law's own helpers: their contracts -/
def yLo : MethodName := ⟨"SoundAdviceLaw", "of", "(LSoundAdvice;II[J)I"⟩
def yLr : MethodName := ⟨"SoundAdviceLaw", "row", "(LSoundAdvice;I[J)I"⟩
def wLo : List Cond := Cond.codeWith yLo method_3_code 5 (some .int) [(0, 10, 13, 13)] :: amW
def wLr : List Cond := Cond.codeWith yLr method_4_code 4 (some .int) [(0, 8, 11, 13)] :: amW
def qLo : amInf := (yLo, method_3_code, 5, (some .int), 13, 4)
def qLr : amInf := (yLr, method_4_code, 4, (some .int), 13, 3)
theorem own13 : amOwn 13 = "SoundAdviceLaw" := rfl
theorem amPrm_n {st' st'' : amS} {v : Option amV} {o : Nat} (h : amPrm (some (none, st')) o = some (v, st'')) : v = some (vI 1) ∧ st'' = (st'.1, st'.2.1, (st'.2.2.1 + 1, st'.2.2.2)) := by
  cases h
  exact ⟨rfl, rfl⟩
theorem amPrm_i {st' st'' : amS} {v : Option amV} {x : Int32} {o : Nat} (h : amPrm (some (some (.inl x), st')) o = some (v, st'')) : o = 0 ∧ v = some (vI 0) ∧ st'' = (st'.1, upJ st'.2.1 150 0 x.toInt64, st'.2.2) := by
  cases o with
  | zero =>
    cases h
    exact ⟨rfl, rfl, rfl⟩
  | succ o => cases h
theorem amPrm_l {st' st'' : amS} {v : Option amV} {x : Int64} {o : Nat} (h : amPrm (some (some (.inr (.inl x)), st')) o = some (v, st'')) : o = 0 ∧ v = some (vI 0) ∧ st'' = (st'.1, upJ st'.2.1 150 0 x, st'.2.2) := by
  cases o with
  | zero =>
    cases h
    exact ⟨rfl, rfl, rfl⟩
  | succ o => cases h
theorem amCN_prm {st' st'' : amS} {r v : Option amV} {o : Nat} (h : amPrm (some (r, st')) o = some (v, st'')) : amCN st' ≤ amCN st'' ∧ amSN st' ≤ amSN st'' := by
  match r, h with
  | none, h =>
    obtain ⟨-, rfl⟩ := amPrm_n h
    refine ⟨?_, ?_⟩
    · show st'.2.2.1 + st'.2.2.2.1 ≤ st'.2.2.1 + 1 + st'.2.2.2.1
      omega
    · show 6 * st'.2.2.1 + (amSz.take st'.2.2.2.1).sum ≤ 6 * (st'.2.2.1 + 1) + (amSz.take st'.2.2.2.1).sum
      omega
  | some (.inl x), h =>
    obtain ⟨-, -, rfl⟩ := amPrm_i h
    exact ⟨Nat.le_refl _, Nat.le_refl _⟩
  | some (.inr (.inl x)), h =>
    obtain ⟨-, -, rfl⟩ := amPrm_l h
    exact ⟨Nat.le_refl _, Nat.le_refl _⟩
  | some (.inr (.inr x)), h => cases h
theorem amPrm_cn {st st' st'' : amS} {r v : Option amV} {o : Nat} (hp : amPrm (some (r, st')) o = some (v, st'')) (hmono : amCN st ≤ amCN st' ∧ amSN st ≤ amSN st') : amCN st'' - amCN st = amCN st' - amCN st + jn r ∧ amSN st'' - amSN st = amSN st' - amSN st + 6 * jn r := by
  match r, hp with
  | none, hp =>
    obtain ⟨-, rfl⟩ := amPrm_n hp
    have e1 : amCN (st'.1, st'.2.1, (st'.2.2.1 + 1, st'.2.2.2)) = amCN st' + 1 := by
      show st'.2.2.1 + 1 + st'.2.2.2.1 = st'.2.2.1 + st'.2.2.2.1 + 1
      omega
    have e2 : amSN (st'.1, st'.2.1, (st'.2.2.1 + 1, st'.2.2.2)) = amSN st' + 6 := by
      show 6 * (st'.2.2.1 + 1) + (amSz.take st'.2.2.2.1).sum = 6 * st'.2.2.1 + (amSz.take st'.2.2.2.1).sum + 6
      omega
    rw [e1, e2]
    have := hmono.1
    have := hmono.2
    refine ⟨?_, ?_⟩
    · show _ = _ + 1
      omega
    · show _ = _ + 6 * 1
      omega
  | some (.inl x9), hp =>
    obtain ⟨-, -, rfl⟩ := amPrm_i hp
    exact ⟨rfl, rfl⟩
  | some (.inr (.inl x9)), hp =>
    obtain ⟨-, -, rfl⟩ := amPrm_l hp
    exact ⟨rfl, rfl⟩
  | some (.inr (.inr x9)), hp => cases hp
theorem full_of {b bS : Nat} {D : va_G} {dA : FieldType → ClassId} {s : State} {st st' : amS} {H : Heap} (hfull : st.2.2.2.1 = amOrc.length) (hrep : amRep b bS D dA s st s.heap) (hR : amRep b bS D dA s st' H) (hz : s.heap.size ≤ H.size) : st'.2.2.2.1 = amOrc.length := by
  have z1 := hR.2.2.1
  have z2 := hR.2.2.2.1
  have z4 := hrep.2.1
  refine Classical.byContradiction (fun z => ?_)
  have z5 := z1 (by omega)
  omega
theorem al150 : amAl 149 150 0 = true := by decide +kernel
theorem lst150 {C : Nat → List amV → amS → Option amR} {q : amInf} {pc : Nat} {L : amL} {w : Int64} {M : amM} {J : amJ} {jk tt X : Nat} : amStep C q pc .lastore 1 L [vL w, vI 0, vR 150 0] (M, J, (jk, 149, tt, X)) = some (.inl (pc + 1, L, [], (M, upJ J 150 0 w, (jk, 149, tt, X)))) := by
  have h2 : amOw (jk, 149, tt, X) 150 0 0 3 = true := by
    unfold amOw
    dsimp only
    rw [al150]
    rfl
  show amLst (pc + 1) (1 == 1) L [vL w, vI 0, vR 150 0] (M, J, (jk, 149, tt, X)) = _
  unfold amLst
  dsimp only
  rw [h2]
  rfl
theorem amRep_j {b bS : Nat} {D : va_G} {dA : FieldType → ClassId} {s : State} {st : amS} {H : Heap} {j : Nat} (h : amRep b bS D dA s st H) : amRep b bS D dA s (st.1, st.2.1, (j, st.2.2.2)) H := h
theorem amL_of {l : Launch} (hl : l.stackTraces = false) {b bS : Nat} {D : va_G} {dA : FieldType → ClassId} {n d : Nat} {x y : Int32} {st st' st'' : amS} {r v : Option amV} {o : Nat} (hd3 : 3 ≤ d) (hfull : st.2.2.2.1 = amOrc.length) (h : amEx (d + 1) n 154 [vR 11 0, vI x, vI y] st = some (r, st')) (hp : amPrm (some (r, st')) o = some (v, st'')) :
    Met l yLo wLo (amRm (d + 2) (amCN st'' - amCN st) (amSN st'' - amSN st)) (amPx b bS D dA [vR 11 0, vI x, vI y, vR 150 o] st) (amQc b bS D dA v st'') (amCN st'' - amCN st) (amSN st'' - amSN st) (fun a => b ≤ a) := by
  have hmono := amEx_mono (d + 1) n 154 [vR 11 0, vI x, vI y] st r st' h
  have hM := amSnd_x hl (b := b) (bS := bS) (D := D) (dA := dA) mi_154 (Or.inl rfl) hd3 hfull h
  have hty : r = none ∨ ∃ x9, r = some (.inl x9) := by
    cases r with
    | none => exact Or.inl rfl
    | some w =>
      rcases amEx_ty mi_154 (by decide) h with ⟨x9, rfl, -⟩ | ⟨x9, -, h9⟩ | ⟨x9, o9, -, h9⟩
      · exact Or.inr ⟨x9, rfl⟩
      · cases h9
      · cases h9
  have hcn := amPrm_cn hp hmono
  refine metW (cc := method_3_code) (maxL := 5) (ret := some .int) (hh := [(0, 10, 13, 13)]) (by decide +kernel) rfl ?_
  intro p e s m args below meth c s₁ B hml hv
  obtain ⟨⟨rfl, hrep, hkn, hbs⟩, hkx⟩ := hv
  have hts := atoms_spec (ws := wLo) B.pre
  have htab := vx_table (x := yLo) B (hts _ List.mem_cons_self)
  have hown : s.vm.findClass "SoundAdviceLaw" = some m.cls := findClass_of_methodNamed B.named
  have hbz : b ≤ s.heap.size := Nat.le_trans (Nat.le_add_right _ _) hrep.2.1
  have hw1 : ∀ w ∈ amW, w.before ([vR 11 0, vI x, vI y, vR 150 o].map (amCv b bS)).toArray s = true := fun w hw => hts w (List.mem_cons_of_mem _ hw)
  have Cx : amCx p s m ([vR 11 0, vI x, vI y, vR 150 o].map (amCv b bS)).toArray meth c b bS D dA qLo := ⟨B.exec, B.bytes, hml, hown, hw1, hkn, hbs, hbz, fun hn => absurd hn (by decide)⟩
  have hq9 : ∀ {H : Heap} {locs : List Loc}, amRep b bS D dA s st'' H → va_S (fun a => b ≤ a) s.heap H locs → ∀ t : State, t.heap = H → s.WarmedH t.vm → amQc b bS D dA v st'' ([vR 11 0, vI x, vI y, vR 150 o].map (amCv b bS)).toArray s (.returned (v.map (amCv b bS))) t := fun hR hS t ht hW => ⟨rfl, by rw [ht]; exact hR.alike hW.alike, hS.F ht⟩
  have kret : v ≠ none → (∀ x9, v ≠ some (.inr x9)) → amCont p l e (amRm (d + 2) (amCN st'' - amCN st) (amSN st'' - amSN st)) s m ([vR 11 0, vI x, vI y, vR 150 o].map (amCv b bS)).toArray below meth c (MQ below (amQc b bS D dA v st'') ([vR 11 0, vI x, vI y, vR 150 o].map (amCv b bS)).toArray s (amCN st'' - amCN st) (amSN st'' - amSN st) (fun a => b ≤ a)) b bS D dA qLo (amCN st) (amSN st) (.inr (v, st'')) := by
    intro hv1 hv2 pc ls H locs cells slots hR hS hc hs hret
    dsimp only at hR hc hs hret
    obtain rfl : cells = amCN st'' - amCN st := by omega
    obtain rfl : slots = amSN st'' - amSN st := by omega
    have hq := hq9 hR hS
    match v, hv1, hv2, hret, hq with
    | some (.inl x9), _, _, ⟨hd9, Or.inl hr9⟩, hq => exact W.iret B.exec B.bytes (B.returns.trans hr9) hq hS.2.2 hd9
    | some (.inl x9), _, _, ⟨hd9, Or.inr ⟨hr9, hx9⟩⟩, hq => cases hr9
    | some (.inr x9), _, hv2, _, _ => exact absurd rfl (hv2 x9)
    | none, hv1, _, _, _ => exact absurd rfl hv1
  have hfin : amCN st'' ≤ amCN st'' - amCN st + amCN st ∧ amSN st'' ≤ amSN st'' - amSN st + amSN st := ⟨by omega, by omega⟩
  have hL0 : amEnt qLo [vR 11 0, vI x, vI y, vR 150 o] = [some (vR 11 0), some (vI x), some (vI y), some (vR 150 o), none] := rfl
  have hgo5 : amGoN C0 qLo 5 (0, amEnt qLo [vR 11 0, vI x, vI y, vR 150 o], [], st) = some (5, [some (vR 11 0), some (vI x), some (vI y), some (vR 150 o), none], [vI y, vI x, vR 11 0, vI 0, vR 150 o], st) := by
    rw [hL0]
    rw [goN_s (ins := .aload_n 3) (len := 1) (by decide +kernel) rfl]
    rw [goN_s (ins := .iconst 0) (len := 1) (by decide +kernel) rfl]
    rw [goN_s (ins := .aload_n 0) (len := 1) (by decide +kernel) rfl]
    rw [goN_s (ins := .iload_n 1) (len := 1) (by decide +kernel) rfl]
    rw [goN_s (ins := .iload_n 2) (len := 1) (by decide +kernel) rfl]
    rfl
  have kend : amCont p l e (amRm (d + 2) (amCN st'' - amCN st) (amSN st'' - amSN st)) s m ([vR 11 0, vI x, vI y, vR 150 o].map (amCv b bS)).toArray below meth c (MQ below (amQc b bS D dA v st'') ([vR 11 0, vI x, vI y, vR 150 o].map (amCv b bS)).toArray s (amCN st'' - amCN st) (amSN st'' - amSN st) (fun a => b ≤ a)) b bS D dA qLo (amCN st) (amSN st) (.inl (5, [some (vR 11 0), some (vI x), some (vI y), some (vR 150 o), none], [vI y, vI x, vR 11 0, vI 0, vR 150 o], st)) := by
    intro ls H locs cells slots hl1 hL1 hR hS hc hs
    dsimp only at hl1 hL1 hR hc hs
    obtain rfl : cells = 0 := by omega
    obtain rfl : slots = 0 := by omega
    have hal : amAl st.2.2.2.1 11 0 = true := by
      rw [hfull]
      decide +kernel
    have hpre : ∀ U : State, U.heap = H → s.WarmedH U.vm → amPx b bS D dA [vR 11 0, vI x, vI y] st ([vR 11 0, vI x, vI y].map (amCv b bS)).toArray U := fun U hU hW => ⟨amPre (as := [vR 11 0, vI x, vI y]) hkn hbs hR U hU hW, by
      rw [hU]
      exact (hkx.kept hS.2.1).warm hW⟩
    have hrun : vx_Run p l e (amRm (d + 2) (amCN st'' - amCN st) (amSN st'' - amSN st)) s m ([vR 11 0, vI x, vI y, vR 150 o].map (amCv b bS)).toArray below meth c H locs 0 0 (amCN st' - amCN st + jn r) (amSN st' - amSN st + 6 * jn r) (F0 m 5 ls ([vI y, vI x, vR 11 0, vI 0, vR 150 o].map (amCv b bS))) ([vI 0, vR 150 o].map (amCv b bS)) (amQx b bS D dA r st' ([vR 11 0, vI x, vI y].map (amCv b bS)).toArray) (amXC b bS D dA r st') (fun a => b ≤ a) := by
      refine vx_runV (C := "SoundAdvice") (own := "SoundAdviceLaw") (cc := method_3_code) (nL := 5) (index := 7) (As := [vI x, vI y].map (amCv b bS)) (b := amAd b bS (11, 0)) ⟨B.exec, B.bytes, hml, hown, hw1⟩ hM ⟨callB_of (ws' := amW) 2 hw1 (amWy_good mi_154 (by decide)) rfl rfl rfl (hw1 _ (amW_in xl_in.2.2.1 rfl)) (hw1 _ (amW_in xl_in.1.1 rfl)) (by decide +kernel) ⟨by show d + 3 + 1 ≤ d + 2 + 2; omega, by show 8 + (4 + 11) + (100 * (d + 1) + 200) ≤ 100 * (d + 2) + 200; omega⟩, hw1 _ (amW_in xl_in.1.2.1 rfl), hw1 _ (amW_in xl_in.1.2.2 rfl)⟩ ⟨amPx_blind, cel11 hkn hR hal, hpre⟩ rfl rfl (hl1.1.trans hL1) rfl (by show 2 * 0 + (1 + (1 + 0)) ≤ 8; omega) (show decode method_3_code 5 = .ok (.invokevirtual 7, 3) by decide +kernel) ⟨by show 0 + _ ≤ amCN st'' - amCN st; omega, by show 0 + _ ≤ amSN st'' - amSN st; omega⟩
    have hc2 : 0 + (amCN st' - amCN st + jn r) + amCN st = amCN st'' := by
      have := hcn.1
      have := amCN_prm hp
      omega
    have hs2 : 0 + (amSN st' - amSN st + 6 * jn r) + amSN st = amSN st'' := by
      have := hcn.2
      have := amCN_prm hp
      omega
    refine am_backX hrun hS (fun hne H1 locs1 r1 r2 => ?_) (fun hno H1 locs1 q9 ce r1 r2 hce hcv hcl => ?_)
    · obtain ⟨x9, hr9⟩ := hty.resolve_left hne
      have hp9 := hp
      rw [hr9] at hp9
      obtain ⟨ho9, hv9, hst9⟩ := amPrm_i hp9
      have hj : jn r = 0 := by rw [hr9]; rfl
      have hf1 : st'.2.2.2.1 = amOrc.length := full_of hfull hrep r1 r2.1
      have hrun9 : amRun C0 qLo 8 (8, [some (vR 11 0), some (vI x), some (vI y), some (vR 150 o), none], [vI x9, vI 0, vR 150 o], st') = some (v, st'') := by
        rw [hv9, hst9, ho9]
        clear hp hp9 hst9 hv9 r1 hrun hM hcn hc2 hs2 hmono h
        obtain ⟨M', J', jk', kk', tt', X'⟩ := st'
        obtain rfl : kk' = 149 := hf1
        rw [run_s (ins := .i2l) (len := 1) (by decide +kernel) rfl]
        rw [run_s (ins := .lastore) (len := 1) (by decide +kernel) lst150]
        rw [run_s (ins := .goto 7) (len := 3) (by decide +kernel) rfl]
        rw [run_s (ins := .iconst 0) (len := 1) (by decide +kernel) rfl]
        exact run_e (ins := .ireturn) (len := 1) (by decide +kernel) rfl
      have hgo9 := amSnd_run (c0 := amCN st) (s0 := amSN st) (d := d) (C0_call (d := d)) C0_prim C0_mono (by show d + 3 ≤ d + 2 + 2; omega) (by show 100 * d + 300 ≤ 100 * (d + 2) + 200; omega) Cx hfin (kret (by rw [hv9]; intro z; cases z) (fun x8 z => by rw [hv9] at z; cases z)) 8 _ hrun9
      rw [hr9]
      exact hgo9 ls H1 locs1 _ _ hl1 hL1 r1 r2 (by dsimp only; have := hmono.1; show 0 + (amCN st' - amCN st + 0) + amCN st = amCN st'; omega) (by dsimp only; have := hmono.2; show 0 + (amSN st' - amSN st + 6 * 0) + amSN st = amSN st'; omega)
    · have hp9 := hp
      rw [hno] at hp9
      obtain ⟨hv9, hst9⟩ := amPrm_n hp9
      refine vx_catch (own := "SoundAdviceLaw") (name := nse) (E := nse) hown [] ⟨0, 10, 13, 13⟩ [] htab (fun z hz => nomatch hz) rfl (by decide) (hw1 _ (amW_in xl_in.2.2.2 rfl)) (va_tabs rfl rfl (hkx.1 _ (by simp [xN]))) hce hcv hcl ?_
      refine lv_astore (x := q9) (i := 4) (nL := 5) (cc := method_3_code) B.exec B.bytes (by decide +kernel) (hl1.has hL1) (by decide) rfl (fun ls' hl' => ?_)
      have hl2 : amLR b bS ls' [some (vR 11 0), some (vI x), some (vI y), some (vR 150 o), none] := by
        refine ⟨hl'.1, hl'.2.1, fun i w hw => hl'.2.2 (i, amCv b bS w) (List.mem_cons_of_mem _ (List.mem_filter.mpr ⟨amKl2_in hw, ?_⟩))⟩
        match i, hw with
        | 0, hw => cases hw; rfl
        | 1, hw => cases hw; rfl
        | 2, hw => cases hw; rfl
        | 3, hw => cases hw; rfl
        | 4, hw => cases hw
        | i + 5, hw => cases hw
      have hrun9 : amRun C0 qLo 3 (15, [some (vR 11 0), some (vI x), some (vI y), some (vR 150 o), none], [], st'') = some (v, st'') := by
        rw [hv9, run_s (ins := .iconst 1) (len := 1) (by decide +kernel) rfl]
        exact run_e (ins := .ireturn) (len := 1) (by decide +kernel) rfl
      have hR9 : amRep b bS D dA s st'' H1 := by
        rw [hst9]
        exact r1
      exact amSnd_run (c0 := amCN st) (s0 := amSN st) (d := d) (C0_call (d := d)) C0_prim C0_mono (by show d + 3 ≤ d + 2 + 2; omega) (by show 100 * d + 300 ≤ 100 * (d + 2) + 200; omega) Cx hfin (kret (by rw [hv9]; intro z; cases z) (fun x8 z => by rw [hv9] at z; cases z)) 3 _ hrun9 ls' H1 locs1 _ _ hl2 rfl hR9 r2 hc2 hs2
  have hgo := amSnd_goN (c0 := amCN st) (s0 := amSN st) (d := d) (C0_call (d := d)) C0_prim C0_mono (by show d + 3 ≤ d + 2 + 2; omega) (by show 100 * d + 300 ≤ 100 * (d + 2) + 200; omega) Cx 5 _ _ hgo5 ⟨by show amCN st ≤ _; omega, by show amSN st ≤ _; omega⟩ kend
  rw [lg_entry_eq]
  exact hgo _ s.heap [] 0 0 (amEnt_ok (q := qLo) (as := [vR 11 0, vI x, vI y, vR 150 o]) (Nat.le_of_ble_eq_true rfl)) (amEnt_len (q := qLo) (as := [vR 11 0, vI x, vI y, vR 150 o]) (Nat.le_of_ble_eq_true rfl)) hrep va_S.rf (Nat.zero_add _) (Nat.zero_add _)
theorem amL_row {l : Launch} (hl : l.stackTraces = false) {b bS : Nat} {D : va_G} {dA : FieldType → ClassId} {n d : Nat} {x : Int32} {st st' st'' : amS} {r v : Option amV} {o : Nat} (hd3 : 3 ≤ d) (hfull : st.2.2.2.1 = amOrc.length) (h : amEx (d + 1) n 155 [vR 11 0, vI x] st = some (r, st')) (hp : amPrm (some (r, st')) o = some (v, st'')) :
    Met l yLr wLr (amRm (d + 2) (amCN st'' - amCN st) (amSN st'' - amSN st)) (amPx b bS D dA [vR 11 0, vI x, vR 150 o] st) (amQc b bS D dA v st'') (amCN st'' - amCN st) (amSN st'' - amSN st) (fun a => b ≤ a) := by
  have hmono := amEx_mono (d + 1) n 155 [vR 11 0, vI x] st r st' h
  have hM := amSnd_x hl (b := b) (bS := bS) (D := D) (dA := dA) mi_155 (Or.inr rfl) hd3 hfull h
  have hty : r = none ∨ ∃ x9, r = some (.inr (.inl x9)) := by
    cases r with
    | none => exact Or.inl rfl
    | some w =>
      rcases amEx_ty mi_155 (by decide) h with ⟨x9, -, h9⟩ | ⟨x9, rfl, -⟩ | ⟨x9, o9, -, h9⟩
      · rcases h9 with h9 | h9 <;> cases h9
      · exact Or.inr ⟨x9, rfl⟩
      · cases h9
  have hcn := amPrm_cn hp hmono
  refine metW (cc := method_4_code) (maxL := 4) (ret := some .int) (hh := [(0, 8, 11, 13)]) (by decide +kernel) rfl ?_
  intro p e s m args below meth c s₁ B hml hv
  obtain ⟨⟨rfl, hrep, hkn, hbs⟩, hkx⟩ := hv
  have hts := atoms_spec (ws := wLr) B.pre
  have htab := vx_table (x := yLr) B (hts _ List.mem_cons_self)
  have hown : s.vm.findClass "SoundAdviceLaw" = some m.cls := findClass_of_methodNamed B.named
  have hbz : b ≤ s.heap.size := Nat.le_trans (Nat.le_add_right _ _) hrep.2.1
  have hw1 : ∀ w ∈ amW, w.before ([vR 11 0, vI x, vR 150 o].map (amCv b bS)).toArray s = true := fun w hw => hts w (List.mem_cons_of_mem _ hw)
  have Cx : amCx p s m ([vR 11 0, vI x, vR 150 o].map (amCv b bS)).toArray meth c b bS D dA qLr := ⟨B.exec, B.bytes, hml, hown, hw1, hkn, hbs, hbz, fun hn => absurd hn (by decide)⟩
  have hq9 : ∀ {H : Heap} {locs : List Loc}, amRep b bS D dA s st'' H → va_S (fun a => b ≤ a) s.heap H locs → ∀ t : State, t.heap = H → s.WarmedH t.vm → amQc b bS D dA v st'' ([vR 11 0, vI x, vR 150 o].map (amCv b bS)).toArray s (.returned (v.map (amCv b bS))) t := fun hR hS t ht hW => ⟨rfl, by rw [ht]; exact hR.alike hW.alike, hS.F ht⟩
  have kret : v ≠ none → (∀ x9, v ≠ some (.inr x9)) → amCont p l e (amRm (d + 2) (amCN st'' - amCN st) (amSN st'' - amSN st)) s m ([vR 11 0, vI x, vR 150 o].map (amCv b bS)).toArray below meth c (MQ below (amQc b bS D dA v st'') ([vR 11 0, vI x, vR 150 o].map (amCv b bS)).toArray s (amCN st'' - amCN st) (amSN st'' - amSN st) (fun a => b ≤ a)) b bS D dA qLr (amCN st) (amSN st) (.inr (v, st'')) := by
    intro hv1 hv2 pc ls H locs cells slots hR hS hc hs hret
    dsimp only at hR hc hs hret
    obtain rfl : cells = amCN st'' - amCN st := by omega
    obtain rfl : slots = amSN st'' - amSN st := by omega
    have hq := hq9 hR hS
    match v, hv1, hv2, hret, hq with
    | some (.inl x9), _, _, ⟨hd9, Or.inl hr9⟩, hq => exact W.iret B.exec B.bytes (B.returns.trans hr9) hq hS.2.2 hd9
    | some (.inl x9), _, _, ⟨hd9, Or.inr ⟨hr9, hx9⟩⟩, hq => cases hr9
    | some (.inr x9), _, hv2, _, _ => exact absurd rfl (hv2 x9)
    | none, hv1, _, _, _ => exact absurd rfl hv1
  have hfin : amCN st'' ≤ amCN st'' - amCN st + amCN st ∧ amSN st'' ≤ amSN st'' - amSN st + amSN st := ⟨by omega, by omega⟩
  have hL0 : amEnt qLr [vR 11 0, vI x, vR 150 o] = [some (vR 11 0), some (vI x), some (vR 150 o), none] := rfl
  have hgo5 : amGoN C0 qLr 4 (0, amEnt qLr [vR 11 0, vI x, vR 150 o], [], st) = some (4, [some (vR 11 0), some (vI x), some (vR 150 o), none], [vI x, vR 11 0, vI 0, vR 150 o], st) := by
    rw [hL0]
    rw [goN_s (ins := .aload_n 2) (len := 1) (by decide +kernel) rfl]
    rw [goN_s (ins := .iconst 0) (len := 1) (by decide +kernel) rfl]
    rw [goN_s (ins := .aload_n 0) (len := 1) (by decide +kernel) rfl]
    rw [goN_s (ins := .iload_n 1) (len := 1) (by decide +kernel) rfl]
    rfl
  have kend : amCont p l e (amRm (d + 2) (amCN st'' - amCN st) (amSN st'' - amSN st)) s m ([vR 11 0, vI x, vR 150 o].map (amCv b bS)).toArray below meth c (MQ below (amQc b bS D dA v st'') ([vR 11 0, vI x, vR 150 o].map (amCv b bS)).toArray s (amCN st'' - amCN st) (amSN st'' - amSN st) (fun a => b ≤ a)) b bS D dA qLr (amCN st) (amSN st) (.inl (4, [some (vR 11 0), some (vI x), some (vR 150 o), none], [vI x, vR 11 0, vI 0, vR 150 o], st)) := by
    intro ls H locs cells slots hl1 hL1 hR hS hc hs
    dsimp only at hl1 hL1 hR hc hs
    obtain rfl : cells = 0 := by omega
    obtain rfl : slots = 0 := by omega
    have hal : amAl st.2.2.2.1 11 0 = true := by
      rw [hfull]
      decide +kernel
    have hpre : ∀ U : State, U.heap = H → s.WarmedH U.vm → amPx b bS D dA [vR 11 0, vI x] st ([vR 11 0, vI x].map (amCv b bS)).toArray U := fun U hU hW => ⟨amPre (as := [vR 11 0, vI x]) hkn hbs hR U hU hW, by
      rw [hU]
      exact (hkx.kept hS.2.1).warm hW⟩
    have hrun : vx_Run p l e (amRm (d + 2) (amCN st'' - amCN st) (amSN st'' - amSN st)) s m ([vR 11 0, vI x, vR 150 o].map (amCv b bS)).toArray below meth c H locs 0 0 (amCN st' - amCN st + jn r) (amSN st' - amSN st + 6 * jn r) (F0 m 4 ls ([vI x, vR 11 0, vI 0, vR 150 o].map (amCv b bS))) ([vI 0, vR 150 o].map (amCv b bS)) (amQx b bS D dA r st' ([vR 11 0, vI x].map (amCv b bS)).toArray) (amXC b bS D dA r st') (fun a => b ≤ a) := by
      refine vx_runV (C := "SoundAdvice") (own := "SoundAdviceLaw") (cc := method_4_code) (nL := 4) (index := 15) (As := [vI x].map (amCv b bS)) (b := amAd b bS (11, 0)) ⟨B.exec, B.bytes, hml, hown, hw1⟩ hM ⟨callB_of (ws' := amW) 1 hw1 (amWy_good mi_155 (by decide)) rfl rfl rfl (hw1 _ (amW_in xl_in.2.2.1 rfl)) (hw1 _ (amW_in xl_in.2.1.1 rfl)) (by decide +kernel) ⟨by show d + 3 + 1 ≤ d + 2 + 2; omega, by show 8 + (2 + 11) + (100 * (d + 1) + 200) ≤ 100 * (d + 2) + 200; omega⟩, hw1 _ (amW_in xl_in.2.1.2.1 rfl), hw1 _ (amW_in xl_in.2.1.2.2 rfl)⟩ ⟨amPx_blind, cel11 hkn hR hal, hpre⟩ rfl rfl (hl1.1.trans hL1) rfl (by show 2 * 0 + (1 + (1 + 0)) ≤ 8; omega) (show decode method_4_code 4 = .ok (.invokevirtual 15, 3) by decide +kernel) ⟨by show 0 + _ ≤ amCN st'' - amCN st; omega, by show 0 + _ ≤ amSN st'' - amSN st; omega⟩
    have hc2 : 0 + (amCN st' - amCN st + jn r) + amCN st = amCN st'' := by
      have := hcn.1
      have := amCN_prm hp
      omega
    have hs2 : 0 + (amSN st' - amSN st + 6 * jn r) + amSN st = amSN st'' := by
      have := hcn.2
      have := amCN_prm hp
      omega
    refine am_backX hrun hS (fun hne H1 locs1 r1 r2 => ?_) (fun hno H1 locs1 q9 ce r1 r2 hce hcv hcl => ?_)
    · obtain ⟨x9, hr9⟩ := hty.resolve_left hne
      have hp9 := hp
      rw [hr9] at hp9
      obtain ⟨ho9, hv9, hst9⟩ := amPrm_l hp9
      have hj : jn r = 0 := by rw [hr9]; rfl
      have hf1 : st'.2.2.2.1 = amOrc.length := full_of hfull hrep r1 r2.1
      have hrun9 : amRun C0 qLr 8 (7, [some (vR 11 0), some (vI x), some (vR 150 o), none], [vL x9, vI 0, vR 150 o], st') = some (v, st'') := by
        rw [hv9, hst9, ho9]
        clear hp hp9 hst9 hv9 r1 hrun hM hcn hc2 hs2 hmono h
        obtain ⟨M', J', jk', kk', tt', X'⟩ := st'
        obtain rfl : kk' = 149 := hf1
        rw [run_s (ins := .lastore) (len := 1) (by decide +kernel) lst150]
        rw [run_s (ins := .goto 6) (len := 3) (by decide +kernel) rfl]
        rw [run_s (ins := .iconst 0) (len := 1) (by decide +kernel) rfl]
        exact run_e (ins := .ireturn) (len := 1) (by decide +kernel) rfl
      have hgo9 := amSnd_run (c0 := amCN st) (s0 := amSN st) (d := d) (C0_call (d := d)) C0_prim C0_mono (by show d + 3 ≤ d + 2 + 2; omega) (by show 100 * d + 300 ≤ 100 * (d + 2) + 200; omega) Cx hfin (kret (by rw [hv9]; intro z; cases z) (fun x8 z => by rw [hv9] at z; cases z)) 8 _ hrun9
      rw [hr9]
      exact hgo9 ls H1 locs1 _ _ hl1 hL1 r1 r2 (by dsimp only; have := hmono.1; show 0 + (amCN st' - amCN st + 0) + amCN st = amCN st'; omega) (by dsimp only; have := hmono.2; show 0 + (amSN st' - amSN st + 6 * 0) + amSN st = amSN st'; omega)
    · have hp9 := hp
      rw [hno] at hp9
      obtain ⟨hv9, hst9⟩ := amPrm_n hp9
      refine vx_catch (own := "SoundAdviceLaw") (name := nse) (E := nse) hown [] ⟨0, 8, 11, 13⟩ [] htab (fun z hz => nomatch hz) rfl (by decide) (hw1 _ (amW_in xl_in.2.2.2 rfl)) (va_tabs rfl rfl (hkx.1 _ (by simp [xN]))) hce hcv hcl ?_
      refine lv_astore_n (x := q9) (nL := 4) (cc := method_4_code) (i := 3) B.exec B.bytes (show decode method_4_code 11 = .ok (.astore_n (3 : Fin 4), 1) by decide +kernel) rfl (hl1.has hL1) (by decide) rfl (fun ls' hl' => ?_)
      have hl2 : amLR b bS ls' [some (vR 11 0), some (vI x), some (vR 150 o), none] := by
        refine ⟨hl'.1, hl'.2.1, fun i w hw => hl'.2.2 (i, amCv b bS w) (List.mem_cons_of_mem _ (List.mem_filter.mpr ⟨amKl2_in hw, ?_⟩))⟩
        match i, hw with
        | 0, hw => cases hw; rfl
        | 1, hw => cases hw; rfl
        | 2, hw => cases hw; rfl
        | 3, hw => cases hw
        | i + 4, hw => cases hw
      have hrun9 : amRun C0 qLr 3 (12, [some (vR 11 0), some (vI x), some (vR 150 o), none], [], st'') = some (v, st'') := by
        rw [hv9, run_s (ins := .iconst 1) (len := 1) (by decide +kernel) rfl]
        exact run_e (ins := .ireturn) (len := 1) (by decide +kernel) rfl
      have hR9 : amRep b bS D dA s st'' H1 := by
        rw [hst9]
        exact r1
      exact amSnd_run (c0 := amCN st) (s0 := amSN st) (d := d) (C0_call (d := d)) C0_prim C0_mono (by show d + 3 ≤ d + 2 + 2; omega) (by show 100 * d + 300 ≤ 100 * (d + 2) + 200; omega) Cx hfin (kret (by rw [hv9]; intro z; cases z) (fun x8 z => by rw [hv9] at z; cases z)) 3 _ hrun9 ls' H1 locs1 _ _ hl2 rfl hR9 r2 hc2 hs2
  have hgo := amSnd_goN (c0 := amCN st) (s0 := amSN st) (d := d) (C0_call (d := d)) C0_prim C0_mono (by show d + 3 ≤ d + 2 + 2; omega) (by show 100 * d + 300 ≤ 100 * (d + 2) + 200; omega) Cx 4 _ _ hgo5 ⟨by show amCN st ≤ _; omega, by show amSN st ≤ _; omega⟩ kend
  rw [lg_entry_eq]
  exact hgo _ s.heap [] 0 0 (amEnt_ok (q := qLr) (as := [vR 11 0, vI x, vR 150 o]) (Nat.le_of_ble_eq_true rfl)) (amEnt_len (q := qLr) (as := [vR 11 0, vI x, vR 150 o]) (Nat.le_of_ble_eq_true rfl)) hrep va_S.rf (Nat.zero_add _) (Nat.zero_add _)
