/-! of, row of the class: they return or throw -/
def amKx (b : Nat) (U : State) (H : Heap) : Prop := (∀ w ∈ xN, va_Nw w U) ∧ (∃ sa, vk_R "SoundAdvice" 179 "no such profile" sa U) ∧ (∃ sa, vk_R "SoundAdvice" 184 "no such player" sa U) ∧ (∃ sa, vk_R "SoundAdvice" 418 "no such number" sa U) ∧ vx_Zq Bundle.tN "UNASSIGNED_STACK" Bundle.steD (fun a => b ≤ a) U H ∧ vx_Zq Bundle.tN "SUPPRESSED_SENTINEL" Bundle.listD (fun a => b ≤ a) U H
theorem xN_warm {s U : State} (hW : s.WarmedH U.vm) (h : ∀ w ∈ xN, va_Nw w s) : ∀ w ∈ xN, va_Nw w U := by
  intro w hw
  have h1 := h w hw
  simp only [xN, List.mem_cons, List.not_mem_nil, or_false] at hw
  rcases hw with rfl | rfl | rfl | rfl
  · exact va_Nw.warmD hW h1
  · exact va_Nw.warmD hW h1
  · exact va_Nw.warmD hW h1
  · exact va_Nw.warmC hW h1
theorem xN_same {s U : State} (hv : s.vm = U.vm) (h : ∀ w ∈ xN, va_Nw w s) : ∀ w ∈ xN, va_Nw w U := by
  intro w hw
  have h1 := h w hw
  simp only [xN, List.mem_cons, List.not_mem_nil, or_false] at hw
  rcases hw with rfl | rfl | rfl | rfl
  · exact va_Nw.same rfl hv h1
  · exact va_Nw.same rfl hv h1
  · exact va_Nw.same rfl hv h1
  · exact va_Nw.same rfl hv h1
theorem amKx.warm {b : Nat} {s U : State} {H : Heap} (hW : s.WarmedH U.vm) (h : amKx b s H) : amKx b U H := by
  obtain ⟨h1, ⟨a2, h2⟩, ⟨a3, h3⟩, ⟨a4, h4⟩, h5, h6⟩ := h
  exact ⟨xN_warm hW h1, ⟨a2, vk_R.warm hW h2⟩, ⟨a3, vk_R.warm hW h3⟩, ⟨a4, vk_R.warm hW h4⟩, vx_Zq.moved hW.alike h5, vx_Zq.moved hW.alike h6⟩
theorem amKx.kept {b : Nat} {s : State} {H H1 : Heap} (h : amKx b s H) (hq : ∀ a : Nat, a < H.size → ¬ b ≤ a → H1[a]? = H[a]?) : amKx b s H1 := ⟨h.1, h.2.1, h.2.2.1, h.2.2.2.1, h.2.2.2.2.1.kept hq, h.2.2.2.2.2.kept hq⟩
def amPx (b bS : Nat) (D : va_G) (dA : FieldType → ClassId) (as : List amV) (st : amS) : Array Value → State → Prop := fun v U => amPc b bS D dA as st v U ∧ amKx b U U.heap
theorem amPx_blind {b bS : Nat} {D : va_G} {dA : FieldType → ClassId} {as : List amV} {st : amS} : FrameBlind (amPx b bS D dA as st) := fun a U g mk h => ⟨amPc_blind a U g mk h.1, by
  obtain ⟨h1, ⟨a2, h2⟩, ⟨a3, h3⟩, ⟨a4, h4⟩, h5, h6⟩ := h.2
  exact ⟨xN_same (s := U) (U := U.calling g mk a) rfl h1, ⟨a2, vk_R.same (u := U) (U := U.calling g mk a) rfl h2⟩, ⟨a3, vk_R.same (u := U) (U := U.calling g mk a) rfl h3⟩, ⟨a4, vk_R.same (u := U) (U := U.calling g mk a) rfl h4⟩, vx_Zq.moved (u := U) (U := U.calling g mk a) (Vm.Alike.refl U.vm) h5, vx_Zq.moved (u := U) (U := U.calling g mk a) (Vm.Alike.refl U.vm) h6⟩⟩
def jn : Option amV → Nat
  | none => 1
  | some _ => 0
def amXC (b bS : Nat) (D : va_G) (dA : FieldType → ClassId) (r : Option amV) (st' : amS) : String → State → State → Prop := vx_X (S := Unit) (fun _ => r = none) (fun E _ t => E = nse ∧ amRep b bS D dA t st' t.heap) (fun a => b ≤ a)
def amQx (b bS : Nat) (D : va_G) (dA : FieldType → ClassId) (r : Option amV) (st' : amS) : Array Value → State → Outcome → State → Prop := fun a u o t => r ≠ none ∧ amQc b bS D dA r st' a u o t
theorem amRep_ext {b bS : Nat} {D : va_G} {dA : FieldType → ClassId} {s t : State} {st : amS} {H : Heap} (hbs : bS < b) (hf : st.2.2.2.1 = amOrc.length) (hR : amRep b bS D dA s st H) (hvm : s.vm.Alike t.vm) (hz : H.size ≤ t.heap.size) (hq : ∀ q : Nat, q < H.size → t.heap[q]? = H[q]?) : amRep b bS D dA t st t.heap := by
  obtain ⟨h1, h2, h3, h4, h5⟩ := hR
  refine ⟨fun k z hk => (h1 k z hk).kept (hq _ (h1 k z hk).lt), by omega, fun z => by omega, h4, fun h9 => ((h5 h9).kept (hq bS (by omega))).moved hvm⟩
theorem xk_in : Cond.classLink "SoundAdvice" 177 nse ∈ lw_tbl ∧ Cond.initialized nse ∈ lw_tbl := ⟨List.mem_of_getElem? (i := 1063) (by decide +kernel), List.mem_of_getElem? (i := 125) (by decide +kernel)⟩
theorem d154 : (decode prog_1_method_10_code 11 = .ok (.new 177, 3) ∧ decode prog_1_method_10_code 14 = .ok (.dup, 1) ∧ decode prog_1_method_10_code 15 = .ok (.ldc 179, 2) ∧ decode prog_1_method_10_code 17 = .ok (.invokespecial 181, 3) ∧ decode prog_1_method_10_code 20 = .ok (.athrow, 1)) ∧ (decode prog_1_method_10_code 60 = .ok (.new 177, 3) ∧ decode prog_1_method_10_code 63 = .ok (.dup, 1) ∧ decode prog_1_method_10_code 64 = .ok (.ldc 184, 2) ∧ decode prog_1_method_10_code 66 = .ok (.invokespecial 181, 3) ∧ decode prog_1_method_10_code 69 = .ok (.athrow, 1)) := by decide +kernel
theorem d155 : decode prog_1_method_57_code 15 = .ok (.new 177, 3) ∧ decode prog_1_method_57_code 18 = .ok (.dup, 1) ∧ decode prog_1_method_57_code 19 = .ok (.ldc_w 418, 3) ∧ decode prog_1_method_57_code 22 = .ok (.invokespecial 181, 3) ∧ decode prog_1_method_57_code 25 = .ok (.athrow, 1) := by decide +kernel
theorem amSnd_x {l : Launch} (hl : l.stackTraces = false) {b bS : Nat} {D : va_G} {dA : FieldType → ClassId} {n d y : Nat} {q : amInf} {as : List amV} {st st' : amS} {r : Option amV} (hq : amMi[y]? = some q) (hy : y = 154 ∨ y = 155) (hd3 : 3 ≤ d) (hfull : st.2.2.2.1 = amOrc.length) (h : amEx (d + 1) n y as st = some (r, st')) :
    vx_Met l q.1 (amWy q) (amRm (d + 1) (amCN st' - amCN st + jn r) (amSN st' - amSN st + 6 * jn r)) (amPx b bS D dA as st) (amQx b bS D dA r st') (amXC b bS D dA r st') (amCN st' - amCN st + jn r) (amSN st' - amSN st + 6 * jn r) (fun a => b ≤ a) := by
  have hmono := amEx_mono (d + 1) n y as st r st' h
  have hy2 : y < 273 := by omega
  have hcase : (y = 154 ∧ q = (⟨"SoundAdvice", "of", "(II)I"⟩, prog_1_method_10_code, 4, (some .int), 11, 2)) ∨ (y = 155 ∧ q = (⟨"SoundAdvice", "row", "(I)J"⟩, prog_1_method_57_code, 2, (some .long), 11, 1)) := by
    rcases hy with rfl | rfl
    · exact Or.inl ⟨rfl, Option.some.inj (hq.symm.trans mi_154)⟩
    · exact Or.inr ⟨rfl, Option.some.inj (hq.symm.trans mi_155)⟩
  have h11 : q.2.2.2.2.1 = 11 := by rcases hcase with ⟨-, rfl⟩ | ⟨-, rfl⟩ <;> rfl
  have hret : q.2.2.2.1 ≠ none := by rcases hcase with ⟨-, rfl⟩ | ⟨-, rfl⟩ <;> (intro z; cases z)
  unfold amEx at h
  rw [decide_eq_false (show ¬ 274 ≤ y by omega), hq] at h
  simp only [cond_false] at h
  cases hcc : decide ((amArgs as).length ≤ q.2.2.1) with
  | false => rw [hcc] at h; cases h
  | true =>
    rw [hcc] at h
    have h : amRun (amEx d n) q n (0, amEnt q as, [], st) = some (r, st') := h
    have hlen : (amArgs as).length ≤ q.2.2.1 := of_decide_eq_true hcc
    obtain ⟨-, -, hcls, hplain⟩ := amMi_ok hq
    refine vx_ofW (cc := q.2.1) (maxL := q.2.2.1) (ret := q.2.2.2.1) (hplain (by omega)) rfl ?_
    intro p e s m args below meth c s₁ B hml htab hv
    obtain ⟨⟨rfl, hrep, hkn, hbs⟩, hkx⟩ := hv
    have hts := atoms_spec (ws := amWy q) B.pre
    have hown : s.vm.findClass (amOwn q.2.2.2.2.1) = some m.cls := by rw [← hcls]; exact findClass_of_methodNamed B.named
    have hlocks : meth.locks = false := B.notSynchronized
    have hbz : b ≤ s.heap.size := Nat.le_trans (Nat.le_add_right _ _) hrep.2.1
    have Cx : amCx p s m (as.map (amCv b bS)).toArray meth c b bS D dA q := ⟨B.exec, B.bytes, hml, hown, fun w hw => hts w (List.mem_cons_of_mem _ hw), hkn, hbs, hbz, fun hn => by rw [(name_of_methodNamed B.named B.method).1]; exact hn⟩
    have hw1 : ∀ w ∈ amW, w.before (as.map (amCv b bS)).toArray s = true := fun w hw => hts w (List.mem_cons_of_mem _ hw)
    have HP : ∀ R, amPrimOk p l e R s m (as.map (amCv b bS)).toArray below meth c b bS D dA q (amEx d n) := fun R y2 idx2 pc2 qy L2 S2 st2 st3 v2 ls2 H2 locs2 c2 s2 hm2 hq2 => absurd ((amNest hm2 hq2).2.2.1 rfl) (by omega)
    cases r with
    | some v =>
      have kret : amCont p l e (amRm (d + 1) (amCN st' - amCN st + jn (some v)) (amSN st' - amSN st + 6 * jn (some v))) s m (as.map (amCv b bS)).toArray below meth c (vx_MQ below (amQx b bS D dA (some v) st') (amXC b bS D dA (some v) st') (as.map (amCv b bS)).toArray s (amCN st' - amCN st + jn (some v)) (amSN st' - amSN st + 6 * jn (some v)) (fun a => b ≤ a)) b bS D dA q (amCN st) (amSN st) (.inr (some v, st')) := by
        intro pc ls H locs cells slots hR hS hc hs hret
        dsimp only at hR hc hs hret
        obtain rfl : cells = amCN st' - amCN st := by omega
        obtain rfl : slots = amSN st' - amSN st := by omega
        have hq9 : ∀ t : State, t.heap = H → s.WarmedH t.vm → amQx b bS D dA (some v) st' (as.map (amCv b bS)).toArray s (.returned ((some v).map (amCv b bS))) t := fun t ht hW => ⟨fun z => (by cases z), rfl, by rw [ht]; exact hR.alike hW.alike, hS.F ht⟩
        refine vx_ret ?_
        match v, hret, hq9 with
        | .inl x, ⟨hd9, Or.inl hr9⟩, hq9 => exact W.iret B.exec B.bytes (B.returns.trans hr9) hq9 hS.2.2 hd9
        | .inl x, ⟨hd9, Or.inr ⟨hr9, hx9⟩⟩, hq9 => exact W.zret (ty := .boolean) B.exec B.bytes (B.returns.trans hr9) (by rcases hx9 with rfl | rfl <;> rfl) hq9 hS.2.2 hd9
        | .inr (.inl x), ⟨hd9, hr9⟩, hq9 => exact W.lret B.exec B.bytes (B.returns.trans hr9) hq9 hS.2.2 hd9
        | .inr (.inr x), ⟨hd9, z, hr9⟩, hq9 => exact W.aret B.exec B.bytes (B.returns.trans hr9) (Or.inl ⟨z, rfl⟩) (Or.inr ⟨_, rfl⟩) hq9 hS.2.2 hd9
      have hgo := amSnd_run (c0 := amCN st) (s0 := amSN st) (amSnd_ex (l := l) (b := b) (bS := bS) (D := D) (dA := dA) n d) (HP _) (amEx_mono d n) (by show d + 3 ≤ d + 1 + 2; omega) (by show 100 * d + 300 ≤ 100 * (d + 1) + 200; omega) Cx ⟨by show amCN st' ≤ amCN st' - amCN st + 0 + amCN st; omega, by show amSN st' ≤ amSN st' - amSN st + 6 * 0 + amSN st; omega⟩ kret n _ h
      rw [lg_entry_eq]
      exact hgo _ s.heap [] 0 0 (amEnt_ok hlen) (amEnt_len hlen) hrep va_S.rf (Nat.zero_add _) (Nat.zero_add _)
    | none =>
      obtain ⟨k, ⟨pc, L1, S1, st1⟩, ins, len, hgoN, hdec, hstep⟩ := amRun_last n _ h
      dsimp only at hdec hstep
      obtain ⟨⟨kk, rfl, rfl⟩, rfl, rfl, -⟩ := (amStep_none hstep).resolve_left hret
      have kend : amCont p l e (amRm (d + 1) (amCN st' - amCN st + jn none) (amSN st' - amSN st + 6 * jn none)) s m (as.map (amCv b bS)).toArray below meth c (vx_MQ below (amQx b bS D dA none st') (amXC b bS D dA none st') (as.map (amCv b bS)).toArray s (amCN st' - amCN st + jn none) (amSN st' - amSN st + 6 * jn none) (fun a => b ≤ a)) b bS D dA q (amCN st) (amSN st) (.inl (pc, L1, [], st')) := by
        intro ls H locs cells slots hl1 hL1 hR hS hc hs
        dsimp only at hl1 hL1 hR hc hs
        obtain rfl : cells = amCN st' - amCN st := by omega
        obtain rfl : slots = amSN st' - amSN st := by omega
        obtain ⟨n1, ⟨a2, n2⟩, ⟨a3, n3⟩, ⟨a4, n4⟩, n5, n6⟩ := hkx
        have hat := xW_hat hw1 (fun w hw => va_tabs (by
          simp only [xN, List.mem_cons, List.not_mem_nil, or_false] at hw
          rcases hw with rfl | rfl | rfl | rfl <;> rfl) rfl (n1 w hw))
        have hk' := hw1 _ (amW_in xk_in.1 rfl)
        have hi' := hw1 _ (amW_in xk_in.2 rfl)
        have hown' : s.vm.findClass "SoundAdvice" = some m.cls := by
          rw [h11] at hown
          exact hown
        have hls : ls.size = c.maxLocals := by rw [hml, hl1.1, hL1]
        have hfull' : st'.2.2.2.1 = amOrc.length := by
          have z1 := hR.2.2.1
          have z2 := hR.2.2.2.1
          have z3 := hS.1
          have z4 := hrep.2.1
          refine Classical.byContradiction (fun z => ?_)
          have z5 := z1 (by omega)
          omega
        have hx9 : ∀ t : State, s.vm.Alike t.vm → H.size ≤ t.heap.size → (∀ q : Nat, q < H.size → t.heap[q]? = H[q]?) → amXC b bS D dA none st' nse s t := fun t t1 t2 t3 => ⟨(), rfl, ⟨rfl, amRep_ext hbs hfull' hR t1 t2 t3⟩, ⟨Nat.le_trans hS.1 t2, fun q9 h1 h2 => by rw [t3 q9 (Nat.lt_of_lt_of_le h1 hS.1)]; exact hS.2.1 q9 h1 h2⟩⟩
        rcases hcase with ⟨-, rfl⟩ | ⟨-, rfl⟩
        · have hpc := new154 pc (Nat.lt_of_lt_of_le (dec_lt hdec) sz154) kk hdec
          rcases hpc with rfl | rfl
          · exact thrX (k := 6) B.exec B.bytes hl hown' hk' hi' n2 hat n5 n6 hS hls d154.1.1 d154.1.2.1 (Or.inl ⟨d154.1.2.2.1, rfl⟩) d154.1.2.2.2.1 d154.1.2.2.2.2 (fun x hx => (htab x hx).elim) (by show 5 < d + 1 + 2; omega) (by show 0 + 82 ≤ 100 * (d + 1) + 200; omega) (by show _ ≤ amCN st' - amCN st + 1; omega) (by show _ ≤ amSN st' - amSN st + 6 * 1; omega) hlocks hx9 hS.2.2 (by show _ ≤ amCN st' - amCN st + 1; omega) (by show _ ≤ amSN st' - amSN st + 6 * 1; omega)
          · exact thrX (k := 6) B.exec B.bytes hl hown' hk' hi' n3 hat n5 n6 hS hls d154.2.1 d154.2.2.1 (Or.inl ⟨d154.2.2.2.1, rfl⟩) d154.2.2.2.2.1 d154.2.2.2.2.2 (fun x hx => (htab x hx).elim) (by show 5 < d + 1 + 2; omega) (by show 0 + 82 ≤ 100 * (d + 1) + 200; omega) (by show _ ≤ amCN st' - amCN st + 1; omega) (by show _ ≤ amSN st' - amSN st + 6 * 1; omega) hlocks hx9 hS.2.2 (by show _ ≤ amCN st' - amCN st + 1; omega) (by show _ ≤ amSN st' - amSN st + 6 * 1; omega)
        · have hpc := new155 pc (Nat.lt_of_lt_of_le (dec_lt hdec) sz155) kk hdec
          subst hpc
          exact thrX (k := 7) B.exec B.bytes hl hown' hk' hi' n4 hat n5 n6 hS hls d155.1 d155.2.1 (Or.inr ⟨d155.2.2.1, rfl⟩) d155.2.2.2.1 d155.2.2.2.2 (fun x hx => (htab x hx).elim) (by show 5 < d + 1 + 2; omega) (by show 0 + 82 ≤ 100 * (d + 1) + 200; omega) (by show _ ≤ amCN st' - amCN st + 1; omega) (by show _ ≤ amSN st' - amSN st + 6 * 1; omega) hlocks hx9 hS.2.2 (by show _ ≤ amCN st' - amCN st + 1; omega) (by show _ ≤ amSN st' - amSN st + 6 * 1; omega)
      have hgo := amSnd_goN (c0 := amCN st) (s0 := amSN st) (amSnd_ex (l := l) (b := b) (bS := bS) (D := D) (dA := dA) n d) (HP _) (amEx_mono d n) (by show d + 3 ≤ d + 1 + 2; omega) (by show 100 * d + 300 ≤ 100 * (d + 1) + 200; omega) Cx k _ _ hgoN ⟨by show amCN st' ≤ amCN st' - amCN st + 1 + amCN st; omega, by show amSN st' ≤ amSN st' - amSN st + 6 * 1 + amSN st; omega⟩ kend
      rw [lg_entry_eq]
      exact hgo _ s.heap [] 0 0 (amEnt_ok hlen) (amEnt_len hlen) hrep va_S.rf (Nat.zero_add _) (Nat.zero_add _)
