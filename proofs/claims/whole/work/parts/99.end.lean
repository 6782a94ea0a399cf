/-! THE CLAIM OUT OF ONE WALK OF THE LAW'S BODY. Your part is whole_start (and what it stands on); all else here is the same for every law, but numbers. -/
def R_law : String := "SoundAdviceLaw"
def lw_P (b : Addr) (xs : List Int32) (args : Array Value) (s : State) : Prop := args = #[.ref b] ∧ s.IntsAt b xs ∧ xs.length ≤ 3584 ∧ (Jvm.Cond.and given_1 narrow_1).before args s = true
def lw_Q (_ : Array Value) (s : State) (o : Outcome) (t : State) : Prop := o = .returned (some (.int 1)) ∧ Framed s o t [] 601024 7293034
def lw_Z (below : List Frame) (a : Array Value) (s : State) : State → Prop := fun t => ∃ o, t.status = .running ∧ Ended t below o ∧ lw_Q a s o t
/-- the law's own end, with 1 on the stack, nothing written that was there before, its room as the claim has it -/
theorem lw_ret {p : Program} {l : Launch} {e : Env} {s : State} {m : MethodId} {below : List Frame} {meth : Method} {c : Code} {b : Nat} (hx : p.tables.exec = Jvm.exec) (hb : c.code = code) (hr : meth.sig.returnType = ret) (hlocks : meth.locks = false) {pc : Nat} {H : Heap} {ls : Array Slot} (hdg : decode code pc = .ok (.ireturn, 1)) : W p l e room_1 s m #[Value.ref b] below meth c H [] 601024 7293034 (lw_Z below #[Value.ref b] s) (F0 m pc ls [.int 1]) := by
  intro T hT X
  obtain ⟨fs, hret, hrun, hended, hW, hframe⟩ := X.leave (v := some (.int 1)) (hlocks := hlocks) (fun h => by rw [hr] at h; cases h)
  have hmeth' : T.vm.method? m = some meth := X.method'
  refine ⟨T.setFrames fs, ?_, .returned (some (.int 1)), hrun, hended, rfl, ⟨_, rfl⟩, hW, hframe⟩
  jvm_step X.here [X.here.top, hx, hb, hdg, hmeth', hr, ret, narrow_b1]
  (try refine ⟨rfl, ?_⟩); (try refine ⟨rfl, ?_⟩)
  first | (intro acts; rw [hret _ acts rfl rfl rfl]) | rw [hret _ _ rfl rfl rfl]
  exact Steps.refl _
/-- what holds at the law's entry: the machine, the code, the tables' words (any of lw_tbl by 'hts w (by decide +kernel)'), the script of L ints xs at the cell b, what the Statement gives of the start (any of its parts by flat_of_before) -/
def lw_At (p : Program) (s : State) (m : MethodId) (meth : Method) (c : Code) (b L : Nat) (xs : Nat → Int32) : Prop :=
  p.tables.exec = Jvm.exec ∧ c.code = code ∧ meth.sig.returnType = ret ∧ c.maxLocals = 8 ∧ s.vm.findClass R_law = some m.cls ∧ (∀ w ∈ lw_tbl, w.before #[Value.ref b] s = true) ∧ va_X b L xs s s.heap ∧ b < s.heap.size ∧ meth.locks = false ∧ (Jvm.Cond.and given_1 narrow_1).before #[Value.ref b] s = true
/-- calls, but the helpers' -/
def CX (d n : Nat) : Nat → List amV → amS → Option amR := fun y as st => bif decide (274 ≤ y) then none else amEx d n y as st
theorem CX_le {d n y : Nat} {as : List amV} {st : amS} {r : amR} (h : CX d n y as st = some r) : amEx d n y as st = some r ∧ ¬ 274 ≤ y := by
  unfold CX at h
  cases h1 : decide (274 ≤ y) with
  | true => rw [h1] at h; cases h
  | false =>
    rw [h1] at h
    exact ⟨h, of_decide_eq_false h1⟩
theorem CX_ge {d n y : Nat} {as : List amV} {st : amS} (h : ¬ 274 ≤ y) : CX d n y as st = amEx d n y as st := by
  unfold CX
  rw [decide_eq_false h]
  rfl
theorem CX_mn {d n n' : Nat} (hn : n ≤ n') : amLe (CX d n) (CX d n') := fun y as st r h => by
  obtain ⟨h1, h2⟩ := CX_le h
  rw [CX_ge h2]
  exact amEx_le d d (Nat.le_refl _) n n' hn _ _ _ _ h1
theorem amEy_lt {d n y : Nat} {as : List amV} {st : amS} {r : amR} (h : amEy d n y as st = some r) : ¬ 274 ≤ y := by
  cases d with
  | zero => cases h
  | succ d =>
    unfold amEy at h
    cases h1 : (y == 1) with
    | true =>
      obtain rfl : y = 1 := by simpa using h1
      omega
    | false =>
      rw [h1] at h
      simp only [cond_false] at h
      cases h2 : decide (274 ≤ y) with
      | true => rw [h2] at h; cases h
      | false => exact of_decide_eq_false h2
theorem step_X {d n9 : Nat} {q : amInf} {pc : Nat} {ins : Instr} {n : Nat} {L : amL} {S : List amV} {st : amS} {N : amF ⊕ amR} (h : amStep (amEy d n9) q pc ins n L S st = some N) : ∃ n1, ∀ n2, n1 ≤ n2 → amStep (CX (d + 3) n2) q pc ins n L S st = some N := by
  obtain ⟨y, as, h1⟩ := amStep_one h
  cases hr : amEy d n9 y as st with
  | none => exact ⟨0, fun n2 _ => h1 _ (fun r z => by rw [hr] at z; cases z)⟩
  | some r =>
    obtain ⟨n1, h2⟩ := amEy_ok n9 d y as st r hr
    exact ⟨n1, fun n2 hn => h1 _ (fun r' z => by
      rw [hr] at z
      cases z
      rw [CX_ge (amEy_lt hr)]
      exact amEx_le _ _ (Nat.le_refl _) n1 n2 hn _ _ _ _ h2)⟩
theorem goN_X {d n9 : Nat} {q : amInf} : ∀ (n : Nat) (f f1 : amF), amGoN (amEy d n9) q n f = some f1 → ∃ n', amGoN (CX (d + 3) n') q n f = some f1
  | 0, f, f1, h => ⟨0, h⟩
  | n + 1, f, f1, h => by
    unfold amGoN at h
    split at h
    · rename_i ins len hf
      split at h
      · rename_i f' hst
        obtain ⟨n1, h1⟩ := step_X hst
        obtain ⟨n2, h2⟩ := goN_X n f' f1 h
        refine ⟨n1 + n2, ?_⟩
        unfold amGoN
        rw [hf]
        dsimp only
        rw [h1 (n1 + n2) (by omega)]
        exact goN_le (CX_mn (by omega)) n f' f1 h2
      · cases h
    · cases h
theorem CX_call {l : Launch} {b bS : Nat} {D : va_G} {dA : FieldType → ClassId} {d n : Nat} : amCallOk l b bS D dA d (CX d n) := fun y q as st r st' hq hy h15 hthr h => amSnd_ex n d y q as st r st' hq hy h15 hthr (CX_le h).1
theorem CX_mono {d n : Nat} : amMonoC (CX d n) := fun y as st v st' h => amEx_mono d n y as st v st' (CX_le h).1
theorem CLg_call {l : Launch} {b bS : Nat} {D : va_G} {dA : FieldType → ClassId} {d n : Nat} : amCallOk l b bS D dA d (CLg d n) := fun y q as st r st' hq hy h15 hthr h => amSnd_ex n d y q as st r st' hq hy h15 hthr (CLg_le h).1
theorem CLg_mono {d n : Nat} : amMonoC (CLg d n) := fun y as st v st' h => amEx_mono d n y as st v st' (CLg_le h).1
theorem CX_prim {p : Program} {l : Launch} {e : Env} {R : Room} {s : State} {m : MethodId} {args : Array Value} {below : List Frame} {meth : Method} {c : Code} {b bS : Nat} {D : va_G} {dA : FieldType → ClassId} {q : amInf} {d n : Nat} : amPrimOk p l e R s m args below meth c b bS D dA q (CX d n) := by
  intro y idx pc qy L S st st' v ls H locs cells slots hml hq hdg hl1 hL1 hR hS hS1 hS2 hcall hc hs
  have h1 := (CX_le hcall).2
  rcases ml13_6 hml hq with z | z <;> omega
/-- the script put into the memory -/
def mX (M : amM) (xs : Nat → Int32) : amM := fun c i j => if c = 99 then xs j else M c i j
theorem mX_off {M : amM} {xs : Nat → Int32} {c i j : Nat} (h : c ≠ 99) : mX M xs c i j = M c i j := if_neg h
theorem mX_row {M : amM} {xs : Nat → Int32} {c i : Nat} (h : c ≠ 99) : mX M xs c i = M c i := funext fun j => mX_off h
theorem mX_99 {M : amM} {xs : Nat → Int32} : mX M xs 99 0 = xs := funext fun j => if_pos rfl
theorem mX_Ws {b bS : Nat} {dA : FieldType → ClassId} {M : amM} {J : amJ} {xs : Nat → Int32} {jk kk tt X X' : Nat} : amWs b bS dA (mX M xs, J, (jk, kk, tt, X)) = amWs b bS dA (M, J, (jk, kk, tt, X')) := by
  unfold amWs
  refine List.map_congr_left (fun x hx => ?_)
  have hx1 : x.1 ≠ 99 := amNot99 (List.mem_of_mem_take hx)
  have hf : ∀ k, amFv b bS (mX M xs) tt x.1 x.2 k = amFv b bS M tt x.1 x.2 k := fun k => by
    unfold amFv
    rw [mX_off (c := amFC x.1 k) (by unfold amFC; omega)]
  have he : amE b bS dA (mX M xs, J, (jk, kk, tt, X)) x = amE b bS dA (M, J, (jk, kk, tt, X')) x := by
    unfold amE
    dsimp only
    rw [mX_row hx1, show amFv b bS (mX M xs) tt x.1 x.2 = amFv b bS M tt x.1 x.2 from funext hf]
  rw [he]
theorem noTr {l : Launch} (h : l.flags = flags0) : l.stackTraces = false := by
  unfold Launch.stackTraces
  rw [h]
  decide +kernel
theorem szC : (amSz.take 149).sum ≤ 100000 := by decide +kernel
theorem full149 : (149 : Nat) = amOrc.length := by decide +kernel
theorem wBound {L : Nat} (h : L ≤ 3584) : L / 7 ≤ 512 := by omega
section LAW
variable {p : Program} {l : Launch} {e : Env} {s : State} {m : MethodId} {below : List Frame} {meth : Method} {c : Code} {b L : Nat} {xs : Nat → Int32} {D : va_G} {dA : FieldType → ClassId}
/-- the law behind the making -/
theorem law_tail (hl : l.stackTraces = false) (hL : L ≤ 3584) (C0 : lw_At p s m meth c b L xs) (Cx : amCx p s m #[Value.ref b] meth c s.heap.size b D dA amLawQ) (hkx : amKx s.heap.size s s.heap) {M1 : amM} {J1 : amJ} (hRM : ∀ (M : amM) (J : amJ), (∀ c i j, c ≠ 99 → M c i j = M1 c i j) → RC M J sta0 ∧ RM M J sta0) : amCont p l e room_1 s m #[Value.ref b] below meth c (lw_Z below #[Value.ref b] s) s.heap.size b D dA amLawQ 0 0 (.inl (23, lawL 0, [], (M1, J1, (0, 149, 147, 0)))) := by
  obtain ⟨hx, hb, hr, hml, hown, hts, hX, hbl, hlocks, hgv⟩ := C0
  have hR9 := hRM (mX M1 xs) J1 (fun c i j h => mX_off h)
  have hEv := lawLoop (d := 0) (L := L) (T := 512) (Q := fun v st => v = some (vI (nI 1)) ∧ ∃ (M' : amM) (J' : amJ) (jk' : Nat), jk' ≤ 512 ∧ st = (M', J', (jk', 149, 147, L + 1))) hL (fun M' J' jk' h => ⟨rfl, M', J', jk', h, rfl⟩) (L / 7) 0 0 (mX M1 xs) J1 sta0 none none none (Nat.zero_add _).symm (by rw [Nat.zero_add]; exact wBound hL) hR9.1 hR9.2 WF0
  obtain ⟨q, n, v, st', hq, hrun, rfl, M', J', jk', hjk, rfl⟩ := hEv
  obtain rfl : q = amLawQ := Option.some.inj (hq.symm.trans mi_273)
  have hrun2 := run_g (d := 40) n _ _ hrun full149
  have kret : amCont p l e room_1 s m #[Value.ref b] below meth c (lw_Z below #[Value.ref b] s) s.heap.size b D dA amLawQ 0 0 (.inr (some (vI (nI 1)), (M', J', (jk', 149, 147, L + 1)))) := by
    intro pc ls H locs cells slots hR hS hc hs hret
    have hc : cells + 0 = jk' + 149 := hc
    have hs : slots + 0 = 6 * jk' + (amSz.take 149).sum := hs
    have hsz := szC
    refine va_forget (fun q hq => hS.2.2 q hq) (W.widen (k := 601024) (n := 7293034) (by omega) (by omega) ?_)
    exact lw_ret hx hb hr hlocks hret.1
  have hgo := amSnd_run (c0 := 0) (s0 := 0) (CLg_call (l := l) (b := s.heap.size) (bS := b) (D := D) (dA := dA) (d := 40) (n := n)) (prim_ok (R := room_1) (d := 38) (n := n) hl (by decide) (by decide) (by decide) Cx hkx) CLg_mono (by decide) (by decide) Cx ⟨by
    show jk' + 149 ≤ 601024 + 0
    omega, by
    show 6 * jk' + (amSz.take 149).sum ≤ 7293034 + 0
    have hsz := szC
    omega⟩ kret n _ hrun2
  intro ls H locs cells slots hl1 hL1 hR hS hc hs
  refine hgo ls H locs cells slots hl1 hL1 ⟨?_, hR.2.1, hR.2.2.1, hR.2.2.2.1, fun _ => ?_⟩ hS hc hs
  · rw [mX_Ws (X' := 0)]
    exact hR.1
  · show va_X b (L + 1 - 1) (mX M1 xs 99 0) s H
    rw [mX_99, Nat.add_sub_cancel]
    obtain ⟨scr, h1, h2⟩ := hX
    refine ⟨scr, ?_, h2⟩
    rw [hS.2.1 b hbl (by omega)]
    exact h1
end LAW
theorem whole_start {p : Program} {e : Env} {s : State} {m : MethodId} {below : List Frame} {meth : Method} {c : Code} (l : Launch) (hflags : l.flags = flags0) {b L : Nat} {xs : Nat → Int32} (hL : L ≤ 3584) (C0 : lw_At p s m meth c b L xs) : W p l e room_1 s m #[Value.ref b] below meth c s.heap [] 0 0 (lw_Z below #[Value.ref b] s) (entryFrame m ([Value.ref b] : List Value).toArray 8) := by
  have C1 := C0
  obtain ⟨hx, hb, hr, hml, hown, hts, hX, hbl, hlocks, hgv⟩ := C0
  obtain ⟨D, dA, hkn⟩ := amKn_of hts
  have hkx := amKx_of hts hgv
  have hl := noTr hflags
  have Cx : amCx p s m #[Value.ref b] meth c s.heap.size b D dA amLawQ := ⟨hx, hb, hml, hown, fun w hw => hts w (List.mem_filter.mp hw).1, hkn, hbl, Nat.le_refl _, fun h => absurd h (by decide)⟩
  obtain ⟨M1, J1, hF, hRM⟩ := made1
  obtain ⟨n', hgo⟩ := goN_X 13 amF0 _ (show amGoN (amEy 8 400) amLawQ 13 amF0 = some (23, lawL 0, [], (M1, J1, (0, 149, 147, 0))) from hF)
  have hk := amSnd_goN (R := room_1) (c0 := 0) (s0 := 0) (CX_call (l := l) (b := s.heap.size) (bS := b) (D := D) (dA := dA) (d := 11) (n := n')) (CX_prim (e := e) (below := below)) CX_mono (by decide) (by decide) Cx 13 _ _ hgo ⟨(by
    show 0 + 149 ≤ 601024 + 0
    omega), by
    show 6 * 0 + (amSz.take 149).sum ≤ 7293034 + 0
    have hsz := szC
    omega⟩ (law_tail (e := e) (below := below) hl hL C1 Cx hkx hRM)
  have hlen : (amArgs [vR 99 0]).length ≤ amLawQ.2.2.1 := by decide
  rw [lg_entry_eq]
  exact hk _ s.heap [] 0 0 (amEnt_ok (b := s.heap.size) (bS := b) hlen) (amEnt_len hlen) ⟨fun k q h => (by cases h), Nat.le_refl _, fun _ => rfl, Nat.zero_le _, fun h => absurd h (Nat.lt_irrefl _)⟩ va_S.rf rfl rfl
set_option maxHeartbeats 4000000 in
theorem lw_walk (l : Launch) (hflags : l.flags = flags0) (b : Addr) (xs : List Int32) : MetFree l x (headSpec (Jvm.Cond.code x code maxLocals ret :: tables_1) room_1) (lw_P b xs) (fun _ _ _ _ _ => True) lw_Q := by
  refine MetFree.of_bodyS (code := code) (maxLocals := maxLocals) (ret := ret) (by decide) ?_ ?_
  · intro args s m h hn
    obtain ⟨meth, c, h1, h2, h3, h4, h5, h6, -, -⟩ := Cond.code_spec hn (atoms_spec (ws := Jvm.Cond.code x code maxLocals ret :: tables_1) h _ List.mem_cons_self)
    exact ⟨meth, c, h1, h2, h3, h4, h5, h6⟩
  · intro p e s m args below meth c s₁ B hml0 hP _
    obtain ⟨rfl, hx, hbd, hgv⟩ := hP
    obtain ⟨scr, harrAt, hlist, hof, hsmall⟩ := hx
    obtain ⟨hcb, hkn, -, -⟩ := State.arrayAt?_spec harrAt
    have hown : s.vm.findClass R_law = some m.cls := findClass_of_methodNamed B.named
    have hts0 : ∀ c ∈ (Jvm.Cond.code x code maxLocals ret :: tables_1), c.before #[Value.ref b] s = true := atoms_spec (ws := Jvm.Cond.code x code maxLocals ret :: tables_1) B.pre
    have hts : ∀ w ∈ lw_tbl, w.before #[Value.ref b] s = true := k2_hts_sels lw_privs (fun w hw => hts0 w (List.mem_cons_of_mem _ hw)) lw_privs_ok
    have hml : c.maxLocals = 8 := B.maxLocals_eq (hts0 _ List.mem_cons_self)
    have X₀ : Stand p l e room_1 s m #[Value.ref b] below meth c s₁ [] 0 0 := Stand.of_body B
    have hh0 : s₁.heap = s.heap := by rw [B.state]; rfl
    have hsz : scr.slots.size = xs.length := by rw [← Array.length_toList, hlist, List.length_map]
    have hval : ∀ j : Nat, j < xs.length → scr.slots[j]? = some (.int (xs.getD j 0)) := fun j hj => by
      rw [← Array.getElem?_toList, hlist]
      simp [hj]
    have hbl : b < s.heap.size := (Array.getElem?_eq_some_iff.mp hcb).1
    have hX : va_X b xs.length (fun j => xs.getD j 0) s s.heap := ⟨scr, hcb, hof, hkn, hsz, hval⟩
    have K : W p l e room_1 s m #[Value.ref b] below meth c s₁.heap [] 0 0 (lw_Z below #[Value.ref b] s) (entryFrame m ([Value.ref b] : List Value).toArray 8) := by
      rw [hh0]
      exact whole_start l hflags hbd ⟨B.exec, B.bytes, B.returns, hml, hown, hts, hX, hbl, B.notSynchronized, hgv⟩
    obtain ⟨t, a1, o, b1, b2, b3⟩ := K s₁ rfl X₀
    exact ⟨t, o, a1, b1, b2, b3⟩
theorem lw_pre_spec {args : Array Value} {s : State} (h : (Jvm.Cond.and given_1 narrow_1).before args s = true) (hr : rest_1_c.before args s = true) : ∃ (b : Addr) (xs : List Int32), lw_P b xs args s := by
  have hs := flat_of_before _ h
  have hq := flat_of_before _ hr
  have hc : (Cond.count 1).before args s = true := hs _ (by decide +kernel)
  have harr : (Cond.arrayOf (.arg 0) .int).before args s = true := hs _ (by decide +kernel)
  have hle : (Cond.le (.length (.arg 0)) (.int 3584)).before args s = true := hs _ (by decide +kernel)
  have hlen : (Cond.isInt (.length (.arg 0))).before args s = true := hq _ (by decide +kernel)
  have hall : (Cond.all (.arg 0) (.isInt (.elem (.arg 0) (.index 0)))).before args s = true := hq _ (by decide +kernel)
  obtain ⟨b, xs, hb, hx⟩ := State.ints_of_pre rfl harr hlen hall
  have hsm : xs.length < 2 ^ 31 := hx.choose_spec.2.2.2
  have hev : (Term.length (.arg 0)).eval args s none [] s = some (.int xs.length.toInt32) := hx.length_eval hb
  have hv := Cond.le_ints hev (show (Term.int 3584).eval args s none [] s = some (.int 3584) from rfl)
  have hd : xs.length.toInt32 ≤ 3584 := by
    simpa [Cond.before, Cond.holds, hv] using hle
  have hN : xs.length ≤ 3584 := (Int32.ofNat_le_ofNat hsm (by decide)).mp (show Int32.ofNat xs.length ≤ Int32.ofNat 3584 from hd)
  exact ⟨b, xs, Cond.one_arg hc (show args[0]? = some (.ref b) from hb), hx, hN, h⟩
theorem lw_comes (l : Launch) (hflags : l.flags = flags0) : Comes l x (Jvm.Cond.code x code maxLocals ret :: tables_1) room_1 (fun tb e args s => Calls_1 tb e args s ∧ rest_1 tb e args s ∧ Pre_1 tb e args s)
    (fun _ _ args s o t => lw_Q args s o t) := by
  intro p e ha hc hk s m args below hf hfit hheap happ hpre
  obtain ⟨b, xs, hP⟩ := lw_pre_spec hpre.2.2 hpre.2.1
  obtain ⟨k, o, h1, h2, h3, hQ⟩ := lw_walk l hflags b xs p e ha hc hk s m args below hf ((Spec.applies_iff_loose hf).mp happ).1 hP trivial
  exact ⟨k, o, h1, h2, h3, hQ⟩
theorem lw_frame {s t : State} {o : Outcome} {args : Array Value} (h : Framed s o t [] 601024 7293034) :
    Framed s o t (fieldLocs frame_1_writes args s ++ arrayLocs frame_1_arrays args s ++ staticLocs frame_1_statics s) 601024 7293034 := h
theorem lw_limb (L : Cond) (hL : ∀ (args : Array Value) (s t : State), L.after args s (.returned (some (.int 1))) t = true) :
    ArmFor flags0 classFile x code maxLocals ret World_1 tables_1 room_1 Calls_1 rest_1 Pre_1
      (fun tb e a s o t => postC L tb e a s o t ∧ Framed s o t (fieldLocs frame_1_writes a s ++ arrayLocs frame_1_arrays a s ++ staticLocs frame_1_statics s) 601024 7293034) := by
  intro l hflags _ _ p e ha hc hk s m args below hf hfit hheap happ hpre
  obtain ⟨k, o, h1, h2, h3, rfl, hF⟩ := lw_comes l hflags p e ha hc hk s m args below hf hfit hheap happ hpre
  exact ⟨k, _, h1, h2, h3, hL args s _, lw_frame hF⟩
theorem i_vc : Claimed_1_1 ∧ Claimed_1_2 := ⟨lw_limb limb_1_1 (fun args s t => by simp [limb_1_1, Cond.after, Cond.holds, Cond.value]), lw_limb limb_1_2 (fun args s t => Cond.after_iff.mpr (by
  first | (rw [show limb_1_2 = Cond.eq .result (.int 1) from rfl, Cond.eq_ints (x := 1) (y := 1) rfl rfl]; simp; done) | (simp [limb_1_2, Cond.value, Term.eval]; done)))⟩
