/-! the law's own helpers: they catch -/
theorem metW {l : Launch} {y : MethodName} {ws ws' : List Cond} {rm : Room} {Pc : Array Value → State → Prop} {Qc : Array Value → State → Outcome → State → Prop} {mc ms : Nat} {free : Addr → Prop} {cc : ByteArray} {maxL : Nat} {ret : Option FieldType} {hh : List (Nat × Nat × Nat × Nat)}
    (hy : plainName y.cls = true) (hw : ws = Cond.codeWith y cc maxL ret hh :: ws')
    (body : ∀ p e s m args below meth c s₁, BodyLoose p l y (headSpec ws rm) cc maxL ret e s m args below meth c s₁ → c.maxLocals = maxL → Pc args s →
      W p l e (headSpec ws rm).room s m args below meth c s.heap [] 0 0 (MQ below Qc args s mc ms free) (entryFrame m args maxL)) : Met l y ws rm Pc Qc mc ms free := by
  refine MetFree.of_bodyS (code := cc) (maxLocals := maxL) (ret := ret) hy ?_ ?_
  · intro args s m h hn
    obtain ⟨m9, meth, c, hn9, h1, h2, h3, h4, -, h5, h6, -⟩ := Cond.codeWith_spec (atoms_spec (ws := ws) h _ (by rw [hw]; exact List.mem_cons_self))
    cases hn.symm.trans hn9
    exact ⟨meth, c, h1, h2, h3, h4, h5, h6⟩
  · intro p e s m args below meth c s₁ B hml hP _
    have hh0 : s₁.heap = s.heap := by rw [B.state]; rfl
    obtain ⟨t, a1, o, b1, b2, b3⟩ := body p e s m args below meth c s₁ B hml hP s₁ hh0 (Stand.of_body B)
    exact ⟨t, o, a1, b1, b2, ⟨b3.1, b3.2⟩⟩
section HLP
variable {p : Program} {l : Launch} {e : Env} {R : Room} {s : State} {m : MethodId} {args : Array Value} {below : List Frame} {meth : Method} {c : Code} {Q : State → Prop} {b bS : Nat} {D : va_G} {dA : FieldType → ClassId} {q : amInf} {pc : Nat} {ls : Array Slot} {H : Heap} {locs : List Loc} {cells slots : Nat}
theorem am_backX {rest : List amV} {r : Option amV} {st' : amS} {aa : Array Value} {st0 : List Value} {mc ms : Nat} (hr : vx_Run p l e R s m args below meth c H locs cells slots mc ms (F0 m pc ls st0) (rest.map (amCv b bS)) (amQx b bS D dA r st' aa) (amXC b bS D dA r st') (fun a => b ≤ a)) (hS : va_S (fun a => b ≤ a) s.heap H locs)
    (kk : r ≠ none → ∀ (H1 : Heap) (locs1 : List Loc), amRep b bS D dA s st' H1 → va_S (fun a => b ≤ a) s.heap H1 locs1 → W p l e R s m args below meth c H1 locs1 (cells + mc) (slots + ms) Q (F0 m (pc + 3) ls ((r.toList ++ rest).map (amCv b bS))))
    (kx : r = none → ∀ (H1 : Heap) (locs1 : List Loc) (q9 : Addr) (ce : Cell), amRep b bS D dA s st' H1 → va_S (fun a => b ≤ a) s.heap H1 locs1 → H1[q9]? = some ce → ce.vm = .none → s.vm.findClass nse = some ce.cls → vx_W p l e R s m args below meth c H1 locs1 (cells + mc) (slots + ms) Q (F0 m pc ls (rest.map (amCv b bS))) q9) : W p l e R s m args below meth c H locs cells slots Q (F0 m pc ls st0) := by
  intro T hT X
  have hs1 : ∀ {T' t st₀ : State} {L' : List Loc}, st₀.heap = H → T'.heap = t.heap → (∀ q ∈ L', b ≤ q.base) → st₀.heap.size ≤ t.heap.size → (∀ q : Nat, q < st₀.heap.size → ¬ b ≤ q → t.heap[q]? = st₀.heap[q]?) → va_S (fun a => b ≤ a) s.heap T'.heap (locs ++ L') := by
    intro T' t st₀ L' h0 e1 hL hz hk
    rw [h0] at hz hk
    exact ⟨Nat.le_trans hS.1 (by rw [e1]; exact hz), fun a h1 h2 => by rw [e1, hk a (Nat.lt_of_lt_of_le h1 hS.1) h2]; exact hS.2.1 a h1 h2, fun a ha => by
      rcases List.mem_append.mp ha with h | h
      · exact hS.2.2 a h
      · exact hL a h⟩
  rcases hr T hT X with ⟨v, st₀, t, T', L', h0, X', hL, e1, e2, ⟨hne, hv, hrep, hz, hk⟩, go⟩ | ⟨q9, st₀, t, T', L', E, ce, h0, X', hL, e1, e2, ⟨u, hp, ⟨rfl, hrep⟩, hz, hk⟩, hce, hcv, hcl, go⟩
  · have hv : v = r.map (amCv b bS) := by cases hv; rfl
    subst hv
    obtain ⟨t2, a1, b1⟩ := kk hne T'.heap (locs ++ L') (by rw [e1]; exact hrep.alike (by rw [← e2]; exact X'.warmed.alike.symm)) (hs1 h0 e1 hL hz hk) T' rfl X'
    refine ⟨t2, go t2 ?_, b1⟩
    have hst : (r.map (amCv b bS)).toList ++ rest.map (amCv b bS) = (r.toList ++ rest).map (amCv b bS) := by
      cases r <;> simp
    rw [hst]
    exact a1
  · obtain ⟨t2, a1, b1⟩ := kx hp T'.heap (locs ++ L') q9 ce (by rw [e1]; exact hrep.alike (by rw [← e2]; exact X'.warmed.alike.symm)) (hs1 h0 e1 hL hz hk) (by rw [e1]; exact hce) hcv hcl T' rfl X'
    exact ⟨t2, go.trans a1, b1⟩
theorem goN_s {C : Nat → List amV → amS → Option amR} {n len : Nat} {ins : Instr} {L : amL} {S : List amV} {st : amS} {f' : amF} (hf : decode q.2.1 pc = .ok (ins, len)) (hs : amStep C q pc ins len L S st = some (.inl f')) : amGoN C q (n + 1) (pc, L, S, st) = amGoN C q n f' := by
  have hfe : amFe q pc = some (ins, len) := by unfold amFe; rw [hf]
  conv => lhs; unfold amGoN
  dsimp only
  rw [hfe]
  dsimp only
  rw [hs]
theorem run_s {C : Nat → List amV → amS → Option amR} {n len : Nat} {ins : Instr} {L : amL} {S : List amV} {st : amS} {f' : amF} (hf : decode q.2.1 pc = .ok (ins, len)) (hs : amStep C q pc ins len L S st = some (.inl f')) : amRun C q (n + 1) (pc, L, S, st) = amRun C q n f' := by
  have hfe : amFe q pc = some (ins, len) := by unfold amFe; rw [hf]
  conv => lhs; unfold amRun
  dsimp only
  rw [hfe]
  dsimp only
  rw [hs]
theorem run_e {C : Nat → List amV → amS → Option amR} {n len : Nat} {ins : Instr} {L : amL} {S : List amV} {st : amS} {r : amR} (hf : decode q.2.1 pc = .ok (ins, len)) (hs : amStep C q pc ins len L S st = some (.inr r)) : amRun C q (n + 1) (pc, L, S, st) = some r := by
  have hfe : amFe q pc = some (ins, len) := by unfold amFe; rw [hf]
  conv => lhs; unfold amRun
  dsimp only
  rw [hfe]
  dsimp only
  rw [hs]
def C0 : Nat → List amV → amS → Option amR := fun _ _ _ => none
theorem C0_call {d : Nat} : amCallOk l b bS D dA d C0 := fun y q as st r st' _ _ _ _ h => by cases h
theorem C0_mono : amMonoC C0 := fun y as st v st' h => by cases h
theorem C0_prim : amPrimOk p l e R s m args below meth c b bS D dA q C0 := fun y idx pc qy L S st st' v ls H locs cells slots _ _ _ _ _ _ _ _ _ h => by cases h
theorem xl_in : (Cond.methodLink "SoundAdviceLaw" 7 ⟨"SoundAdvice", "of", "(II)I"⟩ ∈ lw_tbl ∧ Cond.instanceMethod ⟨"SoundAdvice", "of", "(II)I"⟩ ∈ lw_tbl ∧ Cond.selects "SoundAdvice" ⟨"SoundAdvice", "of", "(II)I"⟩ ⟨"SoundAdvice", "of", "(II)I"⟩ ∈ lw_tbl) ∧ (Cond.methodLink "SoundAdviceLaw" 15 ⟨"SoundAdvice", "row", "(I)J"⟩ ∈ lw_tbl ∧ Cond.instanceMethod ⟨"SoundAdvice", "row", "(I)J"⟩ ∈ lw_tbl ∧ Cond.selects "SoundAdvice" ⟨"SoundAdvice", "row", "(I)J"⟩ ⟨"SoundAdvice", "row", "(I)J"⟩ ∈ lw_tbl) ∧ Cond.initialized "SoundAdvice" ∈ lw_tbl ∧ Cond.classLink "SoundAdviceLaw" 13 nse ∈ lw_tbl := ⟨⟨List.mem_of_getElem? (i := 1059) (by decide +kernel), List.mem_of_getElem? (i := 1060) (by decide +kernel), List.mem_of_getElem? (i := 1061) (by decide +kernel)⟩, ⟨List.mem_of_getElem? (i := 1133) (by decide +kernel), List.mem_of_getElem? (i := 1134) (by decide +kernel), List.mem_of_getElem? (i := 1135) (by decide +kernel)⟩, List.mem_of_getElem? (i := 106) (by decide +kernel), List.mem_of_getElem? (i := 1058) (by decide +kernel)⟩
theorem cel11 {st : amS} (hKn : amKn D dA s) (hR : amRep b bS D dA s st H) (hal : amAl st.2.2.2.1 11 0 = true) : ∃ cellB : Cell, H[amAd b bS (11, 0)]? = some cellB ∧ cellB.vm.isStatics = false ∧ s.vm.findClass "SoundAdvice" = some cellB.cls := by
  have he := amWs_at (b := b) (bS := bS) (dA := dA) hR.2.2.2.1 hal
  rw [amE_obj (by decide)] at he
  obtain ⟨cq, hcq⟩ : ∃ cq, amFs[11]? = some cq := ⟨_, List.getElem?_eq_getElem (by rw [amFsLen]; decide)⟩
  obtain ⟨cell, e1, e2, e3⟩ := va_recv hKn.1 hR.1 (amCls_at hcq) he
  refine ⟨cell, e1, e2, ?_⟩
  have h9 := amOwn_at hcq
  rw [← h9] at e3
  exact e3
end HLP
