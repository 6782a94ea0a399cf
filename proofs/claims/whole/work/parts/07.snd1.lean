/-! ONE STEP IS SOUND (printed by wip/whole/snd1.py): instructions that leave the heap as it is -/
def amW : List Cond := lw_tbl.filter goodWord
theorem amW_in {w : Cond} (h : w ∈ lw_tbl) (hg : goodWord w = true) : w ∈ amW := List.mem_filter.mpr ⟨h, hg⟩
abbrev amTys (dA : FieldType → ClassId) : List (ClassId × FieldType) := [(dA .int, .int), (dA .byte, .byte), (dA .boolean, .boolean), (dA .long, .long), (dA (.object "SoundAdvice$Game"), .object "SoundAdvice$Game")]
/-- what is known of the classes -/
def amKn (D : va_G) (dA : FieldType → ClassId) (U : State) : Prop := va_K D amCls (amTys dA) U ∧ (∀ (o : String) (i : Nat) (x : MethodName) (h : String), Cond.methodLinkNest o i x h ∈ lw_tbl → va_Nw (.methodLinkNest o i x h) U) ∧ va_AO "SoundAdvice$Game" U
/-- a method at work -/
def amCx (p : Program) (s : State) (m : MethodId) (args : Array Value) (meth : Method) (c : Code) (b bS : Nat) (D : va_G) (dA : FieldType → ClassId) (q : amInf) : Prop := p.tables.exec = Jvm.exec ∧ c.code = q.2.1 ∧ c.maxLocals = q.2.2.1 ∧ s.vm.findClass (amOwn q.2.2.2.2.1) = some m.cls ∧ (∀ w ∈ amW, w.before args s = true) ∧ amKn D dA s ∧ bS < b ∧ b ≤ s.heap.size ∧ (q.1.name = "<init>" → meth.name = "<init>")
def amXS : Nat := 6
def amCN (st : amS) : Nat := st.2.2.1 + st.2.2.2.1
def amSN (st : amS) : Nat := amXS * st.2.2.1 + (amSz.take st.2.2.2.1).sum
def amRetOk (q : amInf) (pc : Nat) (r : Option amV) : Prop := match r with
  | some (.inl x) => decode q.2.1 pc = .ok (.ireturn, 1) ∧ (q.2.2.2.1 = some .int ∨ (q.2.2.2.1 = some .boolean ∧ (x = 0 ∨ x = 1)))
  | some (.inr (.inl _)) => decode q.2.1 pc = .ok (.lreturn, 1) ∧ q.2.2.2.1 = some .long
  | some (.inr (.inr _)) => decode q.2.1 pc = .ok (.areturn, 1) ∧ ∃ n, q.2.2.2.1 = some (.object n)
  | none => (decode q.2.1 pc = .ok (.return_, 1) ∧ q.2.2.2.1 = none) ∨ ∃ k, decode q.2.1 pc = .ok (.new k, 3) ∧ amThr q
/-- what is owed behind a step: at the next instruction, or at the return itself -/
def amCont (p : Program) (l : Launch) (e : Env) (R : Room) (s : State) (m : MethodId) (args : Array Value) (below : List Frame) (meth : Method) (c : Code) (Q : State → Prop) (b bS : Nat) (D : va_G) (dA : FieldType → ClassId) (q : amInf) (c0 s0 : Nat) (N : amF ⊕ amR) : Prop := match N with
  | .inl f => ∀ (ls : Array Slot) (H : Heap) (locs : List Loc) (cells slots : Nat), amLR b bS ls f.2.1 → f.2.1.length = q.2.2.1 → amRep b bS D dA s f.2.2.2 H → va_S (fun a => b ≤ a) s.heap H locs → cells + c0 = amCN f.2.2.2 → slots + s0 = amSN f.2.2.2 → W p l e R s m args below meth c H locs cells slots Q (F0 m f.1 ls (f.2.2.1.map (amCv b bS)))
  | .inr r => ∀ (pc : Nat) (ls : Array Slot) (H : Heap) (locs : List Loc) (cells slots : Nat), amRep b bS D dA s r.2 H → va_S (fun a => b ≤ a) s.heap H locs → cells + c0 = amCN r.2 → slots + s0 = amSN r.2 → amRetOk q pc r.1 → W p l e R s m args below meth c H locs cells slots Q (F0 m pc ls (r.1.toList.map (amCv b bS)))
section SND1
variable {p : Program} {l : Launch} {e : Env} {R : Room} {s : State} {m : MethodId} {args : Array Value} {below : List Frame} {meth : Method} {c : Code} {Q : State → Prop} {b bS : Nat} {D : va_G} {dA : FieldType → ClassId} {q : amInf} {c0 s0 pc n : Nat} {L : amL} {S : List amV} {st : amS} {N : amF ⊕ amR} {CALL : Nat → List amV → amS → Option amR} {ls : Array Slot} {H : Heap} {locs : List Loc} {cells slots : Nat}
theorem sn_iconst {kk : Int} (Cx : amCx p s m args meth c b bS D dA q) (hl : amLR b bS ls L) (hL : L.length = q.2.2.1) (hR : amRep b bS D dA s st H) (hS : va_S (fun a => b ≤ a) s.heap H locs) (hc : cells + c0 = amCN st) (hs : slots + s0 = amSN st) (hdg : decode q.2.1 pc = .ok (.iconst kk, n)) (h : amStep CALL q pc (.iconst kk) n L S st = some N) (k : amCont p l e R s m args below meth c Q b bS D dA q c0 s0 N) : W p l e R s m args below meth c H locs cells slots Q (F0 m pc ls (S.map (amCv b bS))) := by
  obtain ⟨hx, hb, hml, hown, hts, hKn, hbs, hbz, hini⟩ := Cx
  obtain ⟨h1, rfl⟩ := amGo_inv h
  obtain rfl : n = 1 := by simpa using h1
  exact lv_iconst hx hb hdg rfl (k ls H locs cells slots hl hL hR hS hc hs)
theorem sn_bipush {kk : Int} (Cx : amCx p s m args meth c b bS D dA q) (hl : amLR b bS ls L) (hL : L.length = q.2.2.1) (hR : amRep b bS D dA s st H) (hS : va_S (fun a => b ≤ a) s.heap H locs) (hc : cells + c0 = amCN st) (hs : slots + s0 = amSN st) (hdg : decode q.2.1 pc = .ok (.bipush kk, n)) (h : amStep CALL q pc (.bipush kk) n L S st = some N) (k : amCont p l e R s m args below meth c Q b bS D dA q c0 s0 N) : W p l e R s m args below meth c H locs cells slots Q (F0 m pc ls (S.map (amCv b bS))) := by
  obtain ⟨hx, hb, hml, hown, hts, hKn, hbs, hbz, hini⟩ := Cx
  obtain ⟨h1, rfl⟩ := amGo_inv h
  obtain rfl : n = 2 := by simpa using h1
  exact lv_bipush hx hb hdg rfl (k ls H locs cells slots hl hL hR hS hc hs)
theorem sn_sipush {kk : Int} (Cx : amCx p s m args meth c b bS D dA q) (hl : amLR b bS ls L) (hL : L.length = q.2.2.1) (hR : amRep b bS D dA s st H) (hS : va_S (fun a => b ≤ a) s.heap H locs) (hc : cells + c0 = amCN st) (hs : slots + s0 = amSN st) (hdg : decode q.2.1 pc = .ok (.sipush kk, n)) (h : amStep CALL q pc (.sipush kk) n L S st = some N) (k : amCont p l e R s m args below meth c Q b bS D dA q c0 s0 N) : W p l e R s m args below meth c H locs cells slots Q (F0 m pc ls (S.map (amCv b bS))) := by
  obtain ⟨hx, hb, hml, hown, hts, hKn, hbs, hbz, hini⟩ := Cx
  obtain ⟨h1, rfl⟩ := amGo_inv h
  obtain rfl : n = 3 := by simpa using h1
  exact lv_sipush hx hb hdg rfl (k ls H locs cells slots hl hL hR hS hc hs)
theorem sn_lconst {kk : Fin 2} (Cx : amCx p s m args meth c b bS D dA q) (hl : amLR b bS ls L) (hL : L.length = q.2.2.1) (hR : amRep b bS D dA s st H) (hS : va_S (fun a => b ≤ a) s.heap H locs) (hc : cells + c0 = amCN st) (hs : slots + s0 = amSN st) (hdg : decode q.2.1 pc = .ok (.lconst kk, n)) (h : amStep CALL q pc (.lconst kk) n L S st = some N) (k : amCont p l e R s m args below meth c Q b bS D dA q c0 s0 N) : W p l e R s m args below meth c H locs cells slots Q (F0 m pc ls (S.map (amCv b bS))) := by
  obtain ⟨hx, hb, hml, hown, hts, hKn, hbs, hbz, hini⟩ := Cx
  obtain ⟨h1, rfl⟩ := amGo_inv h
  obtain rfl : n = 1 := by simpa using h1
  exact lv_lconst hx hb hdg rfl (k ls H locs cells slots hl hL hR hS hc hs)
theorem sn_ldc {kk : Nat} (Cx : amCx p s m args meth c b bS D dA q) (hl : amLR b bS ls L) (hL : L.length = q.2.2.1) (hR : amRep b bS D dA s st H) (hS : va_S (fun a => b ≤ a) s.heap H locs) (hc : cells + c0 = amCN st) (hs : slots + s0 = amSN st) (hdg : decode q.2.1 pc = .ok (.ldc kk, n)) (h : amStep CALL q pc (.ldc kk) n L S st = some N) (k : amCont p l e R s m args below meth c Q b bS D dA q c0 s0 N) : W p l e R s m args below meth c H locs cells slots Q (F0 m pc ls (S.map (amCv b bS))) := by
  obtain ⟨hx, hb, hml, hown, hts, hKn, hbs, hbz, hini⟩ := Cx
  dsimp only [amStep] at h
  cases hk : amKI q.2.2.2.2.1 kk with
  | none => rw [hk] at h; cases h
  | some v =>
    rw [hk] at h
    obtain ⟨h1, rfl⟩ := amGo_inv h
    obtain rfl : n = 2 := by simpa using h1
    have hw : Cond.constant (amOwn q.2.2.2.2.1) kk v ∈ lw_tbl := by
      unfold amKI at hk
      cases hf : amKi.find? (fun e => e.1 == q.2.2.2.2.1 && e.2.1 == kk) with
      | none => rw [hf] at hk; cases hk
      | some z =>
        rw [hf] at hk
        cases hk
        have h2 := List.find?_some hf
        simp only [Bool.and_eq_true, beq_iff_eq] at h2
        have h3 := amKi_wd (List.mem_of_find?_eq_some hf)
        rw [h2.1, h2.2] at h3
        exact h3
    exact lv_ldc hx hb hown (hts _ (amW_in hw rfl)) hdg (k ls H locs cells slots hl hL hR hS hc hs)
theorem sn_ldc_w {kk : Nat} (Cx : amCx p s m args meth c b bS D dA q) (hl : amLR b bS ls L) (hL : L.length = q.2.2.1) (hR : amRep b bS D dA s st H) (hS : va_S (fun a => b ≤ a) s.heap H locs) (hc : cells + c0 = amCN st) (hs : slots + s0 = amSN st) (hdg : decode q.2.1 pc = .ok (.ldc_w kk, n)) (h : amStep CALL q pc (.ldc_w kk) n L S st = some N) (k : amCont p l e R s m args below meth c Q b bS D dA q c0 s0 N) : W p l e R s m args below meth c H locs cells slots Q (F0 m pc ls (S.map (amCv b bS))) := by
  obtain ⟨hx, hb, hml, hown, hts, hKn, hbs, hbz, hini⟩ := Cx
  dsimp only [amStep] at h
  cases hk : amKI q.2.2.2.2.1 kk with
  | none => rw [hk] at h; cases h
  | some v =>
    rw [hk] at h
    obtain ⟨h1, rfl⟩ := amGo_inv h
    obtain rfl : n = 3 := by simpa using h1
    have hw : Cond.constant (amOwn q.2.2.2.2.1) kk v ∈ lw_tbl := by
      unfold amKI at hk
      cases hf : amKi.find? (fun e => e.1 == q.2.2.2.2.1 && e.2.1 == kk) with
      | none => rw [hf] at hk; cases hk
      | some z =>
        rw [hf] at hk
        cases hk
        have h2 := List.find?_some hf
        simp only [Bool.and_eq_true, beq_iff_eq] at h2
        have h3 := amKi_wd (List.mem_of_find?_eq_some hf)
        rw [h2.1, h2.2] at h3
        exact h3
    exact lv_ldcw hx hb hown (hts _ (amW_in hw rfl)) hdg (k ls H locs cells slots hl hL hR hS hc hs)
theorem sn_ldc2_w {kk : Nat} (Cx : amCx p s m args meth c b bS D dA q) (hl : amLR b bS ls L) (hL : L.length = q.2.2.1) (hR : amRep b bS D dA s st H) (hS : va_S (fun a => b ≤ a) s.heap H locs) (hc : cells + c0 = amCN st) (hs : slots + s0 = amSN st) (hdg : decode q.2.1 pc = .ok (.ldc2_w kk, n)) (h : amStep CALL q pc (.ldc2_w kk) n L S st = some N) (k : amCont p l e R s m args below meth c Q b bS D dA q c0 s0 N) : W p l e R s m args below meth c H locs cells slots Q (F0 m pc ls (S.map (amCv b bS))) := by
  obtain ⟨hx, hb, hml, hown, hts, hKn, hbs, hbz, hini⟩ := Cx
  dsimp only [amStep] at h
  cases hk : amKJ q.2.2.2.2.1 kk with
  | none => rw [hk] at h; cases h
  | some v =>
    rw [hk] at h
    obtain ⟨h1, rfl⟩ := amGo_inv h
    obtain rfl : n = 3 := by simpa using h1
    have hw : Cond.constantLong (amOwn q.2.2.2.2.1) kk v ∈ lw_tbl := by
      unfold amKJ at hk
      cases hf : amKj.find? (fun e => e.1 == q.2.2.2.2.1 && e.2.1 == kk) with
      | none => rw [hf] at hk; cases hk
      | some z =>
        rw [hf] at hk
        cases hk
        have h2 := List.find?_some hf
        simp only [Bool.and_eq_true, beq_iff_eq] at h2
        have h3 := amKj_wd (List.mem_of_find?_eq_some hf)
        rw [h2.1, h2.2] at h3
        exact h3
    exact lv_ldc2 hx hb hown (hts _ (amW_in hw rfl)) hdg (k ls H locs cells slots hl hL hR hS hc hs)
theorem sn_iload {kk : Nat} (Cx : amCx p s m args meth c b bS D dA q) (hl : amLR b bS ls L) (hL : L.length = q.2.2.1) (hR : amRep b bS D dA s st H) (hS : va_S (fun a => b ≤ a) s.heap H locs) (hc : cells + c0 = amCN st) (hs : slots + s0 = amSN st) (hdg : decode q.2.1 pc = .ok (.iload kk, n)) (h : amStep CALL q pc (.iload kk) n L S st = some N) (k : amCont p l e R s m args below meth c Q b bS D dA q c0 s0 N) : W p l e R s m args below meth c H locs cells slots Q (F0 m pc ls (S.map (amCv b bS))) := by
  obtain ⟨hx, hb, hml, hown, hts, hKn, hbs, hbz, hini⟩ := Cx
  obtain ⟨x, hg, h1, rfl⟩ := amLda_inv h
  obtain rfl : n = 2 := by simpa using h1
  exact lv_iload hx hb hdg (hl.at hg) (k ls H locs cells slots hl hL hR hS hc hs)
theorem sn_iload_n {kk : Fin 4} (Cx : amCx p s m args meth c b bS D dA q) (hl : amLR b bS ls L) (hL : L.length = q.2.2.1) (hR : amRep b bS D dA s st H) (hS : va_S (fun a => b ≤ a) s.heap H locs) (hc : cells + c0 = amCN st) (hs : slots + s0 = amSN st) (hdg : decode q.2.1 pc = .ok (.iload_n kk, n)) (h : amStep CALL q pc (.iload_n kk) n L S st = some N) (k : amCont p l e R s m args below meth c Q b bS D dA q c0 s0 N) : W p l e R s m args below meth c H locs cells slots Q (F0 m pc ls (S.map (amCv b bS))) := by
  obtain ⟨hx, hb, hml, hown, hts, hKn, hbs, hbz, hini⟩ := Cx
  obtain ⟨x, hg, h1, rfl⟩ := amLda_inv h
  obtain rfl : n = 1 := by simpa using h1
  exact lv_iload_n hx hb hdg rfl (hl.at hg) (k ls H locs cells slots hl hL hR hS hc hs)
theorem sn_lload {kk : Nat} (Cx : amCx p s m args meth c b bS D dA q) (hl : amLR b bS ls L) (hL : L.length = q.2.2.1) (hR : amRep b bS D dA s st H) (hS : va_S (fun a => b ≤ a) s.heap H locs) (hc : cells + c0 = amCN st) (hs : slots + s0 = amSN st) (hdg : decode q.2.1 pc = .ok (.lload kk, n)) (h : amStep CALL q pc (.lload kk) n L S st = some N) (k : amCont p l e R s m args below meth c Q b bS D dA q c0 s0 N) : W p l e R s m args below meth c H locs cells slots Q (F0 m pc ls (S.map (amCv b bS))) := by
  obtain ⟨hx, hb, hml, hown, hts, hKn, hbs, hbz, hini⟩ := Cx
  obtain ⟨x, hg, h1, rfl⟩ := amLdl_inv h
  obtain rfl : n = 2 := by simpa using h1
  exact lv_lload hx hb hdg (hl.at hg) (k ls H locs cells slots hl hL hR hS hc hs)
theorem sn_lload_n {kk : Fin 4} (Cx : amCx p s m args meth c b bS D dA q) (hl : amLR b bS ls L) (hL : L.length = q.2.2.1) (hR : amRep b bS D dA s st H) (hS : va_S (fun a => b ≤ a) s.heap H locs) (hc : cells + c0 = amCN st) (hs : slots + s0 = amSN st) (hdg : decode q.2.1 pc = .ok (.lload_n kk, n)) (h : amStep CALL q pc (.lload_n kk) n L S st = some N) (k : amCont p l e R s m args below meth c Q b bS D dA q c0 s0 N) : W p l e R s m args below meth c H locs cells slots Q (F0 m pc ls (S.map (amCv b bS))) := by
  obtain ⟨hx, hb, hml, hown, hts, hKn, hbs, hbz, hini⟩ := Cx
  obtain ⟨x, hg, h1, rfl⟩ := amLdl_inv h
  obtain rfl : n = 1 := by simpa using h1
  exact lv_lload_n hx hb hdg rfl (hl.at hg) (k ls H locs cells slots hl hL hR hS hc hs)
theorem sn_aload {kk : Nat} (Cx : amCx p s m args meth c b bS D dA q) (hl : amLR b bS ls L) (hL : L.length = q.2.2.1) (hR : amRep b bS D dA s st H) (hS : va_S (fun a => b ≤ a) s.heap H locs) (hc : cells + c0 = amCN st) (hs : slots + s0 = amSN st) (hdg : decode q.2.1 pc = .ok (.aload kk, n)) (h : amStep CALL q pc (.aload kk) n L S st = some N) (k : amCont p l e R s m args below meth c Q b bS D dA q c0 s0 N) : W p l e R s m args below meth c H locs cells slots Q (F0 m pc ls (S.map (amCv b bS))) := by
  obtain ⟨hx, hb, hml, hown, hts, hKn, hbs, hbz, hini⟩ := Cx
  obtain ⟨rc, ri, hg, h1, rfl⟩ := amLdr_inv h
  obtain rfl : n = 2 := by simpa using h1
  exact lv_aload hx hb hdg (hl.at hg) (k ls H locs cells slots hl hL hR hS hc hs)
theorem sn_aload_n {kk : Fin 4} (Cx : amCx p s m args meth c b bS D dA q) (hl : amLR b bS ls L) (hL : L.length = q.2.2.1) (hR : amRep b bS D dA s st H) (hS : va_S (fun a => b ≤ a) s.heap H locs) (hc : cells + c0 = amCN st) (hs : slots + s0 = amSN st) (hdg : decode q.2.1 pc = .ok (.aload_n kk, n)) (h : amStep CALL q pc (.aload_n kk) n L S st = some N) (k : amCont p l e R s m args below meth c Q b bS D dA q c0 s0 N) : W p l e R s m args below meth c H locs cells slots Q (F0 m pc ls (S.map (amCv b bS))) := by
  obtain ⟨hx, hb, hml, hown, hts, hKn, hbs, hbz, hini⟩ := Cx
  obtain ⟨rc, ri, hg, h1, rfl⟩ := amLdr_inv h
  obtain rfl : n = 1 := by simpa using h1
  exact lv_aload_n hx hb hdg rfl (hl.at hg) (k ls H locs cells slots hl hL hR hS hc hs)
theorem sn_istore {kk : Nat} (Cx : amCx p s m args meth c b bS D dA q) (hl : amLR b bS ls L) (hL : L.length = q.2.2.1) (hR : amRep b bS D dA s st H) (hS : va_S (fun a => b ≤ a) s.heap H locs) (hc : cells + c0 = amCN st) (hs : slots + s0 = amSN st) (hdg : decode q.2.1 pc = .ok (.istore kk, n)) (h : amStep CALL q pc (.istore kk) n L S st = some N) (k : amCont p l e R s m args below meth c Q b bS D dA q c0 s0 N) : W p l e R s m args below meth c H locs cells slots Q (F0 m pc ls (S.map (amCv b bS))) := by
  obtain ⟨hx, hb, hml, hown, hts, hKn, hbs, hbz, hini⟩ := Cx
  obtain ⟨x, S, rfl, h1, hk, rfl⟩ := amSta_inv h
  obtain rfl : n = 2 := by simpa using h1
  refine lv_istore hx hb hdg (hl.has hL) (by rw [← hL]; exact hk) rfl (fun ls' hl' => ?_)
  exact k ls' H locs cells slots (amLR.st1 hL hl') (by show (setL L _ _).length = _; rw [setL_length]; exact hL) hR hS hc hs
theorem sn_istore_n {kk : Fin 4} (Cx : amCx p s m args meth c b bS D dA q) (hl : amLR b bS ls L) (hL : L.length = q.2.2.1) (hR : amRep b bS D dA s st H) (hS : va_S (fun a => b ≤ a) s.heap H locs) (hc : cells + c0 = amCN st) (hs : slots + s0 = amSN st) (hdg : decode q.2.1 pc = .ok (.istore_n kk, n)) (h : amStep CALL q pc (.istore_n kk) n L S st = some N) (k : amCont p l e R s m args below meth c Q b bS D dA q c0 s0 N) : W p l e R s m args below meth c H locs cells slots Q (F0 m pc ls (S.map (amCv b bS))) := by
  obtain ⟨hx, hb, hml, hown, hts, hKn, hbs, hbz, hini⟩ := Cx
  obtain ⟨x, S, rfl, h1, hk, rfl⟩ := amSta_inv h
  obtain rfl : n = 1 := by simpa using h1
  refine lv_istore_n hx hb hdg rfl (hl.has hL) (by rw [← hL]; exact hk) rfl (fun ls' hl' => ?_)
  exact k ls' H locs cells slots (amLR.st1 hL hl') (by show (setL L _ _).length = _; rw [setL_length]; exact hL) hR hS hc hs
theorem sn_lstore {kk : Nat} (Cx : amCx p s m args meth c b bS D dA q) (hl : amLR b bS ls L) (hL : L.length = q.2.2.1) (hR : amRep b bS D dA s st H) (hS : va_S (fun a => b ≤ a) s.heap H locs) (hc : cells + c0 = amCN st) (hs : slots + s0 = amSN st) (hdg : decode q.2.1 pc = .ok (.lstore kk, n)) (h : amStep CALL q pc (.lstore kk) n L S st = some N) (k : amCont p l e R s m args below meth c Q b bS D dA q c0 s0 N) : W p l e R s m args below meth c H locs cells slots Q (F0 m pc ls (S.map (amCv b bS))) := by
  obtain ⟨hx, hb, hml, hown, hts, hKn, hbs, hbz, hini⟩ := Cx
  obtain ⟨x, S, rfl, h1, hk, rfl⟩ := amStl_inv h
  obtain rfl : n = 2 := by simpa using h1
  refine lv_lstore hx hb hdg (hl.has hL) (by rw [← hL]; exact hk) rfl (fun ls' hl' => ?_)
  exact k ls' H locs cells slots (amLR.st2 hL hl') (by show ((setL L _ _).set _ none).length = _; rw [List.length_set, setL_length]; exact hL) hR hS hc hs
theorem sn_lstore_n {kk : Fin 4} (Cx : amCx p s m args meth c b bS D dA q) (hl : amLR b bS ls L) (hL : L.length = q.2.2.1) (hR : amRep b bS D dA s st H) (hS : va_S (fun a => b ≤ a) s.heap H locs) (hc : cells + c0 = amCN st) (hs : slots + s0 = amSN st) (hdg : decode q.2.1 pc = .ok (.lstore_n kk, n)) (h : amStep CALL q pc (.lstore_n kk) n L S st = some N) (k : amCont p l e R s m args below meth c Q b bS D dA q c0 s0 N) : W p l e R s m args below meth c H locs cells slots Q (F0 m pc ls (S.map (amCv b bS))) := by
  obtain ⟨hx, hb, hml, hown, hts, hKn, hbs, hbz, hini⟩ := Cx
  obtain ⟨x, S, rfl, h1, hk, rfl⟩ := amStl_inv h
  obtain rfl : n = 1 := by simpa using h1
  refine lv_lstore_n hx hb hdg rfl (hl.has hL) (by rw [← hL]; exact hk) rfl (fun ls' hl' => ?_)
  exact k ls' H locs cells slots (amLR.st2 hL hl') (by show ((setL L _ _).set _ none).length = _; rw [List.length_set, setL_length]; exact hL) hR hS hc hs
theorem sn_astore {kk : Nat} (Cx : amCx p s m args meth c b bS D dA q) (hl : amLR b bS ls L) (hL : L.length = q.2.2.1) (hR : amRep b bS D dA s st H) (hS : va_S (fun a => b ≤ a) s.heap H locs) (hc : cells + c0 = amCN st) (hs : slots + s0 = amSN st) (hdg : decode q.2.1 pc = .ok (.astore kk, n)) (h : amStep CALL q pc (.astore kk) n L S st = some N) (k : amCont p l e R s m args below meth c Q b bS D dA q c0 s0 N) : W p l e R s m args below meth c H locs cells slots Q (F0 m pc ls (S.map (amCv b bS))) := by
  obtain ⟨hx, hb, hml, hown, hts, hKn, hbs, hbz, hini⟩ := Cx
  obtain ⟨rc, ri, S, rfl, h1, hk, rfl⟩ := amStr_inv h
  obtain rfl : n = 2 := by simpa using h1
  refine lv_astore hx hb hdg (hl.has hL) (by rw [← hL]; exact hk) rfl (fun ls' hl' => ?_)
  exact k ls' H locs cells slots (amLR.st1 hL hl') (by show (setL L _ _).length = _; rw [setL_length]; exact hL) hR hS hc hs
theorem sn_astore_n {kk : Fin 4} (Cx : amCx p s m args meth c b bS D dA q) (hl : amLR b bS ls L) (hL : L.length = q.2.2.1) (hR : amRep b bS D dA s st H) (hS : va_S (fun a => b ≤ a) s.heap H locs) (hc : cells + c0 = amCN st) (hs : slots + s0 = amSN st) (hdg : decode q.2.1 pc = .ok (.astore_n kk, n)) (h : amStep CALL q pc (.astore_n kk) n L S st = some N) (k : amCont p l e R s m args below meth c Q b bS D dA q c0 s0 N) : W p l e R s m args below meth c H locs cells slots Q (F0 m pc ls (S.map (amCv b bS))) := by
  obtain ⟨hx, hb, hml, hown, hts, hKn, hbs, hbz, hini⟩ := Cx
  obtain ⟨rc, ri, S, rfl, h1, hk, rfl⟩ := amStr_inv h
  obtain rfl : n = 1 := by simpa using h1
  refine lv_astore_n hx hb hdg rfl (hl.has hL) (by rw [← hL]; exact hk) rfl (fun ls' hl' => ?_)
  exact k ls' H locs cells slots (amLR.st1 hL hl') (by show (setL L _ _).length = _; rw [setL_length]; exact hL) hR hS hc hs
theorem sn_iinc {kk : Nat} {dd : Int} (Cx : amCx p s m args meth c b bS D dA q) (hl : amLR b bS ls L) (hL : L.length = q.2.2.1) (hR : amRep b bS D dA s st H) (hS : va_S (fun a => b ≤ a) s.heap H locs) (hc : cells + c0 = amCN st) (hs : slots + s0 = amSN st) (hdg : decode q.2.1 pc = .ok (.iinc kk dd, n)) (h : amStep CALL q pc (.iinc kk dd) n L S st = some N) (k : amCont p l e R s m args below meth c Q b bS D dA q c0 s0 N) : W p l e R s m args below meth c H locs cells slots Q (F0 m pc ls (S.map (amCv b bS))) := by
  obtain ⟨hx, hb, hml, hown, hts, hKn, hbs, hbz, hini⟩ := Cx
  dsimp only [amStep] at h
  split at h
  · rename_i x hg
    obtain ⟨h1, rfl⟩ := amGo_inv h
    rw [Bool.and_eq_true] at h1
    obtain ⟨h1, hk⟩ := h1
    have hk : kk < L.length := of_decide_eq_true hk
    obtain rfl : n = 3 := by simpa using h1
    obtain ⟨z, hz⟩ := List.getElem?_of_mem (amKl2_in (b := b) (bS := bS) (getL_some hg))
    refine lv_iinc (x := x) (k := z) hx hb hdg (hl.has hL) hz rfl (by rw [← hL]; exact hk) rfl (fun ls' hl' => ?_)
    exact k ls' H locs cells slots (amLR.st1 (v := vI (x + Int32.ofInt dd)) hL hl') (by show (setL L _ _).length = _; rw [setL_length]; exact hL) hR hS hc hs
  · cases h
theorem sn_iadd  (Cx : amCx p s m args meth c b bS D dA q) (hl : amLR b bS ls L) (hL : L.length = q.2.2.1) (hR : amRep b bS D dA s st H) (hS : va_S (fun a => b ≤ a) s.heap H locs) (hc : cells + c0 = amCN st) (hs : slots + s0 = amSN st) (hdg : decode q.2.1 pc = .ok (.iadd, n)) (h : amStep CALL q pc (.iadd) n L S st = some N) (k : amCont p l e R s m args below meth c Q b bS D dA q c0 s0 N) : W p l e R s m args below meth c H locs cells slots Q (F0 m pc ls (S.map (amCv b bS))) := by
  obtain ⟨hx, hb, hml, hown, hts, hKn, hbs, hbz, hini⟩ := Cx
  obtain ⟨x, y, S, rfl, h1, rfl⟩ := amBin_inv h
  obtain rfl : n = 1 := by simpa using h1
  exact lv_iadd hx hb hdg (k ls H locs cells slots hl hL hR hS hc hs)
theorem sn_isub  (Cx : amCx p s m args meth c b bS D dA q) (hl : amLR b bS ls L) (hL : L.length = q.2.2.1) (hR : amRep b bS D dA s st H) (hS : va_S (fun a => b ≤ a) s.heap H locs) (hc : cells + c0 = amCN st) (hs : slots + s0 = amSN st) (hdg : decode q.2.1 pc = .ok (.isub, n)) (h : amStep CALL q pc (.isub) n L S st = some N) (k : amCont p l e R s m args below meth c Q b bS D dA q c0 s0 N) : W p l e R s m args below meth c H locs cells slots Q (F0 m pc ls (S.map (amCv b bS))) := by
  obtain ⟨hx, hb, hml, hown, hts, hKn, hbs, hbz, hini⟩ := Cx
  obtain ⟨x, y, S, rfl, h1, rfl⟩ := amBin_inv h
  obtain rfl : n = 1 := by simpa using h1
  exact lv_isub hx hb hdg (k ls H locs cells slots hl hL hR hS hc hs)
theorem sn_imul  (Cx : amCx p s m args meth c b bS D dA q) (hl : amLR b bS ls L) (hL : L.length = q.2.2.1) (hR : amRep b bS D dA s st H) (hS : va_S (fun a => b ≤ a) s.heap H locs) (hc : cells + c0 = amCN st) (hs : slots + s0 = amSN st) (hdg : decode q.2.1 pc = .ok (.imul, n)) (h : amStep CALL q pc (.imul) n L S st = some N) (k : amCont p l e R s m args below meth c Q b bS D dA q c0 s0 N) : W p l e R s m args below meth c H locs cells slots Q (F0 m pc ls (S.map (amCv b bS))) := by
  obtain ⟨hx, hb, hml, hown, hts, hKn, hbs, hbz, hini⟩ := Cx
  obtain ⟨x, y, S, rfl, h1, rfl⟩ := amBin_inv h
  obtain rfl : n = 1 := by simpa using h1
  exact lv_imul hx hb hdg (k ls H locs cells slots hl hL hR hS hc hs)
theorem sn_iand  (Cx : amCx p s m args meth c b bS D dA q) (hl : amLR b bS ls L) (hL : L.length = q.2.2.1) (hR : amRep b bS D dA s st H) (hS : va_S (fun a => b ≤ a) s.heap H locs) (hc : cells + c0 = amCN st) (hs : slots + s0 = amSN st) (hdg : decode q.2.1 pc = .ok (.iand, n)) (h : amStep CALL q pc (.iand) n L S st = some N) (k : amCont p l e R s m args below meth c Q b bS D dA q c0 s0 N) : W p l e R s m args below meth c H locs cells slots Q (F0 m pc ls (S.map (amCv b bS))) := by
  obtain ⟨hx, hb, hml, hown, hts, hKn, hbs, hbz, hini⟩ := Cx
  obtain ⟨x, y, S, rfl, h1, rfl⟩ := amBin_inv h
  obtain rfl : n = 1 := by simpa using h1
  exact lv_iand hx hb hdg (k ls H locs cells slots hl hL hR hS hc hs)
theorem sn_ior  (Cx : amCx p s m args meth c b bS D dA q) (hl : amLR b bS ls L) (hL : L.length = q.2.2.1) (hR : amRep b bS D dA s st H) (hS : va_S (fun a => b ≤ a) s.heap H locs) (hc : cells + c0 = amCN st) (hs : slots + s0 = amSN st) (hdg : decode q.2.1 pc = .ok (.ior, n)) (h : amStep CALL q pc (.ior) n L S st = some N) (k : amCont p l e R s m args below meth c Q b bS D dA q c0 s0 N) : W p l e R s m args below meth c H locs cells slots Q (F0 m pc ls (S.map (amCv b bS))) := by
  obtain ⟨hx, hb, hml, hown, hts, hKn, hbs, hbz, hini⟩ := Cx
  obtain ⟨x, y, S, rfl, h1, rfl⟩ := amBin_inv h
  obtain rfl : n = 1 := by simpa using h1
  exact lv_ior hx hb hdg (k ls H locs cells slots hl hL hR hS hc hs)
theorem sn_ixor  (Cx : amCx p s m args meth c b bS D dA q) (hl : amLR b bS ls L) (hL : L.length = q.2.2.1) (hR : amRep b bS D dA s st H) (hS : va_S (fun a => b ≤ a) s.heap H locs) (hc : cells + c0 = amCN st) (hs : slots + s0 = amSN st) (hdg : decode q.2.1 pc = .ok (.ixor, n)) (h : amStep CALL q pc (.ixor) n L S st = some N) (k : amCont p l e R s m args below meth c Q b bS D dA q c0 s0 N) : W p l e R s m args below meth c H locs cells slots Q (F0 m pc ls (S.map (amCv b bS))) := by
  obtain ⟨hx, hb, hml, hown, hts, hKn, hbs, hbz, hini⟩ := Cx
  obtain ⟨x, y, S, rfl, h1, rfl⟩ := amBin_inv h
  obtain rfl : n = 1 := by simpa using h1
  exact lv_ixor hx hb hdg (k ls H locs cells slots hl hL hR hS hc hs)
theorem sn_ishl  (Cx : amCx p s m args meth c b bS D dA q) (hl : amLR b bS ls L) (hL : L.length = q.2.2.1) (hR : amRep b bS D dA s st H) (hS : va_S (fun a => b ≤ a) s.heap H locs) (hc : cells + c0 = amCN st) (hs : slots + s0 = amSN st) (hdg : decode q.2.1 pc = .ok (.ishl, n)) (h : amStep CALL q pc (.ishl) n L S st = some N) (k : amCont p l e R s m args below meth c Q b bS D dA q c0 s0 N) : W p l e R s m args below meth c H locs cells slots Q (F0 m pc ls (S.map (amCv b bS))) := by
  obtain ⟨hx, hb, hml, hown, hts, hKn, hbs, hbz, hini⟩ := Cx
  obtain ⟨x, y, S, rfl, h1, rfl⟩ := amBin_inv h
  obtain rfl : n = 1 := by simpa using h1
  exact lv_ishl hx hb hdg (k ls H locs cells slots hl hL hR hS hc hs)
theorem sn_ishr  (Cx : amCx p s m args meth c b bS D dA q) (hl : amLR b bS ls L) (hL : L.length = q.2.2.1) (hR : amRep b bS D dA s st H) (hS : va_S (fun a => b ≤ a) s.heap H locs) (hc : cells + c0 = amCN st) (hs : slots + s0 = amSN st) (hdg : decode q.2.1 pc = .ok (.ishr, n)) (h : amStep CALL q pc (.ishr) n L S st = some N) (k : amCont p l e R s m args below meth c Q b bS D dA q c0 s0 N) : W p l e R s m args below meth c H locs cells slots Q (F0 m pc ls (S.map (amCv b bS))) := by
  obtain ⟨hx, hb, hml, hown, hts, hKn, hbs, hbz, hini⟩ := Cx
  obtain ⟨x, y, S, rfl, h1, rfl⟩ := amBin_inv h
  obtain rfl : n = 1 := by simpa using h1
  exact lv_ishr hx hb hdg (k ls H locs cells slots hl hL hR hS hc hs)
theorem sn_iushr  (Cx : amCx p s m args meth c b bS D dA q) (hl : amLR b bS ls L) (hL : L.length = q.2.2.1) (hR : amRep b bS D dA s st H) (hS : va_S (fun a => b ≤ a) s.heap H locs) (hc : cells + c0 = amCN st) (hs : slots + s0 = amSN st) (hdg : decode q.2.1 pc = .ok (.iushr, n)) (h : amStep CALL q pc (.iushr) n L S st = some N) (k : amCont p l e R s m args below meth c Q b bS D dA q c0 s0 N) : W p l e R s m args below meth c H locs cells slots Q (F0 m pc ls (S.map (amCv b bS))) := by
  obtain ⟨hx, hb, hml, hown, hts, hKn, hbs, hbz, hini⟩ := Cx
  obtain ⟨x, y, S, rfl, h1, rfl⟩ := amBin_inv h
  obtain rfl : n = 1 := by simpa using h1
  exact lv_iushr hx hb hdg rfl (k ls H locs cells slots hl hL hR hS hc hs)
theorem sn_idiv  (Cx : amCx p s m args meth c b bS D dA q) (hl : amLR b bS ls L) (hL : L.length = q.2.2.1) (hR : amRep b bS D dA s st H) (hS : va_S (fun a => b ≤ a) s.heap H locs) (hc : cells + c0 = amCN st) (hs : slots + s0 = amSN st) (hdg : decode q.2.1 pc = .ok (.idiv, n)) (h : amStep CALL q pc (.idiv) n L S st = some N) (k : amCont p l e R s m args below meth c Q b bS D dA q c0 s0 N) : W p l e R s m args below meth c H locs cells slots Q (F0 m pc ls (S.map (amCv b bS))) := by
  obtain ⟨hx, hb, hml, hown, hts, hKn, hbs, hbz, hini⟩ := Cx
  obtain ⟨x, y, S, rfl, h1, hy, rfl⟩ := amDiv_inv h
  obtain rfl : n = 1 := by simpa using h1
  exact lv_idiv hx hb hdg hy (k ls H locs cells slots hl hL hR hS hc hs)
theorem sn_irem  (Cx : amCx p s m args meth c b bS D dA q) (hl : amLR b bS ls L) (hL : L.length = q.2.2.1) (hR : amRep b bS D dA s st H) (hS : va_S (fun a => b ≤ a) s.heap H locs) (hc : cells + c0 = amCN st) (hs : slots + s0 = amSN st) (hdg : decode q.2.1 pc = .ok (.irem, n)) (h : amStep CALL q pc (.irem) n L S st = some N) (k : amCont p l e R s m args below meth c Q b bS D dA q c0 s0 N) : W p l e R s m args below meth c H locs cells slots Q (F0 m pc ls (S.map (amCv b bS))) := by
  obtain ⟨hx, hb, hml, hown, hts, hKn, hbs, hbz, hini⟩ := Cx
  obtain ⟨x, y, S, rfl, h1, hy, rfl⟩ := amDiv_inv h
  obtain rfl : n = 1 := by simpa using h1
  exact lv_irem hx hb hdg hy (k ls H locs cells slots hl hL hR hS hc hs)
theorem sn_ineg  (Cx : amCx p s m args meth c b bS D dA q) (hl : amLR b bS ls L) (hL : L.length = q.2.2.1) (hR : amRep b bS D dA s st H) (hS : va_S (fun a => b ≤ a) s.heap H locs) (hc : cells + c0 = amCN st) (hs : slots + s0 = amSN st) (hdg : decode q.2.1 pc = .ok (.ineg, n)) (h : amStep CALL q pc (.ineg) n L S st = some N) (k : amCont p l e R s m args below meth c Q b bS D dA q c0 s0 N) : W p l e R s m args below meth c H locs cells slots Q (F0 m pc ls (S.map (amCv b bS))) := by
  obtain ⟨hx, hb, hml, hown, hts, hKn, hbs, hbz, hini⟩ := Cx
  obtain ⟨x, S, rfl, h1, rfl⟩ := amUn_inv h
  obtain rfl : n = 1 := by simpa using h1
  exact lv_ineg hx hb hdg (k ls H locs cells slots hl hL hR hS hc hs)
theorem sn_i2b  (Cx : amCx p s m args meth c b bS D dA q) (hl : amLR b bS ls L) (hL : L.length = q.2.2.1) (hR : amRep b bS D dA s st H) (hS : va_S (fun a => b ≤ a) s.heap H locs) (hc : cells + c0 = amCN st) (hs : slots + s0 = amSN st) (hdg : decode q.2.1 pc = .ok (.i2b, n)) (h : amStep CALL q pc (.i2b) n L S st = some N) (k : amCont p l e R s m args below meth c Q b bS D dA q c0 s0 N) : W p l e R s m args below meth c H locs cells slots Q (F0 m pc ls (S.map (amCv b bS))) := by
  obtain ⟨hx, hb, hml, hown, hts, hKn, hbs, hbz, hini⟩ := Cx
  obtain ⟨x, S, rfl, h1, rfl⟩ := amUn_inv h
  obtain rfl : n = 1 := by simpa using h1
  exact lv_i2b hx hb hdg rfl (k ls H locs cells slots hl hL hR hS hc hs)
theorem sn_i2s  (Cx : amCx p s m args meth c b bS D dA q) (hl : amLR b bS ls L) (hL : L.length = q.2.2.1) (hR : amRep b bS D dA s st H) (hS : va_S (fun a => b ≤ a) s.heap H locs) (hc : cells + c0 = amCN st) (hs : slots + s0 = amSN st) (hdg : decode q.2.1 pc = .ok (.i2s, n)) (h : amStep CALL q pc (.i2s) n L S st = some N) (k : amCont p l e R s m args below meth c Q b bS D dA q c0 s0 N) : W p l e R s m args below meth c H locs cells slots Q (F0 m pc ls (S.map (amCv b bS))) := by
  obtain ⟨hx, hb, hml, hown, hts, hKn, hbs, hbz, hini⟩ := Cx
  obtain ⟨x, S, rfl, h1, rfl⟩ := amUn_inv h
  obtain rfl : n = 1 := by simpa using h1
  exact lv_i2s hx hb hdg rfl (k ls H locs cells slots hl hL hR hS hc hs)
theorem sn_i2l  (Cx : amCx p s m args meth c b bS D dA q) (hl : amLR b bS ls L) (hL : L.length = q.2.2.1) (hR : amRep b bS D dA s st H) (hS : va_S (fun a => b ≤ a) s.heap H locs) (hc : cells + c0 = amCN st) (hs : slots + s0 = amSN st) (hdg : decode q.2.1 pc = .ok (.i2l, n)) (h : amStep CALL q pc (.i2l) n L S st = some N) (k : amCont p l e R s m args below meth c Q b bS D dA q c0 s0 N) : W p l e R s m args below meth c H locs cells slots Q (F0 m pc ls (S.map (amCv b bS))) := by
  obtain ⟨hx, hb, hml, hown, hts, hKn, hbs, hbz, hini⟩ := Cx
  obtain ⟨x, S, rfl, h1, rfl⟩ := amUn_inv h
  obtain rfl : n = 1 := by simpa using h1
  exact lv_i2l hx hb hdg rfl (k ls H locs cells slots hl hL hR hS hc hs)
theorem sn_l2i  (Cx : amCx p s m args meth c b bS D dA q) (hl : amLR b bS ls L) (hL : L.length = q.2.2.1) (hR : amRep b bS D dA s st H) (hS : va_S (fun a => b ≤ a) s.heap H locs) (hc : cells + c0 = amCN st) (hs : slots + s0 = amSN st) (hdg : decode q.2.1 pc = .ok (.l2i, n)) (h : amStep CALL q pc (.l2i) n L S st = some N) (k : amCont p l e R s m args below meth c Q b bS D dA q c0 s0 N) : W p l e R s m args below meth c H locs cells slots Q (F0 m pc ls (S.map (amCv b bS))) := by
  obtain ⟨hx, hb, hml, hown, hts, hKn, hbs, hbz, hini⟩ := Cx
  dsimp only [amStep] at h
  split at h
  · obtain ⟨h1, rfl⟩ := amGo_inv h
    obtain rfl : n = 1 := by simpa using h1
    exact lv_l2i hx hb hdg rfl (k ls H locs cells slots hl hL hR hS hc hs)
  · cases h
theorem sn_ladd  (Cx : amCx p s m args meth c b bS D dA q) (hl : amLR b bS ls L) (hL : L.length = q.2.2.1) (hR : amRep b bS D dA s st H) (hS : va_S (fun a => b ≤ a) s.heap H locs) (hc : cells + c0 = amCN st) (hs : slots + s0 = amSN st) (hdg : decode q.2.1 pc = .ok (.ladd, n)) (h : amStep CALL q pc (.ladd) n L S st = some N) (k : amCont p l e R s m args below meth c Q b bS D dA q c0 s0 N) : W p l e R s m args below meth c H locs cells slots Q (F0 m pc ls (S.map (amCv b bS))) := by
  obtain ⟨hx, hb, hml, hown, hts, hKn, hbs, hbz, hini⟩ := Cx
  obtain ⟨x, y, S, rfl, h1, rfl⟩ := amBil_inv h
  obtain rfl : n = 1 := by simpa using h1
  exact lv_ladd hx hb hdg (k ls H locs cells slots hl hL hR hS hc hs)
theorem sn_lmul  (Cx : amCx p s m args meth c b bS D dA q) (hl : amLR b bS ls L) (hL : L.length = q.2.2.1) (hR : amRep b bS D dA s st H) (hS : va_S (fun a => b ≤ a) s.heap H locs) (hc : cells + c0 = amCN st) (hs : slots + s0 = amSN st) (hdg : decode q.2.1 pc = .ok (.lmul, n)) (h : amStep CALL q pc (.lmul) n L S st = some N) (k : amCont p l e R s m args below meth c Q b bS D dA q c0 s0 N) : W p l e R s m args below meth c H locs cells slots Q (F0 m pc ls (S.map (amCv b bS))) := by
  obtain ⟨hx, hb, hml, hown, hts, hKn, hbs, hbz, hini⟩ := Cx
  obtain ⟨x, y, S, rfl, h1, rfl⟩ := amBil_inv h
  obtain rfl : n = 1 := by simpa using h1
  exact lv_lmul hx hb hdg (k ls H locs cells slots hl hL hR hS hc hs)
theorem sn_lcmp  (Cx : amCx p s m args meth c b bS D dA q) (hl : amLR b bS ls L) (hL : L.length = q.2.2.1) (hR : amRep b bS D dA s st H) (hS : va_S (fun a => b ≤ a) s.heap H locs) (hc : cells + c0 = amCN st) (hs : slots + s0 = amSN st) (hdg : decode q.2.1 pc = .ok (.lcmp, n)) (h : amStep CALL q pc (.lcmp) n L S st = some N) (k : amCont p l e R s m args below meth c Q b bS D dA q c0 s0 N) : W p l e R s m args below meth c H locs cells slots Q (F0 m pc ls (S.map (amCv b bS))) := by
  obtain ⟨hx, hb, hml, hown, hts, hKn, hbs, hbz, hini⟩ := Cx
  obtain ⟨x, y, S, rfl, h1, rfl⟩ := amBil_inv h
  obtain rfl : n = 1 := by simpa using h1
  exact W.lcmp hx hb hdg (k ls H locs cells slots hl hL hR hS hc hs)
theorem sn_dup  (Cx : amCx p s m args meth c b bS D dA q) (hl : amLR b bS ls L) (hL : L.length = q.2.2.1) (hR : amRep b bS D dA s st H) (hS : va_S (fun a => b ≤ a) s.heap H locs) (hc : cells + c0 = amCN st) (hs : slots + s0 = amSN st) (hdg : decode q.2.1 pc = .ok (.dup, n)) (h : amStep CALL q pc (.dup) n L S st = some N) (k : amCont p l e R s m args below meth c Q b bS D dA q c0 s0 N) : W p l e R s m args below meth c H locs cells slots Q (F0 m pc ls (S.map (amCv b bS))) := by
  obtain ⟨hx, hb, hml, hown, hts, hKn, hbs, hbz, hini⟩ := Cx
  dsimp only [amStep] at h
  split at h
  · obtain ⟨h1, rfl⟩ := amGo_inv h
    rw [Bool.and_eq_true] at h1
    obtain ⟨h1, h2⟩ := h1
    obtain rfl : n = 1 := by simpa using h1
    exact lv_dup hx hb hdg ((amCat_cv b bS _).trans (by simpa using h2)) (k ls H locs cells slots hl hL hR hS hc hs)
  · cases h
theorem sn_pop  (Cx : amCx p s m args meth c b bS D dA q) (hl : amLR b bS ls L) (hL : L.length = q.2.2.1) (hR : amRep b bS D dA s st H) (hS : va_S (fun a => b ≤ a) s.heap H locs) (hc : cells + c0 = amCN st) (hs : slots + s0 = amSN st) (hdg : decode q.2.1 pc = .ok (.pop, n)) (h : amStep CALL q pc (.pop) n L S st = some N) (k : amCont p l e R s m args below meth c Q b bS D dA q c0 s0 N) : W p l e R s m args below meth c H locs cells slots Q (F0 m pc ls (S.map (amCv b bS))) := by
  obtain ⟨hx, hb, hml, hown, hts, hKn, hbs, hbz, hini⟩ := Cx
  dsimp only [amStep] at h
  split at h
  · obtain ⟨h1, rfl⟩ := amGo_inv h
    rw [Bool.and_eq_true] at h1
    obtain ⟨h1, h2⟩ := h1
    obtain rfl : n = 1 := by simpa using h1
    exact lv_pop hx hb hdg ((amCat_cv b bS _).trans (by simpa using h2)) (k ls H locs cells slots hl hL hR hS hc hs)
  · cases h
theorem sn_dup_x1  (Cx : amCx p s m args meth c b bS D dA q) (hl : amLR b bS ls L) (hL : L.length = q.2.2.1) (hR : amRep b bS D dA s st H) (hS : va_S (fun a => b ≤ a) s.heap H locs) (hc : cells + c0 = amCN st) (hs : slots + s0 = amSN st) (hdg : decode q.2.1 pc = .ok (.dup_x1, n)) (h : amStep CALL q pc (.dup_x1) n L S st = some N) (k : amCont p l e R s m args below meth c Q b bS D dA q c0 s0 N) : W p l e R s m args below meth c H locs cells slots Q (F0 m pc ls (S.map (amCv b bS))) := by
  obtain ⟨hx, hb, hml, hown, hts, hKn, hbs, hbz, hini⟩ := Cx
  dsimp only [amStep] at h
  split at h
  · obtain ⟨h1, rfl⟩ := amGo_inv h
    rw [Bool.and_eq_true, Bool.and_eq_true] at h1
    obtain ⟨⟨h1, h2⟩, h3⟩ := h1
    obtain rfl : n = 1 := by simpa using h1
    exact lv_dup_x1 hx hb hdg ((amCat_cv b bS _).trans (by simpa using h2)) ((amCat_cv b bS _).trans (by simpa using h3)) (k ls H locs cells slots hl hL hR hS hc hs)
  · cases h
theorem sn_dup2  (Cx : amCx p s m args meth c b bS D dA q) (hl : amLR b bS ls L) (hL : L.length = q.2.2.1) (hR : amRep b bS D dA s st H) (hS : va_S (fun a => b ≤ a) s.heap H locs) (hc : cells + c0 = amCN st) (hs : slots + s0 = amSN st) (hdg : decode q.2.1 pc = .ok (.dup2, n)) (h : amStep CALL q pc (.dup2) n L S st = some N) (k : amCont p l e R s m args below meth c Q b bS D dA q c0 s0 N) : W p l e R s m args below meth c H locs cells slots Q (F0 m pc ls (S.map (amCv b bS))) := by
  obtain ⟨hx, hb, hml, hown, hts, hKn, hbs, hbz, hini⟩ := Cx
  dsimp only [amStep] at h
  split at h
  · obtain ⟨h1, rfl⟩ := amGo_inv h
    rw [Bool.and_eq_true, Bool.and_eq_true] at h1
    obtain ⟨⟨h1, h2⟩, h3⟩ := h1
    obtain rfl : n = 1 := by simpa using h1
    exact lv_dup2_11 hx hb hdg ((amCat_cv b bS _).trans (by simpa using h2)) ((amCat_cv b bS _).trans (by simpa using h3)) (k ls H locs cells slots hl hL hR hS hc hs)
  · cases h
theorem sn_goto {off : Int} (Cx : amCx p s m args meth c b bS D dA q) (hl : amLR b bS ls L) (hL : L.length = q.2.2.1) (hR : amRep b bS D dA s st H) (hS : va_S (fun a => b ≤ a) s.heap H locs) (hc : cells + c0 = amCN st) (hs : slots + s0 = amSN st) (hdg : decode q.2.1 pc = .ok (.goto off, n)) (h : amStep CALL q pc (.goto off) n L S st = some N) (k : amCont p l e R s m args below meth c Q b bS D dA q c0 s0 N) : W p l e R s m args below meth c H locs cells slots Q (F0 m pc ls (S.map (amCv b bS))) := by
  obtain ⟨hx, hb, hml, hown, hts, hKn, hbs, hbz, hini⟩ := Cx
  obtain ⟨t, ho, h1, rfl⟩ := amJmp_inv h
  obtain rfl : n = 3 := by simpa using h1
  exact lv_goto hx hb hdg (amTo_inv ho) (k ls H locs cells slots hl hL hR hS hc hs)
-- .ifCond .eq off
theorem sn_if_eq {off : Int} (Cx : amCx p s m args meth c b bS D dA q) (hl : amLR b bS ls L) (hL : L.length = q.2.2.1) (hR : amRep b bS D dA s st H) (hS : va_S (fun a => b ≤ a) s.heap H locs) (hc : cells + c0 = amCN st) (hs : slots + s0 = amSN st) (hdg : decode q.2.1 pc = .ok (.ifCond .eq off, n)) (h : amStep CALL q pc (.ifCond .eq off) n L S st = some N) (k : amCont p l e R s m args below meth c Q b bS D dA q c0 s0 N) : W p l e R s m args below meth c H locs cells slots Q (F0 m pc ls (S.map (amCv b bS))) := by
  obtain ⟨hx, hb, hml, hown, hts, hKn, hbs, hbz, hini⟩ := Cx
  dsimp only [amStep] at h
  split at h
  · rename_i x S
    obtain ⟨t, ho, h1, rfl⟩ := amJmp_inv h
    rw [Bool.and_eq_true] at h1
    obtain ⟨h1, hto⟩ := h1
    obtain rfl : n = 3 := by simpa using h1
    have ho : (bif decide (x = 0) then amTo pc off else some (pc + 3)) = some t := ho
    obtain ⟨t2, ht2⟩ := Option.isSome_iff_exists.mp hto
    have ht2 := amTo_inv ht2
    by_cases hq : x = 0
    · rw [decide_eq_true hq] at ho
      exact lv_if_eq (tgt := t) hx hb hdg (amTo_inv ho) (fun _ => (k ls H locs cells slots hl hL hR hS hc hs)) (fun h9 => absurd hq h9)
    · rw [decide_eq_false hq] at ho
      cases ho
      exact lv_if_eq (tgt := t2) hx hb hdg ht2 (fun h9 => absurd h9 hq) (fun _ => (k ls H locs cells slots hl hL hR hS hc hs))
  · cases h
-- .if_icmp .eq off
theorem sn_icmp_eq {off : Int} (Cx : amCx p s m args meth c b bS D dA q) (hl : amLR b bS ls L) (hL : L.length = q.2.2.1) (hR : amRep b bS D dA s st H) (hS : va_S (fun a => b ≤ a) s.heap H locs) (hc : cells + c0 = amCN st) (hs : slots + s0 = amSN st) (hdg : decode q.2.1 pc = .ok (.if_icmp .eq off, n)) (h : amStep CALL q pc (.if_icmp .eq off) n L S st = some N) (k : amCont p l e R s m args below meth c Q b bS D dA q c0 s0 N) : W p l e R s m args below meth c H locs cells slots Q (F0 m pc ls (S.map (amCv b bS))) := by
  obtain ⟨hx, hb, hml, hown, hts, hKn, hbs, hbz, hini⟩ := Cx
  dsimp only [amStep] at h
  split at h
  · rename_i y x S
    obtain ⟨t, ho, h1, rfl⟩ := amJmp_inv h
    rw [Bool.and_eq_true] at h1
    obtain ⟨h1, hto⟩ := h1
    obtain rfl : n = 3 := by simpa using h1
    have ho : (bif decide (x = y) then amTo pc off else some (pc + 3)) = some t := ho
    obtain ⟨t2, ht2⟩ := Option.isSome_iff_exists.mp hto
    have ht2 := amTo_inv ht2
    by_cases hq : x = y
    · rw [decide_eq_true hq] at ho
      exact lv_icmp_eq (tgt := t) hx hb hdg (amTo_inv ho) (fun _ => (k ls H locs cells slots hl hL hR hS hc hs)) (fun h9 => absurd hq h9)
    · rw [decide_eq_false hq] at ho
      cases ho
      exact lv_icmp_eq (tgt := t2) hx hb hdg ht2 (fun h9 => absurd h9 hq) (fun _ => (k ls H locs cells slots hl hL hR hS hc hs))
  · cases h
-- .ifCond .ne off
theorem sn_if_ne {off : Int} (Cx : amCx p s m args meth c b bS D dA q) (hl : amLR b bS ls L) (hL : L.length = q.2.2.1) (hR : amRep b bS D dA s st H) (hS : va_S (fun a => b ≤ a) s.heap H locs) (hc : cells + c0 = amCN st) (hs : slots + s0 = amSN st) (hdg : decode q.2.1 pc = .ok (.ifCond .ne off, n)) (h : amStep CALL q pc (.ifCond .ne off) n L S st = some N) (k : amCont p l e R s m args below meth c Q b bS D dA q c0 s0 N) : W p l e R s m args below meth c H locs cells slots Q (F0 m pc ls (S.map (amCv b bS))) := by
  obtain ⟨hx, hb, hml, hown, hts, hKn, hbs, hbz, hini⟩ := Cx
  dsimp only [amStep] at h
  split at h
  · rename_i x S
    obtain ⟨t, ho, h1, rfl⟩ := amJmp_inv h
    rw [Bool.and_eq_true] at h1
    obtain ⟨h1, hto⟩ := h1
    obtain rfl : n = 3 := by simpa using h1
    have ho : (bif decide (¬ x = 0) then amTo pc off else some (pc + 3)) = some t := ho
    obtain ⟨t2, ht2⟩ := Option.isSome_iff_exists.mp hto
    have ht2 := amTo_inv ht2
    by_cases hq : ¬ x = 0
    · rw [decide_eq_true hq] at ho
      exact lv_if_ne (tgt := t) hx hb hdg (amTo_inv ho) (fun _ => (k ls H locs cells slots hl hL hR hS hc hs)) (fun h9 => absurd h9 hq)
    · rw [decide_eq_false hq] at ho
      cases ho
      exact lv_if_ne (tgt := t2) hx hb hdg ht2 (fun h9 => absurd h9 hq) (fun _ => (k ls H locs cells slots hl hL hR hS hc hs))
  · cases h
-- .if_icmp .ne off
theorem sn_icmp_ne {off : Int} (Cx : amCx p s m args meth c b bS D dA q) (hl : amLR b bS ls L) (hL : L.length = q.2.2.1) (hR : amRep b bS D dA s st H) (hS : va_S (fun a => b ≤ a) s.heap H locs) (hc : cells + c0 = amCN st) (hs : slots + s0 = amSN st) (hdg : decode q.2.1 pc = .ok (.if_icmp .ne off, n)) (h : amStep CALL q pc (.if_icmp .ne off) n L S st = some N) (k : amCont p l e R s m args below meth c Q b bS D dA q c0 s0 N) : W p l e R s m args below meth c H locs cells slots Q (F0 m pc ls (S.map (amCv b bS))) := by
  obtain ⟨hx, hb, hml, hown, hts, hKn, hbs, hbz, hini⟩ := Cx
  dsimp only [amStep] at h
  split at h
  · rename_i y x S
    obtain ⟨t, ho, h1, rfl⟩ := amJmp_inv h
    rw [Bool.and_eq_true] at h1
    obtain ⟨h1, hto⟩ := h1
    obtain rfl : n = 3 := by simpa using h1
    have ho : (bif decide (¬ x = y) then amTo pc off else some (pc + 3)) = some t := ho
    obtain ⟨t2, ht2⟩ := Option.isSome_iff_exists.mp hto
    have ht2 := amTo_inv ht2
    by_cases hq : ¬ x = y
    · rw [decide_eq_true hq] at ho
      exact lv_icmp_ne (tgt := t) hx hb hdg (amTo_inv ho) (fun _ => (k ls H locs cells slots hl hL hR hS hc hs)) (fun h9 => absurd h9 hq)
    · rw [decide_eq_false hq] at ho
      cases ho
      exact lv_icmp_ne (tgt := t2) hx hb hdg ht2 (fun h9 => absurd h9 hq) (fun _ => (k ls H locs cells slots hl hL hR hS hc hs))
  · cases h
-- .ifCond .lt off
theorem sn_if_lt {off : Int} (Cx : amCx p s m args meth c b bS D dA q) (hl : amLR b bS ls L) (hL : L.length = q.2.2.1) (hR : amRep b bS D dA s st H) (hS : va_S (fun a => b ≤ a) s.heap H locs) (hc : cells + c0 = amCN st) (hs : slots + s0 = amSN st) (hdg : decode q.2.1 pc = .ok (.ifCond .lt off, n)) (h : amStep CALL q pc (.ifCond .lt off) n L S st = some N) (k : amCont p l e R s m args below meth c Q b bS D dA q c0 s0 N) : W p l e R s m args below meth c H locs cells slots Q (F0 m pc ls (S.map (amCv b bS))) := by
  obtain ⟨hx, hb, hml, hown, hts, hKn, hbs, hbz, hini⟩ := Cx
  dsimp only [amStep] at h
  split at h
  · rename_i x S
    obtain ⟨t, ho, h1, rfl⟩ := amJmp_inv h
    rw [Bool.and_eq_true] at h1
    obtain ⟨h1, hto⟩ := h1
    obtain rfl : n = 3 := by simpa using h1
    have ho : (bif decide (x < 0) then amTo pc off else some (pc + 3)) = some t := ho
    obtain ⟨t2, ht2⟩ := Option.isSome_iff_exists.mp hto
    have ht2 := amTo_inv ht2
    by_cases hq : x < 0
    · rw [decide_eq_true hq] at ho
      exact lv_if_lt (tgt := t) hx hb hdg (amTo_inv ho) (fun _ => (k ls H locs cells slots hl hL hR hS hc hs)) (fun h9 => absurd hq h9)
    · rw [decide_eq_false hq] at ho
      cases ho
      exact lv_if_lt (tgt := t2) hx hb hdg ht2 (fun h9 => absurd h9 hq) (fun _ => (k ls H locs cells slots hl hL hR hS hc hs))
  · cases h
-- .if_icmp .lt off
theorem sn_icmp_lt {off : Int} (Cx : amCx p s m args meth c b bS D dA q) (hl : amLR b bS ls L) (hL : L.length = q.2.2.1) (hR : amRep b bS D dA s st H) (hS : va_S (fun a => b ≤ a) s.heap H locs) (hc : cells + c0 = amCN st) (hs : slots + s0 = amSN st) (hdg : decode q.2.1 pc = .ok (.if_icmp .lt off, n)) (h : amStep CALL q pc (.if_icmp .lt off) n L S st = some N) (k : amCont p l e R s m args below meth c Q b bS D dA q c0 s0 N) : W p l e R s m args below meth c H locs cells slots Q (F0 m pc ls (S.map (amCv b bS))) := by
  obtain ⟨hx, hb, hml, hown, hts, hKn, hbs, hbz, hini⟩ := Cx
  dsimp only [amStep] at h
  split at h
  · rename_i y x S
    obtain ⟨t, ho, h1, rfl⟩ := amJmp_inv h
    rw [Bool.and_eq_true] at h1
    obtain ⟨h1, hto⟩ := h1
    obtain rfl : n = 3 := by simpa using h1
    have ho : (bif decide (x < y) then amTo pc off else some (pc + 3)) = some t := ho
    obtain ⟨t2, ht2⟩ := Option.isSome_iff_exists.mp hto
    have ht2 := amTo_inv ht2
    by_cases hq : x < y
    · rw [decide_eq_true hq] at ho
      exact lv_icmp_lt (tgt := t) hx hb hdg (amTo_inv ho) (fun _ => (k ls H locs cells slots hl hL hR hS hc hs)) (fun h9 => absurd hq h9)
    · rw [decide_eq_false hq] at ho
      cases ho
      exact lv_icmp_lt (tgt := t2) hx hb hdg ht2 (fun h9 => absurd h9 hq) (fun _ => (k ls H locs cells slots hl hL hR hS hc hs))
  · cases h
-- .ifCond .ge off
theorem sn_if_ge {off : Int} (Cx : amCx p s m args meth c b bS D dA q) (hl : amLR b bS ls L) (hL : L.length = q.2.2.1) (hR : amRep b bS D dA s st H) (hS : va_S (fun a => b ≤ a) s.heap H locs) (hc : cells + c0 = amCN st) (hs : slots + s0 = amSN st) (hdg : decode q.2.1 pc = .ok (.ifCond .ge off, n)) (h : amStep CALL q pc (.ifCond .ge off) n L S st = some N) (k : amCont p l e R s m args below meth c Q b bS D dA q c0 s0 N) : W p l e R s m args below meth c H locs cells slots Q (F0 m pc ls (S.map (amCv b bS))) := by
  obtain ⟨hx, hb, hml, hown, hts, hKn, hbs, hbz, hini⟩ := Cx
  dsimp only [amStep] at h
  split at h
  · rename_i x S
    obtain ⟨t, ho, h1, rfl⟩ := amJmp_inv h
    rw [Bool.and_eq_true] at h1
    obtain ⟨h1, hto⟩ := h1
    obtain rfl : n = 3 := by simpa using h1
    have ho : (bif decide (0 ≤ x) then amTo pc off else some (pc + 3)) = some t := ho
    obtain ⟨t2, ht2⟩ := Option.isSome_iff_exists.mp hto
    have ht2 := amTo_inv ht2
    by_cases hq : 0 ≤ x
    · rw [decide_eq_true hq] at ho
      exact lv_if_ge (tgt := t) hx hb hdg (amTo_inv ho) (fun _ => (k ls H locs cells slots hl hL hR hS hc hs)) (fun h9 => absurd hq h9)
    · rw [decide_eq_false hq] at ho
      cases ho
      exact lv_if_ge (tgt := t2) hx hb hdg ht2 (fun h9 => absurd h9 hq) (fun _ => (k ls H locs cells slots hl hL hR hS hc hs))
  · cases h
-- .if_icmp .ge off
theorem sn_icmp_ge {off : Int} (Cx : amCx p s m args meth c b bS D dA q) (hl : amLR b bS ls L) (hL : L.length = q.2.2.1) (hR : amRep b bS D dA s st H) (hS : va_S (fun a => b ≤ a) s.heap H locs) (hc : cells + c0 = amCN st) (hs : slots + s0 = amSN st) (hdg : decode q.2.1 pc = .ok (.if_icmp .ge off, n)) (h : amStep CALL q pc (.if_icmp .ge off) n L S st = some N) (k : amCont p l e R s m args below meth c Q b bS D dA q c0 s0 N) : W p l e R s m args below meth c H locs cells slots Q (F0 m pc ls (S.map (amCv b bS))) := by
  obtain ⟨hx, hb, hml, hown, hts, hKn, hbs, hbz, hini⟩ := Cx
  dsimp only [amStep] at h
  split at h
  · rename_i y x S
    obtain ⟨t, ho, h1, rfl⟩ := amJmp_inv h
    rw [Bool.and_eq_true] at h1
    obtain ⟨h1, hto⟩ := h1
    obtain rfl : n = 3 := by simpa using h1
    have ho : (bif decide (y ≤ x) then amTo pc off else some (pc + 3)) = some t := ho
    obtain ⟨t2, ht2⟩ := Option.isSome_iff_exists.mp hto
    have ht2 := amTo_inv ht2
    by_cases hq : y ≤ x
    · rw [decide_eq_true hq] at ho
      exact lv_icmp_ge (tgt := t) hx hb hdg (amTo_inv ho) (fun _ => (k ls H locs cells slots hl hL hR hS hc hs)) (fun h9 => absurd hq h9)
    · rw [decide_eq_false hq] at ho
      cases ho
      exact lv_icmp_ge (tgt := t2) hx hb hdg ht2 (fun h9 => absurd h9 hq) (fun _ => (k ls H locs cells slots hl hL hR hS hc hs))
  · cases h
-- .ifCond .gt off
theorem sn_if_gt {off : Int} (Cx : amCx p s m args meth c b bS D dA q) (hl : amLR b bS ls L) (hL : L.length = q.2.2.1) (hR : amRep b bS D dA s st H) (hS : va_S (fun a => b ≤ a) s.heap H locs) (hc : cells + c0 = amCN st) (hs : slots + s0 = amSN st) (hdg : decode q.2.1 pc = .ok (.ifCond .gt off, n)) (h : amStep CALL q pc (.ifCond .gt off) n L S st = some N) (k : amCont p l e R s m args below meth c Q b bS D dA q c0 s0 N) : W p l e R s m args below meth c H locs cells slots Q (F0 m pc ls (S.map (amCv b bS))) := by
  obtain ⟨hx, hb, hml, hown, hts, hKn, hbs, hbz, hini⟩ := Cx
  dsimp only [amStep] at h
  split at h
  · rename_i x S
    obtain ⟨t, ho, h1, rfl⟩ := amJmp_inv h
    rw [Bool.and_eq_true] at h1
    obtain ⟨h1, hto⟩ := h1
    obtain rfl : n = 3 := by simpa using h1
    have ho : (bif decide (0 < x) then amTo pc off else some (pc + 3)) = some t := ho
    obtain ⟨t2, ht2⟩ := Option.isSome_iff_exists.mp hto
    have ht2 := amTo_inv ht2
    by_cases hq : 0 < x
    · rw [decide_eq_true hq] at ho
      exact lv_if_gt (tgt := t) hx hb hdg (amTo_inv ho) (fun _ => (k ls H locs cells slots hl hL hR hS hc hs)) (fun h9 => absurd hq h9)
    · rw [decide_eq_false hq] at ho
      cases ho
      exact lv_if_gt (tgt := t2) hx hb hdg ht2 (fun h9 => absurd h9 hq) (fun _ => (k ls H locs cells slots hl hL hR hS hc hs))
  · cases h
-- .if_icmp .gt off
theorem sn_icmp_gt {off : Int} (Cx : amCx p s m args meth c b bS D dA q) (hl : amLR b bS ls L) (hL : L.length = q.2.2.1) (hR : amRep b bS D dA s st H) (hS : va_S (fun a => b ≤ a) s.heap H locs) (hc : cells + c0 = amCN st) (hs : slots + s0 = amSN st) (hdg : decode q.2.1 pc = .ok (.if_icmp .gt off, n)) (h : amStep CALL q pc (.if_icmp .gt off) n L S st = some N) (k : amCont p l e R s m args below meth c Q b bS D dA q c0 s0 N) : W p l e R s m args below meth c H locs cells slots Q (F0 m pc ls (S.map (amCv b bS))) := by
  obtain ⟨hx, hb, hml, hown, hts, hKn, hbs, hbz, hini⟩ := Cx
  dsimp only [amStep] at h
  split at h
  · rename_i y x S
    obtain ⟨t, ho, h1, rfl⟩ := amJmp_inv h
    rw [Bool.and_eq_true] at h1
    obtain ⟨h1, hto⟩ := h1
    obtain rfl : n = 3 := by simpa using h1
    have ho : (bif decide (y < x) then amTo pc off else some (pc + 3)) = some t := ho
    obtain ⟨t2, ht2⟩ := Option.isSome_iff_exists.mp hto
    have ht2 := amTo_inv ht2
    by_cases hq : y < x
    · rw [decide_eq_true hq] at ho
      exact lv_icmp_gt (tgt := t) hx hb hdg (amTo_inv ho) (fun _ => (k ls H locs cells slots hl hL hR hS hc hs)) (fun h9 => absurd hq h9)
    · rw [decide_eq_false hq] at ho
      cases ho
      exact lv_icmp_gt (tgt := t2) hx hb hdg ht2 (fun h9 => absurd h9 hq) (fun _ => (k ls H locs cells slots hl hL hR hS hc hs))
  · cases h
-- .ifCond .le off
theorem sn_if_le {off : Int} (Cx : amCx p s m args meth c b bS D dA q) (hl : amLR b bS ls L) (hL : L.length = q.2.2.1) (hR : amRep b bS D dA s st H) (hS : va_S (fun a => b ≤ a) s.heap H locs) (hc : cells + c0 = amCN st) (hs : slots + s0 = amSN st) (hdg : decode q.2.1 pc = .ok (.ifCond .le off, n)) (h : amStep CALL q pc (.ifCond .le off) n L S st = some N) (k : amCont p l e R s m args below meth c Q b bS D dA q c0 s0 N) : W p l e R s m args below meth c H locs cells slots Q (F0 m pc ls (S.map (amCv b bS))) := by
  obtain ⟨hx, hb, hml, hown, hts, hKn, hbs, hbz, hini⟩ := Cx
  dsimp only [amStep] at h
  split at h
  · rename_i x S
    obtain ⟨t, ho, h1, rfl⟩ := amJmp_inv h
    rw [Bool.and_eq_true] at h1
    obtain ⟨h1, hto⟩ := h1
    obtain rfl : n = 3 := by simpa using h1
    have ho : (bif decide (x ≤ 0) then amTo pc off else some (pc + 3)) = some t := ho
    obtain ⟨t2, ht2⟩ := Option.isSome_iff_exists.mp hto
    have ht2 := amTo_inv ht2
    by_cases hq : x ≤ 0
    · rw [decide_eq_true hq] at ho
      exact lv_if_le (tgt := t) hx hb hdg (amTo_inv ho) (fun _ => (k ls H locs cells slots hl hL hR hS hc hs)) (fun h9 => absurd hq h9)
    · rw [decide_eq_false hq] at ho
      cases ho
      exact lv_if_le (tgt := t2) hx hb hdg ht2 (fun h9 => absurd h9 hq) (fun _ => (k ls H locs cells slots hl hL hR hS hc hs))
  · cases h
-- .if_icmp .le off
theorem sn_icmp_le {off : Int} (Cx : amCx p s m args meth c b bS D dA q) (hl : amLR b bS ls L) (hL : L.length = q.2.2.1) (hR : amRep b bS D dA s st H) (hS : va_S (fun a => b ≤ a) s.heap H locs) (hc : cells + c0 = amCN st) (hs : slots + s0 = amSN st) (hdg : decode q.2.1 pc = .ok (.if_icmp .le off, n)) (h : amStep CALL q pc (.if_icmp .le off) n L S st = some N) (k : amCont p l e R s m args below meth c Q b bS D dA q c0 s0 N) : W p l e R s m args below meth c H locs cells slots Q (F0 m pc ls (S.map (amCv b bS))) := by
  obtain ⟨hx, hb, hml, hown, hts, hKn, hbs, hbz, hini⟩ := Cx
  dsimp only [amStep] at h
  split at h
  · rename_i y x S
    obtain ⟨t, ho, h1, rfl⟩ := amJmp_inv h
    rw [Bool.and_eq_true] at h1
    obtain ⟨h1, hto⟩ := h1
    obtain rfl : n = 3 := by simpa using h1
    have ho : (bif decide (x ≤ y) then amTo pc off else some (pc + 3)) = some t := ho
    obtain ⟨t2, ht2⟩ := Option.isSome_iff_exists.mp hto
    have ht2 := amTo_inv ht2
    by_cases hq : x ≤ y
    · rw [decide_eq_true hq] at ho
      exact lv_icmp_le (tgt := t) hx hb hdg (amTo_inv ho) (fun _ => (k ls H locs cells slots hl hL hR hS hc hs)) (fun h9 => absurd hq h9)
    · rw [decide_eq_false hq] at ho
      cases ho
      exact lv_icmp_le (tgt := t2) hx hb hdg ht2 (fun h9 => absurd h9 hq) (fun _ => (k ls H locs cells slots hl hL hR hS hc hs))
  · cases h
theorem sn_tableswitch {dd lo hi : Int} {offs : Array Int} (Cx : amCx p s m args meth c b bS D dA q) (hl : amLR b bS ls L) (hL : L.length = q.2.2.1) (hR : amRep b bS D dA s st H) (hS : va_S (fun a => b ≤ a) s.heap H locs) (hc : cells + c0 = amCN st) (hs : slots + s0 = amSN st) (hdg : decode q.2.1 pc = .ok (.tableswitch dd lo hi offs, n)) (h : amStep CALL q pc (.tableswitch dd lo hi offs) n L S st = some N) (k : amCont p l e R s m args below meth c Q b bS D dA q c0 s0 N) : W p l e R s m args below meth c H locs cells slots Q (F0 m pc ls (S.map (amCv b bS))) := by
  obtain ⟨hx, hb, hml, hown, hts, hKn, hbs, hbz, hini⟩ := Cx
  dsimp only [amStep] at h
  split at h
  · rename_i x S
    obtain ⟨t, ho, h1, rfl⟩ := amJmp_inv h
    by_cases hq : x.toInt < lo ∨ hi < x.toInt
    · rw [decide_eq_true hq] at ho
      exact lv_tableOut hx hb hdg hq (amTo_inv ho) (k ls H locs cells slots hl hL hR hS hc hs)
    · rw [decide_eq_false hq] at ho
      have ho : (match offs[(x.toInt - lo).toNat]? with
        | some off => amTo pc off
        | none => none) = some t := ho
      cases hf : offs[(x.toInt - lo).toNat]? with
      | none => rw [hf] at ho; cases ho
      | some off =>
        rw [hf] at ho
        exact lv_tableIn hx hb hdg (fun z => hq (Or.inl z)) (fun z => hq (Or.inr z)) hf (amTo_inv ho) (k ls H locs cells slots hl hL hR hS hc hs)
  · cases h
theorem sn_lookupswitch {dd : Int} {ps : Array (Int × Int)} (Cx : amCx p s m args meth c b bS D dA q) (hl : amLR b bS ls L) (hL : L.length = q.2.2.1) (hR : amRep b bS D dA s st H) (hS : va_S (fun a => b ≤ a) s.heap H locs) (hc : cells + c0 = amCN st) (hs : slots + s0 = amSN st) (hdg : decode q.2.1 pc = .ok (.lookupswitch dd ps, n)) (h : amStep CALL q pc (.lookupswitch dd ps) n L S st = some N) (k : amCont p l e R s m args below meth c Q b bS D dA q c0 s0 N) : W p l e R s m args below meth c H locs cells slots Q (F0 m pc ls (S.map (amCv b bS))) := by
  obtain ⟨hx, hb, hml, hown, hts, hKn, hbs, hbz, hini⟩ := Cx
  dsimp only [amStep] at h
  split at h
  · obtain ⟨t, ho, h1, rfl⟩ := amJmp_inv h
    exact lv_lookup hx hb hdg h1 rfl (amTo_inv ho) (k ls H locs cells slots hl hL hR hS hc hs)
  · cases h
theorem sn_ireturn  (Cx : amCx p s m args meth c b bS D dA q) (hl : amLR b bS ls L) (hL : L.length = q.2.2.1) (hR : amRep b bS D dA s st H) (hS : va_S (fun a => b ≤ a) s.heap H locs) (hc : cells + c0 = amCN st) (hs : slots + s0 = amSN st) (hdg : decode q.2.1 pc = .ok (.ireturn, n)) (h : amStep CALL q pc (.ireturn) n L S st = some N) (k : amCont p l e R s m args below meth c Q b bS D dA q c0 s0 N) : W p l e R s m args below meth c H locs cells slots Q (F0 m pc ls (S.map (amCv b bS))) := by
  obtain ⟨hx, hb, hml, hown, hts, hKn, hbs, hbz, hini⟩ := Cx
  dsimp only [amStep] at h
  split at h
  · rename_i x
    split at h
    · rename_i hq
      obtain ⟨h1, rfl⟩ := amRet_inv h
      obtain rfl : n = 1 := by simpa using h1
      exact k pc ls H locs cells slots hR hS hc hs ⟨hdg, Or.inl hq⟩
    · rename_i hq
      obtain ⟨h1, rfl⟩ := amRet_inv h
      rw [Bool.and_eq_true] at h1
      obtain ⟨h1, h2⟩ := h1
      obtain rfl : n = 1 := by simpa using h1
      exact k pc ls H locs cells slots hR hS hc hs ⟨hdg, Or.inr ⟨hq, of_decide_eq_true h2⟩⟩
    · cases h
  · cases h
theorem sn_lreturn  (Cx : amCx p s m args meth c b bS D dA q) (hl : amLR b bS ls L) (hL : L.length = q.2.2.1) (hR : amRep b bS D dA s st H) (hS : va_S (fun a => b ≤ a) s.heap H locs) (hc : cells + c0 = amCN st) (hs : slots + s0 = amSN st) (hdg : decode q.2.1 pc = .ok (.lreturn, n)) (h : amStep CALL q pc (.lreturn) n L S st = some N) (k : amCont p l e R s m args below meth c Q b bS D dA q c0 s0 N) : W p l e R s m args below meth c H locs cells slots Q (F0 m pc ls (S.map (amCv b bS))) := by
  obtain ⟨hx, hb, hml, hown, hts, hKn, hbs, hbz, hini⟩ := Cx
  dsimp only [amStep] at h
  split at h
  · split at h
    · rename_i hq
      obtain ⟨h1, rfl⟩ := amRet_inv h
      obtain rfl : n = 1 := by simpa using h1
      exact k pc ls H locs cells slots hR hS hc hs ⟨hdg, hq⟩
    · cases h
  · cases h
theorem sn_areturn  (Cx : amCx p s m args meth c b bS D dA q) (hl : amLR b bS ls L) (hL : L.length = q.2.2.1) (hR : amRep b bS D dA s st H) (hS : va_S (fun a => b ≤ a) s.heap H locs) (hc : cells + c0 = amCN st) (hs : slots + s0 = amSN st) (hdg : decode q.2.1 pc = .ok (.areturn, n)) (h : amStep CALL q pc (.areturn) n L S st = some N) (k : amCont p l e R s m args below meth c Q b bS D dA q c0 s0 N) : W p l e R s m args below meth c H locs cells slots Q (F0 m pc ls (S.map (amCv b bS))) := by
  obtain ⟨hx, hb, hml, hown, hts, hKn, hbs, hbz, hini⟩ := Cx
  dsimp only [amStep] at h
  split at h
  · split at h
    · rename_i hq
      obtain ⟨h1, rfl⟩ := amRet_inv h
      obtain rfl : n = 1 := by simpa using h1
      exact k pc ls H locs cells slots hR hS hc hs ⟨hdg, _, hq⟩
    · cases h
  · cases h
theorem sn_return_  (Cx : amCx p s m args meth c b bS D dA q) (hl : amLR b bS ls L) (hL : L.length = q.2.2.1) (hR : amRep b bS D dA s st H) (hS : va_S (fun a => b ≤ a) s.heap H locs) (hc : cells + c0 = amCN st) (hs : slots + s0 = amSN st) (hdg : decode q.2.1 pc = .ok (.return_, n)) (h : amStep CALL q pc (.return_) n L S st = some N) (k : amCont p l e R s m args below meth c Q b bS D dA q c0 s0 N) : W p l e R s m args below meth c H locs cells slots Q (F0 m pc ls (S.map (amCv b bS))) := by
  obtain ⟨hx, hb, hml, hown, hts, hKn, hbs, hbz, hini⟩ := Cx
  dsimp only [amStep] at h
  split at h
  · split at h
    · rename_i hq
      obtain ⟨h1, rfl⟩ := amRet_inv h
      obtain rfl : n = 1 := by simpa using h1
      exact k pc ls H locs cells slots hR hS hc hs (Or.inl ⟨hdg, hq⟩)
    · cases h
  · cases h
end SND1
