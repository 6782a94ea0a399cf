/-! ONE STEP IS SOUND: fields and arrays -/
theorem amKdC : ((List.range 13).all (fun ci => match amFs[ci]? with
  | some c => (List.range c.2.length).all (fun k => match amKd ci k with
    | 0 => decide (amFt c k = .int ∧ (amT c k).2.2.2 = false)
    | 1 => decide (amFt c k = .boolean ∧ (amT c k).2.2.2 = false)
    | _ => (match amFt c k with
      | .object _ => true
      | .array _ => true
      | _ => false) && (amT c k).2.2.2 && decide (amKd ci k = 2))
  | none => false)) = true := by decide +kernel
theorem amFs_lt {ci : Nat} {cq : String × List (String × String × Bool)} (h : amFs[ci]? = some cq) : ci < 13 := by
  rw [← amFsLen]
  exact (List.getElem?_eq_some_iff.mp h).1
theorem amKd_ok {ci k : Nat} {cq : String × List (String × String × Bool)} (h : amFs[ci]? = some cq) (hk : k < cq.2.length) :
    (amKd ci k = 0 → amFt cq k = .int ∧ (amT cq k).2.2.2 = false) ∧ (amKd ci k = 1 → amFt cq k = .boolean ∧ (amT cq k).2.2.2 = false) ∧ (amKd ci k = 2 → (amT cq k).2.2.2 = true ∧ ((∃ n, amFt cq k = .object n) ∨ ∃ t, amFt cq k = .array t)) := by
  have h1 := List.all_eq_true.mp amKdC ci (List.mem_range.mpr (amFs_lt h))
  rw [h] at h1
  dsimp only at h1
  have h2 := List.all_eq_true.mp h1 k (List.mem_range.mpr hk)
  refine ⟨fun h3 => ?_, fun h3 => ?_, fun h3 => ?_⟩
  · rw [h3] at h2
    exact of_decide_eq_true h2
  · rw [h3] at h2
    exact of_decide_eq_true h2
  · rw [h3] at h2
    have h2 : ((match amFt cq k with
      | .object _ => true
      | .array _ => true
      | _ => false) && (amT cq k).2.2.2 && decide (2 = 2)) = true := h2
    rw [Bool.and_eq_true, Bool.and_eq_true] at h2
    refine ⟨h2.1.2, ?_⟩
    have h4 := h2.1.1
    split at h4
    · exact Or.inl ⟨_, by assumption⟩
    · exact Or.inr ⟨_, by assumption⟩
    · cases h4
/-- a field that a class names -/
theorem amFL_wd {cn idx ci k : Nat} (h : amFL cn idx = some (ci, k)) : ∃ cq, amFs[ci]? = some cq ∧ k < cq.2.length ∧ Cond.fieldLink (amOwn cn) idx (amT cq k).1 (amT cq k).2.1 (amT cq k).2.2.1 ∈ lw_tbl := by
  unfold amFL at h
  cases hf : (amFl cn).find? (fun e => e.1 == idx) with
  | none => rw [hf] at h; cases h
  | some z =>
    rw [hf] at h
    have h : (z.2.1, z.2.2.1) = (ci, k) := Option.some.inj h
    have h2 := List.find?_some hf
    have h2 : z.1 = idx := by simpa using h2
    obtain ⟨cq, f, h3, h4, h5⟩ := amFl_wd (List.mem_of_find?_eq_some hf)
    obtain ⟨i1, i2⟩ := Prod.mk.inj h
    rw [i1] at h3
    rw [i2] at h4
    rw [h2] at h5
    refine ⟨cq, h3, (List.getElem?_eq_some_iff.mp h4).1, ?_⟩
    have h6 : cq.2.getD k ("", "I", false) = f := by rw [List.getD_eq_getElem?_getD, h4]; rfl
    show Cond.fieldLink (amOwn cn) idx cq.1 (cq.2.getD k ("", "I", false)).1 (cq.2.getD k ("", "I", false)).2.1 ∈ lw_tbl
    rw [h6]
    exact h5
theorem amCls_at {ci : Nat} {cq : String × List (String × String × Bool)} (h : amFs[ci]? = some cq) : amCls[ci]? = some (cq.1, amT cq, cq.2.length) := by
  unfold amCls
  rw [List.getElem?_map, h]
  rfl
theorem amCls_in {ci : Nat} {cq : String × List (String × String × Bool)} (h : amFs[ci]? = some cq) : ∀ w ∈ u_ws cq.1 (amT cq) cq.2.length, w ∈ amW := fun w hw => amW_in ((amCls_wd h).1 w hw).1 ((amCls_wd h).1 w hw).2
theorem amNf_at {ci : Nat} {cq : String × List (String × String × Bool)} (h : amFs[ci]? = some cq) : amNf ci = cq.2.length := by
  unfold amNf
  rw [h]
/-- the picture where one cell has changed -/
theorem amRep_set {b bS : Nat} {D : va_G} {dA : FieldType → ClassId} {s : State} {st st' : amS} {H H1 : Heap} {c i : Nat} (hbs : bS < b) (hR : amRep b bS D dA s st H) (hal : amAl st.2.2.2.1 c i = true) (hkk : st'.2.2.2.1 = st.2.2.2.1) (hX : st'.2.2.2.2.2 = st.2.2.2.2.2) (hM : st'.1 99 0 = st.1 99 0)
    (ho : ∀ x ∈ amOrc, x ≠ (c, i) → amE b bS dA st' x = amE b bS dA st x) (hz : H1.size = H.size) (hq : ∀ a, a ≠ amAd b bS (c, i) → H1[a]? = H[a]?) (hat : va_at D amCls (amAd b bS (c, i), amE b bS dA st' (c, i)) H1) : amRep b bS D dA s st' H1 := by
  obtain ⟨h1, h2, h3, h4, h5⟩ := hR
  refine ⟨?_, by rw [hkk, hz]; exact h2, by rw [hkk, hz]; exact h3, by rw [hkk]; exact h4, ?_⟩
  · have h6 := va_P.set h1 amWs_D (amWs_at h4 hal) hat hq
    rw [amWs_set h4 hal hkk ho] at h6
    exact h6
  · rw [hX, hM]
    refine fun h9 => (h5 h9).kept (hq bS ?_)
    rw [amAd_in (amIdx_lt h4 hal).2]
    omega
section SND2
variable {p : Program} {l : Launch} {e : Env} {R : Room} {s : State} {m : MethodId} {args : Array Value} {below : List Frame} {meth : Method} {c : Code} {Q : State → Prop} {b bS : Nat} {D : va_G} {dA : FieldType → ClassId} {q : amInf} {c0 s0 pc n : Nat} {L : amL} {S : List amV} {st : amS} {N : amF ⊕ amR} {CALL : Nat → List amV → amS → Option amR} {ls : Array Slot} {H : Heap} {locs : List Loc} {cells slots : Nat}
theorem amFv_at {M : amM} {t ci i k nf : Nat} (hk : k < nf) : ((List.range nf).map (amFv b bS M t ci i))[k]? = some (amFv b bS M t ci i k) := by
  rw [List.getElem?_map, List.getElem?_range hk]
  rfl
theorem sn_getfield {idx : Nat} (Cx : amCx p s m args meth c b bS D dA q) (hl : amLR b bS ls L) (hL : L.length = q.2.2.1) (hR : amRep b bS D dA s st H) (hS : va_S (fun a => b ≤ a) s.heap H locs) (hc : cells + c0 = amCN st) (hs : slots + s0 = amSN st) (hdg : decode q.2.1 pc = .ok (.getfield idx, n)) (h : amStep CALL q pc (.getfield idx) n L S st = some N) (k : amCont p l e R s m args below meth c Q b bS D dA q c0 s0 N) : W p l e R s m args below meth c H locs cells slots Q (F0 m pc ls (S.map (amCv b bS))) := by
  obtain ⟨hx, hb, hml, hown, hts, hKn, hbs, hbz, hini⟩ := Cx
  dsimp only [amStep] at h
  unfold amGetf at h
  split at h
  · rename_i ci kf rc ri S hfl
    obtain ⟨cq, g1, g2, g3⟩ := amFL_wd hfl
    have hci : ci < 50 := Nat.lt_of_lt_of_le (amFs_lt g1) (by decide)
    split at h
    · rename_i hkd
      obtain ⟨h1, rfl⟩ := amGo_inv h
      simp only [Bool.and_eq_true, beq_iff_eq] at h1
      obtain ⟨⟨⟨rfl, rfl⟩, hal⟩, hst⟩ := h1
      have he := amWs_at (b := b) (bS := bS) (dA := dA) hR.2.2.2.1 hal
      rw [amE_obj hci] at he
      refine va_get (D := D) (C := cq.1) (T := amT cq) (N := cq.2.length) hx hb hts (amCls_in g1) hown hKn.1 hR.1 _ he (amCls_at g1) kf g2 (hts _ (amW_in g3 rfl)) (fun _ h9 => h9) (v := .ref (amAd b bS (amTg rc kf ri))) ?_ hdg (k ls H locs cells slots hl hL hR hS hc hs)
      rw [amFv_at (by rw [amNf_at g1]; exact g2)]
      unfold amFv
      rw [hkd]
      rw [if_pos hst]
      rfl
    · rename_i hkd
      obtain ⟨h1, rfl⟩ := amGo_inv h
      simp only [Bool.and_eq_true, beq_iff_eq] at h1
      obtain ⟨⟨rfl, rfl⟩, hal⟩ := h1
      have he := amWs_at (b := b) (bS := bS) (dA := dA) hR.2.2.2.1 hal
      rw [amE_obj hci] at he
      refine va_get (D := D) (C := cq.1) (T := amT cq) (N := cq.2.length) hx hb hts (amCls_in g1) hown hKn.1 hR.1 _ he (amCls_at g1) kf g2 (hts _ (amW_in g3 rfl)) (fun _ h9 => h9) (v := .int (st.1 (amFC rc kf) ri 0)) ?_ hdg (k ls H locs cells slots hl hL hR hS hc hs)
      rw [amFv_at (by rw [amNf_at g1]; exact g2)]
      unfold amFv
      split
      · rename_i h9; exact absurd h9 hkd
      · rfl
  · cases h
theorem amIn_iff {j : Int32} {n : Nat} (h : amIn j n = true) : vp_in j n := of_decide_eq_true (p := ¬ (j < 0 ∨ n ≤ j.toNatClampNeg)) h
theorem sn_iaload (Cx : amCx p s m args meth c b bS D dA q) (hl : amLR b bS ls L) (hL : L.length = q.2.2.1) (hR : amRep b bS D dA s st H) (hS : va_S (fun a => b ≤ a) s.heap H locs) (hc : cells + c0 = amCN st) (hs : slots + s0 = amSN st) (hdg : decode q.2.1 pc = .ok (.iaload, n)) (h : amStep CALL q pc .iaload n L S st = some N) (k : amCont p l e R s m args below meth c Q b bS D dA q c0 s0 N) : W p l e R s m args below meth c H locs cells slots Q (F0 m pc ls (S.map (amCv b bS))) := by
  obtain ⟨hx, hb, hml, hown, hts, hKn, hbs, hbz, hini⟩ := Cx
  dsimp only [amStep] at h
  unfold amAld at h
  split at h
  · rename_i j rc ri S
    obtain ⟨h1, rfl⟩ := amGo_inv h
    rw [Bool.and_eq_true] at h1
    obtain ⟨h1, h2⟩ := h1
    obtain rfl : n = 1 := by simpa using h1
    unfold amOk at h2
    rw [Bool.or_eq_true] at h2
    rcases h2 with h2 | h2
    · simp only [Bool.and_eq_true, beq_iff_eq] at h2
      obtain ⟨⟨⟨⟨rfl, rfl⟩, -⟩, hpos⟩, hin⟩ := h2
      obtain ⟨scr, f1, f2, f3, f4, f5⟩ := hR.2.2.2.2 (of_decide_eq_true hpos)
      have hin := amIn_iff hin
      have hlt : j.toNatClampNeg < st.2.2.2.2.2 - 1 := Nat.not_le.mp fun z => hin (Or.inr z)
      have ha : amAd b bS (99, 0) = bS := rfl
      refine W.iald (a := amAd b bS (99, 0)) (v := .int (st.1 99 0 j.toNatClampNeg)) hx hb (by rw [ha]; exact f1) f2 f3 (by rw [f4]; exact hin) (f5 _ hlt) rfl rfl hdg (k ls H locs cells slots hl hL hR hS hc hs)
    · simp only [Bool.and_eq_true, beq_iff_eq, decide_eq_true_eq] at h2
      obtain ⟨⟨⟨hge, hal⟩, htn⟩, hin⟩ := h2
      have he := amWs_at (b := b) (bS := bS) (dA := dA) hR.2.2.2.1 hal
      rw [amE_int hge htn (by decide)] at he
      exact va_iald hx hb hKn.1 hR.1 _ 0 he rfl (amIn_iff hin) hdg (k ls H locs cells slots hl hL hR hS hc hs)
  · cases h
theorem sn_baload (Cx : amCx p s m args meth c b bS D dA q) (hl : amLR b bS ls L) (hL : L.length = q.2.2.1) (hR : amRep b bS D dA s st H) (hS : va_S (fun a => b ≤ a) s.heap H locs) (hc : cells + c0 = amCN st) (hs : slots + s0 = amSN st) (hdg : decode q.2.1 pc = .ok (.baload, n)) (h : amStep CALL q pc .baload n L S st = some N) (k : amCont p l e R s m args below meth c Q b bS D dA q c0 s0 N) : W p l e R s m args below meth c H locs cells slots Q (F0 m pc ls (S.map (amCv b bS))) := by
  obtain ⟨hx, hb, hml, hown, hts, hKn, hbs, hbz, hini⟩ := Cx
  dsimp only [amStep] at h
  unfold amBld at h
  split at h
  · rename_i j rc ri S
    obtain ⟨h1, rfl⟩ := amGo_inv h
    rw [Bool.and_eq_true] at h1
    obtain ⟨h1, h2⟩ := h1
    obtain rfl : n = 1 := by simpa using h1
    unfold amOw at h2
    rw [Bool.or_eq_true] at h2
    rcases h2 with h2 | h2 <;> (simp only [Bool.and_eq_true, beq_iff_eq, decide_eq_true_eq] at h2; obtain ⟨⟨⟨hge, hal⟩, htn⟩, hin⟩ := h2; have he := amWs_at (b := b) (bS := bS) (dA := dA) hR.2.2.2.1 hal; rw [amE_int hge htn (by decide)] at he)
    · exact va_bald hx hb hKn.1 hR.1 _ 1 he rfl (amIn_iff hin) hdg (k ls H locs cells slots hl hL hR hS hc hs)
    · exact va_zald hx hb hKn.1 hR.1 _ 2 he rfl (amIn_iff hin) hdg (k ls H locs cells slots hl hL hR hS hc hs)
  · cases h
theorem sn_laload (Cx : amCx p s m args meth c b bS D dA q) (hl : amLR b bS ls L) (hL : L.length = q.2.2.1) (hR : amRep b bS D dA s st H) (hS : va_S (fun a => b ≤ a) s.heap H locs) (hc : cells + c0 = amCN st) (hs : slots + s0 = amSN st) (hdg : decode q.2.1 pc = .ok (.laload, n)) (h : amStep CALL q pc .laload n L S st = some N) (k : amCont p l e R s m args below meth c Q b bS D dA q c0 s0 N) : W p l e R s m args below meth c H locs cells slots Q (F0 m pc ls (S.map (amCv b bS))) := by
  obtain ⟨hx, hb, hml, hown, hts, hKn, hbs, hbz, hini⟩ := Cx
  dsimp only [amStep] at h
  unfold amLld at h
  split at h
  · rename_i j rc ri S
    obtain ⟨h1, rfl⟩ := amGo_inv h
    rw [Bool.and_eq_true] at h1
    obtain ⟨h1, h2⟩ := h1
    obtain rfl : n = 1 := by simpa using h1
    unfold amOw at h2
    simp only [Bool.and_eq_true, beq_iff_eq, decide_eq_true_eq] at h2
    obtain ⟨⟨⟨hge, hal⟩, htn⟩, hin⟩ := h2
    have he := amWs_at (b := b) (bS := bS) (dA := dA) hR.2.2.2.1 hal
    rw [amE_long hge htn] at he
    exact va_lald hx hb hKn.1 hR.1 _ 3 he rfl (amIn_iff hin) hdg (k ls H locs cells slots hl hL hR hS hc hs)
  · cases h
theorem sn_aaload (Cx : amCx p s m args meth c b bS D dA q) (hl : amLR b bS ls L) (hL : L.length = q.2.2.1) (hR : amRep b bS D dA s st H) (hS : va_S (fun a => b ≤ a) s.heap H locs) (hc : cells + c0 = amCN st) (hs : slots + s0 = amSN st) (hdg : decode q.2.1 pc = .ok (.aaload, n)) (h : amStep CALL q pc .aaload n L S st = some N) (k : amCont p l e R s m args below meth c Q b bS D dA q c0 s0 N) : W p l e R s m args below meth c H locs cells slots Q (F0 m pc ls (S.map (amCv b bS))) := by
  obtain ⟨hx, hb, hml, hown, hts, hKn, hbs, hbz, hini⟩ := Cx
  dsimp only [amStep] at h
  unfold amRld at h
  split at h
  · rename_i j rc ri S
    obtain ⟨h1, rfl⟩ := amGo_inv h
    rw [Bool.and_eq_true, Bool.and_eq_true] at h1
    obtain ⟨⟨h1, h2⟩, hst⟩ := h1
    obtain rfl : n = 1 := by simpa using h1
    unfold amOw at h2
    simp only [Bool.and_eq_true, beq_iff_eq, decide_eq_true_eq] at h2
    obtain ⟨⟨⟨hge, hal⟩, htn⟩, hin⟩ := h2
    have he := amWs_at (b := b) (bS := bS) (dA := dA) hR.2.2.2.1 hal
    rw [amE_ref hge htn] at he
    refine va_aldq hx hb hKn.1 hR.1 _ 4 he rfl (amIn_iff hin) hdg ?_
    rw [if_pos hst]
    exact k ls H locs cells slots hl hL hR hS hc hs
  · cases h
theorem sn_arraylength (Cx : amCx p s m args meth c b bS D dA q) (hl : amLR b bS ls L) (hL : L.length = q.2.2.1) (hR : amRep b bS D dA s st H) (hS : va_S (fun a => b ≤ a) s.heap H locs) (hc : cells + c0 = amCN st) (hs : slots + s0 = amSN st) (hdg : decode q.2.1 pc = .ok (.arraylength, n)) (h : amStep CALL q pc .arraylength n L S st = some N) (k : amCont p l e R s m args below meth c Q b bS D dA q c0 s0 N) : W p l e R s m args below meth c H locs cells slots Q (F0 m pc ls (S.map (amCv b bS))) := by
  obtain ⟨hx, hb, hml, hown, hts, hKn, hbs, hbz, hini⟩ := Cx
  dsimp only [amStep] at h
  unfold amAln at h
  split at h
  · rename_i rc ri S
    obtain ⟨h1, rfl⟩ := amGo_inv h
    rw [Bool.and_eq_true, Bool.or_eq_true] at h1
    obtain ⟨h1, h2⟩ := h1
    obtain rfl : n = 1 := by simpa using h1
    rcases h2 with h2 | h2
    · simp only [Bool.and_eq_true, beq_iff_eq] at h2
      obtain ⟨⟨rfl, rfl⟩, hpos⟩ := h2
      obtain ⟨scr, f1, f2, f3, f4, f5⟩ := hR.2.2.2.2 (of_decide_eq_true hpos)
      have ha : amAd b bS (99, 0) = bS := rfl
      exact W.alen (a := amAd b bS (99, 0)) hx hb (by rw [ha]; exact f1) f2 (by rw [f4]; rfl) rfl rfl hdg (k ls H locs cells slots hl hL hR hS hc hs)
    · simp only [Bool.and_eq_true, decide_eq_true_eq] at h2
      obtain ⟨hge, hal⟩ := h2
      have h99 : (rc == 99) = false := by simp; omega
      rw [h99] at k
      have he := amWs_at (b := b) (bS := bS) (dA := dA) hR.2.2.2.1 hal
      have hat := hR.1 _ _ he
      rcases (show amTn rc < 3 ∨ amTn rc = 3 ∨ amTn rc = 4 ∨ 4 < amTn rc by omega) with h3 | h3 | h3 | h3
      · rw [amE_int hge rfl h3] at hat
        have hA : ∃ ty, ArrOfT s (dA (amTf (amTn rc))) ty := by
          rcases (show amTn rc = 0 ∨ amTn rc = 1 ∨ amTn rc = 2 by omega) with h4 | h4 | h4 <;> rw [h4]
          · exact ⟨_, (hKn.1.2 0 _ rfl).1⟩
          · exact ⟨_, (hKn.1.2 1 _ rfl).1⟩
          · exact ⟨_, (hKn.1.2 2 _ rfl).1⟩
        obtain ⟨ty, hA⟩ := hA
        exact W.alen (ty := ty) hx hb hat (hA _ (fun j => .int (st.1 rc ri j))) (by rw [vp_cell_i, arrV_size]; rfl) rfl rfl hdg (k ls H locs cells slots hl hL hR hS hc hs)
      · rw [amE_long hge h3] at hat
        exact W.alen (ty := .long) hx hb hat ((hKn.1.2 3 _ rfl).1 _ (fun j => .long (st.2.1 rc j))) (by rw [vp_cell_l, arrV_size]; rfl) rfl rfl hdg (k ls H locs cells slots hl hL hR hS hc hs)
      · rw [amE_ref hge h3] at hat
        exact W.alen (ty := .object "SoundAdvice$Game") hx hb hat ((hKn.1.2 4 _ rfl).1 _ _) (by rw [vp_cell_q, arrV_size]; rfl) rfl rfl hdg (k ls H locs cells slots hl hL hR hS hc hs)
      · exfalso
        have h4 : ∀ x ∈ amOrc, amTn x.1 ≤ 4 := by decide +kernel
        have := h4 _ (amIdx_lt hR.2.2.2.1 hal).2
        dsimp only at this
        omega
  · cases h
end SND2
