/-! ONE STEP IS SOUND: making -/
def amRoom (R : Room) (c0 s0 : Nat) (N : amF ⊕ amR) : Prop := match N with
  | .inl f => amCN f.2.2.2 ≤ R.cells + c0 ∧ amSN f.2.2.2 ≤ R.slots + s0
  | .inr r => amCN r.2 ≤ R.cells + c0 ∧ amSN r.2 ≤ R.slots + s0
theorem amSzC : ((List.range amOrc.length).all (fun n => match amOrc[n]?, amSz[n]? with
  | some x, some z => decide (z = (if x.1 < 50 then amNf x.1 else amLen x.1)) && decide (amLen x.1 ≤ 30000) && decide (x.1 < 50 → x.1 < 13)
  | _, _ => false)) = true := by decide +kernel
theorem amSz_at {n : Nat} {x : Nat × Nat} (h : amOrc[n]? = some x) : amSz[n]? = some (if x.1 < 50 then amNf x.1 else amLen x.1) ∧ amLen x.1 ≤ 30000 := by
  have hn := (List.getElem?_eq_some_iff.mp h).1
  have h1 := List.all_eq_true.mp amSzC n (List.mem_range.mpr hn)
  rw [h] at h1
  cases hz : amSz[n]? with
  | none => rw [hz] at h1; cases h1
  | some z =>
    rw [hz] at h1
    simp only [Bool.and_eq_true, decide_eq_true_eq] at h1
    exact ⟨by rw [h1.1.1], h1.1.2⟩
theorem amSum_succ {k z : Nat} (h : amSz[k]? = some z) : (amSz.take (k + 1)).sum = (amSz.take k).sum + z := by
  rw [List.take_succ, h]
  simp
/-- the picture with one cell more -/
theorem amRep_push {b bS : Nat} {D : va_G} {dA : FieldType → ClassId} {s : State} {st st' : amS} {H H1 : Heap} {x : Nat × Nat} (hbs : bS < b) (hR : amRep b bS D dA s st H) (ho : amOrc[st.2.2.2.1]? = some x) (hk : st'.2.2.2.1 = st.2.2.2.1 + 1) (hX : st'.2.2.2.2.2 = st.2.2.2.2.2) (hM : st'.1 99 0 = st.1 99 0)
    (hs : ∀ y ∈ amOrc, y ≠ x → amE b bS dA st' y = amE b bS dA st y) (hz : H1.size = H.size + 1) (hq : ∀ a, a < H.size → H1[a]? = H[a]?) (hat : va_at D amCls (H.size, amE b bS dA st' x) H1) : amRep b bS D dA s st' H1 ∧ H.size = amAd b bS x := by
  obtain ⟨h1, h2, h3, h4, h5⟩ := hR
  have hlt := (List.getElem?_eq_some_iff.mp ho).1
  have hsz := h3 hlt
  have had : H.size = amAd b bS x := by rw [amAd_in (List.mem_of_getElem? ho), amIdx_of ho, hsz]
  refine ⟨⟨?_, by rw [hk, hz]; omega, fun _ => by rw [hk, hz]; omega, by rw [hk]; omega, ?_⟩, had⟩
  · intro n z hn
    obtain ⟨y, hy, hnk, rfl⟩ := amWs_get hn
    rw [hk] at hnk
    by_cases hnn : n = st.2.2.2.1
    · subst hnn
      obtain rfl : y = x := Option.some.inj (hy.symm.trans ho)
      rw [← had]
      exact hat
    · have hlt2 : n < st.2.2.2.1 := by omega
      have hne : y ≠ x := fun e => hnn (by rw [← amIdx_of hy, e, amIdx_of ho])
      rw [hs y (List.mem_of_getElem? hy) hne]
      have h6 : (amWs b bS dA st)[n]? = some (amAd b bS y, amE b bS dA st y) := by
        unfold amWs
        rw [List.getElem?_map, List.getElem?_take_of_lt hlt2, hy]
        rfl
      have h7 := h1 n _ h6
      exact h7.kept (hq _ h7.lt)
  · rw [hX, hM]
    exact fun h9 => (h5 h9).kept (hq bS (by omega))
theorem amKL_wd {cn idx ci : Nat} (h : amKL cn idx = some ci) : ∃ cq, amFs[ci]? = some cq ∧ Cond.classLink (amOwn cn) idx cq.1 ∈ lw_tbl := by
  unfold amKL at h
  cases hf : amKl.find? (fun e => e.1 == cn && e.2.1 == idx) with
  | none => rw [hf] at h; cases h
  | some z =>
    rw [hf] at h
    have h : z.2.2.1 = ci := Option.some.inj h
    have h2 := List.find?_some hf
    simp only [Bool.and_eq_true, beq_iff_eq] at h2
    obtain ⟨cq, h3, h4⟩ := amKl_wd (List.mem_of_find?_eq_some hf)
    rw [h] at h3
    rw [h2.1, h2.2] at h4
    exact ⟨cq, h3, h4⟩
theorem amZo_ne {M : amM} {lo hi i c' i' : Nat} (h : ¬ ((lo ≤ c' ∧ c' < hi) ∧ i' = i)) : amZo M lo hi i c' i' = M c' i' := by
  funext j
  exact if_neg h
theorem arrV_congr (cA : ClassId) {n : Nat} {f g : Nat → Value} (h : ∀ j, j < n → f j = g j) : arrV cA n f = arrV cA n g := by
  unfold arrV
  congr 1
  congr 1
  funext j
  exact h j.val j.isLt
section SND4
variable {p : Program} {l : Launch} {e : Env} {R : Room} {s : State} {m : MethodId} {args : Array Value} {below : List Frame} {meth : Method} {c : Code} {Q : State → Prop} {b bS : Nat} {D : va_G} {dA : FieldType → ClassId} {q : amInf} {c0 s0 pc n : Nat} {L : amL} {S : List amV} {st : amS} {N : amF ⊕ amR} {CALL : Nat → List amV → amS → Option amR} {ls : Array Slot} {H : Heap} {locs : List Loc} {cells slots : Nat}
theorem amS_push {H1 : Heap} (hS : va_S (fun a => b ≤ a) s.heap H locs) (hz : H1.size = H.size + 1) (hq : ∀ a, a < H.size → H1[a]? = H[a]?) : va_S (fun a => b ≤ a) s.heap H1 locs :=
  ⟨Nat.le_trans hS.1 (by omega), fun a h1 h2 => (hq a (Nat.lt_of_lt_of_le h1 hS.1)).trans (hS.2.1 a h1 h2), hS.2.2⟩
theorem sn_new {idx : Nat} (Cx : amCx p s m args meth c b bS D dA q) (hl : amLR b bS ls L) (hL : L.length = q.2.2.1) (hR : amRep b bS D dA s st H) (hS : va_S (fun a => b ≤ a) s.heap H locs) (hc : cells + c0 = amCN st) (hs : slots + s0 = amSN st) (hdg : decode q.2.1 pc = .ok (.new idx, n)) (h : amStep CALL q pc (.new idx) n L S st = some N) (hrm : amRoom R c0 s0 N) (k : amCont p l e R s m args below meth c Q b bS D dA q c0 s0 N) : W p l e R s m args below meth c H locs cells slots Q (F0 m pc ls (S.map (amCv b bS))) := by
  obtain ⟨hx, hb, hml, hown, hts, hKn, hbs, hbz, hini⟩ := Cx
  dsimp only [amStep] at h
  split at h
  rotate_left
  · split at h
    · obtain ⟨h1, rfl⟩ := amRet_inv h
      simp only [Bool.and_eq_true, beq_iff_eq, decide_eq_true_eq] at h1
      obtain ⟨rfl, ht⟩ := h1
      exact k pc ls H locs cells slots hR hS hc hs (Or.inr ⟨idx, hdg, ht⟩)
    · cases h
  unfold amNew at h
  split at h
  · rename_i ci rc ri hkl ho
    obtain ⟨h1, rfl⟩ := amGo_inv h
    simp only [Bool.and_eq_true, beq_iff_eq] at h1
    obtain ⟨⟨rfl, rfl⟩, hall⟩ := h1
    obtain ⟨cq, g1, g2⟩ := amKL_wd hkl
    obtain ⟨-, g3, g4⟩ := amCls_wd g1
    obtain ⟨ft, nm⟩ := amFt_ok g1
    have hci : rc < 50 := Nat.lt_of_lt_of_le (amFs_lt g1) (by decide)
    have hcl := amCls_at g1
    have hKc := hKn.1.1 rc _ hcl
    have hsz := (amSz_at ho).1
    rw [if_pos hci, amNf_at g1] at hsz
    have hsum := amSum_succ hsz
    obtain ⟨rm1, rm2⟩ := hrm
    have e1 : amCN (amZo st.1 (1000 + 50 * rc) (1000 + 50 * (rc + 1)) ri, st.2.1, (st.2.2.1, st.2.2.2.1 + 1, st.2.2.2.2)) = amCN st + 1 := by unfold amCN; dsimp only; omega
    have e2 : amSN (amZo st.1 (1000 + 50 * rc) (1000 + 50 * (rc + 1)) ri, st.2.1, (st.2.2.1, st.2.2.2.1 + 1, st.2.2.2.2)) = amSN st + cq.2.length := by unfold amSN; dsimp only; rw [hsum]; omega
    dsimp only at rm1 rm2
    rw [e1] at rm1
    rw [e2] at rm2
    refine W.newcK hx hb hown (hts _ (amW_in g2 rfl)) (hts _ (amW_in g3 rfl)) (hts _ (amW_in g4 rfl)) rfl hdg (by omega) (by omega) hKc.2.1 rfl (fun H1 kC hkC f1 f2 f3 => ?_)
    have hborn := u_born (amFt cq) hts (amCls_in g1) hKc hkC f1 ft
    have hrep := amRep_push (st' := (amZo st.1 (1000 + 50 * rc) (1000 + 50 * (rc + 1)) ri, st.2.1, (st.2.2.1, st.2.2.2.1 + 1, st.2.2.2.2))) hbs hR ho rfl rfl (amZo_ne (by omega)) (fun y hy hne => ?_) f2 f3 ?_
    · obtain ⟨r1, r2⟩ := hrep
      have hgoal := k ls H1 locs (cells + 1) (slots + cq.2.length) hl hL r1 (amS_push hS f2 f3) (by dsimp only; rw [e1]; omega) (by dsimp only; rw [e2]; omega)
      show W p l e R s m args below meth c H1 locs (cells + 1) (slots + cq.2.length) Q (F0 m (pc + 3) ls (.ref H.size :: S.map (amCv b bS)))
      rw [r2]
      exact hgoal
    · refine amE_same hy (fun h1 k2 hk2 => ?_) (fun _ _ _ => rfl) (fun h1 => ?_) (fun _ => rfl) (fun _ _ => rfl)
      · show amZo st.1 (1000 + 50 * rc) (1000 + 50 * (rc + 1)) ri (amFC y.1 k2) y.2 0 = _
        rw [amZo_ne (fun z => hne ?_)]
        obtain ⟨⟨z1, z2⟩, z3⟩ := z
        unfold amFC at z1 z2
        exact Prod.ext (by dsimp only; omega) z3
      · refine amZo_ne (fun z => ?_)
        rcases amOrcC.2.1 y hy with h2 | h2 <;> omega
    · rw [amE_obj hci]
      refine ⟨_, hcl, hborn.to (fun kf hkf => ?_)⟩
      have h50 := amNf_le rc hci
      have hkn : kf < amNf rc := by rw [amNf_at g1]; exact hkf
      show defaultValue (amFt cq kf) = ((List.range (amNf rc)).map (amFv b bS (amZo st.1 (1000 + 50 * rc) (1000 + 50 * (rc + 1)) ri) st.2.2.2.2.1 rc ri)).getD kf .null
      rw [List.getD_eq_getElem?_getD, amFv_at hkn]
      show defaultValue (amFt cq kf) = amFv b bS (amZo st.1 (1000 + 50 * rc) (1000 + 50 * (rc + 1)) ri) st.2.2.2.2.1 rc ri kf
      have hzero : amZo st.1 (1000 + 50 * rc) (1000 + 50 * (rc + 1)) ri (amFC rc kf) ri 0 = 0 := if_pos ⟨⟨by unfold amFC; omega, by unfold amFC; omega⟩, rfl⟩
      have hns : amSt st.2.2.2.2.1 (amFC rc kf) ri 0 = false := by
        have := List.all_eq_true.mp hall kf (List.mem_range.mpr (by omega))
        simpa using this
      obtain ⟨q0, q1, q2⟩ := amKd_ok g1 hkf
      unfold amFv
      split
      · rename_i hkd
        rw [hns]
        obtain ⟨-, ⟨z, hz⟩ | ⟨z, hz⟩⟩ := q2 hkd <;> rw [hz] <;> rfl
      · rename_i hkd
        rw [hzero]
        rcases (show amKd rc kf = 0 ∨ amKd rc kf = 1 ∨ amKd rc kf = 2 ∨ 2 < amKd rc kf by omega) with h9 | h9 | h9 | h9
        · rw [(q0 h9).1]; rfl
        · rw [(q1 h9).1]; rfl
        · exact absurd h9 hkd
        · exfalso
          have : ∀ c k, amKd c k ≤ 2 := by
            intro c k
            unfold amKd
            split <;> decide
          have := this rc kf
          omega
  · cases h
theorem sn_newarray {ty : ArrayType} (Cx : amCx p s m args meth c b bS D dA q) (hl : amLR b bS ls L) (hL : L.length = q.2.2.1) (hR : amRep b bS D dA s st H) (hS : va_S (fun a => b ≤ a) s.heap H locs) (hc : cells + c0 = amCN st) (hs : slots + s0 = amSN st) (hdg : decode q.2.1 pc = .ok (.newarray ty, n)) (h : amStep CALL q pc (.newarray ty) n L S st = some N) (hrm : amRoom R c0 s0 N) (k : amCont p l e R s m args below meth c Q b bS D dA q c0 s0 N) : W p l e R s m args below meth c H locs cells slots Q (F0 m pc ls (S.map (amCv b bS))) := by
  obtain ⟨hx, hb, hml, hown, hts, hKn, hbs, hbz, hini⟩ := Cx
  dsimp only [amStep] at h
  unfold amNewa at h
  split at h
  · rename_i len S rc ri ho
    obtain ⟨h1, rfl⟩ := amGo_inv h
    simp only [Bool.and_eq_true, beq_iff_eq, decide_eq_true_eq] at h1
    obtain ⟨⟨⟨⟨rfl, hge, hlt⟩, htn⟩, hlen0⟩, hlen⟩ := h1
    obtain ⟨hsz, hbig⟩ := amSz_at ho
    rw [if_neg (by show ¬ rc < 50; omega)] at hsz
    have hsum := amSum_succ hsz
    dsimp only at hsum hbig
    obtain ⟨rm1, rm2⟩ := hrm
    generalize hst' : ((amZo st.1 rc (rc + 1) ri, (bif amTn rc == 3 then amZj st.2.1 rc else st.2.1), (st.2.2.1, st.2.2.2.1 + 1, st.2.2.2.2)) : amS) = st' at rm1 rm2 k
    have e1 : amCN st' = amCN st + 1 := by rw [← hst']; unfold amCN; dsimp only; omega
    have e2 : amSN st' = amSN st + amLen rc := by rw [← hst']; unfold amSN; dsimp only; rw [hsum]; omega
    dsimp only at rm1 rm2
    rw [e1] at rm1
    rw [e2] at rm2
    have h4 : amTn rc = 0 ∧ ty = .int ∨ amTn rc = 1 ∧ ty = .byte ∨ amTn rc = 2 ∧ ty = .boolean ∨ amTn rc = 3 ∧ ty = .long := by
      have h9 : amTn rc ≤ 4 := by
        unfold amTn
        split <;> decide
      cases ty <;> unfold amTnA at htn <;> dsimp only at htn <;> first | (exfalso; omega) | simp [htn]
    have hty : ∃ t0 : Nat, (amTys dA)[t0]? = some (dA (newarray.typeOf ty), newarray.typeOf ty) ∧ s.vm.findClass ("[" ++ (newarray.typeOf ty).toString) = some (dA (newarray.typeOf ty)) ∧ (Cond.arrayClass (newarray.typeOf ty)).before args s = true ∧ componentBytes (newarray.typeOf ty) ≤ 8 := by
      rcases h4 with ⟨-, rfl⟩ | ⟨-, rfl⟩ | ⟨-, rfl⟩ | ⟨-, rfl⟩
      · exact ⟨0, rfl, (hKn.1.2 0 _ rfl).2, hts _ (amW_in (by decide +kernel) rfl), by decide⟩
      · exact ⟨1, rfl, (hKn.1.2 1 _ rfl).2, hts _ (amW_in (by decide +kernel) rfl), by decide⟩
      · exact ⟨2, rfl, (hKn.1.2 2 _ rfl).2, hts _ (amW_in (by decide +kernel) rfl), by decide⟩
      · exact ⟨3, rfl, (hKn.1.2 3 _ rfl).2, hts _ (amW_in (by decide +kernel) rfl), by decide⟩
    obtain ⟨t0, ht0, hfc, harr, hcb⟩ := hty
    refine va_newaK hx hb harr rfl hdg rfl hlen0 hlen (Nat.le_trans (Nat.mul_le_mul hbig hcb) (by decide)) (by omega) (by omega) rfl (fun H1 cA f1 f2 f3 f4 f5 => ?_)
    obtain rfl : cA = dA (newarray.typeOf ty) := Option.some.inj (f5.symm.trans hfc)
    have hrep := amRep_push (st' := st') hbs hR ho (by rw [← hst']) (by rw [← hst']) (by rw [← hst']; exact amZo_ne (by omega)) (fun y hy hne => ?_) f2 f3 ?_
    · obtain ⟨r1, r2⟩ := hrep
      have hgoal := k ls H1 locs (cells + 1) (slots + amLen rc) hl hL r1 (amS_push hS f2 f3) (by dsimp only; rw [e1]; omega) (by dsimp only; rw [e2]; omega)
      show W p l e R s m args below meth c H1 locs (cells + 1) (slots + amLen rc) Q (F0 m (pc + 2) ls (.ref H.size :: S.map (amCv b bS)))
      rw [r2]
      exact hgoal
    · rw [← hst']
      refine amE_same hy (fun h1 k2 hk2 => ?_) (fun _ _ _ => rfl) (fun h1 => ?_) (fun h1 => ?_) (fun _ _ => rfl)
      · show amZo st.1 rc (rc + 1) ri (amFC y.1 k2) y.2 0 = _
        rw [amZo_ne (fun z => by have := z.1; unfold amFC at this; omega)]
      · exact amZo_ne (fun z => hne (Prod.ext (by dsimp only; omega) z.2))
      · show (bif amTn rc == 3 then amZj st.2.1 rc else st.2.1) y.1 = st.2.1 y.1
        cases h3 : amTn rc == 3 with
        | false => rfl
        | true =>
          have h3 : amTn rc = 3 := by simpa using h3
          show amZj st.2.1 rc y.1 = st.2.1 y.1
          have hny : y.1 ≠ rc := fun z => hne (Prod.ext z ((amLongOne y hy (by rw [z]; exact h3)).trans (amLongOne _ (List.mem_of_getElem? ho) h3).symm))
          funext j
          exact if_neg hny
    · have hz : amZo st.1 rc (rc + 1) ri rc ri = fun _ => 0 := by
        funext j
        exact if_pos ⟨⟨by omega, by omega⟩, rfl⟩
      rw [← hst']
      rcases h4 with ⟨h5, rfl⟩ | ⟨h5, rfl⟩ | ⟨h5, rfl⟩ | ⟨h5, rfl⟩
      · rw [amE_int hge h5 (by decide)]
        show H1[H.size]? = some (vp_cell _ (amLen rc, .inl (amZo st.1 rc (rc + 1) ri rc ri)))
        rw [hz, f1]
        rfl
      · rw [amE_int hge h5 (by decide)]
        show H1[H.size]? = some (vp_cell _ (amLen rc, .inl (amZo st.1 rc (rc + 1) ri rc ri)))
        rw [hz, f1]
        rfl
      · rw [amE_int hge h5 (by decide)]
        show H1[H.size]? = some (vp_cell _ (amLen rc, .inl (amZo st.1 rc (rc + 1) ri rc ri)))
        rw [hz, f1]
        rfl
      · rw [amE_long hge h5]
        show H1[H.size]? = some (vp_cell _ (amLen rc, .inr (.inl ((bif amTn rc == 3 then amZj st.2.1 rc else st.2.1) rc))))
        rw [h5]
        have hzj : (bif (3 : Nat) == 3 then amZj st.2.1 rc else st.2.1) rc = fun _ => 0 := by
          funext j
          exact if_pos rfl
        rw [hzj, f1]
        rfl
  · cases h
theorem sn_anewarray {idx : Nat} (Cx : amCx p s m args meth c b bS D dA q) (hl : amLR b bS ls L) (hL : L.length = q.2.2.1) (hR : amRep b bS D dA s st H) (hS : va_S (fun a => b ≤ a) s.heap H locs) (hc : cells + c0 = amCN st) (hs : slots + s0 = amSN st) (hdg : decode q.2.1 pc = .ok (.anewarray idx, n)) (h : amStep CALL q pc (.anewarray idx) n L S st = some N) (hrm : amRoom R c0 s0 N) (k : amCont p l e R s m args below meth c Q b bS D dA q c0 s0 N) : W p l e R s m args below meth c H locs cells slots Q (F0 m pc ls (S.map (amCv b bS))) := by
  obtain ⟨hx, hb, hml, hown, hts, hKn, hbs, hbz, hini⟩ := Cx
  dsimp only [amStep] at h
  unfold amAnew at h
  split at h
  · rename_i len S rc ri ho hkl
    obtain ⟨h1, rfl⟩ := amGo_inv h
    simp only [Bool.and_eq_true, beq_iff_eq, decide_eq_true_eq] at h1
    obtain ⟨⟨⟨⟨⟨rfl, hge, hlt⟩, htn⟩, hlen0⟩, hlen⟩, hall⟩ := h1
    obtain ⟨cq, g1, g2⟩ := amKL_wd hkl
    have hcq : cq.1 = "SoundAdvice$Game" := by
      have h9 : (amFs[2]?).map (fun z => z.1) = some "SoundAdvice$Game" := by decide +kernel
      rw [g1] at h9
      exact Option.some.inj h9
    rw [hcq] at g2
    obtain ⟨hsz, hbig⟩ := amSz_at ho
    rw [if_neg (by show ¬ rc < 50; omega)] at hsz
    have hsum := amSum_succ hsz
    dsimp only at hsum hbig
    obtain ⟨rm1, rm2⟩ := hrm
    generalize hst' : ((st.1, st.2.1, (st.2.2.1, st.2.2.2.1 + 1, st.2.2.2.2)) : amS) = st' at rm1 rm2 k
    have e1 : amCN st' = amCN st + 1 := by rw [← hst']; unfold amCN; dsimp only; omega
    have e2 : amSN st' = amSN st + amLen rc := by rw [← hst']; unfold amSN; dsimp only; rw [hsum]; omega
    dsimp only at rm1 rm2
    rw [e1] at rm1
    rw [e2] at rm2
    refine W.anew hx hb hown (hts _ (amW_in g2 rfl)) (va_AO.use hKn.2.2) rfl hdg rfl hlen0 (by rw [hlen]; omega) (by omega) (by rw [hlen]; omega) (fun cA kA comp f1 f2 f3 f4 => ?_)
    obtain ⟨-, kA2, comp2, -, -, -, f5⟩ := hKn.1.2 4 _ rfl
    obtain rfl : cA = dA (.object "SoundAdvice$Game") := Option.some.inj (f1.symm.trans f5)
    generalize hH1 : H.push ({ cls := dA (.object "SoundAdvice$Game"), slots := Array.replicate len.toNatClampNeg .null, vm := .none } : Cell) = H1
    have z1 : H1.size = H.size + 1 := by rw [← hH1, Array.size_push]
    have z2 : H1[H.size]? = some (arrV (dA (.object "SoundAdvice$Game")) len.toNatClampNeg (fun _ => .null)) := by rw [← hH1, Array.getElem?_push_size, ← arrV_new]
    have z3 : ∀ a : Nat, a < H.size → H1[a]? = H[a]? := fun a ha => by rw [← hH1, Array.getElem?_push, if_neg (Nat.ne_of_lt ha)]
    have hrep := amRep_push (st' := st') hbs hR ho (by rw [← hst']) (by rw [← hst']) (by rw [← hst']) (fun y hy hne => ?_) z1 z3 ?_
    · obtain ⟨r1, r2⟩ := hrep
      have hgoal := k ls H1 locs (cells + 1) (slots + amLen rc) hl hL r1 (amS_push hS z1 z3) (by dsimp only; rw [e1]; omega) (by dsimp only; rw [e2]; omega)
      show W p l e R s m args below meth c H1 locs (cells + 1) (slots + len.toNatClampNeg) Q (F0 m (pc + 3) ls (.ref H.size :: S.map (amCv b bS)))
      rw [r2, hlen]
      exact hgoal
    · rw [← hst']
      exact amE_same hy (fun _ _ _ => rfl) (fun _ _ _ => rfl) (fun _ => rfl) (fun _ => rfl) (fun _ _ => rfl)
    · rw [← hst', amE_ref hge htn]
      show H1[H.size]? = some (vp_cell _ (amLen rc, .inr (.inr (.inr (.inr (fun j => if amSt st.2.2.2.2.1 rc ri j = true then some (amAd b bS (amEt rc j)) else none))))))
      rw [z2, vp_cell_q, hlen]
      refine congrArg some (arrV_congr _ (fun j hj => ?_))
      have hns : amSt st.2.2.2.2.1 rc ri j = false := by
        have := List.all_eq_true.mp hall j (List.mem_range.mpr hj)
        simpa using this
      rw [hns]
      rfl
  · cases h
end SND4
