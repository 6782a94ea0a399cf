/-! ONE STEP IS SOUND: stores (printed by wip/whole/snd3.py) -/
theorem amFC_inj {c k c' k' : Nat} (hk : k < 50) (hk' : k' < 50) (h : amFC c k = amFC c' k') : c = c' ∧ k = k' := by
  unfold amFC at h
  omega
theorem upM_ne {M : amM} {c i j : Nat} {x : Int32} {c' i' j' : Nat} (h : ¬ (c' = c ∧ i' = i ∧ j' = j)) : upM M c i j x c' i' j' = M c' i' j' := if_neg h
theorem upM_eq {M : amM} {c i j : Nat} {x : Int32} : upM M c i j x c i j = x := if_pos ⟨rfl, rfl, rfl⟩
theorem amFv_put {b bS : Nat} {M : amM} {t ci i k nf : Nat} {x : Int32} (hkd : amKd ci k ≠ 2) (hk : k < nf) (hn : nf ≤ 50) : (List.range nf).map (amFv b bS (upM M (amFC ci k) i 0 x) t ci i) = ((List.range nf).map (amFv b bS M t ci i)).set k (.int x) := by
  apply List.ext_getElem?
  intro j
  rw [List.getElem?_set, List.getElem?_map, List.getElem?_map]
  by_cases hj : j < nf
  · rw [List.getElem?_range hj]
    by_cases hkj : k = j
    · subst hkj
      rw [if_pos rfl, if_pos (by simpa using hj)]
      show some (amFv b bS (upM M (amFC ci k) i 0 x) t ci i k) = some (.int x)
      unfold amFv
      split
      · rename_i h9; exact absurd h9 hkd
      · rw [upM_eq]
    · rw [if_neg hkj]
      show some (amFv b bS (upM M (amFC ci k) i 0 x) t ci i j) = some (amFv b bS M t ci i j)
      unfold amFv
      rw [upM_ne (fun z => hkj (amFC_inj (by omega) (by omega) z.1).2.symm)]
  · rw [List.getElem?_eq_none (by simpa using hj)]
    rw [if_neg (by omega)]
    rfl
theorem amSt_lt {t c i j : Nat} : amSt t c i j = true ↔ amOrf.idxOf (c, i, j) < t := by
  unfold amSt
  exact decide_eq_true_iff
theorem amSt_succ {t c i j c' i' j' : Nat} (h : amOrf[t]? = some (c', i', j')) : amSt (t + 1) c i j = true ↔ amSt t c i j = true ∨ (c, i, j) = (c', i', j') := by
  rw [amSt_lt, amSt_lt]
  obtain ⟨h1, h2⟩ := List.getElem?_eq_some_iff.mp h
  have h3 : amOrf.idxOf (c', i', j') = t := by
    rw [← h2]
    exact List.Nodup.idxOf_getElem amOrcC.2.2.1 t h1
  constructor
  · intro h4
    rcases Nat.lt_or_ge (amOrf.idxOf (c, i, j)) t with h5 | h5
    · exact Or.inl h5
    · right
      have h6 : amOrf.idxOf (c, i, j) = t := by omega
      have h7 : (c, i, j) ∈ amOrf := List.idxOf_lt_length_iff.mp (by rw [h6]; exact h1)
      have h8 : amOrf[amOrf.idxOf (c, i, j)]? = some (c, i, j) := by
        rw [List.getElem?_eq_getElem (List.idxOf_lt_length_iff.mpr h7), List.getElem_idxOf]
      rw [h6, h] at h8
      exact (Option.some.inj h8).symm
  · intro h4
    rcases h4 with h4 | h4
    · omega
    · rw [h4, h3]
      omega
theorem amSt_other {t c i j c' i' j' : Nat} (h : amOrf[t]? = some (c', i', j')) (hne : (c, i, j) ≠ (c', i', j')) : amSt (t + 1) c i j = amSt t c i j := by
  have h1 := amSt_succ (c := c) (i := i) (j := j) h
  rw [Bool.eq_iff_iff, h1]
  exact ⟨fun z => z.elim id (fun z => absurd z hne), Or.inl⟩
theorem amSt_this {t c i j : Nat} (h : amOrf[t]? = some (c, i, j)) : amSt (t + 1) c i j = true := (amSt_succ h).mpr (Or.inr rfl)
theorem amFv_ref {b bS : Nat} {M : amM} {t ci i k nf : Nat} (hkd : amKd ci k = 2) (h : amOrf[t]? = some (amFC ci k, i, 0)) (hk : k < nf) (hn : nf ≤ 50) : (List.range nf).map (amFv b bS M (t + 1) ci i) = ((List.range nf).map (amFv b bS M t ci i)).set k (.ref (amAd b bS (amTg ci k i))) := by
  apply List.ext_getElem?
  intro j
  rw [List.getElem?_set, List.getElem?_map, List.getElem?_map]
  by_cases hj : j < nf
  · rw [List.getElem?_range hj]
    by_cases hkj : k = j
    · subst hkj
      rw [if_pos rfl, if_pos (by simpa using hj)]
      show some (amFv b bS M (t + 1) ci i k) = some (.ref (amAd b bS (amTg ci k i)))
      unfold amFv
      rw [hkd, amSt_this h]
      rfl
    · rw [if_neg hkj]
      show some (amFv b bS M (t + 1) ci i j) = some (amFv b bS M t ci i j)
      unfold amFv
      rw [amSt_other h (fun z => hkj (amFC_inj (by omega) (by omega) (Prod.mk.inj z).1).2.symm)]
  · rw [List.getElem?_eq_none (by simpa using hj)]
    rw [if_neg (by omega)]
    rfl
section SND3
variable {p : Program} {l : Launch} {e : Env} {R : Room} {s : State} {m : MethodId} {args : Array Value} {below : List Frame} {meth : Method} {c : Code} {Q : State → Prop} {b bS : Nat} {D : va_G} {dA : FieldType → ClassId} {q : amInf} {c0 s0 pc n : Nat} {L : amL} {S : List amV} {st : amS} {N : amF ⊕ amR} {CALL : Nat → List amV → amS → Option amR} {ls : Array Slot} {H : Heap} {locs : List Loc} {cells slots : Nat}
/-- a field that isn't final is written -/
theorem am_putI {cn idx ci kf a : Nat} {cq : String × List (String × String × Bool)} {tys : List (ClassId × FieldType)} {fs : List Value} {v : Value} {rest : List Value} (hx : p.tables.exec = Jvm.exec) {cc : ByteArray} (hb : c.code = cc) (hts : ∀ w ∈ amW, w.before args s = true) (hown : s.vm.findClass (amOwn cn) = some m.cls) (hK : va_K D amCls tys s) (g1 : amFs[ci]? = some cq) (g2 : kf < cq.2.length) (g3 : Cond.fieldLink (amOwn cn) idx (amT cq kf).1 (amT cq kf).2.1 (amT cq kf).2.2.1 ∈ lw_tbl) (hfin : (amT cq kf).2.2.2 = false) (hn : narrow (amFt cq kf) v = v) (hfit : fits (amFt cq kf) v = true)
    (hat : va_at D amCls (a, .inr (ci, fs)) H) (hlen : kf < fs.length) (hdg : decode cc pc = .ok (.putfield idx, 3))
    (kk : ∀ (H1 : Heap) (z : Nat), H1.size = H.size → (∀ y, y ≠ a → H1[y]? = H[y]?) → va_at D amCls (a, .inr (ci, fs.set kf v)) H1 → W p l e R s m args below meth c H1 (locs ++ [⟨a, z⟩]) cells slots Q (F0 m (pc + 3) ls rest)) : W p l e R s m args below meth c H locs cells slots Q (F0 m pc ls (v :: .ref a :: rest)) := by
  obtain ⟨ft, nm⟩ := amFt_ok g1
  have hcl := amCls_at g1
  have hin := amCls_in g1
  obtain ⟨r, r1, cell, y1, y2, y3, y4⟩ := hat
  obtain rfl : r = (cq.1, amT cq, cq.2.length) := Option.some.inj (r1.symm.trans hcl)
  have hap := va_apart (own := amOwn cn) hts hin _ ft nm hK hcl
  obtain ⟨sl, hfc, kC, hkC, hkind⟩ := hK.1 ci _ hcl
  obtain ⟨cf, kx, fi, f, hi, hsl⟩ := sl kf g2
  have hlay := hts _ (hin _ (u_in_lay g2))
  unfold u_lay at hlay
  rw [hfin] at hlay
  have hsd := u_store hfc hkC hkind hlay hi (ft kf g2) hn hfit
  refine W.putK hx hb (f := f) ⟨hown, hts _ (amW_in g3 rfl), ⟨_, _, _, hi⟩, (u_facts hfc hkC (Or.inl hlay) hi).1⟩ (by rw [y2]; exact hsd) y1 y3 (by rw [hsl]; exact k2_hasslot (y4 kf g2)) rfl rfl hdg (fun H1 e1 e2 e3 => ?_)
  rw [hsl] at e1
  exact kk H1 f.slot e2 e3 ⟨_, hcl, (t_OB.to (V := updV (vp_V fs) kf v) ⟨_, e1, y2, y3, t_set y4 hap g2 v⟩ (fun j _ => vp_updV_set hlen v j))⟩
/-- a final field is written, by its own constructor -/
theorem am_putR {idx ci kf a : Nat} {cq : String × List (String × String × Bool)} {tys : List (ClassId × FieldType)} {fs : List Value} {v : Value} {rest : List Value} (hx : p.tables.exec = Jvm.exec) {cc : ByteArray} (hb : c.code = cc) (hts : ∀ w ∈ amW, w.before args s = true) (hown : s.vm.findClass (amOwn ci) = some m.cls) (hnm : amOwn ci = cq.1) (hini : meth.name = "<init>") (hK : va_K D amCls tys s) (g1 : amFs[ci]? = some cq) (g2 : kf < cq.2.length) (g3 : Cond.fieldLink (amOwn ci) idx (amT cq kf).1 (amT cq kf).2.1 (amT cq kf).2.2.1 ∈ lw_tbl) (hfin : (amT cq kf).2.2.2 = true) (hn : narrow (amFt cq kf) v = v) (hfit : fits (amFt cq kf) v = true)
    (hat : va_at D amCls (a, .inr (ci, fs)) H) (hlen : kf < fs.length) (hdg : decode cc pc = .ok (.putfield idx, 3))
    (kk : ∀ (H1 : Heap) (z : Nat), H1.size = H.size → (∀ y, y ≠ a → H1[y]? = H[y]?) → va_at D amCls (a, .inr (ci, fs.set kf v)) H1 → W p l e R s m args below meth c H1 (locs ++ [⟨a, z⟩]) cells slots Q (F0 m (pc + 3) ls rest)) : W p l e R s m args below meth c H locs cells slots Q (F0 m pc ls (v :: .ref a :: rest)) := by
  obtain ⟨ft, nm⟩ := amFt_ok g1
  have hcl := amCls_at g1
  have hin := amCls_in g1
  obtain ⟨r, r1, cell, y1, y2, y3, y4⟩ := hat
  obtain rfl : r = (cq.1, amT cq, cq.2.length) := Option.some.inj (r1.symm.trans hcl)
  have hap := va_apart (own := amOwn ci) hts hin _ ft nm hK hcl
  obtain ⟨sl, hfc, kC, hkC, hkind⟩ := hK.1 ci _ hcl
  obtain ⟨cf, kx, fi, f, hi, hsl⟩ := sl kf g2
  have hlay := hts _ (hin _ (u_in_lay g2))
  unfold u_lay at hlay
  rw [if_pos hfin] at hlay
  have hmc : m.cls = cf := by
    obtain ⟨_, _, x1, _, _, _, -, -, x2, -, -, -, x3, -⟩ := Cond.laysFinal_spec hlay
    have x4 := hi.symm.trans x2
    simp at x4
    rw [x4.1]
    have x5 : s.vm.findClass (amOwn ci) = some x1 := by rw [hnm]; exact x3
    exact Option.some.inj (hown.symm.trans x5)
  have hsd := u_fits hfc hkC hkind (Or.inr hlay) hi (ft kf g2) hn hfit
  refine W.putFinK hx hb hown (hts _ (amW_in g3 rfl)) hi (u_facts hfc hkC (Or.inr hlay) hi).1 hmc hini (by rw [y2]; exact hsd) y1 y3 (by rw [hsl]; exact k2_hasslot (y4 kf g2)) rfl rfl hdg (fun H1 e1 e2 e3 => ?_)
  rw [hsl] at e1
  exact kk H1 f.slot e2 e3 ⟨_, hcl, (t_OB.to (V := updV (vp_V fs) kf v) ⟨_, e1, y2, y3, t_set y4 hap g2 v⟩ (fun j _ => vp_updV_set hlen v j))⟩
theorem amOwn_at {ci : Nat} {cq : String × List (String × String × Bool)} (h : amFs[ci]? = some cq) : amOwn ci = cq.1 := by
  have h1 : ((List.range 13).all (fun ci => match amFs[ci]? with
    | some cq => decide (amOwn ci = cq.1)
    | none => false)) = true := by decide +kernel
  have h2 := List.all_eq_true.mp h1 ci (List.mem_range.mpr (amFs_lt h))
  rw [h] at h2
  exact of_decide_eq_true h2
/-- an int is written into a field: the picture -/
theorem amRep_putI {ci kf i : Nat} {x : Int32} {cq : String × List (String × String × Bool)} {H1 : Heap} (hbs : bS < b) (hR : amRep b bS D dA s st H) (g1 : amFs[ci]? = some cq) (g2 : kf < cq.2.length) (hkd : amKd ci kf ≠ 2) (hal : amAl st.2.2.2.1 ci i = true) (hz : H1.size = H.size) (hq : ∀ a, a ≠ amAd b bS (ci, i) → H1[a]? = H[a]?)
    (hat : va_at D amCls (amAd b bS (ci, i), .inr (ci, ((List.range (amNf ci)).map (amFv b bS st.1 st.2.2.2.2.1 ci i)).set kf (.int x))) H1) : amRep b bS D dA s (upM st.1 (amFC ci kf) i 0 x, st.2.1, st.2.2) H1 := by
  have hci : ci < 50 := Nat.lt_of_lt_of_le (amFs_lt g1) (by decide)
  have h50 := amNf_le ci hci
  have hk : kf < amNf ci := by rw [amNf_at g1]; exact g2
  refine amRep_set hbs hR hal rfl rfl ?_ ?_ hz hq ?_
  · funext j
    exact upM_ne (fun z => by have := z.1; unfold amFC at this; omega)
  · intro y hy hne
    refine amE_same hy (fun h1 k2 hk2 => ?_) (fun _ _ _ => rfl) (fun h1 => ?_) (fun _ => rfl) (fun _ _ => rfl)
    · refine upM_ne (fun z => hne ?_)
      obtain ⟨z1, z2, z3⟩ := z
      have := (amFC_inj hk2 (by omega) z1).1
      exact Prod.ext this z2
    · funext j
      refine upM_ne (fun z => ?_)
      have z1 := z.1
      rcases amOrcC.2.1 y hy with h2 | h2
      · omega
      · unfold amFC at z1; omega
  · rw [amE_obj hci]
    show va_at D amCls (amAd b bS (ci, i), .inr (ci, (List.range (amNf ci)).map (amFv b bS (upM st.1 (amFC ci kf) i 0 x) st.2.2.2.2.1 ci i))) H1
    rw [amFv_put hkd hk h50]
    exact hat
theorem sn_putfield {idx : Nat} (Cx : amCx p s m args meth c b bS D dA q) (hl : amLR b bS ls L) (hL : L.length = q.2.2.1) (hR : amRep b bS D dA s st H) (hS : va_S (fun a => b ≤ a) s.heap H locs) (hc : cells + c0 = amCN st) (hs : slots + s0 = amSN st) (hdg : decode q.2.1 pc = .ok (.putfield idx, n)) (h : amStep CALL q pc (.putfield idx) n L S st = some N) (k : amCont p l e R s m args below meth c Q b bS D dA q c0 s0 N) : W p l e R s m args below meth c H locs cells slots Q (F0 m pc ls (S.map (amCv b bS))) := by
  obtain ⟨hx, hb, hml, hown, hts, hKn, hbs, hbz, hini⟩ := Cx
  dsimp only [amStep] at h
  unfold amPutf at h
  split at h
  · rename_i ci kf x rc ri S hfl
    obtain ⟨cq, g1, g2, g3⟩ := amFL_wd hfl
    have hci : ci < 50 := Nat.lt_of_lt_of_le (amFs_lt g1) (by decide)
    have hkl : kf < ((List.range (amNf ci)).map (amFv b bS st.1 st.2.2.2.2.1 ci ri)).length := by rw [List.length_map, List.length_range, amNf_at g1]; exact g2
    split at h
    · rename_i hkd
      obtain ⟨h1, rfl⟩ := amGo_inv h
      simp only [Bool.and_eq_true, beq_iff_eq] at h1
      obtain ⟨⟨rfl, rfl⟩, hal⟩ := h1
      have hat := hR.1 _ _ (amWs_at (b := b) (bS := bS) (dA := dA) hR.2.2.2.1 hal)
      rw [amE_obj hci] at hat
      obtain ⟨i1, i2⟩ := (amKd_ok g1 g2).1 hkd
      refine am_putI (v := .int x) hx hb hts hown hKn.1 g1 g2 g3 i2 (by rw [i1]; rfl) (by rw [i1]; rfl) hat hkl hdg (fun H1 z e1 e2 e3 => ?_)
      exact k ls H1 _ cells slots hl hL (amRep_putI hbs hR g1 g2 (by rw [hkd]; decide) hal e1 e2 e3) (hS.put e1 e2 (by show b ≤ amAd b bS (rc, ri); rw [amAd_in (amIdx_lt hR.2.2.2.1 hal).2]; omega)) hc hs
    · rename_i hkd
      obtain ⟨h1, rfl⟩ := amGo_inv h
      simp only [Bool.and_eq_true, beq_iff_eq, decide_eq_true_eq] at h1
      obtain ⟨⟨⟨rfl, rfl⟩, hal⟩, h01⟩ := h1
      have hat := hR.1 _ _ (amWs_at (b := b) (bS := bS) (dA := dA) hR.2.2.2.1 hal)
      rw [amE_obj hci] at hat
      obtain ⟨i1, i2⟩ := (amKd_ok g1 g2).2.1 hkd
      refine am_putI (v := .int x) hx hb hts hown hKn.1 g1 g2 g3 i2 (by rw [i1]; rcases h01 with rfl | rfl <;> rfl) (by rw [i1]; rcases h01 with rfl | rfl <;> rfl) hat hkl hdg (fun H1 z e1 e2 e3 => ?_)
      exact k ls H1 _ cells slots hl hL (amRep_putI hbs hR g1 g2 (by rw [hkd]; decide) hal e1 e2 e3) (hS.put e1 e2 (by show b ≤ amAd b bS (rc, ri); rw [amAd_in (amIdx_lt hR.2.2.2.1 hal).2]; omega)) hc hs
    · cases h
  · rename_i ci kf vc vi rc ri S hfl
    obtain ⟨cq, g1, g2, g3⟩ := amFL_wd hfl
    have hci : ci < 50 := Nat.lt_of_lt_of_le (amFs_lt g1) (by decide)
    have hkl : kf < ((List.range (amNf ci)).map (amFv b bS st.1 st.2.2.2.2.1 ci ri)).length := by rw [List.length_map, List.length_range, amNf_at g1]; exact g2
    split at h
    · rename_i hkd
      obtain ⟨h1, rfl⟩ := amGo_inv h
      simp only [Bool.and_eq_true, beq_iff_eq, decide_eq_true_eq] at h1
      obtain ⟨⟨⟨⟨⟨⟨⟨rfl, rfl⟩, hal⟩, hin⟩, hcn⟩, htg⟩, hal2⟩, hrs⟩ := h1
      have hrs : amOrf[st.2.2.2.2.1]? = some (amFC rc kf, ri, 0) := of_decide_eq_true hrs
      have hat := hR.1 _ _ (amWs_at (b := b) (bS := bS) (dA := dA) hR.2.2.2.1 hal)
      rw [amE_obj hci] at hat
      obtain ⟨i1, i2⟩ := (amKd_ok g1 g2).2.2 hkd
      have hfit : ∀ a : Nat, narrow (amFt cq kf) (.ref a) = .ref a ∧ fits (amFt cq kf) (.ref a) = true := by
        intro a
        rcases i2 with ⟨z, i2⟩ | ⟨z, i2⟩ <;> rw [i2] <;> exact ⟨rfl, rfl⟩
      rw [hcn] at hown g3
      refine am_putR (v := .ref (amAd b bS (vc, vi))) hx hb hts hown (amOwn_at g1) (hini hin) hKn.1 g1 g2 g3 i1 (hfit _).1 (hfit _).2 hat hkl hdg (fun H1 z e1 e2 e3 => ?_)
      have h50 := amNf_le rc hci
      have hk : kf < amNf rc := by rw [amNf_at g1]; exact g2
      refine k ls H1 _ cells slots hl hL (amRep_set hbs hR hal rfl rfl rfl ?_ e1 e2 ?_) (hS.put e1 e2 (by show b ≤ amAd b bS (rc, ri); rw [amAd_in (amIdx_lt hR.2.2.2.1 hal).2]; omega)) hc hs
      · intro y hy hne
        refine amE_same hy (fun _ _ _ => rfl) (fun h1 k2 hk2 => ?_) (fun _ => rfl) (fun _ => rfl) (fun h1 j => ?_)
        · refine amSt_other hrs (fun z => hne ?_)
          obtain ⟨z1, z2⟩ := Prod.mk.inj z
          obtain ⟨z2, z3⟩ := Prod.mk.inj z2
          exact Prod.ext (amFC_inj hk2 (by omega) z1).1 z2
        · refine amSt_other hrs (fun z => ?_)
          obtain ⟨z1, z2⟩ := Prod.mk.inj z
          rcases amOrcC.2.1 y hy with h2 | h2
          · omega
          · unfold amFC at z1; omega
      · rw [amE_obj hci]
        show va_at D amCls (amAd b bS (rc, ri), .inr (rc, (List.range (amNf rc)).map (amFv b bS st.1 (st.2.2.2.2.1 + 1) rc ri))) H1
        rw [amFv_ref hkd hrs hk h50, htg]
        exact e3
    · cases h
  · cases h
/-- an array cell has changed at one place -/
theorem amRep_arr {rc ri : Nat} {st' : amS} {H1 : Heap} (hbs : bS < b) (hR : amRep b bS D dA s st H) (hge : 100 ≤ rc) (hal : amAl st.2.2.2.1 rc ri = true) (hg : st'.2.2 = st.2.2) (hM : ∀ c' i', ¬ (c' = rc ∧ i' = ri) → st'.1 c' i' = st.1 c' i') (hJ : ∀ c', c' ≠ rc → st'.2.1 c' = st.2.1 c') (hJ2 : amTn rc ≠ 3 → st'.2.1 rc = st.2.1 rc) (huniq : amTn rc = 3 → ∀ i', (rc, i') ∈ amOrc → i' = ri)
    (hz : H1.size = H.size) (hq : ∀ a, a ≠ amAd b bS (rc, ri) → H1[a]? = H[a]?) (hat : va_at D amCls (amAd b bS (rc, ri), amE b bS dA st' (rc, ri)) H1) : amRep b bS D dA s st' H1 := by
  have hlt : rc < 1000 := by
    rcases amOrcC.2.1 _ (amIdx_lt hR.2.2.2.1 hal).2 with h2 | h2
    · dsimp only at h2; omega
    · exact h2.2
  refine amRep_set hbs hR hal (by rw [hg]) (by rw [hg]) (hM 99 0 (by omega)) ?_ hz hq hat
  intro y hy hne
  refine amE_same hy (fun h1 k2 hk2 => ?_) (fun _ _ _ => by rw [hg]) (fun h1 => ?_) (fun h1 => ?_) (fun _ _ => by rw [hg])
  · rw [hM _ _ (fun z => by have := z.1; unfold amFC at this; omega)]
  · exact hM _ _ (fun z => hne (Prod.ext z.1 z.2))
  · by_cases hy1 : y.1 = rc
    · by_cases h3 : amTn rc = 3
      · refine absurd (Prod.ext hy1 (huniq h3 y.2 ?_)) hne
        rw [← hy1]
        exact hy
      · rw [hy1]
        exact hJ2 h3
    · exact hJ _ hy1
theorem amLongOne : ∀ x ∈ amOrc, amTn x.1 = 3 → x.2 = 0 := by decide +kernel
theorem amAd_ge {k rc ri : Nat} (hk : k ≤ amOrc.length) (hal : amAl k rc ri = true) : b ≤ amAd b bS (rc, ri) := by
  rw [amAd_in (amIdx_lt hk hal).2]
  omega
theorem upM_row {M : amM} {c i j : Nat} {x : Int32} : upM M c i j x c i = upd (M c i) j x := by
  funext j'
  unfold upM upd
  by_cases h : j' = j
  · rw [if_pos ⟨rfl, rfl, h⟩, if_pos h]
  · rw [if_neg (fun z => h z.2.2), if_neg h]
theorem upM_oth {M : amM} {c i j : Nat} {x : Int32} {c' i' : Nat} (h : ¬ (c' = c ∧ i' = i)) : upM M c i j x c' i' = M c' i' := by
  funext j'
  exact upM_ne (fun z => h ⟨z.1, z.2.1⟩)
theorem updV_int {f : Nat → Int32} {j : Nat} {x : Int32} : updV (fun z => Value.int (f z)) j (.int x) = fun z => .int (upd f j x z) := by
  funext z
  unfold updV upd
  split <;> rfl
theorem updV_long {f : Nat → Int64} {j : Nat} {x : Int64} : updV (fun z => Value.long (f z)) j (.long x) = fun z => .long (vp_updL f j x z) := by
  funext z
  unfold updV vp_updL
  split <;> rfl
/-- the picture behind a store of an int into an array -/
theorem amRep_ast {rc ri tn : Nat} {j : Nat} {x : Int32} {H1 : Heap} (hbs : bS < b) (hR : amRep b bS D dA s st H) (hge : 100 ≤ rc) (hal : amAl st.2.2.2.1 rc ri = true) (htn : amTn rc = tn) (h3 : tn < 3) (hz : H1.size = H.size) (hq : ∀ a, a ≠ amAd b bS (rc, ri) → H1[a]? = H[a]?)
    (hat : H1[amAd b bS (rc, ri)]? = some ((vp_cell (dA (amTf tn)) (amLen rc, .inl (st.1 rc ri))).setSlot j (.int x))) : amRep b bS D dA s (upM st.1 rc ri j x, st.2.1, st.2.2) H1 := by
  refine amRep_arr hbs hR hge hal rfl (fun c' i' h => upM_oth h) (fun _ _ => rfl) (fun _ => rfl) (fun h => by omega) hz hq ?_
  rw [amE_int hge htn h3]
  show H1[amAd b bS (rc, ri)]? = some (vp_cell (dA (amTf tn)) (amLen rc, .inl (upM st.1 rc ri j x rc ri)))
  rw [hat, upM_row, vp_cell_i, vp_cell_i, arrV_store, updV_int]

theorem sn_iastore (Cx : amCx p s m args meth c b bS D dA q) (hl : amLR b bS ls L) (hL : L.length = q.2.2.1) (hR : amRep b bS D dA s st H) (hS : va_S (fun a => b ≤ a) s.heap H locs) (hc : cells + c0 = amCN st) (hs : slots + s0 = amSN st) (hdg : decode q.2.1 pc = .ok (.iastore, n)) (h : amStep CALL q pc .iastore n L S st = some N) (k : amCont p l e R s m args below meth c Q b bS D dA q c0 s0 N) : W p l e R s m args below meth c H locs cells slots Q (F0 m pc ls (S.map (amCv b bS))) := by
  obtain ⟨hx, hb, hml, hown, hts, hKn, hbs, hbz, hini⟩ := Cx
  dsimp only [amStep] at h
  unfold amAst at h
  split at h
  · rename_i x j rc ri S
    obtain ⟨h1, rfl⟩ := amGo_inv h
    rw [Bool.and_eq_true] at h1
    obtain ⟨h1, h2⟩ := h1
    obtain rfl : n = 1 := by simpa using h1
    unfold amOw at h2
    simp only [Bool.and_eq_true, beq_iff_eq, decide_eq_true_eq] at h2
    obtain ⟨⟨⟨hge, hal⟩, htn⟩, hin⟩ := h2
    have hat := hR.1 _ _ (amWs_at (b := b) (bS := bS) (dA := dA) hR.2.2.2.1 hal)
    rw [amE_int hge htn (by decide)] at hat
    refine W.iast (a := amAd b bS (rc, ri)) hx hb hat ((hKn.1.2 0 _ rfl).1 _ (fun z => .int (st.1 rc ri z))) (fun z => by cases z) (by show ¬ (j < 0 ∨ (arrV _ _ _).slots.size ≤ _); rw [arrV_size]; exact amIn_iff hin) rfl rfl hdg (fun H1 e1 e2 e3 => ?_)
    exact k ls H1 _ cells slots hl hL (amRep_ast hbs hR hge hal htn (by decide) e2 e3 e1) (hS.put e2 e3 (amAd_ge hR.2.2.2.1 hal)) hc hs
  · cases h
theorem sn_bastore (Cx : amCx p s m args meth c b bS D dA q) (hl : amLR b bS ls L) (hL : L.length = q.2.2.1) (hR : amRep b bS D dA s st H) (hS : va_S (fun a => b ≤ a) s.heap H locs) (hc : cells + c0 = amCN st) (hs : slots + s0 = amSN st) (hdg : decode q.2.1 pc = .ok (.bastore, n)) (h : amStep CALL q pc .bastore n L S st = some N) (k : amCont p l e R s m args below meth c Q b bS D dA q c0 s0 N) : W p l e R s m args below meth c H locs cells slots Q (F0 m pc ls (S.map (amCv b bS))) := by
  obtain ⟨hx, hb, hml, hown, hts, hKn, hbs, hbz, hini⟩ := Cx
  dsimp only [amStep] at h
  unfold amBst at h
  split at h
  · rename_i x j rc ri S
    split at h
    · rename_i htn
      obtain ⟨h1, rfl⟩ := amGo_inv h
      rw [Bool.and_eq_true] at h1
      obtain ⟨h1, h2⟩ := h1
      obtain rfl : n = 1 := by simpa using h1
      unfold amOw at h2
      simp only [Bool.and_eq_true, beq_iff_eq, decide_eq_true_eq] at h2
      obtain ⟨⟨⟨hge, hal⟩, -⟩, hin⟩ := h2
      have hat := hR.1 _ _ (amWs_at (b := b) (bS := bS) (dA := dA) hR.2.2.2.1 hal)
      rw [amE_int hge htn (by decide)] at hat
      refine W.bast (a := amAd b bS (rc, ri)) hx hb hat ((hKn.1.2 1 _ rfl).1 _ (fun z => .int (st.1 rc ri z))) (fun z => by cases z) (by show ¬ (j < 0 ∨ (arrV _ _ _).slots.size ≤ _); rw [arrV_size]; exact amIn_iff hin) rfl rfl hdg (fun H1 e1 e2 e3 => ?_)
      exact k ls H1 _ cells slots hl hL (amRep_ast hbs hR hge hal htn (by decide) e2 e3 e1) (hS.put e2 e3 (amAd_ge hR.2.2.2.1 hal)) hc hs
    · rename_i htn
      obtain ⟨h1, rfl⟩ := amGo_inv h
      rw [Bool.and_eq_true] at h1
      obtain ⟨h1, h2⟩ := h1
      obtain rfl : n = 1 := by simpa using h1
      unfold amOw at h2
      simp only [Bool.and_eq_true, beq_iff_eq, decide_eq_true_eq] at h2
      obtain ⟨⟨⟨hge, hal⟩, -⟩, hin⟩ := h2
      have hat := hR.1 _ _ (amWs_at (b := b) (bS := bS) (dA := dA) hR.2.2.2.1 hal)
      rw [amE_int hge htn (by decide)] at hat
      refine W.zast (a := amAd b bS (rc, ri)) hx hb hat ((hKn.1.2 2 _ rfl).1 _ (fun z => .int (st.1 rc ri z))) (fun z => by cases z) (by show ¬ (j < 0 ∨ (arrV _ _ _).slots.size ≤ _); rw [arrV_size]; exact amIn_iff hin) rfl rfl hdg (fun H1 e1 e2 e3 => ?_)
      exact k ls H1 _ cells slots hl hL (amRep_ast hbs hR hge hal htn (by decide) e2 e3 e1) (hS.put e2 e3 (amAd_ge hR.2.2.2.1 hal)) hc hs
    · cases h
  · cases h
theorem sn_lastore (Cx : amCx p s m args meth c b bS D dA q) (hl : amLR b bS ls L) (hL : L.length = q.2.2.1) (hR : amRep b bS D dA s st H) (hS : va_S (fun a => b ≤ a) s.heap H locs) (hc : cells + c0 = amCN st) (hs : slots + s0 = amSN st) (hdg : decode q.2.1 pc = .ok (.lastore, n)) (h : amStep CALL q pc .lastore n L S st = some N) (k : amCont p l e R s m args below meth c Q b bS D dA q c0 s0 N) : W p l e R s m args below meth c H locs cells slots Q (F0 m pc ls (S.map (amCv b bS))) := by
  obtain ⟨hx, hb, hml, hown, hts, hKn, hbs, hbz, hini⟩ := Cx
  dsimp only [amStep] at h
  unfold amLst at h
  split at h
  · rename_i x j rc ri S
    obtain ⟨h1, rfl⟩ := amGo_inv h
    rw [Bool.and_eq_true] at h1
    obtain ⟨h1, h2⟩ := h1
    obtain rfl : n = 1 := by simpa using h1
    unfold amOw at h2
    simp only [Bool.and_eq_true, beq_iff_eq, decide_eq_true_eq] at h2
    obtain ⟨⟨⟨hge, hal⟩, htn⟩, hin⟩ := h2
    have hat := hR.1 _ _ (amWs_at (b := b) (bS := bS) (dA := dA) hR.2.2.2.1 hal)
    rw [amE_long hge htn] at hat
    refine W.last (a := amAd b bS (rc, ri)) hx hb hat ((hKn.1.2 3 _ rfl).1 _ (fun z => .long (st.2.1 rc z))) (fun z => by cases z) (by show ¬ (j < 0 ∨ (arrV _ _ _).slots.size ≤ _); rw [arrV_size]; exact amIn_iff hin) rfl rfl hdg (fun H1 e1 e2 e3 => ?_)
    have hu : ∀ i', (rc, i') ∈ amOrc → i' = ri := fun i' hi' => (amLongOne _ hi' htn).trans (amLongOne _ (amIdx_lt hR.2.2.2.1 hal).2 htn).symm
    refine k ls H1 _ cells slots hl hL (amRep_arr hbs hR hge hal rfl (fun _ _ _ => rfl) (fun c' hc' => ?_) (fun hz => absurd htn hz) (fun _ => hu) e2 e3 ?_) (hS.put e2 e3 (amAd_ge hR.2.2.2.1 hal)) hc hs
    · funext z
      exact if_neg (fun y => hc' y.1)
    · rw [amE_long hge htn]
      show H1[amAd b bS (rc, ri)]? = some (vp_cell (dA .long) (amLen rc, .inr (.inl (upJ st.2.1 rc j.toNatClampNeg x rc))))
      have hup : upJ st.2.1 rc j.toNatClampNeg x rc = vp_updL (st.2.1 rc) j.toNatClampNeg x := by
        funext z
        unfold upJ vp_updL
        by_cases hzj : z = j.toNatClampNeg
        · rw [if_pos ⟨rfl, hzj⟩, if_pos hzj]
        · rw [if_neg (fun y => hzj y.2), if_neg hzj]
      rw [e1, hup, vp_cell_l, vp_cell_l, arrV_store, updV_long]
  · cases h
theorem sn_aastore (Cx : amCx p s m args meth c b bS D dA q) (hl : amLR b bS ls L) (hL : L.length = q.2.2.1) (hR : amRep b bS D dA s st H) (hS : va_S (fun a => b ≤ a) s.heap H locs) (hc : cells + c0 = amCN st) (hs : slots + s0 = amSN st) (hdg : decode q.2.1 pc = .ok (.aastore, n)) (h : amStep CALL q pc .aastore n L S st = some N) (k : amCont p l e R s m args below meth c Q b bS D dA q c0 s0 N) : W p l e R s m args below meth c H locs cells slots Q (F0 m pc ls (S.map (amCv b bS))) := by
  obtain ⟨hx, hb, hml, hown, hts, hKn, hbs, hbz, hini⟩ := Cx
  dsimp only [amStep] at h
  unfold amRst at h
  split at h
  · rename_i vc vi j rc ri S
    obtain ⟨h1, rfl⟩ := amGo_inv h
    simp only [Bool.and_eq_true, decide_eq_true_eq] at h1
    obtain ⟨⟨⟨⟨h1, h2⟩, het⟩, hal2⟩, hrs⟩ := h1
    obtain rfl : n = 1 := by simpa using h1
    unfold amOw at h2
    simp only [Bool.and_eq_true, beq_iff_eq, decide_eq_true_eq] at h2
    obtain ⟨⟨⟨hge, hal⟩, htn⟩, hin⟩ := h2
    have hrs : amOrf[st.2.2.2.2.1]? = some (rc, ri, j.toNatClampNeg) := of_decide_eq_true hrs
    have hin := amIn_iff hin
    have hat := hR.1 _ _ (amWs_at (b := b) (bS := bS) (dA := dA) hR.2.2.2.1 hal)
    rw [amE_ref hge htn] at hat
    have hv := hR.1 _ _ (amWs_at (b := b) (bS := bS) (dA := dA) hR.2.2.2.1 hal2)
    have hvc : vc = 2 := by
      have h9 : ∀ c j, (amEt c j).1 = 2 := by
        intro c j
        unfold amEt
        split <;> rfl
      have := h9 rc j.toNatClampNeg
      rw [het] at this
      exact this
    subst hvc
    rw [amE_obj (by decide)] at hv
    obtain ⟨r, r1, cellV, y1, y2, y3, -⟩ := hv
    have hcls := (hKn.1.1 2 _ r1).2
    obtain ⟨hcf, kv, hkv, hkind⟩ := id hcls
    obtain ⟨-, kA, comp, k1, k2, k3, -⟩ := hKn.1.2 4 _ rfl
    have hr1 : r.1 = "SoundAdvice$Game" := by
      have h9 : (amCls[2]?).map (fun z => z.1) = some "SoundAdvice$Game" := by decide +kernel
      rw [r1] at h9
      exact Option.some.inj h9
    have hcomp : comp = D.1 2 := by
      rw [hr1] at hcf
      exact Option.some.inj (k3.symm.trans hcf)
    subst hcomp
    refine W.aast (a := amAd b bS (rc, ri)) (v := amAd b bS (2, vi)) (t := .object "SoundAdvice$Game") hx hb hat (fun z hz => by cases hz) (fun z => by cases z) k1 k2 rfl hkv ⟨fun z => hin (Or.inl z), by rw [vp_cell_q, arrV_size]; exact Nat.not_le.mp fun z => hin (Or.inr z)⟩ y1 (fun z hz => by rw [y3] at hz; cases hz) (by rw [y2]; exact hkv) (by rw [y2]; exact va_assign hcls) rfl rfl hdg (fun H1 e1 e2 e3 => ?_)
    have hlt : rc < 1000 := by
      rcases amOrcC.2.1 _ (amIdx_lt hR.2.2.2.1 hal).2 with h2 | h2
      · dsimp only at h2; omega
      · exact h2.2
    refine k ls H1 _ cells slots hl hL (amRep_set hbs hR hal rfl rfl rfl ?_ e2 e3 ?_) (hS.put e2 e3 (amAd_ge hR.2.2.2.1 hal)) hc hs
    · intro y hy hne
      refine amE_same hy (fun _ _ _ => rfl) (fun h1 k2 hk2 => ?_) (fun _ => rfl) (fun _ => rfl) (fun h1 j => ?_)
      · exact amSt_other hrs (fun z => by have := (Prod.mk.inj z).1; unfold amFC at this; omega)
      · refine amSt_other hrs (fun z => hne ?_)
        obtain ⟨z1, z2⟩ := Prod.mk.inj z
        exact Prod.ext z1 (Prod.mk.inj z2).1
    · rw [amE_ref hge htn]
      show H1[amAd b bS (rc, ri)]? = some (vp_cell _ (amLen rc, .inr (.inr (.inr (.inr (fun z => if amSt (st.2.2.2.2.1 + 1) rc ri z = true then some (amAd b bS (amEt rc z)) else none))))))
      rw [e1, vp_cell_q, vp_cell_q, arrV_store]
      congr 2
      funext z
      unfold updV
      by_cases hz : z = j.toNatClampNeg
      · rw [if_pos hz, hz, if_pos (amSt_this hrs), het]
        rfl
      · rw [if_neg hz, amSt_other hrs (fun y => hz (Prod.mk.inj (Prod.mk.inj y).2).2)]
  · cases h
end SND3
