/-! rules with an open receiver, switches, the math; what is made and stored in the end -/
theorem and_tt {a b : Bool} (ha : a = true) (hb : b = true) : (a && b) = true := by rw [ha, hb]; rfl
theorem Ev_virt {d y pc pc' y' c i : Nat} {q : amInf} {ins : Instr} {len : Nat} {L : amL} {S rest as : List amV} {st : amS} {Q : Option amV → amS → Prop} (hq : amMi[y]? = some q) (hf : decode q.2.1 pc = .ok (ins, len)) (hal : amAl st.2.2.2.1 c i = true) (hs : ∀ C, amStep C q pc ins len L S st = (bif amAl st.2.2.2.1 c i then amBack pc' true L rest (C y' as st) else none)) : Ev d y pc L S st Q ↔ Call d y' as st (fun v st' => Ev d y pc' L (v.toList ++ rest) st' Q) := by
  refine Ev_call hq hf (fun C => ?_)
  rw [hs C, hal]
  rfl
theorem Ev_sw {d y pc : Nat} {q : amInf} {ins : Instr} {len : Nat} {L : amL} {S S' : List amV} {st : amS} {o : Option Nat} {Q : Option amV → amS → Prop} (hq : amMi[y]? = some q) (hf : decode q.2.1 pc = .ok (ins, len)) (hs : ∀ C, amStep C q pc ins len L S st = amJmp true o L S' st) : Ev d y pc L S st Q ↔ ∃ t, o = some t ∧ Ev d y t L S' st Q := by
  cases o with
  | none => exact ⟨fun h => absurd h (Ev_stop hq hf hs), fun ⟨t, h, _⟩ => by cases h⟩
  | some t =>
    rw [Ev_go (pc' := t) (L' := L) (S' := S') (st' := st) hq hf hs]
    exact ⟨fun h => ⟨t, rfl, h⟩, fun ⟨t', h, h2⟩ => by cases h; exact h2⟩
/-- a place that may be read as an int, written, of an array of such things -/
def okR (X c i : Nat) (j : Int32) : Prop := amOk (0, 149, 147, X) c i j 0 = true
def okW (c i : Nat) (j : Int32) (tn : Nat) : Prop := amOw (0, 149, 147, 0) c i j tn = true
/-- the place is there -/
def inb (j : Int32) (n : Nat) : Prop := 0 ≤ j.toInt ∧ j.toInt < n
theorem amIn_inb {j : Int32} {n : Nat} : amIn j n = true ↔ inb j n := by
  unfold amIn
  rw [decide_eq_true_iff]
  exact vp_in_iff
def amCnt : Nat → Nat := fun c => match c with
  | 2 => 13
  | 100 => 13
  | 101 => 13
  | 102 => 13
  | 103 => 13
  | 104 => 13
  | 1 => 2
  | 9 => 4
  | 113 => 4
  | 114 => 4
  | 115 => 4
  | 116 => 4
  | 117 => 4
  | 118 => 4
  | _ => 1
theorem amCntC : amOrc.all (fun x => decide (x.2 < amCnt x.1)) = true ∧ amOrc.length = 149 ∧ amOrf.length = 147 := by decide +kernel
/-- the codes that there are -/
def amCodes : List Nat := [0, 1, 2, 3, 4, 5, 6, 7, 8, 9, 10, 11, 12, 100, 101, 102, 103, 104, 105, 106, 107, 108, 109, 110, 111, 112, 113, 114, 115, 116, 117, 118, 119, 120, 121, 122, 130, 131, 132, 133, 134, 135, 136, 137, 138, 139, 140, 141, 142, 143, 144, 145, 146, 147, 150]
theorem amCntD : (amCodes.all (fun c => (List.range (amCnt c)).all (fun i => amAl 149 c i))) = true := by decide +kernel
theorem amAl_iff {c i : Nat} (hc : c ∈ amCodes) : amAl 149 c i = true ↔ i < amCnt c := by
  constructor
  · intro h
    have h1 := amIdx_lt (Nat.le_of_eq amCntC.2.1.symm) h
    exact of_decide_eq_true (List.all_eq_true.mp amCntC.1 _ h1.2)
  · intro h
    exact List.all_eq_true.mp (List.all_eq_true.mp amCntD c hc) i (List.mem_range.mpr h)
theorem okW_iff {c i : Nat} {j : Int32} {tn : Nat} (hc : c ∈ amCodes) (h100 : 100 ≤ c) (ht : amTn c = tn) : okW c i j tn ↔ i < amCnt c ∧ inb j (amLen c) := by
  unfold okW amOw
  rw [ht]
  simp only [Bool.and_eq_true, decide_eq_true_eq, beq_self_eq_true, and_true, amIn_inb, amAl_iff hc, h100, true_and]
theorem okR_iff {X c i : Nat} {j : Int32} (hc : c ∈ amCodes) (h100 : 100 ≤ c) (ht : amTn c = 0) : okR X c i j ↔ i < amCnt c ∧ inb j (amLen c) := by
  unfold okR amOk
  have h99 : (c == 99) = false := by simp; omega
  rw [ht, h99]
  simp only [Bool.false_and, Bool.false_or, Bool.and_eq_true, decide_eq_true_eq, beq_self_eq_true, and_true, amIn_inb, amAl_iff hc, h100, true_and]
theorem okR_99 {X : Nat} {j : Int32} : okR (X + 1) 99 0 j ↔ inb j X := by
  unfold okR amOk
  simp [amIn_inb]
/-- every reference of the graph is stored in the end -/
theorem amStC : (amOrf.all (fun x => amSt 147 x.1 x.2.1 x.2.2)) = true := by decide +kernel
theorem amSt_of {c i j : Nat} (h : (c, i, j) ∈ amOrf) : amSt 147 c i j = true := List.all_eq_true.mp amStC (c, i, j) h
/-! the rules of fields and calls, by what the tables say -/
theorem Ev_getI {d y pc ci k idx i : Nat} {q : amInf} {L : amL} {S : List amV} {st : amS} {Q : Option amV → amS → Prop} (hq : amMi[y]? = some q) (hf : decode q.2.1 pc = .ok (.getfield idx, 3)) (hfl : amFL q.2.2.2.2.1 idx = some (ci, k)) (hkd : amKd ci k < 2) (hal : amAl st.2.2.2.1 ci i = true) : Ev d y pc L (vR ci i :: S) st Q ↔ Ev d y (pc + 3) L (vI (st.1 (amFC ci k) i 0) :: S) st Q := by
  refine Ev_go hq hf (fun C => ?_)
  show amGetf q.2.2.2.2.1 idx (pc + 3) (3 == 3) L (vR ci i :: S) st = _
  unfold amGetf
  rw [hfl]
  dsimp only
  split
  · rename_i h; omega
  · rw [hal]; simp [amGo]
theorem Ev_getR {d y pc ci k idx i : Nat} {q : amInf} {L : amL} {S : List amV} {st : amS} {Q : Option amV → amS → Prop} (hq : amMi[y]? = some q) (hf : decode q.2.1 pc = .ok (.getfield idx, 3)) (hfl : amFL q.2.2.2.2.1 idx = some (ci, k)) (hkd : amKd ci k = 2) (hal : amAl st.2.2.2.1 ci i = true) (hst : amSt st.2.2.2.2.1 (amFC ci k) i 0 = true) : Ev d y pc L (vR ci i :: S) st Q ↔ Ev d y (pc + 3) L (vR (amTg ci k i).1 (amTg ci k i).2 :: S) st Q := by
  refine Ev_go hq hf (fun C => ?_)
  show amGetf q.2.2.2.2.1 idx (pc + 3) (3 == 3) L (vR ci i :: S) st = _
  unfold amGetf
  rw [hfl]
  dsimp only
  split
  · rw [hal, hst]; simp [amGo]
  · rename_i h; exact absurd hkd h
theorem Ev_putI {d y pc ci k idx i : Nat} {q : amInf} {L : amL} {S : List amV} {st : amS} {x : Int32} {Q : Option amV → amS → Prop} (hq : amMi[y]? = some q) (hf : decode q.2.1 pc = .ok (.putfield idx, 3)) (hfl : amFL q.2.2.2.2.1 idx = some (ci, k)) (hkd : amKd ci k = 0) (hal : amAl st.2.2.2.1 ci i = true) : Ev d y pc L (vI x :: vR ci i :: S) st Q ↔ Ev d y (pc + 3) L S (upM st.1 (amFC ci k) i 0 x, st.2.1, st.2.2) Q := by
  refine Ev_go hq hf (fun C => ?_)
  show amPutf q.2.2.2.2.1 idx (pc + 3) (3 == 3) (decide (q.1.name = "<init>")) L (vI x :: vR ci i :: S) st = _
  unfold amPutf
  rw [hfl]
  dsimp only
  rw [hkd]
  show amGo _ _ = _
  rw [hal]
  simp [amGo]
theorem Ev_putZ {d y pc ci k idx i : Nat} {q : amInf} {L : amL} {S : List amV} {st : amS} {x : Int32} {Q : Option amV → amS → Prop} (hq : amMi[y]? = some q) (hf : decode q.2.1 pc = .ok (.putfield idx, 3)) (hfl : amFL q.2.2.2.2.1 idx = some (ci, k)) (hkd : amKd ci k = 1) (hal : amAl st.2.2.2.1 ci i = true) : Ev d y pc L (vI x :: vR ci i :: S) st Q ↔ (x = 0 ∨ x = 1) ∧ Ev d y (pc + 3) L S (upM st.1 (amFC ci k) i 0 x, st.2.1, st.2.2) Q := by
  refine Ev_ask (bb := decide (x = 0 ∨ x = 1)) hq hf decide_eq_true_iff (fun C => ?_)
  show amPutf q.2.2.2.2.1 idx (pc + 3) (3 == 3) (decide (q.1.name = "<init>")) L (vI x :: vR ci i :: S) st = _
  unfold amPutf
  rw [hfl]
  dsimp only
  rw [hkd]
  show amGo _ _ = _
  rw [hal]
  simp
theorem Ev_vir {d y pc y' c i idx kd : Nat} {q q' : amInf} {ins : Instr} {L : amL} {S rest as : List amV} {st : amS} {Q : Option amV → amS → Prop} (hq : amMi[y]? = some q) (hf : decode q.2.1 pc = .ok (ins, 3)) (hi : ins = .invokevirtual idx ∧ kd = 0 ∨ ins = .invokespecial idx ∧ (kd = 2 ∨ kd = 3)) (hml : amML q.2.2.2.2.1 idx = some (y', kd)) (hq' : amMi[y']? = some q') (hd : S.drop q'.2.2.2.2.2 = vR c i :: rest) (hcn : c = q'.2.2.2.2.1) (hal : amAl st.2.2.2.1 c i = true) (hlen : q'.2.2.2.2.2 ≤ S.length) (hcat : amCats rest ≤ 8) (has : (S.take q'.2.2.2.2.2).reverse = as) : Ev d y pc L S st Q ↔ Call d y' (vR c i :: as) st (fun v st' => Ev d y (pc + 3) L (v.toList ++ rest) st' Q) := by
  refine Ev_call hq hf (fun C => ?_)
  have key : ∀ ks : List Nat, ks.contains kd = true → (kd = 0 ∨ kd = 2 ∨ kd = 3) → amInv C ks q.2.2.2.2.1 idx (pc + 3) (3 == 3) L S st = amBack (pc + 3) true L rest (C y' (vR c i :: as) st) := by
    intro ks hks hkd
    have hv : amVirt C y' (pc + 3) (3 == 3) L S st = amBack (pc + 3) true L rest (C y' (vR c i :: as) st) := by
      unfold amVirt
      rw [hq']
      dsimp only
      rw [hd]
      dsimp only
      rw [hal, has, decide_eq_true hlen, decide_eq_true hcat, hcn]
      simp
    unfold amInv
    rw [hml]
    dsimp only
    rw [hks]
    rcases hkd with rfl | rfl | rfl <;> exact hv
  rcases hi with ⟨rfl, rfl⟩ | ⟨rfl, rfl | rfl⟩
  · exact key [0] rfl (Or.inl rfl)
  · exact key [2, 3, 4] rfl (Or.inr (Or.inl rfl))
  · exact key [2, 3, 4] rfl (Or.inr (Or.inr rfl))
theorem Ev_sta {d y pc y' idx kd : Nat} {q q' : amInf} {L : amL} {S rest as : List amV} {st : amS} {Q : Option amV → amS → Prop} (hq : amMi[y]? = some q) (hf : decode q.2.1 pc = .ok (.invokestatic idx, 3)) (hkd : kd = 1 ∨ kd = 6) (hml : amML q.2.2.2.2.1 idx = some (y', kd)) (hq' : amMi[y']? = some q') (hd : S.drop q'.2.2.2.2.2 = rest) (hlen : q'.2.2.2.2.2 ≤ S.length) (hcat : amCats rest ≤ 8) (has : (S.take q'.2.2.2.2.2).reverse = as) : Ev d y pc L S st Q ↔ Call d y' as st (fun v st' => Ev d y (pc + 3) L (v.toList ++ rest) st' Q) := by
  refine Ev_call hq hf (fun C => ?_)
  have hv : amStat C y' (pc + 3) (3 == 3) L S st = amBack (pc + 3) true L rest (C y' as st) := by
    unfold amStat
    rw [hq']
    dsimp only
    rw [hd, has, decide_eq_true hlen, decide_eq_true hcat]
    simp
  show amInv C [1, 5, 6, 7, 8, 9] q.2.2.2.2.1 idx (pc + 3) (3 == 3) L S st = _
  unfold amInv
  rw [hml]
  dsimp only
  rcases hkd with rfl | rfl <;> exact hv
theorem Ev_bst {d y pc c i tn : Nat} {q : amInf} {L : amL} {S : List amV} {st : amS} {x j : Int32} {Q : Option amV → amS → Prop} (hq : amMi[y]? = some q) (hf : decode q.2.1 pc = .ok (.bastore, 1)) (ht : amTn c = tn) (htn : tn = 1 ∨ tn = 2) : Ev d y pc L (vI x :: vI j :: vR c i :: S) st Q ↔ amOw st.2.2 c i j tn = true ∧ Ev d y (pc + 1) L S (upM st.1 c i j.toNatClampNeg (vp_nar (amTf tn) x), st.2.1, st.2.2) Q := by
  refine Ev_ask (bb := amOw st.2.2 c i j tn) hq hf Iff.rfl (fun C => ?_)
  show amBst (pc + 1) (1 == 1) L (vI x :: vI j :: vR c i :: S) st = _
  unfold amBst
  dsimp only
  rw [ht]
  rcases htn with rfl | rfl <;> simp [amTf]
/-! throwing, and the law's helpers that catch -/
theorem Ev_thr {d y pc k : Nat} {q : amInf} {L : amL} {st : amS} {Q : Option amV → amS → Prop} (hq : amMi[y]? = some q) (hf : decode q.2.1 pc = .ok (.new k, 3)) (hkl : amKL q.2.2.2.2.1 k = none) (ht : amThr q) : Ev d y pc L [] st Q ↔ Q none st := by
  refine Ev_ret hq hf (fun C => ?_)
  dsimp only [amStep]
  rw [hkl]
  dsimp only
  rw [decide_eq_true ht]
  rfl
def amPrQ (Q : Option amV → amS → Prop) : Option amV → amS → Prop := fun v st => match v with
  | none => Q (some (vI 1)) (st.1, st.2.1, (st.2.2.1 + 1, st.2.2.2))
  | some (.inl x) => Q (some (vI 0)) (st.1, upJ st.2.1 150 0 x.toInt64, st.2.2)
  | some (.inr (.inl x)) => Q (some (vI 0)) (st.1, upJ st.2.1 150 0 x, st.2.2)
  | _ => False
theorem amPrm_iff {r : Option amR} {v : Option amV} {st' : amS} {Q : Option amV → amS → Prop} (h : amPrm r 0 = some (v, st')) (hQ : Q v st') : ∃ w t, r = some (w, t) ∧ amPrQ Q w t := by
  unfold amPrm at h
  split at h
  · rename_i t; cases h; exact ⟨none, t, rfl, hQ⟩
  · rename_i x t; cases h; exact ⟨_, t, rfl, hQ⟩
  · rename_i x t; cases h; exact ⟨_, t, rfl, hQ⟩
  · cases h
theorem amPrm_of {w : Option amV} {t : amS} {Q : Option amV → amS → Prop} (h : amPrQ Q w t) : ∃ v st', amPrm (some (w, t)) 0 = some (v, st') ∧ Q v st' := by
  match w, h with
  | none, h => exact ⟨_, _, rfl, h⟩
  | some (.inl x), h => exact ⟨_, _, rfl, h⟩
  | some (.inr (.inl x)), h => exact ⟨_, _, rfl, h⟩
theorem Call_274 {d : Nat} {a b : Int32} {st : amS} {Q : Option amV → amS → Prop} : Call (d + 1) 274 [vR 11 0, vI a, vI b, vR 150 0] st Q ↔ Call d 154 [vR 11 0, vI a, vI b] st (amPrQ Q) := by
  constructor
  · rintro ⟨n, v, st', h1, h2⟩
    have h1 : amPrm (amEx d n 154 [vR 11 0, vI a, vI b] st) 0 = some (v, st') := h1
    obtain ⟨w, t, h3, h4⟩ := amPrm_iff h1 h2
    exact ⟨n, w, t, h3, h4⟩
  · rintro ⟨n, w, t, h1, h2⟩
    obtain ⟨v, st', h3, h4⟩ := amPrm_of h2
    refine ⟨n, v, st', ?_, h4⟩
    show amPrm (amEx d n 154 [vR 11 0, vI a, vI b] st) 0 = some (v, st')
    rw [h1]
    exact h3
theorem Call_275 {d : Nat} {a : Int32} {st : amS} {Q : Option amV → amS → Prop} : Call (d + 1) 275 [vR 11 0, vI a, vR 150 0] st Q ↔ Call d 155 [vR 11 0, vI a] st (amPrQ Q) := by
  constructor
  · rintro ⟨n, v, st', h1, h2⟩
    have h1 : amPrm (amEx d n 155 [vR 11 0, vI a] st) 0 = some (v, st') := h1
    obtain ⟨w, t, h3, h4⟩ := amPrm_iff h1 h2
    exact ⟨n, w, t, h3, h4⟩
  · rintro ⟨n, w, t, h1, h2⟩
    obtain ⟨v, st', h3, h4⟩ := amPrm_of h2
    refine ⟨n, v, st', ?_, h4⟩
    show amPrm (amEx d n 155 [vR 11 0, vI a] st) 0 = some (v, st')
    rw [h1]
    exact h3
