/-! HOW A METHOD ENDS, by rules -/
def amLe (C1 C2 : Nat → List amV → amS → Option amR) : Prop := ∀ (y : Nat) (as : List amV) (st : amS) (r : amR), C1 y as st = some r → C2 y as st = some r
theorem amInv_le {C1 C2 : Nat → List amV → amS → Option amR} (hC : amLe C1 C2) {ks : List Nat} {cn idx pc : Nat} {bb : Bool} {L : amL} {S : List amV} {st : amS} {N : amF ⊕ amR} (h : amInv C1 ks cn idx pc bb L S st = some N) : amInv C2 ks cn idx pc bb L S st = some N := by
  have hback : ∀ {bb : Bool} {rest : List amV} {y : Nat} {as : List amV}, amBack pc bb L rest (C1 y as st) = some N → amBack pc bb L rest (C2 y as st) = some N := by
    intro bb rest y as h
    cases hr : C1 y as st with
    | none => rw [hr] at h; cases h
    | some r => rw [hr] at h; rw [hC _ _ _ _ hr]; exact h
  have hvirt : ∀ {y : Nat}, amVirt C1 y pc bb L S st = some N → amVirt C2 y pc bb L S st = some N := by
    intro y h
    unfold amVirt at h ⊢
    split at h
    · rename_i q hq
      split at h
      · rename_i rc ri rest hd
        cases hcc : (rc == q.2.2.2.2.1 && amAl st.2.2.2.1 rc ri) with
        | false => rw [hcc] at h; cases h
        | true =>
          rw [hcc] at h
          exact hback h
      · cases h
    · cases h
  have hstat : ∀ {y : Nat}, amStat C1 y pc bb L S st = some N → amStat C2 y pc bb L S st = some N := by
    intro y h
    unfold amStat at h ⊢
    split at h
    · exact hback h
    · cases h
  unfold amInv at h ⊢
  split at h
  · rename_i y kd hm
    cases hk : ks.contains kd with
    | false => rw [hk] at h; cases h
    | true =>
      rw [hk] at h
      simp only [cond_true] at h ⊢
      split at h
      · exact hvirt h
      · exact hstat h
      · exact hvirt h
      · exact hvirt h
      · exact h
      · exact h
      · exact hstat h
      · exact h
      · exact h
      · exact h
      · cases h
  · cases h
theorem amStep_le {C1 C2 : Nat → List amV → amS → Option amR} (hC : amLe C1 C2) {q : amInf} {pc : Nat} {ins : Instr} {n : Nat} {L : amL} {S : List amV} {st : amS} {N : amF ⊕ amR} (h : amStep C1 q pc ins n L S st = some N) : amStep C2 q pc ins n L S st = some N := by
  cases ins
  case invokevirtual k => exact amInv_le hC h
  case invokespecial k => exact amInv_le hC h
  case invokestatic k => exact amInv_le hC h
  all_goals exact h
theorem amRun_le {C1 C2 : Nat → List amV → amS → Option amR} (hC : amLe C1 C2) {q : amInf} : ∀ (n n' : Nat), n ≤ n' → ∀ (f : amF) (r : amR), amRun C1 q n f = some r → amRun C2 q n' f = some r
  | 0, n', hn, f, r, h => by cases h
  | n + 1, 0, hn, f, r, h => by omega
  | n + 1, n' + 1, hn, f, r, h => by
    unfold amRun at h ⊢
    split at h
    · rename_i ins len hf
      try rw [hf]
      try dsimp only
      split at h
      · rename_i f' hst
        rw [amStep_le hC hst]
        exact amRun_le hC n n' (by omega) f' r h
      · rename_i r' hst
        rw [amStep_le hC hst]
        exact h
      · cases h
    · cases h
theorem amPri_le {C1 C2 : Nat → List amV → amS → Option amR} (hC : amLe C1 C2) : amLe (amPri C1) (amPri C2) := by
  have hp : ∀ (y o : Nat) (as : List amV) (st : amS) (r : amR), amPrm (C1 y as st) o = some r → amPrm (C2 y as st) o = some r := by
    intro y o as st r h
    cases hc : C1 y as st with
    | none => rw [hc] at h; cases h
    | some r2 => rw [hc] at h; rw [hC _ _ _ _ hc]; exact h
  intro y as st r h
  unfold amPri at h ⊢
  split at h
  · exact hp _ _ _ _ _ h
  · exact hp _ _ _ _ _ h
  · cases h
theorem amEx_le : ∀ (d d' : Nat), d ≤ d' → ∀ (n n' : Nat), n ≤ n' → amLe (amEx d n) (amEx d' n')
  | 0, d', hd, n, n', hn => fun y as st r h => by cases h
  | d + 1, 0, hd, n, n', hn => by omega
  | d + 1, d' + 1, hd, n, n', hn => fun y as st r h => by
    unfold amEx at h ⊢
    cases h4 : decide (274 ≤ y) with
    | true =>
      rw [h4] at h
      exact amPri_le (amEx_le d d' (by omega) n n' hn) y as st r h
    | false =>
      rw [h4] at h
      simp only [cond_false] at h ⊢
      split at h
      · rename_i q hq
        cases hcc : decide ((amArgs as).length ≤ q.2.2.1) with
        | false => rw [hcc] at h; cases h
        | true =>
          rw [hcc] at h
          exact amRun_le (amEx_le d d' (by omega) n n' hn) n n' hn _ _ h
      · cases h
/-- from this place of method y, calls at most so deep, the method ends, and so -/
def Ev (d y pc : Nat) (L : amL) (S : List amV) (st : amS) (Q : Option amV → amS → Prop) : Prop := ∃ (q : amInf) (n : Nat) (v : Option amV) (st' : amS), amMi[y]? = some q ∧ amRun (amEx d n) q n (pc, L, S, st) = some (v, st') ∧ Q v st'
/-- a call, at most so deep, ends, and so -/
def Call (d y : Nat) (as : List amV) (st : amS) (Q : Option amV → amS → Prop) : Prop := ∃ (n : Nat) (v : Option amV) (st' : amS), amEx d n y as st = some (v, st') ∧ Q v st'
theorem Ev_go {d y pc pc' : Nat} {q : amInf} {ins : Instr} {len : Nat} {L L' : amL} {S S' : List amV} {st st' : amS} {Q : Option amV → amS → Prop} (hq : amMi[y]? = some q) (hf : decode q.2.1 pc = .ok (ins, len)) (hs : ∀ C, amStep C q pc ins len L S st = some (.inl (pc', L', S', st'))) : Ev d y pc L S st Q ↔ Ev d y pc' L' S' st' Q := by
  have hfe : amFe q pc = some (ins, len) := by unfold amFe; rw [hf]
  constructor
  · rintro ⟨q', n, v, t, h1, h2, h3⟩
    obtain rfl : q' = q := Option.some.inj (h1.symm.trans hq)
    cases n with
    | zero => cases h2
    | succ n =>
      unfold amRun at h2
      rw [hfe] at h2
      dsimp only at h2
      rw [hs] at h2
      refine ⟨q', n + 1, v, t, hq, ?_, h3⟩
      exact amRun_le (fun _ _ _ _ h => h) n (n + 1) (by omega) _ _ h2
  · rintro ⟨q', n, v, t, h1, h2, h3⟩
    obtain rfl : q' = q := Option.some.inj (h1.symm.trans hq)
    refine ⟨q', n + 1, v, t, hq, ?_, h3⟩
    unfold amRun
    rw [hfe]
    dsimp only
    rw [hs]
    exact amRun_le (amEx_le d d (Nat.le_refl _) n (n + 1) (by omega)) n n (Nat.le_refl _) _ _ h2
theorem Ev_stop {d y pc : Nat} {q : amInf} {ins : Instr} {len : Nat} {L : amL} {S : List amV} {st : amS} {Q : Option amV → amS → Prop} (hq : amMi[y]? = some q) (hf : decode q.2.1 pc = .ok (ins, len)) (hs : ∀ C, amStep C q pc ins len L S st = none) : ¬ Ev d y pc L S st Q := by
  have hfe : amFe q pc = some (ins, len) := by unfold amFe; rw [hf]
  rintro ⟨q', n, v, t, h1, h2, h3⟩
  obtain rfl : q' = q := Option.some.inj (h1.symm.trans hq)
  cases n with
  | zero => cases h2
  | succ n =>
    unfold amRun at h2
    rw [hfe] at h2
    dsimp only at h2
    rw [hs] at h2
    cases h2
/-- a step that asks something first -/
theorem Ev_ask {d y pc pc' : Nat} {q : amInf} {ins : Instr} {len : Nat} {L L' : amL} {S S' : List amV} {st st' : amS} {Q : Option amV → amS → Prop} {P : Prop} {bb : Bool} (hq : amMi[y]? = some q) (hf : decode q.2.1 pc = .ok (ins, len)) (hP : bb = true ↔ P) (hs : ∀ C, amStep C q pc ins len L S st = amGo bb (pc', L', S', st')) : Ev d y pc L S st Q ↔ P ∧ Ev d y pc' L' S' st' Q := by
  cases bb with
  | true => rw [Ev_go hq hf hs]; exact ⟨fun h => ⟨hP.mp rfl, h⟩, fun h => h.2⟩
  | false => exact ⟨fun h => absurd h (Ev_stop hq hf hs), fun h => absurd (hP.mpr h.1) (by decide)⟩
theorem Ev_asks {d y pc pc' : Nat} {q : amInf} {ins : Instr} {len : Nat} {L L' : amL} {S S' : List amV} {st st' : amS} {Q : Option amV → amS → Prop} {bb : Bool} (hq : amMi[y]? = some q) (hf : decode q.2.1 pc = .ok (ins, len)) (hb : bb = true) (hs : ∀ C, amStep C q pc ins len L S st = amGo bb (pc', L', S', st')) : Ev d y pc L S st Q ↔ Ev d y pc' L' S' st' Q := by
  subst hb
  exact Ev_go hq hf hs
theorem Ev_ret {d y pc : Nat} {q : amInf} {ins : Instr} {len : Nat} {L : amL} {S : List amV} {st st' : amS} {v : Option amV} {Q : Option amV → amS → Prop} (hq : amMi[y]? = some q) (hf : decode q.2.1 pc = .ok (ins, len)) (hs : ∀ C, amStep C q pc ins len L S st = some (.inr (v, st'))) : Ev d y pc L S st Q ↔ Q v st' := by
  have hfe : amFe q pc = some (ins, len) := by unfold amFe; rw [hf]
  constructor
  · rintro ⟨q', n, w, t, h1, h2, h3⟩
    obtain rfl : q' = q := Option.some.inj (h1.symm.trans hq)
    cases n with
    | zero => cases h2
    | succ n =>
      unfold amRun at h2
      rw [hfe] at h2
      dsimp only at h2
      rw [hs] at h2
      cases h2
      exact h3
  · intro h
    refine ⟨q, 1, v, st', hq, ?_, h⟩
    unfold amRun
    rw [hfe]
    dsimp only
    rw [hs]
theorem Ev_rets {d y pc : Nat} {q : amInf} {ins : Instr} {len : Nat} {L : amL} {S : List amV} {st st' : amS} {v : Option amV} {Q : Option amV → amS → Prop} {P : Prop} {bb : Bool} (hq : amMi[y]? = some q) (hf : decode q.2.1 pc = .ok (ins, len)) (hP : bb = true ↔ P) (hs : ∀ C, amStep C q pc ins len L S st = amRet bb (v, st')) : Ev d y pc L S st Q ↔ P ∧ Q v st' := by
  cases bb with
  | true => rw [Ev_ret hq hf hs]; exact ⟨fun h => ⟨hP.mp rfl, h⟩, fun h => h.2⟩
  | false => exact ⟨fun h => absurd h (Ev_stop hq hf hs), fun h => absurd (hP.mpr h.1) (by decide)⟩
theorem Ev_if {d y pc t1 t2 : Nat} {q : amInf} {ins : Instr} {len : Nat} {L : amL} {S S' : List amV} {st : amS} {Q : Option amV → amS → Prop} {P : Prop} {bb : Bool} (hq : amMi[y]? = some q) (hf : decode q.2.1 pc = .ok (ins, len)) (hP : bb = true ↔ P) (hs : ∀ C, amStep C q pc ins len L S st = amJmp true (bif bb then some t1 else some t2) L S' st) : Ev d y pc L S st Q ↔ (P → Ev d y t1 L S' st Q) ∧ (¬ P → Ev d y t2 L S' st Q) := by
  cases bb with
  | true =>
    rw [Ev_go (pc' := t1) (L' := L) (S' := S') (st' := st) hq hf hs]
    exact ⟨fun h => ⟨fun _ => h, fun h2 => absurd (hP.mp rfl) h2⟩, fun h => h.1 (hP.mp rfl)⟩
  | false =>
    have hn : ¬ P := fun h => absurd (hP.mpr h) (by decide)
    rw [Ev_go (pc' := t2) (L' := L) (S' := S') (st' := st) hq hf hs]
    exact ⟨fun h => ⟨fun h2 => absurd h2 hn, fun _ => h⟩, fun h => h.2 hn⟩
theorem Ev_call {d y pc pc' y' : Nat} {q : amInf} {ins : Instr} {len : Nat} {L : amL} {S rest as : List amV} {st : amS} {Q : Option amV → amS → Prop} (hq : amMi[y]? = some q) (hf : decode q.2.1 pc = .ok (ins, len)) (hs : ∀ C, amStep C q pc ins len L S st = amBack pc' true L rest (C y' as st)) : Ev d y pc L S st Q ↔ Call d y' as st (fun v st' => Ev d y pc' L (v.toList ++ rest) st' Q) := by
  have hfe : amFe q pc = some (ins, len) := by unfold amFe; rw [hf]
  constructor
  · rintro ⟨q', n, w, t, h1, h2, h3⟩
    obtain rfl : q' = q := Option.some.inj (h1.symm.trans hq)
    cases n with
    | zero => cases h2
    | succ n =>
      unfold amRun at h2
      rw [hfe] at h2
      dsimp only at h2
      rw [hs] at h2
      cases hc : amEx d (n + 1) y' as st with
      | none => rw [hc] at h2; cases h2
      | some r =>
        obtain ⟨v, st'⟩ := r
        rw [hc] at h2
        refine ⟨n + 1, v, st', hc, q', n + 1, w, t, hq, ?_, h3⟩
        exact amRun_le (fun _ _ _ _ h => h) n (n + 1) (by omega) _ _ h2
  · rintro ⟨n1, v, st', hc, q', n2, w, t, h1, h2, h3⟩
    obtain rfl : q' = q := Option.some.inj (h1.symm.trans hq)
    refine ⟨q', n1 + n2 + 1, w, t, hq, ?_, h3⟩
    unfold amRun
    rw [hfe]
    dsimp only
    rw [hs, amEx_le d d (Nat.le_refl _) n1 (n1 + n2 + 1) (by omega) _ _ _ _ hc]
    exact amRun_le (amEx_le d d (Nat.le_refl _) n2 (n1 + n2 + 1) (by omega)) n2 (n1 + n2) (by omega) _ _ h2
/-- into a method -/
theorem Call_in {d y : Nat} {q : amInf} {as : List amV} {st : amS} {Q : Option amV → amS → Prop} (hy : y < 274) (hq : amMi[y]? = some q) (hlen : (amArgs as).length ≤ q.2.2.1) : Call (d + 1) y as st Q ↔ Ev d y 0 (amEnt q as) [] st Q := by
  constructor
  · rintro ⟨n, v, st', h1, h2⟩
    unfold amEx at h1
    rw [decide_eq_false (show ¬ 274 ≤ y by omega), hq] at h1
    simp only [cond_false] at h1
    rw [decide_eq_true hlen] at h1
    exact ⟨q, n, v, st', hq, h1, h2⟩
  · rintro ⟨q', n, v, st', h0, h1, h2⟩
    obtain rfl : q' = q := Option.some.inj (h0.symm.trans hq)
    refine ⟨n, v, st', ?_, h2⟩
    unfold amEx
    rw [decide_eq_false (show ¬ 274 ≤ y by omega), hq]
    simp only [cond_false]
    rw [decide_eq_true hlen]
    exact h1
/-- a call that is known -/
def Runs (d y : Nat) (as : List amV) (st : amS) (v : Option amV) (st' : amS) : Prop := Call d y as st (fun w t => w = v ∧ t = st')
theorem Runs.call {d d' y : Nat} {as : List amV} {st st' : amS} {v : Option amV} {Q : Option amV → amS → Prop} (h : Runs d y as st v st') (hd : d ≤ d') : Call d' y as st Q ↔ Q v st' := by
  obtain ⟨n, w, t, h1, rfl, rfl⟩ := h
  constructor
  · rintro ⟨n2, w2, t2, h2, h3⟩
    have e1 := amEx_le d d' hd n (n + n2) (by omega) _ _ _ _ h1
    have e2 := amEx_le d' d' (Nat.le_refl _) n2 (n + n2) (by omega) _ _ _ _ h2
    have e3 := Option.some.inj (e1.symm.trans e2)
    cases e3
    exact h3
  · intro h3
    exact ⟨n, w, t, amEx_le d d' hd n n (Nat.le_refl _) _ _ _ _ h1, h3⟩
theorem Call.imp {d y : Nat} {as : List amV} {st : amS} {Q Q' : Option amV → amS → Prop} (h : Call d y as st Q) (hQ : ∀ v t, Q v t → Q' v t) : Call d y as st Q' := by
  obtain ⟨n, v, t, h1, h2⟩ := h
  exact ⟨n, v, t, h1, hQ v t h2⟩
theorem Ev.imp {d y pc : Nat} {L : amL} {S : List amV} {st : amS} {Q Q' : Option amV → amS → Prop} (h : Ev d y pc L S st Q) (hQ : ∀ v t, Q v t → Q' v t) : Ev d y pc L S st Q' := by
  obtain ⟨q, n, v, t, h0, h1, h2⟩ := h
  exact ⟨q, n, v, t, h0, h1, hQ v t h2⟩
