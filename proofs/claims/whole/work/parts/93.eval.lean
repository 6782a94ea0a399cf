/-! the making of all, by evaluation: a new game's call is known -/
def gOrdB (g kk tt : Nat) : Bool := amAl kk 2 g && decide (amOrc[kk]? = some (100, g)) && decide (amOrc[kk + 1]? = some (101, g)) && decide (amOrc[kk + 2]? = some (102, g)) && decide (amOrc[kk + 3]? = some (103, g)) && decide (amOrc[kk + 4]? = some (104, g)) && decide (amOrf[tt]? = some (1100, g, 0)) && decide (amOrf[tt + 1]? = some (1101, g, 0)) && decide (amOrf[tt + 2]? = some (1102, g, 0)) && decide (amOrf[tt + 3]? = some (1103, g, 0)) && decide (amOrf[tt + 4]? = some (1104, g, 0))
theorem gOrdB_ok {g kk tt : Nat} (h : gOrdB g kk tt = true) : gOrd g kk tt := by
  unfold gOrdB at h
  simp only [Bool.and_eq_true, decide_eq_true_eq] at h
  obtain ⟨⟨⟨⟨⟨⟨⟨⟨⟨⟨a, b⟩, c⟩, d⟩, e⟩, f⟩, g'⟩, h'⟩, i⟩, j⟩, k⟩ := h
  exact ⟨a, b, c, d, e, f, g', h', i, j, k⟩
def amOra (as : List amV) (st : amS) : Option amR := match as with
  | [.inr (.inr (2, g))] => bif gOrdB g st.2.2.2.1 st.2.2.2.2.1 then some (none, (gmZ st.1 g, st.2.1, (st.2.2.1, st.2.2.2.1 + 5, st.2.2.2.2.1 + 5, st.2.2.2.2.2))) else none
  | _ => none
def amEy : Nat → Nat → Nat → List amV → amS → Option amR
  | 0, _, _, _, _ => none
  | d + 1, n, y, args, st => bif y == 1 then amOra args st else bif decide (274 ≤ y) then none else match amMi[y]? with
    | some q => bif decide ((amArgs args).length ≤ q.2.2.1) then amRun (amEy d n) q n (0, amEnt q args, [], st) else none
    | none => none
/-- so many steps of a method -/
def amGoN (CALL : Nat → List amV → amS → Option amR) (q : amInf) : Nat → amF → Option amF
  | 0, f => some f
  | n + 1, f => match amFe q f.1 with
    | some (ins, len) => match amStep CALL q f.1 ins len f.2.1 f.2.2.1 f.2.2.2 with
      | some (.inl f') => amGoN CALL q n f'
      | _ => none
    | none => none
def amInvK (CALL : Nat → List amV → amS → Option amR) (y kd pc : Nat) (b : Bool) (L : amL) (S : List amV) (st : amS) : Option (amF ⊕ amR) := match kd with
    | 0 => amVirt CALL y pc b L S st
    | 1 => amStat CALL y pc b L S st
    | 2 => amVirt CALL y pc b L S st
    | 3 => amVirt CALL y pc b L S st
    | 4 => amObj pc b L S st
    | 5 => amCopy pc b L S st
    | 6 => amStat CALL y pc b L S st
    | 7 => amMat pc b L S st (fun x y => if x < y then y else x)
    | 8 => amMat pc b L S st (fun x y => if y < x then y else x)
    | 9 => amMab pc b L S st
    | _ => none
theorem amInvK_eq {C : Nat → List amV → amS → Option amR} {ks : List Nat} {cn idx pc y kd : Nat} {bb : Bool} {L : amL} {S : List amV} {st : amS} (hm : amML cn idx = some (y, kd)) (hk : ks.contains kd = true) : amInv C ks cn idx pc bb L S st = amInvK C y kd pc bb L S st := by
  unfold amInv
  rw [hm]
  dsimp only
  rw [hk]
  rfl
/-- a step asks for one call at most -/
theorem amInv_one {C1 : Nat → List amV → amS → Option amR} {ks : List Nat} {cn idx pc : Nat} {bb : Bool} {L : amL} {S : List amV} {st : amS} {N : amF ⊕ amR} (h : amInv C1 ks cn idx pc bb L S st = some N) : ∃ (y : Nat) (as : List amV), ∀ C : Nat → List amV → amS → Option amR, (∀ r, C1 y as st = some r → C y as st = some r) → amInv C ks cn idx pc bb L S st = some N := by
  have hback : ∀ {bb : Bool} {rest : List amV} {y : Nat} {as : List amV} (C : Nat → List amV → amS → Option amR), (∀ r, C1 y as st = some r → C y as st = some r) → amBack pc bb L rest (C1 y as st) = some N → amBack pc bb L rest (C y as st) = some N := by
    intro bb rest y as C hC h
    cases hr : C1 y as st with
    | none => rw [hr] at h; cases h
    | some r => rw [hr] at h; rw [hC _ hr]; exact h
  have hvirt : ∀ {y : Nat}, amVirt C1 y pc bb L S st = some N → ∃ (y' : Nat) (as : List amV), ∀ C : Nat → List amV → amS → Option amR, (∀ r, C1 y' as st = some r → C y' as st = some r) → amVirt C y pc bb L S st = some N := by
    intro y h
    unfold amVirt at h
    split at h
    · rename_i q hq
      split at h
      · rename_i rc ri rest hd
        cases hcc : (rc == q.2.2.2.2.1 && amAl st.2.2.2.1 rc ri) with
        | false => rw [hcc] at h; cases h
        | true =>
          rw [hcc] at h
          refine ⟨y, vR rc ri :: (S.take q.2.2.2.2.2).reverse, fun C hC => ?_⟩
          unfold amVirt
          rw [hq]
          dsimp only
          rw [hd]
          dsimp only
          rw [hcc]
          exact hback C hC h
      · cases h
    · cases h
  have hstat : ∀ {y : Nat}, amStat C1 y pc bb L S st = some N → ∃ (y' : Nat) (as : List amV), ∀ C : Nat → List amV → amS → Option amR, (∀ r, C1 y' as st = some r → C y' as st = some r) → amStat C y pc bb L S st = some N := by
    intro y h
    unfold amStat at h
    split at h
    · rename_i q hq
      refine ⟨y, (S.take q.2.2.2.2.2).reverse, fun C hC => ?_⟩
      unfold amStat
      rw [hq]
      exact hback C hC h
    · cases h
  unfold amInv at h
  split at h
  · rename_i y kd hm
    cases hk : ks.contains kd with
    | false => rw [hk] at h; cases h
    | true =>
      rw [hk] at h
      simp only [cond_true] at h
      have hg : ∀ C, amInv C ks cn idx pc bb L S st = amInvK C y kd pc bb L S st := fun C => amInvK_eq hm hk
      have h : amInvK C1 y kd pc bb L S st = some N := h
      unfold amInvK at h hg
      split at h
      · obtain ⟨y', as, h2⟩ := hvirt h
        exact ⟨y', as, fun C hC => by rw [hg]; exact h2 C hC⟩
      · obtain ⟨y', as, h2⟩ := hstat h
        exact ⟨y', as, fun C hC => by rw [hg]; exact h2 C hC⟩
      · obtain ⟨y', as, h2⟩ := hvirt h
        exact ⟨y', as, fun C hC => by rw [hg]; exact h2 C hC⟩
      · obtain ⟨y', as, h2⟩ := hvirt h
        exact ⟨y', as, fun C hC => by rw [hg]; exact h2 C hC⟩
      · exact ⟨0, [], fun C hC => by rw [hg]; exact h⟩
      · exact ⟨0, [], fun C hC => by rw [hg]; exact h⟩
      · obtain ⟨y', as, h2⟩ := hstat h
        exact ⟨y', as, fun C hC => by rw [hg]; exact h2 C hC⟩
      · exact ⟨0, [], fun C hC => by rw [hg]; exact h⟩
      · exact ⟨0, [], fun C hC => by rw [hg]; exact h⟩
      · exact ⟨0, [], fun C hC => by rw [hg]; exact h⟩
      · cases h
  · cases h
theorem amStep_one {C1 : Nat → List amV → amS → Option amR} {q : amInf} {pc : Nat} {ins : Instr} {n : Nat} {L : amL} {S : List amV} {st : amS} {N : amF ⊕ amR} (h : amStep C1 q pc ins n L S st = some N) : ∃ (y : Nat) (as : List amV), ∀ C : Nat → List amV → amS → Option amR, (∀ r, C1 y as st = some r → C y as st = some r) → amStep C q pc ins n L S st = some N := by
  cases ins
  case invokevirtual k => exact amInv_one h
  case invokespecial k => exact amInv_one h
  case invokestatic k => exact amInv_one h
  all_goals exact ⟨0, [], fun _ _ => h⟩
/-- what is known of calls is so of the machine's own -/
def amKnw (D : Nat) (C1 : Nat → List amV → amS → Option amR) : Prop := ∀ (y : Nat) (as : List amV) (st : amS) (r : amR), C1 y as st = some r → ∃ n, amEx D n y as st = some r
theorem step_ex {D : Nat} {C1 : Nat → List amV → amS → Option amR} (hC : amKnw D C1) {q : amInf} {pc : Nat} {ins : Instr} {n : Nat} {L : amL} {S : List amV} {st : amS} {N : amF ⊕ amR} (h : amStep C1 q pc ins n L S st = some N) : ∃ n1, ∀ n2, n1 ≤ n2 → amStep (amEx D n2) q pc ins n L S st = some N := by
  obtain ⟨y, as, h1⟩ := amStep_one h
  cases hr : C1 y as st with
  | none => exact ⟨0, fun n2 _ => h1 _ (fun r z => by rw [hr] at z; cases z)⟩
  | some r =>
    obtain ⟨n1, h2⟩ := hC y as st r hr
    exact ⟨n1, fun n2 hn => h1 _ (fun r' z => by
      rw [hr] at z
      cases z
      exact amEx_le D D (Nat.le_refl _) n1 n2 hn _ _ _ _ h2)⟩
theorem run_ex {D : Nat} {C1 : Nat → List amV → amS → Option amR} (hC : amKnw D C1) {q : amInf} : ∀ (n : Nat) (f : amF) (r : amR), amRun C1 q n f = some r → ∃ n', amRun (amEx D n') q n' f = some r
  | 0, f, r, h => by cases h
  | n + 1, f, r, h => by
    unfold amRun at h
    split at h
    · rename_i ins len hf
      split at h
      · rename_i f' hst
        obtain ⟨n1, h1⟩ := step_ex hC hst
        obtain ⟨n2, h2⟩ := run_ex hC n f' r h
        refine ⟨n1 + n2 + 1, ?_⟩
        unfold amRun
        rw [hf]
        dsimp only
        rw [h1 (n1 + n2 + 1) (by omega)]
        exact amRun_le (amEx_le D D (Nat.le_refl _) n2 (n1 + n2 + 1) (by omega)) n2 (n1 + n2) (by omega) _ _ h2
      · rename_i r' hst
        obtain ⟨n1, h1⟩ := step_ex hC hst
        refine ⟨n1 + 1, ?_⟩
        unfold amRun
        rw [hf]
        dsimp only
        rw [h1 (n1 + 1) (by omega)]
        exact h
      · cases h
    · cases h
theorem goN_le {C1 C2 : Nat → List amV → amS → Option amR} (hC : amLe C1 C2) {q : amInf} : ∀ (n : Nat) (f f1 : amF), amGoN C1 q n f = some f1 → amGoN C2 q n f = some f1
  | 0, f, f1, h => h
  | n + 1, f, f1, h => by
    unfold amGoN at h ⊢
    split at h
    · rename_i ins len hf
      try rw [hf]
      try dsimp only
      split at h
      · rename_i f' hst
        rw [amStep_le hC hst]
        exact goN_le hC n f' f1 h
      · cases h
    · cases h
theorem goN_ex {D : Nat} {C1 : Nat → List amV → amS → Option amR} (hC : amKnw D C1) {q : amInf} : ∀ (n : Nat) (f f1 : amF), amGoN C1 q n f = some f1 → ∃ n', amGoN (amEx D n') q n f = some f1
  | 0, f, f1, h => ⟨0, h⟩
  | n + 1, f, f1, h => by
    unfold amGoN at h
    split at h
    · rename_i ins len hf
      split at h
      · rename_i f' hst
        obtain ⟨n1, h1⟩ := step_ex hC hst
        obtain ⟨n2, h2⟩ := goN_ex hC n f' f1 h
        refine ⟨n1 + n2, ?_⟩
        unfold amGoN
        rw [hf]
        dsimp only
        rw [h1 (n1 + n2) (by omega)]
        exact goN_le (amEx_le D D (Nat.le_refl _) n2 (n1 + n2) (by omega)) n f' f1 h2
      · cases h
    · cases h
theorem amOra_ok {as : List amV} {st : amS} {r : amR} {d : Nat} (h : amOra as st = some r) : ∃ n, amEx (d + 3) n 1 as st = some r := by
  unfold amOra at h
  split at h
  · rename_i g
    obtain ⟨M, J, jk, kk, tt, X⟩ := st
    cases hb : gOrdB g kk tt with
    | false =>
      dsimp only at h
      rw [hb] at h
      cases h
    | true =>
      dsimp only at h
      rw [hb] at h
      have h9 : (none, (gmZ M g, J, (jk, kk + 5, tt + 5, X))) = r := Option.some.inj h
      have hc := (c1K (d := d) (jk := jk) (X := X) (M := M) (J := J) (Q := fun v t => (v, t) = r) (gOrdB_ok hb)).mpr h9
      obtain ⟨n, v, t, h1, h2⟩ := hc
      exact ⟨n, by rw [h1, h2]⟩
  · cases h
theorem amEy_ok (n : Nat) : ∀ d, amKnw (d + 3) (amEy d n)
  | 0 => fun y as st r h => by cases h
  | d + 1 => fun y as st r h => by
    unfold amEy at h
    cases h1 : (y == 1) with
    | true =>
      rw [h1] at h
      obtain rfl : y = 1 := by simpa using h1
      exact amOra_ok h
    | false =>
      rw [h1] at h
      simp only [cond_false] at h
      cases h2 : decide (274 ≤ y) with
      | true =>
        rw [h2] at h
        cases h
      | false =>
        rw [h2] at h
        simp only [cond_false] at h
        split at h
        · rename_i q hq
          cases h3 : decide ((amArgs as).length ≤ q.2.2.1) with
          | false =>
            rw [h3] at h
            cases h
          | true =>
            rw [h3] at h
            obtain ⟨n', h4⟩ := run_ex (amEy_ok n d) n _ r h
            refine ⟨n', ?_⟩
            show amEx (d + 3 + 1) n' y as st = some r
            unfold amEx
            rw [h2, hq]
            simp only [cond_false]
            rw [h3]
            exact h4
        · cases h
