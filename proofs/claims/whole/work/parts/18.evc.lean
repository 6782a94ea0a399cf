/-! rules of a constructor, at any time of the making -/
theorem Ev_putR {d y pc ci k idx i rc ri jk kk tt X : Nat} {q : amInf} {L : amL} {S : List amV} {M : amM} {J : amJ} {Q : Option amV → amS → Prop} (hq : amMi[y]? = some q) (hf : decode q.2.1 pc = .ok (.putfield idx, 3)) (hfl : amFL q.2.2.2.2.1 idx = some (ci, k)) (hkd : amKd ci k = 2) (hin : q.1.name = "<init>") (hcn : q.2.2.2.2.1 = ci) (htg : amTg ci k i = (rc, ri)) (hal : amAl kk ci i = true) (hal2 : amAl kk rc ri = true) (hrs : amOrf[tt]? = some (amFC ci k, i, 0)) : Ev d y pc L (vR rc ri :: vR ci i :: S) (M, J, (jk, kk, tt, X)) Q ↔ Ev d y (pc + 3) L S (M, J, (jk, kk, tt + 1, X)) Q := by
  refine Ev_go hq hf (fun C => ?_)
  show amPutf q.2.2.2.2.1 idx (pc + 3) (3 == 3) (decide (q.1.name = "<init>")) L (vR rc ri :: vR ci i :: S) (M, J, (jk, kk, tt, X)) = _
  unfold amPutf
  rw [hfl]
  dsimp only
  rw [hkd]
  show amGo _ _ = _
  have h1 : amRs (jk, kk, tt, X) (amFC ci k) i 0 = true := decide_eq_true hrs
  rw [hal, hal2, h1, decide_eq_true hin, decide_eq_true htg, hcn]
  simp [amGo]
theorem Ev_newa {d y pc c i jk kk tt X : Nat} {q : amInf} {ty : ArrayType} {L : amL} {S : List amV} {M : amM} {J : amJ} {len : Int32} {Q : Option amV → amS → Prop} (hq : amMi[y]? = some q) (hf : decode q.2.1 pc = .ok (.newarray ty, 2)) (ho : amOrc[kk]? = some (c, i)) (h1 : 100 ≤ c ∧ c < 1000) (h2 : amTn c = amTnA ty) (h3 : ¬ len < 0) (h4 : len.toNatClampNeg = amLen c) : Ev d y pc L (vI len :: S) (M, J, (jk, kk, tt, X)) Q ↔ Ev d y (pc + 2) L (vR c i :: S) (amZo M c (c + 1) i, (bif amTn c == 3 then amZj J c else J), (jk, kk + 1, tt, X)) Q := by
  refine Ev_go hq hf (fun C => ?_)
  show amNewa (pc + 2) ty (2 == 2) L (vI len :: S) (M, J, (jk, kk, tt, X)) = _
  unfold amNewa
  dsimp only
  rw [ho]
  dsimp only
  rw [decide_eq_true h1, h2, decide_eq_true h3, decide_eq_true h4]
  simp [amGo]
theorem Ev_oinit {d y y' pc idx : Nat} {q : amInf} {L : amL} {S : List amV} {c i : Nat} {st : amS} {Q : Option amV → amS → Prop} (hq : amMi[y]? = some q) (hf : decode q.2.1 pc = .ok (.invokespecial idx, 3)) (hml : amML q.2.2.2.2.1 idx = some (y', 4)) (hcat : amCats S ≤ 8) : Ev d y pc L (vR c i :: S) st Q ↔ Ev d y (pc + 3) L S st Q := by
  refine Ev_go hq hf (fun C => ?_)
  show amInv C [2, 3, 4] q.2.2.2.2.1 idx (pc + 3) (3 == 3) L (vR c i :: S) st = _
  unfold amInv
  rw [hml]
  dsimp only
  show amObj (pc + 3) (3 == 3) L (vR c i :: S) st = _
  unfold amObj
  dsimp only
  rw [decide_eq_true hcat]
  rfl
/-- a place of an array that may be written, at any time -/
theorem amOw_any {g : amG} {c i tn : Nat} {j : Int32} : amOw g c i j tn = true ↔ (100 ≤ c ∧ amAl g.2.1 c i = true ∧ amTn c = tn) ∧ inb j (amLen c) := by
  unfold amOw
  simp only [Bool.and_eq_true, decide_eq_true_eq, beq_iff_eq, amIn_inb]
  exact ⟨fun ⟨⟨⟨a, b⟩, c⟩, d⟩ => ⟨⟨a, b, c⟩, d⟩, fun ⟨⟨a, b, c⟩, d⟩ => ⟨⟨⟨a, b⟩, c⟩, d⟩⟩
