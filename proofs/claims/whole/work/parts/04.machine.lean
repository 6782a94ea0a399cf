/-! THE ABSTRACT MACHINE: values, memory, a step, a run, calls -/
abbrev amV : Type := Int32 ⊕ (Int64 ⊕ (Nat × Nat))
abbrev vI (x : Int32) : amV := .inl x
abbrev vL (x : Int64) : amV := .inr (.inl x)
/-- a reference: what it is (a class below 50, the script 99, an array from 100 on), which one -/
abbrev vR (c i : Nat) : amV := .inr (.inr (c, i))
/-- ints by what, which, where: an array's places, an object's field at place 0 -/
abbrev amM : Type := Nat → Nat → Nat → Int32
abbrev amJ : Type := Nat → Nat → Int64
/-- thrown things made, cells made, references stored, one more than the script's length (0: nothing is said of it) -/
abbrev amG : Type := Nat × Nat × Nat × Nat
abbrev amS : Type := amM × amJ × amG
abbrev amL : Type := List (Option amV)
abbrev amF : Type := Nat × amL × List amV × amS
abbrev amR : Type := Option amV × amS
def upM (M : amM) (c i j : Nat) (x : Int32) : amM := fun c' i' j' => if c' = c ∧ i' = i ∧ j' = j then x else M c' i' j'
def upJ (J : amJ) (c j : Nat) (x : Int64) : amJ := fun c' j' => if c' = c ∧ j' = j then x else J c' j'
def amZo (M : amM) (lo hi i : Nat) : amM := fun c' i' j' => if (lo ≤ c' ∧ c' < hi) ∧ i' = i then 0 else M c' i' j'
def amZj (J : amJ) (c : Nat) : amJ := fun c' j' => if c' = c then 0 else J c' j'
/-- what has been made, what has been stored -/
def amAl (k c i : Nat) : Bool := decide (amOrc.idxOf (c, i) < k)
def amSt (t c i j : Nat) : Bool := decide (amOrf.idxOf (c, i, j) < t)
def amFC (c k : Nat) : Nat := 1000 + 50 * c + k
def amLong : Option amV → Bool
  | some (.inr (.inl _)) => true
  | _ => false
def getL (L : amL) (k : Nat) : Option amV := (L[k]?).join
def setL : amL → Nat → amV → amL
  | [], _, _ => []
  | _ :: l, 0, v => some v :: l
  | a :: l, 1, v => (bif amLong a then none else a) :: setL l 0 v
  | a :: l, n + 2, v => a :: setL l (n + 1) v
def amCat : amV → Nat
  | .inr (.inl _) => 2
  | _ => 1
def amCats : List amV → Nat
  | [] => 0
  | v :: l => amCat v + amCats l
def amFL (cn idx : Nat) : Option (Nat × Nat) := ((amFl cn).find? (fun e => e.1 == idx)).map (fun e => (e.2.1, e.2.2.1))
def amML (cn idx : Nat) : Option (Nat × Nat) := ((amMl cn).find? (fun e => e.1 == idx)).map (fun e => (e.2.1, e.2.2.1))
def amKL (cn idx : Nat) : Option Nat := (amKl.find? (fun e => e.1 == cn && e.2.1 == idx)).map (fun e => e.2.2.1)
def amKI (cn idx : Nat) : Option Int32 := (amKi.find? (fun e => e.1 == cn && e.2.1 == idx)).map (fun e => e.2.2.1)
def amKJ (cn idx : Nat) : Option Int64 := (amKj.find? (fun e => e.1 == cn && e.2.1 == idx)).map (fun e => e.2.2.1)
def amGo (b : Bool) (f : amF) : Option (amF ⊕ amR) := bif b then some (.inl f) else none
def amTo (pc : Nat) (off : Int) : Option Nat := match (pc : Int) + off with
  | .ofNat k => some k
  | _ => none
def amJmp (b : Bool) (o : Option Nat) (L : amL) (S : List amV) (st : amS) : Option (amF ⊕ amR) := match o with
  | some t => amGo b (t, L, S, st)
  | none => none
def amC1 (c : Jvm.ClassFile.Cond) (x : Int32) : Bool := match c with
  | .eq => decide (x = 0)
  | .ne => decide (¬ x = 0)
  | .lt => decide (x < 0)
  | .ge => decide (0 ≤ x)
  | .gt => decide (0 < x)
  | .le => decide (x ≤ 0)
def amC2 (c : Jvm.ClassFile.Cond) (x y : Int32) : Bool := match c with
  | .eq => decide (x = y)
  | .ne => decide (¬ x = y)
  | .lt => decide (x < y)
  | .ge => decide (y ≤ x)
  | .gt => decide (y < x)
  | .le => decide (x ≤ y)
def amIn (j : Int32) (n : Nat) : Bool := decide (¬ (j < 0 ∨ n ≤ j.toNatClampNeg))
/-- a place of an array that holds such things -/
def amOk (g : amG) (c i : Nat) (j : Int32) (tn : Nat) : Bool := (c == 99 && i == 0 && tn == 0 && decide (0 < g.2.2.2) && amIn j (g.2.2.2 - 1)) || (decide (100 ≤ c) && amAl g.2.1 c i && amTn c == tn && amIn j (amLen c))
/-- the same, of an array that may be written -/
def amOw (g : amG) (c i : Nat) (j : Int32) (tn : Nat) : Bool := decide (100 ≤ c) && amAl g.2.1 c i && amTn c == tn && amIn j (amLen c)
def amSta (L : amL) (S : List amV) (k pc : Nat) (b : Bool) (st : amS) : Option (amF ⊕ amR) := match S with
  | .inl x :: S => amGo (b && decide (k < L.length)) (pc, setL L k (vI x), S, st)
  | _ => none
def amStr (L : amL) (S : List amV) (k pc : Nat) (b : Bool) (st : amS) : Option (amF ⊕ amR) := match S with
  | .inr (.inr (c, i)) :: S => amGo (b && decide (k < L.length)) (pc, setL L k (vR c i), S, st)
  | _ => none
def amStl (L : amL) (S : List amV) (k pc : Nat) (b : Bool) (st : amS) : Option (amF ⊕ amR) := match S with
  | .inr (.inl x) :: S => amGo (b && decide (k + 1 < L.length)) (pc, (setL L k (vL x)).set (k + 1) none, S, st)
  | _ => none
def amLda (L : amL) (S : List amV) (k pc : Nat) (b : Bool) (st : amS) : Option (amF ⊕ amR) := match getL L k with
  | some (.inl x) => amGo b (pc, L, vI x :: S, st)
  | _ => none
def amLdr (L : amL) (S : List amV) (k pc : Nat) (b : Bool) (st : amS) : Option (amF ⊕ amR) := match getL L k with
  | some (.inr (.inr (c, i))) => amGo b (pc, L, vR c i :: S, st)
  | _ => none
def amLdl (L : amL) (S : List amV) (k pc : Nat) (b : Bool) (st : amS) : Option (amF ⊕ amR) := match getL L k with
  | some (.inr (.inl x)) => amGo b (pc, L, vL x :: S, st)
  | _ => none
def amBin (L : amL) (S : List amV) (pc : Nat) (b : Bool) (st : amS) (f : Int32 → Int32 → Int32) : Option (amF ⊕ amR) := match S with
  | .inl y :: .inl x :: S => amGo b (pc, L, vI (f x y) :: S, st)
  | _ => none
def amDiv (L : amL) (S : List amV) (pc : Nat) (b : Bool) (st : amS) (f : Int32 → Int32 → Int32) : Option (amF ⊕ amR) := match S with
  | .inl y :: .inl x :: S => amGo (b && decide (¬ y = 0)) (pc, L, vI (f x y) :: S, st)
  | _ => none
def amUn (L : amL) (S : List amV) (pc : Nat) (b : Bool) (st : amS) (f : Int32 → amV) : Option (amF ⊕ amR) := match S with
  | .inl x :: S => amGo b (pc, L, f x :: S, st)
  | _ => none
def amBil (L : amL) (S : List amV) (pc : Nat) (b : Bool) (st : amS) (f : Int64 → Int64 → amV) : Option (amF ⊕ amR) := match S with
  | .inr (.inl y) :: .inr (.inl x) :: S => amGo b (pc, L, f x y :: S, st)
  | _ => none
def amGetf (cn idx pc : Nat) (b : Bool) (L : amL) (S : List amV) (st : amS) : Option (amF ⊕ amR) := match amFL cn idx, S with
  | some (ci, k), .inr (.inr (c, i)) :: S => match amKd ci k with
    | 2 => amGo (b && c == ci && amAl st.2.2.2.1 ci i && amSt st.2.2.2.2.1 (amFC ci k) i 0) (pc, L, vR (amTg ci k i).1 (amTg ci k i).2 :: S, st)
    | _ => amGo (b && c == ci && amAl st.2.2.2.1 ci i) (pc, L, vI (st.1 (amFC ci k) i 0) :: S, st)
  | _, _ => none
/-- a reference is stored for the first time, in the order that is foreseen -/
def amRs (g : amG) (c i j : Nat) : Bool := decide (amOrf[g.2.2.1]? = some (c, i, j))
def amPutf (cn idx pc : Nat) (b : Bool) (init : Bool) (L : amL) (S : List amV) (st : amS) : Option (amF ⊕ amR) := match amFL cn idx, S with
  | some (ci, k), .inl x :: .inr (.inr (c, i)) :: S => match amKd ci k with
    | 0 => amGo (b && c == ci && amAl st.2.2.2.1 ci i) (pc, L, S, (upM st.1 (amFC ci k) i 0 x, st.2.1, st.2.2))
    | 1 => amGo (b && c == ci && amAl st.2.2.2.1 ci i && decide (x = 0 ∨ x = 1)) (pc, L, S, (upM st.1 (amFC ci k) i 0 x, st.2.1, st.2.2))
    | _ => none
  | some (ci, k), .inr (.inr (rc, ri)) :: .inr (.inr (c, i)) :: S => match amKd ci k with
    | 2 => amGo (b && c == ci && amAl st.2.2.2.1 ci i && init && cn == ci && decide (amTg ci k i = (rc, ri)) && amAl st.2.2.2.1 rc ri && amRs st.2.2 (amFC ci k) i 0) (pc, L, S, (st.1, st.2.1, (st.2.2.1, st.2.2.2.1, st.2.2.2.2.1 + 1, st.2.2.2.2.2)))
    | _ => none
  | _, _ => none
def amNew (cn idx pc : Nat) (b : Bool) (L : amL) (S : List amV) (st : amS) : Option (amF ⊕ amR) := match amKL cn idx, amOrc[st.2.2.2.1]? with
  | some ci, some (c, i) => amGo (b && c == ci && (List.range 50).all (fun k => !(amSt st.2.2.2.2.1 (amFC ci k) i 0))) (pc, L, vR c i :: S, (amZo st.1 (1000 + 50 * c) (1000 + 50 * (c + 1)) i, st.2.1, (st.2.2.1, st.2.2.2.1 + 1, st.2.2.2.2)))
  | _, _ => none
def amTnA (t : ArrayType) : Nat := match t with
  | .int => 0
  | .byte => 1
  | .boolean => 2
  | .long => 3
  | _ => 9
def amNewa (pc : Nat) (ty : ArrayType) (b : Bool) (L : amL) (S : List amV) (st : amS) : Option (amF ⊕ amR) := match S, amOrc[st.2.2.2.1]? with
  | .inl n :: S, some (c, i) => amGo (b && decide (100 ≤ c ∧ c < 1000) && amTn c == amTnA ty && decide (¬ n < 0) && decide (n.toNatClampNeg = amLen c)) (pc, L, vR c i :: S, (amZo st.1 c (c + 1) i, (bif amTn c == 3 then amZj st.2.1 c else st.2.1), (st.2.2.1, st.2.2.2.1 + 1, st.2.2.2.2)))
  | _, _ => none
def amAnew (cn idx pc : Nat) (b : Bool) (L : amL) (S : List amV) (st : amS) : Option (amF ⊕ amR) := match S, amOrc[st.2.2.2.1]?, amKL cn idx with
  | .inl n :: S, some (c, i), some 2 => amGo (b && decide (100 ≤ c ∧ c < 1000) && amTn c == 4 && decide (¬ n < 0) && decide (n.toNatClampNeg = amLen c) && (List.range (amLen c)).all (fun j => !(amSt st.2.2.2.2.1 c i j))) (pc, L, vR c i :: S, (st.1, st.2.1, (st.2.2.1, st.2.2.2.1 + 1, st.2.2.2.2)))
  | _, _, _ => none
def amAld (pc : Nat) (b : Bool) (tn : Nat) (L : amL) (S : List amV) (st : amS) : Option (amF ⊕ amR) := match S with
  | .inl j :: .inr (.inr (c, i)) :: S => amGo (b && amOk st.2.2 c i j tn) (pc, L, vI (st.1 c i j.toNatClampNeg) :: S, st)
  | _ => none
def amBld (pc : Nat) (b : Bool) (L : amL) (S : List amV) (st : amS) : Option (amF ⊕ amR) := match S with
  | .inl j :: .inr (.inr (c, i)) :: S => amGo (b && (amOw st.2.2 c i j 1 || amOw st.2.2 c i j 2)) (pc, L, vI (st.1 c i j.toNatClampNeg) :: S, st)
  | _ => none
def amLld (pc : Nat) (b : Bool) (L : amL) (S : List amV) (st : amS) : Option (amF ⊕ amR) := match S with
  | .inl j :: .inr (.inr (c, i)) :: S => amGo (b && amOw st.2.2 c i j 3) (pc, L, vL (st.2.1 c j.toNatClampNeg) :: S, st)
  | _ => none
def amRld (pc : Nat) (b : Bool) (L : amL) (S : List amV) (st : amS) : Option (amF ⊕ amR) := match S with
  | .inl j :: .inr (.inr (c, i)) :: S => amGo (b && amOw st.2.2 c i j 4 && amSt st.2.2.2.2.1 c i j.toNatClampNeg) (pc, L, vR (amEt c j.toNatClampNeg).1 (amEt c j.toNatClampNeg).2 :: S, st)
  | _ => none
def amAst (pc : Nat) (b : Bool) (L : amL) (S : List amV) (st : amS) : Option (amF ⊕ amR) := match S with
  | .inl x :: .inl j :: .inr (.inr (c, i)) :: S => amGo (b && amOw st.2.2 c i j 0) (pc, L, S, (upM st.1 c i j.toNatClampNeg x, st.2.1, st.2.2))
  | _ => none
def amBst (pc : Nat) (b : Bool) (L : amL) (S : List amV) (st : amS) : Option (amF ⊕ amR) := match S with
  | .inl x :: .inl j :: .inr (.inr (c, i)) :: S => match amTn c with
    | 1 => amGo (b && amOw st.2.2 c i j 1) (pc, L, S, (upM st.1 c i j.toNatClampNeg (vp_nar .byte x), st.2.1, st.2.2))
    | 2 => amGo (b && amOw st.2.2 c i j 2) (pc, L, S, (upM st.1 c i j.toNatClampNeg (vp_nar .boolean x), st.2.1, st.2.2))
    | _ => none
  | _ => none
def amLst (pc : Nat) (b : Bool) (L : amL) (S : List amV) (st : amS) : Option (amF ⊕ amR) := match S with
  | .inr (.inl x) :: .inl j :: .inr (.inr (c, i)) :: S => amGo (b && amOw st.2.2 c i j 3) (pc, L, S, (st.1, upJ st.2.1 c j.toNatClampNeg x, st.2.2))
  | _ => none
def amRst (pc : Nat) (b : Bool) (L : amL) (S : List amV) (st : amS) : Option (amF ⊕ amR) := match S with
  | .inr (.inr (rc, ri)) :: .inl j :: .inr (.inr (c, i)) :: S => amGo (b && amOw st.2.2 c i j 4 && decide (amEt c j.toNatClampNeg = (rc, ri)) && amAl st.2.2.2.1 rc ri && amRs st.2.2 c i j.toNatClampNeg) (pc, L, S, (st.1, st.2.1, (st.2.2.1, st.2.2.2.1, st.2.2.2.2.1 + 1, st.2.2.2.2.2)))
  | _ => none
def amAln (pc : Nat) (b : Bool) (L : amL) (S : List amV) (st : amS) : Option (amF ⊕ amR) := match S with
  | .inr (.inr (c, i)) :: S => amGo (b && ((c == 99 && i == 0 && decide (0 < st.2.2.2.2.2)) || (decide (100 ≤ c) && amAl st.2.2.2.1 c i))) (pc, L, vI (Int32.ofNat (bif c == 99 then st.2.2.2.2.2 - 1 else amLen c)) :: S, st)
  | _ => none
def amBack (pc : Nat) (b : Bool) (L : amL) (rest : List amV) (r : Option amR) : Option (amF ⊕ amR) := match r with
  | some (v, st) => amGo b (pc, L, v.toList ++ rest, st)
  | none => none
/-- System.arraycopy between int arrays -/
def amCpy (M : amM) (c0 i0 sp c i dp n : Nat) : amM := fun c' i' j' => if (c' = c ∧ i' = i) ∧ (dp ≤ j' ∧ j' < dp + n) then M c0 i0 (sp + (j' - dp)) else M c' i' j'
def amCopy (pc : Nat) (b : Bool) (L : amL) (S : List amV) (st : amS) : Option (amF ⊕ amR) := match S with
  | .inl n :: .inl dp :: .inr (.inr (c, i)) :: .inl sp :: .inr (.inr (c0, i0)) :: S =>
    amGo (b && st.2.2.2.1 == amOrc.length && decide (100 ≤ c) && amAl st.2.2.2.1 c i && amTn c == 0 && decide (100 ≤ c0) && amAl st.2.2.2.1 c0 i0 && amTn c0 == 0 && decide (¬ sp < 0) && decide (¬ dp < 0) && decide (¬ n < 0) && decide (sp.toNatClampNeg + n.toNatClampNeg ≤ amLen c0) && decide (dp.toNatClampNeg + n.toNatClampNeg ≤ amLen c) && decide (amCats S ≤ 8)) (pc, L, S, (amCpy st.1 c0 i0 sp.toNatClampNeg c i dp.toNatClampNeg n.toNatClampNeg, st.2.1, st.2.2))
  | _ => none
def amStat (CALL : Nat → List amV → amS → Option amR) (y pc : Nat) (b : Bool) (L : amL) (S : List amV) (st : amS) : Option (amF ⊕ amR) := match amMi[y]? with
  | some q => amBack pc (b && decide (q.2.2.2.2.2 ≤ S.length) && decide (amCats (S.drop q.2.2.2.2.2) ≤ 8)) L (S.drop q.2.2.2.2.2) (CALL y (S.take q.2.2.2.2.2).reverse st)
  | none => none
def amVirt (CALL : Nat → List amV → amS → Option amR) (y pc : Nat) (b : Bool) (L : amL) (S : List amV) (st : amS) : Option (amF ⊕ amR) := match amMi[y]? with
  | some q => match S.drop q.2.2.2.2.2 with
    | .inr (.inr (c, i)) :: rest => bif c == q.2.2.2.2.1 && amAl st.2.2.2.1 c i then amBack pc (b && decide (q.2.2.2.2.2 ≤ S.length) && decide (amCats rest ≤ 8)) L rest (CALL y (vR c i :: (S.take q.2.2.2.2.2).reverse) st) else none
    | _ => none
  | none => none
def amObj (pc : Nat) (b : Bool) (L : amL) (S : List amV) (st : amS) : Option (amF ⊕ amR) := match S with
  | .inr (.inr _) :: S => amGo (b && decide (amCats S ≤ 8)) (pc, L, S, st)
  | _ => none
def amMat (pc : Nat) (b : Bool) (L : amL) (S : List amV) (st : amS) (f : Int32 → Int32 → Int32) : Option (amF ⊕ amR) := match S with
  | .inl y :: .inl x :: S => amGo (b && decide (amCats S ≤ 8)) (pc, L, vI (f x y) :: S, st)
  | _ => none
def amMab (pc : Nat) (b : Bool) (L : amL) (S : List amV) (st : amS) : Option (amF ⊕ amR) := match S with
  | .inl x :: S => amGo (b && decide (amCats S ≤ 8)) (pc, L, vI (if 0 ≤ x then x else 0 - x) :: S, st)
  | _ => none
def amInv (CALL : Nat → List amV → amS → Option amR) (ks : List Nat) (cn idx pc : Nat) (b : Bool) (L : amL) (S : List amV) (st : amS) : Option (amF ⊕ amR) := match amML cn idx with
  | some (y, kd) => bif ks.contains kd then (match kd with
    | 0 => amVirt CALL y pc b L S st
    | 1 => amStat CALL y pc b L S st
    | 2 => amVirt CALL y pc b L S st
    | 3 => amVirt CALL y pc b L S st
    | 4 => amObj pc b L S st
    | 5 => amCopy pc b L S st
    | 6 => amStat CALL y pc b L S st
    | 7 => amMat pc b L S st (fun x y => if x < y then y else x)
    | 8 => amMat pc b L S st (fun x y => if y < x then y else x)
    | 9 => amMab pc b L S st
    | _ => none) else none
  | none => none
/-- the two methods that throw: where they would make what they throw, the machine ends with nothing -/
abbrev amThr (q : amInf) : Prop := q.2.2.2.2.1 = 11 ∧ (q.1.name = "of" ∨ q.1.name = "row")
def amRet (b : Bool) (r : amR) : Option (amF ⊕ amR) := bif b then some (.inr r) else none
def amStep (CALL : Nat → List amV → amS → Option amR) (q : amInf) (pc : Nat) (ins : Instr) (n : Nat) (L : amL) (S : List amV) (st : amS) : Option (amF ⊕ amR) := match ins with
  | .iconst k => amGo (n == 1) (pc + 1, L, vI (Int32.ofInt k) :: S, st)
  | .bipush k => amGo (n == 2) (pc + 2, L, vI (Int8.ofInt k).toInt32 :: S, st)
  | .sipush k => amGo (n == 3) (pc + 3, L, vI (Int16.ofInt k).toInt32 :: S, st)
  | .lconst k => amGo (n == 1) (pc + 1, L, vL (Int64.ofNat k) :: S, st)
  | .ldc k => match amKI q.2.2.2.2.1 k with
    | some v => amGo (n == 2) (pc + 2, L, vI v :: S, st)
    | none => none
  | .ldc_w k => match amKI q.2.2.2.2.1 k with
    | some v => amGo (n == 3) (pc + 3, L, vI v :: S, st)
    | none => none
  | .ldc2_w k => match amKJ q.2.2.2.2.1 k with
    | some v => amGo (n == 3) (pc + 3, L, vL v :: S, st)
    | none => none
  | .iload k => amLda L S k (pc + 2) (n == 2) st
  | .iload_n k => amLda L S k (pc + 1) (n == 1) st
  | .lload k => amLdl L S k (pc + 2) (n == 2) st
  | .lload_n k => amLdl L S k (pc + 1) (n == 1) st
  | .aload k => amLdr L S k (pc + 2) (n == 2) st
  | .aload_n k => amLdr L S k (pc + 1) (n == 1) st
  | .istore k => amSta L S k (pc + 2) (n == 2) st
  | .istore_n k => amSta L S k (pc + 1) (n == 1) st
  | .lstore k => amStl L S k (pc + 2) (n == 2) st
  | .lstore_n k => amStl L S k (pc + 1) (n == 1) st
  | .astore k => amStr L S k (pc + 2) (n == 2) st
  | .astore_n k => amStr L S k (pc + 1) (n == 1) st
  | .iinc k d => match getL L k with
    | some (.inl x) => amGo (n == 3 && decide (k < L.length)) (pc + 3, setL L k (vI (x + Int32.ofInt d)), S, st)
    | _ => none
  | .iadd => amBin L S (pc + 1) (n == 1) st (fun x y => x + y)
  | .isub => amBin L S (pc + 1) (n == 1) st (fun x y => x - y)
  | .imul => amBin L S (pc + 1) (n == 1) st (fun x y => x * y)
  | .iand => amBin L S (pc + 1) (n == 1) st (fun x y => x &&& y)
  | .ior => amBin L S (pc + 1) (n == 1) st (fun x y => x ||| y)
  | .ixor => amBin L S (pc + 1) (n == 1) st (fun x y => x ^^^ y)
  | .ishl => amBin L S (pc + 1) (n == 1) st (fun x y => x <<< (y &&& 31))
  | .ishr => amBin L S (pc + 1) (n == 1) st (fun x y => x >>> (y &&& 31))
  | .iushr => amBin L S (pc + 1) (n == 1) st (fun x y => (x.toUInt32 >>> (y.toUInt32 &&& Int32.toUInt32 31)).toInt32)
  | .idiv => amDiv L S (pc + 1) (n == 1) st (fun x y => x / y)
  | .irem => amDiv L S (pc + 1) (n == 1) st (fun x y => x - x / y * y)
  | .ineg => amUn L S (pc + 1) (n == 1) st (fun x => vI (-x))
  | .i2b => amUn L S (pc + 1) (n == 1) st (fun x => vI x.toInt8.toInt32)
  | .i2s => amUn L S (pc + 1) (n == 1) st (fun x => vI x.toInt16.toInt32)
  | .i2l => amUn L S (pc + 1) (n == 1) st (fun x => vL x.toInt64)
  | .l2i => match S with
    | .inr (.inl x) :: S => amGo (n == 1) (pc + 1, L, vI x.toInt32 :: S, st)
    | _ => none
  | .ladd => amBil L S (pc + 1) (n == 1) st (fun x y => vL (x + y))
  | .lmul => amBil L S (pc + 1) (n == 1) st (fun x y => vL (x * y))
  | .lcmp => amBil L S (pc + 1) (n == 1) st (fun x y => vI (lg_cmp x y))
  | .dup => match S with
    | v :: S => amGo (n == 1 && amCat v == 1) (pc + 1, L, v :: v :: S, st)
    | _ => none
  | .pop => match S with
    | v :: S => amGo (n == 1 && amCat v == 1) (pc + 1, L, S, st)
    | _ => none
  | .dup_x1 => match S with
    | v :: w :: S => amGo (n == 1 && amCat v == 1 && amCat w == 1) (pc + 1, L, v :: w :: v :: S, st)
    | _ => none
  | .dup2 => match S with
    | v :: w :: S => amGo (n == 1 && amCat v == 1 && amCat w == 1) (pc + 1, L, v :: w :: v :: w :: S, st)
    | _ => none
  | .ifCond c off => match S with
    | .inl x :: S => amJmp (n == 3 && (amTo pc off).isSome) (bif amC1 c x then amTo pc off else some (pc + 3)) L S st
    | _ => none
  | .if_icmp c off => match S with
    | .inl y :: .inl x :: S => amJmp (n == 3 && (amTo pc off).isSome) (bif amC2 c x y then amTo pc off else some (pc + 3)) L S st
    | _ => none
  | .goto off => amJmp (n == 3) (amTo pc off) L S st
  | .tableswitch d lo hi offs => match S with
    | .inl x :: S => amJmp true (bif decide (x.toInt < lo ∨ hi < x.toInt) then amTo pc d else (match offs[(x.toInt - lo).toNat]? with
      | some off => amTo pc off
      | none => none)) L S st
    | _ => none
  | .lookupswitch d ps => match S with
    | .inl x :: S => amJmp ((ps.toList.zip (ps.toList.drop 1)).all (fun (a, next) => a.1 < next.1)) (amTo pc (Op.lookupswitch.offset ps.toList d x.toInt)) L S st
    | _ => none
  | .getfield k => amGetf q.2.2.2.2.1 k (pc + 3) (n == 3) L S st
  | .putfield k => amPutf q.2.2.2.2.1 k (pc + 3) (n == 3) (decide (q.1.name = "<init>")) L S st
  | .iaload => amAld (pc + 1) (n == 1) 0 L S st
  | .baload => amBld (pc + 1) (n == 1) L S st
  | .laload => amLld (pc + 1) (n == 1) L S st
  | .aaload => amRld (pc + 1) (n == 1) L S st
  | .iastore => amAst (pc + 1) (n == 1) L S st
  | .bastore => amBst (pc + 1) (n == 1) L S st
  | .lastore => amLst (pc + 1) (n == 1) L S st
  | .aastore => amRst (pc + 1) (n == 1) L S st
  | .arraylength => amAln (pc + 1) (n == 1) L S st
  | .new k => match amKL q.2.2.2.2.1 k with
    | some _ => amNew q.2.2.2.2.1 k (pc + 3) (n == 3) L S st
    | none => match S with
      | [] => amRet (n == 3 && decide (amThr q)) (none, st)
      | _ => none
  | .newarray ty => amNewa (pc + 2) ty (n == 2) L S st
  | .anewarray k => amAnew q.2.2.2.2.1 k (pc + 3) (n == 3) L S st
  | .invokevirtual k => amInv CALL [0] q.2.2.2.2.1 k (pc + 3) (n == 3) L S st
  | .invokespecial k => amInv CALL [2, 3, 4] q.2.2.2.2.1 k (pc + 3) (n == 3) L S st
  | .invokestatic k => amInv CALL [1, 5, 6, 7, 8, 9] q.2.2.2.2.1 k (pc + 3) (n == 3) L S st
  | .ireturn => match S with
    | [.inl x] => match q.2.2.2.1 with
      | some .int => amRet (n == 1) (some (vI x), st)
      | some .boolean => amRet (n == 1 && decide (x = 0 ∨ x = 1)) (some (vI x), st)
      | _ => none
    | _ => none
  | .lreturn => match S with
    | [.inr (.inl x)] => match q.2.2.2.1 with
      | some .long => amRet (n == 1) (some (vL x), st)
      | _ => none
    | _ => none
  | .areturn => match S with
    | [.inr (.inr (c, i))] => match q.2.2.2.1 with
      | some (.object _) => amRet (n == 1) (some (vR c i), st)
      | _ => none
    | _ => none
  | .return_ => match S with
    | [] => match q.2.2.2.1 with
      | none => amRet (n == 1) (none, st)
      | _ => none
    | _ => none
  | _ => none
def amFe (q : amInf) (pc : Nat) : Option (Instr × Nat) := match decode q.2.1 pc with
  | .ok x => some x
  | _ => none
/-- a method's body, so many steps at most -/
def amRun (CALL : Nat → List amV → amS → Option amR) (q : amInf) : Nat → amF → Option amR
  | 0, _ => none
  | n + 1, f => match amFe q f.1 with
    | some (ins, len) => match amStep CALL q f.1 ins len f.2.1 f.2.2.1 f.2.2.2 with
      | some (.inl f') => amRun CALL q n f'
      | some (.inr r) => some r
      | none => none
    | none => none
def amArgs : List amV → amL
  | [] => []
  | .inr (.inl x) :: l => some (vL x) :: none :: amArgs l
  | v :: l => some v :: amArgs l
def amEnt (q : amInf) (args : List amV) : amL := amArgs args ++ List.replicate (q.2.2.1 - (amArgs args).length) none
/-- the law's own helpers: what is thrown is caught, and told by 1 -/
def amPrm (r : Option amR) (o : Nat) : Option amR := match r with
  | some (none, st) => some (some (vI 1), (st.1, st.2.1, (st.2.2.1 + 1, st.2.2.2)))
  | some (some (.inl x), st) => bif o == 0 then some (some (vI 0), (st.1, upJ st.2.1 150 0 x.toInt64, st.2.2)) else none
  | some (some (.inr (.inl x)), st) => bif o == 0 then some (some (vI 0), (st.1, upJ st.2.1 150 0 x, st.2.2)) else none
  | _ => none
def amPri (CALL : Nat → List amV → amS → Option amR) (y : Nat) (args : List amV) (st : amS) : Option amR := match y, args with
  | 274, [.inr (.inr (11, 0)), .inl a, .inl b, .inr (.inr (150, o))] => amPrm (CALL 154 [vR 11 0, vI a, vI b] st) o
  | 275, [.inr (.inr (11, 0)), .inl a, .inr (.inr (150, o))] => amPrm (CALL 155 [vR 11 0, vI a] st) o
  | _, _ => none
/-- a call, so deep at most, so many steps in each method at most -/
def amEx : Nat → Nat → Nat → List amV → amS → Option amR
  | 0, _, _, _, _ => none
  | d + 1, n, y, args, st => bif decide (274 ≤ y) then amPri (amEx d n) y args st else match amMi[y]? with
    | some q => bif decide ((amArgs args).length ≤ q.2.2.1) then amRun (amEx d n) q n (0, amEnt q args, [], st) else none
    | none => none
