/-! all is made -/
def amLawQ : amInf := (⟨"SoundAdviceLaw", "law", "([I)Z"⟩, code, 8, some .boolean, 13, 1)
def amF0 : amF := (0, [some (vR 99 0), none, none, none, none, none, none, none], [], ((fun _ _ _ => 0), (fun _ _ => 0), (0, 0, 0, 0)))
def amF1 : Option amF := amGoN (amEy 8 400) amLawQ 13 amF0
def amEqV : amV → amV → Bool
  | .inl x, .inl y => decide (x = y)
  | .inr (.inr x), .inr (.inr y) => decide (x.1 = y.1) && decide (x.2 = y.2)
  | _, _ => false
def amEqO : Option amV → Option amV → Bool
  | none, none => true
  | some x, some y => amEqV x y
  | _, _ => false
def amEqL : amL → amL → Bool
  | [], [] => true
  | a :: l, b :: m => amEqO a b && amEqL l m
  | _, _ => false
theorem amEqV_ok : ∀ {x y : amV}, amEqV x y = true → x = y
  | .inl x, .inl y, h => by
    have := of_decide_eq_true h
    rw [this]
  | .inr (.inr x), .inr (.inr y), h => by
    have h : (decide (x.1 = y.1) && decide (x.2 = y.2)) = true := h
    rw [Bool.and_eq_true] at h
    have h1 := of_decide_eq_true h.1
    have h2 := of_decide_eq_true h.2
    have : x = y := Prod.ext h1 h2
    rw [this]
  | .inl x, .inr y, h => by cases h
  | .inr (.inl x), .inl y, h => by cases h
  | .inr (.inr x), .inl y, h => by cases h
  | .inr (.inl x), .inr (.inl y), h => by cases h
  | .inr (.inl x), .inr (.inr y), h => by cases h
  | .inr (.inr x), .inr (.inl y), h => by cases h
theorem amEqO_ok : ∀ {x y : Option amV}, amEqO x y = true → x = y
  | none, none, _ => rfl
  | some x, some y, h => by rw [amEqV_ok (show amEqV x y = true from h)]
  | none, some y, h => by cases h
  | some x, none, h => by cases h
theorem amEqL_ok : ∀ {l m : amL}, amEqL l m = true → l = m
  | [], [], _ => rfl
  | a :: l, b :: m, h => by
    have h : (amEqO a b && amEqL l m) = true := h
    rw [Bool.and_eq_true] at h
    rw [amEqO_ok h.1, amEqL_ok h.2]
  | [], b :: m, h => by cases h
  | a :: l, [], h => by cases h
def lawL (x : Int32) : amL := [some (vR 99 0), some (vR 11 0), some (vR 12 0), some (vR 150 0), some (vI x), none, none, none]
def gm0 : Gm := (0, (fun _ => nI 0), (fun _ => nI 0))
def sta0 : Sta := (gm0, [], (fun _ => none), (0, fun _ => 0), [])
def chkC (M : amM) : Bool := decide (M 1105 0 0 = nI 2) && decide (M 1106 0 0 = nI 4) && (List.range 3).all (fun i => decide (M 100 0 i = nI (hsN 0 i)) && decide (M 101 0 i = nI (srN 0 i))) && (List.range 2).all (fun i => (List.range 4).all (fun p => decide (M 102 0 (9 * i + p) = nI (act 0 i p)))) && (List.range 27).all (fun k => decide (M 103 0 k = nI 0)) && (List.range 9).all (fun k => decide (M 104 0 k = nI 0)) && decide (M 1351 0 0 = nI 0) && decide (M 1352 0 0 = nI 0) && decide (M 121 0 0 = nI 0) && decide (M 121 0 1 = nI 0) && decide (M 1501 0 0 = nI 0) && decide (M 1301 0 0 = nI 0)
def chkM (M : amM) : Bool := (List.range 40).all (fun k => decide (M 130 0 k = img gm0 k)) && decide (M 1629 0 0 = nI 0) && decide (M 147 0 0 = nI 0) && decide (M 147 0 1 = nI 0) && decide (M 1602 0 0 = nI 0) && decide (M 1604 0 0 = nI 0)
def chkF (f : amF) : Bool := decide (f.1 = 23) && amEqL f.2.1 (lawL 0) && f.2.2.1.isEmpty && decide (f.2.2.2.2.2.1 = 0) && decide (f.2.2.2.2.2.2.1 = 149) && decide (f.2.2.2.2.2.2.2.1 = 147) && decide (f.2.2.2.2.2.2.2.2 = 0) && chkC f.2.2.2.1 && chkM f.2.2.2.1
def chkO (o : Option amF) : Bool := match o with
  | some f => chkF f
  | none => false
def chk1 : Bool := chkO amF1
set_option maxRecDepth 100000 in
theorem chk1_ok : chk1 = true := by decide +kernel
