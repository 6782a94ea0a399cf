/-! what the tables' words say of the static tables: each word by its place in lw_tbl; printed by wip/whole/facts.py -/
def amOwn (cn : Nat) : String := amNm.getD cn ""
abbrev amInf : Type := MethodName × ByteArray × Nat × Option FieldType × Nat × Nat
def amCode (q : amInf) : Cond := .code q.1 q.2.1 q.2.2.1 q.2.2.2.1
/-- the words that stand at places -/
def amAt (ps : List Nat) : List Cond := ps.map (fun p => lw_tbl.getD p .tt)
/-- what a method link of a kind needs -/
def amWd (cn idx kd : Nat) (q : amInf) : List Cond := match kd with
  | 0 => [.methodLink (amOwn cn) idx q.1, .instanceMethod q.1, .selects q.1.cls q.1 q.1, .initialized q.1.cls]
  | 1 => [.methodLink (amOwn cn) idx q.1, .static q.1, .initialized q.1.cls]
  | 2 => [.methodLink (amOwn cn) idx q.1, .instanceMethod q.1, .initialized q.1.cls]
  | 3 => [.instanceMethod q.1, .initialized q.1.cls]
  | 4 => [.methodLink (amOwn cn) idx Lib.objectInit]
  | 5 => [.methodLink (amOwn cn) idx arraycopyName]
  | _ => [.methodLink (amOwn cn) idx q.1]
def amMlC (cn : Nat) (e : Nat × Nat × Nat × List Nat) : Bool := match amMi[e.2.1]? with
  | some q => decide (amWd cn e.1 e.2.2.1 q = amAt e.2.2.2) && (amWd cn e.1 e.2.2.1 q).all goodWord && e.2.2.2.all (fun p => decide (p < 1732)) && decide (e.2.1 < 273 ∨ 4 ≤ e.2.2.1)
  | none => false
theorem amTblLen : lw_tbl.length = 1732 := by decide +kernel
theorem amMlC0 : (amMl 0).all (amMlC 0) = true := by decide +kernel
theorem amMlC1 : (amMl 1).all (amMlC 1) = true := by decide +kernel
theorem amMlC2 : (amMl 2).all (amMlC 2) = true := by decide +kernel
theorem amMlC3 : (amMl 3).all (amMlC 3) = true := by decide +kernel
theorem amMlC4 : (amMl 4).all (amMlC 4) = true := by decide +kernel
theorem amMlC5 : (amMl 5).all (amMlC 5) = true := by decide +kernel
theorem amMlC6 : (amMl 6).all (amMlC 6) = true := by decide +kernel
theorem amMlC7 : (amMl 7).all (amMlC 7) = true := by decide +kernel
theorem amMlC8 : (amMl 8).all (amMlC 8) = true := by decide +kernel
theorem amMlC9 : (amMl 9).all (amMlC 9) = true := by decide +kernel
theorem amMlC10 : (amMl 10).all (amMlC 10) = true := by decide +kernel
theorem amMlC11 : (amMl 11).all (amMlC 11) = true := by decide +kernel
theorem amMlC12 : (amMl 12).all (amMlC 12) = true := by decide +kernel
theorem amMlC13 : (amMl 13).all (amMlC 13) = true := by decide +kernel
theorem amMlC14 : (amMl 14).all (amMlC 14) = true := by decide +kernel
theorem amMlC15 : (amMl 15).all (amMlC 15) = true := by decide +kernel
theorem amMlC16 : (amMl 16).all (amMlC 16) = true := by decide +kernel
theorem amMl_ok : ∀ (cn : Nat) (e : Nat × Nat × Nat × List Nat), e ∈ amMl cn → amMlC cn e = true := fun cn e h => match cn, h with
  | 0, h => List.all_eq_true.mp amMlC0 e h
  | 1, h => List.all_eq_true.mp amMlC1 e h
  | 2, h => List.all_eq_true.mp amMlC2 e h
  | 3, h => List.all_eq_true.mp amMlC3 e h
  | 4, h => List.all_eq_true.mp amMlC4 e h
  | 5, h => List.all_eq_true.mp amMlC5 e h
  | 6, h => List.all_eq_true.mp amMlC6 e h
  | 7, h => List.all_eq_true.mp amMlC7 e h
  | 8, h => List.all_eq_true.mp amMlC8 e h
  | 9, h => List.all_eq_true.mp amMlC9 e h
  | 10, h => List.all_eq_true.mp amMlC10 e h
  | 11, h => List.all_eq_true.mp amMlC11 e h
  | 12, h => List.all_eq_true.mp amMlC12 e h
  | 13, h => List.all_eq_true.mp amMlC13 e h
  | 14, h => List.all_eq_true.mp amMlC14 e h
  | 15, h => List.all_eq_true.mp amMlC15 e h
  | 16, h => List.all_eq_true.mp amMlC16 e h
  | n + 17, h => absurd h List.not_mem_nil
theorem amAt_in {p : Nat} (h : p < 1732) : lw_tbl.getD p .tt ∈ lw_tbl := by
  have h2 : p < lw_tbl.length := by rw [amTblLen]; exact h
  rw [List.getD_eq_getElem?_getD, List.getElem?_eq_getElem h2]
  exact List.getElem_mem h2
/-- a method link's words stand in the tables, and are good ones -/
theorem amMl_wd {cn : Nat} {e : Nat × Nat × Nat × List Nat} (h : e ∈ amMl cn) : ∃ q, amMi[e.2.1]? = some q ∧ (∀ w ∈ amWd cn e.1 e.2.2.1 q, w ∈ lw_tbl ∧ goodWord w = true) ∧ (e.2.1 < 273 ∨ 4 ≤ e.2.2.1) := by
  have h1 := amMl_ok cn e h
  unfold amMlC at h1
  cases hq : amMi[e.2.1]? with
  | none => rw [hq] at h1; cases h1
  | some q =>
    rw [hq] at h1
    simp only [Bool.and_eq_true, decide_eq_true_eq] at h1
    obtain ⟨⟨⟨h1, h2⟩, h3⟩, h4⟩ := h1
    refine ⟨q, rfl, fun w hw => ⟨?_, List.all_eq_true.mp h2 w hw⟩, h4⟩
    rw [h1] at hw
    obtain ⟨p, hp, rfl⟩ := List.mem_map.mp hw
    exact amAt_in (of_decide_eq_true (List.all_eq_true.mp h3 p hp))
def amFlC (cn : Nat) (e : Nat × Nat × Nat × Nat) : Bool := match amFs[e.2.1]? with
  | some c => match c.2[e.2.2.1]? with
    | some f => decide (lw_tbl.getD e.2.2.2 .tt = .fieldLink (amOwn cn) e.1 c.1 f.1 f.2.1) && decide (e.2.2.2 < 1732)
    | none => false
  | none => false
theorem amFlC0 : (amFl 0).all (amFlC 0) = true := by decide +kernel
theorem amFlC1 : (amFl 1).all (amFlC 1) = true := by decide +kernel
theorem amFlC2 : (amFl 2).all (amFlC 2) = true := by decide +kernel
theorem amFlC3 : (amFl 3).all (amFlC 3) = true := by decide +kernel
theorem amFlC4 : (amFl 4).all (amFlC 4) = true := by decide +kernel
theorem amFlC5 : (amFl 5).all (amFlC 5) = true := by decide +kernel
theorem amFlC6 : (amFl 6).all (amFlC 6) = true := by decide +kernel
theorem amFlC7 : (amFl 7).all (amFlC 7) = true := by decide +kernel
theorem amFlC8 : (amFl 8).all (amFlC 8) = true := by decide +kernel
theorem amFlC9 : (amFl 9).all (amFlC 9) = true := by decide +kernel
theorem amFlC10 : (amFl 10).all (amFlC 10) = true := by decide +kernel
theorem amFlC11 : (amFl 11).all (amFlC 11) = true := by decide +kernel
theorem amFlC12 : (amFl 12).all (amFlC 12) = true := by decide +kernel
theorem amFlC13 : (amFl 13).all (amFlC 13) = true := by decide +kernel
theorem amFlC14 : (amFl 14).all (amFlC 14) = true := by decide +kernel
theorem amFlC15 : (amFl 15).all (amFlC 15) = true := by decide +kernel
theorem amFlC16 : (amFl 16).all (amFlC 16) = true := by decide +kernel
theorem amFl_ok : ∀ (cn : Nat) (e : Nat × Nat × Nat × Nat), e ∈ amFl cn → amFlC cn e = true := fun cn e h => match cn, h with
  | 0, h => List.all_eq_true.mp amFlC0 e h
  | 1, h => List.all_eq_true.mp amFlC1 e h
  | 2, h => List.all_eq_true.mp amFlC2 e h
  | 3, h => List.all_eq_true.mp amFlC3 e h
  | 4, h => List.all_eq_true.mp amFlC4 e h
  | 5, h => List.all_eq_true.mp amFlC5 e h
  | 6, h => List.all_eq_true.mp amFlC6 e h
  | 7, h => List.all_eq_true.mp amFlC7 e h
  | 8, h => List.all_eq_true.mp amFlC8 e h
  | 9, h => List.all_eq_true.mp amFlC9 e h
  | 10, h => List.all_eq_true.mp amFlC10 e h
  | 11, h => List.all_eq_true.mp amFlC11 e h
  | 12, h => List.all_eq_true.mp amFlC12 e h
  | 13, h => List.all_eq_true.mp amFlC13 e h
  | 14, h => List.all_eq_true.mp amFlC14 e h
  | 15, h => List.all_eq_true.mp amFlC15 e h
  | 16, h => List.all_eq_true.mp amFlC16 e h
  | n + 17, h => absurd h List.not_mem_nil
/-- a field link's word stands in the tables -/
theorem amFl_wd {cn : Nat} {e : Nat × Nat × Nat × Nat} (h : e ∈ amFl cn) : ∃ c f, amFs[e.2.1]? = some c ∧ c.2[e.2.2.1]? = some f ∧ Cond.fieldLink (amOwn cn) e.1 c.1 f.1 f.2.1 ∈ lw_tbl := by
  have h1 := amFl_ok cn e h
  unfold amFlC at h1
  cases hc : amFs[e.2.1]? with
  | none => rw [hc] at h1; cases h1
  | some c =>
    rw [hc] at h1
    dsimp only at h1
    cases hf : c.2[e.2.2.1]? with
    | none => rw [hf] at h1; cases h1
    | some f =>
      rw [hf] at h1
      simp only [Bool.and_eq_true, decide_eq_true_eq] at h1
      exact ⟨c, f, rfl, hf, h1.1 ▸ amAt_in h1.2⟩
def amKlC (e : Nat × Nat × Nat × Nat) : Bool := match amFs[e.2.2.1]? with
  | some c => decide (lw_tbl.getD e.2.2.2 .tt = .classLink (amOwn e.1) e.2.1 c.1) && decide (e.2.2.2 < 1732)
  | none => false
theorem amKlC0 : amKl.all amKlC = true := by decide +kernel
theorem amKl_wd {e : Nat × Nat × Nat × Nat} (h : e ∈ amKl) : ∃ c, amFs[e.2.2.1]? = some c ∧ Cond.classLink (amOwn e.1) e.2.1 c.1 ∈ lw_tbl := by
  have h1 := List.all_eq_true.mp amKlC0 e h
  unfold amKlC at h1
  cases hc : amFs[e.2.2.1]? with
  | none => rw [hc] at h1; cases h1
  | some c =>
    rw [hc] at h1
    simp only [Bool.and_eq_true, decide_eq_true_eq] at h1
    exact ⟨c, rfl, h1.1 ▸ amAt_in h1.2⟩
theorem amKiC : amKi.all (fun e => decide (lw_tbl.getD e.2.2.2 .tt = .constant (amOwn e.1) e.2.1 e.2.2.1) && decide (e.2.2.2 < 1732)) = true := by decide +kernel
theorem amKi_wd {e : Nat × Nat × Int32 × Nat} (h : e ∈ amKi) : Cond.constant (amOwn e.1) e.2.1 e.2.2.1 ∈ lw_tbl := by
  have h1 := List.all_eq_true.mp amKiC e h
  simp only [Bool.and_eq_true, decide_eq_true_eq] at h1
  exact h1.1 ▸ amAt_in h1.2
theorem amKjC : amKj.all (fun e => decide (lw_tbl.getD e.2.2.2 .tt = .constantLong (amOwn e.1) e.2.1 e.2.2.1) && decide (e.2.2.2 < 1732)) = true := by decide +kernel
theorem amKj_wd {e : Nat × Nat × Int64 × Nat} (h : e ∈ amKj) : Cond.constantLong (amOwn e.1) e.2.1 e.2.2.1 ∈ lw_tbl := by
  have h1 := List.all_eq_true.mp amKjC e h
  simp only [Bool.and_eq_true, decide_eq_true_eq] at h1
  exact h1.1 ▸ amAt_in h1.2
/-- a class's table of fields, as the kit has it -/
def amT (c : String × List (String × String × Bool)) : u_T := fun k => (c.1, (c.2.getD k ("", "I", false)).1, (c.2.getD k ("", "I", false)).2.1, (c.2.getD k ("", "I", false)).2.2)
def amCls : List vw_C := amFs.map (fun c => (c.1, amT c, c.2.length))
def amFt (c : String × List (String × String × Bool)) (k : Nat) : FieldType := (parseFieldDescriptor (amT c k).2.2.1).getD .int
theorem amCpC : ((List.range 13).all (fun ci => match amFs[ci]?, amCp[ci]? with
  | some c, some p => decide ((List.range c.2.length).map (u_lay c.1 (amT c)) = amAt p.1) && p.1.all (fun q => decide (q < 1732)) && decide (lw_tbl.getD p.2.1 .tt = .instantiable c.1 c.2.length) && decide (p.2.1 < 1732) && decide (lw_tbl.getD p.2.2 .tt = .initialized c.1) && decide (p.2.2 < 1732) && ((List.range c.2.length).map (u_lay c.1 (amT c))).all goodWord
  | _, _ => false)) = true := by decide +kernel
theorem amFsLen : amFs.length = 13 := by decide +kernel
theorem amCls_wd {ci : Nat} {c : String × List (String × String × Bool)} (h : amFs[ci]? = some c) : (∀ w ∈ u_ws c.1 (amT c) c.2.length, w ∈ lw_tbl ∧ goodWord w = true) ∧ Cond.instantiable c.1 c.2.length ∈ lw_tbl ∧ Cond.initialized c.1 ∈ lw_tbl := by
  have hlt : ci < 13 := by
    rw [← amFsLen]
    exact (List.getElem?_eq_some_iff.mp h).1
  have h1 := List.all_eq_true.mp amCpC ci (List.mem_range.mpr hlt)
  rw [h] at h1
  cases hp : amCp[ci]? with
  | none => rw [hp] at h1; cases h1
  | some p =>
    rw [hp] at h1
    simp only [Bool.and_eq_true, decide_eq_true_eq] at h1
    obtain ⟨⟨⟨⟨⟨⟨h1, h2⟩, h3⟩, h4⟩, h5⟩, h6⟩, h7⟩ := h1
    refine ⟨fun w hw => ⟨?_, List.all_eq_true.mp h7 w hw⟩, h3 ▸ amAt_in h4, h5 ▸ amAt_in h6⟩
    have hw : w ∈ amAt p.1 := h1 ▸ hw
    obtain ⟨q, hq, rfl⟩ := List.mem_map.mp hw
    exact amAt_in (of_decide_eq_true (List.all_eq_true.mp h2 q hq))
theorem amFtC : ((List.range 13).all (fun ci => match amFs[ci]? with
  | some c => (List.range c.2.length).all (fun k => decide (parseFieldDescriptor (amT c k).2.2.1 = some (amFt c k)) && (List.range c.2.length).all (fun j => decide (k = j ∨ (amT c k).2.1 ≠ (amT c j).2.1)))
  | none => false)) = true := by decide +kernel
theorem amFt_ok {ci : Nat} {c : String × List (String × String × Bool)} (h : amFs[ci]? = some c) : (∀ k, k < c.2.length → parseFieldDescriptor (amT c k).2.2.1 = some (amFt c k)) ∧ (∀ a, a < c.2.length → ∀ b, b < c.2.length → a ≠ b → (amT c a).2.1 ≠ (amT c b).2.1) := by
  have hlt : ci < 13 := by
    rw [← amFsLen]
    exact (List.getElem?_eq_some_iff.mp h).1
  have h1 := List.all_eq_true.mp amFtC ci (List.mem_range.mpr hlt)
  rw [h] at h1
  dsimp only at h1
  refine ⟨fun k hk => ?_, fun a ha b hb hab => ?_⟩
  · have h2 := List.all_eq_true.mp h1 k (List.mem_range.mpr hk)
    simp only [Bool.and_eq_true, decide_eq_true_eq] at h2
    exact h2.1
  · have h2 := List.all_eq_true.mp h1 a (List.mem_range.mpr ha)
    simp only [Bool.and_eq_true, decide_eq_true_eq] at h2
    have h3 := List.all_eq_true.mp h2.2 b (List.mem_range.mpr hb)
    rcases of_decide_eq_true h3 with h4 | h4
    · exact absurd h4 hab
    · exact h4
theorem amIn1 {w : Cond} (h : w ∈ tables_1_1) : w ∈ lw_tbl := List.mem_append_right _ (show w ∈ tables_1 from List.mem_append_left _ h)
theorem amIn2 {w : Cond} (h : w ∈ tables_1_2) : w ∈ lw_tbl := List.mem_append_right _ (show w ∈ tables_1 from List.mem_append_right _ (List.mem_append_left _ h))
theorem amIn3 {w : Cond} (h : w ∈ tables_1_3) : w ∈ lw_tbl := List.mem_append_right _ (show w ∈ tables_1 from List.mem_append_right _ (List.mem_append_right _ (List.mem_append_left _ h)))
theorem amIn4 {w : Cond} (h : w ∈ tables_1_4) : w ∈ lw_tbl := List.mem_append_right _ (show w ∈ tables_1 from List.mem_append_right _ (List.mem_append_right _ (List.mem_append_right _ (List.mem_append_left _ h))))
theorem amIn5 {w : Cond} (h : w ∈ tables_1_5) : w ∈ lw_tbl := List.mem_append_right _ (show w ∈ tables_1 from List.mem_append_right _ (List.mem_append_right _ (List.mem_append_right _ (List.mem_append_right _ (List.mem_append_left _ h)))))
theorem amIn6 {w : Cond} (h : w ∈ tables_1_6) : w ∈ lw_tbl := List.mem_append_right _ (show w ∈ tables_1 from List.mem_append_right _ (List.mem_append_right _ (List.mem_append_right _ (List.mem_append_right _ (List.mem_append_right _ (List.mem_append_left _ h))))))
theorem amIn7 {w : Cond} (h : w ∈ tables_1_7) : w ∈ lw_tbl := List.mem_append_right _ (show w ∈ tables_1 from List.mem_append_right _ (List.mem_append_right _ (List.mem_append_right _ (List.mem_append_right _ (List.mem_append_right _ (List.mem_append_right _ (h)))))))
set_option maxRecDepth 100000 in
theorem cw_0 : Cond.code ⟨"SoundAdvice", "<init>", "()V"⟩ prog_1_method_1_code 2 none ∈ lw_tbl := amIn1 (List.mem_of_getElem? (i := 26) rfl)
set_option maxRecDepth 100000 in
theorem cw_1 : Cond.code ⟨"SoundAdvice$Game", "<init>", "()V"⟩ prog_4_method_1_code 1 none ∈ lw_tbl := amIn1 (List.mem_of_getElem? (i := 34) rfl)
set_option maxRecDepth 100000 in
theorem cw_2 : Cond.code ⟨"SoundAdvice$Game", "shape", "(III)V"⟩ prog_4_method_2_code 8 none ∈ lw_tbl := amIn1 (List.mem_of_getElem? (i := 39) rfl)
set_option maxRecDepth 100000 in
theorem cw_3 : Cond.code ⟨"java/util/Arrays", "fill", "([II)V"⟩ prog_23_method_103_code 4 none ∈ lw_tbl := amIn1 (List.mem_of_getElem? (i := 42) rfl)
set_option maxRecDepth 100000 in
theorem cw_4 : Cond.code ⟨"java/lang/Math", "max", "(II)I"⟩ prog_18_method_65_code 2 (some .int) ∈ lw_tbl := amIn1 (List.mem_of_getElem? (i := 45) rfl)
set_option maxRecDepth 100000 in
theorem cw_5 : Cond.code ⟨"SoundAdvice$Game", "profileOf", "(III)I"⟩ prog_4_method_8_code 4 (some .int) ∈ lw_tbl := amIn1 (List.mem_of_getElem? (i := 49) rfl)
set_option maxRecDepth 100000 in
theorem cw_6 : Cond.code ⟨"SoundAdvice$Past", "<init>", "()V"⟩ prog_9_method_1_code 2 none ∈ lw_tbl := amIn1 (List.mem_of_getElem? (i := 93) rfl)
set_option maxRecDepth 100000 in
theorem cw_7 : Cond.code ⟨"SoundAdvice$Text", "<init>", "()V"⟩ prog_12_method_1_code 1 none ∈ lw_tbl := amIn1 (List.mem_of_getElem? (i := 113) rfl)
set_option maxRecDepth 100000 in
theorem cw_8 : Cond.code ⟨"SoundAdvice$Numbers", "<init>", "()V"⟩ prog_8_method_1_code 1 none ∈ lw_tbl := amIn1 (List.mem_of_getElem? (i := 127) rfl)
set_option maxRecDepth 100000 in
theorem cw_9 : Cond.code ⟨"SoundAdvice$Tally", "<init>", "()V"⟩ prog_11_method_1_code 1 none ∈ lw_tbl := amIn1 (List.mem_of_getElem? (i := 143) rfl)
set_option maxRecDepth 100000 in
theorem cw_10 : Cond.code ⟨"SoundAdvice$Lister", "<init>", "()V"⟩ prog_6_method_1_code 1 none ∈ lw_tbl := amIn1 (List.mem_of_getElem? (i := 191) rfl)
set_option maxRecDepth 100000 in
theorem cw_11 : Cond.code ⟨"SoundAdvice$Choice", "<init>", "()V"⟩ prog_2_method_1_code 1 none ∈ lw_tbl := amIn1 (List.mem_of_getElem? (i := 214) rfl)
set_option maxRecDepth 100000 in
theorem cw_12 : Cond.code ⟨"SoundAdvice$Halves", "<init>", "()V"⟩ prog_5_method_1_code 1 none ∈ lw_tbl := amIn1 (List.mem_of_getElem? (i := 233) rfl)
set_option maxRecDepth 100000 in
theorem cw_13 : Cond.code ⟨"SoundAdvice$Match", "<init>", "()V"⟩ prog_7_method_1_code 1 none ∈ lw_tbl := amIn2 (List.mem_of_getElem? (i := 8) rfl)
set_option maxRecDepth 100000 in
theorem cw_14 : Cond.code ⟨"SoundAdvice$Dice", "<init>", "()V"⟩ prog_3_method_1_code 1 none ∈ lw_tbl := amIn2 (List.mem_of_getElem? (i := 14) rfl)
set_option maxRecDepth 100000 in
theorem cw_15 : Cond.code ⟨"SoundAdvice$Sieve", "<init>", "()V"⟩ prog_10_method_1_code 1 none ∈ lw_tbl := amIn2 (List.mem_of_getElem? (i := 51) rfl)
set_option maxRecDepth 100000 in
theorem cw_16 : Cond.code ⟨"SoundAdvice", "sign", "(I)I"⟩ prog_1_method_2_code 2 (some .int) ∈ lw_tbl := amIn2 (List.mem_of_getElem? (i := 117) rfl)
set_option maxRecDepth 100000 in
theorem cw_17 : Cond.code ⟨"SoundAdvice$Text", "add", "(I)Z"⟩ prog_12_method_2_code 3 (some .boolean) ∈ lw_tbl := amIn2 (List.mem_of_getElem? (i := 121) rfl)
set_option maxRecDepth 100000 in
theorem cw_18 : Cond.code ⟨"SoundAdvice", "end", "(I)Z"⟩ prog_1_method_3_code 2 (some .boolean) ∈ lw_tbl := amIn2 (List.mem_of_getElem? (i := 125) rfl)
set_option maxRecDepth 100000 in
theorem cw_19 : Cond.code ⟨"SoundAdvice", "game", "()I"⟩ prog_1_method_4_code 2 (some .int) ∈ lw_tbl := amIn2 (List.mem_of_getElem? (i := 129) rfl)
set_option maxRecDepth 100000 in
theorem cw_20 : Cond.code ⟨"SoundAdvice$Past", "mark", "(LSoundAdvice$Game;)V"⟩ prog_9_method_3_code 2 none ∈ lw_tbl := amIn2 (List.mem_of_getElem? (i := 133) rfl)
set_option maxRecDepth 100000 in
theorem cw_21 : Cond.code ⟨"SoundAdvice$Past", "slot", "(I)LSoundAdvice$Game;"⟩ prog_9_method_2_code 3 (some (.object "SoundAdvice$Game")) ∈ lw_tbl := amIn2 (List.mem_of_getElem? (i := 137) rfl)
set_option maxRecDepth 100000 in
theorem cw_22 : Cond.code ⟨"SoundAdvice$Game", "copy", "(LSoundAdvice$Game;)V"⟩ prog_4_method_3_code 2 none ∈ lw_tbl := amIn2 (List.mem_of_getElem? (i := 141) rfl)
set_option maxRecDepth 100000 in
theorem cw_23 : Cond.code ⟨"SoundAdvice$Text", "readGame", "(LSoundAdvice$Game;)I"⟩ prog_12_method_8_code 4 (some .int) ∈ lw_tbl := amIn2 (List.mem_of_getElem? (i := 148) rfl)
set_option maxRecDepth 100000 in
theorem cw_24 : Cond.code ⟨"SoundAdvice$Text", "isActions", "(I)Z"⟩ prog_12_method_7_code 2 (some .boolean) ∈ lw_tbl := amIn2 (List.mem_of_getElem? (i := 152) rfl)
set_option maxRecDepth 100000 in
theorem cw_25 : Cond.code ⟨"SoundAdvice$Text", "at", "(I)I"⟩ prog_12_method_3_code 2 (some .int) ∈ lw_tbl := amIn2 (List.mem_of_getElem? (i := 156) rfl)
set_option maxRecDepth 100000 in
theorem cw_26 : Cond.code ⟨"SoundAdvice$Text", "digit", "(I)I"⟩ prog_12_method_4_code 2 (some .int) ∈ lw_tbl := amIn2 (List.mem_of_getElem? (i := 160) rfl)
set_option maxRecDepth 100000 in
theorem cw_27 : Cond.code ⟨"SoundAdvice$Text", "readPays", "(LSoundAdvice$Game;I)I"⟩ prog_12_method_9_code 6 (some .int) ∈ lw_tbl := amIn2 (List.mem_of_getElem? (i := 165) rfl)
set_option maxRecDepth 100000 in
theorem cw_28 : Cond.code ⟨"SoundAdvice$Text", "isLetter", "(I)Z"⟩ prog_12_method_6_code 2 (some .boolean) ∈ lw_tbl := amIn2 (List.mem_of_getElem? (i := 169) rfl)
set_option maxRecDepth 100000 in
theorem cw_29 : Cond.code ⟨"SoundAdvice$Game", "setPay", "(III)Z"⟩ prog_4_method_12_code 4 (some .boolean) ∈ lw_tbl := amIn2 (List.mem_of_getElem? (i := 173) rfl)
set_option maxRecDepth 100000 in
theorem cw_30 : Cond.code ⟨"SoundAdvice$Game", "hasPay", "(II)Z"⟩ prog_4_method_7_code 3 (some .boolean) ∈ lw_tbl := amIn2 (List.mem_of_getElem? (i := 177) rfl)
set_option maxRecDepth 100000 in
theorem cw_31 : Cond.code ⟨"SoundAdvice$Game", "hasPlayer", "(I)Z"⟩ prog_4_method_4_code 2 (some .boolean) ∈ lw_tbl := amIn2 (List.mem_of_getElem? (i := 181) rfl)
set_option maxRecDepth 100000 in
theorem cw_32 : Cond.code ⟨"SoundAdvice$Game", "hasProfile", "(I)Z"⟩ prog_4_method_6_code 2 (some .boolean) ∈ lw_tbl := amIn2 (List.mem_of_getElem? (i := 185) rfl)
set_option maxRecDepth 100000 in
theorem cw_33 : Cond.code ⟨"SoundAdvice$Game", "payOf", "(II)I"⟩ prog_4_method_11_code 3 (some .int) ∈ lw_tbl := amIn2 (List.mem_of_getElem? (i := 189) rfl)
set_option maxRecDepth 100000 in
theorem cw_34 : Cond.code ⟨"SoundAdvice$Past", "settle", "(I)I"⟩ prog_9_method_4_code 2 (some .int) ∈ lw_tbl := amIn2 (List.mem_of_getElem? (i := 194) rfl)
set_option maxRecDepth 100000 in
theorem cw_35 : Cond.code ⟨"SoundAdvice", "advice", "()I"⟩ prog_1_method_5_code 2 (some .int) ∈ lw_tbl := amIn2 (List.mem_of_getElem? (i := 198) rfl)
set_option maxRecDepth 100000 in
theorem cw_36 : Cond.code ⟨"SoundAdvice$Text", "readAdvice", "(I[I)I"⟩ prog_12_method_10_code 5 (some .int) ∈ lw_tbl := amIn2 (List.mem_of_getElem? (i := 202) rfl)
set_option maxRecDepth 100000 in
theorem cw_37 : Cond.code ⟨"SoundAdvice$Text", "isDigit", "(I)Z"⟩ prog_12_method_5_code 2 (some .boolean) ∈ lw_tbl := amIn2 (List.mem_of_getElem? (i := 206) rfl)
set_option maxRecDepth 100000 in
theorem cw_38 : Cond.code ⟨"SoundAdvice", "sheet", "(IIIIII)I"⟩ prog_1_method_6_code 9 (some .int) ∈ lw_tbl := amIn2 (List.mem_of_getElem? (i := 211) rfl)
set_option maxRecDepth 100000 in
theorem cw_39 : Cond.code ⟨"SoundAdvice", "entry", "(II)I"⟩ prog_1_method_7_code 2 (some .int) ∈ lw_tbl := amIn2 (List.mem_of_getElem? (i := 215) rfl)
set_option maxRecDepth 100000 in
theorem cw_40 : Cond.code ⟨"SoundAdvice", "entryFault", "(II)I"⟩ prog_1_method_8_code 3 (some .int) ∈ lw_tbl := amIn2 (List.mem_of_getElem? (i := 219) rfl)
set_option maxRecDepth 100000 in
theorem cw_41 : Cond.code ⟨"SoundAdvice", "isPay", "(I)Z"⟩ prog_1_method_61_code 1 (some .boolean) ∈ lw_tbl := amIn2 (List.mem_of_getElem? (i := 223) rfl)
set_option maxRecDepth 100000 in
theorem cw_42 : Cond.code ⟨"SoundAdvice$Numbers", "clear", "()V"⟩ prog_8_method_2_code 1 none ∈ lw_tbl := amIn2 (List.mem_of_getElem? (i := 227) rfl)
set_option maxRecDepth 100000 in
theorem cw_43 : Cond.code ⟨"SoundAdvice$Numbers", "add", "(J)V"⟩ prog_8_method_3_code 3 none ∈ lw_tbl := amIn2 (List.mem_of_getElem? (i := 231) rfl)
set_option maxRecDepth 100000 in
theorem cw_44 : Cond.code ⟨"SoundAdvice", "profile", "(III)I"⟩ prog_1_method_9_code 4 (some .int) ∈ lw_tbl := amIn2 (List.mem_of_getElem? (i := 236) rfl)
set_option maxRecDepth 100000 in
theorem cw_45 : Cond.code ⟨"SoundAdvice$Game", "hasAction", "(II)Z"⟩ prog_4_method_5_code 3 (some .boolean) ∈ lw_tbl := amIn3 (List.mem_of_getElem? (i := 0) rfl)
set_option maxRecDepth 100000 in
theorem cw_46 : Cond.code ⟨"SoundAdvice", "gain", "(III)I"⟩ prog_1_method_11_code 4 (some .int) ∈ lw_tbl := amIn3 (List.mem_of_getElem? (i := 5) rfl)
set_option maxRecDepth 100000 in
theorem cw_47 : Cond.code ⟨"SoundAdvice$Tally", "weigh", "(LSoundAdvice$Game;[I)V"⟩ prog_11_method_5_code 3 none ∈ lw_tbl := amIn3 (List.mem_of_getElem? (i := 9) rfl)
set_option maxRecDepth 100000 in
theorem cw_48 : Cond.code ⟨"SoundAdvice$Tally", "read", "(LSoundAdvice$Game;)V"⟩ prog_11_method_2_code 4 none ∈ lw_tbl := amIn3 (List.mem_of_getElem? (i := 13) rfl)
set_option maxRecDepth 100000 in
theorem cw_49 : Cond.code ⟨"SoundAdvice$Tally", "clear", "()V"⟩ prog_11_method_3_code 1 none ∈ lw_tbl := amIn3 (List.mem_of_getElem? (i := 18) rfl)
set_option maxRecDepth 100000 in
theorem cw_50 : Cond.code ⟨"SoundAdvice$Tally", "readLures", "(LSoundAdvice$Game;II)V"⟩ prog_11_method_4_code 7 none ∈ lw_tbl := amIn3 (List.mem_of_getElem? (i := 23) rfl)
set_option maxRecDepth 100000 in
theorem cw_51 : Cond.code ⟨"SoundAdvice$Game", "doing", "(II)I"⟩ prog_4_method_9_code 3 (some .int) ∈ lw_tbl := amIn3 (List.mem_of_getElem? (i := 27) rfl)
set_option maxRecDepth 100000 in
theorem cw_52 : Cond.code ⟨"SoundAdvice$Game", "instead", "(III)I"⟩ prog_4_method_10_code 4 (some .int) ∈ lw_tbl := amIn3 (List.mem_of_getElem? (i := 31) rfl)
set_option maxRecDepth 100000 in
theorem cw_53 : Cond.code ⟨"SoundAdvice$Tally", "putAll", "([I)V"⟩ prog_11_method_6_code 3 none ∈ lw_tbl := amIn3 (List.mem_of_getElem? (i := 36) rfl)
set_option maxRecDepth 100000 in
theorem cw_54 : Cond.code ⟨"SoundAdvice$Tally", "put", "(II)V"⟩ prog_11_method_7_code 7 none ∈ lw_tbl := amIn3 (List.mem_of_getElem? (i := 40) rfl)
set_option maxRecDepth 100000 in
theorem cw_55 : Cond.code ⟨"SoundAdvice$Tally", "gainOf", "(III)I"⟩ prog_11_method_8_code 4 (some .int) ∈ lw_tbl := amIn3 (List.mem_of_getElem? (i := 44) rfl)
set_option maxRecDepth 100000 in
theorem cw_56 : Cond.code ⟨"SoundAdvice", "sound", "()I"⟩ prog_1_method_12_code 1 (some .int) ∈ lw_tbl := amIn3 (List.mem_of_getElem? (i := 48) rfl)
set_option maxRecDepth 100000 in
theorem cw_57 : Cond.code ⟨"SoundAdvice$Tally", "findGreatest", "()I"⟩ prog_11_method_11_code 4 (some .int) ∈ lw_tbl := amIn3 (List.mem_of_getElem? (i := 52) rfl)
set_option maxRecDepth 100000 in
theorem cw_58 : Cond.code ⟨"SoundAdvice$Tally", "isSound", "()Z"⟩ prog_11_method_9_code 1 (some .boolean) ∈ lw_tbl := amIn3 (List.mem_of_getElem? (i := 57) rfl)
set_option maxRecDepth 100000 in
theorem cw_59 : Cond.code ⟨"SoundAdvice$Tally", "settledBy", "()I"⟩ prog_11_method_10_code 2 (some .int) ∈ lw_tbl := amIn3 (List.mem_of_getElem? (i := 61) rfl)
set_option maxRecDepth 100000 in
theorem cw_60 : Cond.code ⟨"SoundAdvice", "tight", "()I"⟩ prog_1_method_13_code 3 (some .int) ∈ lw_tbl := amIn3 (List.mem_of_getElem? (i := 65) rfl)
set_option maxRecDepth 100000 in
theorem cw_61 : Cond.code ⟨"SoundAdvice", "tellTight", "(II)V"⟩ prog_1_method_14_code 4 none ∈ lw_tbl := amIn3 (List.mem_of_getElem? (i := 69) rfl)
set_option maxRecDepth 100000 in
theorem cw_62 : Cond.code ⟨"SoundAdvice$Game", "tokensDoing", "(II[I)I"⟩ prog_4_method_14_code 6 (some .int) ∈ lw_tbl := amIn3 (List.mem_of_getElem? (i := 73) rfl)
set_option maxRecDepth 100000 in
theorem cw_63 : Cond.code ⟨"SoundAdvice", "hangs", "(I)I"⟩ prog_1_method_15_code 8 (some .int) ∈ lw_tbl := amIn3 (List.mem_of_getElem? (i := 78) rfl)
set_option maxRecDepth 100000 in
theorem cw_64 : Cond.code ⟨"SoundAdvice", "hangsThere", "(III)I"⟩ prog_1_method_16_code 7 (some .int) ∈ lw_tbl := amIn3 (List.mem_of_getElem? (i := 82) rfl)
set_option maxRecDepth 100000 in
theorem cw_65 : Cond.code ⟨"java/lang/Math", "abs", "(I)I"⟩ prog_18_method_59_code 1 (some .int) ∈ lw_tbl := amIn3 (List.mem_of_getElem? (i := 88) rfl)
set_option maxRecDepth 100000 in
theorem cw_66 : Cond.code ⟨"SoundAdvice", "values", "()I"⟩ prog_1_method_17_code 2 (some .int) ∈ lw_tbl := amIn3 (List.mem_of_getElem? (i := 93) rfl)
set_option maxRecDepth 100000 in
theorem cw_67 : Cond.code ⟨"SoundAdvice$Game", "valueOf", "(I[I)I"⟩ prog_4_method_17_code 5 (some .int) ∈ lw_tbl := amIn3 (List.mem_of_getElem? (i := 97) rfl)
set_option maxRecDepth 100000 in
theorem cw_68 : Cond.code ⟨"SoundAdvice$Game", "welfareOf", "([I)I"⟩ prog_4_method_18_code 4 (some .int) ∈ lw_tbl := amIn3 (List.mem_of_getElem? (i := 101) rfl)
set_option maxRecDepth 100000 in
theorem cw_69 : Cond.code ⟨"SoundAdvice$Game", "floorOf", "([I)I"⟩ prog_4_method_19_code 4 (some .int) ∈ lw_tbl := amIn3 (List.mem_of_getElem? (i := 106) rfl)
set_option maxRecDepth 100000 in
theorem cw_70 : Cond.code ⟨"java/lang/Math", "min", "(II)I"⟩ prog_18_method_69_code 2 (some .int) ∈ lw_tbl := amIn3 (List.mem_of_getElem? (i := 109) rfl)
set_option maxRecDepth 100000 in
theorem cw_71 : Cond.code ⟨"SoundAdvice$Game", "tokens", "()I"⟩ prog_4_method_13_code 3 (some .int) ∈ lw_tbl := amIn3 (List.mem_of_getElem? (i := 113) rfl)
set_option maxRecDepth 100000 in
theorem cw_72 : Cond.code ⟨"SoundAdvice", "map", "(I)I"⟩ prog_1_method_18_code 6 (some .int) ∈ lw_tbl := amIn3 (List.mem_of_getElem? (i := 117) rfl)
set_option maxRecDepth 100000 in
theorem cw_73 : Cond.code ⟨"SoundAdvice$Tally", "bestInstead", "(II)I"⟩ prog_11_method_12_code 5 (some .int) ∈ lw_tbl := amIn3 (List.mem_of_getElem? (i := 121) rfl)
set_option maxRecDepth 100000 in
theorem cw_74 : Cond.code ⟨"SoundAdvice", "corner", "()I"⟩ prog_1_method_19_code 1 (some .int) ∈ lw_tbl := amIn3 (List.mem_of_getElem? (i := 125) rfl)
set_option maxRecDepth 100000 in
theorem cw_75 : Cond.code ⟨"SoundAdvice", "isListed", "()Z"⟩ prog_1_method_31_code 1 (some .boolean) ∈ lw_tbl := amIn3 (List.mem_of_getElem? (i := 129) rfl)
set_option maxRecDepth 100000 in
theorem cw_76 : Cond.code ⟨"SoundAdvice", "isSoundNow", "(LSoundAdvice$Game;)Z"⟩ prog_1_method_59_code 2 (some .boolean) ∈ lw_tbl := amIn3 (List.mem_of_getElem? (i := 133) rfl)
set_option maxRecDepth 100000 in
theorem cw_77 : Cond.code ⟨"SoundAdvice$Game", "isApart", "([I)Z"⟩ prog_4_method_24_code 7 (some .boolean) ∈ lw_tbl := amIn3 (List.mem_of_getElem? (i := 137) rfl)
set_option maxRecDepth 100000 in
theorem cw_78 : Cond.code ⟨"SoundAdvice$Halves", "read", "(LSoundAdvice$Game;)V"⟩ prog_5_method_2_code 2 none ∈ lw_tbl := amIn3 (List.mem_of_getElem? (i := 142) rfl)
set_option maxRecDepth 100000 in
theorem cw_79 : Cond.code ⟨"SoundAdvice$Halves", "isCorner", "([I)Z"⟩ prog_5_method_3_code 2 (some .boolean) ∈ lw_tbl := amIn3 (List.mem_of_getElem? (i := 147) rfl)
set_option maxRecDepth 100000 in
theorem cw_80 : Cond.code ⟨"SoundAdvice$Halves", "leans", "(LSoundAdvice$Tally;LSoundAdvice$Tally;IIZ)Z"⟩ prog_5_method_4_code 8 (some .boolean) ∈ lw_tbl := amIn3 (List.mem_of_getElem? (i := 152) rfl)
set_option maxRecDepth 100000 in
theorem cw_81 : Cond.code ⟨"SoundAdvice$Halves", "isWithin", "(LSoundAdvice$Tally;LSoundAdvice$Tally;)Z"⟩ prog_5_method_5_code 3 (some .boolean) ∈ lw_tbl := amIn3 (List.mem_of_getElem? (i := 155) rfl)
set_option maxRecDepth 100000 in
theorem cw_82 : Cond.code ⟨"SoundAdvice", "plans", "()I"⟩ prog_1_method_20_code 3 (some .int) ∈ lw_tbl := amIn3 (List.mem_of_getElem? (i := 161) rfl)
set_option maxRecDepth 100000 in
theorem cw_83 : Cond.code ⟨"SoundAdvice$Game", "planBits", "()I"⟩ prog_4_method_22_code 3 (some .int) ∈ lw_tbl := amIn3 (List.mem_of_getElem? (i := 165) rfl)
set_option maxRecDepth 100000 in
theorem cw_84 : Cond.code ⟨"SoundAdvice$Game", "isPlan", "(I)Z"⟩ prog_4_method_23_code 4 (some .boolean) ∈ lw_tbl := amIn3 (List.mem_of_getElem? (i := 169) rfl)
set_option maxRecDepth 100000 in
theorem cw_85 : Cond.code ⟨"SoundAdvice$Game", "welfareAt", "(I)I"⟩ prog_4_method_20_code 4 (some .int) ∈ lw_tbl := amIn3 (List.mem_of_getElem? (i := 174) rfl)
set_option maxRecDepth 100000 in
theorem cw_86 : Cond.code ⟨"java/lang/Integer", "bitCount", "(I)I"⟩ prog_17_method_49_code 1 (some .int) ∈ lw_tbl := amIn3 (List.mem_of_getElem? (i := 177) rfl)
set_option maxRecDepth 100000 in
theorem cw_87 : Cond.code ⟨"SoundAdvice", "sure", "(I)I"⟩ prog_1_method_21_code 4 (some .int) ∈ lw_tbl := amIn3 (List.mem_of_getElem? (i := 184) rfl)
set_option maxRecDepth 100000 in
theorem cw_88 : Cond.code ⟨"SoundAdvice$Game", "leastPay", "(II)I"⟩ prog_4_method_21_code 5 (some .int) ∈ lw_tbl := amIn3 (List.mem_of_getElem? (i := 188) rfl)
set_option maxRecDepth 100000 in
theorem cw_89 : Cond.code ⟨"SoundAdvice", "left", "()I"⟩ prog_1_method_22_code 2 (some .int) ∈ lw_tbl := amIn3 (List.mem_of_getElem? (i := 192) rfl)
set_option maxRecDepth 100000 in
theorem cw_90 : Cond.code ⟨"SoundAdvice$Sieve", "sift", "(LSoundAdvice$Game;)V"⟩ prog_10_method_2_code 3 none ∈ lw_tbl := amIn3 (List.mem_of_getElem? (i := 196) rfl)
set_option maxRecDepth 100000 in
theorem cw_91 : Cond.code ⟨"SoundAdvice$Sieve", "takeFirst", "(LSoundAdvice$Game;)Z"⟩ prog_10_method_4_code 4 (some .boolean) ∈ lw_tbl := amIn3 (List.mem_of_getElem? (i := 200) rfl)
set_option maxRecDepth 100000 in
theorem cw_92 : Cond.code ⟨"SoundAdvice$Sieve", "isStaying", "(II)Z"⟩ prog_10_method_5_code 3 (some .boolean) ∈ lw_tbl := amIn3 (List.mem_of_getElem? (i := 204) rfl)
set_option maxRecDepth 100000 in
theorem cw_93 : Cond.code ⟨"SoundAdvice$Sieve", "isWorthless", "(LSoundAdvice$Game;II)Z"⟩ prog_10_method_6_code 5 (some .boolean) ∈ lw_tbl := amIn3 (List.mem_of_getElem? (i := 208) rfl)
set_option maxRecDepth 100000 in
theorem cw_94 : Cond.code ⟨"SoundAdvice$Sieve", "isLess", "(LSoundAdvice$Game;III)Z"⟩ prog_10_method_7_code 7 (some .boolean) ∈ lw_tbl := amIn3 (List.mem_of_getElem? (i := 212) rfl)
set_option maxRecDepth 100000 in
theorem cw_95 : Cond.code ⟨"SoundAdvice$Sieve", "isProfileStaying", "(LSoundAdvice$Game;I)Z"⟩ prog_10_method_8_code 4 (some .boolean) ∈ lw_tbl := amIn3 (List.mem_of_getElem? (i := 217) rfl)
set_option maxRecDepth 100000 in
theorem cw_96 : Cond.code ⟨"SoundAdvice$Sieve", "staying", "()I"⟩ prog_10_method_3_code 1 (some .int) ∈ lw_tbl := amIn3 (List.mem_of_getElem? (i := 223) rfl)
set_option maxRecDepth 100000 in
theorem cw_97 : Cond.code ⟨"SoundAdvice", "list", "(I)I"⟩ prog_1_method_23_code 5 (some .int) ∈ lw_tbl := amIn3 (List.mem_of_getElem? (i := 228) rfl)
set_option maxRecDepth 100000 in
theorem cw_98 : Cond.code ⟨"SoundAdvice$Lister", "begin", "(LSoundAdvice$Game;I)V"⟩ prog_6_method_2_code 3 none ∈ lw_tbl := amIn3 (List.mem_of_getElem? (i := 232) rfl)
set_option maxRecDepth 100000 in
theorem cw_99 : Cond.code ⟨"SoundAdvice$Lister", "next", "()Z"⟩ prog_6_method_3_code 3 (some .boolean) ∈ lw_tbl := amIn3 (List.mem_of_getElem? (i := 238) rfl)
set_option maxRecDepth 100000 in
theorem cw_100 : Cond.code ⟨"SoundAdvice$Lister", "step", "()Z"⟩ prog_6_method_4_code 4 (some .boolean) ∈ lw_tbl := amIn4 (List.mem_of_getElem? (i := 2) rfl)
set_option maxRecDepth 100000 in
theorem cw_101 : Cond.code ⟨"SoundAdvice", "best", "(II)I"⟩ prog_1_method_24_code 3 (some .int) ∈ lw_tbl := amIn4 (List.mem_of_getElem? (i := 8) rfl)
set_option maxRecDepth 100000 in
theorem cw_102 : Cond.code ⟨"SoundAdvice", "isChoice", "(II)Z"⟩ prog_1_method_32_code 3 (some .boolean) ∈ lw_tbl := amIn4 (List.mem_of_getElem? (i := 12) rfl)
set_option maxRecDepth 100000 in
theorem cw_103 : Cond.code ⟨"SoundAdvice", "isSize", "(I)Z"⟩ prog_1_method_62_code 1 (some .boolean) ∈ lw_tbl := amIn4 (List.mem_of_getElem? (i := 15) rfl)
set_option maxRecDepth 100000 in
theorem cw_104 : Cond.code ⟨"SoundAdvice$Choice", "choose", "(LSoundAdvice$Game;LSoundAdvice$Lister;I)Z"⟩ prog_2_method_2_code 7 (some .boolean) ∈ lw_tbl := amIn4 (List.mem_of_getElem? (i := 19) rfl)
set_option maxRecDepth 100000 in
theorem cw_105 : Cond.code ⟨"SoundAdvice$Choice", "worthOf", "(LSoundAdvice$Game;[III)I"⟩ prog_2_method_4_code 4 (some .int) ∈ lw_tbl := amIn4 (List.mem_of_getElem? (i := 24) rfl)
set_option maxRecDepth 100000 in
theorem cw_106 : Cond.code ⟨"SoundAdvice$Choice", "tokensOn", "([II)I"⟩ prog_2_method_5_code 4 (some .int) ∈ lw_tbl := amIn4 (List.mem_of_getElem? (i := 29) rfl)
set_option maxRecDepth 100000 in
theorem cw_107 : Cond.code ⟨"SoundAdvice$Game", "usedBits", "([I)I"⟩ prog_4_method_15_code 4 (some .int) ∈ lw_tbl := amIn4 (List.mem_of_getElem? (i := 33) rfl)
set_option maxRecDepth 100000 in
theorem cw_108 : Cond.code ⟨"SoundAdvice$Choice", "isBetter", "(II)Z"⟩ prog_2_method_3_code 3 (some .boolean) ∈ lw_tbl := amIn4 (List.mem_of_getElem? (i := 39) rfl)
set_option maxRecDepth 100000 in
theorem cw_109 : Cond.code ⟨"SoundAdvice", "tellTokens", "([I)V"⟩ prog_1_method_60_code 3 none ∈ lw_tbl := amIn4 (List.mem_of_getElem? (i := 44) rfl)
set_option maxRecDepth 100000 in
theorem cw_110 : Cond.code ⟨"SoundAdvice", "number", "(II)I"⟩ prog_1_method_25_code 3 (some .int) ∈ lw_tbl := amIn4 (List.mem_of_getElem? (i := 48) rfl)
set_option maxRecDepth 100000 in
theorem cw_111 : Cond.code ⟨"SoundAdvice", "findListed", "(II)Z"⟩ prog_1_method_30_code 4 (some .boolean) ∈ lw_tbl := amIn4 (List.mem_of_getElem? (i := 52) rfl)
set_option maxRecDepth 100000 in
theorem cw_112 : Cond.code ⟨"SoundAdvice", "which", "()I"⟩ prog_1_method_26_code 2 (some .int) ∈ lw_tbl := amIn4 (List.mem_of_getElem? (i := 57) rfl)
set_option maxRecDepth 100000 in
theorem cw_113 : Cond.code ⟨"SoundAdvice$Game", "isAdvice", "([I)Z"⟩ prog_4_method_16_code 3 (some .boolean) ∈ lw_tbl := amIn4 (List.mem_of_getElem? (i := 61) rfl)
set_option maxRecDepth 100000 in
theorem cw_114 : Cond.code ⟨"SoundAdvice", "near", "(II)I"⟩ prog_1_method_27_code 6 (some .int) ∈ lw_tbl := amIn4 (List.mem_of_getElem? (i := 65) rfl)
set_option maxRecDepth 100000 in
theorem cw_115 : Cond.code ⟨"SoundAdvice", "movedBetween", "([I[I)I"⟩ prog_1_method_63_code 4 (some .int) ∈ lw_tbl := amIn4 (List.mem_of_getElem? (i := 68) rfl)
set_option maxRecDepth 100000 in
theorem cw_116 : Cond.code ⟨"SoundAdvice", "beyond", "()I"⟩ prog_1_method_28_code 4 (some .int) ∈ lw_tbl := amIn4 (List.mem_of_getElem? (i := 72) rfl)
set_option maxRecDepth 100000 in
theorem cw_117 : Cond.code ⟨"SoundAdvice", "countBeyond", "(II)I"⟩ prog_1_method_29_code 5 (some .int) ∈ lw_tbl := amIn4 (List.mem_of_getElem? (i := 76) rfl)
set_option maxRecDepth 100000 in
theorem cw_118 : Cond.code ⟨"SoundAdvice", "play", "(IIII)I"⟩ prog_1_method_33_code 6 (some .int) ∈ lw_tbl := amIn4 (List.mem_of_getElem? (i := 80) rfl)
set_option maxRecDepth 100000 in
theorem cw_119 : Cond.code ⟨"SoundAdvice", "isPlay", "(II)Z"⟩ prog_1_method_35_code 3 (some .boolean) ∈ lw_tbl := amIn4 (List.mem_of_getElem? (i := 84) rfl)
set_option maxRecDepth 100000 in
theorem cw_120 : Cond.code ⟨"SoundAdvice$Match", "begin", "(LSoundAdvice$Game;III)V"⟩ prog_7_method_2_code 5 none ∈ lw_tbl := amIn4 (List.mem_of_getElem? (i := 88) rfl)
set_option maxRecDepth 100000 in
theorem cw_121 : Cond.code ⟨"SoundAdvice$Match", "book", "(LSoundAdvice$Game;)V"⟩ prog_7_method_4_code 4 none ∈ lw_tbl := amIn4 (List.mem_of_getElem? (i := 93) rfl)
set_option maxRecDepth 100000 in
theorem cw_122 : Cond.code ⟨"SoundAdvice$Match", "playOn", "(LSoundAdvice$Game;)V"⟩ prog_7_method_3_code 4 none ∈ lw_tbl := amIn4 (List.mem_of_getElem? (i := 99) rfl)
set_option maxRecDepth 100000 in
theorem cw_123 : Cond.code ⟨"SoundAdvice$Match", "mostRegretted", "(LSoundAdvice$Game;I)I"⟩ prog_7_method_5_code 5 (some .int) ∈ lw_tbl := amIn4 (List.mem_of_getElem? (i := 103) rfl)
set_option maxRecDepth 100000 in
theorem cw_124 : Cond.code ⟨"SoundAdvice$Match", "drawn", "(LSoundAdvice$Game;I)I"⟩ prog_7_method_6_code 7 (some .int) ∈ lw_tbl := amIn4 (List.mem_of_getElem? (i := 107) rfl)
set_option maxRecDepth 100000 in
theorem cw_125 : Cond.code ⟨"SoundAdvice$Dice", "draw", "(I)I"⟩ prog_3_method_2_code 2 (some .int) ∈ lw_tbl := amIn4 (List.mem_of_getElem? (i := 113) rfl)
set_option maxRecDepth 100000 in
theorem cw_126 : Cond.code ⟨"SoundAdvice$Match", "mostRegret", "(LSoundAdvice$Game;)I"⟩ prog_7_method_7_code 5 (some .int) ∈ lw_tbl := amIn4 (List.mem_of_getElem? (i := 118) rfl)
set_option maxRecDepth 100000 in
theorem cw_127 : Cond.code ⟨"SoundAdvice", "calm", "(IIII)I"⟩ prog_1_method_34_code 8 (some .int) ∈ lw_tbl := amIn4 (List.mem_of_getElem? (i := 122) rfl)
set_option maxRecDepth 100000 in
theorem cw_128 : Cond.code ⟨"SoundAdvice", "mixed", "(I)I"⟩ prog_1_method_36_code 3 (some .int) ∈ lw_tbl := amIn4 (List.mem_of_getElem? (i := 126) rfl)
set_option maxRecDepth 100000 in
theorem cw_129 : Cond.code ⟨"SoundAdvice", "isShelved", "(I)Z"⟩ prog_1_method_58_code 2 (some .boolean) ∈ lw_tbl := amIn4 (List.mem_of_getElem? (i := 130) rfl)
set_option maxRecDepth 100000 in
theorem cw_130 : Cond.code ⟨"SoundAdvice", "were", "(III)I"⟩ prog_1_method_37_code 4 (some .int) ∈ lw_tbl := amIn4 (List.mem_of_getElem? (i := 134) rfl)
set_option maxRecDepth 100000 in
theorem cw_131 : Cond.code ⟨"SoundAdvice", "range", "(II)I"⟩ prog_1_method_38_code 7 (some .int) ∈ lw_tbl := amIn4 (List.mem_of_getElem? (i := 139) rfl)
set_option maxRecDepth 100000 in
theorem cw_132 : Cond.code ⟨"SoundAdvice", "mends", "()I"⟩ prog_1_method_39_code 4 (some .int) ∈ lw_tbl := amIn4 (List.mem_of_getElem? (i := 143) rfl)
set_option maxRecDepth 100000 in
theorem cw_133 : Cond.code ⟨"SoundAdvice", "pays", "(III)I"⟩ prog_1_method_40_code 4 (some .int) ∈ lw_tbl := amIn4 (List.mem_of_getElem? (i := 147) rfl)
set_option maxRecDepth 100000 in
theorem cw_134 : Cond.code ⟨"SoundAdvice", "changePay", "(III)I"⟩ prog_1_method_50_code 5 (some .int) ∈ lw_tbl := amIn4 (List.mem_of_getElem? (i := 151) rfl)
set_option maxRecDepth 100000 in
theorem cw_135 : Cond.code ⟨"SoundAdvice", "scales", "(III)I"⟩ prog_1_method_41_code 6 (some .int) ∈ lw_tbl := amIn4 (List.mem_of_getElem? (i := 155) rfl)
set_option maxRecDepth 100000 in
theorem cw_136 : Cond.code ⟨"SoundAdvice", "scaleFault", "(III)I"⟩ prog_1_method_42_code 7 (some .int) ∈ lw_tbl := amIn4 (List.mem_of_getElem? (i := 158) rfl)
set_option maxRecDepth 100000 in
theorem cw_137 : Cond.code ⟨"SoundAdvice", "moves", "(II)I"⟩ prog_1_method_43_code 3 (some .int) ∈ lw_tbl := amIn4 (List.mem_of_getElem? (i := 162) rfl)
set_option maxRecDepth 100000 in
theorem cw_138 : Cond.code ⟨"SoundAdvice", "moveToken", "(II)I"⟩ prog_1_method_51_code 3 (some .int) ∈ lw_tbl := amIn4 (List.mem_of_getElem? (i := 166) rfl)
set_option maxRecDepth 100000 in
theorem cw_139 : Cond.code ⟨"SoundAdvice", "lays", "(II)I"⟩ prog_1_method_44_code 3 (some .int) ∈ lw_tbl := amIn4 (List.mem_of_getElem? (i := 170) rfl)
set_option maxRecDepth 100000 in
theorem cw_140 : Cond.code ⟨"SoundAdvice", "layTokens", "(II)I"⟩ prog_1_method_52_code 3 (some .int) ∈ lw_tbl := amIn4 (List.mem_of_getElem? (i := 174) rfl)
set_option maxRecDepth 100000 in
theorem cw_141 : Cond.code ⟨"SoundAdvice", "takes", "(II)I"⟩ prog_1_method_45_code 3 (some .int) ∈ lw_tbl := amIn4 (List.mem_of_getElem? (i := 178) rfl)
set_option maxRecDepth 100000 in
theorem cw_142 : Cond.code ⟨"SoundAdvice", "takeBest", "(II)I"⟩ prog_1_method_53_code 3 (some .int) ∈ lw_tbl := amIn4 (List.mem_of_getElem? (i := 182) rfl)
set_option maxRecDepth 100000 in
theorem cw_143 : Cond.code ⟨"SoundAdvice", "day", "()I"⟩ prog_1_method_46_code 5 (some .int) ∈ lw_tbl := amIn4 (List.mem_of_getElem? (i := 186) rfl)
set_option maxRecDepth 100000 in
theorem cw_144 : Cond.code ⟨"SoundAdvice$Text", "dayFault", "()I"⟩ prog_12_method_11_code 6 (some .int) ∈ lw_tbl := amIn4 (List.mem_of_getElem? (i := 190) rfl)
set_option maxRecDepth 100000 in
theorem cw_145 : Cond.code ⟨"SoundAdvice$Text", "actLength", "(I)I"⟩ prog_12_method_13_code 1 (some .int) ∈ lw_tbl := amIn4 (List.mem_of_getElem? (i := 193) rfl)
set_option maxRecDepth 100000 in
theorem cw_146 : Cond.code ⟨"SoundAdvice$Text", "canStand", "(III)Z"⟩ prog_12_method_12_code 4 (some .boolean) ∈ lw_tbl := amIn4 (List.mem_of_getElem? (i := 197) rfl)
set_option maxRecDepth 100000 in
theorem cw_147 : Cond.code ⟨"SoundAdvice", "act", "(I)I"⟩ prog_1_method_47_code 3 (some .int) ∈ lw_tbl := amIn4 (List.mem_of_getElem? (i := 201) rfl)
set_option maxRecDepth 100000 in
theorem cw_148 : Cond.code ⟨"SoundAdvice", "undo", "()I"⟩ prog_1_method_48_code 1 (some .int) ∈ lw_tbl := amIn4 (List.mem_of_getElem? (i := 208) rfl)
set_option maxRecDepth 100000 in
theorem cw_149 : Cond.code ⟨"SoundAdvice$Past", "back", "(LSoundAdvice$Game;)I"⟩ prog_9_method_5_code 2 (some .int) ∈ lw_tbl := amIn4 (List.mem_of_getElem? (i := 212) rfl)
set_option maxRecDepth 100000 in
theorem cw_150 : Cond.code ⟨"SoundAdvice", "years", "(II)I"⟩ prog_1_method_49_code 6 (some .int) ∈ lw_tbl := amIn4 (List.mem_of_getElem? (i := 216) rfl)
set_option maxRecDepth 100000 in
theorem cw_151 : Cond.code ⟨"SoundAdvice", "keep", "(I)Z"⟩ prog_1_method_54_code 2 (some .boolean) ∈ lw_tbl := amIn4 (List.mem_of_getElem? (i := 221) rfl)
set_option maxRecDepth 100000 in
theorem cw_152 : Cond.code ⟨"SoundAdvice", "again", "(I)Z"⟩ prog_1_method_55_code 2 (some .boolean) ∈ lw_tbl := amIn4 (List.mem_of_getElem? (i := 225) rfl)
set_option maxRecDepth 100000 in
theorem cw_153 : Cond.code ⟨"SoundAdvice", "count", "(I)I"⟩ prog_1_method_56_code 2 (some .int) ∈ lw_tbl := amIn4 (List.mem_of_getElem? (i := 229) rfl)
set_option maxRecDepth 100000 in
theorem cw_154 : Cond.code ⟨"SoundAdvice", "of", "(II)I"⟩ prog_1_method_10_code 4 (some .int) ∈ lw_tbl := amIn4 (List.mem_of_getElem? (i := 237) rfl)
set_option maxRecDepth 100000 in
theorem cw_155 : Cond.code ⟨"SoundAdvice", "row", "(I)J"⟩ prog_1_method_57_code 2 (some .long) ∈ lw_tbl := amIn5 (List.mem_of_getElem? (i := 71) rfl)
set_option maxRecDepth 100000 in
theorem cw_156 : Cond.code ⟨"SoundAdviceModel", "<init>", "()V"⟩ prog_14_method_1_code 1 none ∈ lw_tbl := amIn5 (List.mem_of_getElem? (i := 77) rfl)
set_option maxRecDepth 100000 in
theorem cw_157 : Cond.code ⟨"SoundAdviceModel", "thrown", "()I"⟩ prog_14_method_2_code 1 (some .int) ∈ lw_tbl := amIn5 (List.mem_of_getElem? (i := 182) rfl)
set_option maxRecDepth 100000 in
theorem cw_158 : Cond.code ⟨"SoundAdviceModel", "sign", "(I)I"⟩ prog_14_method_14_code 3 (some .int) ∈ lw_tbl := amIn5 (List.mem_of_getElem? (i := 186) rfl)
set_option maxRecDepth 100000 in
theorem cw_159 : Cond.code ⟨"SoundAdviceModel", "end", "(I)Z"⟩ prog_14_method_15_code 2 (some .boolean) ∈ lw_tbl := amIn5 (List.mem_of_getElem? (i := 190) rfl)
set_option maxRecDepth 100000 in
theorem cw_160 : Cond.code ⟨"SoundAdviceModel", "in", "(III)Z"⟩ prog_14_method_3_code 3 (some .boolean) ∈ lw_tbl := amIn5 (List.mem_of_getElem? (i := 193) rfl)
set_option maxRecDepth 100000 in
theorem cw_161 : Cond.code ⟨"SoundAdviceModel", "game", "()I"⟩ prog_14_method_22_code 7 (some .int) ∈ lw_tbl := amIn5 (List.mem_of_getElem? (i := 197) rfl)
set_option maxRecDepth 100000 in
theorem cw_162 : Cond.code ⟨"SoundAdviceModel", "begin", "()V"⟩ prog_14_method_16_code 1 none ∈ lw_tbl := amIn5 (List.mem_of_getElem? (i := 201) rfl)
set_option maxRecDepth 100000 in
theorem cw_163 : Cond.code ⟨"SoundAdviceModel", "oneOf", "(CI)I"⟩ prog_14_method_20_code 3 (some .int) ∈ lw_tbl := amIn5 (List.mem_of_getElem? (i := 205) rfl)
set_option maxRecDepth 100000 in
theorem cw_164 : Cond.code ⟨"SoundAdviceModel", "fine", "()Z"⟩ prog_14_method_18_code 1 (some .boolean) ∈ lw_tbl := amIn5 (List.mem_of_getElem? (i := 209) rfl)
set_option maxRecDepth 100000 in
theorem cw_165 : Cond.code ⟨"SoundAdviceModel", "here", "()I"⟩ prog_14_method_17_code 1 (some .int) ∈ lw_tbl := amIn5 (List.mem_of_getElem? (i := 213) rfl)
set_option maxRecDepth 100000 in
theorem cw_166 : Cond.code ⟨"SoundAdviceModel", "fault", "(I)V"⟩ prog_14_method_19_code 2 none ∈ lw_tbl := amIn5 (List.mem_of_getElem? (i := 217) rfl)
set_option maxRecDepth 100000 in
theorem cw_167 : Cond.code ⟨"SoundAdviceModel", "wasRight", "()Z"⟩ prog_14_method_21_code 1 (some .boolean) ∈ lw_tbl := amIn5 (List.mem_of_getElem? (i := 221) rfl)
set_option maxRecDepth 100000 in
theorem cw_168 : Cond.code ⟨"SoundAdviceModel", "change", "()V"⟩ prog_14_method_95_code 1 none ∈ lw_tbl := amIn5 (List.mem_of_getElem? (i := 225) rfl)
set_option maxRecDepth 100000 in
theorem cw_169 : Cond.code ⟨"SoundAdviceModel", "lay", "()V"⟩ prog_14_method_93_code 2 none ∈ lw_tbl := amIn5 (List.mem_of_getElem? (i := 229) rfl)
set_option maxRecDepth 100000 in
theorem cw_170 : Cond.code ⟨"SoundAdviceModel", "note", "()V"⟩ prog_14_method_94_code 2 none ∈ lw_tbl := amIn5 (List.mem_of_getElem? (i := 233) rfl)
set_option maxRecDepth 100000 in
theorem cw_171 : Cond.code ⟨"SoundAdviceModel", "advice", "()I"⟩ prog_14_method_24_code 4 (some .int) ∈ lw_tbl := amIn5 (List.mem_of_getElem? (i := 237) rfl)
set_option maxRecDepth 100000 in
theorem cw_172 : Cond.code ⟨"SoundAdviceModel", "profiles", "()I"⟩ prog_14_method_8_code 1 (some .int) ∈ lw_tbl := amIn6 (List.mem_of_getElem? (i := 1) rfl)
set_option maxRecDepth 100000 in
theorem cw_173 : Cond.code ⟨"SoundAdviceModel", "has", "(I)I"⟩ prog_14_method_7_code 2 (some .int) ∈ lw_tbl := amIn6 (List.mem_of_getElem? (i := 5) rfl)
set_option maxRecDepth 100000 in
theorem cw_174 : Cond.code ⟨"SoundAdviceModel", "sheet", "(IIIIII)I"⟩ prog_14_method_26_code 11 (some .int) ∈ lw_tbl := amIn6 (List.mem_of_getElem? (i := 9) rfl)
set_option maxRecDepth 100000 in
theorem cw_175 : Cond.code ⟨"SoundAdviceModel", "isPlayer", "(I)Z"⟩ prog_14_method_6_code 2 (some .boolean) ∈ lw_tbl := amIn6 (List.mem_of_getElem? (i := 13) rfl)
set_option maxRecDepth 100000 in
theorem cw_176 : Cond.code ⟨"SoundAdviceModel", "entryOf", "(IIII)I"⟩ prog_14_method_25_code 5 (some .int) ∈ lw_tbl := amIn6 (List.mem_of_getElem? (i := 16) rfl)
set_option maxRecDepth 100000 in
theorem cw_177 : Cond.code ⟨"SoundAdviceModel", "tell", "(J)V"⟩ prog_14_method_5_code 3 none ∈ lw_tbl := amIn6 (List.mem_of_getElem? (i := 20) rfl)
set_option maxRecDepth 100000 in
theorem cw_178 : Cond.code ⟨"SoundAdviceModel", "pay", "(II)I"⟩ prog_14_method_13_code 3 (some .int) ∈ lw_tbl := amIn6 (List.mem_of_getElem? (i := 25) rfl)
set_option maxRecDepth 100000 in
theorem cw_179 : Cond.code ⟨"SoundAdviceModel", "profile", "(III)I"⟩ prog_14_method_27_code 5 (some .int) ∈ lw_tbl := amIn6 (List.mem_of_getElem? (i := 29) rfl)
set_option maxRecDepth 100000 in
theorem cw_180 : Cond.code ⟨"SoundAdviceModel", "stride", "(I)I"⟩ prog_14_method_10_code 4 (some .int) ∈ lw_tbl := amIn6 (List.mem_of_getElem? (i := 33) rfl)
set_option maxRecDepth 100000 in
theorem cw_181 : Cond.code ⟨"SoundAdviceModel", "of", "(II)I"⟩ prog_14_method_28_code 4 (some .int) ∈ lw_tbl := amIn6 (List.mem_of_getElem? (i := 37) rfl)
set_option maxRecDepth 100000 in
theorem cw_182 : Cond.code ⟨"SoundAdviceModel", "isProfile", "(I)Z"⟩ prog_14_method_9_code 2 (some .boolean) ∈ lw_tbl := amIn6 (List.mem_of_getElem? (i := 41) rfl)
set_option maxRecDepth 100000 in
theorem cw_183 : Cond.code ⟨"SoundAdviceModel", "lost", "()I"⟩ prog_14_method_4_code 1 (some .int) ∈ lw_tbl := amIn6 (List.mem_of_getElem? (i := 45) rfl)
set_option maxRecDepth 100000 in
theorem cw_184 : Cond.code ⟨"SoundAdviceModel", "actionIn", "(II)I"⟩ prog_14_method_11_code 3 (some .int) ∈ lw_tbl := amIn6 (List.mem_of_getElem? (i := 49) rfl)
set_option maxRecDepth 100000 in
theorem cw_185 : Cond.code ⟨"SoundAdviceModel", "gain", "(III)I"⟩ prog_14_method_33_code 4 (some .int) ∈ lw_tbl := amIn6 (List.mem_of_getElem? (i := 53) rfl)
set_option maxRecDepth 100000 in
theorem cw_186 : Cond.code ⟨"SoundAdviceModel", "askNow", "()V"⟩ prog_14_method_29_code 2 none ∈ lw_tbl := amIn6 (List.mem_of_getElem? (i := 57) rfl)
set_option maxRecDepth 100000 in
theorem cw_187 : Cond.code ⟨"SoundAdviceModel", "gainOf", "(III)I"⟩ prog_14_method_30_code 6 (some .int) ∈ lw_tbl := amIn6 (List.mem_of_getElem? (i := 61) rfl)
set_option maxRecDepth 100000 in
theorem cw_188 : Cond.code ⟨"SoundAdviceModel", "but", "(III)I"⟩ prog_14_method_12_code 4 (some .int) ∈ lw_tbl := amIn6 (List.mem_of_getElem? (i := 65) rfl)
set_option maxRecDepth 100000 in
theorem cw_189 : Cond.code ⟨"SoundAdviceModel", "sound", "()I"⟩ prog_14_method_35_code 2 (some .int) ∈ lw_tbl := amIn6 (List.mem_of_getElem? (i := 69) rfl)
set_option maxRecDepth 100000 in
theorem cw_190 : Cond.code ⟨"SoundAdviceModel", "greatest", "()I"⟩ prog_14_method_34_code 5 (some .int) ∈ lw_tbl := amIn6 (List.mem_of_getElem? (i := 73) rfl)
set_option maxRecDepth 100000 in
theorem cw_191 : Cond.code ⟨"SoundAdviceModel", "tight", "()I"⟩ prog_14_method_37_code 4 (some .int) ∈ lw_tbl := amIn6 (List.mem_of_getElem? (i := 78) rfl)
set_option maxRecDepth 100000 in
theorem cw_192 : Cond.code ⟨"SoundAdviceModel", "isTold", "(II)Z"⟩ prog_14_method_36_code 4 (some .boolean) ∈ lw_tbl := amIn6 (List.mem_of_getElem? (i := 82) rfl)
set_option maxRecDepth 100000 in
theorem cw_193 : Cond.code ⟨"SoundAdviceModel", "hangs", "(I)I"⟩ prog_14_method_38_code 9 (some .int) ∈ lw_tbl := amIn6 (List.mem_of_getElem? (i := 86) rfl)
set_option maxRecDepth 100000 in
theorem cw_194 : Cond.code ⟨"SoundAdviceModel", "values", "()I"⟩ prog_14_method_42_code 2 (some .int) ∈ lw_tbl := amIn6 (List.mem_of_getElem? (i := 91) rfl)
set_option maxRecDepth 100000 in
theorem cw_195 : Cond.code ⟨"SoundAdviceModel", "valueOf", "(I)I"⟩ prog_14_method_39_code 4 (some .int) ∈ lw_tbl := amIn6 (List.mem_of_getElem? (i := 95) rfl)
set_option maxRecDepth 100000 in
theorem cw_196 : Cond.code ⟨"SoundAdviceModel", "welfare", "()I"⟩ prog_14_method_40_code 3 (some .int) ∈ lw_tbl := amIn6 (List.mem_of_getElem? (i := 99) rfl)
set_option maxRecDepth 100000 in
theorem cw_197 : Cond.code ⟨"SoundAdviceModel", "floor", "()I"⟩ prog_14_method_41_code 3 (some .int) ∈ lw_tbl := amIn6 (List.mem_of_getElem? (i := 103) rfl)
set_option maxRecDepth 100000 in
theorem cw_198 : Cond.code ⟨"SoundAdviceModel", "total", "()I"⟩ prog_14_method_23_code 3 (some .int) ∈ lw_tbl := amIn6 (List.mem_of_getElem? (i := 108) rfl)
set_option maxRecDepth 100000 in
theorem cw_199 : Cond.code ⟨"SoundAdviceModel", "map", "(I)I"⟩ prog_14_method_43_code 7 (some .int) ∈ lw_tbl := amIn6 (List.mem_of_getElem? (i := 112) rfl)
set_option maxRecDepth 100000 in
theorem cw_200 : Cond.code ⟨"SoundAdviceModel", "corner", "()I"⟩ prog_14_method_52_code 2 (some .int) ∈ lw_tbl := amIn6 (List.mem_of_getElem? (i := 116) rfl)
set_option maxRecDepth 100000 in
theorem cw_201 : Cond.code ⟨"SoundAdviceModel", "isSoundNow", "()Z"⟩ prog_14_method_32_code 1 (some .boolean) ∈ lw_tbl := amIn6 (List.mem_of_getElem? (i := 120) rfl)
set_option maxRecDepth 100000 in
theorem cw_202 : Cond.code ⟨"SoundAdviceModel", "isSound", "()Z"⟩ prog_14_method_31_code 4 (some .boolean) ∈ lw_tbl := amIn6 (List.mem_of_getElem? (i := 124) rfl)
set_option maxRecDepth 100000 in
theorem cw_203 : Cond.code ⟨"SoundAdviceModel", "layList", "(I)V"⟩ prog_14_method_47_code 3 none ∈ lw_tbl := amIn6 (List.mem_of_getElem? (i := 128) rfl)
set_option maxRecDepth 100000 in
theorem cw_204 : Cond.code ⟨"SoundAdviceModel", "lists", "(II)V"⟩ prog_14_method_46_code 4 none ∈ lw_tbl := amIn6 (List.mem_of_getElem? (i := 132) rfl)
set_option maxRecDepth 100000 in
theorem cw_205 : Cond.code ⟨"SoundAdviceModel", "isApart", "()Z"⟩ prog_14_method_51_code 8 (some .boolean) ∈ lw_tbl := amIn6 (List.mem_of_getElem? (i := 136) rfl)
set_option maxRecDepth 100000 in
theorem cw_206 : Cond.code ⟨"SoundAdviceModel", "isCorner", "()Z"⟩ prog_14_method_50_code 2 (some .boolean) ∈ lw_tbl := amIn6 (List.mem_of_getElem? (i := 140) rfl)
set_option maxRecDepth 100000 in
theorem cw_207 : Cond.code ⟨"SoundAdviceModel", "isEnd", "(I)Z"⟩ prog_14_method_49_code 4 (some .boolean) ∈ lw_tbl := amIn6 (List.mem_of_getElem? (i := 144) rfl)
set_option maxRecDepth 100000 in
theorem cw_208 : Cond.code ⟨"SoundAdviceModel", "listed", "(II)I"⟩ prog_14_method_44_code 3 (some .int) ∈ lw_tbl := amIn6 (List.mem_of_getElem? (i := 148) rfl)
set_option maxRecDepth 100000 in
theorem cw_209 : Cond.code ⟨"SoundAdviceModel", "plans", "()I"⟩ prog_14_method_55_code 5 (some .int) ∈ lw_tbl := amIn6 (List.mem_of_getElem? (i := 152) rfl)
set_option maxRecDepth 100000 in
theorem cw_210 : Cond.code ⟨"SoundAdviceModel", "planBits", "()I"⟩ prog_14_method_53_code 4 (some .int) ∈ lw_tbl := amIn6 (List.mem_of_getElem? (i := 156) rfl)
set_option maxRecDepth 100000 in
theorem cw_211 : Cond.code ⟨"SoundAdviceModel", "countBits", "(I)I"⟩ prog_14_method_54_code 3 (some .int) ∈ lw_tbl := amIn6 (List.mem_of_getElem? (i := 159) rfl)
set_option maxRecDepth 100000 in
theorem cw_212 : Cond.code ⟨"SoundAdviceModel", "sure", "(I)I"⟩ prog_14_method_57_code 4 (some .int) ∈ lw_tbl := amIn6 (List.mem_of_getElem? (i := 163) rfl)
set_option maxRecDepth 100000 in
theorem cw_213 : Cond.code ⟨"SoundAdviceModel", "leastBy", "(II)I"⟩ prog_14_method_56_code 5 (some .int) ∈ lw_tbl := amIn6 (List.mem_of_getElem? (i := 167) rfl)
set_option maxRecDepth 100000 in
theorem cw_214 : Cond.code ⟨"SoundAdviceModel", "left", "()I"⟩ prog_14_method_62_code 3 (some .int) ∈ lw_tbl := amIn6 (List.mem_of_getElem? (i := 171) rfl)
set_option maxRecDepth 100000 in
theorem cw_215 : Cond.code ⟨"SoundAdviceModel", "layLeft", "()I"⟩ prog_14_method_61_code 4 (some .int) ∈ lw_tbl := amIn6 (List.mem_of_getElem? (i := 175) rfl)
set_option maxRecDepth 100000 in
theorem cw_216 : Cond.code ⟨"SoundAdviceModel", "takeOne", "()Z"⟩ prog_14_method_60_code 4 (some .boolean) ∈ lw_tbl := amIn6 (List.mem_of_getElem? (i := 179) rfl)
set_option maxRecDepth 100000 in
theorem cw_217 : Cond.code ⟨"SoundAdviceModel", "isWorthless", "(III)Z"⟩ prog_14_method_59_code 5 (some .boolean) ∈ lw_tbl := amIn6 (List.mem_of_getElem? (i := 183) rfl)
set_option maxRecDepth 100000 in
theorem cw_218 : Cond.code ⟨"SoundAdviceModel", "isLeft", "(II)Z"⟩ prog_14_method_58_code 4 (some .boolean) ∈ lw_tbl := amIn6 (List.mem_of_getElem? (i := 187) rfl)
set_option maxRecDepth 100000 in
theorem cw_219 : Cond.code ⟨"SoundAdviceModel", "list", "(I)I"⟩ prog_14_method_63_code 5 (some .int) ∈ lw_tbl := amIn6 (List.mem_of_getElem? (i := 191) rfl)
set_option maxRecDepth 100000 in
theorem cw_220 : Cond.code ⟨"SoundAdviceModel", "takeMid", "(I)V"⟩ prog_14_method_48_code 3 none ∈ lw_tbl := amIn6 (List.mem_of_getElem? (i := 195) rfl)
set_option maxRecDepth 100000 in
theorem cw_221 : Cond.code ⟨"SoundAdviceModel", "best", "(II)I"⟩ prog_14_method_70_code 4 (some .int) ∈ lw_tbl := amIn6 (List.mem_of_getElem? (i := 199) rfl)
set_option maxRecDepth 100000 in
theorem cw_222 : Cond.code ⟨"SoundAdviceModel", "isWhat", "(II)Z"⟩ prog_14_method_67_code 3 (some .boolean) ∈ lw_tbl := amIn6 (List.mem_of_getElem? (i := 203) rfl)
set_option maxRecDepth 100000 in
theorem cw_223 : Cond.code ⟨"SoundAdviceModel", "bestOf", "(II)I"⟩ prog_14_method_68_code 7 (some .int) ∈ lw_tbl := amIn6 (List.mem_of_getElem? (i := 207) rfl)
set_option maxRecDepth 100000 in
theorem cw_224 : Cond.code ⟨"SoundAdviceModel", "ask", "(I)V"⟩ prog_14_method_45_code 3 none ∈ lw_tbl := amIn6 (List.mem_of_getElem? (i := 211) rfl)
set_option maxRecDepth 100000 in
theorem cw_225 : Cond.code ⟨"SoundAdviceModel", "worth", "(II)I"⟩ prog_14_method_66_code 3 (some .int) ∈ lw_tbl := amIn6 (List.mem_of_getElem? (i := 215) rfl)
set_option maxRecDepth 100000 in
theorem cw_226 : Cond.code ⟨"SoundAdviceModel", "tokensOn", "(I)I"⟩ prog_14_method_64_code 4 (some .int) ∈ lw_tbl := amIn6 (List.mem_of_getElem? (i := 219) rfl)
set_option maxRecDepth 100000 in
theorem cw_227 : Cond.code ⟨"SoundAdviceModel", "profilesOn", "()I"⟩ prog_14_method_65_code 3 (some .int) ∈ lw_tbl := amIn6 (List.mem_of_getElem? (i := 223) rfl)
set_option maxRecDepth 100000 in
theorem cw_228 : Cond.code ⟨"SoundAdviceModel", "tellListed", "(I)V"⟩ prog_14_method_69_code 3 none ∈ lw_tbl := amIn6 (List.mem_of_getElem? (i := 227) rfl)
set_option maxRecDepth 100000 in
theorem cw_229 : Cond.code ⟨"SoundAdviceModel", "number", "(II)I"⟩ prog_14_method_71_code 3 (some .int) ∈ lw_tbl := amIn6 (List.mem_of_getElem? (i := 231) rfl)
set_option maxRecDepth 100000 in
theorem cw_230 : Cond.code ⟨"SoundAdviceModel", "which", "()I"⟩ prog_14_method_73_code 2 (some .int) ∈ lw_tbl := amIn6 (List.mem_of_getElem? (i := 235) rfl)
set_option maxRecDepth 100000 in
theorem cw_231 : Cond.code ⟨"SoundAdviceModel", "isNow", "(I)Z"⟩ prog_14_method_72_code 3 (some .boolean) ∈ lw_tbl := amIn6 (List.mem_of_getElem? (i := 239) rfl)
set_option maxRecDepth 100000 in
theorem cw_232 : Cond.code ⟨"SoundAdviceModel", "near", "(II)I"⟩ prog_14_method_75_code 6 (some .int) ∈ lw_tbl := amIn7 (List.mem_of_getElem? (i := 3) rfl)
set_option maxRecDepth 100000 in
theorem cw_233 : Cond.code ⟨"SoundAdviceModel", "movedFrom", "(I)I"⟩ prog_14_method_74_code 4 (some .int) ∈ lw_tbl := amIn7 (List.mem_of_getElem? (i := 7) rfl)
set_option maxRecDepth 100000 in
theorem cw_234 : Cond.code ⟨"SoundAdviceModel", "beyond", "()I"⟩ prog_14_method_76_code 5 (some .int) ∈ lw_tbl := amIn7 (List.mem_of_getElem? (i := 12) rfl)
set_option maxRecDepth 100000 in
theorem cw_235 : Cond.code ⟨"SoundAdviceModel", "play", "(IIII)I"⟩ prog_14_method_84_code 7 (some .int) ∈ lw_tbl := amIn7 (List.mem_of_getElem? (i := 16) rfl)
set_option maxRecDepth 100000 in
theorem cw_236 : Cond.code ⟨"SoundAdviceModel", "startPlay", "(II)V"⟩ prog_14_method_78_code 4 none ∈ lw_tbl := amIn7 (List.mem_of_getElem? (i := 20) rfl)
set_option maxRecDepth 100000 in
theorem cw_237 : Cond.code ⟨"SoundAdviceModel", "addRegrets", "()V"⟩ prog_14_method_79_code 3 none ∈ lw_tbl := amIn7 (List.mem_of_getElem? (i := 24) rfl)
set_option maxRecDepth 100000 in
theorem cw_238 : Cond.code ⟨"SoundAdviceModel", "goRound", "(I)V"⟩ prog_14_method_82_code 4 none ∈ lw_tbl := amIn7 (List.mem_of_getElem? (i := 28) rfl)
set_option maxRecDepth 100000 in
theorem cw_239 : Cond.code ⟨"SoundAdviceModel", "byMost", "(I)I"⟩ prog_14_method_80_code 4 (some .int) ∈ lw_tbl := amIn7 (List.mem_of_getElem? (i := 32) rfl)
set_option maxRecDepth 100000 in
theorem cw_240 : Cond.code ⟨"SoundAdviceModel", "byDraw", "(I)I"⟩ prog_14_method_81_code 5 (some .int) ∈ lw_tbl := amIn7 (List.mem_of_getElem? (i := 36) rfl)
set_option maxRecDepth 100000 in
theorem cw_241 : Cond.code ⟨"SoundAdviceModel", "draw", "(I)I"⟩ prog_14_method_77_code 2 (some .int) ∈ lw_tbl := amIn7 (List.mem_of_getElem? (i := 40) rfl)
set_option maxRecDepth 100000 in
theorem cw_242 : Cond.code ⟨"SoundAdviceModel", "mostRegret", "()I"⟩ prog_14_method_83_code 4 (some .int) ∈ lw_tbl := amIn7 (List.mem_of_getElem? (i := 45) rfl)
set_option maxRecDepth 100000 in
theorem cw_243 : Cond.code ⟨"SoundAdviceModel", "calm", "(IIII)I"⟩ prog_14_method_85_code 8 (some .int) ∈ lw_tbl := amIn7 (List.mem_of_getElem? (i := 49) rfl)
set_option maxRecDepth 100000 in
theorem cw_244 : Cond.code ⟨"SoundAdviceModel", "mixed", "(I)I"⟩ prog_14_method_86_code 4 (some .int) ∈ lw_tbl := amIn7 (List.mem_of_getElem? (i := 53) rfl)
set_option maxRecDepth 100000 in
theorem cw_245 : Cond.code ⟨"SoundAdviceModel", "keptProfiles", "(I)I"⟩ prog_14_method_87_code 4 (some .int) ∈ lw_tbl := amIn7 (List.mem_of_getElem? (i := 57) rfl)
set_option maxRecDepth 100000 in
theorem cw_246 : Cond.code ⟨"SoundAdviceModel", "were", "(III)I"⟩ prog_14_method_90_code 5 (some .int) ∈ lw_tbl := amIn7 (List.mem_of_getElem? (i := 61) rfl)
set_option maxRecDepth 100000 in
theorem cw_247 : Cond.code ⟨"SoundAdviceModel", "isPay", "(II)Z"⟩ prog_14_method_88_code 3 (some .boolean) ∈ lw_tbl := amIn7 (List.mem_of_getElem? (i := 65) rfl)
set_option maxRecDepth 100000 in
theorem cw_248 : Cond.code ⟨"SoundAdviceModel", "greatestBy", "(III)I"⟩ prog_14_method_89_code 6 (some .int) ∈ lw_tbl := amIn7 (List.mem_of_getElem? (i := 69) rfl)
set_option maxRecDepth 100000 in
theorem cw_249 : Cond.code ⟨"SoundAdviceModel", "range", "(II)I"⟩ prog_14_method_91_code 7 (some .int) ∈ lw_tbl := amIn7 (List.mem_of_getElem? (i := 73) rfl)
set_option maxRecDepth 100000 in
theorem cw_250 : Cond.code ⟨"SoundAdviceModel", "mends", "()I"⟩ prog_14_method_92_code 4 (some .int) ∈ lw_tbl := amIn7 (List.mem_of_getElem? (i := 77) rfl)
set_option maxRecDepth 100000 in
theorem cw_251 : Cond.code ⟨"SoundAdviceModel", "pays", "(III)I"⟩ prog_14_method_97_code 6 (some .int) ∈ lw_tbl := amIn7 (List.mem_of_getElem? (i := 81) rfl)
set_option maxRecDepth 100000 in
theorem cw_252 : Cond.code ⟨"SoundAdviceModel", "refusesPay", "(III)I"⟩ prog_14_method_96_code 4 (some .int) ∈ lw_tbl := amIn7 (List.mem_of_getElem? (i := 85) rfl)
set_option maxRecDepth 100000 in
theorem cw_253 : Cond.code ⟨"SoundAdviceModel", "scales", "(III)I"⟩ prog_14_method_99_code 8 (some .int) ∈ lw_tbl := amIn7 (List.mem_of_getElem? (i := 89) rfl)
set_option maxRecDepth 100000 in
theorem cw_254 : Cond.code ⟨"SoundAdviceModel", "fits", "(J)Z"⟩ prog_14_method_98_code 2 (some .boolean) ∈ lw_tbl := amIn7 (List.mem_of_getElem? (i := 92) rfl)
set_option maxRecDepth 100000 in
theorem cw_255 : Cond.code ⟨"SoundAdviceModel", "moves", "(II)I"⟩ prog_14_method_102_code 4 (some .int) ∈ lw_tbl := amIn7 (List.mem_of_getElem? (i := 100) rfl)
set_option maxRecDepth 100000 in
theorem cw_256 : Cond.code ⟨"SoundAdviceModel", "refusesMove", "(II)I"⟩ prog_14_method_100_code 3 (some .int) ∈ lw_tbl := amIn7 (List.mem_of_getElem? (i := 104) rfl)
set_option maxRecDepth 100000 in
theorem cw_257 : Cond.code ⟨"SoundAdviceModel", "goMove", "(II)V"⟩ prog_14_method_101_code 3 none ∈ lw_tbl := amIn7 (List.mem_of_getElem? (i := 108) rfl)
set_option maxRecDepth 100000 in
theorem cw_258 : Cond.code ⟨"SoundAdviceModel", "lays", "(II)I"⟩ prog_14_method_104_code 4 (some .int) ∈ lw_tbl := amIn7 (List.mem_of_getElem? (i := 112) rfl)
set_option maxRecDepth 100000 in
theorem cw_259 : Cond.code ⟨"SoundAdviceModel", "refusesLay", "(II)I"⟩ prog_14_method_103_code 3 (some .int) ∈ lw_tbl := amIn7 (List.mem_of_getElem? (i := 116) rfl)
set_option maxRecDepth 100000 in
theorem cw_260 : Cond.code ⟨"SoundAdviceModel", "takes", "(II)I"⟩ prog_14_method_107_code 4 (some .int) ∈ lw_tbl := amIn7 (List.mem_of_getElem? (i := 121) rfl)
set_option maxRecDepth 100000 in
theorem cw_261 : Cond.code ⟨"SoundAdviceModel", "refusesTake", "(II)I"⟩ prog_14_method_105_code 4 (some .int) ∈ lw_tbl := amIn7 (List.mem_of_getElem? (i := 125) rfl)
set_option maxRecDepth 100000 in
theorem cw_262 : Cond.code ⟨"SoundAdviceModel", "goTake", "(I)I"⟩ prog_14_method_106_code 3 (some .int) ∈ lw_tbl := amIn7 (List.mem_of_getElem? (i := 129) rfl)
set_option maxRecDepth 100000 in
theorem cw_263 : Cond.code ⟨"SoundAdviceModel", "day", "()I"⟩ prog_14_method_110_code 3 (some .int) ∈ lw_tbl := amIn7 (List.mem_of_getElem? (i := 133) rfl)
set_option maxRecDepth 100000 in
theorem cw_264 : Cond.code ⟨"SoundAdviceModel", "readAct", "(I)V"⟩ prog_14_method_108_code 5 none ∈ lw_tbl := amIn7 (List.mem_of_getElem? (i := 137) rfl)
set_option maxRecDepth 100000 in
theorem cw_265 : Cond.code ⟨"SoundAdviceModel", "act", "(I)Z"⟩ prog_14_method_109_code 5 (some .boolean) ∈ lw_tbl := amIn7 (List.mem_of_getElem? (i := 141) rfl)
set_option maxRecDepth 100000 in
theorem cw_266 : Cond.code ⟨"SoundAdviceModel", "undo", "()I"⟩ prog_14_method_111_code 2 (some .int) ∈ lw_tbl := amIn7 (List.mem_of_getElem? (i := 145) rfl)
set_option maxRecDepth 100000 in
theorem cw_267 : Cond.code ⟨"SoundAdviceModel", "years", "(II)I"⟩ prog_14_method_112_code 6 (some .int) ∈ lw_tbl := amIn7 (List.mem_of_getElem? (i := 149) rfl)
set_option maxRecDepth 100000 in
theorem cw_268 : Cond.code ⟨"SoundAdviceModel", "keep", "(I)Z"⟩ prog_14_method_113_code 3 (some .boolean) ∈ lw_tbl := amIn7 (List.mem_of_getElem? (i := 153) rfl)
set_option maxRecDepth 100000 in
theorem cw_269 : Cond.code ⟨"SoundAdviceModel", "again", "(I)Z"⟩ prog_14_method_114_code 3 (some .boolean) ∈ lw_tbl := amIn7 (List.mem_of_getElem? (i := 157) rfl)
set_option maxRecDepth 100000 in
theorem cw_270 : Cond.code ⟨"SoundAdviceModel", "count", "(I)I"⟩ prog_14_method_116_code 2 (some .int) ∈ lw_tbl := amIn7 (List.mem_of_getElem? (i := 161) rfl)
set_option maxRecDepth 100000 in
theorem cw_271 : Cond.code ⟨"SoundAdviceModel", "tokenBits", "()I"⟩ prog_14_method_115_code 3 (some .int) ∈ lw_tbl := amIn7 (List.mem_of_getElem? (i := 165) rfl)
set_option maxRecDepth 100000 in
theorem cw_272 : Cond.code ⟨"SoundAdviceModel", "row", "(I)J"⟩ prog_14_method_117_code 2 (some .long) ∈ lw_tbl := amIn7 (List.mem_of_getElem? (i := 169) rfl)
theorem amCwL0 : ∀ q ∈ amMi0, amCode q ∈ lw_tbl := List.forall_mem_cons.mpr ⟨cw_0, List.forall_mem_cons.mpr ⟨cw_1, List.forall_mem_cons.mpr ⟨cw_2, List.forall_mem_cons.mpr ⟨cw_3, List.forall_mem_cons.mpr ⟨cw_4, List.forall_mem_cons.mpr ⟨cw_5, List.forall_mem_cons.mpr ⟨cw_6, List.forall_mem_cons.mpr ⟨cw_7, List.forall_mem_cons.mpr ⟨cw_8, List.forall_mem_cons.mpr ⟨cw_9, List.forall_mem_cons.mpr ⟨cw_10, List.forall_mem_cons.mpr ⟨cw_11, List.forall_mem_cons.mpr ⟨cw_12, List.forall_mem_cons.mpr ⟨cw_13, List.forall_mem_cons.mpr ⟨cw_14, List.forall_mem_cons.mpr ⟨cw_15, List.forall_mem_cons.mpr ⟨cw_16, List.forall_mem_cons.mpr ⟨cw_17, List.forall_mem_cons.mpr ⟨cw_18, List.forall_mem_cons.mpr ⟨cw_19, List.forall_mem_cons.mpr ⟨cw_20, List.forall_mem_cons.mpr ⟨cw_21, List.forall_mem_cons.mpr ⟨cw_22, List.forall_mem_cons.mpr ⟨cw_23, List.forall_mem_cons.mpr ⟨cw_24, List.forall_mem_cons.mpr ⟨cw_25, List.forall_mem_cons.mpr ⟨cw_26, List.forall_mem_cons.mpr ⟨cw_27, List.forall_mem_cons.mpr ⟨cw_28, List.forall_mem_cons.mpr ⟨cw_29, List.forall_mem_cons.mpr ⟨cw_30, List.forall_mem_cons.mpr ⟨cw_31, List.forall_mem_cons.mpr ⟨cw_32, List.forall_mem_cons.mpr ⟨cw_33, List.forall_mem_cons.mpr ⟨cw_34, List.forall_mem_cons.mpr ⟨cw_35, List.forall_mem_cons.mpr ⟨cw_36, List.forall_mem_cons.mpr ⟨cw_37, List.forall_mem_cons.mpr ⟨cw_38, List.forall_mem_cons.mpr ⟨cw_39, List.forall_mem_cons.mpr ⟨cw_40, List.forall_mem_cons.mpr ⟨cw_41, List.forall_mem_cons.mpr ⟨cw_42, List.forall_mem_cons.mpr ⟨cw_43, List.forall_mem_cons.mpr ⟨cw_44, List.forall_mem_cons.mpr ⟨cw_45, List.forall_mem_cons.mpr ⟨cw_46, List.forall_mem_cons.mpr ⟨cw_47, List.forall_mem_cons.mpr ⟨cw_48, List.forall_mem_cons.mpr ⟨cw_49, List.forall_mem_cons.mpr ⟨cw_50, List.forall_mem_cons.mpr ⟨cw_51, List.forall_mem_cons.mpr ⟨cw_52, List.forall_mem_cons.mpr ⟨cw_53, List.forall_mem_cons.mpr ⟨cw_54, List.forall_mem_cons.mpr ⟨cw_55, List.forall_mem_cons.mpr ⟨cw_56, List.forall_mem_cons.mpr ⟨cw_57, List.forall_mem_cons.mpr ⟨cw_58, List.forall_mem_cons.mpr ⟨cw_59, List.forall_mem_cons.mpr ⟨cw_60, List.forall_mem_cons.mpr ⟨cw_61, List.forall_mem_cons.mpr ⟨cw_62, List.forall_mem_cons.mpr ⟨cw_63, List.forall_mem_cons.mpr ⟨cw_64, List.forall_mem_cons.mpr ⟨cw_65, List.forall_mem_cons.mpr ⟨cw_66, List.forall_mem_cons.mpr ⟨cw_67, List.forall_mem_cons.mpr ⟨cw_68, List.forall_mem_cons.mpr ⟨cw_69, fun _ h => absurd h List.not_mem_nil⟩⟩⟩⟩⟩⟩⟩⟩⟩⟩⟩⟩⟩⟩⟩⟩⟩⟩⟩⟩⟩⟩⟩⟩⟩⟩⟩⟩⟩⟩⟩⟩⟩⟩⟩⟩⟩⟩⟩⟩⟩⟩⟩⟩⟩⟩⟩⟩⟩⟩⟩⟩⟩⟩⟩⟩⟩⟩⟩⟩⟩⟩⟩⟩⟩⟩⟩⟩⟩⟩
theorem amCwL1 : ∀ q ∈ amMi1, amCode q ∈ lw_tbl := List.forall_mem_cons.mpr ⟨cw_70, List.forall_mem_cons.mpr ⟨cw_71, List.forall_mem_cons.mpr ⟨cw_72, List.forall_mem_cons.mpr ⟨cw_73, List.forall_mem_cons.mpr ⟨cw_74, List.forall_mem_cons.mpr ⟨cw_75, List.forall_mem_cons.mpr ⟨cw_76, List.forall_mem_cons.mpr ⟨cw_77, List.forall_mem_cons.mpr ⟨cw_78, List.forall_mem_cons.mpr ⟨cw_79, List.forall_mem_cons.mpr ⟨cw_80, List.forall_mem_cons.mpr ⟨cw_81, List.forall_mem_cons.mpr ⟨cw_82, List.forall_mem_cons.mpr ⟨cw_83, List.forall_mem_cons.mpr ⟨cw_84, List.forall_mem_cons.mpr ⟨cw_85, List.forall_mem_cons.mpr ⟨cw_86, List.forall_mem_cons.mpr ⟨cw_87, List.forall_mem_cons.mpr ⟨cw_88, List.forall_mem_cons.mpr ⟨cw_89, List.forall_mem_cons.mpr ⟨cw_90, List.forall_mem_cons.mpr ⟨cw_91, List.forall_mem_cons.mpr ⟨cw_92, List.forall_mem_cons.mpr ⟨cw_93, List.forall_mem_cons.mpr ⟨cw_94, List.forall_mem_cons.mpr ⟨cw_95, List.forall_mem_cons.mpr ⟨cw_96, List.forall_mem_cons.mpr ⟨cw_97, List.forall_mem_cons.mpr ⟨cw_98, List.forall_mem_cons.mpr ⟨cw_99, List.forall_mem_cons.mpr ⟨cw_100, List.forall_mem_cons.mpr ⟨cw_101, List.forall_mem_cons.mpr ⟨cw_102, List.forall_mem_cons.mpr ⟨cw_103, List.forall_mem_cons.mpr ⟨cw_104, List.forall_mem_cons.mpr ⟨cw_105, List.forall_mem_cons.mpr ⟨cw_106, List.forall_mem_cons.mpr ⟨cw_107, List.forall_mem_cons.mpr ⟨cw_108, List.forall_mem_cons.mpr ⟨cw_109, List.forall_mem_cons.mpr ⟨cw_110, List.forall_mem_cons.mpr ⟨cw_111, List.forall_mem_cons.mpr ⟨cw_112, List.forall_mem_cons.mpr ⟨cw_113, List.forall_mem_cons.mpr ⟨cw_114, List.forall_mem_cons.mpr ⟨cw_115, List.forall_mem_cons.mpr ⟨cw_116, List.forall_mem_cons.mpr ⟨cw_117, List.forall_mem_cons.mpr ⟨cw_118, List.forall_mem_cons.mpr ⟨cw_119, List.forall_mem_cons.mpr ⟨cw_120, List.forall_mem_cons.mpr ⟨cw_121, List.forall_mem_cons.mpr ⟨cw_122, List.forall_mem_cons.mpr ⟨cw_123, List.forall_mem_cons.mpr ⟨cw_124, List.forall_mem_cons.mpr ⟨cw_125, List.forall_mem_cons.mpr ⟨cw_126, List.forall_mem_cons.mpr ⟨cw_127, List.forall_mem_cons.mpr ⟨cw_128, List.forall_mem_cons.mpr ⟨cw_129, List.forall_mem_cons.mpr ⟨cw_130, List.forall_mem_cons.mpr ⟨cw_131, List.forall_mem_cons.mpr ⟨cw_132, List.forall_mem_cons.mpr ⟨cw_133, List.forall_mem_cons.mpr ⟨cw_134, List.forall_mem_cons.mpr ⟨cw_135, List.forall_mem_cons.mpr ⟨cw_136, List.forall_mem_cons.mpr ⟨cw_137, List.forall_mem_cons.mpr ⟨cw_138, List.forall_mem_cons.mpr ⟨cw_139, fun _ h => absurd h List.not_mem_nil⟩⟩⟩⟩⟩⟩⟩⟩⟩⟩⟩⟩⟩⟩⟩⟩⟩⟩⟩⟩⟩⟩⟩⟩⟩⟩⟩⟩⟩⟩⟩⟩⟩⟩⟩⟩⟩⟩⟩⟩⟩⟩⟩⟩⟩⟩⟩⟩⟩⟩⟩⟩⟩⟩⟩⟩⟩⟩⟩⟩⟩⟩⟩⟩⟩⟩⟩⟩⟩⟩
theorem amCwL2 : ∀ q ∈ amMi2, amCode q ∈ lw_tbl := List.forall_mem_cons.mpr ⟨cw_140, List.forall_mem_cons.mpr ⟨cw_141, List.forall_mem_cons.mpr ⟨cw_142, List.forall_mem_cons.mpr ⟨cw_143, List.forall_mem_cons.mpr ⟨cw_144, List.forall_mem_cons.mpr ⟨cw_145, List.forall_mem_cons.mpr ⟨cw_146, List.forall_mem_cons.mpr ⟨cw_147, List.forall_mem_cons.mpr ⟨cw_148, List.forall_mem_cons.mpr ⟨cw_149, List.forall_mem_cons.mpr ⟨cw_150, List.forall_mem_cons.mpr ⟨cw_151, List.forall_mem_cons.mpr ⟨cw_152, List.forall_mem_cons.mpr ⟨cw_153, List.forall_mem_cons.mpr ⟨cw_154, List.forall_mem_cons.mpr ⟨cw_155, List.forall_mem_cons.mpr ⟨cw_156, List.forall_mem_cons.mpr ⟨cw_157, List.forall_mem_cons.mpr ⟨cw_158, List.forall_mem_cons.mpr ⟨cw_159, List.forall_mem_cons.mpr ⟨cw_160, List.forall_mem_cons.mpr ⟨cw_161, List.forall_mem_cons.mpr ⟨cw_162, List.forall_mem_cons.mpr ⟨cw_163, List.forall_mem_cons.mpr ⟨cw_164, List.forall_mem_cons.mpr ⟨cw_165, List.forall_mem_cons.mpr ⟨cw_166, List.forall_mem_cons.mpr ⟨cw_167, List.forall_mem_cons.mpr ⟨cw_168, List.forall_mem_cons.mpr ⟨cw_169, List.forall_mem_cons.mpr ⟨cw_170, List.forall_mem_cons.mpr ⟨cw_171, List.forall_mem_cons.mpr ⟨cw_172, List.forall_mem_cons.mpr ⟨cw_173, List.forall_mem_cons.mpr ⟨cw_174, List.forall_mem_cons.mpr ⟨cw_175, List.forall_mem_cons.mpr ⟨cw_176, List.forall_mem_cons.mpr ⟨cw_177, List.forall_mem_cons.mpr ⟨cw_178, List.forall_mem_cons.mpr ⟨cw_179, List.forall_mem_cons.mpr ⟨cw_180, List.forall_mem_cons.mpr ⟨cw_181, List.forall_mem_cons.mpr ⟨cw_182, List.forall_mem_cons.mpr ⟨cw_183, List.forall_mem_cons.mpr ⟨cw_184, List.forall_mem_cons.mpr ⟨cw_185, List.forall_mem_cons.mpr ⟨cw_186, List.forall_mem_cons.mpr ⟨cw_187, List.forall_mem_cons.mpr ⟨cw_188, List.forall_mem_cons.mpr ⟨cw_189, List.forall_mem_cons.mpr ⟨cw_190, List.forall_mem_cons.mpr ⟨cw_191, List.forall_mem_cons.mpr ⟨cw_192, List.forall_mem_cons.mpr ⟨cw_193, List.forall_mem_cons.mpr ⟨cw_194, List.forall_mem_cons.mpr ⟨cw_195, List.forall_mem_cons.mpr ⟨cw_196, List.forall_mem_cons.mpr ⟨cw_197, List.forall_mem_cons.mpr ⟨cw_198, List.forall_mem_cons.mpr ⟨cw_199, List.forall_mem_cons.mpr ⟨cw_200, List.forall_mem_cons.mpr ⟨cw_201, List.forall_mem_cons.mpr ⟨cw_202, List.forall_mem_cons.mpr ⟨cw_203, List.forall_mem_cons.mpr ⟨cw_204, List.forall_mem_cons.mpr ⟨cw_205, List.forall_mem_cons.mpr ⟨cw_206, List.forall_mem_cons.mpr ⟨cw_207, List.forall_mem_cons.mpr ⟨cw_208, List.forall_mem_cons.mpr ⟨cw_209, fun _ h => absurd h List.not_mem_nil⟩⟩⟩⟩⟩⟩⟩⟩⟩⟩⟩⟩⟩⟩⟩⟩⟩⟩⟩⟩⟩⟩⟩⟩⟩⟩⟩⟩⟩⟩⟩⟩⟩⟩⟩⟩⟩⟩⟩⟩⟩⟩⟩⟩⟩⟩⟩⟩⟩⟩⟩⟩⟩⟩⟩⟩⟩⟩⟩⟩⟩⟩⟩⟩⟩⟩⟩⟩⟩⟩
theorem amCwL3 : ∀ q ∈ amMi3.take 63, amCode q ∈ lw_tbl := List.forall_mem_cons.mpr ⟨cw_210, List.forall_mem_cons.mpr ⟨cw_211, List.forall_mem_cons.mpr ⟨cw_212, List.forall_mem_cons.mpr ⟨cw_213, List.forall_mem_cons.mpr ⟨cw_214, List.forall_mem_cons.mpr ⟨cw_215, List.forall_mem_cons.mpr ⟨cw_216, List.forall_mem_cons.mpr ⟨cw_217, List.forall_mem_cons.mpr ⟨cw_218, List.forall_mem_cons.mpr ⟨cw_219, List.forall_mem_cons.mpr ⟨cw_220, List.forall_mem_cons.mpr ⟨cw_221, List.forall_mem_cons.mpr ⟨cw_222, List.forall_mem_cons.mpr ⟨cw_223, List.forall_mem_cons.mpr ⟨cw_224, List.forall_mem_cons.mpr ⟨cw_225, List.forall_mem_cons.mpr ⟨cw_226, List.forall_mem_cons.mpr ⟨cw_227, List.forall_mem_cons.mpr ⟨cw_228, List.forall_mem_cons.mpr ⟨cw_229, List.forall_mem_cons.mpr ⟨cw_230, List.forall_mem_cons.mpr ⟨cw_231, List.forall_mem_cons.mpr ⟨cw_232, List.forall_mem_cons.mpr ⟨cw_233, List.forall_mem_cons.mpr ⟨cw_234, List.forall_mem_cons.mpr ⟨cw_235, List.forall_mem_cons.mpr ⟨cw_236, List.forall_mem_cons.mpr ⟨cw_237, List.forall_mem_cons.mpr ⟨cw_238, List.forall_mem_cons.mpr ⟨cw_239, List.forall_mem_cons.mpr ⟨cw_240, List.forall_mem_cons.mpr ⟨cw_241, List.forall_mem_cons.mpr ⟨cw_242, List.forall_mem_cons.mpr ⟨cw_243, List.forall_mem_cons.mpr ⟨cw_244, List.forall_mem_cons.mpr ⟨cw_245, List.forall_mem_cons.mpr ⟨cw_246, List.forall_mem_cons.mpr ⟨cw_247, List.forall_mem_cons.mpr ⟨cw_248, List.forall_mem_cons.mpr ⟨cw_249, List.forall_mem_cons.mpr ⟨cw_250, List.forall_mem_cons.mpr ⟨cw_251, List.forall_mem_cons.mpr ⟨cw_252, List.forall_mem_cons.mpr ⟨cw_253, List.forall_mem_cons.mpr ⟨cw_254, List.forall_mem_cons.mpr ⟨cw_255, List.forall_mem_cons.mpr ⟨cw_256, List.forall_mem_cons.mpr ⟨cw_257, List.forall_mem_cons.mpr ⟨cw_258, List.forall_mem_cons.mpr ⟨cw_259, List.forall_mem_cons.mpr ⟨cw_260, List.forall_mem_cons.mpr ⟨cw_261, List.forall_mem_cons.mpr ⟨cw_262, List.forall_mem_cons.mpr ⟨cw_263, List.forall_mem_cons.mpr ⟨cw_264, List.forall_mem_cons.mpr ⟨cw_265, List.forall_mem_cons.mpr ⟨cw_266, List.forall_mem_cons.mpr ⟨cw_267, List.forall_mem_cons.mpr ⟨cw_268, List.forall_mem_cons.mpr ⟨cw_269, List.forall_mem_cons.mpr ⟨cw_270, List.forall_mem_cons.mpr ⟨cw_271, List.forall_mem_cons.mpr ⟨cw_272, fun _ h => absurd h List.not_mem_nil⟩⟩⟩⟩⟩⟩⟩⟩⟩⟩⟩⟩⟩⟩⟩⟩⟩⟩⟩⟩⟩⟩⟩⟩⟩⟩⟩⟩⟩⟩⟩⟩⟩⟩⟩⟩⟩⟩⟩⟩⟩⟩⟩⟩⟩⟩⟩⟩⟩⟩⟩⟩⟩⟩⟩⟩⟩⟩⟩⟩⟩⟩⟩
set_option maxRecDepth 1000000 in
theorem amTake : amMi.take 273 = amMi0 ++ (amMi1 ++ (amMi2 ++ amMi3.take 63)) := rfl
theorem amCw {y : Nat} {q : amInf} (h : amMi[y]? = some q) (hy : y < 273) : amCode q ∈ lw_tbl := by
  have h1 : (amMi.take 273)[y]? = some q := by rw [List.getElem?_take_of_lt hy]; exact h
  have h2 := List.mem_of_getElem? h1
  rw [amTake] at h2
  rcases List.mem_append.mp h2 with h2 | h2
  · exact amCwL0 q h2
  · rcases List.mem_append.mp h2 with h2 | h2
    · exact amCwL1 q h2
    · rcases List.mem_append.mp h2 with h2 | h2
      · exact amCwL2 q h2
      · exact amCwL3 q h2
