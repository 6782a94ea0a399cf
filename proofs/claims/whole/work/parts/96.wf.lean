/-! each call keeps WF -/
theorem fst1_lt {P : Nat → Bool} : ∀ {m n : Nat}, fst1 P m = some n → n < m := by
  intro m
  induction m with
  | zero => intro n h; cases h
  | succ m ih =>
    intro n h
    unfold fst1 at h
    split at h
    · rename_i p hp
      cases h
      have := ih hp
      omega
    · split at h
      · cases h
        omega
      · cases h
section WFS
variable {A : Sta}
theorem wf_o7 {i a b : Int32} (h : WF A) : WF (o7 A i a b).2 := by
  unfold o7
  split
  · exact wf_tel h
  · exact h
theorem wf_o8 (h : WF A) : WF (o8 A).2 := wf_tel h
theorem wf_o9 (h : WF A) : WF (o9 A).2 := wf_tel h
theorem wf_o10 {i : Int32} (h : WF A) : WF (o10 A i).2 := by
  unfold o10
  split
  · exact wf_tel h
  · exact h
theorem wf_o11 (h : WF A) : WF (o11 A).2 := wf_tel h
theorem wf_o12 {i : Int32} (h : WF A) : WF (o12 A i).2 := by
  unfold o12
  split
  · exact wf_tel h
  · exact h
theorem wf_o13 (h : WF A) : WF (o13 A).2 := by
  unfold o13
  split
  · exact wf_tel h
  · exact h
theorem wf_o14 (h : WF A) : WF (o14 A).2 := wf_tel h
theorem wf_o15 {i : Int32} (h : WF A) : WF (o15 A i).2 := by
  unfold o15
  split
  · exact wf_tel h
  · exact h
theorem wf_o16 (h : WF A) : WF (o16 A).2 := wf_tel h
theorem wf_o17 {n : Int32} (h : WF A) : WF (o17 A n).2 := by
  unfold o17
  split
  · exact wf_tel h
  · exact h
theorem wf_o18 {n w : Int32} (h : WF A) : WF (o18 A n w).2 := by
  unfold o18
  split
  · split
    · first | exact wf_tel h | exact h
    · first | exact wf_tel h | exact h
  · exact h
theorem wf_o19 {n k : Int32} (h : WF A) : WF (o19 A n k).2 := by
  unfold o19
  split
  · exact wf_tel h
  · exact h
theorem wf_o20 (h : WF A) : WF (o20 A).2 := by
  unfold o20
  split
  · exact h
  · exact h
theorem wf_o21 {n k : Int32} (h : WF A) : WF (o21 A n k).2 := by
  unfold o21
  split
  · exact wf_tel h
  · exact h
theorem wf_o22 (h : WF A) : WF (o22 A).2 := by
  unfold o22
  split
  · first | exact wf_tel h | exact h
  · first | exact wf_tel h | exact h
theorem wf_o23 {a b c d : Int32} (h : WF A) : WF (o23 A a b c d).2 := by
  unfold o23
  split
  · exact wf_tel h
  · exact h
theorem wf_o24 {a b c d : Int32} (h : WF A) : WF (o24 A a b c d).2 := by
  unfold o24
  split
  · exact h
  · exact h
theorem wf_o25 {i : Int32} (h : WF A) : WF (o25 A i).2 := by
  unfold o25
  split
  · split
    · first | exact wf_tel h | exact h
    · first
      | exact wf_tel h
      | exact h
      | (split
         · first | exact wf_tel h | exact h
         · first | exact wf_tel h | exact h)
  · exact h
theorem wf_o26 {i p v : Int32} (h : WF A) : WF (o26 A i p v).2 := by
  unfold o26
  split
  · exact wf_tel h
  · exact h
theorem wf_o27 {i p : Int32} (h : WF A) : WF (o27 A i p).2 := by
  unfold o27
  split
  · split
    · exact h
    · exact wf_tel h
  · exact h
theorem wf_o28 (h : WF A) : WF (o28 A).2 := by
  unfold o28
  split
  · exact h
  · split
    · first | exact wf_tel h | exact h
    · first | exact wf_tel h | exact h
theorem wf_o36 {a b : Int32} (h : WF A) : WF (o36 A a b).2 := by
  unfold o36
  split
  · exact wf_tel h
  · exact h
theorem wf_oPf {a b c : Int32} (h : WF A) : WF (oPf A a b c).2 := h
theorem wf_oCt {x : Int32} (h : WF A) : WF (oCt A x).2 := h
theorem wf_oSg {v : Int32} (h : WF A) : WF (oSg A v).2 := by
  unfold oSg
  split
  · refine wf_tx h (fun k => ?_)
    show (if k = _ then by8 v 0 else if k = _ then by8 v 8 else if k = _ then by8 v 16 else if k = _ then by8 v 24 else A.2.2.2.1.2 k) < 256
    split
    · exact by8_lt
    · split
      · exact by8_lt
      · split
        · exact by8_lt
        · split
          · exact by8_lt
          · exact h.2.2.2 k
  · exact h
theorem wf_oEn {n : Int32} (h : WF A) : WF (oEn A n).2 := by
  unfold oEn
  split
  · exact wf_tx h h.2.2.2
  · exact h
theorem wf_oPy {i p v : Int32} (h : WF A) : WF (opU A (cpF A.1 i p v)).2 := wf_op h (cpF_ok h.1).2
theorem wf_oMv {a b : Int32} (h : WF A) : WF (opU A (mvF A.1 a b)).2 := wf_op h (mvF_ok h.1).2
theorem wf_oLy {p n : Int32} (h : WF A) : WF (opU A (lyF A.1 p n)).2 := wf_op h (lyF_ok h.1).2
theorem wf_oTk {n w : Int32} (h : WF A) : WF (opU A (tkF A.1 n w)).2 := wf_op h (tkF_ok h.1).2
theorem wf_oDy (h : WF A) : WF (oDy A).2 := by
  unfold oDy
  split
  · exact wf_tx h h.2.2.2
  · refine wf_tel (wf_op (wf_tx h h.2.2.2) ?_)
    unfold dyY
    split
    · exact h.1
    · exact dyG_W h.1 _
theorem smf_z : ∀ n, smf (fun _ => 0) n = 0 := by
  intro n
  induction n with
  | zero => rfl
  | succ n ih =>
    show smf (fun _ => 0) n + 0 = 0
    rw [ih]
theorem wg_ad {G : Gm} {x : Nat × (Nat → Nat)} (hW : WG G) (h : ¬ adA x (prf G.1) < nI 0) : WG (G.1, G.2.1, adT x (prf G.1)) := by
  have l := (sh_ok _ hW.1).1
  have hall : ∀ q, q < prf G.1 → ¬ adX x q = true := by
    cases hf : fst1 (adX x) (prf G.1) with
    | none => exact fst1_o hf
    | some p =>
      exfalso
      refine h ?_
      unfold adA
      rw [hf]
      have := fst1_lt hf
      exact m1_neg (by omega)
  have hs : ∀ p, p ≤ prf G.1 → adN x p ≤ 6 := by
    intro p
    induction p with
    | zero => intro _; exact Nat.zero_le _
    | succ p ih =>
      intro hp
      exact (adX_n (hall p (by omega))).2.2.2
  have hsm : ∀ p, p ≤ prf G.1 → smf (fun q => if q < prf G.1 then x.2 q - 48 else 0) p = adN x p := by
    intro p
    induction p with
    | zero => intro _; rfl
    | succ p ih =>
      intro hp
      show smf (fun q => if q < prf G.1 then x.2 q - 48 else 0) p + (if p < prf G.1 then x.2 p - 48 else 0) = adN x p + (x.2 p - 48)
      rw [ih (by omega), if_pos (by omega)]
  refine WGt (f := fun q => if q < prf G.1 then x.2 q - 48 else 0) hW.1 hW.2.1 (by rw [hsm _ (Nat.le_refl _)]; exact hs _ (Nat.le_refl _)) (fun q hq => if_neg (by omega)) (fun p hp => ?_)
  unfold adT
  by_cases c : p < prf G.1
  · rw [if_pos c, if_pos c]
  · rw [if_neg c, if_neg c]
theorem wf_oAd (h : WF A) : WF (oAd A).2 := by
  refine wf_op (wf_tx h h.2.2.2) ?_
  unfold adF
  split
  · exact h.1
  · rename_i c
    exact wg_ad h.1 c
theorem gmA_nn {tx : Nat × (Nat → Nat)} {fr sh : Nat} (h5 : sh < 5) (hf : fr ≤ 4) (h : ¬ gmA tx fr sh < nI 0) : ∀ y, y < prf sh * plr sh → ltr tx (fr + y) := by
  obtain ⟨l1, l2, l3, l4⟩ := (sh_ok sh h5).1
  have h27 : prf sh * plr sh ≤ 27 := Nat.mul_le_mul l4 l2
  cases hx : fst1 (gmX tx fr) (prf sh * plr sh) with
  | none => exact fun y hy => Classical.byContradiction (fun z => fst1_o hx y hy (bo_iff.mpr z))
  | some p =>
    exfalso
    refine h ?_
    unfold gmA
    rw [hx]
    have := fst1_lt hx
    exact m1_neg (by omega)
theorem pv_b {v : Nat} (h1 : 97 ≤ v) (h2 : v ≤ 115) : -9 ≤ (nI v - nI 106).toInt ∧ (nI v - nI 106).toInt ≤ 9 := by
  rw [tS (by rw [nI_toInt (by omega), show (nI 106).toInt = 106 from rfl]; omega) (by rw [nI_toInt (by omega), show (nI 106).toInt = 106 from rfl]; omega), nI_toInt (by omega), show (nI 106).toInt = 106 from rfl]
  omega
theorem wg_gm {tx : Nat × (Nat → Nat)} {fr sh : Nat} (h5 : sh < 5) (h : ∀ y, y < prf sh * plr sh → ltr tx (fr + y)) : WG (sh, pyG tx fr (plr sh) (prf sh * plr sh), fun _ => nI 0) := by
  refine WGt (f := fun _ => 0) h5 (fun k hk => ?_) (by rw [smf_z]; omega) (fun _ _ => rfl) (fun _ _ => rfl)
  unfold pyG
  by_cases c : k / 9 < plr sh ∧ k % 9 * plr sh + k / 9 < prf sh * plr sh
  · rw [if_pos c]
    exact pv_b (h _ c.2).2.1 (h _ c.2).2.2
  · rw [if_neg c]
    decide
theorem wf_oGm (h : WF A) : WF (oGm A).2 := by
  refine wf_op (wf_tx h h.2.2.2) ?_
  have hb := h.2.2.2
  generalize A.2.2.2.1 = tx at *
  unfold gmF
  split
  · exact h.1
  · rename_i c
    show WG (rdG tx)
    unfold rdA at c
    unfold rdG
    by_cases c0 : chr tx 0 = nI 50 ∨ chr tx 0 = nI 51
    · rw [if_pos (bo_iff.mpr c0)] at c
      by_cases c1 : chr tx 1 = nI 50 ∨ chr tx 1 = nI 51
      · rw [if_pos (bo_iff.mpr c1)] at c
        by_cases c2 : bo (rd3 tx) = true
        · rw [if_pos c2] at c ⊢
          by_cases c3 : chr tx 3 = nI 44
          · rw [if_pos c3] at c
            exact wg_gm (sh := 4) (by decide) (gmA_nn (by decide) (by decide) c)
          · rw [if_neg c3] at c
            exact absurd (m1_neg (by decide)) c
        · rw [if_neg c2] at c ⊢
          by_cases c3 : chr tx 2 = nI 44
          · rw [if_pos c3] at c
            have h5 : rdS tx < 5 := (rdS_h (c0.elim (fun z => Or.inl (chr_of hb (by decide) z).2) (fun z => Or.inr (chr_of hb (by decide) z).2)) (c1.elim (fun z => Or.inl (chr_of hb (by decide) z).2) (fun z => Or.inr (chr_of hb (by decide) z).2))).1
            exact wg_gm h5 (gmA_nn h5 (by decide) c)
          · rw [if_neg c3] at c
            exact absurd (m1_neg (by decide)) c
      · rw [if_neg (fun z => c1 (bo_iff.mp z))] at c
        exact absurd (by decide) c
    · rw [if_neg (fun z => c0 (bo_iff.mp z))] at c
      exact absurd (by decide) c
theorem wg_sh {G : Gm} {i : Nat} {kk kind f step : Int32} (hW : WG G) : ∀ y, (∀ q, q < y → isP (enV kind (f + nI q * step))) → WG (G.1, (shS G.2.1 i kk kind f step y).2, G.2.2) := by
  intro y
  induction y with
  | zero => intro _; exact hW
  | succ y ih =>
    intro hq
    exact (ih (fun q z => hq q (by omega))).pyS (hq y (by omega))
theorem wf_oSh {i kk kind n f step : Int32} (h : WF A) : WF (oSh A i kk kind n f step).2 := by
  unfold oSh
  split
  · split
    · exact h
    · split
      · exact h
      · split
        · rename_i hf
          exact ⟨wg_sh h.1 _ (fun q hq => (shX_n (fst1_o hf q hq)).2.1), h.2.1, h.2.2.1, h.2.2.2⟩
        · exact wf_tel h
  · exact h
theorem wf_o30 {i b a : Int32} (h : WF A) : WF (o30 A i b a).2 := by
  unfold o30
  split
  · split
    · rename_i hf
      refine wf_chg h ⟨h.1.1, fun k hk => ?_, h.1.2.2⟩
      have h1 := h.1.2.1 k hk
      show -9 ≤ (if 9 * i.toNatClampNeg ≤ k ∧ k < 9 * i.toNatClampNeg + prf A.1.1 then b * A.1.2.1 k + a else A.1.2.1 k).toInt ∧ (if 9 * i.toNatClampNeg ≤ k ∧ k < 9 * i.toNatClampNeg + prf A.1.1 then b * A.1.2.1 k + a else A.1.2.1 k).toInt ≤ 9
      by_cases c : 9 * i.toNatClampNeg ≤ k ∧ k < 9 * i.toNatClampNeg + prf A.1.1
      · rw [if_pos c]
        have h2 := fst1_o hf (k - 9 * i.toNatClampNeg) (by omega)
        have h3 : sFl b (A.1.2.1 k) a = -nI 1 := by
          refine sFl_v.mpr (fun z => h2 (bo_iff.mpr ?_))
          rw [show 9 * i.toNatClampNeg + (k - 9 * i.toNatClampNeg) = k by omega]
          exact z
        unfold sFl at h3
        by_cases c1 : ovf b (A.1.2.1 k) a
        · rw [if_pos (bo_iff.mpr c1)] at h3
          exact absurd h3 (by decide)
        · rw [if_neg (fun z => c1 (bo_iff.mp z))] at h3
          by_cases c2 : -9 ≤ b.toInt * (A.1.2.1 k).toInt + a.toInt ∧ b.toInt * (A.1.2.1 k).toInt + a.toInt ≤ 9
          · rw [i_lin c1]
            exact c2
          · rw [if_neg (fun z => c2 (bo_iff.mp z))] at h3
            exact absurd h3 (by decide)
      · rw [if_neg c]
        exact h1
    · exact wf_tel h
  · exact h
end WFS
