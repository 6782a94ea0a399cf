/-! all is made -/
def amLawQ : amInf := (⟨"SoundAdviceLaw", "law", "([I)Z"⟩, code, 8, some .boolean, 13, 1)
def amF0 : amF := (0, [some (vR 99 0), none, none, none, none, none, none, none], [], ((fun _ _ _ => 0), (fun _ _ => 0), (0, 0, 0, 0)))
def amF1 : Option amF := amGoN (amEy 8 400) amLawQ 14 amF0
theorem amF1_g : (amF1.map (fun f => (f.1, f.2.1, f.2.2.1, f.2.2.2.2.2))) = some (23, [some (vR 99 0), some (vR 11 0), some (vR 12 0), some (vR 150 0), some (vI 0), none, none, none], [], (0, 149, 147, 0)) := by decide +kernel
