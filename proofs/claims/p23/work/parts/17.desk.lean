/-! the desk's own steps, as programs over the numbers -/
/-- the rows that no call's answer rests on: scratch -/
def scr (k : Nat) : Bool := (12 ≤ k && k ≤ 19) || (26 ≤ k && k ≤ 28)
/-- alike but for scratch -/
def SC (S T : ZS) : Prop := ∀ k : Nat, scr k = false → T k = S k
theorem SC.rf {S : ZS} : SC S S := fun _ _ => rfl
