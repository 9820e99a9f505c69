/-! the reference: as programs over its numbers (field k is row k) -/
def mvM (b c t : Int) : Int := b * t + c * (t * (t - 1) / 2)
/-- the reference's scratch -/
def scm (k : Nat) : Bool := (19 ≤ k && k ≤ 30)
def SM (S T : ZS) : Prop := ∀ k : Nat, scm k = false → T k = S k
theorem SM.rf {S : ZS} : SM S S := fun _ _ => rfl
