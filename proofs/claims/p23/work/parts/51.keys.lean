def E9 (M : ZS) : Prop := ∀ x : Int, 0 ≤ M 2 x ∧ M 2 x ≤ 9
/-- the rows of the reference that are not its scratch are within their bounds -/
def MB (M : ZS) : Prop := ∀ (k : Fin 19) (j : Int), mLo k.val ≤ M k.val j ∧ M k.val j ≤ mHi k.val
theorem MB.of {M : ZS} (h : MI M) : MB M := fun k j => h k.val j
theorem SM.le {T M : ZS} (e : SM M T) : ∀ q : Nat, q ≤ 18 → T q = M q := fun q hq => e q (by
  unfold scm
  rw [decide_eq_false (show ¬ 19 ≤ q by omega)]; rfl)
theorem E9.of {M : ZS} (h : MB M) : E9 M := fun x => h 2 x
/-! a row that is filled from its front: its number stands in c -/
/-! the keys of the orbits, in the order of courses, then along the arcs -/
