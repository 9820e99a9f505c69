/-! each call: the same answer -/
theorem MB_U {U M' : ZS} (hm : SM U M') (hi : MI M') : MB U := (MB.of hi).sm (fun q hq => (SM.le hm q hq).symm)
theorem oOf_eq {S M : ZS} (hM : MB M) (h : Rel S M) {d : Int} (h0 : 0 ≤ d) (h1 : d < 60) : oOf S d = M 4 (M 7 d) := by
  have p0 : (0 : Int) ≤ M 7 d ∧ M 7 d ≤ 29 := hM 7 d
  unfold oOf; rw [pOf_at hM h h0 h1, rAt_in p0.1 (by omega), h.seat _ p0.1 (by omega)]
