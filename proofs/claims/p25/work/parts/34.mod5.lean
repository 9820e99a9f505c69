/-! the reference, fifth part: paths, chances -/
theorem ch_e {T : ZS} {w : Int} {m : Nat} {s : Int} : chR T w m (-1) s = s := by
  cases m with
  | zero => rfl
  | succ m => exact if_pos rfl
