theorem xB_w : ∀ w ∈ xB, w.warmB w.codeNames = true := by decide +kernel
theorem xB_o : ∀ w ∈ xB, w.onTables = true := by decide +kernel
theorem xP.warm {sa : Nat → Nat} {A : Nat → Prop} {s U : State} {H : Heap} {locs : List Loc} (hW : s.WarmedH U.vm) (hS : va_S A s.heap H locs) (hU : U.heap = H) (h : xP sa A s s.heap) : xP sa A U U.heap := by
  rw [hU]
  exact ⟨(h.1.kept hS.2.1).moved hW.alike, (h.2.1.kept hS.2.1).moved hW.alike, fun k q hk => vk_R.warm hW (h.2.2.1 k q hk), fun w hw => va_tabs (u := s.setVm U.vm) (xB_o w hw) rfl (Cond.pre_warmed hW (xB_w w hw) (h.2.2.2 w hw))⟩
section XPUB
variable {p : Program} {l : Launch} {e : Env} {R : Room} {s : State} {m : MethodId} {args : Array Value} {below : List Frame} {meth : Method} {c : Code} {H : Heap} {locs : List Loc} {cells slots : Nat} {cc : ByteArray} {pc : Nat} {ls : Array Slot} {rest st0 : List Value}
variable {D : va_G} {cI : ClassId} {ad : Nat → Nat} {B : va_W} {As : List Value} {y : MethodName} {ws Ts : List Cond} {rm : Room} {A : Addr → Prop} {bytes : ByteArray} {maxL nL n index : Nat} {ret : Option FieldType} {own : String} {P : Prop} {E0 : String} {sa : Nat → Nat} {mc ms : Nat}
end XPUB
