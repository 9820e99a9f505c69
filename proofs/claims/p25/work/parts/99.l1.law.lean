/-! the law: three desks -/
theorem dT_0 : decode code 0 = .ok (.aload_n 0, 1) := by decide +kernel
theorem dT_1 : decode code 1 = .ok (.iconst 0, 1) := by decide +kernel
theorem dT_2 : decode code 2 = .ok (.invokestatic 177, 3) := by decide +kernel
theorem dT_5 : decode code 5 = .ok (.ifCond .eq 27, 3) := by decide +kernel
theorem dT_8 : decode code 8 = .ok (.aload_n 0, 1) := by decide +kernel
theorem dT_9 : decode code 9 = .ok (.sipush 145, 3) := by decide +kernel
theorem dT_12 : decode code 12 = .ok (.invokestatic 177, 3) := by decide +kernel
theorem dT_15 : decode code 15 = .ok (.ifCond .eq 17, 3) := by decide +kernel
theorem dT_18 : decode code 18 = .ok (.aload_n 0, 1) := by decide +kernel
theorem dT_19 : decode code 19 = .ok (.sipush 290, 3) := by decide +kernel
theorem dT_22 : decode code 22 = .ok (.invokestatic 177, 3) := by decide +kernel
theorem dT_25 : decode code 25 = .ok (.ifCond .eq 7, 3) := by decide +kernel
theorem dT_28 : decode code 28 = .ok (.iconst 1, 1) := by decide +kernel
theorem dT_29 : decode code 29 = .ok (.goto 4, 3) := by decide +kernel
theorem dT_33 : decode code 33 = .ok (.ireturn, 1) := by decide +kernel
theorem arr_of {s : State} {args : Array Value} {ty : FieldType} (h : (Cond.arrayClass ty).before args s = true) (hR : ∀ cA, s.vm.findClass ("[" ++ ty.toString) = some cA → va_RA s cA ty) : ∃ cA, ArrOfT s cA ty ∧ va_RA s cA ty := by
  obtain ⟨cA, kA, comp, h1, h2, h3⟩ := Cond.arrayClass_spec h
  exact ⟨cA, fun n z => ⟨fun k h => (by cases h), kA, h2, comp, h3⟩, hR cA h1⟩
/-- what the machine says of the classes, at the law's entry -/
theorem law_KK {s : State} {args : Array Value} (hts : ∀ w ∈ lw_tbl, w.before args s = true) : ∃ (D : va_G) (cI cZ cJ : ClassId), KK D cI cZ cJ s := by
  obtain ⟨c0, i0, k0⟩ := u_known (C := RX0) (T := TX0) (N := 8) (n := 8) hts tw_X0 (hts _ lt_ins0)
  obtain ⟨c1, i1, k1⟩ := u_known (C := RX1) (T := TX1) (N := 1) (n := 1) hts tw_X1 (hts _ lt_ins1)
  obtain ⟨c2, i2, k2⟩ := u_known (C := RX2) (T := TX2) (N := 2) (n := 2) hts tw_X2 (hts _ lt_ins2)
  obtain ⟨c3, i3, k3⟩ := u_known (C := RX3) (T := TX3) (N := 3) (n := 3) hts tw_X3 (hts _ lt_ins3)
  obtain ⟨c4, i4, k4⟩ := u_known (C := RX4) (T := TX4) (N := 5) (n := 5) hts tw_X4 (hts _ lt_ins4)
  obtain ⟨c5, i5, k5⟩ := u_known (C := RX5) (T := TX5) (N := 1) (n := 1) hts tw_X5 (hts _ lt_ins5)
  obtain ⟨c6, i6, k6⟩ := u_known (C := RX6) (T := TX6) (N := 10) (n := 10) hts tw_X6 (hts _ lt_ins6)
  obtain ⟨c7, i7, k7⟩ := u_known (C := RX7) (T := TX7) (N := 6) (n := 6) hts tw_X7 (hts _ lt_ins7)
  obtain ⟨cI, a1, a2⟩ := arr_of (hts _ lt_arI) (fun cA h => h)
  refine ⟨(fun k => match k with | 0 => c0 | 1 => c1 | 2 => c2 | 3 => c3 | 4 => c4 | 5 => c5 | 6 => c6 | _ => c7, fun k => match k with | 0 => i0 | 1 => i1 | 2 => i2 | 3 => i3 | 4 => i4 | 5 => i5 | 6 => i6 | _ => i7), cI, cI, cI, ⟨fun k q hq => ?_, fun k q hq => ?_⟩, fun w hw => va_Nw.of (nWs_on w hw) (hts w (nWs_in w hw))⟩
  · match k, hq with
    | 0, hq => cases hq; exact k0
    | 1, hq => cases hq; exact k1
    | 2, hq => cases hq; exact k2
    | 3, hq => cases hq; exact k3
    | 4, hq => cases hq; exact k4
    | 5, hq => cases hq; exact k5
    | 6, hq => cases hq; exact k6
    | 7, hq => cases hq; exact k7
    | k + 8, hq => simp [vwCl] at hq
  · match k, hq with
    | 0, hq => cases hq; exact ⟨a1, a2⟩
    | k + 1, hq => simp [tyL] at hq
theorem str_ex {own tx : String} {k : Nat} {args : Array Value} {s : State} (h : (Cond.stringRef own k tx).before args s = true) : ∃ a, vk_R own k tx a s := by
  have h0 : (Cond.stringRef own k tx).before #[] s = true := by
    first
      | exact h
      | (simp only [Cond.before, Cond.holds, Cond.value, State.names, State.poolOf?, State.resolvedAt?] at h ⊢; exact h)
  have hcur : ∃ cur, s.vm.findClass own = some cur := by
    have h1 := h0
    simp only [Cond.before, Cond.holds, Cond.value] at h1
    cases hc : s.vm.findClass own with
    | none => simp [hc] at h1
    | some cur => exact ⟨cur, rfl⟩
  obtain ⟨cur, hcur⟩ := hcur
  obtain ⟨-, -, -, a, -, -, -, -, -, hev⟩ := Cond.stringRef_spec hcur h0
  exact ⟨a, h0, hev⟩
theorem xTx_in : ∀ q ∈ xTx, Cond.stringRef RX7 q.1 q.2 ∈ lw_tbl := by decide +kernel
theorem xB_src : ∀ w ∈ xB, w ∈ lw_tbl ∨ w ∈ flatC (Jvm.Cond.and given_1 narrow_1) := by decide +kernel
theorem lt_lU : Cond.laysStatic Bundle.tN "UNASSIGNED_STACK" Bundle.steD ∈ lw_tbl := by decide +kernel
theorem lt_lN : Cond.laysStatic Bundle.tN "SUPPRESSED_SENTINEL" Bundle.listD ∈ lw_tbl := by decide +kernel
theorem lt_iT : Cond.initialized Bundle.tN ∈ lw_tbl := by decide +kernel
theorem lt_c1 : Cond.castable xIOB xIOB ∈ lw_tbl := by decide +kernel
theorem lt_c2 : Cond.castable xISE xISE ∈ lw_tbl := by decide +kernel
theorem law_X {s : State} {args : Array Value} (hts : ∀ w ∈ lw_tbl, w.before args s = true) (hgv : (Jvm.Cond.and given_1 narrow_1).before args s = true) : (∃ sa : Nat → Nat, xP sa (fun q => s.heap.size ≤ q) s s.heap) ∧ xQ s := by
  have hfl := flat_of_before _ hgv
  have hA : ∀ a : Nat, a < s.heap.size → ¬ (fun q : Nat => s.heap.size ≤ q) a := fun a h => Nat.not_le.mpr h
  have hs : ∀ k : Nat, ∃ a : Nat, ∀ q : Nat × String, xTx[k]? = some q → vk_R RX7 q.1 q.2 a s := fun k => by
    cases e : xTx[k]? with
    | none => exact ⟨0, fun q h => absurd h (by simp)⟩
    | some q0 =>
      obtain ⟨a, ha⟩ := str_ex (hts _ (xTx_in q0 (List.mem_of_getElem? e)))
      exact ⟨a, fun q h => by cases h; exact ha⟩
  refine ⟨⟨fun k => (hs k).choose, vx_Zqof (hts _ lt_lU) (hts _ lt_iT) (hfl _ (by decide +kernel)) hA, vx_Zqof (hts _ lt_lN) (hts _ lt_iT) (hfl _ (by decide +kernel)) hA, fun k q hq => (hs k).choose_spec q hq, fun w hw => ?_⟩, ?_, ?_, ?_⟩
  · refine vx_ot_at (State.WarmedH.refl s) rfl (xB_ot w hw) (args := args) ?_
    rcases xB_src w hw with h | h
    · exact hts w h
    · exact hfl w h
  · exact va_tabs xQ_o1 rfl (hts _ lt_c1)
  · exact va_tabs xQ_o2 rfl (hts _ lt_c2)
  · exact va_Nc.of (hfl _ (by decide +kernel))
/-- a desk may be called -/
theorem pD_S {D : va_G} {cI cZ cJ : ClassId} {sa : Nat → Nat} {s : State} {H : Heap} {locs : List Loc} {b n : Nat} {xs : Nat → Int32} {As : List Value} (hX0 : va_X b n xs s s.heap) (hbl : b < s.heap.size) (hK : KK D cI cZ cJ s) (hX : xP sa (fun q => s.heap.size ≤ q) s s.heap) (hQ : xQ s) (hS : va_S (fun q => s.heap.size ≤ q) s.heap H locs) : PreS s H (va_Pc As (fun U => va_X b n xs U U.heap ∧ b < U.heap.size ∧ KK D cI cZ cJ U ∧ xP sa (fun q => U.heap.size ≤ q) U U.heap ∧ xQ U)) As :=
  ⟨fun a U g mk h => ⟨h.1, va_X.moved (u := U) (U := U.calling g mk a) (Vm.Alike.refl U.vm) h.2.1, h.2.2.1, KK.same (u := U) (U := U.calling g mk a) rfl h.2.2.2.1, xP.same (u := U) (U := U.calling g mk a) rfl h.2.2.2.2.1, xQ.same (u := U) (U := U.calling g mk a) rfl h.2.2.2.2.2⟩,
   fun U hU hW => ⟨rfl, by rw [hU]; exact (hX0.kept (hS.2.1 b hbl (Nat.not_le.mpr hbl))).moved hW.alike, by rw [hU]; exact Nat.lt_of_lt_of_le hbl hS.1, hK.warm hW, (hX.warm hW hS hU).narrow (fun q h => Nat.le_trans hS.1 (by rw [← hU]; exact h)), hQ.warm hW⟩⟩
