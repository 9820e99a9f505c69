theorem in_X8_thrown_8 : ∀ w ∈ wsX80, w ∈ wsX8_thrown := by decide +kernel
theorem lk_X8_thrown_80 : Cond.fieldLink RX8 80 "PlanetoidDeskModel" "thrown" "I" ∈ wsX8_thrown := by decide +kernel
abbrev rmct_X8_thrown : Room := { frames := 0, cells := 0, slots := 0, locals := 0 }
set_option maxHeartbeats 4000000 in
set_option maxRecDepth 100000 in
theorem ct_X8_thrown (l : Launch) (D : va_G) (cI cZ cJ : ClassId) (bd : Nat → Nat) (S : ZS) (hI : MI S)   : Met l yX8_thrown wsX8_thrown rmct_X8_thrown (zP D cI cZ cJ (mW cI cZ bd S) [.ref (bd 0)]) (k2_QcV (.int (zi (S 31 0)))) 0 0 (fun _ => False) := by
  refine Met.ofW (cc := cX8_thrown) (maxL := 1) (ret := (some .int)) (by decide) rfl ?_
  intro p e s m args below meth c s₁ B hml hv
  obtain ⟨rfl, hP, hK⟩ := hv
  have hx := B.exec
  have hb := B.bytes
  have hr := B.returns
  have hts := atoms_spec (ws := wsX8_thrown) B.pre
  have hown : s.vm.findClass RX8 = some m.cls := findClass_of_methodNamed B.named
  have hlocks := B.notSynchronized
  have hl := lv_entry ([.ref (bd 0)]) (n := 1) (Nat.le_of_ble_eq_true rfl)
  rw [lg_entry_eq]
  generalize (lg_sl ([.ref (bd 0)]) ++ List.replicate (1 - (lg_sl ([.ref (bd 0)])).length) Slot.unset).toArray = ls at hl ⊢
  have hl : lv_has ls 1 [(0, .ref (bd 0))] := hl
  show W p l e rmct_X8_thrown s m ([.ref (bd 0)] : List Value).toArray below meth c s.heap [] 0 0 (MQ below (k2_QcV (.int (zi (S 31 0)))) ([.ref (bd 0)] : List Value).toArray s 0 0 (fun _ => False)) (F0 m 0 ls [])
  refine lv_aload_n hx hb dX8_thrown_0 rfl (lv_at hl 0 rfl) ?_
  refine va_get (D := D) (ci := 8) (v := .int (zi (S 31 0))) (C := RX8) (T := TX8) (N := 32) hx hb hts in_X8_thrown_8 hown hK.1 hP 0 rfl rfl 31 (by decide) (hts _ lk_X8_thrown_80) (fun _ h9 => h9) rfl dX8_thrown_1 ?_
  have f_1 : (0 : Int) ≤ S 31 0 ∧ S 31 0 ≤ 3 := hI 31 0
  exact zr_i hx hb hr hlocks dX8_thrown_4 (by rfl)

