abbrev rmct_J9_floorMod_7cf53 : Room := { frames := 0, cells := 0, slots := 0, locals := 0 }
set_option maxHeartbeats 4000000 in
set_option maxRecDepth 100000 in
theorem ct_J9_floorMod_7cf53 (l : Launch) (D : va_G) (cI cZ cJ : ClassId) (x0 x1 : Int) (hx0 : ir x0) (hx1 : ir x1) (h1 : 0 < x1) : Met l yJ9_floorMod_7cf53 wsJ9_floorMod_7cf53 rmct_J9_floorMod_7cf53 (zP D cI cZ cJ [] [.int (zi x0), .int (zi x1)]) (k2_QcV (.int (zi (x0 % x1)))) 0 0 (fun _ => False) := by
  refine va_MetF (cc := cJ9_floorMod_7cf53) (maxL := 3) (ret := (some .int)) (by decide +kernel) rfl ?_
  intro p e s m args below meth c s₁ B hml hv
  obtain ⟨rfl, hP, hK⟩ := hv
  have hx := B.exec
  have hb := B.bytes
  have hr := B.returns
  have hts := atoms_spec (ws := wsJ9_floorMod_7cf53) B.pre
  have hown : s.vm.findClass RJ9 = some m.cls := findClass_of_methodNamed B.named
  have hlocks := B.notSynchronized
  have hl := lv_entry ([.int (zi x0), .int (zi x1)]) (n := 3) (Nat.le_of_ble_eq_true rfl)
  rw [lg_entry_eq]
  generalize (lg_sl ([.int (zi x0), .int (zi x1)]) ++ List.replicate (3 - (lg_sl ([.int (zi x0), .int (zi x1)])).length) Slot.unset).toArray = ls at hl ⊢
  have hl : lv_has ls 3 [(0, .int (zi x0)), (1, .int (zi x1))] := hl
  show W p l e rmct_J9_floorMod_7cf53 s m ([.int (zi x0), .int (zi x1)] : List Value).toArray below meth c s.heap [] 0 0 (MQ below (k2_QcV (.int (zi (x0 % x1)))) ([.int (zi x0), .int (zi x1)] : List Value).toArray s 0 0 (fun _ => False)) (F0 m 0 ls [])
  refine lv_iload_n hx hb dJ9_floorMod_7cf53_0 rfl (lv_at hl 0 rfl) ?_
  refine lv_iload_n hx hb dJ9_floorMod_7cf53_1 rfl (lv_at hl 1 rfl) ?_
  refine zi_iremT hx hb ⟨by omega, by omega⟩ ⟨by omega, by omega⟩ (by omega) dJ9_floorMod_7cf53_2 ?_
  refine zi_top (fun x2_3 ex2_3 => ?_)
  refine lv_istore_n (lv' := [(2, .int (zi x2_3)), (0, .int (zi x0)), (1, .int (zi x1))]) hx hb dJ9_floorMod_7cf53_3 rfl hl (by decide) rfl (fun ls hl => ?_)
  have q_4 := tm_b (x := x0) h1
  refine lv_iload_n hx hb dJ9_floorMod_7cf53_4 rfl (lv_at hl 1 rfl) ?_
  refine lv_iload_n hx hb dJ9_floorMod_7cf53_5 rfl (lv_at hl 2 rfl) ?_
  refine zi_ixor hx hb hx0 hx1 h1 dJ9_floorMod_7cf53_6 (fun w hw hw2 => ?_)
  refine zi_if_ge (tgt := 18) hx hb ⟨by omega, by omega⟩ dJ9_floorMod_7cf53_7 (by decide) (fun c_7 => ?_) (fun c_7 => ?_)
  · refine lv_iload_n hx hb dJ9_floorMod_7cf53_18 rfl (lv_at hl 0 rfl) ?_
    exact zr_i hx hb hr hlocks dJ9_floorMod_7cf53_19 (by rw [ex2_3]; first | exact fm_a (by have := hw2; omega) | exact fm_b (hw2.mp (by omega)) (by rw [← ex2_3]; exact c_11))
  · refine lv_iload_n hx hb dJ9_floorMod_7cf53_10 rfl (lv_at hl 0 rfl) ?_
    refine zi_if_eq (tgt := 18) hx hb ⟨by omega, by omega⟩ dJ9_floorMod_7cf53_11 (by decide) (fun c_11 => ?_) (fun c_11 => ?_)
    · refine lv_iload_n hx hb dJ9_floorMod_7cf53_18 rfl (lv_at hl 0 rfl) ?_
      exact zr_i hx hb hr hlocks dJ9_floorMod_7cf53_19 (by rw [ex2_3]; first | exact fm_a (by have := hw2; omega) | exact fm_b (hw2.mp (by omega)) (by rw [← ex2_3]; exact c_11))
    · refine lv_iload_n hx hb dJ9_floorMod_7cf53_14 rfl (lv_at hl 0 rfl) ?_
      refine lv_iload_n hx hb dJ9_floorMod_7cf53_15 rfl (lv_at hl 2 rfl) ?_
      refine zi_iadd hx hb dJ9_floorMod_7cf53_16 ?_
      exact zr_i hx hb hr hlocks dJ9_floorMod_7cf53_17 (by rw [ex2_3]; exact fm_c h1 (hw2.mp (by omega)) (by rw [← ex2_3]; exact c_11))

abbrev rmct_X7_bOf : Room := { frames := 0, cells := 0, slots := 0, locals := 0 }
set_option maxHeartbeats 4000000 in
set_option maxRecDepth 100000 in
theorem ct_X7_bOf (l : Launch) (D : va_G) (cI cZ cJ : ClassId) (x0 : Int) (hx0 : ir x0) (hk0 : 0 ≤ x0) (hk1 : x0 ≤ 404) : Met l yX7_bOf wsX7_bOf rmct_X7_bOf (zP D cI cZ cJ [] [.int (zi x0)]) (k2_QcV (.int (zi (bC x0)))) 0 0 (fun _ => False) := by
  refine Met.ofW (cc := cX7_bOf) (maxL := 1) (ret := (some .int)) (by decide) rfl ?_
  intro p e s m args below meth c s₁ B hml hv
  obtain ⟨rfl, hP, hK⟩ := hv
  have hx := B.exec
  have hb := B.bytes
  have hr := B.returns
  have hts := atoms_spec (ws := wsX7_bOf) B.pre
  have hown : s.vm.findClass RX7 = some m.cls := findClass_of_methodNamed B.named
  have hlocks := B.notSynchronized
  have hl := lv_entry ([.int (zi x0)]) (n := 1) (Nat.le_of_ble_eq_true rfl)
  rw [lg_entry_eq]
  generalize (lg_sl ([.int (zi x0)]) ++ List.replicate (1 - (lg_sl ([.int (zi x0)])).length) Slot.unset).toArray = ls at hl ⊢
  have hl : lv_has ls 1 [(0, .int (zi x0))] := hl
  show W p l e rmct_X7_bOf s m ([.int (zi x0)] : List Value).toArray below meth c s.heap [] 0 0 (MQ below (k2_QcV (.int (zi (bC x0)))) ([.int (zi x0)] : List Value).toArray s 0 0 (fun _ => False)) (F0 m 0 ls [])
  refine lv_iload_n hx hb dX7_bOf_0 rfl (lv_at hl 0 rfl) ?_
  refine zi_iconst hx hb dX7_bOf_1 ?_
  refine zi_idiv hx hb ⟨by omega, by omega⟩ ⟨by omega, by omega⟩ (by omega) (by omega) dX7_bOf_2 ?_
  refine zi_bipush hx hb dX7_bOf_3 (by decide) ?_
  refine zi_isub hx hb dX7_bOf_5 ?_
  exact zr_i hx hb hr hlocks dX7_bOf_6 (by rfl)

abbrev rmct_X7_cOf : Room := { frames := 0, cells := 0, slots := 0, locals := 0 }
set_option maxHeartbeats 4000000 in
set_option maxRecDepth 100000 in
theorem ct_X7_cOf (l : Launch) (D : va_G) (cI cZ cJ : ClassId) (x0 : Int) (hx0 : ir x0) (hk0 : 0 ≤ x0) (hk1 : x0 ≤ 404) : Met l yX7_cOf wsX7_cOf rmct_X7_cOf (zP D cI cZ cJ [] [.int (zi x0)]) (k2_QcV (.int (zi (cC x0)))) 0 0 (fun _ => False) := by
  refine Met.ofW (cc := cX7_cOf) (maxL := 1) (ret := (some .int)) (by decide) rfl ?_
  intro p e s m args below meth c s₁ B hml hv
  obtain ⟨rfl, hP, hK⟩ := hv
  have hx := B.exec
  have hb := B.bytes
  have hr := B.returns
  have hts := atoms_spec (ws := wsX7_cOf) B.pre
  have hown : s.vm.findClass RX7 = some m.cls := findClass_of_methodNamed B.named
  have hlocks := B.notSynchronized
  have hl := lv_entry ([.int (zi x0)]) (n := 1) (Nat.le_of_ble_eq_true rfl)
  rw [lg_entry_eq]
  generalize (lg_sl ([.int (zi x0)]) ++ List.replicate (1 - (lg_sl ([.int (zi x0)])).length) Slot.unset).toArray = ls at hl ⊢
  have hl : lv_has ls 1 [(0, .int (zi x0))] := hl
  show W p l e rmct_X7_cOf s m ([.int (zi x0)] : List Value).toArray below meth c s.heap [] 0 0 (MQ below (k2_QcV (.int (zi (cC x0)))) ([.int (zi x0)] : List Value).toArray s 0 0 (fun _ => False)) (F0 m 0 ls [])
  refine lv_iload_n hx hb dX7_cOf_0 rfl (lv_at hl 0 rfl) ?_
  refine zi_iconst hx hb dX7_cOf_1 ?_
  refine zi_irem hx hb ⟨by omega, by omega⟩ ⟨by omega, by omega⟩ (by omega) (by omega) dX7_cOf_2 ?_
  refine zi_iconst hx hb dX7_cOf_3 ?_
  refine zi_isub hx hb dX7_cOf_4 ?_
  exact zr_i hx hb hr hlocks dX7_cOf_5 (by rfl)

abbrev rmct_X7_drift : Room := { frames := 1, cells := 0, slots := 0, locals := 20 }
set_option maxHeartbeats 4000000 in
set_option maxRecDepth 100000 in
theorem ct_X7_drift (l : Launch) (D : va_G) (cI cZ cJ : ClassId) (x0 x1 : Int) (hx0 : ir x0) (hx1 : ir x1) (hk0 : 0 ≤ x0) (hk1 : x0 ≤ 404) (ht0 : 0 ≤ x1) (ht1 : x1 ≤ 999) : Met l yX7_drift wsX7_drift rmct_X7_drift (zP D cI cZ cJ [] [.int (zi x0), .int (zi x1)]) (k2_QcV (.int (zi (dC x0 x1)))) 0 0 (fun _ => False) := by
  refine Met.ofW (cc := cX7_drift) (maxL := 2) (ret := (some .int)) (by decide) rfl ?_
  intro p e s m args below meth c s₁ B hml hv
  obtain ⟨rfl, hP, hK⟩ := hv
  have hx := B.exec
  have hb := B.bytes
  have hr := B.returns
  have hts := atoms_spec (ws := wsX7_drift) B.pre
  have hown : s.vm.findClass RX7 = some m.cls := findClass_of_methodNamed B.named
  have hlocks := B.notSynchronized
  have hl := lv_entry ([.int (zi x0), .int (zi x1)]) (n := 2) (Nat.le_of_ble_eq_true rfl)
  rw [lg_entry_eq]
  generalize (lg_sl ([.int (zi x0), .int (zi x1)]) ++ List.replicate (2 - (lg_sl ([.int (zi x0), .int (zi x1)])).length) Slot.unset).toArray = ls at hl ⊢
  have hl : lv_has ls 2 [(0, .int (zi x0)), (1, .int (zi x1))] := hl
  show W p l e rmct_X7_drift s m ([.int (zi x0), .int (zi x1)] : List Value).toArray below meth c s.heap [] 0 0 (MQ below (k2_QcV (.int (zi (dC x0 x1)))) ([.int (zi x0), .int (zi x1)] : List Value).toArray s 0 0 (fun _ => False)) (F0 m 0 ls [])
  refine lv_iload_n hx hb dX7_drift_0 rfl (lv_at hl 0 rfl) ?_
  refine zk_r (zc_S (As := [.int (zi x0)]) (rest := []) ⟨hx, hb, hml, hown, hts⟩ (ct_X7_bOf l D cI cZ cJ x0 ⟨by omega, by omega⟩ (by omega) (by omega)) (va_cwS 1 hts gX7_drift_X7_bOf rfl rfl rfl (by decide +kernel) ⟨Nat.le_of_ble_eq_true rfl, Nat.le_of_ble_eq_true rfl⟩) hK va_P_nil rfl hl.1 rfl (Nat.le_of_ble_eq_true rfl) dX7_drift_1 ⟨Nat.zero_le _, Nat.zero_le _⟩) ?_
  refine zi_top (fun (r_1 : Int) (er_1 : r_1 = bC x0) => ?_)
  have fr_1 : (-40 : Int) ≤ r_1 ∧ r_1 ≤ 40 := by rw [er_1]; exact (by unfold bC; omega)
  refine lv_iload_n hx hb dX7_drift_4 rfl (lv_at hl 1 rfl) ?_
  refine zi_imul hx hb dX7_drift_5 ?_
  refine lv_iload_n hx hb dX7_drift_6 rfl (lv_at hl 0 rfl) ?_
  refine zk_r (zc_S (As := [.int (zi x0)]) (rest := [.int (zi (r_1 * x1))]) ⟨hx, hb, hml, hown, hts⟩ (ct_X7_cOf l D cI cZ cJ x0 ⟨by omega, by omega⟩ (by omega) (by omega)) (va_cwS 1 hts gX7_drift_X7_cOf rfl rfl rfl (by decide +kernel) ⟨Nat.le_of_ble_eq_true rfl, Nat.le_of_ble_eq_true rfl⟩) hK va_P_nil rfl hl.1 rfl (Nat.le_of_ble_eq_true rfl) dX7_drift_7 ⟨Nat.zero_le _, Nat.zero_le _⟩) ?_
  refine zi_top (fun (r_7 : Int) (er_7 : r_7 = cC x0) => ?_)
  have fr_7 : (-2 : Int) ≤ r_7 ∧ r_7 ≤ 2 := by rw [er_7]; exact (by unfold cC; omega)
  have q_1 := sq_b ht0 ht1
  refine lv_iload_n hx hb dX7_drift_10 rfl (lv_at hl 1 rfl) ?_
  refine lv_iload_n hx hb dX7_drift_11 rfl (lv_at hl 1 rfl) ?_
  refine zi_iconst hx hb dX7_drift_12 ?_
  refine zi_isub hx hb dX7_drift_13 ?_
  refine zi_imul hx hb dX7_drift_14 ?_
  refine zi_iconst hx hb dX7_drift_15 ?_
  refine zi_idiv hx hb ⟨by omega, by omega⟩ ⟨by omega, by omega⟩ (by omega) (by omega) dX7_drift_16 ?_
  refine zi_imul hx hb dX7_drift_17 ?_
  refine zi_iadd hx hb dX7_drift_18 ?_
  exact zr_i hx hb hr hlocks dX7_drift_19 (by subst_vars; rfl)

theorem in_X6_plateOf_6 : ∀ w ∈ wsX60, w ∈ wsX6_plateOf := by decide +kernel
theorem lk_X6_plateOf_26 : Cond.fieldLink RX6 26 "PlanetoidDesk$Sky" "dotPlates" "LPlanetoidDesk$Row;" ∈ wsX6_plateOf := by decide +kernel
abbrev rmct_X6_plateOf : Room := { frames := 1, cells := 0, slots := 0, locals := 21 }
set_option maxHeartbeats 4000000 in
set_option maxRecDepth 100000 in
theorem ct_X6_plateOf (l : Launch) (D : va_G) (cI cZ cJ : ClassId) (ad : Nat → Nat) (S : ZS) (hI : CI S) (x0 : Int) (hx0 : ir x0)  : Met l yX6_plateOf wsX6_plateOf rmct_X6_plateOf (zP D cI cZ cJ (dW cI ad S) [.ref (ad 1), .int (zi x0)]) (k2_QcV (.int (zi (pOf S x0)))) 0 0 (fun _ => False) := by
  refine Met.ofW (cc := cX6_plateOf) (maxL := 2) (ret := (some .int)) (by decide) rfl ?_
  intro p e s m args below meth c s₁ B hml hv
  obtain ⟨rfl, hP, hK⟩ := hv
  have hx := B.exec
  have hb := B.bytes
  have hr := B.returns
  have hts := atoms_spec (ws := wsX6_plateOf) B.pre
  have hown : s.vm.findClass RX6 = some m.cls := findClass_of_methodNamed B.named
  have hlocks := B.notSynchronized
  have hl := lv_entry ([.ref (ad 1), .int (zi x0)]) (n := 2) (Nat.le_of_ble_eq_true rfl)
  rw [lg_entry_eq]
  generalize (lg_sl ([.ref (ad 1), .int (zi x0)]) ++ List.replicate (2 - (lg_sl ([.ref (ad 1), .int (zi x0)])).length) Slot.unset).toArray = ls at hl ⊢
  have hl : lv_has ls 2 [(0, .ref (ad 1)), (1, .int (zi x0))] := hl
  show W p l e rmct_X6_plateOf s m ([.ref (ad 1), .int (zi x0)] : List Value).toArray below meth c s.heap [] 0 0 (MQ below (k2_QcV (.int (zi (pOf S x0)))) ([.ref (ad 1), .int (zi x0)] : List Value).toArray s 0 0 (fun _ => False)) (F0 m 0 ls [])
  refine lv_aload_n hx hb dX6_plateOf_0 rfl (lv_at hl 0 rfl) ?_
  refine va_get (D := D) (ci := 6) (v := .ref (ad 10)) (C := RX6) (T := TX6) (N := 10) hx hb hts in_X6_plateOf_6 hown hK.1 hP 1 rfl rfl 3 (by decide) (hts _ lk_X6_plateOf_26) (fun _ h9 => h9) rfl dX6_plateOf_1 ?_
  refine lv_iload_n hx hb dX6_plateOf_4 rfl (lv_at hl 1 rfl) ?_
  refine zk_r (zc_V (As := [.int (zi x0)]) (rest := []) ⟨hx, hb, hml, hown, hts⟩ (ct_X5_at l D cI cZ cJ (dW cI ad S) (ad 10) (ad 30) 10 30 60 (S 3) x0 rfl rfl (by decide) ⟨by omega, by omega⟩) (cwV 1 hts gX6_plateOf_X5_at rfl rfl rfl (by decide +kernel) ⟨Nat.le_of_ble_eq_true rfl, Nat.le_of_ble_eq_true rfl⟩) hK hP (q0 := 10) (ci := 5) rfl rfl rfl rfl hl.1 rfl (Nat.le_of_ble_eq_true rfl) dX6_plateOf_5 ⟨Nat.zero_le _, Nat.zero_le _⟩) ?_
  refine zi_top (fun (r_5 : Int) (er_5 : r_5 = rAt 60 (S 3) x0) => ?_)
  have fr_5 : (0 : Int) ≤ r_5 ∧ r_5 ≤ 29 := by rw [er_5]; exact CI.at hI 3 60 x0 ⟨by decide, by decide⟩
  exact zr_i hx hb hr hlocks dX6_plateOf_8 (by subst_vars; rfl)

theorem in_X6_observatoryOf_6 : ∀ w ∈ wsX60, w ∈ wsX6_observatoryOf := by decide +kernel
theorem lk_X6_observatoryOf_20 : Cond.fieldLink RX6 20 "PlanetoidDesk$Sky" "plateObservatories" "LPlanetoidDesk$Row;" ∈ wsX6_observatoryOf := by decide +kernel
theorem lk_X6_observatoryOf_26 : Cond.fieldLink RX6 26 "PlanetoidDesk$Sky" "dotPlates" "LPlanetoidDesk$Row;" ∈ wsX6_observatoryOf := by decide +kernel
abbrev rmct_X6_observatoryOf : Room := { frames := 1, cells := 0, slots := 0, locals := 21 }
set_option maxHeartbeats 4000000 in
set_option maxRecDepth 100000 in
theorem ct_X6_observatoryOf (l : Launch) (D : va_G) (cI cZ cJ : ClassId) (ad : Nat → Nat) (S : ZS) (hI : CI S) (x0 : Int) (hx0 : ir x0)  : Met l yX6_observatoryOf wsX6_observatoryOf rmct_X6_observatoryOf (zP D cI cZ cJ (dW cI ad S) [.ref (ad 1), .int (zi x0)]) (k2_QcV (.int (zi (oOf S x0)))) 0 0 (fun _ => False) := by
  refine Met.ofW (cc := cX6_observatoryOf) (maxL := 2) (ret := (some .int)) (by decide) rfl ?_
  intro p e s m args below meth c s₁ B hml hv
  obtain ⟨rfl, hP, hK⟩ := hv
  have hx := B.exec
  have hb := B.bytes
  have hr := B.returns
  have hts := atoms_spec (ws := wsX6_observatoryOf) B.pre
  have hown : s.vm.findClass RX6 = some m.cls := findClass_of_methodNamed B.named
  have hlocks := B.notSynchronized
  have hl := lv_entry ([.ref (ad 1), .int (zi x0)]) (n := 2) (Nat.le_of_ble_eq_true rfl)
  rw [lg_entry_eq]
  generalize (lg_sl ([.ref (ad 1), .int (zi x0)]) ++ List.replicate (2 - (lg_sl ([.ref (ad 1), .int (zi x0)])).length) Slot.unset).toArray = ls at hl ⊢
  have hl : lv_has ls 2 [(0, .ref (ad 1)), (1, .int (zi x0))] := hl
  show W p l e rmct_X6_observatoryOf s m ([.ref (ad 1), .int (zi x0)] : List Value).toArray below meth c s.heap [] 0 0 (MQ below (k2_QcV (.int (zi (oOf S x0)))) ([.ref (ad 1), .int (zi x0)] : List Value).toArray s 0 0 (fun _ => False)) (F0 m 0 ls [])
  refine lv_aload_n hx hb dX6_observatoryOf_0 rfl (lv_at hl 0 rfl) ?_
  refine va_get (D := D) (ci := 6) (v := .ref (ad 8)) (C := RX6) (T := TX6) (N := 10) hx hb hts in_X6_observatoryOf_6 hown hK.1 hP 1 rfl rfl 1 (by decide) (hts _ lk_X6_observatoryOf_20) (fun _ h9 => h9) rfl dX6_observatoryOf_1 ?_
  refine lv_aload_n hx hb dX6_observatoryOf_4 rfl (lv_at hl 0 rfl) ?_
  refine va_get (D := D) (ci := 6) (v := .ref (ad 10)) (C := RX6) (T := TX6) (N := 10) hx hb hts in_X6_observatoryOf_6 hown hK.1 hP 1 rfl rfl 3 (by decide) (hts _ lk_X6_observatoryOf_26) (fun _ h9 => h9) rfl dX6_observatoryOf_5 ?_
  refine lv_iload_n hx hb dX6_observatoryOf_8 rfl (lv_at hl 1 rfl) ?_
  refine zk_r (zc_V (As := [.int (zi x0)]) (rest := [.ref (ad 8)]) ⟨hx, hb, hml, hown, hts⟩ (ct_X5_at l D cI cZ cJ (dW cI ad S) (ad 10) (ad 30) 10 30 60 (S 3) x0 rfl rfl (by decide) ⟨by omega, by omega⟩) (cwV 1 hts gX6_observatoryOf_X5_at rfl rfl rfl (by decide +kernel) ⟨Nat.le_of_ble_eq_true rfl, Nat.le_of_ble_eq_true rfl⟩) hK hP (q0 := 10) (ci := 5) rfl rfl rfl rfl hl.1 rfl (Nat.le_of_ble_eq_true rfl) dX6_observatoryOf_9 ⟨Nat.zero_le _, Nat.zero_le _⟩) ?_
  refine zi_top (fun (r_9 : Int) (er_9 : r_9 = rAt 60 (S 3) x0) => ?_)
  have fr_9 : (0 : Int) ≤ r_9 ∧ r_9 ≤ 29 := by rw [er_9]; exact CI.at hI 3 60 x0 ⟨by decide, by decide⟩
  refine zk_r (zc_V (As := [.int (zi r_9)]) (rest := []) ⟨hx, hb, hml, hown, hts⟩ (ct_X5_at l D cI cZ cJ (dW cI ad S) (ad 8) (ad 28) 8 28 30 (S 1) r_9 rfl rfl (by decide) ⟨by omega, by omega⟩) (cwV 1 hts gX6_observatoryOf_X5_at rfl rfl rfl (by decide +kernel) ⟨Nat.le_of_ble_eq_true rfl, Nat.le_of_ble_eq_true rfl⟩) hK hP (q0 := 8) (ci := 5) rfl rfl rfl rfl hl.1 rfl (Nat.le_of_ble_eq_true rfl) dX6_observatoryOf_12 ⟨Nat.zero_le _, Nat.zero_le _⟩) ?_
  refine zi_top (fun (r_12 : Int) (er_12 : r_12 = rAt 30 (S 1) r_9) => ?_)
  have fr_12 : (0 : Int) ≤ r_12 ∧ r_12 ≤ 5 := by rw [er_12]; exact CI.at hI 1 30 r_9 ⟨by decide, by decide⟩
  exact zr_i hx hb hr hlocks dX6_observatoryOf_15 (by subst_vars; rfl)

theorem in_X6_errorOf_6 : ∀ w ∈ wsX60, w ∈ wsX6_errorOf := by decide +kernel
theorem lk_X6_errorOf_14 : Cond.fieldLink RX6 14 "PlanetoidDesk$Sky" "errors" "LPlanetoidDesk$Row;" ∈ wsX6_errorOf := by decide +kernel
theorem lk_X6_errorOf_20 : Cond.fieldLink RX6 20 "PlanetoidDesk$Sky" "plateObservatories" "LPlanetoidDesk$Row;" ∈ wsX6_errorOf := by decide +kernel
theorem lk_X6_errorOf_26 : Cond.fieldLink RX6 26 "PlanetoidDesk$Sky" "dotPlates" "LPlanetoidDesk$Row;" ∈ wsX6_errorOf := by decide +kernel
abbrev rmct_X6_errorOf : Room := { frames := 1, cells := 0, slots := 0, locals := 21 }
set_option maxHeartbeats 4000000 in
set_option maxRecDepth 100000 in
theorem ct_X6_errorOf (l : Launch) (D : va_G) (cI cZ cJ : ClassId) (ad : Nat → Nat) (S : ZS) (hI : CI S) (x0 : Int) (hx0 : ir x0)  : Met l yX6_errorOf wsX6_errorOf rmct_X6_errorOf (zP D cI cZ cJ (dW cI ad S) [.ref (ad 1), .int (zi x0)]) (k2_QcV (.int (zi (eOf S x0)))) 0 0 (fun _ => False) := by
  refine Met.ofW (cc := cX6_errorOf) (maxL := 2) (ret := (some .int)) (by decide) rfl ?_
  intro p e s m args below meth c s₁ B hml hv
  obtain ⟨rfl, hP, hK⟩ := hv
  have hx := B.exec
  have hb := B.bytes
  have hr := B.returns
  have hts := atoms_spec (ws := wsX6_errorOf) B.pre
  have hown : s.vm.findClass RX6 = some m.cls := findClass_of_methodNamed B.named
  have hlocks := B.notSynchronized
  have hl := lv_entry ([.ref (ad 1), .int (zi x0)]) (n := 2) (Nat.le_of_ble_eq_true rfl)
  rw [lg_entry_eq]
  generalize (lg_sl ([.ref (ad 1), .int (zi x0)]) ++ List.replicate (2 - (lg_sl ([.ref (ad 1), .int (zi x0)])).length) Slot.unset).toArray = ls at hl ⊢
  have hl : lv_has ls 2 [(0, .ref (ad 1)), (1, .int (zi x0))] := hl
  show W p l e rmct_X6_errorOf s m ([.ref (ad 1), .int (zi x0)] : List Value).toArray below meth c s.heap [] 0 0 (MQ below (k2_QcV (.int (zi (eOf S x0)))) ([.ref (ad 1), .int (zi x0)] : List Value).toArray s 0 0 (fun _ => False)) (F0 m 0 ls [])
  refine lv_aload_n hx hb dX6_errorOf_0 rfl (lv_at hl 0 rfl) ?_
  refine va_get (D := D) (ci := 6) (v := .ref (ad 7)) (C := RX6) (T := TX6) (N := 10) hx hb hts in_X6_errorOf_6 hown hK.1 hP 1 rfl rfl 0 (by decide) (hts _ lk_X6_errorOf_14) (fun _ h9 => h9) rfl dX6_errorOf_1 ?_
  refine lv_aload_n hx hb dX6_errorOf_4 rfl (lv_at hl 0 rfl) ?_
  refine va_get (D := D) (ci := 6) (v := .ref (ad 8)) (C := RX6) (T := TX6) (N := 10) hx hb hts in_X6_errorOf_6 hown hK.1 hP 1 rfl rfl 1 (by decide) (hts _ lk_X6_errorOf_20) (fun _ h9 => h9) rfl dX6_errorOf_5 ?_
  refine lv_aload_n hx hb dX6_errorOf_8 rfl (lv_at hl 0 rfl) ?_
  refine va_get (D := D) (ci := 6) (v := .ref (ad 10)) (C := RX6) (T := TX6) (N := 10) hx hb hts in_X6_errorOf_6 hown hK.1 hP 1 rfl rfl 3 (by decide) (hts _ lk_X6_errorOf_26) (fun _ h9 => h9) rfl dX6_errorOf_9 ?_
  refine lv_iload_n hx hb dX6_errorOf_12 rfl (lv_at hl 1 rfl) ?_
  refine zk_r (zc_V (As := [.int (zi x0)]) (rest := [.ref (ad 8), .ref (ad 7)]) ⟨hx, hb, hml, hown, hts⟩ (ct_X5_at l D cI cZ cJ (dW cI ad S) (ad 10) (ad 30) 10 30 60 (S 3) x0 rfl rfl (by decide) ⟨by omega, by omega⟩) (cwV 1 hts gX6_errorOf_X5_at rfl rfl rfl (by decide +kernel) ⟨Nat.le_of_ble_eq_true rfl, Nat.le_of_ble_eq_true rfl⟩) hK hP (q0 := 10) (ci := 5) rfl rfl rfl rfl hl.1 rfl (Nat.le_of_ble_eq_true rfl) dX6_errorOf_13 ⟨Nat.zero_le _, Nat.zero_le _⟩) ?_
  refine zi_top (fun (r_13 : Int) (er_13 : r_13 = rAt 60 (S 3) x0) => ?_)
  have fr_13 : (0 : Int) ≤ r_13 ∧ r_13 ≤ 29 := by rw [er_13]; exact CI.at hI 3 60 x0 ⟨by decide, by decide⟩
  refine zk_r (zc_V (As := [.int (zi r_13)]) (rest := [.ref (ad 7)]) ⟨hx, hb, hml, hown, hts⟩ (ct_X5_at l D cI cZ cJ (dW cI ad S) (ad 8) (ad 28) 8 28 30 (S 1) r_13 rfl rfl (by decide) ⟨by omega, by omega⟩) (cwV 1 hts gX6_errorOf_X5_at rfl rfl rfl (by decide +kernel) ⟨Nat.le_of_ble_eq_true rfl, Nat.le_of_ble_eq_true rfl⟩) hK hP (q0 := 8) (ci := 5) rfl rfl rfl rfl hl.1 rfl (Nat.le_of_ble_eq_true rfl) dX6_errorOf_16 ⟨Nat.zero_le _, Nat.zero_le _⟩) ?_
  refine zi_top (fun (r_16 : Int) (er_16 : r_16 = rAt 30 (S 1) r_13) => ?_)
  have fr_16 : (0 : Int) ≤ r_16 ∧ r_16 ≤ 5 := by rw [er_16]; exact CI.at hI 1 30 r_13 ⟨by decide, by decide⟩
  refine zk_r (zc_V (As := [.int (zi r_16)]) (rest := []) ⟨hx, hb, hml, hown, hts⟩ (ct_X5_at l D cI cZ cJ (dW cI ad S) (ad 7) (ad 27) 7 27 6 (S 0) r_16 rfl rfl (by decide) ⟨by omega, by omega⟩) (cwV 1 hts gX6_errorOf_X5_at rfl rfl rfl (by decide +kernel) ⟨Nat.le_of_ble_eq_true rfl, Nat.le_of_ble_eq_true rfl⟩) hK hP (q0 := 7) (ci := 5) rfl rfl rfl rfl hl.1 rfl (Nat.le_of_ble_eq_true rfl) dX6_errorOf_19 ⟨Nat.zero_le _, Nat.zero_le _⟩) ?_
  refine zi_top (fun (r_19 : Int) (er_19 : r_19 = rAt 6 (S 0) r_16) => ?_)
  have fr_19 : (0 : Int) ≤ r_19 ∧ r_19 ≤ 9 := by rw [er_19]; exact CI.at hI 0 6 r_16 ⟨by decide, by decide⟩
  exact zr_i hx hb hr hlocks dX6_errorOf_22 (by subst_vars; rfl)

theorem in_X6_nightOf_6 : ∀ w ∈ wsX60, w ∈ wsX6_nightOf := by decide +kernel
theorem lk_X6_nightOf_23 : Cond.fieldLink RX6 23 "PlanetoidDesk$Sky" "plateNights" "LPlanetoidDesk$Row;" ∈ wsX6_nightOf := by decide +kernel
theorem lk_X6_nightOf_26 : Cond.fieldLink RX6 26 "PlanetoidDesk$Sky" "dotPlates" "LPlanetoidDesk$Row;" ∈ wsX6_nightOf := by decide +kernel
abbrev rmct_X6_nightOf : Room := { frames := 1, cells := 0, slots := 0, locals := 21 }
set_option maxHeartbeats 4000000 in
set_option maxRecDepth 100000 in
theorem ct_X6_nightOf (l : Launch) (D : va_G) (cI cZ cJ : ClassId) (ad : Nat → Nat) (S : ZS) (hI : CI S) (x0 : Int) (hx0 : ir x0)  : Met l yX6_nightOf wsX6_nightOf rmct_X6_nightOf (zP D cI cZ cJ (dW cI ad S) [.ref (ad 1), .int (zi x0)]) (k2_QcV (.int (zi (nOf S x0)))) 0 0 (fun _ => False) := by
  refine Met.ofW (cc := cX6_nightOf) (maxL := 2) (ret := (some .int)) (by decide) rfl ?_
  intro p e s m args below meth c s₁ B hml hv
  obtain ⟨rfl, hP, hK⟩ := hv
  have hx := B.exec
  have hb := B.bytes
  have hr := B.returns
  have hts := atoms_spec (ws := wsX6_nightOf) B.pre
  have hown : s.vm.findClass RX6 = some m.cls := findClass_of_methodNamed B.named
  have hlocks := B.notSynchronized
  have hl := lv_entry ([.ref (ad 1), .int (zi x0)]) (n := 2) (Nat.le_of_ble_eq_true rfl)
  rw [lg_entry_eq]
  generalize (lg_sl ([.ref (ad 1), .int (zi x0)]) ++ List.replicate (2 - (lg_sl ([.ref (ad 1), .int (zi x0)])).length) Slot.unset).toArray = ls at hl ⊢
  have hl : lv_has ls 2 [(0, .ref (ad 1)), (1, .int (zi x0))] := hl
  show W p l e rmct_X6_nightOf s m ([.ref (ad 1), .int (zi x0)] : List Value).toArray below meth c s.heap [] 0 0 (MQ below (k2_QcV (.int (zi (nOf S x0)))) ([.ref (ad 1), .int (zi x0)] : List Value).toArray s 0 0 (fun _ => False)) (F0 m 0 ls [])
  refine lv_aload_n hx hb dX6_nightOf_0 rfl (lv_at hl 0 rfl) ?_
  refine va_get (D := D) (ci := 6) (v := .ref (ad 9)) (C := RX6) (T := TX6) (N := 10) hx hb hts in_X6_nightOf_6 hown hK.1 hP 1 rfl rfl 2 (by decide) (hts _ lk_X6_nightOf_23) (fun _ h9 => h9) rfl dX6_nightOf_1 ?_
  refine lv_aload_n hx hb dX6_nightOf_4 rfl (lv_at hl 0 rfl) ?_
  refine va_get (D := D) (ci := 6) (v := .ref (ad 10)) (C := RX6) (T := TX6) (N := 10) hx hb hts in_X6_nightOf_6 hown hK.1 hP 1 rfl rfl 3 (by decide) (hts _ lk_X6_nightOf_26) (fun _ h9 => h9) rfl dX6_nightOf_5 ?_
  refine lv_iload_n hx hb dX6_nightOf_8 rfl (lv_at hl 1 rfl) ?_
  refine zk_r (zc_V (As := [.int (zi x0)]) (rest := [.ref (ad 9)]) ⟨hx, hb, hml, hown, hts⟩ (ct_X5_at l D cI cZ cJ (dW cI ad S) (ad 10) (ad 30) 10 30 60 (S 3) x0 rfl rfl (by decide) ⟨by omega, by omega⟩) (cwV 1 hts gX6_nightOf_X5_at rfl rfl rfl (by decide +kernel) ⟨Nat.le_of_ble_eq_true rfl, Nat.le_of_ble_eq_true rfl⟩) hK hP (q0 := 10) (ci := 5) rfl rfl rfl rfl hl.1 rfl (Nat.le_of_ble_eq_true rfl) dX6_nightOf_9 ⟨Nat.zero_le _, Nat.zero_le _⟩) ?_
  refine zi_top (fun (r_9 : Int) (er_9 : r_9 = rAt 60 (S 3) x0) => ?_)
  have fr_9 : (0 : Int) ≤ r_9 ∧ r_9 ≤ 29 := by rw [er_9]; exact CI.at hI 3 60 x0 ⟨by decide, by decide⟩
  refine zk_r (zc_V (As := [.int (zi r_9)]) (rest := []) ⟨hx, hb, hml, hown, hts⟩ (ct_X5_at l D cI cZ cJ (dW cI ad S) (ad 9) (ad 29) 9 29 30 (S 2) r_9 rfl rfl (by decide) ⟨by omega, by omega⟩) (cwV 1 hts gX6_nightOf_X5_at rfl rfl rfl (by decide +kernel) ⟨Nat.le_of_ble_eq_true rfl, Nat.le_of_ble_eq_true rfl⟩) hK hP (q0 := 9) (ci := 5) rfl rfl rfl rfl hl.1 rfl (Nat.le_of_ble_eq_true rfl) dX6_nightOf_12 ⟨Nat.zero_le _, Nat.zero_le _⟩) ?_
  refine zi_top (fun (r_12 : Int) (er_12 : r_12 = rAt 30 (S 2) r_9) => ?_)
  have fr_12 : (0 : Int) ≤ r_12 ∧ r_12 ≤ 999 := by rw [er_12]; exact CI.at hI 2 30 r_9 ⟨by decide, by decide⟩
  exact zr_i hx hb hr hlocks dX6_nightOf_15 (by subst_vars; rfl)

theorem in_X6_lightOf_6 : ∀ w ∈ wsX60, w ∈ wsX6_lightOf := by decide +kernel
theorem lk_X6_lightOf_32 : Cond.fieldLink RX6 32 "PlanetoidDesk$Sky" "dotLights" "LPlanetoidDesk$Row;" ∈ wsX6_lightOf := by decide +kernel
abbrev rmct_X6_lightOf : Room := { frames := 1, cells := 0, slots := 0, locals := 21 }
set_option maxHeartbeats 4000000 in
set_option maxRecDepth 100000 in
theorem ct_X6_lightOf (l : Launch) (D : va_G) (cI cZ cJ : ClassId) (ad : Nat → Nat) (S : ZS) (hI : CI S) (x0 : Int) (hx0 : ir x0)  : Met l yX6_lightOf wsX6_lightOf rmct_X6_lightOf (zP D cI cZ cJ (dW cI ad S) [.ref (ad 1), .int (zi x0)]) (k2_QcV (.int (zi (lOf S x0)))) 0 0 (fun _ => False) := by
  refine Met.ofW (cc := cX6_lightOf) (maxL := 2) (ret := (some .int)) (by decide) rfl ?_
  intro p e s m args below meth c s₁ B hml hv
  obtain ⟨rfl, hP, hK⟩ := hv
  have hx := B.exec
  have hb := B.bytes
  have hr := B.returns
  have hts := atoms_spec (ws := wsX6_lightOf) B.pre
  have hown : s.vm.findClass RX6 = some m.cls := findClass_of_methodNamed B.named
  have hlocks := B.notSynchronized
  have hl := lv_entry ([.ref (ad 1), .int (zi x0)]) (n := 2) (Nat.le_of_ble_eq_true rfl)
  rw [lg_entry_eq]
  generalize (lg_sl ([.ref (ad 1), .int (zi x0)]) ++ List.replicate (2 - (lg_sl ([.ref (ad 1), .int (zi x0)])).length) Slot.unset).toArray = ls at hl ⊢
  have hl : lv_has ls 2 [(0, .ref (ad 1)), (1, .int (zi x0))] := hl
  show W p l e rmct_X6_lightOf s m ([.ref (ad 1), .int (zi x0)] : List Value).toArray below meth c s.heap [] 0 0 (MQ below (k2_QcV (.int (zi (lOf S x0)))) ([.ref (ad 1), .int (zi x0)] : List Value).toArray s 0 0 (fun _ => False)) (F0 m 0 ls [])
  refine lv_aload_n hx hb dX6_lightOf_0 rfl (lv_at hl 0 rfl) ?_
  refine va_get (D := D) (ci := 6) (v := .ref (ad 12)) (C := RX6) (T := TX6) (N := 10) hx hb hts in_X6_lightOf_6 hown hK.1 hP 1 rfl rfl 5 (by decide) (hts _ lk_X6_lightOf_32) (fun _ h9 => h9) rfl dX6_lightOf_1 ?_
  refine lv_iload_n hx hb dX6_lightOf_4 rfl (lv_at hl 1 rfl) ?_
  refine zk_r (zc_V (As := [.int (zi x0)]) (rest := []) ⟨hx, hb, hml, hown, hts⟩ (ct_X5_at l D cI cZ cJ (dW cI ad S) (ad 12) (ad 32) 12 32 60 (S 5) x0 rfl rfl (by decide) ⟨by omega, by omega⟩) (cwV 1 hts gX6_lightOf_X5_at rfl rfl rfl (by decide +kernel) ⟨Nat.le_of_ble_eq_true rfl, Nat.le_of_ble_eq_true rfl⟩) hK hP (q0 := 12) (ci := 5) rfl rfl rfl rfl hl.1 rfl (Nat.le_of_ble_eq_true rfl) dX6_lightOf_5 ⟨Nat.zero_le _, Nat.zero_le _⟩) ?_
  refine zi_top (fun (r_5 : Int) (er_5 : r_5 = rAt 60 (S 5) x0) => ?_)
  have fr_5 : (0 : Int) ≤ r_5 ∧ r_5 ≤ 99 := by rw [er_5]; exact CI.at hI 5 60 x0 ⟨by decide, by decide⟩
  exact zr_i hx hb hr hlocks dX6_lightOf_8 (by subst_vars; rfl)

theorem in_X6_truePlaceOf_6 : ∀ w ∈ wsX60, w ∈ wsX6_truePlaceOf := by decide +kernel
theorem lk_X6_truePlaceOf_29 : Cond.fieldLink RX6 29 "PlanetoidDesk$Sky" "dotPlaces" "LPlanetoidDesk$Row;" ∈ wsX6_truePlaceOf := by decide +kernel
theorem lk_X6_truePlaceOf_35 : Cond.fieldLink RX6 35 "PlanetoidDesk$Sky" "shifts" "LPlanetoidDesk$Row;" ∈ wsX6_truePlaceOf := by decide +kernel
abbrev rmct_X6_truePlaceOf : Room := { frames := 1, cells := 0, slots := 0, locals := 22 }
set_option maxHeartbeats 4000000 in
set_option maxRecDepth 100000 in
theorem ct_X6_truePlaceOf (l : Launch) (D : va_G) (cI cZ cJ : ClassId) (ad : Nat → Nat) (S : ZS) (hI : CI S) (x0 : Int) (hx0 : ir x0)  : Met l yX6_truePlaceOf wsX6_truePlaceOf rmct_X6_truePlaceOf (zP D cI cZ cJ (dW cI ad S) [.ref (ad 1), .int (zi x0)]) (k2_QcV (.int (zi (tOf S x0)))) 0 0 (fun _ => False) := by
  refine Met.ofW (cc := cX6_truePlaceOf) (maxL := 3) (ret := (some .int)) (by decide) rfl ?_
  intro p e s m args below meth c s₁ B hml hv
  obtain ⟨rfl, hP, hK⟩ := hv
  have hx := B.exec
  have hb := B.bytes
  have hr := B.returns
  have hts := atoms_spec (ws := wsX6_truePlaceOf) B.pre
  have hown : s.vm.findClass RX6 = some m.cls := findClass_of_methodNamed B.named
  have hlocks := B.notSynchronized
  have hl := lv_entry ([.ref (ad 1), .int (zi x0)]) (n := 3) (Nat.le_of_ble_eq_true rfl)
  rw [lg_entry_eq]
  generalize (lg_sl ([.ref (ad 1), .int (zi x0)]) ++ List.replicate (3 - (lg_sl ([.ref (ad 1), .int (zi x0)])).length) Slot.unset).toArray = ls at hl ⊢
  have hl : lv_has ls 3 [(0, .ref (ad 1)), (1, .int (zi x0))] := hl
  show W p l e rmct_X6_truePlaceOf s m ([.ref (ad 1), .int (zi x0)] : List Value).toArray below meth c s.heap [] 0 0 (MQ below (k2_QcV (.int (zi (tOf S x0)))) ([.ref (ad 1), .int (zi x0)] : List Value).toArray s 0 0 (fun _ => False)) (F0 m 0 ls [])
  refine lv_aload_n hx hb dX6_truePlaceOf_0 rfl (lv_at hl 0 rfl) ?_
  refine va_get (D := D) (ci := 6) (v := .ref (ad 11)) (C := RX6) (T := TX6) (N := 10) hx hb hts in_X6_truePlaceOf_6 hown hK.1 hP 1 rfl rfl 4 (by decide) (hts _ lk_X6_truePlaceOf_29) (fun _ h9 => h9) rfl dX6_truePlaceOf_1 ?_
  refine lv_iload_n hx hb dX6_truePlaceOf_4 rfl (lv_at hl 1 rfl) ?_
  refine zk_r (zc_V (As := [.int (zi x0)]) (rest := []) ⟨hx, hb, hml, hown, hts⟩ (ct_X5_at l D cI cZ cJ (dW cI ad S) (ad 11) (ad 31) 11 31 60 (S 4) x0 rfl rfl (by decide) ⟨by omega, by omega⟩) (cwV 1 hts gX6_truePlaceOf_X5_at rfl rfl rfl (by decide +kernel) ⟨Nat.le_of_ble_eq_true rfl, Nat.le_of_ble_eq_true rfl⟩) hK hP (q0 := 11) (ci := 5) rfl rfl rfl rfl hl.1 rfl (Nat.le_of_ble_eq_true rfl) dX6_truePlaceOf_5 ⟨Nat.zero_le _, Nat.zero_le _⟩) ?_
  refine zi_top (fun (r_5 : Int) (er_5 : r_5 = rAt 60 (S 4) x0) => ?_)
  have fr_5 : (0 : Int) ≤ r_5 ∧ r_5 ≤ 3599 := by rw [er_5]; exact CI.at hI 4 60 x0 ⟨by decide, by decide⟩
  refine lv_istore_n (lv' := [(2, .int (zi r_5)), (0, .ref (ad 1)), (1, .int (zi x0))]) hx hb dX6_truePlaceOf_8 rfl hl (by decide) rfl (fun ls hl => ?_)
  refine lv_iload_n hx hb dX6_truePlaceOf_9 rfl (lv_at hl 0 rfl) ?_
  refine lv_aload_n hx hb dX6_truePlaceOf_10 rfl (lv_at hl 1 rfl) ?_
  refine va_get (D := D) (ci := 6) (v := .ref (ad 13)) (C := RX6) (T := TX6) (N := 10) hx hb hts in_X6_truePlaceOf_6 hown hK.1 hP 1 rfl rfl 6 (by decide) (hts _ lk_X6_truePlaceOf_35) (fun _ h9 => h9) rfl dX6_truePlaceOf_11 ?_
  refine lv_iload_n hx hb dX6_truePlaceOf_14 rfl (lv_at hl 0 rfl) ?_
  refine zi_sipush hx hb dX6_truePlaceOf_15 (by decide) ?_
  refine zi_idiv hx hb ⟨by omega, by omega⟩ ⟨by omega, by omega⟩ (by omega) (by omega) dX6_truePlaceOf_18 ?_
  refine zk_r (zc_V (As := [.int (zi (r_5 / 400))]) (rest := [.int (zi r_5)]) ⟨hx, hb, hml, hown, hts⟩ (ct_X5_at l D cI cZ cJ (dW cI ad S) (ad 13) (ad 33) 13 33 9 (S 6) (r_5 / 400) rfl rfl (by decide) ⟨by omega, by omega⟩) (cwV 1 hts gX6_truePlaceOf_X5_at rfl rfl rfl (by decide +kernel) ⟨Nat.le_of_ble_eq_true rfl, Nat.le_of_ble_eq_true rfl⟩) hK hP (q0 := 13) (ci := 5) rfl rfl rfl rfl hl.1 rfl (Nat.le_of_ble_eq_true rfl) dX6_truePlaceOf_19 ⟨Nat.zero_le _, Nat.zero_le _⟩) ?_
  refine zi_top (fun (r_19 : Int) (er_19 : r_19 = rAt 9 (S 6) (r_5 / 400)) => ?_)
  have fr_19 : (-9 : Int) ≤ r_19 ∧ r_19 ≤ 9 := by rw [er_19]; exact CI.at hI 6 9 (r_5 / 400) ⟨by decide, by decide⟩
  refine zi_iadd hx hb dX6_truePlaceOf_22 ?_
  refine zi_sipush hx hb dX6_truePlaceOf_23 (by decide) ?_
  refine zk_r (zc_S (As := [.int (zi (r_5 + r_19)), .int (zi 3600)]) (rest := []) ⟨hx, hb, hml, hown, hts⟩ (ct_J9_floorMod_7cf53 l D cI cZ cJ (r_5 + r_19) 3600 ⟨by omega, by omega⟩ ⟨by decide, by decide⟩ (by omega)) (va_cwS 2 hts gX6_truePlaceOf_J9_floorMod_7cf53 rfl rfl rfl (by decide +kernel) ⟨Nat.le_of_ble_eq_true rfl, Nat.le_of_ble_eq_true rfl⟩) hK va_P_nil rfl hl.1 rfl (Nat.le_of_ble_eq_true rfl) dX6_truePlaceOf_26 ⟨Nat.zero_le _, Nat.zero_le _⟩) ?_
  refine zi_top (fun (r_26 : Int) (er_26 : r_26 = (r_5 + r_19) % 3600) => ?_)
  have fr_26 : (0 : Int) ≤ r_26 := by rw [er_26]; exact Int.emod_nonneg _ (by omega)
  have fr_261 : r_26 < 3600 := by rw [er_26]; exact Int.emod_lt_of_pos _ (by omega)
  exact zr_i hx hb hr hlocks dX6_truePlaceOf_29 (by subst_vars; rfl)

theorem in_X0_ownerOf_0 : ∀ w ∈ wsX00, w ∈ wsX0_ownerOf := by decide +kernel
theorem lk_X0_ownerOf_14 : Cond.fieldLink RX0 14 "PlanetoidDesk$Bodies" "owners" "LPlanetoidDesk$Row;" ∈ wsX0_ownerOf := by decide +kernel
abbrev rmct_X0_ownerOf : Room := { frames := 1, cells := 0, slots := 0, locals := 21 }
set_option maxHeartbeats 4000000 in
set_option maxRecDepth 100000 in
theorem ct_X0_ownerOf (l : Launch) (D : va_G) (cI cZ cJ : ClassId) (ad : Nat → Nat) (S : ZS) (hI : CI S) (x0 : Int) (hx0 : ir x0)  : Met l yX0_ownerOf wsX0_ownerOf rmct_X0_ownerOf (zP D cI cZ cJ (dW cI ad S) [.ref (ad 2), .int (zi x0)]) (k2_QcV (.int (zi (rAt 60 (S 7) x0)))) 0 0 (fun _ => False) := by
  refine Met.ofW (cc := cX0_ownerOf) (maxL := 2) (ret := (some .int)) (by decide) rfl ?_
  intro p e s m args below meth c s₁ B hml hv
  obtain ⟨rfl, hP, hK⟩ := hv
  have hx := B.exec
  have hb := B.bytes
  have hr := B.returns
  have hts := atoms_spec (ws := wsX0_ownerOf) B.pre
  have hown : s.vm.findClass RX0 = some m.cls := findClass_of_methodNamed B.named
  have hlocks := B.notSynchronized
  have hl := lv_entry ([.ref (ad 2), .int (zi x0)]) (n := 2) (Nat.le_of_ble_eq_true rfl)
  rw [lg_entry_eq]
  generalize (lg_sl ([.ref (ad 2), .int (zi x0)]) ++ List.replicate (2 - (lg_sl ([.ref (ad 2), .int (zi x0)])).length) Slot.unset).toArray = ls at hl ⊢
  have hl : lv_has ls 2 [(0, .ref (ad 2)), (1, .int (zi x0))] := hl
  show W p l e rmct_X0_ownerOf s m ([.ref (ad 2), .int (zi x0)] : List Value).toArray below meth c s.heap [] 0 0 (MQ below (k2_QcV (.int (zi (rAt 60 (S 7) x0)))) ([.ref (ad 2), .int (zi x0)] : List Value).toArray s 0 0 (fun _ => False)) (F0 m 0 ls [])
  refine lv_aload_n hx hb dX0_ownerOf_0 rfl (lv_at hl 0 rfl) ?_
  refine va_get (D := D) (ci := 0) (v := .ref (ad 14)) (C := RX0) (T := TX0) (N := 8) hx hb hts in_X0_ownerOf_0 hown hK.1 hP 2 rfl rfl 0 (by decide) (hts _ lk_X0_ownerOf_14) (fun _ h9 => h9) rfl dX0_ownerOf_1 ?_
  refine lv_iload_n hx hb dX0_ownerOf_4 rfl (lv_at hl 1 rfl) ?_
  refine zk_r (zc_V (As := [.int (zi x0)]) (rest := []) ⟨hx, hb, hml, hown, hts⟩ (ct_X5_at l D cI cZ cJ (dW cI ad S) (ad 14) (ad 34) 14 34 60 (S 7) x0 rfl rfl (by decide) ⟨by omega, by omega⟩) (cwV 1 hts gX0_ownerOf_X5_at rfl rfl rfl (by decide +kernel) ⟨Nat.le_of_ble_eq_true rfl, Nat.le_of_ble_eq_true rfl⟩) hK hP (q0 := 14) (ci := 5) rfl rfl rfl rfl hl.1 rfl (Nat.le_of_ble_eq_true rfl) dX0_ownerOf_5 ⟨Nat.zero_le _, Nat.zero_le _⟩) ?_
  refine zi_top (fun (r_5 : Int) (er_5 : r_5 = rAt 60 (S 7) x0) => ?_)
  have fr_5 : (-1 : Int) ≤ r_5 ∧ r_5 ≤ 19 := by rw [er_5]; exact CI.at hI 7 60 x0 ⟨by decide, by decide⟩
  exact zr_i hx hb hr hlocks dX0_ownerOf_8 (by subst_vars; rfl)

theorem in_X0_hostOf_0 : ∀ w ∈ wsX00, w ∈ wsX0_hostOf := by decide +kernel
theorem lk_X0_hostOf_20 : Cond.fieldLink RX0 20 "PlanetoidDesk$Bodies" "hosts" "LPlanetoidDesk$Row;" ∈ wsX0_hostOf := by decide +kernel
abbrev rmct_X0_hostOf : Room := { frames := 1, cells := 0, slots := 0, locals := 21 }
set_option maxHeartbeats 4000000 in
set_option maxRecDepth 100000 in
theorem ct_X0_hostOf (l : Launch) (D : va_G) (cI cZ cJ : ClassId) (ad : Nat → Nat) (S : ZS) (hI : CI S) (x0 : Int) (hx0 : ir x0)  : Met l yX0_hostOf wsX0_hostOf rmct_X0_hostOf (zP D cI cZ cJ (dW cI ad S) [.ref (ad 2), .int (zi x0)]) (k2_QcV (.int (zi (rAt 20 (S 8) x0)))) 0 0 (fun _ => False) := by
  refine Met.ofW (cc := cX0_hostOf) (maxL := 2) (ret := (some .int)) (by decide) rfl ?_
  intro p e s m args below meth c s₁ B hml hv
  obtain ⟨rfl, hP, hK⟩ := hv
  have hx := B.exec
  have hb := B.bytes
  have hr := B.returns
  have hts := atoms_spec (ws := wsX0_hostOf) B.pre
  have hown : s.vm.findClass RX0 = some m.cls := findClass_of_methodNamed B.named
  have hlocks := B.notSynchronized
  have hl := lv_entry ([.ref (ad 2), .int (zi x0)]) (n := 2) (Nat.le_of_ble_eq_true rfl)
  rw [lg_entry_eq]
  generalize (lg_sl ([.ref (ad 2), .int (zi x0)]) ++ List.replicate (2 - (lg_sl ([.ref (ad 2), .int (zi x0)])).length) Slot.unset).toArray = ls at hl ⊢
  have hl : lv_has ls 2 [(0, .ref (ad 2)), (1, .int (zi x0))] := hl
  show W p l e rmct_X0_hostOf s m ([.ref (ad 2), .int (zi x0)] : List Value).toArray below meth c s.heap [] 0 0 (MQ below (k2_QcV (.int (zi (rAt 20 (S 8) x0)))) ([.ref (ad 2), .int (zi x0)] : List Value).toArray s 0 0 (fun _ => False)) (F0 m 0 ls [])
  refine lv_aload_n hx hb dX0_hostOf_0 rfl (lv_at hl 0 rfl) ?_
  refine va_get (D := D) (ci := 0) (v := .ref (ad 15)) (C := RX0) (T := TX0) (N := 8) hx hb hts in_X0_hostOf_0 hown hK.1 hP 2 rfl rfl 1 (by decide) (hts _ lk_X0_hostOf_20) (fun _ h9 => h9) rfl dX0_hostOf_1 ?_
  refine lv_iload_n hx hb dX0_hostOf_4 rfl (lv_at hl 1 rfl) ?_
  refine zk_r (zc_V (As := [.int (zi x0)]) (rest := []) ⟨hx, hb, hml, hown, hts⟩ (ct_X5_at l D cI cZ cJ (dW cI ad S) (ad 15) (ad 35) 15 35 20 (S 8) x0 rfl rfl (by decide) ⟨by omega, by omega⟩) (cwV 1 hts gX0_hostOf_X5_at rfl rfl rfl (by decide +kernel) ⟨Nat.le_of_ble_eq_true rfl, Nat.le_of_ble_eq_true rfl⟩) hK hP (q0 := 15) (ci := 5) rfl rfl rfl rfl hl.1 rfl (Nat.le_of_ble_eq_true rfl) dX0_hostOf_5 ⟨Nat.zero_le _, Nat.zero_le _⟩) ?_
  refine zi_top (fun (r_5 : Int) (er_5 : r_5 = rAt 20 (S 8) x0) => ?_)
  have fr_5 : (-1 : Int) ≤ r_5 ∧ r_5 ≤ 19 := by rw [er_5]; exact CI.at hI 8 20 x0 ⟨by decide, by decide⟩
  exact zr_i hx hb hr hlocks dX0_hostOf_8 (by subst_vars; rfl)

theorem in_X0_numberOf_0 : ∀ w ∈ wsX00, w ∈ wsX0_numberOf := by decide +kernel
theorem lk_X0_numberOf_26 : Cond.fieldLink RX0 26 "PlanetoidDesk$Bodies" "numbers" "LPlanetoidDesk$Row;" ∈ wsX0_numberOf := by decide +kernel
abbrev rmct_X0_numberOf : Room := { frames := 1, cells := 0, slots := 0, locals := 21 }
set_option maxHeartbeats 4000000 in
set_option maxRecDepth 100000 in
theorem ct_X0_numberOf (l : Launch) (D : va_G) (cI cZ cJ : ClassId) (ad : Nat → Nat) (S : ZS) (hI : CI S) (x0 : Int) (hx0 : ir x0)  : Met l yX0_numberOf wsX0_numberOf rmct_X0_numberOf (zP D cI cZ cJ (dW cI ad S) [.ref (ad 2), .int (zi x0)]) (k2_QcV (.int (zi (rAt 20 (S 10) x0)))) 0 0 (fun _ => False) := by
  refine Met.ofW (cc := cX0_numberOf) (maxL := 2) (ret := (some .int)) (by decide) rfl ?_
  intro p e s m args below meth c s₁ B hml hv
  obtain ⟨rfl, hP, hK⟩ := hv
  have hx := B.exec
  have hb := B.bytes
  have hr := B.returns
  have hts := atoms_spec (ws := wsX0_numberOf) B.pre
  have hown : s.vm.findClass RX0 = some m.cls := findClass_of_methodNamed B.named
  have hlocks := B.notSynchronized
  have hl := lv_entry ([.ref (ad 2), .int (zi x0)]) (n := 2) (Nat.le_of_ble_eq_true rfl)
  rw [lg_entry_eq]
  generalize (lg_sl ([.ref (ad 2), .int (zi x0)]) ++ List.replicate (2 - (lg_sl ([.ref (ad 2), .int (zi x0)])).length) Slot.unset).toArray = ls at hl ⊢
  have hl : lv_has ls 2 [(0, .ref (ad 2)), (1, .int (zi x0))] := hl
  show W p l e rmct_X0_numberOf s m ([.ref (ad 2), .int (zi x0)] : List Value).toArray below meth c s.heap [] 0 0 (MQ below (k2_QcV (.int (zi (rAt 20 (S 10) x0)))) ([.ref (ad 2), .int (zi x0)] : List Value).toArray s 0 0 (fun _ => False)) (F0 m 0 ls [])
  refine lv_aload_n hx hb dX0_numberOf_0 rfl (lv_at hl 0 rfl) ?_
  refine va_get (D := D) (ci := 0) (v := .ref (ad 17)) (C := RX0) (T := TX0) (N := 8) hx hb hts in_X0_numberOf_0 hown hK.1 hP 2 rfl rfl 3 (by decide) (hts _ lk_X0_numberOf_26) (fun _ h9 => h9) rfl dX0_numberOf_1 ?_
  refine lv_iload_n hx hb dX0_numberOf_4 rfl (lv_at hl 1 rfl) ?_
  refine zk_r (zc_V (As := [.int (zi x0)]) (rest := []) ⟨hx, hb, hml, hown, hts⟩ (ct_X5_at l D cI cZ cJ (dW cI ad S) (ad 17) (ad 37) 17 37 20 (S 10) x0 rfl rfl (by decide) ⟨by omega, by omega⟩) (cwV 1 hts gX0_numberOf_X5_at rfl rfl rfl (by decide +kernel) ⟨Nat.le_of_ble_eq_true rfl, Nat.le_of_ble_eq_true rfl⟩) hK hP (q0 := 17) (ci := 5) rfl rfl rfl rfl hl.1 rfl (Nat.le_of_ble_eq_true rfl) dX0_numberOf_5 ⟨Nat.zero_le _, Nat.zero_le _⟩) ?_
  refine zi_top (fun (r_5 : Int) (er_5 : r_5 = rAt 20 (S 10) x0) => ?_)
  have fr_5 : (-1 : Int) ≤ r_5 ∧ r_5 ≤ 20 := by rw [er_5]; exact CI.at hI 10 20 x0 ⟨by decide, by decide⟩
  exact zr_i hx hb hr hlocks dX0_numberOf_8 (by subst_vars; rfl)

theorem in_X0_properCourseOf_0 : ∀ w ∈ wsX00, w ∈ wsX0_properCourseOf := by decide +kernel
theorem lk_X0_properCourseOf_29 : Cond.fieldLink RX0 29 "PlanetoidDesk$Bodies" "properCourses" "LPlanetoidDesk$Row;" ∈ wsX0_properCourseOf := by decide +kernel
abbrev rmct_X0_properCourseOf : Room := { frames := 1, cells := 0, slots := 0, locals := 21 }
set_option maxHeartbeats 4000000 in
set_option maxRecDepth 100000 in
theorem ct_X0_properCourseOf (l : Launch) (D : va_G) (cI cZ cJ : ClassId) (ad : Nat → Nat) (S : ZS) (hI : CI S) (x0 : Int) (hx0 : ir x0)  : Met l yX0_properCourseOf wsX0_properCourseOf rmct_X0_properCourseOf (zP D cI cZ cJ (dW cI ad S) [.ref (ad 2), .int (zi x0)]) (k2_QcV (.int (zi (rAt 20 (S 11) x0)))) 0 0 (fun _ => False) := by
  refine Met.ofW (cc := cX0_properCourseOf) (maxL := 2) (ret := (some .int)) (by decide) rfl ?_
  intro p e s m args below meth c s₁ B hml hv
  obtain ⟨rfl, hP, hK⟩ := hv
  have hx := B.exec
  have hb := B.bytes
  have hr := B.returns
  have hts := atoms_spec (ws := wsX0_properCourseOf) B.pre
  have hown : s.vm.findClass RX0 = some m.cls := findClass_of_methodNamed B.named
  have hlocks := B.notSynchronized
  have hl := lv_entry ([.ref (ad 2), .int (zi x0)]) (n := 2) (Nat.le_of_ble_eq_true rfl)
  rw [lg_entry_eq]
  generalize (lg_sl ([.ref (ad 2), .int (zi x0)]) ++ List.replicate (2 - (lg_sl ([.ref (ad 2), .int (zi x0)])).length) Slot.unset).toArray = ls at hl ⊢
  have hl : lv_has ls 2 [(0, .ref (ad 2)), (1, .int (zi x0))] := hl
  show W p l e rmct_X0_properCourseOf s m ([.ref (ad 2), .int (zi x0)] : List Value).toArray below meth c s.heap [] 0 0 (MQ below (k2_QcV (.int (zi (rAt 20 (S 11) x0)))) ([.ref (ad 2), .int (zi x0)] : List Value).toArray s 0 0 (fun _ => False)) (F0 m 0 ls [])
  refine lv_aload_n hx hb dX0_properCourseOf_0 rfl (lv_at hl 0 rfl) ?_
  refine va_get (D := D) (ci := 0) (v := .ref (ad 18)) (C := RX0) (T := TX0) (N := 8) hx hb hts in_X0_properCourseOf_0 hown hK.1 hP 2 rfl rfl 4 (by decide) (hts _ lk_X0_properCourseOf_29) (fun _ h9 => h9) rfl dX0_properCourseOf_1 ?_
  refine lv_iload_n hx hb dX0_properCourseOf_4 rfl (lv_at hl 1 rfl) ?_
  refine zk_r (zc_V (As := [.int (zi x0)]) (rest := []) ⟨hx, hb, hml, hown, hts⟩ (ct_X5_at l D cI cZ cJ (dW cI ad S) (ad 18) (ad 38) 18 38 20 (S 11) x0 rfl rfl (by decide) ⟨by omega, by omega⟩) (cwV 1 hts gX0_properCourseOf_X5_at rfl rfl rfl (by decide +kernel) ⟨Nat.le_of_ble_eq_true rfl, Nat.le_of_ble_eq_true rfl⟩) hK hP (q0 := 18) (ci := 5) rfl rfl rfl rfl hl.1 rfl (Nat.le_of_ble_eq_true rfl) dX0_properCourseOf_5 ⟨Nat.zero_le _, Nat.zero_le _⟩) ?_
  refine zi_top (fun (r_5 : Int) (er_5 : r_5 = rAt 20 (S 11) x0) => ?_)
  have fr_5 : (0 : Int) ≤ r_5 ∧ r_5 ≤ 404 := by rw [er_5]; exact CI.at hI 11 20 x0 ⟨by decide, by decide⟩
  exact zr_i hx hb hr hlocks dX0_properCourseOf_8 (by subst_vars; rfl)

theorem in_X0_isUnlinked_0 : ∀ w ∈ wsX00, w ∈ wsX0_isUnlinked := by decide +kernel
theorem lk_X0_isUnlinked_14 : Cond.fieldLink RX0 14 "PlanetoidDesk$Bodies" "owners" "LPlanetoidDesk$Row;" ∈ wsX0_isUnlinked := by decide +kernel
abbrev rmct_X0_isUnlinked : Room := { frames := 1, cells := 0, slots := 0, locals := 21 }
set_option maxHeartbeats 4000000 in
set_option maxRecDepth 100000 in
theorem ct_X0_isUnlinked (l : Launch) (D : va_G) (cI cZ cJ : ClassId) (ad : Nat → Nat) (S : ZS) (hI : CI S) (x0 : Int) (hx0 : ir x0)  : Met l yX0_isUnlinked wsX0_isUnlinked rmct_X0_isUnlinked (zP D cI cZ cJ (dW cI ad S) [.ref (ad 2), .int (zi x0)]) (k2_QcV (.int (zi (b2 (rAt 60 (S 7) x0 = -1))))) 0 0 (fun _ => False) := by
  refine Met.ofW (cc := cX0_isUnlinked) (maxL := 2) (ret := (some .boolean)) (by decide) rfl ?_
  intro p e s m args below meth c s₁ B hml hv
  obtain ⟨rfl, hP, hK⟩ := hv
  have hx := B.exec
  have hb := B.bytes
  have hr := B.returns
  have hts := atoms_spec (ws := wsX0_isUnlinked) B.pre
  have hown : s.vm.findClass RX0 = some m.cls := findClass_of_methodNamed B.named
  have hlocks := B.notSynchronized
  have hl := lv_entry ([.ref (ad 2), .int (zi x0)]) (n := 2) (Nat.le_of_ble_eq_true rfl)
  rw [lg_entry_eq]
  generalize (lg_sl ([.ref (ad 2), .int (zi x0)]) ++ List.replicate (2 - (lg_sl ([.ref (ad 2), .int (zi x0)])).length) Slot.unset).toArray = ls at hl ⊢
  have hl : lv_has ls 2 [(0, .ref (ad 2)), (1, .int (zi x0))] := hl
  show W p l e rmct_X0_isUnlinked s m ([.ref (ad 2), .int (zi x0)] : List Value).toArray below meth c s.heap [] 0 0 (MQ below (k2_QcV (.int (zi (b2 (rAt 60 (S 7) x0 = -1))))) ([.ref (ad 2), .int (zi x0)] : List Value).toArray s 0 0 (fun _ => False)) (F0 m 0 ls [])
  refine lv_aload_n hx hb dX0_isUnlinked_0 rfl (lv_at hl 0 rfl) ?_
  refine va_get (D := D) (ci := 0) (v := .ref (ad 14)) (C := RX0) (T := TX0) (N := 8) hx hb hts in_X0_isUnlinked_0 hown hK.1 hP 2 rfl rfl 0 (by decide) (hts _ lk_X0_isUnlinked_14) (fun _ h9 => h9) rfl dX0_isUnlinked_1 ?_
  refine lv_iload_n hx hb dX0_isUnlinked_4 rfl (lv_at hl 1 rfl) ?_
  refine zk_r (zc_V (As := [.int (zi x0)]) (rest := []) ⟨hx, hb, hml, hown, hts⟩ (ct_X5_at l D cI cZ cJ (dW cI ad S) (ad 14) (ad 34) 14 34 60 (S 7) x0 rfl rfl (by decide) ⟨by omega, by omega⟩) (cwV 1 hts gX0_isUnlinked_X5_at rfl rfl rfl (by decide +kernel) ⟨Nat.le_of_ble_eq_true rfl, Nat.le_of_ble_eq_true rfl⟩) hK hP (q0 := 14) (ci := 5) rfl rfl rfl rfl hl.1 rfl (Nat.le_of_ble_eq_true rfl) dX0_isUnlinked_5 ⟨Nat.zero_le _, Nat.zero_le _⟩) ?_
  refine zi_top (fun (r_5 : Int) (er_5 : r_5 = rAt 60 (S 7) x0) => ?_)
  have fr_5 : (-1 : Int) ≤ r_5 ∧ r_5 ≤ 19 := by rw [er_5]; exact CI.at hI 7 60 x0 ⟨by decide, by decide⟩
  refine zi_iconst hx hb dX0_isUnlinked_8 ?_
  refine zi_icmp_ne (tgt := 16) hx hb ⟨by omega, by omega⟩ ⟨by decide, by decide⟩ dX0_isUnlinked_9 (by decide) (fun c_9 => ?_) (fun c_9 => ?_)
  · refine zi_iconst hx hb dX0_isUnlinked_16 ?_
    exact zr_z hx hb hr hlocks dX0_isUnlinked_17 (Or.inl rfl) (by subst_vars; first | exact (b2_t (by first | assumption | omega)).symm | exact (b2_f (by first | assumption | omega)).symm)
  · refine zi_iconst hx hb dX0_isUnlinked_12 ?_
    refine lv_goto (tgt := 17) hx hb dX0_isUnlinked_13 (by decide) ?_
    exact zr_z hx hb hr hlocks dX0_isUnlinked_17 (Or.inr rfl) (by subst_vars; first | exact (b2_t (by first | assumption | omega)).symm | exact (b2_f (by first | assumption | omega)).symm)

theorem in_X0_isFree_0 : ∀ w ∈ wsX00, w ∈ wsX0_isFree := by decide +kernel
theorem lk_X0_isFree_20 : Cond.fieldLink RX0 20 "PlanetoidDesk$Bodies" "hosts" "LPlanetoidDesk$Row;" ∈ wsX0_isFree := by decide +kernel
abbrev rmct_X0_isFree : Room := { frames := 1, cells := 0, slots := 0, locals := 21 }
set_option maxHeartbeats 4000000 in
set_option maxRecDepth 100000 in
theorem ct_X0_isFree (l : Launch) (D : va_G) (cI cZ cJ : ClassId) (ad : Nat → Nat) (S : ZS) (hI : CI S) (x0 : Int) (hx0 : ir x0)  : Met l yX0_isFree wsX0_isFree rmct_X0_isFree (zP D cI cZ cJ (dW cI ad S) [.ref (ad 2), .int (zi x0)]) (k2_QcV (.int (zi (b2 (rAt 20 (S 8) x0 = -1))))) 0 0 (fun _ => False) := by
  refine Met.ofW (cc := cX0_isFree) (maxL := 2) (ret := (some .boolean)) (by decide) rfl ?_
  intro p e s m args below meth c s₁ B hml hv
  obtain ⟨rfl, hP, hK⟩ := hv
  have hx := B.exec
  have hb := B.bytes
  have hr := B.returns
  have hts := atoms_spec (ws := wsX0_isFree) B.pre
  have hown : s.vm.findClass RX0 = some m.cls := findClass_of_methodNamed B.named
  have hlocks := B.notSynchronized
  have hl := lv_entry ([.ref (ad 2), .int (zi x0)]) (n := 2) (Nat.le_of_ble_eq_true rfl)
  rw [lg_entry_eq]
  generalize (lg_sl ([.ref (ad 2), .int (zi x0)]) ++ List.replicate (2 - (lg_sl ([.ref (ad 2), .int (zi x0)])).length) Slot.unset).toArray = ls at hl ⊢
  have hl : lv_has ls 2 [(0, .ref (ad 2)), (1, .int (zi x0))] := hl
  show W p l e rmct_X0_isFree s m ([.ref (ad 2), .int (zi x0)] : List Value).toArray below meth c s.heap [] 0 0 (MQ below (k2_QcV (.int (zi (b2 (rAt 20 (S 8) x0 = -1))))) ([.ref (ad 2), .int (zi x0)] : List Value).toArray s 0 0 (fun _ => False)) (F0 m 0 ls [])
  refine lv_aload_n hx hb dX0_isFree_0 rfl (lv_at hl 0 rfl) ?_
  refine va_get (D := D) (ci := 0) (v := .ref (ad 15)) (C := RX0) (T := TX0) (N := 8) hx hb hts in_X0_isFree_0 hown hK.1 hP 2 rfl rfl 1 (by decide) (hts _ lk_X0_isFree_20) (fun _ h9 => h9) rfl dX0_isFree_1 ?_
  refine lv_iload_n hx hb dX0_isFree_4 rfl (lv_at hl 1 rfl) ?_
  refine zk_r (zc_V (As := [.int (zi x0)]) (rest := []) ⟨hx, hb, hml, hown, hts⟩ (ct_X5_at l D cI cZ cJ (dW cI ad S) (ad 15) (ad 35) 15 35 20 (S 8) x0 rfl rfl (by decide) ⟨by omega, by omega⟩) (cwV 1 hts gX0_isFree_X5_at rfl rfl rfl (by decide +kernel) ⟨Nat.le_of_ble_eq_true rfl, Nat.le_of_ble_eq_true rfl⟩) hK hP (q0 := 15) (ci := 5) rfl rfl rfl rfl hl.1 rfl (Nat.le_of_ble_eq_true rfl) dX0_isFree_5 ⟨Nat.zero_le _, Nat.zero_le _⟩) ?_
  refine zi_top (fun (r_5 : Int) (er_5 : r_5 = rAt 20 (S 8) x0) => ?_)
  have fr_5 : (-1 : Int) ≤ r_5 ∧ r_5 ≤ 19 := by rw [er_5]; exact CI.at hI 8 20 x0 ⟨by decide, by decide⟩
  refine zi_iconst hx hb dX0_isFree_8 ?_
  refine zi_icmp_ne (tgt := 16) hx hb ⟨by omega, by omega⟩ ⟨by decide, by decide⟩ dX0_isFree_9 (by decide) (fun c_9 => ?_) (fun c_9 => ?_)
  · refine zi_iconst hx hb dX0_isFree_16 ?_
    exact zr_z hx hb hr hlocks dX0_isFree_17 (Or.inl rfl) (by subst_vars; first | exact (b2_t (by first | assumption | omega)).symm | exact (b2_f (by first | assumption | omega)).symm)
  · refine zi_iconst hx hb dX0_isFree_12 ?_
    refine lv_goto (tgt := 17) hx hb dX0_isFree_13 (by decide) ?_
    exact zr_z hx hb hr hlocks dX0_isFree_17 (Or.inr rfl) (by subst_vars; first | exact (b2_t (by first | assumption | omega)).symm | exact (b2_f (by first | assumption | omega)).symm)

theorem in_X0_countOwnDots_0 : ∀ w ∈ wsX00, w ∈ wsX0_countOwnDots := by decide +kernel
theorem lk_X0_countOwnDots_14 : Cond.fieldLink RX0 14 "PlanetoidDesk$Bodies" "owners" "LPlanetoidDesk$Row;" ∈ wsX0_countOwnDots := by decide +kernel
abbrev rmct_X0_countOwnDots : Room := { frames := 1, cells := 0, slots := 0, locals := 21 }
set_option maxHeartbeats 4000000 in
set_option maxRecDepth 100000 in
theorem ct_X0_countOwnDots (l : Launch) (D : va_G) (cI cZ cJ : ClassId) (ad : Nat → Nat) (S : ZS) (hI : CI S) (x0 : Int) (hx0 : ir x0)  : Met l yX0_countOwnDots wsX0_countOwnDots rmct_X0_countOwnDots (zP D cI cZ cJ (dW cI ad S) [.ref (ad 2), .int (zi x0)]) (k2_QcV (.int (zi (ownN S x0)))) 0 0 (fun _ => False) := by
  refine Met.ofW (cc := cX0_countOwnDots) (maxL := 4) (ret := (some .int)) (by decide) rfl ?_
  intro p e s m args below meth c s₁ B hml hv
  obtain ⟨rfl, hP, hK⟩ := hv
  have hx := B.exec
  have hb := B.bytes
  have hr := B.returns
  have hts := atoms_spec (ws := wsX0_countOwnDots) B.pre
  have hown : s.vm.findClass RX0 = some m.cls := findClass_of_methodNamed B.named
  have hlocks := B.notSynchronized
  have hl := lv_entry ([.ref (ad 2), .int (zi x0)]) (n := 4) (Nat.le_of_ble_eq_true rfl)
  rw [lg_entry_eq]
  generalize (lg_sl ([.ref (ad 2), .int (zi x0)]) ++ List.replicate (4 - (lg_sl ([.ref (ad 2), .int (zi x0)])).length) Slot.unset).toArray = ls at hl ⊢
  have hl : lv_has ls 4 [(0, .ref (ad 2)), (1, .int (zi x0))] := hl
  show W p l e rmct_X0_countOwnDots s m ([.ref (ad 2), .int (zi x0)] : List Value).toArray below meth c s.heap [] 0 0 (MQ below (k2_QcV (.int (zi (ownN S x0)))) ([.ref (ad 2), .int (zi x0)] : List Value).toArray s 0 0 (fun _ => False)) (F0 m 0 ls [])
  refine zi_iconst hx hb dX0_countOwnDots_0 ?_
  refine lv_istore_n (lv' := [(2, .int (zi 0)), (0, .ref (ad 2)), (1, .int (zi x0))]) hx hb dX0_countOwnDots_1 rfl hl (by decide) rfl (fun ls hl => ?_)
  refine zi_iconst hx hb dX0_countOwnDots_2 ?_
  have K_4 : ∀ (k : Nat) (n : Nat) (acc i : Int), (i + (n : Int) = 60) → (0 ≤ i) → (itr (fun j acc => if rAt 60 (S 7) j = x0 then acc + 1 else acc) n i acc = ownN S x0) → (0 ≤ acc ∧ acc ≤ i) → ((n : Int) < (k : Int)) → ∀ (ls : Array Slot), lv_has ls 4 [(0, .ref (ad 2)), (1, .int (zi x0)), (2, .int (zi acc)), (3, .int (zi i))] → W p l e rmct_X0_countOwnDots s m ([.ref (ad 2), .int (zi x0)] : List Value).toArray below meth c s.heap [] 0 0 (MQ below (k2_QcV (.int (zi (ownN S x0)))) ([.ref (ad 2), .int (zi x0)] : List Value).toArray s 0 0 (fun _ => False)) (F0 m 4 ls []) := by
    intro k
    induction k with
    | zero => intro n acc i h_n h_i h_R h_a hk; exact absurd hk (by omega)
    | succ k ih_4 =>
      intro n acc i h_n h_i h_R h_a hk ls hl
      refine lv_iload_n hx hb dX0_countOwnDots_4 rfl (lv_at hl 3 rfl) ?_
      refine zi_bipush hx hb dX0_countOwnDots_5 (by decide) ?_
      refine zi_icmp_ge (tgt := 31) hx hb ⟨by omega, by omega⟩ ⟨by decide, by decide⟩ dX0_countOwnDots_7 (by decide) (fun c_7 => ?_) (fun c_7 => ?_)
      · obtain rfl : n = 0 := by omega
        refine lv_iload_n hx hb dX0_countOwnDots_31 rfl (lv_at hl 2 rfl) ?_
        exact zr_i hx hb hr hlocks dX0_countOwnDots_32 (by exact h_R)
      · obtain ⟨n, rfl⟩ : ∃ n9 : Nat, n = n9 + 1 := ⟨n - 1, by omega⟩
        refine lv_aload_n hx hb dX0_countOwnDots_10 rfl (lv_at hl 0 rfl) ?_
        refine va_get (D := D) (ci := 0) (v := .ref (ad 14)) (C := RX0) (T := TX0) (N := 8) hx hb hts in_X0_countOwnDots_0 hown hK.1 hP 2 rfl rfl 0 (by decide) (hts _ lk_X0_countOwnDots_14) (fun _ h9 => h9) rfl dX0_countOwnDots_11 ?_
        refine lv_iload_n hx hb dX0_countOwnDots_14 rfl (lv_at hl 3 rfl) ?_
        refine zk_r (zc_V (As := [.int (zi i)]) (rest := []) ⟨hx, hb, hml, hown, hts⟩ (ct_X5_at l D cI cZ cJ (dW cI ad S) (ad 14) (ad 34) 14 34 60 (S 7) i rfl rfl (by decide) ⟨by omega, by omega⟩) (cwV 1 hts gX0_countOwnDots_X5_at rfl rfl rfl (by decide +kernel) ⟨Nat.le_of_ble_eq_true rfl, Nat.le_of_ble_eq_true rfl⟩) hK hP (q0 := 14) (ci := 5) rfl rfl rfl rfl hl.1 rfl (Nat.le_of_ble_eq_true rfl) dX0_countOwnDots_15 ⟨Nat.zero_le _, Nat.zero_le _⟩) ?_
        refine zi_top (fun (r_15 : Int) (er_15 : r_15 = rAt 60 (S 7) i) => ?_)
        have fr_15 : (-1 : Int) ≤ r_15 ∧ r_15 ≤ 19 := by rw [er_15]; exact CI.at hI 7 60 i ⟨by decide, by decide⟩
        refine lv_iload_n hx hb dX0_countOwnDots_18 rfl (lv_at hl 1 rfl) ?_
        refine zi_icmp_ne (tgt := 25) hx hb ⟨by omega, by omega⟩ ⟨by omega, by omega⟩ dX0_countOwnDots_19 (by decide) (fun c_19 => ?_) (fun c_19 => ?_)
        · refine zi_iinc (k := 3) (lv' := [(3, .int (zi (i + 1))), (0, .ref (ad 2)), (1, .int (zi x0)), (2, .int (zi acc))]) hx hb dX0_countOwnDots_25 hl rfl (by decide) rfl (fun ls hl => ?_)
          refine lv_goto (tgt := 4) hx hb dX0_countOwnDots_28 (by decide) ?_
          exact ih_4 n acc (i + 1) (by first | omega | assumption) (by first | omega | assumption) (by rw [← h_R, itr_s]; congr 1; first | exact (if_pos (by rw [← er_15]; first | assumption | omega)).symm | exact (if_neg (by rw [← er_15]; first | assumption | omega)).symm) ⟨by omega, by omega⟩ (by omega) _ (lv_sub hl [1, 2, 3, 0] rfl)
        · refine zi_iinc (k := 2) (lv' := [(2, .int (zi (acc + 1))), (0, .ref (ad 2)), (1, .int (zi x0)), (3, .int (zi i))]) hx hb dX0_countOwnDots_22 hl rfl (by decide) rfl (fun ls hl => ?_)
          refine zi_iinc (k := 3) (lv' := [(3, .int (zi (i + 1))), (2, .int (zi (acc + 1))), (0, .ref (ad 2)), (1, .int (zi x0))]) hx hb dX0_countOwnDots_25 hl rfl (by decide) rfl (fun ls hl => ?_)
          refine lv_goto (tgt := 4) hx hb dX0_countOwnDots_28 (by decide) ?_
          exact ih_4 n (acc + 1) (i + 1) (by first | omega | assumption) (by first | omega | assumption) (by rw [← h_R, itr_s]; congr 1; first | exact (if_pos (by rw [← er_15]; first | assumption | omega)).symm | exact (if_neg (by rw [← er_15]; first | assumption | omega)).symm) ⟨by omega, by omega⟩ (by omega) _ (lv_sub hl [2, 3, 1, 0] rfl)
  refine lv_istore_n (lv' := [(3, .int (zi 0)), (2, .int (zi 0)), (0, .ref (ad 2)), (1, .int (zi x0))]) hx hb dX0_countOwnDots_3 rfl hl (by decide) rfl (fun ls hl => ?_)
  exact K_4 (60 + 1) 60 0 0 (by first | omega | assumption) (by first | omega | assumption) rfl ⟨by omega, by omega⟩ (by omega) _ (lv_sub hl [2, 3, 1, 0] rfl)

theorem in_X0_countJoinedTo_0 : ∀ w ∈ wsX00, w ∈ wsX0_countJoinedTo := by decide +kernel
theorem lk_X0_countJoinedTo_35 : Cond.fieldLink RX0 35 "PlanetoidDesk$Bodies" "count" "I" ∈ wsX0_countJoinedTo := by decide +kernel
theorem lk_X0_countJoinedTo_20 : Cond.fieldLink RX0 20 "PlanetoidDesk$Bodies" "hosts" "LPlanetoidDesk$Row;" ∈ wsX0_countJoinedTo := by decide +kernel
abbrev rmct_X0_countJoinedTo : Room := { frames := 1, cells := 0, slots := 0, locals := 21 }
set_option maxHeartbeats 4000000 in
set_option maxRecDepth 100000 in
theorem ct_X0_countJoinedTo (l : Launch) (D : va_G) (cI cZ cJ : ClassId) (ad : Nat → Nat) (S : ZS) (hI : CI S) (x0 : Int) (hx0 : ir x0)  : Met l yX0_countJoinedTo wsX0_countJoinedTo rmct_X0_countJoinedTo (zP D cI cZ cJ (dW cI ad S) [.ref (ad 2), .int (zi x0)]) (k2_QcV (.int (zi (joinN S x0)))) 0 0 (fun _ => False) := by
  refine Met.ofW (cc := cX0_countJoinedTo) (maxL := 4) (ret := (some .int)) (by decide) rfl ?_
  intro p e s m args below meth c s₁ B hml hv
  obtain ⟨rfl, hP, hK⟩ := hv
  have hx := B.exec
  have hb := B.bytes
  have hr := B.returns
  have hts := atoms_spec (ws := wsX0_countJoinedTo) B.pre
  have hown : s.vm.findClass RX0 = some m.cls := findClass_of_methodNamed B.named
  have hlocks := B.notSynchronized
  have hl := lv_entry ([.ref (ad 2), .int (zi x0)]) (n := 4) (Nat.le_of_ble_eq_true rfl)
  rw [lg_entry_eq]
  generalize (lg_sl ([.ref (ad 2), .int (zi x0)]) ++ List.replicate (4 - (lg_sl ([.ref (ad 2), .int (zi x0)])).length) Slot.unset).toArray = ls at hl ⊢
  have hl : lv_has ls 4 [(0, .ref (ad 2)), (1, .int (zi x0))] := hl
  show W p l e rmct_X0_countJoinedTo s m ([.ref (ad 2), .int (zi x0)] : List Value).toArray below meth c s.heap [] 0 0 (MQ below (k2_QcV (.int (zi (joinN S x0)))) ([.ref (ad 2), .int (zi x0)] : List Value).toArray s 0 0 (fun _ => False)) (F0 m 0 ls [])
  have hc0 : (0 : Int) ≤ S 23 0 ∧ S 23 0 ≤ 20 := hI 23 0
  refine zi_iconst hx hb dX0_countJoinedTo_0 ?_
  refine lv_istore_n (lv' := [(2, .int (zi 0)), (0, .ref (ad 2)), (1, .int (zi x0))]) hx hb dX0_countJoinedTo_1 rfl hl (by decide) rfl (fun ls hl => ?_)
  refine zi_iconst hx hb dX0_countJoinedTo_2 ?_
  have K_4 : ∀ (k : Nat) (n : Nat) (acc i : Int), (i + (n : Int) = S 23 0) → (0 ≤ i) → (itr (fun j acc => if rAt 20 (S 8) j = x0 then acc + 1 else acc) n i acc = joinN S x0) → (0 ≤ acc ∧ acc ≤ i) → ((n : Int) < (k : Int)) → ∀ (ls : Array Slot), lv_has ls 4 [(0, .ref (ad 2)), (1, .int (zi x0)), (2, .int (zi acc)), (3, .int (zi i))] → W p l e rmct_X0_countJoinedTo s m ([.ref (ad 2), .int (zi x0)] : List Value).toArray below meth c s.heap [] 0 0 (MQ below (k2_QcV (.int (zi (joinN S x0)))) ([.ref (ad 2), .int (zi x0)] : List Value).toArray s 0 0 (fun _ => False)) (F0 m 4 ls []) := by
    intro k
    induction k with
    | zero => intro n acc i h_n h_i h_R h_a hk; exact absurd hk (by omega)
    | succ k ih_4 =>
      intro n acc i h_n h_i h_R h_a hk ls hl
      refine lv_iload_n hx hb dX0_countJoinedTo_4 rfl (lv_at hl 3 rfl) ?_
      refine lv_aload_n hx hb dX0_countJoinedTo_5 rfl (lv_at hl 0 rfl) ?_
      refine va_get (D := D) (ci := 0) (v := .int (zi (S 23 0))) (C := RX0) (T := TX0) (N := 8) hx hb hts in_X0_countJoinedTo_0 hown hK.1 hP 2 rfl rfl 5 (by decide) (hts _ lk_X0_countJoinedTo_35) (fun _ h9 => h9) rfl dX0_countJoinedTo_6 ?_
      have f_6 : (0 : Int) ≤ S 23 0 ∧ S 23 0 ≤ 20 := hI 23 0
      refine zi_icmp_ge (tgt := 33) hx hb ⟨by omega, by omega⟩ ⟨by omega, by omega⟩ dX0_countJoinedTo_9 (by decide) (fun c_9 => ?_) (fun c_9 => ?_)
      · obtain rfl : n = 0 := by omega
        refine lv_iload_n hx hb dX0_countJoinedTo_33 rfl (lv_at hl 2 rfl) ?_
        exact zr_i hx hb hr hlocks dX0_countJoinedTo_34 (by exact h_R)
      · obtain ⟨n, rfl⟩ : ∃ n9 : Nat, n = n9 + 1 := ⟨n - 1, by omega⟩
        refine lv_aload_n hx hb dX0_countJoinedTo_12 rfl (lv_at hl 0 rfl) ?_
        refine va_get (D := D) (ci := 0) (v := .ref (ad 15)) (C := RX0) (T := TX0) (N := 8) hx hb hts in_X0_countJoinedTo_0 hown hK.1 hP 2 rfl rfl 1 (by decide) (hts _ lk_X0_countJoinedTo_20) (fun _ h9 => h9) rfl dX0_countJoinedTo_13 ?_
        refine lv_iload_n hx hb dX0_countJoinedTo_16 rfl (lv_at hl 3 rfl) ?_
        refine zk_r (zc_V (As := [.int (zi i)]) (rest := []) ⟨hx, hb, hml, hown, hts⟩ (ct_X5_at l D cI cZ cJ (dW cI ad S) (ad 15) (ad 35) 15 35 20 (S 8) i rfl rfl (by decide) ⟨by omega, by omega⟩) (cwV 1 hts gX0_countJoinedTo_X5_at rfl rfl rfl (by decide +kernel) ⟨Nat.le_of_ble_eq_true rfl, Nat.le_of_ble_eq_true rfl⟩) hK hP (q0 := 15) (ci := 5) rfl rfl rfl rfl hl.1 rfl (Nat.le_of_ble_eq_true rfl) dX0_countJoinedTo_17 ⟨Nat.zero_le _, Nat.zero_le _⟩) ?_
        refine zi_top (fun (r_17 : Int) (er_17 : r_17 = rAt 20 (S 8) i) => ?_)
        have fr_17 : (-1 : Int) ≤ r_17 ∧ r_17 ≤ 19 := by rw [er_17]; exact CI.at hI 8 20 i ⟨by decide, by decide⟩
        refine lv_iload_n hx hb dX0_countJoinedTo_20 rfl (lv_at hl 1 rfl) ?_
        refine zi_icmp_ne (tgt := 27) hx hb ⟨by omega, by omega⟩ ⟨by omega, by omega⟩ dX0_countJoinedTo_21 (by decide) (fun c_21 => ?_) (fun c_21 => ?_)
        · refine zi_iinc (k := 3) (lv' := [(3, .int (zi (i + 1))), (0, .ref (ad 2)), (1, .int (zi x0)), (2, .int (zi acc))]) hx hb dX0_countJoinedTo_27 hl rfl (by decide) rfl (fun ls hl => ?_)
          refine lv_goto (tgt := 4) hx hb dX0_countJoinedTo_30 (by decide) ?_
          exact ih_4 n acc (i + 1) (by first | omega | assumption) (by first | omega | assumption) (by rw [← h_R, itr_s]; congr 1; first | exact (if_pos (by rw [← er_17]; first | assumption | omega)).symm | exact (if_neg (by rw [← er_17]; first | assumption | omega)).symm) ⟨by omega, by omega⟩ (by omega) _ (lv_sub hl [1, 2, 3, 0] rfl)
        · refine zi_iinc (k := 2) (lv' := [(2, .int (zi (acc + 1))), (0, .ref (ad 2)), (1, .int (zi x0)), (3, .int (zi i))]) hx hb dX0_countJoinedTo_24 hl rfl (by decide) rfl (fun ls hl => ?_)
          refine zi_iinc (k := 3) (lv' := [(3, .int (zi (i + 1))), (2, .int (zi (acc + 1))), (0, .ref (ad 2)), (1, .int (zi x0))]) hx hb dX0_countJoinedTo_27 hl rfl (by decide) rfl (fun ls hl => ?_)
          refine lv_goto (tgt := 4) hx hb dX0_countJoinedTo_30 (by decide) ?_
          exact ih_4 n (acc + 1) (i + 1) (by first | omega | assumption) (by first | omega | assumption) (by rw [← h_R, itr_s]; congr 1; first | exact (if_pos (by rw [← er_17]; first | assumption | omega)).symm | exact (if_neg (by rw [← er_17]; first | assumption | omega)).symm) ⟨by omega, by omega⟩ (by omega) _ (lv_sub hl [2, 3, 1, 0] rfl)
  refine lv_istore_n (lv' := [(3, .int (zi 0)), (2, .int (zi 0)), (0, .ref (ad 2)), (1, .int (zi x0))]) hx hb dX0_countJoinedTo_3 rfl hl (by decide) rfl (fun ls hl => ?_)
  exact K_4 ((S 23 0).toNat + 1) ((S 23 0).toNat) 0 0 (by first | omega | assumption) (by first | omega | assumption) rfl ⟨by omega, by omega⟩ (by omega) _ (lv_sub hl [2, 3, 1, 0] rfl)

theorem in_X0_withNumber_0 : ∀ w ∈ wsX00, w ∈ wsX0_withNumber := by decide +kernel
theorem lk_X0_withNumber_35 : Cond.fieldLink RX0 35 "PlanetoidDesk$Bodies" "count" "I" ∈ wsX0_withNumber := by decide +kernel
theorem lk_X0_withNumber_26 : Cond.fieldLink RX0 26 "PlanetoidDesk$Bodies" "numbers" "LPlanetoidDesk$Row;" ∈ wsX0_withNumber := by decide +kernel
abbrev rmct_X0_withNumber : Room := { frames := 1, cells := 0, slots := 0, locals := 21 }
set_option maxHeartbeats 4000000 in
set_option maxRecDepth 100000 in
theorem ct_X0_withNumber (l : Launch) (D : va_G) (cI cZ cJ : ClassId) (ad : Nat → Nat) (S : ZS) (hI : CI S) (x0 : Int) (hx0 : ir x0)  : Met l yX0_withNumber wsX0_withNumber rmct_X0_withNumber (zP D cI cZ cJ (dW cI ad S) [.ref (ad 2), .int (zi x0)]) (k2_QcV (.int (zi (withC S x0)))) 0 0 (fun _ => False) := by
  refine Met.ofW (cc := cX0_withNumber) (maxL := 3) (ret := (some .int)) (by decide) rfl ?_
  intro p e s m args below meth c s₁ B hml hv
  obtain ⟨rfl, hP, hK⟩ := hv
  have hx := B.exec
  have hb := B.bytes
  have hr := B.returns
  have hts := atoms_spec (ws := wsX0_withNumber) B.pre
  have hown : s.vm.findClass RX0 = some m.cls := findClass_of_methodNamed B.named
  have hlocks := B.notSynchronized
  have hl := lv_entry ([.ref (ad 2), .int (zi x0)]) (n := 3) (Nat.le_of_ble_eq_true rfl)
  rw [lg_entry_eq]
  generalize (lg_sl ([.ref (ad 2), .int (zi x0)]) ++ List.replicate (3 - (lg_sl ([.ref (ad 2), .int (zi x0)])).length) Slot.unset).toArray = ls at hl ⊢
  have hl : lv_has ls 3 [(0, .ref (ad 2)), (1, .int (zi x0))] := hl
  show W p l e rmct_X0_withNumber s m ([.ref (ad 2), .int (zi x0)] : List Value).toArray below meth c s.heap [] 0 0 (MQ below (k2_QcV (.int (zi (withC S x0)))) ([.ref (ad 2), .int (zi x0)] : List Value).toArray s 0 0 (fun _ => False)) (F0 m 0 ls [])
  have hc0 : (0 : Int) ≤ S 23 0 ∧ S 23 0 ≤ 20 := hI 23 0
  refine zi_iconst hx hb dX0_withNumber_0 ?_
  have K_2 : ∀ (k : Nat) (n : Nat) (i : Int), (i + (n : Int) = S 23 0) → (0 ≤ i) → (fstC (fun j => rAt 20 (S 10) j = x0) n i = withC S x0) → ((n : Int) < (k : Int)) → ∀ (ls : Array Slot), lv_has ls 3 [(0, .ref (ad 2)), (1, .int (zi x0)), (2, .int (zi i))] → W p l e rmct_X0_withNumber s m ([.ref (ad 2), .int (zi x0)] : List Value).toArray below meth c s.heap [] 0 0 (MQ below (k2_QcV (.int (zi (withC S x0)))) ([.ref (ad 2), .int (zi x0)] : List Value).toArray s 0 0 (fun _ => False)) (F0 m 2 ls []) := by
    intro k
    induction k with
    | zero => intro n i h_n h_i h_R hk; exact absurd hk (by omega)
    | succ k ih_2 =>
      intro n i h_n h_i h_R hk ls hl
      refine lv_iload_n hx hb dX0_withNumber_2 rfl (lv_at hl 2 rfl) ?_
      refine lv_aload_n hx hb dX0_withNumber_3 rfl (lv_at hl 0 rfl) ?_
      refine va_get (D := D) (ci := 0) (v := .int (zi (S 23 0))) (C := RX0) (T := TX0) (N := 8) hx hb hts in_X0_withNumber_0 hown hK.1 hP 2 rfl rfl 5 (by decide) (hts _ lk_X0_withNumber_35) (fun _ h9 => h9) rfl dX0_withNumber_4 ?_
      have f_4 : (0 : Int) ≤ S 23 0 ∧ S 23 0 ≤ 20 := hI 23 0
      refine zi_icmp_ge (tgt := 30) hx hb ⟨by omega, by omega⟩ ⟨by omega, by omega⟩ dX0_withNumber_7 (by decide) (fun c_7 => ?_) (fun c_7 => ?_)
      · obtain rfl : n = 0 := by omega
        refine zi_iconst hx hb dX0_withNumber_30 ?_
        exact zr_i hx hb hr hlocks dX0_withNumber_31 (by exact h_R)
      · obtain ⟨n, rfl⟩ : ∃ n9 : Nat, n = n9 + 1 := ⟨n - 1, by omega⟩
        refine lv_aload_n hx hb dX0_withNumber_10 rfl (lv_at hl 0 rfl) ?_
        refine va_get (D := D) (ci := 0) (v := .ref (ad 17)) (C := RX0) (T := TX0) (N := 8) hx hb hts in_X0_withNumber_0 hown hK.1 hP 2 rfl rfl 3 (by decide) (hts _ lk_X0_withNumber_26) (fun _ h9 => h9) rfl dX0_withNumber_11 ?_
        refine lv_iload_n hx hb dX0_withNumber_14 rfl (lv_at hl 2 rfl) ?_
        refine zk_r (zc_V (As := [.int (zi i)]) (rest := []) ⟨hx, hb, hml, hown, hts⟩ (ct_X5_at l D cI cZ cJ (dW cI ad S) (ad 17) (ad 37) 17 37 20 (S 10) i rfl rfl (by decide) ⟨by omega, by omega⟩) (cwV 1 hts gX0_withNumber_X5_at rfl rfl rfl (by decide +kernel) ⟨Nat.le_of_ble_eq_true rfl, Nat.le_of_ble_eq_true rfl⟩) hK hP (q0 := 17) (ci := 5) rfl rfl rfl rfl hl.1 rfl (Nat.le_of_ble_eq_true rfl) dX0_withNumber_15 ⟨Nat.zero_le _, Nat.zero_le _⟩) ?_
        refine zi_top (fun (r_15 : Int) (er_15 : r_15 = rAt 20 (S 10) i) => ?_)
        have fr_15 : (-1 : Int) ≤ r_15 ∧ r_15 ≤ 20 := by rw [er_15]; exact CI.at hI 10 20 i ⟨by decide, by decide⟩
        refine lv_iload_n hx hb dX0_withNumber_18 rfl (lv_at hl 1 rfl) ?_
        refine zi_icmp_ne (tgt := 24) hx hb ⟨by omega, by omega⟩ ⟨by omega, by omega⟩ dX0_withNumber_19 (by decide) (fun c_19 => ?_) (fun c_19 => ?_)
        · refine zi_iinc (k := 2) (lv' := [(2, .int (zi (i + 1))), (0, .ref (ad 2)), (1, .int (zi x0))]) hx hb dX0_withNumber_24 hl rfl (by decide) rfl (fun ls hl => ?_)
          refine lv_goto (tgt := 2) hx hb dX0_withNumber_27 (by decide) ?_
          exact ih_2 n (i + 1) (by first | omega | assumption) (by first | omega | assumption) (by rw [← h_R]; exact (if_neg (fun h9 => c_19 (er_15.trans h9))).symm) (by omega) _ (lv_sub hl [1, 2, 0] rfl)
        · refine lv_iload_n hx hb dX0_withNumber_22 rfl (lv_at hl 2 rfl) ?_
          exact zr_i hx hb hr hlocks dX0_withNumber_23 (by rw [← h_R]; exact (if_pos (show rAt 20 (S 10) i = x0 from er_15.symm.trans c_19)).symm)
  refine lv_istore_n (lv' := [(2, .int (zi 0)), (0, .ref (ad 2)), (1, .int (zi x0))]) hx hb dX0_withNumber_1 rfl hl (by decide) rfl (fun ls hl => ?_)
  exact K_2 ((S 23 0).toNat + 1) ((S 23 0).toNat) 0 (by first | omega | assumption) (by first | omega | assumption) rfl (by omega) _ (lv_sub hl [1, 2, 0] rfl)

theorem in_X0_latestJoinedTo_0 : ∀ w ∈ wsX00, w ∈ wsX0_latestJoinedTo := by decide +kernel
theorem lk_X0_latestJoinedTo_35 : Cond.fieldLink RX0 35 "PlanetoidDesk$Bodies" "count" "I" ∈ wsX0_latestJoinedTo := by decide +kernel
theorem lk_X0_latestJoinedTo_20 : Cond.fieldLink RX0 20 "PlanetoidDesk$Bodies" "hosts" "LPlanetoidDesk$Row;" ∈ wsX0_latestJoinedTo := by decide +kernel
theorem lk_X0_latestJoinedTo_23 : Cond.fieldLink RX0 23 "PlanetoidDesk$Bodies" "joinTimes" "LPlanetoidDesk$Row;" ∈ wsX0_latestJoinedTo := by decide +kernel
abbrev rmct_X0_latestJoinedTo : Room := { frames := 1, cells := 0, slots := 0, locals := 21 }
set_option maxHeartbeats 4000000 in
set_option maxRecDepth 100000 in
theorem ct_X0_latestJoinedTo (l : Launch) (D : va_G) (cI cZ cJ : ClassId) (ad : Nat → Nat) (S : ZS) (hI : CI S) (x0 : Int) (hx0 : ir x0)  : Met l yX0_latestJoinedTo wsX0_latestJoinedTo rmct_X0_latestJoinedTo (zP D cI cZ cJ (dW cI ad S) [.ref (ad 2), .int (zi x0)]) (k2_QcV (.int (zi (lateN S x0)))) 0 0 (fun _ => False) := by
  refine Met.ofW (cc := cX0_latestJoinedTo) (maxL := 5) (ret := (some .int)) (by decide) rfl ?_
  intro p e s m args below meth c s₁ B hml hv
  obtain ⟨rfl, hP, hK⟩ := hv
  have hx := B.exec
  have hb := B.bytes
  have hr := B.returns
  have hts := atoms_spec (ws := wsX0_latestJoinedTo) B.pre
  have hown : s.vm.findClass RX0 = some m.cls := findClass_of_methodNamed B.named
  have hlocks := B.notSynchronized
  have hl := lv_entry ([.ref (ad 2), .int (zi x0)]) (n := 5) (Nat.le_of_ble_eq_true rfl)
  rw [lg_entry_eq]
  generalize (lg_sl ([.ref (ad 2), .int (zi x0)]) ++ List.replicate (5 - (lg_sl ([.ref (ad 2), .int (zi x0)])).length) Slot.unset).toArray = ls at hl ⊢
  have hl : lv_has ls 5 [(0, .ref (ad 2)), (1, .int (zi x0))] := hl
  show W p l e rmct_X0_latestJoinedTo s m ([.ref (ad 2), .int (zi x0)] : List Value).toArray below meth c s.heap [] 0 0 (MQ below (k2_QcV (.int (zi (lateN S x0)))) ([.ref (ad 2), .int (zi x0)] : List Value).toArray s 0 0 (fun _ => False)) (F0 m 0 ls [])
  have hc0 : (0 : Int) ≤ S 23 0 ∧ S 23 0 ≤ 20 := hI 23 0
  refine zi_iconst hx hb dX0_latestJoinedTo_0 ?_
  refine lv_istore_n (lv' := [(2, .int (zi (-1))), (0, .ref (ad 2)), (1, .int (zi x0))]) hx hb dX0_latestJoinedTo_1 rfl hl (by decide) rfl (fun ls hl => ?_)
  refine zi_iconst hx hb dX0_latestJoinedTo_2 ?_
  have K_4 : ∀ (k : Nat) (n : Nat) (acc i : Int), (i + (n : Int) = S 23 0) → (0 ≤ i) → (itr (lateF S x0) n i acc = lateN S x0) → (-1 ≤ acc ∧ acc ≤ i) → ((n : Int) < (k : Int)) → ∀ (ls : Array Slot), lv_has ls 5 [(0, .ref (ad 2)), (1, .int (zi x0)), (2, .int (zi acc)), (3, .int (zi i))] → W p l e rmct_X0_latestJoinedTo s m ([.ref (ad 2), .int (zi x0)] : List Value).toArray below meth c s.heap [] 0 0 (MQ below (k2_QcV (.int (zi (lateN S x0)))) ([.ref (ad 2), .int (zi x0)] : List Value).toArray s 0 0 (fun _ => False)) (F0 m 4 ls []) := by
    intro k
    induction k with
    | zero => intro n acc i h_n h_i h_R h_a hk; exact absurd hk (by omega)
    | succ k ih_4 =>
      intro n acc i h_n h_i h_R h_a hk ls hl
      refine lv_iload_n hx hb dX0_latestJoinedTo_4 rfl (lv_at hl 3 rfl) ?_
      refine lv_aload_n hx hb dX0_latestJoinedTo_5 rfl (lv_at hl 0 rfl) ?_
      refine va_get (D := D) (ci := 0) (v := .int (zi (S 23 0))) (C := RX0) (T := TX0) (N := 8) hx hb hts in_X0_latestJoinedTo_0 hown hK.1 hP 2 rfl rfl 5 (by decide) (hts _ lk_X0_latestJoinedTo_35) (fun _ h9 => h9) rfl dX0_latestJoinedTo_6 ?_
      have f_6 : (0 : Int) ≤ S 23 0 ∧ S 23 0 ≤ 20 := hI 23 0
      refine zi_icmp_ge (tgt := 68) hx hb ⟨by omega, by omega⟩ ⟨by omega, by omega⟩ dX0_latestJoinedTo_9 (by decide) (fun c_9 => ?_) (fun c_9 => ?_)
      · obtain rfl : n = 0 := by omega
        refine lv_iload_n hx hb dX0_latestJoinedTo_68 rfl (lv_at hl 2 rfl) ?_
        exact zr_i hx hb hr hlocks dX0_latestJoinedTo_69 (by exact h_R)
      · obtain ⟨n, rfl⟩ : ∃ n9 : Nat, n = n9 + 1 := ⟨n - 1, by omega⟩
        refine lv_iload_n hx hb dX0_latestJoinedTo_12 rfl (lv_at hl 2 rfl) ?_
        refine zi_iconst hx hb dX0_latestJoinedTo_13 ?_
        have K_41 : ∀ (bl : Int), (bl = b2 (acc = -1 ∨ rAt 20 (S 9) acc < rAt 20 (S 9) i)) → ∀ (ls : Array Slot), lv_has ls 5 [(0, .ref (ad 2)), (1, .int (zi x0)), (2, .int (zi acc)), (3, .int (zi i))] → W p l e rmct_X0_latestJoinedTo s m ([.ref (ad 2), .int (zi x0)] : List Value).toArray below meth c s.heap [] 0 0 (MQ below (k2_QcV (.int (zi (lateN S x0)))) ([.ref (ad 2), .int (zi x0)] : List Value).toArray s 0 0 (fun _ => False)) (F0 m 41 ls [.int (zi bl)]) := by
          intro bl h_bl ls hl
          have h_bb : 0 ≤ bl ∧ bl ≤ 1 := by rw [h_bl]; exact b2_b
          refine lv_istore (lv' := [(4, .int (zi bl)), (0, .ref (ad 2)), (1, .int (zi x0)), (2, .int (zi acc)), (3, .int (zi i))]) hx hb dX0_latestJoinedTo_41 hl (by decide) rfl (fun ls hl => ?_)
          refine lv_aload_n hx hb dX0_latestJoinedTo_43 rfl (lv_at hl 1 rfl) ?_
          refine va_get (D := D) (ci := 0) (v := .ref (ad 15)) (C := RX0) (T := TX0) (N := 8) hx hb hts in_X0_latestJoinedTo_0 hown hK.1 hP 2 rfl rfl 1 (by decide) (hts _ lk_X0_latestJoinedTo_20) (fun _ h9 => h9) rfl dX0_latestJoinedTo_44 ?_
          refine lv_iload_n hx hb dX0_latestJoinedTo_47 rfl (lv_at hl 4 rfl) ?_
          refine zk_r (zc_V (As := [.int (zi i)]) (rest := []) ⟨hx, hb, hml, hown, hts⟩ (ct_X5_at l D cI cZ cJ (dW cI ad S) (ad 15) (ad 35) 15 35 20 (S 8) i rfl rfl (by decide) ⟨by omega, by omega⟩) (cwV 1 hts gX0_latestJoinedTo_X5_at rfl rfl rfl (by decide +kernel) ⟨Nat.le_of_ble_eq_true rfl, Nat.le_of_ble_eq_true rfl⟩) hK hP (q0 := 15) (ci := 5) rfl rfl rfl rfl hl.1 rfl (Nat.le_of_ble_eq_true rfl) dX0_latestJoinedTo_48 ⟨Nat.zero_le _, Nat.zero_le _⟩) ?_
          refine zi_top (fun (r_48 : Int) (er_48 : r_48 = rAt 20 (S 8) i) => ?_)
          have fr_48 : (-1 : Int) ≤ r_48 ∧ r_48 ≤ 19 := by rw [er_48]; exact CI.at hI 8 20 i ⟨by decide, by decide⟩
          refine lv_iload_n hx hb dX0_latestJoinedTo_51 rfl (lv_at hl 2 rfl) ?_
          refine zi_icmp_ne (tgt := 62) hx hb ⟨by omega, by omega⟩ ⟨by omega, by omega⟩ dX0_latestJoinedTo_52 (by decide) (fun c_52 => ?_) (fun c_52 => ?_)
          · refine zi_iinc (k := 4) (lv' := [(3, .int (zi (i + 1))), (4, .int (zi bl)), (0, .ref (ad 2)), (1, .int (zi x0)), (2, .int (zi acc))]) hx hb dX0_latestJoinedTo_62 hl rfl (by decide) rfl (fun ls hl => ?_)
            refine lv_goto (tgt := 4) hx hb dX0_latestJoinedTo_65 (by decide) ?_
            exact ih_4 n acc (i + 1) (by first | omega | assumption) (by first | omega | assumption) (by rw [← h_R, itr_s]; congr 1; unfold lateF; first | exact (if_pos ⟨by rw [← er_48]; first | assumption | omega, (b2_1 h_bl (by omega))⟩).symm | exact (if_neg (fun h9 => c_52 (by rw [er_48]; exact h9.1))).symm | exact (if_neg (fun h9 => absurd h9.2 (b2_0 h_bl c_57))).symm) ⟨by omega, by omega⟩ (by omega) _ (lv_sub hl [2, 3, 4, 0] rfl)
          · refine lv_iload hx hb dX0_latestJoinedTo_55 (lv_at hl 0 rfl) ?_
            refine zi_if_eq (tgt := 62) hx hb ⟨by omega, by omega⟩ dX0_latestJoinedTo_57 (by decide) (fun c_57 => ?_) (fun c_57 => ?_)
            · refine zi_iinc (k := 4) (lv' := [(3, .int (zi (i + 1))), (4, .int (zi bl)), (0, .ref (ad 2)), (1, .int (zi x0)), (2, .int (zi acc))]) hx hb dX0_latestJoinedTo_62 hl rfl (by decide) rfl (fun ls hl => ?_)
              refine lv_goto (tgt := 4) hx hb dX0_latestJoinedTo_65 (by decide) ?_
              exact ih_4 n acc (i + 1) (by first | omega | assumption) (by first | omega | assumption) (by rw [← h_R, itr_s]; congr 1; unfold lateF; first | exact (if_pos ⟨by rw [← er_48]; first | assumption | omega, (b2_1 h_bl (by omega))⟩).symm | exact (if_neg (fun h9 => c_52 (by rw [er_48]; exact h9.1))).symm | exact (if_neg (fun h9 => absurd h9.2 (b2_0 h_bl c_57))).symm) ⟨by omega, by omega⟩ (by omega) _ (lv_sub hl [2, 3, 4, 0] rfl)
            · refine lv_iload_n hx hb dX0_latestJoinedTo_60 rfl (lv_at hl 4 rfl) ?_
              refine lv_istore_n (lv' := [(2, .int (zi i)), (4, .int (zi bl)), (0, .ref (ad 2)), (1, .int (zi x0)), (3, .int (zi i))]) hx hb dX0_latestJoinedTo_61 rfl hl (by decide) rfl (fun ls hl => ?_)
              refine zi_iinc (k := 4) (lv' := [(3, .int (zi (i + 1))), (2, .int (zi i)), (4, .int (zi bl)), (0, .ref (ad 2)), (1, .int (zi x0))]) hx hb dX0_latestJoinedTo_62 hl rfl (by decide) rfl (fun ls hl => ?_)
              refine lv_goto (tgt := 4) hx hb dX0_latestJoinedTo_65 (by decide) ?_
              exact ih_4 n i (i + 1) (by first | omega | assumption) (by first | omega | assumption) (by rw [← h_R, itr_s]; congr 1; unfold lateF; first | exact (if_pos ⟨by rw [← er_48]; first | assumption | omega, (b2_1 h_bl (by omega))⟩).symm | exact (if_neg (fun h9 => c_52 (by rw [er_48]; exact h9.1))).symm | exact (if_neg (fun h9 => absurd h9.2 (b2_0 h_bl c_57))).symm) ⟨by omega, by omega⟩ (by omega) _ (lv_sub hl [3, 4, 1, 0] rfl)
        refine zi_icmp_eq (tgt := 36) hx hb ⟨by omega, by omega⟩ ⟨by decide, by decide⟩ dX0_latestJoinedTo_14 (by decide) (fun c_14 => ?_) (fun c_14 => ?_)
        · refine zi_iconst hx hb dX0_latestJoinedTo_36 ?_
          refine lv_goto (tgt := 41) hx hb dX0_latestJoinedTo_37 (by decide) ?_
          exact K_41 1 (by first | exact (b2_t (Or.inl c_14)).symm | exact (b2_t (Or.inr (by rw [← er_22, ← er_30]; omega))).symm | exact (b2_f (by rw [← er_22, ← er_30]; omega)).symm) _ (lv_sub hl [0, 1, 2, 3] rfl)
        · refine lv_aload_n hx hb dX0_latestJoinedTo_17 rfl (lv_at hl 0 rfl) ?_
          refine va_get (D := D) (ci := 0) (v := .ref (ad 16)) (C := RX0) (T := TX0) (N := 8) hx hb hts in_X0_latestJoinedTo_0 hown hK.1 hP 2 rfl rfl 2 (by decide) (hts _ lk_X0_latestJoinedTo_23) (fun _ h9 => h9) rfl dX0_latestJoinedTo_18 ?_
          refine lv_iload_n hx hb dX0_latestJoinedTo_21 rfl (lv_at hl 3 rfl) ?_
          refine zk_r (zc_V (As := [.int (zi i)]) (rest := []) ⟨hx, hb, hml, hown, hts⟩ (ct_X5_at l D cI cZ cJ (dW cI ad S) (ad 16) (ad 36) 16 36 20 (S 9) i rfl rfl (by decide) ⟨by omega, by omega⟩) (cwV 1 hts gX0_latestJoinedTo_X5_at rfl rfl rfl (by decide +kernel) ⟨Nat.le_of_ble_eq_true rfl, Nat.le_of_ble_eq_true rfl⟩) hK hP (q0 := 16) (ci := 5) rfl rfl rfl rfl hl.1 rfl (Nat.le_of_ble_eq_true rfl) dX0_latestJoinedTo_22 ⟨Nat.zero_le _, Nat.zero_le _⟩) ?_
          refine zi_top (fun (r_22 : Int) (er_22 : r_22 = rAt 20 (S 9) i) => ?_)
          have fr_22 : (0 : Int) ≤ r_22 ∧ r_22 ≤ 100000 := by rw [er_22]; exact CI.at hI 9 20 i ⟨by decide, by decide⟩
          refine lv_aload_n hx hb dX0_latestJoinedTo_25 rfl (lv_at hl 0 rfl) ?_
          refine va_get (D := D) (ci := 0) (v := .ref (ad 16)) (C := RX0) (T := TX0) (N := 8) hx hb hts in_X0_latestJoinedTo_0 hown hK.1 hP 2 rfl rfl 2 (by decide) (hts _ lk_X0_latestJoinedTo_23) (fun _ h9 => h9) rfl dX0_latestJoinedTo_26 ?_
          refine lv_iload_n hx hb dX0_latestJoinedTo_29 rfl (lv_at hl 2 rfl) ?_
          refine zk_r (zc_V (As := [.int (zi acc)]) (rest := [.int (zi r_22)]) ⟨hx, hb, hml, hown, hts⟩ (ct_X5_at l D cI cZ cJ (dW cI ad S) (ad 16) (ad 36) 16 36 20 (S 9) acc rfl rfl (by decide) ⟨by omega, by omega⟩) (cwV 1 hts gX0_latestJoinedTo_X5_at rfl rfl rfl (by decide +kernel) ⟨Nat.le_of_ble_eq_true rfl, Nat.le_of_ble_eq_true rfl⟩) hK hP (q0 := 16) (ci := 5) rfl rfl rfl rfl hl.1 rfl (Nat.le_of_ble_eq_true rfl) dX0_latestJoinedTo_30 ⟨Nat.zero_le _, Nat.zero_le _⟩) ?_
          refine zi_top (fun (r_30 : Int) (er_30 : r_30 = rAt 20 (S 9) acc) => ?_)
          have fr_30 : (0 : Int) ≤ r_30 ∧ r_30 ≤ 100000 := by rw [er_30]; exact CI.at hI 9 20 acc ⟨by decide, by decide⟩
          refine zi_icmp_le (tgt := 40) hx hb ⟨by omega, by omega⟩ ⟨by omega, by omega⟩ dX0_latestJoinedTo_33 (by decide) (fun c_33 => ?_) (fun c_33 => ?_)
          · refine zi_iconst hx hb dX0_latestJoinedTo_40 ?_
            exact K_41 0 (by first | exact (b2_t (Or.inl c_14)).symm | exact (b2_t (Or.inr (by rw [← er_22, ← er_30]; omega))).symm | exact (b2_f (by rw [← er_22, ← er_30]; omega)).symm) _ (lv_sub hl [0, 1, 2, 3] rfl)
          · refine zi_iconst hx hb dX0_latestJoinedTo_36 ?_
            refine lv_goto (tgt := 41) hx hb dX0_latestJoinedTo_37 (by decide) ?_
            exact K_41 1 (by first | exact (b2_t (Or.inl c_14)).symm | exact (b2_t (Or.inr (by rw [← er_22, ← er_30]; omega))).symm | exact (b2_f (by rw [← er_22, ← er_30]; omega)).symm) _ (lv_sub hl [0, 1, 2, 3] rfl)
  refine lv_istore_n (lv' := [(3, .int (zi 0)), (2, .int (zi (-1))), (0, .ref (ad 2)), (1, .int (zi x0))]) hx hb dX0_latestJoinedTo_3 rfl hl (by decide) rfl (fun ls hl => ?_)
  exact K_4 ((S 23 0).toNat + 1) ((S 23 0).toNat) (-1) 0 (by first | omega | assumption) (by first | omega | assumption) rfl ⟨by omega, by omega⟩ (by omega) _ (lv_sub hl [2, 3, 1, 0] rfl)

theorem in_X0_isLook_0 : ∀ w ∈ wsX00, w ∈ wsX0_isLook := by decide +kernel
theorem lk_X0_isLook_14 : Cond.fieldLink RX0 14 "PlanetoidDesk$Bodies" "owners" "LPlanetoidDesk$Row;" ∈ wsX0_isLook := by decide +kernel
theorem lk_X0_isLook_20 : Cond.fieldLink RX0 20 "PlanetoidDesk$Bodies" "hosts" "LPlanetoidDesk$Row;" ∈ wsX0_isLook := by decide +kernel
abbrev rmct_X0_isLook : Room := { frames := 1, cells := 0, slots := 0, locals := 21 }
set_option maxHeartbeats 4000000 in
set_option maxRecDepth 100000 in
theorem ct_X0_isLook (l : Launch) (D : va_G) (cI cZ cJ : ClassId) (ad : Nat → Nat) (S : ZS) (hI : CI S) (x0 x1 : Int) (hx0 : ir x0) (hx1 : ir x1)  : Met l yX0_isLook wsX0_isLook rmct_X0_isLook (zP D cI cZ cJ (dW cI ad S) [.ref (ad 2), .int (zi x0), .int (zi x1)]) (k2_QcV (.int (zi (b2 (lookC S x0 x1))))) 0 0 (fun _ => False) := by
  refine Met.ofW (cc := cX0_isLook) (maxL := 5) (ret := (some .boolean)) (by decide) rfl ?_
  intro p e s m args below meth c s₁ B hml hv
  obtain ⟨rfl, hP, hK⟩ := hv
  have hx := B.exec
  have hb := B.bytes
  have hr := B.returns
  have hts := atoms_spec (ws := wsX0_isLook) B.pre
  have hown : s.vm.findClass RX0 = some m.cls := findClass_of_methodNamed B.named
  have hlocks := B.notSynchronized
  have hl := lv_entry ([.ref (ad 2), .int (zi x0), .int (zi x1)]) (n := 5) (Nat.le_of_ble_eq_true rfl)
  rw [lg_entry_eq]
  generalize (lg_sl ([.ref (ad 2), .int (zi x0), .int (zi x1)]) ++ List.replicate (5 - (lg_sl ([.ref (ad 2), .int (zi x0), .int (zi x1)])).length) Slot.unset).toArray = ls at hl ⊢
  have hl : lv_has ls 5 [(0, .ref (ad 2)), (1, .int (zi x0)), (2, .int (zi x1))] := hl
  show W p l e rmct_X0_isLook s m ([.ref (ad 2), .int (zi x0), .int (zi x1)] : List Value).toArray below meth c s.heap [] 0 0 (MQ below (k2_QcV (.int (zi (b2 (lookC S x0 x1))))) ([.ref (ad 2), .int (zi x0), .int (zi x1)] : List Value).toArray s 0 0 (fun _ => False)) (F0 m 0 ls [])
  refine lv_aload_n hx hb dX0_isLook_0 rfl (lv_at hl 0 rfl) ?_
  refine va_get (D := D) (ci := 0) (v := .ref (ad 14)) (C := RX0) (T := TX0) (N := 8) hx hb hts in_X0_isLook_0 hown hK.1 hP 2 rfl rfl 0 (by decide) (hts _ lk_X0_isLook_14) (fun _ h9 => h9) rfl dX0_isLook_1 ?_
  refine lv_iload_n hx hb dX0_isLook_4 rfl (lv_at hl 1 rfl) ?_
  refine zk_r (zc_V (As := [.int (zi x0)]) (rest := []) ⟨hx, hb, hml, hown, hts⟩ (ct_X5_at l D cI cZ cJ (dW cI ad S) (ad 14) (ad 34) 14 34 60 (S 7) x0 rfl rfl (by decide) ⟨by omega, by omega⟩) (cwV 1 hts gX0_isLook_X5_at rfl rfl rfl (by decide +kernel) ⟨Nat.le_of_ble_eq_true rfl, Nat.le_of_ble_eq_true rfl⟩) hK hP (q0 := 14) (ci := 5) rfl rfl rfl rfl hl.1 rfl (Nat.le_of_ble_eq_true rfl) dX0_isLook_5 ⟨Nat.zero_le _, Nat.zero_le _⟩) ?_
  refine zi_top (fun (r_5 : Int) (er_5 : r_5 = rAt 60 (S 7) x0) => ?_)
  have fr_5 : (-1 : Int) ≤ r_5 ∧ r_5 ≤ 19 := by rw [er_5]; exact CI.at hI 7 60 x0 ⟨by decide, by decide⟩
  refine lv_istore_n (lv' := [(3, .int (zi r_5)), (0, .ref (ad 2)), (1, .int (zi x0)), (2, .int (zi x1))]) hx hb dX0_isLook_8 rfl hl (by decide) rfl (fun ls hl => ?_)
  refine zi_iconst hx hb dX0_isLook_9 ?_
  have K_12 : ∀ (k : Nat) (n : Nat) (ho st : Int), (st + (n : Int) = 20) → (0 ≤ st) → (-1 ≤ ho ∧ ho ≤ 19) → (climb (rAt 20 (S 8)) n ho x1 = climb (rAt 20 (S 8)) 20 (rAt 60 (S 7) x0) x1) → ((n : Int) < (k : Int)) → ∀ (ls : Array Slot), lv_has ls 5 [(0, .ref (ad 2)), (1, .int (zi x0)), (2, .int (zi x1)), (3, .int (zi ho)), (4, .int (zi st))] → W p l e rmct_X0_isLook s m ([.ref (ad 2), .int (zi x0), .int (zi x1)] : List Value).toArray below meth c s.heap [] 0 0 (MQ below (k2_QcV (.int (zi (b2 (lookC S x0 x1))))) ([.ref (ad 2), .int (zi x0), .int (zi x1)] : List Value).toArray s 0 0 (fun _ => False)) (F0 m 12 ls []) := by
    intro k
    induction k with
    | zero => intro n ho st h_n h_i h_h h_R hk; exact absurd hk (by omega)
    | succ k ih_12 =>
      intro n ho st h_n h_i h_h h_R hk ls hl
      refine lv_iload hx hb dX0_isLook_12 (lv_at hl 4 rfl) ?_
      refine zi_bipush hx hb dX0_isLook_14 (by decide) ?_
      refine zi_icmp_ge (tgt := 44) hx hb ⟨by omega, by omega⟩ ⟨by decide, by decide⟩ dX0_isLook_16 (by decide) (fun c_16 => ?_) (fun c_16 => ?_)
      · obtain rfl : n = 0 := by omega
        have hE : ho = climb (rAt 20 (S 8)) 20 (rAt 60 (S 7) x0) x1 := h_R
        refine lv_iload_n hx hb dX0_isLook_44 rfl (lv_at hl 3 rfl) ?_
        refine lv_iload_n hx hb dX0_isLook_45 rfl (lv_at hl 2 rfl) ?_
        refine zi_icmp_ne (tgt := 53) hx hb ⟨by omega, by omega⟩ ⟨by omega, by omega⟩ dX0_isLook_46 (by decide) (fun c_46 => ?_) (fun c_46 => ?_)
        · refine zi_iconst hx hb dX0_isLook_53 ?_
          exact zr_z hx hb hr hlocks dX0_isLook_54 (Or.inl rfl) (by unfold lookC; rw [← hE]; first | exact (b2_t (by omega)).symm | exact (b2_f (by omega)).symm)
        · refine zi_iconst hx hb dX0_isLook_49 ?_
          refine lv_goto (tgt := 54) hx hb dX0_isLook_50 (by decide) ?_
          exact zr_z hx hb hr hlocks dX0_isLook_54 (Or.inr rfl) (by unfold lookC; rw [← hE]; first | exact (b2_t (by omega)).symm | exact (b2_f (by omega)).symm)
      · obtain ⟨n, rfl⟩ : ∃ n9 : Nat, n = n9 + 1 := ⟨n - 1, by omega⟩
        refine lv_iload_n hx hb dX0_isLook_19 rfl (lv_at hl 3 rfl) ?_
        refine zi_iconst hx hb dX0_isLook_20 ?_
        refine zi_icmp_eq (tgt := 44) hx hb ⟨by omega, by omega⟩ ⟨by decide, by decide⟩ dX0_isLook_21 (by decide) (fun c_21 => ?_) (fun c_21 => ?_)
        · have hE : ho = climb (rAt 20 (S 8)) 20 (rAt 60 (S 7) x0) x1 := by rw [← h_R]; exact (if_pos (Or.inl c_21)).symm
          refine lv_iload_n hx hb dX0_isLook_44 rfl (lv_at hl 3 rfl) ?_
          refine lv_iload_n hx hb dX0_isLook_45 rfl (lv_at hl 2 rfl) ?_
          refine zi_icmp_ne (tgt := 53) hx hb ⟨by omega, by omega⟩ ⟨by omega, by omega⟩ dX0_isLook_46 (by decide) (fun c_46 => ?_) (fun c_46 => ?_)
          · refine zi_iconst hx hb dX0_isLook_53 ?_
            exact zr_z hx hb hr hlocks dX0_isLook_54 (Or.inl rfl) (by unfold lookC; rw [← hE]; first | exact (b2_t (by omega)).symm | exact (b2_f (by omega)).symm)
          · refine zi_iconst hx hb dX0_isLook_49 ?_
            refine lv_goto (tgt := 54) hx hb dX0_isLook_50 (by decide) ?_
            exact zr_z hx hb hr hlocks dX0_isLook_54 (Or.inr rfl) (by unfold lookC; rw [← hE]; first | exact (b2_t (by omega)).symm | exact (b2_f (by omega)).symm)
        · refine lv_iload_n hx hb dX0_isLook_24 rfl (lv_at hl 3 rfl) ?_
          refine lv_iload_n hx hb dX0_isLook_25 rfl (lv_at hl 2 rfl) ?_
          refine zi_icmp_eq (tgt := 44) hx hb ⟨by omega, by omega⟩ ⟨by omega, by omega⟩ dX0_isLook_26 (by decide) (fun c_26 => ?_) (fun c_26 => ?_)
          · have hE : ho = climb (rAt 20 (S 8)) 20 (rAt 60 (S 7) x0) x1 := by rw [← h_R]; exact (if_pos (Or.inr c_26)).symm
            refine lv_iload_n hx hb dX0_isLook_44 rfl (lv_at hl 3 rfl) ?_
            refine lv_iload_n hx hb dX0_isLook_45 rfl (lv_at hl 2 rfl) ?_
            refine zi_icmp_ne (tgt := 53) hx hb ⟨by omega, by omega⟩ ⟨by omega, by omega⟩ dX0_isLook_46 (by decide) (fun c_46 => ?_) (fun c_46 => ?_)
            · refine zi_iconst hx hb dX0_isLook_53 ?_
              exact zr_z hx hb hr hlocks dX0_isLook_54 (Or.inl rfl) (by unfold lookC; rw [← hE]; first | exact (b2_t (by omega)).symm | exact (b2_f (by omega)).symm)
            · refine zi_iconst hx hb dX0_isLook_49 ?_
              refine lv_goto (tgt := 54) hx hb dX0_isLook_50 (by decide) ?_
              exact zr_z hx hb hr hlocks dX0_isLook_54 (Or.inr rfl) (by unfold lookC; rw [← hE]; first | exact (b2_t (by omega)).symm | exact (b2_f (by omega)).symm)
          · refine lv_aload_n hx hb dX0_isLook_29 rfl (lv_at hl 0 rfl) ?_
            refine va_get (D := D) (ci := 0) (v := .ref (ad 15)) (C := RX0) (T := TX0) (N := 8) hx hb hts in_X0_isLook_0 hown hK.1 hP 2 rfl rfl 1 (by decide) (hts _ lk_X0_isLook_20) (fun _ h9 => h9) rfl dX0_isLook_30 ?_
            refine lv_iload_n hx hb dX0_isLook_33 rfl (lv_at hl 3 rfl) ?_
            refine zk_r (zc_V (As := [.int (zi ho)]) (rest := []) ⟨hx, hb, hml, hown, hts⟩ (ct_X5_at l D cI cZ cJ (dW cI ad S) (ad 15) (ad 35) 15 35 20 (S 8) ho rfl rfl (by decide) ⟨by omega, by omega⟩) (cwV 1 hts gX0_isLook_X5_at rfl rfl rfl (by decide +kernel) ⟨Nat.le_of_ble_eq_true rfl, Nat.le_of_ble_eq_true rfl⟩) hK hP (q0 := 15) (ci := 5) rfl rfl rfl rfl hl.1 rfl (Nat.le_of_ble_eq_true rfl) dX0_isLook_34 ⟨Nat.zero_le _, Nat.zero_le _⟩) ?_
            refine zi_top (fun (r_34 : Int) (er_34 : r_34 = rAt 20 (S 8) ho) => ?_)
            have fr_34 : (-1 : Int) ≤ r_34 ∧ r_34 ≤ 19 := by rw [er_34]; exact CI.at hI 8 20 ho ⟨by decide, by decide⟩
            refine lv_istore_n (lv' := [(3, .int (zi r_34)), (0, .ref (ad 2)), (1, .int (zi x0)), (2, .int (zi x1)), (4, .int (zi st))]) hx hb dX0_isLook_37 rfl hl (by decide) rfl (fun ls hl => ?_)
            refine zi_iinc (k := 4) (lv' := [(4, .int (zi (st + 1))), (3, .int (zi r_34)), (0, .ref (ad 2)), (1, .int (zi x0)), (2, .int (zi x1))]) hx hb dX0_isLook_38 hl rfl (by decide) rfl (fun ls hl => ?_)
            refine lv_goto (tgt := 12) hx hb dX0_isLook_41 (by decide) ?_
            exact ih_12 n r_34 (st + 1) (by first | omega | assumption) (by first | omega | assumption) (by omega) (by rw [← h_R, er_34]; exact (if_neg (by omega)).symm) (by omega) _ (lv_sub hl [2, 3, 4, 1, 0] rfl)
  refine lv_istore (lv' := [(4, .int (zi 0)), (3, .int (zi r_5)), (0, .ref (ad 2)), (1, .int (zi x0)), (2, .int (zi x1))]) hx hb dX0_isLook_10 hl (by decide) rfl (fun ls hl => ?_)
  exact K_12 21 20 r_5 0 (by first | omega | assumption) (by first | omega | assumption) (by omega) (by rw [er_5]) (by omega) _ (lv_sub hl [2, 3, 4, 1, 0] rfl)

theorem in_X0_own_0 : ∀ w ∈ wsX00, w ∈ wsX0_own := by decide +kernel
theorem lk_X0_own_14 : Cond.fieldLink RX0 14 "PlanetoidDesk$Bodies" "owners" "LPlanetoidDesk$Row;" ∈ wsX0_own := by decide +kernel
abbrev rmct_X0_own : Room := { frames := 1, cells := 0, slots := 0, locals := 22 }
set_option maxHeartbeats 4000000 in
set_option maxRecDepth 100000 in
theorem ct_X0_own (l : Launch) (D : va_G) (cI cZ cJ : ClassId) (ad : Nat → Nat) (S : ZS) (hI : CI S) (hdis : dDis ad) (x0 x1 : Int) (hx0 : ir x0) (hx1 : ir x1) (hp00 : -1 ≤ x0) (hp01 : x0 ≤ 19) : Met l yX0_own wsX0_own rmct_X0_own (zP D cI cZ cJ (dW cI ad S) [.ref (ad 2), .int (zi x0), .int (zi x1)]) (zWv D (dW cI ad) (dA ad) (fun T => T = su S 7 (rPut 60 (S 7) x1 x0) ∧ CI T)) 0 0 (dA ad) := by
  refine Met.ofW (cc := cX0_own) (maxL := 3) (ret := none) (by decide) rfl ?_
  intro p e s m args below meth c s₁ B hml hv
  obtain ⟨rfl, hP, hK⟩ := hv
  have hx := B.exec
  have hb := B.bytes
  have hr := B.returns
  have hts := atoms_spec (ws := wsX0_own) B.pre
  have hown : s.vm.findClass RX0 = some m.cls := findClass_of_methodNamed B.named
  have hlocks := B.notSynchronized
  have hl := lv_entry ([.ref (ad 2), .int (zi x0), .int (zi x1)]) (n := 3) (Nat.le_of_ble_eq_true rfl)
  rw [lg_entry_eq]
  generalize (lg_sl ([.ref (ad 2), .int (zi x0), .int (zi x1)]) ++ List.replicate (3 - (lg_sl ([.ref (ad 2), .int (zi x0), .int (zi x1)])).length) Slot.unset).toArray = ls at hl ⊢
  have hl : lv_has ls 3 [(0, .ref (ad 2)), (1, .int (zi x0)), (2, .int (zi x1))] := hl
  have hS : va_S (dA ad) s.heap s.heap [] := va_S.rf
  show W p l e rmct_X0_own s m ([.ref (ad 2), .int (zi x0), .int (zi x1)] : List Value).toArray below meth c s.heap [] 0 0 (MQ below (zWv D (dW cI ad) (dA ad) (fun T => T = su S 7 (rPut 60 (S 7) x1 x0) ∧ CI T)) ([.ref (ad 2), .int (zi x0), .int (zi x1)] : List Value).toArray s 0 0 (dA ad)) (F0 m 0 ls [])
  refine lv_aload_n hx hb dX0_own_0 rfl (lv_at hl 0 rfl) ?_
  refine va_get (D := D) (ci := 0) (v := .ref (ad 14)) (C := RX0) (T := TX0) (N := 8) hx hb hts in_X0_own_0 hown hK.1 hP 2 rfl rfl 0 (by decide) (hts _ lk_X0_own_14) (fun _ h9 => h9) rfl dX0_own_1 ?_
  refine lv_iload_n hx hb dX0_own_4 rfl (lv_at hl 2 rfl) ?_
  refine lv_iload_n hx hb dX0_own_5 rfl (lv_at hl 1 rfl) ?_
  refine va_callv (zc_V (As := [.int (zi x1), .int (zi x0)]) (rest := []) ⟨hx, hb, hml, hown, hts⟩ (ct_X5_put l D cI cZ cJ (dW cI ad S) (dA ad) (ad 14) (ad 34) 14 34 60 (S 7) x1 x0 rfl (Nat.le_of_ble_eq_true rfl) (by decide) (fun g9 => dW_D hdis (su S 7 g9)) (by decide) ⟨by omega, by omega⟩) (cwV 2 hts gX0_own_X5_put rfl rfl rfl (by decide +kernel) ⟨Nat.le_of_ble_eq_true rfl, Nat.le_of_ble_eq_true rfl⟩) hK hP (q0 := 14) (ci := 5) rfl rfl rfl rfl hl.1 rfl (Nat.le_of_ble_eq_true rfl) dX0_own_6 ⟨Nat.zero_le _, Nat.zero_le _⟩) hS (fun _ _ h => h) (fun _ h => h) (fun u t H locs ht _ hu hQ _ _ hS => ?_)
  have hP : va_P D vwCl (dW cI ad (su S 7 (rPut 60 (S 7) x1 x0))) H := by rw [hu] at hQ; rw [← ht]; exact hQ
  have hI_6 : CI (su S 7 (rPut 60 (S 7) x1 x0)) := CI.rput hI 7 60 x1 x0 (show (-1 : Int) ≤ x0 ∧ x0 ≤ 19 from ⟨by omega, by omega⟩)
  generalize eS_6 : (su S 7 (rPut 60 (S 7) x1 x0)) = S_6 at hP hI_6
  exact zr_wv (T := S_6) hx hb hr hlocks dX0_own_9 hP hS (by exact ⟨by subst_vars; rfl, hI_6⟩)

theorem in_X0_free_0 : ∀ w ∈ wsX00, w ∈ wsX0_free := by decide +kernel
theorem lk_X0_free_20 : Cond.fieldLink RX0 20 "PlanetoidDesk$Bodies" "hosts" "LPlanetoidDesk$Row;" ∈ wsX0_free := by decide +kernel
abbrev rmct_X0_free : Room := { frames := 1, cells := 0, slots := 0, locals := 22 }
set_option maxHeartbeats 4000000 in
set_option maxRecDepth 100000 in
theorem ct_X0_free (l : Launch) (D : va_G) (cI cZ cJ : ClassId) (ad : Nat → Nat) (S : ZS) (hI : CI S) (hdis : dDis ad) (x0 : Int) (hx0 : ir x0)  : Met l yX0_free wsX0_free rmct_X0_free (zP D cI cZ cJ (dW cI ad S) [.ref (ad 2), .int (zi x0)]) (zWv D (dW cI ad) (dA ad) (fun T => T = su S 8 (rPut 20 (S 8) x0 (-1)) ∧ CI T)) 0 0 (dA ad) := by
  refine Met.ofW (cc := cX0_free) (maxL := 2) (ret := none) (by decide) rfl ?_
  intro p e s m args below meth c s₁ B hml hv
  obtain ⟨rfl, hP, hK⟩ := hv
  have hx := B.exec
  have hb := B.bytes
  have hr := B.returns
  have hts := atoms_spec (ws := wsX0_free) B.pre
  have hown : s.vm.findClass RX0 = some m.cls := findClass_of_methodNamed B.named
  have hlocks := B.notSynchronized
  have hl := lv_entry ([.ref (ad 2), .int (zi x0)]) (n := 2) (Nat.le_of_ble_eq_true rfl)
  rw [lg_entry_eq]
  generalize (lg_sl ([.ref (ad 2), .int (zi x0)]) ++ List.replicate (2 - (lg_sl ([.ref (ad 2), .int (zi x0)])).length) Slot.unset).toArray = ls at hl ⊢
  have hl : lv_has ls 2 [(0, .ref (ad 2)), (1, .int (zi x0))] := hl
  have hS : va_S (dA ad) s.heap s.heap [] := va_S.rf
  show W p l e rmct_X0_free s m ([.ref (ad 2), .int (zi x0)] : List Value).toArray below meth c s.heap [] 0 0 (MQ below (zWv D (dW cI ad) (dA ad) (fun T => T = su S 8 (rPut 20 (S 8) x0 (-1)) ∧ CI T)) ([.ref (ad 2), .int (zi x0)] : List Value).toArray s 0 0 (dA ad)) (F0 m 0 ls [])
  refine lv_aload_n hx hb dX0_free_0 rfl (lv_at hl 0 rfl) ?_
  refine va_get (D := D) (ci := 0) (v := .ref (ad 15)) (C := RX0) (T := TX0) (N := 8) hx hb hts in_X0_free_0 hown hK.1 hP 2 rfl rfl 1 (by decide) (hts _ lk_X0_free_20) (fun _ h9 => h9) rfl dX0_free_1 ?_
  refine lv_iload_n hx hb dX0_free_4 rfl (lv_at hl 1 rfl) ?_
  refine zi_iconst hx hb dX0_free_5 ?_
  refine va_callv (zc_V (As := [.int (zi x0), .int (zi (-1))]) (rest := []) ⟨hx, hb, hml, hown, hts⟩ (ct_X5_put l D cI cZ cJ (dW cI ad S) (dA ad) (ad 15) (ad 35) 15 35 20 (S 8) x0 (-1) rfl (Nat.le_of_ble_eq_true rfl) (by decide) (fun g9 => dW_D hdis (su S 8 g9)) (by decide) ⟨by omega, by omega⟩) (cwV 2 hts gX0_free_X5_put rfl rfl rfl (by decide +kernel) ⟨Nat.le_of_ble_eq_true rfl, Nat.le_of_ble_eq_true rfl⟩) hK hP (q0 := 15) (ci := 5) rfl rfl rfl rfl hl.1 rfl (Nat.le_of_ble_eq_true rfl) dX0_free_6 ⟨Nat.zero_le _, Nat.zero_le _⟩) hS (fun _ _ h => h) (fun _ h => h) (fun u t H locs ht _ hu hQ _ _ hS => ?_)
  have hP : va_P D vwCl (dW cI ad (su S 8 (rPut 20 (S 8) x0 (-1)))) H := by rw [hu] at hQ; rw [← ht]; exact hQ
  have hI_6 : CI (su S 8 (rPut 20 (S 8) x0 (-1))) := CI.rput hI 8 20 x0 (-1) (show (-1 : Int) ≤ (-1) ∧ (-1) ≤ 19 from ⟨by omega, by omega⟩)
  generalize eS_6 : (su S 8 (rPut 20 (S 8) x0 (-1))) = S_6 at hP hI_6
  exact zr_wv (T := S_6) hx hb hr hlocks dX0_free_9 hP hS (by exact ⟨by subst_vars; rfl, hI_6⟩)

theorem in_X0_addBody_0 : ∀ w ∈ wsX00, w ∈ wsX0_addBody := by decide +kernel
theorem lk_X0_addBody_35 : Cond.fieldLink RX0 35 "PlanetoidDesk$Bodies" "count" "I" ∈ wsX0_addBody := by decide +kernel
abbrev rmct_X0_addBody : Room := { frames := 2, cells := 0, slots := 0, locals := 44 }
set_option maxHeartbeats 4000000 in
set_option maxRecDepth 100000 in
theorem ct_X0_addBody (l : Launch) (D : va_G) (cI cZ cJ : ClassId) (ad : Nat → Nat) (S : ZS) (hI : CI S) (hdis : dDis ad) (x0 : Int) (hx0 : ir x0) (hq : S 23 0 < 20) : Met l yX0_addBody wsX0_addBody rmct_X0_addBody (zP D cI cZ cJ (dW cI ad S) [.ref (ad 2), .int (zi x0)]) (zWi D (dW cI ad) (dA ad) (fun r T => r = S 23 0 ∧ T = su (su S 7 (rPut 60 (S 7) x0 (S 23 0))) 23 (fun _ => S 23 0 + 1) ∧ CI T)) 0 0 (dA ad) := by
  refine Met.ofW (cc := cX0_addBody) (maxL := 2) (ret := (some .int)) (by decide) rfl ?_
  intro p e s m args below meth c s₁ B hml hv
  obtain ⟨rfl, hP, hK⟩ := hv
  have hx := B.exec
  have hb := B.bytes
  have hr := B.returns
  have hts := atoms_spec (ws := wsX0_addBody) B.pre
  have hown : s.vm.findClass RX0 = some m.cls := findClass_of_methodNamed B.named
  have hlocks := B.notSynchronized
  have hl := lv_entry ([.ref (ad 2), .int (zi x0)]) (n := 2) (Nat.le_of_ble_eq_true rfl)
  rw [lg_entry_eq]
  generalize (lg_sl ([.ref (ad 2), .int (zi x0)]) ++ List.replicate (2 - (lg_sl ([.ref (ad 2), .int (zi x0)])).length) Slot.unset).toArray = ls at hl ⊢
  have hl : lv_has ls 2 [(0, .ref (ad 2)), (1, .int (zi x0))] := hl
  have hS : va_S (dA ad) s.heap s.heap [] := va_S.rf
  show W p l e rmct_X0_addBody s m ([.ref (ad 2), .int (zi x0)] : List Value).toArray below meth c s.heap [] 0 0 (MQ below (zWi D (dW cI ad) (dA ad) (fun r T => r = S 23 0 ∧ T = su (su S 7 (rPut 60 (S 7) x0 (S 23 0))) 23 (fun _ => S 23 0 + 1) ∧ CI T)) ([.ref (ad 2), .int (zi x0)] : List Value).toArray s 0 0 (dA ad)) (F0 m 0 ls [])
  refine lv_aload_n hx hb dX0_addBody_0 rfl (lv_at hl 0 rfl) ?_
  refine lv_aload_n hx hb dX0_addBody_1 rfl (lv_at hl 0 rfl) ?_
  refine va_get (D := D) (ci := 0) (v := .int (zi (S 23 0))) (C := RX0) (T := TX0) (N := 8) hx hb hts in_X0_addBody_0 hown hK.1 hP 2 rfl rfl 5 (by decide) (hts _ lk_X0_addBody_35) (fun _ h9 => h9) rfl dX0_addBody_2 ?_
  have f_2 : (0 : Int) ≤ S 23 0 ∧ S 23 0 ≤ 20 := hI 23 0
  refine lv_iload_n hx hb dX0_addBody_5 rfl (lv_at hl 1 rfl) ?_
  refine zk_wv (zc_V (As := [.int (zi (S 23 0)), .int (zi x0)]) (rest := []) ⟨hx, hb, hml, hown, hts⟩ (ct_X0_own l D cI cZ cJ ad S hI hdis (S 23 0) x0 ⟨by omega, by omega⟩ ⟨by omega, by omega⟩ (by omega) (by omega)) (cwV 2 hts gX0_addBody_X0_own rfl rfl rfl (by decide +kernel) ⟨Nat.le_of_ble_eq_true rfl, Nat.le_of_ble_eq_true rfl⟩) hK hP (q0 := 2) (ci := 0) rfl rfl rfl rfl hl.1 rfl (Nat.le_of_ble_eq_true rfl) dX0_addBody_6 ⟨Nat.zero_le _, Nat.zero_le _⟩) hS (fun S_6 H locs hp_6 hP hS => ?_)
  obtain ⟨e9, hI_6⟩ := hp_6
  have eS_6 := e9.symm; clear e9
  refine lv_aload_n hx hb dX0_addBody_9 rfl (lv_at hl 0 rfl) ?_
  refine lv_dup hx hb dX0_addBody_10 rfl ?_
  refine va_get (D := D) (ci := 0) (v := .int (zi (S_6 23 0))) (C := RX0) (T := TX0) (N := 8) hx hb hts in_X0_addBody_0 hown hK.1 hP 2 rfl rfl 5 (by decide) (hts _ lk_X0_addBody_35) (fun _ h9 => h9) rfl dX0_addBody_11 ?_
  refine zi_is (S 23 0) (by rw [← eS_6]; rfl) ?_
  have f_11 : (0 : Int) ≤ S 23 0 ∧ S 23 0 ≤ 20 := hI 23 0
  refine zi_iconst hx hb dX0_addBody_14 ?_
  refine zi_iadd hx hb dX0_addBody_15 ?_
  refine va_put (D := D) (ci := 0) (v := .int (zi ((S 23 0) + 1))) (ty := .int) (C := RX0) (T := TX0) (N := 8) hx hb hts in_X0_addBody_0 tyX0 tyX0_ok nmX0 hown hK.1 hP (dW_D hdis _) hS 2 rfl rfl 5 (by decide) (hts _ lk_X0_addBody_35) (fun _ h9 => h9) rfl (by decide +kernel) rfl rfl (Nat.le_of_ble_eq_true rfl) dX0_addBody_16 (fun H locs hP _ hS => ?_)
  have hP : va_P D vwCl (dW cI ad (su S_6 23 (fun _ => (S 23 0) + 1))) H := hP
  have hI_16 : CI (su S_6 23 (fun _ => (S 23 0) + 1)) := CI.upc hI_6 23 ((S 23 0) + 1) (show (0 : Int) ≤ ((S 23 0) + 1) ∧ ((S 23 0) + 1) ≤ 20 from ⟨by omega, by omega⟩)
  generalize eS_16 : su S_6 23 (fun _ => (S 23 0) + 1) = S_16 at hP hI_16
  refine lv_aload_n hx hb dX0_addBody_19 rfl (lv_at hl 0 rfl) ?_
  refine va_get (D := D) (ci := 0) (v := .int (zi (S_16 23 0))) (C := RX0) (T := TX0) (N := 8) hx hb hts in_X0_addBody_0 hown hK.1 hP 2 rfl rfl 5 (by decide) (hts _ lk_X0_addBody_35) (fun _ h9 => h9) rfl dX0_addBody_20 ?_
  refine zi_is ((S 23 0) + 1) (by rw [← eS_16]; rfl) ?_
  refine zi_iconst hx hb dX0_addBody_23 ?_
  refine zi_isub hx hb dX0_addBody_24 ?_
  exact zr_wi (T := S_16) hx hb hr hlocks dX0_addBody_25 hP hS (by exact ⟨by subst_vars; omega, by subst_vars; rfl, hI_16⟩)

theorem in_X0_attach_0 : ∀ w ∈ wsX00, w ∈ wsX0_attach := by decide +kernel
theorem lk_X0_attach_20 : Cond.fieldLink RX0 20 "PlanetoidDesk$Bodies" "hosts" "LPlanetoidDesk$Row;" ∈ wsX0_attach := by decide +kernel
theorem lk_X0_attach_50 : Cond.fieldLink RX0 50 "PlanetoidDesk$Bodies" "joins" "I" ∈ wsX0_attach := by decide +kernel
theorem lk_X0_attach_23 : Cond.fieldLink RX0 23 "PlanetoidDesk$Bodies" "joinTimes" "LPlanetoidDesk$Row;" ∈ wsX0_attach := by decide +kernel
abbrev rmct_X0_attach : Room := { frames := 1, cells := 0, slots := 0, locals := 22 }
set_option maxHeartbeats 4000000 in
set_option maxRecDepth 100000 in
theorem ct_X0_attach (l : Launch) (D : va_G) (cI cZ cJ : ClassId) (ad : Nat → Nat) (S : ZS) (hI : CI S) (hdis : dDis ad) (x0 x1 : Int) (hx0 : ir x0) (hx1 : ir x1) (hp10 : -1 ≤ x1) (hp11 : x1 ≤ 19) (hq : S 24 0 < 100000) : Met l yX0_attach wsX0_attach rmct_X0_attach (zP D cI cZ cJ (dW cI ad S) [.ref (ad 2), .int (zi x0), .int (zi x1)]) (zWv D (dW cI ad) (dA ad) (fun T => T = su (su (su S 8 (rPut 20 (S 8) x0 x1)) 24 (fun _ => S 24 0 + 1)) 9 (rPut 20 (S 9) x0 (S 24 0 + 1)) ∧ CI T)) 0 0 (dA ad) := by
  refine Met.ofW (cc := cX0_attach) (maxL := 3) (ret := none) (by decide) rfl ?_
  intro p e s m args below meth c s₁ B hml hv
  obtain ⟨rfl, hP, hK⟩ := hv
  have hx := B.exec
  have hb := B.bytes
  have hr := B.returns
  have hts := atoms_spec (ws := wsX0_attach) B.pre
  have hown : s.vm.findClass RX0 = some m.cls := findClass_of_methodNamed B.named
  have hlocks := B.notSynchronized
  have hl := lv_entry ([.ref (ad 2), .int (zi x0), .int (zi x1)]) (n := 3) (Nat.le_of_ble_eq_true rfl)
  rw [lg_entry_eq]
  generalize (lg_sl ([.ref (ad 2), .int (zi x0), .int (zi x1)]) ++ List.replicate (3 - (lg_sl ([.ref (ad 2), .int (zi x0), .int (zi x1)])).length) Slot.unset).toArray = ls at hl ⊢
  have hl : lv_has ls 3 [(0, .ref (ad 2)), (1, .int (zi x0)), (2, .int (zi x1))] := hl
  have hS : va_S (dA ad) s.heap s.heap [] := va_S.rf
  show W p l e rmct_X0_attach s m ([.ref (ad 2), .int (zi x0), .int (zi x1)] : List Value).toArray below meth c s.heap [] 0 0 (MQ below (zWv D (dW cI ad) (dA ad) (fun T => T = su (su (su S 8 (rPut 20 (S 8) x0 x1)) 24 (fun _ => S 24 0 + 1)) 9 (rPut 20 (S 9) x0 (S 24 0 + 1)) ∧ CI T)) ([.ref (ad 2), .int (zi x0), .int (zi x1)] : List Value).toArray s 0 0 (dA ad)) (F0 m 0 ls [])
  refine lv_aload_n hx hb dX0_attach_0 rfl (lv_at hl 0 rfl) ?_
  refine va_get (D := D) (ci := 0) (v := .ref (ad 15)) (C := RX0) (T := TX0) (N := 8) hx hb hts in_X0_attach_0 hown hK.1 hP 2 rfl rfl 1 (by decide) (hts _ lk_X0_attach_20) (fun _ h9 => h9) rfl dX0_attach_1 ?_
  refine lv_iload_n hx hb dX0_attach_4 rfl (lv_at hl 1 rfl) ?_
  refine lv_iload_n hx hb dX0_attach_5 rfl (lv_at hl 2 rfl) ?_
  refine va_callv (zc_V (As := [.int (zi x0), .int (zi x1)]) (rest := []) ⟨hx, hb, hml, hown, hts⟩ (ct_X5_put l D cI cZ cJ (dW cI ad S) (dA ad) (ad 15) (ad 35) 15 35 20 (S 8) x0 x1 rfl (Nat.le_of_ble_eq_true rfl) (by decide) (fun g9 => dW_D hdis (su S 8 g9)) (by decide) ⟨by omega, by omega⟩) (cwV 2 hts gX0_attach_X5_put rfl rfl rfl (by decide +kernel) ⟨Nat.le_of_ble_eq_true rfl, Nat.le_of_ble_eq_true rfl⟩) hK hP (q0 := 15) (ci := 5) rfl rfl rfl rfl hl.1 rfl (Nat.le_of_ble_eq_true rfl) dX0_attach_6 ⟨Nat.zero_le _, Nat.zero_le _⟩) hS (fun _ _ h => h) (fun _ h => h) (fun u t H locs ht _ hu hQ _ _ hS => ?_)
  have hP : va_P D vwCl (dW cI ad (su S 8 (rPut 20 (S 8) x0 x1))) H := by rw [hu] at hQ; rw [← ht]; exact hQ
  have hI_6 : CI (su S 8 (rPut 20 (S 8) x0 x1)) := CI.rput hI 8 20 x0 x1 (show (-1 : Int) ≤ x1 ∧ x1 ≤ 19 from ⟨by omega, by omega⟩)
  generalize eS_6 : (su S 8 (rPut 20 (S 8) x0 x1)) = S_6 at hP hI_6
  refine lv_aload_n hx hb dX0_attach_9 rfl (lv_at hl 0 rfl) ?_
  refine lv_dup hx hb dX0_attach_10 rfl ?_
  refine va_get (D := D) (ci := 0) (v := .int (zi (S_6 24 0))) (C := RX0) (T := TX0) (N := 8) hx hb hts in_X0_attach_0 hown hK.1 hP 2 rfl rfl 6 (by decide) (hts _ lk_X0_attach_50) (fun _ h9 => h9) rfl dX0_attach_11 ?_
  refine zi_is (S 24 0) (by rw [← eS_6]; rfl) ?_
  have f_11 : (0 : Int) ≤ S 24 0 ∧ S 24 0 ≤ 100000 := hI 24 0
  refine zi_iconst hx hb dX0_attach_14 ?_
  refine zi_iadd hx hb dX0_attach_15 ?_
  refine va_put (D := D) (ci := 0) (v := .int (zi ((S 24 0) + 1))) (ty := .int) (C := RX0) (T := TX0) (N := 8) hx hb hts in_X0_attach_0 tyX0 tyX0_ok nmX0 hown hK.1 hP (dW_D hdis _) hS 2 rfl rfl 6 (by decide) (hts _ lk_X0_attach_50) (fun _ h9 => h9) rfl (by decide +kernel) rfl rfl (Nat.le_of_ble_eq_true rfl) dX0_attach_16 (fun H locs hP _ hS => ?_)
  have hP : va_P D vwCl (dW cI ad (su S_6 24 (fun _ => (S 24 0) + 1))) H := hP
  have hI_16 : CI (su S_6 24 (fun _ => (S 24 0) + 1)) := CI.upc hI_6 24 ((S 24 0) + 1) (show (0 : Int) ≤ ((S 24 0) + 1) ∧ ((S 24 0) + 1) ≤ 100000 from ⟨by omega, by omega⟩)
  generalize eS_16 : su S_6 24 (fun _ => (S 24 0) + 1) = S_16 at hP hI_16
  refine lv_aload_n hx hb dX0_attach_19 rfl (lv_at hl 0 rfl) ?_
  refine va_get (D := D) (ci := 0) (v := .ref (ad 16)) (C := RX0) (T := TX0) (N := 8) hx hb hts in_X0_attach_0 hown hK.1 hP 2 rfl rfl 2 (by decide) (hts _ lk_X0_attach_23) (fun _ h9 => h9) rfl dX0_attach_20 ?_
  refine lv_iload_n hx hb dX0_attach_23 rfl (lv_at hl 1 rfl) ?_
  refine lv_aload_n hx hb dX0_attach_24 rfl (lv_at hl 0 rfl) ?_
  refine va_get (D := D) (ci := 0) (v := .int (zi (S_16 24 0))) (C := RX0) (T := TX0) (N := 8) hx hb hts in_X0_attach_0 hown hK.1 hP 2 rfl rfl 6 (by decide) (hts _ lk_X0_attach_50) (fun _ h9 => h9) rfl dX0_attach_25 ?_
  refine zi_is ((S 24 0) + 1) (by rw [← eS_16]; rfl) ?_
  refine va_callv (zc_V (As := [.int (zi x0), .int (zi ((S 24 0) + 1))]) (rest := []) ⟨hx, hb, hml, hown, hts⟩ (ct_X5_put l D cI cZ cJ (dW cI ad S_16) (dA ad) (ad 16) (ad 36) 16 36 20 (S_16 9) x0 ((S 24 0) + 1) rfl (Nat.le_of_ble_eq_true rfl) (by decide) (fun g9 => dW_D hdis (su S_16 9 g9)) (by decide) ⟨by omega, by omega⟩) (cwV 2 hts gX0_attach_X5_put rfl rfl rfl (by decide +kernel) ⟨Nat.le_of_ble_eq_true rfl, Nat.le_of_ble_eq_true rfl⟩) hK hP (q0 := 16) (ci := 5) rfl rfl rfl rfl hl.1 rfl (Nat.le_of_ble_eq_true rfl) dX0_attach_28 ⟨Nat.zero_le _, Nat.zero_le _⟩) hS (fun _ _ h => h) (fun _ h => h) (fun u t H locs ht _ hu hQ _ _ hS => ?_)
  have hP : va_P D vwCl (dW cI ad (su S_16 9 (rPut 20 (S_16 9) x0 ((S 24 0) + 1)))) H := by rw [hu] at hQ; rw [← ht]; exact hQ
  have hI_28 : CI (su S_16 9 (rPut 20 (S_16 9) x0 ((S 24 0) + 1))) := CI.rput hI_16 9 20 x0 ((S 24 0) + 1) (show (0 : Int) ≤ ((S 24 0) + 1) ∧ ((S 24 0) + 1) ≤ 100000 from ⟨by omega, by omega⟩)
  generalize eS_28 : (su S_16 9 (rPut 20 (S_16 9) x0 ((S 24 0) + 1))) = S_28 at hP hI_28
  exact zr_wv (T := S_28) hx hb hr hlocks dX0_attach_31 hP hS (by exact ⟨by subst_vars; rfl, hI_28⟩)

theorem in_X0_giveNumber_0 : ∀ w ∈ wsX00, w ∈ wsX0_giveNumber := by decide +kernel
theorem lk_X0_giveNumber_53 : Cond.fieldLink RX0 53 "PlanetoidDesk$Bodies" "lastNumber" "I" ∈ wsX0_giveNumber := by decide +kernel
theorem lk_X0_giveNumber_26 : Cond.fieldLink RX0 26 "PlanetoidDesk$Bodies" "numbers" "LPlanetoidDesk$Row;" ∈ wsX0_giveNumber := by decide +kernel
theorem lk_X0_giveNumber_29 : Cond.fieldLink RX0 29 "PlanetoidDesk$Bodies" "properCourses" "LPlanetoidDesk$Row;" ∈ wsX0_giveNumber := by decide +kernel
abbrev rmct_X0_giveNumber : Room := { frames := 1, cells := 0, slots := 0, locals := 22 }
set_option maxHeartbeats 4000000 in
set_option maxRecDepth 100000 in
theorem ct_X0_giveNumber (l : Launch) (D : va_G) (cI cZ cJ : ClassId) (ad : Nat → Nat) (S : ZS) (hI : CI S) (hdis : dDis ad) (x0 x1 : Int) (hx0 : ir x0) (hx1 : ir x1) (hp10 : 0 ≤ x1) (hp11 : x1 ≤ 404) (hq : S 25 0 < 20) : Met l yX0_giveNumber wsX0_giveNumber rmct_X0_giveNumber (zP D cI cZ cJ (dW cI ad S) [.ref (ad 2), .int (zi x0), .int (zi x1)]) (zWi D (dW cI ad) (dA ad) (fun r T => r = S 25 0 + 1 ∧ T = su (su (su S 25 (fun _ => S 25 0 + 1)) 10 (rPut 20 (S 10) x0 (S 25 0 + 1))) 11 (rPut 20 (S 11) x0 x1) ∧ CI T)) 0 0 (dA ad) := by
  refine Met.ofW (cc := cX0_giveNumber) (maxL := 3) (ret := (some .int)) (by decide) rfl ?_
  intro p e s m args below meth c s₁ B hml hv
  obtain ⟨rfl, hP, hK⟩ := hv
  have hx := B.exec
  have hb := B.bytes
  have hr := B.returns
  have hts := atoms_spec (ws := wsX0_giveNumber) B.pre
  have hown : s.vm.findClass RX0 = some m.cls := findClass_of_methodNamed B.named
  have hlocks := B.notSynchronized
  have hl := lv_entry ([.ref (ad 2), .int (zi x0), .int (zi x1)]) (n := 3) (Nat.le_of_ble_eq_true rfl)
  rw [lg_entry_eq]
  generalize (lg_sl ([.ref (ad 2), .int (zi x0), .int (zi x1)]) ++ List.replicate (3 - (lg_sl ([.ref (ad 2), .int (zi x0), .int (zi x1)])).length) Slot.unset).toArray = ls at hl ⊢
  have hl : lv_has ls 3 [(0, .ref (ad 2)), (1, .int (zi x0)), (2, .int (zi x1))] := hl
  have hS : va_S (dA ad) s.heap s.heap [] := va_S.rf
  show W p l e rmct_X0_giveNumber s m ([.ref (ad 2), .int (zi x0), .int (zi x1)] : List Value).toArray below meth c s.heap [] 0 0 (MQ below (zWi D (dW cI ad) (dA ad) (fun r T => r = S 25 0 + 1 ∧ T = su (su (su S 25 (fun _ => S 25 0 + 1)) 10 (rPut 20 (S 10) x0 (S 25 0 + 1))) 11 (rPut 20 (S 11) x0 x1) ∧ CI T)) ([.ref (ad 2), .int (zi x0), .int (zi x1)] : List Value).toArray s 0 0 (dA ad)) (F0 m 0 ls [])
  refine lv_aload_n hx hb dX0_giveNumber_0 rfl (lv_at hl 0 rfl) ?_
  refine lv_dup hx hb dX0_giveNumber_1 rfl ?_
  refine va_get (D := D) (ci := 0) (v := .int (zi (S 25 0))) (C := RX0) (T := TX0) (N := 8) hx hb hts in_X0_giveNumber_0 hown hK.1 hP 2 rfl rfl 7 (by decide) (hts _ lk_X0_giveNumber_53) (fun _ h9 => h9) rfl dX0_giveNumber_2 ?_
  have f_2 : (0 : Int) ≤ S 25 0 ∧ S 25 0 ≤ 20 := hI 25 0
  refine zi_iconst hx hb dX0_giveNumber_5 ?_
  refine zi_iadd hx hb dX0_giveNumber_6 ?_
  refine va_put (D := D) (ci := 0) (v := .int (zi ((S 25 0) + 1))) (ty := .int) (C := RX0) (T := TX0) (N := 8) hx hb hts in_X0_giveNumber_0 tyX0 tyX0_ok nmX0 hown hK.1 hP (dW_D hdis _) hS 2 rfl rfl 7 (by decide) (hts _ lk_X0_giveNumber_53) (fun _ h9 => h9) rfl (by decide +kernel) rfl rfl (Nat.le_of_ble_eq_true rfl) dX0_giveNumber_7 (fun H locs hP _ hS => ?_)
  have hP : va_P D vwCl (dW cI ad (su S 25 (fun _ => (S 25 0) + 1))) H := hP
  have hI_7 : CI (su S 25 (fun _ => (S 25 0) + 1)) := CI.upc hI 25 ((S 25 0) + 1) (show (0 : Int) ≤ ((S 25 0) + 1) ∧ ((S 25 0) + 1) ≤ 20 from ⟨by omega, by omega⟩)
  generalize eS_7 : su S 25 (fun _ => (S 25 0) + 1) = S_7 at hP hI_7
  refine lv_aload_n hx hb dX0_giveNumber_10 rfl (lv_at hl 0 rfl) ?_
  refine va_get (D := D) (ci := 0) (v := .ref (ad 17)) (C := RX0) (T := TX0) (N := 8) hx hb hts in_X0_giveNumber_0 hown hK.1 hP 2 rfl rfl 3 (by decide) (hts _ lk_X0_giveNumber_26) (fun _ h9 => h9) rfl dX0_giveNumber_11 ?_
  refine lv_iload_n hx hb dX0_giveNumber_14 rfl (lv_at hl 1 rfl) ?_
  refine lv_aload_n hx hb dX0_giveNumber_15 rfl (lv_at hl 0 rfl) ?_
  refine va_get (D := D) (ci := 0) (v := .int (zi (S_7 25 0))) (C := RX0) (T := TX0) (N := 8) hx hb hts in_X0_giveNumber_0 hown hK.1 hP 2 rfl rfl 7 (by decide) (hts _ lk_X0_giveNumber_53) (fun _ h9 => h9) rfl dX0_giveNumber_16 ?_
  refine zi_is ((S 25 0) + 1) (by rw [← eS_7]; rfl) ?_
  refine va_callv (zc_V (As := [.int (zi x0), .int (zi ((S 25 0) + 1))]) (rest := []) ⟨hx, hb, hml, hown, hts⟩ (ct_X5_put l D cI cZ cJ (dW cI ad S_7) (dA ad) (ad 17) (ad 37) 17 37 20 (S_7 10) x0 ((S 25 0) + 1) rfl (Nat.le_of_ble_eq_true rfl) (by decide) (fun g9 => dW_D hdis (su S_7 10 g9)) (by decide) ⟨by omega, by omega⟩) (cwV 2 hts gX0_giveNumber_X5_put rfl rfl rfl (by decide +kernel) ⟨Nat.le_of_ble_eq_true rfl, Nat.le_of_ble_eq_true rfl⟩) hK hP (q0 := 17) (ci := 5) rfl rfl rfl rfl hl.1 rfl (Nat.le_of_ble_eq_true rfl) dX0_giveNumber_19 ⟨Nat.zero_le _, Nat.zero_le _⟩) hS (fun _ _ h => h) (fun _ h => h) (fun u t H locs ht _ hu hQ _ _ hS => ?_)
  have hP : va_P D vwCl (dW cI ad (su S_7 10 (rPut 20 (S_7 10) x0 ((S 25 0) + 1)))) H := by rw [hu] at hQ; rw [← ht]; exact hQ
  have hI_19 : CI (su S_7 10 (rPut 20 (S_7 10) x0 ((S 25 0) + 1))) := CI.rput hI_7 10 20 x0 ((S 25 0) + 1) (show (-1 : Int) ≤ ((S 25 0) + 1) ∧ ((S 25 0) + 1) ≤ 20 from ⟨by omega, by omega⟩)
  generalize eS_19 : (su S_7 10 (rPut 20 (S_7 10) x0 ((S 25 0) + 1))) = S_19 at hP hI_19
  refine lv_aload_n hx hb dX0_giveNumber_22 rfl (lv_at hl 0 rfl) ?_
  refine va_get (D := D) (ci := 0) (v := .ref (ad 18)) (C := RX0) (T := TX0) (N := 8) hx hb hts in_X0_giveNumber_0 hown hK.1 hP 2 rfl rfl 4 (by decide) (hts _ lk_X0_giveNumber_29) (fun _ h9 => h9) rfl dX0_giveNumber_23 ?_
  refine lv_iload_n hx hb dX0_giveNumber_26 rfl (lv_at hl 1 rfl) ?_
  refine lv_iload_n hx hb dX0_giveNumber_27 rfl (lv_at hl 2 rfl) ?_
  refine va_callv (zc_V (As := [.int (zi x0), .int (zi x1)]) (rest := []) ⟨hx, hb, hml, hown, hts⟩ (ct_X5_put l D cI cZ cJ (dW cI ad S_19) (dA ad) (ad 18) (ad 38) 18 38 20 (S_19 11) x0 x1 rfl (Nat.le_of_ble_eq_true rfl) (by decide) (fun g9 => dW_D hdis (su S_19 11 g9)) (by decide) ⟨by omega, by omega⟩) (cwV 2 hts gX0_giveNumber_X5_put rfl rfl rfl (by decide +kernel) ⟨Nat.le_of_ble_eq_true rfl, Nat.le_of_ble_eq_true rfl⟩) hK hP (q0 := 18) (ci := 5) rfl rfl rfl rfl hl.1 rfl (Nat.le_of_ble_eq_true rfl) dX0_giveNumber_28 ⟨Nat.zero_le _, Nat.zero_le _⟩) hS (fun _ _ h => h) (fun _ h => h) (fun u t H locs ht _ hu hQ _ _ hS => ?_)
  have hP : va_P D vwCl (dW cI ad (su S_19 11 (rPut 20 (S_19 11) x0 x1))) H := by rw [hu] at hQ; rw [← ht]; exact hQ
  have hI_28 : CI (su S_19 11 (rPut 20 (S_19 11) x0 x1)) := CI.rput hI_19 11 20 x0 x1 (show (0 : Int) ≤ x1 ∧ x1 ≤ 404 from ⟨by omega, by omega⟩)
  generalize eS_28 : (su S_19 11 (rPut 20 (S_19 11) x0 x1)) = S_28 at hP hI_28
  refine lv_aload_n hx hb dX0_giveNumber_31 rfl (lv_at hl 0 rfl) ?_
  refine va_get (D := D) (ci := 0) (v := .int (zi (S_28 25 0))) (C := RX0) (T := TX0) (N := 8) hx hb hts in_X0_giveNumber_0 hown hK.1 hP 2 rfl rfl 7 (by decide) (hts _ lk_X0_giveNumber_53) (fun _ h9 => h9) rfl dX0_giveNumber_32 ?_
  refine zi_is ((S 25 0) + 1) (by rw [← eS_28, ← eS_19, ← eS_7]; rfl) ?_
  exact zr_wi (T := S_28) hx hb hr hlocks dX0_giveNumber_35 hP hS (by exact ⟨by subst_vars; omega, by subst_vars; rfl, hI_28⟩)

theorem in_X2_add_2 : ∀ w ∈ wsX20, w ∈ wsX2_add := by decide +kernel
theorem lk_X2_add_14 : Cond.fieldLink RX2 14 "PlanetoidDesk$Looks" "dots" "LPlanetoidDesk$Row;" ∈ wsX2_add := by decide +kernel
theorem lk_X2_add_20 : Cond.fieldLink RX2 20 "PlanetoidDesk$Looks" "count" "I" ∈ wsX2_add := by decide +kernel
abbrev rmct_X2_add : Room := { frames := 1, cells := 0, slots := 0, locals := 22 }
set_option maxHeartbeats 4000000 in
set_option maxRecDepth 100000 in
theorem ct_X2_add (l : Launch) (D : va_G) (cI cZ cJ : ClassId) (ad : Nat → Nat) (S : ZS) (hI : CI S) (hdis : dDis ad) (x0 : Int) (hx0 : ir x0) (hp00 : 0 ≤ x0) (hp01 : x0 ≤ 59) (hq : S 26 0 < 60) : Met l yX2_add wsX2_add rmct_X2_add (zP D cI cZ cJ (dW cI ad S) [.ref (ad 3), .int (zi x0)]) (zWv D (dW cI ad) (dA ad) (fun T => T = su (su S 12 (rPut 60 (S 12) (S 26 0) x0)) 26 (fun _ => S 26 0 + 1) ∧ CI T)) 0 0 (dA ad) := by
  refine Met.ofW (cc := cX2_add) (maxL := 2) (ret := none) (by decide) rfl ?_
  intro p e s m args below meth c s₁ B hml hv
  obtain ⟨rfl, hP, hK⟩ := hv
  have hx := B.exec
  have hb := B.bytes
  have hr := B.returns
  have hts := atoms_spec (ws := wsX2_add) B.pre
  have hown : s.vm.findClass RX2 = some m.cls := findClass_of_methodNamed B.named
  have hlocks := B.notSynchronized
  have hl := lv_entry ([.ref (ad 3), .int (zi x0)]) (n := 2) (Nat.le_of_ble_eq_true rfl)
  rw [lg_entry_eq]
  generalize (lg_sl ([.ref (ad 3), .int (zi x0)]) ++ List.replicate (2 - (lg_sl ([.ref (ad 3), .int (zi x0)])).length) Slot.unset).toArray = ls at hl ⊢
  have hl : lv_has ls 2 [(0, .ref (ad 3)), (1, .int (zi x0))] := hl
  have hS : va_S (dA ad) s.heap s.heap [] := va_S.rf
  show W p l e rmct_X2_add s m ([.ref (ad 3), .int (zi x0)] : List Value).toArray below meth c s.heap [] 0 0 (MQ below (zWv D (dW cI ad) (dA ad) (fun T => T = su (su S 12 (rPut 60 (S 12) (S 26 0) x0)) 26 (fun _ => S 26 0 + 1) ∧ CI T)) ([.ref (ad 3), .int (zi x0)] : List Value).toArray s 0 0 (dA ad)) (F0 m 0 ls [])
  refine lv_aload_n hx hb dX2_add_0 rfl (lv_at hl 0 rfl) ?_
  refine va_get (D := D) (ci := 2) (v := .ref (ad 19)) (C := RX2) (T := TX2) (N := 2) hx hb hts in_X2_add_2 hown hK.1 hP 3 rfl rfl 0 (by decide) (hts _ lk_X2_add_14) (fun _ h9 => h9) rfl dX2_add_1 ?_
  refine lv_aload_n hx hb dX2_add_4 rfl (lv_at hl 0 rfl) ?_
  refine va_get (D := D) (ci := 2) (v := .int (zi (S 26 0))) (C := RX2) (T := TX2) (N := 2) hx hb hts in_X2_add_2 hown hK.1 hP 3 rfl rfl 1 (by decide) (hts _ lk_X2_add_20) (fun _ h9 => h9) rfl dX2_add_5 ?_
  have f_5 : (0 : Int) ≤ S 26 0 ∧ S 26 0 ≤ 60 := hI 26 0
  refine lv_iload_n hx hb dX2_add_8 rfl (lv_at hl 1 rfl) ?_
  refine va_callv (zc_V (As := [.int (zi (S 26 0)), .int (zi x0)]) (rest := []) ⟨hx, hb, hml, hown, hts⟩ (ct_X5_put l D cI cZ cJ (dW cI ad S) (dA ad) (ad 19) (ad 39) 19 39 60 (S 12) (S 26 0) x0 rfl (Nat.le_of_ble_eq_true rfl) (by decide) (fun g9 => dW_D hdis (su S 12 g9)) (by decide) ⟨by omega, by omega⟩) (cwV 2 hts gX2_add_X5_put rfl rfl rfl (by decide +kernel) ⟨Nat.le_of_ble_eq_true rfl, Nat.le_of_ble_eq_true rfl⟩) hK hP (q0 := 19) (ci := 5) rfl rfl rfl rfl hl.1 rfl (Nat.le_of_ble_eq_true rfl) dX2_add_9 ⟨Nat.zero_le _, Nat.zero_le _⟩) hS (fun _ _ h => h) (fun _ h => h) (fun u t H locs ht _ hu hQ _ _ hS => ?_)
  have hP : va_P D vwCl (dW cI ad (su S 12 (rPut 60 (S 12) (S 26 0) x0))) H := by rw [hu] at hQ; rw [← ht]; exact hQ
  have hI_9 : CI (su S 12 (rPut 60 (S 12) (S 26 0) x0)) := CI.rput hI 12 60 (S 26 0) x0 (show (0 : Int) ≤ x0 ∧ x0 ≤ 59 from ⟨by omega, by omega⟩)
  generalize eS_9 : (su S 12 (rPut 60 (S 12) (S 26 0) x0)) = S_9 at hP hI_9
  refine lv_aload_n hx hb dX2_add_12 rfl (lv_at hl 0 rfl) ?_
  refine lv_dup hx hb dX2_add_13 rfl ?_
  refine va_get (D := D) (ci := 2) (v := .int (zi (S_9 26 0))) (C := RX2) (T := TX2) (N := 2) hx hb hts in_X2_add_2 hown hK.1 hP 3 rfl rfl 1 (by decide) (hts _ lk_X2_add_20) (fun _ h9 => h9) rfl dX2_add_14 ?_
  refine zi_is (S 26 0) (by rw [← eS_9]; rfl) ?_
  have f_14 : (0 : Int) ≤ S 26 0 ∧ S 26 0 ≤ 60 := hI 26 0
  refine zi_iconst hx hb dX2_add_17 ?_
  refine zi_iadd hx hb dX2_add_18 ?_
  refine va_put (D := D) (ci := 2) (v := .int (zi ((S 26 0) + 1))) (ty := .int) (C := RX2) (T := TX2) (N := 2) hx hb hts in_X2_add_2 tyX2 tyX2_ok nmX2 hown hK.1 hP (dW_D hdis _) hS 3 rfl rfl 1 (by decide) (hts _ lk_X2_add_20) (fun _ h9 => h9) rfl (by decide +kernel) rfl rfl (Nat.le_of_ble_eq_true rfl) dX2_add_19 (fun H locs hP _ hS => ?_)
  have hP : va_P D vwCl (dW cI ad (su S_9 26 (fun _ => (S 26 0) + 1))) H := hP
  have hI_19 : CI (su S_9 26 (fun _ => (S 26 0) + 1)) := CI.upc hI_9 26 ((S 26 0) + 1) (show (0 : Int) ≤ ((S 26 0) + 1) ∧ ((S 26 0) + 1) ≤ 60 from ⟨by omega, by omega⟩)
  generalize eS_19 : su S_9 26 (fun _ => (S 26 0) + 1) = S_19 at hP hI_19
  exact zr_wv (T := S_19) hx hb hr hlocks dX2_add_22 hP hS (by exact ⟨by subst_vars; rfl, hI_19⟩)

theorem in_X2_dotAt_2 : ∀ w ∈ wsX20, w ∈ wsX2_dotAt := by decide +kernel
theorem lk_X2_dotAt_14 : Cond.fieldLink RX2 14 "PlanetoidDesk$Looks" "dots" "LPlanetoidDesk$Row;" ∈ wsX2_dotAt := by decide +kernel
abbrev rmct_X2_dotAt : Room := { frames := 1, cells := 0, slots := 0, locals := 21 }
set_option maxHeartbeats 4000000 in
set_option maxRecDepth 100000 in
theorem ct_X2_dotAt (l : Launch) (D : va_G) (cI cZ cJ : ClassId) (ad : Nat → Nat) (S : ZS) (hI : CI S) (x0 : Int) (hx0 : ir x0)  : Met l yX2_dotAt wsX2_dotAt rmct_X2_dotAt (zP D cI cZ cJ (dW cI ad S) [.ref (ad 3), .int (zi x0)]) (k2_QcV (.int (zi (rAt 60 (S 12) x0)))) 0 0 (fun _ => False) := by
  refine Met.ofW (cc := cX2_dotAt) (maxL := 2) (ret := (some .int)) (by decide) rfl ?_
  intro p e s m args below meth c s₁ B hml hv
  obtain ⟨rfl, hP, hK⟩ := hv
  have hx := B.exec
  have hb := B.bytes
  have hr := B.returns
  have hts := atoms_spec (ws := wsX2_dotAt) B.pre
  have hown : s.vm.findClass RX2 = some m.cls := findClass_of_methodNamed B.named
  have hlocks := B.notSynchronized
  have hl := lv_entry ([.ref (ad 3), .int (zi x0)]) (n := 2) (Nat.le_of_ble_eq_true rfl)
  rw [lg_entry_eq]
  generalize (lg_sl ([.ref (ad 3), .int (zi x0)]) ++ List.replicate (2 - (lg_sl ([.ref (ad 3), .int (zi x0)])).length) Slot.unset).toArray = ls at hl ⊢
  have hl : lv_has ls 2 [(0, .ref (ad 3)), (1, .int (zi x0))] := hl
  show W p l e rmct_X2_dotAt s m ([.ref (ad 3), .int (zi x0)] : List Value).toArray below meth c s.heap [] 0 0 (MQ below (k2_QcV (.int (zi (rAt 60 (S 12) x0)))) ([.ref (ad 3), .int (zi x0)] : List Value).toArray s 0 0 (fun _ => False)) (F0 m 0 ls [])
  refine lv_aload_n hx hb dX2_dotAt_0 rfl (lv_at hl 0 rfl) ?_
  refine va_get (D := D) (ci := 2) (v := .ref (ad 19)) (C := RX2) (T := TX2) (N := 2) hx hb hts in_X2_dotAt_2 hown hK.1 hP 3 rfl rfl 0 (by decide) (hts _ lk_X2_dotAt_14) (fun _ h9 => h9) rfl dX2_dotAt_1 ?_
  refine lv_iload_n hx hb dX2_dotAt_4 rfl (lv_at hl 1 rfl) ?_
  refine zk_r (zc_V (As := [.int (zi x0)]) (rest := []) ⟨hx, hb, hml, hown, hts⟩ (ct_X5_at l D cI cZ cJ (dW cI ad S) (ad 19) (ad 39) 19 39 60 (S 12) x0 rfl rfl (by decide) ⟨by omega, by omega⟩) (cwV 1 hts gX2_dotAt_X5_at rfl rfl rfl (by decide +kernel) ⟨Nat.le_of_ble_eq_true rfl, Nat.le_of_ble_eq_true rfl⟩) hK hP (q0 := 19) (ci := 5) rfl rfl rfl rfl hl.1 rfl (Nat.le_of_ble_eq_true rfl) dX2_dotAt_5 ⟨Nat.zero_le _, Nat.zero_le _⟩) ?_
  refine zi_top (fun (r_5 : Int) (er_5 : r_5 = rAt 60 (S 12) x0) => ?_)
  have fr_5 : (0 : Int) ≤ r_5 ∧ r_5 ≤ 59 := by rw [er_5]; exact CI.at hI 12 60 x0 ⟨by decide, by decide⟩
  exact zr_i hx hb hr hlocks dX2_dotAt_8 (by subst_vars; rfl)

theorem in_X6_addObservatory_6 : ∀ w ∈ wsX60, w ∈ wsX6_addObservatory := by decide +kernel
theorem lk_X6_addObservatory_14 : Cond.fieldLink RX6 14 "PlanetoidDesk$Sky" "errors" "LPlanetoidDesk$Row;" ∈ wsX6_addObservatory := by decide +kernel
theorem lk_X6_addObservatory_38 : Cond.fieldLink RX6 38 "PlanetoidDesk$Sky" "observatoryCount" "I" ∈ wsX6_addObservatory := by decide +kernel
abbrev rmct_X6_addObservatory : Room := { frames := 1, cells := 0, slots := 0, locals := 22 }
set_option maxHeartbeats 4000000 in
set_option maxRecDepth 100000 in
theorem ct_X6_addObservatory (l : Launch) (D : va_G) (cI cZ cJ : ClassId) (ad : Nat → Nat) (S : ZS) (hI : CI S) (hdis : dDis ad) (x0 : Int) (hx0 : ir x0) (hp00 : 0 ≤ x0) (hp01 : x0 ≤ 9) (hq : S 20 0 < 6) : Met l yX6_addObservatory wsX6_addObservatory rmct_X6_addObservatory (zP D cI cZ cJ (dW cI ad S) [.ref (ad 1), .int (zi x0)]) (zWi D (dW cI ad) (dA ad) (fun r T => r = S 20 0 ∧ T = su (su S 0 (rPut 6 (S 0) (S 20 0) x0)) 20 (fun _ => S 20 0 + 1) ∧ CI T)) 0 0 (dA ad) := by
  refine Met.ofW (cc := cX6_addObservatory) (maxL := 2) (ret := (some .int)) (by decide) rfl ?_
  intro p e s m args below meth c s₁ B hml hv
  obtain ⟨rfl, hP, hK⟩ := hv
  have hx := B.exec
  have hb := B.bytes
  have hr := B.returns
  have hts := atoms_spec (ws := wsX6_addObservatory) B.pre
  have hown : s.vm.findClass RX6 = some m.cls := findClass_of_methodNamed B.named
  have hlocks := B.notSynchronized
  have hl := lv_entry ([.ref (ad 1), .int (zi x0)]) (n := 2) (Nat.le_of_ble_eq_true rfl)
  rw [lg_entry_eq]
  generalize (lg_sl ([.ref (ad 1), .int (zi x0)]) ++ List.replicate (2 - (lg_sl ([.ref (ad 1), .int (zi x0)])).length) Slot.unset).toArray = ls at hl ⊢
  have hl : lv_has ls 2 [(0, .ref (ad 1)), (1, .int (zi x0))] := hl
  have hS : va_S (dA ad) s.heap s.heap [] := va_S.rf
  show W p l e rmct_X6_addObservatory s m ([.ref (ad 1), .int (zi x0)] : List Value).toArray below meth c s.heap [] 0 0 (MQ below (zWi D (dW cI ad) (dA ad) (fun r T => r = S 20 0 ∧ T = su (su S 0 (rPut 6 (S 0) (S 20 0) x0)) 20 (fun _ => S 20 0 + 1) ∧ CI T)) ([.ref (ad 1), .int (zi x0)] : List Value).toArray s 0 0 (dA ad)) (F0 m 0 ls [])
  refine lv_aload_n hx hb dX6_addObservatory_0 rfl (lv_at hl 0 rfl) ?_
  refine va_get (D := D) (ci := 6) (v := .ref (ad 7)) (C := RX6) (T := TX6) (N := 10) hx hb hts in_X6_addObservatory_6 hown hK.1 hP 1 rfl rfl 0 (by decide) (hts _ lk_X6_addObservatory_14) (fun _ h9 => h9) rfl dX6_addObservatory_1 ?_
  refine lv_aload_n hx hb dX6_addObservatory_4 rfl (lv_at hl 0 rfl) ?_
  refine va_get (D := D) (ci := 6) (v := .int (zi (S 20 0))) (C := RX6) (T := TX6) (N := 10) hx hb hts in_X6_addObservatory_6 hown hK.1 hP 1 rfl rfl 7 (by decide) (hts _ lk_X6_addObservatory_38) (fun _ h9 => h9) rfl dX6_addObservatory_5 ?_
  have f_5 : (0 : Int) ≤ S 20 0 ∧ S 20 0 ≤ 6 := hI 20 0
  refine lv_iload_n hx hb dX6_addObservatory_8 rfl (lv_at hl 1 rfl) ?_
  refine va_callv (zc_V (As := [.int (zi (S 20 0)), .int (zi x0)]) (rest := []) ⟨hx, hb, hml, hown, hts⟩ (ct_X5_put l D cI cZ cJ (dW cI ad S) (dA ad) (ad 7) (ad 27) 7 27 6 (S 0) (S 20 0) x0 rfl (Nat.le_of_ble_eq_true rfl) (by decide) (fun g9 => dW_D hdis (su S 0 g9)) (by decide) ⟨by omega, by omega⟩) (cwV 2 hts gX6_addObservatory_X5_put rfl rfl rfl (by decide +kernel) ⟨Nat.le_of_ble_eq_true rfl, Nat.le_of_ble_eq_true rfl⟩) hK hP (q0 := 7) (ci := 5) rfl rfl rfl rfl hl.1 rfl (Nat.le_of_ble_eq_true rfl) dX6_addObservatory_9 ⟨Nat.zero_le _, Nat.zero_le _⟩) hS (fun _ _ h => h) (fun _ h => h) (fun u t H locs ht _ hu hQ _ _ hS => ?_)
  have hP : va_P D vwCl (dW cI ad (su S 0 (rPut 6 (S 0) (S 20 0) x0))) H := by rw [hu] at hQ; rw [← ht]; exact hQ
  have hI_9 : CI (su S 0 (rPut 6 (S 0) (S 20 0) x0)) := CI.rput hI 0 6 (S 20 0) x0 (show (0 : Int) ≤ x0 ∧ x0 ≤ 9 from ⟨by omega, by omega⟩)
  generalize eS_9 : (su S 0 (rPut 6 (S 0) (S 20 0) x0)) = S_9 at hP hI_9
  refine lv_aload_n hx hb dX6_addObservatory_12 rfl (lv_at hl 0 rfl) ?_
  refine lv_dup hx hb dX6_addObservatory_13 rfl ?_
  refine va_get (D := D) (ci := 6) (v := .int (zi (S_9 20 0))) (C := RX6) (T := TX6) (N := 10) hx hb hts in_X6_addObservatory_6 hown hK.1 hP 1 rfl rfl 7 (by decide) (hts _ lk_X6_addObservatory_38) (fun _ h9 => h9) rfl dX6_addObservatory_14 ?_
  refine zi_is (S 20 0) (by rw [← eS_9]; rfl) ?_
  have f_14 : (0 : Int) ≤ S 20 0 ∧ S 20 0 ≤ 6 := hI 20 0
  refine zi_iconst hx hb dX6_addObservatory_17 ?_
  refine zi_iadd hx hb dX6_addObservatory_18 ?_
  refine va_put (D := D) (ci := 6) (v := .int (zi ((S 20 0) + 1))) (ty := .int) (C := RX6) (T := TX6) (N := 10) hx hb hts in_X6_addObservatory_6 tyX6 tyX6_ok nmX6 hown hK.1 hP (dW_D hdis _) hS 1 rfl rfl 7 (by decide) (hts _ lk_X6_addObservatory_38) (fun _ h9 => h9) rfl (by decide +kernel) rfl rfl (Nat.le_of_ble_eq_true rfl) dX6_addObservatory_19 (fun H locs hP _ hS => ?_)
  have hP : va_P D vwCl (dW cI ad (su S_9 20 (fun _ => (S 20 0) + 1))) H := hP
  have hI_19 : CI (su S_9 20 (fun _ => (S 20 0) + 1)) := CI.upc hI_9 20 ((S 20 0) + 1) (show (0 : Int) ≤ ((S 20 0) + 1) ∧ ((S 20 0) + 1) ≤ 6 from ⟨by omega, by omega⟩)
  generalize eS_19 : su S_9 20 (fun _ => (S 20 0) + 1) = S_19 at hP hI_19
  refine lv_aload_n hx hb dX6_addObservatory_22 rfl (lv_at hl 0 rfl) ?_
  refine va_get (D := D) (ci := 6) (v := .int (zi (S_19 20 0))) (C := RX6) (T := TX6) (N := 10) hx hb hts in_X6_addObservatory_6 hown hK.1 hP 1 rfl rfl 7 (by decide) (hts _ lk_X6_addObservatory_38) (fun _ h9 => h9) rfl dX6_addObservatory_23 ?_
  refine zi_is ((S 20 0) + 1) (by rw [← eS_19]; rfl) ?_
  refine zi_iconst hx hb dX6_addObservatory_26 ?_
  refine zi_isub hx hb dX6_addObservatory_27 ?_
  exact zr_wi (T := S_19) hx hb hr hlocks dX6_addObservatory_28 hP hS (by exact ⟨by subst_vars; omega, by subst_vars; rfl, hI_19⟩)

theorem in_X6_addPlate_6 : ∀ w ∈ wsX60, w ∈ wsX6_addPlate := by decide +kernel
theorem lk_X6_addPlate_20 : Cond.fieldLink RX6 20 "PlanetoidDesk$Sky" "plateObservatories" "LPlanetoidDesk$Row;" ∈ wsX6_addPlate := by decide +kernel
theorem lk_X6_addPlate_46 : Cond.fieldLink RX6 46 "PlanetoidDesk$Sky" "plateCount" "I" ∈ wsX6_addPlate := by decide +kernel
theorem lk_X6_addPlate_23 : Cond.fieldLink RX6 23 "PlanetoidDesk$Sky" "plateNights" "LPlanetoidDesk$Row;" ∈ wsX6_addPlate := by decide +kernel
abbrev rmct_X6_addPlate : Room := { frames := 1, cells := 0, slots := 0, locals := 22 }
set_option maxHeartbeats 4000000 in
set_option maxRecDepth 100000 in
theorem ct_X6_addPlate (l : Launch) (D : va_G) (cI cZ cJ : ClassId) (ad : Nat → Nat) (S : ZS) (hI : CI S) (hdis : dDis ad) (x0 x1 : Int) (hx0 : ir x0) (hx1 : ir x1) (hp00 : 0 ≤ x0) (hp01 : x0 ≤ 5) (hp10 : 0 ≤ x1) (hp11 : x1 ≤ 999) (hq : S 21 0 < 30) : Met l yX6_addPlate wsX6_addPlate rmct_X6_addPlate (zP D cI cZ cJ (dW cI ad S) [.ref (ad 1), .int (zi x0), .int (zi x1)]) (zWi D (dW cI ad) (dA ad) (fun r T => r = S 21 0 ∧ T = su (su (su S 1 (rPut 30 (S 1) (S 21 0) x0)) 2 (rPut 30 (S 2) (S 21 0) x1)) 21 (fun _ => S 21 0 + 1) ∧ CI T)) 0 0 (dA ad) := by
  refine Met.ofW (cc := cX6_addPlate) (maxL := 3) (ret := (some .int)) (by decide) rfl ?_
  intro p e s m args below meth c s₁ B hml hv
  obtain ⟨rfl, hP, hK⟩ := hv
  have hx := B.exec
  have hb := B.bytes
  have hr := B.returns
  have hts := atoms_spec (ws := wsX6_addPlate) B.pre
  have hown : s.vm.findClass RX6 = some m.cls := findClass_of_methodNamed B.named
  have hlocks := B.notSynchronized
  have hl := lv_entry ([.ref (ad 1), .int (zi x0), .int (zi x1)]) (n := 3) (Nat.le_of_ble_eq_true rfl)
  rw [lg_entry_eq]
  generalize (lg_sl ([.ref (ad 1), .int (zi x0), .int (zi x1)]) ++ List.replicate (3 - (lg_sl ([.ref (ad 1), .int (zi x0), .int (zi x1)])).length) Slot.unset).toArray = ls at hl ⊢
  have hl : lv_has ls 3 [(0, .ref (ad 1)), (1, .int (zi x0)), (2, .int (zi x1))] := hl
  have hS : va_S (dA ad) s.heap s.heap [] := va_S.rf
  show W p l e rmct_X6_addPlate s m ([.ref (ad 1), .int (zi x0), .int (zi x1)] : List Value).toArray below meth c s.heap [] 0 0 (MQ below (zWi D (dW cI ad) (dA ad) (fun r T => r = S 21 0 ∧ T = su (su (su S 1 (rPut 30 (S 1) (S 21 0) x0)) 2 (rPut 30 (S 2) (S 21 0) x1)) 21 (fun _ => S 21 0 + 1) ∧ CI T)) ([.ref (ad 1), .int (zi x0), .int (zi x1)] : List Value).toArray s 0 0 (dA ad)) (F0 m 0 ls [])
  refine lv_aload_n hx hb dX6_addPlate_0 rfl (lv_at hl 0 rfl) ?_
  refine va_get (D := D) (ci := 6) (v := .ref (ad 8)) (C := RX6) (T := TX6) (N := 10) hx hb hts in_X6_addPlate_6 hown hK.1 hP 1 rfl rfl 1 (by decide) (hts _ lk_X6_addPlate_20) (fun _ h9 => h9) rfl dX6_addPlate_1 ?_
  refine lv_aload_n hx hb dX6_addPlate_4 rfl (lv_at hl 0 rfl) ?_
  refine va_get (D := D) (ci := 6) (v := .int (zi (S 21 0))) (C := RX6) (T := TX6) (N := 10) hx hb hts in_X6_addPlate_6 hown hK.1 hP 1 rfl rfl 8 (by decide) (hts _ lk_X6_addPlate_46) (fun _ h9 => h9) rfl dX6_addPlate_5 ?_
  have f_5 : (0 : Int) ≤ S 21 0 ∧ S 21 0 ≤ 30 := hI 21 0
  refine lv_iload_n hx hb dX6_addPlate_8 rfl (lv_at hl 1 rfl) ?_
  refine va_callv (zc_V (As := [.int (zi (S 21 0)), .int (zi x0)]) (rest := []) ⟨hx, hb, hml, hown, hts⟩ (ct_X5_put l D cI cZ cJ (dW cI ad S) (dA ad) (ad 8) (ad 28) 8 28 30 (S 1) (S 21 0) x0 rfl (Nat.le_of_ble_eq_true rfl) (by decide) (fun g9 => dW_D hdis (su S 1 g9)) (by decide) ⟨by omega, by omega⟩) (cwV 2 hts gX6_addPlate_X5_put rfl rfl rfl (by decide +kernel) ⟨Nat.le_of_ble_eq_true rfl, Nat.le_of_ble_eq_true rfl⟩) hK hP (q0 := 8) (ci := 5) rfl rfl rfl rfl hl.1 rfl (Nat.le_of_ble_eq_true rfl) dX6_addPlate_9 ⟨Nat.zero_le _, Nat.zero_le _⟩) hS (fun _ _ h => h) (fun _ h => h) (fun u t H locs ht _ hu hQ _ _ hS => ?_)
  have hP : va_P D vwCl (dW cI ad (su S 1 (rPut 30 (S 1) (S 21 0) x0))) H := by rw [hu] at hQ; rw [← ht]; exact hQ
  have hI_9 : CI (su S 1 (rPut 30 (S 1) (S 21 0) x0)) := CI.rput hI 1 30 (S 21 0) x0 (show (0 : Int) ≤ x0 ∧ x0 ≤ 5 from ⟨by omega, by omega⟩)
  generalize eS_9 : (su S 1 (rPut 30 (S 1) (S 21 0) x0)) = S_9 at hP hI_9
  refine lv_aload_n hx hb dX6_addPlate_12 rfl (lv_at hl 0 rfl) ?_
  refine va_get (D := D) (ci := 6) (v := .ref (ad 9)) (C := RX6) (T := TX6) (N := 10) hx hb hts in_X6_addPlate_6 hown hK.1 hP 1 rfl rfl 2 (by decide) (hts _ lk_X6_addPlate_23) (fun _ h9 => h9) rfl dX6_addPlate_13 ?_
  refine lv_aload_n hx hb dX6_addPlate_16 rfl (lv_at hl 0 rfl) ?_
  refine va_get (D := D) (ci := 6) (v := .int (zi (S_9 21 0))) (C := RX6) (T := TX6) (N := 10) hx hb hts in_X6_addPlate_6 hown hK.1 hP 1 rfl rfl 8 (by decide) (hts _ lk_X6_addPlate_46) (fun _ h9 => h9) rfl dX6_addPlate_17 ?_
  refine zi_is (S 21 0) (by rw [← eS_9]; rfl) ?_
  have f_17 : (0 : Int) ≤ S 21 0 ∧ S 21 0 ≤ 30 := hI 21 0
  refine lv_iload_n hx hb dX6_addPlate_20 rfl (lv_at hl 2 rfl) ?_
  refine va_callv (zc_V (As := [.int (zi (S 21 0)), .int (zi x1)]) (rest := []) ⟨hx, hb, hml, hown, hts⟩ (ct_X5_put l D cI cZ cJ (dW cI ad S_9) (dA ad) (ad 9) (ad 29) 9 29 30 (S_9 2) (S 21 0) x1 rfl (Nat.le_of_ble_eq_true rfl) (by decide) (fun g9 => dW_D hdis (su S_9 2 g9)) (by decide) ⟨by omega, by omega⟩) (cwV 2 hts gX6_addPlate_X5_put rfl rfl rfl (by decide +kernel) ⟨Nat.le_of_ble_eq_true rfl, Nat.le_of_ble_eq_true rfl⟩) hK hP (q0 := 9) (ci := 5) rfl rfl rfl rfl hl.1 rfl (Nat.le_of_ble_eq_true rfl) dX6_addPlate_21 ⟨Nat.zero_le _, Nat.zero_le _⟩) hS (fun _ _ h => h) (fun _ h => h) (fun u t H locs ht _ hu hQ _ _ hS => ?_)
  have hP : va_P D vwCl (dW cI ad (su S_9 2 (rPut 30 (S_9 2) (S 21 0) x1))) H := by rw [hu] at hQ; rw [← ht]; exact hQ
  have hI_21 : CI (su S_9 2 (rPut 30 (S_9 2) (S 21 0) x1)) := CI.rput hI_9 2 30 (S 21 0) x1 (show (0 : Int) ≤ x1 ∧ x1 ≤ 999 from ⟨by omega, by omega⟩)
  generalize eS_21 : (su S_9 2 (rPut 30 (S_9 2) (S 21 0) x1)) = S_21 at hP hI_21
  refine lv_aload_n hx hb dX6_addPlate_24 rfl (lv_at hl 0 rfl) ?_
  refine lv_dup hx hb dX6_addPlate_25 rfl ?_
  refine va_get (D := D) (ci := 6) (v := .int (zi (S_21 21 0))) (C := RX6) (T := TX6) (N := 10) hx hb hts in_X6_addPlate_6 hown hK.1 hP 1 rfl rfl 8 (by decide) (hts _ lk_X6_addPlate_46) (fun _ h9 => h9) rfl dX6_addPlate_26 ?_
  refine zi_is (S 21 0) (by rw [← eS_21, ← eS_9]; rfl) ?_
  have f_26 : (0 : Int) ≤ S 21 0 ∧ S 21 0 ≤ 30 := hI 21 0
  refine zi_iconst hx hb dX6_addPlate_29 ?_
  refine zi_iadd hx hb dX6_addPlate_30 ?_
  refine va_put (D := D) (ci := 6) (v := .int (zi ((S 21 0) + 1))) (ty := .int) (C := RX6) (T := TX6) (N := 10) hx hb hts in_X6_addPlate_6 tyX6 tyX6_ok nmX6 hown hK.1 hP (dW_D hdis _) hS 1 rfl rfl 8 (by decide) (hts _ lk_X6_addPlate_46) (fun _ h9 => h9) rfl (by decide +kernel) rfl rfl (Nat.le_of_ble_eq_true rfl) dX6_addPlate_31 (fun H locs hP _ hS => ?_)
  have hP : va_P D vwCl (dW cI ad (su S_21 21 (fun _ => (S 21 0) + 1))) H := hP
  have hI_31 : CI (su S_21 21 (fun _ => (S 21 0) + 1)) := CI.upc hI_21 21 ((S 21 0) + 1) (show (0 : Int) ≤ ((S 21 0) + 1) ∧ ((S 21 0) + 1) ≤ 30 from ⟨by omega, by omega⟩)
  generalize eS_31 : su S_21 21 (fun _ => (S 21 0) + 1) = S_31 at hP hI_31
  refine lv_aload_n hx hb dX6_addPlate_34 rfl (lv_at hl 0 rfl) ?_
  refine va_get (D := D) (ci := 6) (v := .int (zi (S_31 21 0))) (C := RX6) (T := TX6) (N := 10) hx hb hts in_X6_addPlate_6 hown hK.1 hP 1 rfl rfl 8 (by decide) (hts _ lk_X6_addPlate_46) (fun _ h9 => h9) rfl dX6_addPlate_35 ?_
  refine zi_is ((S 21 0) + 1) (by rw [← eS_31]; rfl) ?_
  refine zi_iconst hx hb dX6_addPlate_38 ?_
  refine zi_isub hx hb dX6_addPlate_39 ?_
  exact zr_wi (T := S_31) hx hb hr hlocks dX6_addPlate_40 hP hS (by exact ⟨by subst_vars; omega, by subst_vars; rfl, hI_31⟩)

theorem in_X6_addDot_6 : ∀ w ∈ wsX60, w ∈ wsX6_addDot := by decide +kernel
theorem lk_X6_addDot_26 : Cond.fieldLink RX6 26 "PlanetoidDesk$Sky" "dotPlates" "LPlanetoidDesk$Row;" ∈ wsX6_addDot := by decide +kernel
theorem lk_X6_addDot_49 : Cond.fieldLink RX6 49 "PlanetoidDesk$Sky" "dotCount" "I" ∈ wsX6_addDot := by decide +kernel
theorem lk_X6_addDot_29 : Cond.fieldLink RX6 29 "PlanetoidDesk$Sky" "dotPlaces" "LPlanetoidDesk$Row;" ∈ wsX6_addDot := by decide +kernel
theorem lk_X6_addDot_32 : Cond.fieldLink RX6 32 "PlanetoidDesk$Sky" "dotLights" "LPlanetoidDesk$Row;" ∈ wsX6_addDot := by decide +kernel
abbrev rmct_X6_addDot : Room := { frames := 1, cells := 0, slots := 0, locals := 22 }
set_option maxHeartbeats 4000000 in
set_option maxRecDepth 100000 in
theorem ct_X6_addDot (l : Launch) (D : va_G) (cI cZ cJ : ClassId) (ad : Nat → Nat) (S : ZS) (hI : CI S) (hdis : dDis ad) (x0 x1 x2 : Int) (hx0 : ir x0) (hx1 : ir x1) (hx2 : ir x2) (hp00 : 0 ≤ x0) (hp01 : x0 ≤ 29) (hp10 : 0 ≤ x1) (hp11 : x1 ≤ 3599) (hp20 : 0 ≤ x2) (hp21 : x2 ≤ 99) (hq : S 22 0 < 60) : Met l yX6_addDot wsX6_addDot rmct_X6_addDot (zP D cI cZ cJ (dW cI ad S) [.ref (ad 1), .int (zi x0), .int (zi x1), .int (zi x2)]) (zWi D (dW cI ad) (dA ad) (fun r T => r = S 22 0 ∧ T = su (su (su (su S 3 (rPut 60 (S 3) (S 22 0) x0)) 4 (rPut 60 (S 4) (S 22 0) x1)) 5 (rPut 60 (S 5) (S 22 0) x2)) 22 (fun _ => S 22 0 + 1) ∧ CI T)) 0 0 (dA ad) := by
  refine Met.ofW (cc := cX6_addDot) (maxL := 4) (ret := (some .int)) (by decide) rfl ?_
  intro p e s m args below meth c s₁ B hml hv
  obtain ⟨rfl, hP, hK⟩ := hv
  have hx := B.exec
  have hb := B.bytes
  have hr := B.returns
  have hts := atoms_spec (ws := wsX6_addDot) B.pre
  have hown : s.vm.findClass RX6 = some m.cls := findClass_of_methodNamed B.named
  have hlocks := B.notSynchronized
  have hl := lv_entry ([.ref (ad 1), .int (zi x0), .int (zi x1), .int (zi x2)]) (n := 4) (Nat.le_of_ble_eq_true rfl)
  rw [lg_entry_eq]
  generalize (lg_sl ([.ref (ad 1), .int (zi x0), .int (zi x1), .int (zi x2)]) ++ List.replicate (4 - (lg_sl ([.ref (ad 1), .int (zi x0), .int (zi x1), .int (zi x2)])).length) Slot.unset).toArray = ls at hl ⊢
  have hl : lv_has ls 4 [(0, .ref (ad 1)), (1, .int (zi x0)), (2, .int (zi x1)), (3, .int (zi x2))] := hl
  have hS : va_S (dA ad) s.heap s.heap [] := va_S.rf
  show W p l e rmct_X6_addDot s m ([.ref (ad 1), .int (zi x0), .int (zi x1), .int (zi x2)] : List Value).toArray below meth c s.heap [] 0 0 (MQ below (zWi D (dW cI ad) (dA ad) (fun r T => r = S 22 0 ∧ T = su (su (su (su S 3 (rPut 60 (S 3) (S 22 0) x0)) 4 (rPut 60 (S 4) (S 22 0) x1)) 5 (rPut 60 (S 5) (S 22 0) x2)) 22 (fun _ => S 22 0 + 1) ∧ CI T)) ([.ref (ad 1), .int (zi x0), .int (zi x1), .int (zi x2)] : List Value).toArray s 0 0 (dA ad)) (F0 m 0 ls [])
  refine lv_aload_n hx hb dX6_addDot_0 rfl (lv_at hl 0 rfl) ?_
  refine va_get (D := D) (ci := 6) (v := .ref (ad 10)) (C := RX6) (T := TX6) (N := 10) hx hb hts in_X6_addDot_6 hown hK.1 hP 1 rfl rfl 3 (by decide) (hts _ lk_X6_addDot_26) (fun _ h9 => h9) rfl dX6_addDot_1 ?_
  refine lv_aload_n hx hb dX6_addDot_4 rfl (lv_at hl 0 rfl) ?_
  refine va_get (D := D) (ci := 6) (v := .int (zi (S 22 0))) (C := RX6) (T := TX6) (N := 10) hx hb hts in_X6_addDot_6 hown hK.1 hP 1 rfl rfl 9 (by decide) (hts _ lk_X6_addDot_49) (fun _ h9 => h9) rfl dX6_addDot_5 ?_
  have f_5 : (0 : Int) ≤ S 22 0 ∧ S 22 0 ≤ 60 := hI 22 0
  refine lv_iload_n hx hb dX6_addDot_8 rfl (lv_at hl 1 rfl) ?_
  refine va_callv (zc_V (As := [.int (zi (S 22 0)), .int (zi x0)]) (rest := []) ⟨hx, hb, hml, hown, hts⟩ (ct_X5_put l D cI cZ cJ (dW cI ad S) (dA ad) (ad 10) (ad 30) 10 30 60 (S 3) (S 22 0) x0 rfl (Nat.le_of_ble_eq_true rfl) (by decide) (fun g9 => dW_D hdis (su S 3 g9)) (by decide) ⟨by omega, by omega⟩) (cwV 2 hts gX6_addDot_X5_put rfl rfl rfl (by decide +kernel) ⟨Nat.le_of_ble_eq_true rfl, Nat.le_of_ble_eq_true rfl⟩) hK hP (q0 := 10) (ci := 5) rfl rfl rfl rfl hl.1 rfl (Nat.le_of_ble_eq_true rfl) dX6_addDot_9 ⟨Nat.zero_le _, Nat.zero_le _⟩) hS (fun _ _ h => h) (fun _ h => h) (fun u t H locs ht _ hu hQ _ _ hS => ?_)
  have hP : va_P D vwCl (dW cI ad (su S 3 (rPut 60 (S 3) (S 22 0) x0))) H := by rw [hu] at hQ; rw [← ht]; exact hQ
  have hI_9 : CI (su S 3 (rPut 60 (S 3) (S 22 0) x0)) := CI.rput hI 3 60 (S 22 0) x0 (show (0 : Int) ≤ x0 ∧ x0 ≤ 29 from ⟨by omega, by omega⟩)
  generalize eS_9 : (su S 3 (rPut 60 (S 3) (S 22 0) x0)) = S_9 at hP hI_9
  refine lv_aload_n hx hb dX6_addDot_12 rfl (lv_at hl 0 rfl) ?_
  refine va_get (D := D) (ci := 6) (v := .ref (ad 11)) (C := RX6) (T := TX6) (N := 10) hx hb hts in_X6_addDot_6 hown hK.1 hP 1 rfl rfl 4 (by decide) (hts _ lk_X6_addDot_29) (fun _ h9 => h9) rfl dX6_addDot_13 ?_
  refine lv_aload_n hx hb dX6_addDot_16 rfl (lv_at hl 0 rfl) ?_
  refine va_get (D := D) (ci := 6) (v := .int (zi (S_9 22 0))) (C := RX6) (T := TX6) (N := 10) hx hb hts in_X6_addDot_6 hown hK.1 hP 1 rfl rfl 9 (by decide) (hts _ lk_X6_addDot_49) (fun _ h9 => h9) rfl dX6_addDot_17 ?_
  refine zi_is (S 22 0) (by rw [← eS_9]; rfl) ?_
  have f_17 : (0 : Int) ≤ S 22 0 ∧ S 22 0 ≤ 60 := hI 22 0
  refine lv_iload_n hx hb dX6_addDot_20 rfl (lv_at hl 2 rfl) ?_
  refine va_callv (zc_V (As := [.int (zi (S 22 0)), .int (zi x1)]) (rest := []) ⟨hx, hb, hml, hown, hts⟩ (ct_X5_put l D cI cZ cJ (dW cI ad S_9) (dA ad) (ad 11) (ad 31) 11 31 60 (S_9 4) (S 22 0) x1 rfl (Nat.le_of_ble_eq_true rfl) (by decide) (fun g9 => dW_D hdis (su S_9 4 g9)) (by decide) ⟨by omega, by omega⟩) (cwV 2 hts gX6_addDot_X5_put rfl rfl rfl (by decide +kernel) ⟨Nat.le_of_ble_eq_true rfl, Nat.le_of_ble_eq_true rfl⟩) hK hP (q0 := 11) (ci := 5) rfl rfl rfl rfl hl.1 rfl (Nat.le_of_ble_eq_true rfl) dX6_addDot_21 ⟨Nat.zero_le _, Nat.zero_le _⟩) hS (fun _ _ h => h) (fun _ h => h) (fun u t H locs ht _ hu hQ _ _ hS => ?_)
  have hP : va_P D vwCl (dW cI ad (su S_9 4 (rPut 60 (S_9 4) (S 22 0) x1))) H := by rw [hu] at hQ; rw [← ht]; exact hQ
  have hI_21 : CI (su S_9 4 (rPut 60 (S_9 4) (S 22 0) x1)) := CI.rput hI_9 4 60 (S 22 0) x1 (show (0 : Int) ≤ x1 ∧ x1 ≤ 3599 from ⟨by omega, by omega⟩)
  generalize eS_21 : (su S_9 4 (rPut 60 (S_9 4) (S 22 0) x1)) = S_21 at hP hI_21
  refine lv_aload_n hx hb dX6_addDot_24 rfl (lv_at hl 0 rfl) ?_
  refine va_get (D := D) (ci := 6) (v := .ref (ad 12)) (C := RX6) (T := TX6) (N := 10) hx hb hts in_X6_addDot_6 hown hK.1 hP 1 rfl rfl 5 (by decide) (hts _ lk_X6_addDot_32) (fun _ h9 => h9) rfl dX6_addDot_25 ?_
  refine lv_aload_n hx hb dX6_addDot_28 rfl (lv_at hl 0 rfl) ?_
  refine va_get (D := D) (ci := 6) (v := .int (zi (S_21 22 0))) (C := RX6) (T := TX6) (N := 10) hx hb hts in_X6_addDot_6 hown hK.1 hP 1 rfl rfl 9 (by decide) (hts _ lk_X6_addDot_49) (fun _ h9 => h9) rfl dX6_addDot_29 ?_
  refine zi_is (S 22 0) (by rw [← eS_21, ← eS_9]; rfl) ?_
  have f_29 : (0 : Int) ≤ S 22 0 ∧ S 22 0 ≤ 60 := hI 22 0
  refine lv_iload_n hx hb dX6_addDot_32 rfl (lv_at hl 3 rfl) ?_
  refine va_callv (zc_V (As := [.int (zi (S 22 0)), .int (zi x2)]) (rest := []) ⟨hx, hb, hml, hown, hts⟩ (ct_X5_put l D cI cZ cJ (dW cI ad S_21) (dA ad) (ad 12) (ad 32) 12 32 60 (S_21 5) (S 22 0) x2 rfl (Nat.le_of_ble_eq_true rfl) (by decide) (fun g9 => dW_D hdis (su S_21 5 g9)) (by decide) ⟨by omega, by omega⟩) (cwV 2 hts gX6_addDot_X5_put rfl rfl rfl (by decide +kernel) ⟨Nat.le_of_ble_eq_true rfl, Nat.le_of_ble_eq_true rfl⟩) hK hP (q0 := 12) (ci := 5) rfl rfl rfl rfl hl.1 rfl (Nat.le_of_ble_eq_true rfl) dX6_addDot_33 ⟨Nat.zero_le _, Nat.zero_le _⟩) hS (fun _ _ h => h) (fun _ h => h) (fun u t H locs ht _ hu hQ _ _ hS => ?_)
  have hP : va_P D vwCl (dW cI ad (su S_21 5 (rPut 60 (S_21 5) (S 22 0) x2))) H := by rw [hu] at hQ; rw [← ht]; exact hQ
  have hI_33 : CI (su S_21 5 (rPut 60 (S_21 5) (S 22 0) x2)) := CI.rput hI_21 5 60 (S 22 0) x2 (show (0 : Int) ≤ x2 ∧ x2 ≤ 99 from ⟨by omega, by omega⟩)
  generalize eS_33 : (su S_21 5 (rPut 60 (S_21 5) (S 22 0) x2)) = S_33 at hP hI_33
  refine lv_aload_n hx hb dX6_addDot_36 rfl (lv_at hl 0 rfl) ?_
  refine lv_dup hx hb dX6_addDot_37 rfl ?_
  refine va_get (D := D) (ci := 6) (v := .int (zi (S_33 22 0))) (C := RX6) (T := TX6) (N := 10) hx hb hts in_X6_addDot_6 hown hK.1 hP 1 rfl rfl 9 (by decide) (hts _ lk_X6_addDot_49) (fun _ h9 => h9) rfl dX6_addDot_38 ?_
  refine zi_is (S 22 0) (by rw [← eS_33, ← eS_21, ← eS_9]; rfl) ?_
  have f_38 : (0 : Int) ≤ S 22 0 ∧ S 22 0 ≤ 60 := hI 22 0
  refine zi_iconst hx hb dX6_addDot_41 ?_
  refine zi_iadd hx hb dX6_addDot_42 ?_
  refine va_put (D := D) (ci := 6) (v := .int (zi ((S 22 0) + 1))) (ty := .int) (C := RX6) (T := TX6) (N := 10) hx hb hts in_X6_addDot_6 tyX6 tyX6_ok nmX6 hown hK.1 hP (dW_D hdis _) hS 1 rfl rfl 9 (by decide) (hts _ lk_X6_addDot_49) (fun _ h9 => h9) rfl (by decide +kernel) rfl rfl (Nat.le_of_ble_eq_true rfl) dX6_addDot_43 (fun H locs hP _ hS => ?_)
  have hP : va_P D vwCl (dW cI ad (su S_33 22 (fun _ => (S 22 0) + 1))) H := hP
  have hI_43 : CI (su S_33 22 (fun _ => (S 22 0) + 1)) := CI.upc hI_33 22 ((S 22 0) + 1) (show (0 : Int) ≤ ((S 22 0) + 1) ∧ ((S 22 0) + 1) ≤ 60 from ⟨by omega, by omega⟩)
  generalize eS_43 : su S_33 22 (fun _ => (S 22 0) + 1) = S_43 at hP hI_43
  refine lv_aload_n hx hb dX6_addDot_46 rfl (lv_at hl 0 rfl) ?_
  refine va_get (D := D) (ci := 6) (v := .int (zi (S_43 22 0))) (C := RX6) (T := TX6) (N := 10) hx hb hts in_X6_addDot_6 hown hK.1 hP 1 rfl rfl 9 (by decide) (hts _ lk_X6_addDot_49) (fun _ h9 => h9) rfl dX6_addDot_47 ?_
  refine zi_is ((S 22 0) + 1) (by rw [← eS_43]; rfl) ?_
  refine zi_iconst hx hb dX6_addDot_50 ?_
  refine zi_isub hx hb dX6_addDot_51 ?_
  exact zr_wi (T := S_43) hx hb hr hlocks dX6_addDot_52 hP hS (by exact ⟨by subst_vars; omega, by subst_vars; rfl, hI_43⟩)

theorem in_X6_replaceShift_6 : ∀ w ∈ wsX60, w ∈ wsX6_replaceShift := by decide +kernel
theorem lk_X6_replaceShift_35 : Cond.fieldLink RX6 35 "PlanetoidDesk$Sky" "shifts" "LPlanetoidDesk$Row;" ∈ wsX6_replaceShift := by decide +kernel
abbrev rmct_X6_replaceShift : Room := { frames := 1, cells := 0, slots := 0, locals := 22 }
set_option maxHeartbeats 4000000 in
set_option maxRecDepth 100000 in
theorem ct_X6_replaceShift (l : Launch) (D : va_G) (cI cZ cJ : ClassId) (ad : Nat → Nat) (S : ZS) (hI : CI S) (hdis : dDis ad) (x0 x1 : Int) (hx0 : ir x0) (hx1 : ir x1) (hp10 : -9 ≤ x1) (hp11 : x1 ≤ 9) : Met l yX6_replaceShift wsX6_replaceShift rmct_X6_replaceShift (zP D cI cZ cJ (dW cI ad S) [.ref (ad 1), .int (zi x0), .int (zi x1)]) (zWi D (dW cI ad) (dA ad) (fun r T => r = rAt 9 (S 6) x0 ∧ T = su S 6 (rPut 9 (S 6) x0 x1) ∧ CI T)) 0 0 (dA ad) := by
  refine Met.ofW (cc := cX6_replaceShift) (maxL := 4) (ret := (some .int)) (by decide) rfl ?_
  intro p e s m args below meth c s₁ B hml hv
  obtain ⟨rfl, hP, hK⟩ := hv
  have hx := B.exec
  have hb := B.bytes
  have hr := B.returns
  have hts := atoms_spec (ws := wsX6_replaceShift) B.pre
  have hown : s.vm.findClass RX6 = some m.cls := findClass_of_methodNamed B.named
  have hlocks := B.notSynchronized
  have hl := lv_entry ([.ref (ad 1), .int (zi x0), .int (zi x1)]) (n := 4) (Nat.le_of_ble_eq_true rfl)
  rw [lg_entry_eq]
  generalize (lg_sl ([.ref (ad 1), .int (zi x0), .int (zi x1)]) ++ List.replicate (4 - (lg_sl ([.ref (ad 1), .int (zi x0), .int (zi x1)])).length) Slot.unset).toArray = ls at hl ⊢
  have hl : lv_has ls 4 [(0, .ref (ad 1)), (1, .int (zi x0)), (2, .int (zi x1))] := hl
  have hS : va_S (dA ad) s.heap s.heap [] := va_S.rf
  show W p l e rmct_X6_replaceShift s m ([.ref (ad 1), .int (zi x0), .int (zi x1)] : List Value).toArray below meth c s.heap [] 0 0 (MQ below (zWi D (dW cI ad) (dA ad) (fun r T => r = rAt 9 (S 6) x0 ∧ T = su S 6 (rPut 9 (S 6) x0 x1) ∧ CI T)) ([.ref (ad 1), .int (zi x0), .int (zi x1)] : List Value).toArray s 0 0 (dA ad)) (F0 m 0 ls [])
  refine lv_aload_n hx hb dX6_replaceShift_0 rfl (lv_at hl 0 rfl) ?_
  refine va_get (D := D) (ci := 6) (v := .ref (ad 13)) (C := RX6) (T := TX6) (N := 10) hx hb hts in_X6_replaceShift_6 hown hK.1 hP 1 rfl rfl 6 (by decide) (hts _ lk_X6_replaceShift_35) (fun _ h9 => h9) rfl dX6_replaceShift_1 ?_
  refine lv_iload_n hx hb dX6_replaceShift_4 rfl (lv_at hl 1 rfl) ?_
  refine zk_r (zc_V (As := [.int (zi x0)]) (rest := []) ⟨hx, hb, hml, hown, hts⟩ (ct_X5_at l D cI cZ cJ (dW cI ad S) (ad 13) (ad 33) 13 33 9 (S 6) x0 rfl rfl (by decide) ⟨by omega, by omega⟩) (cwV 1 hts gX6_replaceShift_X5_at rfl rfl rfl (by decide +kernel) ⟨Nat.le_of_ble_eq_true rfl, Nat.le_of_ble_eq_true rfl⟩) hK hP (q0 := 13) (ci := 5) rfl rfl rfl rfl hl.1 rfl (Nat.le_of_ble_eq_true rfl) dX6_replaceShift_5 ⟨Nat.zero_le _, Nat.zero_le _⟩) ?_
  refine zi_top (fun (r_5 : Int) (er_5 : r_5 = rAt 9 (S 6) x0) => ?_)
  have fr_5 : (-9 : Int) ≤ r_5 ∧ r_5 ≤ 9 := by rw [er_5]; exact CI.at hI 6 9 x0 ⟨by decide, by decide⟩
  refine lv_istore_n (lv' := [(3, .int (zi r_5)), (0, .ref (ad 1)), (1, .int (zi x0)), (2, .int (zi x1))]) hx hb dX6_replaceShift_8 rfl hl (by decide) rfl (fun ls hl => ?_)
  refine lv_aload_n hx hb dX6_replaceShift_9 rfl (lv_at hl 1 rfl) ?_
  refine va_get (D := D) (ci := 6) (v := .ref (ad 13)) (C := RX6) (T := TX6) (N := 10) hx hb hts in_X6_replaceShift_6 hown hK.1 hP 1 rfl rfl 6 (by decide) (hts _ lk_X6_replaceShift_35) (fun _ h9 => h9) rfl dX6_replaceShift_10 ?_
  refine lv_iload_n hx hb dX6_replaceShift_13 rfl (lv_at hl 2 rfl) ?_
  refine lv_iload_n hx hb dX6_replaceShift_14 rfl (lv_at hl 3 rfl) ?_
  refine va_callv (zc_V (As := [.int (zi x0), .int (zi x1)]) (rest := []) ⟨hx, hb, hml, hown, hts⟩ (ct_X5_put l D cI cZ cJ (dW cI ad S) (dA ad) (ad 13) (ad 33) 13 33 9 (S 6) x0 x1 rfl (Nat.le_of_ble_eq_true rfl) (by decide) (fun g9 => dW_D hdis (su S 6 g9)) (by decide) ⟨by omega, by omega⟩) (cwV 2 hts gX6_replaceShift_X5_put rfl rfl rfl (by decide +kernel) ⟨Nat.le_of_ble_eq_true rfl, Nat.le_of_ble_eq_true rfl⟩) hK hP (q0 := 13) (ci := 5) rfl rfl rfl rfl hl.1 rfl (Nat.le_of_ble_eq_true rfl) dX6_replaceShift_15 ⟨Nat.zero_le _, Nat.zero_le _⟩) hS (fun _ _ h => h) (fun _ h => h) (fun u t H locs ht _ hu hQ _ _ hS => ?_)
  have hP : va_P D vwCl (dW cI ad (su S 6 (rPut 9 (S 6) x0 x1))) H := by rw [hu] at hQ; rw [← ht]; exact hQ
  have hI_15 : CI (su S 6 (rPut 9 (S 6) x0 x1)) := CI.rput hI 6 9 x0 x1 (show (-9 : Int) ≤ x1 ∧ x1 ≤ 9 from ⟨by omega, by omega⟩)
  generalize eS_15 : (su S 6 (rPut 9 (S 6) x0 x1)) = S_15 at hP hI_15
  refine lv_iload_n hx hb dX6_replaceShift_18 rfl (lv_at hl 0 rfl) ?_
  exact zr_wi (T := S_15) hx hb hr hlocks dX6_replaceShift_19 hP hS (by exact ⟨by subst_vars; rfl, by subst_vars; rfl, hI_15⟩)
