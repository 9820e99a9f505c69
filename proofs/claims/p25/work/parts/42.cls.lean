theorem in_X7_observatory_7 : ∀ w ∈ wsX70, w ∈ wsX7_observatory := by decide +kernel
theorem lk_X7_observatory_10 : Cond.fieldLink RX7 10 "PlanetoidDesk" "sky" "LPlanetoidDesk$Sky;" ∈ wsX7_observatory := by decide +kernel
theorem in_X7_observatory_6 : ∀ w ∈ wsX60, w ∈ wsX7_observatory := by decide +kernel
theorem af_X7_observatory_63 : ∀ w ∈ (vx_atS RX7 63 xISE xNS).filter goodWord, w ∈ wsX7_observatory := by decide +kernel
theorem cl59_X7_observatory : Cond.classLink RX7 59 xISE ∈ wsX7_observatory := by decide +kernel
theorem ini59_X7_observatory : Cond.initialized xISE ∈ wsX7_observatory := by decide +kernel
abbrev rmct_X7_observatory : Room := { frames := 7, cells := 2, slots := 12, locals := 104 }
set_option maxHeartbeats 4000000 in
set_option maxRecDepth 100000 in
theorem ct_X7_observatory (l : Launch) (hst : l.stackTraces = false) (D : va_G) (cI cZ cJ : ClassId) (sa : Nat → Nat) (ad : Nat → Nat) (S : ZS) (hI : CI S) (hdis : dDis ad) (x0 : Int) (hx0 : ir x0)  : vx_Met l yX7_observatory wsX7_observatory rmct_X7_observatory (va_Pc [.ref (ad 0), .int (zi x0)] (fun U => va_P D vwCl (dW cI ad S) U.heap ∧ KK D cI cZ cJ U ∧ xP sa (dA ad) U U.heap)) (zWi D (dW cI ad) (dA ad) (fun r T => (0 ≤ x0 ∧ x0 ≤ 9) ∧ (S 20 0 < 6) ∧ r = (S 20 0) ∧ T = su (su S 0 (rPut 6 (S 0) (S 20 0) x0)) 20 (fun _ => S 20 0 + 1) ∧ CI T)) (xX D cI ad (fun E T => ((¬ (0 ≤ x0 ∧ x0 ≤ 9) ∧ E = xIAE) ∨ ((0 ≤ x0 ∧ x0 ≤ 9) ∧ ¬ (S 20 0 < 6) ∧ E = xISE)) ∧ SC S T ∧ CI T)) 2 12 (dA ad) := by
  refine vx_ofW (cc := cX7_observatory) (maxL := 2) (ret := (some .int)) (by decide) rfl ?_
  intro p e s m args below meth c s₁ B hml htab hv
  obtain ⟨rfl, hP, hK, hX⟩ := hv
  have hx := B.exec
  have hb := B.bytes
  have hr := B.returns
  have hts := atoms_spec (ws := wsX7_observatory) B.pre
  have hown : s.vm.findClass RX7 = some m.cls := findClass_of_methodNamed B.named
  have hlocks := B.notSynchronized
  have hl := lv_entry ([.ref (ad 0), .int (zi x0)]) (n := 2) (Nat.le_of_ble_eq_true rfl)
  rw [lg_entry_eq]
  generalize (lg_sl ([.ref (ad 0), .int (zi x0)]) ++ List.replicate (2 - (lg_sl ([.ref (ad 0), .int (zi x0)])).length) Slot.unset).toArray = ls at hl ⊢
  have hl : lv_has ls 2 [(0, .ref (ad 0)), (1, .int (zi x0))] := hl
  have hS : va_S (dA ad) s.heap s.heap [] := va_S.rf
  show W p l e rmct_X7_observatory s m ([.ref (ad 0), .int (zi x0)] : List Value).toArray below meth c s.heap [] 0 0 (vx_MQ below (zWi D (dW cI ad) (dA ad) (fun r T => (0 ≤ x0 ∧ x0 ≤ 9) ∧ (S 20 0 < 6) ∧ r = (S 20 0) ∧ T = su (su S 0 (rPut 6 (S 0) (S 20 0) x0)) 20 (fun _ => S 20 0 + 1) ∧ CI T)) (xX D cI ad (fun E T => ((¬ (0 ≤ x0 ∧ x0 ≤ 9) ∧ E = xIAE) ∨ ((0 ≤ x0 ∧ x0 ≤ 9) ∧ ¬ (S 20 0 < 6) ∧ E = xISE)) ∧ SC S T ∧ CI T)) ([.ref (ad 0), .int (zi x0)] : List Value).toArray s 2 12 (dA ad)) (F0 m 0 ls [])
  refine lv_iload_n hx hb dX7_observatory_0 rfl (lv_at hl 1 rfl) ?_
  refine zi_iconst hx hb dX7_observatory_1 ?_
  refine zi_bipush hx hb dX7_observatory_2 (by decide) ?_
  refine xc_chk (As := [.int (zi x0), .int (zi 0), .int (zi 9)]) (rest := []) (S0 := S) ⟨hx, hb, hml, hown, hts⟩ (ct_X7_needWithin l hst x0 0 9 ⟨by omega, by omega⟩ ⟨by decide, by decide⟩ ⟨by decide, by decide⟩) (va_cwS 3 hts gX7_observatory_X7_needWithin rfl rfl rfl (by decide +kernel) ⟨Nat.le_of_ble_eq_true rfl, Nat.le_of_ble_eq_true rfl⟩) hX hS hP htab hlocks rfl hl.1 rfl (Nat.le_of_ble_eq_true rfl) dX7_observatory_4 ⟨by decide, by decide⟩ ⟨by decide, by decide⟩ (fun hn_4 => ⟨Or.inl ⟨hn_4, rfl⟩, SC.rf, hI⟩) (fun hc_4 H locs hP hS => ?_)
  refine lv_aload_n hx hb dX7_observatory_7 rfl (lv_at hl 0 rfl) ?_
  refine va_get (D := D) (ci := 7) (v := .ref (ad 1)) (C := RX7) (T := TX7) (N := 6) hx hb hts in_X7_observatory_7 hown hK.1 hP 0 rfl rfl 0 (by decide) (hts _ lk_X7_observatory_10) (fun _ h9 => h9) rfl dX7_observatory_8 ?_
  refine va_getN (D := D) (ci := 6) (v := .int (zi (S 20 0))) (C := RX6) (T := TX6) (N := 10) hx hb hts in_X7_observatory_6 hown hK.1 hP 1 rfl rfl 7 (by decide) (va_Nw.use rfl (hK.2 _ (List.mem_of_getElem? (i := 4) rfl))) (fun _ h9 => h9) rfl dX7_observatory_11 ?_
  have f_11 : (0 : Int) ≤ S 20 0 ∧ S 20 0 ≤ 6 := hI 20 0
  refine zi_bipush hx hb dX7_observatory_14 (by decide) ?_
  refine zi_icmp_lt (tgt := 29) hx hb ⟨by omega, by omega⟩ ⟨by decide, by decide⟩ dX7_observatory_16 (by decide) (fun c_16 => ?_) (fun c_16 => ?_)
  · refine lv_aload_n hx hb dX7_observatory_29 rfl (lv_at hl 0 rfl) ?_
    refine va_get (D := D) (ci := 7) (v := .ref (ad 1)) (C := RX7) (T := TX7) (N := 6) hx hb hts in_X7_observatory_7 hown hK.1 hP 0 rfl rfl 0 (by decide) (hts _ lk_X7_observatory_10) (fun _ h9 => h9) rfl dX7_observatory_30 ?_
    refine lv_iload_n hx hb dX7_observatory_33 rfl (lv_at hl 1 rfl) ?_
    refine zk_wi (zc_V (As := [.int (zi x0)]) (rest := []) ⟨hx, hb, hml, hown, hts⟩ (ct_X6_addObservatory l D cI cZ cJ ad S hI hdis x0 ⟨by omega, by omega⟩ (by omega) (by omega) (by omega)) (cwV 1 hts gX7_observatory_X6_addObservatory rfl rfl rfl (by decide +kernel) ⟨Nat.le_of_ble_eq_true rfl, Nat.le_of_ble_eq_true rfl⟩) hK hP (q0 := 1) (ci := 6) rfl rfl rfl rfl hl.1 rfl (Nat.le_of_ble_eq_true rfl) dX7_observatory_34 ⟨by decide, by decide⟩) hS (fun r_34 S_34 H locs hp_34 hP hS => ?_)
    obtain ⟨er_34, e9, hI_34⟩ := hp_34
    have eS_34 := e9.symm; clear e9
    exact xr_wi (T := S_34) hx hb hr hlocks dX7_observatory_37 hP hS ⟨by decide, by decide⟩ (by exact ⟨hc_4, by omega, er_34, eS_34.symm, hI_34⟩)
  · exact vx_throwS hx hb hst hown (by decide) xNS_fit (hts _ cl59_X7_observatory) (hts _ ini59_X7_observatory) (hX.2.2.1 2 (61, "there are 6 observatories") rfl) (xB_in (n := 0) (cls := xISE) sub_63 hX (fun w hw => hts w (af_X7_observatory_63 w hw))) ot_63 hX.1 hX.2.1 hS (hl.1.trans hml.symm) dX7_observatory_19 dX7_observatory_22 dX7_observatory_23 dX7_observatory_25 dX7_observatory_28 (fun x h9 => (htab x h9).elim) (by decide) (by decide) (by decide) (by decide) hlocks (xx_thr hP hS (⟨Or.inr (⟨hc_4, c_16, rfl⟩), SC.rf, hI⟩)) (fun z hz => hS.2.2 z hz) (by decide) (by decide)

theorem in_X7_plate_7 : ∀ w ∈ wsX70, w ∈ wsX7_plate := by decide +kernel
theorem lk_X7_plate_10 : Cond.fieldLink RX7 10 "PlanetoidDesk" "sky" "LPlanetoidDesk$Sky;" ∈ wsX7_plate := by decide +kernel
theorem in_X7_plate_6 : ∀ w ∈ wsX60, w ∈ wsX7_plate := by decide +kernel
theorem af_X7_plate_63 : ∀ w ∈ (vx_atS RX7 63 xISE xNS).filter goodWord, w ∈ wsX7_plate := by decide +kernel
theorem cl59_X7_plate : Cond.classLink RX7 59 xISE ∈ wsX7_plate := by decide +kernel
theorem ini59_X7_plate : Cond.initialized xISE ∈ wsX7_plate := by decide +kernel
abbrev rmct_X7_plate : Room := { frames := 7, cells := 3, slots := 18, locals := 104 }
set_option maxHeartbeats 4000000 in
set_option maxRecDepth 100000 in
theorem ct_X7_plate (l : Launch) (hst : l.stackTraces = false) (D : va_G) (cI cZ cJ : ClassId) (sa : Nat → Nat) (ad : Nat → Nat) (S : ZS) (hI : CI S) (hdis : dDis ad) (x0 x1 : Int) (hx0 : ir x0) (hx1 : ir x1)  : vx_Met l yX7_plate wsX7_plate rmct_X7_plate (va_Pc [.ref (ad 0), .int (zi x0), .int (zi x1)] (fun U => va_P D vwCl (dW cI ad S) U.heap ∧ KK D cI cZ cJ U ∧ xP sa (dA ad) U U.heap)) (zWi D (dW cI ad) (dA ad) (fun r T => (0 ≤ x0 ∧ x0 < S 20 0) ∧ (0 ≤ x1 ∧ x1 ≤ 999) ∧ (S 21 0 < 30) ∧ r = (S 21 0) ∧ T = su (su (su S 1 (rPut 30 (S 1) (S 21 0) x0)) 2 (rPut 30 (S 2) (S 21 0) x1)) 21 (fun _ => S 21 0 + 1) ∧ CI T)) (xX D cI ad (fun E T => ((¬ (0 ≤ x0 ∧ x0 < S 20 0) ∧ E = xIOB) ∨ ((0 ≤ x0 ∧ x0 < S 20 0) ∧ ¬ (0 ≤ x1 ∧ x1 ≤ 999) ∧ E = xIAE) ∨ ((0 ≤ x0 ∧ x0 < S 20 0) ∧ (0 ≤ x1 ∧ x1 ≤ 999) ∧ ¬ (S 21 0 < 30) ∧ E = xISE)) ∧ SC S T ∧ CI T)) 3 18 (dA ad) := by
  refine vx_ofW (cc := cX7_plate) (maxL := 3) (ret := (some .int)) (by decide) rfl ?_
  intro p e s m args below meth c s₁ B hml htab hv
  obtain ⟨rfl, hP, hK, hX⟩ := hv
  have hx := B.exec
  have hb := B.bytes
  have hr := B.returns
  have hts := atoms_spec (ws := wsX7_plate) B.pre
  have hown : s.vm.findClass RX7 = some m.cls := findClass_of_methodNamed B.named
  have hlocks := B.notSynchronized
  have hl := lv_entry ([.ref (ad 0), .int (zi x0), .int (zi x1)]) (n := 3) (Nat.le_of_ble_eq_true rfl)
  rw [lg_entry_eq]
  generalize (lg_sl ([.ref (ad 0), .int (zi x0), .int (zi x1)]) ++ List.replicate (3 - (lg_sl ([.ref (ad 0), .int (zi x0), .int (zi x1)])).length) Slot.unset).toArray = ls at hl ⊢
  have hl : lv_has ls 3 [(0, .ref (ad 0)), (1, .int (zi x0)), (2, .int (zi x1))] := hl
  have hS : va_S (dA ad) s.heap s.heap [] := va_S.rf
  show W p l e rmct_X7_plate s m ([.ref (ad 0), .int (zi x0), .int (zi x1)] : List Value).toArray below meth c s.heap [] 0 0 (vx_MQ below (zWi D (dW cI ad) (dA ad) (fun r T => (0 ≤ x0 ∧ x0 < S 20 0) ∧ (0 ≤ x1 ∧ x1 ≤ 999) ∧ (S 21 0 < 30) ∧ r = (S 21 0) ∧ T = su (su (su S 1 (rPut 30 (S 1) (S 21 0) x0)) 2 (rPut 30 (S 2) (S 21 0) x1)) 21 (fun _ => S 21 0 + 1) ∧ CI T)) (xX D cI ad (fun E T => ((¬ (0 ≤ x0 ∧ x0 < S 20 0) ∧ E = xIOB) ∨ ((0 ≤ x0 ∧ x0 < S 20 0) ∧ ¬ (0 ≤ x1 ∧ x1 ≤ 999) ∧ E = xIAE) ∨ ((0 ≤ x0 ∧ x0 < S 20 0) ∧ (0 ≤ x1 ∧ x1 ≤ 999) ∧ ¬ (S 21 0 < 30) ∧ E = xISE)) ∧ SC S T ∧ CI T)) ([.ref (ad 0), .int (zi x0), .int (zi x1)] : List Value).toArray s 3 18 (dA ad)) (F0 m 0 ls [])
  refine lv_iload_n hx hb dX7_plate_0 rfl (lv_at hl 1 rfl) ?_
  refine lv_aload_n hx hb dX7_plate_1 rfl (lv_at hl 0 rfl) ?_
  refine va_get (D := D) (ci := 7) (v := .ref (ad 1)) (C := RX7) (T := TX7) (N := 6) hx hb hts in_X7_plate_7 hown hK.1 hP 0 rfl rfl 0 (by decide) (hts _ lk_X7_plate_10) (fun _ h9 => h9) rfl dX7_plate_2 ?_
  refine va_getN (D := D) (ci := 6) (v := .int (zi (S 20 0))) (C := RX6) (T := TX6) (N := 10) hx hb hts in_X7_plate_6 hown hK.1 hP 1 rfl rfl 7 (by decide) (va_Nw.use rfl (hK.2 _ (List.mem_of_getElem? (i := 4) rfl))) (fun _ h9 => h9) rfl dX7_plate_5 ?_
  have f_5 : (0 : Int) ≤ S 20 0 ∧ S 20 0 ≤ 6 := hI 20 0
  refine xc_chk (As := [.int (zi x0), .int (zi (S 20 0))]) (rest := []) (S0 := S) ⟨hx, hb, hml, hown, hts⟩ (ct_X7_needOneOf l hst x0 (S 20 0) ⟨by omega, by omega⟩ ⟨by omega, by omega⟩) (va_cwS 2 hts gX7_plate_X7_needOneOf rfl rfl rfl (by decide +kernel) ⟨Nat.le_of_ble_eq_true rfl, Nat.le_of_ble_eq_true rfl⟩) hX hS hP htab hlocks rfl hl.1 rfl (Nat.le_of_ble_eq_true rfl) dX7_plate_8 ⟨by decide, by decide⟩ ⟨by decide, by decide⟩ (fun hn_8 => ⟨Or.inl ⟨hn_8, rfl⟩, SC.rf, hI⟩) (fun hc_8 H locs hP hS => ?_)
  refine lv_iload_n hx hb dX7_plate_11 rfl (lv_at hl 2 rfl) ?_
  refine zi_iconst hx hb dX7_plate_12 ?_
  refine zi_sipush hx hb dX7_plate_13 (by decide) ?_
  refine xc_chk (As := [.int (zi x1), .int (zi 0), .int (zi 999)]) (rest := []) (S0 := S) ⟨hx, hb, hml, hown, hts⟩ (ct_X7_needWithin l hst x1 0 999 ⟨by omega, by omega⟩ ⟨by decide, by decide⟩ ⟨by decide, by decide⟩) (va_cwS 3 hts gX7_plate_X7_needWithin rfl rfl rfl (by decide +kernel) ⟨Nat.le_of_ble_eq_true rfl, Nat.le_of_ble_eq_true rfl⟩) hX hS hP htab hlocks rfl hl.1 rfl (Nat.le_of_ble_eq_true rfl) dX7_plate_16 ⟨by decide, by decide⟩ ⟨by decide, by decide⟩ (fun hn_16 => ⟨Or.inr (Or.inl ⟨hc_8, hn_16, rfl⟩), SC.rf, hI⟩) (fun hc_16 H locs hP hS => ?_)
  refine lv_aload_n hx hb dX7_plate_19 rfl (lv_at hl 0 rfl) ?_
  refine va_get (D := D) (ci := 7) (v := .ref (ad 1)) (C := RX7) (T := TX7) (N := 6) hx hb hts in_X7_plate_7 hown hK.1 hP 0 rfl rfl 0 (by decide) (hts _ lk_X7_plate_10) (fun _ h9 => h9) rfl dX7_plate_20 ?_
  refine va_getN (D := D) (ci := 6) (v := .int (zi (S 21 0))) (C := RX6) (T := TX6) (N := 10) hx hb hts in_X7_plate_6 hown hK.1 hP 1 rfl rfl 8 (by decide) (va_Nw.use rfl (hK.2 _ (List.mem_of_getElem? (i := 5) rfl))) (fun _ h9 => h9) rfl dX7_plate_23 ?_
  have f_23 : (0 : Int) ≤ S 21 0 ∧ S 21 0 ≤ 30 := hI 21 0
  refine zi_bipush hx hb dX7_plate_26 (by decide) ?_
  refine zi_icmp_lt (tgt := 41) hx hb ⟨by omega, by omega⟩ ⟨by decide, by decide⟩ dX7_plate_28 (by decide) (fun c_28 => ?_) (fun c_28 => ?_)
  · refine lv_aload_n hx hb dX7_plate_41 rfl (lv_at hl 0 rfl) ?_
    refine va_get (D := D) (ci := 7) (v := .ref (ad 1)) (C := RX7) (T := TX7) (N := 6) hx hb hts in_X7_plate_7 hown hK.1 hP 0 rfl rfl 0 (by decide) (hts _ lk_X7_plate_10) (fun _ h9 => h9) rfl dX7_plate_42 ?_
    refine lv_iload_n hx hb dX7_plate_45 rfl (lv_at hl 1 rfl) ?_
    refine lv_iload_n hx hb dX7_plate_46 rfl (lv_at hl 2 rfl) ?_
    refine zk_wi (zc_V (As := [.int (zi x0), .int (zi x1)]) (rest := []) ⟨hx, hb, hml, hown, hts⟩ (ct_X6_addPlate l D cI cZ cJ ad S hI hdis x0 x1 ⟨by omega, by omega⟩ ⟨by omega, by omega⟩ (by omega) (by omega) (by omega) (by omega) (by omega)) (cwV 2 hts gX7_plate_X6_addPlate rfl rfl rfl (by decide +kernel) ⟨Nat.le_of_ble_eq_true rfl, Nat.le_of_ble_eq_true rfl⟩) hK hP (q0 := 1) (ci := 6) rfl rfl rfl rfl hl.1 rfl (Nat.le_of_ble_eq_true rfl) dX7_plate_47 ⟨by decide, by decide⟩) hS (fun r_47 S_47 H locs hp_47 hP hS => ?_)
    obtain ⟨er_47, e9, hI_47⟩ := hp_47
    have eS_47 := e9.symm; clear e9
    exact xr_wi (T := S_47) hx hb hr hlocks dX7_plate_50 hP hS ⟨by decide, by decide⟩ (by exact ⟨hc_8, hc_16, by omega, er_47, eS_47.symm, hI_47⟩)
  · exact vx_throwS hx hb hst hown (by decide) xNS_fit (hts _ cl59_X7_plate) (hts _ ini59_X7_plate) (hX.2.2.1 3 (77, "there are 30 plates") rfl) (xB_in (n := 0) (cls := xISE) sub_63 hX (fun w hw => hts w (af_X7_plate_63 w hw))) ot_63 hX.1 hX.2.1 hS (hl.1.trans hml.symm) dX7_plate_31 dX7_plate_34 dX7_plate_35 dX7_plate_37 dX7_plate_40 (fun x h9 => (htab x h9).elim) (by decide) (by decide) (by decide) (by decide) hlocks (xx_thr hP hS (⟨Or.inr (Or.inr (⟨hc_8, hc_16, c_28, rfl⟩)), SC.rf, hI⟩)) (fun z hz => hS.2.2 z hz) (by decide) (by decide)

theorem in_X7_dot_7 : ∀ w ∈ wsX70, w ∈ wsX7_dot := by decide +kernel
theorem lk_X7_dot_10 : Cond.fieldLink RX7 10 "PlanetoidDesk" "sky" "LPlanetoidDesk$Sky;" ∈ wsX7_dot := by decide +kernel
theorem in_X7_dot_6 : ∀ w ∈ wsX60, w ∈ wsX7_dot := by decide +kernel
theorem af_X7_dot_63 : ∀ w ∈ (vx_atS RX7 63 xISE xNS).filter goodWord, w ∈ wsX7_dot := by decide +kernel
theorem cl59_X7_dot : Cond.classLink RX7 59 xISE ∈ wsX7_dot := by decide +kernel
theorem ini59_X7_dot : Cond.initialized xISE ∈ wsX7_dot := by decide +kernel
abbrev rmct_X7_dot : Room := { frames := 7, cells := 4, slots := 24, locals := 104 }
set_option maxHeartbeats 4000000 in
set_option maxRecDepth 100000 in
theorem ct_X7_dot (l : Launch) (hst : l.stackTraces = false) (D : va_G) (cI cZ cJ : ClassId) (sa : Nat → Nat) (ad : Nat → Nat) (S : ZS) (hI : CI S) (hdis : dDis ad) (x0 x1 x2 : Int) (hx0 : ir x0) (hx1 : ir x1) (hx2 : ir x2)  : vx_Met l yX7_dot wsX7_dot rmct_X7_dot (va_Pc [.ref (ad 0), .int (zi x0), .int (zi x1), .int (zi x2)] (fun U => va_P D vwCl (dW cI ad S) U.heap ∧ KK D cI cZ cJ U ∧ xP sa (dA ad) U U.heap)) (zWi D (dW cI ad) (dA ad) (fun r T => (0 ≤ x0 ∧ x0 < S 21 0) ∧ (0 ≤ x1 ∧ x1 ≤ 3599) ∧ (0 ≤ x2 ∧ x2 ≤ 99) ∧ (S 22 0 < 60) ∧ r = (S 22 0) ∧ T = su (su (su (su S 3 (rPut 60 (S 3) (S 22 0) x0)) 4 (rPut 60 (S 4) (S 22 0) x1)) 5 (rPut 60 (S 5) (S 22 0) x2)) 22 (fun _ => S 22 0 + 1) ∧ CI T)) (xX D cI ad (fun E T => ((¬ (0 ≤ x0 ∧ x0 < S 21 0) ∧ E = xIOB) ∨ ((0 ≤ x0 ∧ x0 < S 21 0) ∧ ¬ (0 ≤ x1 ∧ x1 ≤ 3599) ∧ E = xIAE) ∨ ((0 ≤ x0 ∧ x0 < S 21 0) ∧ (0 ≤ x1 ∧ x1 ≤ 3599) ∧ ¬ (0 ≤ x2 ∧ x2 ≤ 99) ∧ E = xIAE) ∨ ((0 ≤ x0 ∧ x0 < S 21 0) ∧ (0 ≤ x1 ∧ x1 ≤ 3599) ∧ (0 ≤ x2 ∧ x2 ≤ 99) ∧ ¬ (S 22 0 < 60) ∧ E = xISE)) ∧ SC S T ∧ CI T)) 4 24 (dA ad) := by
  refine vx_ofW (cc := cX7_dot) (maxL := 4) (ret := (some .int)) (by decide) rfl ?_
  intro p e s m args below meth c s₁ B hml htab hv
  obtain ⟨rfl, hP, hK, hX⟩ := hv
  have hx := B.exec
  have hb := B.bytes
  have hr := B.returns
  have hts := atoms_spec (ws := wsX7_dot) B.pre
  have hown : s.vm.findClass RX7 = some m.cls := findClass_of_methodNamed B.named
  have hlocks := B.notSynchronized
  have hl := lv_entry ([.ref (ad 0), .int (zi x0), .int (zi x1), .int (zi x2)]) (n := 4) (Nat.le_of_ble_eq_true rfl)
  rw [lg_entry_eq]
  generalize (lg_sl ([.ref (ad 0), .int (zi x0), .int (zi x1), .int (zi x2)]) ++ List.replicate (4 - (lg_sl ([.ref (ad 0), .int (zi x0), .int (zi x1), .int (zi x2)])).length) Slot.unset).toArray = ls at hl ⊢
  have hl : lv_has ls 4 [(0, .ref (ad 0)), (1, .int (zi x0)), (2, .int (zi x1)), (3, .int (zi x2))] := hl
  have hS : va_S (dA ad) s.heap s.heap [] := va_S.rf
  show W p l e rmct_X7_dot s m ([.ref (ad 0), .int (zi x0), .int (zi x1), .int (zi x2)] : List Value).toArray below meth c s.heap [] 0 0 (vx_MQ below (zWi D (dW cI ad) (dA ad) (fun r T => (0 ≤ x0 ∧ x0 < S 21 0) ∧ (0 ≤ x1 ∧ x1 ≤ 3599) ∧ (0 ≤ x2 ∧ x2 ≤ 99) ∧ (S 22 0 < 60) ∧ r = (S 22 0) ∧ T = su (su (su (su S 3 (rPut 60 (S 3) (S 22 0) x0)) 4 (rPut 60 (S 4) (S 22 0) x1)) 5 (rPut 60 (S 5) (S 22 0) x2)) 22 (fun _ => S 22 0 + 1) ∧ CI T)) (xX D cI ad (fun E T => ((¬ (0 ≤ x0 ∧ x0 < S 21 0) ∧ E = xIOB) ∨ ((0 ≤ x0 ∧ x0 < S 21 0) ∧ ¬ (0 ≤ x1 ∧ x1 ≤ 3599) ∧ E = xIAE) ∨ ((0 ≤ x0 ∧ x0 < S 21 0) ∧ (0 ≤ x1 ∧ x1 ≤ 3599) ∧ ¬ (0 ≤ x2 ∧ x2 ≤ 99) ∧ E = xIAE) ∨ ((0 ≤ x0 ∧ x0 < S 21 0) ∧ (0 ≤ x1 ∧ x1 ≤ 3599) ∧ (0 ≤ x2 ∧ x2 ≤ 99) ∧ ¬ (S 22 0 < 60) ∧ E = xISE)) ∧ SC S T ∧ CI T)) ([.ref (ad 0), .int (zi x0), .int (zi x1), .int (zi x2)] : List Value).toArray s 4 24 (dA ad)) (F0 m 0 ls [])
  refine lv_iload_n hx hb dX7_dot_0 rfl (lv_at hl 1 rfl) ?_
  refine lv_aload_n hx hb dX7_dot_1 rfl (lv_at hl 0 rfl) ?_
  refine va_get (D := D) (ci := 7) (v := .ref (ad 1)) (C := RX7) (T := TX7) (N := 6) hx hb hts in_X7_dot_7 hown hK.1 hP 0 rfl rfl 0 (by decide) (hts _ lk_X7_dot_10) (fun _ h9 => h9) rfl dX7_dot_2 ?_
  refine va_getN (D := D) (ci := 6) (v := .int (zi (S 21 0))) (C := RX6) (T := TX6) (N := 10) hx hb hts in_X7_dot_6 hown hK.1 hP 1 rfl rfl 8 (by decide) (va_Nw.use rfl (hK.2 _ (List.mem_of_getElem? (i := 5) rfl))) (fun _ h9 => h9) rfl dX7_dot_5 ?_
  have f_5 : (0 : Int) ≤ S 21 0 ∧ S 21 0 ≤ 30 := hI 21 0
  refine xc_chk (As := [.int (zi x0), .int (zi (S 21 0))]) (rest := []) (S0 := S) ⟨hx, hb, hml, hown, hts⟩ (ct_X7_needOneOf l hst x0 (S 21 0) ⟨by omega, by omega⟩ ⟨by omega, by omega⟩) (va_cwS 2 hts gX7_dot_X7_needOneOf rfl rfl rfl (by decide +kernel) ⟨Nat.le_of_ble_eq_true rfl, Nat.le_of_ble_eq_true rfl⟩) hX hS hP htab hlocks rfl hl.1 rfl (Nat.le_of_ble_eq_true rfl) dX7_dot_8 ⟨by decide, by decide⟩ ⟨by decide, by decide⟩ (fun hn_8 => ⟨Or.inl ⟨hn_8, rfl⟩, SC.rf, hI⟩) (fun hc_8 H locs hP hS => ?_)
  refine lv_iload_n hx hb dX7_dot_11 rfl (lv_at hl 2 rfl) ?_
  refine zi_iconst hx hb dX7_dot_12 ?_
  refine zi_sipush hx hb dX7_dot_13 (by decide) ?_
  refine xc_chk (As := [.int (zi x1), .int (zi 0), .int (zi 3599)]) (rest := []) (S0 := S) ⟨hx, hb, hml, hown, hts⟩ (ct_X7_needWithin l hst x1 0 3599 ⟨by omega, by omega⟩ ⟨by decide, by decide⟩ ⟨by decide, by decide⟩) (va_cwS 3 hts gX7_dot_X7_needWithin rfl rfl rfl (by decide +kernel) ⟨Nat.le_of_ble_eq_true rfl, Nat.le_of_ble_eq_true rfl⟩) hX hS hP htab hlocks rfl hl.1 rfl (Nat.le_of_ble_eq_true rfl) dX7_dot_16 ⟨by decide, by decide⟩ ⟨by decide, by decide⟩ (fun hn_16 => ⟨Or.inr (Or.inl ⟨hc_8, hn_16, rfl⟩), SC.rf, hI⟩) (fun hc_16 H locs hP hS => ?_)
  refine lv_iload_n hx hb dX7_dot_19 rfl (lv_at hl 3 rfl) ?_
  refine zi_iconst hx hb dX7_dot_20 ?_
  refine zi_bipush hx hb dX7_dot_21 (by decide) ?_
  refine xc_chk (As := [.int (zi x2), .int (zi 0), .int (zi 99)]) (rest := []) (S0 := S) ⟨hx, hb, hml, hown, hts⟩ (ct_X7_needWithin l hst x2 0 99 ⟨by omega, by omega⟩ ⟨by decide, by decide⟩ ⟨by decide, by decide⟩) (va_cwS 3 hts gX7_dot_X7_needWithin rfl rfl rfl (by decide +kernel) ⟨Nat.le_of_ble_eq_true rfl, Nat.le_of_ble_eq_true rfl⟩) hX hS hP htab hlocks rfl hl.1 rfl (Nat.le_of_ble_eq_true rfl) dX7_dot_23 ⟨by decide, by decide⟩ ⟨by decide, by decide⟩ (fun hn_23 => ⟨Or.inr (Or.inr (Or.inl ⟨hc_8, hc_16, hn_23, rfl⟩)), SC.rf, hI⟩) (fun hc_23 H locs hP hS => ?_)
  refine lv_aload_n hx hb dX7_dot_26 rfl (lv_at hl 0 rfl) ?_
  refine va_get (D := D) (ci := 7) (v := .ref (ad 1)) (C := RX7) (T := TX7) (N := 6) hx hb hts in_X7_dot_7 hown hK.1 hP 0 rfl rfl 0 (by decide) (hts _ lk_X7_dot_10) (fun _ h9 => h9) rfl dX7_dot_27 ?_
  refine va_getN (D := D) (ci := 6) (v := .int (zi (S 22 0))) (C := RX6) (T := TX6) (N := 10) hx hb hts in_X7_dot_6 hown hK.1 hP 1 rfl rfl 9 (by decide) (va_Nw.use rfl (hK.2 _ (List.mem_of_getElem? (i := 6) rfl))) (fun _ h9 => h9) rfl dX7_dot_30 ?_
  have f_30 : (0 : Int) ≤ S 22 0 ∧ S 22 0 ≤ 60 := hI 22 0
  refine zi_bipush hx hb dX7_dot_33 (by decide) ?_
  refine zi_icmp_lt (tgt := 48) hx hb ⟨by omega, by omega⟩ ⟨by decide, by decide⟩ dX7_dot_35 (by decide) (fun c_35 => ?_) (fun c_35 => ?_)
  · refine lv_aload_n hx hb dX7_dot_48 rfl (lv_at hl 0 rfl) ?_
    refine va_get (D := D) (ci := 7) (v := .ref (ad 1)) (C := RX7) (T := TX7) (N := 6) hx hb hts in_X7_dot_7 hown hK.1 hP 0 rfl rfl 0 (by decide) (hts _ lk_X7_dot_10) (fun _ h9 => h9) rfl dX7_dot_49 ?_
    refine lv_iload_n hx hb dX7_dot_52 rfl (lv_at hl 1 rfl) ?_
    refine lv_iload_n hx hb dX7_dot_53 rfl (lv_at hl 2 rfl) ?_
    refine lv_iload_n hx hb dX7_dot_54 rfl (lv_at hl 3 rfl) ?_
    refine zk_wi (zc_V (As := [.int (zi x0), .int (zi x1), .int (zi x2)]) (rest := []) ⟨hx, hb, hml, hown, hts⟩ (ct_X6_addDot l D cI cZ cJ ad S hI hdis x0 x1 x2 ⟨by omega, by omega⟩ ⟨by omega, by omega⟩ ⟨by omega, by omega⟩ (by omega) (by omega) (by omega) (by omega) (by omega) (by omega) (by omega)) (cwV 3 hts gX7_dot_X6_addDot rfl rfl rfl (by decide +kernel) ⟨Nat.le_of_ble_eq_true rfl, Nat.le_of_ble_eq_true rfl⟩) hK hP (q0 := 1) (ci := 6) rfl rfl rfl rfl hl.1 rfl (Nat.le_of_ble_eq_true rfl) dX7_dot_55 ⟨by decide, by decide⟩) hS (fun r_55 S_55 H locs hp_55 hP hS => ?_)
    obtain ⟨er_55, e9, hI_55⟩ := hp_55
    have eS_55 := e9.symm; clear e9
    exact xr_wi (T := S_55) hx hb hr hlocks dX7_dot_58 hP hS ⟨by decide, by decide⟩ (by exact ⟨hc_8, hc_16, hc_23, by omega, er_55, eS_55.symm, hI_55⟩)
  · exact vx_throwS hx hb hst hown (by decide) xNS_fit (hts _ cl59_X7_dot) (hts _ ini59_X7_dot) (hX.2.2.1 4 (86, "there are 60 dots") rfl) (xB_in (n := 0) (cls := xISE) sub_63 hX (fun w hw => hts w (af_X7_dot_63 w hw))) ot_63 hX.1 hX.2.1 hS (hl.1.trans hml.symm) dX7_dot_38 dX7_dot_41 dX7_dot_42 dX7_dot_44 dX7_dot_47 (fun x h9 => (htab x h9).elim) (by decide) (by decide) (by decide) (by decide) hlocks (xx_thr hP hS (⟨Or.inr (Or.inr (Or.inr (⟨hc_8, hc_16, hc_23, c_35, rfl⟩))), SC.rf, hI⟩)) (fun z hz => hS.2.2 z hz) (by decide) (by decide)

theorem in_X7_shift_7 : ∀ w ∈ wsX70, w ∈ wsX7_shift := by decide +kernel
theorem lk_X7_shift_10 : Cond.fieldLink RX7 10 "PlanetoidDesk" "sky" "LPlanetoidDesk$Sky;" ∈ wsX7_shift := by decide +kernel
abbrev rmct_X7_shift : Room := { frames := 7, cells := 3, slots := 18, locals := 104 }
set_option maxHeartbeats 4000000 in
set_option maxRecDepth 100000 in
theorem ct_X7_shift (l : Launch) (hst : l.stackTraces = false) (D : va_G) (cI cZ cJ : ClassId) (sa : Nat → Nat) (ad : Nat → Nat) (S : ZS) (hI : CI S) (hdis : dDis ad) (x0 x1 : Int) (hx0 : ir x0) (hx1 : ir x1)  : vx_Met l yX7_shift wsX7_shift rmct_X7_shift (va_Pc [.ref (ad 0), .int (zi x0), .int (zi x1)] (fun U => va_P D vwCl (dW cI ad S) U.heap ∧ KK D cI cZ cJ U ∧ xP sa (dA ad) U U.heap)) (zWi D (dW cI ad) (dA ad) (fun r T => (0 ≤ x0 ∧ x0 < 9) ∧ (-9 ≤ x1 ∧ x1 ≤ 9) ∧ r = (rAt 9 (S 6) x0) ∧ T = su S 6 (rPut 9 (S 6) x0 x1) ∧ CI T)) (xX D cI ad (fun E T => ((¬ (0 ≤ x0 ∧ x0 < 9) ∧ E = xIOB) ∨ ((0 ≤ x0 ∧ x0 < 9) ∧ ¬ (-9 ≤ x1 ∧ x1 ≤ 9) ∧ E = xIAE)) ∧ SC S T ∧ CI T)) 3 18 (dA ad) := by
  refine vx_ofW (cc := cX7_shift) (maxL := 3) (ret := (some .int)) (by decide) rfl ?_
  intro p e s m args below meth c s₁ B hml htab hv
  obtain ⟨rfl, hP, hK, hX⟩ := hv
  have hx := B.exec
  have hb := B.bytes
  have hr := B.returns
  have hts := atoms_spec (ws := wsX7_shift) B.pre
  have hown : s.vm.findClass RX7 = some m.cls := findClass_of_methodNamed B.named
  have hlocks := B.notSynchronized
  have hl := lv_entry ([.ref (ad 0), .int (zi x0), .int (zi x1)]) (n := 3) (Nat.le_of_ble_eq_true rfl)
  rw [lg_entry_eq]
  generalize (lg_sl ([.ref (ad 0), .int (zi x0), .int (zi x1)]) ++ List.replicate (3 - (lg_sl ([.ref (ad 0), .int (zi x0), .int (zi x1)])).length) Slot.unset).toArray = ls at hl ⊢
  have hl : lv_has ls 3 [(0, .ref (ad 0)), (1, .int (zi x0)), (2, .int (zi x1))] := hl
  have hS : va_S (dA ad) s.heap s.heap [] := va_S.rf
  show W p l e rmct_X7_shift s m ([.ref (ad 0), .int (zi x0), .int (zi x1)] : List Value).toArray below meth c s.heap [] 0 0 (vx_MQ below (zWi D (dW cI ad) (dA ad) (fun r T => (0 ≤ x0 ∧ x0 < 9) ∧ (-9 ≤ x1 ∧ x1 ≤ 9) ∧ r = (rAt 9 (S 6) x0) ∧ T = su S 6 (rPut 9 (S 6) x0 x1) ∧ CI T)) (xX D cI ad (fun E T => ((¬ (0 ≤ x0 ∧ x0 < 9) ∧ E = xIOB) ∨ ((0 ≤ x0 ∧ x0 < 9) ∧ ¬ (-9 ≤ x1 ∧ x1 ≤ 9) ∧ E = xIAE)) ∧ SC S T ∧ CI T)) ([.ref (ad 0), .int (zi x0), .int (zi x1)] : List Value).toArray s 3 18 (dA ad)) (F0 m 0 ls [])
  refine lv_iload_n hx hb dX7_shift_0 rfl (lv_at hl 1 rfl) ?_
  refine zi_bipush hx hb dX7_shift_1 (by decide) ?_
  refine xc_chk (As := [.int (zi x0), .int (zi 9)]) (rest := []) (S0 := S) ⟨hx, hb, hml, hown, hts⟩ (ct_X7_needOneOf l hst x0 9 ⟨by omega, by omega⟩ ⟨by decide, by decide⟩) (va_cwS 2 hts gX7_shift_X7_needOneOf rfl rfl rfl (by decide +kernel) ⟨Nat.le_of_ble_eq_true rfl, Nat.le_of_ble_eq_true rfl⟩) hX hS hP htab hlocks rfl hl.1 rfl (Nat.le_of_ble_eq_true rfl) dX7_shift_3 ⟨by decide, by decide⟩ ⟨by decide, by decide⟩ (fun hn_3 => ⟨Or.inl ⟨hn_3, rfl⟩, SC.rf, hI⟩) (fun hc_3 H locs hP hS => ?_)
  refine lv_iload_n hx hb dX7_shift_6 rfl (lv_at hl 2 rfl) ?_
  refine zi_bipush hx hb dX7_shift_7 (by decide) ?_
  refine zi_bipush hx hb dX7_shift_9 (by decide) ?_
  refine xc_chk (As := [.int (zi x1), .int (zi (-9)), .int (zi 9)]) (rest := []) (S0 := S) ⟨hx, hb, hml, hown, hts⟩ (ct_X7_needWithin l hst x1 (-9) 9 ⟨by omega, by omega⟩ ⟨by decide, by decide⟩ ⟨by decide, by decide⟩) (va_cwS 3 hts gX7_shift_X7_needWithin rfl rfl rfl (by decide +kernel) ⟨Nat.le_of_ble_eq_true rfl, Nat.le_of_ble_eq_true rfl⟩) hX hS hP htab hlocks rfl hl.1 rfl (Nat.le_of_ble_eq_true rfl) dX7_shift_11 ⟨by decide, by decide⟩ ⟨by decide, by decide⟩ (fun hn_11 => ⟨Or.inr (⟨hc_3, hn_11, rfl⟩), SC.rf, hI⟩) (fun hc_11 H locs hP hS => ?_)
  refine lv_aload_n hx hb dX7_shift_14 rfl (lv_at hl 0 rfl) ?_
  refine va_get (D := D) (ci := 7) (v := .ref (ad 1)) (C := RX7) (T := TX7) (N := 6) hx hb hts in_X7_shift_7 hown hK.1 hP 0 rfl rfl 0 (by decide) (hts _ lk_X7_shift_10) (fun _ h9 => h9) rfl dX7_shift_15 ?_
  refine lv_iload_n hx hb dX7_shift_18 rfl (lv_at hl 1 rfl) ?_
  refine lv_iload_n hx hb dX7_shift_19 rfl (lv_at hl 2 rfl) ?_
  refine zk_wi (zc_V (As := [.int (zi x0), .int (zi x1)]) (rest := []) ⟨hx, hb, hml, hown, hts⟩ (ct_X6_replaceShift l D cI cZ cJ ad S hI hdis x0 x1 ⟨by omega, by omega⟩ ⟨by omega, by omega⟩ (by omega) (by omega)) (cwV 2 hts gX7_shift_X6_replaceShift rfl rfl rfl (by decide +kernel) ⟨Nat.le_of_ble_eq_true rfl, Nat.le_of_ble_eq_true rfl⟩) hK hP (q0 := 1) (ci := 6) rfl rfl rfl rfl hl.1 rfl (Nat.le_of_ble_eq_true rfl) dX7_shift_20 ⟨by decide, by decide⟩) hS (fun r_20 S_20 H locs hp_20 hP hS => ?_)
  obtain ⟨er_20, e9, hI_20⟩ := hp_20
  have eS_20 := e9.symm; clear e9
  exact xr_wi (T := S_20) hx hb hr hlocks dX7_shift_23 hP hS ⟨by decide, by decide⟩ (by exact ⟨hc_3, hc_11, er_20, eS_20.symm, hI_20⟩)

theorem in_X7_body_7 : ∀ w ∈ wsX70, w ∈ wsX7_body := by decide +kernel
theorem lk_X7_body_10 : Cond.fieldLink RX7 10 "PlanetoidDesk" "sky" "LPlanetoidDesk$Sky;" ∈ wsX7_body := by decide +kernel
theorem in_X7_body_6 : ∀ w ∈ wsX60, w ∈ wsX7_body := by decide +kernel
theorem lk_X7_body_19 : Cond.fieldLink RX7 19 "PlanetoidDesk" "bodies" "LPlanetoidDesk$Bodies;" ∈ wsX7_body := by decide +kernel
theorem in_X7_body_0 : ∀ w ∈ wsX00, w ∈ wsX7_body := by decide +kernel
theorem af_X7_body_63 : ∀ w ∈ (vx_atS RX7 63 xISE xNS).filter goodWord, w ∈ wsX7_body := by decide +kernel
theorem cl59_X7_body : Cond.classLink RX7 59 xISE ∈ wsX7_body := by decide +kernel
theorem ini59_X7_body : Cond.initialized xISE ∈ wsX7_body := by decide +kernel
abbrev rmct_X7_body : Room := { frames := 7, cells := 2, slots := 12, locals := 103 }
set_option maxHeartbeats 4000000 in
set_option maxRecDepth 100000 in
theorem ct_X7_body (l : Launch) (hst : l.stackTraces = false) (D : va_G) (cI cZ cJ : ClassId) (sa : Nat → Nat) (ad : Nat → Nat) (S : ZS) (hI : CI S) (hdis : dDis ad) (x0 : Int) (hx0 : ir x0)  : vx_Met l yX7_body wsX7_body rmct_X7_body (va_Pc [.ref (ad 0), .int (zi x0)] (fun U => va_P D vwCl (dW cI ad S) U.heap ∧ KK D cI cZ cJ U ∧ xP sa (dA ad) U U.heap)) (zWi D (dW cI ad) (dA ad) (fun r T => (0 ≤ x0 ∧ x0 < S 22 0) ∧ (rAt 60 (S 7) x0 = -1) ∧ (S 23 0 < 20) ∧ r = (S 23 0) ∧ T = su (su S 7 (rPut 60 (S 7) x0 (S 23 0))) 23 (fun _ => S 23 0 + 1) ∧ CI T)) (xX D cI ad (fun E T => ((¬ (0 ≤ x0 ∧ x0 < S 22 0) ∧ E = xIOB) ∨ ((0 ≤ x0 ∧ x0 < S 22 0) ∧ ¬ (rAt 60 (S 7) x0 = -1) ∧ E = xISE) ∨ ((0 ≤ x0 ∧ x0 < S 22 0) ∧ (rAt 60 (S 7) x0 = -1) ∧ ¬ (S 23 0 < 20) ∧ E = xISE)) ∧ SC S T ∧ CI T)) 2 12 (dA ad) := by
  refine vx_ofW (cc := cX7_body) (maxL := 2) (ret := (some .int)) (by decide) rfl ?_
  intro p e s m args below meth c s₁ B hml htab hv
  obtain ⟨rfl, hP, hK, hX⟩ := hv
  have hx := B.exec
  have hb := B.bytes
  have hr := B.returns
  have hts := atoms_spec (ws := wsX7_body) B.pre
  have hown : s.vm.findClass RX7 = some m.cls := findClass_of_methodNamed B.named
  have hlocks := B.notSynchronized
  have hl := lv_entry ([.ref (ad 0), .int (zi x0)]) (n := 2) (Nat.le_of_ble_eq_true rfl)
  rw [lg_entry_eq]
  generalize (lg_sl ([.ref (ad 0), .int (zi x0)]) ++ List.replicate (2 - (lg_sl ([.ref (ad 0), .int (zi x0)])).length) Slot.unset).toArray = ls at hl ⊢
  have hl : lv_has ls 2 [(0, .ref (ad 0)), (1, .int (zi x0))] := hl
  have hS : va_S (dA ad) s.heap s.heap [] := va_S.rf
  show W p l e rmct_X7_body s m ([.ref (ad 0), .int (zi x0)] : List Value).toArray below meth c s.heap [] 0 0 (vx_MQ below (zWi D (dW cI ad) (dA ad) (fun r T => (0 ≤ x0 ∧ x0 < S 22 0) ∧ (rAt 60 (S 7) x0 = -1) ∧ (S 23 0 < 20) ∧ r = (S 23 0) ∧ T = su (su S 7 (rPut 60 (S 7) x0 (S 23 0))) 23 (fun _ => S 23 0 + 1) ∧ CI T)) (xX D cI ad (fun E T => ((¬ (0 ≤ x0 ∧ x0 < S 22 0) ∧ E = xIOB) ∨ ((0 ≤ x0 ∧ x0 < S 22 0) ∧ ¬ (rAt 60 (S 7) x0 = -1) ∧ E = xISE) ∨ ((0 ≤ x0 ∧ x0 < S 22 0) ∧ (rAt 60 (S 7) x0 = -1) ∧ ¬ (S 23 0 < 20) ∧ E = xISE)) ∧ SC S T ∧ CI T)) ([.ref (ad 0), .int (zi x0)] : List Value).toArray s 2 12 (dA ad)) (F0 m 0 ls [])
  refine lv_iload_n hx hb dX7_body_0 rfl (lv_at hl 1 rfl) ?_
  refine lv_aload_n hx hb dX7_body_1 rfl (lv_at hl 0 rfl) ?_
  refine va_get (D := D) (ci := 7) (v := .ref (ad 1)) (C := RX7) (T := TX7) (N := 6) hx hb hts in_X7_body_7 hown hK.1 hP 0 rfl rfl 0 (by decide) (hts _ lk_X7_body_10) (fun _ h9 => h9) rfl dX7_body_2 ?_
  refine va_getN (D := D) (ci := 6) (v := .int (zi (S 22 0))) (C := RX6) (T := TX6) (N := 10) hx hb hts in_X7_body_6 hown hK.1 hP 1 rfl rfl 9 (by decide) (va_Nw.use rfl (hK.2 _ (List.mem_of_getElem? (i := 6) rfl))) (fun _ h9 => h9) rfl dX7_body_5 ?_
  have f_5 : (0 : Int) ≤ S 22 0 ∧ S 22 0 ≤ 60 := hI 22 0
  refine xc_chk (As := [.int (zi x0), .int (zi (S 22 0))]) (rest := []) (S0 := S) ⟨hx, hb, hml, hown, hts⟩ (ct_X7_needOneOf l hst x0 (S 22 0) ⟨by omega, by omega⟩ ⟨by omega, by omega⟩) (va_cwS 2 hts gX7_body_X7_needOneOf rfl rfl rfl (by decide +kernel) ⟨Nat.le_of_ble_eq_true rfl, Nat.le_of_ble_eq_true rfl⟩) hX hS hP htab hlocks rfl hl.1 rfl (Nat.le_of_ble_eq_true rfl) dX7_body_8 ⟨by decide, by decide⟩ ⟨by decide, by decide⟩ (fun hn_8 => ⟨Or.inl ⟨hn_8, rfl⟩, SC.rf, hI⟩) (fun hc_8 H locs hP hS => ?_)
  refine lv_aload_n hx hb dX7_body_11 rfl (lv_at hl 0 rfl) ?_
  refine va_get (D := D) (ci := 7) (v := .ref (ad 2)) (C := RX7) (T := TX7) (N := 6) hx hb hts in_X7_body_7 hown hK.1 hP 0 rfl rfl 1 (by decide) (hts _ lk_X7_body_19) (fun _ h9 => h9) rfl dX7_body_12 ?_
  refine lv_iload_n hx hb dX7_body_15 rfl (lv_at hl 1 rfl) ?_
  refine zk_r (zc_V (As := [.int (zi x0)]) (rest := []) ⟨hx, hb, hml, hown, hts⟩ (ct_X0_isUnlinked l D cI cZ cJ ad S hI x0 ⟨by omega, by omega⟩) (cwV 1 hts gX7_body_X0_isUnlinked rfl rfl rfl (by decide +kernel) ⟨Nat.le_of_ble_eq_true rfl, Nat.le_of_ble_eq_true rfl⟩) hK hP (q0 := 2) (ci := 0) rfl rfl rfl rfl hl.1 rfl (Nat.le_of_ble_eq_true rfl) dX7_body_16 ⟨by decide, by decide⟩) ?_
  refine zi_top (fun (r_16 : Int) (er_16 : r_16 = b2 (rAt 60 (S 7) x0 = -1)) => ?_)
  have fr_16 : (0 : Int) ≤ r_16 ∧ r_16 ≤ 1 := by rw [er_16]; exact b2_b
  refine zi_if_ne (tgt := 32) hx hb ⟨by omega, by omega⟩ dX7_body_19 (by decide) (fun c_19 => ?_) (fun c_19 => ?_)
  · refine lv_aload_n hx hb dX7_body_32 rfl (lv_at hl 0 rfl) ?_
    refine va_get (D := D) (ci := 7) (v := .ref (ad 2)) (C := RX7) (T := TX7) (N := 6) hx hb hts in_X7_body_7 hown hK.1 hP 0 rfl rfl 1 (by decide) (hts _ lk_X7_body_19) (fun _ h9 => h9) rfl dX7_body_33 ?_
    refine va_getN (D := D) (ci := 0) (v := .int (zi (S 23 0))) (C := RX0) (T := TX0) (N := 8) hx hb hts in_X7_body_0 hown hK.1 hP 2 rfl rfl 5 (by decide) (va_Nw.use rfl (hK.2 _ (List.mem_of_getElem? (i := 0) rfl))) (fun _ h9 => h9) rfl dX7_body_36 ?_
    have f_36 : (0 : Int) ≤ S 23 0 ∧ S 23 0 ≤ 20 := hI 23 0
    refine zi_bipush hx hb dX7_body_39 (by decide) ?_
    refine zi_icmp_lt (tgt := 54) hx hb ⟨by omega, by omega⟩ ⟨by decide, by decide⟩ dX7_body_41 (by decide) (fun c_41 => ?_) (fun c_41 => ?_)
    · refine lv_aload_n hx hb dX7_body_54 rfl (lv_at hl 0 rfl) ?_
      refine va_get (D := D) (ci := 7) (v := .ref (ad 2)) (C := RX7) (T := TX7) (N := 6) hx hb hts in_X7_body_7 hown hK.1 hP 0 rfl rfl 1 (by decide) (hts _ lk_X7_body_19) (fun _ h9 => h9) rfl dX7_body_55 ?_
      refine lv_iload_n hx hb dX7_body_58 rfl (lv_at hl 1 rfl) ?_
      refine zk_wi (zc_V (As := [.int (zi x0)]) (rest := []) ⟨hx, hb, hml, hown, hts⟩ (ct_X0_addBody l D cI cZ cJ ad S hI hdis x0 ⟨by omega, by omega⟩ (by omega)) (cwV 1 hts gX7_body_X0_addBody rfl rfl rfl (by decide +kernel) ⟨Nat.le_of_ble_eq_true rfl, Nat.le_of_ble_eq_true rfl⟩) hK hP (q0 := 2) (ci := 0) rfl rfl rfl rfl hl.1 rfl (Nat.le_of_ble_eq_true rfl) dX7_body_59 ⟨by decide, by decide⟩) hS (fun r_59 S_59 H locs hp_59 hP hS => ?_)
      obtain ⟨er_59, e9, hI_59⟩ := hp_59
      have eS_59 := e9.symm; clear e9
      exact xr_wi (T := S_59) hx hb hr hlocks dX7_body_62 hP hS ⟨by decide, by decide⟩ (by exact ⟨hc_8, b2_1 er_16 c_19, by omega, er_59, eS_59.symm, hI_59⟩)
    · exact vx_throwS hx hb hst hown (by decide) xNS_fit (hts _ cl59_X7_body) (hts _ ini59_X7_body) (hX.2.2.1 6 (116, "there are 20 bodies") rfl) (xB_in (n := 0) (cls := xISE) sub_63 hX (fun w hw => hts w (af_X7_body_63 w hw))) ot_63 hX.1 hX.2.1 hS (hl.1.trans hml.symm) dX7_body_44 dX7_body_47 dX7_body_48 dX7_body_50 dX7_body_53 (fun x h9 => (htab x h9).elim) (by decide) (by decide) (by decide) (by decide) hlocks (xx_thr hP hS (⟨Or.inr (Or.inr (⟨hc_8, (b2_1 er_16 c_19), c_41, rfl⟩)), SC.rf, hI⟩)) (fun z hz => hS.2.2 z hz) (by decide) (by decide)
  · exact vx_throwS hx hb hst hown (by decide) xNS_fit (hts _ cl59_X7_body) (hts _ ini59_X7_body) (hX.2.2.1 5 (111, "the dot is not unlinked") rfl) (xB_in (n := 0) (cls := xISE) sub_63 hX (fun w hw => hts w (af_X7_body_63 w hw))) ot_63 hX.1 hX.2.1 hS (hl.1.trans hml.symm) dX7_body_22 dX7_body_25 dX7_body_26 dX7_body_28 dX7_body_31 (fun x h9 => (htab x h9).elim) (by decide) (by decide) (by decide) (by decide) hlocks (xx_thr hP hS (⟨Or.inr (Or.inl ⟨hc_8, (b2_0 er_16 c_19), rfl⟩), SC.rf, hI⟩)) (fun z hz => hS.2.2 z hz) (by decide) (by decide)

theorem in_X7_unlink_7 : ∀ w ∈ wsX70, w ∈ wsX7_unlink := by decide +kernel
theorem lk_X7_unlink_19 : Cond.fieldLink RX7 19 "PlanetoidDesk" "bodies" "LPlanetoidDesk$Bodies;" ∈ wsX7_unlink := by decide +kernel
theorem in_X7_unlink_0 : ∀ w ∈ wsX00, w ∈ wsX7_unlink := by decide +kernel
theorem lk_X7_unlink_10 : Cond.fieldLink RX7 10 "PlanetoidDesk" "sky" "LPlanetoidDesk$Sky;" ∈ wsX7_unlink := by decide +kernel
theorem in_X7_unlink_6 : ∀ w ∈ wsX60, w ∈ wsX7_unlink := by decide +kernel
theorem af_X7_unlink_63 : ∀ w ∈ (vx_atS RX7 63 xISE xNS).filter goodWord, w ∈ wsX7_unlink := by decide +kernel
theorem cl59_X7_unlink : Cond.classLink RX7 59 xISE ∈ wsX7_unlink := by decide +kernel
theorem ini59_X7_unlink : Cond.initialized xISE ∈ wsX7_unlink := by decide +kernel
abbrev rmct_X7_unlink : Room := { frames := 7, cells := 3, slots := 18, locals := 103 }
set_option maxHeartbeats 4000000 in
set_option maxRecDepth 100000 in
theorem ct_X7_unlink (l : Launch) (hst : l.stackTraces = false) (D : va_G) (cI cZ cJ : ClassId) (sa : Nat → Nat) (ad : Nat → Nat) (S : ZS) (hI : CI S) (hdis : dDis ad) (x0 x1 : Int) (hx0 : ir x0) (hx1 : ir x1)  : vx_Met l yX7_unlink wsX7_unlink rmct_X7_unlink (va_Pc [.ref (ad 0), .int (zi x0), .int (zi x1)] (fun U => va_P D vwCl (dW cI ad S) U.heap ∧ KK D cI cZ cJ U ∧ xP sa (dA ad) U U.heap)) (zWi D (dW cI ad) (dA ad) (fun r T => (0 ≤ x0 ∧ x0 < S 23 0) ∧ (0 ≤ x1 ∧ x1 < S 22 0) ∧ (rAt 60 (S 7) x1 = x0 ∧ ¬ ownN S x0 < 2) ∧ r = (ownN (su S 7 (rPut 60 (S 7) x1 (-1))) x0) ∧ T = su S 7 (rPut 60 (S 7) x1 (-1)) ∧ CI T)) (xX D cI ad (fun E T => ((¬ (0 ≤ x0 ∧ x0 < S 23 0) ∧ E = xIOB) ∨ ((0 ≤ x0 ∧ x0 < S 23 0) ∧ ¬ (0 ≤ x1 ∧ x1 < S 22 0) ∧ E = xIOB) ∨ ((0 ≤ x0 ∧ x0 < S 23 0) ∧ (0 ≤ x1 ∧ x1 < S 22 0) ∧ ¬ (rAt 60 (S 7) x1 = x0 ∧ ¬ ownN S x0 < 2) ∧ E = xISE)) ∧ SC S T ∧ CI T)) 3 18 (dA ad) := by
  refine vx_ofW (cc := cX7_unlink) (maxL := 3) (ret := (some .int)) (by decide) rfl ?_
  intro p e s m args below meth c s₁ B hml htab hv
  obtain ⟨rfl, hP, hK, hX⟩ := hv
  have hx := B.exec
  have hb := B.bytes
  have hr := B.returns
  have hts := atoms_spec (ws := wsX7_unlink) B.pre
  have hown : s.vm.findClass RX7 = some m.cls := findClass_of_methodNamed B.named
  have hlocks := B.notSynchronized
  have hl := lv_entry ([.ref (ad 0), .int (zi x0), .int (zi x1)]) (n := 3) (Nat.le_of_ble_eq_true rfl)
  rw [lg_entry_eq]
  generalize (lg_sl ([.ref (ad 0), .int (zi x0), .int (zi x1)]) ++ List.replicate (3 - (lg_sl ([.ref (ad 0), .int (zi x0), .int (zi x1)])).length) Slot.unset).toArray = ls at hl ⊢
  have hl : lv_has ls 3 [(0, .ref (ad 0)), (1, .int (zi x0)), (2, .int (zi x1))] := hl
  have hS : va_S (dA ad) s.heap s.heap [] := va_S.rf
  show W p l e rmct_X7_unlink s m ([.ref (ad 0), .int (zi x0), .int (zi x1)] : List Value).toArray below meth c s.heap [] 0 0 (vx_MQ below (zWi D (dW cI ad) (dA ad) (fun r T => (0 ≤ x0 ∧ x0 < S 23 0) ∧ (0 ≤ x1 ∧ x1 < S 22 0) ∧ (rAt 60 (S 7) x1 = x0 ∧ ¬ ownN S x0 < 2) ∧ r = (ownN (su S 7 (rPut 60 (S 7) x1 (-1))) x0) ∧ T = su S 7 (rPut 60 (S 7) x1 (-1)) ∧ CI T)) (xX D cI ad (fun E T => ((¬ (0 ≤ x0 ∧ x0 < S 23 0) ∧ E = xIOB) ∨ ((0 ≤ x0 ∧ x0 < S 23 0) ∧ ¬ (0 ≤ x1 ∧ x1 < S 22 0) ∧ E = xIOB) ∨ ((0 ≤ x0 ∧ x0 < S 23 0) ∧ (0 ≤ x1 ∧ x1 < S 22 0) ∧ ¬ (rAt 60 (S 7) x1 = x0 ∧ ¬ ownN S x0 < 2) ∧ E = xISE)) ∧ SC S T ∧ CI T)) ([.ref (ad 0), .int (zi x0), .int (zi x1)] : List Value).toArray s 3 18 (dA ad)) (F0 m 0 ls [])
  refine lv_iload_n hx hb dX7_unlink_0 rfl (lv_at hl 1 rfl) ?_
  refine lv_aload_n hx hb dX7_unlink_1 rfl (lv_at hl 0 rfl) ?_
  refine va_get (D := D) (ci := 7) (v := .ref (ad 2)) (C := RX7) (T := TX7) (N := 6) hx hb hts in_X7_unlink_7 hown hK.1 hP 0 rfl rfl 1 (by decide) (hts _ lk_X7_unlink_19) (fun _ h9 => h9) rfl dX7_unlink_2 ?_
  refine va_getN (D := D) (ci := 0) (v := .int (zi (S 23 0))) (C := RX0) (T := TX0) (N := 8) hx hb hts in_X7_unlink_0 hown hK.1 hP 2 rfl rfl 5 (by decide) (va_Nw.use rfl (hK.2 _ (List.mem_of_getElem? (i := 0) rfl))) (fun _ h9 => h9) rfl dX7_unlink_5 ?_
  have f_5 : (0 : Int) ≤ S 23 0 ∧ S 23 0 ≤ 20 := hI 23 0
  refine xc_chk (As := [.int (zi x0), .int (zi (S 23 0))]) (rest := []) (S0 := S) ⟨hx, hb, hml, hown, hts⟩ (ct_X7_needOneOf l hst x0 (S 23 0) ⟨by omega, by omega⟩ ⟨by omega, by omega⟩) (va_cwS 2 hts gX7_unlink_X7_needOneOf rfl rfl rfl (by decide +kernel) ⟨Nat.le_of_ble_eq_true rfl, Nat.le_of_ble_eq_true rfl⟩) hX hS hP htab hlocks rfl hl.1 rfl (Nat.le_of_ble_eq_true rfl) dX7_unlink_8 ⟨by decide, by decide⟩ ⟨by decide, by decide⟩ (fun hn_8 => ⟨Or.inl ⟨hn_8, rfl⟩, SC.rf, hI⟩) (fun hc_8 H locs hP hS => ?_)
  refine lv_iload_n hx hb dX7_unlink_11 rfl (lv_at hl 2 rfl) ?_
  refine lv_aload_n hx hb dX7_unlink_12 rfl (lv_at hl 0 rfl) ?_
  refine va_get (D := D) (ci := 7) (v := .ref (ad 1)) (C := RX7) (T := TX7) (N := 6) hx hb hts in_X7_unlink_7 hown hK.1 hP 0 rfl rfl 0 (by decide) (hts _ lk_X7_unlink_10) (fun _ h9 => h9) rfl dX7_unlink_13 ?_
  refine va_getN (D := D) (ci := 6) (v := .int (zi (S 22 0))) (C := RX6) (T := TX6) (N := 10) hx hb hts in_X7_unlink_6 hown hK.1 hP 1 rfl rfl 9 (by decide) (va_Nw.use rfl (hK.2 _ (List.mem_of_getElem? (i := 6) rfl))) (fun _ h9 => h9) rfl dX7_unlink_16 ?_
  have f_16 : (0 : Int) ≤ S 22 0 ∧ S 22 0 ≤ 60 := hI 22 0
  refine xc_chk (As := [.int (zi x1), .int (zi (S 22 0))]) (rest := []) (S0 := S) ⟨hx, hb, hml, hown, hts⟩ (ct_X7_needOneOf l hst x1 (S 22 0) ⟨by omega, by omega⟩ ⟨by omega, by omega⟩) (va_cwS 2 hts gX7_unlink_X7_needOneOf rfl rfl rfl (by decide +kernel) ⟨Nat.le_of_ble_eq_true rfl, Nat.le_of_ble_eq_true rfl⟩) hX hS hP htab hlocks rfl hl.1 rfl (Nat.le_of_ble_eq_true rfl) dX7_unlink_19 ⟨by decide, by decide⟩ ⟨by decide, by decide⟩ (fun hn_19 => ⟨Or.inr (Or.inl ⟨hc_8, hn_19, rfl⟩), SC.rf, hI⟩) (fun hc_19 H locs hP hS => ?_)
  refine lv_aload_n hx hb dX7_unlink_22 rfl (lv_at hl 0 rfl) ?_
  refine va_get (D := D) (ci := 7) (v := .ref (ad 2)) (C := RX7) (T := TX7) (N := 6) hx hb hts in_X7_unlink_7 hown hK.1 hP 0 rfl rfl 1 (by decide) (hts _ lk_X7_unlink_19) (fun _ h9 => h9) rfl dX7_unlink_23 ?_
  refine lv_iload_n hx hb dX7_unlink_26 rfl (lv_at hl 2 rfl) ?_
  refine zk_r (zc_V (As := [.int (zi x1)]) (rest := []) ⟨hx, hb, hml, hown, hts⟩ (ct_X0_ownerOf l D cI cZ cJ ad S hI x1 ⟨by omega, by omega⟩) (cwV 1 hts gX7_unlink_X0_ownerOf rfl rfl rfl (by decide +kernel) ⟨Nat.le_of_ble_eq_true rfl, Nat.le_of_ble_eq_true rfl⟩) hK hP (q0 := 2) (ci := 0) rfl rfl rfl rfl hl.1 rfl (Nat.le_of_ble_eq_true rfl) dX7_unlink_27 ⟨by decide, by decide⟩) ?_
  refine zi_top (fun (r_27 : Int) (er_27 : r_27 = rAt 60 (S 7) x1) => ?_)
  have fr_27 : (-1 : Int) ≤ r_27 ∧ r_27 ≤ 19 := by rw [er_27]; exact CI.at hI 7 60 x1 ⟨by decide, by decide⟩
  refine lv_iload_n hx hb dX7_unlink_30 rfl (lv_at hl 1 rfl) ?_
  refine zi_icmp_ne (tgt := 46) hx hb ⟨by omega, by omega⟩ ⟨by omega, by omega⟩ dX7_unlink_31 (by decide) (fun c_31 => ?_) (fun c_31 => ?_)
  · exact vx_throwS hx hb hst hown (by decide) xNS_fit (hts _ cl59_X7_unlink) (hts _ ini59_X7_unlink) (hX.2.2.1 8 (140, "the dot is no own dot of the body, or the only one") rfl) (xB_in (n := 0) (cls := xISE) sub_63 hX (fun w hw => hts w (af_X7_unlink_63 w hw))) ot_63 hX.1 hX.2.1 hS (hl.1.trans hml.symm) dX7_unlink_46 dX7_unlink_49 dX7_unlink_50 dX7_unlink_52 dX7_unlink_55 (fun x h9 => (htab x h9).elim) (by decide) (by decide) (by decide) (by decide) hlocks (xx_thr hP hS (⟨Or.inr (Or.inr (⟨hc_8, hc_19, (fun h9 => by omega), rfl⟩)), SC.rf, hI⟩)) (fun z hz => hS.2.2 z hz) (by decide) (by decide)
  · refine lv_aload_n hx hb dX7_unlink_34 rfl (lv_at hl 0 rfl) ?_
    refine va_get (D := D) (ci := 7) (v := .ref (ad 2)) (C := RX7) (T := TX7) (N := 6) hx hb hts in_X7_unlink_7 hown hK.1 hP 0 rfl rfl 1 (by decide) (hts _ lk_X7_unlink_19) (fun _ h9 => h9) rfl dX7_unlink_35 ?_
    refine lv_iload_n hx hb dX7_unlink_38 rfl (lv_at hl 1 rfl) ?_
    refine zk_r (zc_V (As := [.int (zi x0)]) (rest := []) ⟨hx, hb, hml, hown, hts⟩ (ct_X0_countOwnDots l D cI cZ cJ ad S hI x0 ⟨by omega, by omega⟩) (cwV 1 hts gX7_unlink_X0_countOwnDots rfl rfl rfl (by decide +kernel) ⟨Nat.le_of_ble_eq_true rfl, Nat.le_of_ble_eq_true rfl⟩) hK hP (q0 := 2) (ci := 0) rfl rfl rfl rfl hl.1 rfl (Nat.le_of_ble_eq_true rfl) dX7_unlink_39 ⟨by decide, by decide⟩) ?_
    refine zi_top (fun (r_39 : Int) (er_39 : r_39 = ownN S x0) => ?_)
    have fr_39 : (0 : Int) ≤ r_39 ∧ r_39 ≤ 60 := by rw [er_39]; exact cnt_b _ 60 0 0
    refine zi_iconst hx hb dX7_unlink_42 ?_
    refine zi_icmp_ge (tgt := 56) hx hb ⟨by omega, by omega⟩ ⟨by decide, by decide⟩ dX7_unlink_43 (by decide) (fun c_43 => ?_) (fun c_43 => ?_)
    · refine lv_aload_n hx hb dX7_unlink_56 rfl (lv_at hl 0 rfl) ?_
      refine va_get (D := D) (ci := 7) (v := .ref (ad 2)) (C := RX7) (T := TX7) (N := 6) hx hb hts in_X7_unlink_7 hown hK.1 hP 0 rfl rfl 1 (by decide) (hts _ lk_X7_unlink_19) (fun _ h9 => h9) rfl dX7_unlink_57 ?_
      refine zi_iconst hx hb dX7_unlink_60 ?_
      refine lv_iload_n hx hb dX7_unlink_61 rfl (lv_at hl 2 rfl) ?_
      refine zk_wv (zc_V (As := [.int (zi (-1)), .int (zi x1)]) (rest := []) ⟨hx, hb, hml, hown, hts⟩ (ct_X0_own l D cI cZ cJ ad S hI hdis (-1) x1 ⟨by decide, by decide⟩ ⟨by omega, by omega⟩ (by omega) (by omega)) (cwV 2 hts gX7_unlink_X0_own rfl rfl rfl (by decide +kernel) ⟨Nat.le_of_ble_eq_true rfl, Nat.le_of_ble_eq_true rfl⟩) hK hP (q0 := 2) (ci := 0) rfl rfl rfl rfl hl.1 rfl (Nat.le_of_ble_eq_true rfl) dX7_unlink_62 ⟨by decide, by decide⟩) hS (fun S_62 H locs hp_62 hP hS => ?_)
      obtain ⟨e9, hI_62⟩ := hp_62
      have eS_62 := e9.symm; clear e9
      refine lv_aload_n hx hb dX7_unlink_65 rfl (lv_at hl 0 rfl) ?_
      refine va_get (D := D) (ci := 7) (v := .ref (ad 2)) (C := RX7) (T := TX7) (N := 6) hx hb hts in_X7_unlink_7 hown hK.1 hP 0 rfl rfl 1 (by decide) (hts _ lk_X7_unlink_19) (fun _ h9 => h9) rfl dX7_unlink_66 ?_
      refine lv_iload_n hx hb dX7_unlink_69 rfl (lv_at hl 1 rfl) ?_
      refine zk_r (zc_V (As := [.int (zi x0)]) (rest := []) ⟨hx, hb, hml, hown, hts⟩ (ct_X0_countOwnDots l D cI cZ cJ ad S_62 hI_62 x0 ⟨by omega, by omega⟩) (cwV 1 hts gX7_unlink_X0_countOwnDots rfl rfl rfl (by decide +kernel) ⟨Nat.le_of_ble_eq_true rfl, Nat.le_of_ble_eq_true rfl⟩) hK hP (q0 := 2) (ci := 0) rfl rfl rfl rfl hl.1 rfl (Nat.le_of_ble_eq_true rfl) dX7_unlink_70 ⟨by decide, by decide⟩) ?_
      refine zi_top (fun (r_70 : Int) (er_70 : r_70 = ownN S_62 x0) => ?_)
      have fr_70 : (0 : Int) ≤ r_70 ∧ r_70 ≤ 60 := by rw [er_70]; exact cnt_b _ 60 0 0
      exact xr_wi (T := S_62) hx hb hr hlocks dX7_unlink_73 hP hS ⟨by decide, by decide⟩ (by exact ⟨hc_8, hc_19, ⟨by omega, by omega⟩, by rw [er_70, eS_62], eS_62.symm, hI_62⟩)
    · exact vx_throwS hx hb hst hown (by decide) xNS_fit (hts _ cl59_X7_unlink) (hts _ ini59_X7_unlink) (hX.2.2.1 8 (140, "the dot is no own dot of the body, or the only one") rfl) (xB_in (n := 0) (cls := xISE) sub_63 hX (fun w hw => hts w (af_X7_unlink_63 w hw))) ot_63 hX.1 hX.2.1 hS (hl.1.trans hml.symm) dX7_unlink_46 dX7_unlink_49 dX7_unlink_50 dX7_unlink_52 dX7_unlink_55 (fun x h9 => (htab x h9).elim) (by decide) (by decide) (by decide) (by decide) hlocks (xx_thr hP hS (⟨Or.inr (Or.inr (⟨hc_8, hc_19, (fun h9 => by omega), rfl⟩)), SC.rf, hI⟩)) (fun z hz => hS.2.2 z hz) (by decide) (by decide)

theorem in_X7_ofDot_7 : ∀ w ∈ wsX70, w ∈ wsX7_ofDot := by decide +kernel
theorem lk_X7_ofDot_10 : Cond.fieldLink RX7 10 "PlanetoidDesk" "sky" "LPlanetoidDesk$Sky;" ∈ wsX7_ofDot := by decide +kernel
theorem in_X7_ofDot_6 : ∀ w ∈ wsX60, w ∈ wsX7_ofDot := by decide +kernel
theorem lk_X7_ofDot_19 : Cond.fieldLink RX7 19 "PlanetoidDesk" "bodies" "LPlanetoidDesk$Bodies;" ∈ wsX7_ofDot := by decide +kernel
abbrev rmct_X7_ofDot : Room := { frames := 7, cells := 3, slots := 18, locals := 104 }
set_option maxHeartbeats 4000000 in
set_option maxRecDepth 100000 in
theorem ct_X7_ofDot (l : Launch) (hst : l.stackTraces = false) (D : va_G) (cI cZ cJ : ClassId) (sa : Nat → Nat) (ad : Nat → Nat) (S : ZS) (hI : CI S) (hdis : dDis ad) (x0 x1 : Int) (hx0 : ir x0) (hx1 : ir x1)  : vx_Met l yX7_ofDot wsX7_ofDot rmct_X7_ofDot (va_Pc [.ref (ad 0), .int (zi x0), .int (zi x1)] (fun U => va_P D vwCl (dW cI ad S) U.heap ∧ KK D cI cZ cJ U ∧ xP sa (dA ad) U U.heap)) (zWi D (dW cI ad) (dA ad) (fun r T => (0 ≤ x0 ∧ x0 < S 22 0) ∧ (0 ≤ x1 ∧ x1 ≤ 3) ∧ r = (if x1 = 0 then nOf S x0 else if x1 = 1 then tOf S x0 else if x1 = 2 then lOf S x0 else rAt 60 (S 7) x0) ∧ T = S ∧ CI T)) (xX D cI ad (fun E T => ((¬ (0 ≤ x0 ∧ x0 < S 22 0) ∧ E = xIOB) ∨ ((0 ≤ x0 ∧ x0 < S 22 0) ∧ ¬ (0 ≤ x1 ∧ x1 ≤ 3) ∧ E = xIAE)) ∧ SC S T ∧ CI T)) 3 18 (dA ad) := by
  refine vx_ofW (cc := cX7_ofDot) (maxL := 3) (ret := (some .int)) (by decide) rfl ?_
  intro p e s m args below meth c s₁ B hml htab hv
  obtain ⟨rfl, hP, hK, hX⟩ := hv
  have hx := B.exec
  have hb := B.bytes
  have hr := B.returns
  have hts := atoms_spec (ws := wsX7_ofDot) B.pre
  have hown : s.vm.findClass RX7 = some m.cls := findClass_of_methodNamed B.named
  have hlocks := B.notSynchronized
  have hl := lv_entry ([.ref (ad 0), .int (zi x0), .int (zi x1)]) (n := 3) (Nat.le_of_ble_eq_true rfl)
  rw [lg_entry_eq]
  generalize (lg_sl ([.ref (ad 0), .int (zi x0), .int (zi x1)]) ++ List.replicate (3 - (lg_sl ([.ref (ad 0), .int (zi x0), .int (zi x1)])).length) Slot.unset).toArray = ls at hl ⊢
  have hl : lv_has ls 3 [(0, .ref (ad 0)), (1, .int (zi x0)), (2, .int (zi x1))] := hl
  have hS : va_S (dA ad) s.heap s.heap [] := va_S.rf
  show W p l e rmct_X7_ofDot s m ([.ref (ad 0), .int (zi x0), .int (zi x1)] : List Value).toArray below meth c s.heap [] 0 0 (vx_MQ below (zWi D (dW cI ad) (dA ad) (fun r T => (0 ≤ x0 ∧ x0 < S 22 0) ∧ (0 ≤ x1 ∧ x1 ≤ 3) ∧ r = (if x1 = 0 then nOf S x0 else if x1 = 1 then tOf S x0 else if x1 = 2 then lOf S x0 else rAt 60 (S 7) x0) ∧ T = S ∧ CI T)) (xX D cI ad (fun E T => ((¬ (0 ≤ x0 ∧ x0 < S 22 0) ∧ E = xIOB) ∨ ((0 ≤ x0 ∧ x0 < S 22 0) ∧ ¬ (0 ≤ x1 ∧ x1 ≤ 3) ∧ E = xIAE)) ∧ SC S T ∧ CI T)) ([.ref (ad 0), .int (zi x0), .int (zi x1)] : List Value).toArray s 3 18 (dA ad)) (F0 m 0 ls [])
  refine lv_iload_n hx hb dX7_ofDot_0 rfl (lv_at hl 1 rfl) ?_
  refine lv_aload_n hx hb dX7_ofDot_1 rfl (lv_at hl 0 rfl) ?_
  refine va_get (D := D) (ci := 7) (v := .ref (ad 1)) (C := RX7) (T := TX7) (N := 6) hx hb hts in_X7_ofDot_7 hown hK.1 hP 0 rfl rfl 0 (by decide) (hts _ lk_X7_ofDot_10) (fun _ h9 => h9) rfl dX7_ofDot_2 ?_
  refine va_getN (D := D) (ci := 6) (v := .int (zi (S 22 0))) (C := RX6) (T := TX6) (N := 10) hx hb hts in_X7_ofDot_6 hown hK.1 hP 1 rfl rfl 9 (by decide) (va_Nw.use rfl (hK.2 _ (List.mem_of_getElem? (i := 6) rfl))) (fun _ h9 => h9) rfl dX7_ofDot_5 ?_
  have f_5 : (0 : Int) ≤ S 22 0 ∧ S 22 0 ≤ 60 := hI 22 0
  refine xc_chk (As := [.int (zi x0), .int (zi (S 22 0))]) (rest := []) (S0 := S) ⟨hx, hb, hml, hown, hts⟩ (ct_X7_needOneOf l hst x0 (S 22 0) ⟨by omega, by omega⟩ ⟨by omega, by omega⟩) (va_cwS 2 hts gX7_ofDot_X7_needOneOf rfl rfl rfl (by decide +kernel) ⟨Nat.le_of_ble_eq_true rfl, Nat.le_of_ble_eq_true rfl⟩) hX hS hP htab hlocks rfl hl.1 rfl (Nat.le_of_ble_eq_true rfl) dX7_ofDot_8 ⟨by decide, by decide⟩ ⟨by decide, by decide⟩ (fun hn_8 => ⟨Or.inl ⟨hn_8, rfl⟩, SC.rf, hI⟩) (fun hc_8 H locs hP hS => ?_)
  refine lv_iload_n hx hb dX7_ofDot_11 rfl (lv_at hl 2 rfl) ?_
  refine zi_iconst hx hb dX7_ofDot_12 ?_
  refine zi_iconst hx hb dX7_ofDot_13 ?_
  refine xc_chk (As := [.int (zi x1), .int (zi 0), .int (zi 3)]) (rest := []) (S0 := S) ⟨hx, hb, hml, hown, hts⟩ (ct_X7_needWithin l hst x1 0 3 ⟨by omega, by omega⟩ ⟨by decide, by decide⟩ ⟨by decide, by decide⟩) (va_cwS 3 hts gX7_ofDot_X7_needWithin rfl rfl rfl (by decide +kernel) ⟨Nat.le_of_ble_eq_true rfl, Nat.le_of_ble_eq_true rfl⟩) hX hS hP htab hlocks rfl hl.1 rfl (Nat.le_of_ble_eq_true rfl) dX7_ofDot_14 ⟨by decide, by decide⟩ ⟨by decide, by decide⟩ (fun hn_14 => ⟨Or.inr (⟨hc_8, hn_14, rfl⟩), SC.rf, hI⟩) (fun hc_14 H locs hP hS => ?_)
  refine lv_iload_n hx hb dX7_ofDot_17 rfl (lv_at hl 2 rfl) ?_
  by_cases c_18 : x1 < 0 ∨ 2 < x1
  · refine lv_tableOut (tgt := 71) hx hb dX7_ofDot_18 (by rw [zi_toInt ⟨by omega, by omega⟩]; exact c_18) (by decide) ?_
    refine lv_aload_n hx hb dX7_ofDot_71 rfl (lv_at hl 0 rfl) ?_
    refine va_get (D := D) (ci := 7) (v := .ref (ad 2)) (C := RX7) (T := TX7) (N := 6) hx hb hts in_X7_ofDot_7 hown hK.1 hP 0 rfl rfl 1 (by decide) (hts _ lk_X7_ofDot_19) (fun _ h9 => h9) rfl dX7_ofDot_72 ?_
    refine lv_iload_n hx hb dX7_ofDot_75 rfl (lv_at hl 1 rfl) ?_
    refine zk_r (zc_V (As := [.int (zi x0)]) (rest := []) ⟨hx, hb, hml, hown, hts⟩ (ct_X0_ownerOf l D cI cZ cJ ad S hI x0 ⟨by omega, by omega⟩) (cwV 1 hts gX7_ofDot_X0_ownerOf rfl rfl rfl (by decide +kernel) ⟨Nat.le_of_ble_eq_true rfl, Nat.le_of_ble_eq_true rfl⟩) hK hP (q0 := 2) (ci := 0) rfl rfl rfl rfl hl.1 rfl (Nat.le_of_ble_eq_true rfl) dX7_ofDot_76 ⟨by decide, by decide⟩) ?_
    refine zi_top (fun (r_76 : Int) (er_76 : r_76 = rAt 60 (S 7) x0) => ?_)
    have fr_76 : (-1 : Int) ≤ r_76 ∧ r_76 ≤ 19 := by rw [er_76]; exact CI.at hI 7 60 x0 ⟨by decide, by decide⟩
    exact xr_wi (T := S) hx hb hr hlocks dX7_ofDot_79 hP hS ⟨by decide, by decide⟩ (by exact ⟨hc_8, hc_14, by rw [if_neg (by omega), if_neg (by omega), if_neg (by omega), er_76], rfl, hI⟩)
  · have c9 : x1 = 0 ∨ x1 = 1 ∨ x1 = 2 := by omega
    rcases c9 with c9 | c9 | c9
    · refine lv_tableIn (off := 26) (tgt := 44) hx hb dX7_ofDot_18 (by rw [zi_toInt ⟨by omega, by omega⟩]; omega) (by rw [zi_toInt ⟨by omega, by omega⟩]; omega) (by rw [zi_toInt ⟨by omega, by omega⟩, c9]; rfl) (by decide) ?_
      refine lv_aload_n hx hb dX7_ofDot_44 rfl (lv_at hl 0 rfl) ?_
      refine va_get (D := D) (ci := 7) (v := .ref (ad 1)) (C := RX7) (T := TX7) (N := 6) hx hb hts in_X7_ofDot_7 hown hK.1 hP 0 rfl rfl 0 (by decide) (hts _ lk_X7_ofDot_10) (fun _ h9 => h9) rfl dX7_ofDot_45 ?_
      refine lv_iload_n hx hb dX7_ofDot_48 rfl (lv_at hl 1 rfl) ?_
      refine zk_r (zc_V (As := [.int (zi x0)]) (rest := []) ⟨hx, hb, hml, hown, hts⟩ (ct_X6_nightOf l D cI cZ cJ ad S hI x0 ⟨by omega, by omega⟩) (cwV 1 hts gX7_ofDot_X6_nightOf rfl rfl rfl (by decide +kernel) ⟨Nat.le_of_ble_eq_true rfl, Nat.le_of_ble_eq_true rfl⟩) hK hP (q0 := 1) (ci := 6) rfl rfl rfl rfl hl.1 rfl (Nat.le_of_ble_eq_true rfl) dX7_ofDot_49 ⟨by decide, by decide⟩) ?_
      refine zi_top (fun (r_49 : Int) (er_49 : r_49 = nOf S x0) => ?_)
      have fr_49 : (0 : Int) ≤ r_49 ∧ r_49 ≤ 999 := by rw [er_49]; exact nOf_b hI x0
      exact xr_wi (T := S) hx hb hr hlocks dX7_ofDot_52 hP hS ⟨by decide, by decide⟩ (by exact ⟨hc_8, hc_14, by rw [if_pos (by omega), er_49], rfl, hI⟩)
    · refine lv_tableIn (off := 35) (tgt := 53) hx hb dX7_ofDot_18 (by rw [zi_toInt ⟨by omega, by omega⟩]; omega) (by rw [zi_toInt ⟨by omega, by omega⟩]; omega) (by rw [zi_toInt ⟨by omega, by omega⟩, c9]; rfl) (by decide) ?_
      refine lv_aload_n hx hb dX7_ofDot_53 rfl (lv_at hl 0 rfl) ?_
      refine va_get (D := D) (ci := 7) (v := .ref (ad 1)) (C := RX7) (T := TX7) (N := 6) hx hb hts in_X7_ofDot_7 hown hK.1 hP 0 rfl rfl 0 (by decide) (hts _ lk_X7_ofDot_10) (fun _ h9 => h9) rfl dX7_ofDot_54 ?_
      refine lv_iload_n hx hb dX7_ofDot_57 rfl (lv_at hl 1 rfl) ?_
      refine zk_r (zc_V (As := [.int (zi x0)]) (rest := []) ⟨hx, hb, hml, hown, hts⟩ (ct_X6_truePlaceOf l D cI cZ cJ ad S hI x0 ⟨by omega, by omega⟩) (cwV 1 hts gX7_ofDot_X6_truePlaceOf rfl rfl rfl (by decide +kernel) ⟨Nat.le_of_ble_eq_true rfl, Nat.le_of_ble_eq_true rfl⟩) hK hP (q0 := 1) (ci := 6) rfl rfl rfl rfl hl.1 rfl (Nat.le_of_ble_eq_true rfl) dX7_ofDot_58 ⟨by decide, by decide⟩) ?_
      refine zi_top (fun (r_58 : Int) (er_58 : r_58 = tOf S x0) => ?_)
      have fr_58 : (0 : Int) ≤ r_58 ∧ r_58 ≤ 3599 := by rw [er_58]; exact tOf_b hI x0
      exact xr_wi (T := S) hx hb hr hlocks dX7_ofDot_61 hP hS ⟨by decide, by decide⟩ (by exact ⟨hc_8, hc_14, by rw [if_neg (by omega), if_pos (by omega), er_58], rfl, hI⟩)
    · refine lv_tableIn (off := 44) (tgt := 62) hx hb dX7_ofDot_18 (by rw [zi_toInt ⟨by omega, by omega⟩]; omega) (by rw [zi_toInt ⟨by omega, by omega⟩]; omega) (by rw [zi_toInt ⟨by omega, by omega⟩, c9]; rfl) (by decide) ?_
      refine lv_aload_n hx hb dX7_ofDot_62 rfl (lv_at hl 0 rfl) ?_
      refine va_get (D := D) (ci := 7) (v := .ref (ad 1)) (C := RX7) (T := TX7) (N := 6) hx hb hts in_X7_ofDot_7 hown hK.1 hP 0 rfl rfl 0 (by decide) (hts _ lk_X7_ofDot_10) (fun _ h9 => h9) rfl dX7_ofDot_63 ?_
      refine lv_iload_n hx hb dX7_ofDot_66 rfl (lv_at hl 1 rfl) ?_
      refine zk_r (zc_V (As := [.int (zi x0)]) (rest := []) ⟨hx, hb, hml, hown, hts⟩ (ct_X6_lightOf l D cI cZ cJ ad S hI x0 ⟨by omega, by omega⟩) (cwV 1 hts gX7_ofDot_X6_lightOf rfl rfl rfl (by decide +kernel) ⟨Nat.le_of_ble_eq_true rfl, Nat.le_of_ble_eq_true rfl⟩) hK hP (q0 := 1) (ci := 6) rfl rfl rfl rfl hl.1 rfl (Nat.le_of_ble_eq_true rfl) dX7_ofDot_67 ⟨by decide, by decide⟩) ?_
      refine zi_top (fun (r_67 : Int) (er_67 : r_67 = lOf S x0) => ?_)
      have fr_67 : (0 : Int) ≤ r_67 ∧ r_67 ≤ 99 := by rw [er_67]; exact lOf_b hI x0
      exact xr_wi (T := S) hx hb hr hlocks dX7_ofDot_70 hP hS ⟨by decide, by decide⟩ (by exact ⟨hc_8, hc_14, by rw [if_neg (by omega), if_neg (by omega), if_pos (by omega), er_67], rfl, hI⟩)
