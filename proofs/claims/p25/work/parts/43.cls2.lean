theorem in_X7_part_7 : ∀ w ∈ wsX70, w ∈ wsX7_part := by decide +kernel
theorem lk_X7_part_19 : Cond.fieldLink RX7 19 "PlanetoidDesk" "bodies" "LPlanetoidDesk$Bodies;" ∈ wsX7_part := by decide +kernel
theorem in_X7_part_0 : ∀ w ∈ wsX00, w ∈ wsX7_part := by decide +kernel
theorem af_X7_part_63 : ∀ w ∈ (vx_atS RX7 63 xISE xNS).filter goodWord, w ∈ wsX7_part := by decide +kernel
theorem cl59_X7_part : Cond.classLink RX7 59 xISE ∈ wsX7_part := by decide +kernel
theorem ini59_X7_part : Cond.initialized xISE ∈ wsX7_part := by decide +kernel
abbrev rmct_X7_part : Room := { frames := 7, cells := 2, slots := 12, locals := 103 }
set_option maxHeartbeats 4000000 in
set_option maxRecDepth 100000 in
theorem ct_X7_part (l : Launch) (hst : l.stackTraces = false) (D : va_G) (cI cZ cJ : ClassId) (sa : Nat → Nat) (ad : Nat → Nat) (S : ZS) (hI : CI S) (hdis : dDis ad) (x0 : Int) (hx0 : ir x0)  : vx_Met l yX7_part wsX7_part rmct_X7_part (va_Pc [.ref (ad 0), .int (zi x0)] (fun U => va_P D vwCl (dW cI ad S) U.heap ∧ KK D cI cZ cJ U ∧ xP sa (dA ad) U U.heap)) (zWi D (dW cI ad) (dA ad) (fun r T => (0 ≤ x0 ∧ x0 < S 23 0) ∧ (¬ lateN S x0 = -1) ∧ r = (lateN S x0) ∧ T = su S 8 (rPut 20 (S 8) (lateN S x0) (-1)) ∧ CI T)) (xX D cI ad (fun E T => ((¬ (0 ≤ x0 ∧ x0 < S 23 0) ∧ E = xIOB) ∨ ((0 ≤ x0 ∧ x0 < S 23 0) ∧ ¬ (¬ lateN S x0 = -1) ∧ E = xISE)) ∧ SC S T ∧ CI T)) 2 12 (dA ad) := by
  refine vx_ofW (cc := cX7_part) (maxL := 3) (ret := (some .int)) (by decide) rfl ?_
  intro p e s m args below meth c s₁ B hml htab hv
  obtain ⟨rfl, hP, hK, hX⟩ := hv
  have hx := B.exec
  have hb := B.bytes
  have hr := B.returns
  have hts := atoms_spec (ws := wsX7_part) B.pre
  have hown : s.vm.findClass RX7 = some m.cls := findClass_of_methodNamed B.named
  have hlocks := B.notSynchronized
  have hl := lv_entry ([.ref (ad 0), .int (zi x0)]) (n := 3) (Nat.le_of_ble_eq_true rfl)
  rw [lg_entry_eq]
  generalize (lg_sl ([.ref (ad 0), .int (zi x0)]) ++ List.replicate (3 - (lg_sl ([.ref (ad 0), .int (zi x0)])).length) Slot.unset).toArray = ls at hl ⊢
  have hl : lv_has ls 3 [(0, .ref (ad 0)), (1, .int (zi x0))] := hl
  have hS : va_S (dA ad) s.heap s.heap [] := va_S.rf
  show W p l e rmct_X7_part s m ([.ref (ad 0), .int (zi x0)] : List Value).toArray below meth c s.heap [] 0 0 (vx_MQ below (zWi D (dW cI ad) (dA ad) (fun r T => (0 ≤ x0 ∧ x0 < S 23 0) ∧ (¬ lateN S x0 = -1) ∧ r = (lateN S x0) ∧ T = su S 8 (rPut 20 (S 8) (lateN S x0) (-1)) ∧ CI T)) (xX D cI ad (fun E T => ((¬ (0 ≤ x0 ∧ x0 < S 23 0) ∧ E = xIOB) ∨ ((0 ≤ x0 ∧ x0 < S 23 0) ∧ ¬ (¬ lateN S x0 = -1) ∧ E = xISE)) ∧ SC S T ∧ CI T)) ([.ref (ad 0), .int (zi x0)] : List Value).toArray s 2 12 (dA ad)) (F0 m 0 ls [])
  refine lv_iload_n hx hb dX7_part_0 rfl (lv_at hl 1 rfl) ?_
  refine lv_aload_n hx hb dX7_part_1 rfl (lv_at hl 0 rfl) ?_
  refine va_get (D := D) (ci := 7) (v := .ref (ad 2)) (C := RX7) (T := TX7) (N := 6) hx hb hts in_X7_part_7 hown hK.1 hP 0 rfl rfl 1 (by decide) (hts _ lk_X7_part_19) (fun _ h9 => h9) rfl dX7_part_2 ?_
  refine va_getN (D := D) (ci := 0) (v := .int (zi (S 23 0))) (C := RX0) (T := TX0) (N := 8) hx hb hts in_X7_part_0 hown hK.1 hP 2 rfl rfl 5 (by decide) (va_Nw.use rfl (hK.2 _ (List.mem_of_getElem? (i := 0) rfl))) (fun _ h9 => h9) rfl dX7_part_5 ?_
  have f_5 : (0 : Int) ≤ S 23 0 ∧ S 23 0 ≤ 20 := hI 23 0
  refine xc_chk (As := [.int (zi x0), .int (zi (S 23 0))]) (rest := []) (S0 := S) ⟨hx, hb, hml, hown, hts⟩ (ct_X7_needOneOf l hst x0 (S 23 0) ⟨by omega, by omega⟩ ⟨by omega, by omega⟩) (va_cwS 2 hts gX7_part_X7_needOneOf rfl rfl rfl (by decide +kernel) ⟨Nat.le_of_ble_eq_true rfl, Nat.le_of_ble_eq_true rfl⟩) hX hS hP htab hlocks rfl hl.1 rfl (Nat.le_of_ble_eq_true rfl) dX7_part_8 ⟨by decide, by decide⟩ ⟨by decide, by decide⟩ (fun hn_8 => ⟨Or.inl ⟨hn_8, rfl⟩, SC.rf, hI⟩) (fun hc_8 H locs hP hS => ?_)
  refine lv_aload_n hx hb dX7_part_11 rfl (lv_at hl 0 rfl) ?_
  refine va_get (D := D) (ci := 7) (v := .ref (ad 2)) (C := RX7) (T := TX7) (N := 6) hx hb hts in_X7_part_7 hown hK.1 hP 0 rfl rfl 1 (by decide) (hts _ lk_X7_part_19) (fun _ h9 => h9) rfl dX7_part_12 ?_
  refine lv_iload_n hx hb dX7_part_15 rfl (lv_at hl 1 rfl) ?_
  refine zk_r (zc_V (As := [.int (zi x0)]) (rest := []) ⟨hx, hb, hml, hown, hts⟩ (ct_X0_latestJoinedTo l D cI cZ cJ ad S hI x0 ⟨by omega, by omega⟩) (cwV 1 hts gX7_part_X0_latestJoinedTo rfl rfl rfl (by decide +kernel) ⟨Nat.le_of_ble_eq_true rfl, Nat.le_of_ble_eq_true rfl⟩) hK hP (q0 := 2) (ci := 0) rfl rfl rfl rfl hl.1 rfl (Nat.le_of_ble_eq_true rfl) dX7_part_16 ⟨by decide, by decide⟩) ?_
  refine zi_top (fun (r_16 : Int) (er_16 : r_16 = lateN S x0) => ?_)
  have fr_16 : (-1 : Int) ≤ r_16 ∧ r_16 ≤ 19 := by rw [er_16]; exact lateN_b hI _
  refine lv_istore_n (lv' := [(2, .int (zi r_16)), (0, .ref (ad 0)), (1, .int (zi x0))]) hx hb dX7_part_19 rfl hl (by decide) rfl (fun ls hl => ?_)
  refine lv_iload_n hx hb dX7_part_20 rfl (lv_at hl 0 rfl) ?_
  refine zi_iconst hx hb dX7_part_21 ?_
  refine zi_icmp_ne (tgt := 35) hx hb ⟨by omega, by omega⟩ ⟨by decide, by decide⟩ dX7_part_22 (by decide) (fun c_22 => ?_) (fun c_22 => ?_)
  · refine lv_aload_n hx hb dX7_part_35 rfl (lv_at hl 1 rfl) ?_
    refine va_get (D := D) (ci := 7) (v := .ref (ad 2)) (C := RX7) (T := TX7) (N := 6) hx hb hts in_X7_part_7 hown hK.1 hP 0 rfl rfl 1 (by decide) (hts _ lk_X7_part_19) (fun _ h9 => h9) rfl dX7_part_36 ?_
    refine lv_iload_n hx hb dX7_part_39 rfl (lv_at hl 0 rfl) ?_
    refine zk_wv (zc_V (As := [.int (zi r_16)]) (rest := []) ⟨hx, hb, hml, hown, hts⟩ (ct_X0_free l D cI cZ cJ ad S hI hdis r_16 ⟨by omega, by omega⟩) (cwV 1 hts gX7_part_X0_free rfl rfl rfl (by decide +kernel) ⟨Nat.le_of_ble_eq_true rfl, Nat.le_of_ble_eq_true rfl⟩) hK hP (q0 := 2) (ci := 0) rfl rfl rfl rfl hl.1 rfl (Nat.le_of_ble_eq_true rfl) dX7_part_40 ⟨by decide, by decide⟩) hS (fun S_40 H locs hp_40 hP hS => ?_)
    obtain ⟨e9, hI_40⟩ := hp_40
    have eS_40 := e9.symm; clear e9
    refine lv_iload_n hx hb dX7_part_43 rfl (lv_at hl 0 rfl) ?_
    exact xr_wi (T := S_40) hx hb hr hlocks dX7_part_44 hP hS ⟨by decide, by decide⟩ (by exact ⟨hc_8, (fun h9 => c_22 (er_16.trans h9)), er_16, by rw [← er_16]; exact eS_40.symm, hI_40⟩)
  · exact vx_throwS hx hb hst hown (by decide) xNS_fit (hts _ cl59_X7_part) (hts _ ini59_X7_part) (hX.2.2.1 10 (156, "no body is joined to it") rfl) (xB_in (n := 0) (cls := xISE) sub_63 hX (fun w hw => hts w (af_X7_part_63 w hw))) ot_63 hX.1 hX.2.1 hS (hl.1.trans hml.symm) dX7_part_25 dX7_part_28 dX7_part_29 dX7_part_31 dX7_part_34 (fun x h9 => (htab x h9).elim) (by decide) (by decide) (by decide) (by decide) hlocks (xx_thr hP hS (⟨Or.inr (⟨hc_8, (fun h9 => h9 (er_16.symm.trans c_22)), rfl⟩), SC.rf, hI⟩)) (fun z hz => hS.2.2 z hz) (by decide) (by decide)

theorem in_X7_link_7 : ∀ w ∈ wsX70, w ∈ wsX7_link := by decide +kernel
theorem lk_X7_link_19 : Cond.fieldLink RX7 19 "PlanetoidDesk" "bodies" "LPlanetoidDesk$Bodies;" ∈ wsX7_link := by decide +kernel
theorem in_X7_link_0 : ∀ w ∈ wsX00, w ∈ wsX7_link := by decide +kernel
theorem lk_X7_link_10 : Cond.fieldLink RX7 10 "PlanetoidDesk" "sky" "LPlanetoidDesk$Sky;" ∈ wsX7_link := by decide +kernel
theorem in_X7_link_6 : ∀ w ∈ wsX60, w ∈ wsX7_link := by decide +kernel
theorem af_X7_link_63 : ∀ w ∈ (vx_atS RX7 63 xISE xNS).filter goodWord, w ∈ wsX7_link := by decide +kernel
theorem cl59_X7_link : Cond.classLink RX7 59 xISE ∈ wsX7_link := by decide +kernel
theorem ini59_X7_link : Cond.initialized xISE ∈ wsX7_link := by decide +kernel
abbrev rmct_X7_link : Room := { frames := 7, cells := 3, slots := 18, locals := 116 }
set_option maxHeartbeats 4000000 in
set_option maxRecDepth 100000 in
theorem ct_X7_link (l : Launch) (hst : l.stackTraces = false) (D : va_G) (cI cZ cJ : ClassId) (sa : Nat → Nat) (ad : Nat → Nat) (S : ZS) (hI : CI S) (hdis : dDis ad) (x0 x1 : Int) (hx0 : ir x0) (hx1 : ir x1)  : vx_Met l yX7_link wsX7_link rmct_X7_link (va_Pc [.ref (ad 0), .int (zi x0), .int (zi x1)] (fun U => va_P D vwCl (dW cI ad S) U.heap ∧ KK D cI cZ cJ U ∧ xP sa (dA ad) U U.heap)) (zWi D (dW cI ad) (dA ad) (fun r T => (0 ≤ x0 ∧ x0 < S 23 0) ∧ (0 ≤ x1 ∧ x1 < S 22 0) ∧ (takeP (findO x0 S) x0 x1) ∧ r = (gatherL x0 (su (findO x0 S) 7 (rPut 60 (findO x0 S 7) x1 x0)) 26 0) ∧ T = gatherL x0 (su (findO x0 S) 7 (rPut 60 (findO x0 S 7) x1 x0)) ∧ CI T)) (xX D cI ad (fun E T => ((¬ (0 ≤ x0 ∧ x0 < S 23 0) ∧ E = xIOB) ∨ ((0 ≤ x0 ∧ x0 < S 23 0) ∧ ¬ (0 ≤ x1 ∧ x1 < S 22 0) ∧ E = xIOB) ∨ ((0 ≤ x0 ∧ x0 < S 23 0) ∧ (0 ≤ x1 ∧ x1 < S 22 0) ∧ ¬ (takeP (findO x0 S) x0 x1) ∧ E = xISE)) ∧ SC S T ∧ CI T)) 3 18 (dA ad) := by
  refine vx_ofW (cc := cX7_link) (maxL := 3) (ret := (some .int)) (by decide) rfl ?_
  intro p e s m args below meth c s₁ B hml htab hv
  obtain ⟨rfl, hP, hK, hX⟩ := hv
  have hx := B.exec
  have hb := B.bytes
  have hr := B.returns
  have hts := atoms_spec (ws := wsX7_link) B.pre
  have hown : s.vm.findClass RX7 = some m.cls := findClass_of_methodNamed B.named
  have hlocks := B.notSynchronized
  have hl := lv_entry ([.ref (ad 0), .int (zi x0), .int (zi x1)]) (n := 3) (Nat.le_of_ble_eq_true rfl)
  rw [lg_entry_eq]
  generalize (lg_sl ([.ref (ad 0), .int (zi x0), .int (zi x1)]) ++ List.replicate (3 - (lg_sl ([.ref (ad 0), .int (zi x0), .int (zi x1)])).length) Slot.unset).toArray = ls at hl ⊢
  have hl : lv_has ls 3 [(0, .ref (ad 0)), (1, .int (zi x0)), (2, .int (zi x1))] := hl
  have hS : va_S (dA ad) s.heap s.heap [] := va_S.rf
  show W p l e rmct_X7_link s m ([.ref (ad 0), .int (zi x0), .int (zi x1)] : List Value).toArray below meth c s.heap [] 0 0 (vx_MQ below (zWi D (dW cI ad) (dA ad) (fun r T => (0 ≤ x0 ∧ x0 < S 23 0) ∧ (0 ≤ x1 ∧ x1 < S 22 0) ∧ (takeP (findO x0 S) x0 x1) ∧ r = (gatherL x0 (su (findO x0 S) 7 (rPut 60 (findO x0 S 7) x1 x0)) 26 0) ∧ T = gatherL x0 (su (findO x0 S) 7 (rPut 60 (findO x0 S 7) x1 x0)) ∧ CI T)) (xX D cI ad (fun E T => ((¬ (0 ≤ x0 ∧ x0 < S 23 0) ∧ E = xIOB) ∨ ((0 ≤ x0 ∧ x0 < S 23 0) ∧ ¬ (0 ≤ x1 ∧ x1 < S 22 0) ∧ E = xIOB) ∨ ((0 ≤ x0 ∧ x0 < S 23 0) ∧ (0 ≤ x1 ∧ x1 < S 22 0) ∧ ¬ (takeP (findO x0 S) x0 x1) ∧ E = xISE)) ∧ SC S T ∧ CI T)) ([.ref (ad 0), .int (zi x0), .int (zi x1)] : List Value).toArray s 3 18 (dA ad)) (F0 m 0 ls [])
  refine lv_iload_n hx hb dX7_link_0 rfl (lv_at hl 1 rfl) ?_
  refine lv_aload_n hx hb dX7_link_1 rfl (lv_at hl 0 rfl) ?_
  refine va_get (D := D) (ci := 7) (v := .ref (ad 2)) (C := RX7) (T := TX7) (N := 6) hx hb hts in_X7_link_7 hown hK.1 hP 0 rfl rfl 1 (by decide) (hts _ lk_X7_link_19) (fun _ h9 => h9) rfl dX7_link_2 ?_
  refine va_getN (D := D) (ci := 0) (v := .int (zi (S 23 0))) (C := RX0) (T := TX0) (N := 8) hx hb hts in_X7_link_0 hown hK.1 hP 2 rfl rfl 5 (by decide) (va_Nw.use rfl (hK.2 _ (List.mem_of_getElem? (i := 0) rfl))) (fun _ h9 => h9) rfl dX7_link_5 ?_
  have f_5 : (0 : Int) ≤ S 23 0 ∧ S 23 0 ≤ 20 := hI 23 0
  refine xc_chk (As := [.int (zi x0), .int (zi (S 23 0))]) (rest := []) (S0 := S) ⟨hx, hb, hml, hown, hts⟩ (ct_X7_needOneOf l hst x0 (S 23 0) ⟨by omega, by omega⟩ ⟨by omega, by omega⟩) (va_cwS 2 hts gX7_link_X7_needOneOf rfl rfl rfl (by decide +kernel) ⟨Nat.le_of_ble_eq_true rfl, Nat.le_of_ble_eq_true rfl⟩) hX hS hP htab hlocks rfl hl.1 rfl (Nat.le_of_ble_eq_true rfl) dX7_link_8 ⟨by decide, by decide⟩ ⟨by decide, by decide⟩ (fun hn_8 => ⟨Or.inl ⟨hn_8, rfl⟩, SC.rf, hI⟩) (fun hc_8 H locs hP hS => ?_)
  refine lv_iload_n hx hb dX7_link_11 rfl (lv_at hl 2 rfl) ?_
  refine lv_aload_n hx hb dX7_link_12 rfl (lv_at hl 0 rfl) ?_
  refine va_get (D := D) (ci := 7) (v := .ref (ad 1)) (C := RX7) (T := TX7) (N := 6) hx hb hts in_X7_link_7 hown hK.1 hP 0 rfl rfl 0 (by decide) (hts _ lk_X7_link_10) (fun _ h9 => h9) rfl dX7_link_13 ?_
  refine va_getN (D := D) (ci := 6) (v := .int (zi (S 22 0))) (C := RX6) (T := TX6) (N := 10) hx hb hts in_X7_link_6 hown hK.1 hP 1 rfl rfl 9 (by decide) (va_Nw.use rfl (hK.2 _ (List.mem_of_getElem? (i := 6) rfl))) (fun _ h9 => h9) rfl dX7_link_16 ?_
  have f_16 : (0 : Int) ≤ S 22 0 ∧ S 22 0 ≤ 60 := hI 22 0
  refine xc_chk (As := [.int (zi x1), .int (zi (S 22 0))]) (rest := []) (S0 := S) ⟨hx, hb, hml, hown, hts⟩ (ct_X7_needOneOf l hst x1 (S 22 0) ⟨by omega, by omega⟩ ⟨by omega, by omega⟩) (va_cwS 2 hts gX7_link_X7_needOneOf rfl rfl rfl (by decide +kernel) ⟨Nat.le_of_ble_eq_true rfl, Nat.le_of_ble_eq_true rfl⟩) hX hS hP htab hlocks rfl hl.1 rfl (Nat.le_of_ble_eq_true rfl) dX7_link_19 ⟨by decide, by decide⟩ ⟨by decide, by decide⟩ (fun hn_19 => ⟨Or.inr (Or.inl ⟨hc_8, hn_19, rfl⟩), SC.rf, hI⟩) (fun hc_19 H locs hP hS => ?_)
  refine lv_aload_n hx hb dX7_link_22 rfl (lv_at hl 0 rfl) ?_
  refine lv_iload_n hx hb dX7_link_23 rfl (lv_at hl 1 rfl) ?_
  refine zk_wv (zc_V (As := [.int (zi x0)]) (rest := []) ⟨hx, hb, hml, hown, hts⟩ (ct_X7_findOrbits l D cI cZ cJ ad S hI hdis x0 ⟨by omega, by omega⟩) (cwV 1 hts gX7_link_X7_findOrbits rfl rfl rfl (by decide +kernel) ⟨Nat.le_of_ble_eq_true rfl, Nat.le_of_ble_eq_true rfl⟩) hK hP (q0 := 0) (ci := 7) rfl rfl rfl rfl hl.1 rfl (Nat.le_of_ble_eq_true rfl) dX7_link_24 ⟨by decide, by decide⟩) hS (fun S_24 H locs hp_24 hP hS => ?_)
  obtain ⟨e9, hI_24⟩ := hp_24
  have eS_24 := e9.symm; clear e9
  refine lv_aload_n hx hb dX7_link_27 rfl (lv_at hl 0 rfl) ?_
  refine lv_iload_n hx hb dX7_link_28 rfl (lv_at hl 1 rfl) ?_
  refine lv_iload_n hx hb dX7_link_29 rfl (lv_at hl 2 rfl) ?_
  refine zk_r (zc_V (As := [.int (zi x0), .int (zi x1)]) (rest := []) ⟨hx, hb, hml, hown, hts⟩ (ct_X7_canTake l D cI cZ cJ ad S_24 hI_24 x0 x1 ⟨by omega, by omega⟩ ⟨by omega, by omega⟩) (cwV 2 hts gX7_link_X7_canTake rfl rfl rfl (by decide +kernel) ⟨Nat.le_of_ble_eq_true rfl, Nat.le_of_ble_eq_true rfl⟩) hK hP (q0 := 0) (ci := 7) rfl rfl rfl rfl hl.1 rfl (Nat.le_of_ble_eq_true rfl) dX7_link_30 ⟨by decide, by decide⟩) ?_
  refine zi_top (fun (r_30 : Int) (er_30 : r_30 = b2 (takeP S_24 x0 x1)) => ?_)
  have fr_30 : (0 : Int) ≤ r_30 ∧ r_30 ≤ 1 := by rw [er_30]; exact b2_b
  refine zi_if_ne (tgt := 46) hx hb ⟨by omega, by omega⟩ dX7_link_33 (by decide) (fun c_33 => ?_) (fun c_33 => ?_)
  · refine lv_aload_n hx hb dX7_link_46 rfl (lv_at hl 0 rfl) ?_
    refine va_get (D := D) (ci := 7) (v := .ref (ad 2)) (C := RX7) (T := TX7) (N := 6) hx hb hts in_X7_link_7 hown hK.1 hP 0 rfl rfl 1 (by decide) (hts _ lk_X7_link_19) (fun _ h9 => h9) rfl dX7_link_47 ?_
    refine lv_iload_n hx hb dX7_link_50 rfl (lv_at hl 1 rfl) ?_
    refine lv_iload_n hx hb dX7_link_51 rfl (lv_at hl 2 rfl) ?_
    refine zk_wv (zc_V (As := [.int (zi x0), .int (zi x1)]) (rest := []) ⟨hx, hb, hml, hown, hts⟩ (ct_X0_own l D cI cZ cJ ad S_24 hI_24 hdis x0 x1 ⟨by omega, by omega⟩ ⟨by omega, by omega⟩ (by omega) (by omega)) (cwV 2 hts gX7_link_X0_own rfl rfl rfl (by decide +kernel) ⟨Nat.le_of_ble_eq_true rfl, Nat.le_of_ble_eq_true rfl⟩) hK hP (q0 := 2) (ci := 0) rfl rfl rfl rfl hl.1 rfl (Nat.le_of_ble_eq_true rfl) dX7_link_52 ⟨by decide, by decide⟩) hS (fun S_52 H locs hp_52 hP hS => ?_)
    obtain ⟨e9, hI_52⟩ := hp_52
    have eS_52 := e9.symm; clear e9
    refine lv_aload_n hx hb dX7_link_55 rfl (lv_at hl 0 rfl) ?_
    refine lv_iload_n hx hb dX7_link_56 rfl (lv_at hl 1 rfl) ?_
    refine zk_wi (zc_V (As := [.int (zi x0)]) (rest := []) ⟨hx, hb, hml, hown, hts⟩ (ct_X7_countLooks l D cI cZ cJ ad S_52 hI_52 hdis x0 ⟨by omega, by omega⟩) (cwV 1 hts gX7_link_X7_countLooks rfl rfl rfl (by decide +kernel) ⟨Nat.le_of_ble_eq_true rfl, Nat.le_of_ble_eq_true rfl⟩) hK hP (q0 := 0) (ci := 7) rfl rfl rfl rfl hl.1 rfl (Nat.le_of_ble_eq_true rfl) dX7_link_57 ⟨by decide, by decide⟩) hS (fun r_57 S_57 H locs hp_57 hP hS => ?_)
    obtain ⟨er_57, e9, hI_57⟩ := hp_57
    have eS_57 := e9.symm; clear e9
    have fr_57 : (0 : Int) ≤ r_57 ∧ r_57 ≤ 60 := by rw [er_57]; have h9 := hI_57 26 0; rw [← eS_57] at h9; exact h9
    exact xr_wi (T := S_57) hx hb hr hlocks dX7_link_60 hP hS ⟨by decide, by decide⟩ (by exact ⟨hc_8, hc_19, by rw [eS_24]; exact b2_1 er_30 c_33, by rw [er_57, eS_24, eS_52], by rw [eS_24, eS_52]; exact eS_57.symm, hI_57⟩)
  · exact vx_throwS hx hb hst hown (by decide) xNS_fit (hts _ cl59_X7_link) (hts _ ini59_X7_link) (hX.2.2.1 7 (129, "the dot cannot be linked to the body") rfl) (xB_in (n := 0) (cls := xISE) sub_63 hX (fun w hw => hts w (af_X7_link_63 w hw))) ot_63 hX.1 hX.2.1 hS (hl.1.trans hml.symm) dX7_link_36 dX7_link_39 dX7_link_40 dX7_link_42 dX7_link_45 (fun x h9 => (htab x h9).elim) (by decide) (by decide) (by decide) (by decide) hlocks (xx_thr hP hS (⟨Or.inr (Or.inr (⟨hc_8, hc_19, (by rw [eS_24]; exact b2_0 er_30 c_33), rfl⟩)), by rw [← eS_24]; exact SC_fo, hI_24⟩)) (fun z hz => hS.2.2 z hz) (by decide) (by decide)

theorem in_X7_orbits_7 : ∀ w ∈ wsX70, w ∈ wsX7_orbits := by decide +kernel
theorem lk_X7_orbits_19 : Cond.fieldLink RX7 19 "PlanetoidDesk" "bodies" "LPlanetoidDesk$Bodies;" ∈ wsX7_orbits := by decide +kernel
theorem in_X7_orbits_0 : ∀ w ∈ wsX00, w ∈ wsX7_orbits := by decide +kernel
theorem lk_X7_orbits_33 : Cond.fieldLink RX7 33 "PlanetoidDesk" "fitting" "LPlanetoidDesk$Orbits;" ∈ wsX7_orbits := by decide +kernel
abbrev rmct_X7_orbits : Room := { frames := 7, cells := 2, slots := 12, locals := 116 }
set_option maxHeartbeats 4000000 in
set_option maxRecDepth 100000 in
theorem ct_X7_orbits (l : Launch) (hst : l.stackTraces = false) (D : va_G) (cI cZ cJ : ClassId) (sa : Nat → Nat) (ad : Nat → Nat) (S : ZS) (hI : CI S) (hdis : dDis ad) (x0 : Int) (hx0 : ir x0)  : vx_Met l yX7_orbits wsX7_orbits rmct_X7_orbits (va_Pc [.ref (ad 0), .int (zi x0)] (fun U => va_P D vwCl (dW cI ad S) U.heap ∧ KK D cI cZ cJ U ∧ xP sa (dA ad) U U.heap)) (zWi D (dW cI ad) (dA ad) (fun r T => (0 ≤ x0 ∧ x0 < S 23 0) ∧ r = (cntO (findO x0 S)) ∧ T = findO x0 S ∧ CI T)) (xX D cI ad (fun E T => ((¬ (0 ≤ x0 ∧ x0 < S 23 0) ∧ E = xIOB)) ∧ SC S T ∧ CI T)) 2 12 (dA ad) := by
  refine vx_ofW (cc := cX7_orbits) (maxL := 2) (ret := (some .int)) (by decide) rfl ?_
  intro p e s m args below meth c s₁ B hml htab hv
  obtain ⟨rfl, hP, hK, hX⟩ := hv
  have hx := B.exec
  have hb := B.bytes
  have hr := B.returns
  have hts := atoms_spec (ws := wsX7_orbits) B.pre
  have hown : s.vm.findClass RX7 = some m.cls := findClass_of_methodNamed B.named
  have hlocks := B.notSynchronized
  have hl := lv_entry ([.ref (ad 0), .int (zi x0)]) (n := 2) (Nat.le_of_ble_eq_true rfl)
  rw [lg_entry_eq]
  generalize (lg_sl ([.ref (ad 0), .int (zi x0)]) ++ List.replicate (2 - (lg_sl ([.ref (ad 0), .int (zi x0)])).length) Slot.unset).toArray = ls at hl ⊢
  have hl : lv_has ls 2 [(0, .ref (ad 0)), (1, .int (zi x0))] := hl
  have hS : va_S (dA ad) s.heap s.heap [] := va_S.rf
  show W p l e rmct_X7_orbits s m ([.ref (ad 0), .int (zi x0)] : List Value).toArray below meth c s.heap [] 0 0 (vx_MQ below (zWi D (dW cI ad) (dA ad) (fun r T => (0 ≤ x0 ∧ x0 < S 23 0) ∧ r = (cntO (findO x0 S)) ∧ T = findO x0 S ∧ CI T)) (xX D cI ad (fun E T => ((¬ (0 ≤ x0 ∧ x0 < S 23 0) ∧ E = xIOB)) ∧ SC S T ∧ CI T)) ([.ref (ad 0), .int (zi x0)] : List Value).toArray s 2 12 (dA ad)) (F0 m 0 ls [])
  refine lv_iload_n hx hb dX7_orbits_0 rfl (lv_at hl 1 rfl) ?_
  refine lv_aload_n hx hb dX7_orbits_1 rfl (lv_at hl 0 rfl) ?_
  refine va_get (D := D) (ci := 7) (v := .ref (ad 2)) (C := RX7) (T := TX7) (N := 6) hx hb hts in_X7_orbits_7 hown hK.1 hP 0 rfl rfl 1 (by decide) (hts _ lk_X7_orbits_19) (fun _ h9 => h9) rfl dX7_orbits_2 ?_
  refine va_getN (D := D) (ci := 0) (v := .int (zi (S 23 0))) (C := RX0) (T := TX0) (N := 8) hx hb hts in_X7_orbits_0 hown hK.1 hP 2 rfl rfl 5 (by decide) (va_Nw.use rfl (hK.2 _ (List.mem_of_getElem? (i := 0) rfl))) (fun _ h9 => h9) rfl dX7_orbits_5 ?_
  have f_5 : (0 : Int) ≤ S 23 0 ∧ S 23 0 ≤ 20 := hI 23 0
  refine xc_chk (As := [.int (zi x0), .int (zi (S 23 0))]) (rest := []) (S0 := S) ⟨hx, hb, hml, hown, hts⟩ (ct_X7_needOneOf l hst x0 (S 23 0) ⟨by omega, by omega⟩ ⟨by omega, by omega⟩) (va_cwS 2 hts gX7_orbits_X7_needOneOf rfl rfl rfl (by decide +kernel) ⟨Nat.le_of_ble_eq_true rfl, Nat.le_of_ble_eq_true rfl⟩) hX hS hP htab hlocks rfl hl.1 rfl (Nat.le_of_ble_eq_true rfl) dX7_orbits_8 ⟨by decide, by decide⟩ ⟨by decide, by decide⟩ (fun hn_8 => ⟨⟨hn_8, rfl⟩, SC.rf, hI⟩) (fun hc_8 H locs hP hS => ?_)
  refine lv_aload_n hx hb dX7_orbits_11 rfl (lv_at hl 0 rfl) ?_
  refine lv_iload_n hx hb dX7_orbits_12 rfl (lv_at hl 1 rfl) ?_
  refine zk_wv (zc_V (As := [.int (zi x0)]) (rest := []) ⟨hx, hb, hml, hown, hts⟩ (ct_X7_findOrbits l D cI cZ cJ ad S hI hdis x0 ⟨by omega, by omega⟩) (cwV 1 hts gX7_orbits_X7_findOrbits rfl rfl rfl (by decide +kernel) ⟨Nat.le_of_ble_eq_true rfl, Nat.le_of_ble_eq_true rfl⟩) hK hP (q0 := 0) (ci := 7) rfl rfl rfl rfl hl.1 rfl (Nat.le_of_ble_eq_true rfl) dX7_orbits_13 ⟨by decide, by decide⟩) hS (fun S_13 H locs hp_13 hP hS => ?_)
  obtain ⟨e9, hI_13⟩ := hp_13
  have eS_13 := e9.symm; clear e9
  refine lv_aload_n hx hb dX7_orbits_16 rfl (lv_at hl 0 rfl) ?_
  refine va_get (D := D) (ci := 7) (v := .ref (ad 4)) (C := RX7) (T := TX7) (N := 6) hx hb hts in_X7_orbits_7 hown hK.1 hP 0 rfl rfl 3 (by decide) (hts _ lk_X7_orbits_33) (fun _ h9 => h9) rfl dX7_orbits_17 ?_
  refine zk_r (zc_V (As := []) (rest := []) ⟨hx, hb, hml, hown, hts⟩ (ct_X3_countOrbits l D cI cZ cJ ad S_13 hI_13  ) (cwV 0 hts gX7_orbits_X3_countOrbits rfl rfl rfl (by decide +kernel) ⟨Nat.le_of_ble_eq_true rfl, Nat.le_of_ble_eq_true rfl⟩) hK hP (q0 := 4) (ci := 3) rfl rfl rfl rfl hl.1 rfl (Nat.le_of_ble_eq_true rfl) dX7_orbits_20 ⟨by decide, by decide⟩) ?_
  refine zi_top (fun (r_20 : Int) (er_20 : r_20 = cntO S_13) => ?_)
  have fr_20 : (0 : Int) ≤ r_20 ∧ r_20 ≤ 1458000 := by rw [er_20]; exact cntO_b hI_13
  exact xr_wi (T := S_13) hx hb hr hlocks dX7_orbits_23 hP hS ⟨by decide, by decide⟩ (by exact ⟨hc_8, by rw [er_20, eS_13], eS_13.symm, hI_13⟩)

theorem in_X7_spread_7 : ∀ w ∈ wsX70, w ∈ wsX7_spread := by decide +kernel
theorem lk_X7_spread_19 : Cond.fieldLink RX7 19 "PlanetoidDesk" "bodies" "LPlanetoidDesk$Bodies;" ∈ wsX7_spread := by decide +kernel
theorem in_X7_spread_0 : ∀ w ∈ wsX00, w ∈ wsX7_spread := by decide +kernel
theorem lk_X7_spread_33 : Cond.fieldLink RX7 33 "PlanetoidDesk" "fitting" "LPlanetoidDesk$Orbits;" ∈ wsX7_spread := by decide +kernel
abbrev rmct_X7_spread : Room := { frames := 7, cells := 3, slots := 18, locals := 116 }
set_option maxHeartbeats 4000000 in
set_option maxRecDepth 100000 in
theorem ct_X7_spread (l : Launch) (hst : l.stackTraces = false) (D : va_G) (cI cZ cJ : ClassId) (sa : Nat → Nat) (ad : Nat → Nat) (S : ZS) (hI : CI S) (hdis : dDis ad) (x0 x1 : Int) (hx0 : ir x0) (hx1 : ir x1)  : vx_Met l yX7_spread wsX7_spread rmct_X7_spread (va_Pc [.ref (ad 0), .int (zi x0), .int (zi x1)] (fun U => va_P D vwCl (dW cI ad S) U.heap ∧ KK D cI cZ cJ U ∧ xP sa (dA ad) U U.heap)) (zWi D (dW cI ad) (dA ad) (fun r T => (0 ≤ x0 ∧ x0 < S 23 0) ∧ (0 ≤ x1 ∧ x1 ≤ 999) ∧ r = (spreadN (tlAll x1 (findO x0 S))) ∧ T = tlAll x1 (findO x0 S) ∧ CI T)) (xX D cI ad (fun E T => ((¬ (0 ≤ x0 ∧ x0 < S 23 0) ∧ E = xIOB) ∨ ((0 ≤ x0 ∧ x0 < S 23 0) ∧ ¬ (0 ≤ x1 ∧ x1 ≤ 999) ∧ E = xIAE)) ∧ SC S T ∧ CI T)) 3 18 (dA ad) := by
  refine vx_ofW (cc := cX7_spread) (maxL := 3) (ret := (some .int)) (by decide) rfl ?_
  intro p e s m args below meth c s₁ B hml htab hv
  obtain ⟨rfl, hP, hK, hX⟩ := hv
  have hx := B.exec
  have hb := B.bytes
  have hr := B.returns
  have hts := atoms_spec (ws := wsX7_spread) B.pre
  have hown : s.vm.findClass RX7 = some m.cls := findClass_of_methodNamed B.named
  have hlocks := B.notSynchronized
  have hl := lv_entry ([.ref (ad 0), .int (zi x0), .int (zi x1)]) (n := 3) (Nat.le_of_ble_eq_true rfl)
  rw [lg_entry_eq]
  generalize (lg_sl ([.ref (ad 0), .int (zi x0), .int (zi x1)]) ++ List.replicate (3 - (lg_sl ([.ref (ad 0), .int (zi x0), .int (zi x1)])).length) Slot.unset).toArray = ls at hl ⊢
  have hl : lv_has ls 3 [(0, .ref (ad 0)), (1, .int (zi x0)), (2, .int (zi x1))] := hl
  have hS : va_S (dA ad) s.heap s.heap [] := va_S.rf
  show W p l e rmct_X7_spread s m ([.ref (ad 0), .int (zi x0), .int (zi x1)] : List Value).toArray below meth c s.heap [] 0 0 (vx_MQ below (zWi D (dW cI ad) (dA ad) (fun r T => (0 ≤ x0 ∧ x0 < S 23 0) ∧ (0 ≤ x1 ∧ x1 ≤ 999) ∧ r = (spreadN (tlAll x1 (findO x0 S))) ∧ T = tlAll x1 (findO x0 S) ∧ CI T)) (xX D cI ad (fun E T => ((¬ (0 ≤ x0 ∧ x0 < S 23 0) ∧ E = xIOB) ∨ ((0 ≤ x0 ∧ x0 < S 23 0) ∧ ¬ (0 ≤ x1 ∧ x1 ≤ 999) ∧ E = xIAE)) ∧ SC S T ∧ CI T)) ([.ref (ad 0), .int (zi x0), .int (zi x1)] : List Value).toArray s 3 18 (dA ad)) (F0 m 0 ls [])
  refine lv_iload_n hx hb dX7_spread_0 rfl (lv_at hl 1 rfl) ?_
  refine lv_aload_n hx hb dX7_spread_1 rfl (lv_at hl 0 rfl) ?_
  refine va_get (D := D) (ci := 7) (v := .ref (ad 2)) (C := RX7) (T := TX7) (N := 6) hx hb hts in_X7_spread_7 hown hK.1 hP 0 rfl rfl 1 (by decide) (hts _ lk_X7_spread_19) (fun _ h9 => h9) rfl dX7_spread_2 ?_
  refine va_getN (D := D) (ci := 0) (v := .int (zi (S 23 0))) (C := RX0) (T := TX0) (N := 8) hx hb hts in_X7_spread_0 hown hK.1 hP 2 rfl rfl 5 (by decide) (va_Nw.use rfl (hK.2 _ (List.mem_of_getElem? (i := 0) rfl))) (fun _ h9 => h9) rfl dX7_spread_5 ?_
  have f_5 : (0 : Int) ≤ S 23 0 ∧ S 23 0 ≤ 20 := hI 23 0
  refine xc_chk (As := [.int (zi x0), .int (zi (S 23 0))]) (rest := []) (S0 := S) ⟨hx, hb, hml, hown, hts⟩ (ct_X7_needOneOf l hst x0 (S 23 0) ⟨by omega, by omega⟩ ⟨by omega, by omega⟩) (va_cwS 2 hts gX7_spread_X7_needOneOf rfl rfl rfl (by decide +kernel) ⟨Nat.le_of_ble_eq_true rfl, Nat.le_of_ble_eq_true rfl⟩) hX hS hP htab hlocks rfl hl.1 rfl (Nat.le_of_ble_eq_true rfl) dX7_spread_8 ⟨by decide, by decide⟩ ⟨by decide, by decide⟩ (fun hn_8 => ⟨Or.inl ⟨hn_8, rfl⟩, SC.rf, hI⟩) (fun hc_8 H locs hP hS => ?_)
  refine lv_iload_n hx hb dX7_spread_11 rfl (lv_at hl 2 rfl) ?_
  refine zi_iconst hx hb dX7_spread_12 ?_
  refine zi_sipush hx hb dX7_spread_13 (by decide) ?_
  refine xc_chk (As := [.int (zi x1), .int (zi 0), .int (zi 999)]) (rest := []) (S0 := S) ⟨hx, hb, hml, hown, hts⟩ (ct_X7_needWithin l hst x1 0 999 ⟨by omega, by omega⟩ ⟨by decide, by decide⟩ ⟨by decide, by decide⟩) (va_cwS 3 hts gX7_spread_X7_needWithin rfl rfl rfl (by decide +kernel) ⟨Nat.le_of_ble_eq_true rfl, Nat.le_of_ble_eq_true rfl⟩) hX hS hP htab hlocks rfl hl.1 rfl (Nat.le_of_ble_eq_true rfl) dX7_spread_16 ⟨by decide, by decide⟩ ⟨by decide, by decide⟩ (fun hn_16 => ⟨Or.inr (⟨hc_8, hn_16, rfl⟩), SC.rf, hI⟩) (fun hc_16 H locs hP hS => ?_)
  refine lv_aload_n hx hb dX7_spread_19 rfl (lv_at hl 0 rfl) ?_
  refine lv_iload_n hx hb dX7_spread_20 rfl (lv_at hl 1 rfl) ?_
  refine zk_wv (zc_V (As := [.int (zi x0)]) (rest := []) ⟨hx, hb, hml, hown, hts⟩ (ct_X7_findOrbits l D cI cZ cJ ad S hI hdis x0 ⟨by omega, by omega⟩) (cwV 1 hts gX7_spread_X7_findOrbits rfl rfl rfl (by decide +kernel) ⟨Nat.le_of_ble_eq_true rfl, Nat.le_of_ble_eq_true rfl⟩) hK hP (q0 := 0) (ci := 7) rfl rfl rfl rfl hl.1 rfl (Nat.le_of_ble_eq_true rfl) dX7_spread_21 ⟨by decide, by decide⟩) hS (fun S_21 H locs hp_21 hP hS => ?_)
  obtain ⟨e9, hI_21⟩ := hp_21
  have eS_21 := e9.symm; clear e9
  refine lv_aload_n hx hb dX7_spread_24 rfl (lv_at hl 0 rfl) ?_
  refine va_get (D := D) (ci := 7) (v := .ref (ad 4)) (C := RX7) (T := TX7) (N := 6) hx hb hts in_X7_spread_7 hown hK.1 hP 0 rfl rfl 3 (by decide) (hts _ lk_X7_spread_33) (fun _ h9 => h9) rfl dX7_spread_25 ?_
  refine lv_iload_n hx hb dX7_spread_28 rfl (lv_at hl 2 rfl) ?_
  refine zk_wi (zc_V (As := [.int (zi x1)]) (rest := []) ⟨hx, hb, hml, hown, hts⟩ (ct_X3_countPlaces l D cI cZ cJ ad S_21 hI_21 hdis x1 ⟨by omega, by omega⟩ (by omega) (by omega)) (cwV 1 hts gX7_spread_X3_countPlaces rfl rfl rfl (by decide +kernel) ⟨Nat.le_of_ble_eq_true rfl, Nat.le_of_ble_eq_true rfl⟩) hK hP (q0 := 4) (ci := 3) rfl rfl rfl rfl hl.1 rfl (Nat.le_of_ble_eq_true rfl) dX7_spread_29 ⟨by decide, by decide⟩) hS (fun r_29 S_29 H locs hp_29 hP hS => ?_)
  obtain ⟨er_29, e9, hI_29⟩ := hp_29
  have eS_29 := e9.symm; clear e9
  exact xr_wi (T := S_29) hx hb hr hlocks dX7_spread_32 hP hS ⟨by decide, by decide⟩ (by exact ⟨hc_8, hc_16, by rw [er_29, eS_21], by rw [eS_21]; exact eS_29.symm, hI_29⟩)

theorem in_X7_where_7 : ∀ w ∈ wsX70, w ∈ wsX7_where := by decide +kernel
theorem lk_X7_where_19 : Cond.fieldLink RX7 19 "PlanetoidDesk" "bodies" "LPlanetoidDesk$Bodies;" ∈ wsX7_where := by decide +kernel
theorem in_X7_where_0 : ∀ w ∈ wsX00, w ∈ wsX7_where := by decide +kernel
theorem lk_X7_where_33 : Cond.fieldLink RX7 33 "PlanetoidDesk" "fitting" "LPlanetoidDesk$Orbits;" ∈ wsX7_where := by decide +kernel
theorem af_X7_where_210 : ∀ w ∈ (vx_atS RX7 210 xIAE xNS).filter goodWord, w ∈ wsX7_where := by decide +kernel
theorem cl206_X7_where : Cond.classLink RX7 206 xIAE ∈ wsX7_where := by decide +kernel
theorem ini206_X7_where : Cond.initialized xIAE ∈ wsX7_where := by decide +kernel
abbrev rmct_X7_where : Room := { frames := 7, cells := 3, slots := 18, locals := 116 }
set_option maxHeartbeats 4000000 in
set_option maxRecDepth 100000 in
theorem ct_X7_where (l : Launch) (hst : l.stackTraces = false) (D : va_G) (cI cZ cJ : ClassId) (sa : Nat → Nat) (ad : Nat → Nat) (S : ZS) (hI : CI S) (hdis : dDis ad) (x0 x1 x2 : Int) (hx0 : ir x0) (hx1 : ir x1) (hx2 : ir x2)  : vx_Met l yX7_where wsX7_where rmct_X7_where (va_Pc [.ref (ad 0), .int (zi x0), .int (zi x1), .int (zi x2)] (fun U => va_P D vwCl (dW cI ad S) U.heap ∧ KK D cI cZ cJ U ∧ xP sa (dA ad) U U.heap)) (zWi D (dW cI ad) (dA ad) (fun r T => (0 ≤ x0 ∧ x0 < S 23 0) ∧ (0 ≤ x1 ∧ x1 ≤ 999) ∧ (0 ≤ x2) ∧ r = (placeN (tlAll x1 (findO x0 S)) x2) ∧ T = tlAll x1 (findO x0 S) ∧ CI T)) (xX D cI ad (fun E T => ((¬ (0 ≤ x0 ∧ x0 < S 23 0) ∧ E = xIOB) ∨ ((0 ≤ x0 ∧ x0 < S 23 0) ∧ ¬ (0 ≤ x1 ∧ x1 ≤ 999) ∧ E = xIAE) ∨ ((0 ≤ x0 ∧ x0 < S 23 0) ∧ (0 ≤ x1 ∧ x1 ≤ 999) ∧ ¬ (0 ≤ x2) ∧ E = xIAE)) ∧ SC S T ∧ CI T)) 3 18 (dA ad) := by
  refine vx_ofW (cc := cX7_where) (maxL := 4) (ret := (some .int)) (by decide) rfl ?_
  intro p e s m args below meth c s₁ B hml htab hv
  obtain ⟨rfl, hP, hK, hX⟩ := hv
  have hx := B.exec
  have hb := B.bytes
  have hr := B.returns
  have hts := atoms_spec (ws := wsX7_where) B.pre
  have hown : s.vm.findClass RX7 = some m.cls := findClass_of_methodNamed B.named
  have hlocks := B.notSynchronized
  have hl := lv_entry ([.ref (ad 0), .int (zi x0), .int (zi x1), .int (zi x2)]) (n := 4) (Nat.le_of_ble_eq_true rfl)
  rw [lg_entry_eq]
  generalize (lg_sl ([.ref (ad 0), .int (zi x0), .int (zi x1), .int (zi x2)]) ++ List.replicate (4 - (lg_sl ([.ref (ad 0), .int (zi x0), .int (zi x1), .int (zi x2)])).length) Slot.unset).toArray = ls at hl ⊢
  have hl : lv_has ls 4 [(0, .ref (ad 0)), (1, .int (zi x0)), (2, .int (zi x1)), (3, .int (zi x2))] := hl
  have hS : va_S (dA ad) s.heap s.heap [] := va_S.rf
  show W p l e rmct_X7_where s m ([.ref (ad 0), .int (zi x0), .int (zi x1), .int (zi x2)] : List Value).toArray below meth c s.heap [] 0 0 (vx_MQ below (zWi D (dW cI ad) (dA ad) (fun r T => (0 ≤ x0 ∧ x0 < S 23 0) ∧ (0 ≤ x1 ∧ x1 ≤ 999) ∧ (0 ≤ x2) ∧ r = (placeN (tlAll x1 (findO x0 S)) x2) ∧ T = tlAll x1 (findO x0 S) ∧ CI T)) (xX D cI ad (fun E T => ((¬ (0 ≤ x0 ∧ x0 < S 23 0) ∧ E = xIOB) ∨ ((0 ≤ x0 ∧ x0 < S 23 0) ∧ ¬ (0 ≤ x1 ∧ x1 ≤ 999) ∧ E = xIAE) ∨ ((0 ≤ x0 ∧ x0 < S 23 0) ∧ (0 ≤ x1 ∧ x1 ≤ 999) ∧ ¬ (0 ≤ x2) ∧ E = xIAE)) ∧ SC S T ∧ CI T)) ([.ref (ad 0), .int (zi x0), .int (zi x1), .int (zi x2)] : List Value).toArray s 3 18 (dA ad)) (F0 m 0 ls [])
  refine lv_iload_n hx hb dX7_where_0 rfl (lv_at hl 1 rfl) ?_
  refine lv_aload_n hx hb dX7_where_1 rfl (lv_at hl 0 rfl) ?_
  refine va_get (D := D) (ci := 7) (v := .ref (ad 2)) (C := RX7) (T := TX7) (N := 6) hx hb hts in_X7_where_7 hown hK.1 hP 0 rfl rfl 1 (by decide) (hts _ lk_X7_where_19) (fun _ h9 => h9) rfl dX7_where_2 ?_
  refine va_getN (D := D) (ci := 0) (v := .int (zi (S 23 0))) (C := RX0) (T := TX0) (N := 8) hx hb hts in_X7_where_0 hown hK.1 hP 2 rfl rfl 5 (by decide) (va_Nw.use rfl (hK.2 _ (List.mem_of_getElem? (i := 0) rfl))) (fun _ h9 => h9) rfl dX7_where_5 ?_
  have f_5 : (0 : Int) ≤ S 23 0 ∧ S 23 0 ≤ 20 := hI 23 0
  refine xc_chk (As := [.int (zi x0), .int (zi (S 23 0))]) (rest := []) (S0 := S) ⟨hx, hb, hml, hown, hts⟩ (ct_X7_needOneOf l hst x0 (S 23 0) ⟨by omega, by omega⟩ ⟨by omega, by omega⟩) (va_cwS 2 hts gX7_where_X7_needOneOf rfl rfl rfl (by decide +kernel) ⟨Nat.le_of_ble_eq_true rfl, Nat.le_of_ble_eq_true rfl⟩) hX hS hP htab hlocks rfl hl.1 rfl (Nat.le_of_ble_eq_true rfl) dX7_where_8 ⟨by decide, by decide⟩ ⟨by decide, by decide⟩ (fun hn_8 => ⟨Or.inl ⟨hn_8, rfl⟩, SC.rf, hI⟩) (fun hc_8 H locs hP hS => ?_)
  refine lv_iload_n hx hb dX7_where_11 rfl (lv_at hl 2 rfl) ?_
  refine zi_iconst hx hb dX7_where_12 ?_
  refine zi_sipush hx hb dX7_where_13 (by decide) ?_
  refine xc_chk (As := [.int (zi x1), .int (zi 0), .int (zi 999)]) (rest := []) (S0 := S) ⟨hx, hb, hml, hown, hts⟩ (ct_X7_needWithin l hst x1 0 999 ⟨by omega, by omega⟩ ⟨by decide, by decide⟩ ⟨by decide, by decide⟩) (va_cwS 3 hts gX7_where_X7_needWithin rfl rfl rfl (by decide +kernel) ⟨Nat.le_of_ble_eq_true rfl, Nat.le_of_ble_eq_true rfl⟩) hX hS hP htab hlocks rfl hl.1 rfl (Nat.le_of_ble_eq_true rfl) dX7_where_16 ⟨by decide, by decide⟩ ⟨by decide, by decide⟩ (fun hn_16 => ⟨Or.inr (Or.inl ⟨hc_8, hn_16, rfl⟩), SC.rf, hI⟩) (fun hc_16 H locs hP hS => ?_)
  refine lv_iload_n hx hb dX7_where_19 rfl (lv_at hl 3 rfl) ?_
  refine zi_if_ge (tgt := 33) hx hb ⟨by omega, by omega⟩ dX7_where_20 (by decide) (fun c_20 => ?_) (fun c_20 => ?_)
  · refine lv_aload_n hx hb dX7_where_33 rfl (lv_at hl 0 rfl) ?_
    refine lv_iload_n hx hb dX7_where_34 rfl (lv_at hl 1 rfl) ?_
    refine zk_wv (zc_V (As := [.int (zi x0)]) (rest := []) ⟨hx, hb, hml, hown, hts⟩ (ct_X7_findOrbits l D cI cZ cJ ad S hI hdis x0 ⟨by omega, by omega⟩) (cwV 1 hts gX7_where_X7_findOrbits rfl rfl rfl (by decide +kernel) ⟨Nat.le_of_ble_eq_true rfl, Nat.le_of_ble_eq_true rfl⟩) hK hP (q0 := 0) (ci := 7) rfl rfl rfl rfl hl.1 rfl (Nat.le_of_ble_eq_true rfl) dX7_where_35 ⟨by decide, by decide⟩) hS (fun S_35 H locs hp_35 hP hS => ?_)
    obtain ⟨e9, hI_35⟩ := hp_35
    have eS_35 := e9.symm; clear e9
    refine lv_aload_n hx hb dX7_where_38 rfl (lv_at hl 0 rfl) ?_
    refine va_get (D := D) (ci := 7) (v := .ref (ad 4)) (C := RX7) (T := TX7) (N := 6) hx hb hts in_X7_where_7 hown hK.1 hP 0 rfl rfl 3 (by decide) (hts _ lk_X7_where_33) (fun _ h9 => h9) rfl dX7_where_39 ?_
    refine lv_iload_n hx hb dX7_where_42 rfl (lv_at hl 2 rfl) ?_
    refine lv_iload_n hx hb dX7_where_43 rfl (lv_at hl 3 rfl) ?_
    refine zk_wi (zc_V (As := [.int (zi x1), .int (zi x2)]) (rest := []) ⟨hx, hb, hml, hown, hts⟩ (ct_X3_placeAt l D cI cZ cJ ad S_35 hI_35 hdis x1 x2 ⟨by omega, by omega⟩ ⟨by omega, by omega⟩ (by omega) (by omega) (by omega) (by omega)) (cwV 2 hts gX7_where_X3_placeAt rfl rfl rfl (by decide +kernel) ⟨Nat.le_of_ble_eq_true rfl, Nat.le_of_ble_eq_true rfl⟩) hK hP (q0 := 4) (ci := 3) rfl rfl rfl rfl hl.1 rfl (Nat.le_of_ble_eq_true rfl) dX7_where_44 ⟨by decide, by decide⟩) hS (fun r_44 S_44 H locs hp_44 hP hS => ?_)
    obtain ⟨er_44, e9, hI_44⟩ := hp_44
    have eS_44 := e9.symm; clear e9
    exact xr_wi (T := S_44) hx hb hr hlocks dX7_where_47 hP hS ⟨by decide, by decide⟩ (by exact ⟨hc_8, hc_16, by omega, by rw [er_44, eS_35], by rw [eS_35]; exact eS_44.symm, hI_44⟩)
  · exact vx_throwS hx hb hst hown (by decide) xNS_fit (hts _ cl206_X7_where) (hts _ ini206_X7_where) (hX.2.2.1 12 (208, "there is no rank below 0") rfl) (xB_in (n := 0) (cls := xIAE) sub_210 hX (fun w hw => hts w (af_X7_where_210 w hw))) ot_210 hX.1 hX.2.1 hS (hl.1.trans hml.symm) dX7_where_23 dX7_where_26 dX7_where_27 dX7_where_29 dX7_where_32 (fun x h9 => (htab x h9).elim) (by decide) (by decide) (by decide) (by decide) hlocks (xx_thr hP hS (⟨Or.inr (Or.inr (⟨hc_8, hc_16, (fun h9 => by omega), rfl⟩)), SC.rf, hI⟩)) (fun z hz => hS.2.2 z hz) (by decide) (by decide)
