theorem in_X7_observatory_7 : ∀ w ∈ wsX70, w ∈ wsX7_observatory := by decide +kernel
theorem lk_X7_observatory_10 : Cond.fieldLink RX7 10 "PlanetoidDesk" "sky" "LPlanetoidDesk$Sky;" ∈ wsX7_observatory := by decide +kernel
theorem in_X7_observatory_6 : ∀ w ∈ wsX60, w ∈ wsX7_observatory := by decide +kernel
theorem af_X7_observatory_63 : ∀ w ∈ (vx_atS RX7 63 xISE xNS).filter goodWord, w ∈ wsX7_observatory := by decide +kernel
theorem cl59_X7_observatory : Cond.classLink RX7 59 xISE ∈ wsX7_observatory := by decide +kernel
theorem ini59_X7_observatory : Cond.initialized xISE ∈ wsX7_observatory := by decide +kernel
abbrev rmct_X7_observatory : Room := { frames := 7, cells := 2, slots := 12, locals := 104 }
set_option maxHeartbeats 4000000 in
set_option maxRecDepth 100000 in
theorem ct_X7_observatory (l : Launch) (hst : l.stackTraces = false) (D : va_G) (cI cZ cJ : ClassId) (sa : Nat → Nat) (ad : Nat → Nat) (S : ZS) (hI : CI S) (hdis : dDis ad) (x0 : Int) (hx0 : ir x0)  : vx_Met l yX7_observatory wsX7_observatory rmct_X7_observatory (va_Pc [.ref (ad 0), .int (zi x0)] (fun U => va_P D vwCl (dW cI ad S) U.heap ∧ KK D cI cZ cJ U ∧ xP sa (dA ad) U U.heap)) (zWi D (dW cI ad) (dA ad) (fun r T => (0 ≤ x0 ∧ x0 ≤ 9) ∧ S 20 0 < 6 ∧ r = S 20 0 ∧ T = su (su S 0 (rPut 6 (S 0) (S 20 0) x0)) 20 (fun _ => S 20 0 + 1) ∧ CI T)) (xX D cI ad (fun E T => ((¬ (0 ≤ x0 ∧ x0 ≤ 9) ∧ E = xIAE) ∨ ((0 ≤ x0 ∧ x0 ≤ 9) ∧ ¬ S 20 0 < 6 ∧ E = xISE)) ∧ T = S)) 2 12 (dA ad) := by
  refine vx_ofW (cc := cX7_observatory) (maxL := 2) (ret := (some .int)) (by decide) rfl ?_
  intro p e s m args below meth c s₁ B hml htab hv
  obtain ⟨rfl, hP, hK, hX⟩ := hv
  have hx := B.exec
  have hb := B.bytes
  have hr := B.returns
  have hts := atoms_spec (ws := wsX7_observatory) B.pre
  have hown : s.vm.findClass RX7 = some m.cls := findClass_of_methodNamed B.named
  have hlocks := B.notSynchronized
  have hl := lv_entry ([.ref (ad 0), .int (zi x0)]) (n := 2) (Nat.le_of_ble_eq_true rfl)
  rw [lg_entry_eq]
  generalize (lg_sl ([.ref (ad 0), .int (zi x0)]) ++ List.replicate (2 - (lg_sl ([.ref (ad 0), .int (zi x0)])).length) Slot.unset).toArray = ls at hl ⊢
  have hl : lv_has ls 2 [(0, .ref (ad 0)), (1, .int (zi x0))] := hl
  have hS : va_S (dA ad) s.heap s.heap [] := va_S.rf
  show W p l e rmct_X7_observatory s m ([.ref (ad 0), .int (zi x0)] : List Value).toArray below meth c s.heap [] 0 0 (vx_MQ below (zWi D (dW cI ad) (dA ad) (fun r T => (0 ≤ x0 ∧ x0 ≤ 9) ∧ S 20 0 < 6 ∧ r = S 20 0 ∧ T = su (su S 0 (rPut 6 (S 0) (S 20 0) x0)) 20 (fun _ => S 20 0 + 1) ∧ CI T)) (xX D cI ad (fun E T => ((¬ (0 ≤ x0 ∧ x0 ≤ 9) ∧ E = xIAE) ∨ ((0 ≤ x0 ∧ x0 ≤ 9) ∧ ¬ S 20 0 < 6 ∧ E = xISE)) ∧ T = S)) ([.ref (ad 0), .int (zi x0)] : List Value).toArray s 2 12 (dA ad)) (F0 m 0 ls [])
  refine lv_iload_n hx hb dX7_observatory_0 rfl (lv_at hl 1 rfl) ?_
  refine zi_iconst hx hb dX7_observatory_1 ?_
  refine zi_bipush hx hb dX7_observatory_2 (by decide) ?_
  refine xc_chk (As := [.int (zi x0), .int (zi 0), .int (zi 9)]) (rest := []) (S0 := S) ⟨hx, hb, hml, hown, hts⟩ (ct_X7_needWithin l hst x0 0 9 ⟨by omega, by omega⟩ ⟨by decide, by decide⟩ ⟨by decide, by decide⟩) (va_cwS 3 hts gX7_observatory_X7_needWithin rfl rfl rfl (by decide +kernel) ⟨Nat.le_of_ble_eq_true rfl, Nat.le_of_ble_eq_true rfl⟩) hX hS hP htab hlocks rfl hl.1 rfl (Nat.le_of_ble_eq_true rfl) dX7_observatory_4 ⟨by decide, by decide⟩ ⟨by decide, by decide⟩ (fun hn_4 => ⟨Or.inl ⟨hn_4, rfl⟩, rfl⟩) (fun hc_4 H locs hP hS => ?_)
  refine lv_aload_n hx hb dX7_observatory_7 rfl (lv_at hl 0 rfl) ?_
  refine va_get (D := D) (ci := 7) (v := .ref (ad 1)) (C := RX7) (T := TX7) (N := 6) hx hb hts in_X7_observatory_7 hown hK.1 hP 0 rfl rfl 0 (by decide) (hts _ lk_X7_observatory_10) (fun _ h9 => h9) rfl dX7_observatory_8 ?_
  refine va_getN (D := D) (ci := 6) (v := .int (zi (S 20 0))) (C := RX6) (T := TX6) (N := 10) hx hb hts in_X7_observatory_6 hown hK.1 hP 1 rfl rfl 7 (by decide) (va_Nw.use rfl (hK.2 _ (List.mem_of_getElem? (i := 4) rfl))) (fun _ h9 => h9) rfl dX7_observatory_11 ?_
  have f_11 : (0 : Int) ≤ S 20 0 ∧ S 20 0 ≤ 6 := hI 20 0
  refine zi_bipush hx hb dX7_observatory_14 (by decide) ?_
  refine zi_icmp_lt (tgt := 29) hx hb ⟨by omega, by omega⟩ ⟨by decide, by decide⟩ dX7_observatory_16 (by decide) (fun c_16 => ?_) (fun c_16 => ?_)
  · refine lv_aload_n hx hb dX7_observatory_29 rfl (lv_at hl 0 rfl) ?_
    refine va_get (D := D) (ci := 7) (v := .ref (ad 1)) (C := RX7) (T := TX7) (N := 6) hx hb hts in_X7_observatory_7 hown hK.1 hP 0 rfl rfl 0 (by decide) (hts _ lk_X7_observatory_10) (fun _ h9 => h9) rfl dX7_observatory_30 ?_
    refine lv_iload_n hx hb dX7_observatory_33 rfl (lv_at hl 1 rfl) ?_
    refine zk_wi (zc_V (As := [.int (zi x0)]) (rest := []) ⟨hx, hb, hml, hown, hts⟩ (ct_X6_addObservatory l D cI cZ cJ ad S hI hdis x0 ⟨by omega, by omega⟩ (by omega) (by omega) (by omega)) (cwV 1 hts gX7_observatory_X6_addObservatory rfl rfl rfl (by decide +kernel) ⟨Nat.le_of_ble_eq_true rfl, Nat.le_of_ble_eq_true rfl⟩) hK hP (q0 := 1) (ci := 6) rfl rfl rfl rfl hl.1 rfl (Nat.le_of_ble_eq_true rfl) dX7_observatory_34 ⟨by decide, by decide⟩) hS (fun r_34 S_34 H locs hp_34 hP hS => ?_)
    obtain ⟨er_34, e9, hI_34⟩ := hp_34
    have eS_34 := e9.symm; clear e9
    exact xr_wi (T := S_34) hx hb hr hlocks dX7_observatory_37 hP hS ⟨by decide, by decide⟩ (by exact ⟨hc_4, by omega, er_34, eS_34.symm, hI_34⟩)
  · exact vx_throwS hx hb hst hown (by decide) xNS_fit (hts _ cl59_X7_observatory) (hts _ ini59_X7_observatory) (hX.2.2.1 2 (61, "there are 6 observatories") rfl) (xB_in (n := 0) (cls := xISE) sub_63 hX (fun w hw => hts w (af_X7_observatory_63 w hw))) ot_63 hX.1 hX.2.1 hS (hl.1.trans hml.symm) dX7_observatory_19 dX7_observatory_22 dX7_observatory_23 dX7_observatory_25 dX7_observatory_28 (fun x h9 => (htab x h9).elim) (by decide) (by decide) (by decide) (by decide) hlocks (xx_thr hP hS (⟨Or.inr ⟨hc_4, c_16, rfl⟩, rfl⟩)) (fun z hz => hS.2.2 z hz) (by decide) (by decide)

