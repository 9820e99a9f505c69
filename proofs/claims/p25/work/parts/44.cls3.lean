theorem tlAll_n {n : Int} {S : ZS} {k : Nat} (h : k ≠ 15) : tlAll n S k = S k := by
  rw [tlAll, itr_keep (fun j s => by rw [tlRow]; exact itr_keep (fun j2 s2 => by rw [tlStep]; exact su_n _ _ h) _ _ _)]
  exact su_n _ _ h
theorem SC_tl {n : Int} {S : ZS} : SC S (tlAll n S) := fun _ hk => tlAll_n (scr_ne hk rfl)
theorem SC_u {S P : ZS} {k : Nat} {g g' : Int → Int} (h : SC S P) (e : g = g') : SC (su S k g) (su P k g') := by
  intro q hq
  by_cases hk : q = k
  · subst hk; rw [su_s, su_s, e]
  · rw [su_n _ _ hk, su_n _ _ hk]; exact h q hq
theorem in_X7_ofBody_7 : ∀ w ∈ wsX70, w ∈ wsX7_ofBody := by decide +kernel
theorem lk_X7_ofBody_19 : Cond.fieldLink RX7 19 "PlanetoidDesk" "bodies" "LPlanetoidDesk$Bodies;" ∈ wsX7_ofBody := by decide +kernel
theorem in_X7_ofBody_0 : ∀ w ∈ wsX00, w ∈ wsX7_ofBody := by decide +kernel
theorem lk_X7_ofBody_10 : Cond.fieldLink RX7 10 "PlanetoidDesk" "sky" "LPlanetoidDesk$Sky;" ∈ wsX7_ofBody := by decide +kernel
abbrev rmct_X7_ofBody : Room := { frames := 7, cells := 3, slots := 18, locals := 104 }
set_option maxHeartbeats 4000000 in
set_option maxRecDepth 100000 in
theorem ct_X7_ofBody (l : Launch) (hst : l.stackTraces = false) (D : va_G) (cI cZ cJ : ClassId) (sa : Nat → Nat) (ad : Nat → Nat) (S : ZS) (hI : CI S) (hdis : dDis ad) (x0 x1 : Int) (hx0 : ir x0) (hx1 : ir x1)  : vx_Met l yX7_ofBody wsX7_ofBody rmct_X7_ofBody (va_Pc [.ref (ad 0), .int (zi x0), .int (zi x1)] (fun U => va_P D vwCl (dW cI ad S) U.heap ∧ KK D cI cZ cJ U ∧ xP sa (dA ad) U U.heap)) (zWi D (dW cI ad) (dA ad) (fun r T => (0 ≤ x0 ∧ x0 < S 23 0) ∧ (0 ≤ x1 ∧ x1 ≤ 6) ∧ r = (if x1 = 0 then gatherL x0 S 26 0 else if x1 = 1 then ownN S x0 else if x1 = 2 then rAt 20 (S 8) x0 else if x1 = 3 then oOf (gatherL x0 S) (firstL (gatherL x0 S)) else if x1 = 4 then firstL (gatherL x0 S) else if x1 = 5 then rAt 20 (S 10) x0 else joinN S x0) ∧ SC S T ∧ CI T)) (xX D cI ad (fun E T => ((¬ (0 ≤ x0 ∧ x0 < S 23 0) ∧ E = xIOB) ∨ ((0 ≤ x0 ∧ x0 < S 23 0) ∧ ¬ (0 ≤ x1 ∧ x1 ≤ 6) ∧ E = xIAE)) ∧ SC S T ∧ CI T)) 3 18 (dA ad) := by
  refine vx_ofW (cc := cX7_ofBody) (maxL := 3) (ret := (some .int)) (by decide) rfl ?_
  intro p e s m args below meth c s₁ B hml htab hv
  obtain ⟨rfl, hP, hK, hX⟩ := hv
  have hx := B.exec
  have hb := B.bytes
  have hr := B.returns
  have hts := atoms_spec (ws := wsX7_ofBody) B.pre
  have hown : s.vm.findClass RX7 = some m.cls := findClass_of_methodNamed B.named
  have hlocks := B.notSynchronized
  have hl := lv_entry ([.ref (ad 0), .int (zi x0), .int (zi x1)]) (n := 3) (Nat.le_of_ble_eq_true rfl)
  rw [lg_entry_eq]
  generalize (lg_sl ([.ref (ad 0), .int (zi x0), .int (zi x1)]) ++ List.replicate (3 - (lg_sl ([.ref (ad 0), .int (zi x0), .int (zi x1)])).length) Slot.unset).toArray = ls at hl ⊢
  have hl : lv_has ls 3 [(0, .ref (ad 0)), (1, .int (zi x0)), (2, .int (zi x1))] := hl
  have hS : va_S (dA ad) s.heap s.heap [] := va_S.rf
  show W p l e rmct_X7_ofBody s m ([.ref (ad 0), .int (zi x0), .int (zi x1)] : List Value).toArray below meth c s.heap [] 0 0 (vx_MQ below (zWi D (dW cI ad) (dA ad) (fun r T => (0 ≤ x0 ∧ x0 < S 23 0) ∧ (0 ≤ x1 ∧ x1 ≤ 6) ∧ r = (if x1 = 0 then gatherL x0 S 26 0 else if x1 = 1 then ownN S x0 else if x1 = 2 then rAt 20 (S 8) x0 else if x1 = 3 then oOf (gatherL x0 S) (firstL (gatherL x0 S)) else if x1 = 4 then firstL (gatherL x0 S) else if x1 = 5 then rAt 20 (S 10) x0 else joinN S x0) ∧ SC S T ∧ CI T)) (xX D cI ad (fun E T => ((¬ (0 ≤ x0 ∧ x0 < S 23 0) ∧ E = xIOB) ∨ ((0 ≤ x0 ∧ x0 < S 23 0) ∧ ¬ (0 ≤ x1 ∧ x1 ≤ 6) ∧ E = xIAE)) ∧ SC S T ∧ CI T)) ([.ref (ad 0), .int (zi x0), .int (zi x1)] : List Value).toArray s 3 18 (dA ad)) (F0 m 0 ls [])
  refine lv_iload_n hx hb dX7_ofBody_0 rfl (lv_at hl 1 rfl) ?_
  refine lv_aload_n hx hb dX7_ofBody_1 rfl (lv_at hl 0 rfl) ?_
  refine va_get (D := D) (ci := 7) (v := .ref (ad 2)) (C := RX7) (T := TX7) (N := 6) hx hb hts in_X7_ofBody_7 hown hK.1 hP 0 rfl rfl 1 (by decide) (hts _ lk_X7_ofBody_19) (fun _ h9 => h9) rfl dX7_ofBody_2 ?_
  refine va_getN (D := D) (ci := 0) (v := .int (zi (S 23 0))) (C := RX0) (T := TX0) (N := 8) hx hb hts in_X7_ofBody_0 hown hK.1 hP 2 rfl rfl 5 (by decide) (va_Nw.use rfl (hK.2 _ (List.mem_of_getElem? (i := 0) rfl))) (fun _ h9 => h9) rfl dX7_ofBody_5 ?_
  have f_5 : (0 : Int) ≤ S 23 0 ∧ S 23 0 ≤ 20 := hI 23 0
  refine xc_chk (As := [.int (zi x0), .int (zi (S 23 0))]) (rest := []) (S0 := S) ⟨hx, hb, hml, hown, hts⟩ (ct_X7_needOneOf l hst x0 (S 23 0) ⟨by omega, by omega⟩ ⟨by omega, by omega⟩) (va_cwS 2 hts gX7_ofBody_X7_needOneOf rfl rfl rfl (by decide +kernel) ⟨Nat.le_of_ble_eq_true rfl, Nat.le_of_ble_eq_true rfl⟩) hX hS hP htab hlocks rfl hl.1 rfl (Nat.le_of_ble_eq_true rfl) dX7_ofBody_8 ⟨by decide, by decide⟩ ⟨by decide, by decide⟩ (fun hn_8 => ⟨Or.inl ⟨hn_8, rfl⟩, SC.rf, hI⟩) (fun hc_8 H locs hP hS => ?_)
  refine lv_iload_n hx hb dX7_ofBody_11 rfl (lv_at hl 2 rfl) ?_
  refine zi_iconst hx hb dX7_ofBody_12 ?_
  refine zi_bipush hx hb dX7_ofBody_13 (by decide) ?_
  refine xc_chk (As := [.int (zi x1), .int (zi 0), .int (zi 6)]) (rest := []) (S0 := S) ⟨hx, hb, hml, hown, hts⟩ (ct_X7_needWithin l hst x1 0 6 ⟨by omega, by omega⟩ ⟨by decide, by decide⟩ ⟨by decide, by decide⟩) (va_cwS 3 hts gX7_ofBody_X7_needWithin rfl rfl rfl (by decide +kernel) ⟨Nat.le_of_ble_eq_true rfl, Nat.le_of_ble_eq_true rfl⟩) hX hS hP htab hlocks rfl hl.1 rfl (Nat.le_of_ble_eq_true rfl) dX7_ofBody_15 ⟨by decide, by decide⟩ ⟨by decide, by decide⟩ (fun hn_15 => ⟨Or.inr (⟨hc_8, hn_15, rfl⟩), SC.rf, hI⟩) (fun hc_15 H locs hP hS => ?_)
  refine lv_iload_n hx hb dX7_ofBody_18 rfl (lv_at hl 2 rfl) ?_
  by_cases c_19 : x1 < 0 ∨ 5 < x1
  · refine lv_tableOut (tgt := 108) hx hb dX7_ofBody_19 (by rw [zi_toInt ⟨by omega, by omega⟩]; exact c_19) (by decide) ?_
    refine lv_aload_n hx hb dX7_ofBody_108 rfl (lv_at hl 0 rfl) ?_
    refine va_get (D := D) (ci := 7) (v := .ref (ad 2)) (C := RX7) (T := TX7) (N := 6) hx hb hts in_X7_ofBody_7 hown hK.1 hP 0 rfl rfl 1 (by decide) (hts _ lk_X7_ofBody_19) (fun _ h9 => h9) rfl dX7_ofBody_109 ?_
    refine lv_iload_n hx hb dX7_ofBody_112 rfl (lv_at hl 1 rfl) ?_
    refine zk_r (zc_V (As := [.int (zi x0)]) (rest := []) ⟨hx, hb, hml, hown, hts⟩ (ct_X0_countJoinedTo l D cI cZ cJ ad S hI x0 ⟨by omega, by omega⟩) (cwV 1 hts gX7_ofBody_X0_countJoinedTo rfl rfl rfl (by decide +kernel) ⟨Nat.le_of_ble_eq_true rfl, Nat.le_of_ble_eq_true rfl⟩) hK hP (q0 := 2) (ci := 0) rfl rfl rfl rfl hl.1 rfl (Nat.le_of_ble_eq_true rfl) dX7_ofBody_113 ⟨by decide, by decide⟩) ?_
    refine zi_top (fun (r_113 : Int) (er_113 : r_113 = joinN S x0) => ?_)
    have fr_113 : (0 : Int) ≤ r_113 ∧ r_113 ≤ 20 := by rw [er_113]; exact by have h := cnt_b (fun j => rAt 20 (S 8) j = x0) (S 23 0).toNat 0 0; have h2 : (0 : Int) ≤ S 23 0 ∧ S 23 0 ≤ 20 := hI 23 0; exact ⟨h.1, Int.le_trans h.2 (by omega)⟩
    exact xr_wi (T := S) hx hb hr hlocks dX7_ofBody_116 hP hS ⟨by decide, by decide⟩ (by exact ⟨hc_8, hc_15, by rw [if_neg (by omega), if_neg (by omega), if_neg (by omega), if_neg (by omega), if_neg (by omega), if_neg (by omega), er_113], SC.rf, hI⟩)
  · have c9 : x1 = 0 ∨ x1 = 1 ∨ x1 = 2 ∨ x1 = 3 ∨ x1 = 4 ∨ x1 = 5 := by omega
    rcases c9 with c9 | c9 | c9 | c9 | c9 | c9
    · refine lv_tableIn (off := 37) (tgt := 56) hx hb dX7_ofBody_19 (by rw [zi_toInt ⟨by omega, by omega⟩]; omega) (by rw [zi_toInt ⟨by omega, by omega⟩]; omega) (by rw [zi_toInt ⟨by omega, by omega⟩, c9]; rfl) (by decide) ?_
      refine lv_aload_n hx hb dX7_ofBody_56 rfl (lv_at hl 0 rfl) ?_
      refine lv_iload_n hx hb dX7_ofBody_57 rfl (lv_at hl 1 rfl) ?_
      refine zk_wi (zc_V (As := [.int (zi x0)]) (rest := []) ⟨hx, hb, hml, hown, hts⟩ (ct_X7_countLooks l D cI cZ cJ ad S hI hdis x0 ⟨by omega, by omega⟩) (cwV 1 hts gX7_ofBody_X7_countLooks rfl rfl rfl (by decide +kernel) ⟨Nat.le_of_ble_eq_true rfl, Nat.le_of_ble_eq_true rfl⟩) hK hP (q0 := 0) (ci := 7) rfl rfl rfl rfl hl.1 rfl (Nat.le_of_ble_eq_true rfl) dX7_ofBody_58 ⟨by decide, by decide⟩) hS (fun r_58 S_58 H locs hp_58 hP hS => ?_)
      obtain ⟨er_58, e9, hI_58⟩ := hp_58
      have eS_58 := e9.symm; clear e9
      have fr_58 : (0 : Int) ≤ r_58 ∧ r_58 ≤ 60 := by rw [er_58]; have h9 := hI_58 26 0; rw [← eS_58] at h9; exact h9
      exact xr_wi (T := S_58) hx hb hr hlocks dX7_ofBody_61 hP hS ⟨by decide, by decide⟩ (by exact ⟨hc_8, hc_15, by rw [if_pos (by omega), er_58], by rw [← eS_58]; exact SC_ga, hI_58⟩)
    · refine lv_tableIn (off := 43) (tgt := 62) hx hb dX7_ofBody_19 (by rw [zi_toInt ⟨by omega, by omega⟩]; omega) (by rw [zi_toInt ⟨by omega, by omega⟩]; omega) (by rw [zi_toInt ⟨by omega, by omega⟩, c9]; rfl) (by decide) ?_
      refine lv_aload_n hx hb dX7_ofBody_62 rfl (lv_at hl 0 rfl) ?_
      refine va_get (D := D) (ci := 7) (v := .ref (ad 2)) (C := RX7) (T := TX7) (N := 6) hx hb hts in_X7_ofBody_7 hown hK.1 hP 0 rfl rfl 1 (by decide) (hts _ lk_X7_ofBody_19) (fun _ h9 => h9) rfl dX7_ofBody_63 ?_
      refine lv_iload_n hx hb dX7_ofBody_66 rfl (lv_at hl 1 rfl) ?_
      refine zk_r (zc_V (As := [.int (zi x0)]) (rest := []) ⟨hx, hb, hml, hown, hts⟩ (ct_X0_countOwnDots l D cI cZ cJ ad S hI x0 ⟨by omega, by omega⟩) (cwV 1 hts gX7_ofBody_X0_countOwnDots rfl rfl rfl (by decide +kernel) ⟨Nat.le_of_ble_eq_true rfl, Nat.le_of_ble_eq_true rfl⟩) hK hP (q0 := 2) (ci := 0) rfl rfl rfl rfl hl.1 rfl (Nat.le_of_ble_eq_true rfl) dX7_ofBody_67 ⟨by decide, by decide⟩) ?_
      refine zi_top (fun (r_67 : Int) (er_67 : r_67 = ownN S x0) => ?_)
      have fr_67 : (0 : Int) ≤ r_67 ∧ r_67 ≤ 60 := by rw [er_67]; exact cnt_b _ 60 0 0
      exact xr_wi (T := S) hx hb hr hlocks dX7_ofBody_70 hP hS ⟨by decide, by decide⟩ (by exact ⟨hc_8, hc_15, by rw [if_neg (by omega), if_pos (by omega), er_67], SC.rf, hI⟩)
    · refine lv_tableIn (off := 52) (tgt := 71) hx hb dX7_ofBody_19 (by rw [zi_toInt ⟨by omega, by omega⟩]; omega) (by rw [zi_toInt ⟨by omega, by omega⟩]; omega) (by rw [zi_toInt ⟨by omega, by omega⟩, c9]; rfl) (by decide) ?_
      refine lv_aload_n hx hb dX7_ofBody_71 rfl (lv_at hl 0 rfl) ?_
      refine va_get (D := D) (ci := 7) (v := .ref (ad 2)) (C := RX7) (T := TX7) (N := 6) hx hb hts in_X7_ofBody_7 hown hK.1 hP 0 rfl rfl 1 (by decide) (hts _ lk_X7_ofBody_19) (fun _ h9 => h9) rfl dX7_ofBody_72 ?_
      refine lv_iload_n hx hb dX7_ofBody_75 rfl (lv_at hl 1 rfl) ?_
      refine zk_r (zc_V (As := [.int (zi x0)]) (rest := []) ⟨hx, hb, hml, hown, hts⟩ (ct_X0_hostOf l D cI cZ cJ ad S hI x0 ⟨by omega, by omega⟩) (cwV 1 hts gX7_ofBody_X0_hostOf rfl rfl rfl (by decide +kernel) ⟨Nat.le_of_ble_eq_true rfl, Nat.le_of_ble_eq_true rfl⟩) hK hP (q0 := 2) (ci := 0) rfl rfl rfl rfl hl.1 rfl (Nat.le_of_ble_eq_true rfl) dX7_ofBody_76 ⟨by decide, by decide⟩) ?_
      refine zi_top (fun (r_76 : Int) (er_76 : r_76 = rAt 20 (S 8) x0) => ?_)
      have fr_76 : (-1 : Int) ≤ r_76 ∧ r_76 ≤ 19 := by rw [er_76]; exact CI.at hI 8 20 x0 ⟨by decide, by decide⟩
      exact xr_wi (T := S) hx hb hr hlocks dX7_ofBody_79 hP hS ⟨by decide, by decide⟩ (by exact ⟨hc_8, hc_15, by rw [if_neg (by omega), if_neg (by omega), if_pos (by omega), er_76], SC.rf, hI⟩)
    · refine lv_tableIn (off := 61) (tgt := 80) hx hb dX7_ofBody_19 (by rw [zi_toInt ⟨by omega, by omega⟩]; omega) (by rw [zi_toInt ⟨by omega, by omega⟩]; omega) (by rw [zi_toInt ⟨by omega, by omega⟩, c9]; rfl) (by decide) ?_
      refine lv_aload_n hx hb dX7_ofBody_80 rfl (lv_at hl 0 rfl) ?_
      refine va_get (D := D) (ci := 7) (v := .ref (ad 1)) (C := RX7) (T := TX7) (N := 6) hx hb hts in_X7_ofBody_7 hown hK.1 hP 0 rfl rfl 0 (by decide) (hts _ lk_X7_ofBody_10) (fun _ h9 => h9) rfl dX7_ofBody_81 ?_
      refine lv_aload_n hx hb dX7_ofBody_84 rfl (lv_at hl 0 rfl) ?_
      refine lv_iload_n hx hb dX7_ofBody_85 rfl (lv_at hl 1 rfl) ?_
      refine zk_wi (zc_V (As := [.int (zi x0)]) (rest := [.ref (ad 1)]) ⟨hx, hb, hml, hown, hts⟩ (ct_X7_firstLookOf l D cI cZ cJ ad S hI hdis x0 ⟨by omega, by omega⟩) (cwV 1 hts gX7_ofBody_X7_firstLookOf rfl rfl rfl (by decide +kernel) ⟨Nat.le_of_ble_eq_true rfl, Nat.le_of_ble_eq_true rfl⟩) hK hP (q0 := 0) (ci := 7) rfl rfl rfl rfl hl.1 rfl (Nat.le_of_ble_eq_true rfl) dX7_ofBody_86 ⟨by decide, by decide⟩) hS (fun r_86 S_86 H locs hp_86 hP hS => ?_)
      obtain ⟨er_86, e9, hI_86⟩ := hp_86
      have eS_86 := e9.symm; clear e9
      have fr_86 : (0 : Int) ≤ r_86 ∧ r_86 ≤ 59 := by rw [er_86, eS_86]; exact firstL_b hI_86
      refine zk_r (zc_V (As := [.int (zi r_86)]) (rest := []) ⟨hx, hb, hml, hown, hts⟩ (ct_X6_observatoryOf l D cI cZ cJ ad S_86 hI_86 r_86 ⟨by omega, by omega⟩) (cwV 1 hts gX7_ofBody_X6_observatoryOf rfl rfl rfl (by decide +kernel) ⟨Nat.le_of_ble_eq_true rfl, Nat.le_of_ble_eq_true rfl⟩) hK hP (q0 := 1) (ci := 6) rfl rfl rfl rfl hl.1 rfl (Nat.le_of_ble_eq_true rfl) dX7_ofBody_89 ⟨by decide, by decide⟩) ?_
      refine zi_top (fun (r_89 : Int) (er_89 : r_89 = oOf S_86 r_86) => ?_)
      have fr_89 : (0 : Int) ≤ r_89 ∧ r_89 ≤ 5 := by rw [er_89]; exact oOf_b hI_86 r_86
      exact xr_wi (T := S_86) hx hb hr hlocks dX7_ofBody_92 hP hS ⟨by decide, by decide⟩ (by exact ⟨hc_8, hc_15, by rw [if_neg (by omega), if_neg (by omega), if_neg (by omega), if_pos (by omega), er_89, er_86, eS_86], by rw [← eS_86]; exact SC_ga, hI_86⟩)
    · refine lv_tableIn (off := 74) (tgt := 93) hx hb dX7_ofBody_19 (by rw [zi_toInt ⟨by omega, by omega⟩]; omega) (by rw [zi_toInt ⟨by omega, by omega⟩]; omega) (by rw [zi_toInt ⟨by omega, by omega⟩, c9]; rfl) (by decide) ?_
      refine lv_aload_n hx hb dX7_ofBody_93 rfl (lv_at hl 0 rfl) ?_
      refine lv_iload_n hx hb dX7_ofBody_94 rfl (lv_at hl 1 rfl) ?_
      refine zk_wi (zc_V (As := [.int (zi x0)]) (rest := []) ⟨hx, hb, hml, hown, hts⟩ (ct_X7_firstLookOf l D cI cZ cJ ad S hI hdis x0 ⟨by omega, by omega⟩) (cwV 1 hts gX7_ofBody_X7_firstLookOf rfl rfl rfl (by decide +kernel) ⟨Nat.le_of_ble_eq_true rfl, Nat.le_of_ble_eq_true rfl⟩) hK hP (q0 := 0) (ci := 7) rfl rfl rfl rfl hl.1 rfl (Nat.le_of_ble_eq_true rfl) dX7_ofBody_95 ⟨by decide, by decide⟩) hS (fun r_95 S_95 H locs hp_95 hP hS => ?_)
      obtain ⟨er_95, e9, hI_95⟩ := hp_95
      have eS_95 := e9.symm; clear e9
      have fr_95 : (0 : Int) ≤ r_95 ∧ r_95 ≤ 59 := by rw [er_95, eS_95]; exact firstL_b hI_95
      exact xr_wi (T := S_95) hx hb hr hlocks dX7_ofBody_98 hP hS ⟨by decide, by decide⟩ (by exact ⟨hc_8, hc_15, by rw [if_neg (by omega), if_neg (by omega), if_neg (by omega), if_neg (by omega), if_pos (by omega), er_95], by rw [← eS_95]; exact SC_ga, hI_95⟩)
    · refine lv_tableIn (off := 80) (tgt := 99) hx hb dX7_ofBody_19 (by rw [zi_toInt ⟨by omega, by omega⟩]; omega) (by rw [zi_toInt ⟨by omega, by omega⟩]; omega) (by rw [zi_toInt ⟨by omega, by omega⟩, c9]; rfl) (by decide) ?_
      refine lv_aload_n hx hb dX7_ofBody_99 rfl (lv_at hl 0 rfl) ?_
      refine va_get (D := D) (ci := 7) (v := .ref (ad 2)) (C := RX7) (T := TX7) (N := 6) hx hb hts in_X7_ofBody_7 hown hK.1 hP 0 rfl rfl 1 (by decide) (hts _ lk_X7_ofBody_19) (fun _ h9 => h9) rfl dX7_ofBody_100 ?_
      refine lv_iload_n hx hb dX7_ofBody_103 rfl (lv_at hl 1 rfl) ?_
      refine zk_r (zc_V (As := [.int (zi x0)]) (rest := []) ⟨hx, hb, hml, hown, hts⟩ (ct_X0_numberOf l D cI cZ cJ ad S hI x0 ⟨by omega, by omega⟩) (cwV 1 hts gX7_ofBody_X0_numberOf rfl rfl rfl (by decide +kernel) ⟨Nat.le_of_ble_eq_true rfl, Nat.le_of_ble_eq_true rfl⟩) hK hP (q0 := 2) (ci := 0) rfl rfl rfl rfl hl.1 rfl (Nat.le_of_ble_eq_true rfl) dX7_ofBody_104 ⟨by decide, by decide⟩) ?_
      refine zi_top (fun (r_104 : Int) (er_104 : r_104 = rAt 20 (S 10) x0) => ?_)
      have fr_104 : (-1 : Int) ≤ r_104 ∧ r_104 ≤ 20 := by rw [er_104]; exact CI.at hI 10 20 x0 ⟨by decide, by decide⟩
      exact xr_wi (T := S) hx hb hr hlocks dX7_ofBody_107 hP hS ⟨by decide, by decide⟩ (by exact ⟨hc_8, hc_15, by rw [if_neg (by omega), if_neg (by omega), if_neg (by omega), if_neg (by omega), if_neg (by omega), if_pos (by omega), er_104], SC.rf, hI⟩)

theorem in_X7_number_7 : ∀ w ∈ wsX70, w ∈ wsX7_number := by decide +kernel
theorem lk_X7_number_19 : Cond.fieldLink RX7 19 "PlanetoidDesk" "bodies" "LPlanetoidDesk$Bodies;" ∈ wsX7_number := by decide +kernel
theorem in_X7_number_0 : ∀ w ∈ wsX00, w ∈ wsX7_number := by decide +kernel
theorem lk_X7_number_33 : Cond.fieldLink RX7 33 "PlanetoidDesk" "fitting" "LPlanetoidDesk$Orbits;" ∈ wsX7_number := by decide +kernel
theorem af_X7_number_63 : ∀ w ∈ (vx_atS RX7 63 xISE xNS).filter goodWord, w ∈ wsX7_number := by decide +kernel
theorem cl59_X7_number : Cond.classLink RX7 59 xISE ∈ wsX7_number := by decide +kernel
theorem ini59_X7_number : Cond.initialized xISE ∈ wsX7_number := by decide +kernel
abbrev rmct_X7_number : Room := { frames := 7, cells := 2, slots := 12, locals := 137 }
set_option maxHeartbeats 4000000 in
set_option maxRecDepth 100000 in
theorem ct_X7_number (l : Launch) (hst : l.stackTraces = false) (D : va_G) (cI cZ cJ : ClassId) (sa : Nat → Nat) (ad : Nat → Nat) (S : ZS) (hI : CI S) (hdis : dDis ad) (x0 : Int) (hx0 : ir x0) (hnn : 0 ≤ x0 → x0 < S 23 0 → numP S x0 → S 25 0 < 20) : vx_Met l yX7_number wsX7_number rmct_X7_number (va_Pc [.ref (ad 0), .int (zi x0)] (fun U => va_P D vwCl (dW cI ad S) U.heap ∧ KK D cI cZ cJ U ∧ xP sa (dA ad) U U.heap)) (zWi D (dW cI ad) (dA ad) (fun r T => (0 ≤ x0 ∧ x0 < S 23 0) ∧ (numP S x0) ∧ r = (S 25 0 + 1) ∧ SC (su (su (su S 25 (fun _ => S 25 0 + 1)) 10 (rPut 20 (S 10) x0 (S 25 0 + 1))) 11 (rPut 20 (S 11) x0 (oatC (tlAll 0 (findO x0 (gatherL x0 S))) 3600 0 0 % 405))) T ∧ CI T)) (xX D cI ad (fun E T => ((¬ (0 ≤ x0 ∧ x0 < S 23 0) ∧ E = xIOB) ∨ ((0 ≤ x0 ∧ x0 < S 23 0) ∧ ¬ (numP S x0) ∧ E = xISE)) ∧ SC S T ∧ CI T)) 2 12 (dA ad) := by
  refine vx_ofW (cc := cX7_number) (maxL := 2) (ret := (some .int)) (by decide) rfl ?_
  intro p e s m args below meth c s₁ B hml htab hv
  obtain ⟨rfl, hP, hK, hX⟩ := hv
  have hx := B.exec
  have hb := B.bytes
  have hr := B.returns
  have hts := atoms_spec (ws := wsX7_number) B.pre
  have hown : s.vm.findClass RX7 = some m.cls := findClass_of_methodNamed B.named
  have hlocks := B.notSynchronized
  have hl := lv_entry ([.ref (ad 0), .int (zi x0)]) (n := 2) (Nat.le_of_ble_eq_true rfl)
  rw [lg_entry_eq]
  generalize (lg_sl ([.ref (ad 0), .int (zi x0)]) ++ List.replicate (2 - (lg_sl ([.ref (ad 0), .int (zi x0)])).length) Slot.unset).toArray = ls at hl ⊢
  have hl : lv_has ls 2 [(0, .ref (ad 0)), (1, .int (zi x0))] := hl
  have hS : va_S (dA ad) s.heap s.heap [] := va_S.rf
  show W p l e rmct_X7_number s m ([.ref (ad 0), .int (zi x0)] : List Value).toArray below meth c s.heap [] 0 0 (vx_MQ below (zWi D (dW cI ad) (dA ad) (fun r T => (0 ≤ x0 ∧ x0 < S 23 0) ∧ (numP S x0) ∧ r = (S 25 0 + 1) ∧ SC (su (su (su S 25 (fun _ => S 25 0 + 1)) 10 (rPut 20 (S 10) x0 (S 25 0 + 1))) 11 (rPut 20 (S 11) x0 (oatC (tlAll 0 (findO x0 (gatherL x0 S))) 3600 0 0 % 405))) T ∧ CI T)) (xX D cI ad (fun E T => ((¬ (0 ≤ x0 ∧ x0 < S 23 0) ∧ E = xIOB) ∨ ((0 ≤ x0 ∧ x0 < S 23 0) ∧ ¬ (numP S x0) ∧ E = xISE)) ∧ SC S T ∧ CI T)) ([.ref (ad 0), .int (zi x0)] : List Value).toArray s 2 12 (dA ad)) (F0 m 0 ls [])
  refine lv_iload_n hx hb dX7_number_0 rfl (lv_at hl 1 rfl) ?_
  refine lv_aload_n hx hb dX7_number_1 rfl (lv_at hl 0 rfl) ?_
  refine va_get (D := D) (ci := 7) (v := .ref (ad 2)) (C := RX7) (T := TX7) (N := 6) hx hb hts in_X7_number_7 hown hK.1 hP 0 rfl rfl 1 (by decide) (hts _ lk_X7_number_19) (fun _ h9 => h9) rfl dX7_number_2 ?_
  refine va_getN (D := D) (ci := 0) (v := .int (zi (S 23 0))) (C := RX0) (T := TX0) (N := 8) hx hb hts in_X7_number_0 hown hK.1 hP 2 rfl rfl 5 (by decide) (va_Nw.use rfl (hK.2 _ (List.mem_of_getElem? (i := 0) rfl))) (fun _ h9 => h9) rfl dX7_number_5 ?_
  have f_5 : (0 : Int) ≤ S 23 0 ∧ S 23 0 ≤ 20 := hI 23 0
  refine xc_chk (As := [.int (zi x0), .int (zi (S 23 0))]) (rest := []) (S0 := S) ⟨hx, hb, hml, hown, hts⟩ (ct_X7_needOneOf l hst x0 (S 23 0) ⟨by omega, by omega⟩ ⟨by omega, by omega⟩) (va_cwS 2 hts gX7_number_X7_needOneOf rfl rfl rfl (by decide +kernel) ⟨Nat.le_of_ble_eq_true rfl, Nat.le_of_ble_eq_true rfl⟩) hX hS hP htab hlocks rfl hl.1 rfl (Nat.le_of_ble_eq_true rfl) dX7_number_8 ⟨by decide, by decide⟩ ⟨by decide, by decide⟩ (fun hn_8 => ⟨Or.inl ⟨hn_8, rfl⟩, SC.rf, hI⟩) (fun hc_8 H locs hP hS => ?_)
  refine lv_aload_n hx hb dX7_number_11 rfl (lv_at hl 0 rfl) ?_
  refine lv_iload_n hx hb dX7_number_12 rfl (lv_at hl 1 rfl) ?_
  refine zk_wi (zc_V (As := [.int (zi x0)]) (rest := []) ⟨hx, hb, hml, hown, hts⟩ (ct_X7_canGetNumber l D cI cZ cJ ad S hI hdis x0 ⟨by omega, by omega⟩) (cwV 1 hts gX7_number_X7_canGetNumber rfl rfl rfl (by decide +kernel) ⟨Nat.le_of_ble_eq_true rfl, Nat.le_of_ble_eq_true rfl⟩) hK hP (q0 := 0) (ci := 7) rfl rfl rfl rfl hl.1 rfl (Nat.le_of_ble_eq_true rfl) dX7_number_13 ⟨by decide, by decide⟩) hS (fun r_13 S_13 H locs hp_13 hP hS => ?_)
  obtain ⟨er_13, hfo_13, hsc_13, hI_13⟩ := hp_13
  have fr_13 : (0 : Int) ≤ r_13 ∧ r_13 ≤ 1 := by rw [er_13]; exact b2_b
  refine zi_if_ne (tgt := 29) hx hb ⟨by omega, by omega⟩ dX7_number_16 (by decide) (fun c_16 => ?_) (fun c_16 => ?_)
  · refine lv_aload_n hx hb dX7_number_29 rfl (lv_at hl 0 rfl) ?_
    refine va_get (D := D) (ci := 7) (v := .ref (ad 2)) (C := RX7) (T := TX7) (N := 6) hx hb hts in_X7_number_7 hown hK.1 hP 0 rfl rfl 1 (by decide) (hts _ lk_X7_number_19) (fun _ h9 => h9) rfl dX7_number_30 ?_
    refine lv_iload_n hx hb dX7_number_33 rfl (lv_at hl 1 rfl) ?_
    refine lv_aload_n hx hb dX7_number_34 rfl (lv_at hl 0 rfl) ?_
    refine va_get (D := D) (ci := 7) (v := .ref (ad 4)) (C := RX7) (T := TX7) (N := 6) hx hb hts in_X7_number_7 hown hK.1 hP 0 rfl rfl 3 (by decide) (hts _ lk_X7_number_33) (fun _ h9 => h9) rfl dX7_number_35 ?_
    refine zi_iconst hx hb dX7_number_38 ?_
    refine zk_wi (zc_V (As := [.int (zi 0)]) (rest := [.int (zi x0), .ref (ad 2)]) ⟨hx, hb, hml, hown, hts⟩ (ct_X3_orbitAt l D cI cZ cJ ad S_13 hI_13 hdis 0 ⟨by decide, by decide⟩ (by omega) (by omega)) (cwV 1 hts gX7_number_X3_orbitAt rfl rfl rfl (by decide +kernel) ⟨Nat.le_of_ble_eq_true rfl, Nat.le_of_ble_eq_true rfl⟩) hK hP (q0 := 4) (ci := 3) rfl rfl rfl rfl hl.1 rfl (Nat.le_of_ble_eq_true rfl) dX7_number_39 ⟨by decide, by decide⟩) hS (fun r_39 S_39 H locs hp_39 hP hS => ?_)
    obtain ⟨er_39, e9, hI_39⟩ := hp_39
    have eS_39 := e9.symm; clear e9
    have fr_39 : (0 : Int) ≤ r_39 ∧ r_39 ≤ 1457999 := by rw [er_39]; exact oat_b _ 3600 0 _ (by omega) (by omega)
    have h39 : SC S S_39 := hsc_13.tr (by rw [← eS_39]; exact SC_tl)
    have h_25 : S_39 25 0 < 20 := by rw [h39 25 rfl]; exact hnn hc_8.1 hc_8.2 (b2_1 er_13 c_16)
    refine zi_sipush hx hb dX7_number_42 (by decide) ?_
    refine zi_irem hx hb ⟨by omega, by omega⟩ ⟨by omega, by omega⟩ (by omega) (by omega) dX7_number_45 ?_
    refine zk_wi (zc_V (As := [.int (zi x0), .int (zi (r_39 % 405))]) (rest := []) ⟨hx, hb, hml, hown, hts⟩ (ct_X0_giveNumber l D cI cZ cJ ad S_39 hI_39 hdis x0 (r_39 % 405) ⟨by omega, by omega⟩ ⟨by omega, by omega⟩ (by omega) (by omega) (by omega)) (cwV 2 hts gX7_number_X0_giveNumber rfl rfl rfl (by decide +kernel) ⟨Nat.le_of_ble_eq_true rfl, Nat.le_of_ble_eq_true rfl⟩) hK hP (q0 := 2) (ci := 0) rfl rfl rfl rfl hl.1 rfl (Nat.le_of_ble_eq_true rfl) dX7_number_46 ⟨by decide, by decide⟩) hS (fun r_46 S_46 H locs hp_46 hP hS => ?_)
    obtain ⟨er_46, e9, hI_46⟩ := hp_46
    have eS_46 := e9.symm; clear e9
    exact xr_wi (T := S_46) hx hb hr hlocks dX7_number_49 hP hS ⟨by decide, by decide⟩ (by exact ⟨hc_8, b2_1 er_13 c_16, by rw [er_46, h39 25 rfl], by rw [← eS_46]; exact SC_u (SC_u (SC_u h39 (by rw [h39 25 rfl])) (by rw [h39 10 rfl, h39 25 rfl])) (by rw [h39 11 rfl, er_39, hfo_13 c_16]), hI_46⟩)
  · exact vx_throwS hx hb hst hown (by decide) xNS_fit (hts _ cl59_X7_number) (hts _ ini59_X7_number) (hX.2.2.1 11 (164, "the body cannot get a number") rfl) (xB_in (n := 0) (cls := xISE) sub_63 hX (fun w hw => hts w (af_X7_number_63 w hw))) ot_63 hX.1 hX.2.1 hS (hl.1.trans hml.symm) dX7_number_19 dX7_number_22 dX7_number_23 dX7_number_25 dX7_number_28 (fun x h9 => (htab x h9).elim) (by decide) (by decide) (by decide) (by decide) hlocks (xx_thr hP hS (⟨Or.inr (⟨hc_8, (b2_0 er_13 c_16), rfl⟩), hsc_13, hI_13⟩)) (fun z hz => hS.2.2 z hz) (by decide) (by decide)

theorem in_X7_family_7 : ∀ w ∈ wsX70, w ∈ wsX7_family := by decide +kernel
theorem lk_X7_family_19 : Cond.fieldLink RX7 19 "PlanetoidDesk" "bodies" "LPlanetoidDesk$Bodies;" ∈ wsX7_family := by decide +kernel
theorem in_X7_family_0 : ∀ w ∈ wsX00, w ∈ wsX7_family := by decide +kernel
theorem lk_X7_family_47 : Cond.fieldLink RX7 47 "PlanetoidDesk" "kinship" "LPlanetoidDesk$Kinship;" ∈ wsX7_family := by decide +kernel
abbrev rmct_X7_family : Room := { frames := 7, cells := 3, slots := 18, locals := 117 }
set_option maxHeartbeats 4000000 in
set_option maxRecDepth 100000 in
theorem ct_X7_family (l : Launch) (hst : l.stackTraces = false) (D : va_G) (cI cZ cJ : ClassId) (sa : Nat → Nat) (ad : Nat → Nat) (S : ZS) (hI : CI S) (hdis : dDis ad) (x0 x1 : Int) (hx0 : ir x0) (hx1 : ir x1)  : vx_Met l yX7_family wsX7_family rmct_X7_family (va_Pc [.ref (ad 0), .int (zi x0), .int (zi x1)] (fun U => va_P D vwCl (dW cI ad S) U.heap ∧ KK D cI cZ cJ U ∧ xP sa (dA ad) U U.heap)) (zWi D (dW cI ad) (dA ad) (fun r T => (0 ≤ x0 ∧ x0 < S 23 0) ∧ (0 ≤ x1 ∧ x1 ≤ 90) ∧ r = (if rAt 20 (S 10) x0 = -1 then -1 else withC (ffAll x1 S) (rAt 20 (ffAll x1 S 19) x0)) ∧ SC S T ∧ CI T)) (xX D cI ad (fun E T => ((¬ (0 ≤ x0 ∧ x0 < S 23 0) ∧ E = xIOB) ∨ ((0 ≤ x0 ∧ x0 < S 23 0) ∧ ¬ (0 ≤ x1 ∧ x1 ≤ 90) ∧ E = xIAE)) ∧ SC S T ∧ CI T)) 3 18 (dA ad) := by
  refine vx_ofW (cc := cX7_family) (maxL := 3) (ret := (some .int)) (by decide) rfl ?_
  intro p e s m args below meth c s₁ B hml htab hv
  obtain ⟨rfl, hP, hK, hX⟩ := hv
  have hx := B.exec
  have hb := B.bytes
  have hr := B.returns
  have hts := atoms_spec (ws := wsX7_family) B.pre
  have hown : s.vm.findClass RX7 = some m.cls := findClass_of_methodNamed B.named
  have hlocks := B.notSynchronized
  have hl := lv_entry ([.ref (ad 0), .int (zi x0), .int (zi x1)]) (n := 3) (Nat.le_of_ble_eq_true rfl)
  rw [lg_entry_eq]
  generalize (lg_sl ([.ref (ad 0), .int (zi x0), .int (zi x1)]) ++ List.replicate (3 - (lg_sl ([.ref (ad 0), .int (zi x0), .int (zi x1)])).length) Slot.unset).toArray = ls at hl ⊢
  have hl : lv_has ls 3 [(0, .ref (ad 0)), (1, .int (zi x0)), (2, .int (zi x1))] := hl
  have hS : va_S (dA ad) s.heap s.heap [] := va_S.rf
  show W p l e rmct_X7_family s m ([.ref (ad 0), .int (zi x0), .int (zi x1)] : List Value).toArray below meth c s.heap [] 0 0 (vx_MQ below (zWi D (dW cI ad) (dA ad) (fun r T => (0 ≤ x0 ∧ x0 < S 23 0) ∧ (0 ≤ x1 ∧ x1 ≤ 90) ∧ r = (if rAt 20 (S 10) x0 = -1 then -1 else withC (ffAll x1 S) (rAt 20 (ffAll x1 S 19) x0)) ∧ SC S T ∧ CI T)) (xX D cI ad (fun E T => ((¬ (0 ≤ x0 ∧ x0 < S 23 0) ∧ E = xIOB) ∨ ((0 ≤ x0 ∧ x0 < S 23 0) ∧ ¬ (0 ≤ x1 ∧ x1 ≤ 90) ∧ E = xIAE)) ∧ SC S T ∧ CI T)) ([.ref (ad 0), .int (zi x0), .int (zi x1)] : List Value).toArray s 3 18 (dA ad)) (F0 m 0 ls [])
  refine lv_iload_n hx hb dX7_family_0 rfl (lv_at hl 1 rfl) ?_
  refine lv_aload_n hx hb dX7_family_1 rfl (lv_at hl 0 rfl) ?_
  refine va_get (D := D) (ci := 7) (v := .ref (ad 2)) (C := RX7) (T := TX7) (N := 6) hx hb hts in_X7_family_7 hown hK.1 hP 0 rfl rfl 1 (by decide) (hts _ lk_X7_family_19) (fun _ h9 => h9) rfl dX7_family_2 ?_
  refine va_getN (D := D) (ci := 0) (v := .int (zi (S 23 0))) (C := RX0) (T := TX0) (N := 8) hx hb hts in_X7_family_0 hown hK.1 hP 2 rfl rfl 5 (by decide) (va_Nw.use rfl (hK.2 _ (List.mem_of_getElem? (i := 0) rfl))) (fun _ h9 => h9) rfl dX7_family_5 ?_
  have f_5 : (0 : Int) ≤ S 23 0 ∧ S 23 0 ≤ 20 := hI 23 0
  refine xc_chk (As := [.int (zi x0), .int (zi (S 23 0))]) (rest := []) (S0 := S) ⟨hx, hb, hml, hown, hts⟩ (ct_X7_needOneOf l hst x0 (S 23 0) ⟨by omega, by omega⟩ ⟨by omega, by omega⟩) (va_cwS 2 hts gX7_family_X7_needOneOf rfl rfl rfl (by decide +kernel) ⟨Nat.le_of_ble_eq_true rfl, Nat.le_of_ble_eq_true rfl⟩) hX hS hP htab hlocks rfl hl.1 rfl (Nat.le_of_ble_eq_true rfl) dX7_family_8 ⟨by decide, by decide⟩ ⟨by decide, by decide⟩ (fun hn_8 => ⟨Or.inl ⟨hn_8, rfl⟩, SC.rf, hI⟩) (fun hc_8 H locs hP hS => ?_)
  refine lv_iload_n hx hb dX7_family_11 rfl (lv_at hl 2 rfl) ?_
  refine zi_iconst hx hb dX7_family_12 ?_
  refine zi_bipush hx hb dX7_family_13 (by decide) ?_
  refine xc_chk (As := [.int (zi x1), .int (zi 0), .int (zi 90)]) (rest := []) (S0 := S) ⟨hx, hb, hml, hown, hts⟩ (ct_X7_needWithin l hst x1 0 90 ⟨by omega, by omega⟩ ⟨by decide, by decide⟩ ⟨by decide, by decide⟩) (va_cwS 3 hts gX7_family_X7_needWithin rfl rfl rfl (by decide +kernel) ⟨Nat.le_of_ble_eq_true rfl, Nat.le_of_ble_eq_true rfl⟩) hX hS hP htab hlocks rfl hl.1 rfl (Nat.le_of_ble_eq_true rfl) dX7_family_15 ⟨by decide, by decide⟩ ⟨by decide, by decide⟩ (fun hn_15 => ⟨Or.inr (⟨hc_8, hn_15, rfl⟩), SC.rf, hI⟩) (fun hc_15 H locs hP hS => ?_)
  refine lv_aload_n hx hb dX7_family_18 rfl (lv_at hl 0 rfl) ?_
  refine va_get (D := D) (ci := 7) (v := .ref (ad 2)) (C := RX7) (T := TX7) (N := 6) hx hb hts in_X7_family_7 hown hK.1 hP 0 rfl rfl 1 (by decide) (hts _ lk_X7_family_19) (fun _ h9 => h9) rfl dX7_family_19 ?_
  refine lv_iload_n hx hb dX7_family_22 rfl (lv_at hl 1 rfl) ?_
  refine zk_r (zc_V (As := [.int (zi x0)]) (rest := []) ⟨hx, hb, hml, hown, hts⟩ (ct_X0_numberOf l D cI cZ cJ ad S hI x0 ⟨by omega, by omega⟩) (cwV 1 hts gX7_family_X0_numberOf rfl rfl rfl (by decide +kernel) ⟨Nat.le_of_ble_eq_true rfl, Nat.le_of_ble_eq_true rfl⟩) hK hP (q0 := 2) (ci := 0) rfl rfl rfl rfl hl.1 rfl (Nat.le_of_ble_eq_true rfl) dX7_family_23 ⟨by decide, by decide⟩) ?_
  refine zi_top (fun (r_23 : Int) (er_23 : r_23 = rAt 20 (S 10) x0) => ?_)
  have fr_23 : (-1 : Int) ≤ r_23 ∧ r_23 ≤ 20 := by rw [er_23]; exact CI.at hI 10 20 x0 ⟨by decide, by decide⟩
  refine zi_iconst hx hb dX7_family_26 ?_
  refine zi_icmp_ne (tgt := 32) hx hb ⟨by omega, by omega⟩ ⟨by decide, by decide⟩ dX7_family_27 (by decide) (fun c_27 => ?_) (fun c_27 => ?_)
  · refine lv_aload_n hx hb dX7_family_32 rfl (lv_at hl 0 rfl) ?_
    refine va_get (D := D) (ci := 7) (v := .ref (ad 6)) (C := RX7) (T := TX7) (N := 6) hx hb hts in_X7_family_7 hown hK.1 hP 0 rfl rfl 5 (by decide) (hts _ lk_X7_family_47) (fun _ h9 => h9) rfl dX7_family_33 ?_
    refine lv_aload_n hx hb dX7_family_36 rfl (lv_at hl 0 rfl) ?_
    refine va_get (D := D) (ci := 7) (v := .ref (ad 2)) (C := RX7) (T := TX7) (N := 6) hx hb hts in_X7_family_7 hown hK.1 hP 0 rfl rfl 1 (by decide) (hts _ lk_X7_family_19) (fun _ h9 => h9) rfl dX7_family_37 ?_
    refine lv_iload_n hx hb dX7_family_40 rfl (lv_at hl 2 rfl) ?_
    refine zk_wv (zc_V (As := [.ref (ad 2), .int (zi x1)]) (rest := []) ⟨hx, hb, hml, hown, hts⟩ (ct_X1_findFamilies l D cI cZ cJ ad S hI hdis x1 ⟨by omega, by omega⟩ (by omega) (by omega)) (cwV 2 hts gX7_family_X1_findFamilies rfl rfl rfl (by decide +kernel) ⟨Nat.le_of_ble_eq_true rfl, Nat.le_of_ble_eq_true rfl⟩) hK hP (q0 := 6) (ci := 1) rfl rfl rfl rfl hl.1 rfl (Nat.le_of_ble_eq_true rfl) dX7_family_41 ⟨by decide, by decide⟩) hS (fun S_41 H locs hp_41 hP hS => ?_)
    obtain ⟨e9, hI_41⟩ := hp_41
    have eS_41 := e9.symm; clear e9
    refine lv_aload_n hx hb dX7_family_44 rfl (lv_at hl 0 rfl) ?_
    refine va_get (D := D) (ci := 7) (v := .ref (ad 2)) (C := RX7) (T := TX7) (N := 6) hx hb hts in_X7_family_7 hown hK.1 hP 0 rfl rfl 1 (by decide) (hts _ lk_X7_family_19) (fun _ h9 => h9) rfl dX7_family_45 ?_
    refine lv_aload_n hx hb dX7_family_48 rfl (lv_at hl 0 rfl) ?_
    refine va_get (D := D) (ci := 7) (v := .ref (ad 6)) (C := RX7) (T := TX7) (N := 6) hx hb hts in_X7_family_7 hown hK.1 hP 0 rfl rfl 5 (by decide) (hts _ lk_X7_family_47) (fun _ h9 => h9) rfl dX7_family_49 ?_
    refine lv_iload_n hx hb dX7_family_52 rfl (lv_at hl 1 rfl) ?_
    refine zk_r (zc_V (As := [.int (zi x0)]) (rest := [.ref (ad 2)]) ⟨hx, hb, hml, hown, hts⟩ (ct_X1_lowestNumberWith l D cI cZ cJ ad S_41 hI_41 x0 ⟨by omega, by omega⟩) (cwV 1 hts gX7_family_X1_lowestNumberWith rfl rfl rfl (by decide +kernel) ⟨Nat.le_of_ble_eq_true rfl, Nat.le_of_ble_eq_true rfl⟩) hK hP (q0 := 6) (ci := 1) rfl rfl rfl rfl hl.1 rfl (Nat.le_of_ble_eq_true rfl) dX7_family_53 ⟨by decide, by decide⟩) ?_
    refine zi_top (fun (r_53 : Int) (er_53 : r_53 = rAt 20 (S_41 19) x0) => ?_)
    have fr_53 : (-1 : Int) ≤ r_53 ∧ r_53 ≤ 20 := by rw [er_53]; exact CI.at hI_41 19 20 x0 ⟨by decide, by decide⟩
    refine zk_r (zc_V (As := [.int (zi r_53)]) (rest := []) ⟨hx, hb, hml, hown, hts⟩ (ct_X0_withNumber l D cI cZ cJ ad S_41 hI_41 r_53 ⟨by omega, by omega⟩) (cwV 1 hts gX7_family_X0_withNumber rfl rfl rfl (by decide +kernel) ⟨Nat.le_of_ble_eq_true rfl, Nat.le_of_ble_eq_true rfl⟩) hK hP (q0 := 2) (ci := 0) rfl rfl rfl rfl hl.1 rfl (Nat.le_of_ble_eq_true rfl) dX7_family_56 ⟨by decide, by decide⟩) ?_
    refine zi_top (fun (r_56 : Int) (er_56 : r_56 = withC S_41 r_53) => ?_)
    have fr_56 : (-1 : Int) ≤ r_56 ∧ r_56 ≤ 19 := by rw [er_56]; exact withC_b hI_41 _
    exact xr_wi (T := S_41) hx hb hr hlocks dX7_family_59 hP hS ⟨by decide, by decide⟩ (by exact ⟨hc_8, hc_15, by rw [if_neg (fun h9 => c_27 (er_23.trans h9)), eS_41, er_56, er_53], by rw [← eS_41]; exact SC_ff, hI_41⟩)
  · refine zi_iconst hx hb dX7_family_30 ?_
    exact xr_wi (T := S) hx hb hr hlocks dX7_family_31 hP hS ⟨by decide, by decide⟩ (by exact ⟨hc_8, hc_15, (if_pos (er_23.symm.trans c_27)).symm, SC.rf, hI⟩)
