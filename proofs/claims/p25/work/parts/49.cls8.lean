noncomputable def tuFC (L : ZS) (p b : Int) : Int := if fltC L p < fltC L b then p else b
noncomputable def tuBC (L : ZS) : Int := itr (tuFC L) 18 3 2
noncomputable def tuC (L : ZS) (w : Int) : Int := if L 26 0 < 4 then -1 else if w = 0 then tuBC L else fltC L (tuBC L)
noncomputable def chC (w : Int) (P : ZS) : Int := if gcdC 64 (P 28 0) (P 27 0) = 0 then 0 else (if w = 0 then P 28 0 else P 27 0) / gcdC 64 (P 28 0) (P 27 0)
def orvC (w f : Int) : Int := if w = 0 then f / 405 else if w = 1 then bC (f % 405) else cC (f % 405)
theorem in_X7_turn_7 : ∀ w ∈ wsX70, w ∈ wsX7_turn := by decide +kernel
theorem lk_X7_turn_19 : Cond.fieldLink RX7 19 "PlanetoidDesk" "bodies" "LPlanetoidDesk$Bodies;" ∈ wsX7_turn := by decide +kernel
theorem in_X7_turn_0 : ∀ w ∈ wsX00, w ∈ wsX7_turn := by decide +kernel
theorem lk_X7_turn_26 : Cond.fieldLink RX7 26 "PlanetoidDesk" "looks" "LPlanetoidDesk$Looks;" ∈ wsX7_turn := by decide +kernel
theorem in_X7_turn_2 : ∀ w ∈ wsX20, w ∈ wsX7_turn := by decide +kernel
abbrev rmct_X7_turn : Room := { frames := 7, cells := 2, slots := 12, locals := 103 }
set_option maxHeartbeats 4000000 in
set_option maxRecDepth 100000 in
theorem ct_X7_turn (l : Launch) (hst : l.stackTraces = false) (D : va_G) (cI cZ cJ : ClassId) (sa : Nat → Nat) (ad : Nat → Nat) (S : ZS) (hI : CI S) (hdis : dDis ad) (x0 x1 : Int) (hx0 : ir x0) (hx1 : ir x1)  : vx_Met l yX7_turn wsX7_turn rmct_X7_turn (va_Pc [.ref (ad 0), .int (zi x0), .int (zi x1)] (fun U => va_P D vwCl (dW cI ad S) U.heap ∧ KK D cI cZ cJ U ∧ xP sa (dA ad) U U.heap)) (zWi D (dW cI ad) (dA ad) (fun r T => (0 ≤ x0 ∧ x0 < S 23 0) ∧ r = (tuC (gatherL x0 S) x1) ∧ T = gatherL x0 S ∧ CI T)) (xX D cI ad (fun E T => ((¬ (0 ≤ x0 ∧ x0 < S 23 0) ∧ E = xIOB)) ∧ SC S T ∧ CI T)) 2 12 (dA ad) := by
  refine vx_ofW (cc := cX7_turn) (maxL := 7) (ret := (some .int)) (by decide) rfl ?_
  intro p e s m args below meth c s₁ B hml htab hv
  obtain ⟨rfl, hP, hK, hX⟩ := hv
  have hx := B.exec
  have hb := B.bytes
  have hr := B.returns
  have hts := atoms_spec (ws := wsX7_turn) B.pre
  have hown : s.vm.findClass RX7 = some m.cls := findClass_of_methodNamed B.named
  have hlocks := B.notSynchronized
  have hl := lv_entry ([.ref (ad 0), .int (zi x0), .int (zi x1)]) (n := 7) (Nat.le_of_ble_eq_true rfl)
  rw [lg_entry_eq]
  generalize (lg_sl ([.ref (ad 0), .int (zi x0), .int (zi x1)]) ++ List.replicate (7 - (lg_sl ([.ref (ad 0), .int (zi x0), .int (zi x1)])).length) Slot.unset).toArray = ls at hl ⊢
  have hl : lv_has ls 7 [(0, .ref (ad 0)), (1, .int (zi x0)), (2, .int (zi x1))] := hl
  have hS : va_S (dA ad) s.heap s.heap [] := va_S.rf
  show W p l e rmct_X7_turn s m ([.ref (ad 0), .int (zi x0), .int (zi x1)] : List Value).toArray below meth c s.heap [] 0 0 (vx_MQ below (zWi D (dW cI ad) (dA ad) (fun r T => (0 ≤ x0 ∧ x0 < S 23 0) ∧ r = (tuC (gatherL x0 S) x1) ∧ T = gatherL x0 S ∧ CI T)) (xX D cI ad (fun E T => ((¬ (0 ≤ x0 ∧ x0 < S 23 0) ∧ E = xIOB)) ∧ SC S T ∧ CI T)) ([.ref (ad 0), .int (zi x0), .int (zi x1)] : List Value).toArray s 2 12 (dA ad)) (F0 m 0 ls [])
  refine lv_iload_n hx hb dX7_turn_0 rfl (lv_at hl 1 rfl) ?_
  refine lv_aload_n hx hb dX7_turn_1 rfl (lv_at hl 0 rfl) ?_
  refine va_get (D := D) (ci := 7) (v := .ref (ad 2)) (C := RX7) (T := TX7) (N := 6) hx hb hts in_X7_turn_7 hown hK.1 hP 0 rfl rfl 1 (by decide) (hts _ lk_X7_turn_19) (fun _ h9 => h9) rfl dX7_turn_2 ?_
  refine va_getN (D := D) (ci := 0) (v := .int (zi (S 23 0))) (C := RX0) (T := TX0) (N := 8) hx hb hts in_X7_turn_0 hown hK.1 hP 2 rfl rfl 5 (by decide) (va_Nw.use rfl (hK.2 _ (List.mem_of_getElem? (i := 0) rfl))) (fun _ h9 => h9) rfl dX7_turn_5 ?_
  have f_5 : (0 : Int) ≤ S 23 0 ∧ S 23 0 ≤ 20 := hI 23 0
  refine xc_chk (As := [.int (zi x0), .int (zi (S 23 0))]) (rest := []) (S0 := S) ⟨hx, hb, hml, hown, hts⟩ (ct_X7_needOneOf l hst x0 (S 23 0) ⟨by omega, by omega⟩ ⟨by omega, by omega⟩) (va_cwS 2 hts gX7_turn_X7_needOneOf rfl rfl rfl (by decide +kernel) ⟨Nat.le_of_ble_eq_true rfl, Nat.le_of_ble_eq_true rfl⟩) hX hS hP htab hlocks rfl hl.1 rfl (Nat.le_of_ble_eq_true rfl) dX7_turn_8 ⟨by decide, by decide⟩ ⟨by decide, by decide⟩ (fun hn_8 => ⟨⟨hn_8, rfl⟩, SC.rf, hI⟩) (fun hc_8 H locs hP hS => ?_)
  refine lv_aload_n hx hb dX7_turn_11 rfl (lv_at hl 0 rfl) ?_
  refine lv_iload_n hx hb dX7_turn_12 rfl (lv_at hl 1 rfl) ?_
  refine zk_wv (zc_V (As := [.int (zi x0)]) (rest := []) ⟨hx, hb, hml, hown, hts⟩ (ct_X7_gatherLooks l D cI cZ cJ ad S hI hdis x0 ⟨by omega, by omega⟩) (cwV 1 hts gX7_turn_X7_gatherLooks rfl rfl rfl (by decide +kernel) ⟨Nat.le_of_ble_eq_true rfl, Nat.le_of_ble_eq_true rfl⟩) hK hP (q0 := 0) (ci := 7) rfl rfl rfl rfl hl.1 rfl (Nat.le_of_ble_eq_true rfl) dX7_turn_13 ⟨by decide, by decide⟩) hS (fun S_13 H locs hp_13 hP hS => ?_)
  obtain ⟨e9, hI_13⟩ := hp_13
  have eS_13 := e9.symm; clear e9
  refine lv_aload_n hx hb dX7_turn_16 rfl (lv_at hl 0 rfl) ?_
  refine va_get (D := D) (ci := 7) (v := .ref (ad 3)) (C := RX7) (T := TX7) (N := 6) hx hb hts in_X7_turn_7 hown hK.1 hP 0 rfl rfl 2 (by decide) (hts _ lk_X7_turn_26) (fun _ h9 => h9) rfl dX7_turn_17 ?_
  refine va_getN (D := D) (ci := 2) (v := .int (zi (S_13 26 0))) (C := RX2) (T := TX2) (N := 2) hx hb hts in_X7_turn_2 hown hK.1 hP 3 rfl rfl 1 (by decide) (va_Nw.use rfl (hK.2 _ (List.mem_of_getElem? (i := 3) rfl))) (fun _ h9 => h9) rfl dX7_turn_20 ?_
  have f_20 : (0 : Int) ≤ S_13 26 0 ∧ S_13 26 0 ≤ 60 := hI_13 26 0
  refine zi_iconst hx hb dX7_turn_23 ?_
  refine zi_icmp_ge (tgt := 29) hx hb ⟨by omega, by omega⟩ ⟨by decide, by decide⟩ dX7_turn_24 (by decide) (fun c_24 => ?_) (fun c_24 => ?_)
  · refine zi_iconst hx hb dX7_turn_29 ?_
    refine lv_istore_n (lv' := [(3, .int (zi 2)), (0, .ref (ad 0)), (1, .int (zi x0)), (2, .int (zi x1))]) hx hb dX7_turn_30 rfl hl (by decide) rfl (fun ls hl => ?_)
    refine lv_aload_n hx hb dX7_turn_31 rfl (lv_at hl 1 rfl) ?_
    refine lv_iload_n hx hb dX7_turn_32 rfl (lv_at hl 0 rfl) ?_
    refine zk_r (zc_V (As := [.int (zi 2)]) (rest := []) ⟨hx, hb, hml, hown, hts⟩ (ct_X7_faultOf l D cI cZ cJ ad S_13 hI_13 2 ⟨by decide, by decide⟩ (by omega) (by omega)) (cwV 1 hts gX7_turn_X7_faultOf rfl rfl rfl (by decide +kernel) ⟨Nat.le_of_ble_eq_true rfl, Nat.le_of_ble_eq_true rfl⟩) hK hP (q0 := 0) (ci := 7) rfl rfl rfl rfl hl.1 rfl (Nat.le_of_ble_eq_true rfl) dX7_turn_33 ⟨by decide, by decide⟩) ?_
    refine zi_top (fun (r_33 : Int) (er_33 : r_33 = fltC S_13 2) => ?_)
    have fr_33 : (0 : Int) ≤ r_33 ∧ r_33 ≤ 1980 := by rw [er_33]; exact fltC_b hI_13 (by omega)
    refine lv_istore (lv' := [(4, .int (zi r_33)), (3, .int (zi 2)), (0, .ref (ad 0)), (1, .int (zi x0)), (2, .int (zi x1))]) hx hb dX7_turn_36 hl (by decide) rfl (fun ls hl => ?_)
    refine zi_iconst hx hb dX7_turn_38 ?_
    have K_41 : ∀ (k : Nat) (n : Nat) (tu lf i : Int), (i + (n : Int) = 21) → (3 ≤ i) → (2 ≤ tu ∧ tu ≤ 20) → (0 ≤ lf ∧ lf ≤ 1980) → (lf = fltC S_13 tu) → (itr (tuFC S_13) n i tu = tuBC S_13) → ((n : Int) < (k : Int)) → ∀ (ls : Array Slot), lv_has ls 7 [(0, .ref (ad 0)), (1, .int (zi x0)), (2, .int (zi x1)), (3, .int (zi tu)), (4, .int (zi lf)), (5, .int (zi i))] → W p l e rmct_X7_turn s m ([.ref (ad 0), .int (zi x0), .int (zi x1)] : List Value).toArray below meth c H locs 1 6 (vx_MQ below (zWi D (dW cI ad) (dA ad) (fun r T => (0 ≤ x0 ∧ x0 < S 23 0) ∧ r = (tuC (gatherL x0 S) x1) ∧ T = gatherL x0 S ∧ CI T)) (xX D cI ad (fun E T => ((¬ (0 ≤ x0 ∧ x0 < S 23 0) ∧ E = xIOB)) ∧ SC S T ∧ CI T)) ([.ref (ad 0), .int (zi x0), .int (zi x1)] : List Value).toArray s 2 12 (dA ad)) (F0 m 41 ls []) := by
      intro k
      induction k with
      | zero => intro n tu lf i h_n h_i h_t h_l h_f h_R hk; exact absurd hk (by omega)
      | succ k ih_41 =>
        intro n tu lf i h_n h_i h_t h_l h_f h_R hk ls hl
        refine lv_iload hx hb dX7_turn_41 (lv_at hl 5 rfl) ?_
        refine zi_bipush hx hb dX7_turn_43 (by decide) ?_
        refine zi_icmp_gt (tgt := 76) hx hb ⟨by omega, by omega⟩ ⟨by decide, by decide⟩ dX7_turn_45 (by decide) (fun c_45 => ?_) (fun c_45 => ?_)
        · obtain rfl : n = 0 := by omega
          have h_R : tu = tuBC S_13 := h_R
          refine lv_iload_n hx hb dX7_turn_76 rfl (lv_at hl 2 rfl) ?_
          refine zi_if_eq (tgt := 85) hx hb ⟨by omega, by omega⟩ dX7_turn_77 (by decide) (fun c_77 => ?_) (fun c_77 => ?_)
          · refine lv_iload_n hx hb dX7_turn_85 rfl (lv_at hl 3 rfl) ?_
            exact xr_wi (T := S_13) hx hb hr hlocks dX7_turn_86 hP hS ⟨by decide, by decide⟩ (by exact ⟨hc_8, by rw [eS_13, tuC, if_neg (by omega), if_pos c_77, h_R], eS_13.symm, hI_13⟩)
          · refine lv_iload hx hb dX7_turn_80 (lv_at hl 4 rfl) ?_
            refine lv_goto (tgt := 86) hx hb dX7_turn_82 (by decide) ?_
            exact xr_wi (T := S_13) hx hb hr hlocks dX7_turn_86 hP hS ⟨by decide, by decide⟩ (by exact ⟨hc_8, by rw [eS_13, tuC, if_neg (by omega), if_neg c_77, ← h_R, h_f], eS_13.symm, hI_13⟩)
        · obtain ⟨n, rfl⟩ : ∃ n9 : Nat, n = n9 + 1 := ⟨n - 1, by omega⟩
          refine lv_aload_n hx hb dX7_turn_48 rfl (lv_at hl 0 rfl) ?_
          refine lv_iload hx hb dX7_turn_49 (lv_at hl 5 rfl) ?_
          refine zk_r (zc_V (As := [.int (zi i)]) (rest := []) ⟨hx, hb, hml, hown, hts⟩ (ct_X7_faultOf l D cI cZ cJ ad S_13 hI_13 i ⟨by omega, by omega⟩ (by omega) (by omega)) (cwV 1 hts gX7_turn_X7_faultOf rfl rfl rfl (by decide +kernel) ⟨Nat.le_of_ble_eq_true rfl, Nat.le_of_ble_eq_true rfl⟩) hK hP (q0 := 0) (ci := 7) rfl rfl rfl rfl hl.1 rfl (Nat.le_of_ble_eq_true rfl) dX7_turn_51 ⟨by decide, by decide⟩) ?_
          refine zi_top (fun (r_51 : Int) (er_51 : r_51 = fltC S_13 i) => ?_)
          have fr_51 : (0 : Int) ≤ r_51 ∧ r_51 ≤ 1980 := by rw [er_51]; exact fltC_b hI_13 (by omega)
          refine lv_istore (lv' := [(6, .int (zi r_51)), (0, .ref (ad 0)), (1, .int (zi x0)), (2, .int (zi x1)), (3, .int (zi tu)), (4, .int (zi lf)), (5, .int (zi i))]) hx hb dX7_turn_54 hl (by decide) rfl (fun ls hl => ?_)
          refine lv_iload hx hb dX7_turn_56 (lv_at hl 0 rfl) ?_
          refine lv_iload hx hb dX7_turn_58 (lv_at hl 5 rfl) ?_
          refine zi_icmp_ge (tgt := 70) hx hb ⟨by omega, by omega⟩ ⟨by omega, by omega⟩ dX7_turn_60 (by decide) (fun c_60 => ?_) (fun c_60 => ?_)
          · refine zi_iinc (k := 6) (lv' := [(5, .int (zi (i + 1))), (6, .int (zi r_51)), (0, .ref (ad 0)), (1, .int (zi x0)), (2, .int (zi x1)), (3, .int (zi tu)), (4, .int (zi lf))]) hx hb dX7_turn_70 hl rfl (by decide) rfl (fun ls hl => ?_)
            refine lv_goto (tgt := 41) hx hb dX7_turn_73 (by decide) ?_
            exact ih_41 n tu lf (i + 1) (by first | omega | assumption) (by first | omega | assumption) ⟨by omega, by omega⟩ ⟨by omega, by omega⟩ h_f (by rw [← h_R, itr_s, tuFC, if_neg (by rw [← er_51, ← h_f]; omega)]) (by omega) _ (lv_sub hl [2, 3, 4, 5, 6, 0] rfl)
          · refine lv_iload hx hb dX7_turn_63 (lv_at hl 6 rfl) ?_
            refine lv_istore_n (lv' := [(3, .int (zi i)), (6, .int (zi r_51)), (0, .ref (ad 0)), (1, .int (zi x0)), (2, .int (zi x1)), (4, .int (zi lf)), (5, .int (zi i))]) hx hb dX7_turn_65 rfl hl (by decide) rfl (fun ls hl => ?_)
            refine lv_iload hx hb dX7_turn_66 (lv_at hl 1 rfl) ?_
            refine lv_istore (lv' := [(4, .int (zi r_51)), (3, .int (zi i)), (6, .int (zi r_51)), (0, .ref (ad 0)), (1, .int (zi x0)), (2, .int (zi x1)), (5, .int (zi i))]) hx hb dX7_turn_68 hl (by decide) rfl (fun ls hl => ?_)
            refine zi_iinc (k := 6) (lv' := [(5, .int (zi (i + 1))), (4, .int (zi r_51)), (3, .int (zi i)), (6, .int (zi r_51)), (0, .ref (ad 0)), (1, .int (zi x0)), (2, .int (zi x1))]) hx hb dX7_turn_70 hl rfl (by decide) rfl (fun ls hl => ?_)
            refine lv_goto (tgt := 41) hx hb dX7_turn_73 (by decide) ?_
            exact ih_41 n i r_51 (i + 1) (by first | omega | assumption) (by first | omega | assumption) ⟨by omega, by omega⟩ ⟨by omega, by omega⟩ er_51 (by rw [← h_R, itr_s, tuFC, if_pos (by rw [← er_51, ← h_f]; omega)]) (by omega) _ (lv_sub hl [4, 5, 6, 2, 1, 0] rfl)
    refine lv_istore (lv' := [(5, .int (zi 3)), (4, .int (zi r_33)), (3, .int (zi 2)), (0, .ref (ad 0)), (1, .int (zi x0)), (2, .int (zi x1))]) hx hb dX7_turn_39 hl (by decide) rfl (fun ls hl => ?_)
    exact K_41 19 18 2 r_33 3 (by first | omega | assumption) (by first | omega | assumption) ⟨by omega, by omega⟩ ⟨by omega, by omega⟩ er_33 (by rw [tuBC]) (by omega) _ (lv_sub hl [3, 4, 5, 2, 1, 0] rfl)
  · refine zi_iconst hx hb dX7_turn_27 ?_
    exact xr_wi (T := S_13) hx hb hr hlocks dX7_turn_28 hP hS ⟨by decide, by decide⟩ (by exact ⟨hc_8, by rw [eS_13, tuC, if_pos (by omega)], eS_13.symm, hI_13⟩)

theorem in_X7_orbit_7 : ∀ w ∈ wsX70, w ∈ wsX7_orbit := by decide +kernel
theorem lk_X7_orbit_19 : Cond.fieldLink RX7 19 "PlanetoidDesk" "bodies" "LPlanetoidDesk$Bodies;" ∈ wsX7_orbit := by decide +kernel
theorem in_X7_orbit_0 : ∀ w ∈ wsX00, w ∈ wsX7_orbit := by decide +kernel
theorem lk_X7_orbit_33 : Cond.fieldLink RX7 33 "PlanetoidDesk" "fitting" "LPlanetoidDesk$Orbits;" ∈ wsX7_orbit := by decide +kernel
abbrev rmct_X7_orbit : Room := { frames := 7, cells := 4, slots := 24, locals := 116 }
set_option maxHeartbeats 4000000 in
set_option maxRecDepth 100000 in
theorem ct_X7_orbit (l : Launch) (hst : l.stackTraces = false) (D : va_G) (cI cZ cJ : ClassId) (sa : Nat → Nat) (ad : Nat → Nat) (S : ZS) (hI : CI S) (hdis : dDis ad) (x0 x1 x2 : Int) (hx0 : ir x0) (hx1 : ir x1) (hx2 : ir x2)  : vx_Met l yX7_orbit wsX7_orbit rmct_X7_orbit (va_Pc [.ref (ad 0), .int (zi x0), .int (zi x1), .int (zi x2)] (fun U => va_P D vwCl (dW cI ad S) U.heap ∧ KK D cI cZ cJ U ∧ xP sa (dA ad) U U.heap)) (zWi D (dW cI ad) (dA ad) (fun r T => (0 ≤ x0 ∧ x0 < S 23 0) ∧ (0 ≤ x1 ∧ x1 < cntO (findO x0 S)) ∧ (0 ≤ x2 ∧ x2 ≤ 2) ∧ r = (orvC x2 (oatC (tlAll 0 (findO x0 S)) 3600 0 x1)) ∧ T = tlAll 0 (findO x0 S) ∧ CI T)) (xX D cI ad (fun E T => ((¬ (0 ≤ x0 ∧ x0 < S 23 0) ∧ E = xIOB) ∨ ((0 ≤ x0 ∧ x0 < S 23 0) ∧ ¬ (0 ≤ x1 ∧ x1 < cntO (findO x0 S)) ∧ E = xIOB) ∨ ((0 ≤ x0 ∧ x0 < S 23 0) ∧ (0 ≤ x1 ∧ x1 < cntO (findO x0 S)) ∧ ¬ (0 ≤ x2 ∧ x2 ≤ 2) ∧ E = xIAE)) ∧ SC S T ∧ CI T)) 4 24 (dA ad) := by
  refine vx_ofW (cc := cX7_orbit) (maxL := 5) (ret := (some .int)) (by decide) rfl ?_
  intro p e s m args below meth c s₁ B hml htab hv
  obtain ⟨rfl, hP, hK, hX⟩ := hv
  have hx := B.exec
  have hb := B.bytes
  have hr := B.returns
  have hts := atoms_spec (ws := wsX7_orbit) B.pre
  have hown : s.vm.findClass RX7 = some m.cls := findClass_of_methodNamed B.named
  have hlocks := B.notSynchronized
  have hl := lv_entry ([.ref (ad 0), .int (zi x0), .int (zi x1), .int (zi x2)]) (n := 5) (Nat.le_of_ble_eq_true rfl)
  rw [lg_entry_eq]
  generalize (lg_sl ([.ref (ad 0), .int (zi x0), .int (zi x1), .int (zi x2)]) ++ List.replicate (5 - (lg_sl ([.ref (ad 0), .int (zi x0), .int (zi x1), .int (zi x2)])).length) Slot.unset).toArray = ls at hl ⊢
  have hl : lv_has ls 5 [(0, .ref (ad 0)), (1, .int (zi x0)), (2, .int (zi x1)), (3, .int (zi x2))] := hl
  have hS : va_S (dA ad) s.heap s.heap [] := va_S.rf
  show W p l e rmct_X7_orbit s m ([.ref (ad 0), .int (zi x0), .int (zi x1), .int (zi x2)] : List Value).toArray below meth c s.heap [] 0 0 (vx_MQ below (zWi D (dW cI ad) (dA ad) (fun r T => (0 ≤ x0 ∧ x0 < S 23 0) ∧ (0 ≤ x1 ∧ x1 < cntO (findO x0 S)) ∧ (0 ≤ x2 ∧ x2 ≤ 2) ∧ r = (orvC x2 (oatC (tlAll 0 (findO x0 S)) 3600 0 x1)) ∧ T = tlAll 0 (findO x0 S) ∧ CI T)) (xX D cI ad (fun E T => ((¬ (0 ≤ x0 ∧ x0 < S 23 0) ∧ E = xIOB) ∨ ((0 ≤ x0 ∧ x0 < S 23 0) ∧ ¬ (0 ≤ x1 ∧ x1 < cntO (findO x0 S)) ∧ E = xIOB) ∨ ((0 ≤ x0 ∧ x0 < S 23 0) ∧ (0 ≤ x1 ∧ x1 < cntO (findO x0 S)) ∧ ¬ (0 ≤ x2 ∧ x2 ≤ 2) ∧ E = xIAE)) ∧ SC S T ∧ CI T)) ([.ref (ad 0), .int (zi x0), .int (zi x1), .int (zi x2)] : List Value).toArray s 4 24 (dA ad)) (F0 m 0 ls [])
  refine lv_iload_n hx hb dX7_orbit_0 rfl (lv_at hl 1 rfl) ?_
  refine lv_aload_n hx hb dX7_orbit_1 rfl (lv_at hl 0 rfl) ?_
  refine va_get (D := D) (ci := 7) (v := .ref (ad 2)) (C := RX7) (T := TX7) (N := 6) hx hb hts in_X7_orbit_7 hown hK.1 hP 0 rfl rfl 1 (by decide) (hts _ lk_X7_orbit_19) (fun _ h9 => h9) rfl dX7_orbit_2 ?_
  refine va_getN (D := D) (ci := 0) (v := .int (zi (S 23 0))) (C := RX0) (T := TX0) (N := 8) hx hb hts in_X7_orbit_0 hown hK.1 hP 2 rfl rfl 5 (by decide) (va_Nw.use rfl (hK.2 _ (List.mem_of_getElem? (i := 0) rfl))) (fun _ h9 => h9) rfl dX7_orbit_5 ?_
  have f_5 : (0 : Int) ≤ S 23 0 ∧ S 23 0 ≤ 20 := hI 23 0
  refine xc_chk (As := [.int (zi x0), .int (zi (S 23 0))]) (rest := []) (S0 := S) ⟨hx, hb, hml, hown, hts⟩ (ct_X7_needOneOf l hst x0 (S 23 0) ⟨by omega, by omega⟩ ⟨by omega, by omega⟩) (va_cwS 2 hts gX7_orbit_X7_needOneOf rfl rfl rfl (by decide +kernel) ⟨Nat.le_of_ble_eq_true rfl, Nat.le_of_ble_eq_true rfl⟩) hX hS hP htab hlocks rfl hl.1 rfl (Nat.le_of_ble_eq_true rfl) dX7_orbit_8 ⟨by decide, by decide⟩ ⟨by decide, by decide⟩ (fun hn_8 => ⟨Or.inl ⟨hn_8, rfl⟩, SC.rf, hI⟩) (fun hc_8 H locs hP hS => ?_)
  refine lv_aload_n hx hb dX7_orbit_11 rfl (lv_at hl 0 rfl) ?_
  refine lv_iload_n hx hb dX7_orbit_12 rfl (lv_at hl 1 rfl) ?_
  refine zk_wv (zc_V (As := [.int (zi x0)]) (rest := []) ⟨hx, hb, hml, hown, hts⟩ (ct_X7_findOrbits l D cI cZ cJ ad S hI hdis x0 ⟨by omega, by omega⟩) (cwV 1 hts gX7_orbit_X7_findOrbits rfl rfl rfl (by decide +kernel) ⟨Nat.le_of_ble_eq_true rfl, Nat.le_of_ble_eq_true rfl⟩) hK hP (q0 := 0) (ci := 7) rfl rfl rfl rfl hl.1 rfl (Nat.le_of_ble_eq_true rfl) dX7_orbit_13 ⟨by decide, by decide⟩) hS (fun S_13 H locs hp_13 hP hS => ?_)
  obtain ⟨e9, hI_13⟩ := hp_13
  have eS_13 := e9.symm; clear e9
  refine lv_iload_n hx hb dX7_orbit_16 rfl (lv_at hl 2 rfl) ?_
  refine lv_aload_n hx hb dX7_orbit_17 rfl (lv_at hl 0 rfl) ?_
  refine va_get (D := D) (ci := 7) (v := .ref (ad 4)) (C := RX7) (T := TX7) (N := 6) hx hb hts in_X7_orbit_7 hown hK.1 hP 0 rfl rfl 3 (by decide) (hts _ lk_X7_orbit_33) (fun _ h9 => h9) rfl dX7_orbit_18 ?_
  refine zk_r (zc_V (As := []) (rest := [.int (zi x1)]) ⟨hx, hb, hml, hown, hts⟩ (ct_X3_countOrbits l D cI cZ cJ ad S_13 hI_13  ) (cwV 0 hts gX7_orbit_X3_countOrbits rfl rfl rfl (by decide +kernel) ⟨Nat.le_of_ble_eq_true rfl, Nat.le_of_ble_eq_true rfl⟩) hK hP (q0 := 4) (ci := 3) rfl rfl rfl rfl hl.1 rfl (Nat.le_of_ble_eq_true rfl) dX7_orbit_21 ⟨by decide, by decide⟩) ?_
  refine zi_top (fun (r_21 : Int) (er_21 : r_21 = cntO S_13) => ?_)
  have fr_21 : (0 : Int) ≤ r_21 ∧ r_21 ≤ 1458000 := by rw [er_21]; exact cntO_b hI_13
  refine xc_chk (As := [.int (zi x1), .int (zi r_21)]) (rest := []) (S0 := S_13) ⟨hx, hb, hml, hown, hts⟩ (ct_X7_needOneOf l hst x1 r_21 ⟨by omega, by omega⟩ ⟨by omega, by omega⟩) (va_cwS 2 hts gX7_orbit_X7_needOneOf rfl rfl rfl (by decide +kernel) ⟨Nat.le_of_ble_eq_true rfl, Nat.le_of_ble_eq_true rfl⟩) hX hS hP htab hlocks rfl hl.1 rfl (Nat.le_of_ble_eq_true rfl) dX7_orbit_24 ⟨by decide, by decide⟩ ⟨by decide, by decide⟩ (fun hn_24 => ⟨Or.inr (Or.inl ⟨hc_8, (by rw [eS_13, ← er_21]; exact hn_24), rfl⟩), by rw [← eS_13]; exact SC_fo, hI_13⟩) (fun hc_24 H locs hP hS => ?_)
  refine lv_iload_n hx hb dX7_orbit_27 rfl (lv_at hl 3 rfl) ?_
  refine zi_iconst hx hb dX7_orbit_28 ?_
  refine zi_iconst hx hb dX7_orbit_29 ?_
  refine xc_chk (As := [.int (zi x2), .int (zi 0), .int (zi 2)]) (rest := []) (S0 := S_13) ⟨hx, hb, hml, hown, hts⟩ (ct_X7_needWithin l hst x2 0 2 ⟨by omega, by omega⟩ ⟨by decide, by decide⟩ ⟨by decide, by decide⟩) (va_cwS 3 hts gX7_orbit_X7_needWithin rfl rfl rfl (by decide +kernel) ⟨Nat.le_of_ble_eq_true rfl, Nat.le_of_ble_eq_true rfl⟩) hX hS hP htab hlocks rfl hl.1 rfl (Nat.le_of_ble_eq_true rfl) dX7_orbit_30 ⟨by decide, by decide⟩ ⟨by decide, by decide⟩ (fun hn_30 => ⟨Or.inr (Or.inr (⟨hc_8, (by rw [eS_13, ← er_21]; exact hc_24), hn_30, rfl⟩)), by rw [← eS_13]; exact SC_fo, hI_13⟩) (fun hc_30 H locs hP hS => ?_)
  refine lv_aload_n hx hb dX7_orbit_33 rfl (lv_at hl 0 rfl) ?_
  refine va_get (D := D) (ci := 7) (v := .ref (ad 4)) (C := RX7) (T := TX7) (N := 6) hx hb hts in_X7_orbit_7 hown hK.1 hP 0 rfl rfl 3 (by decide) (hts _ lk_X7_orbit_33) (fun _ h9 => h9) rfl dX7_orbit_34 ?_
  refine lv_iload_n hx hb dX7_orbit_37 rfl (lv_at hl 2 rfl) ?_
  refine zk_wi (zc_V (As := [.int (zi x1)]) (rest := []) ⟨hx, hb, hml, hown, hts⟩ (ct_X3_orbitAt l D cI cZ cJ ad S_13 hI_13 hdis x1 ⟨by omega, by omega⟩ (by omega) (by omega)) (cwV 1 hts gX7_orbit_X3_orbitAt rfl rfl rfl (by decide +kernel) ⟨Nat.le_of_ble_eq_true rfl, Nat.le_of_ble_eq_true rfl⟩) hK hP (q0 := 4) (ci := 3) rfl rfl rfl rfl hl.1 rfl (Nat.le_of_ble_eq_true rfl) dX7_orbit_38 ⟨by decide, by decide⟩) hS (fun r_38 S_38 H locs hp_38 hP hS => ?_)
  obtain ⟨er_38, e9, hI_38⟩ := hp_38
  have eS_38 := e9.symm; clear e9
  have fr_38 : (0 : Int) ≤ r_38 ∧ r_38 ≤ 1457999 := by rw [er_38]; exact oat_b _ 3600 0 _ (by omega) (by omega)
  refine lv_istore (lv' := [(4, .int (zi r_38)), (0, .ref (ad 0)), (1, .int (zi x0)), (2, .int (zi x1)), (3, .int (zi x2))]) hx hb dX7_orbit_41 hl (by decide) rfl (fun ls hl => ?_)
  refine lv_iload_n hx hb dX7_orbit_43 rfl (lv_at hl 4 rfl) ?_
  by_cases c_44_0 : x2 = 0
  · refine lv_lookup (off := 28) (tgt := 72) hx hb dX7_orbit_44 (by decide) (by rw [zi_toInt ⟨by omega, by omega⟩, c_44_0]; rfl) (by decide) ?_
    refine lv_iload hx hb dX7_orbit_72 (lv_at hl 0 rfl) ?_
    refine zi_sipush hx hb dX7_orbit_74 (by decide) ?_
    refine zi_idiv hx hb ⟨by omega, by omega⟩ ⟨by omega, by omega⟩ (by omega) (by omega) dX7_orbit_77 ?_
    exact xr_wi (T := S_38) hx hb hr hlocks dX7_orbit_78 hP hS ⟨by decide, by decide⟩ (by exact ⟨hc_8, by rw [eS_13, ← er_21]; exact hc_24, hc_30, by rw [orvC, if_pos c_44_0, eS_13, ← er_38], by rw [eS_13]; exact eS_38.symm, hI_38⟩)
  by_cases c_44_1 : x2 = 1
  · refine lv_lookup (off := 35) (tgt := 79) hx hb dX7_orbit_44 (by decide) (by rw [zi_toInt ⟨by omega, by omega⟩, c_44_1]; rfl) (by decide) ?_
    refine lv_iload hx hb dX7_orbit_79 (lv_at hl 0 rfl) ?_
    refine zi_sipush hx hb dX7_orbit_81 (by decide) ?_
    refine zi_irem hx hb ⟨by omega, by omega⟩ ⟨by omega, by omega⟩ (by omega) (by omega) dX7_orbit_84 ?_
    refine zk_r (zc_S (As := [.int (zi (r_38 % 405))]) (rest := []) ⟨hx, hb, hml, hown, hts⟩ (ct_X7_bOf l D cI cZ cJ (r_38 % 405) ⟨by omega, by omega⟩ (by omega) (by omega)) (va_cwS 1 hts gX7_orbit_X7_bOf rfl rfl rfl (by decide +kernel) ⟨Nat.le_of_ble_eq_true rfl, Nat.le_of_ble_eq_true rfl⟩) hK va_P_nil rfl hl.1 rfl (Nat.le_of_ble_eq_true rfl) dX7_orbit_85 ⟨by decide, by decide⟩) ?_
    refine zi_top (fun (r_85 : Int) (er_85 : r_85 = bC (r_38 % 405)) => ?_)
    have fr_85 : (-40 : Int) ≤ r_85 ∧ r_85 ≤ 40 := by rw [er_85]; exact (by unfold bC; omega)
    exact xr_wi (T := S_38) hx hb hr hlocks dX7_orbit_88 hP hS ⟨by decide, by decide⟩ (by exact ⟨hc_8, by rw [eS_13, ← er_21]; exact hc_24, hc_30, by rw [orvC, if_neg c_44_0, if_pos c_44_1, eS_13, ← er_38, er_85], by rw [eS_13]; exact eS_38.symm, hI_38⟩)
  refine lv_lookup (off := 45) (tgt := 89) hx hb dX7_orbit_44 (by decide) (by rw [zi_toInt ⟨by omega, by omega⟩]; show (if (0 : Int) = x2 then (28 : Int) else if (1 : Int) = x2 then (35 : Int) else 45) = 45; rw [if_neg (by omega), if_neg (by omega)]) (by decide) ?_
  refine lv_iload hx hb dX7_orbit_89 (lv_at hl 0 rfl) ?_
  refine zi_sipush hx hb dX7_orbit_91 (by decide) ?_
  refine zi_irem hx hb ⟨by omega, by omega⟩ ⟨by omega, by omega⟩ (by omega) (by omega) dX7_orbit_94 ?_
  refine zk_r (zc_S (As := [.int (zi (r_38 % 405))]) (rest := []) ⟨hx, hb, hml, hown, hts⟩ (ct_X7_cOf l D cI cZ cJ (r_38 % 405) ⟨by omega, by omega⟩ (by omega) (by omega)) (va_cwS 1 hts gX7_orbit_X7_cOf rfl rfl rfl (by decide +kernel) ⟨Nat.le_of_ble_eq_true rfl, Nat.le_of_ble_eq_true rfl⟩) hK va_P_nil rfl hl.1 rfl (Nat.le_of_ble_eq_true rfl) dX7_orbit_95 ⟨by decide, by decide⟩) ?_
  refine zi_top (fun (r_95 : Int) (er_95 : r_95 = cC (r_38 % 405)) => ?_)
  have fr_95 : (-2 : Int) ≤ r_95 ∧ r_95 ≤ 2 := by rw [er_95]; exact (by unfold cC; omega)
  exact xr_wi (T := S_38) hx hb hr hlocks dX7_orbit_98 hP hS ⟨by decide, by decide⟩ (by exact ⟨hc_8, by rw [eS_13, ← er_21]; exact hc_24, hc_30, by rw [orvC, if_neg c_44_0, if_neg c_44_1, eS_13, ← er_38, er_95], by rw [eS_13]; exact eS_38.symm, hI_38⟩)

theorem in_X7_chance_7 : ∀ w ∈ wsX70, w ∈ wsX7_chance := by decide +kernel
theorem lk_X7_chance_19 : Cond.fieldLink RX7 19 "PlanetoidDesk" "bodies" "LPlanetoidDesk$Bodies;" ∈ wsX7_chance := by decide +kernel
theorem in_X7_chance_0 : ∀ w ∈ wsX00, w ∈ wsX7_chance := by decide +kernel
theorem lk_X7_chance_40 : Cond.fieldLink RX7 40 "PlanetoidDesk" "paths" "LPlanetoidDesk$Paths;" ∈ wsX7_chance := by decide +kernel
theorem lk_X7_chance_33 : Cond.fieldLink RX7 33 "PlanetoidDesk" "fitting" "LPlanetoidDesk$Orbits;" ∈ wsX7_chance := by decide +kernel
theorem in_X7_chance_4 : ∀ w ∈ wsX40, w ∈ wsX7_chance := by decide +kernel
abbrev rmct_X7_chance : Room := { frames := 7, cells := 5, slots := 30, locals := 125 }
set_option maxHeartbeats 4000000 in
set_option maxRecDepth 100000 in
theorem ct_X7_chance (l : Launch) (hst : l.stackTraces = false) (D : va_G) (cI cZ cJ : ClassId) (sa : Nat → Nat) (ad : Nat → Nat) (S : ZS) (hI : CI S) (hdis : dDis ad) (x0 x1 x2 x3 : Int) (hx0 : ir x0) (hx1 : ir x1) (hx2 : ir x2) (hx3 : ir x3) (hw : 0 ≤ x0 → x0 < S 23 0 → ∀ k, rAt 405 (findO x0 S 14) k ≤ 19) : vx_Met l yX7_chance wsX7_chance rmct_X7_chance (va_Pc [.ref (ad 0), .int (zi x0), .int (zi x1), .int (zi x2), .int (zi x3)] (fun U => va_P D vwCl (dW cI ad S) U.heap ∧ KK D cI cZ cJ U ∧ xP sa (dA ad) U U.heap)) (zWi D (dW cI ad) (dA ad) (fun r T => (0 ≤ x0 ∧ x0 < S 23 0) ∧ (0 ≤ x1 ∧ x1 ≤ 999) ∧ (1 ≤ x2 ∧ x2 ≤ 60) ∧ (0 ≤ x1 + x2 - 1 ∧ x1 + x2 - 1 ≤ 999) ∧ r = (chC x3 (cpAll x1 x2 (findO x0 S))) ∧ T = cpAll x1 x2 (findO x0 S) ∧ CI T)) (xX D cI ad (fun E T => ((¬ (0 ≤ x0 ∧ x0 < S 23 0) ∧ E = xIOB) ∨ ((0 ≤ x0 ∧ x0 < S 23 0) ∧ ¬ (0 ≤ x1 ∧ x1 ≤ 999) ∧ E = xIAE) ∨ ((0 ≤ x0 ∧ x0 < S 23 0) ∧ (0 ≤ x1 ∧ x1 ≤ 999) ∧ ¬ (1 ≤ x2 ∧ x2 ≤ 60) ∧ E = xIAE) ∨ ((0 ≤ x0 ∧ x0 < S 23 0) ∧ (0 ≤ x1 ∧ x1 ≤ 999) ∧ (1 ≤ x2 ∧ x2 ≤ 60) ∧ ¬ (0 ≤ x1 + x2 - 1 ∧ x1 + x2 - 1 ≤ 999) ∧ E = xIAE)) ∧ SC S T ∧ CI T)) 5 30 (dA ad) := by
  refine vx_ofW (cc := cX7_chance) (maxL := 6) (ret := (some .int)) (by decide) rfl ?_
  intro p e s m args below meth c s₁ B hml htab hv
  obtain ⟨rfl, hP, hK, hX⟩ := hv
  have hx := B.exec
  have hb := B.bytes
  have hr := B.returns
  have hts := atoms_spec (ws := wsX7_chance) B.pre
  have hown : s.vm.findClass RX7 = some m.cls := findClass_of_methodNamed B.named
  have hlocks := B.notSynchronized
  have hl := lv_entry ([.ref (ad 0), .int (zi x0), .int (zi x1), .int (zi x2), .int (zi x3)]) (n := 6) (Nat.le_of_ble_eq_true rfl)
  rw [lg_entry_eq]
  generalize (lg_sl ([.ref (ad 0), .int (zi x0), .int (zi x1), .int (zi x2), .int (zi x3)]) ++ List.replicate (6 - (lg_sl ([.ref (ad 0), .int (zi x0), .int (zi x1), .int (zi x2), .int (zi x3)])).length) Slot.unset).toArray = ls at hl ⊢
  have hl : lv_has ls 6 [(0, .ref (ad 0)), (1, .int (zi x0)), (2, .int (zi x1)), (3, .int (zi x2)), (4, .int (zi x3))] := hl
  have hS : va_S (dA ad) s.heap s.heap [] := va_S.rf
  show W p l e rmct_X7_chance s m ([.ref (ad 0), .int (zi x0), .int (zi x1), .int (zi x2), .int (zi x3)] : List Value).toArray below meth c s.heap [] 0 0 (vx_MQ below (zWi D (dW cI ad) (dA ad) (fun r T => (0 ≤ x0 ∧ x0 < S 23 0) ∧ (0 ≤ x1 ∧ x1 ≤ 999) ∧ (1 ≤ x2 ∧ x2 ≤ 60) ∧ (0 ≤ x1 + x2 - 1 ∧ x1 + x2 - 1 ≤ 999) ∧ r = (chC x3 (cpAll x1 x2 (findO x0 S))) ∧ T = cpAll x1 x2 (findO x0 S) ∧ CI T)) (xX D cI ad (fun E T => ((¬ (0 ≤ x0 ∧ x0 < S 23 0) ∧ E = xIOB) ∨ ((0 ≤ x0 ∧ x0 < S 23 0) ∧ ¬ (0 ≤ x1 ∧ x1 ≤ 999) ∧ E = xIAE) ∨ ((0 ≤ x0 ∧ x0 < S 23 0) ∧ (0 ≤ x1 ∧ x1 ≤ 999) ∧ ¬ (1 ≤ x2 ∧ x2 ≤ 60) ∧ E = xIAE) ∨ ((0 ≤ x0 ∧ x0 < S 23 0) ∧ (0 ≤ x1 ∧ x1 ≤ 999) ∧ (1 ≤ x2 ∧ x2 ≤ 60) ∧ ¬ (0 ≤ x1 + x2 - 1 ∧ x1 + x2 - 1 ≤ 999) ∧ E = xIAE)) ∧ SC S T ∧ CI T)) ([.ref (ad 0), .int (zi x0), .int (zi x1), .int (zi x2), .int (zi x3)] : List Value).toArray s 5 30 (dA ad)) (F0 m 0 ls [])
  refine lv_iload_n hx hb dX7_chance_0 rfl (lv_at hl 1 rfl) ?_
  refine lv_aload_n hx hb dX7_chance_1 rfl (lv_at hl 0 rfl) ?_
  refine va_get (D := D) (ci := 7) (v := .ref (ad 2)) (C := RX7) (T := TX7) (N := 6) hx hb hts in_X7_chance_7 hown hK.1 hP 0 rfl rfl 1 (by decide) (hts _ lk_X7_chance_19) (fun _ h9 => h9) rfl dX7_chance_2 ?_
  refine va_getN (D := D) (ci := 0) (v := .int (zi (S 23 0))) (C := RX0) (T := TX0) (N := 8) hx hb hts in_X7_chance_0 hown hK.1 hP 2 rfl rfl 5 (by decide) (va_Nw.use rfl (hK.2 _ (List.mem_of_getElem? (i := 0) rfl))) (fun _ h9 => h9) rfl dX7_chance_5 ?_
  have f_5 : (0 : Int) ≤ S 23 0 ∧ S 23 0 ≤ 20 := hI 23 0
  refine xc_chk (As := [.int (zi x0), .int (zi (S 23 0))]) (rest := []) (S0 := S) ⟨hx, hb, hml, hown, hts⟩ (ct_X7_needOneOf l hst x0 (S 23 0) ⟨by omega, by omega⟩ ⟨by omega, by omega⟩) (va_cwS 2 hts gX7_chance_X7_needOneOf rfl rfl rfl (by decide +kernel) ⟨Nat.le_of_ble_eq_true rfl, Nat.le_of_ble_eq_true rfl⟩) hX hS hP htab hlocks rfl hl.1 rfl (Nat.le_of_ble_eq_true rfl) dX7_chance_8 ⟨by decide, by decide⟩ ⟨by decide, by decide⟩ (fun hn_8 => ⟨Or.inl ⟨hn_8, rfl⟩, SC.rf, hI⟩) (fun hc_8 H locs hP hS => ?_)
  refine lv_iload_n hx hb dX7_chance_11 rfl (lv_at hl 2 rfl) ?_
  refine zi_iconst hx hb dX7_chance_12 ?_
  refine zi_sipush hx hb dX7_chance_13 (by decide) ?_
  refine xc_chk (As := [.int (zi x1), .int (zi 0), .int (zi 999)]) (rest := []) (S0 := S) ⟨hx, hb, hml, hown, hts⟩ (ct_X7_needWithin l hst x1 0 999 ⟨by omega, by omega⟩ ⟨by decide, by decide⟩ ⟨by decide, by decide⟩) (va_cwS 3 hts gX7_chance_X7_needWithin rfl rfl rfl (by decide +kernel) ⟨Nat.le_of_ble_eq_true rfl, Nat.le_of_ble_eq_true rfl⟩) hX hS hP htab hlocks rfl hl.1 rfl (Nat.le_of_ble_eq_true rfl) dX7_chance_16 ⟨by decide, by decide⟩ ⟨by decide, by decide⟩ (fun hn_16 => ⟨Or.inr (Or.inl ⟨hc_8, hn_16, rfl⟩), SC.rf, hI⟩) (fun hc_16 H locs hP hS => ?_)
  refine lv_iload_n hx hb dX7_chance_19 rfl (lv_at hl 3 rfl) ?_
  refine zi_iconst hx hb dX7_chance_20 ?_
  refine zi_bipush hx hb dX7_chance_21 (by decide) ?_
  refine xc_chk (As := [.int (zi x2), .int (zi 1), .int (zi 60)]) (rest := []) (S0 := S) ⟨hx, hb, hml, hown, hts⟩ (ct_X7_needWithin l hst x2 1 60 ⟨by omega, by omega⟩ ⟨by decide, by decide⟩ ⟨by decide, by decide⟩) (va_cwS 3 hts gX7_chance_X7_needWithin rfl rfl rfl (by decide +kernel) ⟨Nat.le_of_ble_eq_true rfl, Nat.le_of_ble_eq_true rfl⟩) hX hS hP htab hlocks rfl hl.1 rfl (Nat.le_of_ble_eq_true rfl) dX7_chance_23 ⟨by decide, by decide⟩ ⟨by decide, by decide⟩ (fun hn_23 => ⟨Or.inr (Or.inr (Or.inl ⟨hc_8, hc_16, hn_23, rfl⟩)), SC.rf, hI⟩) (fun hc_23 H locs hP hS => ?_)
  refine lv_iload_n hx hb dX7_chance_26 rfl (lv_at hl 2 rfl) ?_
  refine lv_iload_n hx hb dX7_chance_27 rfl (lv_at hl 3 rfl) ?_
  refine zi_iadd hx hb dX7_chance_28 ?_
  refine zi_iconst hx hb dX7_chance_29 ?_
  refine zi_isub hx hb dX7_chance_30 ?_
  refine zi_iconst hx hb dX7_chance_31 ?_
  refine zi_sipush hx hb dX7_chance_32 (by decide) ?_
  refine xc_chk (As := [.int (zi ((x1 + x2) - 1)), .int (zi 0), .int (zi 999)]) (rest := []) (S0 := S) ⟨hx, hb, hml, hown, hts⟩ (ct_X7_needWithin l hst ((x1 + x2) - 1) 0 999 ⟨by omega, by omega⟩ ⟨by decide, by decide⟩ ⟨by decide, by decide⟩) (va_cwS 3 hts gX7_chance_X7_needWithin rfl rfl rfl (by decide +kernel) ⟨Nat.le_of_ble_eq_true rfl, Nat.le_of_ble_eq_true rfl⟩) hX hS hP htab hlocks rfl hl.1 rfl (Nat.le_of_ble_eq_true rfl) dX7_chance_35 ⟨by decide, by decide⟩ ⟨by decide, by decide⟩ (fun hn_35 => ⟨Or.inr (Or.inr (Or.inr (⟨hc_8, hc_16, hc_23, hn_35, rfl⟩))), SC.rf, hI⟩) (fun hc_35 H locs hP hS => ?_)
  refine lv_aload_n hx hb dX7_chance_38 rfl (lv_at hl 0 rfl) ?_
  refine lv_iload_n hx hb dX7_chance_39 rfl (lv_at hl 1 rfl) ?_
  refine zk_wv (zc_V (As := [.int (zi x0)]) (rest := []) ⟨hx, hb, hml, hown, hts⟩ (ct_X7_findOrbits l D cI cZ cJ ad S hI hdis x0 ⟨by omega, by omega⟩) (cwV 1 hts gX7_chance_X7_findOrbits rfl rfl rfl (by decide +kernel) ⟨Nat.le_of_ble_eq_true rfl, Nat.le_of_ble_eq_true rfl⟩) hK hP (q0 := 0) (ci := 7) rfl rfl rfl rfl hl.1 rfl (Nat.le_of_ble_eq_true rfl) dX7_chance_40 ⟨by decide, by decide⟩) hS (fun S_40 H locs hp_40 hP hS => ?_)
  obtain ⟨e9, hI_40⟩ := hp_40
  have eS_40 := e9.symm; clear e9
  refine lv_aload_n hx hb dX7_chance_43 rfl (lv_at hl 0 rfl) ?_
  refine va_get (D := D) (ci := 7) (v := .ref (ad 5)) (C := RX7) (T := TX7) (N := 6) hx hb hts in_X7_chance_7 hown hK.1 hP 0 rfl rfl 4 (by decide) (hts _ lk_X7_chance_40) (fun _ h9 => h9) rfl dX7_chance_44 ?_
  refine lv_aload_n hx hb dX7_chance_47 rfl (lv_at hl 0 rfl) ?_
  refine va_get (D := D) (ci := 7) (v := .ref (ad 4)) (C := RX7) (T := TX7) (N := 6) hx hb hts in_X7_chance_7 hown hK.1 hP 0 rfl rfl 3 (by decide) (hts _ lk_X7_chance_33) (fun _ h9 => h9) rfl dX7_chance_48 ?_
  refine lv_iload_n hx hb dX7_chance_51 rfl (lv_at hl 2 rfl) ?_
  refine lv_iload_n hx hb dX7_chance_52 rfl (lv_at hl 3 rfl) ?_
  refine zk_wv (zc_V (As := [.ref (ad 4), .int (zi x1), .int (zi x2)]) (rest := []) ⟨hx, hb, hml, hown, hts⟩ (ct_X4_countPaths l D cI cZ cJ ad S_40 hI_40 hdis x1 x2 ⟨by omega, by omega⟩ ⟨by omega, by omega⟩ (by omega) (by omega) (by omega) (by omega) (by omega) (by rw [← eS_40]; exact hw hc_8.1 hc_8.2)) (cwV 3 hts gX7_chance_X4_countPaths rfl rfl rfl (by decide +kernel) ⟨Nat.le_of_ble_eq_true rfl, Nat.le_of_ble_eq_true rfl⟩) hK hP (q0 := 5) (ci := 4) rfl rfl rfl rfl hl.1 rfl (Nat.le_of_ble_eq_true rfl) dX7_chance_53 ⟨by decide, by decide⟩) hS (fun S_53 H locs hp_53 hP hS => ?_)
  obtain ⟨e9, hI_53⟩ := hp_53
  have eS_53 := e9.symm; clear e9
  refine lv_aload_n hx hb dX7_chance_56 rfl (lv_at hl 0 rfl) ?_
  refine va_get (D := D) (ci := 7) (v := .ref (ad 5)) (C := RX7) (T := TX7) (N := 6) hx hb hts in_X7_chance_7 hown hK.1 hP 0 rfl rfl 4 (by decide) (hts _ lk_X7_chance_40) (fun _ h9 => h9) rfl dX7_chance_57 ?_
  refine va_getN (D := D) (ci := 4) (v := .int (zi (S_53 28 0))) (C := RX4) (T := TX4) (N := 5) hx hb hts in_X7_chance_4 hown hK.1 hP 5 rfl rfl 4 (by decide) (va_Nw.use rfl (hK.2 _ (List.mem_of_getElem? (i := 1) rfl))) (fun _ h9 => h9) rfl dX7_chance_60 ?_
  have f_60 : (0 : Int) ≤ S_53 28 0 ∧ S_53 28 0 ≤ 27702000 := hI_53 28 0
  refine lv_aload_n hx hb dX7_chance_63 rfl (lv_at hl 0 rfl) ?_
  refine va_get (D := D) (ci := 7) (v := .ref (ad 5)) (C := RX7) (T := TX7) (N := 6) hx hb hts in_X7_chance_7 hown hK.1 hP 0 rfl rfl 4 (by decide) (hts _ lk_X7_chance_40) (fun _ h9 => h9) rfl dX7_chance_64 ?_
  refine va_getN (D := D) (ci := 4) (v := .int (zi (S_53 27 0))) (C := RX4) (T := TX4) (N := 5) hx hb hts in_X7_chance_4 hown hK.1 hP 5 rfl rfl 3 (by decide) (va_Nw.use rfl (hK.2 _ (List.mem_of_getElem? (i := 2) rfl))) (fun _ h9 => h9) rfl dX7_chance_67 ?_
  have f_67 : (0 : Int) ≤ S_53 27 0 ∧ S_53 27 0 ≤ 27702000 := hI_53 27 0
  refine zk_r (zc_S (As := [.int (zi (S_53 28 0)), .int (zi (S_53 27 0))]) (rest := []) ⟨hx, hb, hml, hown, hts⟩ (ct_X7_greatestDivisor l D cI cZ cJ (S_53 28 0) (S_53 27 0) ⟨by omega, by omega⟩ ⟨by omega, by omega⟩ (by omega) (by omega) (by omega) (by omega)) (va_cwS 2 hts gX7_chance_X7_greatestDivisor rfl rfl rfl (by decide +kernel) ⟨Nat.le_of_ble_eq_true rfl, Nat.le_of_ble_eq_true rfl⟩) hK va_P_nil rfl hl.1 rfl (Nat.le_of_ble_eq_true rfl) dX7_chance_70 ⟨by decide, by decide⟩) ?_
  refine zi_top (fun (r_70 : Int) (er_70 : r_70 = gcdC 64 (S_53 28 0) (S_53 27 0)) => ?_)
  have fr_70 : (0 : Int) ≤ r_70 ∧ r_70 ≤ 2147483647 := by rw [er_70]; exact gcd_b 64 _ _ (by omega) (by omega) (by omega) (by omega)
  refine lv_istore (lv' := [(5, .int (zi r_70)), (0, .ref (ad 0)), (1, .int (zi x0)), (2, .int (zi x1)), (3, .int (zi x2)), (4, .int (zi x3))]) hx hb dX7_chance_73 hl (by decide) rfl (fun ls hl => ?_)
  refine lv_iload hx hb dX7_chance_75 (lv_at hl 0 rfl) ?_
  refine zi_if_ne (tgt := 82) hx hb ⟨by omega, by omega⟩ dX7_chance_77 (by decide) (fun c_77 => ?_) (fun c_77 => ?_)
  · refine lv_iload hx hb dX7_chance_82 (lv_at hl 5 rfl) ?_
    refine zi_if_eq (tgt := 97) hx hb ⟨by omega, by omega⟩ dX7_chance_84 (by decide) (fun c_84 => ?_) (fun c_84 => ?_)
    · refine lv_aload_n hx hb dX7_chance_97 rfl (lv_at hl 1 rfl) ?_
      refine va_get (D := D) (ci := 7) (v := .ref (ad 5)) (C := RX7) (T := TX7) (N := 6) hx hb hts in_X7_chance_7 hown hK.1 hP 0 rfl rfl 4 (by decide) (hts _ lk_X7_chance_40) (fun _ h9 => h9) rfl dX7_chance_98 ?_
      refine va_getN (D := D) (ci := 4) (v := .int (zi (S_53 28 0))) (C := RX4) (T := TX4) (N := 5) hx hb hts in_X7_chance_4 hown hK.1 hP 5 rfl rfl 4 (by decide) (va_Nw.use rfl (hK.2 _ (List.mem_of_getElem? (i := 1) rfl))) (fun _ h9 => h9) rfl dX7_chance_101 ?_
      have f_101 : (0 : Int) ≤ S_53 28 0 ∧ S_53 28 0 ≤ 27702000 := hI_53 28 0
      refine lv_iload hx hb dX7_chance_104 (lv_at hl 0 rfl) ?_
      refine zi_idiv hx hb ⟨by omega, by omega⟩ ⟨by omega, by omega⟩ (by omega) (by omega) dX7_chance_106 ?_
      exact xr_wi (T := S_53) hx hb hr hlocks dX7_chance_107 hP hS ⟨by decide, by decide⟩ (by exact ⟨hc_8, hc_16, hc_23, hc_35, by rw [eS_40, eS_53, chC, ← er_70, if_neg (by omega), if_pos c_84], by rw [eS_40]; exact eS_53.symm, hI_53⟩)
    · refine lv_aload_n hx hb dX7_chance_87 rfl (lv_at hl 1 rfl) ?_
      refine va_get (D := D) (ci := 7) (v := .ref (ad 5)) (C := RX7) (T := TX7) (N := 6) hx hb hts in_X7_chance_7 hown hK.1 hP 0 rfl rfl 4 (by decide) (hts _ lk_X7_chance_40) (fun _ h9 => h9) rfl dX7_chance_88 ?_
      refine va_getN (D := D) (ci := 4) (v := .int (zi (S_53 27 0))) (C := RX4) (T := TX4) (N := 5) hx hb hts in_X7_chance_4 hown hK.1 hP 5 rfl rfl 3 (by decide) (va_Nw.use rfl (hK.2 _ (List.mem_of_getElem? (i := 2) rfl))) (fun _ h9 => h9) rfl dX7_chance_91 ?_
      have f_91 : (0 : Int) ≤ S_53 27 0 ∧ S_53 27 0 ≤ 27702000 := hI_53 27 0
      refine lv_goto (tgt := 104) hx hb dX7_chance_94 (by decide) ?_
      refine lv_iload hx hb dX7_chance_104 (lv_at hl 0 rfl) ?_
      refine zi_idiv hx hb ⟨by omega, by omega⟩ ⟨by omega, by omega⟩ (by omega) (by omega) dX7_chance_106 ?_
      exact xr_wi (T := S_53) hx hb hr hlocks dX7_chance_107 hP hS ⟨by decide, by decide⟩ (by exact ⟨hc_8, hc_16, hc_23, hc_35, by rw [eS_40, eS_53, chC, ← er_70, if_neg (by omega), if_neg c_84], by rw [eS_40]; exact eS_53.symm, hI_53⟩)
  · refine zi_iconst hx hb dX7_chance_80 ?_
    exact xr_wi (T := S_53) hx hb hr hlocks dX7_chance_81 hP hS ⟨by decide, by decide⟩ (by exact ⟨hc_8, hc_16, hc_23, hc_35, by rw [eS_40, eS_53, chC, ← er_70, if_pos (by omega)], by rw [eS_40]; exact eS_53.symm, hI_53⟩)
