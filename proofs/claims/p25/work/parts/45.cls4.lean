noncomputable def jnC (Q : ZS) (x0 x1 r : Int) : ZS := su (su (su Q 8 (rPut 20 (Q 8) (if r = x0 then x1 else x0) r)) 24 (fun _ => Q 24 0 + 1)) 9 (rPut 20 (Q 9) (if r = x0 then x1 else x0) (Q 24 0 + 1))
theorem joinC {S Q U T : ZS} {x0 x1 r j : Int} (hQ : SC S Q) (hI : CI Q) (hr : r = cif (strongP Q x0 x1) x0 x1) (hj : j = if r = x0 then x1 else x0) (hU : SC Q U) (e : su (su (su U 8 (rPut 20 (U 8) j r)) 24 (fun _ => U 24 0 + 1)) 9 (rPut 20 (U 9) j (U 24 0 + 1)) = T) : ∃ Q : ZS, SC S Q ∧ CI Q ∧ r = cif (strongP Q x0 x1) x0 x1 ∧ SC (jnC Q x0 x1 r) T :=
  ⟨Q, hQ, hI, hr, by subst hj; rw [← e]; exact SC_u (SC_u (SC_u hU (by rw [hU 8 rfl])) (by rw [hU 24 rfl])) (by rw [hU 9 rfl, hU 24 rfl])⟩
theorem in_X7_join_7 : ∀ w ∈ wsX70, w ∈ wsX7_join := by decide +kernel
theorem lk_X7_join_19 : Cond.fieldLink RX7 19 "PlanetoidDesk" "bodies" "LPlanetoidDesk$Bodies;" ∈ wsX7_join := by decide +kernel
theorem in_X7_join_0 : ∀ w ∈ wsX00, w ∈ wsX7_join := by decide +kernel
theorem af_X7_join_63 : ∀ w ∈ (vx_atS RX7 63 xISE xNS).filter goodWord, w ∈ wsX7_join := by decide +kernel
theorem cl59_X7_join : Cond.classLink RX7 59 xISE ∈ wsX7_join := by decide +kernel
theorem ini59_X7_join : Cond.initialized xISE ∈ wsX7_join := by decide +kernel
abbrev rmct_X7_join : Room := { frames := 7, cells := 3, slots := 18, locals := 138 }
set_option maxHeartbeats 4000000 in
set_option maxRecDepth 100000 in
theorem ct_X7_join (l : Launch) (hst : l.stackTraces = false) (D : va_G) (cI cZ cJ : ClassId) (sa : Nat → Nat) (ad : Nat → Nat) (S : ZS) (hI : CI S) (hdis : dDis ad) (x0 x1 : Int) (hx0 : ir x0) (hx1 : ir x1) (hjj : S 24 0 < 100000) : vx_Met l yX7_join wsX7_join rmct_X7_join (va_Pc [.ref (ad 0), .int (zi x0), .int (zi x1)] (fun U => va_P D vwCl (dW cI ad S) U.heap ∧ KK D cI cZ cJ U ∧ xP sa (dA ad) U U.heap)) (zWi D (dW cI ad) (dA ad) (fun r T => (0 ≤ x0 ∧ x0 < S 23 0) ∧ (0 ≤ x1 ∧ x1 < S 23 0) ∧ (joinP S x0 x1) ∧ (∃ Q : ZS, SC S Q ∧ CI Q ∧ r = cif (strongP Q x0 x1) x0 x1 ∧ SC (jnC Q x0 x1 r) T) ∧ CI T)) (xX D cI ad (fun E T => ((¬ (0 ≤ x0 ∧ x0 < S 23 0) ∧ E = xIOB) ∨ ((0 ≤ x0 ∧ x0 < S 23 0) ∧ ¬ (0 ≤ x1 ∧ x1 < S 23 0) ∧ E = xIOB) ∨ ((0 ≤ x0 ∧ x0 < S 23 0) ∧ (0 ≤ x1 ∧ x1 < S 23 0) ∧ ¬ (joinP S x0 x1) ∧ E = xISE)) ∧ SC S T ∧ CI T)) 3 18 (dA ad) := by
  refine vx_ofW (cc := cX7_join) (maxL := 5) (ret := (some .int)) (by decide) rfl ?_
  intro p e s m args below meth c s₁ B hml htab hv
  obtain ⟨rfl, hP, hK, hX⟩ := hv
  have hx := B.exec
  have hb := B.bytes
  have hr := B.returns
  have hts := atoms_spec (ws := wsX7_join) B.pre
  have hown : s.vm.findClass RX7 = some m.cls := findClass_of_methodNamed B.named
  have hlocks := B.notSynchronized
  have hl := lv_entry ([.ref (ad 0), .int (zi x0), .int (zi x1)]) (n := 5) (Nat.le_of_ble_eq_true rfl)
  rw [lg_entry_eq]
  generalize (lg_sl ([.ref (ad 0), .int (zi x0), .int (zi x1)]) ++ List.replicate (5 - (lg_sl ([.ref (ad 0), .int (zi x0), .int (zi x1)])).length) Slot.unset).toArray = ls at hl ⊢
  have hl : lv_has ls 5 [(0, .ref (ad 0)), (1, .int (zi x0)), (2, .int (zi x1))] := hl
  have hS : va_S (dA ad) s.heap s.heap [] := va_S.rf
  show W p l e rmct_X7_join s m ([.ref (ad 0), .int (zi x0), .int (zi x1)] : List Value).toArray below meth c s.heap [] 0 0 (vx_MQ below (zWi D (dW cI ad) (dA ad) (fun r T => (0 ≤ x0 ∧ x0 < S 23 0) ∧ (0 ≤ x1 ∧ x1 < S 23 0) ∧ (joinP S x0 x1) ∧ (∃ Q : ZS, SC S Q ∧ CI Q ∧ r = cif (strongP Q x0 x1) x0 x1 ∧ SC (jnC Q x0 x1 r) T) ∧ CI T)) (xX D cI ad (fun E T => ((¬ (0 ≤ x0 ∧ x0 < S 23 0) ∧ E = xIOB) ∨ ((0 ≤ x0 ∧ x0 < S 23 0) ∧ ¬ (0 ≤ x1 ∧ x1 < S 23 0) ∧ E = xIOB) ∨ ((0 ≤ x0 ∧ x0 < S 23 0) ∧ (0 ≤ x1 ∧ x1 < S 23 0) ∧ ¬ (joinP S x0 x1) ∧ E = xISE)) ∧ SC S T ∧ CI T)) ([.ref (ad 0), .int (zi x0), .int (zi x1)] : List Value).toArray s 3 18 (dA ad)) (F0 m 0 ls [])
  refine lv_iload_n hx hb dX7_join_0 rfl (lv_at hl 1 rfl) ?_
  refine lv_aload_n hx hb dX7_join_1 rfl (lv_at hl 0 rfl) ?_
  refine va_get (D := D) (ci := 7) (v := .ref (ad 2)) (C := RX7) (T := TX7) (N := 6) hx hb hts in_X7_join_7 hown hK.1 hP 0 rfl rfl 1 (by decide) (hts _ lk_X7_join_19) (fun _ h9 => h9) rfl dX7_join_2 ?_
  refine va_getN (D := D) (ci := 0) (v := .int (zi (S 23 0))) (C := RX0) (T := TX0) (N := 8) hx hb hts in_X7_join_0 hown hK.1 hP 2 rfl rfl 5 (by decide) (va_Nw.use rfl (hK.2 _ (List.mem_of_getElem? (i := 0) rfl))) (fun _ h9 => h9) rfl dX7_join_5 ?_
  have f_5 : (0 : Int) ≤ S 23 0 ∧ S 23 0 ≤ 20 := hI 23 0
  refine xc_chk (As := [.int (zi x0), .int (zi (S 23 0))]) (rest := []) (S0 := S) ⟨hx, hb, hml, hown, hts⟩ (ct_X7_needOneOf l hst x0 (S 23 0) ⟨by omega, by omega⟩ ⟨by omega, by omega⟩) (va_cwS 2 hts gX7_join_X7_needOneOf rfl rfl rfl (by decide +kernel) ⟨Nat.le_of_ble_eq_true rfl, Nat.le_of_ble_eq_true rfl⟩) hX hS hP htab hlocks rfl hl.1 rfl (Nat.le_of_ble_eq_true rfl) dX7_join_8 ⟨by decide, by decide⟩ ⟨by decide, by decide⟩ (fun hn_8 => ⟨Or.inl ⟨hn_8, rfl⟩, SC.rf, hI⟩) (fun hc_8 H locs hP hS => ?_)
  refine lv_iload_n hx hb dX7_join_11 rfl (lv_at hl 2 rfl) ?_
  refine lv_aload_n hx hb dX7_join_12 rfl (lv_at hl 0 rfl) ?_
  refine va_get (D := D) (ci := 7) (v := .ref (ad 2)) (C := RX7) (T := TX7) (N := 6) hx hb hts in_X7_join_7 hown hK.1 hP 0 rfl rfl 1 (by decide) (hts _ lk_X7_join_19) (fun _ h9 => h9) rfl dX7_join_13 ?_
  refine va_getN (D := D) (ci := 0) (v := .int (zi (S 23 0))) (C := RX0) (T := TX0) (N := 8) hx hb hts in_X7_join_0 hown hK.1 hP 2 rfl rfl 5 (by decide) (va_Nw.use rfl (hK.2 _ (List.mem_of_getElem? (i := 0) rfl))) (fun _ h9 => h9) rfl dX7_join_16 ?_
  have f_16 : (0 : Int) ≤ S 23 0 ∧ S 23 0 ≤ 20 := hI 23 0
  refine xc_chk (As := [.int (zi x1), .int (zi (S 23 0))]) (rest := []) (S0 := S) ⟨hx, hb, hml, hown, hts⟩ (ct_X7_needOneOf l hst x1 (S 23 0) ⟨by omega, by omega⟩ ⟨by omega, by omega⟩) (va_cwS 2 hts gX7_join_X7_needOneOf rfl rfl rfl (by decide +kernel) ⟨Nat.le_of_ble_eq_true rfl, Nat.le_of_ble_eq_true rfl⟩) hX hS hP htab hlocks rfl hl.1 rfl (Nat.le_of_ble_eq_true rfl) dX7_join_19 ⟨by decide, by decide⟩ ⟨by decide, by decide⟩ (fun hn_19 => ⟨Or.inr (Or.inl ⟨hc_8, hn_19, rfl⟩), SC.rf, hI⟩) (fun hc_19 H locs hP hS => ?_)
  refine lv_aload_n hx hb dX7_join_22 rfl (lv_at hl 0 rfl) ?_
  refine lv_iload_n hx hb dX7_join_23 rfl (lv_at hl 1 rfl) ?_
  refine lv_iload_n hx hb dX7_join_24 rfl (lv_at hl 2 rfl) ?_
  refine zk_wi (zc_V (As := [.int (zi x0), .int (zi x1)]) (rest := []) ⟨hx, hb, hml, hown, hts⟩ (ct_X7_canJoin l D cI cZ cJ ad S hI hdis x0 x1 ⟨by omega, by omega⟩ ⟨by omega, by omega⟩) (cwV 2 hts gX7_join_X7_canJoin rfl rfl rfl (by decide +kernel) ⟨Nat.le_of_ble_eq_true rfl, Nat.le_of_ble_eq_true rfl⟩) hK hP (q0 := 0) (ci := 7) rfl rfl rfl rfl hl.1 rfl (Nat.le_of_ble_eq_true rfl) dX7_join_25 ⟨by decide, by decide⟩) hS (fun r_25 S_25 H locs hp_25 hP hS => ?_)
  obtain ⟨er_25, hsc_25, hI_25⟩ := hp_25
  have fr_25 : (0 : Int) ≤ r_25 ∧ r_25 ≤ 1 := by rw [er_25]; exact b2_b
  refine zi_if_ne (tgt := 41) hx hb ⟨by omega, by omega⟩ dX7_join_28 (by decide) (fun c_28 => ?_) (fun c_28 => ?_)
  · refine lv_aload_n hx hb dX7_join_41 rfl (lv_at hl 0 rfl) ?_
    refine lv_iload_n hx hb dX7_join_42 rfl (lv_at hl 1 rfl) ?_
    refine lv_iload_n hx hb dX7_join_43 rfl (lv_at hl 2 rfl) ?_
    refine zk_wi (zc_V (As := [.int (zi x0), .int (zi x1)]) (rest := []) ⟨hx, hb, hml, hown, hts⟩ (ct_X7_isStronger l D cI cZ cJ ad S_25 hI_25 hdis x0 x1 ⟨by omega, by omega⟩ ⟨by omega, by omega⟩) (cwV 2 hts gX7_join_X7_isStronger rfl rfl rfl (by decide +kernel) ⟨Nat.le_of_ble_eq_true rfl, Nat.le_of_ble_eq_true rfl⟩) hK hP (q0 := 0) (ci := 7) rfl rfl rfl rfl hl.1 rfl (Nat.le_of_ble_eq_true rfl) dX7_join_44 ⟨by decide, by decide⟩) hS (fun r_44 S_44 H locs hp_44 hP hS => ?_)
    obtain ⟨er_44, hsc_44, hI_44⟩ := hp_44
    have fr_44 : (0 : Int) ≤ r_44 ∧ r_44 ≤ 1 := by rw [er_44]; exact b2_b
    have h_24 : S_44 24 0 < 100000 := by rw [hsc_44 24 rfl, hsc_25 24 rfl]; exact hjj
    refine zi_if_eq (tgt := 54) hx hb ⟨by omega, by omega⟩ dX7_join_47 (by decide) (fun c_47 => ?_) (fun c_47 => ?_)
    · refine lv_iload_n hx hb dX7_join_54 rfl (lv_at hl 2 rfl) ?_
      refine lv_istore_n (lv' := [(3, .int (zi x1)), (0, .ref (ad 0)), (1, .int (zi x0)), (2, .int (zi x1))]) hx hb dX7_join_55 rfl hl (by decide) rfl (fun ls hl => ?_)
      refine lv_iload_n hx hb dX7_join_56 rfl (lv_at hl 0 rfl) ?_
      refine lv_iload_n hx hb dX7_join_57 rfl (lv_at hl 2 rfl) ?_
      refine zi_icmp_ne (tgt := 65) hx hb ⟨by omega, by omega⟩ ⟨by omega, by omega⟩ dX7_join_58 (by decide) (fun c_58 => ?_) (fun c_58 => ?_)
      · refine lv_iload_n hx hb dX7_join_65 rfl (lv_at hl 2 rfl) ?_
        refine lv_istore (lv' := [(4, .int (zi x0)), (3, .int (zi x1)), (0, .ref (ad 0)), (1, .int (zi x0)), (2, .int (zi x1))]) hx hb dX7_join_66 hl (by decide) rfl (fun ls hl => ?_)
        refine lv_aload_n hx hb dX7_join_68 rfl (lv_at hl 2 rfl) ?_
        refine va_get (D := D) (ci := 7) (v := .ref (ad 2)) (C := RX7) (T := TX7) (N := 6) hx hb hts in_X7_join_7 hown hK.1 hP 0 rfl rfl 1 (by decide) (hts _ lk_X7_join_19) (fun _ h9 => h9) rfl dX7_join_69 ?_
        refine lv_iload hx hb dX7_join_72 (lv_at hl 0 rfl) ?_
        refine lv_iload_n hx hb dX7_join_74 rfl (lv_at hl 1 rfl) ?_
        refine zk_wv (zc_V (As := [.int (zi x0), .int (zi x1)]) (rest := []) ⟨hx, hb, hml, hown, hts⟩ (ct_X0_attach l D cI cZ cJ ad S_44 hI_44 hdis x0 x1 ⟨by omega, by omega⟩ ⟨by omega, by omega⟩ (by omega) (by omega) (by omega)) (cwV 2 hts gX7_join_X0_attach rfl rfl rfl (by decide +kernel) ⟨Nat.le_of_ble_eq_true rfl, Nat.le_of_ble_eq_true rfl⟩) hK hP (q0 := 2) (ci := 0) rfl rfl rfl rfl hl.1 rfl (Nat.le_of_ble_eq_true rfl) dX7_join_75 ⟨by decide, by decide⟩) hS (fun S_75 H locs hp_75 hP hS => ?_)
        obtain ⟨e9, hI_75⟩ := hp_75
        have eS_75 := e9.symm; clear e9
        refine lv_iload_n hx hb dX7_join_78 rfl (lv_at hl 1 rfl) ?_
        exact xr_wi (T := S_75) hx hb hr hlocks dX7_join_79 hP hS ⟨by decide, by decide⟩ (by exact ⟨hc_8, hc_19, b2_1 er_25 c_28, joinC hsc_25 hI_25 ((cif_f (b2_0 er_44 c_47)).symm) ((if_neg c_58).symm) hsc_44 eS_75, hI_75⟩)
      · refine lv_iload_n hx hb dX7_join_61 rfl (lv_at hl 3 rfl) ?_
        refine lv_goto (tgt := 66) hx hb dX7_join_62 (by decide) ?_
        refine lv_istore (lv' := [(4, .int (zi x1)), (3, .int (zi x1)), (0, .ref (ad 0)), (1, .int (zi x0)), (2, .int (zi x1))]) hx hb dX7_join_66 hl (by decide) rfl (fun ls hl => ?_)
        refine lv_aload_n hx hb dX7_join_68 rfl (lv_at hl 2 rfl) ?_
        refine va_get (D := D) (ci := 7) (v := .ref (ad 2)) (C := RX7) (T := TX7) (N := 6) hx hb hts in_X7_join_7 hown hK.1 hP 0 rfl rfl 1 (by decide) (hts _ lk_X7_join_19) (fun _ h9 => h9) rfl dX7_join_69 ?_
        refine lv_iload hx hb dX7_join_72 (lv_at hl 0 rfl) ?_
        refine lv_iload_n hx hb dX7_join_74 rfl (lv_at hl 1 rfl) ?_
        refine zk_wv (zc_V (As := [.int (zi x1), .int (zi x1)]) (rest := []) ⟨hx, hb, hml, hown, hts⟩ (ct_X0_attach l D cI cZ cJ ad S_44 hI_44 hdis x1 x1 ⟨by omega, by omega⟩ ⟨by omega, by omega⟩ (by omega) (by omega) (by omega)) (cwV 2 hts gX7_join_X0_attach rfl rfl rfl (by decide +kernel) ⟨Nat.le_of_ble_eq_true rfl, Nat.le_of_ble_eq_true rfl⟩) hK hP (q0 := 2) (ci := 0) rfl rfl rfl rfl hl.1 rfl (Nat.le_of_ble_eq_true rfl) dX7_join_75 ⟨by decide, by decide⟩) hS (fun S_75 H locs hp_75 hP hS => ?_)
        obtain ⟨e9, hI_75⟩ := hp_75
        have eS_75 := e9.symm; clear e9
        refine lv_iload_n hx hb dX7_join_78 rfl (lv_at hl 1 rfl) ?_
        exact xr_wi (T := S_75) hx hb hr hlocks dX7_join_79 hP hS ⟨by decide, by decide⟩ (by exact ⟨hc_8, hc_19, b2_1 er_25 c_28, joinC hsc_25 hI_25 ((cif_f (b2_0 er_44 c_47)).symm) ((if_pos c_58).symm) hsc_44 eS_75, hI_75⟩)
    · refine lv_iload_n hx hb dX7_join_50 rfl (lv_at hl 1 rfl) ?_
      refine lv_goto (tgt := 55) hx hb dX7_join_51 (by decide) ?_
      refine lv_istore_n (lv' := [(3, .int (zi x0)), (0, .ref (ad 0)), (1, .int (zi x0)), (2, .int (zi x1))]) hx hb dX7_join_55 rfl hl (by decide) rfl (fun ls hl => ?_)
      refine lv_iload_n hx hb dX7_join_56 rfl (lv_at hl 0 rfl) ?_
      refine lv_iload_n hx hb dX7_join_57 rfl (lv_at hl 2 rfl) ?_
      refine zi_icmp_ne (tgt := 65) hx hb ⟨by omega, by omega⟩ ⟨by omega, by omega⟩ dX7_join_58 (by decide) (fun c_58 => ?_) (fun c_58 => ?_)
      · exact absurd c_58 (by omega)
      · refine lv_iload_n hx hb dX7_join_61 rfl (lv_at hl 3 rfl) ?_
        refine lv_goto (tgt := 66) hx hb dX7_join_62 (by decide) ?_
        refine lv_istore (lv' := [(4, .int (zi x1)), (3, .int (zi x0)), (0, .ref (ad 0)), (1, .int (zi x0)), (2, .int (zi x1))]) hx hb dX7_join_66 hl (by decide) rfl (fun ls hl => ?_)
        refine lv_aload_n hx hb dX7_join_68 rfl (lv_at hl 2 rfl) ?_
        refine va_get (D := D) (ci := 7) (v := .ref (ad 2)) (C := RX7) (T := TX7) (N := 6) hx hb hts in_X7_join_7 hown hK.1 hP 0 rfl rfl 1 (by decide) (hts _ lk_X7_join_19) (fun _ h9 => h9) rfl dX7_join_69 ?_
        refine lv_iload hx hb dX7_join_72 (lv_at hl 0 rfl) ?_
        refine lv_iload_n hx hb dX7_join_74 rfl (lv_at hl 1 rfl) ?_
        refine zk_wv (zc_V (As := [.int (zi x1), .int (zi x0)]) (rest := []) ⟨hx, hb, hml, hown, hts⟩ (ct_X0_attach l D cI cZ cJ ad S_44 hI_44 hdis x1 x0 ⟨by omega, by omega⟩ ⟨by omega, by omega⟩ (by omega) (by omega) (by omega)) (cwV 2 hts gX7_join_X0_attach rfl rfl rfl (by decide +kernel) ⟨Nat.le_of_ble_eq_true rfl, Nat.le_of_ble_eq_true rfl⟩) hK hP (q0 := 2) (ci := 0) rfl rfl rfl rfl hl.1 rfl (Nat.le_of_ble_eq_true rfl) dX7_join_75 ⟨by decide, by decide⟩) hS (fun S_75 H locs hp_75 hP hS => ?_)
        obtain ⟨e9, hI_75⟩ := hp_75
        have eS_75 := e9.symm; clear e9
        refine lv_iload_n hx hb dX7_join_78 rfl (lv_at hl 1 rfl) ?_
        exact xr_wi (T := S_75) hx hb hr hlocks dX7_join_79 hP hS ⟨by decide, by decide⟩ (by exact ⟨hc_8, hc_19, b2_1 er_25 c_28, joinC hsc_25 hI_25 ((cif_t (b2_1 er_44 c_47)).symm) ((if_pos rfl).symm) hsc_44 eS_75, hI_75⟩)
  · exact vx_throwS hx hb hst hown (by decide) xNS_fit (hts _ cl59_X7_join) (hts _ ini59_X7_join) (hX.2.2.1 9 (145, "the bodies cannot be joined") rfl) (xB_in (n := 0) (cls := xISE) sub_63 hX (fun w hw => hts w (af_X7_join_63 w hw))) ot_63 hX.1 hX.2.1 hS (hl.1.trans hml.symm) dX7_join_31 dX7_join_34 dX7_join_35 dX7_join_37 dX7_join_40 (fun x h9 => (htab x h9).elim) (by decide) (by decide) (by decide) (by decide) hlocks (xx_thr hP hS (⟨Or.inr (Or.inr (⟨hc_8, hc_19, (b2_0 er_25 c_28), rfl⟩)), hsc_25, hI_25⟩)) (fun z hz => hS.2.2 z hz) (by decide) (by decide)
