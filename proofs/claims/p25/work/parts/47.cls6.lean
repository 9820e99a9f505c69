theorem in_X7_candidates_7 : ∀ w ∈ wsX70, w ∈ wsX7_candidates := by decide +kernel
theorem lk_X7_candidates_19 : Cond.fieldLink RX7 19 "PlanetoidDesk" "bodies" "LPlanetoidDesk$Bodies;" ∈ wsX7_candidates := by decide +kernel
theorem in_X7_candidates_0 : ∀ w ∈ wsX00, w ∈ wsX7_candidates := by decide +kernel
theorem lk_X7_candidates_10 : Cond.fieldLink RX7 10 "PlanetoidDesk" "sky" "LPlanetoidDesk$Sky;" ∈ wsX7_candidates := by decide +kernel
theorem in_X7_candidates_6 : ∀ w ∈ wsX60, w ∈ wsX7_candidates := by decide +kernel
abbrev rmct_X7_candidates : Room := { frames := 7, cells := 2, slots := 12, locals := 116 }
set_option maxHeartbeats 4000000 in
set_option maxRecDepth 100000 in
theorem ct_X7_candidates (l : Launch) (hst : l.stackTraces = false) (D : va_G) (cI cZ cJ : ClassId) (sa : Nat → Nat) (ad : Nat → Nat) (S : ZS) (hI : CI S) (hdis : dDis ad) (x0 : Int) (hx0 : ir x0)  : vx_Met l yX7_candidates wsX7_candidates rmct_X7_candidates (va_Pc [.ref (ad 0), .int (zi x0)] (fun U => va_P D vwCl (dW cI ad S) U.heap ∧ KK D cI cZ cJ U ∧ xP sa (dA ad) U U.heap)) (zWi D (dW cI ad) (dA ad) (fun r T => (0 ≤ x0 ∧ x0 < S 23 0) ∧ r = (itr (fun k acc => acc + b2 (takeP (findO x0 S) x0 k)) (S 22 0).toNat 0 0) ∧ T = findO x0 S ∧ CI T)) (xX D cI ad (fun E T => ((¬ (0 ≤ x0 ∧ x0 < S 23 0) ∧ E = xIOB)) ∧ SC S T ∧ CI T)) 2 12 (dA ad) := by
  refine vx_ofW (cc := cX7_candidates) (maxL := 4) (ret := (some .int)) (by decide) rfl ?_
  intro p e s m args below meth c s₁ B hml htab hv
  obtain ⟨rfl, hP, hK, hX⟩ := hv
  have hx := B.exec
  have hb := B.bytes
  have hr := B.returns
  have hts := atoms_spec (ws := wsX7_candidates) B.pre
  have hown : s.vm.findClass RX7 = some m.cls := findClass_of_methodNamed B.named
  have hlocks := B.notSynchronized
  have hl := lv_entry ([.ref (ad 0), .int (zi x0)]) (n := 4) (Nat.le_of_ble_eq_true rfl)
  rw [lg_entry_eq]
  generalize (lg_sl ([.ref (ad 0), .int (zi x0)]) ++ List.replicate (4 - (lg_sl ([.ref (ad 0), .int (zi x0)])).length) Slot.unset).toArray = ls at hl ⊢
  have hl : lv_has ls 4 [(0, .ref (ad 0)), (1, .int (zi x0))] := hl
  have hS : va_S (dA ad) s.heap s.heap [] := va_S.rf
  show W p l e rmct_X7_candidates s m ([.ref (ad 0), .int (zi x0)] : List Value).toArray below meth c s.heap [] 0 0 (vx_MQ below (zWi D (dW cI ad) (dA ad) (fun r T => (0 ≤ x0 ∧ x0 < S 23 0) ∧ r = (itr (fun k acc => acc + b2 (takeP (findO x0 S) x0 k)) (S 22 0).toNat 0 0) ∧ T = findO x0 S ∧ CI T)) (xX D cI ad (fun E T => ((¬ (0 ≤ x0 ∧ x0 < S 23 0) ∧ E = xIOB)) ∧ SC S T ∧ CI T)) ([.ref (ad 0), .int (zi x0)] : List Value).toArray s 2 12 (dA ad)) (F0 m 0 ls [])
  have hc22 : (0 : Int) ≤ S 22 0 ∧ S 22 0 ≤ 60 := hI 22 0
  refine lv_iload_n hx hb dX7_candidates_0 rfl (lv_at hl 1 rfl) ?_
  refine lv_aload_n hx hb dX7_candidates_1 rfl (lv_at hl 0 rfl) ?_
  refine va_get (D := D) (ci := 7) (v := .ref (ad 2)) (C := RX7) (T := TX7) (N := 6) hx hb hts in_X7_candidates_7 hown hK.1 hP 0 rfl rfl 1 (by decide) (hts _ lk_X7_candidates_19) (fun _ h9 => h9) rfl dX7_candidates_2 ?_
  refine va_getN (D := D) (ci := 0) (v := .int (zi (S 23 0))) (C := RX0) (T := TX0) (N := 8) hx hb hts in_X7_candidates_0 hown hK.1 hP 2 rfl rfl 5 (by decide) (va_Nw.use rfl (hK.2 _ (List.mem_of_getElem? (i := 0) rfl))) (fun _ h9 => h9) rfl dX7_candidates_5 ?_
  have f_5 : (0 : Int) ≤ S 23 0 ∧ S 23 0 ≤ 20 := hI 23 0
  refine xc_chk (As := [.int (zi x0), .int (zi (S 23 0))]) (rest := []) (S0 := S) ⟨hx, hb, hml, hown, hts⟩ (ct_X7_needOneOf l hst x0 (S 23 0) ⟨by omega, by omega⟩ ⟨by omega, by omega⟩) (va_cwS 2 hts gX7_candidates_X7_needOneOf rfl rfl rfl (by decide +kernel) ⟨Nat.le_of_ble_eq_true rfl, Nat.le_of_ble_eq_true rfl⟩) hX hS hP htab hlocks rfl hl.1 rfl (Nat.le_of_ble_eq_true rfl) dX7_candidates_8 ⟨by decide, by decide⟩ ⟨by decide, by decide⟩ (fun hn_8 => ⟨⟨hn_8, rfl⟩, SC.rf, hI⟩) (fun hc_8 H locs hP hS => ?_)
  refine lv_aload_n hx hb dX7_candidates_11 rfl (lv_at hl 0 rfl) ?_
  refine lv_iload_n hx hb dX7_candidates_12 rfl (lv_at hl 1 rfl) ?_
  refine zk_wv (zc_V (As := [.int (zi x0)]) (rest := []) ⟨hx, hb, hml, hown, hts⟩ (ct_X7_findOrbits l D cI cZ cJ ad S hI hdis x0 ⟨by omega, by omega⟩) (cwV 1 hts gX7_candidates_X7_findOrbits rfl rfl rfl (by decide +kernel) ⟨Nat.le_of_ble_eq_true rfl, Nat.le_of_ble_eq_true rfl⟩) hK hP (q0 := 0) (ci := 7) rfl rfl rfl rfl hl.1 rfl (Nat.le_of_ble_eq_true rfl) dX7_candidates_13 ⟨by decide, by decide⟩) hS (fun S_13 H locs hp_13 hP hS => ?_)
  obtain ⟨e9, hI_13⟩ := hp_13
  have eS_13 := e9.symm; clear e9
  refine zi_iconst hx hb dX7_candidates_16 ?_
  refine lv_istore_n (lv' := [(2, .int (zi 0)), (0, .ref (ad 0)), (1, .int (zi x0))]) hx hb dX7_candidates_17 rfl hl (by decide) rfl (fun ls hl => ?_)
  refine zi_iconst hx hb dX7_candidates_18 ?_
  have K_20 : ∀ (k : Nat) (n : Nat) (acc i : Int), (i + (n : Int) = S 22 0) → (0 ≤ i) → (itr (fun k acc => acc + b2 (takeP S_13 x0 k)) n i acc = itr (fun k acc => acc + b2 (takeP S_13 x0 k)) (S 22 0).toNat 0 0) → ((n : Int) < (k : Int)) → ∀ (ls : Array Slot), lv_has ls 4 [(0, .ref (ad 0)), (1, .int (zi x0)), (2, .int (zi acc)), (3, .int (zi i))] → W p l e rmct_X7_candidates s m ([.ref (ad 0), .int (zi x0)] : List Value).toArray below meth c H locs 1 6 (vx_MQ below (zWi D (dW cI ad) (dA ad) (fun r T => (0 ≤ x0 ∧ x0 < S 23 0) ∧ r = (itr (fun k acc => acc + b2 (takeP (findO x0 S) x0 k)) (S 22 0).toNat 0 0) ∧ T = findO x0 S ∧ CI T)) (xX D cI ad (fun E T => ((¬ (0 ≤ x0 ∧ x0 < S 23 0) ∧ E = xIOB)) ∧ SC S T ∧ CI T)) ([.ref (ad 0), .int (zi x0)] : List Value).toArray s 2 12 (dA ad)) (F0 m 20 ls []) := by
    intro k
    induction k with
    | zero => intro n acc i h_n h_i h_R hk; exact absurd hk (by omega)
    | succ k ih_20 =>
      intro n acc i h_n h_i h_R hk ls hl
      refine lv_iload_n hx hb dX7_candidates_20 rfl (lv_at hl 3 rfl) ?_
      refine lv_aload_n hx hb dX7_candidates_21 rfl (lv_at hl 0 rfl) ?_
      refine va_get (D := D) (ci := 7) (v := .ref (ad 1)) (C := RX7) (T := TX7) (N := 6) hx hb hts in_X7_candidates_7 hown hK.1 hP 0 rfl rfl 0 (by decide) (hts _ lk_X7_candidates_10) (fun _ h9 => h9) rfl dX7_candidates_22 ?_
      refine va_getN (D := D) (ci := 6) (v := .int (zi (S_13 22 0))) (C := RX6) (T := TX6) (N := 10) hx hb hts in_X7_candidates_6 hown hK.1 hP 1 rfl rfl 9 (by decide) (va_Nw.use rfl (hK.2 _ (List.mem_of_getElem? (i := 6) rfl))) (fun _ h9 => h9) rfl dX7_candidates_25 ?_
      refine zi_is (S 22 0) (by rw [← eS_13, findO_n (k := 22) (by decide) (by decide) (by decide) (by decide)] <;> rfl) ?_
      have f_25 : (0 : Int) ≤ S 22 0 ∧ S 22 0 ≤ 60 := hI 22 0
      refine zi_icmp_ge (tgt := 49) hx hb ⟨by omega, by omega⟩ ⟨by omega, by omega⟩ dX7_candidates_28 (by decide) (fun c_28 => ?_) (fun c_28 => ?_)
      · obtain rfl : n = 0 := by omega
        refine lv_iload_n hx hb dX7_candidates_49 rfl (lv_at hl 2 rfl) ?_
        exact xr_wi (T := S_13) hx hb hr hlocks dX7_candidates_50 hP hS ⟨by decide, by decide⟩ (by exact ⟨hc_8, by rw [eS_13]; exact h_R, eS_13.symm, hI_13⟩)
      · obtain ⟨n, rfl⟩ : ∃ n9 : Nat, n = n9 + 1 := ⟨n - 1, by omega⟩
        refine lv_aload_n hx hb dX7_candidates_31 rfl (lv_at hl 0 rfl) ?_
        refine lv_iload_n hx hb dX7_candidates_32 rfl (lv_at hl 1 rfl) ?_
        refine lv_iload_n hx hb dX7_candidates_33 rfl (lv_at hl 3 rfl) ?_
        refine zk_r (zc_V (As := [.int (zi x0), .int (zi i)]) (rest := []) ⟨hx, hb, hml, hown, hts⟩ (ct_X7_canTake l D cI cZ cJ ad S_13 hI_13 x0 i ⟨by omega, by omega⟩ ⟨by omega, by omega⟩) (cwV 2 hts gX7_candidates_X7_canTake rfl rfl rfl (by decide +kernel) ⟨Nat.le_of_ble_eq_true rfl, Nat.le_of_ble_eq_true rfl⟩) hK hP (q0 := 0) (ci := 7) rfl rfl rfl rfl hl.1 rfl (Nat.le_of_ble_eq_true rfl) dX7_candidates_34 ⟨by decide, by decide⟩) ?_
        refine zi_top (fun (r_34 : Int) (er_34 : r_34 = b2 (takeP S_13 x0 i)) => ?_)
        have fr_34 : (0 : Int) ≤ r_34 ∧ r_34 ≤ 1 := by rw [er_34]; exact b2_b
        refine zi_if_eq (tgt := 43) hx hb ⟨by omega, by omega⟩ dX7_candidates_37 (by decide) (fun c_37 => ?_) (fun c_37 => ?_)
        · refine zi_iinc (k := 3) (lv' := [(3, .int (zi (i + 1))), (0, .ref (ad 0)), (1, .int (zi x0)), (2, .int (zi acc))]) hx hb dX7_candidates_43 hl rfl (by decide) rfl (fun ls hl => ?_)
          refine lv_goto (tgt := 20) hx hb dX7_candidates_46 (by decide) ?_
          exact ih_20 n acc (i + 1) (by first | omega | assumption) (by first | omega | assumption) (by rw [← h_R, itr_s, b2_f (b2_0 er_34 c_37), Int.add_zero]) (by omega) _ (lv_sub hl [1, 2, 3, 0] rfl)
        · refine zi_iinc (k := 2) (lv' := [(2, .int (zi (acc + 1))), (0, .ref (ad 0)), (1, .int (zi x0)), (3, .int (zi i))]) hx hb dX7_candidates_40 hl rfl (by decide) rfl (fun ls hl => ?_)
          refine zi_iinc (k := 3) (lv' := [(3, .int (zi (i + 1))), (2, .int (zi (acc + 1))), (0, .ref (ad 0)), (1, .int (zi x0))]) hx hb dX7_candidates_43 hl rfl (by decide) rfl (fun ls hl => ?_)
          refine lv_goto (tgt := 20) hx hb dX7_candidates_46 (by decide) ?_
          exact ih_20 n (acc + 1) (i + 1) (by first | omega | assumption) (by first | omega | assumption) (by rw [← h_R, itr_s, b2_t (b2_1 er_34 c_37)]) (by omega) _ (lv_sub hl [2, 3, 1, 0] rfl)
  refine lv_istore_n (lv' := [(3, .int (zi 0)), (2, .int (zi 0)), (0, .ref (ad 0)), (1, .int (zi x0))]) hx hb dX7_candidates_19 rfl hl (by decide) rfl (fun ls hl => ?_)
  exact K_20 ((S 22 0).toNat + 1) ((S 22 0).toNat) 0 0 (by first | omega | assumption) (by first | omega | assumption) rfl (by omega) _ (lv_sub hl [2, 3, 1, 0] rfl)
