theorem in_X7_families_7 : ∀ w ∈ wsX70, w ∈ wsX7_families := by decide +kernel
theorem lk_X7_families_47 : Cond.fieldLink RX7 47 "PlanetoidDesk" "kinship" "LPlanetoidDesk$Kinship;" ∈ wsX7_families := by decide +kernel
theorem lk_X7_families_19 : Cond.fieldLink RX7 19 "PlanetoidDesk" "bodies" "LPlanetoidDesk$Bodies;" ∈ wsX7_families := by decide +kernel
theorem in_X7_families_0 : ∀ w ∈ wsX00, w ∈ wsX7_families := by decide +kernel
abbrev rmct_X7_families : Room := { frames := 7, cells := 2, slots := 12, locals := 117 }
set_option maxHeartbeats 4000000 in
set_option maxRecDepth 100000 in
theorem ct_X7_families (l : Launch) (hst : l.stackTraces = false) (D : va_G) (cI cZ cJ : ClassId) (sa : Nat → Nat) (ad : Nat → Nat) (S : ZS) (hI : CI S) (hdis : dDis ad) (x0 : Int) (hx0 : ir x0)  : vx_Met l yX7_families wsX7_families rmct_X7_families (va_Pc [.ref (ad 0), .int (zi x0)] (fun U => va_P D vwCl (dW cI ad S) U.heap ∧ KK D cI cZ cJ U ∧ xP sa (dA ad) U U.heap)) (zWi D (dW cI ad) (dA ad) (fun r T => (0 ≤ x0 ∧ x0 ≤ 90) ∧ r = (itr (fun k acc => acc + b2 (¬ rAt 20 (ffAll x0 S 10) k = -1 ∧ rAt 20 (ffAll x0 S 10) k = rAt 20 (ffAll x0 S 19) k)) (S 23 0).toNat 0 0) ∧ T = ffAll x0 S ∧ CI T)) (xX D cI ad (fun E T => ((¬ (0 ≤ x0 ∧ x0 ≤ 90) ∧ E = xIAE)) ∧ SC S T ∧ CI T)) 2 12 (dA ad) := by
  refine vx_ofW (cc := cX7_families) (maxL := 4) (ret := (some .int)) (by decide) rfl ?_
  intro p e s m args below meth c s₁ B hml htab hv
  obtain ⟨rfl, hP, hK, hX⟩ := hv
  have hx := B.exec
  have hb := B.bytes
  have hr := B.returns
  have hts := atoms_spec (ws := wsX7_families) B.pre
  have hown : s.vm.findClass RX7 = some m.cls := findClass_of_methodNamed B.named
  have hlocks := B.notSynchronized
  have hl := lv_entry ([.ref (ad 0), .int (zi x0)]) (n := 4) (Nat.le_of_ble_eq_true rfl)
  rw [lg_entry_eq]
  generalize (lg_sl ([.ref (ad 0), .int (zi x0)]) ++ List.replicate (4 - (lg_sl ([.ref (ad 0), .int (zi x0)])).length) Slot.unset).toArray = ls at hl ⊢
  have hl : lv_has ls 4 [(0, .ref (ad 0)), (1, .int (zi x0))] := hl
  have hS : va_S (dA ad) s.heap s.heap [] := va_S.rf
  show W p l e rmct_X7_families s m ([.ref (ad 0), .int (zi x0)] : List Value).toArray below meth c s.heap [] 0 0 (vx_MQ below (zWi D (dW cI ad) (dA ad) (fun r T => (0 ≤ x0 ∧ x0 ≤ 90) ∧ r = (itr (fun k acc => acc + b2 (¬ rAt 20 (ffAll x0 S 10) k = -1 ∧ rAt 20 (ffAll x0 S 10) k = rAt 20 (ffAll x0 S 19) k)) (S 23 0).toNat 0 0) ∧ T = ffAll x0 S ∧ CI T)) (xX D cI ad (fun E T => ((¬ (0 ≤ x0 ∧ x0 ≤ 90) ∧ E = xIAE)) ∧ SC S T ∧ CI T)) ([.ref (ad 0), .int (zi x0)] : List Value).toArray s 2 12 (dA ad)) (F0 m 0 ls [])
  have hc23 : (0 : Int) ≤ S 23 0 ∧ S 23 0 ≤ 20 := hI 23 0
  refine lv_iload_n hx hb dX7_families_0 rfl (lv_at hl 1 rfl) ?_
  refine zi_iconst hx hb dX7_families_1 ?_
  refine zi_bipush hx hb dX7_families_2 (by decide) ?_
  refine xc_chk (As := [.int (zi x0), .int (zi 0), .int (zi 90)]) (rest := []) (S0 := S) ⟨hx, hb, hml, hown, hts⟩ (ct_X7_needWithin l hst x0 0 90 ⟨by omega, by omega⟩ ⟨by decide, by decide⟩ ⟨by decide, by decide⟩) (va_cwS 3 hts gX7_families_X7_needWithin rfl rfl rfl (by decide +kernel) ⟨Nat.le_of_ble_eq_true rfl, Nat.le_of_ble_eq_true rfl⟩) hX hS hP htab hlocks rfl hl.1 rfl (Nat.le_of_ble_eq_true rfl) dX7_families_4 ⟨by decide, by decide⟩ ⟨by decide, by decide⟩ (fun hn_4 => ⟨⟨hn_4, rfl⟩, SC.rf, hI⟩) (fun hc_4 H locs hP hS => ?_)
  refine lv_aload_n hx hb dX7_families_7 rfl (lv_at hl 0 rfl) ?_
  refine va_get (D := D) (ci := 7) (v := .ref (ad 6)) (C := RX7) (T := TX7) (N := 6) hx hb hts in_X7_families_7 hown hK.1 hP 0 rfl rfl 5 (by decide) (hts _ lk_X7_families_47) (fun _ h9 => h9) rfl dX7_families_8 ?_
  refine lv_aload_n hx hb dX7_families_11 rfl (lv_at hl 0 rfl) ?_
  refine va_get (D := D) (ci := 7) (v := .ref (ad 2)) (C := RX7) (T := TX7) (N := 6) hx hb hts in_X7_families_7 hown hK.1 hP 0 rfl rfl 1 (by decide) (hts _ lk_X7_families_19) (fun _ h9 => h9) rfl dX7_families_12 ?_
  refine lv_iload_n hx hb dX7_families_15 rfl (lv_at hl 1 rfl) ?_
  refine zk_wv (zc_V (As := [.ref (ad 2), .int (zi x0)]) (rest := []) ⟨hx, hb, hml, hown, hts⟩ (ct_X1_findFamilies l D cI cZ cJ ad S hI hdis x0 ⟨by omega, by omega⟩ (by omega) (by omega)) (cwV 2 hts gX7_families_X1_findFamilies rfl rfl rfl (by decide +kernel) ⟨Nat.le_of_ble_eq_true rfl, Nat.le_of_ble_eq_true rfl⟩) hK hP (q0 := 6) (ci := 1) rfl rfl rfl rfl hl.1 rfl (Nat.le_of_ble_eq_true rfl) dX7_families_16 ⟨by decide, by decide⟩) hS (fun S_16 H locs hp_16 hP hS => ?_)
  obtain ⟨e9, hI_16⟩ := hp_16
  have eS_16 := e9.symm; clear e9
  refine zi_iconst hx hb dX7_families_19 ?_
  refine lv_istore_n (lv' := [(2, .int (zi 0)), (0, .ref (ad 0)), (1, .int (zi x0))]) hx hb dX7_families_20 rfl hl (by decide) rfl (fun ls hl => ?_)
  refine zi_iconst hx hb dX7_families_21 ?_
  have K_23 : ∀ (k : Nat) (n : Nat) (acc i : Int), (i + (n : Int) = S 23 0) → (0 ≤ i) → (itr (fun k acc => acc + b2 (¬ rAt 20 (S_16 10) k = -1 ∧ rAt 20 (S_16 10) k = rAt 20 (S_16 19) k)) n i acc = itr (fun k acc => acc + b2 (¬ rAt 20 (S_16 10) k = -1 ∧ rAt 20 (S_16 10) k = rAt 20 (S_16 19) k)) (S 23 0).toNat 0 0) → ((n : Int) < (k : Int)) → ∀ (ls : Array Slot), lv_has ls 4 [(0, .ref (ad 0)), (1, .int (zi x0)), (2, .int (zi acc)), (3, .int (zi i))] → W p l e rmct_X7_families s m ([.ref (ad 0), .int (zi x0)] : List Value).toArray below meth c H locs 1 6 (vx_MQ below (zWi D (dW cI ad) (dA ad) (fun r T => (0 ≤ x0 ∧ x0 ≤ 90) ∧ r = (itr (fun k acc => acc + b2 (¬ rAt 20 (ffAll x0 S 10) k = -1 ∧ rAt 20 (ffAll x0 S 10) k = rAt 20 (ffAll x0 S 19) k)) (S 23 0).toNat 0 0) ∧ T = ffAll x0 S ∧ CI T)) (xX D cI ad (fun E T => ((¬ (0 ≤ x0 ∧ x0 ≤ 90) ∧ E = xIAE)) ∧ SC S T ∧ CI T)) ([.ref (ad 0), .int (zi x0)] : List Value).toArray s 2 12 (dA ad)) (F0 m 23 ls []) := by
    intro k
    induction k with
    | zero => intro n acc i h_n h_i h_R hk; exact absurd hk (by omega)
    | succ k ih_23 =>
      intro n acc i h_n h_i h_R hk ls hl
      refine lv_iload_n hx hb dX7_families_23 rfl (lv_at hl 3 rfl) ?_
      refine lv_aload_n hx hb dX7_families_24 rfl (lv_at hl 0 rfl) ?_
      refine va_get (D := D) (ci := 7) (v := .ref (ad 2)) (C := RX7) (T := TX7) (N := 6) hx hb hts in_X7_families_7 hown hK.1 hP 0 rfl rfl 1 (by decide) (hts _ lk_X7_families_19) (fun _ h9 => h9) rfl dX7_families_25 ?_
      refine va_getN (D := D) (ci := 0) (v := .int (zi (S_16 23 0))) (C := RX0) (T := TX0) (N := 8) hx hb hts in_X7_families_0 hown hK.1 hP 2 rfl rfl 5 (by decide) (va_Nw.use rfl (hK.2 _ (List.mem_of_getElem? (i := 0) rfl))) (fun _ h9 => h9) rfl dX7_families_28 ?_
      refine zi_is (S 23 0) (by rw [← eS_16, ffAll_n (k := 23) (by decide)] <;> rfl) ?_
      have f_28 : (0 : Int) ≤ S 23 0 ∧ S 23 0 ≤ 20 := hI 23 0
      refine zi_icmp_ge (tgt := 74) hx hb ⟨by omega, by omega⟩ ⟨by omega, by omega⟩ dX7_families_31 (by decide) (fun c_31 => ?_) (fun c_31 => ?_)
      · obtain rfl : n = 0 := by omega
        refine lv_iload_n hx hb dX7_families_74 rfl (lv_at hl 2 rfl) ?_
        exact xr_wi (T := S_16) hx hb hr hlocks dX7_families_75 hP hS ⟨by decide, by decide⟩ (by exact ⟨hc_4, by rw [eS_16]; exact h_R, eS_16.symm, hI_16⟩)
      · obtain ⟨n, rfl⟩ : ∃ n9 : Nat, n = n9 + 1 := ⟨n - 1, by omega⟩
        refine lv_aload_n hx hb dX7_families_34 rfl (lv_at hl 0 rfl) ?_
        refine va_get (D := D) (ci := 7) (v := .ref (ad 2)) (C := RX7) (T := TX7) (N := 6) hx hb hts in_X7_families_7 hown hK.1 hP 0 rfl rfl 1 (by decide) (hts _ lk_X7_families_19) (fun _ h9 => h9) rfl dX7_families_35 ?_
        refine lv_iload_n hx hb dX7_families_38 rfl (lv_at hl 3 rfl) ?_
        refine zk_r (zc_V (As := [.int (zi i)]) (rest := []) ⟨hx, hb, hml, hown, hts⟩ (ct_X0_numberOf l D cI cZ cJ ad S_16 hI_16 i ⟨by omega, by omega⟩) (cwV 1 hts gX7_families_X0_numberOf rfl rfl rfl (by decide +kernel) ⟨Nat.le_of_ble_eq_true rfl, Nat.le_of_ble_eq_true rfl⟩) hK hP (q0 := 2) (ci := 0) rfl rfl rfl rfl hl.1 rfl (Nat.le_of_ble_eq_true rfl) dX7_families_39 ⟨by decide, by decide⟩) ?_
        refine zi_top (fun (r_39 : Int) (er_39 : r_39 = rAt 20 (S_16 10) i) => ?_)
        have fr_39 : (-1 : Int) ≤ r_39 ∧ r_39 ≤ 20 := by rw [er_39]; exact CI.at hI_16 10 20 i ⟨by decide, by decide⟩
        refine zi_iconst hx hb dX7_families_42 ?_
        refine zi_icmp_eq (tgt := 68) hx hb ⟨by omega, by omega⟩ ⟨by decide, by decide⟩ dX7_families_43 (by decide) (fun c_43 => ?_) (fun c_43 => ?_)
        · refine zi_iinc (k := 3) (lv' := [(3, .int (zi (i + 1))), (0, .ref (ad 0)), (1, .int (zi x0)), (2, .int (zi acc))]) hx hb dX7_families_68 hl rfl (by decide) rfl (fun ls hl => ?_)
          refine lv_goto (tgt := 23) hx hb dX7_families_71 (by decide) ?_
          exact ih_23 n acc (i + 1) (by first | omega | assumption) (by first | omega | assumption) (by rw [← h_R, itr_s, b2_f (fun h9 => h9.1 (er_39.symm.trans c_43)), Int.add_zero]) (by omega) _ (lv_sub hl [1, 2, 3, 0] rfl)
        · refine lv_aload_n hx hb dX7_families_46 rfl (lv_at hl 0 rfl) ?_
          refine va_get (D := D) (ci := 7) (v := .ref (ad 2)) (C := RX7) (T := TX7) (N := 6) hx hb hts in_X7_families_7 hown hK.1 hP 0 rfl rfl 1 (by decide) (hts _ lk_X7_families_19) (fun _ h9 => h9) rfl dX7_families_47 ?_
          refine lv_iload_n hx hb dX7_families_50 rfl (lv_at hl 3 rfl) ?_
          refine zk_r (zc_V (As := [.int (zi i)]) (rest := []) ⟨hx, hb, hml, hown, hts⟩ (ct_X0_numberOf l D cI cZ cJ ad S_16 hI_16 i ⟨by omega, by omega⟩) (cwV 1 hts gX7_families_X0_numberOf rfl rfl rfl (by decide +kernel) ⟨Nat.le_of_ble_eq_true rfl, Nat.le_of_ble_eq_true rfl⟩) hK hP (q0 := 2) (ci := 0) rfl rfl rfl rfl hl.1 rfl (Nat.le_of_ble_eq_true rfl) dX7_families_51 ⟨by decide, by decide⟩) ?_
          refine zi_top (fun (r_51 : Int) (er_51 : r_51 = rAt 20 (S_16 10) i) => ?_)
          have fr_51 : (-1 : Int) ≤ r_51 ∧ r_51 ≤ 20 := by rw [er_51]; exact CI.at hI_16 10 20 i ⟨by decide, by decide⟩
          refine lv_aload_n hx hb dX7_families_54 rfl (lv_at hl 0 rfl) ?_
          refine va_get (D := D) (ci := 7) (v := .ref (ad 6)) (C := RX7) (T := TX7) (N := 6) hx hb hts in_X7_families_7 hown hK.1 hP 0 rfl rfl 5 (by decide) (hts _ lk_X7_families_47) (fun _ h9 => h9) rfl dX7_families_55 ?_
          refine lv_iload_n hx hb dX7_families_58 rfl (lv_at hl 3 rfl) ?_
          refine zk_r (zc_V (As := [.int (zi i)]) (rest := [.int (zi r_51)]) ⟨hx, hb, hml, hown, hts⟩ (ct_X1_lowestNumberWith l D cI cZ cJ ad S_16 hI_16 i ⟨by omega, by omega⟩) (cwV 1 hts gX7_families_X1_lowestNumberWith rfl rfl rfl (by decide +kernel) ⟨Nat.le_of_ble_eq_true rfl, Nat.le_of_ble_eq_true rfl⟩) hK hP (q0 := 6) (ci := 1) rfl rfl rfl rfl hl.1 rfl (Nat.le_of_ble_eq_true rfl) dX7_families_59 ⟨by decide, by decide⟩) ?_
          refine zi_top (fun (r_59 : Int) (er_59 : r_59 = rAt 20 (S_16 19) i) => ?_)
          have fr_59 : (-1 : Int) ≤ r_59 ∧ r_59 ≤ 20 := by rw [er_59]; exact CI.at hI_16 19 20 i ⟨by decide, by decide⟩
          refine zi_icmp_ne (tgt := 68) hx hb ⟨by omega, by omega⟩ ⟨by omega, by omega⟩ dX7_families_62 (by decide) (fun c_62 => ?_) (fun c_62 => ?_)
          · refine zi_iinc (k := 3) (lv' := [(3, .int (zi (i + 1))), (0, .ref (ad 0)), (1, .int (zi x0)), (2, .int (zi acc))]) hx hb dX7_families_68 hl rfl (by decide) rfl (fun ls hl => ?_)
            refine lv_goto (tgt := 23) hx hb dX7_families_71 (by decide) ?_
            exact ih_23 n acc (i + 1) (by first | omega | assumption) (by first | omega | assumption) (by rw [← h_R, itr_s, b2_f (fun h9 => c_62 (by rw [er_51, er_59]; exact h9.2)), Int.add_zero]) (by omega) _ (lv_sub hl [1, 2, 3, 0] rfl)
          · refine zi_iinc (k := 2) (lv' := [(2, .int (zi (acc + 1))), (0, .ref (ad 0)), (1, .int (zi x0)), (3, .int (zi i))]) hx hb dX7_families_65 hl rfl (by decide) rfl (fun ls hl => ?_)
            refine zi_iinc (k := 3) (lv' := [(3, .int (zi (i + 1))), (2, .int (zi (acc + 1))), (0, .ref (ad 0)), (1, .int (zi x0))]) hx hb dX7_families_68 hl rfl (by decide) rfl (fun ls hl => ?_)
            refine lv_goto (tgt := 23) hx hb dX7_families_71 (by decide) ?_
            exact ih_23 n (acc + 1) (i + 1) (by first | omega | assumption) (by first | omega | assumption) (by rw [← h_R, itr_s, b2_t ⟨fun h9 => c_43 (er_39.trans h9), by rw [← er_51, ← er_59]; exact c_62⟩]) (by omega) _ (lv_sub hl [2, 3, 1, 0] rfl)
  refine lv_istore_n (lv' := [(3, .int (zi 0)), (2, .int (zi 0)), (0, .ref (ad 0)), (1, .int (zi x0))]) hx hb dX7_families_22 rfl hl (by decide) rfl (fun ls hl => ?_)
  exact K_23 ((S 23 0).toNat + 1) ((S 23 0).toNat) 0 0 (by first | omega | assumption) (by first | omega | assumption) rfl (by omega) _ (lv_sub hl [2, 3, 1, 0] rfl)
