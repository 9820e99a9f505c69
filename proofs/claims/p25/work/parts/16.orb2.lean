theorem in_X3_courseWith_3 : ∀ w ∈ wsX30, w ∈ wsX3_courseWith := by decide +kernel
theorem lk_X3_courseWith_20 : Cond.fieldLink RX3 20 "PlanetoidDesk$Orbits" "widths" "LPlanetoidDesk$Row;" ∈ wsX3_courseWith := by decide +kernel
abbrev rmct_X3_courseWith : Room := { frames := 2, cells := 0, slots := 0, locals := 44 }
set_option maxHeartbeats 4000000 in
set_option maxRecDepth 100000 in
theorem ct_X3_courseWith (l : Launch) (D : va_G) (cI cZ cJ : ClassId) (ad : Nat → Nat) (S : ZS) (hI : CI S) (x0 x1 : Int) (hx0 : ir x0) (hx1 : ir x1) (hp00 : 0 ≤ x0) (hp01 : x0 ≤ 3599) (hp10 : 0 ≤ x1) (hp11 : x1 ≤ 1458000) : Met l yX3_courseWith wsX3_courseWith rmct_X3_courseWith (zP D cI cZ cJ (dW cI ad S) [.ref (ad 4), .int (zi x0), .int (zi x1)]) (k2_QcV (.int (zi (withA S x0 x1)))) 0 0 (fun _ => False) := by
  refine Met.ofW (cc := cX3_courseWith) (maxL := 5) (ret := (some .int)) (by decide) rfl ?_
  intro p e s m args below meth c s₁ B hml hv
  obtain ⟨rfl, hP, hK⟩ := hv
  have hx := B.exec
  have hb := B.bytes
  have hr := B.returns
  have hts := atoms_spec (ws := wsX3_courseWith) B.pre
  have hown : s.vm.findClass RX3 = some m.cls := findClass_of_methodNamed B.named
  have hlocks := B.notSynchronized
  have hl := lv_entry ([.ref (ad 4), .int (zi x0), .int (zi x1)]) (n := 5) (Nat.le_of_ble_eq_true rfl)
  rw [lg_entry_eq]
  generalize (lg_sl ([.ref (ad 4), .int (zi x0), .int (zi x1)]) ++ List.replicate (5 - (lg_sl ([.ref (ad 4), .int (zi x0), .int (zi x1)])).length) Slot.unset).toArray = ls at hl ⊢
  have hl : lv_has ls 5 [(0, .ref (ad 4)), (1, .int (zi x0)), (2, .int (zi x1))] := hl
  show W p l e rmct_X3_courseWith s m ([.ref (ad 4), .int (zi x0), .int (zi x1)] : List Value).toArray below meth c s.heap [] 0 0 (MQ below (k2_QcV (.int (zi (withA S x0 x1)))) ([.ref (ad 4), .int (zi x0), .int (zi x1)] : List Value).toArray s 0 0 (fun _ => False)) (F0 m 0 ls [])
  refine lv_iload_n hx hb dX3_courseWith_0 rfl (lv_at hl 2 rfl) ?_
  refine lv_istore_n (lv' := [(3, .int (zi x1)), (0, .ref (ad 4)), (1, .int (zi x0)), (2, .int (zi x1))]) hx hb dX3_courseWith_1 rfl hl (by decide) rfl (fun ls hl => ?_)
  refine zi_iconst hx hb dX3_courseWith_2 ?_
  have K_5 : ∀ (k : Nat) (n : Nat) (re i : Int), (i + (n : Int) = 405) → (0 ≤ i) → (0 ≤ re ∧ re ≤ 1458000) → (nthC (fun k => behC S k x0 < rAt 405 (S 14) k) 0 n i re = withA S x0 x1) → ((n : Int) < (k : Int)) → ∀ (ls : Array Slot), lv_has ls 5 [(0, .ref (ad 4)), (1, .int (zi x0)), (2, .int (zi x1)), (3, .int (zi re)), (4, .int (zi i))] → W p l e rmct_X3_courseWith s m ([.ref (ad 4), .int (zi x0), .int (zi x1)] : List Value).toArray below meth c s.heap [] 0 0 (MQ below (k2_QcV (.int (zi (withA S x0 x1)))) ([.ref (ad 4), .int (zi x0), .int (zi x1)] : List Value).toArray s 0 0 (fun _ => False)) (F0 m 5 ls []) := by
    intro k
    induction k with
    | zero => intro n re i h_n h_i h_r h_R hk; exact absurd hk (by omega)
    | succ k ih_5 =>
      intro n re i h_n h_i h_r h_R hk ls hl
      refine lv_iload hx hb dX3_courseWith_5 (lv_at hl 4 rfl) ?_
      refine zi_sipush hx hb dX3_courseWith_7 (by decide) ?_
      refine zi_icmp_ge (tgt := 48) hx hb ⟨by omega, by omega⟩ ⟨by decide, by decide⟩ dX3_courseWith_10 (by decide) (fun c_10 => ?_) (fun c_10 => ?_)
      · obtain rfl : n = 0 := by omega
        refine zi_iconst hx hb dX3_courseWith_48 ?_
        exact zr_i hx hb hr hlocks dX3_courseWith_49 (by exact h_R)
      · obtain ⟨n, rfl⟩ : ∃ n9 : Nat, n = n9 + 1 := ⟨n - 1, by omega⟩
        refine lv_aload_n hx hb dX3_courseWith_13 rfl (lv_at hl 0 rfl) ?_
        refine lv_iload hx hb dX3_courseWith_14 (lv_at hl 4 rfl) ?_
        refine lv_iload_n hx hb dX3_courseWith_16 rfl (lv_at hl 1 rfl) ?_
        refine zk_r (zc_V (As := [.int (zi i), .int (zi x0)]) (rest := []) ⟨hx, hb, hml, hown, hts⟩ (ct_X3_behind l D cI cZ cJ ad S hI i x0 ⟨by omega, by omega⟩ ⟨by omega, by omega⟩ (by omega) (by omega)) (cwV 2 hts gX3_courseWith_X3_behind rfl rfl rfl (by decide +kernel) ⟨Nat.le_of_ble_eq_true rfl, Nat.le_of_ble_eq_true rfl⟩) hK hP (q0 := 4) (ci := 3) rfl rfl rfl rfl hl.1 rfl (Nat.le_of_ble_eq_true rfl) dX3_courseWith_17 ⟨Nat.zero_le _, Nat.zero_le _⟩) ?_
        refine zi_top (fun (r_17 : Int) (er_17 : r_17 = behC S i x0) => ?_)
        have fr_17 : (0 : Int) ≤ r_17 ∧ r_17 ≤ 3599 := by rw [er_17]; exact (by unfold behC; omega)
        refine lv_aload_n hx hb dX3_courseWith_20 rfl (lv_at hl 0 rfl) ?_
        refine va_get (D := D) (ci := 3) (v := .ref (ad 21)) (C := RX3) (T := TX3) (N := 3) hx hb hts in_X3_courseWith_3 hown hK.1 hP 4 rfl rfl 1 (by decide) (hts _ lk_X3_courseWith_20) (fun _ h9 => h9) rfl dX3_courseWith_21 ?_
        refine lv_iload hx hb dX3_courseWith_24 (lv_at hl 4 rfl) ?_
        refine zk_r (zc_V (As := [.int (zi i)]) (rest := [.int (zi r_17)]) ⟨hx, hb, hml, hown, hts⟩ (ct_X5_at l D cI cZ cJ (dW cI ad S) (ad 21) (ad 41) 21 41 405 (S 14) i rfl rfl (by decide) ⟨by omega, by omega⟩) (cwV 1 hts gX3_courseWith_X5_at rfl rfl rfl (by decide +kernel) ⟨Nat.le_of_ble_eq_true rfl, Nat.le_of_ble_eq_true rfl⟩) hK hP (q0 := 21) (ci := 5) rfl rfl rfl rfl hl.1 rfl (Nat.le_of_ble_eq_true rfl) dX3_courseWith_26 ⟨Nat.zero_le _, Nat.zero_le _⟩) ?_
        refine zi_top (fun (r_26 : Int) (er_26 : r_26 = rAt 405 (S 14) i) => ?_)
        have fr_26 : (0 : Int) ≤ r_26 ∧ r_26 ≤ 3600 := by rw [er_26]; exact CI.at hI 14 405 i ⟨by decide, by decide⟩
        refine zi_icmp_ge (tgt := 42) hx hb ⟨by omega, by omega⟩ ⟨by omega, by omega⟩ dX3_courseWith_29 (by decide) (fun c_29 => ?_) (fun c_29 => ?_)
        · refine zi_iinc (k := 4) (lv' := [(4, .int (zi (i + 1))), (0, .ref (ad 4)), (1, .int (zi x0)), (2, .int (zi x1)), (3, .int (zi re))]) hx hb dX3_courseWith_42 hl rfl (by decide) rfl (fun ls hl => ?_)
          refine lv_goto (tgt := 5) hx hb dX3_courseWith_45 (by decide) ?_
          exact ih_5 n re (i + 1) (by first | omega | assumption) (by first | omega | assumption) ⟨by omega, by omega⟩ (by rw [← h_R]; first | exact ((if_pos (show behC S i x0 < rAt 405 (S 14) i by rw [← er_17, ← er_26]; omega)).trans (if_neg c_33)).symm | exact (if_neg (show ¬ behC S i x0 < rAt 405 (S 14) i by rw [← er_17, ← er_26]; omega)).symm) (by omega) _ (lv_sub hl [1, 2, 3, 4, 0] rfl)
        · refine lv_iload_n hx hb dX3_courseWith_32 rfl (lv_at hl 3 rfl) ?_
          refine zi_if_ne (tgt := 39) hx hb ⟨by omega, by omega⟩ dX3_courseWith_33 (by decide) (fun c_33 => ?_) (fun c_33 => ?_)
          · refine zi_iinc (k := 3) (lv' := [(3, .int (zi (re + (-1)))), (0, .ref (ad 4)), (1, .int (zi x0)), (2, .int (zi x1)), (4, .int (zi i))]) hx hb dX3_courseWith_39 hl rfl (by decide) rfl (fun ls hl => ?_)
            refine zi_iinc (k := 4) (lv' := [(4, .int (zi (i + 1))), (3, .int (zi (re + (-1)))), (0, .ref (ad 4)), (1, .int (zi x0)), (2, .int (zi x1))]) hx hb dX3_courseWith_42 hl rfl (by decide) rfl (fun ls hl => ?_)
            refine lv_goto (tgt := 5) hx hb dX3_courseWith_45 (by decide) ?_
            exact ih_5 n (re + (-1)) (i + 1) (by first | omega | assumption) (by first | omega | assumption) ⟨by omega, by omega⟩ (by rw [← h_R]; first | exact ((if_pos (show behC S i x0 < rAt 405 (S 14) i by rw [← er_17, ← er_26]; omega)).trans (if_neg c_33)).symm | exact (if_neg (show ¬ behC S i x0 < rAt 405 (S 14) i by rw [← er_17, ← er_26]; omega)).symm) (by omega) _ (lv_sub hl [2, 3, 4, 1, 0] rfl)
          · refine lv_iload hx hb dX3_courseWith_36 (lv_at hl 4 rfl) ?_
            exact zr_i hx hb hr hlocks dX3_courseWith_38 (by rw [← h_R]; exact ((if_pos (show behC S i x0 < rAt 405 (S 14) i by rw [← er_17, ← er_26]; omega)).trans (if_pos c_33)).symm)
  refine lv_istore (lv' := [(4, .int (zi 0)), (3, .int (zi x1)), (0, .ref (ad 4)), (1, .int (zi x0)), (2, .int (zi x1))]) hx hb dX3_courseWith_3 hl (by decide) rfl (fun ls hl => ?_)
  exact K_5 406 405 x1 0 (by first | omega | assumption) (by first | omega | assumption) ⟨by omega, by omega⟩ rfl (by omega) _ (lv_sub hl [2, 3, 4, 1, 0] rfl)

theorem in_X3_orbitAt_3 : ∀ w ∈ wsX30, w ∈ wsX3_orbitAt := by decide +kernel
theorem lk_X3_orbitAt_23 : Cond.fieldLink RX3 23 "PlanetoidDesk$Orbits" "tallies" "LPlanetoidDesk$Row;" ∈ wsX3_orbitAt := by decide +kernel
abbrev rmct_X3_orbitAt : Room := { frames := 3, cells := 0, slots := 0, locals := 68 }
set_option maxHeartbeats 4000000 in
set_option maxRecDepth 100000 in
theorem ct_X3_orbitAt (l : Launch) (D : va_G) (cI cZ cJ : ClassId) (ad : Nat → Nat) (S : ZS) (hI : CI S) (hdis : dDis ad) (x0 : Int) (hx0 : ir x0) (hp00 : 0 ≤ x0) (hp01 : x0 ≤ 1458000) : Met l yX3_orbitAt wsX3_orbitAt rmct_X3_orbitAt (zP D cI cZ cJ (dW cI ad S) [.ref (ad 4), .int (zi x0)]) (zWi D (dW cI ad) (dA ad) (fun r T => r = oatC (tlAll 0 S) 3600 0 x0 ∧ T = tlAll 0 S ∧ CI T)) 0 0 (dA ad) := by
  refine Met.ofW (cc := cX3_orbitAt) (maxL := 4) (ret := (some .int)) (by decide) rfl ?_
  intro p e s m args below meth c s₁ B hml hv
  obtain ⟨rfl, hP, hK⟩ := hv
  have hx := B.exec
  have hb := B.bytes
  have hr := B.returns
  have hts := atoms_spec (ws := wsX3_orbitAt) B.pre
  have hown : s.vm.findClass RX3 = some m.cls := findClass_of_methodNamed B.named
  have hlocks := B.notSynchronized
  have hl := lv_entry ([.ref (ad 4), .int (zi x0)]) (n := 4) (Nat.le_of_ble_eq_true rfl)
  rw [lg_entry_eq]
  generalize (lg_sl ([.ref (ad 4), .int (zi x0)]) ++ List.replicate (4 - (lg_sl ([.ref (ad 4), .int (zi x0)])).length) Slot.unset).toArray = ls at hl ⊢
  have hl : lv_has ls 4 [(0, .ref (ad 4)), (1, .int (zi x0))] := hl
  have hS : va_S (dA ad) s.heap s.heap [] := va_S.rf
  show W p l e rmct_X3_orbitAt s m ([.ref (ad 4), .int (zi x0)] : List Value).toArray below meth c s.heap [] 0 0 (MQ below (zWi D (dW cI ad) (dA ad) (fun r T => r = oatC (tlAll 0 S) 3600 0 x0 ∧ T = tlAll 0 S ∧ CI T)) ([.ref (ad 4), .int (zi x0)] : List Value).toArray s 0 0 (dA ad)) (F0 m 0 ls [])
  refine lv_aload_n hx hb dX3_orbitAt_0 rfl (lv_at hl 0 rfl) ?_
  refine zi_iconst hx hb dX3_orbitAt_1 ?_
  refine zk_wv (zc_V (As := [.int (zi 0)]) (rest := []) ⟨hx, hb, hml, hown, hts⟩ (ct_X3_tallyPlaces l D cI cZ cJ ad S hI hdis 0 ⟨by decide, by decide⟩ (by omega) (by omega)) (cwV 1 hts gX3_orbitAt_X3_tallyPlaces rfl rfl rfl (by decide +kernel) ⟨Nat.le_of_ble_eq_true rfl, Nat.le_of_ble_eq_true rfl⟩) hK hP (q0 := 4) (ci := 3) rfl rfl rfl rfl hl.1 rfl (Nat.le_of_ble_eq_true rfl) dX3_orbitAt_2 ⟨Nat.zero_le _, Nat.zero_le _⟩) hS (fun S_2 H locs hp_2 hP hS => ?_)
  obtain ⟨e9, hI_2⟩ := hp_2
  have eS_2 := e9.symm; clear e9
  refine lv_iload_n hx hb dX3_orbitAt_5 rfl (lv_at hl 1 rfl) ?_
  refine lv_istore_n (lv' := [(2, .int (zi x0)), (0, .ref (ad 4)), (1, .int (zi x0))]) hx hb dX3_orbitAt_6 rfl hl (by decide) rfl (fun ls hl => ?_)
  refine zi_iconst hx hb dX3_orbitAt_7 ?_
  have K_9 : ∀ (k : Nat) (n : Nat) (re i : Int), (i + (n : Int) = 3600) → (0 ≤ i) → (0 ≤ re ∧ re ≤ 1458000) → (oatC S_2 n i re = oatC S_2 3600 0 x0) → ((n : Int) < (k : Int)) → ∀ (ls : Array Slot), lv_has ls 4 [(0, .ref (ad 4)), (1, .int (zi x0)), (2, .int (zi re)), (3, .int (zi i))] → W p l e rmct_X3_orbitAt s m ([.ref (ad 4), .int (zi x0)] : List Value).toArray below meth c H locs 0 0 (MQ below (zWi D (dW cI ad) (dA ad) (fun r T => r = oatC (tlAll 0 S) 3600 0 x0 ∧ T = tlAll 0 S ∧ CI T)) ([.ref (ad 4), .int (zi x0)] : List Value).toArray s 0 0 (dA ad)) (F0 m 9 ls []) := by
    intro k
    induction k with
    | zero => intro n re i h_n h_i h_r h_R hk; exact absurd hk (by omega)
    | succ k ih_9 =>
      intro n re i h_n h_i h_r h_R hk ls hl
      refine lv_iload_n hx hb dX3_orbitAt_9 rfl (lv_at hl 3 rfl) ?_
      refine zi_sipush hx hb dX3_orbitAt_10 (by decide) ?_
      refine zi_icmp_ge (tgt := 58) hx hb ⟨by omega, by omega⟩ ⟨by decide, by decide⟩ dX3_orbitAt_13 (by decide) (fun c_13 => ?_) (fun c_13 => ?_)
      · obtain rfl : n = 0 := by omega
        refine zi_iconst hx hb dX3_orbitAt_58 ?_
        exact zr_wi (T := S_2) hx hb hr hlocks dX3_orbitAt_59 hP hS (by exact ⟨by rw [eS_2, ← h_R]; rfl, eS_2.symm, hI_2⟩)
      · obtain ⟨n, rfl⟩ : ∃ n9 : Nat, n = n9 + 1 := ⟨n - 1, by omega⟩
        refine lv_iload_n hx hb dX3_orbitAt_16 rfl (lv_at hl 2 rfl) ?_
        refine lv_aload_n hx hb dX3_orbitAt_17 rfl (lv_at hl 0 rfl) ?_
        refine va_get (D := D) (ci := 3) (v := .ref (ad 22)) (C := RX3) (T := TX3) (N := 3) hx hb hts in_X3_orbitAt_3 hown hK.1 hP 4 rfl rfl 2 (by decide) (hts _ lk_X3_orbitAt_23) (fun _ h9 => h9) rfl dX3_orbitAt_18 ?_
        refine lv_iload_n hx hb dX3_orbitAt_21 rfl (lv_at hl 3 rfl) ?_
        refine zk_r (zc_V (As := [.int (zi i)]) (rest := [.int (zi re)]) ⟨hx, hb, hml, hown, hts⟩ (ct_X5_at l D cI cZ cJ (dW cI ad S_2) (ad 22) (ad 42) 22 42 3600 (S_2 15) i rfl rfl (by decide) ⟨by omega, by omega⟩) (cwV 1 hts gX3_orbitAt_X5_at rfl rfl rfl (by decide +kernel) ⟨Nat.le_of_ble_eq_true rfl, Nat.le_of_ble_eq_true rfl⟩) hK hP (q0 := 22) (ci := 5) rfl rfl rfl rfl hl.1 rfl (Nat.le_of_ble_eq_true rfl) dX3_orbitAt_22 ⟨Nat.zero_le _, Nat.zero_le _⟩) ?_
        refine zi_top (fun (r_22 : Int) (er_22 : r_22 = rAt 3600 (S_2 15) i) => ?_)
        have fr_22 : (0 : Int) ≤ r_22 ∧ r_22 ≤ 1458000 := by rw [er_22]; exact CI.at hI_2 15 3600 i ⟨by decide, by decide⟩
        refine zi_icmp_ge (tgt := 41) hx hb ⟨by omega, by omega⟩ ⟨by omega, by omega⟩ dX3_orbitAt_25 (by decide) (fun c_25 => ?_) (fun c_25 => ?_)
        · refine lv_iload_n hx hb dX3_orbitAt_41 rfl (lv_at hl 2 rfl) ?_
          refine lv_aload_n hx hb dX3_orbitAt_42 rfl (lv_at hl 0 rfl) ?_
          refine va_get (D := D) (ci := 3) (v := .ref (ad 22)) (C := RX3) (T := TX3) (N := 3) hx hb hts in_X3_orbitAt_3 hown hK.1 hP 4 rfl rfl 2 (by decide) (hts _ lk_X3_orbitAt_23) (fun _ h9 => h9) rfl dX3_orbitAt_43 ?_
          refine lv_iload_n hx hb dX3_orbitAt_46 rfl (lv_at hl 3 rfl) ?_
          refine zk_r (zc_V (As := [.int (zi i)]) (rest := [.int (zi re)]) ⟨hx, hb, hml, hown, hts⟩ (ct_X5_at l D cI cZ cJ (dW cI ad S_2) (ad 22) (ad 42) 22 42 3600 (S_2 15) i rfl rfl (by decide) ⟨by omega, by omega⟩) (cwV 1 hts gX3_orbitAt_X5_at rfl rfl rfl (by decide +kernel) ⟨Nat.le_of_ble_eq_true rfl, Nat.le_of_ble_eq_true rfl⟩) hK hP (q0 := 22) (ci := 5) rfl rfl rfl rfl hl.1 rfl (Nat.le_of_ble_eq_true rfl) dX3_orbitAt_47 ⟨Nat.zero_le _, Nat.zero_le _⟩) ?_
          refine zi_top (fun (r_47 : Int) (er_47 : r_47 = rAt 3600 (S_2 15) i) => ?_)
          have fr_47 : (0 : Int) ≤ r_47 ∧ r_47 ≤ 1458000 := by rw [er_47]; exact CI.at hI_2 15 3600 i ⟨by decide, by decide⟩
          refine zi_isub hx hb dX3_orbitAt_50 ?_
          refine zi_top (fun x2_51 ex2_51 => ?_)
          refine lv_istore_n (lv' := [(2, .int (zi x2_51)), (0, .ref (ad 4)), (1, .int (zi x0)), (3, .int (zi i))]) hx hb dX3_orbitAt_51 rfl hl (by decide) rfl (fun ls hl => ?_)
          refine zi_iinc (k := 3) (lv' := [(3, .int (zi (i + 1))), (2, .int (zi x2_51)), (0, .ref (ad 4)), (1, .int (zi x0))]) hx hb dX3_orbitAt_52 hl rfl (by decide) rfl (fun ls hl => ?_)
          refine lv_goto (tgt := 9) hx hb dX3_orbitAt_55 (by decide) ?_
          exact ih_9 n x2_51 (i + 1) (by first | omega | assumption) (by first | omega | assumption) ⟨by omega, by omega⟩ (by rw [← h_R, ex2_51, er_47]; exact (if_neg (by rw [← er_22]; omega)).symm) (by omega) _ (lv_sub hl [2, 3, 1, 0] rfl)
        · refine lv_iload_n hx hb dX3_orbitAt_28 rfl (lv_at hl 3 rfl) ?_
          refine zi_sipush hx hb dX3_orbitAt_29 (by decide) ?_
          refine zi_imul hx hb dX3_orbitAt_32 ?_
          refine lv_aload_n hx hb dX3_orbitAt_33 rfl (lv_at hl 0 rfl) ?_
          refine lv_iload_n hx hb dX3_orbitAt_34 rfl (lv_at hl 3 rfl) ?_
          refine lv_iload_n hx hb dX3_orbitAt_35 rfl (lv_at hl 2 rfl) ?_
          refine zk_r (zc_V (As := [.int (zi i), .int (zi re)]) (rest := [.int (zi (i * 405))]) ⟨hx, hb, hml, hown, hts⟩ (ct_X3_courseWith l D cI cZ cJ ad S_2 hI_2 i re ⟨by omega, by omega⟩ ⟨by omega, by omega⟩ (by omega) (by omega) (by omega) (by omega)) (cwV 2 hts gX3_orbitAt_X3_courseWith rfl rfl rfl (by decide +kernel) ⟨Nat.le_of_ble_eq_true rfl, Nat.le_of_ble_eq_true rfl⟩) hK hP (q0 := 4) (ci := 3) rfl rfl rfl rfl hl.1 rfl (Nat.le_of_ble_eq_true rfl) dX3_orbitAt_36 ⟨Nat.zero_le _, Nat.zero_le _⟩) ?_
          refine zi_top (fun (r_36 : Int) (er_36 : r_36 = withA S_2 i re) => ?_)
          have fr_36 : (0 : Int) ≤ r_36 ∧ r_36 ≤ 404 := by rw [er_36]; exact withA_b _ _ _
          refine zi_iadd hx hb dX3_orbitAt_39 ?_
          exact zr_wi (T := S_2) hx hb hr hlocks dX3_orbitAt_40 hP hS (by exact ⟨by rw [eS_2, ← h_R, er_36]; exact (if_pos (by rw [← er_22]; omega)).symm, eS_2.symm, hI_2⟩)
  refine lv_istore_n (lv' := [(3, .int (zi 0)), (2, .int (zi x0)), (0, .ref (ad 4)), (1, .int (zi x0))]) hx hb dX3_orbitAt_8 rfl hl (by decide) rfl (fun ls hl => ?_)
  exact K_9 3601 3600 x0 0 (by first | omega | assumption) (by first | omega | assumption) ⟨by omega, by omega⟩ rfl (by omega) _ (lv_sub hl [2, 3, 1, 0] rfl)

theorem in_X3_countPlaces_3 : ∀ w ∈ wsX30, w ∈ wsX3_countPlaces := by decide +kernel
theorem lk_X3_countPlaces_23 : Cond.fieldLink RX3 23 "PlanetoidDesk$Orbits" "tallies" "LPlanetoidDesk$Row;" ∈ wsX3_countPlaces := by decide +kernel
abbrev rmct_X3_countPlaces : Room := { frames := 3, cells := 0, slots := 0, locals := 66 }
set_option maxHeartbeats 4000000 in
set_option maxRecDepth 100000 in
theorem ct_X3_countPlaces (l : Launch) (D : va_G) (cI cZ cJ : ClassId) (ad : Nat → Nat) (S : ZS) (hI : CI S) (hdis : dDis ad) (x0 : Int) (hx0 : ir x0) (hp00 : 0 ≤ x0) (hp01 : x0 ≤ 999) : Met l yX3_countPlaces wsX3_countPlaces rmct_X3_countPlaces (zP D cI cZ cJ (dW cI ad S) [.ref (ad 4), .int (zi x0)]) (zWi D (dW cI ad) (dA ad) (fun r T => r = spreadN (tlAll x0 S) ∧ T = tlAll x0 S ∧ CI T)) 0 0 (dA ad) := by
  refine Met.ofW (cc := cX3_countPlaces) (maxL := 4) (ret := (some .int)) (by decide) rfl ?_
  intro p e s m args below meth c s₁ B hml hv
  obtain ⟨rfl, hP, hK⟩ := hv
  have hx := B.exec
  have hb := B.bytes
  have hr := B.returns
  have hts := atoms_spec (ws := wsX3_countPlaces) B.pre
  have hown : s.vm.findClass RX3 = some m.cls := findClass_of_methodNamed B.named
  have hlocks := B.notSynchronized
  have hl := lv_entry ([.ref (ad 4), .int (zi x0)]) (n := 4) (Nat.le_of_ble_eq_true rfl)
  rw [lg_entry_eq]
  generalize (lg_sl ([.ref (ad 4), .int (zi x0)]) ++ List.replicate (4 - (lg_sl ([.ref (ad 4), .int (zi x0)])).length) Slot.unset).toArray = ls at hl ⊢
  have hl : lv_has ls 4 [(0, .ref (ad 4)), (1, .int (zi x0))] := hl
  have hS : va_S (dA ad) s.heap s.heap [] := va_S.rf
  show W p l e rmct_X3_countPlaces s m ([.ref (ad 4), .int (zi x0)] : List Value).toArray below meth c s.heap [] 0 0 (MQ below (zWi D (dW cI ad) (dA ad) (fun r T => r = spreadN (tlAll x0 S) ∧ T = tlAll x0 S ∧ CI T)) ([.ref (ad 4), .int (zi x0)] : List Value).toArray s 0 0 (dA ad)) (F0 m 0 ls [])
  refine lv_aload_n hx hb dX3_countPlaces_0 rfl (lv_at hl 0 rfl) ?_
  refine lv_iload_n hx hb dX3_countPlaces_1 rfl (lv_at hl 1 rfl) ?_
  refine zk_wv (zc_V (As := [.int (zi x0)]) (rest := []) ⟨hx, hb, hml, hown, hts⟩ (ct_X3_tallyPlaces l D cI cZ cJ ad S hI hdis x0 ⟨by omega, by omega⟩ (by omega) (by omega)) (cwV 1 hts gX3_countPlaces_X3_tallyPlaces rfl rfl rfl (by decide +kernel) ⟨Nat.le_of_ble_eq_true rfl, Nat.le_of_ble_eq_true rfl⟩) hK hP (q0 := 4) (ci := 3) rfl rfl rfl rfl hl.1 rfl (Nat.le_of_ble_eq_true rfl) dX3_countPlaces_2 ⟨Nat.zero_le _, Nat.zero_le _⟩) hS (fun S_2 H locs hp_2 hP hS => ?_)
  obtain ⟨e9, hI_2⟩ := hp_2
  have eS_2 := e9.symm; clear e9
  refine zi_iconst hx hb dX3_countPlaces_5 ?_
  refine lv_istore_n (lv' := [(2, .int (zi 0)), (0, .ref (ad 4)), (1, .int (zi x0))]) hx hb dX3_countPlaces_6 rfl hl (by decide) rfl (fun ls hl => ?_)
  refine zi_iconst hx hb dX3_countPlaces_7 ?_
  have K_9 : ∀ (k : Nat) (n : Nat) (acc i : Int), (i + (n : Int) = 3600) → (0 ≤ i) → (itr (fun p acc => if 0 < rAt 3600 (S_2 15) p then acc + 1 else acc) n i acc = spreadN S_2) → ((n : Int) < (k : Int)) → ∀ (ls : Array Slot), lv_has ls 4 [(0, .ref (ad 4)), (1, .int (zi x0)), (2, .int (zi acc)), (3, .int (zi i))] → W p l e rmct_X3_countPlaces s m ([.ref (ad 4), .int (zi x0)] : List Value).toArray below meth c H locs 0 0 (MQ below (zWi D (dW cI ad) (dA ad) (fun r T => r = spreadN (tlAll x0 S) ∧ T = tlAll x0 S ∧ CI T)) ([.ref (ad 4), .int (zi x0)] : List Value).toArray s 0 0 (dA ad)) (F0 m 9 ls []) := by
    intro k
    induction k with
    | zero => intro n acc i h_n h_i h_R hk; exact absurd hk (by omega)
    | succ k ih_9 =>
      intro n acc i h_n h_i h_R hk ls hl
      refine lv_iload_n hx hb dX3_countPlaces_9 rfl (lv_at hl 3 rfl) ?_
      refine zi_sipush hx hb dX3_countPlaces_10 (by decide) ?_
      refine zi_icmp_ge (tgt := 36) hx hb ⟨by omega, by omega⟩ ⟨by decide, by decide⟩ dX3_countPlaces_13 (by decide) (fun c_13 => ?_) (fun c_13 => ?_)
      · obtain rfl : n = 0 := by omega
        refine lv_iload_n hx hb dX3_countPlaces_36 rfl (lv_at hl 2 rfl) ?_
        exact zr_wi (T := S_2) hx hb hr hlocks dX3_countPlaces_37 hP hS (by exact ⟨by rw [eS_2, ← h_R]; rfl, eS_2.symm, hI_2⟩)
      · obtain ⟨n, rfl⟩ : ∃ n9 : Nat, n = n9 + 1 := ⟨n - 1, by omega⟩
        refine lv_aload_n hx hb dX3_countPlaces_16 rfl (lv_at hl 0 rfl) ?_
        refine va_get (D := D) (ci := 3) (v := .ref (ad 22)) (C := RX3) (T := TX3) (N := 3) hx hb hts in_X3_countPlaces_3 hown hK.1 hP 4 rfl rfl 2 (by decide) (hts _ lk_X3_countPlaces_23) (fun _ h9 => h9) rfl dX3_countPlaces_17 ?_
        refine lv_iload_n hx hb dX3_countPlaces_20 rfl (lv_at hl 3 rfl) ?_
        refine zk_r (zc_V (As := [.int (zi i)]) (rest := []) ⟨hx, hb, hml, hown, hts⟩ (ct_X5_at l D cI cZ cJ (dW cI ad S_2) (ad 22) (ad 42) 22 42 3600 (S_2 15) i rfl rfl (by decide) ⟨by omega, by omega⟩) (cwV 1 hts gX3_countPlaces_X5_at rfl rfl rfl (by decide +kernel) ⟨Nat.le_of_ble_eq_true rfl, Nat.le_of_ble_eq_true rfl⟩) hK hP (q0 := 22) (ci := 5) rfl rfl rfl rfl hl.1 rfl (Nat.le_of_ble_eq_true rfl) dX3_countPlaces_21 ⟨Nat.zero_le _, Nat.zero_le _⟩) ?_
        refine zi_top (fun (r_21 : Int) (er_21 : r_21 = rAt 3600 (S_2 15) i) => ?_)
        have fr_21 : (0 : Int) ≤ r_21 ∧ r_21 ≤ 1458000 := by rw [er_21]; exact CI.at hI_2 15 3600 i ⟨by decide, by decide⟩
        refine zi_if_le (tgt := 30) hx hb ⟨by omega, by omega⟩ dX3_countPlaces_24 (by decide) (fun c_24 => ?_) (fun c_24 => ?_)
        · refine zi_iinc (k := 3) (lv' := [(3, .int (zi (i + 1))), (0, .ref (ad 4)), (1, .int (zi x0)), (2, .int (zi acc))]) hx hb dX3_countPlaces_30 hl rfl (by decide) rfl (fun ls hl => ?_)
          refine lv_goto (tgt := 9) hx hb dX3_countPlaces_33 (by decide) ?_
          exact ih_9 n acc (i + 1) (by first | omega | assumption) (by first | omega | assumption) (itr_if_f (p := fun p => 0 < rAt 3600 (S_2 15) p) h_R (show ¬ 0 < rAt 3600 (S_2 15) i by rw [← er_21]; omega)) (by omega) _ (lv_sub hl [1, 2, 3, 0] rfl)
        · refine zi_iinc (k := 2) (lv' := [(2, .int (zi (acc + 1))), (0, .ref (ad 4)), (1, .int (zi x0)), (3, .int (zi i))]) hx hb dX3_countPlaces_27 hl rfl (by decide) rfl (fun ls hl => ?_)
          refine zi_iinc (k := 3) (lv' := [(3, .int (zi (i + 1))), (2, .int (zi (acc + 1))), (0, .ref (ad 4)), (1, .int (zi x0))]) hx hb dX3_countPlaces_30 hl rfl (by decide) rfl (fun ls hl => ?_)
          refine lv_goto (tgt := 9) hx hb dX3_countPlaces_33 (by decide) ?_
          exact ih_9 n (acc + 1) (i + 1) (by first | omega | assumption) (by first | omega | assumption) (itr_if_t (p := fun p => 0 < rAt 3600 (S_2 15) p) h_R (show 0 < rAt 3600 (S_2 15) i by rw [← er_21]; omega)) (by omega) _ (lv_sub hl [2, 3, 1, 0] rfl)
  refine lv_istore_n (lv' := [(3, .int (zi 0)), (2, .int (zi 0)), (0, .ref (ad 4)), (1, .int (zi x0))]) hx hb dX3_countPlaces_8 rfl hl (by decide) rfl (fun ls hl => ?_)
  exact K_9 3601 3600 0 0 (by first | omega | assumption) (by first | omega | assumption) (by rw [spreadN]) (by omega) _ (lv_sub hl [2, 3, 1, 0] rfl)

theorem in_X3_placeAt_3 : ∀ w ∈ wsX30, w ∈ wsX3_placeAt := by decide +kernel
theorem lk_X3_placeAt_23 : Cond.fieldLink RX3 23 "PlanetoidDesk$Orbits" "tallies" "LPlanetoidDesk$Row;" ∈ wsX3_placeAt := by decide +kernel
abbrev rmct_X3_placeAt : Room := { frames := 3, cells := 0, slots := 0, locals := 66 }
set_option maxHeartbeats 4000000 in
set_option maxRecDepth 100000 in
theorem ct_X3_placeAt (l : Launch) (D : va_G) (cI cZ cJ : ClassId) (ad : Nat → Nat) (S : ZS) (hI : CI S) (hdis : dDis ad) (x0 x1 : Int) (hx0 : ir x0) (hx1 : ir x1) (hp00 : 0 ≤ x0) (hp01 : x0 ≤ 999) (hp10 : 0 ≤ x1) (hp11 : x1 ≤ 2147483647) : Met l yX3_placeAt wsX3_placeAt rmct_X3_placeAt (zP D cI cZ cJ (dW cI ad S) [.ref (ad 4), .int (zi x0), .int (zi x1)]) (zWi D (dW cI ad) (dA ad) (fun r T => r = placeN (tlAll x0 S) x1 ∧ T = tlAll x0 S ∧ CI T)) 0 0 (dA ad) := by
  refine Met.ofW (cc := cX3_placeAt) (maxL := 5) (ret := (some .int)) (by decide) rfl ?_
  intro p e s m args below meth c s₁ B hml hv
  obtain ⟨rfl, hP, hK⟩ := hv
  have hx := B.exec
  have hb := B.bytes
  have hr := B.returns
  have hts := atoms_spec (ws := wsX3_placeAt) B.pre
  have hown : s.vm.findClass RX3 = some m.cls := findClass_of_methodNamed B.named
  have hlocks := B.notSynchronized
  have hl := lv_entry ([.ref (ad 4), .int (zi x0), .int (zi x1)]) (n := 5) (Nat.le_of_ble_eq_true rfl)
  rw [lg_entry_eq]
  generalize (lg_sl ([.ref (ad 4), .int (zi x0), .int (zi x1)]) ++ List.replicate (5 - (lg_sl ([.ref (ad 4), .int (zi x0), .int (zi x1)])).length) Slot.unset).toArray = ls at hl ⊢
  have hl : lv_has ls 5 [(0, .ref (ad 4)), (1, .int (zi x0)), (2, .int (zi x1))] := hl
  have hS : va_S (dA ad) s.heap s.heap [] := va_S.rf
  show W p l e rmct_X3_placeAt s m ([.ref (ad 4), .int (zi x0), .int (zi x1)] : List Value).toArray below meth c s.heap [] 0 0 (MQ below (zWi D (dW cI ad) (dA ad) (fun r T => r = placeN (tlAll x0 S) x1 ∧ T = tlAll x0 S ∧ CI T)) ([.ref (ad 4), .int (zi x0), .int (zi x1)] : List Value).toArray s 0 0 (dA ad)) (F0 m 0 ls [])
  refine lv_aload_n hx hb dX3_placeAt_0 rfl (lv_at hl 0 rfl) ?_
  refine lv_iload_n hx hb dX3_placeAt_1 rfl (lv_at hl 1 rfl) ?_
  refine zk_wv (zc_V (As := [.int (zi x0)]) (rest := []) ⟨hx, hb, hml, hown, hts⟩ (ct_X3_tallyPlaces l D cI cZ cJ ad S hI hdis x0 ⟨by omega, by omega⟩ (by omega) (by omega)) (cwV 1 hts gX3_placeAt_X3_tallyPlaces rfl rfl rfl (by decide +kernel) ⟨Nat.le_of_ble_eq_true rfl, Nat.le_of_ble_eq_true rfl⟩) hK hP (q0 := 4) (ci := 3) rfl rfl rfl rfl hl.1 rfl (Nat.le_of_ble_eq_true rfl) dX3_placeAt_2 ⟨Nat.zero_le _, Nat.zero_le _⟩) hS (fun S_2 H locs hp_2 hP hS => ?_)
  obtain ⟨e9, hI_2⟩ := hp_2
  have eS_2 := e9.symm; clear e9
  refine lv_iload_n hx hb dX3_placeAt_5 rfl (lv_at hl 2 rfl) ?_
  refine lv_istore_n (lv' := [(3, .int (zi x1)), (0, .ref (ad 4)), (1, .int (zi x0)), (2, .int (zi x1))]) hx hb dX3_placeAt_6 rfl hl (by decide) rfl (fun ls hl => ?_)
  refine zi_iconst hx hb dX3_placeAt_7 ?_
  have K_10 : ∀ (k : Nat) (n : Nat) (re i : Int), (i + (n : Int) = 3600) → (0 ≤ i) → (0 ≤ re ∧ re ≤ 2147483647) → (nthC (fun p => 0 < rAt 3600 (S_2 15) p) (-1) n i re = placeN S_2 x1) → ((n : Int) < (k : Int)) → ∀ (ls : Array Slot), lv_has ls 5 [(0, .ref (ad 4)), (1, .int (zi x0)), (2, .int (zi x1)), (3, .int (zi re)), (4, .int (zi i))] → W p l e rmct_X3_placeAt s m ([.ref (ad 4), .int (zi x0), .int (zi x1)] : List Value).toArray below meth c H locs 0 0 (MQ below (zWi D (dW cI ad) (dA ad) (fun r T => r = placeN (tlAll x0 S) x1 ∧ T = tlAll x0 S ∧ CI T)) ([.ref (ad 4), .int (zi x0), .int (zi x1)] : List Value).toArray s 0 0 (dA ad)) (F0 m 10 ls []) := by
    intro k
    induction k with
    | zero => intro n re i h_n h_i h_r h_R hk; exact absurd hk (by omega)
    | succ k ih_10 =>
      intro n re i h_n h_i h_r h_R hk ls hl
      refine lv_iload hx hb dX3_placeAt_10 (lv_at hl 4 rfl) ?_
      refine zi_sipush hx hb dX3_placeAt_12 (by decide) ?_
      refine zi_icmp_ge (tgt := 46) hx hb ⟨by omega, by omega⟩ ⟨by decide, by decide⟩ dX3_placeAt_15 (by decide) (fun c_15 => ?_) (fun c_15 => ?_)
      · obtain rfl : n = 0 := by omega
        refine zi_iconst hx hb dX3_placeAt_46 ?_
        exact zr_wi (T := S_2) hx hb hr hlocks dX3_placeAt_47 hP hS (by exact ⟨by rw [eS_2, ← h_R]; rfl, eS_2.symm, hI_2⟩)
      · obtain ⟨n, rfl⟩ : ∃ n9 : Nat, n = n9 + 1 := ⟨n - 1, by omega⟩
        refine lv_aload_n hx hb dX3_placeAt_18 rfl (lv_at hl 0 rfl) ?_
        refine va_get (D := D) (ci := 3) (v := .ref (ad 22)) (C := RX3) (T := TX3) (N := 3) hx hb hts in_X3_placeAt_3 hown hK.1 hP 4 rfl rfl 2 (by decide) (hts _ lk_X3_placeAt_23) (fun _ h9 => h9) rfl dX3_placeAt_19 ?_
        refine lv_iload hx hb dX3_placeAt_22 (lv_at hl 4 rfl) ?_
        refine zk_r (zc_V (As := [.int (zi i)]) (rest := []) ⟨hx, hb, hml, hown, hts⟩ (ct_X5_at l D cI cZ cJ (dW cI ad S_2) (ad 22) (ad 42) 22 42 3600 (S_2 15) i rfl rfl (by decide) ⟨by omega, by omega⟩) (cwV 1 hts gX3_placeAt_X5_at rfl rfl rfl (by decide +kernel) ⟨Nat.le_of_ble_eq_true rfl, Nat.le_of_ble_eq_true rfl⟩) hK hP (q0 := 22) (ci := 5) rfl rfl rfl rfl hl.1 rfl (Nat.le_of_ble_eq_true rfl) dX3_placeAt_24 ⟨Nat.zero_le _, Nat.zero_le _⟩) ?_
        refine zi_top (fun (r_24 : Int) (er_24 : r_24 = rAt 3600 (S_2 15) i) => ?_)
        have fr_24 : (0 : Int) ≤ r_24 ∧ r_24 ≤ 1458000 := by rw [er_24]; exact CI.at hI_2 15 3600 i ⟨by decide, by decide⟩
        refine zi_if_le (tgt := 40) hx hb ⟨by omega, by omega⟩ dX3_placeAt_27 (by decide) (fun c_27 => ?_) (fun c_27 => ?_)
        · refine zi_iinc (k := 4) (lv' := [(4, .int (zi (i + 1))), (0, .ref (ad 4)), (1, .int (zi x0)), (2, .int (zi x1)), (3, .int (zi re))]) hx hb dX3_placeAt_40 hl rfl (by decide) rfl (fun ls hl => ?_)
          refine lv_goto (tgt := 10) hx hb dX3_placeAt_43 (by decide) ?_
          exact ih_10 n re (i + 1) (by first | omega | assumption) (by first | omega | assumption) ⟨by omega, by omega⟩ (by rw [← h_R]; first | exact ((if_pos (show 0 < rAt 3600 (S_2 15) i by rw [← er_24]; omega)).trans (if_neg c_31)).symm | exact (if_neg (show ¬ 0 < rAt 3600 (S_2 15) i by rw [← er_24]; omega)).symm) (by omega) _ (lv_sub hl [1, 2, 3, 4, 0] rfl)
        · refine lv_iload_n hx hb dX3_placeAt_30 rfl (lv_at hl 3 rfl) ?_
          refine zi_if_ne (tgt := 37) hx hb ⟨by omega, by omega⟩ dX3_placeAt_31 (by decide) (fun c_31 => ?_) (fun c_31 => ?_)
          · refine zi_iinc (k := 3) (lv' := [(3, .int (zi (re + (-1)))), (0, .ref (ad 4)), (1, .int (zi x0)), (2, .int (zi x1)), (4, .int (zi i))]) hx hb dX3_placeAt_37 hl rfl (by decide) rfl (fun ls hl => ?_)
            refine zi_iinc (k := 4) (lv' := [(4, .int (zi (i + 1))), (3, .int (zi (re + (-1)))), (0, .ref (ad 4)), (1, .int (zi x0)), (2, .int (zi x1))]) hx hb dX3_placeAt_40 hl rfl (by decide) rfl (fun ls hl => ?_)
            refine lv_goto (tgt := 10) hx hb dX3_placeAt_43 (by decide) ?_
            exact ih_10 n (re + (-1)) (i + 1) (by first | omega | assumption) (by first | omega | assumption) ⟨by omega, by omega⟩ (by rw [← h_R]; first | exact ((if_pos (show 0 < rAt 3600 (S_2 15) i by rw [← er_24]; omega)).trans (if_neg c_31)).symm | exact (if_neg (show ¬ 0 < rAt 3600 (S_2 15) i by rw [← er_24]; omega)).symm) (by omega) _ (lv_sub hl [2, 3, 4, 1, 0] rfl)
          · refine lv_iload hx hb dX3_placeAt_34 (lv_at hl 4 rfl) ?_
            exact zr_wi (T := S_2) hx hb hr hlocks dX3_placeAt_36 hP hS (by exact ⟨by rw [eS_2, ← h_R]; exact ((if_pos (show 0 < rAt 3600 (S_2 15) i by rw [← er_24]; omega)).trans (if_pos c_31)).symm, eS_2.symm, hI_2⟩)
  refine lv_istore (lv' := [(4, .int (zi 0)), (3, .int (zi x1)), (0, .ref (ad 4)), (1, .int (zi x0)), (2, .int (zi x1))]) hx hb dX3_placeAt_8 hl (by decide) rfl (fun ls hl => ?_)
  exact K_10 3601 3600 x1 0 (by first | omega | assumption) (by first | omega | assumption) ⟨by omega, by omega⟩ (by rw [placeN]) (by omega) _ (lv_sub hl [2, 3, 4, 1, 0] rfl)
