noncomputable def kM_link (S : ZS) (x0 x1 : Int) : Int := cif (¬ ((0 ≤ x0 ∧ x0 < S 11 0) ∧ (0 ≤ x1 ∧ x1 < S 6 0))) 1 (cif (¬ clP S x0 x1) 2 (0))
theorem in_X8_link_8 : ∀ w ∈ wsX80, w ∈ wsX8_link := by decide +kernel
theorem lk_X8_link_31 : Cond.fieldLink RX8 31 "PlanetoidDeskModel" "own" "[I" ∈ wsX8_link := by decide +kernel
theorem lk_X8_link_127 : Cond.fieldLink RX8 127 "PlanetoidDeskModel" "looks" "I" ∈ wsX8_link := by decide +kernel
abbrev rmct_X8_link : Room := { frames := 6, cells := 0, slots := 0, locals := 136 }
set_option maxHeartbeats 4000000 in
set_option maxRecDepth 100000 in
theorem ct_X8_link (l : Launch) (D : va_G) (cI cZ cJ : ClassId) (bd : Nat → Nat) (S : ZS) (hI : MI S) (hdis : mDis bd) (x0 x1 : Int) (hx0 : ir x0) (hx1 : ir x1) (hac : accM S) : Met l yX8_link wsX8_link rmct_X8_link (zP D cI cZ cJ (mW cI cZ bd S) [.ref (bd 0), .int (zi x0), .int (zi x1)]) (zWi D (mW cI cZ bd) (mA bd) (fun r T => pubQ S (kM_link S x0 x1) (clT S x0 x1 19 0) (fun P => su P 10 (up (P 10) x1 x0)) r T ∧ MI T)) 0 0 (mA bd) := by
  refine Met.ofW (cc := cX8_link) (maxL := 4) (ret := (some .int)) (by decide) rfl ?_
  intro p e s m args below meth c s₁ B hml hv
  obtain ⟨rfl, hP, hK⟩ := hv
  have hx := B.exec
  have hb := B.bytes
  have hr := B.returns
  have hts := atoms_spec (ws := wsX8_link) B.pre
  have hown : s.vm.findClass RX8 = some m.cls := findClass_of_methodNamed B.named
  have hlocks := B.notSynchronized
  have hl := lv_entry ([.ref (bd 0), .int (zi x0), .int (zi x1)]) (n := 4) (Nat.le_of_ble_eq_true rfl)
  rw [lg_entry_eq]
  generalize (lg_sl ([.ref (bd 0), .int (zi x0), .int (zi x1)]) ++ List.replicate (4 - (lg_sl ([.ref (bd 0), .int (zi x0), .int (zi x1)])).length) Slot.unset).toArray = ls at hl ⊢
  have hl : lv_has ls 4 [(0, .ref (bd 0)), (1, .int (zi x0)), (2, .int (zi x1))] := hl
  have hS : va_S (mA bd) s.heap s.heap [] := va_S.rf
  show W p l e rmct_X8_link s m ([.ref (bd 0), .int (zi x0), .int (zi x1)] : List Value).toArray below meth c s.heap [] 0 0 (MQ below (zWi D (mW cI cZ bd) (mA bd) (fun r T => pubQ S (kM_link S x0 x1) (clT S x0 x1 19 0) (fun P => su P 10 (up (P 10) x1 x0)) r T ∧ MI T)) ([.ref (bd 0), .int (zi x0), .int (zi x1)] : List Value).toArray s 0 0 (mA bd)) (F0 m 0 ls [])
  have hc0 : (0 : Int) ≤ S 11 0 ∧ S 11 0 ≤ 20 := hI 11 0
  have hc6 : (0 : Int) ≤ S 6 0 ∧ S 6 0 ≤ 60 := hI 6 0
  refine lv_aload_n hx hb dX8_link_0 rfl (lv_at hl 0 rfl) ?_
  refine lv_iload_n hx hb dX8_link_1 rfl (lv_at hl 1 rfl) ?_
  refine zk_r (zc_V (As := [.int (zi x0)]) (rest := []) ⟨hx, hb, hml, hown, hts⟩ (ct_X8_isBody l D cI cZ cJ bd S hI x0 ⟨by omega, by omega⟩) (cwV 1 hts gX8_link_X8_isBody rfl rfl rfl (by decide +kernel) ⟨Nat.le_of_ble_eq_true rfl, Nat.le_of_ble_eq_true rfl⟩) hK hP (q0 := 0) (ci := 8) rfl rfl rfl rfl hl.1 rfl (Nat.le_of_ble_eq_true rfl) dX8_link_2 ⟨Nat.zero_le _, Nat.zero_le _⟩) ?_
  refine zi_top (fun (r_2 : Int) (er_2 : r_2 = b2 (0 ≤ x0 ∧ x0 < S 11 0)) => ?_)
  have fr_2 : (0 : Int) ≤ r_2 ∧ r_2 ≤ 1 := by rw [er_2]; exact b2_b
  have fr_21 : (r_2 = 1 ∧ (0 ≤ x0 ∧ x0 < S 11 0)) ∨ (r_2 = 0 ∧ ¬ (0 ≤ x0 ∧ x0 < S 11 0)) := by rw [er_2]; exact b2_or _
  refine zi_if_eq (tgt := 20) hx hb ⟨by omega, by omega⟩ dX8_link_5 (by decide) (fun c_5 => ?_) (fun c_5 => ?_)
  · refine zi_iconst hx hb dX8_link_20 ?_
    refine lv_istore_n (lv' := [(3, .int (zi 0)), (0, .ref (bd 0)), (1, .int (zi x0)), (2, .int (zi x1))]) hx hb dX8_link_21 rfl hl (by decide) rfl (fun ls hl => ?_)
    refine lv_aload_n hx hb dX8_link_22 rfl (lv_at hl 1 rfl) ?_
    refine lv_iload_n hx hb dX8_link_23 rfl (lv_at hl 0 rfl) ?_
    refine zi_if_ne (tgt := 31) hx hb ⟨by decide, by decide⟩ dX8_link_24 (by decide) (fun c_24 => ?_) (fun c_24 => ?_)
    · refine lv_aload_n hx hb dX8_link_31 rfl (lv_at hl 1 rfl) ?_
      refine lv_iload_n hx hb dX8_link_32 rfl (lv_at hl 2 rfl) ?_
      refine lv_iload_n hx hb dX8_link_33 rfl (lv_at hl 3 rfl) ?_
      refine zk_wi (zc_V (As := [.int (zi x0), .int (zi x1)]) (rest := [.ref (bd 0)]) ⟨hx, hb, hml, hown, hts⟩ (ct_X8_canLink l D cI cZ cJ bd S hI hdis x0 x1 ⟨by omega, by omega⟩ ⟨by omega, by omega⟩ (by omega) (by omega) (by omega) (by omega) hac) (cwV 2 hts gX8_link_X8_canLink rfl rfl rfl (by decide +kernel) ⟨Nat.le_of_ble_eq_true rfl, Nat.le_of_ble_eq_true rfl⟩) hK hP (q0 := 0) (ci := 8) rfl rfl rfl rfl hl.1 rfl (Nat.le_of_ble_eq_true rfl) dX8_link_34 ⟨Nat.zero_le _, Nat.zero_le _⟩) hS (fun r_34 S_34 H locs hp_34 hP hS => ?_)
      obtain ⟨er_34, e9, hI_34⟩ := hp_34
      have eS_34 := e9.symm; clear e9
      have fr_34 : (0 : Int) ≤ r_34 ∧ r_34 ≤ 1 := by rw [er_34]; exact b2_b
      refine zi_if_eq (tgt := 44) hx hb ⟨by omega, by omega⟩ dX8_link_37 (by decide) (fun c_37 => ?_) (fun c_37 => ?_)
      · refine zi_iconst hx hb dX8_link_44 ?_
        have hkk : (kM_link S x0 x1) = 2 := by rw [kM_link, cif_f (by omega), cif_t (b2_0 er_34 c_37)]
        refine zk_wi (zc_V (As := [.int (zi 2)]) (rest := []) ⟨hx, hb, hml, hown, hts⟩ (ct_X8_can l D cI cZ cJ bd S_34 hI_34 hdis 2 ⟨by decide, by decide⟩ (by omega) (by omega)) (cwV 1 hts gX8_link_X8_can rfl rfl rfl (by decide +kernel) ⟨Nat.le_of_ble_eq_true rfl, Nat.le_of_ble_eq_true rfl⟩) hK hP (q0 := 0) (ci := 8) rfl rfl rfl rfl hl.1 rfl (Nat.le_of_ble_eq_true rfl) dX8_link_45 ⟨Nat.zero_le _, Nat.zero_le _⟩) hS (fun r_45 S_45 H locs hp_45 hP hS => ?_)
        obtain ⟨er_45, e9, hI_45⟩ := hp_45
        have eS_45 := e9.symm; clear e9
        have fr_45 : (0 : Int) ≤ r_45 ∧ r_45 ≤ 1 := by rw [er_45]; exact b2_b
        have k_45 : r_45 = 0 := er_45.trans (b2_f (by decide))
        refine zi_if_ne (tgt := 53) hx hb ⟨by omega, by omega⟩ dX8_link_48 (by decide) (fun c_48 => ?_) (fun c_48 => ?_)
        · exact absurd c_48 (by omega)
        · refine zi_iconst hx hb dX8_link_51 ?_
          exact zr_wi (T := S_45) hx hb hr hlocks dX8_link_52 hP hS (by exact ⟨pub_no hkk (by decide) (by rw [← eS_34]; exact SM_cl) eS_45, hI_45⟩)
      · refine zi_iconst hx hb dX8_link_40 ?_
        refine lv_goto (tgt := 45) hx hb dX8_link_41 (by decide) ?_
        have hkk : (kM_link S x0 x1) = 0 := by rw [kM_link, cif_f (by omega), cif_f (fun h9 => h9 (b2_1 er_34 c_37))]
        refine zk_wi (zc_V (As := [.int (zi 0)]) (rest := []) ⟨hx, hb, hml, hown, hts⟩ (ct_X8_can l D cI cZ cJ bd S_34 hI_34 hdis 0 ⟨by decide, by decide⟩ (by omega) (by omega)) (cwV 1 hts gX8_link_X8_can rfl rfl rfl (by decide +kernel) ⟨Nat.le_of_ble_eq_true rfl, Nat.le_of_ble_eq_true rfl⟩) hK hP (q0 := 0) (ci := 8) rfl rfl rfl rfl hl.1 rfl (Nat.le_of_ble_eq_true rfl) dX8_link_45 ⟨Nat.zero_le _, Nat.zero_le _⟩) hS (fun r_45 S_45 H locs hp_45 hP hS => ?_)
        obtain ⟨er_45, e9, hI_45⟩ := hp_45
        have eS_45 := e9.symm; clear e9
        have fr_45 : (0 : Int) ≤ r_45 ∧ r_45 ≤ 1 := by rw [er_45]; exact b2_b
        have k_45 : r_45 = 1 := er_45.trans (b2_t rfl)
        refine zi_if_ne (tgt := 53) hx hb ⟨by omega, by omega⟩ dX8_link_48 (by decide) (fun c_48 => ?_) (fun c_48 => ?_)
        · refine lv_aload_n hx hb dX8_link_53 rfl (lv_at hl 1 rfl) ?_
          refine va_get (D := D) (ci := 8) (v := .ref (bd 11)) (C := RX8) (T := TX8) (N := 32) hx hb hts in_X8_link_8 hown hK.1 hP 0 rfl rfl 10 (by decide) (hts _ lk_X8_link_31) (fun _ h9 => h9) rfl dX8_link_54 ?_
          refine lv_iload_n hx hb dX8_link_57 rfl (lv_at hl 3 rfl) ?_
          refine lv_iload_n hx hb dX8_link_58 rfl (lv_at hl 2 rfl) ?_
          refine zi_iast hx hb hK.1 hP (mW_D hdis _) hS 8 0 rfl rfl (by omega) (by omega) (by decide) dX8_link_59 (fun H locs hP hS => ?_)
          have hP : va_P D vwCl (mW cI cZ bd (su S_45 10 (up (S_45 10) x1 x0))) H := hP
          have hI_59 : MI (su S_45 10 (up (S_45 10) x1 x0)) := MI.up hI_45 10 x1 x0 (show (-1 : Int) ≤ x0 ∧ x0 ≤ 19 from ⟨by omega, by omega⟩)
          generalize eS_59 : su S_45 10 (up (S_45 10) x1 x0) = S_59 at hP hI_59
          refine lv_aload_n hx hb dX8_link_60 rfl (lv_at hl 1 rfl) ?_
          refine va_get (D := D) (ci := 8) (v := .int (zi (S_59 19 0))) (C := RX8) (T := TX8) (N := 32) hx hb hts in_X8_link_8 hown hK.1 hP 0 rfl rfl 19 (by decide) (hts _ lk_X8_link_127) (fun _ h9 => h9) rfl dX8_link_61 ?_
          refine zi_is (S_34 19 0) (by rw [← eS_59, ← eS_45] <;> rfl) ?_
          have f_61 : (0 : Int) ≤ S_34 19 0 ∧ S_34 19 0 ≤ 60 := hI_34 19 0
          exact zr_wi (T := S_59) hx hb hr hlocks dX8_link_64 hP hS (by exact ⟨pub_ok hkk (by rw [eS_34]) (by rw [← eS_59, ← eS_45]; exact SM_u (SM_u (by rw [← eS_34]; exact SM_cl) rfl) (by show up (S 10) x1 x0 = up (S_34 10) x1 x0; rw [← eS_34, SM_cl 10 rfl])), hI_59⟩)
        · exact absurd c_48 (by omega)
    · refine zi_iconst hx hb dX8_link_27 ?_
      refine lv_goto (tgt := 45) hx hb dX8_link_28 (by decide) ?_
      have hkk : (kM_link S x0 x1) = 1 := by rw [kM_link, cif_t (by omega)]
      refine zk_wi (zc_V (As := [.int (zi 1)]) (rest := []) ⟨hx, hb, hml, hown, hts⟩ (ct_X8_can l D cI cZ cJ bd S hI hdis 1 ⟨by decide, by decide⟩ (by omega) (by omega)) (cwV 1 hts gX8_link_X8_can rfl rfl rfl (by decide +kernel) ⟨Nat.le_of_ble_eq_true rfl, Nat.le_of_ble_eq_true rfl⟩) hK hP (q0 := 0) (ci := 8) rfl rfl rfl rfl hl.1 rfl (Nat.le_of_ble_eq_true rfl) dX8_link_45 ⟨Nat.zero_le _, Nat.zero_le _⟩) hS (fun r_45 S_45 H locs hp_45 hP hS => ?_)
      obtain ⟨er_45, e9, hI_45⟩ := hp_45
      have eS_45 := e9.symm; clear e9
      have fr_45 : (0 : Int) ≤ r_45 ∧ r_45 ≤ 1 := by rw [er_45]; exact b2_b
      have k_45 : r_45 = 0 := er_45.trans (b2_f (by decide))
      refine zi_if_ne (tgt := 53) hx hb ⟨by omega, by omega⟩ dX8_link_48 (by decide) (fun c_48 => ?_) (fun c_48 => ?_)
      · exact absurd c_48 (by omega)
      · refine zi_iconst hx hb dX8_link_51 ?_
        exact zr_wi (T := S_45) hx hb hr hlocks dX8_link_52 hP hS (by exact ⟨pub_no hkk (by decide) (SM.rf) eS_45, hI_45⟩)
  · refine lv_aload_n hx hb dX8_link_8 rfl (lv_at hl 0 rfl) ?_
    refine lv_iload_n hx hb dX8_link_9 rfl (lv_at hl 2 rfl) ?_
    refine zk_r (zc_V (As := [.int (zi x1)]) (rest := []) ⟨hx, hb, hml, hown, hts⟩ (ct_X8_isDot l D cI cZ cJ bd S hI x1 ⟨by omega, by omega⟩) (cwV 1 hts gX8_link_X8_isDot rfl rfl rfl (by decide +kernel) ⟨Nat.le_of_ble_eq_true rfl, Nat.le_of_ble_eq_true rfl⟩) hK hP (q0 := 0) (ci := 8) rfl rfl rfl rfl hl.1 rfl (Nat.le_of_ble_eq_true rfl) dX8_link_10 ⟨Nat.zero_le _, Nat.zero_le _⟩) ?_
    refine zi_top (fun (r_10 : Int) (er_10 : r_10 = b2 (0 ≤ x1 ∧ x1 < S 6 0)) => ?_)
    have fr_10 : (0 : Int) ≤ r_10 ∧ r_10 ≤ 1 := by rw [er_10]; exact b2_b
    have fr_101 : (r_10 = 1 ∧ (0 ≤ x1 ∧ x1 < S 6 0)) ∨ (r_10 = 0 ∧ ¬ (0 ≤ x1 ∧ x1 < S 6 0)) := by rw [er_10]; exact b2_or _
    refine zi_if_eq (tgt := 20) hx hb ⟨by omega, by omega⟩ dX8_link_13 (by decide) (fun c_13 => ?_) (fun c_13 => ?_)
    · refine zi_iconst hx hb dX8_link_20 ?_
      refine lv_istore_n (lv' := [(3, .int (zi 0)), (0, .ref (bd 0)), (1, .int (zi x0)), (2, .int (zi x1))]) hx hb dX8_link_21 rfl hl (by decide) rfl (fun ls hl => ?_)
      refine lv_aload_n hx hb dX8_link_22 rfl (lv_at hl 1 rfl) ?_
      refine lv_iload_n hx hb dX8_link_23 rfl (lv_at hl 0 rfl) ?_
      refine zi_if_ne (tgt := 31) hx hb ⟨by decide, by decide⟩ dX8_link_24 (by decide) (fun c_24 => ?_) (fun c_24 => ?_)
      · refine lv_aload_n hx hb dX8_link_31 rfl (lv_at hl 1 rfl) ?_
        refine lv_iload_n hx hb dX8_link_32 rfl (lv_at hl 2 rfl) ?_
        refine lv_iload_n hx hb dX8_link_33 rfl (lv_at hl 3 rfl) ?_
        refine zk_wi (zc_V (As := [.int (zi x0), .int (zi x1)]) (rest := [.ref (bd 0)]) ⟨hx, hb, hml, hown, hts⟩ (ct_X8_canLink l D cI cZ cJ bd S hI hdis x0 x1 ⟨by omega, by omega⟩ ⟨by omega, by omega⟩ (by omega) (by omega) (by omega) (by omega) hac) (cwV 2 hts gX8_link_X8_canLink rfl rfl rfl (by decide +kernel) ⟨Nat.le_of_ble_eq_true rfl, Nat.le_of_ble_eq_true rfl⟩) hK hP (q0 := 0) (ci := 8) rfl rfl rfl rfl hl.1 rfl (Nat.le_of_ble_eq_true rfl) dX8_link_34 ⟨Nat.zero_le _, Nat.zero_le _⟩) hS (fun r_34 S_34 H locs hp_34 hP hS => ?_)
        obtain ⟨er_34, e9, hI_34⟩ := hp_34
        have eS_34 := e9.symm; clear e9
        have fr_34 : (0 : Int) ≤ r_34 ∧ r_34 ≤ 1 := by rw [er_34]; exact b2_b
        refine zi_if_eq (tgt := 44) hx hb ⟨by omega, by omega⟩ dX8_link_37 (by decide) (fun c_37 => ?_) (fun c_37 => ?_)
        · refine zi_iconst hx hb dX8_link_44 ?_
          have hkk : (kM_link S x0 x1) = 2 := by rw [kM_link, cif_f (by omega), cif_t (b2_0 er_34 c_37)]
          refine zk_wi (zc_V (As := [.int (zi 2)]) (rest := []) ⟨hx, hb, hml, hown, hts⟩ (ct_X8_can l D cI cZ cJ bd S_34 hI_34 hdis 2 ⟨by decide, by decide⟩ (by omega) (by omega)) (cwV 1 hts gX8_link_X8_can rfl rfl rfl (by decide +kernel) ⟨Nat.le_of_ble_eq_true rfl, Nat.le_of_ble_eq_true rfl⟩) hK hP (q0 := 0) (ci := 8) rfl rfl rfl rfl hl.1 rfl (Nat.le_of_ble_eq_true rfl) dX8_link_45 ⟨Nat.zero_le _, Nat.zero_le _⟩) hS (fun r_45 S_45 H locs hp_45 hP hS => ?_)
          obtain ⟨er_45, e9, hI_45⟩ := hp_45
          have eS_45 := e9.symm; clear e9
          have fr_45 : (0 : Int) ≤ r_45 ∧ r_45 ≤ 1 := by rw [er_45]; exact b2_b
          have k_45 : r_45 = 0 := er_45.trans (b2_f (by decide))
          refine zi_if_ne (tgt := 53) hx hb ⟨by omega, by omega⟩ dX8_link_48 (by decide) (fun c_48 => ?_) (fun c_48 => ?_)
          · exact absurd c_48 (by omega)
          · refine zi_iconst hx hb dX8_link_51 ?_
            exact zr_wi (T := S_45) hx hb hr hlocks dX8_link_52 hP hS (by exact ⟨pub_no hkk (by decide) (by rw [← eS_34]; exact SM_cl) eS_45, hI_45⟩)
        · refine zi_iconst hx hb dX8_link_40 ?_
          refine lv_goto (tgt := 45) hx hb dX8_link_41 (by decide) ?_
          have hkk : (kM_link S x0 x1) = 0 := by rw [kM_link, cif_f (by omega), cif_f (fun h9 => h9 (b2_1 er_34 c_37))]
          refine zk_wi (zc_V (As := [.int (zi 0)]) (rest := []) ⟨hx, hb, hml, hown, hts⟩ (ct_X8_can l D cI cZ cJ bd S_34 hI_34 hdis 0 ⟨by decide, by decide⟩ (by omega) (by omega)) (cwV 1 hts gX8_link_X8_can rfl rfl rfl (by decide +kernel) ⟨Nat.le_of_ble_eq_true rfl, Nat.le_of_ble_eq_true rfl⟩) hK hP (q0 := 0) (ci := 8) rfl rfl rfl rfl hl.1 rfl (Nat.le_of_ble_eq_true rfl) dX8_link_45 ⟨Nat.zero_le _, Nat.zero_le _⟩) hS (fun r_45 S_45 H locs hp_45 hP hS => ?_)
          obtain ⟨er_45, e9, hI_45⟩ := hp_45
          have eS_45 := e9.symm; clear e9
          have fr_45 : (0 : Int) ≤ r_45 ∧ r_45 ≤ 1 := by rw [er_45]; exact b2_b
          have k_45 : r_45 = 1 := er_45.trans (b2_t rfl)
          refine zi_if_ne (tgt := 53) hx hb ⟨by omega, by omega⟩ dX8_link_48 (by decide) (fun c_48 => ?_) (fun c_48 => ?_)
          · refine lv_aload_n hx hb dX8_link_53 rfl (lv_at hl 1 rfl) ?_
            refine va_get (D := D) (ci := 8) (v := .ref (bd 11)) (C := RX8) (T := TX8) (N := 32) hx hb hts in_X8_link_8 hown hK.1 hP 0 rfl rfl 10 (by decide) (hts _ lk_X8_link_31) (fun _ h9 => h9) rfl dX8_link_54 ?_
            refine lv_iload_n hx hb dX8_link_57 rfl (lv_at hl 3 rfl) ?_
            refine lv_iload_n hx hb dX8_link_58 rfl (lv_at hl 2 rfl) ?_
            refine zi_iast hx hb hK.1 hP (mW_D hdis _) hS 8 0 rfl rfl (by omega) (by omega) (by decide) dX8_link_59 (fun H locs hP hS => ?_)
            have hP : va_P D vwCl (mW cI cZ bd (su S_45 10 (up (S_45 10) x1 x0))) H := hP
            have hI_59 : MI (su S_45 10 (up (S_45 10) x1 x0)) := MI.up hI_45 10 x1 x0 (show (-1 : Int) ≤ x0 ∧ x0 ≤ 19 from ⟨by omega, by omega⟩)
            generalize eS_59 : su S_45 10 (up (S_45 10) x1 x0) = S_59 at hP hI_59
            refine lv_aload_n hx hb dX8_link_60 rfl (lv_at hl 1 rfl) ?_
            refine va_get (D := D) (ci := 8) (v := .int (zi (S_59 19 0))) (C := RX8) (T := TX8) (N := 32) hx hb hts in_X8_link_8 hown hK.1 hP 0 rfl rfl 19 (by decide) (hts _ lk_X8_link_127) (fun _ h9 => h9) rfl dX8_link_61 ?_
            refine zi_is (S_34 19 0) (by rw [← eS_59, ← eS_45] <;> rfl) ?_
            have f_61 : (0 : Int) ≤ S_34 19 0 ∧ S_34 19 0 ≤ 60 := hI_34 19 0
            exact zr_wi (T := S_59) hx hb hr hlocks dX8_link_64 hP hS (by exact ⟨pub_ok hkk (by rw [eS_34]) (by rw [← eS_59, ← eS_45]; exact SM_u (SM_u (by rw [← eS_34]; exact SM_cl) rfl) (by show up (S 10) x1 x0 = up (S_34 10) x1 x0; rw [← eS_34, SM_cl 10 rfl])), hI_59⟩)
          · exact absurd c_48 (by omega)
      · refine zi_iconst hx hb dX8_link_27 ?_
        refine lv_goto (tgt := 45) hx hb dX8_link_28 (by decide) ?_
        have hkk : (kM_link S x0 x1) = 1 := by rw [kM_link, cif_t (by omega)]
        refine zk_wi (zc_V (As := [.int (zi 1)]) (rest := []) ⟨hx, hb, hml, hown, hts⟩ (ct_X8_can l D cI cZ cJ bd S hI hdis 1 ⟨by decide, by decide⟩ (by omega) (by omega)) (cwV 1 hts gX8_link_X8_can rfl rfl rfl (by decide +kernel) ⟨Nat.le_of_ble_eq_true rfl, Nat.le_of_ble_eq_true rfl⟩) hK hP (q0 := 0) (ci := 8) rfl rfl rfl rfl hl.1 rfl (Nat.le_of_ble_eq_true rfl) dX8_link_45 ⟨Nat.zero_le _, Nat.zero_le _⟩) hS (fun r_45 S_45 H locs hp_45 hP hS => ?_)
        obtain ⟨er_45, e9, hI_45⟩ := hp_45
        have eS_45 := e9.symm; clear e9
        have fr_45 : (0 : Int) ≤ r_45 ∧ r_45 ≤ 1 := by rw [er_45]; exact b2_b
        have k_45 : r_45 = 0 := er_45.trans (b2_f (by decide))
        refine zi_if_ne (tgt := 53) hx hb ⟨by omega, by omega⟩ dX8_link_48 (by decide) (fun c_48 => ?_) (fun c_48 => ?_)
        · exact absurd c_48 (by omega)
        · refine zi_iconst hx hb dX8_link_51 ?_
          exact zr_wi (T := S_45) hx hb hr hlocks dX8_link_52 hP hS (by exact ⟨pub_no hkk (by decide) (SM.rf) eS_45, hI_45⟩)
    · refine zi_iconst hx hb dX8_link_16 ?_
      refine lv_goto (tgt := 21) hx hb dX8_link_17 (by decide) ?_
      refine lv_istore_n (lv' := [(3, .int (zi 1)), (0, .ref (bd 0)), (1, .int (zi x0)), (2, .int (zi x1))]) hx hb dX8_link_21 rfl hl (by decide) rfl (fun ls hl => ?_)
      refine lv_aload_n hx hb dX8_link_22 rfl (lv_at hl 1 rfl) ?_
      refine lv_iload_n hx hb dX8_link_23 rfl (lv_at hl 0 rfl) ?_
      refine zi_if_ne (tgt := 31) hx hb ⟨by decide, by decide⟩ dX8_link_24 (by decide) (fun c_24 => ?_) (fun c_24 => ?_)
      · refine lv_aload_n hx hb dX8_link_31 rfl (lv_at hl 1 rfl) ?_
        refine lv_iload_n hx hb dX8_link_32 rfl (lv_at hl 2 rfl) ?_
        refine lv_iload_n hx hb dX8_link_33 rfl (lv_at hl 3 rfl) ?_
        refine zk_wi (zc_V (As := [.int (zi x0), .int (zi x1)]) (rest := [.ref (bd 0)]) ⟨hx, hb, hml, hown, hts⟩ (ct_X8_canLink l D cI cZ cJ bd S hI hdis x0 x1 ⟨by omega, by omega⟩ ⟨by omega, by omega⟩ (by omega) (by omega) (by omega) (by omega) hac) (cwV 2 hts gX8_link_X8_canLink rfl rfl rfl (by decide +kernel) ⟨Nat.le_of_ble_eq_true rfl, Nat.le_of_ble_eq_true rfl⟩) hK hP (q0 := 0) (ci := 8) rfl rfl rfl rfl hl.1 rfl (Nat.le_of_ble_eq_true rfl) dX8_link_34 ⟨Nat.zero_le _, Nat.zero_le _⟩) hS (fun r_34 S_34 H locs hp_34 hP hS => ?_)
        obtain ⟨er_34, e9, hI_34⟩ := hp_34
        have eS_34 := e9.symm; clear e9
        have fr_34 : (0 : Int) ≤ r_34 ∧ r_34 ≤ 1 := by rw [er_34]; exact b2_b
        refine zi_if_eq (tgt := 44) hx hb ⟨by omega, by omega⟩ dX8_link_37 (by decide) (fun c_37 => ?_) (fun c_37 => ?_)
        · refine zi_iconst hx hb dX8_link_44 ?_
          have hkk : (kM_link S x0 x1) = 2 := by rw [kM_link, cif_f (by omega), cif_t (b2_0 er_34 c_37)]
          refine zk_wi (zc_V (As := [.int (zi 2)]) (rest := []) ⟨hx, hb, hml, hown, hts⟩ (ct_X8_can l D cI cZ cJ bd S_34 hI_34 hdis 2 ⟨by decide, by decide⟩ (by omega) (by omega)) (cwV 1 hts gX8_link_X8_can rfl rfl rfl (by decide +kernel) ⟨Nat.le_of_ble_eq_true rfl, Nat.le_of_ble_eq_true rfl⟩) hK hP (q0 := 0) (ci := 8) rfl rfl rfl rfl hl.1 rfl (Nat.le_of_ble_eq_true rfl) dX8_link_45 ⟨Nat.zero_le _, Nat.zero_le _⟩) hS (fun r_45 S_45 H locs hp_45 hP hS => ?_)
          obtain ⟨er_45, e9, hI_45⟩ := hp_45
          have eS_45 := e9.symm; clear e9
          have fr_45 : (0 : Int) ≤ r_45 ∧ r_45 ≤ 1 := by rw [er_45]; exact b2_b
          have k_45 : r_45 = 0 := er_45.trans (b2_f (by decide))
          refine zi_if_ne (tgt := 53) hx hb ⟨by omega, by omega⟩ dX8_link_48 (by decide) (fun c_48 => ?_) (fun c_48 => ?_)
          · exact absurd c_48 (by omega)
          · refine zi_iconst hx hb dX8_link_51 ?_
            exact zr_wi (T := S_45) hx hb hr hlocks dX8_link_52 hP hS (by exact ⟨pub_no hkk (by decide) (by rw [← eS_34]; exact SM_cl) eS_45, hI_45⟩)
        · refine zi_iconst hx hb dX8_link_40 ?_
          refine lv_goto (tgt := 45) hx hb dX8_link_41 (by decide) ?_
          have hkk : (kM_link S x0 x1) = 0 := by rw [kM_link, cif_f (by omega), cif_f (fun h9 => h9 (b2_1 er_34 c_37))]
          refine zk_wi (zc_V (As := [.int (zi 0)]) (rest := []) ⟨hx, hb, hml, hown, hts⟩ (ct_X8_can l D cI cZ cJ bd S_34 hI_34 hdis 0 ⟨by decide, by decide⟩ (by omega) (by omega)) (cwV 1 hts gX8_link_X8_can rfl rfl rfl (by decide +kernel) ⟨Nat.le_of_ble_eq_true rfl, Nat.le_of_ble_eq_true rfl⟩) hK hP (q0 := 0) (ci := 8) rfl rfl rfl rfl hl.1 rfl (Nat.le_of_ble_eq_true rfl) dX8_link_45 ⟨Nat.zero_le _, Nat.zero_le _⟩) hS (fun r_45 S_45 H locs hp_45 hP hS => ?_)
          obtain ⟨er_45, e9, hI_45⟩ := hp_45
          have eS_45 := e9.symm; clear e9
          have fr_45 : (0 : Int) ≤ r_45 ∧ r_45 ≤ 1 := by rw [er_45]; exact b2_b
          have k_45 : r_45 = 1 := er_45.trans (b2_t rfl)
          refine zi_if_ne (tgt := 53) hx hb ⟨by omega, by omega⟩ dX8_link_48 (by decide) (fun c_48 => ?_) (fun c_48 => ?_)
          · refine lv_aload_n hx hb dX8_link_53 rfl (lv_at hl 1 rfl) ?_
            refine va_get (D := D) (ci := 8) (v := .ref (bd 11)) (C := RX8) (T := TX8) (N := 32) hx hb hts in_X8_link_8 hown hK.1 hP 0 rfl rfl 10 (by decide) (hts _ lk_X8_link_31) (fun _ h9 => h9) rfl dX8_link_54 ?_
            refine lv_iload_n hx hb dX8_link_57 rfl (lv_at hl 3 rfl) ?_
            refine lv_iload_n hx hb dX8_link_58 rfl (lv_at hl 2 rfl) ?_
            refine zi_iast hx hb hK.1 hP (mW_D hdis _) hS 8 0 rfl rfl (by omega) (by omega) (by decide) dX8_link_59 (fun H locs hP hS => ?_)
            have hP : va_P D vwCl (mW cI cZ bd (su S_45 10 (up (S_45 10) x1 x0))) H := hP
            have hI_59 : MI (su S_45 10 (up (S_45 10) x1 x0)) := MI.up hI_45 10 x1 x0 (show (-1 : Int) ≤ x0 ∧ x0 ≤ 19 from ⟨by omega, by omega⟩)
            generalize eS_59 : su S_45 10 (up (S_45 10) x1 x0) = S_59 at hP hI_59
            refine lv_aload_n hx hb dX8_link_60 rfl (lv_at hl 1 rfl) ?_
            refine va_get (D := D) (ci := 8) (v := .int (zi (S_59 19 0))) (C := RX8) (T := TX8) (N := 32) hx hb hts in_X8_link_8 hown hK.1 hP 0 rfl rfl 19 (by decide) (hts _ lk_X8_link_127) (fun _ h9 => h9) rfl dX8_link_61 ?_
            refine zi_is (S_34 19 0) (by rw [← eS_59, ← eS_45] <;> rfl) ?_
            have f_61 : (0 : Int) ≤ S_34 19 0 ∧ S_34 19 0 ≤ 60 := hI_34 19 0
            exact zr_wi (T := S_59) hx hb hr hlocks dX8_link_64 hP hS (by exact ⟨pub_ok hkk (by rw [eS_34]) (by rw [← eS_59, ← eS_45]; exact SM_u (SM_u (by rw [← eS_34]; exact SM_cl) rfl) (by show up (S 10) x1 x0 = up (S_34 10) x1 x0; rw [← eS_34, SM_cl 10 rfl])), hI_59⟩)
          · exact absurd c_48 (by omega)
      · refine zi_iconst hx hb dX8_link_27 ?_
        refine lv_goto (tgt := 45) hx hb dX8_link_28 (by decide) ?_
        have hkk : (kM_link S x0 x1) = 1 := by rw [kM_link, cif_t (by omega)]
        refine zk_wi (zc_V (As := [.int (zi 1)]) (rest := []) ⟨hx, hb, hml, hown, hts⟩ (ct_X8_can l D cI cZ cJ bd S hI hdis 1 ⟨by decide, by decide⟩ (by omega) (by omega)) (cwV 1 hts gX8_link_X8_can rfl rfl rfl (by decide +kernel) ⟨Nat.le_of_ble_eq_true rfl, Nat.le_of_ble_eq_true rfl⟩) hK hP (q0 := 0) (ci := 8) rfl rfl rfl rfl hl.1 rfl (Nat.le_of_ble_eq_true rfl) dX8_link_45 ⟨Nat.zero_le _, Nat.zero_le _⟩) hS (fun r_45 S_45 H locs hp_45 hP hS => ?_)
        obtain ⟨er_45, e9, hI_45⟩ := hp_45
        have eS_45 := e9.symm; clear e9
        have fr_45 : (0 : Int) ≤ r_45 ∧ r_45 ≤ 1 := by rw [er_45]; exact b2_b
        have k_45 : r_45 = 0 := er_45.trans (b2_f (by decide))
        refine zi_if_ne (tgt := 53) hx hb ⟨by omega, by omega⟩ dX8_link_48 (by decide) (fun c_48 => ?_) (fun c_48 => ?_)
        · exact absurd c_48 (by omega)
        · refine zi_iconst hx hb dX8_link_51 ?_
          exact zr_wi (T := S_45) hx hb hr hlocks dX8_link_52 hP hS (by exact ⟨pub_no hkk (by decide) (SM.rf) eS_45, hI_45⟩)

noncomputable def kM_part (S : ZS) (x0 : Int) : Int := cif (¬ (0 ≤ x0 ∧ x0 < S 11 0)) 1 (cif (lateM S x0 = -1) 2 (0))
theorem in_X8_part_8 : ∀ w ∈ wsX80, w ∈ wsX8_part := by decide +kernel
theorem lk_X8_part_34 : Cond.fieldLink RX8 34 "PlanetoidDeskModel" "above" "[I" ∈ wsX8_part := by decide +kernel
abbrev rmct_X8_part : Room := { frames := 2, cells := 0, slots := 0, locals := 43 }
set_option maxHeartbeats 4000000 in
set_option maxRecDepth 100000 in
theorem ct_X8_part (l : Launch) (D : va_G) (cI cZ cJ : ClassId) (bd : Nat → Nat) (S : ZS) (hI : MI S) (hdis : mDis bd) (x0 : Int) (hx0 : ir x0)  : Met l yX8_part wsX8_part rmct_X8_part (zP D cI cZ cJ (mW cI cZ bd S) [.ref (bd 0), .int (zi x0)]) (zWi D (mW cI cZ bd) (mA bd) (fun r T => pubQ S (kM_part S x0) (lateM S x0) (fun P => su P 12 (up (P 12) (lateM S x0) (-1))) r T ∧ MI T)) 0 0 (mA bd) := by
  refine Met.ofW (cc := cX8_part) (maxL := 4) (ret := (some .int)) (by decide) rfl ?_
  intro p e s m args below meth c s₁ B hml hv
  obtain ⟨rfl, hP, hK⟩ := hv
  have hx := B.exec
  have hb := B.bytes
  have hr := B.returns
  have hts := atoms_spec (ws := wsX8_part) B.pre
  have hown : s.vm.findClass RX8 = some m.cls := findClass_of_methodNamed B.named
  have hlocks := B.notSynchronized
  have hl := lv_entry ([.ref (bd 0), .int (zi x0)]) (n := 4) (Nat.le_of_ble_eq_true rfl)
  rw [lg_entry_eq]
  generalize (lg_sl ([.ref (bd 0), .int (zi x0)]) ++ List.replicate (4 - (lg_sl ([.ref (bd 0), .int (zi x0)])).length) Slot.unset).toArray = ls at hl ⊢
  have hl : lv_has ls 4 [(0, .ref (bd 0)), (1, .int (zi x0))] := hl
  have hS : va_S (mA bd) s.heap s.heap [] := va_S.rf
  show W p l e rmct_X8_part s m ([.ref (bd 0), .int (zi x0)] : List Value).toArray below meth c s.heap [] 0 0 (MQ below (zWi D (mW cI cZ bd) (mA bd) (fun r T => pubQ S (kM_part S x0) (lateM S x0) (fun P => su P 12 (up (P 12) (lateM S x0) (-1))) r T ∧ MI T)) ([.ref (bd 0), .int (zi x0)] : List Value).toArray s 0 0 (mA bd)) (F0 m 0 ls [])
  have hc0 : (0 : Int) ≤ S 11 0 ∧ S 11 0 ≤ 20 := hI 11 0
  have hc6 : (0 : Int) ≤ S 6 0 ∧ S 6 0 ≤ 60 := hI 6 0
  refine lv_aload_n hx hb dX8_part_0 rfl (lv_at hl 0 rfl) ?_
  refine lv_iload_n hx hb dX8_part_1 rfl (lv_at hl 1 rfl) ?_
  refine zk_r (zc_V (As := [.int (zi x0)]) (rest := []) ⟨hx, hb, hml, hown, hts⟩ (ct_X8_isBody l D cI cZ cJ bd S hI x0 ⟨by omega, by omega⟩) (cwV 1 hts gX8_part_X8_isBody rfl rfl rfl (by decide +kernel) ⟨Nat.le_of_ble_eq_true rfl, Nat.le_of_ble_eq_true rfl⟩) hK hP (q0 := 0) (ci := 8) rfl rfl rfl rfl hl.1 rfl (Nat.le_of_ble_eq_true rfl) dX8_part_2 ⟨Nat.zero_le _, Nat.zero_le _⟩) ?_
  refine zi_top (fun (r_2 : Int) (er_2 : r_2 = b2 (0 ≤ x0 ∧ x0 < S 11 0)) => ?_)
  have fr_2 : (0 : Int) ≤ r_2 ∧ r_2 ≤ 1 := by rw [er_2]; exact b2_b
  have fr_21 : (r_2 = 1 ∧ (0 ≤ x0 ∧ x0 < S 11 0)) ∨ (r_2 = 0 ∧ ¬ (0 ≤ x0 ∧ x0 < S 11 0)) := by rw [er_2]; exact b2_or _
  refine lv_istore_n (lv' := [(2, .int (zi r_2)), (0, .ref (bd 0)), (1, .int (zi x0))]) hx hb dX8_part_5 rfl hl (by decide) rfl (fun ls hl => ?_)
  refine lv_iload_n hx hb dX8_part_6 rfl (lv_at hl 0 rfl) ?_
  refine zi_if_eq (tgt := 18) hx hb ⟨by omega, by omega⟩ dX8_part_7 (by decide) (fun c_7 => ?_) (fun c_7 => ?_)
  · refine zi_iconst hx hb dX8_part_18 ?_
    refine lv_istore_n (lv' := [(3, .int (zi (-1))), (2, .int (zi r_2)), (0, .ref (bd 0)), (1, .int (zi x0))]) hx hb dX8_part_19 rfl hl (by decide) rfl (fun ls hl => ?_)
    refine lv_aload_n hx hb dX8_part_20 rfl (lv_at hl 2 rfl) ?_
    refine lv_iload_n hx hb dX8_part_21 rfl (lv_at hl 1 rfl) ?_
    refine zi_if_ne (tgt := 29) hx hb ⟨by omega, by omega⟩ dX8_part_22 (by decide) (fun c_22 => ?_) (fun c_22 => ?_)
    · exact absurd c_22 (by omega)
    · refine zi_iconst hx hb dX8_part_25 ?_
      refine lv_goto (tgt := 39) hx hb dX8_part_26 (by decide) ?_
      have hkk : (kM_part S x0) = 1 := by rw [kM_part, cif_t (by omega)]
      refine zk_wi (zc_V (As := [.int (zi 1)]) (rest := []) ⟨hx, hb, hml, hown, hts⟩ (ct_X8_can l D cI cZ cJ bd S hI hdis 1 ⟨by decide, by decide⟩ (by omega) (by omega)) (cwV 1 hts gX8_part_X8_can rfl rfl rfl (by decide +kernel) ⟨Nat.le_of_ble_eq_true rfl, Nat.le_of_ble_eq_true rfl⟩) hK hP (q0 := 0) (ci := 8) rfl rfl rfl rfl hl.1 rfl (Nat.le_of_ble_eq_true rfl) dX8_part_39 ⟨Nat.zero_le _, Nat.zero_le _⟩) hS (fun r_39 S_39 H locs hp_39 hP hS => ?_)
      obtain ⟨er_39, e9, hI_39⟩ := hp_39
      have eS_39 := e9.symm; clear e9
      have fr_39 : (0 : Int) ≤ r_39 ∧ r_39 ≤ 1 := by rw [er_39]; exact b2_b
      have k_39 : r_39 = 0 := er_39.trans (b2_f (by decide))
      refine zi_if_ne (tgt := 47) hx hb ⟨by omega, by omega⟩ dX8_part_42 (by decide) (fun c_42 => ?_) (fun c_42 => ?_)
      · exact absurd c_42 (by omega)
      · refine zi_iconst hx hb dX8_part_45 ?_
        exact zr_wi (T := S_39) hx hb hr hlocks dX8_part_46 hP hS (by exact ⟨pub_no hkk (by decide) (SM.rf) eS_39, hI_39⟩)
  · refine lv_aload_n hx hb dX8_part_10 rfl (lv_at hl 1 rfl) ?_
    refine lv_iload_n hx hb dX8_part_11 rfl (lv_at hl 2 rfl) ?_
    refine zk_r (zc_V (As := [.int (zi x0)]) (rest := []) ⟨hx, hb, hml, hown, hts⟩ (ct_X8_latest l D cI cZ cJ bd S hI x0 ⟨by omega, by omega⟩) (cwV 1 hts gX8_part_X8_latest rfl rfl rfl (by decide +kernel) ⟨Nat.le_of_ble_eq_true rfl, Nat.le_of_ble_eq_true rfl⟩) hK hP (q0 := 0) (ci := 8) rfl rfl rfl rfl hl.1 rfl (Nat.le_of_ble_eq_true rfl) dX8_part_12 ⟨Nat.zero_le _, Nat.zero_le _⟩) ?_
    refine zi_top (fun (r_12 : Int) (er_12 : r_12 = lateM S x0) => ?_)
    have fr_12 : (-1 : Int) ≤ r_12 ∧ r_12 ≤ 19 := by rw [er_12]; exact lateM_b hI _
    refine lv_goto (tgt := 19) hx hb dX8_part_15 (by decide) ?_
    refine lv_istore_n (lv' := [(3, .int (zi r_12)), (2, .int (zi r_2)), (0, .ref (bd 0)), (1, .int (zi x0))]) hx hb dX8_part_19 rfl hl (by decide) rfl (fun ls hl => ?_)
    refine lv_aload_n hx hb dX8_part_20 rfl (lv_at hl 2 rfl) ?_
    refine lv_iload_n hx hb dX8_part_21 rfl (lv_at hl 1 rfl) ?_
    refine zi_if_ne (tgt := 29) hx hb ⟨by omega, by omega⟩ dX8_part_22 (by decide) (fun c_22 => ?_) (fun c_22 => ?_)
    · refine lv_iload_n hx hb dX8_part_29 rfl (lv_at hl 0 rfl) ?_
      refine zi_iconst hx hb dX8_part_30 ?_
      refine zi_icmp_ne (tgt := 38) hx hb ⟨by omega, by omega⟩ ⟨by decide, by decide⟩ dX8_part_31 (by decide) (fun c_31 => ?_) (fun c_31 => ?_)
      · refine zi_iconst hx hb dX8_part_38 ?_
        have hkk : (kM_part S x0) = 0 := by rw [kM_part, cif_f (by omega), cif_f (by omega)]
        refine zk_wi (zc_V (As := [.int (zi 0)]) (rest := []) ⟨hx, hb, hml, hown, hts⟩ (ct_X8_can l D cI cZ cJ bd S hI hdis 0 ⟨by decide, by decide⟩ (by omega) (by omega)) (cwV 1 hts gX8_part_X8_can rfl rfl rfl (by decide +kernel) ⟨Nat.le_of_ble_eq_true rfl, Nat.le_of_ble_eq_true rfl⟩) hK hP (q0 := 0) (ci := 8) rfl rfl rfl rfl hl.1 rfl (Nat.le_of_ble_eq_true rfl) dX8_part_39 ⟨Nat.zero_le _, Nat.zero_le _⟩) hS (fun r_39 S_39 H locs hp_39 hP hS => ?_)
        obtain ⟨er_39, e9, hI_39⟩ := hp_39
        have eS_39 := e9.symm; clear e9
        have fr_39 : (0 : Int) ≤ r_39 ∧ r_39 ≤ 1 := by rw [er_39]; exact b2_b
        have k_39 : r_39 = 1 := er_39.trans (b2_t rfl)
        refine zi_if_ne (tgt := 47) hx hb ⟨by omega, by omega⟩ dX8_part_42 (by decide) (fun c_42 => ?_) (fun c_42 => ?_)
        · refine lv_aload_n hx hb dX8_part_47 rfl (lv_at hl 2 rfl) ?_
          refine va_get (D := D) (ci := 8) (v := .ref (bd 13)) (C := RX8) (T := TX8) (N := 32) hx hb hts in_X8_part_8 hown hK.1 hP 0 rfl rfl 12 (by decide) (hts _ lk_X8_part_34) (fun _ h9 => h9) rfl dX8_part_48 ?_
          refine lv_iload_n hx hb dX8_part_51 rfl (lv_at hl 0 rfl) ?_
          refine zi_iconst hx hb dX8_part_52 ?_
          refine zi_iast hx hb hK.1 hP (mW_D hdis _) hS 9 0 rfl rfl (by omega) (by omega) (by decide) dX8_part_53 (fun H locs hP hS => ?_)
          have hP : va_P D vwCl (mW cI cZ bd (su S_39 12 (up (S_39 12) r_12 (-1)))) H := hP
          have hI_53 : MI (su S_39 12 (up (S_39 12) r_12 (-1))) := MI.up hI_39 12 r_12 (-1) (show (-1 : Int) ≤ (-1) ∧ (-1) ≤ 19 from ⟨by omega, by omega⟩)
          generalize eS_53 : su S_39 12 (up (S_39 12) r_12 (-1)) = S_53 at hP hI_53
          refine lv_iload_n hx hb dX8_part_54 rfl (lv_at hl 0 rfl) ?_
          exact zr_wi (T := S_53) hx hb hr hlocks dX8_part_55 hP hS (by exact ⟨pub_ok hkk (er_12) (by rw [← er_12, ← eS_53, ← eS_39]; exact SM.rf), hI_53⟩)
        · exact absurd c_42 (by omega)
      · refine zi_iconst hx hb dX8_part_34 ?_
        refine lv_goto (tgt := 39) hx hb dX8_part_35 (by decide) ?_
        have hkk : (kM_part S x0) = 2 := by rw [kM_part, cif_f (by omega), cif_t (by omega)]
        refine zk_wi (zc_V (As := [.int (zi 2)]) (rest := []) ⟨hx, hb, hml, hown, hts⟩ (ct_X8_can l D cI cZ cJ bd S hI hdis 2 ⟨by decide, by decide⟩ (by omega) (by omega)) (cwV 1 hts gX8_part_X8_can rfl rfl rfl (by decide +kernel) ⟨Nat.le_of_ble_eq_true rfl, Nat.le_of_ble_eq_true rfl⟩) hK hP (q0 := 0) (ci := 8) rfl rfl rfl rfl hl.1 rfl (Nat.le_of_ble_eq_true rfl) dX8_part_39 ⟨Nat.zero_le _, Nat.zero_le _⟩) hS (fun r_39 S_39 H locs hp_39 hP hS => ?_)
        obtain ⟨er_39, e9, hI_39⟩ := hp_39
        have eS_39 := e9.symm; clear e9
        have fr_39 : (0 : Int) ≤ r_39 ∧ r_39 ≤ 1 := by rw [er_39]; exact b2_b
        have k_39 : r_39 = 0 := er_39.trans (b2_f (by decide))
        refine zi_if_ne (tgt := 47) hx hb ⟨by omega, by omega⟩ dX8_part_42 (by decide) (fun c_42 => ?_) (fun c_42 => ?_)
        · exact absurd c_42 (by omega)
        · refine zi_iconst hx hb dX8_part_45 ?_
          exact zr_wi (T := S_39) hx hb hr hlocks dX8_part_46 hP hS (by exact ⟨pub_no hkk (by decide) (SM.rf) eS_39, hI_39⟩)
    · exact absurd c_22 (by omega)

noncomputable def kM_orbits (S : ZS) (x0 : Int) : Int := cif (¬ (0 ≤ x0 ∧ x0 < S 11 0)) 1 (0)
abbrev rmct_X8_orbits : Room := { frames := 5, cells := 0, slots := 0, locals := 115 }
set_option maxHeartbeats 4000000 in
set_option maxRecDepth 100000 in
theorem ct_X8_orbits (l : Launch) (D : va_G) (cI cZ cJ : ClassId) (bd : Nat → Nat) (S : ZS) (hI : MI S) (hdis : mDis bd) (x0 : Int) (hx0 : ir x0) (hac : accM S) : Met l yX8_orbits wsX8_orbits rmct_X8_orbits (zP D cI cZ cJ (mW cI cZ bd S) [.ref (bd 0), .int (zi x0)]) (zWi D (mW cI cZ bd) (mA bd) (fun r T => pubQ S (kM_orbits S x0) (findM (laysM x0 (su S 31 (fun _ => 0))) 21 0) (fun P => P) r T ∧ MI T)) 0 0 (mA bd) := by
  refine Met.ofW (cc := cX8_orbits) (maxL := 2) (ret := (some .int)) (by decide) rfl ?_
  intro p e s m args below meth c s₁ B hml hv
  obtain ⟨rfl, hP, hK⟩ := hv
  have hx := B.exec
  have hb := B.bytes
  have hr := B.returns
  have hts := atoms_spec (ws := wsX8_orbits) B.pre
  have hown : s.vm.findClass RX8 = some m.cls := findClass_of_methodNamed B.named
  have hlocks := B.notSynchronized
  have hl := lv_entry ([.ref (bd 0), .int (zi x0)]) (n := 2) (Nat.le_of_ble_eq_true rfl)
  rw [lg_entry_eq]
  generalize (lg_sl ([.ref (bd 0), .int (zi x0)]) ++ List.replicate (2 - (lg_sl ([.ref (bd 0), .int (zi x0)])).length) Slot.unset).toArray = ls at hl ⊢
  have hl : lv_has ls 2 [(0, .ref (bd 0)), (1, .int (zi x0))] := hl
  have hS : va_S (mA bd) s.heap s.heap [] := va_S.rf
  show W p l e rmct_X8_orbits s m ([.ref (bd 0), .int (zi x0)] : List Value).toArray below meth c s.heap [] 0 0 (MQ below (zWi D (mW cI cZ bd) (mA bd) (fun r T => pubQ S (kM_orbits S x0) (findM (laysM x0 (su S 31 (fun _ => 0))) 21 0) (fun P => P) r T ∧ MI T)) ([.ref (bd 0), .int (zi x0)] : List Value).toArray s 0 0 (mA bd)) (F0 m 0 ls [])
  have hc0 : (0 : Int) ≤ S 11 0 ∧ S 11 0 ≤ 20 := hI 11 0
  have hc6 : (0 : Int) ≤ S 6 0 ∧ S 6 0 ≤ 60 := hI 6 0
  refine lv_aload_n hx hb dX8_orbits_0 rfl (lv_at hl 0 rfl) ?_
  refine lv_aload_n hx hb dX8_orbits_1 rfl (lv_at hl 0 rfl) ?_
  refine lv_iload_n hx hb dX8_orbits_2 rfl (lv_at hl 1 rfl) ?_
  refine zk_r (zc_V (As := [.int (zi x0)]) (rest := [.ref (bd 0)]) ⟨hx, hb, hml, hown, hts⟩ (ct_X8_isBody l D cI cZ cJ bd S hI x0 ⟨by omega, by omega⟩) (cwV 1 hts gX8_orbits_X8_isBody rfl rfl rfl (by decide +kernel) ⟨Nat.le_of_ble_eq_true rfl, Nat.le_of_ble_eq_true rfl⟩) hK hP (q0 := 0) (ci := 8) rfl rfl rfl rfl hl.1 rfl (Nat.le_of_ble_eq_true rfl) dX8_orbits_3 ⟨Nat.zero_le _, Nat.zero_le _⟩) ?_
  refine zi_top (fun (r_3 : Int) (er_3 : r_3 = b2 (0 ≤ x0 ∧ x0 < S 11 0)) => ?_)
  have fr_3 : (0 : Int) ≤ r_3 ∧ r_3 ≤ 1 := by rw [er_3]; exact b2_b
  have fr_31 : (r_3 = 1 ∧ (0 ≤ x0 ∧ x0 < S 11 0)) ∨ (r_3 = 0 ∧ ¬ (0 ≤ x0 ∧ x0 < S 11 0)) := by rw [er_3]; exact b2_or _
  refine zi_if_eq (tgt := 13) hx hb ⟨by omega, by omega⟩ dX8_orbits_6 (by decide) (fun c_6 => ?_) (fun c_6 => ?_)
  · refine zi_iconst hx hb dX8_orbits_13 ?_
    have hkk : (kM_orbits S x0) = 1 := by rw [kM_orbits, cif_t (by omega)]
    refine zk_wi (zc_V (As := [.int (zi 1)]) (rest := []) ⟨hx, hb, hml, hown, hts⟩ (ct_X8_can l D cI cZ cJ bd S hI hdis 1 ⟨by decide, by decide⟩ (by omega) (by omega)) (cwV 1 hts gX8_orbits_X8_can rfl rfl rfl (by decide +kernel) ⟨Nat.le_of_ble_eq_true rfl, Nat.le_of_ble_eq_true rfl⟩) hK hP (q0 := 0) (ci := 8) rfl rfl rfl rfl hl.1 rfl (Nat.le_of_ble_eq_true rfl) dX8_orbits_14 ⟨Nat.zero_le _, Nat.zero_le _⟩) hS (fun r_14 S_14 H locs hp_14 hP hS => ?_)
    obtain ⟨er_14, e9, hI_14⟩ := hp_14
    have eS_14 := e9.symm; clear e9
    have fr_14 : (0 : Int) ≤ r_14 ∧ r_14 ≤ 1 := by rw [er_14]; exact b2_b
    have k_14 : r_14 = 0 := er_14.trans (b2_f (by decide))
    refine zi_if_eq (tgt := 28) hx hb ⟨by omega, by omega⟩ dX8_orbits_17 (by decide) (fun c_17 => ?_) (fun c_17 => ?_)
    · refine zi_iconst hx hb dX8_orbits_28 ?_
      exact zr_wi (T := S_14) hx hb hr hlocks dX8_orbits_29 hP hS (by exact ⟨pub_no hkk (by decide) (SM.rf) eS_14, hI_14⟩)
    · exact absurd c_17 (by omega)
  · refine zi_iconst hx hb dX8_orbits_9 ?_
    refine lv_goto (tgt := 14) hx hb dX8_orbits_10 (by decide) ?_
    have hkk : (kM_orbits S x0) = 0 := by rw [kM_orbits, cif_f (by omega)]
    refine zk_wi (zc_V (As := [.int (zi 0)]) (rest := []) ⟨hx, hb, hml, hown, hts⟩ (ct_X8_can l D cI cZ cJ bd S hI hdis 0 ⟨by decide, by decide⟩ (by omega) (by omega)) (cwV 1 hts gX8_orbits_X8_can rfl rfl rfl (by decide +kernel) ⟨Nat.le_of_ble_eq_true rfl, Nat.le_of_ble_eq_true rfl⟩) hK hP (q0 := 0) (ci := 8) rfl rfl rfl rfl hl.1 rfl (Nat.le_of_ble_eq_true rfl) dX8_orbits_14 ⟨Nat.zero_le _, Nat.zero_le _⟩) hS (fun r_14 S_14 H locs hp_14 hP hS => ?_)
    obtain ⟨er_14, e9, hI_14⟩ := hp_14
    have eS_14 := e9.symm; clear e9
    have fr_14 : (0 : Int) ≤ r_14 ∧ r_14 ≤ 1 := by rw [er_14]; exact b2_b
    have k_14 : r_14 = 1 := er_14.trans (b2_t rfl)
    refine zi_if_eq (tgt := 28) hx hb ⟨by omega, by omega⟩ dX8_orbits_17 (by decide) (fun c_17 => ?_) (fun c_17 => ?_)
    · exact absurd c_17 (by omega)
    · refine lv_aload_n hx hb dX8_orbits_20 rfl (lv_at hl 0 rfl) ?_
      refine lv_iload_n hx hb dX8_orbits_21 rfl (lv_at hl 1 rfl) ?_
      refine zk_wi (zc_V (As := [.int (zi x0)]) (rest := []) ⟨hx, hb, hml, hown, hts⟩ (ct_X8_orbitsOf l D cI cZ cJ bd S_14 hI_14 hdis x0 ⟨by omega, by omega⟩ (by omega) (by omega) (by rw [← eS_14]; exact accM_su hac (by decide) (by decide) (by decide))) (cwV 1 hts gX8_orbits_X8_orbitsOf rfl rfl rfl (by decide +kernel) ⟨Nat.le_of_ble_eq_true rfl, Nat.le_of_ble_eq_true rfl⟩) hK hP (q0 := 0) (ci := 8) rfl rfl rfl rfl hl.1 rfl (Nat.le_of_ble_eq_true rfl) dX8_orbits_22 ⟨Nat.zero_le _, Nat.zero_le _⟩) hS (fun r_22 S_22 H locs hp_22 hP hS => ?_)
      obtain ⟨er_22, e9, hI_22⟩ := hp_22
      have eS_22 := e9.symm; clear e9
      have fr_22 : (0 : Int) ≤ r_22 ∧ r_22 ≤ 7695 := by rw [er_22, eS_22]; exact hI_22 21 0
      refine lv_goto (tgt := 29) hx hb dX8_orbits_25 (by decide) ?_
      exact zr_wi (T := S_22) hx hb hr hlocks dX8_orbits_29 hP hS (by exact ⟨pub_ok hkk (by rw [er_22, ← eS_14]) (by rw [← eS_22, ← eS_14]; exact SM_la.tr SM_fd), hI_22⟩)

noncomputable def kM_orbitsAnew (S : ZS) (x0 : Int) : Int := cif (¬ (0 ≤ x0 ∧ x0 < S 11 0)) 1 (0)
abbrev rmct_X8_orbitsAnew : Room := { frames := 5, cells := 0, slots := 0, locals := 115 }
set_option maxHeartbeats 4000000 in
set_option maxRecDepth 100000 in
theorem ct_X8_orbitsAnew (l : Launch) (D : va_G) (cI cZ cJ : ClassId) (bd : Nat → Nat) (S : ZS) (hI : MI S) (hdis : mDis bd) (x0 : Int) (hx0 : ir x0) (hac : accM S) : Met l yX8_orbitsAnew wsX8_orbitsAnew rmct_X8_orbitsAnew (zP D cI cZ cJ (mW cI cZ bd S) [.ref (bd 0), .int (zi x0)]) (zWi D (mW cI cZ bd) (mA bd) (fun r T => pubQ S (kM_orbitsAnew S x0) (findM (laysM x0 (su S 31 (fun _ => 0))) 21 0) (fun P => P) r T ∧ MI T)) 0 0 (mA bd) := by
  refine Met.ofW (cc := cX8_orbitsAnew) (maxL := 2) (ret := (some .int)) (by decide) rfl ?_
  intro p e s m args below meth c s₁ B hml hv
  obtain ⟨rfl, hP, hK⟩ := hv
  have hx := B.exec
  have hb := B.bytes
  have hr := B.returns
  have hts := atoms_spec (ws := wsX8_orbitsAnew) B.pre
  have hown : s.vm.findClass RX8 = some m.cls := findClass_of_methodNamed B.named
  have hlocks := B.notSynchronized
  have hl := lv_entry ([.ref (bd 0), .int (zi x0)]) (n := 2) (Nat.le_of_ble_eq_true rfl)
  rw [lg_entry_eq]
  generalize (lg_sl ([.ref (bd 0), .int (zi x0)]) ++ List.replicate (2 - (lg_sl ([.ref (bd 0), .int (zi x0)])).length) Slot.unset).toArray = ls at hl ⊢
  have hl : lv_has ls 2 [(0, .ref (bd 0)), (1, .int (zi x0))] := hl
  have hS : va_S (mA bd) s.heap s.heap [] := va_S.rf
  show W p l e rmct_X8_orbitsAnew s m ([.ref (bd 0), .int (zi x0)] : List Value).toArray below meth c s.heap [] 0 0 (MQ below (zWi D (mW cI cZ bd) (mA bd) (fun r T => pubQ S (kM_orbitsAnew S x0) (findM (laysM x0 (su S 31 (fun _ => 0))) 21 0) (fun P => P) r T ∧ MI T)) ([.ref (bd 0), .int (zi x0)] : List Value).toArray s 0 0 (mA bd)) (F0 m 0 ls [])
  have hc0 : (0 : Int) ≤ S 11 0 ∧ S 11 0 ≤ 20 := hI 11 0
  have hc6 : (0 : Int) ≤ S 6 0 ∧ S 6 0 ≤ 60 := hI 6 0
  refine lv_aload_n hx hb dX8_orbitsAnew_0 rfl (lv_at hl 0 rfl) ?_
  refine lv_aload_n hx hb dX8_orbitsAnew_1 rfl (lv_at hl 0 rfl) ?_
  refine lv_iload_n hx hb dX8_orbitsAnew_2 rfl (lv_at hl 1 rfl) ?_
  refine zk_r (zc_V (As := [.int (zi x0)]) (rest := [.ref (bd 0)]) ⟨hx, hb, hml, hown, hts⟩ (ct_X8_isBody l D cI cZ cJ bd S hI x0 ⟨by omega, by omega⟩) (cwV 1 hts gX8_orbitsAnew_X8_isBody rfl rfl rfl (by decide +kernel) ⟨Nat.le_of_ble_eq_true rfl, Nat.le_of_ble_eq_true rfl⟩) hK hP (q0 := 0) (ci := 8) rfl rfl rfl rfl hl.1 rfl (Nat.le_of_ble_eq_true rfl) dX8_orbitsAnew_3 ⟨Nat.zero_le _, Nat.zero_le _⟩) ?_
  refine zi_top (fun (r_3 : Int) (er_3 : r_3 = b2 (0 ≤ x0 ∧ x0 < S 11 0)) => ?_)
  have fr_3 : (0 : Int) ≤ r_3 ∧ r_3 ≤ 1 := by rw [er_3]; exact b2_b
  have fr_31 : (r_3 = 1 ∧ (0 ≤ x0 ∧ x0 < S 11 0)) ∨ (r_3 = 0 ∧ ¬ (0 ≤ x0 ∧ x0 < S 11 0)) := by rw [er_3]; exact b2_or _
  refine zi_if_eq (tgt := 13) hx hb ⟨by omega, by omega⟩ dX8_orbitsAnew_6 (by decide) (fun c_6 => ?_) (fun c_6 => ?_)
  · refine zi_iconst hx hb dX8_orbitsAnew_13 ?_
    have hkk : (kM_orbitsAnew S x0) = 1 := by rw [kM_orbitsAnew, cif_t (by omega)]
    refine zk_wi (zc_V (As := [.int (zi 1)]) (rest := []) ⟨hx, hb, hml, hown, hts⟩ (ct_X8_can l D cI cZ cJ bd S hI hdis 1 ⟨by decide, by decide⟩ (by omega) (by omega)) (cwV 1 hts gX8_orbitsAnew_X8_can rfl rfl rfl (by decide +kernel) ⟨Nat.le_of_ble_eq_true rfl, Nat.le_of_ble_eq_true rfl⟩) hK hP (q0 := 0) (ci := 8) rfl rfl rfl rfl hl.1 rfl (Nat.le_of_ble_eq_true rfl) dX8_orbitsAnew_14 ⟨Nat.zero_le _, Nat.zero_le _⟩) hS (fun r_14 S_14 H locs hp_14 hP hS => ?_)
    obtain ⟨er_14, e9, hI_14⟩ := hp_14
    have eS_14 := e9.symm; clear e9
    have fr_14 : (0 : Int) ≤ r_14 ∧ r_14 ≤ 1 := by rw [er_14]; exact b2_b
    have k_14 : r_14 = 0 := er_14.trans (b2_f (by decide))
    refine zi_if_eq (tgt := 28) hx hb ⟨by omega, by omega⟩ dX8_orbitsAnew_17 (by decide) (fun c_17 => ?_) (fun c_17 => ?_)
    · refine zi_iconst hx hb dX8_orbitsAnew_28 ?_
      exact zr_wi (T := S_14) hx hb hr hlocks dX8_orbitsAnew_29 hP hS (by exact ⟨pub_no hkk (by decide) (SM.rf) eS_14, hI_14⟩)
    · exact absurd c_17 (by omega)
  · refine zi_iconst hx hb dX8_orbitsAnew_9 ?_
    refine lv_goto (tgt := 14) hx hb dX8_orbitsAnew_10 (by decide) ?_
    have hkk : (kM_orbitsAnew S x0) = 0 := by rw [kM_orbitsAnew, cif_f (by omega)]
    refine zk_wi (zc_V (As := [.int (zi 0)]) (rest := []) ⟨hx, hb, hml, hown, hts⟩ (ct_X8_can l D cI cZ cJ bd S hI hdis 0 ⟨by decide, by decide⟩ (by omega) (by omega)) (cwV 1 hts gX8_orbitsAnew_X8_can rfl rfl rfl (by decide +kernel) ⟨Nat.le_of_ble_eq_true rfl, Nat.le_of_ble_eq_true rfl⟩) hK hP (q0 := 0) (ci := 8) rfl rfl rfl rfl hl.1 rfl (Nat.le_of_ble_eq_true rfl) dX8_orbitsAnew_14 ⟨Nat.zero_le _, Nat.zero_le _⟩) hS (fun r_14 S_14 H locs hp_14 hP hS => ?_)
    obtain ⟨er_14, e9, hI_14⟩ := hp_14
    have eS_14 := e9.symm; clear e9
    have fr_14 : (0 : Int) ≤ r_14 ∧ r_14 ≤ 1 := by rw [er_14]; exact b2_b
    have k_14 : r_14 = 1 := er_14.trans (b2_t rfl)
    refine zi_if_eq (tgt := 28) hx hb ⟨by omega, by omega⟩ dX8_orbitsAnew_17 (by decide) (fun c_17 => ?_) (fun c_17 => ?_)
    · exact absurd c_17 (by omega)
    · refine lv_aload_n hx hb dX8_orbitsAnew_20 rfl (lv_at hl 0 rfl) ?_
      refine lv_iload_n hx hb dX8_orbitsAnew_21 rfl (lv_at hl 1 rfl) ?_
      refine zk_wi (zc_V (As := [.int (zi x0)]) (rest := []) ⟨hx, hb, hml, hown, hts⟩ (ct_X8_orbitsOf l D cI cZ cJ bd S_14 hI_14 hdis x0 ⟨by omega, by omega⟩ (by omega) (by omega) (by rw [← eS_14]; exact accM_su hac (by decide) (by decide) (by decide))) (cwV 1 hts gX8_orbitsAnew_X8_orbitsOf rfl rfl rfl (by decide +kernel) ⟨Nat.le_of_ble_eq_true rfl, Nat.le_of_ble_eq_true rfl⟩) hK hP (q0 := 0) (ci := 8) rfl rfl rfl rfl hl.1 rfl (Nat.le_of_ble_eq_true rfl) dX8_orbitsAnew_22 ⟨Nat.zero_le _, Nat.zero_le _⟩) hS (fun r_22 S_22 H locs hp_22 hP hS => ?_)
      obtain ⟨er_22, e9, hI_22⟩ := hp_22
      have eS_22 := e9.symm; clear e9
      have fr_22 : (0 : Int) ≤ r_22 ∧ r_22 ≤ 7695 := by rw [er_22, eS_22]; exact hI_22 21 0
      refine lv_goto (tgt := 29) hx hb dX8_orbitsAnew_25 (by decide) ?_
      exact zr_wi (T := S_22) hx hb hr hlocks dX8_orbitsAnew_29 hP hS (by exact ⟨pub_ok hkk (by rw [er_22, ← eS_14]) (by rw [← eS_22, ← eS_14]; exact SM_la.tr SM_fd), hI_22⟩)

noncomputable def kM_spread (S : ZS) (x0 x1 : Int) : Int := cif (¬ (0 ≤ x0 ∧ x0 < S 11 0)) 1 (cif (¬ (0 ≤ x1 ∧ x1 ≤ 999)) 2 (0))
abbrev rmct_X8_spread : Room := { frames := 7, cells := 0, slots := 0, locals := 163 }
set_option maxHeartbeats 4000000 in
set_option maxRecDepth 100000 in
theorem ct_X8_spread (l : Launch) (D : va_G) (cI cZ cJ : ClassId) (bd : Nat → Nat) (S : ZS) (hI : MI S) (hdis : mDis bd) (x0 x1 : Int) (hx0 : ir x0) (hx1 : ir x1) (hac : accM S) : Met l yX8_spread wsX8_spread rmct_X8_spread (zP D cI cZ cJ (mW cI cZ bd S) [.ref (bd 0), .int (zi x0), .int (zi x1)]) (zWi D (mW cI cZ bd) (mA bd) (fun r T => pubQ S (kM_spread S x0 x1) (sprM (spM x0 x1 (su S 31 (fun _ => 0)))) (fun P => P) r T ∧ MI T)) 0 0 (mA bd) := by
  refine Met.ofW (cc := cX8_spread) (maxL := 3) (ret := (some .int)) (by decide) rfl ?_
  intro p e s m args below meth c s₁ B hml hv
  obtain ⟨rfl, hP, hK⟩ := hv
  have hx := B.exec
  have hb := B.bytes
  have hr := B.returns
  have hts := atoms_spec (ws := wsX8_spread) B.pre
  have hown : s.vm.findClass RX8 = some m.cls := findClass_of_methodNamed B.named
  have hlocks := B.notSynchronized
  have hl := lv_entry ([.ref (bd 0), .int (zi x0), .int (zi x1)]) (n := 3) (Nat.le_of_ble_eq_true rfl)
  rw [lg_entry_eq]
  generalize (lg_sl ([.ref (bd 0), .int (zi x0), .int (zi x1)]) ++ List.replicate (3 - (lg_sl ([.ref (bd 0), .int (zi x0), .int (zi x1)])).length) Slot.unset).toArray = ls at hl ⊢
  have hl : lv_has ls 3 [(0, .ref (bd 0)), (1, .int (zi x0)), (2, .int (zi x1))] := hl
  have hS : va_S (mA bd) s.heap s.heap [] := va_S.rf
  show W p l e rmct_X8_spread s m ([.ref (bd 0), .int (zi x0), .int (zi x1)] : List Value).toArray below meth c s.heap [] 0 0 (MQ below (zWi D (mW cI cZ bd) (mA bd) (fun r T => pubQ S (kM_spread S x0 x1) (sprM (spM x0 x1 (su S 31 (fun _ => 0)))) (fun P => P) r T ∧ MI T)) ([.ref (bd 0), .int (zi x0), .int (zi x1)] : List Value).toArray s 0 0 (mA bd)) (F0 m 0 ls [])
  have hc0 : (0 : Int) ≤ S 11 0 ∧ S 11 0 ≤ 20 := hI 11 0
  have hc6 : (0 : Int) ≤ S 6 0 ∧ S 6 0 ≤ 60 := hI 6 0
  refine lv_aload_n hx hb dX8_spread_0 rfl (lv_at hl 0 rfl) ?_
  refine lv_aload_n hx hb dX8_spread_1 rfl (lv_at hl 0 rfl) ?_
  refine lv_iload_n hx hb dX8_spread_2 rfl (lv_at hl 1 rfl) ?_
  refine zk_r (zc_V (As := [.int (zi x0)]) (rest := [.ref (bd 0)]) ⟨hx, hb, hml, hown, hts⟩ (ct_X8_isBody l D cI cZ cJ bd S hI x0 ⟨by omega, by omega⟩) (cwV 1 hts gX8_spread_X8_isBody rfl rfl rfl (by decide +kernel) ⟨Nat.le_of_ble_eq_true rfl, Nat.le_of_ble_eq_true rfl⟩) hK hP (q0 := 0) (ci := 8) rfl rfl rfl rfl hl.1 rfl (Nat.le_of_ble_eq_true rfl) dX8_spread_3 ⟨Nat.zero_le _, Nat.zero_le _⟩) ?_
  refine zi_top (fun (r_3 : Int) (er_3 : r_3 = b2 (0 ≤ x0 ∧ x0 < S 11 0)) => ?_)
  have fr_3 : (0 : Int) ≤ r_3 ∧ r_3 ≤ 1 := by rw [er_3]; exact b2_b
  have fr_31 : (r_3 = 1 ∧ (0 ≤ x0 ∧ x0 < S 11 0)) ∨ (r_3 = 0 ∧ ¬ (0 ≤ x0 ∧ x0 < S 11 0)) := by rw [er_3]; exact b2_or _
  refine zi_if_ne (tgt := 13) hx hb ⟨by omega, by omega⟩ dX8_spread_6 (by decide) (fun c_6 => ?_) (fun c_6 => ?_)
  · refine lv_iload_n hx hb dX8_spread_13 rfl (lv_at hl 2 rfl) ?_
    refine zk_r (zc_S (As := [.int (zi x1)]) (rest := [.ref (bd 0)]) ⟨hx, hb, hml, hown, hts⟩ (ct_X8_isNight l D cI cZ cJ x1 ⟨by omega, by omega⟩) (va_cwS 1 hts gX8_spread_X8_isNight rfl rfl rfl (by decide +kernel) ⟨Nat.le_of_ble_eq_true rfl, Nat.le_of_ble_eq_true rfl⟩) hK va_P_nil rfl hl.1 rfl (Nat.le_of_ble_eq_true rfl) dX8_spread_14 ⟨Nat.zero_le _, Nat.zero_le _⟩) ?_
    refine zi_top (fun (r_14 : Int) (er_14 : r_14 = b2 (0 ≤ x1 ∧ x1 ≤ 999)) => ?_)
    have fr_14 : (0 : Int) ≤ r_14 ∧ r_14 ≤ 1 := by rw [er_14]; exact b2_b
    have fr_141 : (r_14 = 1 ∧ (0 ≤ x1 ∧ x1 ≤ 999)) ∨ (r_14 = 0 ∧ ¬ (0 ≤ x1 ∧ x1 ≤ 999)) := by rw [er_14]; exact b2_or _
    refine zi_if_eq (tgt := 24) hx hb ⟨by omega, by omega⟩ dX8_spread_17 (by decide) (fun c_17 => ?_) (fun c_17 => ?_)
    · refine zi_iconst hx hb dX8_spread_24 ?_
      have hkk : (kM_spread S x0 x1) = 2 := by rw [kM_spread, cif_f (by omega), cif_t (by omega)]
      refine zk_wi (zc_V (As := [.int (zi 2)]) (rest := []) ⟨hx, hb, hml, hown, hts⟩ (ct_X8_can l D cI cZ cJ bd S hI hdis 2 ⟨by decide, by decide⟩ (by omega) (by omega)) (cwV 1 hts gX8_spread_X8_can rfl rfl rfl (by decide +kernel) ⟨Nat.le_of_ble_eq_true rfl, Nat.le_of_ble_eq_true rfl⟩) hK hP (q0 := 0) (ci := 8) rfl rfl rfl rfl hl.1 rfl (Nat.le_of_ble_eq_true rfl) dX8_spread_25 ⟨Nat.zero_le _, Nat.zero_le _⟩) hS (fun r_25 S_25 H locs hp_25 hP hS => ?_)
      obtain ⟨er_25, e9, hI_25⟩ := hp_25
      have eS_25 := e9.symm; clear e9
      have fr_25 : (0 : Int) ≤ r_25 ∧ r_25 ≤ 1 := by rw [er_25]; exact b2_b
      have k_25 : r_25 = 0 := er_25.trans (b2_f (by decide))
      refine zi_if_eq (tgt := 40) hx hb ⟨by omega, by omega⟩ dX8_spread_28 (by decide) (fun c_28 => ?_) (fun c_28 => ?_)
      · refine zi_iconst hx hb dX8_spread_40 ?_
        exact zr_wi (T := S_25) hx hb hr hlocks dX8_spread_41 hP hS (by exact ⟨pub_no hkk (by decide) (SM.rf) eS_25, hI_25⟩)
      · exact absurd c_28 (by omega)
    · refine zi_iconst hx hb dX8_spread_20 ?_
      refine lv_goto (tgt := 25) hx hb dX8_spread_21 (by decide) ?_
      have hkk : (kM_spread S x0 x1) = 0 := by rw [kM_spread, cif_f (by omega), cif_f (by omega)]
      refine zk_wi (zc_V (As := [.int (zi 0)]) (rest := []) ⟨hx, hb, hml, hown, hts⟩ (ct_X8_can l D cI cZ cJ bd S hI hdis 0 ⟨by decide, by decide⟩ (by omega) (by omega)) (cwV 1 hts gX8_spread_X8_can rfl rfl rfl (by decide +kernel) ⟨Nat.le_of_ble_eq_true rfl, Nat.le_of_ble_eq_true rfl⟩) hK hP (q0 := 0) (ci := 8) rfl rfl rfl rfl hl.1 rfl (Nat.le_of_ble_eq_true rfl) dX8_spread_25 ⟨Nat.zero_le _, Nat.zero_le _⟩) hS (fun r_25 S_25 H locs hp_25 hP hS => ?_)
      obtain ⟨er_25, e9, hI_25⟩ := hp_25
      have eS_25 := e9.symm; clear e9
      have fr_25 : (0 : Int) ≤ r_25 ∧ r_25 ≤ 1 := by rw [er_25]; exact b2_b
      have k_25 : r_25 = 1 := er_25.trans (b2_t rfl)
      refine zi_if_eq (tgt := 40) hx hb ⟨by omega, by omega⟩ dX8_spread_28 (by decide) (fun c_28 => ?_) (fun c_28 => ?_)
      · exact absurd c_28 (by omega)
      · refine lv_aload_n hx hb dX8_spread_31 rfl (lv_at hl 0 rfl) ?_
        refine lv_iload_n hx hb dX8_spread_32 rfl (lv_at hl 1 rfl) ?_
        refine lv_iload_n hx hb dX8_spread_33 rfl (lv_at hl 2 rfl) ?_
        refine zk_wi (zc_V (As := [.int (zi x0), .int (zi x1)]) (rest := []) ⟨hx, hb, hml, hown, hts⟩ (ct_X8_spreadOf l D cI cZ cJ bd S_25 hI_25 hdis x0 x1 ⟨by omega, by omega⟩ ⟨by omega, by omega⟩ (by omega) (by omega) (by omega) (by omega) (by rw [← eS_25]; exact accM_su hac (by decide) (by decide) (by decide))) (cwV 2 hts gX8_spread_X8_spreadOf rfl rfl rfl (by decide +kernel) ⟨Nat.le_of_ble_eq_true rfl, Nat.le_of_ble_eq_true rfl⟩) hK hP (q0 := 0) (ci := 8) rfl rfl rfl rfl hl.1 rfl (Nat.le_of_ble_eq_true rfl) dX8_spread_34 ⟨Nat.zero_le _, Nat.zero_le _⟩) hS (fun r_34 S_34 H locs hp_34 hP hS => ?_)
        obtain ⟨er_34, e9, hI_34⟩ := hp_34
        have eS_34 := e9.symm; clear e9
        refine lv_goto (tgt := 41) hx hb dX8_spread_37 (by decide) ?_
        exact zr_wi (T := S_34) hx hb hr hlocks dX8_spread_41 hP hS (by exact ⟨pub_ok hkk (by rw [er_34, ← eS_25]) (by rw [← eS_34, ← eS_25]; exact SM_sp), hI_34⟩)
  · refine zi_iconst hx hb dX8_spread_9 ?_
    refine lv_goto (tgt := 25) hx hb dX8_spread_10 (by decide) ?_
    have hkk : (kM_spread S x0 x1) = 1 := by rw [kM_spread, cif_t (by omega)]
    refine zk_wi (zc_V (As := [.int (zi 1)]) (rest := []) ⟨hx, hb, hml, hown, hts⟩ (ct_X8_can l D cI cZ cJ bd S hI hdis 1 ⟨by decide, by decide⟩ (by omega) (by omega)) (cwV 1 hts gX8_spread_X8_can rfl rfl rfl (by decide +kernel) ⟨Nat.le_of_ble_eq_true rfl, Nat.le_of_ble_eq_true rfl⟩) hK hP (q0 := 0) (ci := 8) rfl rfl rfl rfl hl.1 rfl (Nat.le_of_ble_eq_true rfl) dX8_spread_25 ⟨Nat.zero_le _, Nat.zero_le _⟩) hS (fun r_25 S_25 H locs hp_25 hP hS => ?_)
    obtain ⟨er_25, e9, hI_25⟩ := hp_25
    have eS_25 := e9.symm; clear e9
    have fr_25 : (0 : Int) ≤ r_25 ∧ r_25 ≤ 1 := by rw [er_25]; exact b2_b
    have k_25 : r_25 = 0 := er_25.trans (b2_f (by decide))
    refine zi_if_eq (tgt := 40) hx hb ⟨by omega, by omega⟩ dX8_spread_28 (by decide) (fun c_28 => ?_) (fun c_28 => ?_)
    · refine zi_iconst hx hb dX8_spread_40 ?_
      exact zr_wi (T := S_25) hx hb hr hlocks dX8_spread_41 hP hS (by exact ⟨pub_no hkk (by decide) (SM.rf) eS_25, hI_25⟩)
    · exact absurd c_28 (by omega)

noncomputable def kM_where (S : ZS) (x0 x1 x2 : Int) : Int := cif (¬ (0 ≤ x0 ∧ x0 < S 11 0)) 1 (cif (¬ ((0 ≤ x1 ∧ x1 ≤ 999) ∧ 0 ≤ x2)) 2 (0))
abbrev rmct_X8_where : Room := { frames := 7, cells := 0, slots := 0, locals := 164 }
set_option maxHeartbeats 4000000 in
set_option maxRecDepth 100000 in
theorem ct_X8_where (l : Launch) (D : va_G) (cI cZ cJ : ClassId) (bd : Nat → Nat) (S : ZS) (hI : MI S) (hdis : mDis bd) (x0 x1 x2 : Int) (hx0 : ir x0) (hx1 : ir x1) (hx2 : ir x2) (hac : accM S) : Met l yX8_where wsX8_where rmct_X8_where (zP D cI cZ cJ (mW cI cZ bd S) [.ref (bd 0), .int (zi x0), .int (zi x1), .int (zi x2)]) (zWi D (mW cI cZ bd) (mA bd) (fun r T => pubQ S (kM_where S x0 x1 x2) (plcM (spM x0 x1 (su S 31 (fun _ => 0))) x2) (fun P => P) r T ∧ MI T)) 0 0 (mA bd) := by
  refine Met.ofW (cc := cX8_where) (maxL := 5) (ret := (some .int)) (by decide) rfl ?_
  intro p e s m args below meth c s₁ B hml hv
  obtain ⟨rfl, hP, hK⟩ := hv
  have hx := B.exec
  have hb := B.bytes
  have hr := B.returns
  have hts := atoms_spec (ws := wsX8_where) B.pre
  have hown : s.vm.findClass RX8 = some m.cls := findClass_of_methodNamed B.named
  have hlocks := B.notSynchronized
  have hl := lv_entry ([.ref (bd 0), .int (zi x0), .int (zi x1), .int (zi x2)]) (n := 5) (Nat.le_of_ble_eq_true rfl)
  rw [lg_entry_eq]
  generalize (lg_sl ([.ref (bd 0), .int (zi x0), .int (zi x1), .int (zi x2)]) ++ List.replicate (5 - (lg_sl ([.ref (bd 0), .int (zi x0), .int (zi x1), .int (zi x2)])).length) Slot.unset).toArray = ls at hl ⊢
  have hl : lv_has ls 5 [(0, .ref (bd 0)), (1, .int (zi x0)), (2, .int (zi x1)), (3, .int (zi x2))] := hl
  have hS : va_S (mA bd) s.heap s.heap [] := va_S.rf
  show W p l e rmct_X8_where s m ([.ref (bd 0), .int (zi x0), .int (zi x1), .int (zi x2)] : List Value).toArray below meth c s.heap [] 0 0 (MQ below (zWi D (mW cI cZ bd) (mA bd) (fun r T => pubQ S (kM_where S x0 x1 x2) (plcM (spM x0 x1 (su S 31 (fun _ => 0))) x2) (fun P => P) r T ∧ MI T)) ([.ref (bd 0), .int (zi x0), .int (zi x1), .int (zi x2)] : List Value).toArray s 0 0 (mA bd)) (F0 m 0 ls [])
  have hc0 : (0 : Int) ≤ S 11 0 ∧ S 11 0 ≤ 20 := hI 11 0
  have hc6 : (0 : Int) ≤ S 6 0 ∧ S 6 0 ≤ 60 := hI 6 0
  refine lv_iload_n hx hb dX8_where_0 rfl (lv_at hl 2 rfl) ?_
  refine zk_r (zc_S (As := [.int (zi x1)]) (rest := []) ⟨hx, hb, hml, hown, hts⟩ (ct_X8_isNight l D cI cZ cJ x1 ⟨by omega, by omega⟩) (va_cwS 1 hts gX8_where_X8_isNight rfl rfl rfl (by decide +kernel) ⟨Nat.le_of_ble_eq_true rfl, Nat.le_of_ble_eq_true rfl⟩) hK va_P_nil rfl hl.1 rfl (Nat.le_of_ble_eq_true rfl) dX8_where_1 ⟨Nat.zero_le _, Nat.zero_le _⟩) ?_
  refine zi_top (fun (r_1 : Int) (er_1 : r_1 = b2 (0 ≤ x1 ∧ x1 ≤ 999)) => ?_)
  have fr_1 : (0 : Int) ≤ r_1 ∧ r_1 ≤ 1 := by rw [er_1]; exact b2_b
  have fr_11 : (r_1 = 1 ∧ (0 ≤ x1 ∧ x1 ≤ 999)) ∨ (r_1 = 0 ∧ ¬ (0 ≤ x1 ∧ x1 ≤ 999)) := by rw [er_1]; exact b2_or _
  refine zi_if_eq (tgt := 15) hx hb ⟨by omega, by omega⟩ dX8_where_4 (by decide) (fun c_4 => ?_) (fun c_4 => ?_)
  · refine zi_iconst hx hb dX8_where_15 ?_
    refine lv_istore (lv' := [(4, .int (zi 0)), (0, .ref (bd 0)), (1, .int (zi x0)), (2, .int (zi x1)), (3, .int (zi x2))]) hx hb dX8_where_16 hl (by decide) rfl (fun ls hl => ?_)
    refine lv_aload_n hx hb dX8_where_18 rfl (lv_at hl 1 rfl) ?_
    refine lv_aload_n hx hb dX8_where_19 rfl (lv_at hl 1 rfl) ?_
    refine lv_iload_n hx hb dX8_where_20 rfl (lv_at hl 2 rfl) ?_
    refine zk_r (zc_V (As := [.int (zi x0)]) (rest := [.ref (bd 0)]) ⟨hx, hb, hml, hown, hts⟩ (ct_X8_isBody l D cI cZ cJ bd S hI x0 ⟨by omega, by omega⟩) (cwV 1 hts gX8_where_X8_isBody rfl rfl rfl (by decide +kernel) ⟨Nat.le_of_ble_eq_true rfl, Nat.le_of_ble_eq_true rfl⟩) hK hP (q0 := 0) (ci := 8) rfl rfl rfl rfl hl.1 rfl (Nat.le_of_ble_eq_true rfl) dX8_where_21 ⟨Nat.zero_le _, Nat.zero_le _⟩) ?_
    refine zi_top (fun (r_21 : Int) (er_21 : r_21 = b2 (0 ≤ x0 ∧ x0 < S 11 0)) => ?_)
    have fr_21 : (0 : Int) ≤ r_21 ∧ r_21 ≤ 1 := by rw [er_21]; exact b2_b
    have fr_211 : (r_21 = 1 ∧ (0 ≤ x0 ∧ x0 < S 11 0)) ∨ (r_21 = 0 ∧ ¬ (0 ≤ x0 ∧ x0 < S 11 0)) := by rw [er_21]; exact b2_or _
    refine zi_if_ne (tgt := 31) hx hb ⟨by omega, by omega⟩ dX8_where_24 (by decide) (fun c_24 => ?_) (fun c_24 => ?_)
    · refine lv_iload hx hb dX8_where_31 (lv_at hl 0 rfl) ?_
      refine zi_if_eq (tgt := 40) hx hb ⟨by decide, by decide⟩ dX8_where_33 (by decide) (fun c_33 => ?_) (fun c_33 => ?_)
      · refine zi_iconst hx hb dX8_where_40 ?_
        have hkk : (kM_where S x0 x1 x2) = 2 := by rw [kM_where, cif_f (by omega), cif_t (by omega)]
        refine zk_wi (zc_V (As := [.int (zi 2)]) (rest := []) ⟨hx, hb, hml, hown, hts⟩ (ct_X8_can l D cI cZ cJ bd S hI hdis 2 ⟨by decide, by decide⟩ (by omega) (by omega)) (cwV 1 hts gX8_where_X8_can rfl rfl rfl (by decide +kernel) ⟨Nat.le_of_ble_eq_true rfl, Nat.le_of_ble_eq_true rfl⟩) hK hP (q0 := 0) (ci := 8) rfl rfl rfl rfl hl.1 rfl (Nat.le_of_ble_eq_true rfl) dX8_where_41 ⟨Nat.zero_le _, Nat.zero_le _⟩) hS (fun r_41 S_41 H locs hp_41 hP hS => ?_)
        obtain ⟨er_41, e9, hI_41⟩ := hp_41
        have eS_41 := e9.symm; clear e9
        have fr_41 : (0 : Int) ≤ r_41 ∧ r_41 ≤ 1 := by rw [er_41]; exact b2_b
        have k_41 : r_41 = 0 := er_41.trans (b2_f (by decide))
        refine zi_if_eq (tgt := 57) hx hb ⟨by omega, by omega⟩ dX8_where_44 (by decide) (fun c_44 => ?_) (fun c_44 => ?_)
        · refine zi_iconst hx hb dX8_where_57 ?_
          exact zr_wi (T := S_41) hx hb hr hlocks dX8_where_58 hP hS (by exact ⟨pub_no hkk (by decide) (SM.rf) eS_41, hI_41⟩)
        · exact absurd c_44 (by omega)
      · refine zi_iconst hx hb dX8_where_36 ?_
        refine lv_goto (tgt := 41) hx hb dX8_where_37 (by decide) ?_
        have hkk : (kM_where S x0 x1 x2) = 0 := by rw [kM_where, cif_f (by omega), cif_f (by omega)]
        refine zk_wi (zc_V (As := [.int (zi 0)]) (rest := []) ⟨hx, hb, hml, hown, hts⟩ (ct_X8_can l D cI cZ cJ bd S hI hdis 0 ⟨by decide, by decide⟩ (by omega) (by omega)) (cwV 1 hts gX8_where_X8_can rfl rfl rfl (by decide +kernel) ⟨Nat.le_of_ble_eq_true rfl, Nat.le_of_ble_eq_true rfl⟩) hK hP (q0 := 0) (ci := 8) rfl rfl rfl rfl hl.1 rfl (Nat.le_of_ble_eq_true rfl) dX8_where_41 ⟨Nat.zero_le _, Nat.zero_le _⟩) hS (fun r_41 S_41 H locs hp_41 hP hS => ?_)
        obtain ⟨er_41, e9, hI_41⟩ := hp_41
        have eS_41 := e9.symm; clear e9
        have fr_41 : (0 : Int) ≤ r_41 ∧ r_41 ≤ 1 := by rw [er_41]; exact b2_b
        have k_41 : r_41 = 1 := er_41.trans (b2_t rfl)
        refine zi_if_eq (tgt := 57) hx hb ⟨by omega, by omega⟩ dX8_where_44 (by decide) (fun c_44 => ?_) (fun c_44 => ?_)
        · exact absurd c_44 (by omega)
        · refine lv_aload_n hx hb dX8_where_47 rfl (lv_at hl 1 rfl) ?_
          refine lv_iload_n hx hb dX8_where_48 rfl (lv_at hl 2 rfl) ?_
          refine lv_iload_n hx hb dX8_where_49 rfl (lv_at hl 3 rfl) ?_
          refine lv_iload_n hx hb dX8_where_50 rfl (lv_at hl 4 rfl) ?_
          refine zk_wi (zc_V (As := [.int (zi x0), .int (zi x1), .int (zi x2)]) (rest := []) ⟨hx, hb, hml, hown, hts⟩ (ct_X8_placeAt l D cI cZ cJ bd S_41 hI_41 hdis x0 x1 x2 ⟨by omega, by omega⟩ ⟨by omega, by omega⟩ ⟨by omega, by omega⟩ (by omega) (by omega) (by omega) (by omega) (by omega) (by omega) (by rw [← eS_41]; exact accM_su hac (by decide) (by decide) (by decide))) (cwV 3 hts gX8_where_X8_placeAt rfl rfl rfl (by decide +kernel) ⟨Nat.le_of_ble_eq_true rfl, Nat.le_of_ble_eq_true rfl⟩) hK hP (q0 := 0) (ci := 8) rfl rfl rfl rfl hl.1 rfl (Nat.le_of_ble_eq_true rfl) dX8_where_51 ⟨Nat.zero_le _, Nat.zero_le _⟩) hS (fun r_51 S_51 H locs hp_51 hP hS => ?_)
          obtain ⟨er_51, e9, hI_51⟩ := hp_51
          have eS_51 := e9.symm; clear e9
          refine lv_goto (tgt := 58) hx hb dX8_where_54 (by decide) ?_
          exact zr_wi (T := S_51) hx hb hr hlocks dX8_where_58 hP hS (by exact ⟨pub_ok hkk (by rw [er_51, ← eS_41]) (by rw [← eS_51, ← eS_41]; exact SM_sp), hI_51⟩)
    · refine zi_iconst hx hb dX8_where_27 ?_
      refine lv_goto (tgt := 41) hx hb dX8_where_28 (by decide) ?_
      have hkk : (kM_where S x0 x1 x2) = 1 := by rw [kM_where, cif_t (by omega)]
      refine zk_wi (zc_V (As := [.int (zi 1)]) (rest := []) ⟨hx, hb, hml, hown, hts⟩ (ct_X8_can l D cI cZ cJ bd S hI hdis 1 ⟨by decide, by decide⟩ (by omega) (by omega)) (cwV 1 hts gX8_where_X8_can rfl rfl rfl (by decide +kernel) ⟨Nat.le_of_ble_eq_true rfl, Nat.le_of_ble_eq_true rfl⟩) hK hP (q0 := 0) (ci := 8) rfl rfl rfl rfl hl.1 rfl (Nat.le_of_ble_eq_true rfl) dX8_where_41 ⟨Nat.zero_le _, Nat.zero_le _⟩) hS (fun r_41 S_41 H locs hp_41 hP hS => ?_)
      obtain ⟨er_41, e9, hI_41⟩ := hp_41
      have eS_41 := e9.symm; clear e9
      have fr_41 : (0 : Int) ≤ r_41 ∧ r_41 ≤ 1 := by rw [er_41]; exact b2_b
      have k_41 : r_41 = 0 := er_41.trans (b2_f (by decide))
      refine zi_if_eq (tgt := 57) hx hb ⟨by omega, by omega⟩ dX8_where_44 (by decide) (fun c_44 => ?_) (fun c_44 => ?_)
      · refine zi_iconst hx hb dX8_where_57 ?_
        exact zr_wi (T := S_41) hx hb hr hlocks dX8_where_58 hP hS (by exact ⟨pub_no hkk (by decide) (SM.rf) eS_41, hI_41⟩)
      · exact absurd c_44 (by omega)
  · refine lv_iload_n hx hb dX8_where_7 rfl (lv_at hl 3 rfl) ?_
    refine zi_if_lt (tgt := 15) hx hb ⟨by omega, by omega⟩ dX8_where_8 (by decide) (fun c_8 => ?_) (fun c_8 => ?_)
    · refine zi_iconst hx hb dX8_where_15 ?_
      refine lv_istore (lv' := [(4, .int (zi 0)), (0, .ref (bd 0)), (1, .int (zi x0)), (2, .int (zi x1)), (3, .int (zi x2))]) hx hb dX8_where_16 hl (by decide) rfl (fun ls hl => ?_)
      refine lv_aload_n hx hb dX8_where_18 rfl (lv_at hl 1 rfl) ?_
      refine lv_aload_n hx hb dX8_where_19 rfl (lv_at hl 1 rfl) ?_
      refine lv_iload_n hx hb dX8_where_20 rfl (lv_at hl 2 rfl) ?_
      refine zk_r (zc_V (As := [.int (zi x0)]) (rest := [.ref (bd 0)]) ⟨hx, hb, hml, hown, hts⟩ (ct_X8_isBody l D cI cZ cJ bd S hI x0 ⟨by omega, by omega⟩) (cwV 1 hts gX8_where_X8_isBody rfl rfl rfl (by decide +kernel) ⟨Nat.le_of_ble_eq_true rfl, Nat.le_of_ble_eq_true rfl⟩) hK hP (q0 := 0) (ci := 8) rfl rfl rfl rfl hl.1 rfl (Nat.le_of_ble_eq_true rfl) dX8_where_21 ⟨Nat.zero_le _, Nat.zero_le _⟩) ?_
      refine zi_top (fun (r_21 : Int) (er_21 : r_21 = b2 (0 ≤ x0 ∧ x0 < S 11 0)) => ?_)
      have fr_21 : (0 : Int) ≤ r_21 ∧ r_21 ≤ 1 := by rw [er_21]; exact b2_b
      have fr_211 : (r_21 = 1 ∧ (0 ≤ x0 ∧ x0 < S 11 0)) ∨ (r_21 = 0 ∧ ¬ (0 ≤ x0 ∧ x0 < S 11 0)) := by rw [er_21]; exact b2_or _
      refine zi_if_ne (tgt := 31) hx hb ⟨by omega, by omega⟩ dX8_where_24 (by decide) (fun c_24 => ?_) (fun c_24 => ?_)
      · refine lv_iload hx hb dX8_where_31 (lv_at hl 0 rfl) ?_
        refine zi_if_eq (tgt := 40) hx hb ⟨by decide, by decide⟩ dX8_where_33 (by decide) (fun c_33 => ?_) (fun c_33 => ?_)
        · refine zi_iconst hx hb dX8_where_40 ?_
          have hkk : (kM_where S x0 x1 x2) = 2 := by rw [kM_where, cif_f (by omega), cif_t (by omega)]
          refine zk_wi (zc_V (As := [.int (zi 2)]) (rest := []) ⟨hx, hb, hml, hown, hts⟩ (ct_X8_can l D cI cZ cJ bd S hI hdis 2 ⟨by decide, by decide⟩ (by omega) (by omega)) (cwV 1 hts gX8_where_X8_can rfl rfl rfl (by decide +kernel) ⟨Nat.le_of_ble_eq_true rfl, Nat.le_of_ble_eq_true rfl⟩) hK hP (q0 := 0) (ci := 8) rfl rfl rfl rfl hl.1 rfl (Nat.le_of_ble_eq_true rfl) dX8_where_41 ⟨Nat.zero_le _, Nat.zero_le _⟩) hS (fun r_41 S_41 H locs hp_41 hP hS => ?_)
          obtain ⟨er_41, e9, hI_41⟩ := hp_41
          have eS_41 := e9.symm; clear e9
          have fr_41 : (0 : Int) ≤ r_41 ∧ r_41 ≤ 1 := by rw [er_41]; exact b2_b
          have k_41 : r_41 = 0 := er_41.trans (b2_f (by decide))
          refine zi_if_eq (tgt := 57) hx hb ⟨by omega, by omega⟩ dX8_where_44 (by decide) (fun c_44 => ?_) (fun c_44 => ?_)
          · refine zi_iconst hx hb dX8_where_57 ?_
            exact zr_wi (T := S_41) hx hb hr hlocks dX8_where_58 hP hS (by exact ⟨pub_no hkk (by decide) (SM.rf) eS_41, hI_41⟩)
          · exact absurd c_44 (by omega)
        · refine zi_iconst hx hb dX8_where_36 ?_
          refine lv_goto (tgt := 41) hx hb dX8_where_37 (by decide) ?_
          have hkk : (kM_where S x0 x1 x2) = 0 := by rw [kM_where, cif_f (by omega), cif_f (by omega)]
          refine zk_wi (zc_V (As := [.int (zi 0)]) (rest := []) ⟨hx, hb, hml, hown, hts⟩ (ct_X8_can l D cI cZ cJ bd S hI hdis 0 ⟨by decide, by decide⟩ (by omega) (by omega)) (cwV 1 hts gX8_where_X8_can rfl rfl rfl (by decide +kernel) ⟨Nat.le_of_ble_eq_true rfl, Nat.le_of_ble_eq_true rfl⟩) hK hP (q0 := 0) (ci := 8) rfl rfl rfl rfl hl.1 rfl (Nat.le_of_ble_eq_true rfl) dX8_where_41 ⟨Nat.zero_le _, Nat.zero_le _⟩) hS (fun r_41 S_41 H locs hp_41 hP hS => ?_)
          obtain ⟨er_41, e9, hI_41⟩ := hp_41
          have eS_41 := e9.symm; clear e9
          have fr_41 : (0 : Int) ≤ r_41 ∧ r_41 ≤ 1 := by rw [er_41]; exact b2_b
          have k_41 : r_41 = 1 := er_41.trans (b2_t rfl)
          refine zi_if_eq (tgt := 57) hx hb ⟨by omega, by omega⟩ dX8_where_44 (by decide) (fun c_44 => ?_) (fun c_44 => ?_)
          · exact absurd c_44 (by omega)
          · refine lv_aload_n hx hb dX8_where_47 rfl (lv_at hl 1 rfl) ?_
            refine lv_iload_n hx hb dX8_where_48 rfl (lv_at hl 2 rfl) ?_
            refine lv_iload_n hx hb dX8_where_49 rfl (lv_at hl 3 rfl) ?_
            refine lv_iload_n hx hb dX8_where_50 rfl (lv_at hl 4 rfl) ?_
            refine zk_wi (zc_V (As := [.int (zi x0), .int (zi x1), .int (zi x2)]) (rest := []) ⟨hx, hb, hml, hown, hts⟩ (ct_X8_placeAt l D cI cZ cJ bd S_41 hI_41 hdis x0 x1 x2 ⟨by omega, by omega⟩ ⟨by omega, by omega⟩ ⟨by omega, by omega⟩ (by omega) (by omega) (by omega) (by omega) (by omega) (by omega) (by rw [← eS_41]; exact accM_su hac (by decide) (by decide) (by decide))) (cwV 3 hts gX8_where_X8_placeAt rfl rfl rfl (by decide +kernel) ⟨Nat.le_of_ble_eq_true rfl, Nat.le_of_ble_eq_true rfl⟩) hK hP (q0 := 0) (ci := 8) rfl rfl rfl rfl hl.1 rfl (Nat.le_of_ble_eq_true rfl) dX8_where_51 ⟨Nat.zero_le _, Nat.zero_le _⟩) hS (fun r_51 S_51 H locs hp_51 hP hS => ?_)
            obtain ⟨er_51, e9, hI_51⟩ := hp_51
            have eS_51 := e9.symm; clear e9
            refine lv_goto (tgt := 58) hx hb dX8_where_54 (by decide) ?_
            exact zr_wi (T := S_51) hx hb hr hlocks dX8_where_58 hP hS (by exact ⟨pub_ok hkk (by rw [er_51, ← eS_41]) (by rw [← eS_51, ← eS_41]; exact SM_sp), hI_51⟩)
      · refine zi_iconst hx hb dX8_where_27 ?_
        refine lv_goto (tgt := 41) hx hb dX8_where_28 (by decide) ?_
        have hkk : (kM_where S x0 x1 x2) = 1 := by rw [kM_where, cif_t (by omega)]
        refine zk_wi (zc_V (As := [.int (zi 1)]) (rest := []) ⟨hx, hb, hml, hown, hts⟩ (ct_X8_can l D cI cZ cJ bd S hI hdis 1 ⟨by decide, by decide⟩ (by omega) (by omega)) (cwV 1 hts gX8_where_X8_can rfl rfl rfl (by decide +kernel) ⟨Nat.le_of_ble_eq_true rfl, Nat.le_of_ble_eq_true rfl⟩) hK hP (q0 := 0) (ci := 8) rfl rfl rfl rfl hl.1 rfl (Nat.le_of_ble_eq_true rfl) dX8_where_41 ⟨Nat.zero_le _, Nat.zero_le _⟩) hS (fun r_41 S_41 H locs hp_41 hP hS => ?_)
        obtain ⟨er_41, e9, hI_41⟩ := hp_41
        have eS_41 := e9.symm; clear e9
        have fr_41 : (0 : Int) ≤ r_41 ∧ r_41 ≤ 1 := by rw [er_41]; exact b2_b
        have k_41 : r_41 = 0 := er_41.trans (b2_f (by decide))
        refine zi_if_eq (tgt := 57) hx hb ⟨by omega, by omega⟩ dX8_where_44 (by decide) (fun c_44 => ?_) (fun c_44 => ?_)
        · refine zi_iconst hx hb dX8_where_57 ?_
          exact zr_wi (T := S_41) hx hb hr hlocks dX8_where_58 hP hS (by exact ⟨pub_no hkk (by decide) (SM.rf) eS_41, hI_41⟩)
        · exact absurd c_44 (by omega)
    · refine zi_iconst hx hb dX8_where_11 ?_
      refine lv_goto (tgt := 16) hx hb dX8_where_12 (by decide) ?_
      refine lv_istore (lv' := [(4, .int (zi 1)), (0, .ref (bd 0)), (1, .int (zi x0)), (2, .int (zi x1)), (3, .int (zi x2))]) hx hb dX8_where_16 hl (by decide) rfl (fun ls hl => ?_)
      refine lv_aload_n hx hb dX8_where_18 rfl (lv_at hl 1 rfl) ?_
      refine lv_aload_n hx hb dX8_where_19 rfl (lv_at hl 1 rfl) ?_
      refine lv_iload_n hx hb dX8_where_20 rfl (lv_at hl 2 rfl) ?_
      refine zk_r (zc_V (As := [.int (zi x0)]) (rest := [.ref (bd 0)]) ⟨hx, hb, hml, hown, hts⟩ (ct_X8_isBody l D cI cZ cJ bd S hI x0 ⟨by omega, by omega⟩) (cwV 1 hts gX8_where_X8_isBody rfl rfl rfl (by decide +kernel) ⟨Nat.le_of_ble_eq_true rfl, Nat.le_of_ble_eq_true rfl⟩) hK hP (q0 := 0) (ci := 8) rfl rfl rfl rfl hl.1 rfl (Nat.le_of_ble_eq_true rfl) dX8_where_21 ⟨Nat.zero_le _, Nat.zero_le _⟩) ?_
      refine zi_top (fun (r_21 : Int) (er_21 : r_21 = b2 (0 ≤ x0 ∧ x0 < S 11 0)) => ?_)
      have fr_21 : (0 : Int) ≤ r_21 ∧ r_21 ≤ 1 := by rw [er_21]; exact b2_b
      have fr_211 : (r_21 = 1 ∧ (0 ≤ x0 ∧ x0 < S 11 0)) ∨ (r_21 = 0 ∧ ¬ (0 ≤ x0 ∧ x0 < S 11 0)) := by rw [er_21]; exact b2_or _
      refine zi_if_ne (tgt := 31) hx hb ⟨by omega, by omega⟩ dX8_where_24 (by decide) (fun c_24 => ?_) (fun c_24 => ?_)
      · refine lv_iload hx hb dX8_where_31 (lv_at hl 0 rfl) ?_
        refine zi_if_eq (tgt := 40) hx hb ⟨by decide, by decide⟩ dX8_where_33 (by decide) (fun c_33 => ?_) (fun c_33 => ?_)
        · refine zi_iconst hx hb dX8_where_40 ?_
          have hkk : (kM_where S x0 x1 x2) = 2 := by rw [kM_where, cif_f (by omega), cif_t (by omega)]
          refine zk_wi (zc_V (As := [.int (zi 2)]) (rest := []) ⟨hx, hb, hml, hown, hts⟩ (ct_X8_can l D cI cZ cJ bd S hI hdis 2 ⟨by decide, by decide⟩ (by omega) (by omega)) (cwV 1 hts gX8_where_X8_can rfl rfl rfl (by decide +kernel) ⟨Nat.le_of_ble_eq_true rfl, Nat.le_of_ble_eq_true rfl⟩) hK hP (q0 := 0) (ci := 8) rfl rfl rfl rfl hl.1 rfl (Nat.le_of_ble_eq_true rfl) dX8_where_41 ⟨Nat.zero_le _, Nat.zero_le _⟩) hS (fun r_41 S_41 H locs hp_41 hP hS => ?_)
          obtain ⟨er_41, e9, hI_41⟩ := hp_41
          have eS_41 := e9.symm; clear e9
          have fr_41 : (0 : Int) ≤ r_41 ∧ r_41 ≤ 1 := by rw [er_41]; exact b2_b
          have k_41 : r_41 = 0 := er_41.trans (b2_f (by decide))
          refine zi_if_eq (tgt := 57) hx hb ⟨by omega, by omega⟩ dX8_where_44 (by decide) (fun c_44 => ?_) (fun c_44 => ?_)
          · refine zi_iconst hx hb dX8_where_57 ?_
            exact zr_wi (T := S_41) hx hb hr hlocks dX8_where_58 hP hS (by exact ⟨pub_no hkk (by decide) (SM.rf) eS_41, hI_41⟩)
          · exact absurd c_44 (by omega)
        · refine zi_iconst hx hb dX8_where_36 ?_
          refine lv_goto (tgt := 41) hx hb dX8_where_37 (by decide) ?_
          have hkk : (kM_where S x0 x1 x2) = 0 := by rw [kM_where, cif_f (by omega), cif_f (by omega)]
          refine zk_wi (zc_V (As := [.int (zi 0)]) (rest := []) ⟨hx, hb, hml, hown, hts⟩ (ct_X8_can l D cI cZ cJ bd S hI hdis 0 ⟨by decide, by decide⟩ (by omega) (by omega)) (cwV 1 hts gX8_where_X8_can rfl rfl rfl (by decide +kernel) ⟨Nat.le_of_ble_eq_true rfl, Nat.le_of_ble_eq_true rfl⟩) hK hP (q0 := 0) (ci := 8) rfl rfl rfl rfl hl.1 rfl (Nat.le_of_ble_eq_true rfl) dX8_where_41 ⟨Nat.zero_le _, Nat.zero_le _⟩) hS (fun r_41 S_41 H locs hp_41 hP hS => ?_)
          obtain ⟨er_41, e9, hI_41⟩ := hp_41
          have eS_41 := e9.symm; clear e9
          have fr_41 : (0 : Int) ≤ r_41 ∧ r_41 ≤ 1 := by rw [er_41]; exact b2_b
          have k_41 : r_41 = 1 := er_41.trans (b2_t rfl)
          refine zi_if_eq (tgt := 57) hx hb ⟨by omega, by omega⟩ dX8_where_44 (by decide) (fun c_44 => ?_) (fun c_44 => ?_)
          · exact absurd c_44 (by omega)
          · refine lv_aload_n hx hb dX8_where_47 rfl (lv_at hl 1 rfl) ?_
            refine lv_iload_n hx hb dX8_where_48 rfl (lv_at hl 2 rfl) ?_
            refine lv_iload_n hx hb dX8_where_49 rfl (lv_at hl 3 rfl) ?_
            refine lv_iload_n hx hb dX8_where_50 rfl (lv_at hl 4 rfl) ?_
            refine zk_wi (zc_V (As := [.int (zi x0), .int (zi x1), .int (zi x2)]) (rest := []) ⟨hx, hb, hml, hown, hts⟩ (ct_X8_placeAt l D cI cZ cJ bd S_41 hI_41 hdis x0 x1 x2 ⟨by omega, by omega⟩ ⟨by omega, by omega⟩ ⟨by omega, by omega⟩ (by omega) (by omega) (by omega) (by omega) (by omega) (by omega) (by rw [← eS_41]; exact accM_su hac (by decide) (by decide) (by decide))) (cwV 3 hts gX8_where_X8_placeAt rfl rfl rfl (by decide +kernel) ⟨Nat.le_of_ble_eq_true rfl, Nat.le_of_ble_eq_true rfl⟩) hK hP (q0 := 0) (ci := 8) rfl rfl rfl rfl hl.1 rfl (Nat.le_of_ble_eq_true rfl) dX8_where_51 ⟨Nat.zero_le _, Nat.zero_le _⟩) hS (fun r_51 S_51 H locs hp_51 hP hS => ?_)
            obtain ⟨er_51, e9, hI_51⟩ := hp_51
            have eS_51 := e9.symm; clear e9
            refine lv_goto (tgt := 58) hx hb dX8_where_54 (by decide) ?_
            exact zr_wi (T := S_51) hx hb hr hlocks dX8_where_58 hP hS (by exact ⟨pub_ok hkk (by rw [er_51, ← eS_41]) (by rw [← eS_51, ← eS_41]; exact SM_sp), hI_51⟩)
      · refine zi_iconst hx hb dX8_where_27 ?_
        refine lv_goto (tgt := 41) hx hb dX8_where_28 (by decide) ?_
        have hkk : (kM_where S x0 x1 x2) = 1 := by rw [kM_where, cif_t (by omega)]
        refine zk_wi (zc_V (As := [.int (zi 1)]) (rest := []) ⟨hx, hb, hml, hown, hts⟩ (ct_X8_can l D cI cZ cJ bd S hI hdis 1 ⟨by decide, by decide⟩ (by omega) (by omega)) (cwV 1 hts gX8_where_X8_can rfl rfl rfl (by decide +kernel) ⟨Nat.le_of_ble_eq_true rfl, Nat.le_of_ble_eq_true rfl⟩) hK hP (q0 := 0) (ci := 8) rfl rfl rfl rfl hl.1 rfl (Nat.le_of_ble_eq_true rfl) dX8_where_41 ⟨Nat.zero_le _, Nat.zero_le _⟩) hS (fun r_41 S_41 H locs hp_41 hP hS => ?_)
        obtain ⟨er_41, e9, hI_41⟩ := hp_41
        have eS_41 := e9.symm; clear e9
        have fr_41 : (0 : Int) ≤ r_41 ∧ r_41 ≤ 1 := by rw [er_41]; exact b2_b
        have k_41 : r_41 = 0 := er_41.trans (b2_f (by decide))
        refine zi_if_eq (tgt := 57) hx hb ⟨by omega, by omega⟩ dX8_where_44 (by decide) (fun c_44 => ?_) (fun c_44 => ?_)
        · refine zi_iconst hx hb dX8_where_57 ?_
          exact zr_wi (T := S_41) hx hb hr hlocks dX8_where_58 hP hS (by exact ⟨pub_no hkk (by decide) (SM.rf) eS_41, hI_41⟩)
        · exact absurd c_44 (by omega)

noncomputable def kM_candidates (S : ZS) (x0 : Int) : Int := cif (¬ (0 ≤ x0 ∧ x0 < S 11 0)) 1 (0)
abbrev rmct_X8_candidates : Room := { frames := 7, cells := 0, slots := 0, locals := 159 }
set_option maxHeartbeats 4000000 in
set_option maxRecDepth 100000 in
theorem ct_X8_candidates (l : Launch) (D : va_G) (cI cZ cJ : ClassId) (bd : Nat → Nat) (S : ZS) (hI : MI S) (hdis : mDis bd) (x0 : Int) (hx0 : ir x0) (hac : accM S) : Met l yX8_candidates wsX8_candidates rmct_X8_candidates (zP D cI cZ cJ (mW cI cZ bd S) [.ref (bd 0), .int (zi x0)]) (zWi D (mW cI cZ bd) (mA bd) (fun r T => pubQ S (kM_candidates S x0) ((caM (su S 31 (fun _ => 0)) x0).2) (fun P => P) r T ∧ MI T)) 0 0 (mA bd) := by
  refine Met.ofW (cc := cX8_candidates) (maxL := 2) (ret := (some .int)) (by decide) rfl ?_
  intro p e s m args below meth c s₁ B hml hv
  obtain ⟨rfl, hP, hK⟩ := hv
  have hx := B.exec
  have hb := B.bytes
  have hr := B.returns
  have hts := atoms_spec (ws := wsX8_candidates) B.pre
  have hown : s.vm.findClass RX8 = some m.cls := findClass_of_methodNamed B.named
  have hlocks := B.notSynchronized
  have hl := lv_entry ([.ref (bd 0), .int (zi x0)]) (n := 2) (Nat.le_of_ble_eq_true rfl)
  rw [lg_entry_eq]
  generalize (lg_sl ([.ref (bd 0), .int (zi x0)]) ++ List.replicate (2 - (lg_sl ([.ref (bd 0), .int (zi x0)])).length) Slot.unset).toArray = ls at hl ⊢
  have hl : lv_has ls 2 [(0, .ref (bd 0)), (1, .int (zi x0))] := hl
  have hS : va_S (mA bd) s.heap s.heap [] := va_S.rf
  show W p l e rmct_X8_candidates s m ([.ref (bd 0), .int (zi x0)] : List Value).toArray below meth c s.heap [] 0 0 (MQ below (zWi D (mW cI cZ bd) (mA bd) (fun r T => pubQ S (kM_candidates S x0) ((caM (su S 31 (fun _ => 0)) x0).2) (fun P => P) r T ∧ MI T)) ([.ref (bd 0), .int (zi x0)] : List Value).toArray s 0 0 (mA bd)) (F0 m 0 ls [])
  have hc0 : (0 : Int) ≤ S 11 0 ∧ S 11 0 ≤ 20 := hI 11 0
  have hc6 : (0 : Int) ≤ S 6 0 ∧ S 6 0 ≤ 60 := hI 6 0
  refine lv_aload_n hx hb dX8_candidates_0 rfl (lv_at hl 0 rfl) ?_
  refine lv_aload_n hx hb dX8_candidates_1 rfl (lv_at hl 0 rfl) ?_
  refine lv_iload_n hx hb dX8_candidates_2 rfl (lv_at hl 1 rfl) ?_
  refine zk_r (zc_V (As := [.int (zi x0)]) (rest := [.ref (bd 0)]) ⟨hx, hb, hml, hown, hts⟩ (ct_X8_isBody l D cI cZ cJ bd S hI x0 ⟨by omega, by omega⟩) (cwV 1 hts gX8_candidates_X8_isBody rfl rfl rfl (by decide +kernel) ⟨Nat.le_of_ble_eq_true rfl, Nat.le_of_ble_eq_true rfl⟩) hK hP (q0 := 0) (ci := 8) rfl rfl rfl rfl hl.1 rfl (Nat.le_of_ble_eq_true rfl) dX8_candidates_3 ⟨Nat.zero_le _, Nat.zero_le _⟩) ?_
  refine zi_top (fun (r_3 : Int) (er_3 : r_3 = b2 (0 ≤ x0 ∧ x0 < S 11 0)) => ?_)
  have fr_3 : (0 : Int) ≤ r_3 ∧ r_3 ≤ 1 := by rw [er_3]; exact b2_b
  have fr_31 : (r_3 = 1 ∧ (0 ≤ x0 ∧ x0 < S 11 0)) ∨ (r_3 = 0 ∧ ¬ (0 ≤ x0 ∧ x0 < S 11 0)) := by rw [er_3]; exact b2_or _
  refine zi_if_eq (tgt := 13) hx hb ⟨by omega, by omega⟩ dX8_candidates_6 (by decide) (fun c_6 => ?_) (fun c_6 => ?_)
  · refine zi_iconst hx hb dX8_candidates_13 ?_
    have hkk : (kM_candidates S x0) = 1 := by rw [kM_candidates, cif_t (by omega)]
    refine zk_wi (zc_V (As := [.int (zi 1)]) (rest := []) ⟨hx, hb, hml, hown, hts⟩ (ct_X8_can l D cI cZ cJ bd S hI hdis 1 ⟨by decide, by decide⟩ (by omega) (by omega)) (cwV 1 hts gX8_candidates_X8_can rfl rfl rfl (by decide +kernel) ⟨Nat.le_of_ble_eq_true rfl, Nat.le_of_ble_eq_true rfl⟩) hK hP (q0 := 0) (ci := 8) rfl rfl rfl rfl hl.1 rfl (Nat.le_of_ble_eq_true rfl) dX8_candidates_14 ⟨Nat.zero_le _, Nat.zero_le _⟩) hS (fun r_14 S_14 H locs hp_14 hP hS => ?_)
    obtain ⟨er_14, e9, hI_14⟩ := hp_14
    have eS_14 := e9.symm; clear e9
    have fr_14 : (0 : Int) ≤ r_14 ∧ r_14 ≤ 1 := by rw [er_14]; exact b2_b
    have k_14 : r_14 = 0 := er_14.trans (b2_f (by decide))
    refine zi_if_eq (tgt := 28) hx hb ⟨by omega, by omega⟩ dX8_candidates_17 (by decide) (fun c_17 => ?_) (fun c_17 => ?_)
    · refine zi_iconst hx hb dX8_candidates_28 ?_
      exact zr_wi (T := S_14) hx hb hr hlocks dX8_candidates_29 hP hS (by exact ⟨pub_no hkk (by decide) (SM.rf) eS_14, hI_14⟩)
    · exact absurd c_17 (by omega)
  · refine zi_iconst hx hb dX8_candidates_9 ?_
    refine lv_goto (tgt := 14) hx hb dX8_candidates_10 (by decide) ?_
    have hkk : (kM_candidates S x0) = 0 := by rw [kM_candidates, cif_f (by omega)]
    refine zk_wi (zc_V (As := [.int (zi 0)]) (rest := []) ⟨hx, hb, hml, hown, hts⟩ (ct_X8_can l D cI cZ cJ bd S hI hdis 0 ⟨by decide, by decide⟩ (by omega) (by omega)) (cwV 1 hts gX8_candidates_X8_can rfl rfl rfl (by decide +kernel) ⟨Nat.le_of_ble_eq_true rfl, Nat.le_of_ble_eq_true rfl⟩) hK hP (q0 := 0) (ci := 8) rfl rfl rfl rfl hl.1 rfl (Nat.le_of_ble_eq_true rfl) dX8_candidates_14 ⟨Nat.zero_le _, Nat.zero_le _⟩) hS (fun r_14 S_14 H locs hp_14 hP hS => ?_)
    obtain ⟨er_14, e9, hI_14⟩ := hp_14
    have eS_14 := e9.symm; clear e9
    have fr_14 : (0 : Int) ≤ r_14 ∧ r_14 ≤ 1 := by rw [er_14]; exact b2_b
    have k_14 : r_14 = 1 := er_14.trans (b2_t rfl)
    refine zi_if_eq (tgt := 28) hx hb ⟨by omega, by omega⟩ dX8_candidates_17 (by decide) (fun c_17 => ?_) (fun c_17 => ?_)
    · exact absurd c_17 (by omega)
    · refine lv_aload_n hx hb dX8_candidates_20 rfl (lv_at hl 0 rfl) ?_
      refine lv_iload_n hx hb dX8_candidates_21 rfl (lv_at hl 1 rfl) ?_
      refine zk_wi (zc_V (As := [.int (zi x0)]) (rest := []) ⟨hx, hb, hml, hown, hts⟩ (ct_X8_candidatesOf l D cI cZ cJ bd S_14 hI_14 hdis x0 ⟨by omega, by omega⟩ (by omega) (by omega) (by rw [← eS_14]; exact accM_su hac (by decide) (by decide) (by decide))) (cwV 1 hts gX8_candidates_X8_candidatesOf rfl rfl rfl (by decide +kernel) ⟨Nat.le_of_ble_eq_true rfl, Nat.le_of_ble_eq_true rfl⟩) hK hP (q0 := 0) (ci := 8) rfl rfl rfl rfl hl.1 rfl (Nat.le_of_ble_eq_true rfl) dX8_candidates_22 ⟨Nat.zero_le _, Nat.zero_le _⟩) hS (fun r_22 S_22 H locs hp_22 hP hS => ?_)
      obtain ⟨er_22, e9, hI_22⟩ := hp_22
      have eS_22 := e9.symm; clear e9
      refine lv_goto (tgt := 29) hx hb dX8_candidates_25 (by decide) ?_
      exact zr_wi (T := S_22) hx hb hr hlocks dX8_candidates_29 hP hS (by exact ⟨pub_ok hkk (by rw [er_22, ← eS_14]) (by rw [← eS_22, ← eS_14]; exact SM_ca), hI_22⟩)

noncomputable def kM_chance (S : ZS) (x0 x1 x2 x3 : Int) : Int := cif (¬ (0 ≤ x0 ∧ x0 < S 11 0)) 1 (cif (¬ ((0 ≤ x1 ∧ x1 ≤ 999) ∧ (1 ≤ x2 ∧ x2 ≤ 60) ∧ x1 + x2 ≤ 1000)) 2 (0))
abbrev rmct_X8_chance : Room := { frames := 6, cells := 0, slots := 0, locals := 142 }
set_option maxHeartbeats 4000000 in
set_option maxRecDepth 100000 in
theorem ct_X8_chance (l : Launch) (D : va_G) (cI cZ cJ : ClassId) (bd : Nat → Nat) (S : ZS) (hI : MI S) (hdis : mDis bd) (x0 x1 x2 x3 : Int) (hx0 : ir x0) (hx1 : ir x1) (hx2 : ir x2) (hx3 : ir x3) (hw3 : x3 = 0 ∨ x3 = 1) (hac : accM S) : Met l yX8_chance wsX8_chance rmct_X8_chance (zP D cI cZ cJ (mW cI cZ bd S) [.ref (bd 0), .int (zi x0), .int (zi x1), .int (zi x2), .int (zi x3)]) (zWi D (mW cI cZ bd) (mA bd) (fun r T => pubQ S (kM_chance S x0 x1 x2 x3) (chM x0 x1 x2 x3 (su S 31 (fun _ => 0))) (fun P => P) r T ∧ MI T)) 0 0 (mA bd) := by
  refine Met.ofW (cc := cX8_chance) (maxL := 6) (ret := (some .int)) (by decide) rfl ?_
  intro p e s m args below meth c s₁ B hml hv
  obtain ⟨rfl, hP, hK⟩ := hv
  have hx := B.exec
  have hb := B.bytes
  have hr := B.returns
  have hts := atoms_spec (ws := wsX8_chance) B.pre
  have hown : s.vm.findClass RX8 = some m.cls := findClass_of_methodNamed B.named
  have hlocks := B.notSynchronized
  have hl := lv_entry ([.ref (bd 0), .int (zi x0), .int (zi x1), .int (zi x2), .int (zi x3)]) (n := 6) (Nat.le_of_ble_eq_true rfl)
  rw [lg_entry_eq]
  generalize (lg_sl ([.ref (bd 0), .int (zi x0), .int (zi x1), .int (zi x2), .int (zi x3)]) ++ List.replicate (6 - (lg_sl ([.ref (bd 0), .int (zi x0), .int (zi x1), .int (zi x2), .int (zi x3)])).length) Slot.unset).toArray = ls at hl ⊢
  have hl : lv_has ls 6 [(0, .ref (bd 0)), (1, .int (zi x0)), (2, .int (zi x1)), (3, .int (zi x2)), (4, .int (zi x3))] := hl
  have hS : va_S (mA bd) s.heap s.heap [] := va_S.rf
  show W p l e rmct_X8_chance s m ([.ref (bd 0), .int (zi x0), .int (zi x1), .int (zi x2), .int (zi x3)] : List Value).toArray below meth c s.heap [] 0 0 (MQ below (zWi D (mW cI cZ bd) (mA bd) (fun r T => pubQ S (kM_chance S x0 x1 x2 x3) (chM x0 x1 x2 x3 (su S 31 (fun _ => 0))) (fun P => P) r T ∧ MI T)) ([.ref (bd 0), .int (zi x0), .int (zi x1), .int (zi x2), .int (zi x3)] : List Value).toArray s 0 0 (mA bd)) (F0 m 0 ls [])
  have hc0 : (0 : Int) ≤ S 11 0 ∧ S 11 0 ≤ 20 := hI 11 0
  have hc6 : (0 : Int) ≤ S 6 0 ∧ S 6 0 ≤ 60 := hI 6 0
  refine lv_iload_n hx hb dX8_chance_0 rfl (lv_at hl 2 rfl) ?_
  refine zk_r (zc_S (As := [.int (zi x1)]) (rest := []) ⟨hx, hb, hml, hown, hts⟩ (ct_X8_isNight l D cI cZ cJ x1 ⟨by omega, by omega⟩) (va_cwS 1 hts gX8_chance_X8_isNight rfl rfl rfl (by decide +kernel) ⟨Nat.le_of_ble_eq_true rfl, Nat.le_of_ble_eq_true rfl⟩) hK va_P_nil rfl hl.1 rfl (Nat.le_of_ble_eq_true rfl) dX8_chance_1 ⟨Nat.zero_le _, Nat.zero_le _⟩) ?_
  refine zi_top (fun (r_1 : Int) (er_1 : r_1 = b2 (0 ≤ x1 ∧ x1 ≤ 999)) => ?_)
  have fr_1 : (0 : Int) ≤ r_1 ∧ r_1 ≤ 1 := by rw [er_1]; exact b2_b
  have fr_11 : (r_1 = 1 ∧ (0 ≤ x1 ∧ x1 ≤ 999)) ∨ (r_1 = 0 ∧ ¬ (0 ≤ x1 ∧ x1 ≤ 999)) := by rw [er_1]; exact b2_or _
  refine zi_if_eq (tgt := 30) hx hb ⟨by omega, by omega⟩ dX8_chance_4 (by decide) (fun c_4 => ?_) (fun c_4 => ?_)
  · refine zi_iconst hx hb dX8_chance_30 ?_
    refine lv_istore (lv' := [(5, .int (zi 0)), (0, .ref (bd 0)), (1, .int (zi x0)), (2, .int (zi x1)), (3, .int (zi x2)), (4, .int (zi x3))]) hx hb dX8_chance_31 hl (by decide) rfl (fun ls hl => ?_)
    refine lv_aload_n hx hb dX8_chance_33 rfl (lv_at hl 1 rfl) ?_
    refine lv_aload_n hx hb dX8_chance_34 rfl (lv_at hl 1 rfl) ?_
    refine lv_iload_n hx hb dX8_chance_35 rfl (lv_at hl 2 rfl) ?_
    refine zk_r (zc_V (As := [.int (zi x0)]) (rest := [.ref (bd 0)]) ⟨hx, hb, hml, hown, hts⟩ (ct_X8_isBody l D cI cZ cJ bd S hI x0 ⟨by omega, by omega⟩) (cwV 1 hts gX8_chance_X8_isBody rfl rfl rfl (by decide +kernel) ⟨Nat.le_of_ble_eq_true rfl, Nat.le_of_ble_eq_true rfl⟩) hK hP (q0 := 0) (ci := 8) rfl rfl rfl rfl hl.1 rfl (Nat.le_of_ble_eq_true rfl) dX8_chance_36 ⟨Nat.zero_le _, Nat.zero_le _⟩) ?_
    refine zi_top (fun (r_36 : Int) (er_36 : r_36 = b2 (0 ≤ x0 ∧ x0 < S 11 0)) => ?_)
    have fr_36 : (0 : Int) ≤ r_36 ∧ r_36 ≤ 1 := by rw [er_36]; exact b2_b
    have fr_361 : (r_36 = 1 ∧ (0 ≤ x0 ∧ x0 < S 11 0)) ∨ (r_36 = 0 ∧ ¬ (0 ≤ x0 ∧ x0 < S 11 0)) := by rw [er_36]; exact b2_or _
    refine zi_if_ne (tgt := 46) hx hb ⟨by omega, by omega⟩ dX8_chance_39 (by decide) (fun c_39 => ?_) (fun c_39 => ?_)
    · refine lv_iload hx hb dX8_chance_46 (lv_at hl 0 rfl) ?_
      refine zi_if_eq (tgt := 55) hx hb ⟨by decide, by decide⟩ dX8_chance_48 (by decide) (fun c_48 => ?_) (fun c_48 => ?_)
      · refine zi_iconst hx hb dX8_chance_55 ?_
        have hkk : (kM_chance S x0 x1 x2 x3) = 2 := by rw [kM_chance, cif_f (by omega), cif_t (by omega)]
        refine zk_wi (zc_V (As := [.int (zi 2)]) (rest := []) ⟨hx, hb, hml, hown, hts⟩ (ct_X8_can l D cI cZ cJ bd S hI hdis 2 ⟨by decide, by decide⟩ (by omega) (by omega)) (cwV 1 hts gX8_chance_X8_can rfl rfl rfl (by decide +kernel) ⟨Nat.le_of_ble_eq_true rfl, Nat.le_of_ble_eq_true rfl⟩) hK hP (q0 := 0) (ci := 8) rfl rfl rfl rfl hl.1 rfl (Nat.le_of_ble_eq_true rfl) dX8_chance_56 ⟨Nat.zero_le _, Nat.zero_le _⟩) hS (fun r_56 S_56 H locs hp_56 hP hS => ?_)
        obtain ⟨er_56, e9, hI_56⟩ := hp_56
        have eS_56 := e9.symm; clear e9
        have fr_56 : (0 : Int) ≤ r_56 ∧ r_56 ≤ 1 := by rw [er_56]; exact b2_b
        have k_56 : r_56 = 0 := er_56.trans (b2_f (by decide))
        refine zi_if_eq (tgt := 74) hx hb ⟨by omega, by omega⟩ dX8_chance_59 (by decide) (fun c_59 => ?_) (fun c_59 => ?_)
        · refine zi_iconst hx hb dX8_chance_74 ?_
          exact zr_wi (T := S_56) hx hb hr hlocks dX8_chance_75 hP hS (by exact ⟨pub_no hkk (by decide) (SM.rf) eS_56, hI_56⟩)
        · exact absurd c_59 (by omega)
      · refine zi_iconst hx hb dX8_chance_51 ?_
        refine lv_goto (tgt := 56) hx hb dX8_chance_52 (by decide) ?_
        have hkk : (kM_chance S x0 x1 x2 x3) = 0 := by rw [kM_chance, cif_f (by omega), cif_f (by omega)]
        refine zk_wi (zc_V (As := [.int (zi 0)]) (rest := []) ⟨hx, hb, hml, hown, hts⟩ (ct_X8_can l D cI cZ cJ bd S hI hdis 0 ⟨by decide, by decide⟩ (by omega) (by omega)) (cwV 1 hts gX8_chance_X8_can rfl rfl rfl (by decide +kernel) ⟨Nat.le_of_ble_eq_true rfl, Nat.le_of_ble_eq_true rfl⟩) hK hP (q0 := 0) (ci := 8) rfl rfl rfl rfl hl.1 rfl (Nat.le_of_ble_eq_true rfl) dX8_chance_56 ⟨Nat.zero_le _, Nat.zero_le _⟩) hS (fun r_56 S_56 H locs hp_56 hP hS => ?_)
        obtain ⟨er_56, e9, hI_56⟩ := hp_56
        have eS_56 := e9.symm; clear e9
        have fr_56 : (0 : Int) ≤ r_56 ∧ r_56 ≤ 1 := by rw [er_56]; exact b2_b
        have k_56 : r_56 = 1 := er_56.trans (b2_t rfl)
        refine zi_if_eq (tgt := 74) hx hb ⟨by omega, by omega⟩ dX8_chance_59 (by decide) (fun c_59 => ?_) (fun c_59 => ?_)
        · exact absurd c_59 (by omega)
        · refine lv_aload_n hx hb dX8_chance_62 rfl (lv_at hl 1 rfl) ?_
          refine lv_iload_n hx hb dX8_chance_63 rfl (lv_at hl 2 rfl) ?_
          refine lv_iload_n hx hb dX8_chance_64 rfl (lv_at hl 3 rfl) ?_
          refine lv_iload_n hx hb dX8_chance_65 rfl (lv_at hl 4 rfl) ?_
          refine lv_iload hx hb dX8_chance_66 (lv_at hl 5 rfl) ?_
          refine zk_wi (zc_V (As := [.int (zi x0), .int (zi x1), .int (zi x2), .int (zi x3)]) (rest := []) ⟨hx, hb, hml, hown, hts⟩ (ct_X8_chanceOf l D cI cZ cJ bd S_56 hI_56 hdis x0 x1 x2 x3 ⟨by omega, by omega⟩ ⟨by omega, by omega⟩ ⟨by omega, by omega⟩ ⟨by omega, by omega⟩ (by omega) (by omega) (by omega) (by omega) (by omega) (by omega) (by omega) (by omega) (by rw [← eS_56]; exact accM_su hac (by decide) (by decide) (by decide))) (cwV 4 hts gX8_chance_X8_chanceOf rfl rfl rfl (by decide +kernel) ⟨Nat.le_of_ble_eq_true rfl, Nat.le_of_ble_eq_true rfl⟩) hK hP (q0 := 0) (ci := 8) rfl rfl rfl rfl hl.1 rfl (Nat.le_of_ble_eq_true rfl) dX8_chance_68 ⟨Nat.zero_le _, Nat.zero_le _⟩) hS (fun r_68 S_68 H locs hp_68 hP hS => ?_)
          obtain ⟨er_68, e9, hI_68⟩ := hp_68
          have eS_68 := e9.symm; clear e9
          refine lv_goto (tgt := 75) hx hb dX8_chance_71 (by decide) ?_
          exact zr_wi (T := S_68) hx hb hr hlocks dX8_chance_75 hP hS (by exact ⟨pub_ok hkk (by rw [er_68, ← eS_56]) (by rw [← eS_68, ← eS_56]; exact SM_ch), hI_68⟩)
    · refine zi_iconst hx hb dX8_chance_42 ?_
      refine lv_goto (tgt := 56) hx hb dX8_chance_43 (by decide) ?_
      have hkk : (kM_chance S x0 x1 x2 x3) = 1 := by rw [kM_chance, cif_t (by omega)]
      refine zk_wi (zc_V (As := [.int (zi 1)]) (rest := []) ⟨hx, hb, hml, hown, hts⟩ (ct_X8_can l D cI cZ cJ bd S hI hdis 1 ⟨by decide, by decide⟩ (by omega) (by omega)) (cwV 1 hts gX8_chance_X8_can rfl rfl rfl (by decide +kernel) ⟨Nat.le_of_ble_eq_true rfl, Nat.le_of_ble_eq_true rfl⟩) hK hP (q0 := 0) (ci := 8) rfl rfl rfl rfl hl.1 rfl (Nat.le_of_ble_eq_true rfl) dX8_chance_56 ⟨Nat.zero_le _, Nat.zero_le _⟩) hS (fun r_56 S_56 H locs hp_56 hP hS => ?_)
      obtain ⟨er_56, e9, hI_56⟩ := hp_56
      have eS_56 := e9.symm; clear e9
      have fr_56 : (0 : Int) ≤ r_56 ∧ r_56 ≤ 1 := by rw [er_56]; exact b2_b
      have k_56 : r_56 = 0 := er_56.trans (b2_f (by decide))
      refine zi_if_eq (tgt := 74) hx hb ⟨by omega, by omega⟩ dX8_chance_59 (by decide) (fun c_59 => ?_) (fun c_59 => ?_)
      · refine zi_iconst hx hb dX8_chance_74 ?_
        exact zr_wi (T := S_56) hx hb hr hlocks dX8_chance_75 hP hS (by exact ⟨pub_no hkk (by decide) (SM.rf) eS_56, hI_56⟩)
      · exact absurd c_59 (by omega)
  · refine lv_iload_n hx hb dX8_chance_7 rfl (lv_at hl 3 rfl) ?_
    refine zi_iconst hx hb dX8_chance_8 ?_
    refine zi_bipush hx hb dX8_chance_9 (by decide) ?_
    refine zk_r (zc_S (As := [.int (zi x2), .int (zi 1), .int (zi 60)]) (rest := []) ⟨hx, hb, hml, hown, hts⟩ (ct_X8_isIn l D cI cZ cJ x2 1 60 ⟨by omega, by omega⟩ ⟨by decide, by decide⟩ ⟨by decide, by decide⟩) (va_cwS 3 hts gX8_chance_X8_isIn rfl rfl rfl (by decide +kernel) ⟨Nat.le_of_ble_eq_true rfl, Nat.le_of_ble_eq_true rfl⟩) hK va_P_nil rfl hl.1 rfl (Nat.le_of_ble_eq_true rfl) dX8_chance_11 ⟨Nat.zero_le _, Nat.zero_le _⟩) ?_
    refine zi_top (fun (r_11 : Int) (er_11 : r_11 = b2 (1 ≤ x2 ∧ x2 ≤ 60)) => ?_)
    have fr_11 : (0 : Int) ≤ r_11 ∧ r_11 ≤ 1 := by rw [er_11]; exact b2_b
    have fr_111 : (r_11 = 1 ∧ (1 ≤ x2 ∧ x2 ≤ 60)) ∨ (r_11 = 0 ∧ ¬ (1 ≤ x2 ∧ x2 ≤ 60)) := by rw [er_11]; exact b2_or _
    refine zi_if_eq (tgt := 30) hx hb ⟨by omega, by omega⟩ dX8_chance_14 (by decide) (fun c_14 => ?_) (fun c_14 => ?_)
    · refine zi_iconst hx hb dX8_chance_30 ?_
      refine lv_istore (lv' := [(5, .int (zi 0)), (0, .ref (bd 0)), (1, .int (zi x0)), (2, .int (zi x1)), (3, .int (zi x2)), (4, .int (zi x3))]) hx hb dX8_chance_31 hl (by decide) rfl (fun ls hl => ?_)
      refine lv_aload_n hx hb dX8_chance_33 rfl (lv_at hl 1 rfl) ?_
      refine lv_aload_n hx hb dX8_chance_34 rfl (lv_at hl 1 rfl) ?_
      refine lv_iload_n hx hb dX8_chance_35 rfl (lv_at hl 2 rfl) ?_
      refine zk_r (zc_V (As := [.int (zi x0)]) (rest := [.ref (bd 0)]) ⟨hx, hb, hml, hown, hts⟩ (ct_X8_isBody l D cI cZ cJ bd S hI x0 ⟨by omega, by omega⟩) (cwV 1 hts gX8_chance_X8_isBody rfl rfl rfl (by decide +kernel) ⟨Nat.le_of_ble_eq_true rfl, Nat.le_of_ble_eq_true rfl⟩) hK hP (q0 := 0) (ci := 8) rfl rfl rfl rfl hl.1 rfl (Nat.le_of_ble_eq_true rfl) dX8_chance_36 ⟨Nat.zero_le _, Nat.zero_le _⟩) ?_
      refine zi_top (fun (r_36 : Int) (er_36 : r_36 = b2 (0 ≤ x0 ∧ x0 < S 11 0)) => ?_)
      have fr_36 : (0 : Int) ≤ r_36 ∧ r_36 ≤ 1 := by rw [er_36]; exact b2_b
      have fr_361 : (r_36 = 1 ∧ (0 ≤ x0 ∧ x0 < S 11 0)) ∨ (r_36 = 0 ∧ ¬ (0 ≤ x0 ∧ x0 < S 11 0)) := by rw [er_36]; exact b2_or _
      refine zi_if_ne (tgt := 46) hx hb ⟨by omega, by omega⟩ dX8_chance_39 (by decide) (fun c_39 => ?_) (fun c_39 => ?_)
      · refine lv_iload hx hb dX8_chance_46 (lv_at hl 0 rfl) ?_
        refine zi_if_eq (tgt := 55) hx hb ⟨by decide, by decide⟩ dX8_chance_48 (by decide) (fun c_48 => ?_) (fun c_48 => ?_)
        · refine zi_iconst hx hb dX8_chance_55 ?_
          have hkk : (kM_chance S x0 x1 x2 x3) = 2 := by rw [kM_chance, cif_f (by omega), cif_t (by omega)]
          refine zk_wi (zc_V (As := [.int (zi 2)]) (rest := []) ⟨hx, hb, hml, hown, hts⟩ (ct_X8_can l D cI cZ cJ bd S hI hdis 2 ⟨by decide, by decide⟩ (by omega) (by omega)) (cwV 1 hts gX8_chance_X8_can rfl rfl rfl (by decide +kernel) ⟨Nat.le_of_ble_eq_true rfl, Nat.le_of_ble_eq_true rfl⟩) hK hP (q0 := 0) (ci := 8) rfl rfl rfl rfl hl.1 rfl (Nat.le_of_ble_eq_true rfl) dX8_chance_56 ⟨Nat.zero_le _, Nat.zero_le _⟩) hS (fun r_56 S_56 H locs hp_56 hP hS => ?_)
          obtain ⟨er_56, e9, hI_56⟩ := hp_56
          have eS_56 := e9.symm; clear e9
          have fr_56 : (0 : Int) ≤ r_56 ∧ r_56 ≤ 1 := by rw [er_56]; exact b2_b
          have k_56 : r_56 = 0 := er_56.trans (b2_f (by decide))
          refine zi_if_eq (tgt := 74) hx hb ⟨by omega, by omega⟩ dX8_chance_59 (by decide) (fun c_59 => ?_) (fun c_59 => ?_)
          · refine zi_iconst hx hb dX8_chance_74 ?_
            exact zr_wi (T := S_56) hx hb hr hlocks dX8_chance_75 hP hS (by exact ⟨pub_no hkk (by decide) (SM.rf) eS_56, hI_56⟩)
          · exact absurd c_59 (by omega)
        · refine zi_iconst hx hb dX8_chance_51 ?_
          refine lv_goto (tgt := 56) hx hb dX8_chance_52 (by decide) ?_
          have hkk : (kM_chance S x0 x1 x2 x3) = 0 := by rw [kM_chance, cif_f (by omega), cif_f (by omega)]
          refine zk_wi (zc_V (As := [.int (zi 0)]) (rest := []) ⟨hx, hb, hml, hown, hts⟩ (ct_X8_can l D cI cZ cJ bd S hI hdis 0 ⟨by decide, by decide⟩ (by omega) (by omega)) (cwV 1 hts gX8_chance_X8_can rfl rfl rfl (by decide +kernel) ⟨Nat.le_of_ble_eq_true rfl, Nat.le_of_ble_eq_true rfl⟩) hK hP (q0 := 0) (ci := 8) rfl rfl rfl rfl hl.1 rfl (Nat.le_of_ble_eq_true rfl) dX8_chance_56 ⟨Nat.zero_le _, Nat.zero_le _⟩) hS (fun r_56 S_56 H locs hp_56 hP hS => ?_)
          obtain ⟨er_56, e9, hI_56⟩ := hp_56
          have eS_56 := e9.symm; clear e9
          have fr_56 : (0 : Int) ≤ r_56 ∧ r_56 ≤ 1 := by rw [er_56]; exact b2_b
          have k_56 : r_56 = 1 := er_56.trans (b2_t rfl)
          refine zi_if_eq (tgt := 74) hx hb ⟨by omega, by omega⟩ dX8_chance_59 (by decide) (fun c_59 => ?_) (fun c_59 => ?_)
          · exact absurd c_59 (by omega)
          · refine lv_aload_n hx hb dX8_chance_62 rfl (lv_at hl 1 rfl) ?_
            refine lv_iload_n hx hb dX8_chance_63 rfl (lv_at hl 2 rfl) ?_
            refine lv_iload_n hx hb dX8_chance_64 rfl (lv_at hl 3 rfl) ?_
            refine lv_iload_n hx hb dX8_chance_65 rfl (lv_at hl 4 rfl) ?_
            refine lv_iload hx hb dX8_chance_66 (lv_at hl 5 rfl) ?_
            refine zk_wi (zc_V (As := [.int (zi x0), .int (zi x1), .int (zi x2), .int (zi x3)]) (rest := []) ⟨hx, hb, hml, hown, hts⟩ (ct_X8_chanceOf l D cI cZ cJ bd S_56 hI_56 hdis x0 x1 x2 x3 ⟨by omega, by omega⟩ ⟨by omega, by omega⟩ ⟨by omega, by omega⟩ ⟨by omega, by omega⟩ (by omega) (by omega) (by omega) (by omega) (by omega) (by omega) (by omega) (by omega) (by rw [← eS_56]; exact accM_su hac (by decide) (by decide) (by decide))) (cwV 4 hts gX8_chance_X8_chanceOf rfl rfl rfl (by decide +kernel) ⟨Nat.le_of_ble_eq_true rfl, Nat.le_of_ble_eq_true rfl⟩) hK hP (q0 := 0) (ci := 8) rfl rfl rfl rfl hl.1 rfl (Nat.le_of_ble_eq_true rfl) dX8_chance_68 ⟨Nat.zero_le _, Nat.zero_le _⟩) hS (fun r_68 S_68 H locs hp_68 hP hS => ?_)
            obtain ⟨er_68, e9, hI_68⟩ := hp_68
            have eS_68 := e9.symm; clear e9
            refine lv_goto (tgt := 75) hx hb dX8_chance_71 (by decide) ?_
            exact zr_wi (T := S_68) hx hb hr hlocks dX8_chance_75 hP hS (by exact ⟨pub_ok hkk (by rw [er_68, ← eS_56]) (by rw [← eS_68, ← eS_56]; exact SM_ch), hI_68⟩)
      · refine zi_iconst hx hb dX8_chance_42 ?_
        refine lv_goto (tgt := 56) hx hb dX8_chance_43 (by decide) ?_
        have hkk : (kM_chance S x0 x1 x2 x3) = 1 := by rw [kM_chance, cif_t (by omega)]
        refine zk_wi (zc_V (As := [.int (zi 1)]) (rest := []) ⟨hx, hb, hml, hown, hts⟩ (ct_X8_can l D cI cZ cJ bd S hI hdis 1 ⟨by decide, by decide⟩ (by omega) (by omega)) (cwV 1 hts gX8_chance_X8_can rfl rfl rfl (by decide +kernel) ⟨Nat.le_of_ble_eq_true rfl, Nat.le_of_ble_eq_true rfl⟩) hK hP (q0 := 0) (ci := 8) rfl rfl rfl rfl hl.1 rfl (Nat.le_of_ble_eq_true rfl) dX8_chance_56 ⟨Nat.zero_le _, Nat.zero_le _⟩) hS (fun r_56 S_56 H locs hp_56 hP hS => ?_)
        obtain ⟨er_56, e9, hI_56⟩ := hp_56
        have eS_56 := e9.symm; clear e9
        have fr_56 : (0 : Int) ≤ r_56 ∧ r_56 ≤ 1 := by rw [er_56]; exact b2_b
        have k_56 : r_56 = 0 := er_56.trans (b2_f (by decide))
        refine zi_if_eq (tgt := 74) hx hb ⟨by omega, by omega⟩ dX8_chance_59 (by decide) (fun c_59 => ?_) (fun c_59 => ?_)
        · refine zi_iconst hx hb dX8_chance_74 ?_
          exact zr_wi (T := S_56) hx hb hr hlocks dX8_chance_75 hP hS (by exact ⟨pub_no hkk (by decide) (SM.rf) eS_56, hI_56⟩)
        · exact absurd c_59 (by omega)
    · refine lv_iload_n hx hb dX8_chance_17 rfl (lv_at hl 2 rfl) ?_
      refine lv_iload_n hx hb dX8_chance_18 rfl (lv_at hl 3 rfl) ?_
      refine zi_iadd hx hb dX8_chance_19 ?_
      refine zi_sipush hx hb dX8_chance_20 (by decide) ?_
      refine zi_icmp_gt (tgt := 30) hx hb ⟨by omega, by omega⟩ ⟨by decide, by decide⟩ dX8_chance_23 (by decide) (fun c_23 => ?_) (fun c_23 => ?_)
      · refine zi_iconst hx hb dX8_chance_30 ?_
        refine lv_istore (lv' := [(5, .int (zi 0)), (0, .ref (bd 0)), (1, .int (zi x0)), (2, .int (zi x1)), (3, .int (zi x2)), (4, .int (zi x3))]) hx hb dX8_chance_31 hl (by decide) rfl (fun ls hl => ?_)
        refine lv_aload_n hx hb dX8_chance_33 rfl (lv_at hl 1 rfl) ?_
        refine lv_aload_n hx hb dX8_chance_34 rfl (lv_at hl 1 rfl) ?_
        refine lv_iload_n hx hb dX8_chance_35 rfl (lv_at hl 2 rfl) ?_
        refine zk_r (zc_V (As := [.int (zi x0)]) (rest := [.ref (bd 0)]) ⟨hx, hb, hml, hown, hts⟩ (ct_X8_isBody l D cI cZ cJ bd S hI x0 ⟨by omega, by omega⟩) (cwV 1 hts gX8_chance_X8_isBody rfl rfl rfl (by decide +kernel) ⟨Nat.le_of_ble_eq_true rfl, Nat.le_of_ble_eq_true rfl⟩) hK hP (q0 := 0) (ci := 8) rfl rfl rfl rfl hl.1 rfl (Nat.le_of_ble_eq_true rfl) dX8_chance_36 ⟨Nat.zero_le _, Nat.zero_le _⟩) ?_
        refine zi_top (fun (r_36 : Int) (er_36 : r_36 = b2 (0 ≤ x0 ∧ x0 < S 11 0)) => ?_)
        have fr_36 : (0 : Int) ≤ r_36 ∧ r_36 ≤ 1 := by rw [er_36]; exact b2_b
        have fr_361 : (r_36 = 1 ∧ (0 ≤ x0 ∧ x0 < S 11 0)) ∨ (r_36 = 0 ∧ ¬ (0 ≤ x0 ∧ x0 < S 11 0)) := by rw [er_36]; exact b2_or _
        refine zi_if_ne (tgt := 46) hx hb ⟨by omega, by omega⟩ dX8_chance_39 (by decide) (fun c_39 => ?_) (fun c_39 => ?_)
        · refine lv_iload hx hb dX8_chance_46 (lv_at hl 0 rfl) ?_
          refine zi_if_eq (tgt := 55) hx hb ⟨by decide, by decide⟩ dX8_chance_48 (by decide) (fun c_48 => ?_) (fun c_48 => ?_)
          · refine zi_iconst hx hb dX8_chance_55 ?_
            have hkk : (kM_chance S x0 x1 x2 x3) = 2 := by rw [kM_chance, cif_f (by omega), cif_t (by omega)]
            refine zk_wi (zc_V (As := [.int (zi 2)]) (rest := []) ⟨hx, hb, hml, hown, hts⟩ (ct_X8_can l D cI cZ cJ bd S hI hdis 2 ⟨by decide, by decide⟩ (by omega) (by omega)) (cwV 1 hts gX8_chance_X8_can rfl rfl rfl (by decide +kernel) ⟨Nat.le_of_ble_eq_true rfl, Nat.le_of_ble_eq_true rfl⟩) hK hP (q0 := 0) (ci := 8) rfl rfl rfl rfl hl.1 rfl (Nat.le_of_ble_eq_true rfl) dX8_chance_56 ⟨Nat.zero_le _, Nat.zero_le _⟩) hS (fun r_56 S_56 H locs hp_56 hP hS => ?_)
            obtain ⟨er_56, e9, hI_56⟩ := hp_56
            have eS_56 := e9.symm; clear e9
            have fr_56 : (0 : Int) ≤ r_56 ∧ r_56 ≤ 1 := by rw [er_56]; exact b2_b
            have k_56 : r_56 = 0 := er_56.trans (b2_f (by decide))
            refine zi_if_eq (tgt := 74) hx hb ⟨by omega, by omega⟩ dX8_chance_59 (by decide) (fun c_59 => ?_) (fun c_59 => ?_)
            · refine zi_iconst hx hb dX8_chance_74 ?_
              exact zr_wi (T := S_56) hx hb hr hlocks dX8_chance_75 hP hS (by exact ⟨pub_no hkk (by decide) (SM.rf) eS_56, hI_56⟩)
            · exact absurd c_59 (by omega)
          · refine zi_iconst hx hb dX8_chance_51 ?_
            refine lv_goto (tgt := 56) hx hb dX8_chance_52 (by decide) ?_
            have hkk : (kM_chance S x0 x1 x2 x3) = 0 := by rw [kM_chance, cif_f (by omega), cif_f (by omega)]
            refine zk_wi (zc_V (As := [.int (zi 0)]) (rest := []) ⟨hx, hb, hml, hown, hts⟩ (ct_X8_can l D cI cZ cJ bd S hI hdis 0 ⟨by decide, by decide⟩ (by omega) (by omega)) (cwV 1 hts gX8_chance_X8_can rfl rfl rfl (by decide +kernel) ⟨Nat.le_of_ble_eq_true rfl, Nat.le_of_ble_eq_true rfl⟩) hK hP (q0 := 0) (ci := 8) rfl rfl rfl rfl hl.1 rfl (Nat.le_of_ble_eq_true rfl) dX8_chance_56 ⟨Nat.zero_le _, Nat.zero_le _⟩) hS (fun r_56 S_56 H locs hp_56 hP hS => ?_)
            obtain ⟨er_56, e9, hI_56⟩ := hp_56
            have eS_56 := e9.symm; clear e9
            have fr_56 : (0 : Int) ≤ r_56 ∧ r_56 ≤ 1 := by rw [er_56]; exact b2_b
            have k_56 : r_56 = 1 := er_56.trans (b2_t rfl)
            refine zi_if_eq (tgt := 74) hx hb ⟨by omega, by omega⟩ dX8_chance_59 (by decide) (fun c_59 => ?_) (fun c_59 => ?_)
            · exact absurd c_59 (by omega)
            · refine lv_aload_n hx hb dX8_chance_62 rfl (lv_at hl 1 rfl) ?_
              refine lv_iload_n hx hb dX8_chance_63 rfl (lv_at hl 2 rfl) ?_
              refine lv_iload_n hx hb dX8_chance_64 rfl (lv_at hl 3 rfl) ?_
              refine lv_iload_n hx hb dX8_chance_65 rfl (lv_at hl 4 rfl) ?_
              refine lv_iload hx hb dX8_chance_66 (lv_at hl 5 rfl) ?_
              refine zk_wi (zc_V (As := [.int (zi x0), .int (zi x1), .int (zi x2), .int (zi x3)]) (rest := []) ⟨hx, hb, hml, hown, hts⟩ (ct_X8_chanceOf l D cI cZ cJ bd S_56 hI_56 hdis x0 x1 x2 x3 ⟨by omega, by omega⟩ ⟨by omega, by omega⟩ ⟨by omega, by omega⟩ ⟨by omega, by omega⟩ (by omega) (by omega) (by omega) (by omega) (by omega) (by omega) (by omega) (by omega) (by rw [← eS_56]; exact accM_su hac (by decide) (by decide) (by decide))) (cwV 4 hts gX8_chance_X8_chanceOf rfl rfl rfl (by decide +kernel) ⟨Nat.le_of_ble_eq_true rfl, Nat.le_of_ble_eq_true rfl⟩) hK hP (q0 := 0) (ci := 8) rfl rfl rfl rfl hl.1 rfl (Nat.le_of_ble_eq_true rfl) dX8_chance_68 ⟨Nat.zero_le _, Nat.zero_le _⟩) hS (fun r_68 S_68 H locs hp_68 hP hS => ?_)
              obtain ⟨er_68, e9, hI_68⟩ := hp_68
              have eS_68 := e9.symm; clear e9
              refine lv_goto (tgt := 75) hx hb dX8_chance_71 (by decide) ?_
              exact zr_wi (T := S_68) hx hb hr hlocks dX8_chance_75 hP hS (by exact ⟨pub_ok hkk (by rw [er_68, ← eS_56]) (by rw [← eS_68, ← eS_56]; exact SM_ch), hI_68⟩)
        · refine zi_iconst hx hb dX8_chance_42 ?_
          refine lv_goto (tgt := 56) hx hb dX8_chance_43 (by decide) ?_
          have hkk : (kM_chance S x0 x1 x2 x3) = 1 := by rw [kM_chance, cif_t (by omega)]
          refine zk_wi (zc_V (As := [.int (zi 1)]) (rest := []) ⟨hx, hb, hml, hown, hts⟩ (ct_X8_can l D cI cZ cJ bd S hI hdis 1 ⟨by decide, by decide⟩ (by omega) (by omega)) (cwV 1 hts gX8_chance_X8_can rfl rfl rfl (by decide +kernel) ⟨Nat.le_of_ble_eq_true rfl, Nat.le_of_ble_eq_true rfl⟩) hK hP (q0 := 0) (ci := 8) rfl rfl rfl rfl hl.1 rfl (Nat.le_of_ble_eq_true rfl) dX8_chance_56 ⟨Nat.zero_le _, Nat.zero_le _⟩) hS (fun r_56 S_56 H locs hp_56 hP hS => ?_)
          obtain ⟨er_56, e9, hI_56⟩ := hp_56
          have eS_56 := e9.symm; clear e9
          have fr_56 : (0 : Int) ≤ r_56 ∧ r_56 ≤ 1 := by rw [er_56]; exact b2_b
          have k_56 : r_56 = 0 := er_56.trans (b2_f (by decide))
          refine zi_if_eq (tgt := 74) hx hb ⟨by omega, by omega⟩ dX8_chance_59 (by decide) (fun c_59 => ?_) (fun c_59 => ?_)
          · refine zi_iconst hx hb dX8_chance_74 ?_
            exact zr_wi (T := S_56) hx hb hr hlocks dX8_chance_75 hP hS (by exact ⟨pub_no hkk (by decide) (SM.rf) eS_56, hI_56⟩)
          · exact absurd c_59 (by omega)
      · refine zi_iconst hx hb dX8_chance_26 ?_
        refine lv_goto (tgt := 31) hx hb dX8_chance_27 (by decide) ?_
        refine lv_istore (lv' := [(5, .int (zi 1)), (0, .ref (bd 0)), (1, .int (zi x0)), (2, .int (zi x1)), (3, .int (zi x2)), (4, .int (zi x3))]) hx hb dX8_chance_31 hl (by decide) rfl (fun ls hl => ?_)
        refine lv_aload_n hx hb dX8_chance_33 rfl (lv_at hl 1 rfl) ?_
        refine lv_aload_n hx hb dX8_chance_34 rfl (lv_at hl 1 rfl) ?_
        refine lv_iload_n hx hb dX8_chance_35 rfl (lv_at hl 2 rfl) ?_
        refine zk_r (zc_V (As := [.int (zi x0)]) (rest := [.ref (bd 0)]) ⟨hx, hb, hml, hown, hts⟩ (ct_X8_isBody l D cI cZ cJ bd S hI x0 ⟨by omega, by omega⟩) (cwV 1 hts gX8_chance_X8_isBody rfl rfl rfl (by decide +kernel) ⟨Nat.le_of_ble_eq_true rfl, Nat.le_of_ble_eq_true rfl⟩) hK hP (q0 := 0) (ci := 8) rfl rfl rfl rfl hl.1 rfl (Nat.le_of_ble_eq_true rfl) dX8_chance_36 ⟨Nat.zero_le _, Nat.zero_le _⟩) ?_
        refine zi_top (fun (r_36 : Int) (er_36 : r_36 = b2 (0 ≤ x0 ∧ x0 < S 11 0)) => ?_)
        have fr_36 : (0 : Int) ≤ r_36 ∧ r_36 ≤ 1 := by rw [er_36]; exact b2_b
        have fr_361 : (r_36 = 1 ∧ (0 ≤ x0 ∧ x0 < S 11 0)) ∨ (r_36 = 0 ∧ ¬ (0 ≤ x0 ∧ x0 < S 11 0)) := by rw [er_36]; exact b2_or _
        refine zi_if_ne (tgt := 46) hx hb ⟨by omega, by omega⟩ dX8_chance_39 (by decide) (fun c_39 => ?_) (fun c_39 => ?_)
        · refine lv_iload hx hb dX8_chance_46 (lv_at hl 0 rfl) ?_
          refine zi_if_eq (tgt := 55) hx hb ⟨by decide, by decide⟩ dX8_chance_48 (by decide) (fun c_48 => ?_) (fun c_48 => ?_)
          · refine zi_iconst hx hb dX8_chance_55 ?_
            have hkk : (kM_chance S x0 x1 x2 x3) = 2 := by rw [kM_chance, cif_f (by omega), cif_t (by omega)]
            refine zk_wi (zc_V (As := [.int (zi 2)]) (rest := []) ⟨hx, hb, hml, hown, hts⟩ (ct_X8_can l D cI cZ cJ bd S hI hdis 2 ⟨by decide, by decide⟩ (by omega) (by omega)) (cwV 1 hts gX8_chance_X8_can rfl rfl rfl (by decide +kernel) ⟨Nat.le_of_ble_eq_true rfl, Nat.le_of_ble_eq_true rfl⟩) hK hP (q0 := 0) (ci := 8) rfl rfl rfl rfl hl.1 rfl (Nat.le_of_ble_eq_true rfl) dX8_chance_56 ⟨Nat.zero_le _, Nat.zero_le _⟩) hS (fun r_56 S_56 H locs hp_56 hP hS => ?_)
            obtain ⟨er_56, e9, hI_56⟩ := hp_56
            have eS_56 := e9.symm; clear e9
            have fr_56 : (0 : Int) ≤ r_56 ∧ r_56 ≤ 1 := by rw [er_56]; exact b2_b
            have k_56 : r_56 = 0 := er_56.trans (b2_f (by decide))
            refine zi_if_eq (tgt := 74) hx hb ⟨by omega, by omega⟩ dX8_chance_59 (by decide) (fun c_59 => ?_) (fun c_59 => ?_)
            · refine zi_iconst hx hb dX8_chance_74 ?_
              exact zr_wi (T := S_56) hx hb hr hlocks dX8_chance_75 hP hS (by exact ⟨pub_no hkk (by decide) (SM.rf) eS_56, hI_56⟩)
            · exact absurd c_59 (by omega)
          · refine zi_iconst hx hb dX8_chance_51 ?_
            refine lv_goto (tgt := 56) hx hb dX8_chance_52 (by decide) ?_
            have hkk : (kM_chance S x0 x1 x2 x3) = 0 := by rw [kM_chance, cif_f (by omega), cif_f (by omega)]
            refine zk_wi (zc_V (As := [.int (zi 0)]) (rest := []) ⟨hx, hb, hml, hown, hts⟩ (ct_X8_can l D cI cZ cJ bd S hI hdis 0 ⟨by decide, by decide⟩ (by omega) (by omega)) (cwV 1 hts gX8_chance_X8_can rfl rfl rfl (by decide +kernel) ⟨Nat.le_of_ble_eq_true rfl, Nat.le_of_ble_eq_true rfl⟩) hK hP (q0 := 0) (ci := 8) rfl rfl rfl rfl hl.1 rfl (Nat.le_of_ble_eq_true rfl) dX8_chance_56 ⟨Nat.zero_le _, Nat.zero_le _⟩) hS (fun r_56 S_56 H locs hp_56 hP hS => ?_)
            obtain ⟨er_56, e9, hI_56⟩ := hp_56
            have eS_56 := e9.symm; clear e9
            have fr_56 : (0 : Int) ≤ r_56 ∧ r_56 ≤ 1 := by rw [er_56]; exact b2_b
            have k_56 : r_56 = 1 := er_56.trans (b2_t rfl)
            refine zi_if_eq (tgt := 74) hx hb ⟨by omega, by omega⟩ dX8_chance_59 (by decide) (fun c_59 => ?_) (fun c_59 => ?_)
            · exact absurd c_59 (by omega)
            · refine lv_aload_n hx hb dX8_chance_62 rfl (lv_at hl 1 rfl) ?_
              refine lv_iload_n hx hb dX8_chance_63 rfl (lv_at hl 2 rfl) ?_
              refine lv_iload_n hx hb dX8_chance_64 rfl (lv_at hl 3 rfl) ?_
              refine lv_iload_n hx hb dX8_chance_65 rfl (lv_at hl 4 rfl) ?_
              refine lv_iload hx hb dX8_chance_66 (lv_at hl 5 rfl) ?_
              refine zk_wi (zc_V (As := [.int (zi x0), .int (zi x1), .int (zi x2), .int (zi x3)]) (rest := []) ⟨hx, hb, hml, hown, hts⟩ (ct_X8_chanceOf l D cI cZ cJ bd S_56 hI_56 hdis x0 x1 x2 x3 ⟨by omega, by omega⟩ ⟨by omega, by omega⟩ ⟨by omega, by omega⟩ ⟨by omega, by omega⟩ (by omega) (by omega) (by omega) (by omega) (by omega) (by omega) (by omega) (by omega) (by rw [← eS_56]; exact accM_su hac (by decide) (by decide) (by decide))) (cwV 4 hts gX8_chance_X8_chanceOf rfl rfl rfl (by decide +kernel) ⟨Nat.le_of_ble_eq_true rfl, Nat.le_of_ble_eq_true rfl⟩) hK hP (q0 := 0) (ci := 8) rfl rfl rfl rfl hl.1 rfl (Nat.le_of_ble_eq_true rfl) dX8_chance_68 ⟨Nat.zero_le _, Nat.zero_le _⟩) hS (fun r_68 S_68 H locs hp_68 hP hS => ?_)
              obtain ⟨er_68, e9, hI_68⟩ := hp_68
              have eS_68 := e9.symm; clear e9
              refine lv_goto (tgt := 75) hx hb dX8_chance_71 (by decide) ?_
              exact zr_wi (T := S_68) hx hb hr hlocks dX8_chance_75 hP hS (by exact ⟨pub_ok hkk (by rw [er_68, ← eS_56]) (by rw [← eS_68, ← eS_56]; exact SM_ch), hI_68⟩)
        · refine zi_iconst hx hb dX8_chance_42 ?_
          refine lv_goto (tgt := 56) hx hb dX8_chance_43 (by decide) ?_
          have hkk : (kM_chance S x0 x1 x2 x3) = 1 := by rw [kM_chance, cif_t (by omega)]
          refine zk_wi (zc_V (As := [.int (zi 1)]) (rest := []) ⟨hx, hb, hml, hown, hts⟩ (ct_X8_can l D cI cZ cJ bd S hI hdis 1 ⟨by decide, by decide⟩ (by omega) (by omega)) (cwV 1 hts gX8_chance_X8_can rfl rfl rfl (by decide +kernel) ⟨Nat.le_of_ble_eq_true rfl, Nat.le_of_ble_eq_true rfl⟩) hK hP (q0 := 0) (ci := 8) rfl rfl rfl rfl hl.1 rfl (Nat.le_of_ble_eq_true rfl) dX8_chance_56 ⟨Nat.zero_le _, Nat.zero_le _⟩) hS (fun r_56 S_56 H locs hp_56 hP hS => ?_)
          obtain ⟨er_56, e9, hI_56⟩ := hp_56
          have eS_56 := e9.symm; clear e9
          have fr_56 : (0 : Int) ≤ r_56 ∧ r_56 ≤ 1 := by rw [er_56]; exact b2_b
          have k_56 : r_56 = 0 := er_56.trans (b2_f (by decide))
          refine zi_if_eq (tgt := 74) hx hb ⟨by omega, by omega⟩ dX8_chance_59 (by decide) (fun c_59 => ?_) (fun c_59 => ?_)
          · refine zi_iconst hx hb dX8_chance_74 ?_
            exact zr_wi (T := S_56) hx hb hr hlocks dX8_chance_75 hP hS (by exact ⟨pub_no hkk (by decide) (SM.rf) eS_56, hI_56⟩)
          · exact absurd c_59 (by omega)

noncomputable def kM_family (S : ZS) (x0 x1 : Int) : Int := cif (¬ (0 ≤ x0 ∧ x0 < S 11 0)) 1 (cif (¬ (0 ≤ x1 ∧ x1 ≤ 90)) 2 (0))
abbrev rmct_X8_family : Room := { frames := 4, cells := 0, slots := 0, locals := 91 }
set_option maxHeartbeats 4000000 in
set_option maxRecDepth 100000 in
theorem ct_X8_family (l : Launch) (D : va_G) (cI cZ cJ : ClassId) (bd : Nat → Nat) (S : ZS) (hI : MI S) (hdis : mDis bd) (x0 x1 : Int) (hx0 : ir x0) (hx1 : ir x1)  : Met l yX8_family wsX8_family rmct_X8_family (zP D cI cZ cJ (mW cI cZ bd S) [.ref (bd 0), .int (zi x0), .int (zi x1)]) (zWi D (mW cI cZ bd) (mA bd) (fun r T => pubQ S (kM_family S x0 x1) (rcM x1 (su S 31 (fun _ => 0)) 30 x0) (fun P => P) r T ∧ MI T)) 0 0 (mA bd) := by
  refine Met.ofW (cc := cX8_family) (maxL := 3) (ret := (some .int)) (by decide) rfl ?_
  intro p e s m args below meth c s₁ B hml hv
  obtain ⟨rfl, hP, hK⟩ := hv
  have hx := B.exec
  have hb := B.bytes
  have hr := B.returns
  have hts := atoms_spec (ws := wsX8_family) B.pre
  have hown : s.vm.findClass RX8 = some m.cls := findClass_of_methodNamed B.named
  have hlocks := B.notSynchronized
  have hl := lv_entry ([.ref (bd 0), .int (zi x0), .int (zi x1)]) (n := 3) (Nat.le_of_ble_eq_true rfl)
  rw [lg_entry_eq]
  generalize (lg_sl ([.ref (bd 0), .int (zi x0), .int (zi x1)]) ++ List.replicate (3 - (lg_sl ([.ref (bd 0), .int (zi x0), .int (zi x1)])).length) Slot.unset).toArray = ls at hl ⊢
  have hl : lv_has ls 3 [(0, .ref (bd 0)), (1, .int (zi x0)), (2, .int (zi x1))] := hl
  have hS : va_S (mA bd) s.heap s.heap [] := va_S.rf
  show W p l e rmct_X8_family s m ([.ref (bd 0), .int (zi x0), .int (zi x1)] : List Value).toArray below meth c s.heap [] 0 0 (MQ below (zWi D (mW cI cZ bd) (mA bd) (fun r T => pubQ S (kM_family S x0 x1) (rcM x1 (su S 31 (fun _ => 0)) 30 x0) (fun P => P) r T ∧ MI T)) ([.ref (bd 0), .int (zi x0), .int (zi x1)] : List Value).toArray s 0 0 (mA bd)) (F0 m 0 ls [])
  have hc0 : (0 : Int) ≤ S 11 0 ∧ S 11 0 ≤ 20 := hI 11 0
  have hc6 : (0 : Int) ≤ S 6 0 ∧ S 6 0 ≤ 60 := hI 6 0
  refine lv_aload_n hx hb dX8_family_0 rfl (lv_at hl 0 rfl) ?_
  refine lv_aload_n hx hb dX8_family_1 rfl (lv_at hl 0 rfl) ?_
  refine lv_iload_n hx hb dX8_family_2 rfl (lv_at hl 1 rfl) ?_
  refine zk_r (zc_V (As := [.int (zi x0)]) (rest := [.ref (bd 0)]) ⟨hx, hb, hml, hown, hts⟩ (ct_X8_isBody l D cI cZ cJ bd S hI x0 ⟨by omega, by omega⟩) (cwV 1 hts gX8_family_X8_isBody rfl rfl rfl (by decide +kernel) ⟨Nat.le_of_ble_eq_true rfl, Nat.le_of_ble_eq_true rfl⟩) hK hP (q0 := 0) (ci := 8) rfl rfl rfl rfl hl.1 rfl (Nat.le_of_ble_eq_true rfl) dX8_family_3 ⟨Nat.zero_le _, Nat.zero_le _⟩) ?_
  refine zi_top (fun (r_3 : Int) (er_3 : r_3 = b2 (0 ≤ x0 ∧ x0 < S 11 0)) => ?_)
  have fr_3 : (0 : Int) ≤ r_3 ∧ r_3 ≤ 1 := by rw [er_3]; exact b2_b
  have fr_31 : (r_3 = 1 ∧ (0 ≤ x0 ∧ x0 < S 11 0)) ∨ (r_3 = 0 ∧ ¬ (0 ≤ x0 ∧ x0 < S 11 0)) := by rw [er_3]; exact b2_or _
  refine zi_if_ne (tgt := 13) hx hb ⟨by omega, by omega⟩ dX8_family_6 (by decide) (fun c_6 => ?_) (fun c_6 => ?_)
  · refine lv_iload_n hx hb dX8_family_13 rfl (lv_at hl 2 rfl) ?_
    refine zi_iconst hx hb dX8_family_14 ?_
    refine zi_bipush hx hb dX8_family_15 (by decide) ?_
    refine zk_r (zc_S (As := [.int (zi x1), .int (zi 0), .int (zi 90)]) (rest := [.ref (bd 0)]) ⟨hx, hb, hml, hown, hts⟩ (ct_X8_isIn l D cI cZ cJ x1 0 90 ⟨by omega, by omega⟩ ⟨by decide, by decide⟩ ⟨by decide, by decide⟩) (va_cwS 3 hts gX8_family_X8_isIn rfl rfl rfl (by decide +kernel) ⟨Nat.le_of_ble_eq_true rfl, Nat.le_of_ble_eq_true rfl⟩) hK va_P_nil rfl hl.1 rfl (Nat.le_of_ble_eq_true rfl) dX8_family_17 ⟨Nat.zero_le _, Nat.zero_le _⟩) ?_
    refine zi_top (fun (r_17 : Int) (er_17 : r_17 = b2 (0 ≤ x1 ∧ x1 ≤ 90)) => ?_)
    have fr_17 : (0 : Int) ≤ r_17 ∧ r_17 ≤ 1 := by rw [er_17]; exact b2_b
    have fr_171 : (r_17 = 1 ∧ (0 ≤ x1 ∧ x1 ≤ 90)) ∨ (r_17 = 0 ∧ ¬ (0 ≤ x1 ∧ x1 ≤ 90)) := by rw [er_17]; exact b2_or _
    refine zi_if_eq (tgt := 27) hx hb ⟨by omega, by omega⟩ dX8_family_20 (by decide) (fun c_20 => ?_) (fun c_20 => ?_)
    · refine zi_iconst hx hb dX8_family_27 ?_
      have hkk : (kM_family S x0 x1) = 2 := by rw [kM_family, cif_f (by omega), cif_t (by omega)]
      refine zk_wi (zc_V (As := [.int (zi 2)]) (rest := []) ⟨hx, hb, hml, hown, hts⟩ (ct_X8_can l D cI cZ cJ bd S hI hdis 2 ⟨by decide, by decide⟩ (by omega) (by omega)) (cwV 1 hts gX8_family_X8_can rfl rfl rfl (by decide +kernel) ⟨Nat.le_of_ble_eq_true rfl, Nat.le_of_ble_eq_true rfl⟩) hK hP (q0 := 0) (ci := 8) rfl rfl rfl rfl hl.1 rfl (Nat.le_of_ble_eq_true rfl) dX8_family_28 ⟨Nat.zero_le _, Nat.zero_le _⟩) hS (fun r_28 S_28 H locs hp_28 hP hS => ?_)
      obtain ⟨er_28, e9, hI_28⟩ := hp_28
      have eS_28 := e9.symm; clear e9
      have fr_28 : (0 : Int) ≤ r_28 ∧ r_28 ≤ 1 := by rw [er_28]; exact b2_b
      have k_28 : r_28 = 0 := er_28.trans (b2_f (by decide))
      refine zi_if_eq (tgt := 43) hx hb ⟨by omega, by omega⟩ dX8_family_31 (by decide) (fun c_31 => ?_) (fun c_31 => ?_)
      · refine zi_iconst hx hb dX8_family_43 ?_
        exact zr_wi (T := S_28) hx hb hr hlocks dX8_family_44 hP hS (by exact ⟨pub_no hkk (by decide) (SM.rf) eS_28, hI_28⟩)
      · exact absurd c_31 (by omega)
    · refine zi_iconst hx hb dX8_family_23 ?_
      refine lv_goto (tgt := 28) hx hb dX8_family_24 (by decide) ?_
      have hkk : (kM_family S x0 x1) = 0 := by rw [kM_family, cif_f (by omega), cif_f (by omega)]
      refine zk_wi (zc_V (As := [.int (zi 0)]) (rest := []) ⟨hx, hb, hml, hown, hts⟩ (ct_X8_can l D cI cZ cJ bd S hI hdis 0 ⟨by decide, by decide⟩ (by omega) (by omega)) (cwV 1 hts gX8_family_X8_can rfl rfl rfl (by decide +kernel) ⟨Nat.le_of_ble_eq_true rfl, Nat.le_of_ble_eq_true rfl⟩) hK hP (q0 := 0) (ci := 8) rfl rfl rfl rfl hl.1 rfl (Nat.le_of_ble_eq_true rfl) dX8_family_28 ⟨Nat.zero_le _, Nat.zero_le _⟩) hS (fun r_28 S_28 H locs hp_28 hP hS => ?_)
      obtain ⟨er_28, e9, hI_28⟩ := hp_28
      have eS_28 := e9.symm; clear e9
      have fr_28 : (0 : Int) ≤ r_28 ∧ r_28 ≤ 1 := by rw [er_28]; exact b2_b
      have k_28 : r_28 = 1 := er_28.trans (b2_t rfl)
      refine zi_if_eq (tgt := 43) hx hb ⟨by omega, by omega⟩ dX8_family_31 (by decide) (fun c_31 => ?_) (fun c_31 => ?_)
      · exact absurd c_31 (by omega)
      · refine lv_aload_n hx hb dX8_family_34 rfl (lv_at hl 0 rfl) ?_
        refine lv_iload_n hx hb dX8_family_35 rfl (lv_at hl 1 rfl) ?_
        refine lv_iload_n hx hb dX8_family_36 rfl (lv_at hl 2 rfl) ?_
        refine zk_wi (zc_V (As := [.int (zi x0), .int (zi x1)]) (rest := []) ⟨hx, hb, hml, hown, hts⟩ (ct_X8_familyOf l D cI cZ cJ bd S_28 hI_28 hdis x0 x1 ⟨by omega, by omega⟩ ⟨by omega, by omega⟩ (by omega) (by omega) (by omega) (by omega)) (cwV 2 hts gX8_family_X8_familyOf rfl rfl rfl (by decide +kernel) ⟨Nat.le_of_ble_eq_true rfl, Nat.le_of_ble_eq_true rfl⟩) hK hP (q0 := 0) (ci := 8) rfl rfl rfl rfl hl.1 rfl (Nat.le_of_ble_eq_true rfl) dX8_family_37 ⟨Nat.zero_le _, Nat.zero_le _⟩) hS (fun r_37 S_37 H locs hp_37 hP hS => ?_)
        obtain ⟨er_37, e9, hI_37⟩ := hp_37
        have eS_37 := e9.symm; clear e9
        refine lv_goto (tgt := 44) hx hb dX8_family_40 (by decide) ?_
        exact zr_wi (T := S_37) hx hb hr hlocks dX8_family_44 hP hS (by exact ⟨pub_ok hkk (by rw [er_37, ← eS_28]) (by rw [← eS_37, ← eS_28]; exact SM_rc), hI_37⟩)
  · refine zi_iconst hx hb dX8_family_9 ?_
    refine lv_goto (tgt := 28) hx hb dX8_family_10 (by decide) ?_
    have hkk : (kM_family S x0 x1) = 1 := by rw [kM_family, cif_t (by omega)]
    refine zk_wi (zc_V (As := [.int (zi 1)]) (rest := []) ⟨hx, hb, hml, hown, hts⟩ (ct_X8_can l D cI cZ cJ bd S hI hdis 1 ⟨by decide, by decide⟩ (by omega) (by omega)) (cwV 1 hts gX8_family_X8_can rfl rfl rfl (by decide +kernel) ⟨Nat.le_of_ble_eq_true rfl, Nat.le_of_ble_eq_true rfl⟩) hK hP (q0 := 0) (ci := 8) rfl rfl rfl rfl hl.1 rfl (Nat.le_of_ble_eq_true rfl) dX8_family_28 ⟨Nat.zero_le _, Nat.zero_le _⟩) hS (fun r_28 S_28 H locs hp_28 hP hS => ?_)
    obtain ⟨er_28, e9, hI_28⟩ := hp_28
    have eS_28 := e9.symm; clear e9
    have fr_28 : (0 : Int) ≤ r_28 ∧ r_28 ≤ 1 := by rw [er_28]; exact b2_b
    have k_28 : r_28 = 0 := er_28.trans (b2_f (by decide))
    refine zi_if_eq (tgt := 43) hx hb ⟨by omega, by omega⟩ dX8_family_31 (by decide) (fun c_31 => ?_) (fun c_31 => ?_)
    · refine zi_iconst hx hb dX8_family_43 ?_
      exact zr_wi (T := S_28) hx hb hr hlocks dX8_family_44 hP hS (by exact ⟨pub_no hkk (by decide) (SM.rf) eS_28, hI_28⟩)
    · exact absurd c_31 (by omega)

noncomputable def kM_turn (S : ZS) (x0 x1 : Int) : Int := cif (¬ (0 ≤ x0 ∧ x0 < S 11 0)) 1 (0)
abbrev rmct_X8_turn : Room := { frames := 4, cells := 0, slots := 0, locals := 90 }
set_option maxHeartbeats 4000000 in
set_option maxRecDepth 100000 in
theorem ct_X8_turn (l : Launch) (D : va_G) (cI cZ cJ : ClassId) (bd : Nat → Nat) (S : ZS) (hI : MI S) (hdis : mDis bd) (x0 x1 : Int) (hx0 : ir x0) (hx1 : ir x1) (hw1 : x1 = 0 ∨ x1 = 1) (hac : accM S) : Met l yX8_turn wsX8_turn rmct_X8_turn (zP D cI cZ cJ (mW cI cZ bd S) [.ref (bd 0), .int (zi x0), .int (zi x1)]) (zWi D (mW cI cZ bd) (mA bd) (fun r T => pubQ S (kM_turn S x0 x1) (tuM (su S 31 (fun _ => 0)) x0 x1) (fun P => P) r T ∧ MI T)) 0 0 (mA bd) := by
  refine Met.ofW (cc := cX8_turn) (maxL := 3) (ret := (some .int)) (by decide) rfl ?_
  intro p e s m args below meth c s₁ B hml hv
  obtain ⟨rfl, hP, hK⟩ := hv
  have hx := B.exec
  have hb := B.bytes
  have hr := B.returns
  have hts := atoms_spec (ws := wsX8_turn) B.pre
  have hown : s.vm.findClass RX8 = some m.cls := findClass_of_methodNamed B.named
  have hlocks := B.notSynchronized
  have hl := lv_entry ([.ref (bd 0), .int (zi x0), .int (zi x1)]) (n := 3) (Nat.le_of_ble_eq_true rfl)
  rw [lg_entry_eq]
  generalize (lg_sl ([.ref (bd 0), .int (zi x0), .int (zi x1)]) ++ List.replicate (3 - (lg_sl ([.ref (bd 0), .int (zi x0), .int (zi x1)])).length) Slot.unset).toArray = ls at hl ⊢
  have hl : lv_has ls 3 [(0, .ref (bd 0)), (1, .int (zi x0)), (2, .int (zi x1))] := hl
  have hS : va_S (mA bd) s.heap s.heap [] := va_S.rf
  show W p l e rmct_X8_turn s m ([.ref (bd 0), .int (zi x0), .int (zi x1)] : List Value).toArray below meth c s.heap [] 0 0 (MQ below (zWi D (mW cI cZ bd) (mA bd) (fun r T => pubQ S (kM_turn S x0 x1) (tuM (su S 31 (fun _ => 0)) x0 x1) (fun P => P) r T ∧ MI T)) ([.ref (bd 0), .int (zi x0), .int (zi x1)] : List Value).toArray s 0 0 (mA bd)) (F0 m 0 ls [])
  have hc0 : (0 : Int) ≤ S 11 0 ∧ S 11 0 ≤ 20 := hI 11 0
  have hc6 : (0 : Int) ≤ S 6 0 ∧ S 6 0 ≤ 60 := hI 6 0
  refine lv_aload_n hx hb dX8_turn_0 rfl (lv_at hl 0 rfl) ?_
  refine lv_aload_n hx hb dX8_turn_1 rfl (lv_at hl 0 rfl) ?_
  refine lv_iload_n hx hb dX8_turn_2 rfl (lv_at hl 1 rfl) ?_
  refine zk_r (zc_V (As := [.int (zi x0)]) (rest := [.ref (bd 0)]) ⟨hx, hb, hml, hown, hts⟩ (ct_X8_isBody l D cI cZ cJ bd S hI x0 ⟨by omega, by omega⟩) (cwV 1 hts gX8_turn_X8_isBody rfl rfl rfl (by decide +kernel) ⟨Nat.le_of_ble_eq_true rfl, Nat.le_of_ble_eq_true rfl⟩) hK hP (q0 := 0) (ci := 8) rfl rfl rfl rfl hl.1 rfl (Nat.le_of_ble_eq_true rfl) dX8_turn_3 ⟨Nat.zero_le _, Nat.zero_le _⟩) ?_
  refine zi_top (fun (r_3 : Int) (er_3 : r_3 = b2 (0 ≤ x0 ∧ x0 < S 11 0)) => ?_)
  have fr_3 : (0 : Int) ≤ r_3 ∧ r_3 ≤ 1 := by rw [er_3]; exact b2_b
  have fr_31 : (r_3 = 1 ∧ (0 ≤ x0 ∧ x0 < S 11 0)) ∨ (r_3 = 0 ∧ ¬ (0 ≤ x0 ∧ x0 < S 11 0)) := by rw [er_3]; exact b2_or _
  refine zi_if_eq (tgt := 13) hx hb ⟨by omega, by omega⟩ dX8_turn_6 (by decide) (fun c_6 => ?_) (fun c_6 => ?_)
  · refine zi_iconst hx hb dX8_turn_13 ?_
    have hkk : (kM_turn S x0 x1) = 1 := by rw [kM_turn, cif_t (by omega)]
    refine zk_wi (zc_V (As := [.int (zi 1)]) (rest := []) ⟨hx, hb, hml, hown, hts⟩ (ct_X8_can l D cI cZ cJ bd S hI hdis 1 ⟨by decide, by decide⟩ (by omega) (by omega)) (cwV 1 hts gX8_turn_X8_can rfl rfl rfl (by decide +kernel) ⟨Nat.le_of_ble_eq_true rfl, Nat.le_of_ble_eq_true rfl⟩) hK hP (q0 := 0) (ci := 8) rfl rfl rfl rfl hl.1 rfl (Nat.le_of_ble_eq_true rfl) dX8_turn_14 ⟨Nat.zero_le _, Nat.zero_le _⟩) hS (fun r_14 S_14 H locs hp_14 hP hS => ?_)
    obtain ⟨er_14, e9, hI_14⟩ := hp_14
    have eS_14 := e9.symm; clear e9
    have fr_14 : (0 : Int) ≤ r_14 ∧ r_14 ≤ 1 := by rw [er_14]; exact b2_b
    have k_14 : r_14 = 0 := er_14.trans (b2_f (by decide))
    refine zi_if_eq (tgt := 29) hx hb ⟨by omega, by omega⟩ dX8_turn_17 (by decide) (fun c_17 => ?_) (fun c_17 => ?_)
    · refine zi_iconst hx hb dX8_turn_29 ?_
      exact zr_wi (T := S_14) hx hb hr hlocks dX8_turn_30 hP hS (by exact ⟨pub_no hkk (by decide) (SM.rf) eS_14, hI_14⟩)
    · exact absurd c_17 (by omega)
  · refine zi_iconst hx hb dX8_turn_9 ?_
    refine lv_goto (tgt := 14) hx hb dX8_turn_10 (by decide) ?_
    have hkk : (kM_turn S x0 x1) = 0 := by rw [kM_turn, cif_f (by omega)]
    refine zk_wi (zc_V (As := [.int (zi 0)]) (rest := []) ⟨hx, hb, hml, hown, hts⟩ (ct_X8_can l D cI cZ cJ bd S hI hdis 0 ⟨by decide, by decide⟩ (by omega) (by omega)) (cwV 1 hts gX8_turn_X8_can rfl rfl rfl (by decide +kernel) ⟨Nat.le_of_ble_eq_true rfl, Nat.le_of_ble_eq_true rfl⟩) hK hP (q0 := 0) (ci := 8) rfl rfl rfl rfl hl.1 rfl (Nat.le_of_ble_eq_true rfl) dX8_turn_14 ⟨Nat.zero_le _, Nat.zero_le _⟩) hS (fun r_14 S_14 H locs hp_14 hP hS => ?_)
    obtain ⟨er_14, e9, hI_14⟩ := hp_14
    have eS_14 := e9.symm; clear e9
    have fr_14 : (0 : Int) ≤ r_14 ∧ r_14 ≤ 1 := by rw [er_14]; exact b2_b
    have k_14 : r_14 = 1 := er_14.trans (b2_t rfl)
    refine zi_if_eq (tgt := 29) hx hb ⟨by omega, by omega⟩ dX8_turn_17 (by decide) (fun c_17 => ?_) (fun c_17 => ?_)
    · exact absurd c_17 (by omega)
    · refine lv_aload_n hx hb dX8_turn_20 rfl (lv_at hl 0 rfl) ?_
      refine lv_iload_n hx hb dX8_turn_21 rfl (lv_at hl 1 rfl) ?_
      refine lv_iload_n hx hb dX8_turn_22 rfl (lv_at hl 2 rfl) ?_
      refine zk_wi (zc_V (As := [.int (zi x0), .int (zi x1)]) (rest := []) ⟨hx, hb, hml, hown, hts⟩ (ct_X8_turnOf l D cI cZ cJ bd S_14 hI_14 hdis x0 x1 ⟨by omega, by omega⟩ ⟨by omega, by omega⟩ (by omega) (by omega) (by omega) (by rw [← eS_14]; exact accM_su hac (by decide) (by decide) (by decide))) (cwV 2 hts gX8_turn_X8_turnOf rfl rfl rfl (by decide +kernel) ⟨Nat.le_of_ble_eq_true rfl, Nat.le_of_ble_eq_true rfl⟩) hK hP (q0 := 0) (ci := 8) rfl rfl rfl rfl hl.1 rfl (Nat.le_of_ble_eq_true rfl) dX8_turn_23 ⟨Nat.zero_le _, Nat.zero_le _⟩) hS (fun r_23 S_23 H locs hp_23 hP hS => ?_)
      obtain ⟨er_23, hsm_23, hI_23⟩ := hp_23
      refine lv_goto (tgt := 30) hx hb dX8_turn_26 (by decide) ?_
      exact zr_wi (T := S_23) hx hb hr hlocks dX8_turn_30 hP hS (by exact ⟨pub_ok hkk (by rw [er_23, ← eS_14]) (by rw [← eS_14] at hsm_23; exact hsm_23), hI_23⟩)

noncomputable def kM_families (S : ZS) (x0 : Int) : Int := cif (¬ (0 ≤ x0 ∧ x0 ≤ 90)) 1 (0)
theorem in_X8_families_8 : ∀ w ∈ wsX80, w ∈ wsX8_families := by decide +kernel
theorem lk_X8_families_95 : Cond.fieldLink RX8 95 "PlanetoidDeskModel" "bodies" "I" ∈ wsX8_families := by decide +kernel
theorem lk_X8_families_77 : Cond.fieldLink RX8 77 "PlanetoidDeskModel" "reached" "[I" ∈ wsX8_families := by decide +kernel
abbrev rmct_X8_families : Room := { frames := 3, cells := 0, slots := 0, locals := 69 }
set_option maxHeartbeats 4000000 in
set_option maxRecDepth 100000 in
theorem ct_X8_families (l : Launch) (D : va_G) (cI cZ cJ : ClassId) (bd : Nat → Nat) (S : ZS) (hI : MI S) (hdis : mDis bd) (x0 : Int) (hx0 : ir x0)  : Met l yX8_families wsX8_families rmct_X8_families (zP D cI cZ cJ (mW cI cZ bd S) [.ref (bd 0), .int (zi x0)]) (zWi D (mW cI cZ bd) (mA bd) (fun r T => pubQ S (kM_families S x0) (itr (fun k acc => if rcM x0 (su S 31 (fun _ => 0)) 30 k = k then acc + 1 else acc) (S 11 0).toNat 0 0) (fun P => P) r T ∧ MI T)) 0 0 (mA bd) := by
  refine Met.ofW (cc := cX8_families) (maxL := 4) (ret := (some .int)) (by decide) rfl ?_
  intro p e s m args below meth c s₁ B hml hv
  obtain ⟨rfl, hP, hK⟩ := hv
  have hx := B.exec
  have hb := B.bytes
  have hr := B.returns
  have hts := atoms_spec (ws := wsX8_families) B.pre
  have hown : s.vm.findClass RX8 = some m.cls := findClass_of_methodNamed B.named
  have hlocks := B.notSynchronized
  have hl := lv_entry ([.ref (bd 0), .int (zi x0)]) (n := 4) (Nat.le_of_ble_eq_true rfl)
  rw [lg_entry_eq]
  generalize (lg_sl ([.ref (bd 0), .int (zi x0)]) ++ List.replicate (4 - (lg_sl ([.ref (bd 0), .int (zi x0)])).length) Slot.unset).toArray = ls at hl ⊢
  have hl : lv_has ls 4 [(0, .ref (bd 0)), (1, .int (zi x0))] := hl
  have hS : va_S (mA bd) s.heap s.heap [] := va_S.rf
  show W p l e rmct_X8_families s m ([.ref (bd 0), .int (zi x0)] : List Value).toArray below meth c s.heap [] 0 0 (MQ below (zWi D (mW cI cZ bd) (mA bd) (fun r T => pubQ S (kM_families S x0) (itr (fun k acc => if rcM x0 (su S 31 (fun _ => 0)) 30 k = k then acc + 1 else acc) (S 11 0).toNat 0 0) (fun P => P) r T ∧ MI T)) ([.ref (bd 0), .int (zi x0)] : List Value).toArray s 0 0 (mA bd)) (F0 m 0 ls [])
  have hc0 : (0 : Int) ≤ S 11 0 ∧ S 11 0 ≤ 20 := hI 11 0
  have hc6 : (0 : Int) ≤ S 6 0 ∧ S 6 0 ≤ 60 := hI 6 0
  refine lv_aload_n hx hb dX8_families_0 rfl (lv_at hl 0 rfl) ?_
  refine lv_iload_n hx hb dX8_families_1 rfl (lv_at hl 1 rfl) ?_
  refine zi_iconst hx hb dX8_families_2 ?_
  refine zi_bipush hx hb dX8_families_3 (by decide) ?_
  refine zk_r (zc_S (As := [.int (zi x0), .int (zi 0), .int (zi 90)]) (rest := [.ref (bd 0)]) ⟨hx, hb, hml, hown, hts⟩ (ct_X8_isIn l D cI cZ cJ x0 0 90 ⟨by omega, by omega⟩ ⟨by decide, by decide⟩ ⟨by decide, by decide⟩) (va_cwS 3 hts gX8_families_X8_isIn rfl rfl rfl (by decide +kernel) ⟨Nat.le_of_ble_eq_true rfl, Nat.le_of_ble_eq_true rfl⟩) hK va_P_nil rfl hl.1 rfl (Nat.le_of_ble_eq_true rfl) dX8_families_5 ⟨Nat.zero_le _, Nat.zero_le _⟩) ?_
  refine zi_top (fun (r_5 : Int) (er_5 : r_5 = b2 (0 ≤ x0 ∧ x0 ≤ 90)) => ?_)
  have fr_5 : (0 : Int) ≤ r_5 ∧ r_5 ≤ 1 := by rw [er_5]; exact b2_b
  have fr_51 : (r_5 = 1 ∧ (0 ≤ x0 ∧ x0 ≤ 90)) ∨ (r_5 = 0 ∧ ¬ (0 ≤ x0 ∧ x0 ≤ 90)) := by rw [er_5]; exact b2_or _
  refine zi_if_eq (tgt := 15) hx hb ⟨by omega, by omega⟩ dX8_families_8 (by decide) (fun c_8 => ?_) (fun c_8 => ?_)
  · refine zi_iconst hx hb dX8_families_15 ?_
    have hkk : (kM_families S x0) = 1 := by rw [kM_families, cif_t (by omega)]
    refine zk_wi (zc_V (As := [.int (zi 1)]) (rest := []) ⟨hx, hb, hml, hown, hts⟩ (ct_X8_can l D cI cZ cJ bd S hI hdis 1 ⟨by decide, by decide⟩ (by omega) (by omega)) (cwV 1 hts gX8_families_X8_can rfl rfl rfl (by decide +kernel) ⟨Nat.le_of_ble_eq_true rfl, Nat.le_of_ble_eq_true rfl⟩) hK hP (q0 := 0) (ci := 8) rfl rfl rfl rfl hl.1 rfl (Nat.le_of_ble_eq_true rfl) dX8_families_16 ⟨Nat.zero_le _, Nat.zero_le _⟩) hS (fun r_16 S_16 H locs hp_16 hP hS => ?_)
    obtain ⟨er_16, e9, hI_16⟩ := hp_16
    have eS_16 := e9.symm; clear e9
    have fr_16 : (0 : Int) ≤ r_16 ∧ r_16 ≤ 1 := by rw [er_16]; exact b2_b
    have k_16 : r_16 = 0 := er_16.trans (b2_f (by decide))
    refine zi_if_ne (tgt := 24) hx hb ⟨by omega, by omega⟩ dX8_families_19 (by decide) (fun c_19 => ?_) (fun c_19 => ?_)
    · exact absurd c_19 (by omega)
    · refine zi_iconst hx hb dX8_families_22 ?_
      exact zr_wi (T := S_16) hx hb hr hlocks dX8_families_23 hP hS (by exact ⟨pub_no hkk (by decide) (SM.rf) eS_16, hI_16⟩)
  · refine zi_iconst hx hb dX8_families_11 ?_
    refine lv_goto (tgt := 16) hx hb dX8_families_12 (by decide) ?_
    have hkk : (kM_families S x0) = 0 := by rw [kM_families, cif_f (by omega)]
    refine zk_wi (zc_V (As := [.int (zi 0)]) (rest := []) ⟨hx, hb, hml, hown, hts⟩ (ct_X8_can l D cI cZ cJ bd S hI hdis 0 ⟨by decide, by decide⟩ (by omega) (by omega)) (cwV 1 hts gX8_families_X8_can rfl rfl rfl (by decide +kernel) ⟨Nat.le_of_ble_eq_true rfl, Nat.le_of_ble_eq_true rfl⟩) hK hP (q0 := 0) (ci := 8) rfl rfl rfl rfl hl.1 rfl (Nat.le_of_ble_eq_true rfl) dX8_families_16 ⟨Nat.zero_le _, Nat.zero_le _⟩) hS (fun r_16 S_16 H locs hp_16 hP hS => ?_)
    obtain ⟨er_16, e9, hI_16⟩ := hp_16
    have eS_16 := e9.symm; clear e9
    have fr_16 : (0 : Int) ≤ r_16 ∧ r_16 ≤ 1 := by rw [er_16]; exact b2_b
    have k_16 : r_16 = 1 := er_16.trans (b2_t rfl)
    refine zi_if_ne (tgt := 24) hx hb ⟨by omega, by omega⟩ dX8_families_19 (by decide) (fun c_19 => ?_) (fun c_19 => ?_)
    · refine lv_aload_n hx hb dX8_families_24 rfl (lv_at hl 0 rfl) ?_
      refine lv_iload_n hx hb dX8_families_25 rfl (lv_at hl 1 rfl) ?_
      refine zk_wv (zc_V (As := [.int (zi x0)]) (rest := []) ⟨hx, hb, hml, hown, hts⟩ (ct_X8_reaches l D cI cZ cJ bd S_16 hI_16 hdis x0 ⟨by omega, by omega⟩ (by omega) (by omega)) (cwV 1 hts gX8_families_X8_reaches rfl rfl rfl (by decide +kernel) ⟨Nat.le_of_ble_eq_true rfl, Nat.le_of_ble_eq_true rfl⟩) hK hP (q0 := 0) (ci := 8) rfl rfl rfl rfl hl.1 rfl (Nat.le_of_ble_eq_true rfl) dX8_families_26 ⟨Nat.zero_le _, Nat.zero_le _⟩) hS (fun S_26 H locs hp_26 hP hS => ?_)
      obtain ⟨e9, hI_26⟩ := hp_26
      have eS_26 := e9.symm; clear e9
      refine zi_iconst hx hb dX8_families_29 ?_
      refine lv_istore_n (lv' := [(2, .int (zi 0)), (0, .ref (bd 0)), (1, .int (zi x0))]) hx hb dX8_families_30 rfl hl (by decide) rfl (fun ls hl => ?_)
      refine zi_iconst hx hb dX8_families_31 ?_
      have K_33 : ∀ (k : Nat) (n : Nat) (ac i : Int), (i + (n : Int) = S 11 0) → (0 ≤ i) → (itr (fun k acc => if rcM x0 (su S 31 (fun _ => 0)) 30 k = k then acc + 1 else acc) n i ac = itr (fun k acc => if rcM x0 (su S 31 (fun _ => 0)) 30 k = k then acc + 1 else acc) (S 11 0).toNat 0 0) → ((n : Int) < (k : Int)) → ∀ (ls : Array Slot), lv_has ls 4 [(0, .ref (bd 0)), (1, .int (zi x0)), (2, .int (zi ac)), (3, .int (zi i))] → W p l e rmct_X8_families s m ([.ref (bd 0), .int (zi x0)] : List Value).toArray below meth c H locs 0 0 (MQ below (zWi D (mW cI cZ bd) (mA bd) (fun r T => pubQ S (kM_families S x0) (itr (fun k acc => if rcM x0 (su S 31 (fun _ => 0)) 30 k = k then acc + 1 else acc) (S 11 0).toNat 0 0) (fun P => P) r T ∧ MI T)) ([.ref (bd 0), .int (zi x0)] : List Value).toArray s 0 0 (mA bd)) (F0 m 33 ls []) := by
        intro k
        induction k with
        | zero => intro n ac i h_n h_i h_R hk; exact absurd hk (by omega)
        | succ k ih_33 =>
          intro n ac i h_n h_i h_R hk ls hl
          refine lv_iload_n hx hb dX8_families_33 rfl (lv_at hl 3 rfl) ?_
          refine lv_aload_n hx hb dX8_families_34 rfl (lv_at hl 0 rfl) ?_
          refine va_get (D := D) (ci := 8) (v := .int (zi (S_26 11 0))) (C := RX8) (T := TX8) (N := 32) hx hb hts in_X8_families_8 hown hK.1 hP 0 rfl rfl 11 (by decide) (hts _ lk_X8_families_95) (fun _ h9 => h9) rfl dX8_families_35 ?_
          refine zi_is (S 11 0) (by rw [← eS_26, rc_n (r := 11) (by decide), ← eS_16] <;> rfl) ?_
          have f_35 : (0 : Int) ≤ S 11 0 ∧ S 11 0 ≤ 20 := hI 11 0
          refine zi_icmp_ge (tgt := 65) hx hb ⟨by omega, by omega⟩ ⟨by omega, by omega⟩ dX8_families_38 (by decide) (fun c_38 => ?_) (fun c_38 => ?_)
          · obtain rfl : n = 0 := by omega
            refine lv_iload_n hx hb dX8_families_65 rfl (lv_at hl 2 rfl) ?_
            exact zr_wi (T := S_26) hx hb hr hlocks dX8_families_66 hP hS (by exact ⟨pub_ok hkk (by rw [← h_R]; rfl) (by rw [← eS_26, ← eS_16]; exact SM_rc), hI_26⟩)
          · obtain ⟨n, rfl⟩ : ∃ n9 : Nat, n = n9 + 1 := ⟨n - 1, by omega⟩
            refine lv_iload_n hx hb dX8_families_41 rfl (lv_at hl 2 rfl) ?_
            refine lv_aload_n hx hb dX8_families_42 rfl (lv_at hl 0 rfl) ?_
            refine va_get (D := D) (ci := 8) (v := .ref (bd 31)) (C := RX8) (T := TX8) (N := 32) hx hb hts in_X8_families_8 hown hK.1 hP 0 rfl rfl 30 (by decide) (hts _ lk_X8_families_77) (fun _ h9 => h9) rfl dX8_families_43 ?_
            refine lv_iload_n hx hb dX8_families_46 rfl (lv_at hl 3 rfl) ?_
            refine zi_iald hx hb hK.1 hP 23 0 rfl rfl (by omega) (by omega) (by decide) dX8_families_47 ?_
            have f_47 : (-1 : Int) ≤ S_26 30 i ∧ S_26 30 i ≤ 19 := hI_26 30 i
            refine lv_iload_n hx hb dX8_families_48 rfl (lv_at hl 3 rfl) ?_
            refine zi_icmp_ne (tgt := 56) hx hb ⟨by omega, by omega⟩ ⟨by omega, by omega⟩ dX8_families_49 (by decide) (fun c_49 => ?_) (fun c_49 => ?_)
            · refine zi_iconst hx hb dX8_families_56 ?_
              refine zi_iadd hx hb dX8_families_57 ?_
              refine zi_top (fun x2_58 ex2_58 => ?_)
              refine lv_istore_n (lv' := [(2, .int (zi x2_58)), (0, .ref (bd 0)), (1, .int (zi x0)), (3, .int (zi i))]) hx hb dX8_families_58 rfl hl (by decide) rfl (fun ls hl => ?_)
              refine zi_iinc (k := 3) (lv' := [(3, .int (zi (i + 1))), (2, .int (zi x2_58)), (0, .ref (bd 0)), (1, .int (zi x0))]) hx hb dX8_families_59 hl rfl (by decide) rfl (fun ls hl => ?_)
              refine lv_goto (tgt := 33) hx hb dX8_families_62 (by decide) ?_
              exact ih_33 n x2_58 (i + 1) (by first | omega | assumption) (by first | omega | assumption) (by rw [ex2_58, Int.add_zero]; exact itr_if_f (p := fun k => rcM x0 (su S 31 (fun _ => 0)) 30 k = k) h_R (fun h9 => c_49 (by rw [← eS_26, ← eS_16]; exact h9))) (by omega) _ (lv_sub hl [2, 3, 1, 0] rfl)
            · refine zi_iconst hx hb dX8_families_52 ?_
              refine lv_goto (tgt := 57) hx hb dX8_families_53 (by decide) ?_
              refine zi_iadd hx hb dX8_families_57 ?_
              refine zi_top (fun x2_58 ex2_58 => ?_)
              refine lv_istore_n (lv' := [(2, .int (zi x2_58)), (0, .ref (bd 0)), (1, .int (zi x0)), (3, .int (zi i))]) hx hb dX8_families_58 rfl hl (by decide) rfl (fun ls hl => ?_)
              refine zi_iinc (k := 3) (lv' := [(3, .int (zi (i + 1))), (2, .int (zi x2_58)), (0, .ref (bd 0)), (1, .int (zi x0))]) hx hb dX8_families_59 hl rfl (by decide) rfl (fun ls hl => ?_)
              refine lv_goto (tgt := 33) hx hb dX8_families_62 (by decide) ?_
              exact ih_33 n x2_58 (i + 1) (by first | omega | assumption) (by first | omega | assumption) (by rw [ex2_58]; exact itr_if_t (p := fun k => rcM x0 (su S 31 (fun _ => 0)) 30 k = k) h_R (by rw [← eS_26, ← eS_16] at c_49; exact c_49)) (by omega) _ (lv_sub hl [2, 3, 1, 0] rfl)
      refine lv_istore_n (lv' := [(3, .int (zi 0)), (2, .int (zi 0)), (0, .ref (bd 0)), (1, .int (zi x0))]) hx hb dX8_families_32 rfl hl (by decide) rfl (fun ls hl => ?_)
      exact K_33 ((S 11 0).toNat + 1) ((S 11 0).toNat) 0 0 (by first | omega | assumption) (by first | omega | assumption) rfl (by omega) _ (lv_sub hl [2, 3, 1, 0] rfl)
    · exact absurd c_19 (by omega)

