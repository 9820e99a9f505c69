noncomputable def kM_number (S : ZS) (x0 : Int) : Int := cif (¬ (0 ≤ x0 ∧ x0 < S 11 0)) 1 (cif (¬ cnP S x0) 2 (0))
theorem in_X8_number_8 : ∀ w ∈ wsX80, w ∈ wsX8_number := by decide +kernel
theorem lk_X8_number_191 : Cond.fieldLink RX8 191 "PlanetoidDeskModel" "numbers" "I" ∈ wsX8_number := by decide +kernel
theorem lk_X8_number_40 : Cond.fieldLink RX8 40 "PlanetoidDeskModel" "numberOf" "[I" ∈ wsX8_number := by decide +kernel
theorem lk_X8_number_43 : Cond.fieldLink RX8 43 "PlanetoidDeskModel" "properB" "[I" ∈ wsX8_number := by decide +kernel
theorem lk_X8_number_52 : Cond.fieldLink RX8 52 "PlanetoidDeskModel" "key" "[I" ∈ wsX8_number := by decide +kernel
theorem lk_X8_number_46 : Cond.fieldLink RX8 46 "PlanetoidDeskModel" "properC" "[I" ∈ wsX8_number := by decide +kernel
abbrev rmct_X8_number : Room := { frames := 6, cells := 0, slots := 0, locals := 142 }
set_option maxHeartbeats 4000000 in
set_option maxRecDepth 100000 in
theorem ct_X8_number (l : Launch) (D : va_G) (cI cZ cJ : ClassId) (bd : Nat → Nat) (S : ZS) (hI : MI S) (hdis : mDis bd) (x0 : Int) (hx0 : ir x0) (hac : accM S) (hnn : 0 ≤ x0 → x0 < S 11 0 → cnP S x0 → S 18 0 < 20) : Met l yX8_number wsX8_number rmct_X8_number (zP D cI cZ cJ (mW cI cZ bd S) [.ref (bd 0), .int (zi x0)]) (zWi D (mW cI cZ bd) (mA bd) (fun r T => pubQ S (kM_number S x0) (S 18 0 + 1) (fun P => su (su (su (su P 18 (fun _ => P 18 0 + 1)) 14 (up (P 14) x0 (P 18 0 + 1))) 15 (up (P 15) x0 ((findM (laysM x0 S) 22 0) % 405 / 5 - 40))) 16 (up (P 16) x0 ((findM (laysM x0 S) 22 0) % 5 - 2))) r T ∧ MI T)) 0 0 (mA bd) := by
  refine Met.ofW (cc := cX8_number) (maxL := 3) (ret := (some .int)) (by decide) rfl ?_
  intro p e s m args below meth c s₁ B hml hv
  obtain ⟨rfl, hP, hK⟩ := hv
  have hx := B.exec
  have hb := B.bytes
  have hr := B.returns
  have hts := atoms_spec (ws := wsX8_number) B.pre
  have hown : s.vm.findClass RX8 = some m.cls := findClass_of_methodNamed B.named
  have hlocks := B.notSynchronized
  have hl := lv_entry ([.ref (bd 0), .int (zi x0)]) (n := 3) (Nat.le_of_ble_eq_true rfl)
  rw [lg_entry_eq]
  generalize (lg_sl ([.ref (bd 0), .int (zi x0)]) ++ List.replicate (3 - (lg_sl ([.ref (bd 0), .int (zi x0)])).length) Slot.unset).toArray = ls at hl ⊢
  have hl : lv_has ls 3 [(0, .ref (bd 0)), (1, .int (zi x0))] := hl
  have hS : va_S (mA bd) s.heap s.heap [] := va_S.rf
  show W p l e rmct_X8_number s m ([.ref (bd 0), .int (zi x0)] : List Value).toArray below meth c s.heap [] 0 0 (MQ below (zWi D (mW cI cZ bd) (mA bd) (fun r T => pubQ S (kM_number S x0) (S 18 0 + 1) (fun P => su (su (su (su P 18 (fun _ => P 18 0 + 1)) 14 (up (P 14) x0 (P 18 0 + 1))) 15 (up (P 15) x0 ((findM (laysM x0 S) 22 0) % 405 / 5 - 40))) 16 (up (P 16) x0 ((findM (laysM x0 S) 22 0) % 5 - 2))) r T ∧ MI T)) ([.ref (bd 0), .int (zi x0)] : List Value).toArray s 0 0 (mA bd)) (F0 m 0 ls [])
  have hc0 : (0 : Int) ≤ S 11 0 ∧ S 11 0 ≤ 20 := hI 11 0
  have hc6 : (0 : Int) ≤ S 6 0 ∧ S 6 0 ≤ 60 := hI 6 0
  refine lv_aload_n hx hb dX8_number_0 rfl (lv_at hl 0 rfl) ?_
  refine lv_iload_n hx hb dX8_number_1 rfl (lv_at hl 1 rfl) ?_
  refine zk_r (zc_V (As := [.int (zi x0)]) (rest := []) ⟨hx, hb, hml, hown, hts⟩ (ct_X8_isBody l D cI cZ cJ bd S hI x0 ⟨by omega, by omega⟩) (cwV 1 hts gX8_number_X8_isBody rfl rfl rfl (by decide +kernel) ⟨Nat.le_of_ble_eq_true rfl, Nat.le_of_ble_eq_true rfl⟩) hK hP (q0 := 0) (ci := 8) rfl rfl rfl rfl hl.1 rfl (Nat.le_of_ble_eq_true rfl) dX8_number_2 ⟨Nat.zero_le _, Nat.zero_le _⟩) ?_
  refine zi_top (fun (r_2 : Int) (er_2 : r_2 = b2 (0 ≤ x0 ∧ x0 < S 11 0)) => ?_)
  have fr_2 : (0 : Int) ≤ r_2 ∧ r_2 ≤ 1 := by rw [er_2]; exact b2_b
  have fr_21 : (r_2 = 1 ∧ (0 ≤ x0 ∧ x0 < S 11 0)) ∨ (r_2 = 0 ∧ ¬ (0 ≤ x0 ∧ x0 < S 11 0)) := by rw [er_2]; exact b2_or _
  refine lv_istore_n (lv' := [(2, .int (zi r_2)), (0, .ref (bd 0)), (1, .int (zi x0))]) hx hb dX8_number_5 rfl hl (by decide) rfl (fun ls hl => ?_)
  refine lv_aload_n hx hb dX8_number_6 rfl (lv_at hl 1 rfl) ?_
  refine lv_iload_n hx hb dX8_number_7 rfl (lv_at hl 0 rfl) ?_
  refine zi_if_ne (tgt := 15) hx hb ⟨by omega, by omega⟩ dX8_number_8 (by decide) (fun c_8 => ?_) (fun c_8 => ?_)
  · refine lv_aload_n hx hb dX8_number_15 rfl (lv_at hl 1 rfl) ?_
    refine lv_iload_n hx hb dX8_number_16 rfl (lv_at hl 2 rfl) ?_
    refine zk_wi (zc_V (As := [.int (zi x0)]) (rest := [.ref (bd 0)]) ⟨hx, hb, hml, hown, hts⟩ (ct_X8_canNumber l D cI cZ cJ bd S hI hdis x0 ⟨by omega, by omega⟩ (by omega) (by omega) hac) (cwV 1 hts gX8_number_X8_canNumber rfl rfl rfl (by decide +kernel) ⟨Nat.le_of_ble_eq_true rfl, Nat.le_of_ble_eq_true rfl⟩) hK hP (q0 := 0) (ci := 8) rfl rfl rfl rfl hl.1 rfl (Nat.le_of_ble_eq_true rfl) dX8_number_17 ⟨Nat.zero_le _, Nat.zero_le _⟩) hS (fun r_17 S_17 H locs hp_17 hP hS => ?_)
    obtain ⟨er_17, hfo_17, hsm_17, hI_17⟩ := hp_17
    have fr_17 : (0 : Int) ≤ r_17 ∧ r_17 ≤ 1 := by rw [er_17]; exact b2_b
    refine zi_if_eq (tgt := 27) hx hb ⟨by omega, by omega⟩ dX8_number_20 (by decide) (fun c_20 => ?_) (fun c_20 => ?_)
    · refine zi_iconst hx hb dX8_number_27 ?_
      have hkk : (kM_number S x0) = 2 := by rw [kM_number, cif_f (by omega), cif_t (b2_0 er_17 c_20)]
      refine zk_wi (zc_V (As := [.int (zi 2)]) (rest := []) ⟨hx, hb, hml, hown, hts⟩ (ct_X8_can l D cI cZ cJ bd S_17 hI_17 hdis 2 ⟨by decide, by decide⟩ (by omega) (by omega)) (cwV 1 hts gX8_number_X8_can rfl rfl rfl (by decide +kernel) ⟨Nat.le_of_ble_eq_true rfl, Nat.le_of_ble_eq_true rfl⟩) hK hP (q0 := 0) (ci := 8) rfl rfl rfl rfl hl.1 rfl (Nat.le_of_ble_eq_true rfl) dX8_number_28 ⟨Nat.zero_le _, Nat.zero_le _⟩) hS (fun r_28 S_28 H locs hp_28 hP hS => ?_)
      obtain ⟨er_28, e9, hI_28⟩ := hp_28
      have eS_28 := e9.symm; clear e9
      have fr_28 : (0 : Int) ≤ r_28 ∧ r_28 ≤ 1 := by rw [er_28]; exact b2_b
      have k_28 : r_28 = 0 := er_28.trans (b2_f (by decide))
      refine zi_if_ne (tgt := 36) hx hb ⟨by omega, by omega⟩ dX8_number_31 (by decide) (fun c_31 => ?_) (fun c_31 => ?_)
      · exact absurd c_31 (by omega)
      · refine zi_iconst hx hb dX8_number_34 ?_
        exact zr_wi (T := S_28) hx hb hr hlocks dX8_number_35 hP hS (by exact ⟨pub_no hkk (by decide) (hsm_17) eS_28, hI_28⟩)
    · refine zi_iconst hx hb dX8_number_23 ?_
      refine lv_goto (tgt := 28) hx hb dX8_number_24 (by decide) ?_
      have hkk : (kM_number S x0) = 0 := by rw [kM_number, cif_f (by omega), cif_f (fun h9 => h9 (b2_1 er_17 c_20))]
      refine zk_wi (zc_V (As := [.int (zi 0)]) (rest := []) ⟨hx, hb, hml, hown, hts⟩ (ct_X8_can l D cI cZ cJ bd S_17 hI_17 hdis 0 ⟨by decide, by decide⟩ (by omega) (by omega)) (cwV 1 hts gX8_number_X8_can rfl rfl rfl (by decide +kernel) ⟨Nat.le_of_ble_eq_true rfl, Nat.le_of_ble_eq_true rfl⟩) hK hP (q0 := 0) (ci := 8) rfl rfl rfl rfl hl.1 rfl (Nat.le_of_ble_eq_true rfl) dX8_number_28 ⟨Nat.zero_le _, Nat.zero_le _⟩) hS (fun r_28 S_28 H locs hp_28 hP hS => ?_)
      obtain ⟨er_28, e9, hI_28⟩ := hp_28
      have eS_28 := e9.symm; clear e9
      have fr_28 : (0 : Int) ≤ r_28 ∧ r_28 ≤ 1 := by rw [er_28]; exact b2_b
      have k_28 : r_28 = 1 := er_28.trans (b2_t rfl)
      refine zi_if_ne (tgt := 36) hx hb ⟨by omega, by omega⟩ dX8_number_31 (by decide) (fun c_31 => ?_) (fun c_31 => ?_)
      · have h_18 : S_17 18 0 < 20 := by rw [hsm_17 18 rfl]; exact hnn (by omega) (by omega) (b2_1 er_17 c_20)
        refine lv_aload_n hx hb dX8_number_36 rfl (lv_at hl 1 rfl) ?_
        refine lv_dup hx hb dX8_number_37 rfl ?_
        refine va_get (D := D) (ci := 8) (v := .int (zi (S_28 18 0))) (C := RX8) (T := TX8) (N := 32) hx hb hts in_X8_number_8 hown hK.1 hP 0 rfl rfl 18 (by decide) (hts _ lk_X8_number_191) (fun _ h9 => h9) rfl dX8_number_38 ?_
        refine zi_is (S_17 18 0) (by rw [← eS_28] <;> rfl) ?_
        have f_38 : (0 : Int) ≤ S_17 18 0 ∧ S_17 18 0 ≤ 20 := hI_17 18 0
        refine zi_iconst hx hb dX8_number_41 ?_
        refine zi_iadd hx hb dX8_number_42 ?_
        refine va_put (D := D) (ci := 8) (v := .int (zi ((S_17 18 0) + 1))) (ty := .int) (C := RX8) (T := TX8) (N := 32) hx hb hts in_X8_number_8 tyX8 tyX8_ok nmX8 hown hK.1 hP (mW_D hdis _) hS 0 rfl rfl 18 (by decide) (hts _ lk_X8_number_191) (fun _ h9 => h9) rfl (by decide +kernel) rfl rfl (Nat.le_of_ble_eq_true rfl) dX8_number_43 (fun H locs hP _ hS => ?_)
        have hP : va_P D vwCl (mW cI cZ bd (su S_28 18 (fun _ => (S_17 18 0) + 1))) H := hP
        have hI_43 : MI (su S_28 18 (fun _ => (S_17 18 0) + 1)) := MI.upc hI_28 18 ((S_17 18 0) + 1) (show (0 : Int) ≤ ((S_17 18 0) + 1) ∧ ((S_17 18 0) + 1) ≤ 20 from ⟨by omega, by omega⟩)
        generalize eS_43 : su S_28 18 (fun _ => (S_17 18 0) + 1) = S_43 at hP hI_43
        refine lv_aload_n hx hb dX8_number_46 rfl (lv_at hl 1 rfl) ?_
        refine va_get (D := D) (ci := 8) (v := .ref (bd 15)) (C := RX8) (T := TX8) (N := 32) hx hb hts in_X8_number_8 hown hK.1 hP 0 rfl rfl 14 (by decide) (hts _ lk_X8_number_40) (fun _ h9 => h9) rfl dX8_number_47 ?_
        refine lv_iload_n hx hb dX8_number_50 rfl (lv_at hl 2 rfl) ?_
        refine lv_aload_n hx hb dX8_number_51 rfl (lv_at hl 1 rfl) ?_
        refine va_get (D := D) (ci := 8) (v := .int (zi (S_43 18 0))) (C := RX8) (T := TX8) (N := 32) hx hb hts in_X8_number_8 hown hK.1 hP 0 rfl rfl 18 (by decide) (hts _ lk_X8_number_191) (fun _ h9 => h9) rfl dX8_number_52 ?_
        refine zi_is ((S_17 18 0) + 1) (by rw [← eS_43] <;> rfl) ?_
        refine zi_iast hx hb hK.1 hP (mW_D hdis _) hS 11 0 rfl rfl (by omega) (by omega) (by decide) dX8_number_55 (fun H locs hP hS => ?_)
        have hP : va_P D vwCl (mW cI cZ bd (su S_43 14 (up (S_43 14) x0 ((S_17 18 0) + 1)))) H := hP
        have hI_55 : MI (su S_43 14 (up (S_43 14) x0 ((S_17 18 0) + 1))) := MI.up hI_43 14 x0 ((S_17 18 0) + 1) (show (0 : Int) ≤ ((S_17 18 0) + 1) ∧ ((S_17 18 0) + 1) ≤ 20 from ⟨by omega, by omega⟩)
        generalize eS_55 : su S_43 14 (up (S_43 14) x0 ((S_17 18 0) + 1)) = S_55 at hP hI_55
        refine lv_aload_n hx hb dX8_number_56 rfl (lv_at hl 1 rfl) ?_
        refine va_get (D := D) (ci := 8) (v := .ref (bd 16)) (C := RX8) (T := TX8) (N := 32) hx hb hts in_X8_number_8 hown hK.1 hP 0 rfl rfl 15 (by decide) (hts _ lk_X8_number_43) (fun _ h9 => h9) rfl dX8_number_57 ?_
        refine lv_iload_n hx hb dX8_number_60 rfl (lv_at hl 2 rfl) ?_
        refine lv_aload_n hx hb dX8_number_61 rfl (lv_at hl 1 rfl) ?_
        refine va_get (D := D) (ci := 8) (v := .ref (bd 23)) (C := RX8) (T := TX8) (N := 32) hx hb hts in_X8_number_8 hown hK.1 hP 0 rfl rfl 22 (by decide) (hts _ lk_X8_number_52) (fun _ h9 => h9) rfl dX8_number_62 ?_
        refine zi_iconst hx hb dX8_number_65 ?_
        refine zi_iald hx hb hK.1 hP 15 0 rfl rfl (by omega) (by omega) (by decide) dX8_number_66 ?_
        have f_66 : (0 : Int) ≤ S_55 22 0 ∧ S_55 22 0 ≤ 1457999 := hI_55 22 0
        refine zi_sipush hx hb dX8_number_67 (by decide) ?_
        refine zi_irem hx hb ⟨by omega, by omega⟩ ⟨by omega, by omega⟩ (by omega) (by omega) dX8_number_70 ?_
        refine zi_iconst hx hb dX8_number_71 ?_
        refine zi_idiv hx hb ⟨by omega, by omega⟩ ⟨by omega, by omega⟩ (by omega) (by omega) dX8_number_72 ?_
        refine zi_bipush hx hb dX8_number_73 (by decide) ?_
        refine zi_isub hx hb dX8_number_75 ?_
        refine zi_iast hx hb hK.1 hP (mW_D hdis _) hS 12 0 rfl rfl (by omega) (by omega) (by decide) dX8_number_76 (fun H locs hP hS => ?_)
        have hP : va_P D vwCl (mW cI cZ bd (su S_55 15 (up (S_55 15) x0 ((((S_55 22 0) % 405) / 5) - 40)))) H := hP
        have hI_76 : MI (su S_55 15 (up (S_55 15) x0 ((((S_55 22 0) % 405) / 5) - 40))) := MI.up hI_55 15 x0 ((((S_55 22 0) % 405) / 5) - 40) (show (-40 : Int) ≤ ((((S_55 22 0) % 405) / 5) - 40) ∧ ((((S_55 22 0) % 405) / 5) - 40) ≤ 40 from ⟨by omega, by omega⟩)
        generalize eS_76 : su S_55 15 (up (S_55 15) x0 ((((S_55 22 0) % 405) / 5) - 40)) = S_76 at hP hI_76
        refine lv_aload_n hx hb dX8_number_77 rfl (lv_at hl 1 rfl) ?_
        refine va_get (D := D) (ci := 8) (v := .ref (bd 17)) (C := RX8) (T := TX8) (N := 32) hx hb hts in_X8_number_8 hown hK.1 hP 0 rfl rfl 16 (by decide) (hts _ lk_X8_number_46) (fun _ h9 => h9) rfl dX8_number_78 ?_
        refine lv_iload_n hx hb dX8_number_81 rfl (lv_at hl 2 rfl) ?_
        refine lv_aload_n hx hb dX8_number_82 rfl (lv_at hl 1 rfl) ?_
        refine va_get (D := D) (ci := 8) (v := .ref (bd 23)) (C := RX8) (T := TX8) (N := 32) hx hb hts in_X8_number_8 hown hK.1 hP 0 rfl rfl 22 (by decide) (hts _ lk_X8_number_52) (fun _ h9 => h9) rfl dX8_number_83 ?_
        refine zi_iconst hx hb dX8_number_86 ?_
        refine zi_iald hx hb hK.1 hP 15 0 rfl rfl (by omega) (by omega) (by decide) dX8_number_87 ?_
        have f_87 : (0 : Int) ≤ S_76 22 0 ∧ S_76 22 0 ≤ 1457999 := hI_76 22 0
        refine zi_iconst hx hb dX8_number_88 ?_
        refine zi_irem hx hb ⟨by omega, by omega⟩ ⟨by omega, by omega⟩ (by omega) (by omega) dX8_number_89 ?_
        refine zi_iconst hx hb dX8_number_90 ?_
        refine zi_isub hx hb dX8_number_91 ?_
        refine zi_iast hx hb hK.1 hP (mW_D hdis _) hS 13 0 rfl rfl (by omega) (by omega) (by decide) dX8_number_92 (fun H locs hP hS => ?_)
        have hP : va_P D vwCl (mW cI cZ bd (su S_76 16 (up (S_76 16) x0 (((S_76 22 0) % 5) - 2)))) H := hP
        have hI_92 : MI (su S_76 16 (up (S_76 16) x0 (((S_76 22 0) % 5) - 2))) := MI.up hI_76 16 x0 (((S_76 22 0) % 5) - 2) (show (-2 : Int) ≤ (((S_76 22 0) % 5) - 2) ∧ (((S_76 22 0) % 5) - 2) ≤ 2 from ⟨by omega, by omega⟩)
        generalize eS_92 : su S_76 16 (up (S_76 16) x0 (((S_76 22 0) % 5) - 2)) = S_92 at hP hI_92
        refine lv_aload_n hx hb dX8_number_93 rfl (lv_at hl 1 rfl) ?_
        refine va_get (D := D) (ci := 8) (v := .int (zi (S_92 18 0))) (C := RX8) (T := TX8) (N := 32) hx hb hts in_X8_number_8 hown hK.1 hP 0 rfl rfl 18 (by decide) (hts _ lk_X8_number_191) (fun _ h9 => h9) rfl dX8_number_94 ?_
        refine zi_is ((S_17 18 0) + 1) (by rw [← eS_92, ← eS_76, ← eS_55, ← eS_43] <;> rfl) ?_
        exact zr_wi (T := S_92) hx hb hr hlocks dX8_number_97 hP hS (by exact ⟨pub_ok hkk (by rw [hsm_17 18 rfl]) (by rw [← eS_92, ← eS_76, ← eS_55, ← eS_43, ← eS_28]; exact SM_u (SM_u (SM_u (SM_u (SM_u hsm_17 rfl) (by show (fun _ => S 18 0 + 1) = (fun _ => S_17 18 0 + 1); rw [hsm_17 18 rfl])) (by show up (S 14) x0 (S 18 0 + 1) = up (S_17 14) x0 (S_17 18 0 + 1); rw [hsm_17 14 rfl, hsm_17 18 rfl])) (by show up (S 15) x0 (findM (laysM x0 S) 22 0 % 405 / 5 - 40) = up (S_17 15) x0 (S_17 22 0 % 405 / 5 - 40); rw [hsm_17 15 rfl, hfo_17 c_20])) (by show up (S 16) x0 (findM (laysM x0 S) 22 0 % 5 - 2) = up (S_17 16) x0 (S_17 22 0 % 5 - 2); rw [hsm_17 16 rfl, hfo_17 c_20])), hI_92⟩)
      · exact absurd c_31 (by omega)
  · refine zi_iconst hx hb dX8_number_11 ?_
    refine lv_goto (tgt := 28) hx hb dX8_number_12 (by decide) ?_
    have hkk : (kM_number S x0) = 1 := by rw [kM_number, cif_t (by omega)]
    refine zk_wi (zc_V (As := [.int (zi 1)]) (rest := []) ⟨hx, hb, hml, hown, hts⟩ (ct_X8_can l D cI cZ cJ bd S hI hdis 1 ⟨by decide, by decide⟩ (by omega) (by omega)) (cwV 1 hts gX8_number_X8_can rfl rfl rfl (by decide +kernel) ⟨Nat.le_of_ble_eq_true rfl, Nat.le_of_ble_eq_true rfl⟩) hK hP (q0 := 0) (ci := 8) rfl rfl rfl rfl hl.1 rfl (Nat.le_of_ble_eq_true rfl) dX8_number_28 ⟨Nat.zero_le _, Nat.zero_le _⟩) hS (fun r_28 S_28 H locs hp_28 hP hS => ?_)
    obtain ⟨er_28, e9, hI_28⟩ := hp_28
    have eS_28 := e9.symm; clear e9
    have fr_28 : (0 : Int) ≤ r_28 ∧ r_28 ≤ 1 := by rw [er_28]; exact b2_b
    have k_28 : r_28 = 0 := er_28.trans (b2_f (by decide))
    refine zi_if_ne (tgt := 36) hx hb ⟨by omega, by omega⟩ dX8_number_31 (by decide) (fun c_31 => ?_) (fun c_31 => ?_)
    · exact absurd c_31 (by omega)
    · refine zi_iconst hx hb dX8_number_34 ?_
      exact zr_wi (T := S_28) hx hb hr hlocks dX8_number_35 hP hS (by exact ⟨pub_no hkk (by decide) (SM.rf) eS_28, hI_28⟩)

noncomputable def kM_orbit (S : ZS) (x0 x1 x2 : Int) : Int := cif (¬ ((0 ≤ x0 ∧ x0 < S 11 0) ∧ (0 ≤ x1 ∧ x1 < findM (laysM x0 S) 21 0))) 1 (cif (¬ (0 ≤ x2 ∧ x2 ≤ 2)) 2 (0))
abbrev rmct_X8_orbit : Room := { frames := 5, cells := 0, slots := 0, locals := 115 }
set_option maxHeartbeats 4000000 in
set_option maxRecDepth 100000 in
theorem ct_X8_orbit (l : Launch) (D : va_G) (cI cZ cJ : ClassId) (bd : Nat → Nat) (S : ZS) (hI : MI S) (hdis : mDis bd) (x0 x1 x2 : Int) (hx0 : ir x0) (hx1 : ir x1) (hx2 : ir x2) (hac : accM S) : Met l yX8_orbit wsX8_orbit rmct_X8_orbit (zP D cI cZ cJ (mW cI cZ bd S) [.ref (bd 0), .int (zi x0), .int (zi x1), .int (zi x2)]) (zWi D (mW cI cZ bd) (mA bd) (fun r T => pubQ S (kM_orbit S x0 x1 x2) (if x2 = 0 then kaR (su (findM (laysM x0 S)) 31 (fun _ => 0)) x1 21 0 1457999 / 405 else if x2 = 1 then kaR (su (findM (laysM x0 S)) 31 (fun _ => 0)) x1 21 0 1457999 % 405 / 5 - 40 else kaR (su (findM (laysM x0 S)) 31 (fun _ => 0)) x1 21 0 1457999 % 5 - 2) (fun P => P) r T ∧ MI T)) 0 0 (mA bd) := by
  refine Met.ofW (cc := cX8_orbit) (maxL := 6) (ret := (some .int)) (by decide) rfl ?_
  intro p e s m args below meth c s₁ B hml hv
  obtain ⟨rfl, hP, hK⟩ := hv
  have hx := B.exec
  have hb := B.bytes
  have hr := B.returns
  have hts := atoms_spec (ws := wsX8_orbit) B.pre
  have hown : s.vm.findClass RX8 = some m.cls := findClass_of_methodNamed B.named
  have hlocks := B.notSynchronized
  have hl := lv_entry ([.ref (bd 0), .int (zi x0), .int (zi x1), .int (zi x2)]) (n := 6) (Nat.le_of_ble_eq_true rfl)
  rw [lg_entry_eq]
  generalize (lg_sl ([.ref (bd 0), .int (zi x0), .int (zi x1), .int (zi x2)]) ++ List.replicate (6 - (lg_sl ([.ref (bd 0), .int (zi x0), .int (zi x1), .int (zi x2)])).length) Slot.unset).toArray = ls at hl ⊢
  have hl : lv_has ls 6 [(0, .ref (bd 0)), (1, .int (zi x0)), (2, .int (zi x1)), (3, .int (zi x2))] := hl
  have hS : va_S (mA bd) s.heap s.heap [] := va_S.rf
  show W p l e rmct_X8_orbit s m ([.ref (bd 0), .int (zi x0), .int (zi x1), .int (zi x2)] : List Value).toArray below meth c s.heap [] 0 0 (MQ below (zWi D (mW cI cZ bd) (mA bd) (fun r T => pubQ S (kM_orbit S x0 x1 x2) (if x2 = 0 then kaR (su (findM (laysM x0 S)) 31 (fun _ => 0)) x1 21 0 1457999 / 405 else if x2 = 1 then kaR (su (findM (laysM x0 S)) 31 (fun _ => 0)) x1 21 0 1457999 % 405 / 5 - 40 else kaR (su (findM (laysM x0 S)) 31 (fun _ => 0)) x1 21 0 1457999 % 5 - 2) (fun P => P) r T ∧ MI T)) ([.ref (bd 0), .int (zi x0), .int (zi x1), .int (zi x2)] : List Value).toArray s 0 0 (mA bd)) (F0 m 0 ls [])
  have hc0 : (0 : Int) ≤ S 11 0 ∧ S 11 0 ≤ 20 := hI 11 0
  have hc6 : (0 : Int) ≤ S 6 0 ∧ S 6 0 ≤ 60 := hI 6 0
  refine lv_aload_n hx hb dX8_orbit_0 rfl (lv_at hl 0 rfl) ?_
  refine lv_iload_n hx hb dX8_orbit_1 rfl (lv_at hl 1 rfl) ?_
  refine zk_r (zc_V (As := [.int (zi x0)]) (rest := []) ⟨hx, hb, hml, hown, hts⟩ (ct_X8_isBody l D cI cZ cJ bd S hI x0 ⟨by omega, by omega⟩) (cwV 1 hts gX8_orbit_X8_isBody rfl rfl rfl (by decide +kernel) ⟨Nat.le_of_ble_eq_true rfl, Nat.le_of_ble_eq_true rfl⟩) hK hP (q0 := 0) (ci := 8) rfl rfl rfl rfl hl.1 rfl (Nat.le_of_ble_eq_true rfl) dX8_orbit_2 ⟨Nat.zero_le _, Nat.zero_le _⟩) ?_
  refine zi_top (fun (r_2 : Int) (er_2 : r_2 = b2 (0 ≤ x0 ∧ x0 < S 11 0)) => ?_)
  have fr_2 : (0 : Int) ≤ r_2 ∧ r_2 ≤ 1 := by rw [er_2]; exact b2_b
  have fr_21 : (r_2 = 1 ∧ (0 ≤ x0 ∧ x0 < S 11 0)) ∨ (r_2 = 0 ∧ ¬ (0 ≤ x0 ∧ x0 < S 11 0)) := by rw [er_2]; exact b2_or _
  refine zi_if_eq (tgt := 27) hx hb ⟨by omega, by omega⟩ dX8_orbit_5 (by decide) (fun c_5 => ?_) (fun c_5 => ?_)
  · refine zi_iconst hx hb dX8_orbit_27 ?_
    refine lv_istore (lv' := [(4, .int (zi 0)), (0, .ref (bd 0)), (1, .int (zi x0)), (2, .int (zi x1)), (3, .int (zi x2))]) hx hb dX8_orbit_28 hl (by decide) rfl (fun ls hl => ?_)
    refine lv_aload_n hx hb dX8_orbit_30 rfl (lv_at hl 1 rfl) ?_
    refine lv_iload hx hb dX8_orbit_31 (lv_at hl 0 rfl) ?_
    refine zi_if_ne (tgt := 40) hx hb ⟨by decide, by decide⟩ dX8_orbit_33 (by decide) (fun c_33 => ?_) (fun c_33 => ?_)
    · exact absurd c_33 (by omega)
    · refine zi_iconst hx hb dX8_orbit_36 ?_
      refine lv_goto (tgt := 54) hx hb dX8_orbit_37 (by decide) ?_
      have hkk : (kM_orbit S x0 x1 x2) = 1 := by rw [kM_orbit, cif_t (by omega)]
      refine zk_wi (zc_V (As := [.int (zi 1)]) (rest := []) ⟨hx, hb, hml, hown, hts⟩ (ct_X8_can l D cI cZ cJ bd S hI hdis 1 ⟨by decide, by decide⟩ (by omega) (by omega)) (cwV 1 hts gX8_orbit_X8_can rfl rfl rfl (by decide +kernel) ⟨Nat.le_of_ble_eq_true rfl, Nat.le_of_ble_eq_true rfl⟩) hK hP (q0 := 0) (ci := 8) rfl rfl rfl rfl hl.1 rfl (Nat.le_of_ble_eq_true rfl) dX8_orbit_54 ⟨Nat.zero_le _, Nat.zero_le _⟩) hS (fun r_54 S_54 H locs hp_54 hP hS => ?_)
      obtain ⟨er_54, e9, hI_54⟩ := hp_54
      have eS_54 := e9.symm; clear e9
      have fr_54 : (0 : Int) ≤ r_54 ∧ r_54 ≤ 1 := by rw [er_54]; exact b2_b
      have k_54 : r_54 = 0 := er_54.trans (b2_f (by decide))
      refine zi_if_ne (tgt := 62) hx hb ⟨by omega, by omega⟩ dX8_orbit_57 (by decide) (fun c_57 => ?_) (fun c_57 => ?_)
      · exact absurd c_57 (by omega)
      · refine zi_iconst hx hb dX8_orbit_60 ?_
        exact zr_wi (T := S_54) hx hb hr hlocks dX8_orbit_61 hP hS (by exact ⟨pub_no hkk (by decide) (SM.rf) eS_54, hI_54⟩)
  · refine lv_iload_n hx hb dX8_orbit_8 rfl (lv_at hl 2 rfl) ?_
    refine zi_iconst hx hb dX8_orbit_9 ?_
    refine lv_aload_n hx hb dX8_orbit_10 rfl (lv_at hl 0 rfl) ?_
    refine lv_iload_n hx hb dX8_orbit_11 rfl (lv_at hl 1 rfl) ?_
    refine zk_wi (zc_V (As := [.int (zi x0)]) (rest := [.int (zi 0), .int (zi x1)]) ⟨hx, hb, hml, hown, hts⟩ (ct_X8_orbitsOf l D cI cZ cJ bd S hI hdis x0 ⟨by omega, by omega⟩ (by omega) (by omega) hac) (cwV 1 hts gX8_orbit_X8_orbitsOf rfl rfl rfl (by decide +kernel) ⟨Nat.le_of_ble_eq_true rfl, Nat.le_of_ble_eq_true rfl⟩) hK hP (q0 := 0) (ci := 8) rfl rfl rfl rfl hl.1 rfl (Nat.le_of_ble_eq_true rfl) dX8_orbit_12 ⟨Nat.zero_le _, Nat.zero_le _⟩) hS (fun r_12 S_12 H locs hp_12 hP hS => ?_)
    obtain ⟨er_12, e9, hI_12⟩ := hp_12
    have eS_12 := e9.symm; clear e9
    have fr_12 : (0 : Int) ≤ r_12 ∧ r_12 ≤ 7695 := by rw [er_12, eS_12]; exact hI_12 21 0
    refine zi_iconst hx hb dX8_orbit_15 ?_
    refine zi_isub hx hb dX8_orbit_16 ?_
    refine zk_r (zc_S (As := [.int (zi x1), .int (zi 0), .int (zi (r_12 - 1))]) (rest := []) ⟨hx, hb, hml, hown, hts⟩ (ct_X8_isIn l D cI cZ cJ x1 0 (r_12 - 1) ⟨by omega, by omega⟩ ⟨by decide, by decide⟩ ⟨by omega, by omega⟩) (va_cwS 3 hts gX8_orbit_X8_isIn rfl rfl rfl (by decide +kernel) ⟨Nat.le_of_ble_eq_true rfl, Nat.le_of_ble_eq_true rfl⟩) hK va_P_nil rfl hl.1 rfl (Nat.le_of_ble_eq_true rfl) dX8_orbit_17 ⟨Nat.zero_le _, Nat.zero_le _⟩) ?_
    refine zi_top (fun (r_17 : Int) (er_17 : r_17 = b2 (0 ≤ x1 ∧ x1 ≤ (r_12 - 1))) => ?_)
    have fr_17 : (0 : Int) ≤ r_17 ∧ r_17 ≤ 1 := by rw [er_17]; exact b2_b
    have fr_171 : (r_17 = 1 ∧ (0 ≤ x1 ∧ x1 ≤ (r_12 - 1))) ∨ (r_17 = 0 ∧ ¬ (0 ≤ x1 ∧ x1 ≤ (r_12 - 1))) := by rw [er_17]; exact b2_or _
    refine zi_if_eq (tgt := 27) hx hb ⟨by omega, by omega⟩ dX8_orbit_20 (by decide) (fun c_20 => ?_) (fun c_20 => ?_)
    · refine zi_iconst hx hb dX8_orbit_27 ?_
      refine lv_istore (lv' := [(4, .int (zi 0)), (0, .ref (bd 0)), (1, .int (zi x0)), (2, .int (zi x1)), (3, .int (zi x2))]) hx hb dX8_orbit_28 hl (by decide) rfl (fun ls hl => ?_)
      refine lv_aload_n hx hb dX8_orbit_30 rfl (lv_at hl 1 rfl) ?_
      refine lv_iload hx hb dX8_orbit_31 (lv_at hl 0 rfl) ?_
      refine zi_if_ne (tgt := 40) hx hb ⟨by decide, by decide⟩ dX8_orbit_33 (by decide) (fun c_33 => ?_) (fun c_33 => ?_)
      · exact absurd c_33 (by omega)
      · refine zi_iconst hx hb dX8_orbit_36 ?_
        refine lv_goto (tgt := 54) hx hb dX8_orbit_37 (by decide) ?_
        have hkk : (kM_orbit S x0 x1 x2) = 1 := by rw [kM_orbit, cif_t (by omega)]
        refine zk_wi (zc_V (As := [.int (zi 1)]) (rest := []) ⟨hx, hb, hml, hown, hts⟩ (ct_X8_can l D cI cZ cJ bd S_12 hI_12 hdis 1 ⟨by decide, by decide⟩ (by omega) (by omega)) (cwV 1 hts gX8_orbit_X8_can rfl rfl rfl (by decide +kernel) ⟨Nat.le_of_ble_eq_true rfl, Nat.le_of_ble_eq_true rfl⟩) hK hP (q0 := 0) (ci := 8) rfl rfl rfl rfl hl.1 rfl (Nat.le_of_ble_eq_true rfl) dX8_orbit_54 ⟨Nat.zero_le _, Nat.zero_le _⟩) hS (fun r_54 S_54 H locs hp_54 hP hS => ?_)
        obtain ⟨er_54, e9, hI_54⟩ := hp_54
        have eS_54 := e9.symm; clear e9
        have fr_54 : (0 : Int) ≤ r_54 ∧ r_54 ≤ 1 := by rw [er_54]; exact b2_b
        have k_54 : r_54 = 0 := er_54.trans (b2_f (by decide))
        refine zi_if_ne (tgt := 62) hx hb ⟨by omega, by omega⟩ dX8_orbit_57 (by decide) (fun c_57 => ?_) (fun c_57 => ?_)
        · exact absurd c_57 (by omega)
        · refine zi_iconst hx hb dX8_orbit_60 ?_
          exact zr_wi (T := S_54) hx hb hr hlocks dX8_orbit_61 hP hS (by exact ⟨pub_no hkk (by decide) (by rw [← eS_12]; exact SM_la.tr SM_fd) eS_54, hI_54⟩)
    · refine zi_iconst hx hb dX8_orbit_23 ?_
      refine lv_goto (tgt := 28) hx hb dX8_orbit_24 (by decide) ?_
      refine lv_istore (lv' := [(4, .int (zi 1)), (0, .ref (bd 0)), (1, .int (zi x0)), (2, .int (zi x1)), (3, .int (zi x2))]) hx hb dX8_orbit_28 hl (by decide) rfl (fun ls hl => ?_)
      refine lv_aload_n hx hb dX8_orbit_30 rfl (lv_at hl 1 rfl) ?_
      refine lv_iload hx hb dX8_orbit_31 (lv_at hl 0 rfl) ?_
      refine zi_if_ne (tgt := 40) hx hb ⟨by decide, by decide⟩ dX8_orbit_33 (by decide) (fun c_33 => ?_) (fun c_33 => ?_)
      · refine lv_iload_n hx hb dX8_orbit_40 rfl (lv_at hl 4 rfl) ?_
        refine zi_iconst hx hb dX8_orbit_41 ?_
        refine zi_iconst hx hb dX8_orbit_42 ?_
        refine zk_r (zc_S (As := [.int (zi x2), .int (zi 0), .int (zi 2)]) (rest := [.ref (bd 0)]) ⟨hx, hb, hml, hown, hts⟩ (ct_X8_isIn l D cI cZ cJ x2 0 2 ⟨by omega, by omega⟩ ⟨by decide, by decide⟩ ⟨by decide, by decide⟩) (va_cwS 3 hts gX8_orbit_X8_isIn rfl rfl rfl (by decide +kernel) ⟨Nat.le_of_ble_eq_true rfl, Nat.le_of_ble_eq_true rfl⟩) hK va_P_nil rfl hl.1 rfl (Nat.le_of_ble_eq_true rfl) dX8_orbit_43 ⟨Nat.zero_le _, Nat.zero_le _⟩) ?_
        refine zi_top (fun (r_43 : Int) (er_43 : r_43 = b2 (0 ≤ x2 ∧ x2 ≤ 2)) => ?_)
        have fr_43 : (0 : Int) ≤ r_43 ∧ r_43 ≤ 1 := by rw [er_43]; exact b2_b
        have fr_431 : (r_43 = 1 ∧ (0 ≤ x2 ∧ x2 ≤ 2)) ∨ (r_43 = 0 ∧ ¬ (0 ≤ x2 ∧ x2 ≤ 2)) := by rw [er_43]; exact b2_or _
        refine zi_if_eq (tgt := 53) hx hb ⟨by omega, by omega⟩ dX8_orbit_46 (by decide) (fun c_46 => ?_) (fun c_46 => ?_)
        · refine zi_iconst hx hb dX8_orbit_53 ?_
          have hkk : (kM_orbit S x0 x1 x2) = 2 := by rw [kM_orbit, cif_f (by omega), cif_t (by omega)]
          refine zk_wi (zc_V (As := [.int (zi 2)]) (rest := []) ⟨hx, hb, hml, hown, hts⟩ (ct_X8_can l D cI cZ cJ bd S_12 hI_12 hdis 2 ⟨by decide, by decide⟩ (by omega) (by omega)) (cwV 1 hts gX8_orbit_X8_can rfl rfl rfl (by decide +kernel) ⟨Nat.le_of_ble_eq_true rfl, Nat.le_of_ble_eq_true rfl⟩) hK hP (q0 := 0) (ci := 8) rfl rfl rfl rfl hl.1 rfl (Nat.le_of_ble_eq_true rfl) dX8_orbit_54 ⟨Nat.zero_le _, Nat.zero_le _⟩) hS (fun r_54 S_54 H locs hp_54 hP hS => ?_)
          obtain ⟨er_54, e9, hI_54⟩ := hp_54
          have eS_54 := e9.symm; clear e9
          have fr_54 : (0 : Int) ≤ r_54 ∧ r_54 ≤ 1 := by rw [er_54]; exact b2_b
          have k_54 : r_54 = 0 := er_54.trans (b2_f (by decide))
          refine zi_if_ne (tgt := 62) hx hb ⟨by omega, by omega⟩ dX8_orbit_57 (by decide) (fun c_57 => ?_) (fun c_57 => ?_)
          · exact absurd c_57 (by omega)
          · refine zi_iconst hx hb dX8_orbit_60 ?_
            exact zr_wi (T := S_54) hx hb hr hlocks dX8_orbit_61 hP hS (by exact ⟨pub_no hkk (by decide) (by rw [← eS_12]; exact SM_la.tr SM_fd) eS_54, hI_54⟩)
        · refine zi_iconst hx hb dX8_orbit_49 ?_
          refine lv_goto (tgt := 54) hx hb dX8_orbit_50 (by decide) ?_
          have hkk : (kM_orbit S x0 x1 x2) = 0 := by rw [kM_orbit, cif_f (by omega), cif_f (by omega)]
          refine zk_wi (zc_V (As := [.int (zi 0)]) (rest := []) ⟨hx, hb, hml, hown, hts⟩ (ct_X8_can l D cI cZ cJ bd S_12 hI_12 hdis 0 ⟨by decide, by decide⟩ (by omega) (by omega)) (cwV 1 hts gX8_orbit_X8_can rfl rfl rfl (by decide +kernel) ⟨Nat.le_of_ble_eq_true rfl, Nat.le_of_ble_eq_true rfl⟩) hK hP (q0 := 0) (ci := 8) rfl rfl rfl rfl hl.1 rfl (Nat.le_of_ble_eq_true rfl) dX8_orbit_54 ⟨Nat.zero_le _, Nat.zero_le _⟩) hS (fun r_54 S_54 H locs hp_54 hP hS => ?_)
          obtain ⟨er_54, e9, hI_54⟩ := hp_54
          have eS_54 := e9.symm; clear e9
          have fr_54 : (0 : Int) ≤ r_54 ∧ r_54 ≤ 1 := by rw [er_54]; exact b2_b
          have k_54 : r_54 = 1 := er_54.trans (b2_t rfl)
          refine zi_if_ne (tgt := 62) hx hb ⟨by omega, by omega⟩ dX8_orbit_57 (by decide) (fun c_57 => ?_) (fun c_57 => ?_)
          · refine lv_aload_n hx hb dX8_orbit_62 rfl (lv_at hl 1 rfl) ?_
            refine lv_iload_n hx hb dX8_orbit_63 rfl (lv_at hl 3 rfl) ?_
            refine zk_r (zc_V (As := [.int (zi x1)]) (rest := []) ⟨hx, hb, hml, hown, hts⟩ (ct_X8_keyAt l D cI cZ cJ bd S_54 hI_54 x1 ⟨by omega, by omega⟩) (cwV 1 hts gX8_orbit_X8_keyAt rfl rfl rfl (by decide +kernel) ⟨Nat.le_of_ble_eq_true rfl, Nat.le_of_ble_eq_true rfl⟩) hK hP (q0 := 0) (ci := 8) rfl rfl rfl rfl hl.1 rfl (Nat.le_of_ble_eq_true rfl) dX8_orbit_64 ⟨Nat.zero_le _, Nat.zero_le _⟩) ?_
            refine zi_top (fun (r_64 : Int) (er_64 : r_64 = kaR S_54 x1 21 0 1457999) => ?_)
            have fr_64 : (0 : Int) ≤ r_64 ∧ r_64 ≤ 1457999 := by rw [er_64]; exact kaR_b 21 0 1457999 (by decide) (by decide) (by decide)
            refine lv_istore (lv' := [(5, .int (zi r_64)), (4, .int (zi 1)), (0, .ref (bd 0)), (1, .int (zi x0)), (2, .int (zi x1)), (3, .int (zi x2))]) hx hb dX8_orbit_67 hl (by decide) rfl (fun ls hl => ?_)
            refine lv_iload_n hx hb dX8_orbit_69 rfl (lv_at hl 5 rfl) ?_
            refine zi_if_ne (tgt := 82) hx hb ⟨by omega, by omega⟩ dX8_orbit_70 (by decide) (fun c_70 => ?_) (fun c_70 => ?_)
            · refine lv_iload_n hx hb dX8_orbit_82 rfl (lv_at hl 5 rfl) ?_
              refine zi_iconst hx hb dX8_orbit_83 ?_
              refine zi_icmp_ne (tgt := 101) hx hb ⟨by omega, by omega⟩ ⟨by decide, by decide⟩ dX8_orbit_84 (by decide) (fun c_84 => ?_) (fun c_84 => ?_)
              · refine lv_iload hx hb dX8_orbit_101 (lv_at hl 0 rfl) ?_
                refine zi_iconst hx hb dX8_orbit_103 ?_
                refine zi_irem hx hb ⟨by omega, by omega⟩ ⟨by omega, by omega⟩ (by omega) (by omega) dX8_orbit_104 ?_
                refine zi_iconst hx hb dX8_orbit_105 ?_
                refine zi_isub hx hb dX8_orbit_106 ?_
                exact zr_wi (T := S_54) hx hb hr hlocks dX8_orbit_107 hP hS (by exact ⟨pub_ok hkk (by rw [if_neg (by omega), if_neg (by omega), eS_12, eS_54, ← er_64]) (by rw [← eS_54, ← eS_12]; exact SM_u (SM_la.tr SM_fd) rfl), hI_54⟩)
              · refine lv_iload hx hb dX8_orbit_87 (lv_at hl 0 rfl) ?_
                refine zi_sipush hx hb dX8_orbit_89 (by decide) ?_
                refine zi_irem hx hb ⟨by omega, by omega⟩ ⟨by omega, by omega⟩ (by omega) (by omega) dX8_orbit_92 ?_
                refine zi_iconst hx hb dX8_orbit_93 ?_
                refine zi_idiv hx hb ⟨by omega, by omega⟩ ⟨by omega, by omega⟩ (by omega) (by omega) dX8_orbit_94 ?_
                refine zi_bipush hx hb dX8_orbit_95 (by decide) ?_
                refine zi_isub hx hb dX8_orbit_97 ?_
                refine lv_goto (tgt := 107) hx hb dX8_orbit_98 (by decide) ?_
                exact zr_wi (T := S_54) hx hb hr hlocks dX8_orbit_107 hP hS (by exact ⟨pub_ok hkk (by rw [if_neg (by omega), if_pos (by omega), eS_12, eS_54, ← er_64]) (by rw [← eS_54, ← eS_12]; exact SM_u (SM_la.tr SM_fd) rfl), hI_54⟩)
            · refine lv_iload hx hb dX8_orbit_73 (lv_at hl 0 rfl) ?_
              refine zi_sipush hx hb dX8_orbit_75 (by decide) ?_
              refine zi_idiv hx hb ⟨by omega, by omega⟩ ⟨by omega, by omega⟩ (by omega) (by omega) dX8_orbit_78 ?_
              refine lv_goto (tgt := 107) hx hb dX8_orbit_79 (by decide) ?_
              exact zr_wi (T := S_54) hx hb hr hlocks dX8_orbit_107 hP hS (by exact ⟨pub_ok hkk (by rw [if_pos (by omega), eS_12, eS_54, ← er_64]) (by rw [← eS_54, ← eS_12]; exact SM_u (SM_la.tr SM_fd) rfl), hI_54⟩)
          · exact absurd c_57 (by omega)
      · exact absurd c_33 (by omega)

noncomputable def kM_join (S : ZS) (x0 x1 : Int) : Int := cif (¬ ((0 ≤ x0 ∧ x0 < S 11 0) ∧ (0 ≤ x1 ∧ x1 < S 11 0))) 1 (cif (¬ cjP S x0 x1) 2 0)
noncomputable def jnM (Q : ZS) (x0 x1 r : Int) : ZS := su (su (su Q 12 (up (Q 12) (if r = x0 then x1 else x0) r)) 13 (up (Q 13) (if r = x0 then x1 else x0) (Q 17 0))) 17 (fun _ => Q 17 0 + 1)
noncomputable def joinQ (S : ZS) (x0 x1 r : Int) (T : ZS) : Prop := (¬ kM_join S x0 x1 = 0 → SM (su S 31 (fun _ => kM_join S x0 x1)) T) ∧ (kM_join S x0 x1 = 0 → ∃ Q : ZS, SM (su S 31 (fun _ => 0)) Q ∧ MI Q ∧ r = strM Q x0 x1 ∧ SM (jnM Q x0 x1 r) T)
theorem join_no {S P T : ZS} {x0 x1 k r : Int} (hK : kM_join S x0 x1 = k) (hk : ¬ k = 0) (h : SM S P) (e : su P 31 (fun _ => k) = T) : joinQ S x0 x1 r T := by
  subst hK
  exact ⟨fun _ => by rw [← e]; exact SM_u h rfl, fun h9 => absurd h9 hk⟩
theorem join_ok {S P Q T : ZS} {x0 x1 r j : Int} (hK : kM_join S x0 x1 = 0) (h : SM S P) (e : su P 31 (fun _ => 0) = Q) (hQ : MI Q) (hr : r = strM Q x0 x1) (hj : j = if r = x0 then x1 else x0) {U V W : ZS} (hU : SM Q U) (e1 : su U 12 (up (U 12) j r) = V) (e2 : su V 13 (up (V 13) j (U 17 0)) = W) (e3 : su W 17 (fun _ => U 17 0 + 1) = T) : joinQ S x0 x1 r T := by
  refine ⟨fun h9 => absurd hK h9, fun _ => ⟨Q, by rw [← e]; exact SM_u h rfl, hQ, hr, ?_⟩⟩
  subst hj
  rw [← e3, ← e2, ← e1]
  refine SM_u (SM_u (SM_u hU (by rw [hU 12 rfl])) ?_) ?_
  · show up (Q 13) _ (Q 17 0) = up (U 13) _ (U 17 0)
    rw [hU 13 rfl, hU 17 rfl]
  · show (fun _ => Q 17 0 + 1) = (fun _ => U 17 0 + 1)
    rw [hU 17 rfl]
theorem in_X8_join_8 : ∀ w ∈ wsX80, w ∈ wsX8_join := by decide +kernel
theorem lk_X8_join_34 : Cond.fieldLink RX8 34 "PlanetoidDeskModel" "above" "[I" ∈ wsX8_join := by decide +kernel
theorem lk_X8_join_37 : Cond.fieldLink RX8 37 "PlanetoidDeskModel" "joinedAt" "[I" ∈ wsX8_join := by decide +kernel
theorem lk_X8_join_182 : Cond.fieldLink RX8 182 "PlanetoidDeskModel" "joins" "I" ∈ wsX8_join := by decide +kernel
abbrev rmct_X8_join : Room := { frames := 6, cells := 0, slots := 0, locals := 139 }
set_option maxHeartbeats 4000000 in
set_option maxRecDepth 100000 in
theorem ct_X8_join (l : Launch) (D : va_G) (cI cZ cJ : ClassId) (bd : Nat → Nat) (S : ZS) (hI : MI S) (hdis : mDis bd) (x0 x1 : Int) (hx0 : ir x0) (hx1 : ir x1) (hac : accM S) (hdj : 0 ≤ x0 → x0 < S 11 0 → 0 ≤ x1 → x1 < S 11 0 → x0 ≠ x1 → S 12 x0 = -1 → S 12 x1 = -1 → ∀ k : Int, 0 ≤ k → k < S 6 0 → ¬ (lookM S k x0 ∧ lookM S k x1)) (hjj : S 17 0 < 100000) : Met l yX8_join wsX8_join rmct_X8_join (zP D cI cZ cJ (mW cI cZ bd S) [.ref (bd 0), .int (zi x0), .int (zi x1)]) (zWi D (mW cI cZ bd) (mA bd) (fun r T => joinQ S x0 x1 r T ∧ MI T)) 0 0 (mA bd) := by
  refine Met.ofW (cc := cX8_join) (maxL := 6) (ret := (some .int)) (by decide) rfl ?_
  intro p e s m args below meth c s₁ B hml hv
  obtain ⟨rfl, hP, hK⟩ := hv
  have hx := B.exec
  have hb := B.bytes
  have hr := B.returns
  have hts := atoms_spec (ws := wsX8_join) B.pre
  have hown : s.vm.findClass RX8 = some m.cls := findClass_of_methodNamed B.named
  have hlocks := B.notSynchronized
  have hl := lv_entry ([.ref (bd 0), .int (zi x0), .int (zi x1)]) (n := 6) (Nat.le_of_ble_eq_true rfl)
  rw [lg_entry_eq]
  generalize (lg_sl ([.ref (bd 0), .int (zi x0), .int (zi x1)]) ++ List.replicate (6 - (lg_sl ([.ref (bd 0), .int (zi x0), .int (zi x1)])).length) Slot.unset).toArray = ls at hl ⊢
  have hl : lv_has ls 6 [(0, .ref (bd 0)), (1, .int (zi x0)), (2, .int (zi x1))] := hl
  have hS : va_S (mA bd) s.heap s.heap [] := va_S.rf
  show W p l e rmct_X8_join s m ([.ref (bd 0), .int (zi x0), .int (zi x1)] : List Value).toArray below meth c s.heap [] 0 0 (MQ below (zWi D (mW cI cZ bd) (mA bd) (fun r T => joinQ S x0 x1 r T ∧ MI T)) ([.ref (bd 0), .int (zi x0), .int (zi x1)] : List Value).toArray s 0 0 (mA bd)) (F0 m 0 ls [])
  have hc0 : (0 : Int) ≤ S 11 0 ∧ S 11 0 ≤ 20 := hI 11 0
  have hc6 : (0 : Int) ≤ S 6 0 ∧ S 6 0 ≤ 60 := hI 6 0
  refine lv_aload_n hx hb dX8_join_0 rfl (lv_at hl 0 rfl) ?_
  refine lv_iload_n hx hb dX8_join_1 rfl (lv_at hl 1 rfl) ?_
  refine zk_r (zc_V (As := [.int (zi x0)]) (rest := []) ⟨hx, hb, hml, hown, hts⟩ (ct_X8_isBody l D cI cZ cJ bd S hI x0 ⟨by omega, by omega⟩) (cwV 1 hts gX8_join_X8_isBody rfl rfl rfl (by decide +kernel) ⟨Nat.le_of_ble_eq_true rfl, Nat.le_of_ble_eq_true rfl⟩) hK hP (q0 := 0) (ci := 8) rfl rfl rfl rfl hl.1 rfl (Nat.le_of_ble_eq_true rfl) dX8_join_2 ⟨Nat.zero_le _, Nat.zero_le _⟩) ?_
  refine zi_top (fun (r_2 : Int) (er_2 : r_2 = b2 (0 ≤ x0 ∧ x0 < S 11 0)) => ?_)
  have fr_2 : (0 : Int) ≤ r_2 ∧ r_2 ≤ 1 := by rw [er_2]; exact b2_b
  have fr_21 : (r_2 = 1 ∧ (0 ≤ x0 ∧ x0 < S 11 0)) ∨ (r_2 = 0 ∧ ¬ (0 ≤ x0 ∧ x0 < S 11 0)) := by rw [er_2]; exact b2_or _
  refine zi_if_eq (tgt := 20) hx hb ⟨by omega, by omega⟩ dX8_join_5 (by decide) (fun c_5 => ?_) (fun c_5 => ?_)
  · refine zi_iconst hx hb dX8_join_20 ?_
    refine lv_istore_n (lv' := [(3, .int (zi 0)), (0, .ref (bd 0)), (1, .int (zi x0)), (2, .int (zi x1))]) hx hb dX8_join_21 rfl hl (by decide) rfl (fun ls hl => ?_)
    refine lv_aload_n hx hb dX8_join_22 rfl (lv_at hl 1 rfl) ?_
    refine lv_iload_n hx hb dX8_join_23 rfl (lv_at hl 0 rfl) ?_
    refine zi_if_ne (tgt := 31) hx hb ⟨by decide, by decide⟩ dX8_join_24 (by decide) (fun c_24 => ?_) (fun c_24 => ?_)
    · exact absurd c_24 (by omega)
    · refine zi_iconst hx hb dX8_join_27 ?_
      refine lv_goto (tgt := 45) hx hb dX8_join_28 (by decide) ?_
      have hkk : kM_join S x0 x1 = 1 := by rw [kM_join, cif_t (by omega)]
      refine zk_wi (zc_V (As := [.int (zi 1)]) (rest := []) ⟨hx, hb, hml, hown, hts⟩ (ct_X8_can l D cI cZ cJ bd S hI hdis 1 ⟨by decide, by decide⟩ (by omega) (by omega)) (cwV 1 hts gX8_join_X8_can rfl rfl rfl (by decide +kernel) ⟨Nat.le_of_ble_eq_true rfl, Nat.le_of_ble_eq_true rfl⟩) hK hP (q0 := 0) (ci := 8) rfl rfl rfl rfl hl.1 rfl (Nat.le_of_ble_eq_true rfl) dX8_join_45 ⟨Nat.zero_le _, Nat.zero_le _⟩) hS (fun r_45 S_45 H locs hp_45 hP hS => ?_)
      obtain ⟨er_45, e9, hI_45⟩ := hp_45
      have eS_45 := e9.symm; clear e9
      have fr_45 : (0 : Int) ≤ r_45 ∧ r_45 ≤ 1 := by rw [er_45]; exact b2_b
      have k_45 : r_45 = 0 := er_45.trans (b2_f (by decide))
      refine zi_if_ne (tgt := 53) hx hb ⟨by omega, by omega⟩ dX8_join_48 (by decide) (fun c_48 => ?_) (fun c_48 => ?_)
      · exact absurd c_48 (by omega)
      · refine zi_iconst hx hb dX8_join_51 ?_
        exact zr_wi (T := S_45) hx hb hr hlocks dX8_join_52 hP hS (by exact ⟨join_no hkk (by decide) (SM.rf) eS_45, hI_45⟩)
  · refine lv_aload_n hx hb dX8_join_8 rfl (lv_at hl 0 rfl) ?_
    refine lv_iload_n hx hb dX8_join_9 rfl (lv_at hl 2 rfl) ?_
    refine zk_r (zc_V (As := [.int (zi x1)]) (rest := []) ⟨hx, hb, hml, hown, hts⟩ (ct_X8_isBody l D cI cZ cJ bd S hI x1 ⟨by omega, by omega⟩) (cwV 1 hts gX8_join_X8_isBody rfl rfl rfl (by decide +kernel) ⟨Nat.le_of_ble_eq_true rfl, Nat.le_of_ble_eq_true rfl⟩) hK hP (q0 := 0) (ci := 8) rfl rfl rfl rfl hl.1 rfl (Nat.le_of_ble_eq_true rfl) dX8_join_10 ⟨Nat.zero_le _, Nat.zero_le _⟩) ?_
    refine zi_top (fun (r_10 : Int) (er_10 : r_10 = b2 (0 ≤ x1 ∧ x1 < S 11 0)) => ?_)
    have fr_10 : (0 : Int) ≤ r_10 ∧ r_10 ≤ 1 := by rw [er_10]; exact b2_b
    have fr_101 : (r_10 = 1 ∧ (0 ≤ x1 ∧ x1 < S 11 0)) ∨ (r_10 = 0 ∧ ¬ (0 ≤ x1 ∧ x1 < S 11 0)) := by rw [er_10]; exact b2_or _
    refine zi_if_eq (tgt := 20) hx hb ⟨by omega, by omega⟩ dX8_join_13 (by decide) (fun c_13 => ?_) (fun c_13 => ?_)
    · refine zi_iconst hx hb dX8_join_20 ?_
      refine lv_istore_n (lv' := [(3, .int (zi 0)), (0, .ref (bd 0)), (1, .int (zi x0)), (2, .int (zi x1))]) hx hb dX8_join_21 rfl hl (by decide) rfl (fun ls hl => ?_)
      refine lv_aload_n hx hb dX8_join_22 rfl (lv_at hl 1 rfl) ?_
      refine lv_iload_n hx hb dX8_join_23 rfl (lv_at hl 0 rfl) ?_
      refine zi_if_ne (tgt := 31) hx hb ⟨by decide, by decide⟩ dX8_join_24 (by decide) (fun c_24 => ?_) (fun c_24 => ?_)
      · exact absurd c_24 (by omega)
      · refine zi_iconst hx hb dX8_join_27 ?_
        refine lv_goto (tgt := 45) hx hb dX8_join_28 (by decide) ?_
        have hkk : kM_join S x0 x1 = 1 := by rw [kM_join, cif_t (by omega)]
        refine zk_wi (zc_V (As := [.int (zi 1)]) (rest := []) ⟨hx, hb, hml, hown, hts⟩ (ct_X8_can l D cI cZ cJ bd S hI hdis 1 ⟨by decide, by decide⟩ (by omega) (by omega)) (cwV 1 hts gX8_join_X8_can rfl rfl rfl (by decide +kernel) ⟨Nat.le_of_ble_eq_true rfl, Nat.le_of_ble_eq_true rfl⟩) hK hP (q0 := 0) (ci := 8) rfl rfl rfl rfl hl.1 rfl (Nat.le_of_ble_eq_true rfl) dX8_join_45 ⟨Nat.zero_le _, Nat.zero_le _⟩) hS (fun r_45 S_45 H locs hp_45 hP hS => ?_)
        obtain ⟨er_45, e9, hI_45⟩ := hp_45
        have eS_45 := e9.symm; clear e9
        have fr_45 : (0 : Int) ≤ r_45 ∧ r_45 ≤ 1 := by rw [er_45]; exact b2_b
        have k_45 : r_45 = 0 := er_45.trans (b2_f (by decide))
        refine zi_if_ne (tgt := 53) hx hb ⟨by omega, by omega⟩ dX8_join_48 (by decide) (fun c_48 => ?_) (fun c_48 => ?_)
        · exact absurd c_48 (by omega)
        · refine zi_iconst hx hb dX8_join_51 ?_
          exact zr_wi (T := S_45) hx hb hr hlocks dX8_join_52 hP hS (by exact ⟨join_no hkk (by decide) (SM.rf) eS_45, hI_45⟩)
    · refine zi_iconst hx hb dX8_join_16 ?_
      refine lv_goto (tgt := 21) hx hb dX8_join_17 (by decide) ?_
      refine lv_istore_n (lv' := [(3, .int (zi 1)), (0, .ref (bd 0)), (1, .int (zi x0)), (2, .int (zi x1))]) hx hb dX8_join_21 rfl hl (by decide) rfl (fun ls hl => ?_)
      refine lv_aload_n hx hb dX8_join_22 rfl (lv_at hl 1 rfl) ?_
      refine lv_iload_n hx hb dX8_join_23 rfl (lv_at hl 0 rfl) ?_
      refine zi_if_ne (tgt := 31) hx hb ⟨by decide, by decide⟩ dX8_join_24 (by decide) (fun c_24 => ?_) (fun c_24 => ?_)
      · refine lv_aload_n hx hb dX8_join_31 rfl (lv_at hl 1 rfl) ?_
        refine lv_iload_n hx hb dX8_join_32 rfl (lv_at hl 2 rfl) ?_
        refine lv_iload_n hx hb dX8_join_33 rfl (lv_at hl 3 rfl) ?_
        refine zk_wi (zc_V (As := [.int (zi x0), .int (zi x1)]) (rest := [.ref (bd 0)]) ⟨hx, hb, hml, hown, hts⟩ (ct_X8_canJoin l D cI cZ cJ bd S hI hdis x0 x1 ⟨by omega, by omega⟩ ⟨by omega, by omega⟩ (by omega) (by omega) (by omega) (by omega) hac (hdj (by omega) (by omega) (by omega) (by omega))) (cwV 2 hts gX8_join_X8_canJoin rfl rfl rfl (by decide +kernel) ⟨Nat.le_of_ble_eq_true rfl, Nat.le_of_ble_eq_true rfl⟩) hK hP (q0 := 0) (ci := 8) rfl rfl rfl rfl hl.1 rfl (Nat.le_of_ble_eq_true rfl) dX8_join_34 ⟨Nat.zero_le _, Nat.zero_le _⟩) hS (fun r_34 S_34 H locs hp_34 hP hS => ?_)
        obtain ⟨er_34, hsm_34, hI_34⟩ := hp_34
        have fr_34 : (0 : Int) ≤ r_34 ∧ r_34 ≤ 1 := by rw [er_34]; exact b2_b
        refine zi_if_eq (tgt := 44) hx hb ⟨by omega, by omega⟩ dX8_join_37 (by decide) (fun c_37 => ?_) (fun c_37 => ?_)
        · refine zi_iconst hx hb dX8_join_44 ?_
          have hkk : kM_join S x0 x1 = 2 := by rw [kM_join, cif_f (by omega), cif_t (b2_0 er_34 c_37)]
          refine zk_wi (zc_V (As := [.int (zi 2)]) (rest := []) ⟨hx, hb, hml, hown, hts⟩ (ct_X8_can l D cI cZ cJ bd S_34 hI_34 hdis 2 ⟨by decide, by decide⟩ (by omega) (by omega)) (cwV 1 hts gX8_join_X8_can rfl rfl rfl (by decide +kernel) ⟨Nat.le_of_ble_eq_true rfl, Nat.le_of_ble_eq_true rfl⟩) hK hP (q0 := 0) (ci := 8) rfl rfl rfl rfl hl.1 rfl (Nat.le_of_ble_eq_true rfl) dX8_join_45 ⟨Nat.zero_le _, Nat.zero_le _⟩) hS (fun r_45 S_45 H locs hp_45 hP hS => ?_)
          obtain ⟨er_45, e9, hI_45⟩ := hp_45
          have eS_45 := e9.symm; clear e9
          have fr_45 : (0 : Int) ≤ r_45 ∧ r_45 ≤ 1 := by rw [er_45]; exact b2_b
          have k_45 : r_45 = 0 := er_45.trans (b2_f (by decide))
          refine zi_if_ne (tgt := 53) hx hb ⟨by omega, by omega⟩ dX8_join_48 (by decide) (fun c_48 => ?_) (fun c_48 => ?_)
          · exact absurd c_48 (by omega)
          · refine zi_iconst hx hb dX8_join_51 ?_
            exact zr_wi (T := S_45) hx hb hr hlocks dX8_join_52 hP hS (by exact ⟨join_no hkk (by decide) (hsm_34) eS_45, hI_45⟩)
        · refine zi_iconst hx hb dX8_join_40 ?_
          refine lv_goto (tgt := 45) hx hb dX8_join_41 (by decide) ?_
          have hkk : kM_join S x0 x1 = 0 := by rw [kM_join, cif_f (by omega), cif_f (fun h9 => h9 (b2_1 er_34 c_37))]
          refine zk_wi (zc_V (As := [.int (zi 0)]) (rest := []) ⟨hx, hb, hml, hown, hts⟩ (ct_X8_can l D cI cZ cJ bd S_34 hI_34 hdis 0 ⟨by decide, by decide⟩ (by omega) (by omega)) (cwV 1 hts gX8_join_X8_can rfl rfl rfl (by decide +kernel) ⟨Nat.le_of_ble_eq_true rfl, Nat.le_of_ble_eq_true rfl⟩) hK hP (q0 := 0) (ci := 8) rfl rfl rfl rfl hl.1 rfl (Nat.le_of_ble_eq_true rfl) dX8_join_45 ⟨Nat.zero_le _, Nat.zero_le _⟩) hS (fun r_45 S_45 H locs hp_45 hP hS => ?_)
          obtain ⟨er_45, e9, hI_45⟩ := hp_45
          have eS_45 := e9.symm; clear e9
          have fr_45 : (0 : Int) ≤ r_45 ∧ r_45 ≤ 1 := by rw [er_45]; exact b2_b
          have k_45 : r_45 = 1 := er_45.trans (b2_t rfl)
          refine zi_if_ne (tgt := 53) hx hb ⟨by omega, by omega⟩ dX8_join_48 (by decide) (fun c_48 => ?_) (fun c_48 => ?_)
          · have h_14 : S_45 17 0 < 100000 := by rw [← eS_45]; show S_34 17 0 < 100000; rw [hsm_34 17 rfl]; exact hjj
            refine lv_aload_n hx hb dX8_join_53 rfl (lv_at hl 1 rfl) ?_
            refine lv_iload_n hx hb dX8_join_54 rfl (lv_at hl 2 rfl) ?_
            refine lv_iload_n hx hb dX8_join_55 rfl (lv_at hl 3 rfl) ?_
            refine zk_wi (zc_V (As := [.int (zi x0), .int (zi x1)]) (rest := []) ⟨hx, hb, hml, hown, hts⟩ (ct_X8_stronger l D cI cZ cJ bd S_45 hI_45 hdis x0 x1 ⟨by omega, by omega⟩ ⟨by omega, by omega⟩ (by omega) (by omega) (by omega) (by omega) (by rw [← eS_45]; exact accM_su (accM_sm hsm_34 hac) (by decide) (by decide) (by decide))) (cwV 2 hts gX8_join_X8_stronger rfl rfl rfl (by decide +kernel) ⟨Nat.le_of_ble_eq_true rfl, Nat.le_of_ble_eq_true rfl⟩) hK hP (q0 := 0) (ci := 8) rfl rfl rfl rfl hl.1 rfl (Nat.le_of_ble_eq_true rfl) dX8_join_56 ⟨Nat.zero_le _, Nat.zero_le _⟩) hS (fun r_56 S_56 H locs hp_56 hP hS => ?_)
            obtain ⟨er_56, hsm_56, hI_56⟩ := hp_56
            have fr_56 : (0 : Int) ≤ r_56 ∧ r_56 ≤ 19 := by rw [er_56]; exact strM_b (by omega) (by omega) (by omega) (by omega)
            refine lv_istore (lv' := [(4, .int (zi r_56)), (3, .int (zi 1)), (0, .ref (bd 0)), (1, .int (zi x0)), (2, .int (zi x1))]) hx hb dX8_join_59 hl (by decide) rfl (fun ls hl => ?_)
            refine lv_iload hx hb dX8_join_61 (lv_at hl 0 rfl) ?_
            refine lv_iload_n hx hb dX8_join_63 rfl (lv_at hl 3 rfl) ?_
            refine zi_icmp_ne (tgt := 71) hx hb ⟨by omega, by omega⟩ ⟨by omega, by omega⟩ dX8_join_64 (by decide) (fun c_64 => ?_) (fun c_64 => ?_)
            · refine lv_iload_n hx hb dX8_join_71 rfl (lv_at hl 3 rfl) ?_
              have h_14b : S_56 17 0 < 100000 := by rw [hsm_56 17 rfl]; exact h_14
              refine lv_istore (lv' := [(5, .int (zi x0)), (4, .int (zi r_56)), (3, .int (zi 1)), (0, .ref (bd 0)), (1, .int (zi x0)), (2, .int (zi x1))]) hx hb dX8_join_72 hl (by decide) rfl (fun ls hl => ?_)
              refine lv_aload_n hx hb dX8_join_74 rfl (lv_at hl 3 rfl) ?_
              refine va_get (D := D) (ci := 8) (v := .ref (bd 13)) (C := RX8) (T := TX8) (N := 32) hx hb hts in_X8_join_8 hown hK.1 hP 0 rfl rfl 12 (by decide) (hts _ lk_X8_join_34) (fun _ h9 => h9) rfl dX8_join_75 ?_
              refine lv_iload hx hb dX8_join_78 (lv_at hl 0 rfl) ?_
              refine lv_iload hx hb dX8_join_80 (lv_at hl 1 rfl) ?_
              refine zi_iast hx hb hK.1 hP (mW_D hdis _) hS 9 0 rfl rfl (by omega) (by omega) (by decide) dX8_join_82 (fun H locs hP hS => ?_)
              have hP : va_P D vwCl (mW cI cZ bd (su S_56 12 (up (S_56 12) x0 r_56))) H := hP
              have hI_82 : MI (su S_56 12 (up (S_56 12) x0 r_56)) := MI.up hI_56 12 x0 r_56 (show (-1 : Int) ≤ r_56 ∧ r_56 ≤ 19 from ⟨by omega, by omega⟩)
              generalize eS_82 : su S_56 12 (up (S_56 12) x0 r_56) = S_82 at hP hI_82
              refine lv_aload_n hx hb dX8_join_83 rfl (lv_at hl 3 rfl) ?_
              refine va_get (D := D) (ci := 8) (v := .ref (bd 14)) (C := RX8) (T := TX8) (N := 32) hx hb hts in_X8_join_8 hown hK.1 hP 0 rfl rfl 13 (by decide) (hts _ lk_X8_join_37) (fun _ h9 => h9) rfl dX8_join_84 ?_
              refine lv_iload hx hb dX8_join_87 (lv_at hl 0 rfl) ?_
              refine lv_aload_n hx hb dX8_join_89 rfl (lv_at hl 3 rfl) ?_
              refine va_get (D := D) (ci := 8) (v := .int (zi (S_82 17 0))) (C := RX8) (T := TX8) (N := 32) hx hb hts in_X8_join_8 hown hK.1 hP 0 rfl rfl 17 (by decide) (hts _ lk_X8_join_182) (fun _ h9 => h9) rfl dX8_join_90 ?_
              refine zi_is (S_56 17 0) (by rw [← eS_82] <;> rfl) ?_
              have f_90 : (0 : Int) ≤ S_56 17 0 ∧ S_56 17 0 ≤ 100000 := hI_56 17 0
              refine zi_iast hx hb hK.1 hP (mW_D hdis _) hS 10 0 rfl rfl (by omega) (by omega) (by decide) dX8_join_93 (fun H locs hP hS => ?_)
              have hP : va_P D vwCl (mW cI cZ bd (su S_82 13 (up (S_82 13) x0 (S_56 17 0)))) H := hP
              have hI_93 : MI (su S_82 13 (up (S_82 13) x0 (S_56 17 0))) := MI.up hI_82 13 x0 (S_56 17 0) (show (0 : Int) ≤ (S_56 17 0) ∧ (S_56 17 0) ≤ 100000 from ⟨by omega, by omega⟩)
              generalize eS_93 : su S_82 13 (up (S_82 13) x0 (S_56 17 0)) = S_93 at hP hI_93
              refine lv_aload_n hx hb dX8_join_94 rfl (lv_at hl 3 rfl) ?_
              refine lv_dup hx hb dX8_join_95 rfl ?_
              refine va_get (D := D) (ci := 8) (v := .int (zi (S_93 17 0))) (C := RX8) (T := TX8) (N := 32) hx hb hts in_X8_join_8 hown hK.1 hP 0 rfl rfl 17 (by decide) (hts _ lk_X8_join_182) (fun _ h9 => h9) rfl dX8_join_96 ?_
              refine zi_is (S_56 17 0) (by rw [← eS_93, ← eS_82] <;> rfl) ?_
              have f_96 : (0 : Int) ≤ S_56 17 0 ∧ S_56 17 0 ≤ 100000 := hI_56 17 0
              refine zi_iconst hx hb dX8_join_99 ?_
              refine zi_iadd hx hb dX8_join_100 ?_
              refine va_put (D := D) (ci := 8) (v := .int (zi ((S_56 17 0) + 1))) (ty := .int) (C := RX8) (T := TX8) (N := 32) hx hb hts in_X8_join_8 tyX8 tyX8_ok nmX8 hown hK.1 hP (mW_D hdis _) hS 0 rfl rfl 17 (by decide) (hts _ lk_X8_join_182) (fun _ h9 => h9) rfl (by decide +kernel) rfl rfl (Nat.le_of_ble_eq_true rfl) dX8_join_101 (fun H locs hP _ hS => ?_)
              have hP : va_P D vwCl (mW cI cZ bd (su S_93 17 (fun _ => (S_56 17 0) + 1))) H := hP
              have hI_101 : MI (su S_93 17 (fun _ => (S_56 17 0) + 1)) := MI.upc hI_93 17 ((S_56 17 0) + 1) (show (0 : Int) ≤ ((S_56 17 0) + 1) ∧ ((S_56 17 0) + 1) ≤ 100000 from ⟨by omega, by omega⟩)
              generalize eS_101 : su S_93 17 (fun _ => (S_56 17 0) + 1) = S_101 at hP hI_101
              refine lv_iload hx hb dX8_join_104 (lv_at hl 1 rfl) ?_
              exact zr_wi (T := S_101) hx hb hr hlocks dX8_join_106 hP hS (by exact ⟨join_ok hkk hsm_34 eS_45 hI_45 er_56 ((if_neg c_64).symm) hsm_56 eS_82 eS_93 eS_101, hI_101⟩)
            · refine lv_iload_n hx hb dX8_join_67 rfl (lv_at hl 4 rfl) ?_
              refine lv_goto (tgt := 72) hx hb dX8_join_68 (by decide) ?_
              have h_14b : S_56 17 0 < 100000 := by rw [hsm_56 17 rfl]; exact h_14
              refine lv_istore (lv' := [(5, .int (zi x1)), (4, .int (zi r_56)), (3, .int (zi 1)), (0, .ref (bd 0)), (1, .int (zi x0)), (2, .int (zi x1))]) hx hb dX8_join_72 hl (by decide) rfl (fun ls hl => ?_)
              refine lv_aload_n hx hb dX8_join_74 rfl (lv_at hl 3 rfl) ?_
              refine va_get (D := D) (ci := 8) (v := .ref (bd 13)) (C := RX8) (T := TX8) (N := 32) hx hb hts in_X8_join_8 hown hK.1 hP 0 rfl rfl 12 (by decide) (hts _ lk_X8_join_34) (fun _ h9 => h9) rfl dX8_join_75 ?_
              refine lv_iload hx hb dX8_join_78 (lv_at hl 0 rfl) ?_
              refine lv_iload hx hb dX8_join_80 (lv_at hl 1 rfl) ?_
              refine zi_iast hx hb hK.1 hP (mW_D hdis _) hS 9 0 rfl rfl (by omega) (by omega) (by decide) dX8_join_82 (fun H locs hP hS => ?_)
              have hP : va_P D vwCl (mW cI cZ bd (su S_56 12 (up (S_56 12) x1 r_56))) H := hP
              have hI_82 : MI (su S_56 12 (up (S_56 12) x1 r_56)) := MI.up hI_56 12 x1 r_56 (show (-1 : Int) ≤ r_56 ∧ r_56 ≤ 19 from ⟨by omega, by omega⟩)
              generalize eS_82 : su S_56 12 (up (S_56 12) x1 r_56) = S_82 at hP hI_82
              refine lv_aload_n hx hb dX8_join_83 rfl (lv_at hl 3 rfl) ?_
              refine va_get (D := D) (ci := 8) (v := .ref (bd 14)) (C := RX8) (T := TX8) (N := 32) hx hb hts in_X8_join_8 hown hK.1 hP 0 rfl rfl 13 (by decide) (hts _ lk_X8_join_37) (fun _ h9 => h9) rfl dX8_join_84 ?_
              refine lv_iload hx hb dX8_join_87 (lv_at hl 0 rfl) ?_
              refine lv_aload_n hx hb dX8_join_89 rfl (lv_at hl 3 rfl) ?_
              refine va_get (D := D) (ci := 8) (v := .int (zi (S_82 17 0))) (C := RX8) (T := TX8) (N := 32) hx hb hts in_X8_join_8 hown hK.1 hP 0 rfl rfl 17 (by decide) (hts _ lk_X8_join_182) (fun _ h9 => h9) rfl dX8_join_90 ?_
              refine zi_is (S_56 17 0) (by rw [← eS_82] <;> rfl) ?_
              have f_90 : (0 : Int) ≤ S_56 17 0 ∧ S_56 17 0 ≤ 100000 := hI_56 17 0
              refine zi_iast hx hb hK.1 hP (mW_D hdis _) hS 10 0 rfl rfl (by omega) (by omega) (by decide) dX8_join_93 (fun H locs hP hS => ?_)
              have hP : va_P D vwCl (mW cI cZ bd (su S_82 13 (up (S_82 13) x1 (S_56 17 0)))) H := hP
              have hI_93 : MI (su S_82 13 (up (S_82 13) x1 (S_56 17 0))) := MI.up hI_82 13 x1 (S_56 17 0) (show (0 : Int) ≤ (S_56 17 0) ∧ (S_56 17 0) ≤ 100000 from ⟨by omega, by omega⟩)
              generalize eS_93 : su S_82 13 (up (S_82 13) x1 (S_56 17 0)) = S_93 at hP hI_93
              refine lv_aload_n hx hb dX8_join_94 rfl (lv_at hl 3 rfl) ?_
              refine lv_dup hx hb dX8_join_95 rfl ?_
              refine va_get (D := D) (ci := 8) (v := .int (zi (S_93 17 0))) (C := RX8) (T := TX8) (N := 32) hx hb hts in_X8_join_8 hown hK.1 hP 0 rfl rfl 17 (by decide) (hts _ lk_X8_join_182) (fun _ h9 => h9) rfl dX8_join_96 ?_
              refine zi_is (S_56 17 0) (by rw [← eS_93, ← eS_82] <;> rfl) ?_
              have f_96 : (0 : Int) ≤ S_56 17 0 ∧ S_56 17 0 ≤ 100000 := hI_56 17 0
              refine zi_iconst hx hb dX8_join_99 ?_
              refine zi_iadd hx hb dX8_join_100 ?_
              refine va_put (D := D) (ci := 8) (v := .int (zi ((S_56 17 0) + 1))) (ty := .int) (C := RX8) (T := TX8) (N := 32) hx hb hts in_X8_join_8 tyX8 tyX8_ok nmX8 hown hK.1 hP (mW_D hdis _) hS 0 rfl rfl 17 (by decide) (hts _ lk_X8_join_182) (fun _ h9 => h9) rfl (by decide +kernel) rfl rfl (Nat.le_of_ble_eq_true rfl) dX8_join_101 (fun H locs hP _ hS => ?_)
              have hP : va_P D vwCl (mW cI cZ bd (su S_93 17 (fun _ => (S_56 17 0) + 1))) H := hP
              have hI_101 : MI (su S_93 17 (fun _ => (S_56 17 0) + 1)) := MI.upc hI_93 17 ((S_56 17 0) + 1) (show (0 : Int) ≤ ((S_56 17 0) + 1) ∧ ((S_56 17 0) + 1) ≤ 100000 from ⟨by omega, by omega⟩)
              generalize eS_101 : su S_93 17 (fun _ => (S_56 17 0) + 1) = S_101 at hP hI_101
              refine lv_iload hx hb dX8_join_104 (lv_at hl 1 rfl) ?_
              exact zr_wi (T := S_101) hx hb hr hlocks dX8_join_106 hP hS (by exact ⟨join_ok hkk hsm_34 eS_45 hI_45 er_56 ((if_pos c_64).symm) hsm_56 eS_82 eS_93 eS_101, hI_101⟩)
          · exact absurd c_48 (by omega)
      · exact absurd c_24 (by omega)

noncomputable def kM_ofBody (S : ZS) (x0 x1 : Int) : Int := cif (¬ (0 ≤ x0 ∧ x0 < S 11 0)) 1 (cif (¬ (0 ≤ x1 ∧ x1 ≤ 6)) 2 (0))
theorem in_X8_ofBody_8 : ∀ w ∈ wsX80, w ∈ wsX8_ofBody := by decide +kernel
theorem lk_X8_ofBody_34 : Cond.fieldLink RX8 34 "PlanetoidDeskModel" "above" "[I" ∈ wsX8_ofBody := by decide +kernel
theorem lk_X8_ofBody_16 : Cond.fieldLink RX8 16 "PlanetoidDeskModel" "seat" "[I" ∈ wsX8_ofBody := by decide +kernel
theorem lk_X8_ofBody_22 : Cond.fieldLink RX8 22 "PlanetoidDeskModel" "plateOf" "[I" ∈ wsX8_ofBody := by decide +kernel
theorem lk_X8_ofBody_40 : Cond.fieldLink RX8 40 "PlanetoidDeskModel" "numberOf" "[I" ∈ wsX8_ofBody := by decide +kernel
abbrev rmct_X8_ofBody : Room := { frames := 4, cells := 0, slots := 0, locals := 89 }
set_option maxHeartbeats 4000000 in
set_option maxRecDepth 100000 in
theorem ct_X8_ofBody (l : Launch) (D : va_G) (cI cZ cJ : ClassId) (bd : Nat → Nat) (S : ZS) (hI : MI S) (hdis : mDis bd) (x0 x1 : Int) (hx0 : ir x0) (hx1 : ir x1) (hac : accM S) : Met l yX8_ofBody wsX8_ofBody rmct_X8_ofBody (zP D cI cZ cJ (mW cI cZ bd S) [.ref (bd 0), .int (zi x0), .int (zi x1)]) (zWi D (mW cI cZ bd) (mA bd) (fun r T => pubQ S (kM_ofBody S x0 x1) (if x1 = 0 then laysM x0 (su S 31 (fun _ => 0)) 19 0 else if x1 = 1 then ownM (su S 31 (fun _ => 0)) x0 else if x1 = 2 then S 12 x0 else if x1 = 3 then S 4 (S 7 (firstM (laysM x0 (su S 31 (fun _ => 0))))) else if x1 = 4 then firstM (laysM x0 (su S 31 (fun _ => 0))) else if x1 = 5 then (if 0 < S 14 x0 then S 14 x0 else -1) else joinM (su S 31 (fun _ => 0)) x0) (fun P => P) r T ∧ MI T)) 0 0 (mA bd) := by
  refine Met.ofW (cc := cX8_ofBody) (maxL := 3) (ret := (some .int)) (by decide) rfl ?_
  intro p e s m args below meth c s₁ B hml hv
  obtain ⟨rfl, hP, hK⟩ := hv
  have hx := B.exec
  have hb := B.bytes
  have hr := B.returns
  have hts := atoms_spec (ws := wsX8_ofBody) B.pre
  have hown : s.vm.findClass RX8 = some m.cls := findClass_of_methodNamed B.named
  have hlocks := B.notSynchronized
  have hl := lv_entry ([.ref (bd 0), .int (zi x0), .int (zi x1)]) (n := 3) (Nat.le_of_ble_eq_true rfl)
  rw [lg_entry_eq]
  generalize (lg_sl ([.ref (bd 0), .int (zi x0), .int (zi x1)]) ++ List.replicate (3 - (lg_sl ([.ref (bd 0), .int (zi x0), .int (zi x1)])).length) Slot.unset).toArray = ls at hl ⊢
  have hl : lv_has ls 3 [(0, .ref (bd 0)), (1, .int (zi x0)), (2, .int (zi x1))] := hl
  have hS : va_S (mA bd) s.heap s.heap [] := va_S.rf
  show W p l e rmct_X8_ofBody s m ([.ref (bd 0), .int (zi x0), .int (zi x1)] : List Value).toArray below meth c s.heap [] 0 0 (MQ below (zWi D (mW cI cZ bd) (mA bd) (fun r T => pubQ S (kM_ofBody S x0 x1) (if x1 = 0 then laysM x0 (su S 31 (fun _ => 0)) 19 0 else if x1 = 1 then ownM (su S 31 (fun _ => 0)) x0 else if x1 = 2 then S 12 x0 else if x1 = 3 then S 4 (S 7 (firstM (laysM x0 (su S 31 (fun _ => 0))))) else if x1 = 4 then firstM (laysM x0 (su S 31 (fun _ => 0))) else if x1 = 5 then (if 0 < S 14 x0 then S 14 x0 else -1) else joinM (su S 31 (fun _ => 0)) x0) (fun P => P) r T ∧ MI T)) ([.ref (bd 0), .int (zi x0), .int (zi x1)] : List Value).toArray s 0 0 (mA bd)) (F0 m 0 ls [])
  have hc0 : (0 : Int) ≤ S 11 0 ∧ S 11 0 ≤ 20 := hI 11 0
  have hc6 : (0 : Int) ≤ S 6 0 ∧ S 6 0 ≤ 60 := hI 6 0
  refine lv_aload_n hx hb dX8_ofBody_0 rfl (lv_at hl 0 rfl) ?_
  refine lv_aload_n hx hb dX8_ofBody_1 rfl (lv_at hl 0 rfl) ?_
  refine lv_iload_n hx hb dX8_ofBody_2 rfl (lv_at hl 1 rfl) ?_
  refine zk_r (zc_V (As := [.int (zi x0)]) (rest := [.ref (bd 0)]) ⟨hx, hb, hml, hown, hts⟩ (ct_X8_isBody l D cI cZ cJ bd S hI x0 ⟨by omega, by omega⟩) (cwV 1 hts gX8_ofBody_X8_isBody rfl rfl rfl (by decide +kernel) ⟨Nat.le_of_ble_eq_true rfl, Nat.le_of_ble_eq_true rfl⟩) hK hP (q0 := 0) (ci := 8) rfl rfl rfl rfl hl.1 rfl (Nat.le_of_ble_eq_true rfl) dX8_ofBody_3 ⟨Nat.zero_le _, Nat.zero_le _⟩) ?_
  refine zi_top (fun (r_3 : Int) (er_3 : r_3 = b2 (0 ≤ x0 ∧ x0 < S 11 0)) => ?_)
  have fr_3 : (0 : Int) ≤ r_3 ∧ r_3 ≤ 1 := by rw [er_3]; exact b2_b
  have fr_31 : (r_3 = 1 ∧ (0 ≤ x0 ∧ x0 < S 11 0)) ∨ (r_3 = 0 ∧ ¬ (0 ≤ x0 ∧ x0 < S 11 0)) := by rw [er_3]; exact b2_or _
  refine zi_if_ne (tgt := 13) hx hb ⟨by omega, by omega⟩ dX8_ofBody_6 (by decide) (fun c_6 => ?_) (fun c_6 => ?_)
  · refine lv_iload_n hx hb dX8_ofBody_13 rfl (lv_at hl 2 rfl) ?_
    refine zi_iconst hx hb dX8_ofBody_14 ?_
    refine zi_bipush hx hb dX8_ofBody_15 (by decide) ?_
    refine zk_r (zc_S (As := [.int (zi x1), .int (zi 0), .int (zi 6)]) (rest := [.ref (bd 0)]) ⟨hx, hb, hml, hown, hts⟩ (ct_X8_isIn l D cI cZ cJ x1 0 6 ⟨by omega, by omega⟩ ⟨by decide, by decide⟩ ⟨by decide, by decide⟩) (va_cwS 3 hts gX8_ofBody_X8_isIn rfl rfl rfl (by decide +kernel) ⟨Nat.le_of_ble_eq_true rfl, Nat.le_of_ble_eq_true rfl⟩) hK va_P_nil rfl hl.1 rfl (Nat.le_of_ble_eq_true rfl) dX8_ofBody_17 ⟨Nat.zero_le _, Nat.zero_le _⟩) ?_
    refine zi_top (fun (r_17 : Int) (er_17 : r_17 = b2 (0 ≤ x1 ∧ x1 ≤ 6)) => ?_)
    have fr_17 : (0 : Int) ≤ r_17 ∧ r_17 ≤ 1 := by rw [er_17]; exact b2_b
    have fr_171 : (r_17 = 1 ∧ (0 ≤ x1 ∧ x1 ≤ 6)) ∨ (r_17 = 0 ∧ ¬ (0 ≤ x1 ∧ x1 ≤ 6)) := by rw [er_17]; exact b2_or _
    refine zi_if_eq (tgt := 27) hx hb ⟨by omega, by omega⟩ dX8_ofBody_20 (by decide) (fun c_20 => ?_) (fun c_20 => ?_)
    · refine zi_iconst hx hb dX8_ofBody_27 ?_
      have hkk : (kM_ofBody S x0 x1) = 2 := by rw [kM_ofBody, cif_f (by omega), cif_t (by omega)]
      refine zk_wi (zc_V (As := [.int (zi 2)]) (rest := []) ⟨hx, hb, hml, hown, hts⟩ (ct_X8_can l D cI cZ cJ bd S hI hdis 2 ⟨by decide, by decide⟩ (by omega) (by omega)) (cwV 1 hts gX8_ofBody_X8_can rfl rfl rfl (by decide +kernel) ⟨Nat.le_of_ble_eq_true rfl, Nat.le_of_ble_eq_true rfl⟩) hK hP (q0 := 0) (ci := 8) rfl rfl rfl rfl hl.1 rfl (Nat.le_of_ble_eq_true rfl) dX8_ofBody_28 ⟨Nat.zero_le _, Nat.zero_le _⟩) hS (fun r_28 S_28 H locs hp_28 hP hS => ?_)
      obtain ⟨er_28, e9, hI_28⟩ := hp_28
      have eS_28 := e9.symm; clear e9
      have fr_28 : (0 : Int) ≤ r_28 ∧ r_28 ≤ 1 := by rw [er_28]; exact b2_b
      have k_28 : r_28 = 0 := er_28.trans (b2_f (by decide))
      refine zi_if_ne (tgt := 36) hx hb ⟨by omega, by omega⟩ dX8_ofBody_31 (by decide) (fun c_31 => ?_) (fun c_31 => ?_)
      · exact absurd c_31 (by omega)
      · refine zi_iconst hx hb dX8_ofBody_34 ?_
        exact zr_wi (T := S_28) hx hb hr hlocks dX8_ofBody_35 hP hS (by exact ⟨pub_no hkk (by decide) (SM.rf) eS_28, hI_28⟩)
    · refine zi_iconst hx hb dX8_ofBody_23 ?_
      refine lv_goto (tgt := 28) hx hb dX8_ofBody_24 (by decide) ?_
      have hkk : (kM_ofBody S x0 x1) = 0 := by rw [kM_ofBody, cif_f (by omega), cif_f (by omega)]
      refine zk_wi (zc_V (As := [.int (zi 0)]) (rest := []) ⟨hx, hb, hml, hown, hts⟩ (ct_X8_can l D cI cZ cJ bd S hI hdis 0 ⟨by decide, by decide⟩ (by omega) (by omega)) (cwV 1 hts gX8_ofBody_X8_can rfl rfl rfl (by decide +kernel) ⟨Nat.le_of_ble_eq_true rfl, Nat.le_of_ble_eq_true rfl⟩) hK hP (q0 := 0) (ci := 8) rfl rfl rfl rfl hl.1 rfl (Nat.le_of_ble_eq_true rfl) dX8_ofBody_28 ⟨Nat.zero_le _, Nat.zero_le _⟩) hS (fun r_28 S_28 H locs hp_28 hP hS => ?_)
      obtain ⟨er_28, e9, hI_28⟩ := hp_28
      have eS_28 := e9.symm; clear e9
      have fr_28 : (0 : Int) ≤ r_28 ∧ r_28 ≤ 1 := by rw [er_28]; exact b2_b
      have k_28 : r_28 = 1 := er_28.trans (b2_t rfl)
      refine zi_if_ne (tgt := 36) hx hb ⟨by omega, by omega⟩ dX8_ofBody_31 (by decide) (fun c_31 => ?_) (fun c_31 => ?_)
      · refine lv_iload_n hx hb dX8_ofBody_36 rfl (lv_at hl 2 rfl) ?_
        by_cases c_37 : x1 < 0 ∨ 5 < x1
        · refine lv_tableOut (tgt := 137) hx hb dX8_ofBody_37 (by rw [zi_toInt ⟨by omega, by omega⟩]; exact c_37) (by decide) ?_
          refine lv_aload_n hx hb dX8_ofBody_137 rfl (lv_at hl 0 rfl) ?_
          refine lv_iload_n hx hb dX8_ofBody_138 rfl (lv_at hl 1 rfl) ?_
          refine zk_r (zc_V (As := [.int (zi x0)]) (rest := []) ⟨hx, hb, hml, hown, hts⟩ (ct_X8_joinedTo l D cI cZ cJ bd S_28 hI_28 x0 ⟨by omega, by omega⟩) (cwV 1 hts gX8_ofBody_X8_joinedTo rfl rfl rfl (by decide +kernel) ⟨Nat.le_of_ble_eq_true rfl, Nat.le_of_ble_eq_true rfl⟩) hK hP (q0 := 0) (ci := 8) rfl rfl rfl rfl hl.1 rfl (Nat.le_of_ble_eq_true rfl) dX8_ofBody_139 ⟨Nat.zero_le _, Nat.zero_le _⟩) ?_
          refine zi_top (fun (r_139 : Int) (er_139 : r_139 = joinM S_28 x0) => ?_)
          have fr_139 : (0 : Int) ≤ r_139 ∧ r_139 ≤ 20 := by rw [er_139]; exact by have h := cnt_b (fun j => S_28 12 j = x0) (S_28 11 0).toNat 0 0; have h2 : (0 : Int) ≤ S_28 11 0 ∧ S_28 11 0 ≤ 20 := hI_28 11 0; exact ⟨h.1, Int.le_trans h.2 (by omega)⟩
          exact zr_wi (T := S_28) hx hb hr hlocks dX8_ofBody_142 hP hS (by exact ⟨pub_ok hkk (by rw [if_neg (by omega), if_neg (by omega), if_neg (by omega), if_neg (by omega), if_neg (by omega), if_neg (by omega), eS_28, er_139]) (by rw [← eS_28]; exact SM.rf), hI_28⟩)
        · have c9 : x1 = 0 ∨ x1 = 1 ∨ x1 = 2 ∨ x1 = 3 ∨ x1 = 4 ∨ x1 = 5 := by omega
          rcases c9 with c9 | c9 | c9 | c9 | c9 | c9
          · refine lv_tableIn (off := 39) (tgt := 76) hx hb dX8_ofBody_37 (by rw [zi_toInt ⟨by omega, by omega⟩]; omega) (by rw [zi_toInt ⟨by omega, by omega⟩]; omega) (by rw [zi_toInt ⟨by omega, by omega⟩, c9]; rfl) (by decide) ?_
            refine lv_aload_n hx hb dX8_ofBody_76 rfl (lv_at hl 0 rfl) ?_
            refine lv_iload_n hx hb dX8_ofBody_77 rfl (lv_at hl 1 rfl) ?_
            refine zk_wi (zc_V (As := [.int (zi x0)]) (rest := []) ⟨hx, hb, hml, hown, hts⟩ (ct_X8_looksOf l D cI cZ cJ bd S_28 hI_28 hdis x0 ⟨by omega, by omega⟩ (by omega) (by omega) (by rw [← eS_28]; exact accM_su hac (by decide) (by decide) (by decide))) (cwV 1 hts gX8_ofBody_X8_looksOf rfl rfl rfl (by decide +kernel) ⟨Nat.le_of_ble_eq_true rfl, Nat.le_of_ble_eq_true rfl⟩) hK hP (q0 := 0) (ci := 8) rfl rfl rfl rfl hl.1 rfl (Nat.le_of_ble_eq_true rfl) dX8_ofBody_78 ⟨Nat.zero_le _, Nat.zero_le _⟩) hS (fun r_78 S_78 H locs hp_78 hP hS => ?_)
            obtain ⟨er_78, e9, hI_78⟩ := hp_78
            have eS_78 := e9.symm; clear e9
            have fr_78 : (0 : Int) ≤ r_78 ∧ r_78 ≤ 60 := by rw [er_78, eS_78]; exact hI_78 19 0
            exact zr_wi (T := S_78) hx hb hr hlocks dX8_ofBody_81 hP hS (by exact ⟨pub_ok hkk (by rw [if_pos (by omega), eS_28, er_78]) (by rw [← eS_78, ← eS_28]; exact SM_la), hI_78⟩)
          · refine lv_tableIn (off := 45) (tgt := 82) hx hb dX8_ofBody_37 (by rw [zi_toInt ⟨by omega, by omega⟩]; omega) (by rw [zi_toInt ⟨by omega, by omega⟩]; omega) (by rw [zi_toInt ⟨by omega, by omega⟩, c9]; rfl) (by decide) ?_
            refine lv_aload_n hx hb dX8_ofBody_82 rfl (lv_at hl 0 rfl) ?_
            refine lv_iload_n hx hb dX8_ofBody_83 rfl (lv_at hl 1 rfl) ?_
            refine zk_r (zc_V (As := [.int (zi x0)]) (rest := []) ⟨hx, hb, hml, hown, hts⟩ (ct_X8_ownOf l D cI cZ cJ bd S_28 hI_28 x0 ⟨by omega, by omega⟩) (cwV 1 hts gX8_ofBody_X8_ownOf rfl rfl rfl (by decide +kernel) ⟨Nat.le_of_ble_eq_true rfl, Nat.le_of_ble_eq_true rfl⟩) hK hP (q0 := 0) (ci := 8) rfl rfl rfl rfl hl.1 rfl (Nat.le_of_ble_eq_true rfl) dX8_ofBody_84 ⟨Nat.zero_le _, Nat.zero_le _⟩) ?_
            refine zi_top (fun (r_84 : Int) (er_84 : r_84 = ownM S_28 x0) => ?_)
            have fr_84 : (0 : Int) ≤ r_84 ∧ r_84 ≤ 60 := by rw [er_84]; exact by have h := cnt_b (fun j => S_28 10 j = x0) (S_28 6 0).toNat 0 0; have h2 : (0 : Int) ≤ S_28 6 0 ∧ S_28 6 0 ≤ 60 := hI_28 6 0; exact ⟨h.1, Int.le_trans h.2 (by omega)⟩
            exact zr_wi (T := S_28) hx hb hr hlocks dX8_ofBody_87 hP hS (by exact ⟨pub_ok hkk (by rw [if_neg (by omega), if_pos (by omega), eS_28, er_84]) (by rw [← eS_28]; exact SM.rf), hI_28⟩)
          · refine lv_tableIn (off := 51) (tgt := 88) hx hb dX8_ofBody_37 (by rw [zi_toInt ⟨by omega, by omega⟩]; omega) (by rw [zi_toInt ⟨by omega, by omega⟩]; omega) (by rw [zi_toInt ⟨by omega, by omega⟩, c9]; rfl) (by decide) ?_
            refine lv_aload_n hx hb dX8_ofBody_88 rfl (lv_at hl 0 rfl) ?_
            refine va_get (D := D) (ci := 8) (v := .ref (bd 13)) (C := RX8) (T := TX8) (N := 32) hx hb hts in_X8_ofBody_8 hown hK.1 hP 0 rfl rfl 12 (by decide) (hts _ lk_X8_ofBody_34) (fun _ h9 => h9) rfl dX8_ofBody_89 ?_
            refine lv_iload_n hx hb dX8_ofBody_92 rfl (lv_at hl 1 rfl) ?_
            refine zi_iald hx hb hK.1 hP 9 0 rfl rfl (by omega) (by omega) (by decide) dX8_ofBody_93 ?_
            have f_93 : (-1 : Int) ≤ S_28 12 x0 ∧ S_28 12 x0 ≤ 19 := hI_28 12 x0
            exact zr_wi (T := S_28) hx hb hr hlocks dX8_ofBody_94 hP hS (by exact ⟨pub_ok hkk (by rw [if_neg (by omega), if_neg (by omega), if_pos (by omega), ← eS_28] <;> rfl) (by rw [← eS_28]; exact SM.rf), hI_28⟩)
          · refine lv_tableIn (off := 58) (tgt := 95) hx hb dX8_ofBody_37 (by rw [zi_toInt ⟨by omega, by omega⟩]; omega) (by rw [zi_toInt ⟨by omega, by omega⟩]; omega) (by rw [zi_toInt ⟨by omega, by omega⟩, c9]; rfl) (by decide) ?_
            refine lv_aload_n hx hb dX8_ofBody_95 rfl (lv_at hl 0 rfl) ?_
            refine va_get (D := D) (ci := 8) (v := .ref (bd 5)) (C := RX8) (T := TX8) (N := 32) hx hb hts in_X8_ofBody_8 hown hK.1 hP 0 rfl rfl 4 (by decide) (hts _ lk_X8_ofBody_16) (fun _ h9 => h9) rfl dX8_ofBody_96 ?_
            refine lv_aload_n hx hb dX8_ofBody_99 rfl (lv_at hl 0 rfl) ?_
            refine va_get (D := D) (ci := 8) (v := .ref (bd 8)) (C := RX8) (T := TX8) (N := 32) hx hb hts in_X8_ofBody_8 hown hK.1 hP 0 rfl rfl 7 (by decide) (hts _ lk_X8_ofBody_22) (fun _ h9 => h9) rfl dX8_ofBody_100 ?_
            refine lv_aload_n hx hb dX8_ofBody_103 rfl (lv_at hl 0 rfl) ?_
            refine lv_iload_n hx hb dX8_ofBody_104 rfl (lv_at hl 1 rfl) ?_
            refine zk_wi (zc_V (As := [.int (zi x0)]) (rest := [.ref (bd 8), .ref (bd 5)]) ⟨hx, hb, hml, hown, hts⟩ (ct_X8_firstOf l D cI cZ cJ bd S_28 hI_28 hdis x0 ⟨by omega, by omega⟩ (by omega) (by omega) (by rw [← eS_28]; exact accM_su hac (by decide) (by decide) (by decide))) (cwV 1 hts gX8_ofBody_X8_firstOf rfl rfl rfl (by decide +kernel) ⟨Nat.le_of_ble_eq_true rfl, Nat.le_of_ble_eq_true rfl⟩) hK hP (q0 := 0) (ci := 8) rfl rfl rfl rfl hl.1 rfl (Nat.le_of_ble_eq_true rfl) dX8_ofBody_105 ⟨Nat.zero_le _, Nat.zero_le _⟩) hS (fun r_105 S_105 H locs hp_105 hP hS => ?_)
            obtain ⟨er_105, e9, hI_105⟩ := hp_105
            have eS_105 := e9.symm; clear e9
            have fr_105 : (0 : Int) ≤ r_105 ∧ r_105 ≤ 59 := by rw [er_105, eS_105]; exact firstM_b hI_105
            refine zi_iald hx hb hK.1 hP 5 0 rfl rfl (by omega) (by omega) (by decide) dX8_ofBody_108 ?_
            have f_108 : (0 : Int) ≤ S_105 7 r_105 ∧ S_105 7 r_105 ≤ 29 := hI_105 7 r_105
            refine zi_iald hx hb hK.1 hP 3 0 rfl rfl (by omega) (by omega) (by decide) dX8_ofBody_109 ?_
            have f_109 : (0 : Int) ≤ S_105 4 (S_105 7 r_105) ∧ S_105 4 (S_105 7 r_105) ≤ 5 := hI_105 4 (S_105 7 r_105)
            exact zr_wi (T := S_105) hx hb hr hlocks dX8_ofBody_110 hP hS (by exact ⟨pub_ok hkk (by rw [if_neg (by omega), if_neg (by omega), if_neg (by omega), if_pos (by omega), eS_28, ← er_105, ← eS_105, laysM_n (r := 4) (by decide) (by decide), laysM_n (r := 7) (by decide) (by decide), ← eS_28] <;> rfl) (by rw [← eS_105, ← eS_28]; exact SM_la), hI_105⟩)
          · refine lv_tableIn (off := 74) (tgt := 111) hx hb dX8_ofBody_37 (by rw [zi_toInt ⟨by omega, by omega⟩]; omega) (by rw [zi_toInt ⟨by omega, by omega⟩]; omega) (by rw [zi_toInt ⟨by omega, by omega⟩, c9]; rfl) (by decide) ?_
            refine lv_aload_n hx hb dX8_ofBody_111 rfl (lv_at hl 0 rfl) ?_
            refine lv_iload_n hx hb dX8_ofBody_112 rfl (lv_at hl 1 rfl) ?_
            refine zk_wi (zc_V (As := [.int (zi x0)]) (rest := []) ⟨hx, hb, hml, hown, hts⟩ (ct_X8_firstOf l D cI cZ cJ bd S_28 hI_28 hdis x0 ⟨by omega, by omega⟩ (by omega) (by omega) (by rw [← eS_28]; exact accM_su hac (by decide) (by decide) (by decide))) (cwV 1 hts gX8_ofBody_X8_firstOf rfl rfl rfl (by decide +kernel) ⟨Nat.le_of_ble_eq_true rfl, Nat.le_of_ble_eq_true rfl⟩) hK hP (q0 := 0) (ci := 8) rfl rfl rfl rfl hl.1 rfl (Nat.le_of_ble_eq_true rfl) dX8_ofBody_113 ⟨Nat.zero_le _, Nat.zero_le _⟩) hS (fun r_113 S_113 H locs hp_113 hP hS => ?_)
            obtain ⟨er_113, e9, hI_113⟩ := hp_113
            have eS_113 := e9.symm; clear e9
            have fr_113 : (0 : Int) ≤ r_113 ∧ r_113 ≤ 59 := by rw [er_113, eS_113]; exact firstM_b hI_113
            exact zr_wi (T := S_113) hx hb hr hlocks dX8_ofBody_116 hP hS (by exact ⟨pub_ok hkk (by rw [if_neg (by omega), if_neg (by omega), if_neg (by omega), if_neg (by omega), if_pos (by omega), eS_28, er_113]) (by rw [← eS_113, ← eS_28]; exact SM_la), hI_113⟩)
          · refine lv_tableIn (off := 80) (tgt := 117) hx hb dX8_ofBody_37 (by rw [zi_toInt ⟨by omega, by omega⟩]; omega) (by rw [zi_toInt ⟨by omega, by omega⟩]; omega) (by rw [zi_toInt ⟨by omega, by omega⟩, c9]; rfl) (by decide) ?_
            refine lv_aload_n hx hb dX8_ofBody_117 rfl (lv_at hl 0 rfl) ?_
            refine va_get (D := D) (ci := 8) (v := .ref (bd 15)) (C := RX8) (T := TX8) (N := 32) hx hb hts in_X8_ofBody_8 hown hK.1 hP 0 rfl rfl 14 (by decide) (hts _ lk_X8_ofBody_40) (fun _ h9 => h9) rfl dX8_ofBody_118 ?_
            refine lv_iload_n hx hb dX8_ofBody_121 rfl (lv_at hl 1 rfl) ?_
            refine zi_iald hx hb hK.1 hP 11 0 rfl rfl (by omega) (by omega) (by decide) dX8_ofBody_122 ?_
            have f_122 : (0 : Int) ≤ S_28 14 x0 ∧ S_28 14 x0 ≤ 20 := hI_28 14 x0
            refine zi_if_le (tgt := 135) hx hb ⟨by omega, by omega⟩ dX8_ofBody_123 (by decide) (fun c_123 => ?_) (fun c_123 => ?_)
            · refine zi_iconst hx hb dX8_ofBody_135 ?_
              exact zr_wi (T := S_28) hx hb hr hlocks dX8_ofBody_136 hP hS (by exact ⟨pub_ok hkk (by rw [if_neg (by omega), if_neg (by omega), if_neg (by omega), if_neg (by omega), if_neg (by omega), if_pos (by omega)]; have c9 := c_123; rw [← eS_28] at c9; exact (if_neg (Int.not_lt.mpr c9)).symm) (by rw [← eS_28]; exact SM.rf), hI_28⟩)
            · refine lv_aload_n hx hb dX8_ofBody_126 rfl (lv_at hl 0 rfl) ?_
              refine va_get (D := D) (ci := 8) (v := .ref (bd 15)) (C := RX8) (T := TX8) (N := 32) hx hb hts in_X8_ofBody_8 hown hK.1 hP 0 rfl rfl 14 (by decide) (hts _ lk_X8_ofBody_40) (fun _ h9 => h9) rfl dX8_ofBody_127 ?_
              refine lv_iload_n hx hb dX8_ofBody_130 rfl (lv_at hl 1 rfl) ?_
              refine zi_iald hx hb hK.1 hP 11 0 rfl rfl (by omega) (by omega) (by decide) dX8_ofBody_131 ?_
              have f_131 : (0 : Int) ≤ S_28 14 x0 ∧ S_28 14 x0 ≤ 20 := hI_28 14 x0
              refine lv_goto (tgt := 136) hx hb dX8_ofBody_132 (by decide) ?_
              exact zr_wi (T := S_28) hx hb hr hlocks dX8_ofBody_136 hP hS (by exact ⟨pub_ok hkk (by rw [if_neg (by omega), if_neg (by omega), if_neg (by omega), if_neg (by omega), if_neg (by omega), if_pos (by omega)]; have c9 := c_123; rw [← eS_28] at c9; rw [← eS_28]; exact (if_pos (Int.not_le.mp c9)).symm) (by rw [← eS_28]; exact SM.rf), hI_28⟩)
      · exact absurd c_31 (by omega)
  · refine zi_iconst hx hb dX8_ofBody_9 ?_
    refine lv_goto (tgt := 28) hx hb dX8_ofBody_10 (by decide) ?_
    have hkk : (kM_ofBody S x0 x1) = 1 := by rw [kM_ofBody, cif_t (by omega)]
    refine zk_wi (zc_V (As := [.int (zi 1)]) (rest := []) ⟨hx, hb, hml, hown, hts⟩ (ct_X8_can l D cI cZ cJ bd S hI hdis 1 ⟨by decide, by decide⟩ (by omega) (by omega)) (cwV 1 hts gX8_ofBody_X8_can rfl rfl rfl (by decide +kernel) ⟨Nat.le_of_ble_eq_true rfl, Nat.le_of_ble_eq_true rfl⟩) hK hP (q0 := 0) (ci := 8) rfl rfl rfl rfl hl.1 rfl (Nat.le_of_ble_eq_true rfl) dX8_ofBody_28 ⟨Nat.zero_le _, Nat.zero_le _⟩) hS (fun r_28 S_28 H locs hp_28 hP hS => ?_)
    obtain ⟨er_28, e9, hI_28⟩ := hp_28
    have eS_28 := e9.symm; clear e9
    have fr_28 : (0 : Int) ≤ r_28 ∧ r_28 ≤ 1 := by rw [er_28]; exact b2_b
    have k_28 : r_28 = 0 := er_28.trans (b2_f (by decide))
    refine zi_if_ne (tgt := 36) hx hb ⟨by omega, by omega⟩ dX8_ofBody_31 (by decide) (fun c_31 => ?_) (fun c_31 => ?_)
    · exact absurd c_31 (by omega)
    · refine zi_iconst hx hb dX8_ofBody_34 ?_
      exact zr_wi (T := S_28) hx hb hr hlocks dX8_ofBody_35 hP hS (by exact ⟨pub_no hkk (by decide) (SM.rf) eS_28, hI_28⟩)

