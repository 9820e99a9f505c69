/-! the reference's calls: the code of the throw (0: none), the answer, the numbers -/
theorem b2_or (P : Prop) : (b2 P = 1 ∧ P) ∨ (b2 P = 0 ∧ ¬ P) := by
  by_cases h : P
  · exact Or.inl ⟨b2_t h, h⟩
  · exact Or.inr ⟨b2_f h, h⟩
theorem SM_u {S P : ZS} {k : Nat} {g g' : Int → Int} (h : SM S P) (e : g = g') : SM (su S k g) (su P k g') := by
  intro q hq
  by_cases hk : q = k
  · subst hk; rw [su_s, su_s, e]
  · rw [su_n _ _ hk, su_n _ _ hk]; exact h q hq
/-- what a call of the reference says: the code K, the answer V where it is 0, the numbers A from the state with the code told -/
noncomputable def pubQ (S : ZS) (K V : Int) (A : ZS → ZS) (r : Int) (T : ZS) : Prop := (K = 0 → r = V) ∧ SM (cif (K = 0) (A (su S 31 (fun _ => K))) (su S 31 (fun _ => K))) T
theorem pub_no {S P T : ZS} {K k V r : Int} {A : ZS → ZS} (hK : K = k) (hk : ¬ k = 0) (h : SM S P) (e : su P 31 (fun _ => k) = T) : pubQ S K V A r T := by
  subst hK
  exact ⟨fun h9 => absurd h9 hk, by rw [cif_f hk, ← e]; exact SM_u h rfl⟩
theorem pub_ok {S T : ZS} {K V r : Int} {A : ZS → ZS} (hK : K = 0) (hv : r = V) (h : SM (A (su S 31 (fun _ => 0))) T) : pubQ S K V A r T := by
  subst hK
  exact ⟨fun _ => hv, by rw [cif_t rfl]; exact h⟩
noncomputable def kM_observatory (S : ZS) (x0 : Int) : Int := cif (¬ (0 ≤ x0 ∧ x0 ≤ 9)) 1 (cif (S 1 0 = 6) 2 (0))
theorem in_X8_observatory_8 : ∀ w ∈ wsX80, w ∈ wsX8_observatory := by decide +kernel
theorem lk_X8_observatory_98 : Cond.fieldLink RX8 98 "PlanetoidDeskModel" "observatories" "I" ∈ wsX8_observatory := by decide +kernel
theorem lk_X8_observatory_13 : Cond.fieldLink RX8 13 "PlanetoidDeskModel" "error" "[I" ∈ wsX8_observatory := by decide +kernel
abbrev rmct_X8_observatory : Room := { frames := 1, cells := 0, slots := 0, locals := 22 }
set_option maxHeartbeats 4000000 in
set_option maxRecDepth 100000 in
theorem ct_X8_observatory (l : Launch) (D : va_G) (cI cZ cJ : ClassId) (bd : Nat → Nat) (S : ZS) (hI : MI S) (hdis : mDis bd) (x0 : Int) (hx0 : ir x0)  : Met l yX8_observatory wsX8_observatory rmct_X8_observatory (zP D cI cZ cJ (mW cI cZ bd S) [.ref (bd 0), .int (zi x0)]) (zWi D (mW cI cZ bd) (mA bd) (fun r T => pubQ S (kM_observatory S x0) (S 1 0) (fun P => su (su P 2 (up (P 2) (P 1 0) x0)) 1 (fun _ => P 1 0 + 1)) r T ∧ MI T)) 0 0 (mA bd) := by
  refine Met.ofW (cc := cX8_observatory) (maxL := 2) (ret := (some .int)) (by decide) rfl ?_
  intro p e s m args below meth c s₁ B hml hv
  obtain ⟨rfl, hP, hK⟩ := hv
  have hx := B.exec
  have hb := B.bytes
  have hr := B.returns
  have hts := atoms_spec (ws := wsX8_observatory) B.pre
  have hown : s.vm.findClass RX8 = some m.cls := findClass_of_methodNamed B.named
  have hlocks := B.notSynchronized
  have hl := lv_entry ([.ref (bd 0), .int (zi x0)]) (n := 2) (Nat.le_of_ble_eq_true rfl)
  rw [lg_entry_eq]
  generalize (lg_sl ([.ref (bd 0), .int (zi x0)]) ++ List.replicate (2 - (lg_sl ([.ref (bd 0), .int (zi x0)])).length) Slot.unset).toArray = ls at hl ⊢
  have hl : lv_has ls 2 [(0, .ref (bd 0)), (1, .int (zi x0))] := hl
  have hS : va_S (mA bd) s.heap s.heap [] := va_S.rf
  show W p l e rmct_X8_observatory s m ([.ref (bd 0), .int (zi x0)] : List Value).toArray below meth c s.heap [] 0 0 (MQ below (zWi D (mW cI cZ bd) (mA bd) (fun r T => pubQ S (kM_observatory S x0) (S 1 0) (fun P => su (su P 2 (up (P 2) (P 1 0) x0)) 1 (fun _ => P 1 0 + 1)) r T ∧ MI T)) ([.ref (bd 0), .int (zi x0)] : List Value).toArray s 0 0 (mA bd)) (F0 m 0 ls [])
  refine lv_aload_n hx hb dX8_observatory_0 rfl (lv_at hl 0 rfl) ?_
  refine lv_iload_n hx hb dX8_observatory_1 rfl (lv_at hl 1 rfl) ?_
  refine zi_iconst hx hb dX8_observatory_2 ?_
  refine zi_bipush hx hb dX8_observatory_3 (by decide) ?_
  refine zk_r (zc_S (As := [.int (zi x0), .int (zi 0), .int (zi 9)]) (rest := [.ref (bd 0)]) ⟨hx, hb, hml, hown, hts⟩ (ct_X8_isIn l D cI cZ cJ x0 0 9 ⟨by omega, by omega⟩ ⟨by decide, by decide⟩ ⟨by decide, by decide⟩) (va_cwS 3 hts gX8_observatory_X8_isIn rfl rfl rfl (by decide +kernel) ⟨Nat.le_of_ble_eq_true rfl, Nat.le_of_ble_eq_true rfl⟩) hK va_P_nil rfl hl.1 rfl (Nat.le_of_ble_eq_true rfl) dX8_observatory_5 ⟨Nat.zero_le _, Nat.zero_le _⟩) ?_
  refine zi_top (fun (r_5 : Int) (er_5 : r_5 = b2 (0 ≤ x0 ∧ x0 ≤ 9)) => ?_)
  have fr_5 : (0 : Int) ≤ r_5 ∧ r_5 ≤ 1 := by rw [er_5]; exact b2_b
  have fr_51 : (r_5 = 1 ∧ (0 ≤ x0 ∧ x0 ≤ 9)) ∨ (r_5 = 0 ∧ ¬ (0 ≤ x0 ∧ x0 ≤ 9)) := by rw [er_5]; exact b2_or _
  refine zi_if_ne (tgt := 15) hx hb ⟨by omega, by omega⟩ dX8_observatory_8 (by decide) (fun c_8 => ?_) (fun c_8 => ?_)
  · refine lv_aload_n hx hb dX8_observatory_15 rfl (lv_at hl 0 rfl) ?_
    refine va_get (D := D) (ci := 8) (v := .int (zi (S 1 0))) (C := RX8) (T := TX8) (N := 32) hx hb hts in_X8_observatory_8 hown hK.1 hP 0 rfl rfl 1 (by decide) (hts _ lk_X8_observatory_98) (fun _ h9 => h9) rfl dX8_observatory_16 ?_
    have f_16 : (0 : Int) ≤ S 1 0 ∧ S 1 0 ≤ 6 := hI 1 0
    refine zi_bipush hx hb dX8_observatory_19 (by decide) ?_
    refine zi_icmp_ne (tgt := 28) hx hb ⟨by omega, by omega⟩ ⟨by decide, by decide⟩ dX8_observatory_21 (by decide) (fun c_21 => ?_) (fun c_21 => ?_)
    · refine zi_iconst hx hb dX8_observatory_28 ?_
      have hkk : (kM_observatory S x0) = 0 := by rw [kM_observatory, cif_f (by omega), cif_f (by omega)]
      refine zk_wi (zc_V (As := [.int (zi 0)]) (rest := []) ⟨hx, hb, hml, hown, hts⟩ (ct_X8_can l D cI cZ cJ bd S hI hdis 0 ⟨by decide, by decide⟩ (by omega) (by omega)) (cwV 1 hts gX8_observatory_X8_can rfl rfl rfl (by decide +kernel) ⟨Nat.le_of_ble_eq_true rfl, Nat.le_of_ble_eq_true rfl⟩) hK hP (q0 := 0) (ci := 8) rfl rfl rfl rfl hl.1 rfl (Nat.le_of_ble_eq_true rfl) dX8_observatory_29 ⟨Nat.zero_le _, Nat.zero_le _⟩) hS (fun r_29 S_29 H locs hp_29 hP hS => ?_)
      obtain ⟨er_29, e9, hI_29⟩ := hp_29
      have eS_29 := e9.symm; clear e9
      have fr_29 : (0 : Int) ≤ r_29 ∧ r_29 ≤ 1 := by rw [er_29]; exact b2_b
      have k_29 : r_29 = 1 := er_29.trans (b2_t rfl)
      refine zi_if_ne (tgt := 37) hx hb ⟨by omega, by omega⟩ dX8_observatory_32 (by decide) (fun c_32 => ?_) (fun c_32 => ?_)
      · refine lv_aload_n hx hb dX8_observatory_37 rfl (lv_at hl 0 rfl) ?_
        refine va_get (D := D) (ci := 8) (v := .ref (bd 3)) (C := RX8) (T := TX8) (N := 32) hx hb hts in_X8_observatory_8 hown hK.1 hP 0 rfl rfl 2 (by decide) (hts _ lk_X8_observatory_13) (fun _ h9 => h9) rfl dX8_observatory_38 ?_
        refine lv_aload_n hx hb dX8_observatory_41 rfl (lv_at hl 0 rfl) ?_
        refine va_get (D := D) (ci := 8) (v := .int (zi (S_29 1 0))) (C := RX8) (T := TX8) (N := 32) hx hb hts in_X8_observatory_8 hown hK.1 hP 0 rfl rfl 1 (by decide) (hts _ lk_X8_observatory_98) (fun _ h9 => h9) rfl dX8_observatory_42 ?_
        refine zi_is (S 1 0) (by rw [← eS_29] <;> rfl) ?_
        have f_42 : (0 : Int) ≤ S 1 0 ∧ S 1 0 ≤ 6 := hI 1 0
        refine lv_iload_n hx hb dX8_observatory_45 rfl (lv_at hl 1 rfl) ?_
        refine zi_iast hx hb hK.1 hP (mW_D hdis _) hS 2 0 rfl rfl (by omega) (by omega) (by decide) dX8_observatory_46 (fun H locs hP hS => ?_)
        have hP : va_P D vwCl (mW cI cZ bd (su S_29 2 (up (S_29 2) (S 1 0) x0))) H := hP
        have hI_46 : MI (su S_29 2 (up (S_29 2) (S 1 0) x0)) := MI.up hI_29 2 (S 1 0) x0 (show (0 : Int) ≤ x0 ∧ x0 ≤ 9 from ⟨by omega, by omega⟩)
        generalize eS_46 : su S_29 2 (up (S_29 2) (S 1 0) x0) = S_46 at hP hI_46
        refine lv_aload_n hx hb dX8_observatory_47 rfl (lv_at hl 0 rfl) ?_
        refine lv_dup hx hb dX8_observatory_48 rfl ?_
        refine va_get (D := D) (ci := 8) (v := .int (zi (S_46 1 0))) (C := RX8) (T := TX8) (N := 32) hx hb hts in_X8_observatory_8 hown hK.1 hP 0 rfl rfl 1 (by decide) (hts _ lk_X8_observatory_98) (fun _ h9 => h9) rfl dX8_observatory_49 ?_
        refine zi_is (S 1 0) (by rw [← eS_46, ← eS_29] <;> rfl) ?_
        have f_49 : (0 : Int) ≤ S 1 0 ∧ S 1 0 ≤ 6 := hI 1 0
        refine zi_iconst hx hb dX8_observatory_52 ?_
        refine zi_iadd hx hb dX8_observatory_53 ?_
        refine va_put (D := D) (ci := 8) (v := .int (zi ((S 1 0) + 1))) (ty := .int) (C := RX8) (T := TX8) (N := 32) hx hb hts in_X8_observatory_8 tyX8 tyX8_ok nmX8 hown hK.1 hP (mW_D hdis _) hS 0 rfl rfl 1 (by decide) (hts _ lk_X8_observatory_98) (fun _ h9 => h9) rfl (by decide +kernel) rfl rfl (Nat.le_of_ble_eq_true rfl) dX8_observatory_54 (fun H locs hP _ hS => ?_)
        have hP : va_P D vwCl (mW cI cZ bd (su S_46 1 (fun _ => (S 1 0) + 1))) H := hP
        have hI_54 : MI (su S_46 1 (fun _ => (S 1 0) + 1)) := MI.upc hI_46 1 ((S 1 0) + 1) (show (0 : Int) ≤ ((S 1 0) + 1) ∧ ((S 1 0) + 1) ≤ 6 from ⟨by omega, by omega⟩)
        generalize eS_54 : su S_46 1 (fun _ => (S 1 0) + 1) = S_54 at hP hI_54
        refine lv_aload_n hx hb dX8_observatory_57 rfl (lv_at hl 0 rfl) ?_
        refine va_get (D := D) (ci := 8) (v := .int (zi (S_54 1 0))) (C := RX8) (T := TX8) (N := 32) hx hb hts in_X8_observatory_8 hown hK.1 hP 0 rfl rfl 1 (by decide) (hts _ lk_X8_observatory_98) (fun _ h9 => h9) rfl dX8_observatory_58 ?_
        refine zi_is ((S 1 0) + 1) (by rw [← eS_54] <;> rfl) ?_
        refine zi_iconst hx hb dX8_observatory_61 ?_
        refine zi_isub hx hb dX8_observatory_62 ?_
        exact zr_wi (T := S_54) hx hb hr hlocks dX8_observatory_63 hP hS (by exact ⟨pub_ok hkk (by omega) (by rw [← eS_54, ← eS_46, ← eS_29]; exact SM.rf), hI_54⟩)
      · exact absurd c_32 (by omega)
    · refine zi_iconst hx hb dX8_observatory_24 ?_
      refine lv_goto (tgt := 29) hx hb dX8_observatory_25 (by decide) ?_
      have hkk : (kM_observatory S x0) = 2 := by rw [kM_observatory, cif_f (by omega), cif_t (by omega)]
      refine zk_wi (zc_V (As := [.int (zi 2)]) (rest := []) ⟨hx, hb, hml, hown, hts⟩ (ct_X8_can l D cI cZ cJ bd S hI hdis 2 ⟨by decide, by decide⟩ (by omega) (by omega)) (cwV 1 hts gX8_observatory_X8_can rfl rfl rfl (by decide +kernel) ⟨Nat.le_of_ble_eq_true rfl, Nat.le_of_ble_eq_true rfl⟩) hK hP (q0 := 0) (ci := 8) rfl rfl rfl rfl hl.1 rfl (Nat.le_of_ble_eq_true rfl) dX8_observatory_29 ⟨Nat.zero_le _, Nat.zero_le _⟩) hS (fun r_29 S_29 H locs hp_29 hP hS => ?_)
      obtain ⟨er_29, e9, hI_29⟩ := hp_29
      have eS_29 := e9.symm; clear e9
      have fr_29 : (0 : Int) ≤ r_29 ∧ r_29 ≤ 1 := by rw [er_29]; exact b2_b
      have k_29 : r_29 = 0 := er_29.trans (b2_f (by decide))
      refine zi_if_ne (tgt := 37) hx hb ⟨by omega, by omega⟩ dX8_observatory_32 (by decide) (fun c_32 => ?_) (fun c_32 => ?_)
      · exact absurd c_32 (by omega)
      · refine zi_iconst hx hb dX8_observatory_35 ?_
        exact zr_wi (T := S_29) hx hb hr hlocks dX8_observatory_36 hP hS (by exact ⟨pub_no hkk (by decide) (SM.rf) eS_29, hI_29⟩)
  · refine zi_iconst hx hb dX8_observatory_11 ?_
    refine lv_goto (tgt := 29) hx hb dX8_observatory_12 (by decide) ?_
    have hkk : (kM_observatory S x0) = 1 := by rw [kM_observatory, cif_t (by omega)]
    refine zk_wi (zc_V (As := [.int (zi 1)]) (rest := []) ⟨hx, hb, hml, hown, hts⟩ (ct_X8_can l D cI cZ cJ bd S hI hdis 1 ⟨by decide, by decide⟩ (by omega) (by omega)) (cwV 1 hts gX8_observatory_X8_can rfl rfl rfl (by decide +kernel) ⟨Nat.le_of_ble_eq_true rfl, Nat.le_of_ble_eq_true rfl⟩) hK hP (q0 := 0) (ci := 8) rfl rfl rfl rfl hl.1 rfl (Nat.le_of_ble_eq_true rfl) dX8_observatory_29 ⟨Nat.zero_le _, Nat.zero_le _⟩) hS (fun r_29 S_29 H locs hp_29 hP hS => ?_)
    obtain ⟨er_29, e9, hI_29⟩ := hp_29
    have eS_29 := e9.symm; clear e9
    have fr_29 : (0 : Int) ≤ r_29 ∧ r_29 ≤ 1 := by rw [er_29]; exact b2_b
    have k_29 : r_29 = 0 := er_29.trans (b2_f (by decide))
    refine zi_if_ne (tgt := 37) hx hb ⟨by omega, by omega⟩ dX8_observatory_32 (by decide) (fun c_32 => ?_) (fun c_32 => ?_)
    · exact absurd c_32 (by omega)
    · refine zi_iconst hx hb dX8_observatory_35 ?_
      exact zr_wi (T := S_29) hx hb hr hlocks dX8_observatory_36 hP hS (by exact ⟨pub_no hkk (by decide) (SM.rf) eS_29, hI_29⟩)

noncomputable def kM_plate (S : ZS) (x0 x1 : Int) : Int := cif (¬ (0 ≤ x0 ∧ x0 < S 1 0)) 1 (cif (¬ (0 ≤ x1 ∧ x1 ≤ 999)) 2 (cif (S 3 0 = 30) 3 (0)))
theorem in_X8_plate_8 : ∀ w ∈ wsX80, w ∈ wsX8_plate := by decide +kernel
theorem lk_X8_plate_98 : Cond.fieldLink RX8 98 "PlanetoidDeskModel" "observatories" "I" ∈ wsX8_plate := by decide +kernel
theorem lk_X8_plate_108 : Cond.fieldLink RX8 108 "PlanetoidDeskModel" "plates" "I" ∈ wsX8_plate := by decide +kernel
theorem lk_X8_plate_16 : Cond.fieldLink RX8 16 "PlanetoidDeskModel" "seat" "[I" ∈ wsX8_plate := by decide +kernel
theorem lk_X8_plate_19 : Cond.fieldLink RX8 19 "PlanetoidDeskModel" "night" "[I" ∈ wsX8_plate := by decide +kernel
abbrev rmct_X8_plate : Room := { frames := 2, cells := 0, slots := 0, locals := 42 }
set_option maxHeartbeats 4000000 in
set_option maxRecDepth 100000 in
theorem ct_X8_plate (l : Launch) (D : va_G) (cI cZ cJ : ClassId) (bd : Nat → Nat) (S : ZS) (hI : MI S) (hdis : mDis bd) (x0 x1 : Int) (hx0 : ir x0) (hx1 : ir x1)  : Met l yX8_plate wsX8_plate rmct_X8_plate (zP D cI cZ cJ (mW cI cZ bd S) [.ref (bd 0), .int (zi x0), .int (zi x1)]) (zWi D (mW cI cZ bd) (mA bd) (fun r T => pubQ S (kM_plate S x0 x1) (S 3 0) (fun P => su (su (su P 4 (up (P 4) (P 3 0) x0)) 5 (up (P 5) (P 3 0) x1)) 3 (fun _ => P 3 0 + 1)) r T ∧ MI T)) 0 0 (mA bd) := by
  refine Met.ofW (cc := cX8_plate) (maxL := 4) (ret := (some .int)) (by decide) rfl ?_
  intro p e s m args below meth c s₁ B hml hv
  obtain ⟨rfl, hP, hK⟩ := hv
  have hx := B.exec
  have hb := B.bytes
  have hr := B.returns
  have hts := atoms_spec (ws := wsX8_plate) B.pre
  have hown : s.vm.findClass RX8 = some m.cls := findClass_of_methodNamed B.named
  have hlocks := B.notSynchronized
  have hl := lv_entry ([.ref (bd 0), .int (zi x0), .int (zi x1)]) (n := 4) (Nat.le_of_ble_eq_true rfl)
  rw [lg_entry_eq]
  generalize (lg_sl ([.ref (bd 0), .int (zi x0), .int (zi x1)]) ++ List.replicate (4 - (lg_sl ([.ref (bd 0), .int (zi x0), .int (zi x1)])).length) Slot.unset).toArray = ls at hl ⊢
  have hl : lv_has ls 4 [(0, .ref (bd 0)), (1, .int (zi x0)), (2, .int (zi x1))] := hl
  have hS : va_S (mA bd) s.heap s.heap [] := va_S.rf
  show W p l e rmct_X8_plate s m ([.ref (bd 0), .int (zi x0), .int (zi x1)] : List Value).toArray below meth c s.heap [] 0 0 (MQ below (zWi D (mW cI cZ bd) (mA bd) (fun r T => pubQ S (kM_plate S x0 x1) (S 3 0) (fun P => su (su (su P 4 (up (P 4) (P 3 0) x0)) 5 (up (P 5) (P 3 0) x1)) 3 (fun _ => P 3 0 + 1)) r T ∧ MI T)) ([.ref (bd 0), .int (zi x0), .int (zi x1)] : List Value).toArray s 0 0 (mA bd)) (F0 m 0 ls [])
  have hc0 : (0 : Int) ≤ S 1 0 ∧ S 1 0 ≤ 6 := hI 1 0
  refine lv_iload_n hx hb dX8_plate_0 rfl (lv_at hl 1 rfl) ?_
  refine zi_iconst hx hb dX8_plate_1 ?_
  refine lv_aload_n hx hb dX8_plate_2 rfl (lv_at hl 0 rfl) ?_
  refine va_get (D := D) (ci := 8) (v := .int (zi (S 1 0))) (C := RX8) (T := TX8) (N := 32) hx hb hts in_X8_plate_8 hown hK.1 hP 0 rfl rfl 1 (by decide) (hts _ lk_X8_plate_98) (fun _ h9 => h9) rfl dX8_plate_3 ?_
  have f_3 : (0 : Int) ≤ S 1 0 ∧ S 1 0 ≤ 6 := hI 1 0
  refine zi_iconst hx hb dX8_plate_6 ?_
  refine zi_isub hx hb dX8_plate_7 ?_
  refine zk_r (zc_S (As := [.int (zi x0), .int (zi 0), .int (zi ((S 1 0) - 1))]) (rest := []) ⟨hx, hb, hml, hown, hts⟩ (ct_X8_isIn l D cI cZ cJ x0 0 ((S 1 0) - 1) ⟨by omega, by omega⟩ ⟨by decide, by decide⟩ ⟨by omega, by omega⟩) (va_cwS 3 hts gX8_plate_X8_isIn rfl rfl rfl (by decide +kernel) ⟨Nat.le_of_ble_eq_true rfl, Nat.le_of_ble_eq_true rfl⟩) hK va_P_nil rfl hl.1 rfl (Nat.le_of_ble_eq_true rfl) dX8_plate_8 ⟨Nat.zero_le _, Nat.zero_le _⟩) ?_
  refine zi_top (fun (r_8 : Int) (er_8 : r_8 = b2 (0 ≤ x0 ∧ x0 ≤ ((S 1 0) - 1))) => ?_)
  have fr_8 : (0 : Int) ≤ r_8 ∧ r_8 ≤ 1 := by rw [er_8]; exact b2_b
  have fr_81 : (r_8 = 1 ∧ (0 ≤ x0 ∧ x0 ≤ ((S 1 0) - 1))) ∨ (r_8 = 0 ∧ ¬ (0 ≤ x0 ∧ x0 ≤ ((S 1 0) - 1))) := by rw [er_8]; exact b2_or _
  refine lv_istore_n (lv' := [(3, .int (zi r_8)), (0, .ref (bd 0)), (1, .int (zi x0)), (2, .int (zi x1))]) hx hb dX8_plate_11 rfl hl (by decide) rfl (fun ls hl => ?_)
  refine lv_aload_n hx hb dX8_plate_12 rfl (lv_at hl 1 rfl) ?_
  refine lv_iload_n hx hb dX8_plate_13 rfl (lv_at hl 0 rfl) ?_
  refine zi_if_ne (tgt := 21) hx hb ⟨by omega, by omega⟩ dX8_plate_14 (by decide) (fun c_14 => ?_) (fun c_14 => ?_)
  · refine lv_iload_n hx hb dX8_plate_21 rfl (lv_at hl 3 rfl) ?_
    refine zk_r (zc_S (As := [.int (zi x1)]) (rest := [.ref (bd 0)]) ⟨hx, hb, hml, hown, hts⟩ (ct_X8_isNight l D cI cZ cJ x1 ⟨by omega, by omega⟩) (va_cwS 1 hts gX8_plate_X8_isNight rfl rfl rfl (by decide +kernel) ⟨Nat.le_of_ble_eq_true rfl, Nat.le_of_ble_eq_true rfl⟩) hK va_P_nil rfl hl.1 rfl (Nat.le_of_ble_eq_true rfl) dX8_plate_22 ⟨Nat.zero_le _, Nat.zero_le _⟩) ?_
    refine zi_top (fun (r_22 : Int) (er_22 : r_22 = b2 (0 ≤ x1 ∧ x1 ≤ 999)) => ?_)
    have fr_22 : (0 : Int) ≤ r_22 ∧ r_22 ≤ 1 := by rw [er_22]; exact b2_b
    have fr_221 : (r_22 = 1 ∧ (0 ≤ x1 ∧ x1 ≤ 999)) ∨ (r_22 = 0 ∧ ¬ (0 ≤ x1 ∧ x1 ≤ 999)) := by rw [er_22]; exact b2_or _
    refine zi_if_ne (tgt := 32) hx hb ⟨by omega, by omega⟩ dX8_plate_25 (by decide) (fun c_25 => ?_) (fun c_25 => ?_)
    · refine lv_aload_n hx hb dX8_plate_32 rfl (lv_at hl 1 rfl) ?_
      refine va_get (D := D) (ci := 8) (v := .int (zi (S 3 0))) (C := RX8) (T := TX8) (N := 32) hx hb hts in_X8_plate_8 hown hK.1 hP 0 rfl rfl 3 (by decide) (hts _ lk_X8_plate_108) (fun _ h9 => h9) rfl dX8_plate_33 ?_
      have f_33 : (0 : Int) ≤ S 3 0 ∧ S 3 0 ≤ 30 := hI 3 0
      refine zi_bipush hx hb dX8_plate_36 (by decide) ?_
      refine zi_icmp_ne (tgt := 45) hx hb ⟨by omega, by omega⟩ ⟨by decide, by decide⟩ dX8_plate_38 (by decide) (fun c_38 => ?_) (fun c_38 => ?_)
      · refine zi_iconst hx hb dX8_plate_45 ?_
        have hkk : (kM_plate S x0 x1) = 0 := by rw [kM_plate, cif_f (by omega), cif_f (by omega), cif_f (by omega)]
        refine zk_wi (zc_V (As := [.int (zi 0)]) (rest := []) ⟨hx, hb, hml, hown, hts⟩ (ct_X8_can l D cI cZ cJ bd S hI hdis 0 ⟨by decide, by decide⟩ (by omega) (by omega)) (cwV 1 hts gX8_plate_X8_can rfl rfl rfl (by decide +kernel) ⟨Nat.le_of_ble_eq_true rfl, Nat.le_of_ble_eq_true rfl⟩) hK hP (q0 := 0) (ci := 8) rfl rfl rfl rfl hl.1 rfl (Nat.le_of_ble_eq_true rfl) dX8_plate_46 ⟨Nat.zero_le _, Nat.zero_le _⟩) hS (fun r_46 S_46 H locs hp_46 hP hS => ?_)
        obtain ⟨er_46, e9, hI_46⟩ := hp_46
        have eS_46 := e9.symm; clear e9
        have fr_46 : (0 : Int) ≤ r_46 ∧ r_46 ≤ 1 := by rw [er_46]; exact b2_b
        have k_46 : r_46 = 1 := er_46.trans (b2_t rfl)
        refine zi_if_ne (tgt := 54) hx hb ⟨by omega, by omega⟩ dX8_plate_49 (by decide) (fun c_49 => ?_) (fun c_49 => ?_)
        · refine lv_aload_n hx hb dX8_plate_54 rfl (lv_at hl 1 rfl) ?_
          refine va_get (D := D) (ci := 8) (v := .ref (bd 5)) (C := RX8) (T := TX8) (N := 32) hx hb hts in_X8_plate_8 hown hK.1 hP 0 rfl rfl 4 (by decide) (hts _ lk_X8_plate_16) (fun _ h9 => h9) rfl dX8_plate_55 ?_
          refine lv_aload_n hx hb dX8_plate_58 rfl (lv_at hl 1 rfl) ?_
          refine va_get (D := D) (ci := 8) (v := .int (zi (S_46 3 0))) (C := RX8) (T := TX8) (N := 32) hx hb hts in_X8_plate_8 hown hK.1 hP 0 rfl rfl 3 (by decide) (hts _ lk_X8_plate_108) (fun _ h9 => h9) rfl dX8_plate_59 ?_
          refine zi_is (S 3 0) (by rw [← eS_46] <;> rfl) ?_
          have f_59 : (0 : Int) ≤ S 3 0 ∧ S 3 0 ≤ 30 := hI 3 0
          refine lv_iload_n hx hb dX8_plate_62 rfl (lv_at hl 2 rfl) ?_
          refine zi_iast hx hb hK.1 hP (mW_D hdis _) hS 3 0 rfl rfl (by omega) (by omega) (by decide) dX8_plate_63 (fun H locs hP hS => ?_)
          have hP : va_P D vwCl (mW cI cZ bd (su S_46 4 (up (S_46 4) (S 3 0) x0))) H := hP
          have hI_63 : MI (su S_46 4 (up (S_46 4) (S 3 0) x0)) := MI.up hI_46 4 (S 3 0) x0 (show (0 : Int) ≤ x0 ∧ x0 ≤ 5 from ⟨by omega, by omega⟩)
          generalize eS_63 : su S_46 4 (up (S_46 4) (S 3 0) x0) = S_63 at hP hI_63
          refine lv_aload_n hx hb dX8_plate_64 rfl (lv_at hl 1 rfl) ?_
          refine va_get (D := D) (ci := 8) (v := .ref (bd 6)) (C := RX8) (T := TX8) (N := 32) hx hb hts in_X8_plate_8 hown hK.1 hP 0 rfl rfl 5 (by decide) (hts _ lk_X8_plate_19) (fun _ h9 => h9) rfl dX8_plate_65 ?_
          refine lv_aload_n hx hb dX8_plate_68 rfl (lv_at hl 1 rfl) ?_
          refine va_get (D := D) (ci := 8) (v := .int (zi (S_63 3 0))) (C := RX8) (T := TX8) (N := 32) hx hb hts in_X8_plate_8 hown hK.1 hP 0 rfl rfl 3 (by decide) (hts _ lk_X8_plate_108) (fun _ h9 => h9) rfl dX8_plate_69 ?_
          refine zi_is (S 3 0) (by rw [← eS_63, ← eS_46] <;> rfl) ?_
          have f_69 : (0 : Int) ≤ S 3 0 ∧ S 3 0 ≤ 30 := hI 3 0
          refine lv_iload_n hx hb dX8_plate_72 rfl (lv_at hl 3 rfl) ?_
          refine zi_iast hx hb hK.1 hP (mW_D hdis _) hS 4 0 rfl rfl (by omega) (by omega) (by decide) dX8_plate_73 (fun H locs hP hS => ?_)
          have hP : va_P D vwCl (mW cI cZ bd (su S_63 5 (up (S_63 5) (S 3 0) x1))) H := hP
          have hI_73 : MI (su S_63 5 (up (S_63 5) (S 3 0) x1)) := MI.up hI_63 5 (S 3 0) x1 (show (0 : Int) ≤ x1 ∧ x1 ≤ 999 from ⟨by omega, by omega⟩)
          generalize eS_73 : su S_63 5 (up (S_63 5) (S 3 0) x1) = S_73 at hP hI_73
          refine lv_aload_n hx hb dX8_plate_74 rfl (lv_at hl 1 rfl) ?_
          refine lv_dup hx hb dX8_plate_75 rfl ?_
          refine va_get (D := D) (ci := 8) (v := .int (zi (S_73 3 0))) (C := RX8) (T := TX8) (N := 32) hx hb hts in_X8_plate_8 hown hK.1 hP 0 rfl rfl 3 (by decide) (hts _ lk_X8_plate_108) (fun _ h9 => h9) rfl dX8_plate_76 ?_
          refine zi_is (S 3 0) (by rw [← eS_73, ← eS_63, ← eS_46] <;> rfl) ?_
          have f_76 : (0 : Int) ≤ S 3 0 ∧ S 3 0 ≤ 30 := hI 3 0
          refine zi_iconst hx hb dX8_plate_79 ?_
          refine zi_iadd hx hb dX8_plate_80 ?_
          refine va_put (D := D) (ci := 8) (v := .int (zi ((S 3 0) + 1))) (ty := .int) (C := RX8) (T := TX8) (N := 32) hx hb hts in_X8_plate_8 tyX8 tyX8_ok nmX8 hown hK.1 hP (mW_D hdis _) hS 0 rfl rfl 3 (by decide) (hts _ lk_X8_plate_108) (fun _ h9 => h9) rfl (by decide +kernel) rfl rfl (Nat.le_of_ble_eq_true rfl) dX8_plate_81 (fun H locs hP _ hS => ?_)
          have hP : va_P D vwCl (mW cI cZ bd (su S_73 3 (fun _ => (S 3 0) + 1))) H := hP
          have hI_81 : MI (su S_73 3 (fun _ => (S 3 0) + 1)) := MI.upc hI_73 3 ((S 3 0) + 1) (show (0 : Int) ≤ ((S 3 0) + 1) ∧ ((S 3 0) + 1) ≤ 30 from ⟨by omega, by omega⟩)
          generalize eS_81 : su S_73 3 (fun _ => (S 3 0) + 1) = S_81 at hP hI_81
          refine lv_aload_n hx hb dX8_plate_84 rfl (lv_at hl 1 rfl) ?_
          refine va_get (D := D) (ci := 8) (v := .int (zi (S_81 3 0))) (C := RX8) (T := TX8) (N := 32) hx hb hts in_X8_plate_8 hown hK.1 hP 0 rfl rfl 3 (by decide) (hts _ lk_X8_plate_108) (fun _ h9 => h9) rfl dX8_plate_85 ?_
          refine zi_is ((S 3 0) + 1) (by rw [← eS_81] <;> rfl) ?_
          refine zi_iconst hx hb dX8_plate_88 ?_
          refine zi_isub hx hb dX8_plate_89 ?_
          exact zr_wi (T := S_81) hx hb hr hlocks dX8_plate_90 hP hS (by exact ⟨pub_ok hkk (by omega) (by rw [← eS_81, ← eS_73, ← eS_63, ← eS_46]; exact SM.rf), hI_81⟩)
        · exact absurd c_49 (by omega)
      · refine zi_iconst hx hb dX8_plate_41 ?_
        refine lv_goto (tgt := 46) hx hb dX8_plate_42 (by decide) ?_
        have hkk : (kM_plate S x0 x1) = 3 := by rw [kM_plate, cif_f (by omega), cif_f (by omega), cif_t (by omega)]
        refine zk_wi (zc_V (As := [.int (zi 3)]) (rest := []) ⟨hx, hb, hml, hown, hts⟩ (ct_X8_can l D cI cZ cJ bd S hI hdis 3 ⟨by decide, by decide⟩ (by omega) (by omega)) (cwV 1 hts gX8_plate_X8_can rfl rfl rfl (by decide +kernel) ⟨Nat.le_of_ble_eq_true rfl, Nat.le_of_ble_eq_true rfl⟩) hK hP (q0 := 0) (ci := 8) rfl rfl rfl rfl hl.1 rfl (Nat.le_of_ble_eq_true rfl) dX8_plate_46 ⟨Nat.zero_le _, Nat.zero_le _⟩) hS (fun r_46 S_46 H locs hp_46 hP hS => ?_)
        obtain ⟨er_46, e9, hI_46⟩ := hp_46
        have eS_46 := e9.symm; clear e9
        have fr_46 : (0 : Int) ≤ r_46 ∧ r_46 ≤ 1 := by rw [er_46]; exact b2_b
        have k_46 : r_46 = 0 := er_46.trans (b2_f (by decide))
        refine zi_if_ne (tgt := 54) hx hb ⟨by omega, by omega⟩ dX8_plate_49 (by decide) (fun c_49 => ?_) (fun c_49 => ?_)
        · exact absurd c_49 (by omega)
        · refine zi_iconst hx hb dX8_plate_52 ?_
          exact zr_wi (T := S_46) hx hb hr hlocks dX8_plate_53 hP hS (by exact ⟨pub_no hkk (by decide) (SM.rf) eS_46, hI_46⟩)
    · refine zi_iconst hx hb dX8_plate_28 ?_
      refine lv_goto (tgt := 46) hx hb dX8_plate_29 (by decide) ?_
      have hkk : (kM_plate S x0 x1) = 2 := by rw [kM_plate, cif_f (by omega), cif_t (by omega)]
      refine zk_wi (zc_V (As := [.int (zi 2)]) (rest := []) ⟨hx, hb, hml, hown, hts⟩ (ct_X8_can l D cI cZ cJ bd S hI hdis 2 ⟨by decide, by decide⟩ (by omega) (by omega)) (cwV 1 hts gX8_plate_X8_can rfl rfl rfl (by decide +kernel) ⟨Nat.le_of_ble_eq_true rfl, Nat.le_of_ble_eq_true rfl⟩) hK hP (q0 := 0) (ci := 8) rfl rfl rfl rfl hl.1 rfl (Nat.le_of_ble_eq_true rfl) dX8_plate_46 ⟨Nat.zero_le _, Nat.zero_le _⟩) hS (fun r_46 S_46 H locs hp_46 hP hS => ?_)
      obtain ⟨er_46, e9, hI_46⟩ := hp_46
      have eS_46 := e9.symm; clear e9
      have fr_46 : (0 : Int) ≤ r_46 ∧ r_46 ≤ 1 := by rw [er_46]; exact b2_b
      have k_46 : r_46 = 0 := er_46.trans (b2_f (by decide))
      refine zi_if_ne (tgt := 54) hx hb ⟨by omega, by omega⟩ dX8_plate_49 (by decide) (fun c_49 => ?_) (fun c_49 => ?_)
      · exact absurd c_49 (by omega)
      · refine zi_iconst hx hb dX8_plate_52 ?_
        exact zr_wi (T := S_46) hx hb hr hlocks dX8_plate_53 hP hS (by exact ⟨pub_no hkk (by decide) (SM.rf) eS_46, hI_46⟩)
  · refine zi_iconst hx hb dX8_plate_17 ?_
    refine lv_goto (tgt := 46) hx hb dX8_plate_18 (by decide) ?_
    have hkk : (kM_plate S x0 x1) = 1 := by rw [kM_plate, cif_t (by omega)]
    refine zk_wi (zc_V (As := [.int (zi 1)]) (rest := []) ⟨hx, hb, hml, hown, hts⟩ (ct_X8_can l D cI cZ cJ bd S hI hdis 1 ⟨by decide, by decide⟩ (by omega) (by omega)) (cwV 1 hts gX8_plate_X8_can rfl rfl rfl (by decide +kernel) ⟨Nat.le_of_ble_eq_true rfl, Nat.le_of_ble_eq_true rfl⟩) hK hP (q0 := 0) (ci := 8) rfl rfl rfl rfl hl.1 rfl (Nat.le_of_ble_eq_true rfl) dX8_plate_46 ⟨Nat.zero_le _, Nat.zero_le _⟩) hS (fun r_46 S_46 H locs hp_46 hP hS => ?_)
    obtain ⟨er_46, e9, hI_46⟩ := hp_46
    have eS_46 := e9.symm; clear e9
    have fr_46 : (0 : Int) ≤ r_46 ∧ r_46 ≤ 1 := by rw [er_46]; exact b2_b
    have k_46 : r_46 = 0 := er_46.trans (b2_f (by decide))
    refine zi_if_ne (tgt := 54) hx hb ⟨by omega, by omega⟩ dX8_plate_49 (by decide) (fun c_49 => ?_) (fun c_49 => ?_)
    · exact absurd c_49 (by omega)
    · refine zi_iconst hx hb dX8_plate_52 ?_
      exact zr_wi (T := S_46) hx hb hr hlocks dX8_plate_53 hP hS (by exact ⟨pub_no hkk (by decide) (SM.rf) eS_46, hI_46⟩)

noncomputable def kM_dot (S : ZS) (x0 x1 x2 : Int) : Int := cif (¬ (0 ≤ x0 ∧ x0 < S 3 0)) 1 (cif (¬ ((0 ≤ x1 ∧ x1 ≤ 3599) ∧ (0 ≤ x2 ∧ x2 ≤ 99))) 2 (cif (S 6 0 = 60) 3 (0)))
theorem in_X8_dot_8 : ∀ w ∈ wsX80, w ∈ wsX8_dot := by decide +kernel
theorem lk_X8_dot_108 : Cond.fieldLink RX8 108 "PlanetoidDeskModel" "plates" "I" ∈ wsX8_dot := by decide +kernel
theorem lk_X8_dot_92 : Cond.fieldLink RX8 92 "PlanetoidDeskModel" "dots" "I" ∈ wsX8_dot := by decide +kernel
theorem lk_X8_dot_22 : Cond.fieldLink RX8 22 "PlanetoidDeskModel" "plateOf" "[I" ∈ wsX8_dot := by decide +kernel
theorem lk_X8_dot_25 : Cond.fieldLink RX8 25 "PlanetoidDeskModel" "measured" "[I" ∈ wsX8_dot := by decide +kernel
theorem lk_X8_dot_28 : Cond.fieldLink RX8 28 "PlanetoidDeskModel" "light" "[I" ∈ wsX8_dot := by decide +kernel
theorem lk_X8_dot_31 : Cond.fieldLink RX8 31 "PlanetoidDeskModel" "own" "[I" ∈ wsX8_dot := by decide +kernel
abbrev rmct_X8_dot : Room := { frames := 1, cells := 0, slots := 0, locals := 22 }
set_option maxHeartbeats 4000000 in
set_option maxRecDepth 100000 in
theorem ct_X8_dot (l : Launch) (D : va_G) (cI cZ cJ : ClassId) (bd : Nat → Nat) (S : ZS) (hI : MI S) (hdis : mDis bd) (x0 x1 x2 : Int) (hx0 : ir x0) (hx1 : ir x1) (hx2 : ir x2)  : Met l yX8_dot wsX8_dot rmct_X8_dot (zP D cI cZ cJ (mW cI cZ bd S) [.ref (bd 0), .int (zi x0), .int (zi x1), .int (zi x2)]) (zWi D (mW cI cZ bd) (mA bd) (fun r T => pubQ S (kM_dot S x0 x1 x2) (S 6 0) (fun P => su (su (su (su (su P 7 (up (P 7) (P 6 0) x0)) 8 (up (P 8) (P 6 0) x1)) 9 (up (P 9) (P 6 0) x2)) 10 (up (P 10) (P 6 0) (-1))) 6 (fun _ => P 6 0 + 1)) r T ∧ MI T)) 0 0 (mA bd) := by
  refine Met.ofW (cc := cX8_dot) (maxL := 6) (ret := (some .int)) (by decide) rfl ?_
  intro p e s m args below meth c s₁ B hml hv
  obtain ⟨rfl, hP, hK⟩ := hv
  have hx := B.exec
  have hb := B.bytes
  have hr := B.returns
  have hts := atoms_spec (ws := wsX8_dot) B.pre
  have hown : s.vm.findClass RX8 = some m.cls := findClass_of_methodNamed B.named
  have hlocks := B.notSynchronized
  have hl := lv_entry ([.ref (bd 0), .int (zi x0), .int (zi x1), .int (zi x2)]) (n := 6) (Nat.le_of_ble_eq_true rfl)
  rw [lg_entry_eq]
  generalize (lg_sl ([.ref (bd 0), .int (zi x0), .int (zi x1), .int (zi x2)]) ++ List.replicate (6 - (lg_sl ([.ref (bd 0), .int (zi x0), .int (zi x1), .int (zi x2)])).length) Slot.unset).toArray = ls at hl ⊢
  have hl : lv_has ls 6 [(0, .ref (bd 0)), (1, .int (zi x0)), (2, .int (zi x1)), (3, .int (zi x2))] := hl
  have hS : va_S (mA bd) s.heap s.heap [] := va_S.rf
  show W p l e rmct_X8_dot s m ([.ref (bd 0), .int (zi x0), .int (zi x1), .int (zi x2)] : List Value).toArray below meth c s.heap [] 0 0 (MQ below (zWi D (mW cI cZ bd) (mA bd) (fun r T => pubQ S (kM_dot S x0 x1 x2) (S 6 0) (fun P => su (su (su (su (su P 7 (up (P 7) (P 6 0) x0)) 8 (up (P 8) (P 6 0) x1)) 9 (up (P 9) (P 6 0) x2)) 10 (up (P 10) (P 6 0) (-1))) 6 (fun _ => P 6 0 + 1)) r T ∧ MI T)) ([.ref (bd 0), .int (zi x0), .int (zi x1), .int (zi x2)] : List Value).toArray s 0 0 (mA bd)) (F0 m 0 ls [])
  have hc0 : (0 : Int) ≤ S 3 0 ∧ S 3 0 ≤ 30 := hI 3 0
  refine lv_iload_n hx hb dX8_dot_0 rfl (lv_at hl 1 rfl) ?_
  refine zi_iconst hx hb dX8_dot_1 ?_
  refine lv_aload_n hx hb dX8_dot_2 rfl (lv_at hl 0 rfl) ?_
  refine va_get (D := D) (ci := 8) (v := .int (zi (S 3 0))) (C := RX8) (T := TX8) (N := 32) hx hb hts in_X8_dot_8 hown hK.1 hP 0 rfl rfl 3 (by decide) (hts _ lk_X8_dot_108) (fun _ h9 => h9) rfl dX8_dot_3 ?_
  have f_3 : (0 : Int) ≤ S 3 0 ∧ S 3 0 ≤ 30 := hI 3 0
  refine zi_iconst hx hb dX8_dot_6 ?_
  refine zi_isub hx hb dX8_dot_7 ?_
  refine zk_r (zc_S (As := [.int (zi x0), .int (zi 0), .int (zi ((S 3 0) - 1))]) (rest := []) ⟨hx, hb, hml, hown, hts⟩ (ct_X8_isIn l D cI cZ cJ x0 0 ((S 3 0) - 1) ⟨by omega, by omega⟩ ⟨by decide, by decide⟩ ⟨by omega, by omega⟩) (va_cwS 3 hts gX8_dot_X8_isIn rfl rfl rfl (by decide +kernel) ⟨Nat.le_of_ble_eq_true rfl, Nat.le_of_ble_eq_true rfl⟩) hK va_P_nil rfl hl.1 rfl (Nat.le_of_ble_eq_true rfl) dX8_dot_8 ⟨Nat.zero_le _, Nat.zero_le _⟩) ?_
  refine zi_top (fun (r_8 : Int) (er_8 : r_8 = b2 (0 ≤ x0 ∧ x0 ≤ ((S 3 0) - 1))) => ?_)
  have fr_8 : (0 : Int) ≤ r_8 ∧ r_8 ≤ 1 := by rw [er_8]; exact b2_b
  have fr_81 : (r_8 = 1 ∧ (0 ≤ x0 ∧ x0 ≤ ((S 3 0) - 1))) ∨ (r_8 = 0 ∧ ¬ (0 ≤ x0 ∧ x0 ≤ ((S 3 0) - 1))) := by rw [er_8]; exact b2_or _
  refine lv_istore (lv' := [(4, .int (zi r_8)), (0, .ref (bd 0)), (1, .int (zi x0)), (2, .int (zi x1)), (3, .int (zi x2))]) hx hb dX8_dot_11 hl (by decide) rfl (fun ls hl => ?_)
  refine lv_iload_n hx hb dX8_dot_13 rfl (lv_at hl 3 rfl) ?_
  refine zi_iconst hx hb dX8_dot_14 ?_
  refine zi_sipush hx hb dX8_dot_15 (by decide) ?_
  refine zk_r (zc_S (As := [.int (zi x1), .int (zi 0), .int (zi 3599)]) (rest := []) ⟨hx, hb, hml, hown, hts⟩ (ct_X8_isIn l D cI cZ cJ x1 0 3599 ⟨by omega, by omega⟩ ⟨by decide, by decide⟩ ⟨by decide, by decide⟩) (va_cwS 3 hts gX8_dot_X8_isIn rfl rfl rfl (by decide +kernel) ⟨Nat.le_of_ble_eq_true rfl, Nat.le_of_ble_eq_true rfl⟩) hK va_P_nil rfl hl.1 rfl (Nat.le_of_ble_eq_true rfl) dX8_dot_18 ⟨Nat.zero_le _, Nat.zero_le _⟩) ?_
  refine zi_top (fun (r_18 : Int) (er_18 : r_18 = b2 (0 ≤ x1 ∧ x1 ≤ 3599)) => ?_)
  have fr_18 : (0 : Int) ≤ r_18 ∧ r_18 ≤ 1 := by rw [er_18]; exact b2_b
  have fr_181 : (r_18 = 1 ∧ (0 ≤ x1 ∧ x1 ≤ 3599)) ∨ (r_18 = 0 ∧ ¬ (0 ≤ x1 ∧ x1 ≤ 3599)) := by rw [er_18]; exact b2_or _
  refine zi_if_eq (tgt := 38) hx hb ⟨by omega, by omega⟩ dX8_dot_21 (by decide) (fun c_21 => ?_) (fun c_21 => ?_)
  · refine zi_iconst hx hb dX8_dot_38 ?_
    refine lv_istore (lv' := [(5, .int (zi 0)), (4, .int (zi r_8)), (0, .ref (bd 0)), (1, .int (zi x0)), (2, .int (zi x1)), (3, .int (zi x2))]) hx hb dX8_dot_39 hl (by decide) rfl (fun ls hl => ?_)
    refine lv_aload_n hx hb dX8_dot_41 rfl (lv_at hl 2 rfl) ?_
    refine lv_iload hx hb dX8_dot_42 (lv_at hl 1 rfl) ?_
    refine zi_if_ne (tgt := 51) hx hb ⟨by omega, by omega⟩ dX8_dot_44 (by decide) (fun c_44 => ?_) (fun c_44 => ?_)
    · refine lv_iload hx hb dX8_dot_51 (lv_at hl 0 rfl) ?_
      refine zi_if_ne (tgt := 60) hx hb ⟨by decide, by decide⟩ dX8_dot_53 (by decide) (fun c_53 => ?_) (fun c_53 => ?_)
      · refine lv_aload_n hx hb dX8_dot_60 rfl (lv_at hl 2 rfl) ?_
        refine va_get (D := D) (ci := 8) (v := .int (zi (S 6 0))) (C := RX8) (T := TX8) (N := 32) hx hb hts in_X8_dot_8 hown hK.1 hP 0 rfl rfl 6 (by decide) (hts _ lk_X8_dot_92) (fun _ h9 => h9) rfl dX8_dot_61 ?_
        have f_61 : (0 : Int) ≤ S 6 0 ∧ S 6 0 ≤ 60 := hI 6 0
        refine zi_bipush hx hb dX8_dot_64 (by decide) ?_
        refine zi_icmp_ne (tgt := 73) hx hb ⟨by omega, by omega⟩ ⟨by decide, by decide⟩ dX8_dot_66 (by decide) (fun c_66 => ?_) (fun c_66 => ?_)
        · refine zi_iconst hx hb dX8_dot_73 ?_
          have hkk : (kM_dot S x0 x1 x2) = 0 := by rw [kM_dot, cif_f (by omega), cif_f (by omega), cif_f (by omega)]
          refine zk_wi (zc_V (As := [.int (zi 0)]) (rest := []) ⟨hx, hb, hml, hown, hts⟩ (ct_X8_can l D cI cZ cJ bd S hI hdis 0 ⟨by decide, by decide⟩ (by omega) (by omega)) (cwV 1 hts gX8_dot_X8_can rfl rfl rfl (by decide +kernel) ⟨Nat.le_of_ble_eq_true rfl, Nat.le_of_ble_eq_true rfl⟩) hK hP (q0 := 0) (ci := 8) rfl rfl rfl rfl hl.1 rfl (Nat.le_of_ble_eq_true rfl) dX8_dot_74 ⟨Nat.zero_le _, Nat.zero_le _⟩) hS (fun r_74 S_74 H locs hp_74 hP hS => ?_)
          obtain ⟨er_74, e9, hI_74⟩ := hp_74
          have eS_74 := e9.symm; clear e9
          have fr_74 : (0 : Int) ≤ r_74 ∧ r_74 ≤ 1 := by rw [er_74]; exact b2_b
          have k_74 : r_74 = 1 := er_74.trans (b2_t rfl)
          refine zi_if_ne (tgt := 82) hx hb ⟨by omega, by omega⟩ dX8_dot_77 (by decide) (fun c_77 => ?_) (fun c_77 => ?_)
          · refine lv_aload_n hx hb dX8_dot_82 rfl (lv_at hl 2 rfl) ?_
            refine va_get (D := D) (ci := 8) (v := .ref (bd 8)) (C := RX8) (T := TX8) (N := 32) hx hb hts in_X8_dot_8 hown hK.1 hP 0 rfl rfl 7 (by decide) (hts _ lk_X8_dot_22) (fun _ h9 => h9) rfl dX8_dot_83 ?_
            refine lv_aload_n hx hb dX8_dot_86 rfl (lv_at hl 2 rfl) ?_
            refine va_get (D := D) (ci := 8) (v := .int (zi (S_74 6 0))) (C := RX8) (T := TX8) (N := 32) hx hb hts in_X8_dot_8 hown hK.1 hP 0 rfl rfl 6 (by decide) (hts _ lk_X8_dot_92) (fun _ h9 => h9) rfl dX8_dot_87 ?_
            refine zi_is (S 6 0) (by rw [← eS_74] <;> rfl) ?_
            have f_87 : (0 : Int) ≤ S 6 0 ∧ S 6 0 ≤ 60 := hI 6 0
            refine lv_iload_n hx hb dX8_dot_90 rfl (lv_at hl 3 rfl) ?_
            refine zi_iast hx hb hK.1 hP (mW_D hdis _) hS 5 0 rfl rfl (by omega) (by omega) (by decide) dX8_dot_91 (fun H locs hP hS => ?_)
            have hP : va_P D vwCl (mW cI cZ bd (su S_74 7 (up (S_74 7) (S 6 0) x0))) H := hP
            have hI_91 : MI (su S_74 7 (up (S_74 7) (S 6 0) x0)) := MI.up hI_74 7 (S 6 0) x0 (show (0 : Int) ≤ x0 ∧ x0 ≤ 29 from ⟨by omega, by omega⟩)
            generalize eS_91 : su S_74 7 (up (S_74 7) (S 6 0) x0) = S_91 at hP hI_91
            refine lv_aload_n hx hb dX8_dot_92 rfl (lv_at hl 2 rfl) ?_
            refine va_get (D := D) (ci := 8) (v := .ref (bd 9)) (C := RX8) (T := TX8) (N := 32) hx hb hts in_X8_dot_8 hown hK.1 hP 0 rfl rfl 8 (by decide) (hts _ lk_X8_dot_25) (fun _ h9 => h9) rfl dX8_dot_93 ?_
            refine lv_aload_n hx hb dX8_dot_96 rfl (lv_at hl 2 rfl) ?_
            refine va_get (D := D) (ci := 8) (v := .int (zi (S_91 6 0))) (C := RX8) (T := TX8) (N := 32) hx hb hts in_X8_dot_8 hown hK.1 hP 0 rfl rfl 6 (by decide) (hts _ lk_X8_dot_92) (fun _ h9 => h9) rfl dX8_dot_97 ?_
            refine zi_is (S 6 0) (by rw [← eS_91, ← eS_74] <;> rfl) ?_
            have f_97 : (0 : Int) ≤ S 6 0 ∧ S 6 0 ≤ 60 := hI 6 0
            refine lv_iload_n hx hb dX8_dot_100 rfl (lv_at hl 4 rfl) ?_
            refine zi_iast hx hb hK.1 hP (mW_D hdis _) hS 6 0 rfl rfl (by omega) (by omega) (by decide) dX8_dot_101 (fun H locs hP hS => ?_)
            have hP : va_P D vwCl (mW cI cZ bd (su S_91 8 (up (S_91 8) (S 6 0) x1))) H := hP
            have hI_101 : MI (su S_91 8 (up (S_91 8) (S 6 0) x1)) := MI.up hI_91 8 (S 6 0) x1 (show (0 : Int) ≤ x1 ∧ x1 ≤ 3599 from ⟨by omega, by omega⟩)
            generalize eS_101 : su S_91 8 (up (S_91 8) (S 6 0) x1) = S_101 at hP hI_101
            refine lv_aload_n hx hb dX8_dot_102 rfl (lv_at hl 2 rfl) ?_
            refine va_get (D := D) (ci := 8) (v := .ref (bd 10)) (C := RX8) (T := TX8) (N := 32) hx hb hts in_X8_dot_8 hown hK.1 hP 0 rfl rfl 9 (by decide) (hts _ lk_X8_dot_28) (fun _ h9 => h9) rfl dX8_dot_103 ?_
            refine lv_aload_n hx hb dX8_dot_106 rfl (lv_at hl 2 rfl) ?_
            refine va_get (D := D) (ci := 8) (v := .int (zi (S_101 6 0))) (C := RX8) (T := TX8) (N := 32) hx hb hts in_X8_dot_8 hown hK.1 hP 0 rfl rfl 6 (by decide) (hts _ lk_X8_dot_92) (fun _ h9 => h9) rfl dX8_dot_107 ?_
            refine zi_is (S 6 0) (by rw [← eS_101, ← eS_91, ← eS_74] <;> rfl) ?_
            have f_107 : (0 : Int) ≤ S 6 0 ∧ S 6 0 ≤ 60 := hI 6 0
            refine lv_iload_n hx hb dX8_dot_110 rfl (lv_at hl 5 rfl) ?_
            refine zi_iast hx hb hK.1 hP (mW_D hdis _) hS 7 0 rfl rfl (by omega) (by omega) (by decide) dX8_dot_111 (fun H locs hP hS => ?_)
            have hP : va_P D vwCl (mW cI cZ bd (su S_101 9 (up (S_101 9) (S 6 0) x2))) H := hP
            have hI_111 : MI (su S_101 9 (up (S_101 9) (S 6 0) x2)) := MI.up hI_101 9 (S 6 0) x2 (show (0 : Int) ≤ x2 ∧ x2 ≤ 99 from ⟨by omega, by omega⟩)
            generalize eS_111 : su S_101 9 (up (S_101 9) (S 6 0) x2) = S_111 at hP hI_111
            refine lv_aload_n hx hb dX8_dot_112 rfl (lv_at hl 2 rfl) ?_
            refine va_get (D := D) (ci := 8) (v := .ref (bd 11)) (C := RX8) (T := TX8) (N := 32) hx hb hts in_X8_dot_8 hown hK.1 hP 0 rfl rfl 10 (by decide) (hts _ lk_X8_dot_31) (fun _ h9 => h9) rfl dX8_dot_113 ?_
            refine lv_aload_n hx hb dX8_dot_116 rfl (lv_at hl 2 rfl) ?_
            refine va_get (D := D) (ci := 8) (v := .int (zi (S_111 6 0))) (C := RX8) (T := TX8) (N := 32) hx hb hts in_X8_dot_8 hown hK.1 hP 0 rfl rfl 6 (by decide) (hts _ lk_X8_dot_92) (fun _ h9 => h9) rfl dX8_dot_117 ?_
            refine zi_is (S 6 0) (by rw [← eS_111, ← eS_101, ← eS_91, ← eS_74] <;> rfl) ?_
            have f_117 : (0 : Int) ≤ S 6 0 ∧ S 6 0 ≤ 60 := hI 6 0
            refine zi_iconst hx hb dX8_dot_120 ?_
            refine zi_iast hx hb hK.1 hP (mW_D hdis _) hS 8 0 rfl rfl (by omega) (by omega) (by decide) dX8_dot_121 (fun H locs hP hS => ?_)
            have hP : va_P D vwCl (mW cI cZ bd (su S_111 10 (up (S_111 10) (S 6 0) (-1)))) H := hP
            have hI_121 : MI (su S_111 10 (up (S_111 10) (S 6 0) (-1))) := MI.up hI_111 10 (S 6 0) (-1) (show (-1 : Int) ≤ (-1) ∧ (-1) ≤ 19 from ⟨by omega, by omega⟩)
            generalize eS_121 : su S_111 10 (up (S_111 10) (S 6 0) (-1)) = S_121 at hP hI_121
            refine lv_aload_n hx hb dX8_dot_122 rfl (lv_at hl 2 rfl) ?_
            refine lv_dup hx hb dX8_dot_123 rfl ?_
            refine va_get (D := D) (ci := 8) (v := .int (zi (S_121 6 0))) (C := RX8) (T := TX8) (N := 32) hx hb hts in_X8_dot_8 hown hK.1 hP 0 rfl rfl 6 (by decide) (hts _ lk_X8_dot_92) (fun _ h9 => h9) rfl dX8_dot_124 ?_
            refine zi_is (S 6 0) (by rw [← eS_121, ← eS_111, ← eS_101, ← eS_91, ← eS_74] <;> rfl) ?_
            have f_124 : (0 : Int) ≤ S 6 0 ∧ S 6 0 ≤ 60 := hI 6 0
            refine zi_iconst hx hb dX8_dot_127 ?_
            refine zi_iadd hx hb dX8_dot_128 ?_
            refine va_put (D := D) (ci := 8) (v := .int (zi ((S 6 0) + 1))) (ty := .int) (C := RX8) (T := TX8) (N := 32) hx hb hts in_X8_dot_8 tyX8 tyX8_ok nmX8 hown hK.1 hP (mW_D hdis _) hS 0 rfl rfl 6 (by decide) (hts _ lk_X8_dot_92) (fun _ h9 => h9) rfl (by decide +kernel) rfl rfl (Nat.le_of_ble_eq_true rfl) dX8_dot_129 (fun H locs hP _ hS => ?_)
            have hP : va_P D vwCl (mW cI cZ bd (su S_121 6 (fun _ => (S 6 0) + 1))) H := hP
            have hI_129 : MI (su S_121 6 (fun _ => (S 6 0) + 1)) := MI.upc hI_121 6 ((S 6 0) + 1) (show (0 : Int) ≤ ((S 6 0) + 1) ∧ ((S 6 0) + 1) ≤ 60 from ⟨by omega, by omega⟩)
            generalize eS_129 : su S_121 6 (fun _ => (S 6 0) + 1) = S_129 at hP hI_129
            refine lv_aload_n hx hb dX8_dot_132 rfl (lv_at hl 2 rfl) ?_
            refine va_get (D := D) (ci := 8) (v := .int (zi (S_129 6 0))) (C := RX8) (T := TX8) (N := 32) hx hb hts in_X8_dot_8 hown hK.1 hP 0 rfl rfl 6 (by decide) (hts _ lk_X8_dot_92) (fun _ h9 => h9) rfl dX8_dot_133 ?_
            refine zi_is ((S 6 0) + 1) (by rw [← eS_129] <;> rfl) ?_
            refine zi_iconst hx hb dX8_dot_136 ?_
            refine zi_isub hx hb dX8_dot_137 ?_
            exact zr_wi (T := S_129) hx hb hr hlocks dX8_dot_138 hP hS (by exact ⟨pub_ok hkk (by omega) (by rw [← eS_129, ← eS_121, ← eS_111, ← eS_101, ← eS_91, ← eS_74]; exact SM.rf), hI_129⟩)
          · exact absurd c_77 (by omega)
        · refine zi_iconst hx hb dX8_dot_69 ?_
          refine lv_goto (tgt := 74) hx hb dX8_dot_70 (by decide) ?_
          have hkk : (kM_dot S x0 x1 x2) = 3 := by rw [kM_dot, cif_f (by omega), cif_f (by omega), cif_t (by omega)]
          refine zk_wi (zc_V (As := [.int (zi 3)]) (rest := []) ⟨hx, hb, hml, hown, hts⟩ (ct_X8_can l D cI cZ cJ bd S hI hdis 3 ⟨by decide, by decide⟩ (by omega) (by omega)) (cwV 1 hts gX8_dot_X8_can rfl rfl rfl (by decide +kernel) ⟨Nat.le_of_ble_eq_true rfl, Nat.le_of_ble_eq_true rfl⟩) hK hP (q0 := 0) (ci := 8) rfl rfl rfl rfl hl.1 rfl (Nat.le_of_ble_eq_true rfl) dX8_dot_74 ⟨Nat.zero_le _, Nat.zero_le _⟩) hS (fun r_74 S_74 H locs hp_74 hP hS => ?_)
          obtain ⟨er_74, e9, hI_74⟩ := hp_74
          have eS_74 := e9.symm; clear e9
          have fr_74 : (0 : Int) ≤ r_74 ∧ r_74 ≤ 1 := by rw [er_74]; exact b2_b
          have k_74 : r_74 = 0 := er_74.trans (b2_f (by decide))
          refine zi_if_ne (tgt := 82) hx hb ⟨by omega, by omega⟩ dX8_dot_77 (by decide) (fun c_77 => ?_) (fun c_77 => ?_)
          · exact absurd c_77 (by omega)
          · refine zi_iconst hx hb dX8_dot_80 ?_
            exact zr_wi (T := S_74) hx hb hr hlocks dX8_dot_81 hP hS (by exact ⟨pub_no hkk (by decide) (SM.rf) eS_74, hI_74⟩)
      · refine zi_iconst hx hb dX8_dot_56 ?_
        refine lv_goto (tgt := 74) hx hb dX8_dot_57 (by decide) ?_
        have hkk : (kM_dot S x0 x1 x2) = 2 := by rw [kM_dot, cif_f (by omega), cif_t (by omega)]
        refine zk_wi (zc_V (As := [.int (zi 2)]) (rest := []) ⟨hx, hb, hml, hown, hts⟩ (ct_X8_can l D cI cZ cJ bd S hI hdis 2 ⟨by decide, by decide⟩ (by omega) (by omega)) (cwV 1 hts gX8_dot_X8_can rfl rfl rfl (by decide +kernel) ⟨Nat.le_of_ble_eq_true rfl, Nat.le_of_ble_eq_true rfl⟩) hK hP (q0 := 0) (ci := 8) rfl rfl rfl rfl hl.1 rfl (Nat.le_of_ble_eq_true rfl) dX8_dot_74 ⟨Nat.zero_le _, Nat.zero_le _⟩) hS (fun r_74 S_74 H locs hp_74 hP hS => ?_)
        obtain ⟨er_74, e9, hI_74⟩ := hp_74
        have eS_74 := e9.symm; clear e9
        have fr_74 : (0 : Int) ≤ r_74 ∧ r_74 ≤ 1 := by rw [er_74]; exact b2_b
        have k_74 : r_74 = 0 := er_74.trans (b2_f (by decide))
        refine zi_if_ne (tgt := 82) hx hb ⟨by omega, by omega⟩ dX8_dot_77 (by decide) (fun c_77 => ?_) (fun c_77 => ?_)
        · exact absurd c_77 (by omega)
        · refine zi_iconst hx hb dX8_dot_80 ?_
          exact zr_wi (T := S_74) hx hb hr hlocks dX8_dot_81 hP hS (by exact ⟨pub_no hkk (by decide) (SM.rf) eS_74, hI_74⟩)
    · refine zi_iconst hx hb dX8_dot_47 ?_
      refine lv_goto (tgt := 74) hx hb dX8_dot_48 (by decide) ?_
      have hkk : (kM_dot S x0 x1 x2) = 1 := by rw [kM_dot, cif_t (by omega)]
      refine zk_wi (zc_V (As := [.int (zi 1)]) (rest := []) ⟨hx, hb, hml, hown, hts⟩ (ct_X8_can l D cI cZ cJ bd S hI hdis 1 ⟨by decide, by decide⟩ (by omega) (by omega)) (cwV 1 hts gX8_dot_X8_can rfl rfl rfl (by decide +kernel) ⟨Nat.le_of_ble_eq_true rfl, Nat.le_of_ble_eq_true rfl⟩) hK hP (q0 := 0) (ci := 8) rfl rfl rfl rfl hl.1 rfl (Nat.le_of_ble_eq_true rfl) dX8_dot_74 ⟨Nat.zero_le _, Nat.zero_le _⟩) hS (fun r_74 S_74 H locs hp_74 hP hS => ?_)
      obtain ⟨er_74, e9, hI_74⟩ := hp_74
      have eS_74 := e9.symm; clear e9
      have fr_74 : (0 : Int) ≤ r_74 ∧ r_74 ≤ 1 := by rw [er_74]; exact b2_b
      have k_74 : r_74 = 0 := er_74.trans (b2_f (by decide))
      refine zi_if_ne (tgt := 82) hx hb ⟨by omega, by omega⟩ dX8_dot_77 (by decide) (fun c_77 => ?_) (fun c_77 => ?_)
      · exact absurd c_77 (by omega)
      · refine zi_iconst hx hb dX8_dot_80 ?_
        exact zr_wi (T := S_74) hx hb hr hlocks dX8_dot_81 hP hS (by exact ⟨pub_no hkk (by decide) (SM.rf) eS_74, hI_74⟩)
  · refine lv_iload_n hx hb dX8_dot_24 rfl (lv_at hl 4 rfl) ?_
    refine zi_iconst hx hb dX8_dot_25 ?_
    refine zi_bipush hx hb dX8_dot_26 (by decide) ?_
    refine zk_r (zc_S (As := [.int (zi x2), .int (zi 0), .int (zi 99)]) (rest := []) ⟨hx, hb, hml, hown, hts⟩ (ct_X8_isIn l D cI cZ cJ x2 0 99 ⟨by omega, by omega⟩ ⟨by decide, by decide⟩ ⟨by decide, by decide⟩) (va_cwS 3 hts gX8_dot_X8_isIn rfl rfl rfl (by decide +kernel) ⟨Nat.le_of_ble_eq_true rfl, Nat.le_of_ble_eq_true rfl⟩) hK va_P_nil rfl hl.1 rfl (Nat.le_of_ble_eq_true rfl) dX8_dot_28 ⟨Nat.zero_le _, Nat.zero_le _⟩) ?_
    refine zi_top (fun (r_28 : Int) (er_28 : r_28 = b2 (0 ≤ x2 ∧ x2 ≤ 99)) => ?_)
    have fr_28 : (0 : Int) ≤ r_28 ∧ r_28 ≤ 1 := by rw [er_28]; exact b2_b
    have fr_281 : (r_28 = 1 ∧ (0 ≤ x2 ∧ x2 ≤ 99)) ∨ (r_28 = 0 ∧ ¬ (0 ≤ x2 ∧ x2 ≤ 99)) := by rw [er_28]; exact b2_or _
    refine zi_if_eq (tgt := 38) hx hb ⟨by omega, by omega⟩ dX8_dot_31 (by decide) (fun c_31 => ?_) (fun c_31 => ?_)
    · refine zi_iconst hx hb dX8_dot_38 ?_
      refine lv_istore (lv' := [(5, .int (zi 0)), (4, .int (zi r_8)), (0, .ref (bd 0)), (1, .int (zi x0)), (2, .int (zi x1)), (3, .int (zi x2))]) hx hb dX8_dot_39 hl (by decide) rfl (fun ls hl => ?_)
      refine lv_aload_n hx hb dX8_dot_41 rfl (lv_at hl 2 rfl) ?_
      refine lv_iload hx hb dX8_dot_42 (lv_at hl 1 rfl) ?_
      refine zi_if_ne (tgt := 51) hx hb ⟨by omega, by omega⟩ dX8_dot_44 (by decide) (fun c_44 => ?_) (fun c_44 => ?_)
      · refine lv_iload hx hb dX8_dot_51 (lv_at hl 0 rfl) ?_
        refine zi_if_ne (tgt := 60) hx hb ⟨by decide, by decide⟩ dX8_dot_53 (by decide) (fun c_53 => ?_) (fun c_53 => ?_)
        · refine lv_aload_n hx hb dX8_dot_60 rfl (lv_at hl 2 rfl) ?_
          refine va_get (D := D) (ci := 8) (v := .int (zi (S 6 0))) (C := RX8) (T := TX8) (N := 32) hx hb hts in_X8_dot_8 hown hK.1 hP 0 rfl rfl 6 (by decide) (hts _ lk_X8_dot_92) (fun _ h9 => h9) rfl dX8_dot_61 ?_
          have f_61 : (0 : Int) ≤ S 6 0 ∧ S 6 0 ≤ 60 := hI 6 0
          refine zi_bipush hx hb dX8_dot_64 (by decide) ?_
          refine zi_icmp_ne (tgt := 73) hx hb ⟨by omega, by omega⟩ ⟨by decide, by decide⟩ dX8_dot_66 (by decide) (fun c_66 => ?_) (fun c_66 => ?_)
          · refine zi_iconst hx hb dX8_dot_73 ?_
            have hkk : (kM_dot S x0 x1 x2) = 0 := by rw [kM_dot, cif_f (by omega), cif_f (by omega), cif_f (by omega)]
            refine zk_wi (zc_V (As := [.int (zi 0)]) (rest := []) ⟨hx, hb, hml, hown, hts⟩ (ct_X8_can l D cI cZ cJ bd S hI hdis 0 ⟨by decide, by decide⟩ (by omega) (by omega)) (cwV 1 hts gX8_dot_X8_can rfl rfl rfl (by decide +kernel) ⟨Nat.le_of_ble_eq_true rfl, Nat.le_of_ble_eq_true rfl⟩) hK hP (q0 := 0) (ci := 8) rfl rfl rfl rfl hl.1 rfl (Nat.le_of_ble_eq_true rfl) dX8_dot_74 ⟨Nat.zero_le _, Nat.zero_le _⟩) hS (fun r_74 S_74 H locs hp_74 hP hS => ?_)
            obtain ⟨er_74, e9, hI_74⟩ := hp_74
            have eS_74 := e9.symm; clear e9
            have fr_74 : (0 : Int) ≤ r_74 ∧ r_74 ≤ 1 := by rw [er_74]; exact b2_b
            have k_74 : r_74 = 1 := er_74.trans (b2_t rfl)
            refine zi_if_ne (tgt := 82) hx hb ⟨by omega, by omega⟩ dX8_dot_77 (by decide) (fun c_77 => ?_) (fun c_77 => ?_)
            · refine lv_aload_n hx hb dX8_dot_82 rfl (lv_at hl 2 rfl) ?_
              refine va_get (D := D) (ci := 8) (v := .ref (bd 8)) (C := RX8) (T := TX8) (N := 32) hx hb hts in_X8_dot_8 hown hK.1 hP 0 rfl rfl 7 (by decide) (hts _ lk_X8_dot_22) (fun _ h9 => h9) rfl dX8_dot_83 ?_
              refine lv_aload_n hx hb dX8_dot_86 rfl (lv_at hl 2 rfl) ?_
              refine va_get (D := D) (ci := 8) (v := .int (zi (S_74 6 0))) (C := RX8) (T := TX8) (N := 32) hx hb hts in_X8_dot_8 hown hK.1 hP 0 rfl rfl 6 (by decide) (hts _ lk_X8_dot_92) (fun _ h9 => h9) rfl dX8_dot_87 ?_
              refine zi_is (S 6 0) (by rw [← eS_74] <;> rfl) ?_
              have f_87 : (0 : Int) ≤ S 6 0 ∧ S 6 0 ≤ 60 := hI 6 0
              refine lv_iload_n hx hb dX8_dot_90 rfl (lv_at hl 3 rfl) ?_
              refine zi_iast hx hb hK.1 hP (mW_D hdis _) hS 5 0 rfl rfl (by omega) (by omega) (by decide) dX8_dot_91 (fun H locs hP hS => ?_)
              have hP : va_P D vwCl (mW cI cZ bd (su S_74 7 (up (S_74 7) (S 6 0) x0))) H := hP
              have hI_91 : MI (su S_74 7 (up (S_74 7) (S 6 0) x0)) := MI.up hI_74 7 (S 6 0) x0 (show (0 : Int) ≤ x0 ∧ x0 ≤ 29 from ⟨by omega, by omega⟩)
              generalize eS_91 : su S_74 7 (up (S_74 7) (S 6 0) x0) = S_91 at hP hI_91
              refine lv_aload_n hx hb dX8_dot_92 rfl (lv_at hl 2 rfl) ?_
              refine va_get (D := D) (ci := 8) (v := .ref (bd 9)) (C := RX8) (T := TX8) (N := 32) hx hb hts in_X8_dot_8 hown hK.1 hP 0 rfl rfl 8 (by decide) (hts _ lk_X8_dot_25) (fun _ h9 => h9) rfl dX8_dot_93 ?_
              refine lv_aload_n hx hb dX8_dot_96 rfl (lv_at hl 2 rfl) ?_
              refine va_get (D := D) (ci := 8) (v := .int (zi (S_91 6 0))) (C := RX8) (T := TX8) (N := 32) hx hb hts in_X8_dot_8 hown hK.1 hP 0 rfl rfl 6 (by decide) (hts _ lk_X8_dot_92) (fun _ h9 => h9) rfl dX8_dot_97 ?_
              refine zi_is (S 6 0) (by rw [← eS_91, ← eS_74] <;> rfl) ?_
              have f_97 : (0 : Int) ≤ S 6 0 ∧ S 6 0 ≤ 60 := hI 6 0
              refine lv_iload_n hx hb dX8_dot_100 rfl (lv_at hl 4 rfl) ?_
              refine zi_iast hx hb hK.1 hP (mW_D hdis _) hS 6 0 rfl rfl (by omega) (by omega) (by decide) dX8_dot_101 (fun H locs hP hS => ?_)
              have hP : va_P D vwCl (mW cI cZ bd (su S_91 8 (up (S_91 8) (S 6 0) x1))) H := hP
              have hI_101 : MI (su S_91 8 (up (S_91 8) (S 6 0) x1)) := MI.up hI_91 8 (S 6 0) x1 (show (0 : Int) ≤ x1 ∧ x1 ≤ 3599 from ⟨by omega, by omega⟩)
              generalize eS_101 : su S_91 8 (up (S_91 8) (S 6 0) x1) = S_101 at hP hI_101
              refine lv_aload_n hx hb dX8_dot_102 rfl (lv_at hl 2 rfl) ?_
              refine va_get (D := D) (ci := 8) (v := .ref (bd 10)) (C := RX8) (T := TX8) (N := 32) hx hb hts in_X8_dot_8 hown hK.1 hP 0 rfl rfl 9 (by decide) (hts _ lk_X8_dot_28) (fun _ h9 => h9) rfl dX8_dot_103 ?_
              refine lv_aload_n hx hb dX8_dot_106 rfl (lv_at hl 2 rfl) ?_
              refine va_get (D := D) (ci := 8) (v := .int (zi (S_101 6 0))) (C := RX8) (T := TX8) (N := 32) hx hb hts in_X8_dot_8 hown hK.1 hP 0 rfl rfl 6 (by decide) (hts _ lk_X8_dot_92) (fun _ h9 => h9) rfl dX8_dot_107 ?_
              refine zi_is (S 6 0) (by rw [← eS_101, ← eS_91, ← eS_74] <;> rfl) ?_
              have f_107 : (0 : Int) ≤ S 6 0 ∧ S 6 0 ≤ 60 := hI 6 0
              refine lv_iload_n hx hb dX8_dot_110 rfl (lv_at hl 5 rfl) ?_
              refine zi_iast hx hb hK.1 hP (mW_D hdis _) hS 7 0 rfl rfl (by omega) (by omega) (by decide) dX8_dot_111 (fun H locs hP hS => ?_)
              have hP : va_P D vwCl (mW cI cZ bd (su S_101 9 (up (S_101 9) (S 6 0) x2))) H := hP
              have hI_111 : MI (su S_101 9 (up (S_101 9) (S 6 0) x2)) := MI.up hI_101 9 (S 6 0) x2 (show (0 : Int) ≤ x2 ∧ x2 ≤ 99 from ⟨by omega, by omega⟩)
              generalize eS_111 : su S_101 9 (up (S_101 9) (S 6 0) x2) = S_111 at hP hI_111
              refine lv_aload_n hx hb dX8_dot_112 rfl (lv_at hl 2 rfl) ?_
              refine va_get (D := D) (ci := 8) (v := .ref (bd 11)) (C := RX8) (T := TX8) (N := 32) hx hb hts in_X8_dot_8 hown hK.1 hP 0 rfl rfl 10 (by decide) (hts _ lk_X8_dot_31) (fun _ h9 => h9) rfl dX8_dot_113 ?_
              refine lv_aload_n hx hb dX8_dot_116 rfl (lv_at hl 2 rfl) ?_
              refine va_get (D := D) (ci := 8) (v := .int (zi (S_111 6 0))) (C := RX8) (T := TX8) (N := 32) hx hb hts in_X8_dot_8 hown hK.1 hP 0 rfl rfl 6 (by decide) (hts _ lk_X8_dot_92) (fun _ h9 => h9) rfl dX8_dot_117 ?_
              refine zi_is (S 6 0) (by rw [← eS_111, ← eS_101, ← eS_91, ← eS_74] <;> rfl) ?_
              have f_117 : (0 : Int) ≤ S 6 0 ∧ S 6 0 ≤ 60 := hI 6 0
              refine zi_iconst hx hb dX8_dot_120 ?_
              refine zi_iast hx hb hK.1 hP (mW_D hdis _) hS 8 0 rfl rfl (by omega) (by omega) (by decide) dX8_dot_121 (fun H locs hP hS => ?_)
              have hP : va_P D vwCl (mW cI cZ bd (su S_111 10 (up (S_111 10) (S 6 0) (-1)))) H := hP
              have hI_121 : MI (su S_111 10 (up (S_111 10) (S 6 0) (-1))) := MI.up hI_111 10 (S 6 0) (-1) (show (-1 : Int) ≤ (-1) ∧ (-1) ≤ 19 from ⟨by omega, by omega⟩)
              generalize eS_121 : su S_111 10 (up (S_111 10) (S 6 0) (-1)) = S_121 at hP hI_121
              refine lv_aload_n hx hb dX8_dot_122 rfl (lv_at hl 2 rfl) ?_
              refine lv_dup hx hb dX8_dot_123 rfl ?_
              refine va_get (D := D) (ci := 8) (v := .int (zi (S_121 6 0))) (C := RX8) (T := TX8) (N := 32) hx hb hts in_X8_dot_8 hown hK.1 hP 0 rfl rfl 6 (by decide) (hts _ lk_X8_dot_92) (fun _ h9 => h9) rfl dX8_dot_124 ?_
              refine zi_is (S 6 0) (by rw [← eS_121, ← eS_111, ← eS_101, ← eS_91, ← eS_74] <;> rfl) ?_
              have f_124 : (0 : Int) ≤ S 6 0 ∧ S 6 0 ≤ 60 := hI 6 0
              refine zi_iconst hx hb dX8_dot_127 ?_
              refine zi_iadd hx hb dX8_dot_128 ?_
              refine va_put (D := D) (ci := 8) (v := .int (zi ((S 6 0) + 1))) (ty := .int) (C := RX8) (T := TX8) (N := 32) hx hb hts in_X8_dot_8 tyX8 tyX8_ok nmX8 hown hK.1 hP (mW_D hdis _) hS 0 rfl rfl 6 (by decide) (hts _ lk_X8_dot_92) (fun _ h9 => h9) rfl (by decide +kernel) rfl rfl (Nat.le_of_ble_eq_true rfl) dX8_dot_129 (fun H locs hP _ hS => ?_)
              have hP : va_P D vwCl (mW cI cZ bd (su S_121 6 (fun _ => (S 6 0) + 1))) H := hP
              have hI_129 : MI (su S_121 6 (fun _ => (S 6 0) + 1)) := MI.upc hI_121 6 ((S 6 0) + 1) (show (0 : Int) ≤ ((S 6 0) + 1) ∧ ((S 6 0) + 1) ≤ 60 from ⟨by omega, by omega⟩)
              generalize eS_129 : su S_121 6 (fun _ => (S 6 0) + 1) = S_129 at hP hI_129
              refine lv_aload_n hx hb dX8_dot_132 rfl (lv_at hl 2 rfl) ?_
              refine va_get (D := D) (ci := 8) (v := .int (zi (S_129 6 0))) (C := RX8) (T := TX8) (N := 32) hx hb hts in_X8_dot_8 hown hK.1 hP 0 rfl rfl 6 (by decide) (hts _ lk_X8_dot_92) (fun _ h9 => h9) rfl dX8_dot_133 ?_
              refine zi_is ((S 6 0) + 1) (by rw [← eS_129] <;> rfl) ?_
              refine zi_iconst hx hb dX8_dot_136 ?_
              refine zi_isub hx hb dX8_dot_137 ?_
              exact zr_wi (T := S_129) hx hb hr hlocks dX8_dot_138 hP hS (by exact ⟨pub_ok hkk (by omega) (by rw [← eS_129, ← eS_121, ← eS_111, ← eS_101, ← eS_91, ← eS_74]; exact SM.rf), hI_129⟩)
            · exact absurd c_77 (by omega)
          · refine zi_iconst hx hb dX8_dot_69 ?_
            refine lv_goto (tgt := 74) hx hb dX8_dot_70 (by decide) ?_
            have hkk : (kM_dot S x0 x1 x2) = 3 := by rw [kM_dot, cif_f (by omega), cif_f (by omega), cif_t (by omega)]
            refine zk_wi (zc_V (As := [.int (zi 3)]) (rest := []) ⟨hx, hb, hml, hown, hts⟩ (ct_X8_can l D cI cZ cJ bd S hI hdis 3 ⟨by decide, by decide⟩ (by omega) (by omega)) (cwV 1 hts gX8_dot_X8_can rfl rfl rfl (by decide +kernel) ⟨Nat.le_of_ble_eq_true rfl, Nat.le_of_ble_eq_true rfl⟩) hK hP (q0 := 0) (ci := 8) rfl rfl rfl rfl hl.1 rfl (Nat.le_of_ble_eq_true rfl) dX8_dot_74 ⟨Nat.zero_le _, Nat.zero_le _⟩) hS (fun r_74 S_74 H locs hp_74 hP hS => ?_)
            obtain ⟨er_74, e9, hI_74⟩ := hp_74
            have eS_74 := e9.symm; clear e9
            have fr_74 : (0 : Int) ≤ r_74 ∧ r_74 ≤ 1 := by rw [er_74]; exact b2_b
            have k_74 : r_74 = 0 := er_74.trans (b2_f (by decide))
            refine zi_if_ne (tgt := 82) hx hb ⟨by omega, by omega⟩ dX8_dot_77 (by decide) (fun c_77 => ?_) (fun c_77 => ?_)
            · exact absurd c_77 (by omega)
            · refine zi_iconst hx hb dX8_dot_80 ?_
              exact zr_wi (T := S_74) hx hb hr hlocks dX8_dot_81 hP hS (by exact ⟨pub_no hkk (by decide) (SM.rf) eS_74, hI_74⟩)
        · refine zi_iconst hx hb dX8_dot_56 ?_
          refine lv_goto (tgt := 74) hx hb dX8_dot_57 (by decide) ?_
          have hkk : (kM_dot S x0 x1 x2) = 2 := by rw [kM_dot, cif_f (by omega), cif_t (by omega)]
          refine zk_wi (zc_V (As := [.int (zi 2)]) (rest := []) ⟨hx, hb, hml, hown, hts⟩ (ct_X8_can l D cI cZ cJ bd S hI hdis 2 ⟨by decide, by decide⟩ (by omega) (by omega)) (cwV 1 hts gX8_dot_X8_can rfl rfl rfl (by decide +kernel) ⟨Nat.le_of_ble_eq_true rfl, Nat.le_of_ble_eq_true rfl⟩) hK hP (q0 := 0) (ci := 8) rfl rfl rfl rfl hl.1 rfl (Nat.le_of_ble_eq_true rfl) dX8_dot_74 ⟨Nat.zero_le _, Nat.zero_le _⟩) hS (fun r_74 S_74 H locs hp_74 hP hS => ?_)
          obtain ⟨er_74, e9, hI_74⟩ := hp_74
          have eS_74 := e9.symm; clear e9
          have fr_74 : (0 : Int) ≤ r_74 ∧ r_74 ≤ 1 := by rw [er_74]; exact b2_b
          have k_74 : r_74 = 0 := er_74.trans (b2_f (by decide))
          refine zi_if_ne (tgt := 82) hx hb ⟨by omega, by omega⟩ dX8_dot_77 (by decide) (fun c_77 => ?_) (fun c_77 => ?_)
          · exact absurd c_77 (by omega)
          · refine zi_iconst hx hb dX8_dot_80 ?_
            exact zr_wi (T := S_74) hx hb hr hlocks dX8_dot_81 hP hS (by exact ⟨pub_no hkk (by decide) (SM.rf) eS_74, hI_74⟩)
      · refine zi_iconst hx hb dX8_dot_47 ?_
        refine lv_goto (tgt := 74) hx hb dX8_dot_48 (by decide) ?_
        have hkk : (kM_dot S x0 x1 x2) = 1 := by rw [kM_dot, cif_t (by omega)]
        refine zk_wi (zc_V (As := [.int (zi 1)]) (rest := []) ⟨hx, hb, hml, hown, hts⟩ (ct_X8_can l D cI cZ cJ bd S hI hdis 1 ⟨by decide, by decide⟩ (by omega) (by omega)) (cwV 1 hts gX8_dot_X8_can rfl rfl rfl (by decide +kernel) ⟨Nat.le_of_ble_eq_true rfl, Nat.le_of_ble_eq_true rfl⟩) hK hP (q0 := 0) (ci := 8) rfl rfl rfl rfl hl.1 rfl (Nat.le_of_ble_eq_true rfl) dX8_dot_74 ⟨Nat.zero_le _, Nat.zero_le _⟩) hS (fun r_74 S_74 H locs hp_74 hP hS => ?_)
        obtain ⟨er_74, e9, hI_74⟩ := hp_74
        have eS_74 := e9.symm; clear e9
        have fr_74 : (0 : Int) ≤ r_74 ∧ r_74 ≤ 1 := by rw [er_74]; exact b2_b
        have k_74 : r_74 = 0 := er_74.trans (b2_f (by decide))
        refine zi_if_ne (tgt := 82) hx hb ⟨by omega, by omega⟩ dX8_dot_77 (by decide) (fun c_77 => ?_) (fun c_77 => ?_)
        · exact absurd c_77 (by omega)
        · refine zi_iconst hx hb dX8_dot_80 ?_
          exact zr_wi (T := S_74) hx hb hr hlocks dX8_dot_81 hP hS (by exact ⟨pub_no hkk (by decide) (SM.rf) eS_74, hI_74⟩)
    · refine zi_iconst hx hb dX8_dot_34 ?_
      refine lv_goto (tgt := 39) hx hb dX8_dot_35 (by decide) ?_
      refine lv_istore (lv' := [(5, .int (zi 1)), (4, .int (zi r_8)), (0, .ref (bd 0)), (1, .int (zi x0)), (2, .int (zi x1)), (3, .int (zi x2))]) hx hb dX8_dot_39 hl (by decide) rfl (fun ls hl => ?_)
      refine lv_aload_n hx hb dX8_dot_41 rfl (lv_at hl 2 rfl) ?_
      refine lv_iload hx hb dX8_dot_42 (lv_at hl 1 rfl) ?_
      refine zi_if_ne (tgt := 51) hx hb ⟨by omega, by omega⟩ dX8_dot_44 (by decide) (fun c_44 => ?_) (fun c_44 => ?_)
      · refine lv_iload hx hb dX8_dot_51 (lv_at hl 0 rfl) ?_
        refine zi_if_ne (tgt := 60) hx hb ⟨by decide, by decide⟩ dX8_dot_53 (by decide) (fun c_53 => ?_) (fun c_53 => ?_)
        · refine lv_aload_n hx hb dX8_dot_60 rfl (lv_at hl 2 rfl) ?_
          refine va_get (D := D) (ci := 8) (v := .int (zi (S 6 0))) (C := RX8) (T := TX8) (N := 32) hx hb hts in_X8_dot_8 hown hK.1 hP 0 rfl rfl 6 (by decide) (hts _ lk_X8_dot_92) (fun _ h9 => h9) rfl dX8_dot_61 ?_
          have f_61 : (0 : Int) ≤ S 6 0 ∧ S 6 0 ≤ 60 := hI 6 0
          refine zi_bipush hx hb dX8_dot_64 (by decide) ?_
          refine zi_icmp_ne (tgt := 73) hx hb ⟨by omega, by omega⟩ ⟨by decide, by decide⟩ dX8_dot_66 (by decide) (fun c_66 => ?_) (fun c_66 => ?_)
          · refine zi_iconst hx hb dX8_dot_73 ?_
            have hkk : (kM_dot S x0 x1 x2) = 0 := by rw [kM_dot, cif_f (by omega), cif_f (by omega), cif_f (by omega)]
            refine zk_wi (zc_V (As := [.int (zi 0)]) (rest := []) ⟨hx, hb, hml, hown, hts⟩ (ct_X8_can l D cI cZ cJ bd S hI hdis 0 ⟨by decide, by decide⟩ (by omega) (by omega)) (cwV 1 hts gX8_dot_X8_can rfl rfl rfl (by decide +kernel) ⟨Nat.le_of_ble_eq_true rfl, Nat.le_of_ble_eq_true rfl⟩) hK hP (q0 := 0) (ci := 8) rfl rfl rfl rfl hl.1 rfl (Nat.le_of_ble_eq_true rfl) dX8_dot_74 ⟨Nat.zero_le _, Nat.zero_le _⟩) hS (fun r_74 S_74 H locs hp_74 hP hS => ?_)
            obtain ⟨er_74, e9, hI_74⟩ := hp_74
            have eS_74 := e9.symm; clear e9
            have fr_74 : (0 : Int) ≤ r_74 ∧ r_74 ≤ 1 := by rw [er_74]; exact b2_b
            have k_74 : r_74 = 1 := er_74.trans (b2_t rfl)
            refine zi_if_ne (tgt := 82) hx hb ⟨by omega, by omega⟩ dX8_dot_77 (by decide) (fun c_77 => ?_) (fun c_77 => ?_)
            · refine lv_aload_n hx hb dX8_dot_82 rfl (lv_at hl 2 rfl) ?_
              refine va_get (D := D) (ci := 8) (v := .ref (bd 8)) (C := RX8) (T := TX8) (N := 32) hx hb hts in_X8_dot_8 hown hK.1 hP 0 rfl rfl 7 (by decide) (hts _ lk_X8_dot_22) (fun _ h9 => h9) rfl dX8_dot_83 ?_
              refine lv_aload_n hx hb dX8_dot_86 rfl (lv_at hl 2 rfl) ?_
              refine va_get (D := D) (ci := 8) (v := .int (zi (S_74 6 0))) (C := RX8) (T := TX8) (N := 32) hx hb hts in_X8_dot_8 hown hK.1 hP 0 rfl rfl 6 (by decide) (hts _ lk_X8_dot_92) (fun _ h9 => h9) rfl dX8_dot_87 ?_
              refine zi_is (S 6 0) (by rw [← eS_74] <;> rfl) ?_
              have f_87 : (0 : Int) ≤ S 6 0 ∧ S 6 0 ≤ 60 := hI 6 0
              refine lv_iload_n hx hb dX8_dot_90 rfl (lv_at hl 3 rfl) ?_
              refine zi_iast hx hb hK.1 hP (mW_D hdis _) hS 5 0 rfl rfl (by omega) (by omega) (by decide) dX8_dot_91 (fun H locs hP hS => ?_)
              have hP : va_P D vwCl (mW cI cZ bd (su S_74 7 (up (S_74 7) (S 6 0) x0))) H := hP
              have hI_91 : MI (su S_74 7 (up (S_74 7) (S 6 0) x0)) := MI.up hI_74 7 (S 6 0) x0 (show (0 : Int) ≤ x0 ∧ x0 ≤ 29 from ⟨by omega, by omega⟩)
              generalize eS_91 : su S_74 7 (up (S_74 7) (S 6 0) x0) = S_91 at hP hI_91
              refine lv_aload_n hx hb dX8_dot_92 rfl (lv_at hl 2 rfl) ?_
              refine va_get (D := D) (ci := 8) (v := .ref (bd 9)) (C := RX8) (T := TX8) (N := 32) hx hb hts in_X8_dot_8 hown hK.1 hP 0 rfl rfl 8 (by decide) (hts _ lk_X8_dot_25) (fun _ h9 => h9) rfl dX8_dot_93 ?_
              refine lv_aload_n hx hb dX8_dot_96 rfl (lv_at hl 2 rfl) ?_
              refine va_get (D := D) (ci := 8) (v := .int (zi (S_91 6 0))) (C := RX8) (T := TX8) (N := 32) hx hb hts in_X8_dot_8 hown hK.1 hP 0 rfl rfl 6 (by decide) (hts _ lk_X8_dot_92) (fun _ h9 => h9) rfl dX8_dot_97 ?_
              refine zi_is (S 6 0) (by rw [← eS_91, ← eS_74] <;> rfl) ?_
              have f_97 : (0 : Int) ≤ S 6 0 ∧ S 6 0 ≤ 60 := hI 6 0
              refine lv_iload_n hx hb dX8_dot_100 rfl (lv_at hl 4 rfl) ?_
              refine zi_iast hx hb hK.1 hP (mW_D hdis _) hS 6 0 rfl rfl (by omega) (by omega) (by decide) dX8_dot_101 (fun H locs hP hS => ?_)
              have hP : va_P D vwCl (mW cI cZ bd (su S_91 8 (up (S_91 8) (S 6 0) x1))) H := hP
              have hI_101 : MI (su S_91 8 (up (S_91 8) (S 6 0) x1)) := MI.up hI_91 8 (S 6 0) x1 (show (0 : Int) ≤ x1 ∧ x1 ≤ 3599 from ⟨by omega, by omega⟩)
              generalize eS_101 : su S_91 8 (up (S_91 8) (S 6 0) x1) = S_101 at hP hI_101
              refine lv_aload_n hx hb dX8_dot_102 rfl (lv_at hl 2 rfl) ?_
              refine va_get (D := D) (ci := 8) (v := .ref (bd 10)) (C := RX8) (T := TX8) (N := 32) hx hb hts in_X8_dot_8 hown hK.1 hP 0 rfl rfl 9 (by decide) (hts _ lk_X8_dot_28) (fun _ h9 => h9) rfl dX8_dot_103 ?_
              refine lv_aload_n hx hb dX8_dot_106 rfl (lv_at hl 2 rfl) ?_
              refine va_get (D := D) (ci := 8) (v := .int (zi (S_101 6 0))) (C := RX8) (T := TX8) (N := 32) hx hb hts in_X8_dot_8 hown hK.1 hP 0 rfl rfl 6 (by decide) (hts _ lk_X8_dot_92) (fun _ h9 => h9) rfl dX8_dot_107 ?_
              refine zi_is (S 6 0) (by rw [← eS_101, ← eS_91, ← eS_74] <;> rfl) ?_
              have f_107 : (0 : Int) ≤ S 6 0 ∧ S 6 0 ≤ 60 := hI 6 0
              refine lv_iload_n hx hb dX8_dot_110 rfl (lv_at hl 5 rfl) ?_
              refine zi_iast hx hb hK.1 hP (mW_D hdis _) hS 7 0 rfl rfl (by omega) (by omega) (by decide) dX8_dot_111 (fun H locs hP hS => ?_)
              have hP : va_P D vwCl (mW cI cZ bd (su S_101 9 (up (S_101 9) (S 6 0) x2))) H := hP
              have hI_111 : MI (su S_101 9 (up (S_101 9) (S 6 0) x2)) := MI.up hI_101 9 (S 6 0) x2 (show (0 : Int) ≤ x2 ∧ x2 ≤ 99 from ⟨by omega, by omega⟩)
              generalize eS_111 : su S_101 9 (up (S_101 9) (S 6 0) x2) = S_111 at hP hI_111
              refine lv_aload_n hx hb dX8_dot_112 rfl (lv_at hl 2 rfl) ?_
              refine va_get (D := D) (ci := 8) (v := .ref (bd 11)) (C := RX8) (T := TX8) (N := 32) hx hb hts in_X8_dot_8 hown hK.1 hP 0 rfl rfl 10 (by decide) (hts _ lk_X8_dot_31) (fun _ h9 => h9) rfl dX8_dot_113 ?_
              refine lv_aload_n hx hb dX8_dot_116 rfl (lv_at hl 2 rfl) ?_
              refine va_get (D := D) (ci := 8) (v := .int (zi (S_111 6 0))) (C := RX8) (T := TX8) (N := 32) hx hb hts in_X8_dot_8 hown hK.1 hP 0 rfl rfl 6 (by decide) (hts _ lk_X8_dot_92) (fun _ h9 => h9) rfl dX8_dot_117 ?_
              refine zi_is (S 6 0) (by rw [← eS_111, ← eS_101, ← eS_91, ← eS_74] <;> rfl) ?_
              have f_117 : (0 : Int) ≤ S 6 0 ∧ S 6 0 ≤ 60 := hI 6 0
              refine zi_iconst hx hb dX8_dot_120 ?_
              refine zi_iast hx hb hK.1 hP (mW_D hdis _) hS 8 0 rfl rfl (by omega) (by omega) (by decide) dX8_dot_121 (fun H locs hP hS => ?_)
              have hP : va_P D vwCl (mW cI cZ bd (su S_111 10 (up (S_111 10) (S 6 0) (-1)))) H := hP
              have hI_121 : MI (su S_111 10 (up (S_111 10) (S 6 0) (-1))) := MI.up hI_111 10 (S 6 0) (-1) (show (-1 : Int) ≤ (-1) ∧ (-1) ≤ 19 from ⟨by omega, by omega⟩)
              generalize eS_121 : su S_111 10 (up (S_111 10) (S 6 0) (-1)) = S_121 at hP hI_121
              refine lv_aload_n hx hb dX8_dot_122 rfl (lv_at hl 2 rfl) ?_
              refine lv_dup hx hb dX8_dot_123 rfl ?_
              refine va_get (D := D) (ci := 8) (v := .int (zi (S_121 6 0))) (C := RX8) (T := TX8) (N := 32) hx hb hts in_X8_dot_8 hown hK.1 hP 0 rfl rfl 6 (by decide) (hts _ lk_X8_dot_92) (fun _ h9 => h9) rfl dX8_dot_124 ?_
              refine zi_is (S 6 0) (by rw [← eS_121, ← eS_111, ← eS_101, ← eS_91, ← eS_74] <;> rfl) ?_
              have f_124 : (0 : Int) ≤ S 6 0 ∧ S 6 0 ≤ 60 := hI 6 0
              refine zi_iconst hx hb dX8_dot_127 ?_
              refine zi_iadd hx hb dX8_dot_128 ?_
              refine va_put (D := D) (ci := 8) (v := .int (zi ((S 6 0) + 1))) (ty := .int) (C := RX8) (T := TX8) (N := 32) hx hb hts in_X8_dot_8 tyX8 tyX8_ok nmX8 hown hK.1 hP (mW_D hdis _) hS 0 rfl rfl 6 (by decide) (hts _ lk_X8_dot_92) (fun _ h9 => h9) rfl (by decide +kernel) rfl rfl (Nat.le_of_ble_eq_true rfl) dX8_dot_129 (fun H locs hP _ hS => ?_)
              have hP : va_P D vwCl (mW cI cZ bd (su S_121 6 (fun _ => (S 6 0) + 1))) H := hP
              have hI_129 : MI (su S_121 6 (fun _ => (S 6 0) + 1)) := MI.upc hI_121 6 ((S 6 0) + 1) (show (0 : Int) ≤ ((S 6 0) + 1) ∧ ((S 6 0) + 1) ≤ 60 from ⟨by omega, by omega⟩)
              generalize eS_129 : su S_121 6 (fun _ => (S 6 0) + 1) = S_129 at hP hI_129
              refine lv_aload_n hx hb dX8_dot_132 rfl (lv_at hl 2 rfl) ?_
              refine va_get (D := D) (ci := 8) (v := .int (zi (S_129 6 0))) (C := RX8) (T := TX8) (N := 32) hx hb hts in_X8_dot_8 hown hK.1 hP 0 rfl rfl 6 (by decide) (hts _ lk_X8_dot_92) (fun _ h9 => h9) rfl dX8_dot_133 ?_
              refine zi_is ((S 6 0) + 1) (by rw [← eS_129] <;> rfl) ?_
              refine zi_iconst hx hb dX8_dot_136 ?_
              refine zi_isub hx hb dX8_dot_137 ?_
              exact zr_wi (T := S_129) hx hb hr hlocks dX8_dot_138 hP hS (by exact ⟨pub_ok hkk (by omega) (by rw [← eS_129, ← eS_121, ← eS_111, ← eS_101, ← eS_91, ← eS_74]; exact SM.rf), hI_129⟩)
            · exact absurd c_77 (by omega)
          · refine zi_iconst hx hb dX8_dot_69 ?_
            refine lv_goto (tgt := 74) hx hb dX8_dot_70 (by decide) ?_
            have hkk : (kM_dot S x0 x1 x2) = 3 := by rw [kM_dot, cif_f (by omega), cif_f (by omega), cif_t (by omega)]
            refine zk_wi (zc_V (As := [.int (zi 3)]) (rest := []) ⟨hx, hb, hml, hown, hts⟩ (ct_X8_can l D cI cZ cJ bd S hI hdis 3 ⟨by decide, by decide⟩ (by omega) (by omega)) (cwV 1 hts gX8_dot_X8_can rfl rfl rfl (by decide +kernel) ⟨Nat.le_of_ble_eq_true rfl, Nat.le_of_ble_eq_true rfl⟩) hK hP (q0 := 0) (ci := 8) rfl rfl rfl rfl hl.1 rfl (Nat.le_of_ble_eq_true rfl) dX8_dot_74 ⟨Nat.zero_le _, Nat.zero_le _⟩) hS (fun r_74 S_74 H locs hp_74 hP hS => ?_)
            obtain ⟨er_74, e9, hI_74⟩ := hp_74
            have eS_74 := e9.symm; clear e9
            have fr_74 : (0 : Int) ≤ r_74 ∧ r_74 ≤ 1 := by rw [er_74]; exact b2_b
            have k_74 : r_74 = 0 := er_74.trans (b2_f (by decide))
            refine zi_if_ne (tgt := 82) hx hb ⟨by omega, by omega⟩ dX8_dot_77 (by decide) (fun c_77 => ?_) (fun c_77 => ?_)
            · exact absurd c_77 (by omega)
            · refine zi_iconst hx hb dX8_dot_80 ?_
              exact zr_wi (T := S_74) hx hb hr hlocks dX8_dot_81 hP hS (by exact ⟨pub_no hkk (by decide) (SM.rf) eS_74, hI_74⟩)
        · refine zi_iconst hx hb dX8_dot_56 ?_
          refine lv_goto (tgt := 74) hx hb dX8_dot_57 (by decide) ?_
          have hkk : (kM_dot S x0 x1 x2) = 2 := by rw [kM_dot, cif_f (by omega), cif_t (by omega)]
          refine zk_wi (zc_V (As := [.int (zi 2)]) (rest := []) ⟨hx, hb, hml, hown, hts⟩ (ct_X8_can l D cI cZ cJ bd S hI hdis 2 ⟨by decide, by decide⟩ (by omega) (by omega)) (cwV 1 hts gX8_dot_X8_can rfl rfl rfl (by decide +kernel) ⟨Nat.le_of_ble_eq_true rfl, Nat.le_of_ble_eq_true rfl⟩) hK hP (q0 := 0) (ci := 8) rfl rfl rfl rfl hl.1 rfl (Nat.le_of_ble_eq_true rfl) dX8_dot_74 ⟨Nat.zero_le _, Nat.zero_le _⟩) hS (fun r_74 S_74 H locs hp_74 hP hS => ?_)
          obtain ⟨er_74, e9, hI_74⟩ := hp_74
          have eS_74 := e9.symm; clear e9
          have fr_74 : (0 : Int) ≤ r_74 ∧ r_74 ≤ 1 := by rw [er_74]; exact b2_b
          have k_74 : r_74 = 0 := er_74.trans (b2_f (by decide))
          refine zi_if_ne (tgt := 82) hx hb ⟨by omega, by omega⟩ dX8_dot_77 (by decide) (fun c_77 => ?_) (fun c_77 => ?_)
          · exact absurd c_77 (by omega)
          · refine zi_iconst hx hb dX8_dot_80 ?_
            exact zr_wi (T := S_74) hx hb hr hlocks dX8_dot_81 hP hS (by exact ⟨pub_no hkk (by decide) (SM.rf) eS_74, hI_74⟩)
      · refine zi_iconst hx hb dX8_dot_47 ?_
        refine lv_goto (tgt := 74) hx hb dX8_dot_48 (by decide) ?_
        have hkk : (kM_dot S x0 x1 x2) = 1 := by rw [kM_dot, cif_t (by omega)]
        refine zk_wi (zc_V (As := [.int (zi 1)]) (rest := []) ⟨hx, hb, hml, hown, hts⟩ (ct_X8_can l D cI cZ cJ bd S hI hdis 1 ⟨by decide, by decide⟩ (by omega) (by omega)) (cwV 1 hts gX8_dot_X8_can rfl rfl rfl (by decide +kernel) ⟨Nat.le_of_ble_eq_true rfl, Nat.le_of_ble_eq_true rfl⟩) hK hP (q0 := 0) (ci := 8) rfl rfl rfl rfl hl.1 rfl (Nat.le_of_ble_eq_true rfl) dX8_dot_74 ⟨Nat.zero_le _, Nat.zero_le _⟩) hS (fun r_74 S_74 H locs hp_74 hP hS => ?_)
        obtain ⟨er_74, e9, hI_74⟩ := hp_74
        have eS_74 := e9.symm; clear e9
        have fr_74 : (0 : Int) ≤ r_74 ∧ r_74 ≤ 1 := by rw [er_74]; exact b2_b
        have k_74 : r_74 = 0 := er_74.trans (b2_f (by decide))
        refine zi_if_ne (tgt := 82) hx hb ⟨by omega, by omega⟩ dX8_dot_77 (by decide) (fun c_77 => ?_) (fun c_77 => ?_)
        · exact absurd c_77 (by omega)
        · refine zi_iconst hx hb dX8_dot_80 ?_
          exact zr_wi (T := S_74) hx hb hr hlocks dX8_dot_81 hP hS (by exact ⟨pub_no hkk (by decide) (SM.rf) eS_74, hI_74⟩)

noncomputable def kM_shift (S : ZS) (x0 x1 : Int) : Int := cif (¬ (0 ≤ x0 ∧ x0 ≤ 8)) 1 (cif (¬ (-9 ≤ x1 ∧ x1 ≤ 9)) 2 (0))
theorem in_X8_shift_8 : ∀ w ∈ wsX80, w ∈ wsX8_shift := by decide +kernel
theorem lk_X8_shift_7 : Cond.fieldLink RX8 7 "PlanetoidDeskModel" "shift" "[I" ∈ wsX8_shift := by decide +kernel
abbrev rmct_X8_shift : Room := { frames := 1, cells := 0, slots := 0, locals := 22 }
set_option maxHeartbeats 4000000 in
set_option maxRecDepth 100000 in
theorem ct_X8_shift (l : Launch) (D : va_G) (cI cZ cJ : ClassId) (bd : Nat → Nat) (S : ZS) (hI : MI S) (hdis : mDis bd) (x0 x1 : Int) (hx0 : ir x0) (hx1 : ir x1)  : Met l yX8_shift wsX8_shift rmct_X8_shift (zP D cI cZ cJ (mW cI cZ bd S) [.ref (bd 0), .int (zi x0), .int (zi x1)]) (zWi D (mW cI cZ bd) (mA bd) (fun r T => pubQ S (kM_shift S x0 x1) (S 0 x0) (fun P => su P 0 (up (P 0) x0 x1)) r T ∧ MI T)) 0 0 (mA bd) := by
  refine Met.ofW (cc := cX8_shift) (maxL := 4) (ret := (some .int)) (by decide) rfl ?_
  intro p e s m args below meth c s₁ B hml hv
  obtain ⟨rfl, hP, hK⟩ := hv
  have hx := B.exec
  have hb := B.bytes
  have hr := B.returns
  have hts := atoms_spec (ws := wsX8_shift) B.pre
  have hown : s.vm.findClass RX8 = some m.cls := findClass_of_methodNamed B.named
  have hlocks := B.notSynchronized
  have hl := lv_entry ([.ref (bd 0), .int (zi x0), .int (zi x1)]) (n := 4) (Nat.le_of_ble_eq_true rfl)
  rw [lg_entry_eq]
  generalize (lg_sl ([.ref (bd 0), .int (zi x0), .int (zi x1)]) ++ List.replicate (4 - (lg_sl ([.ref (bd 0), .int (zi x0), .int (zi x1)])).length) Slot.unset).toArray = ls at hl ⊢
  have hl : lv_has ls 4 [(0, .ref (bd 0)), (1, .int (zi x0)), (2, .int (zi x1))] := hl
  have hS : va_S (mA bd) s.heap s.heap [] := va_S.rf
  show W p l e rmct_X8_shift s m ([.ref (bd 0), .int (zi x0), .int (zi x1)] : List Value).toArray below meth c s.heap [] 0 0 (MQ below (zWi D (mW cI cZ bd) (mA bd) (fun r T => pubQ S (kM_shift S x0 x1) (S 0 x0) (fun P => su P 0 (up (P 0) x0 x1)) r T ∧ MI T)) ([.ref (bd 0), .int (zi x0), .int (zi x1)] : List Value).toArray s 0 0 (mA bd)) (F0 m 0 ls [])
  refine lv_aload_n hx hb dX8_shift_0 rfl (lv_at hl 0 rfl) ?_
  refine lv_iload_n hx hb dX8_shift_1 rfl (lv_at hl 1 rfl) ?_
  refine zi_iconst hx hb dX8_shift_2 ?_
  refine zi_bipush hx hb dX8_shift_3 (by decide) ?_
  refine zk_r (zc_S (As := [.int (zi x0), .int (zi 0), .int (zi 8)]) (rest := [.ref (bd 0)]) ⟨hx, hb, hml, hown, hts⟩ (ct_X8_isIn l D cI cZ cJ x0 0 8 ⟨by omega, by omega⟩ ⟨by decide, by decide⟩ ⟨by decide, by decide⟩) (va_cwS 3 hts gX8_shift_X8_isIn rfl rfl rfl (by decide +kernel) ⟨Nat.le_of_ble_eq_true rfl, Nat.le_of_ble_eq_true rfl⟩) hK va_P_nil rfl hl.1 rfl (Nat.le_of_ble_eq_true rfl) dX8_shift_5 ⟨Nat.zero_le _, Nat.zero_le _⟩) ?_
  refine zi_top (fun (r_5 : Int) (er_5 : r_5 = b2 (0 ≤ x0 ∧ x0 ≤ 8)) => ?_)
  have fr_5 : (0 : Int) ≤ r_5 ∧ r_5 ≤ 1 := by rw [er_5]; exact b2_b
  have fr_51 : (r_5 = 1 ∧ (0 ≤ x0 ∧ x0 ≤ 8)) ∨ (r_5 = 0 ∧ ¬ (0 ≤ x0 ∧ x0 ≤ 8)) := by rw [er_5]; exact b2_or _
  refine zi_if_ne (tgt := 15) hx hb ⟨by omega, by omega⟩ dX8_shift_8 (by decide) (fun c_8 => ?_) (fun c_8 => ?_)
  · refine lv_iload_n hx hb dX8_shift_15 rfl (lv_at hl 2 rfl) ?_
    refine zi_bipush hx hb dX8_shift_16 (by decide) ?_
    refine zi_bipush hx hb dX8_shift_18 (by decide) ?_
    refine zk_r (zc_S (As := [.int (zi x1), .int (zi (-9)), .int (zi 9)]) (rest := [.ref (bd 0)]) ⟨hx, hb, hml, hown, hts⟩ (ct_X8_isIn l D cI cZ cJ x1 (-9) 9 ⟨by omega, by omega⟩ ⟨by decide, by decide⟩ ⟨by decide, by decide⟩) (va_cwS 3 hts gX8_shift_X8_isIn rfl rfl rfl (by decide +kernel) ⟨Nat.le_of_ble_eq_true rfl, Nat.le_of_ble_eq_true rfl⟩) hK va_P_nil rfl hl.1 rfl (Nat.le_of_ble_eq_true rfl) dX8_shift_20 ⟨Nat.zero_le _, Nat.zero_le _⟩) ?_
    refine zi_top (fun (r_20 : Int) (er_20 : r_20 = b2 ((-9) ≤ x1 ∧ x1 ≤ 9)) => ?_)
    have fr_20 : (0 : Int) ≤ r_20 ∧ r_20 ≤ 1 := by rw [er_20]; exact b2_b
    have fr_201 : (r_20 = 1 ∧ ((-9) ≤ x1 ∧ x1 ≤ 9)) ∨ (r_20 = 0 ∧ ¬ ((-9) ≤ x1 ∧ x1 ≤ 9)) := by rw [er_20]; exact b2_or _
    refine zi_if_eq (tgt := 30) hx hb ⟨by omega, by omega⟩ dX8_shift_23 (by decide) (fun c_23 => ?_) (fun c_23 => ?_)
    · refine zi_iconst hx hb dX8_shift_30 ?_
      have hkk : (kM_shift S x0 x1) = 2 := by rw [kM_shift, cif_f (by omega), cif_t (by omega)]
      refine zk_wi (zc_V (As := [.int (zi 2)]) (rest := []) ⟨hx, hb, hml, hown, hts⟩ (ct_X8_can l D cI cZ cJ bd S hI hdis 2 ⟨by decide, by decide⟩ (by omega) (by omega)) (cwV 1 hts gX8_shift_X8_can rfl rfl rfl (by decide +kernel) ⟨Nat.le_of_ble_eq_true rfl, Nat.le_of_ble_eq_true rfl⟩) hK hP (q0 := 0) (ci := 8) rfl rfl rfl rfl hl.1 rfl (Nat.le_of_ble_eq_true rfl) dX8_shift_31 ⟨Nat.zero_le _, Nat.zero_le _⟩) hS (fun r_31 S_31 H locs hp_31 hP hS => ?_)
      obtain ⟨er_31, e9, hI_31⟩ := hp_31
      have eS_31 := e9.symm; clear e9
      have fr_31 : (0 : Int) ≤ r_31 ∧ r_31 ≤ 1 := by rw [er_31]; exact b2_b
      have k_31 : r_31 = 0 := er_31.trans (b2_f (by decide))
      refine zi_if_ne (tgt := 39) hx hb ⟨by omega, by omega⟩ dX8_shift_34 (by decide) (fun c_34 => ?_) (fun c_34 => ?_)
      · exact absurd c_34 (by omega)
      · refine zi_iconst hx hb dX8_shift_37 ?_
        exact zr_wi (T := S_31) hx hb hr hlocks dX8_shift_38 hP hS (by exact ⟨pub_no hkk (by decide) (SM.rf) eS_31, hI_31⟩)
    · refine zi_iconst hx hb dX8_shift_26 ?_
      refine lv_goto (tgt := 31) hx hb dX8_shift_27 (by decide) ?_
      have hkk : (kM_shift S x0 x1) = 0 := by rw [kM_shift, cif_f (by omega), cif_f (by omega)]
      refine zk_wi (zc_V (As := [.int (zi 0)]) (rest := []) ⟨hx, hb, hml, hown, hts⟩ (ct_X8_can l D cI cZ cJ bd S hI hdis 0 ⟨by decide, by decide⟩ (by omega) (by omega)) (cwV 1 hts gX8_shift_X8_can rfl rfl rfl (by decide +kernel) ⟨Nat.le_of_ble_eq_true rfl, Nat.le_of_ble_eq_true rfl⟩) hK hP (q0 := 0) (ci := 8) rfl rfl rfl rfl hl.1 rfl (Nat.le_of_ble_eq_true rfl) dX8_shift_31 ⟨Nat.zero_le _, Nat.zero_le _⟩) hS (fun r_31 S_31 H locs hp_31 hP hS => ?_)
      obtain ⟨er_31, e9, hI_31⟩ := hp_31
      have eS_31 := e9.symm; clear e9
      have fr_31 : (0 : Int) ≤ r_31 ∧ r_31 ≤ 1 := by rw [er_31]; exact b2_b
      have k_31 : r_31 = 1 := er_31.trans (b2_t rfl)
      refine zi_if_ne (tgt := 39) hx hb ⟨by omega, by omega⟩ dX8_shift_34 (by decide) (fun c_34 => ?_) (fun c_34 => ?_)
      · refine lv_aload_n hx hb dX8_shift_39 rfl (lv_at hl 0 rfl) ?_
        refine va_get (D := D) (ci := 8) (v := .ref (bd 1)) (C := RX8) (T := TX8) (N := 32) hx hb hts in_X8_shift_8 hown hK.1 hP 0 rfl rfl 0 (by decide) (hts _ lk_X8_shift_7) (fun _ h9 => h9) rfl dX8_shift_40 ?_
        refine lv_iload_n hx hb dX8_shift_43 rfl (lv_at hl 1 rfl) ?_
        refine zi_iald hx hb hK.1 hP 1 0 rfl rfl (by omega) (by omega) (by decide) dX8_shift_44 ?_
        have f_44 : (-9 : Int) ≤ S_31 0 x0 ∧ S_31 0 x0 ≤ 9 := hI_31 0 x0
        refine zi_top (fun x3_45 ex3_45 => ?_)
        refine lv_istore_n (lv' := [(3, .int (zi x3_45)), (0, .ref (bd 0)), (1, .int (zi x0)), (2, .int (zi x1))]) hx hb dX8_shift_45 rfl hl (by decide) rfl (fun ls hl => ?_)
        refine lv_aload_n hx hb dX8_shift_46 rfl (lv_at hl 1 rfl) ?_
        refine va_get (D := D) (ci := 8) (v := .ref (bd 1)) (C := RX8) (T := TX8) (N := 32) hx hb hts in_X8_shift_8 hown hK.1 hP 0 rfl rfl 0 (by decide) (hts _ lk_X8_shift_7) (fun _ h9 => h9) rfl dX8_shift_47 ?_
        refine lv_iload_n hx hb dX8_shift_50 rfl (lv_at hl 2 rfl) ?_
        refine lv_iload_n hx hb dX8_shift_51 rfl (lv_at hl 3 rfl) ?_
        refine zi_iast hx hb hK.1 hP (mW_D hdis _) hS 1 0 rfl rfl (by omega) (by omega) (by decide) dX8_shift_52 (fun H locs hP hS => ?_)
        have hP : va_P D vwCl (mW cI cZ bd (su S_31 0 (up (S_31 0) x0 x1))) H := hP
        have hI_52 : MI (su S_31 0 (up (S_31 0) x0 x1)) := MI.up hI_31 0 x0 x1 (show (-9 : Int) ≤ x1 ∧ x1 ≤ 9 from ⟨by omega, by omega⟩)
        generalize eS_52 : su S_31 0 (up (S_31 0) x0 x1) = S_52 at hP hI_52
        refine lv_iload_n hx hb dX8_shift_53 rfl (lv_at hl 0 rfl) ?_
        exact zr_wi (T := S_52) hx hb hr hlocks dX8_shift_54 hP hS (by exact ⟨pub_ok hkk (by rw [ex3_45, ← eS_31]; rfl) (by rw [← eS_52, ← eS_31]; exact SM.rf), hI_52⟩)
      · exact absurd c_34 (by omega)
  · refine zi_iconst hx hb dX8_shift_11 ?_
    refine lv_goto (tgt := 31) hx hb dX8_shift_12 (by decide) ?_
    have hkk : (kM_shift S x0 x1) = 1 := by rw [kM_shift, cif_t (by omega)]
    refine zk_wi (zc_V (As := [.int (zi 1)]) (rest := []) ⟨hx, hb, hml, hown, hts⟩ (ct_X8_can l D cI cZ cJ bd S hI hdis 1 ⟨by decide, by decide⟩ (by omega) (by omega)) (cwV 1 hts gX8_shift_X8_can rfl rfl rfl (by decide +kernel) ⟨Nat.le_of_ble_eq_true rfl, Nat.le_of_ble_eq_true rfl⟩) hK hP (q0 := 0) (ci := 8) rfl rfl rfl rfl hl.1 rfl (Nat.le_of_ble_eq_true rfl) dX8_shift_31 ⟨Nat.zero_le _, Nat.zero_le _⟩) hS (fun r_31 S_31 H locs hp_31 hP hS => ?_)
    obtain ⟨er_31, e9, hI_31⟩ := hp_31
    have eS_31 := e9.symm; clear e9
    have fr_31 : (0 : Int) ≤ r_31 ∧ r_31 ≤ 1 := by rw [er_31]; exact b2_b
    have k_31 : r_31 = 0 := er_31.trans (b2_f (by decide))
    refine zi_if_ne (tgt := 39) hx hb ⟨by omega, by omega⟩ dX8_shift_34 (by decide) (fun c_34 => ?_) (fun c_34 => ?_)
    · exact absurd c_34 (by omega)
    · refine zi_iconst hx hb dX8_shift_37 ?_
      exact zr_wi (T := S_31) hx hb hr hlocks dX8_shift_38 hP hS (by exact ⟨pub_no hkk (by decide) (SM.rf) eS_31, hI_31⟩)

noncomputable def kM_ofDot (S : ZS) (x0 x1 : Int) : Int := cif (¬ (0 ≤ x0 ∧ x0 < S 6 0)) 1 (cif (¬ (0 ≤ x1 ∧ x1 ≤ 3)) 2 (0))
theorem in_X8_ofDot_8 : ∀ w ∈ wsX80, w ∈ wsX8_ofDot := by decide +kernel
theorem lk_X8_ofDot_31 : Cond.fieldLink RX8 31 "PlanetoidDeskModel" "own" "[I" ∈ wsX8_ofDot := by decide +kernel
theorem lk_X8_ofDot_28 : Cond.fieldLink RX8 28 "PlanetoidDeskModel" "light" "[I" ∈ wsX8_ofDot := by decide +kernel
abbrev rmct_X8_ofDot : Room := { frames := 2, cells := 0, slots := 0, locals := 43 }
set_option maxHeartbeats 4000000 in
set_option maxRecDepth 100000 in
theorem ct_X8_ofDot (l : Launch) (D : va_G) (cI cZ cJ : ClassId) (bd : Nat → Nat) (S : ZS) (hI : MI S) (hdis : mDis bd) (x0 x1 : Int) (hx0 : ir x0) (hx1 : ir x1)  : Met l yX8_ofDot wsX8_ofDot rmct_X8_ofDot (zP D cI cZ cJ (mW cI cZ bd S) [.ref (bd 0), .int (zi x0), .int (zi x1)]) (zWi D (mW cI cZ bd) (mA bd) (fun r T => pubQ S (kM_ofDot S x0 x1) (if x1 = 0 then nM S x0 else if x1 = 1 then tM S x0 else if x1 = 2 then S 9 x0 else S 10 x0) (fun P => P) r T ∧ MI T)) 0 0 (mA bd) := by
  refine Met.ofW (cc := cX8_ofDot) (maxL := 3) (ret := (some .int)) (by decide) rfl ?_
  intro p e s m args below meth c s₁ B hml hv
  obtain ⟨rfl, hP, hK⟩ := hv
  have hx := B.exec
  have hb := B.bytes
  have hr := B.returns
  have hts := atoms_spec (ws := wsX8_ofDot) B.pre
  have hown : s.vm.findClass RX8 = some m.cls := findClass_of_methodNamed B.named
  have hlocks := B.notSynchronized
  have hl := lv_entry ([.ref (bd 0), .int (zi x0), .int (zi x1)]) (n := 3) (Nat.le_of_ble_eq_true rfl)
  rw [lg_entry_eq]
  generalize (lg_sl ([.ref (bd 0), .int (zi x0), .int (zi x1)]) ++ List.replicate (3 - (lg_sl ([.ref (bd 0), .int (zi x0), .int (zi x1)])).length) Slot.unset).toArray = ls at hl ⊢
  have hl : lv_has ls 3 [(0, .ref (bd 0)), (1, .int (zi x0)), (2, .int (zi x1))] := hl
  have hS : va_S (mA bd) s.heap s.heap [] := va_S.rf
  show W p l e rmct_X8_ofDot s m ([.ref (bd 0), .int (zi x0), .int (zi x1)] : List Value).toArray below meth c s.heap [] 0 0 (MQ below (zWi D (mW cI cZ bd) (mA bd) (fun r T => pubQ S (kM_ofDot S x0 x1) (if x1 = 0 then nM S x0 else if x1 = 1 then tM S x0 else if x1 = 2 then S 9 x0 else S 10 x0) (fun P => P) r T ∧ MI T)) ([.ref (bd 0), .int (zi x0), .int (zi x1)] : List Value).toArray s 0 0 (mA bd)) (F0 m 0 ls [])
  have hc0 : (0 : Int) ≤ S 6 0 ∧ S 6 0 ≤ 60 := hI 6 0
  refine lv_aload_n hx hb dX8_ofDot_0 rfl (lv_at hl 0 rfl) ?_
  refine lv_aload_n hx hb dX8_ofDot_1 rfl (lv_at hl 0 rfl) ?_
  refine lv_iload_n hx hb dX8_ofDot_2 rfl (lv_at hl 1 rfl) ?_
  refine zk_r (zc_V (As := [.int (zi x0)]) (rest := [.ref (bd 0)]) ⟨hx, hb, hml, hown, hts⟩ (ct_X8_isDot l D cI cZ cJ bd S hI x0 ⟨by omega, by omega⟩) (cwV 1 hts gX8_ofDot_X8_isDot rfl rfl rfl (by decide +kernel) ⟨Nat.le_of_ble_eq_true rfl, Nat.le_of_ble_eq_true rfl⟩) hK hP (q0 := 0) (ci := 8) rfl rfl rfl rfl hl.1 rfl (Nat.le_of_ble_eq_true rfl) dX8_ofDot_3 ⟨Nat.zero_le _, Nat.zero_le _⟩) ?_
  refine zi_top (fun (r_3 : Int) (er_3 : r_3 = b2 (0 ≤ x0 ∧ x0 < S 6 0)) => ?_)
  have fr_3 : (0 : Int) ≤ r_3 ∧ r_3 ≤ 1 := by rw [er_3]; exact b2_b
  have fr_31 : (r_3 = 1 ∧ (0 ≤ x0 ∧ x0 < S 6 0)) ∨ (r_3 = 0 ∧ ¬ (0 ≤ x0 ∧ x0 < S 6 0)) := by rw [er_3]; exact b2_or _
  refine zi_if_ne (tgt := 13) hx hb ⟨by omega, by omega⟩ dX8_ofDot_6 (by decide) (fun c_6 => ?_) (fun c_6 => ?_)
  · refine lv_iload_n hx hb dX8_ofDot_13 rfl (lv_at hl 2 rfl) ?_
    refine zi_iconst hx hb dX8_ofDot_14 ?_
    refine zi_iconst hx hb dX8_ofDot_15 ?_
    refine zk_r (zc_S (As := [.int (zi x1), .int (zi 0), .int (zi 3)]) (rest := [.ref (bd 0)]) ⟨hx, hb, hml, hown, hts⟩ (ct_X8_isIn l D cI cZ cJ x1 0 3 ⟨by omega, by omega⟩ ⟨by decide, by decide⟩ ⟨by decide, by decide⟩) (va_cwS 3 hts gX8_ofDot_X8_isIn rfl rfl rfl (by decide +kernel) ⟨Nat.le_of_ble_eq_true rfl, Nat.le_of_ble_eq_true rfl⟩) hK va_P_nil rfl hl.1 rfl (Nat.le_of_ble_eq_true rfl) dX8_ofDot_16 ⟨Nat.zero_le _, Nat.zero_le _⟩) ?_
    refine zi_top (fun (r_16 : Int) (er_16 : r_16 = b2 (0 ≤ x1 ∧ x1 ≤ 3)) => ?_)
    have fr_16 : (0 : Int) ≤ r_16 ∧ r_16 ≤ 1 := by rw [er_16]; exact b2_b
    have fr_161 : (r_16 = 1 ∧ (0 ≤ x1 ∧ x1 ≤ 3)) ∨ (r_16 = 0 ∧ ¬ (0 ≤ x1 ∧ x1 ≤ 3)) := by rw [er_16]; exact b2_or _
    refine zi_if_eq (tgt := 26) hx hb ⟨by omega, by omega⟩ dX8_ofDot_19 (by decide) (fun c_19 => ?_) (fun c_19 => ?_)
    · refine zi_iconst hx hb dX8_ofDot_26 ?_
      have hkk : (kM_ofDot S x0 x1) = 2 := by rw [kM_ofDot, cif_f (by omega), cif_t (by omega)]
      refine zk_wi (zc_V (As := [.int (zi 2)]) (rest := []) ⟨hx, hb, hml, hown, hts⟩ (ct_X8_can l D cI cZ cJ bd S hI hdis 2 ⟨by decide, by decide⟩ (by omega) (by omega)) (cwV 1 hts gX8_ofDot_X8_can rfl rfl rfl (by decide +kernel) ⟨Nat.le_of_ble_eq_true rfl, Nat.le_of_ble_eq_true rfl⟩) hK hP (q0 := 0) (ci := 8) rfl rfl rfl rfl hl.1 rfl (Nat.le_of_ble_eq_true rfl) dX8_ofDot_27 ⟨Nat.zero_le _, Nat.zero_le _⟩) hS (fun r_27 S_27 H locs hp_27 hP hS => ?_)
      obtain ⟨er_27, e9, hI_27⟩ := hp_27
      have eS_27 := e9.symm; clear e9
      have fr_27 : (0 : Int) ≤ r_27 ∧ r_27 ≤ 1 := by rw [er_27]; exact b2_b
      have k_27 : r_27 = 0 := er_27.trans (b2_f (by decide))
      refine zi_if_ne (tgt := 35) hx hb ⟨by omega, by omega⟩ dX8_ofDot_30 (by decide) (fun c_30 => ?_) (fun c_30 => ?_)
      · exact absurd c_30 (by omega)
      · refine zi_iconst hx hb dX8_ofDot_33 ?_
        exact zr_wi (T := S_27) hx hb hr hlocks dX8_ofDot_34 hP hS (by exact ⟨pub_no hkk (by decide) (SM.rf) eS_27, hI_27⟩)
    · refine zi_iconst hx hb dX8_ofDot_22 ?_
      refine lv_goto (tgt := 27) hx hb dX8_ofDot_23 (by decide) ?_
      have hkk : (kM_ofDot S x0 x1) = 0 := by rw [kM_ofDot, cif_f (by omega), cif_f (by omega)]
      refine zk_wi (zc_V (As := [.int (zi 0)]) (rest := []) ⟨hx, hb, hml, hown, hts⟩ (ct_X8_can l D cI cZ cJ bd S hI hdis 0 ⟨by decide, by decide⟩ (by omega) (by omega)) (cwV 1 hts gX8_ofDot_X8_can rfl rfl rfl (by decide +kernel) ⟨Nat.le_of_ble_eq_true rfl, Nat.le_of_ble_eq_true rfl⟩) hK hP (q0 := 0) (ci := 8) rfl rfl rfl rfl hl.1 rfl (Nat.le_of_ble_eq_true rfl) dX8_ofDot_27 ⟨Nat.zero_le _, Nat.zero_le _⟩) hS (fun r_27 S_27 H locs hp_27 hP hS => ?_)
      obtain ⟨er_27, e9, hI_27⟩ := hp_27
      have eS_27 := e9.symm; clear e9
      have fr_27 : (0 : Int) ≤ r_27 ∧ r_27 ≤ 1 := by rw [er_27]; exact b2_b
      have k_27 : r_27 = 1 := er_27.trans (b2_t rfl)
      refine zi_if_ne (tgt := 35) hx hb ⟨by omega, by omega⟩ dX8_ofDot_30 (by decide) (fun c_30 => ?_) (fun c_30 => ?_)
      · refine lv_iload_n hx hb dX8_ofDot_35 rfl (lv_at hl 2 rfl) ?_
        refine zi_if_ne (tgt := 47) hx hb ⟨by omega, by omega⟩ dX8_ofDot_36 (by decide) (fun c_36 => ?_) (fun c_36 => ?_)
        · refine lv_iload_n hx hb dX8_ofDot_47 rfl (lv_at hl 2 rfl) ?_
          refine zi_iconst hx hb dX8_ofDot_48 ?_
          refine zi_icmp_ne (tgt := 60) hx hb ⟨by omega, by omega⟩ ⟨by decide, by decide⟩ dX8_ofDot_49 (by decide) (fun c_49 => ?_) (fun c_49 => ?_)
          · refine lv_iload_n hx hb dX8_ofDot_60 rfl (lv_at hl 2 rfl) ?_
            refine zi_iconst hx hb dX8_ofDot_61 ?_
            refine zi_icmp_ne (tgt := 74) hx hb ⟨by omega, by omega⟩ ⟨by decide, by decide⟩ dX8_ofDot_62 (by decide) (fun c_62 => ?_) (fun c_62 => ?_)
            · refine lv_aload_n hx hb dX8_ofDot_74 rfl (lv_at hl 0 rfl) ?_
              refine va_get (D := D) (ci := 8) (v := .ref (bd 11)) (C := RX8) (T := TX8) (N := 32) hx hb hts in_X8_ofDot_8 hown hK.1 hP 0 rfl rfl 10 (by decide) (hts _ lk_X8_ofDot_31) (fun _ h9 => h9) rfl dX8_ofDot_75 ?_
              refine lv_iload_n hx hb dX8_ofDot_78 rfl (lv_at hl 1 rfl) ?_
              refine zi_iald hx hb hK.1 hP 8 0 rfl rfl (by omega) (by omega) (by decide) dX8_ofDot_79 ?_
              have f_79 : (-1 : Int) ≤ S_27 10 x0 ∧ S_27 10 x0 ≤ 19 := hI_27 10 x0
              exact zr_wi (T := S_27) hx hb hr hlocks dX8_ofDot_80 hP hS (by exact ⟨pub_ok hkk (by rw [if_neg (by omega), if_neg (by omega), if_neg (by omega), ← eS_27]; rfl) (by rw [← eS_27]; exact SM.rf), hI_27⟩)
            · refine lv_aload_n hx hb dX8_ofDot_65 rfl (lv_at hl 0 rfl) ?_
              refine va_get (D := D) (ci := 8) (v := .ref (bd 10)) (C := RX8) (T := TX8) (N := 32) hx hb hts in_X8_ofDot_8 hown hK.1 hP 0 rfl rfl 9 (by decide) (hts _ lk_X8_ofDot_28) (fun _ h9 => h9) rfl dX8_ofDot_66 ?_
              refine lv_iload_n hx hb dX8_ofDot_69 rfl (lv_at hl 1 rfl) ?_
              refine zi_iald hx hb hK.1 hP 7 0 rfl rfl (by omega) (by omega) (by decide) dX8_ofDot_70 ?_
              have f_70 : (0 : Int) ≤ S_27 9 x0 ∧ S_27 9 x0 ≤ 99 := hI_27 9 x0
              refine lv_goto (tgt := 80) hx hb dX8_ofDot_71 (by decide) ?_
              exact zr_wi (T := S_27) hx hb hr hlocks dX8_ofDot_80 hP hS (by exact ⟨pub_ok hkk (by rw [if_neg (by omega), if_neg (by omega), if_pos (by omega), ← eS_27]; rfl) (by rw [← eS_27]; exact SM.rf), hI_27⟩)
          · refine lv_aload_n hx hb dX8_ofDot_52 rfl (lv_at hl 0 rfl) ?_
            refine lv_iload_n hx hb dX8_ofDot_53 rfl (lv_at hl 1 rfl) ?_
            refine zk_r (zc_V (As := [.int (zi x0)]) (rest := []) ⟨hx, hb, hml, hown, hts⟩ (ct_X8_trueOf l D cI cZ cJ bd S_27 hI_27 x0 ⟨by omega, by omega⟩ (by omega) (by omega)) (cwV 1 hts gX8_ofDot_X8_trueOf rfl rfl rfl (by decide +kernel) ⟨Nat.le_of_ble_eq_true rfl, Nat.le_of_ble_eq_true rfl⟩) hK hP (q0 := 0) (ci := 8) rfl rfl rfl rfl hl.1 rfl (Nat.le_of_ble_eq_true rfl) dX8_ofDot_54 ⟨Nat.zero_le _, Nat.zero_le _⟩) ?_
            refine zi_top (fun (r_54 : Int) (er_54 : r_54 = tM S_27 x0) => ?_)
            have fr_54 : (0 : Int) ≤ r_54 ∧ r_54 ≤ 3599 := by rw [er_54]; exact tM_b _ _
            refine lv_goto (tgt := 80) hx hb dX8_ofDot_57 (by decide) ?_
            exact zr_wi (T := S_27) hx hb hr hlocks dX8_ofDot_80 hP hS (by exact ⟨pub_ok hkk (by rw [if_neg (by omega), if_pos (by omega), er_54, ← eS_27]; rfl) (by rw [← eS_27]; exact SM.rf), hI_27⟩)
        · refine lv_aload_n hx hb dX8_ofDot_39 rfl (lv_at hl 0 rfl) ?_
          refine lv_iload_n hx hb dX8_ofDot_40 rfl (lv_at hl 1 rfl) ?_
          refine zk_r (zc_V (As := [.int (zi x0)]) (rest := []) ⟨hx, hb, hml, hown, hts⟩ (ct_X8_nightOf l D cI cZ cJ bd S_27 hI_27 x0 ⟨by omega, by omega⟩ (by omega) (by omega)) (cwV 1 hts gX8_ofDot_X8_nightOf rfl rfl rfl (by decide +kernel) ⟨Nat.le_of_ble_eq_true rfl, Nat.le_of_ble_eq_true rfl⟩) hK hP (q0 := 0) (ci := 8) rfl rfl rfl rfl hl.1 rfl (Nat.le_of_ble_eq_true rfl) dX8_ofDot_41 ⟨Nat.zero_le _, Nat.zero_le _⟩) ?_
          refine zi_top (fun (r_41 : Int) (er_41 : r_41 = nM S_27 x0) => ?_)
          have fr_41 : (0 : Int) ≤ r_41 ∧ r_41 ≤ 999 := by rw [er_41]; exact nM_b hI_27 _
          refine lv_goto (tgt := 80) hx hb dX8_ofDot_44 (by decide) ?_
          exact zr_wi (T := S_27) hx hb hr hlocks dX8_ofDot_80 hP hS (by exact ⟨pub_ok hkk (by rw [if_pos (by omega), er_41, ← eS_27]; rfl) (by rw [← eS_27]; exact SM.rf), hI_27⟩)
      · exact absurd c_30 (by omega)
  · refine zi_iconst hx hb dX8_ofDot_9 ?_
    refine lv_goto (tgt := 27) hx hb dX8_ofDot_10 (by decide) ?_
    have hkk : (kM_ofDot S x0 x1) = 1 := by rw [kM_ofDot, cif_t (by omega)]
    refine zk_wi (zc_V (As := [.int (zi 1)]) (rest := []) ⟨hx, hb, hml, hown, hts⟩ (ct_X8_can l D cI cZ cJ bd S hI hdis 1 ⟨by decide, by decide⟩ (by omega) (by omega)) (cwV 1 hts gX8_ofDot_X8_can rfl rfl rfl (by decide +kernel) ⟨Nat.le_of_ble_eq_true rfl, Nat.le_of_ble_eq_true rfl⟩) hK hP (q0 := 0) (ci := 8) rfl rfl rfl rfl hl.1 rfl (Nat.le_of_ble_eq_true rfl) dX8_ofDot_27 ⟨Nat.zero_le _, Nat.zero_le _⟩) hS (fun r_27 S_27 H locs hp_27 hP hS => ?_)
    obtain ⟨er_27, e9, hI_27⟩ := hp_27
    have eS_27 := e9.symm; clear e9
    have fr_27 : (0 : Int) ≤ r_27 ∧ r_27 ≤ 1 := by rw [er_27]; exact b2_b
    have k_27 : r_27 = 0 := er_27.trans (b2_f (by decide))
    refine zi_if_ne (tgt := 35) hx hb ⟨by omega, by omega⟩ dX8_ofDot_30 (by decide) (fun c_30 => ?_) (fun c_30 => ?_)
    · exact absurd c_30 (by omega)
    · refine zi_iconst hx hb dX8_ofDot_33 ?_
      exact zr_wi (T := S_27) hx hb hr hlocks dX8_ofDot_34 hP hS (by exact ⟨pub_no hkk (by decide) (SM.rf) eS_27, hI_27⟩)

noncomputable def kM_body (S : ZS) (x0 : Int) : Int := cif (¬ (0 ≤ x0 ∧ x0 < S 6 0)) 1 (cif (S 10 x0 ≠ -1 ∨ S 11 0 = 20) 2 (0))
theorem in_X8_body_8 : ∀ w ∈ wsX80, w ∈ wsX8_body := by decide +kernel
theorem lk_X8_body_31 : Cond.fieldLink RX8 31 "PlanetoidDeskModel" "own" "[I" ∈ wsX8_body := by decide +kernel
theorem lk_X8_body_95 : Cond.fieldLink RX8 95 "PlanetoidDeskModel" "bodies" "I" ∈ wsX8_body := by decide +kernel
theorem lk_X8_body_34 : Cond.fieldLink RX8 34 "PlanetoidDeskModel" "above" "[I" ∈ wsX8_body := by decide +kernel
abbrev rmct_X8_body : Room := { frames := 2, cells := 0, slots := 0, locals := 43 }
set_option maxHeartbeats 4000000 in
set_option maxRecDepth 100000 in
theorem ct_X8_body (l : Launch) (D : va_G) (cI cZ cJ : ClassId) (bd : Nat → Nat) (S : ZS) (hI : MI S) (hdis : mDis bd) (x0 : Int) (hx0 : ir x0)  : Met l yX8_body wsX8_body rmct_X8_body (zP D cI cZ cJ (mW cI cZ bd S) [.ref (bd 0), .int (zi x0)]) (zWi D (mW cI cZ bd) (mA bd) (fun r T => pubQ S (kM_body S x0) (S 11 0) (fun P => su (su (su P 10 (up (P 10) x0 (P 11 0))) 12 (up (P 12) (P 11 0) (-1))) 11 (fun _ => P 11 0 + 1)) r T ∧ MI T)) 0 0 (mA bd) := by
  refine Met.ofW (cc := cX8_body) (maxL := 3) (ret := (some .int)) (by decide) rfl ?_
  intro p e s m args below meth c s₁ B hml hv
  obtain ⟨rfl, hP, hK⟩ := hv
  have hx := B.exec
  have hb := B.bytes
  have hr := B.returns
  have hts := atoms_spec (ws := wsX8_body) B.pre
  have hown : s.vm.findClass RX8 = some m.cls := findClass_of_methodNamed B.named
  have hlocks := B.notSynchronized
  have hl := lv_entry ([.ref (bd 0), .int (zi x0)]) (n := 3) (Nat.le_of_ble_eq_true rfl)
  rw [lg_entry_eq]
  generalize (lg_sl ([.ref (bd 0), .int (zi x0)]) ++ List.replicate (3 - (lg_sl ([.ref (bd 0), .int (zi x0)])).length) Slot.unset).toArray = ls at hl ⊢
  have hl : lv_has ls 3 [(0, .ref (bd 0)), (1, .int (zi x0))] := hl
  have hS : va_S (mA bd) s.heap s.heap [] := va_S.rf
  show W p l e rmct_X8_body s m ([.ref (bd 0), .int (zi x0)] : List Value).toArray below meth c s.heap [] 0 0 (MQ below (zWi D (mW cI cZ bd) (mA bd) (fun r T => pubQ S (kM_body S x0) (S 11 0) (fun P => su (su (su P 10 (up (P 10) x0 (P 11 0))) 12 (up (P 12) (P 11 0) (-1))) 11 (fun _ => P 11 0 + 1)) r T ∧ MI T)) ([.ref (bd 0), .int (zi x0)] : List Value).toArray s 0 0 (mA bd)) (F0 m 0 ls [])
  have hc0 : (0 : Int) ≤ S 6 0 ∧ S 6 0 ≤ 60 := hI 6 0
  refine lv_aload_n hx hb dX8_body_0 rfl (lv_at hl 0 rfl) ?_
  refine lv_iload_n hx hb dX8_body_1 rfl (lv_at hl 1 rfl) ?_
  refine zk_r (zc_V (As := [.int (zi x0)]) (rest := []) ⟨hx, hb, hml, hown, hts⟩ (ct_X8_isDot l D cI cZ cJ bd S hI x0 ⟨by omega, by omega⟩) (cwV 1 hts gX8_body_X8_isDot rfl rfl rfl (by decide +kernel) ⟨Nat.le_of_ble_eq_true rfl, Nat.le_of_ble_eq_true rfl⟩) hK hP (q0 := 0) (ci := 8) rfl rfl rfl rfl hl.1 rfl (Nat.le_of_ble_eq_true rfl) dX8_body_2 ⟨Nat.zero_le _, Nat.zero_le _⟩) ?_
  refine zi_top (fun (r_2 : Int) (er_2 : r_2 = b2 (0 ≤ x0 ∧ x0 < S 6 0)) => ?_)
  have fr_2 : (0 : Int) ≤ r_2 ∧ r_2 ≤ 1 := by rw [er_2]; exact b2_b
  have fr_21 : (r_2 = 1 ∧ (0 ≤ x0 ∧ x0 < S 6 0)) ∨ (r_2 = 0 ∧ ¬ (0 ≤ x0 ∧ x0 < S 6 0)) := by rw [er_2]; exact b2_or _
  refine lv_istore_n (lv' := [(2, .int (zi r_2)), (0, .ref (bd 0)), (1, .int (zi x0))]) hx hb dX8_body_5 rfl hl (by decide) rfl (fun ls hl => ?_)
  refine lv_aload_n hx hb dX8_body_6 rfl (lv_at hl 1 rfl) ?_
  refine lv_iload_n hx hb dX8_body_7 rfl (lv_at hl 0 rfl) ?_
  refine zi_if_ne (tgt := 15) hx hb ⟨by omega, by omega⟩ dX8_body_8 (by decide) (fun c_8 => ?_) (fun c_8 => ?_)
  · refine lv_aload_n hx hb dX8_body_15 rfl (lv_at hl 1 rfl) ?_
    refine va_get (D := D) (ci := 8) (v := .ref (bd 11)) (C := RX8) (T := TX8) (N := 32) hx hb hts in_X8_body_8 hown hK.1 hP 0 rfl rfl 10 (by decide) (hts _ lk_X8_body_31) (fun _ h9 => h9) rfl dX8_body_16 ?_
    refine lv_iload_n hx hb dX8_body_19 rfl (lv_at hl 2 rfl) ?_
    refine zi_iald hx hb hK.1 hP 8 0 rfl rfl (by omega) (by omega) (by decide) dX8_body_20 ?_
    have f_20 : (-1 : Int) ≤ S 10 x0 ∧ S 10 x0 ≤ 19 := hI 10 x0
    refine zi_iconst hx hb dX8_body_21 ?_
    refine zi_icmp_ne (tgt := 34) hx hb ⟨by omega, by omega⟩ ⟨by decide, by decide⟩ dX8_body_22 (by decide) (fun c_22 => ?_) (fun c_22 => ?_)
    · refine zi_iconst hx hb dX8_body_34 ?_
      refine lv_goto (tgt := 39) hx hb dX8_body_35 (by decide) ?_
      have hkk : (kM_body S x0) = 2 := by rw [kM_body, cif_f (by omega), cif_t (by omega)]
      refine zk_wi (zc_V (As := [.int (zi 2)]) (rest := []) ⟨hx, hb, hml, hown, hts⟩ (ct_X8_can l D cI cZ cJ bd S hI hdis 2 ⟨by decide, by decide⟩ (by omega) (by omega)) (cwV 1 hts gX8_body_X8_can rfl rfl rfl (by decide +kernel) ⟨Nat.le_of_ble_eq_true rfl, Nat.le_of_ble_eq_true rfl⟩) hK hP (q0 := 0) (ci := 8) rfl rfl rfl rfl hl.1 rfl (Nat.le_of_ble_eq_true rfl) dX8_body_39 ⟨Nat.zero_le _, Nat.zero_le _⟩) hS (fun r_39 S_39 H locs hp_39 hP hS => ?_)
      obtain ⟨er_39, e9, hI_39⟩ := hp_39
      have eS_39 := e9.symm; clear e9
      have fr_39 : (0 : Int) ≤ r_39 ∧ r_39 ≤ 1 := by rw [er_39]; exact b2_b
      have k_39 : r_39 = 0 := er_39.trans (b2_f (by decide))
      refine zi_if_ne (tgt := 47) hx hb ⟨by omega, by omega⟩ dX8_body_42 (by decide) (fun c_42 => ?_) (fun c_42 => ?_)
      · exact absurd c_42 (by omega)
      · refine zi_iconst hx hb dX8_body_45 ?_
        exact zr_wi (T := S_39) hx hb hr hlocks dX8_body_46 hP hS (by exact ⟨pub_no hkk (by decide) (SM.rf) eS_39, hI_39⟩)
    · refine lv_aload_n hx hb dX8_body_25 rfl (lv_at hl 1 rfl) ?_
      refine va_get (D := D) (ci := 8) (v := .int (zi (S 11 0))) (C := RX8) (T := TX8) (N := 32) hx hb hts in_X8_body_8 hown hK.1 hP 0 rfl rfl 11 (by decide) (hts _ lk_X8_body_95) (fun _ h9 => h9) rfl dX8_body_26 ?_
      have f_26 : (0 : Int) ≤ S 11 0 ∧ S 11 0 ≤ 20 := hI 11 0
      refine zi_bipush hx hb dX8_body_29 (by decide) ?_
      refine zi_icmp_ne (tgt := 38) hx hb ⟨by omega, by omega⟩ ⟨by decide, by decide⟩ dX8_body_31 (by decide) (fun c_31 => ?_) (fun c_31 => ?_)
      · refine zi_iconst hx hb dX8_body_38 ?_
        have hkk : (kM_body S x0) = 0 := by rw [kM_body, cif_f (by omega), cif_f (by omega)]
        refine zk_wi (zc_V (As := [.int (zi 0)]) (rest := []) ⟨hx, hb, hml, hown, hts⟩ (ct_X8_can l D cI cZ cJ bd S hI hdis 0 ⟨by decide, by decide⟩ (by omega) (by omega)) (cwV 1 hts gX8_body_X8_can rfl rfl rfl (by decide +kernel) ⟨Nat.le_of_ble_eq_true rfl, Nat.le_of_ble_eq_true rfl⟩) hK hP (q0 := 0) (ci := 8) rfl rfl rfl rfl hl.1 rfl (Nat.le_of_ble_eq_true rfl) dX8_body_39 ⟨Nat.zero_le _, Nat.zero_le _⟩) hS (fun r_39 S_39 H locs hp_39 hP hS => ?_)
        obtain ⟨er_39, e9, hI_39⟩ := hp_39
        have eS_39 := e9.symm; clear e9
        have fr_39 : (0 : Int) ≤ r_39 ∧ r_39 ≤ 1 := by rw [er_39]; exact b2_b
        have k_39 : r_39 = 1 := er_39.trans (b2_t rfl)
        refine zi_if_ne (tgt := 47) hx hb ⟨by omega, by omega⟩ dX8_body_42 (by decide) (fun c_42 => ?_) (fun c_42 => ?_)
        · refine lv_aload_n hx hb dX8_body_47 rfl (lv_at hl 1 rfl) ?_
          refine va_get (D := D) (ci := 8) (v := .ref (bd 11)) (C := RX8) (T := TX8) (N := 32) hx hb hts in_X8_body_8 hown hK.1 hP 0 rfl rfl 10 (by decide) (hts _ lk_X8_body_31) (fun _ h9 => h9) rfl dX8_body_48 ?_
          refine lv_iload_n hx hb dX8_body_51 rfl (lv_at hl 2 rfl) ?_
          refine lv_aload_n hx hb dX8_body_52 rfl (lv_at hl 1 rfl) ?_
          refine va_get (D := D) (ci := 8) (v := .int (zi (S_39 11 0))) (C := RX8) (T := TX8) (N := 32) hx hb hts in_X8_body_8 hown hK.1 hP 0 rfl rfl 11 (by decide) (hts _ lk_X8_body_95) (fun _ h9 => h9) rfl dX8_body_53 ?_
          refine zi_is (S 11 0) (by rw [← eS_39] <;> rfl) ?_
          have f_53 : (0 : Int) ≤ S 11 0 ∧ S 11 0 ≤ 20 := hI 11 0
          refine zi_iast hx hb hK.1 hP (mW_D hdis _) hS 8 0 rfl rfl (by omega) (by omega) (by decide) dX8_body_56 (fun H locs hP hS => ?_)
          have hP : va_P D vwCl (mW cI cZ bd (su S_39 10 (up (S_39 10) x0 (S 11 0)))) H := hP
          have hI_56 : MI (su S_39 10 (up (S_39 10) x0 (S 11 0))) := MI.up hI_39 10 x0 (S 11 0) (show (-1 : Int) ≤ (S 11 0) ∧ (S 11 0) ≤ 19 from ⟨by omega, by omega⟩)
          generalize eS_56 : su S_39 10 (up (S_39 10) x0 (S 11 0)) = S_56 at hP hI_56
          refine lv_aload_n hx hb dX8_body_57 rfl (lv_at hl 1 rfl) ?_
          refine va_get (D := D) (ci := 8) (v := .ref (bd 13)) (C := RX8) (T := TX8) (N := 32) hx hb hts in_X8_body_8 hown hK.1 hP 0 rfl rfl 12 (by decide) (hts _ lk_X8_body_34) (fun _ h9 => h9) rfl dX8_body_58 ?_
          refine lv_aload_n hx hb dX8_body_61 rfl (lv_at hl 1 rfl) ?_
          refine va_get (D := D) (ci := 8) (v := .int (zi (S_56 11 0))) (C := RX8) (T := TX8) (N := 32) hx hb hts in_X8_body_8 hown hK.1 hP 0 rfl rfl 11 (by decide) (hts _ lk_X8_body_95) (fun _ h9 => h9) rfl dX8_body_62 ?_
          refine zi_is (S 11 0) (by rw [← eS_56, ← eS_39] <;> rfl) ?_
          have f_62 : (0 : Int) ≤ S 11 0 ∧ S 11 0 ≤ 20 := hI 11 0
          refine zi_iconst hx hb dX8_body_65 ?_
          refine zi_iast hx hb hK.1 hP (mW_D hdis _) hS 9 0 rfl rfl (by omega) (by omega) (by decide) dX8_body_66 (fun H locs hP hS => ?_)
          have hP : va_P D vwCl (mW cI cZ bd (su S_56 12 (up (S_56 12) (S 11 0) (-1)))) H := hP
          have hI_66 : MI (su S_56 12 (up (S_56 12) (S 11 0) (-1))) := MI.up hI_56 12 (S 11 0) (-1) (show (-1 : Int) ≤ (-1) ∧ (-1) ≤ 19 from ⟨by omega, by omega⟩)
          generalize eS_66 : su S_56 12 (up (S_56 12) (S 11 0) (-1)) = S_66 at hP hI_66
          refine lv_aload_n hx hb dX8_body_67 rfl (lv_at hl 1 rfl) ?_
          refine lv_dup hx hb dX8_body_68 rfl ?_
          refine va_get (D := D) (ci := 8) (v := .int (zi (S_66 11 0))) (C := RX8) (T := TX8) (N := 32) hx hb hts in_X8_body_8 hown hK.1 hP 0 rfl rfl 11 (by decide) (hts _ lk_X8_body_95) (fun _ h9 => h9) rfl dX8_body_69 ?_
          refine zi_is (S 11 0) (by rw [← eS_66, ← eS_56, ← eS_39] <;> rfl) ?_
          have f_69 : (0 : Int) ≤ S 11 0 ∧ S 11 0 ≤ 20 := hI 11 0
          refine zi_iconst hx hb dX8_body_72 ?_
          refine zi_iadd hx hb dX8_body_73 ?_
          refine va_put (D := D) (ci := 8) (v := .int (zi ((S 11 0) + 1))) (ty := .int) (C := RX8) (T := TX8) (N := 32) hx hb hts in_X8_body_8 tyX8 tyX8_ok nmX8 hown hK.1 hP (mW_D hdis _) hS 0 rfl rfl 11 (by decide) (hts _ lk_X8_body_95) (fun _ h9 => h9) rfl (by decide +kernel) rfl rfl (Nat.le_of_ble_eq_true rfl) dX8_body_74 (fun H locs hP _ hS => ?_)
          have hP : va_P D vwCl (mW cI cZ bd (su S_66 11 (fun _ => (S 11 0) + 1))) H := hP
          have hI_74 : MI (su S_66 11 (fun _ => (S 11 0) + 1)) := MI.upc hI_66 11 ((S 11 0) + 1) (show (0 : Int) ≤ ((S 11 0) + 1) ∧ ((S 11 0) + 1) ≤ 20 from ⟨by omega, by omega⟩)
          generalize eS_74 : su S_66 11 (fun _ => (S 11 0) + 1) = S_74 at hP hI_74
          refine lv_aload_n hx hb dX8_body_77 rfl (lv_at hl 1 rfl) ?_
          refine va_get (D := D) (ci := 8) (v := .int (zi (S_74 11 0))) (C := RX8) (T := TX8) (N := 32) hx hb hts in_X8_body_8 hown hK.1 hP 0 rfl rfl 11 (by decide) (hts _ lk_X8_body_95) (fun _ h9 => h9) rfl dX8_body_78 ?_
          refine zi_is ((S 11 0) + 1) (by rw [← eS_74] <;> rfl) ?_
          refine zi_iconst hx hb dX8_body_81 ?_
          refine zi_isub hx hb dX8_body_82 ?_
          exact zr_wi (T := S_74) hx hb hr hlocks dX8_body_83 hP hS (by exact ⟨pub_ok hkk (by omega) (by rw [← eS_74, ← eS_66, ← eS_56, ← eS_39]; exact SM.rf), hI_74⟩)
        · exact absurd c_42 (by omega)
      · refine zi_iconst hx hb dX8_body_34 ?_
        refine lv_goto (tgt := 39) hx hb dX8_body_35 (by decide) ?_
        have hkk : (kM_body S x0) = 2 := by rw [kM_body, cif_f (by omega), cif_t (by omega)]
        refine zk_wi (zc_V (As := [.int (zi 2)]) (rest := []) ⟨hx, hb, hml, hown, hts⟩ (ct_X8_can l D cI cZ cJ bd S hI hdis 2 ⟨by decide, by decide⟩ (by omega) (by omega)) (cwV 1 hts gX8_body_X8_can rfl rfl rfl (by decide +kernel) ⟨Nat.le_of_ble_eq_true rfl, Nat.le_of_ble_eq_true rfl⟩) hK hP (q0 := 0) (ci := 8) rfl rfl rfl rfl hl.1 rfl (Nat.le_of_ble_eq_true rfl) dX8_body_39 ⟨Nat.zero_le _, Nat.zero_le _⟩) hS (fun r_39 S_39 H locs hp_39 hP hS => ?_)
        obtain ⟨er_39, e9, hI_39⟩ := hp_39
        have eS_39 := e9.symm; clear e9
        have fr_39 : (0 : Int) ≤ r_39 ∧ r_39 ≤ 1 := by rw [er_39]; exact b2_b
        have k_39 : r_39 = 0 := er_39.trans (b2_f (by decide))
        refine zi_if_ne (tgt := 47) hx hb ⟨by omega, by omega⟩ dX8_body_42 (by decide) (fun c_42 => ?_) (fun c_42 => ?_)
        · exact absurd c_42 (by omega)
        · refine zi_iconst hx hb dX8_body_45 ?_
          exact zr_wi (T := S_39) hx hb hr hlocks dX8_body_46 hP hS (by exact ⟨pub_no hkk (by decide) (SM.rf) eS_39, hI_39⟩)
  · refine zi_iconst hx hb dX8_body_11 ?_
    refine lv_goto (tgt := 39) hx hb dX8_body_12 (by decide) ?_
    have hkk : (kM_body S x0) = 1 := by rw [kM_body, cif_t (by omega)]
    refine zk_wi (zc_V (As := [.int (zi 1)]) (rest := []) ⟨hx, hb, hml, hown, hts⟩ (ct_X8_can l D cI cZ cJ bd S hI hdis 1 ⟨by decide, by decide⟩ (by omega) (by omega)) (cwV 1 hts gX8_body_X8_can rfl rfl rfl (by decide +kernel) ⟨Nat.le_of_ble_eq_true rfl, Nat.le_of_ble_eq_true rfl⟩) hK hP (q0 := 0) (ci := 8) rfl rfl rfl rfl hl.1 rfl (Nat.le_of_ble_eq_true rfl) dX8_body_39 ⟨Nat.zero_le _, Nat.zero_le _⟩) hS (fun r_39 S_39 H locs hp_39 hP hS => ?_)
    obtain ⟨er_39, e9, hI_39⟩ := hp_39
    have eS_39 := e9.symm; clear e9
    have fr_39 : (0 : Int) ≤ r_39 ∧ r_39 ≤ 1 := by rw [er_39]; exact b2_b
    have k_39 : r_39 = 0 := er_39.trans (b2_f (by decide))
    refine zi_if_ne (tgt := 47) hx hb ⟨by omega, by omega⟩ dX8_body_42 (by decide) (fun c_42 => ?_) (fun c_42 => ?_)
    · exact absurd c_42 (by omega)
    · refine zi_iconst hx hb dX8_body_45 ?_
      exact zr_wi (T := S_39) hx hb hr hlocks dX8_body_46 hP hS (by exact ⟨pub_no hkk (by decide) (SM.rf) eS_39, hI_39⟩)

noncomputable def kM_unlink (S : ZS) (x0 x1 : Int) : Int := cif (¬ ((0 ≤ x0 ∧ x0 < S 11 0) ∧ (0 ≤ x1 ∧ x1 < S 6 0))) 1 (cif (S 10 x1 ≠ x0 ∨ ownM S x0 = 1) 2 (0))
theorem in_X8_unlink_8 : ∀ w ∈ wsX80, w ∈ wsX8_unlink := by decide +kernel
theorem lk_X8_unlink_31 : Cond.fieldLink RX8 31 "PlanetoidDeskModel" "own" "[I" ∈ wsX8_unlink := by decide +kernel
abbrev rmct_X8_unlink : Room := { frames := 2, cells := 0, slots := 0, locals := 43 }
set_option maxHeartbeats 4000000 in
set_option maxRecDepth 100000 in
theorem ct_X8_unlink (l : Launch) (D : va_G) (cI cZ cJ : ClassId) (bd : Nat → Nat) (S : ZS) (hI : MI S) (hdis : mDis bd) (x0 x1 : Int) (hx0 : ir x0) (hx1 : ir x1)  : Met l yX8_unlink wsX8_unlink rmct_X8_unlink (zP D cI cZ cJ (mW cI cZ bd S) [.ref (bd 0), .int (zi x0), .int (zi x1)]) (zWi D (mW cI cZ bd) (mA bd) (fun r T => pubQ S (kM_unlink S x0 x1) (ownM (su (su S 31 (fun _ => 0)) 10 (up (S 10) x1 (-1))) x0) (fun P => su P 10 (up (P 10) x1 (-1))) r T ∧ MI T)) 0 0 (mA bd) := by
  refine Met.ofW (cc := cX8_unlink) (maxL := 4) (ret := (some .int)) (by decide) rfl ?_
  intro p e s m args below meth c s₁ B hml hv
  obtain ⟨rfl, hP, hK⟩ := hv
  have hx := B.exec
  have hb := B.bytes
  have hr := B.returns
  have hts := atoms_spec (ws := wsX8_unlink) B.pre
  have hown : s.vm.findClass RX8 = some m.cls := findClass_of_methodNamed B.named
  have hlocks := B.notSynchronized
  have hl := lv_entry ([.ref (bd 0), .int (zi x0), .int (zi x1)]) (n := 4) (Nat.le_of_ble_eq_true rfl)
  rw [lg_entry_eq]
  generalize (lg_sl ([.ref (bd 0), .int (zi x0), .int (zi x1)]) ++ List.replicate (4 - (lg_sl ([.ref (bd 0), .int (zi x0), .int (zi x1)])).length) Slot.unset).toArray = ls at hl ⊢
  have hl : lv_has ls 4 [(0, .ref (bd 0)), (1, .int (zi x0)), (2, .int (zi x1))] := hl
  have hS : va_S (mA bd) s.heap s.heap [] := va_S.rf
  show W p l e rmct_X8_unlink s m ([.ref (bd 0), .int (zi x0), .int (zi x1)] : List Value).toArray below meth c s.heap [] 0 0 (MQ below (zWi D (mW cI cZ bd) (mA bd) (fun r T => pubQ S (kM_unlink S x0 x1) (ownM (su (su S 31 (fun _ => 0)) 10 (up (S 10) x1 (-1))) x0) (fun P => su P 10 (up (P 10) x1 (-1))) r T ∧ MI T)) ([.ref (bd 0), .int (zi x0), .int (zi x1)] : List Value).toArray s 0 0 (mA bd)) (F0 m 0 ls [])
  have hc0 : (0 : Int) ≤ S 11 0 ∧ S 11 0 ≤ 20 := hI 11 0
  have hc6 : (0 : Int) ≤ S 6 0 ∧ S 6 0 ≤ 60 := hI 6 0
  refine lv_aload_n hx hb dX8_unlink_0 rfl (lv_at hl 0 rfl) ?_
  refine lv_iload_n hx hb dX8_unlink_1 rfl (lv_at hl 1 rfl) ?_
  refine zk_r (zc_V (As := [.int (zi x0)]) (rest := []) ⟨hx, hb, hml, hown, hts⟩ (ct_X8_isBody l D cI cZ cJ bd S hI x0 ⟨by omega, by omega⟩) (cwV 1 hts gX8_unlink_X8_isBody rfl rfl rfl (by decide +kernel) ⟨Nat.le_of_ble_eq_true rfl, Nat.le_of_ble_eq_true rfl⟩) hK hP (q0 := 0) (ci := 8) rfl rfl rfl rfl hl.1 rfl (Nat.le_of_ble_eq_true rfl) dX8_unlink_2 ⟨Nat.zero_le _, Nat.zero_le _⟩) ?_
  refine zi_top (fun (r_2 : Int) (er_2 : r_2 = b2 (0 ≤ x0 ∧ x0 < S 11 0)) => ?_)
  have fr_2 : (0 : Int) ≤ r_2 ∧ r_2 ≤ 1 := by rw [er_2]; exact b2_b
  have fr_21 : (r_2 = 1 ∧ (0 ≤ x0 ∧ x0 < S 11 0)) ∨ (r_2 = 0 ∧ ¬ (0 ≤ x0 ∧ x0 < S 11 0)) := by rw [er_2]; exact b2_or _
  refine zi_if_eq (tgt := 20) hx hb ⟨by omega, by omega⟩ dX8_unlink_5 (by decide) (fun c_5 => ?_) (fun c_5 => ?_)
  · refine zi_iconst hx hb dX8_unlink_20 ?_
    refine lv_istore_n (lv' := [(3, .int (zi 0)), (0, .ref (bd 0)), (1, .int (zi x0)), (2, .int (zi x1))]) hx hb dX8_unlink_21 rfl hl (by decide) rfl (fun ls hl => ?_)
    refine lv_aload_n hx hb dX8_unlink_22 rfl (lv_at hl 1 rfl) ?_
    refine lv_iload_n hx hb dX8_unlink_23 rfl (lv_at hl 0 rfl) ?_
    refine zi_if_ne (tgt := 31) hx hb ⟨by decide, by decide⟩ dX8_unlink_24 (by decide) (fun c_24 => ?_) (fun c_24 => ?_)
    · refine lv_aload_n hx hb dX8_unlink_31 rfl (lv_at hl 1 rfl) ?_
      refine va_get (D := D) (ci := 8) (v := .ref (bd 11)) (C := RX8) (T := TX8) (N := 32) hx hb hts in_X8_unlink_8 hown hK.1 hP 0 rfl rfl 10 (by decide) (hts _ lk_X8_unlink_31) (fun _ h9 => h9) rfl dX8_unlink_32 ?_
      refine lv_iload_n hx hb dX8_unlink_35 rfl (lv_at hl 3 rfl) ?_
      refine zi_iald hx hb hK.1 hP 8 0 rfl rfl (by omega) (by omega) (by decide) dX8_unlink_36 ?_
      have f_36 : (-1 : Int) ≤ S 10 x1 ∧ S 10 x1 ≤ 19 := hI 10 x1
      refine lv_iload_n hx hb dX8_unlink_37 rfl (lv_at hl 2 rfl) ?_
      refine zi_icmp_ne (tgt := 50) hx hb ⟨by omega, by omega⟩ ⟨by omega, by omega⟩ dX8_unlink_38 (by decide) (fun c_38 => ?_) (fun c_38 => ?_)
      · refine zi_iconst hx hb dX8_unlink_50 ?_
        refine lv_goto (tgt := 55) hx hb dX8_unlink_51 (by decide) ?_
        have hkk : (kM_unlink S x0 x1) = 2 := by rw [kM_unlink, cif_f (by omega), cif_t (by omega)]
        refine zk_wi (zc_V (As := [.int (zi 2)]) (rest := []) ⟨hx, hb, hml, hown, hts⟩ (ct_X8_can l D cI cZ cJ bd S hI hdis 2 ⟨by decide, by decide⟩ (by omega) (by omega)) (cwV 1 hts gX8_unlink_X8_can rfl rfl rfl (by decide +kernel) ⟨Nat.le_of_ble_eq_true rfl, Nat.le_of_ble_eq_true rfl⟩) hK hP (q0 := 0) (ci := 8) rfl rfl rfl rfl hl.1 rfl (Nat.le_of_ble_eq_true rfl) dX8_unlink_55 ⟨Nat.zero_le _, Nat.zero_le _⟩) hS (fun r_55 S_55 H locs hp_55 hP hS => ?_)
        obtain ⟨er_55, e9, hI_55⟩ := hp_55
        have eS_55 := e9.symm; clear e9
        have fr_55 : (0 : Int) ≤ r_55 ∧ r_55 ≤ 1 := by rw [er_55]; exact b2_b
        have k_55 : r_55 = 0 := er_55.trans (b2_f (by decide))
        refine zi_if_ne (tgt := 63) hx hb ⟨by omega, by omega⟩ dX8_unlink_58 (by decide) (fun c_58 => ?_) (fun c_58 => ?_)
        · exact absurd c_58 (by omega)
        · refine zi_iconst hx hb dX8_unlink_61 ?_
          exact zr_wi (T := S_55) hx hb hr hlocks dX8_unlink_62 hP hS (by exact ⟨pub_no hkk (by decide) (SM.rf) eS_55, hI_55⟩)
      · refine lv_aload_n hx hb dX8_unlink_41 rfl (lv_at hl 1 rfl) ?_
        refine lv_iload_n hx hb dX8_unlink_42 rfl (lv_at hl 2 rfl) ?_
        refine zk_r (zc_V (As := [.int (zi x0)]) (rest := [.ref (bd 0)]) ⟨hx, hb, hml, hown, hts⟩ (ct_X8_ownOf l D cI cZ cJ bd S hI x0 ⟨by omega, by omega⟩) (cwV 1 hts gX8_unlink_X8_ownOf rfl rfl rfl (by decide +kernel) ⟨Nat.le_of_ble_eq_true rfl, Nat.le_of_ble_eq_true rfl⟩) hK hP (q0 := 0) (ci := 8) rfl rfl rfl rfl hl.1 rfl (Nat.le_of_ble_eq_true rfl) dX8_unlink_43 ⟨Nat.zero_le _, Nat.zero_le _⟩) ?_
        refine zi_top (fun (r_43 : Int) (er_43 : r_43 = ownM S x0) => ?_)
        have fr_43 : (0 : Int) ≤ r_43 ∧ r_43 ≤ 60 := by rw [er_43]; exact by have h := cnt_b (fun j => S 10 j = x0) (S 6 0).toNat 0 0; have h2 : (0 : Int) ≤ S 6 0 ∧ S 6 0 ≤ 60 := hI 6 0; exact ⟨h.1, Int.le_trans h.2 (by omega)⟩
        refine zi_iconst hx hb dX8_unlink_46 ?_
        refine zi_icmp_ne (tgt := 54) hx hb ⟨by omega, by omega⟩ ⟨by decide, by decide⟩ dX8_unlink_47 (by decide) (fun c_47 => ?_) (fun c_47 => ?_)
        · refine zi_iconst hx hb dX8_unlink_54 ?_
          have hkk : (kM_unlink S x0 x1) = 0 := by rw [kM_unlink, cif_f (by omega), cif_f (by omega)]
          refine zk_wi (zc_V (As := [.int (zi 0)]) (rest := []) ⟨hx, hb, hml, hown, hts⟩ (ct_X8_can l D cI cZ cJ bd S hI hdis 0 ⟨by decide, by decide⟩ (by omega) (by omega)) (cwV 1 hts gX8_unlink_X8_can rfl rfl rfl (by decide +kernel) ⟨Nat.le_of_ble_eq_true rfl, Nat.le_of_ble_eq_true rfl⟩) hK hP (q0 := 0) (ci := 8) rfl rfl rfl rfl hl.1 rfl (Nat.le_of_ble_eq_true rfl) dX8_unlink_55 ⟨Nat.zero_le _, Nat.zero_le _⟩) hS (fun r_55 S_55 H locs hp_55 hP hS => ?_)
          obtain ⟨er_55, e9, hI_55⟩ := hp_55
          have eS_55 := e9.symm; clear e9
          have fr_55 : (0 : Int) ≤ r_55 ∧ r_55 ≤ 1 := by rw [er_55]; exact b2_b
          have k_55 : r_55 = 1 := er_55.trans (b2_t rfl)
          refine zi_if_ne (tgt := 63) hx hb ⟨by omega, by omega⟩ dX8_unlink_58 (by decide) (fun c_58 => ?_) (fun c_58 => ?_)
          · refine lv_aload_n hx hb dX8_unlink_63 rfl (lv_at hl 1 rfl) ?_
            refine va_get (D := D) (ci := 8) (v := .ref (bd 11)) (C := RX8) (T := TX8) (N := 32) hx hb hts in_X8_unlink_8 hown hK.1 hP 0 rfl rfl 10 (by decide) (hts _ lk_X8_unlink_31) (fun _ h9 => h9) rfl dX8_unlink_64 ?_
            refine lv_iload_n hx hb dX8_unlink_67 rfl (lv_at hl 3 rfl) ?_
            refine zi_iconst hx hb dX8_unlink_68 ?_
            refine zi_iast hx hb hK.1 hP (mW_D hdis _) hS 8 0 rfl rfl (by omega) (by omega) (by decide) dX8_unlink_69 (fun H locs hP hS => ?_)
            have hP : va_P D vwCl (mW cI cZ bd (su S_55 10 (up (S_55 10) x1 (-1)))) H := hP
            have hI_69 : MI (su S_55 10 (up (S_55 10) x1 (-1))) := MI.up hI_55 10 x1 (-1) (show (-1 : Int) ≤ (-1) ∧ (-1) ≤ 19 from ⟨by omega, by omega⟩)
            generalize eS_69 : su S_55 10 (up (S_55 10) x1 (-1)) = S_69 at hP hI_69
            refine lv_aload_n hx hb dX8_unlink_70 rfl (lv_at hl 1 rfl) ?_
            refine lv_iload_n hx hb dX8_unlink_71 rfl (lv_at hl 2 rfl) ?_
            refine zk_r (zc_V (As := [.int (zi x0)]) (rest := []) ⟨hx, hb, hml, hown, hts⟩ (ct_X8_ownOf l D cI cZ cJ bd S_69 hI_69 x0 ⟨by omega, by omega⟩) (cwV 1 hts gX8_unlink_X8_ownOf rfl rfl rfl (by decide +kernel) ⟨Nat.le_of_ble_eq_true rfl, Nat.le_of_ble_eq_true rfl⟩) hK hP (q0 := 0) (ci := 8) rfl rfl rfl rfl hl.1 rfl (Nat.le_of_ble_eq_true rfl) dX8_unlink_72 ⟨Nat.zero_le _, Nat.zero_le _⟩) ?_
            refine zi_top (fun (r_72 : Int) (er_72 : r_72 = ownM S_69 x0) => ?_)
            have fr_72 : (0 : Int) ≤ r_72 ∧ r_72 ≤ 60 := by rw [er_72]; exact by have h := cnt_b (fun j => S_69 10 j = x0) (S_69 6 0).toNat 0 0; have h2 : (0 : Int) ≤ S_69 6 0 ∧ S_69 6 0 ≤ 60 := hI_69 6 0; exact ⟨h.1, Int.le_trans h.2 (by omega)⟩
            exact zr_wi (T := S_69) hx hb hr hlocks dX8_unlink_75 hP hS (by exact ⟨pub_ok hkk (by rw [er_72, ← eS_69, ← eS_55]; rfl) (by rw [← eS_69, ← eS_55]; exact SM.rf), hI_69⟩)
          · exact absurd c_58 (by omega)
        · refine zi_iconst hx hb dX8_unlink_50 ?_
          refine lv_goto (tgt := 55) hx hb dX8_unlink_51 (by decide) ?_
          have hkk : (kM_unlink S x0 x1) = 2 := by rw [kM_unlink, cif_f (by omega), cif_t (by omega)]
          refine zk_wi (zc_V (As := [.int (zi 2)]) (rest := []) ⟨hx, hb, hml, hown, hts⟩ (ct_X8_can l D cI cZ cJ bd S hI hdis 2 ⟨by decide, by decide⟩ (by omega) (by omega)) (cwV 1 hts gX8_unlink_X8_can rfl rfl rfl (by decide +kernel) ⟨Nat.le_of_ble_eq_true rfl, Nat.le_of_ble_eq_true rfl⟩) hK hP (q0 := 0) (ci := 8) rfl rfl rfl rfl hl.1 rfl (Nat.le_of_ble_eq_true rfl) dX8_unlink_55 ⟨Nat.zero_le _, Nat.zero_le _⟩) hS (fun r_55 S_55 H locs hp_55 hP hS => ?_)
          obtain ⟨er_55, e9, hI_55⟩ := hp_55
          have eS_55 := e9.symm; clear e9
          have fr_55 : (0 : Int) ≤ r_55 ∧ r_55 ≤ 1 := by rw [er_55]; exact b2_b
          have k_55 : r_55 = 0 := er_55.trans (b2_f (by decide))
          refine zi_if_ne (tgt := 63) hx hb ⟨by omega, by omega⟩ dX8_unlink_58 (by decide) (fun c_58 => ?_) (fun c_58 => ?_)
          · exact absurd c_58 (by omega)
          · refine zi_iconst hx hb dX8_unlink_61 ?_
            exact zr_wi (T := S_55) hx hb hr hlocks dX8_unlink_62 hP hS (by exact ⟨pub_no hkk (by decide) (SM.rf) eS_55, hI_55⟩)
    · refine zi_iconst hx hb dX8_unlink_27 ?_
      refine lv_goto (tgt := 55) hx hb dX8_unlink_28 (by decide) ?_
      have hkk : (kM_unlink S x0 x1) = 1 := by rw [kM_unlink, cif_t (by omega)]
      refine zk_wi (zc_V (As := [.int (zi 1)]) (rest := []) ⟨hx, hb, hml, hown, hts⟩ (ct_X8_can l D cI cZ cJ bd S hI hdis 1 ⟨by decide, by decide⟩ (by omega) (by omega)) (cwV 1 hts gX8_unlink_X8_can rfl rfl rfl (by decide +kernel) ⟨Nat.le_of_ble_eq_true rfl, Nat.le_of_ble_eq_true rfl⟩) hK hP (q0 := 0) (ci := 8) rfl rfl rfl rfl hl.1 rfl (Nat.le_of_ble_eq_true rfl) dX8_unlink_55 ⟨Nat.zero_le _, Nat.zero_le _⟩) hS (fun r_55 S_55 H locs hp_55 hP hS => ?_)
      obtain ⟨er_55, e9, hI_55⟩ := hp_55
      have eS_55 := e9.symm; clear e9
      have fr_55 : (0 : Int) ≤ r_55 ∧ r_55 ≤ 1 := by rw [er_55]; exact b2_b
      have k_55 : r_55 = 0 := er_55.trans (b2_f (by decide))
      refine zi_if_ne (tgt := 63) hx hb ⟨by omega, by omega⟩ dX8_unlink_58 (by decide) (fun c_58 => ?_) (fun c_58 => ?_)
      · exact absurd c_58 (by omega)
      · refine zi_iconst hx hb dX8_unlink_61 ?_
        exact zr_wi (T := S_55) hx hb hr hlocks dX8_unlink_62 hP hS (by exact ⟨pub_no hkk (by decide) (SM.rf) eS_55, hI_55⟩)
  · refine lv_aload_n hx hb dX8_unlink_8 rfl (lv_at hl 0 rfl) ?_
    refine lv_iload_n hx hb dX8_unlink_9 rfl (lv_at hl 2 rfl) ?_
    refine zk_r (zc_V (As := [.int (zi x1)]) (rest := []) ⟨hx, hb, hml, hown, hts⟩ (ct_X8_isDot l D cI cZ cJ bd S hI x1 ⟨by omega, by omega⟩) (cwV 1 hts gX8_unlink_X8_isDot rfl rfl rfl (by decide +kernel) ⟨Nat.le_of_ble_eq_true rfl, Nat.le_of_ble_eq_true rfl⟩) hK hP (q0 := 0) (ci := 8) rfl rfl rfl rfl hl.1 rfl (Nat.le_of_ble_eq_true rfl) dX8_unlink_10 ⟨Nat.zero_le _, Nat.zero_le _⟩) ?_
    refine zi_top (fun (r_10 : Int) (er_10 : r_10 = b2 (0 ≤ x1 ∧ x1 < S 6 0)) => ?_)
    have fr_10 : (0 : Int) ≤ r_10 ∧ r_10 ≤ 1 := by rw [er_10]; exact b2_b
    have fr_101 : (r_10 = 1 ∧ (0 ≤ x1 ∧ x1 < S 6 0)) ∨ (r_10 = 0 ∧ ¬ (0 ≤ x1 ∧ x1 < S 6 0)) := by rw [er_10]; exact b2_or _
    refine zi_if_eq (tgt := 20) hx hb ⟨by omega, by omega⟩ dX8_unlink_13 (by decide) (fun c_13 => ?_) (fun c_13 => ?_)
    · refine zi_iconst hx hb dX8_unlink_20 ?_
      refine lv_istore_n (lv' := [(3, .int (zi 0)), (0, .ref (bd 0)), (1, .int (zi x0)), (2, .int (zi x1))]) hx hb dX8_unlink_21 rfl hl (by decide) rfl (fun ls hl => ?_)
      refine lv_aload_n hx hb dX8_unlink_22 rfl (lv_at hl 1 rfl) ?_
      refine lv_iload_n hx hb dX8_unlink_23 rfl (lv_at hl 0 rfl) ?_
      refine zi_if_ne (tgt := 31) hx hb ⟨by decide, by decide⟩ dX8_unlink_24 (by decide) (fun c_24 => ?_) (fun c_24 => ?_)
      · refine lv_aload_n hx hb dX8_unlink_31 rfl (lv_at hl 1 rfl) ?_
        refine va_get (D := D) (ci := 8) (v := .ref (bd 11)) (C := RX8) (T := TX8) (N := 32) hx hb hts in_X8_unlink_8 hown hK.1 hP 0 rfl rfl 10 (by decide) (hts _ lk_X8_unlink_31) (fun _ h9 => h9) rfl dX8_unlink_32 ?_
        refine lv_iload_n hx hb dX8_unlink_35 rfl (lv_at hl 3 rfl) ?_
        refine zi_iald hx hb hK.1 hP 8 0 rfl rfl (by omega) (by omega) (by decide) dX8_unlink_36 ?_
        have f_36 : (-1 : Int) ≤ S 10 x1 ∧ S 10 x1 ≤ 19 := hI 10 x1
        refine lv_iload_n hx hb dX8_unlink_37 rfl (lv_at hl 2 rfl) ?_
        refine zi_icmp_ne (tgt := 50) hx hb ⟨by omega, by omega⟩ ⟨by omega, by omega⟩ dX8_unlink_38 (by decide) (fun c_38 => ?_) (fun c_38 => ?_)
        · refine zi_iconst hx hb dX8_unlink_50 ?_
          refine lv_goto (tgt := 55) hx hb dX8_unlink_51 (by decide) ?_
          have hkk : (kM_unlink S x0 x1) = 2 := by rw [kM_unlink, cif_f (by omega), cif_t (by omega)]
          refine zk_wi (zc_V (As := [.int (zi 2)]) (rest := []) ⟨hx, hb, hml, hown, hts⟩ (ct_X8_can l D cI cZ cJ bd S hI hdis 2 ⟨by decide, by decide⟩ (by omega) (by omega)) (cwV 1 hts gX8_unlink_X8_can rfl rfl rfl (by decide +kernel) ⟨Nat.le_of_ble_eq_true rfl, Nat.le_of_ble_eq_true rfl⟩) hK hP (q0 := 0) (ci := 8) rfl rfl rfl rfl hl.1 rfl (Nat.le_of_ble_eq_true rfl) dX8_unlink_55 ⟨Nat.zero_le _, Nat.zero_le _⟩) hS (fun r_55 S_55 H locs hp_55 hP hS => ?_)
          obtain ⟨er_55, e9, hI_55⟩ := hp_55
          have eS_55 := e9.symm; clear e9
          have fr_55 : (0 : Int) ≤ r_55 ∧ r_55 ≤ 1 := by rw [er_55]; exact b2_b
          have k_55 : r_55 = 0 := er_55.trans (b2_f (by decide))
          refine zi_if_ne (tgt := 63) hx hb ⟨by omega, by omega⟩ dX8_unlink_58 (by decide) (fun c_58 => ?_) (fun c_58 => ?_)
          · exact absurd c_58 (by omega)
          · refine zi_iconst hx hb dX8_unlink_61 ?_
            exact zr_wi (T := S_55) hx hb hr hlocks dX8_unlink_62 hP hS (by exact ⟨pub_no hkk (by decide) (SM.rf) eS_55, hI_55⟩)
        · refine lv_aload_n hx hb dX8_unlink_41 rfl (lv_at hl 1 rfl) ?_
          refine lv_iload_n hx hb dX8_unlink_42 rfl (lv_at hl 2 rfl) ?_
          refine zk_r (zc_V (As := [.int (zi x0)]) (rest := [.ref (bd 0)]) ⟨hx, hb, hml, hown, hts⟩ (ct_X8_ownOf l D cI cZ cJ bd S hI x0 ⟨by omega, by omega⟩) (cwV 1 hts gX8_unlink_X8_ownOf rfl rfl rfl (by decide +kernel) ⟨Nat.le_of_ble_eq_true rfl, Nat.le_of_ble_eq_true rfl⟩) hK hP (q0 := 0) (ci := 8) rfl rfl rfl rfl hl.1 rfl (Nat.le_of_ble_eq_true rfl) dX8_unlink_43 ⟨Nat.zero_le _, Nat.zero_le _⟩) ?_
          refine zi_top (fun (r_43 : Int) (er_43 : r_43 = ownM S x0) => ?_)
          have fr_43 : (0 : Int) ≤ r_43 ∧ r_43 ≤ 60 := by rw [er_43]; exact by have h := cnt_b (fun j => S 10 j = x0) (S 6 0).toNat 0 0; have h2 : (0 : Int) ≤ S 6 0 ∧ S 6 0 ≤ 60 := hI 6 0; exact ⟨h.1, Int.le_trans h.2 (by omega)⟩
          refine zi_iconst hx hb dX8_unlink_46 ?_
          refine zi_icmp_ne (tgt := 54) hx hb ⟨by omega, by omega⟩ ⟨by decide, by decide⟩ dX8_unlink_47 (by decide) (fun c_47 => ?_) (fun c_47 => ?_)
          · refine zi_iconst hx hb dX8_unlink_54 ?_
            have hkk : (kM_unlink S x0 x1) = 0 := by rw [kM_unlink, cif_f (by omega), cif_f (by omega)]
            refine zk_wi (zc_V (As := [.int (zi 0)]) (rest := []) ⟨hx, hb, hml, hown, hts⟩ (ct_X8_can l D cI cZ cJ bd S hI hdis 0 ⟨by decide, by decide⟩ (by omega) (by omega)) (cwV 1 hts gX8_unlink_X8_can rfl rfl rfl (by decide +kernel) ⟨Nat.le_of_ble_eq_true rfl, Nat.le_of_ble_eq_true rfl⟩) hK hP (q0 := 0) (ci := 8) rfl rfl rfl rfl hl.1 rfl (Nat.le_of_ble_eq_true rfl) dX8_unlink_55 ⟨Nat.zero_le _, Nat.zero_le _⟩) hS (fun r_55 S_55 H locs hp_55 hP hS => ?_)
            obtain ⟨er_55, e9, hI_55⟩ := hp_55
            have eS_55 := e9.symm; clear e9
            have fr_55 : (0 : Int) ≤ r_55 ∧ r_55 ≤ 1 := by rw [er_55]; exact b2_b
            have k_55 : r_55 = 1 := er_55.trans (b2_t rfl)
            refine zi_if_ne (tgt := 63) hx hb ⟨by omega, by omega⟩ dX8_unlink_58 (by decide) (fun c_58 => ?_) (fun c_58 => ?_)
            · refine lv_aload_n hx hb dX8_unlink_63 rfl (lv_at hl 1 rfl) ?_
              refine va_get (D := D) (ci := 8) (v := .ref (bd 11)) (C := RX8) (T := TX8) (N := 32) hx hb hts in_X8_unlink_8 hown hK.1 hP 0 rfl rfl 10 (by decide) (hts _ lk_X8_unlink_31) (fun _ h9 => h9) rfl dX8_unlink_64 ?_
              refine lv_iload_n hx hb dX8_unlink_67 rfl (lv_at hl 3 rfl) ?_
              refine zi_iconst hx hb dX8_unlink_68 ?_
              refine zi_iast hx hb hK.1 hP (mW_D hdis _) hS 8 0 rfl rfl (by omega) (by omega) (by decide) dX8_unlink_69 (fun H locs hP hS => ?_)
              have hP : va_P D vwCl (mW cI cZ bd (su S_55 10 (up (S_55 10) x1 (-1)))) H := hP
              have hI_69 : MI (su S_55 10 (up (S_55 10) x1 (-1))) := MI.up hI_55 10 x1 (-1) (show (-1 : Int) ≤ (-1) ∧ (-1) ≤ 19 from ⟨by omega, by omega⟩)
              generalize eS_69 : su S_55 10 (up (S_55 10) x1 (-1)) = S_69 at hP hI_69
              refine lv_aload_n hx hb dX8_unlink_70 rfl (lv_at hl 1 rfl) ?_
              refine lv_iload_n hx hb dX8_unlink_71 rfl (lv_at hl 2 rfl) ?_
              refine zk_r (zc_V (As := [.int (zi x0)]) (rest := []) ⟨hx, hb, hml, hown, hts⟩ (ct_X8_ownOf l D cI cZ cJ bd S_69 hI_69 x0 ⟨by omega, by omega⟩) (cwV 1 hts gX8_unlink_X8_ownOf rfl rfl rfl (by decide +kernel) ⟨Nat.le_of_ble_eq_true rfl, Nat.le_of_ble_eq_true rfl⟩) hK hP (q0 := 0) (ci := 8) rfl rfl rfl rfl hl.1 rfl (Nat.le_of_ble_eq_true rfl) dX8_unlink_72 ⟨Nat.zero_le _, Nat.zero_le _⟩) ?_
              refine zi_top (fun (r_72 : Int) (er_72 : r_72 = ownM S_69 x0) => ?_)
              have fr_72 : (0 : Int) ≤ r_72 ∧ r_72 ≤ 60 := by rw [er_72]; exact by have h := cnt_b (fun j => S_69 10 j = x0) (S_69 6 0).toNat 0 0; have h2 : (0 : Int) ≤ S_69 6 0 ∧ S_69 6 0 ≤ 60 := hI_69 6 0; exact ⟨h.1, Int.le_trans h.2 (by omega)⟩
              exact zr_wi (T := S_69) hx hb hr hlocks dX8_unlink_75 hP hS (by exact ⟨pub_ok hkk (by rw [er_72, ← eS_69, ← eS_55]; rfl) (by rw [← eS_69, ← eS_55]; exact SM.rf), hI_69⟩)
            · exact absurd c_58 (by omega)
          · refine zi_iconst hx hb dX8_unlink_50 ?_
            refine lv_goto (tgt := 55) hx hb dX8_unlink_51 (by decide) ?_
            have hkk : (kM_unlink S x0 x1) = 2 := by rw [kM_unlink, cif_f (by omega), cif_t (by omega)]
            refine zk_wi (zc_V (As := [.int (zi 2)]) (rest := []) ⟨hx, hb, hml, hown, hts⟩ (ct_X8_can l D cI cZ cJ bd S hI hdis 2 ⟨by decide, by decide⟩ (by omega) (by omega)) (cwV 1 hts gX8_unlink_X8_can rfl rfl rfl (by decide +kernel) ⟨Nat.le_of_ble_eq_true rfl, Nat.le_of_ble_eq_true rfl⟩) hK hP (q0 := 0) (ci := 8) rfl rfl rfl rfl hl.1 rfl (Nat.le_of_ble_eq_true rfl) dX8_unlink_55 ⟨Nat.zero_le _, Nat.zero_le _⟩) hS (fun r_55 S_55 H locs hp_55 hP hS => ?_)
            obtain ⟨er_55, e9, hI_55⟩ := hp_55
            have eS_55 := e9.symm; clear e9
            have fr_55 : (0 : Int) ≤ r_55 ∧ r_55 ≤ 1 := by rw [er_55]; exact b2_b
            have k_55 : r_55 = 0 := er_55.trans (b2_f (by decide))
            refine zi_if_ne (tgt := 63) hx hb ⟨by omega, by omega⟩ dX8_unlink_58 (by decide) (fun c_58 => ?_) (fun c_58 => ?_)
            · exact absurd c_58 (by omega)
            · refine zi_iconst hx hb dX8_unlink_61 ?_
              exact zr_wi (T := S_55) hx hb hr hlocks dX8_unlink_62 hP hS (by exact ⟨pub_no hkk (by decide) (SM.rf) eS_55, hI_55⟩)
      · refine zi_iconst hx hb dX8_unlink_27 ?_
        refine lv_goto (tgt := 55) hx hb dX8_unlink_28 (by decide) ?_
        have hkk : (kM_unlink S x0 x1) = 1 := by rw [kM_unlink, cif_t (by omega)]
        refine zk_wi (zc_V (As := [.int (zi 1)]) (rest := []) ⟨hx, hb, hml, hown, hts⟩ (ct_X8_can l D cI cZ cJ bd S hI hdis 1 ⟨by decide, by decide⟩ (by omega) (by omega)) (cwV 1 hts gX8_unlink_X8_can rfl rfl rfl (by decide +kernel) ⟨Nat.le_of_ble_eq_true rfl, Nat.le_of_ble_eq_true rfl⟩) hK hP (q0 := 0) (ci := 8) rfl rfl rfl rfl hl.1 rfl (Nat.le_of_ble_eq_true rfl) dX8_unlink_55 ⟨Nat.zero_le _, Nat.zero_le _⟩) hS (fun r_55 S_55 H locs hp_55 hP hS => ?_)
        obtain ⟨er_55, e9, hI_55⟩ := hp_55
        have eS_55 := e9.symm; clear e9
        have fr_55 : (0 : Int) ≤ r_55 ∧ r_55 ≤ 1 := by rw [er_55]; exact b2_b
        have k_55 : r_55 = 0 := er_55.trans (b2_f (by decide))
        refine zi_if_ne (tgt := 63) hx hb ⟨by omega, by omega⟩ dX8_unlink_58 (by decide) (fun c_58 => ?_) (fun c_58 => ?_)
        · exact absurd c_58 (by omega)
        · refine zi_iconst hx hb dX8_unlink_61 ?_
          exact zr_wi (T := S_55) hx hb hr hlocks dX8_unlink_62 hP hS (by exact ⟨pub_no hkk (by decide) (SM.rf) eS_55, hI_55⟩)
    · refine zi_iconst hx hb dX8_unlink_16 ?_
      refine lv_goto (tgt := 21) hx hb dX8_unlink_17 (by decide) ?_
      refine lv_istore_n (lv' := [(3, .int (zi 1)), (0, .ref (bd 0)), (1, .int (zi x0)), (2, .int (zi x1))]) hx hb dX8_unlink_21 rfl hl (by decide) rfl (fun ls hl => ?_)
      refine lv_aload_n hx hb dX8_unlink_22 rfl (lv_at hl 1 rfl) ?_
      refine lv_iload_n hx hb dX8_unlink_23 rfl (lv_at hl 0 rfl) ?_
      refine zi_if_ne (tgt := 31) hx hb ⟨by decide, by decide⟩ dX8_unlink_24 (by decide) (fun c_24 => ?_) (fun c_24 => ?_)
      · refine lv_aload_n hx hb dX8_unlink_31 rfl (lv_at hl 1 rfl) ?_
        refine va_get (D := D) (ci := 8) (v := .ref (bd 11)) (C := RX8) (T := TX8) (N := 32) hx hb hts in_X8_unlink_8 hown hK.1 hP 0 rfl rfl 10 (by decide) (hts _ lk_X8_unlink_31) (fun _ h9 => h9) rfl dX8_unlink_32 ?_
        refine lv_iload_n hx hb dX8_unlink_35 rfl (lv_at hl 3 rfl) ?_
        refine zi_iald hx hb hK.1 hP 8 0 rfl rfl (by omega) (by omega) (by decide) dX8_unlink_36 ?_
        have f_36 : (-1 : Int) ≤ S 10 x1 ∧ S 10 x1 ≤ 19 := hI 10 x1
        refine lv_iload_n hx hb dX8_unlink_37 rfl (lv_at hl 2 rfl) ?_
        refine zi_icmp_ne (tgt := 50) hx hb ⟨by omega, by omega⟩ ⟨by omega, by omega⟩ dX8_unlink_38 (by decide) (fun c_38 => ?_) (fun c_38 => ?_)
        · refine zi_iconst hx hb dX8_unlink_50 ?_
          refine lv_goto (tgt := 55) hx hb dX8_unlink_51 (by decide) ?_
          have hkk : (kM_unlink S x0 x1) = 2 := by rw [kM_unlink, cif_f (by omega), cif_t (by omega)]
          refine zk_wi (zc_V (As := [.int (zi 2)]) (rest := []) ⟨hx, hb, hml, hown, hts⟩ (ct_X8_can l D cI cZ cJ bd S hI hdis 2 ⟨by decide, by decide⟩ (by omega) (by omega)) (cwV 1 hts gX8_unlink_X8_can rfl rfl rfl (by decide +kernel) ⟨Nat.le_of_ble_eq_true rfl, Nat.le_of_ble_eq_true rfl⟩) hK hP (q0 := 0) (ci := 8) rfl rfl rfl rfl hl.1 rfl (Nat.le_of_ble_eq_true rfl) dX8_unlink_55 ⟨Nat.zero_le _, Nat.zero_le _⟩) hS (fun r_55 S_55 H locs hp_55 hP hS => ?_)
          obtain ⟨er_55, e9, hI_55⟩ := hp_55
          have eS_55 := e9.symm; clear e9
          have fr_55 : (0 : Int) ≤ r_55 ∧ r_55 ≤ 1 := by rw [er_55]; exact b2_b
          have k_55 : r_55 = 0 := er_55.trans (b2_f (by decide))
          refine zi_if_ne (tgt := 63) hx hb ⟨by omega, by omega⟩ dX8_unlink_58 (by decide) (fun c_58 => ?_) (fun c_58 => ?_)
          · exact absurd c_58 (by omega)
          · refine zi_iconst hx hb dX8_unlink_61 ?_
            exact zr_wi (T := S_55) hx hb hr hlocks dX8_unlink_62 hP hS (by exact ⟨pub_no hkk (by decide) (SM.rf) eS_55, hI_55⟩)
        · refine lv_aload_n hx hb dX8_unlink_41 rfl (lv_at hl 1 rfl) ?_
          refine lv_iload_n hx hb dX8_unlink_42 rfl (lv_at hl 2 rfl) ?_
          refine zk_r (zc_V (As := [.int (zi x0)]) (rest := [.ref (bd 0)]) ⟨hx, hb, hml, hown, hts⟩ (ct_X8_ownOf l D cI cZ cJ bd S hI x0 ⟨by omega, by omega⟩) (cwV 1 hts gX8_unlink_X8_ownOf rfl rfl rfl (by decide +kernel) ⟨Nat.le_of_ble_eq_true rfl, Nat.le_of_ble_eq_true rfl⟩) hK hP (q0 := 0) (ci := 8) rfl rfl rfl rfl hl.1 rfl (Nat.le_of_ble_eq_true rfl) dX8_unlink_43 ⟨Nat.zero_le _, Nat.zero_le _⟩) ?_
          refine zi_top (fun (r_43 : Int) (er_43 : r_43 = ownM S x0) => ?_)
          have fr_43 : (0 : Int) ≤ r_43 ∧ r_43 ≤ 60 := by rw [er_43]; exact by have h := cnt_b (fun j => S 10 j = x0) (S 6 0).toNat 0 0; have h2 : (0 : Int) ≤ S 6 0 ∧ S 6 0 ≤ 60 := hI 6 0; exact ⟨h.1, Int.le_trans h.2 (by omega)⟩
          refine zi_iconst hx hb dX8_unlink_46 ?_
          refine zi_icmp_ne (tgt := 54) hx hb ⟨by omega, by omega⟩ ⟨by decide, by decide⟩ dX8_unlink_47 (by decide) (fun c_47 => ?_) (fun c_47 => ?_)
          · refine zi_iconst hx hb dX8_unlink_54 ?_
            have hkk : (kM_unlink S x0 x1) = 0 := by rw [kM_unlink, cif_f (by omega), cif_f (by omega)]
            refine zk_wi (zc_V (As := [.int (zi 0)]) (rest := []) ⟨hx, hb, hml, hown, hts⟩ (ct_X8_can l D cI cZ cJ bd S hI hdis 0 ⟨by decide, by decide⟩ (by omega) (by omega)) (cwV 1 hts gX8_unlink_X8_can rfl rfl rfl (by decide +kernel) ⟨Nat.le_of_ble_eq_true rfl, Nat.le_of_ble_eq_true rfl⟩) hK hP (q0 := 0) (ci := 8) rfl rfl rfl rfl hl.1 rfl (Nat.le_of_ble_eq_true rfl) dX8_unlink_55 ⟨Nat.zero_le _, Nat.zero_le _⟩) hS (fun r_55 S_55 H locs hp_55 hP hS => ?_)
            obtain ⟨er_55, e9, hI_55⟩ := hp_55
            have eS_55 := e9.symm; clear e9
            have fr_55 : (0 : Int) ≤ r_55 ∧ r_55 ≤ 1 := by rw [er_55]; exact b2_b
            have k_55 : r_55 = 1 := er_55.trans (b2_t rfl)
            refine zi_if_ne (tgt := 63) hx hb ⟨by omega, by omega⟩ dX8_unlink_58 (by decide) (fun c_58 => ?_) (fun c_58 => ?_)
            · refine lv_aload_n hx hb dX8_unlink_63 rfl (lv_at hl 1 rfl) ?_
              refine va_get (D := D) (ci := 8) (v := .ref (bd 11)) (C := RX8) (T := TX8) (N := 32) hx hb hts in_X8_unlink_8 hown hK.1 hP 0 rfl rfl 10 (by decide) (hts _ lk_X8_unlink_31) (fun _ h9 => h9) rfl dX8_unlink_64 ?_
              refine lv_iload_n hx hb dX8_unlink_67 rfl (lv_at hl 3 rfl) ?_
              refine zi_iconst hx hb dX8_unlink_68 ?_
              refine zi_iast hx hb hK.1 hP (mW_D hdis _) hS 8 0 rfl rfl (by omega) (by omega) (by decide) dX8_unlink_69 (fun H locs hP hS => ?_)
              have hP : va_P D vwCl (mW cI cZ bd (su S_55 10 (up (S_55 10) x1 (-1)))) H := hP
              have hI_69 : MI (su S_55 10 (up (S_55 10) x1 (-1))) := MI.up hI_55 10 x1 (-1) (show (-1 : Int) ≤ (-1) ∧ (-1) ≤ 19 from ⟨by omega, by omega⟩)
              generalize eS_69 : su S_55 10 (up (S_55 10) x1 (-1)) = S_69 at hP hI_69
              refine lv_aload_n hx hb dX8_unlink_70 rfl (lv_at hl 1 rfl) ?_
              refine lv_iload_n hx hb dX8_unlink_71 rfl (lv_at hl 2 rfl) ?_
              refine zk_r (zc_V (As := [.int (zi x0)]) (rest := []) ⟨hx, hb, hml, hown, hts⟩ (ct_X8_ownOf l D cI cZ cJ bd S_69 hI_69 x0 ⟨by omega, by omega⟩) (cwV 1 hts gX8_unlink_X8_ownOf rfl rfl rfl (by decide +kernel) ⟨Nat.le_of_ble_eq_true rfl, Nat.le_of_ble_eq_true rfl⟩) hK hP (q0 := 0) (ci := 8) rfl rfl rfl rfl hl.1 rfl (Nat.le_of_ble_eq_true rfl) dX8_unlink_72 ⟨Nat.zero_le _, Nat.zero_le _⟩) ?_
              refine zi_top (fun (r_72 : Int) (er_72 : r_72 = ownM S_69 x0) => ?_)
              have fr_72 : (0 : Int) ≤ r_72 ∧ r_72 ≤ 60 := by rw [er_72]; exact by have h := cnt_b (fun j => S_69 10 j = x0) (S_69 6 0).toNat 0 0; have h2 : (0 : Int) ≤ S_69 6 0 ∧ S_69 6 0 ≤ 60 := hI_69 6 0; exact ⟨h.1, Int.le_trans h.2 (by omega)⟩
              exact zr_wi (T := S_69) hx hb hr hlocks dX8_unlink_75 hP hS (by exact ⟨pub_ok hkk (by rw [er_72, ← eS_69, ← eS_55]; rfl) (by rw [← eS_69, ← eS_55]; exact SM.rf), hI_69⟩)
            · exact absurd c_58 (by omega)
          · refine zi_iconst hx hb dX8_unlink_50 ?_
            refine lv_goto (tgt := 55) hx hb dX8_unlink_51 (by decide) ?_
            have hkk : (kM_unlink S x0 x1) = 2 := by rw [kM_unlink, cif_f (by omega), cif_t (by omega)]
            refine zk_wi (zc_V (As := [.int (zi 2)]) (rest := []) ⟨hx, hb, hml, hown, hts⟩ (ct_X8_can l D cI cZ cJ bd S hI hdis 2 ⟨by decide, by decide⟩ (by omega) (by omega)) (cwV 1 hts gX8_unlink_X8_can rfl rfl rfl (by decide +kernel) ⟨Nat.le_of_ble_eq_true rfl, Nat.le_of_ble_eq_true rfl⟩) hK hP (q0 := 0) (ci := 8) rfl rfl rfl rfl hl.1 rfl (Nat.le_of_ble_eq_true rfl) dX8_unlink_55 ⟨Nat.zero_le _, Nat.zero_le _⟩) hS (fun r_55 S_55 H locs hp_55 hP hS => ?_)
            obtain ⟨er_55, e9, hI_55⟩ := hp_55
            have eS_55 := e9.symm; clear e9
            have fr_55 : (0 : Int) ≤ r_55 ∧ r_55 ≤ 1 := by rw [er_55]; exact b2_b
            have k_55 : r_55 = 0 := er_55.trans (b2_f (by decide))
            refine zi_if_ne (tgt := 63) hx hb ⟨by omega, by omega⟩ dX8_unlink_58 (by decide) (fun c_58 => ?_) (fun c_58 => ?_)
            · exact absurd c_58 (by omega)
            · refine zi_iconst hx hb dX8_unlink_61 ?_
              exact zr_wi (T := S_55) hx hb hr hlocks dX8_unlink_62 hP hS (by exact ⟨pub_no hkk (by decide) (SM.rf) eS_55, hI_55⟩)
      · refine zi_iconst hx hb dX8_unlink_27 ?_
        refine lv_goto (tgt := 55) hx hb dX8_unlink_28 (by decide) ?_
        have hkk : (kM_unlink S x0 x1) = 1 := by rw [kM_unlink, cif_t (by omega)]
        refine zk_wi (zc_V (As := [.int (zi 1)]) (rest := []) ⟨hx, hb, hml, hown, hts⟩ (ct_X8_can l D cI cZ cJ bd S hI hdis 1 ⟨by decide, by decide⟩ (by omega) (by omega)) (cwV 1 hts gX8_unlink_X8_can rfl rfl rfl (by decide +kernel) ⟨Nat.le_of_ble_eq_true rfl, Nat.le_of_ble_eq_true rfl⟩) hK hP (q0 := 0) (ci := 8) rfl rfl rfl rfl hl.1 rfl (Nat.le_of_ble_eq_true rfl) dX8_unlink_55 ⟨Nat.zero_le _, Nat.zero_le _⟩) hS (fun r_55 S_55 H locs hp_55 hP hS => ?_)
        obtain ⟨er_55, e9, hI_55⟩ := hp_55
        have eS_55 := e9.symm; clear e9
        have fr_55 : (0 : Int) ≤ r_55 ∧ r_55 ≤ 1 := by rw [er_55]; exact b2_b
        have k_55 : r_55 = 0 := er_55.trans (b2_f (by decide))
        refine zi_if_ne (tgt := 63) hx hb ⟨by omega, by omega⟩ dX8_unlink_58 (by decide) (fun c_58 => ?_) (fun c_58 => ?_)
        · exact absurd c_58 (by omega)
        · refine zi_iconst hx hb dX8_unlink_61 ?_
          exact zr_wi (T := S_55) hx hb hr hlocks dX8_unlink_62 hP hS (by exact ⟨pub_no hkk (by decide) (SM.rf) eS_55, hI_55⟩)

