theorem ci42_L_owner : Cond.constant RL 42 10800000 ∈ wsL_owner := by decide +kernel
abbrev rmct_L_owner : Room := { frames := 0, cells := 0, slots := 0, locals := 0 }
set_option maxHeartbeats 4000000 in
set_option maxRecDepth 100000 in
theorem ct_L_owner (l : Launch) (D : va_G) (cI cZ cJ : ClassId) (ld : Nat → Nat) (L M : ZS) (hG : GL L M) (x0 : Int) (hx0 : ir x0) (hk0 : 0 ≤ x0 ∧ x0 < 40) : Met l yL_owner wsL_owner rmct_L_owner (zP D cI cZ cJ (lW cI ld L) [.ref (ld 0), .int (zi x0)]) (k2_QcV (.int (zi (M 10 x0)))) 0 0 (fun _ => False) := by
  refine Met.ofW (cc := cL_owner) (maxL := 2) (ret := (some .int)) (by decide) rfl ?_
  intro p e s m args below meth c s₁ B hml hv
  obtain ⟨rfl, hP, hK⟩ := hv
  have hx := B.exec
  have hb := B.bytes
  have hr := B.returns
  have hts := atoms_spec (ws := wsL_owner) B.pre
  have hown : s.vm.findClass RL = some m.cls := findClass_of_methodNamed B.named
  have hlocks := B.notSynchronized
  have hl := lv_entry ([.ref (ld 0), .int (zi x0)]) (n := 2) (Nat.le_of_ble_eq_true rfl)
  rw [lg_entry_eq]
  generalize (lg_sl ([.ref (ld 0), .int (zi x0)]) ++ List.replicate (2 - (lg_sl ([.ref (ld 0), .int (zi x0)])).length) Slot.unset).toArray = ls at hl ⊢
  have hl : lv_has ls 2 [(0, .ref (ld 0)), (1, .int (zi x0))] := hl
  show W p l e rmct_L_owner s m ([.ref (ld 0), .int (zi x0)] : List Value).toArray below meth c s.heap [] 0 0 (MQ below (k2_QcV (.int (zi (M 10 x0)))) ([.ref (ld 0), .int (zi x0)] : List Value).toArray s 0 0 (fun _ => False)) (F0 m 0 ls [])
  refine lv_aload_n hx hb dL_owner_0 rfl (lv_at hl 0 rfl) ?_
  refine lv_iload_n hx hb dL_owner_1 rfl (lv_at hl 1 rfl) ?_
  refine zi_iald hx hb hK.1 hP 0 0 rfl rfl (by omega) (by omega) (by decide) dL_owner_2 ?_
  have q_2 := GL.d hG (k := x0) (by omega) (by omega)
  refine lv_ldc (v := zi 10800000) hx hb hown (hts _ ci42_L_owner) dL_owner_3 ?_
  refine zi_idiv hx hb ⟨by omega, by omega⟩ ⟨by omega, by omega⟩ (by omega) (by omega) dL_owner_5 ?_
  refine zi_iconst hx hb dL_owner_6 ?_
  refine zi_isub hx hb dL_owner_7 ?_
  exact zr_i hx hb hr hlocks dL_owner_8 (by omega)

theorem ci43_L_lightOf : Cond.constant RL 43 108000 ∈ wsL_lightOf := by decide +kernel
abbrev rmct_L_lightOf : Room := { frames := 0, cells := 0, slots := 0, locals := 0 }
set_option maxHeartbeats 4000000 in
set_option maxRecDepth 100000 in
theorem ct_L_lightOf (l : Launch) (D : va_G) (cI cZ cJ : ClassId) (ld : Nat → Nat) (L M : ZS) (hG : GL L M) (x0 : Int) (hx0 : ir x0) (hk0 : 0 ≤ x0 ∧ x0 < 40) : Met l yL_lightOf wsL_lightOf rmct_L_lightOf (zP D cI cZ cJ (lW cI ld L) [.ref (ld 0), .int (zi x0)]) (k2_QcV (.int (zi (M 9 x0)))) 0 0 (fun _ => False) := by
  refine Met.ofW (cc := cL_lightOf) (maxL := 2) (ret := (some .int)) (by decide) rfl ?_
  intro p e s m args below meth c s₁ B hml hv
  obtain ⟨rfl, hP, hK⟩ := hv
  have hx := B.exec
  have hb := B.bytes
  have hr := B.returns
  have hts := atoms_spec (ws := wsL_lightOf) B.pre
  have hown : s.vm.findClass RL = some m.cls := findClass_of_methodNamed B.named
  have hlocks := B.notSynchronized
  have hl := lv_entry ([.ref (ld 0), .int (zi x0)]) (n := 2) (Nat.le_of_ble_eq_true rfl)
  rw [lg_entry_eq]
  generalize (lg_sl ([.ref (ld 0), .int (zi x0)]) ++ List.replicate (2 - (lg_sl ([.ref (ld 0), .int (zi x0)])).length) Slot.unset).toArray = ls at hl ⊢
  have hl : lv_has ls 2 [(0, .ref (ld 0)), (1, .int (zi x0))] := hl
  show W p l e rmct_L_lightOf s m ([.ref (ld 0), .int (zi x0)] : List Value).toArray below meth c s.heap [] 0 0 (MQ below (k2_QcV (.int (zi (M 9 x0)))) ([.ref (ld 0), .int (zi x0)] : List Value).toArray s 0 0 (fun _ => False)) (F0 m 0 ls [])
  refine lv_aload_n hx hb dL_lightOf_0 rfl (lv_at hl 0 rfl) ?_
  refine lv_iload_n hx hb dL_lightOf_1 rfl (lv_at hl 1 rfl) ?_
  refine zi_iald hx hb hK.1 hP 0 0 rfl rfl (by omega) (by omega) (by decide) dL_lightOf_2 ?_
  have q_2 := GL.d hG (k := x0) (by omega) (by omega)
  refine lv_ldc (v := zi 108000) hx hb hown (hts _ ci43_L_lightOf) dL_lightOf_3 ?_
  refine zi_idiv hx hb ⟨by omega, by omega⟩ ⟨by omega, by omega⟩ (by omega) (by omega) dL_lightOf_5 ?_
  refine zi_bipush hx hb dL_lightOf_6 (by decide) ?_
  refine zi_irem hx hb ⟨by omega, by omega⟩ ⟨by omega, by omega⟩ (by omega) (by omega) dL_lightOf_8 ?_
  exact zr_i hx hb hr hlocks dL_lightOf_9 (by omega)

abbrev rmct_L_plateOf : Room := { frames := 0, cells := 0, slots := 0, locals := 0 }
set_option maxHeartbeats 4000000 in
set_option maxRecDepth 100000 in
theorem ct_L_plateOf (l : Launch) (D : va_G) (cI cZ cJ : ClassId) (ld : Nat → Nat) (L M : ZS) (hG : GL L M) (x0 : Int) (hx0 : ir x0) (hk0 : 0 ≤ x0 ∧ x0 < 40) : Met l yL_plateOf wsL_plateOf rmct_L_plateOf (zP D cI cZ cJ (lW cI ld L) [.ref (ld 0), .int (zi x0)]) (k2_QcV (.int (zi (M 7 x0)))) 0 0 (fun _ => False) := by
  refine Met.ofW (cc := cL_plateOf) (maxL := 2) (ret := (some .int)) (by decide) rfl ?_
  intro p e s m args below meth c s₁ B hml hv
  obtain ⟨rfl, hP, hK⟩ := hv
  have hx := B.exec
  have hb := B.bytes
  have hr := B.returns
  have hts := atoms_spec (ws := wsL_plateOf) B.pre
  have hown : s.vm.findClass RL = some m.cls := findClass_of_methodNamed B.named
  have hlocks := B.notSynchronized
  have hl := lv_entry ([.ref (ld 0), .int (zi x0)]) (n := 2) (Nat.le_of_ble_eq_true rfl)
  rw [lg_entry_eq]
  generalize (lg_sl ([.ref (ld 0), .int (zi x0)]) ++ List.replicate (2 - (lg_sl ([.ref (ld 0), .int (zi x0)])).length) Slot.unset).toArray = ls at hl ⊢
  have hl : lv_has ls 2 [(0, .ref (ld 0)), (1, .int (zi x0))] := hl
  show W p l e rmct_L_plateOf s m ([.ref (ld 0), .int (zi x0)] : List Value).toArray below meth c s.heap [] 0 0 (MQ below (k2_QcV (.int (zi (M 7 x0)))) ([.ref (ld 0), .int (zi x0)] : List Value).toArray s 0 0 (fun _ => False)) (F0 m 0 ls [])
  refine lv_aload_n hx hb dL_plateOf_0 rfl (lv_at hl 0 rfl) ?_
  refine lv_iload_n hx hb dL_plateOf_1 rfl (lv_at hl 1 rfl) ?_
  refine zi_iald hx hb hK.1 hP 0 0 rfl rfl (by omega) (by omega) (by decide) dL_plateOf_2 ?_
  have q_2 := GL.d hG (k := x0) (by omega) (by omega)
  refine zi_sipush hx hb dL_plateOf_3 (by decide) ?_
  refine zi_idiv hx hb ⟨by omega, by omega⟩ ⟨by omega, by omega⟩ (by omega) (by omega) dL_plateOf_6 ?_
  refine zi_bipush hx hb dL_plateOf_7 (by decide) ?_
  refine zi_irem hx hb ⟨by omega, by omega⟩ ⟨by omega, by omega⟩ (by omega) (by omega) dL_plateOf_9 ?_
  exact zr_i hx hb hr hlocks dL_plateOf_10 (by omega)

abbrev rmct_L_placeOf : Room := { frames := 0, cells := 0, slots := 0, locals := 0 }
set_option maxHeartbeats 4000000 in
set_option maxRecDepth 100000 in
theorem ct_L_placeOf (l : Launch) (D : va_G) (cI cZ cJ : ClassId) (ld : Nat → Nat) (L M : ZS) (hG : GL L M) (x0 : Int) (hx0 : ir x0) (hk0 : 0 ≤ x0 ∧ x0 < 40) : Met l yL_placeOf wsL_placeOf rmct_L_placeOf (zP D cI cZ cJ (lW cI ld L) [.ref (ld 0), .ref (ld 2), .int (zi x0)]) (k2_QcV (.int (zi (tM M x0)))) 0 0 (fun _ => False) := by
  refine Met.ofW (cc := cL_placeOf) (maxL := 4) (ret := (some .int)) (by decide) rfl ?_
  intro p e s m args below meth c s₁ B hml hv
  obtain ⟨rfl, hP, hK⟩ := hv
  have hx := B.exec
  have hb := B.bytes
  have hr := B.returns
  have hts := atoms_spec (ws := wsL_placeOf) B.pre
  have hown : s.vm.findClass RL = some m.cls := findClass_of_methodNamed B.named
  have hlocks := B.notSynchronized
  have hl := lv_entry ([.ref (ld 0), .ref (ld 2), .int (zi x0)]) (n := 4) (Nat.le_of_ble_eq_true rfl)
  rw [lg_entry_eq]
  generalize (lg_sl ([.ref (ld 0), .ref (ld 2), .int (zi x0)]) ++ List.replicate (4 - (lg_sl ([.ref (ld 0), .ref (ld 2), .int (zi x0)])).length) Slot.unset).toArray = ls at hl ⊢
  have hl : lv_has ls 4 [(0, .ref (ld 0)), (1, .ref (ld 2)), (2, .int (zi x0))] := hl
  show W p l e rmct_L_placeOf s m ([.ref (ld 0), .ref (ld 2), .int (zi x0)] : List Value).toArray below meth c s.heap [] 0 0 (MQ below (k2_QcV (.int (zi (tM M x0)))) ([.ref (ld 0), .ref (ld 2), .int (zi x0)] : List Value).toArray s 0 0 (fun _ => False)) (F0 m 0 ls [])
  refine lv_aload_n hx hb dL_placeOf_0 rfl (lv_at hl 0 rfl) ?_
  refine lv_iload_n hx hb dL_placeOf_1 rfl (lv_at hl 2 rfl) ?_
  refine zi_iald hx hb hK.1 hP 0 0 rfl rfl (by omega) (by omega) (by decide) dL_placeOf_2 ?_
  have q_2 := GL.d hG (k := x0) (by omega) (by omega)
  refine zi_sipush hx hb dL_placeOf_3 (by decide) ?_
  refine zi_irem hx hb ⟨by omega, by omega⟩ ⟨by omega, by omega⟩ (by omega) (by omega) dL_placeOf_6 ?_
  refine zi_top (fun x3_7 ex3_7 => ?_)
  refine lv_istore_n (lv' := [(3, .int (zi x3_7)), (0, .ref (ld 0)), (1, .ref (ld 2)), (2, .int (zi x0))]) hx hb dL_placeOf_7 rfl hl (by decide) rfl (fun ls hl => ?_)
  have e9 : x3_7 = M 8 x0 := by omega
  refine lv_iload_n hx hb dL_placeOf_8 rfl (lv_at hl 0 rfl) ?_
  refine lv_aload_n hx hb dL_placeOf_9 rfl (lv_at hl 2 rfl) ?_
  refine lv_iload_n hx hb dL_placeOf_10 rfl (lv_at hl 0 rfl) ?_
  refine zi_sipush hx hb dL_placeOf_11 (by decide) ?_
  refine zi_idiv hx hb ⟨by omega, by omega⟩ ⟨by omega, by omega⟩ (by omega) (by omega) dL_placeOf_14 ?_
  refine zi_iald hx hb hK.1 hP 2 0 rfl rfl (by omega) (by omega) (by decide) dL_placeOf_15 ?_
  have q_15 := GL.z hG (k := x3_7 / 400) (by omega) (by omega)
  refine zi_iadd hx hb dL_placeOf_16 ?_
  refine zi_sipush hx hb dL_placeOf_17 (by decide) ?_
  refine zi_iadd hx hb dL_placeOf_20 ?_
  refine zi_sipush hx hb dL_placeOf_21 (by decide) ?_
  refine zi_irem hx hb ⟨by omega, by omega⟩ ⟨by omega, by omega⟩ (by omega) (by omega) dL_placeOf_24 ?_
  exact zr_i hx hb hr hlocks dL_placeOf_25 (by unfold tM; rw [← e9]; omega)

abbrev rmct_L_nightOf : Room := { frames := 1, cells := 0, slots := 0, locals := 21 }
set_option maxHeartbeats 4000000 in
set_option maxRecDepth 100000 in
theorem ct_L_nightOf (l : Launch) (D : va_G) (cI cZ cJ : ClassId) (ld : Nat → Nat) (L M : ZS) (hG : GL L M) (x0 : Int) (hx0 : ir x0) (hk0 : 0 ≤ x0 ∧ x0 < 40) : Met l yL_nightOf wsL_nightOf rmct_L_nightOf (zP D cI cZ cJ (lW cI ld L) [.ref (ld 0), .ref (ld 1), .int (zi x0)]) (k2_QcV (.int (zi (nM M x0)))) 0 0 (fun _ => False) := by
  refine Met.ofW (cc := cL_nightOf) (maxL := 3) (ret := (some .int)) (by decide) rfl ?_
  intro p e s m args below meth c s₁ B hml hv
  obtain ⟨rfl, hP, hK⟩ := hv
  have hx := B.exec
  have hb := B.bytes
  have hr := B.returns
  have hts := atoms_spec (ws := wsL_nightOf) B.pre
  have hown : s.vm.findClass RL = some m.cls := findClass_of_methodNamed B.named
  have hlocks := B.notSynchronized
  have hl := lv_entry ([.ref (ld 0), .ref (ld 1), .int (zi x0)]) (n := 3) (Nat.le_of_ble_eq_true rfl)
  rw [lg_entry_eq]
  generalize (lg_sl ([.ref (ld 0), .ref (ld 1), .int (zi x0)]) ++ List.replicate (3 - (lg_sl ([.ref (ld 0), .ref (ld 1), .int (zi x0)])).length) Slot.unset).toArray = ls at hl ⊢
  have hl : lv_has ls 3 [(0, .ref (ld 0)), (1, .ref (ld 1)), (2, .int (zi x0))] := hl
  show W p l e rmct_L_nightOf s m ([.ref (ld 0), .ref (ld 1), .int (zi x0)] : List Value).toArray below meth c s.heap [] 0 0 (MQ below (k2_QcV (.int (zi (nM M x0)))) ([.ref (ld 0), .ref (ld 1), .int (zi x0)] : List Value).toArray s 0 0 (fun _ => False)) (F0 m 0 ls [])
  refine lv_aload_n hx hb dL_nightOf_0 rfl (lv_at hl 1 rfl) ?_
  refine lv_aload_n hx hb dL_nightOf_1 rfl (lv_at hl 0 rfl) ?_
  refine lv_iload_n hx hb dL_nightOf_2 rfl (lv_at hl 2 rfl) ?_
  refine zk_r (zc_S (As := [.ref (ld 0), .int (zi x0)]) (rest := [.ref (ld 1)]) ⟨hx, hb, hml, hown, hts⟩ (ct_L_plateOf l D cI cZ cJ ld L M hG x0 ⟨by omega, by omega⟩ ⟨by omega, by omega⟩) (va_cwS 2 hts gL_nightOf_L_plateOf rfl rfl rfl (by decide +kernel) ⟨Nat.le_of_ble_eq_true rfl, Nat.le_of_ble_eq_true rfl⟩) hK hP rfl hl.1 rfl (Nat.le_of_ble_eq_true rfl) dL_nightOf_3 ⟨Nat.zero_le _, Nat.zero_le _⟩) ?_
  refine zi_top (fun (r_3 : Int) (er_3 : r_3 = M 7 x0) => ?_)
  have fr_3 : (0 : Int) ≤ r_3 ∧ r_3 < 14 := by rw [er_3]; exact GL.pb hG (by omega) (by omega)
  refine zi_iald hx hb hK.1 hP 1 0 rfl rfl (by omega) (by omega) (by decide) dL_nightOf_6 ?_
  have q_6 := GL.p hG (k := r_3) (by omega) (by omega)
  refine zi_bipush hx hb dL_nightOf_7 (by decide) ?_
  refine zi_idiv hx hb ⟨by omega, by omega⟩ ⟨by omega, by omega⟩ (by omega) (by omega) dL_nightOf_9 ?_
  exact zr_i hx hb hr hlocks dL_nightOf_10 (by unfold nM; rw [← er_3]; omega)

abbrev rmct_L_isBelow : Room := { frames := 0, cells := 0, slots := 0, locals := 0 }
set_option maxHeartbeats 4000000 in
set_option maxRecDepth 100000 in
theorem ct_L_isBelow (l : Launch) (D : va_G) (cI cZ cJ : ClassId) (ld : Nat → Nat) (L M : ZS) (hG : GL L M) (x0 x1 : Int) (hx0 : ir x0) (hx1 : ir x1) (hk0 : -1 ≤ x0 ∧ x0 < 12) (hac : anc (M 12) 20 x0 = -1) : Met l yL_isBelow wsL_isBelow rmct_L_isBelow (zP D cI cZ cJ (lW cI ld L) [.ref (ld 3), .int (zi x0), .int (zi x1)]) (k2_QcV (.int (zi (b2 (climb (M 12) 20 x0 x1 = x1))))) 0 0 (fun _ => False) := by
  refine Met.ofW (cc := cL_isBelow) (maxL := 4) (ret := (some .boolean)) (by decide) rfl ?_
  intro p e s m args below meth c s₁ B hml hv
  obtain ⟨rfl, hP, hK⟩ := hv
  have hx := B.exec
  have hb := B.bytes
  have hr := B.returns
  have hts := atoms_spec (ws := wsL_isBelow) B.pre
  have hown : s.vm.findClass RL = some m.cls := findClass_of_methodNamed B.named
  have hlocks := B.notSynchronized
  have hl := lv_entry ([.ref (ld 3), .int (zi x0), .int (zi x1)]) (n := 4) (Nat.le_of_ble_eq_true rfl)
  rw [lg_entry_eq]
  generalize (lg_sl ([.ref (ld 3), .int (zi x0), .int (zi x1)]) ++ List.replicate (4 - (lg_sl ([.ref (ld 3), .int (zi x0), .int (zi x1)])).length) Slot.unset).toArray = ls at hl ⊢
  have hl : lv_has ls 4 [(0, .ref (ld 3)), (1, .int (zi x0)), (2, .int (zi x1))] := hl
  show W p l e rmct_L_isBelow s m ([.ref (ld 3), .int (zi x0), .int (zi x1)] : List Value).toArray below meth c s.heap [] 0 0 (MQ below (k2_QcV (.int (zi (b2 (climb (M 12) 20 x0 x1 = x1))))) ([.ref (ld 3), .int (zi x0), .int (zi x1)] : List Value).toArray s 0 0 (fun _ => False)) (F0 m 0 ls [])
  refine lv_iload_n hx hb dL_isBelow_0 rfl (lv_at hl 1 rfl) ?_
  have K_2 : ∀ (k : Nat) (n : Nat) (at9 : Int), (-1 ≤ at9 ∧ at9 < 12) → (anc (M 12) n at9 = -1) → (climb (M 12) n at9 x1 = climb (M 12) 20 x0 x1) → ((n : Int) < (k : Int)) → ∀ (ls : Array Slot), lv_has ls 4 [(0, .ref (ld 3)), (1, .int (zi x0)), (2, .int (zi x1)), (3, .int (zi at9))] → W p l e rmct_L_isBelow s m ([.ref (ld 3), .int (zi x0), .int (zi x1)] : List Value).toArray below meth c s.heap [] 0 0 (MQ below (k2_QcV (.int (zi (b2 (climb (M 12) 20 x0 x1 = x1))))) ([.ref (ld 3), .int (zi x0), .int (zi x1)] : List Value).toArray s 0 0 (fun _ => False)) (F0 m 2 ls []) := by
    intro k
    induction k with
    | zero => intro n at9 h_b h_a h_R hk; exact absurd hk (by omega)
    | succ k ih_2 =>
      intro n at9 h_b h_a h_R hk ls hl
      refine lv_iload_n hx hb dL_isBelow_2 rfl (lv_at hl 3 rfl) ?_
      refine zi_if_lt (tgt := 25) hx hb ⟨by omega, by omega⟩ dL_isBelow_3 (by decide) (fun c_3 => ?_) (fun c_3 => ?_)
      · have hE : at9 = climb (M 12) 20 x0 x1 := by rw [← h_R, climb_s (Or.inl (by omega))]
        refine lv_iload_n hx hb dL_isBelow_25 rfl (lv_at hl 3 rfl) ?_
        refine lv_iload_n hx hb dL_isBelow_26 rfl (lv_at hl 2 rfl) ?_
        refine zi_icmp_ne (tgt := 34) hx hb ⟨by omega, by omega⟩ ⟨by omega, by omega⟩ dL_isBelow_27 (by decide) (fun c_27 => ?_) (fun c_27 => ?_)
        · refine zi_iconst hx hb dL_isBelow_34 ?_
          exact zr_z hx hb hr hlocks dL_isBelow_35 (Or.inl rfl) (by rw [← hE]; first | exact (b2_t (by omega)).symm | exact (b2_f (by omega)).symm)
        · refine zi_iconst hx hb dL_isBelow_30 ?_
          refine lv_goto (tgt := 35) hx hb dL_isBelow_31 (by decide) ?_
          exact zr_z hx hb hr hlocks dL_isBelow_35 (Or.inr rfl) (by rw [← hE]; first | exact (b2_t (by omega)).symm | exact (b2_f (by omega)).symm)
      · refine lv_iload_n hx hb dL_isBelow_6 rfl (lv_at hl 3 rfl) ?_
        refine lv_iload_n hx hb dL_isBelow_7 rfl (lv_at hl 2 rfl) ?_
        refine zi_icmp_eq (tgt := 25) hx hb ⟨by omega, by omega⟩ ⟨by omega, by omega⟩ dL_isBelow_8 (by decide) (fun c_8 => ?_) (fun c_8 => ?_)
        · have hE : at9 = climb (M 12) 20 x0 x1 := by rw [← h_R, climb_s (Or.inr c_8)]
          refine lv_iload_n hx hb dL_isBelow_25 rfl (lv_at hl 3 rfl) ?_
          refine lv_iload_n hx hb dL_isBelow_26 rfl (lv_at hl 2 rfl) ?_
          refine zi_icmp_ne (tgt := 34) hx hb ⟨by omega, by omega⟩ ⟨by omega, by omega⟩ dL_isBelow_27 (by decide) (fun c_27 => ?_) (fun c_27 => ?_)
          · refine zi_iconst hx hb dL_isBelow_34 ?_
            exact zr_z hx hb hr hlocks dL_isBelow_35 (Or.inl rfl) (by rw [← hE]; first | exact (b2_t (by omega)).symm | exact (b2_f (by omega)).symm)
          · refine zi_iconst hx hb dL_isBelow_30 ?_
            refine lv_goto (tgt := 35) hx hb dL_isBelow_31 (by decide) ?_
            exact zr_z hx hb hr hlocks dL_isBelow_35 (Or.inr rfl) (by rw [← hE]; first | exact (b2_t (by omega)).symm | exact (b2_f (by omega)).symm)
        · obtain ⟨n, rfl⟩ := anc_pos h_a (by omega)
          have e9 : at9 % 12 = at9 := by omega
          refine lv_aload_n hx hb dL_isBelow_11 rfl (lv_at hl 0 rfl) ?_
          refine zi_iconst hx hb dL_isBelow_12 ?_
          refine lv_iload_n hx hb dL_isBelow_13 rfl (lv_at hl 3 rfl) ?_
          refine zi_bipush hx hb dL_isBelow_14 (by decide) ?_
          refine zi_irem hx hb ⟨by omega, by omega⟩ ⟨by omega, by omega⟩ (by omega) (by omega) dL_isBelow_16 ?_
          refine zi_imul hx hb dL_isBelow_17 ?_
          refine zi_iald hx hb hK.1 hP 3 0 rfl rfl (by omega) (by omega) (by decide) dL_isBelow_18 ?_
          refine zi_is (M 12 (at9 % 12) + 1) (GL.u hG (j := at9 % 12) (by omega) (by omega)).1 ?_
          have q_18 := (GL.u hG (j := at9 % 12) (by omega) (by omega)).2
          refine zi_iconst hx hb dL_isBelow_19 ?_
          refine zi_isub hx hb dL_isBelow_20 ?_
          refine zi_top (fun x3_21 ex3_21 => ?_)
          refine lv_istore_n (lv' := [(3, .int (zi x3_21)), (0, .ref (ld 3)), (1, .int (zi x0)), (2, .int (zi x1))]) hx hb dL_isBelow_21 rfl hl (by decide) rfl (fun ls hl => ?_)
          refine lv_goto (tgt := 2) hx hb dL_isBelow_22 (by decide) ?_
          exact ih_2 n x3_21 (by first | omega | assumption) (by rw [ex3_21, e9, Int.add_sub_cancel]; exact (if_neg (show ¬ at9 = -1 by omega)).symm.trans h_a) (by rw [← h_R, ex3_21, e9, Int.add_sub_cancel]; exact (if_neg (fun h9 => h9.elim (by omega) c_8)).symm) (by omega) _ (lv_sub hl [1, 2, 3, 0] rfl)
  refine lv_istore_n (lv' := [(3, .int (zi x0)), (0, .ref (ld 3)), (1, .int (zi x0)), (2, .int (zi x1))]) hx hb dL_isBelow_1 rfl hl (by decide) rfl (fun ls hl => ?_)
  exact K_2 21 20 x0 (by first | omega | assumption) hac rfl (by omega) _ (lv_sub hl [1, 2, 3, 0] rfl)

abbrev rmct_L_isLook : Room := { frames := 1, cells := 0, slots := 0, locals := 23 }
set_option maxHeartbeats 4000000 in
set_option maxRecDepth 100000 in
theorem ct_L_isLook (l : Launch) (D : va_G) (cI cZ cJ : ClassId) (ld : Nat → Nat) (L M : ZS) (hG : GL L M) (x0 x1 : Int) (hx0 : ir x0) (hx1 : ir x1) (hk0 : 0 ≤ x0 ∧ x0 < 40) : Met l yL_isLook wsL_isLook rmct_L_isLook (zP D cI cZ cJ (lW cI ld L) [.ref (ld 0), .ref (ld 3), .int (zi x0), .int (zi x1)]) (k2_QcV (.int (zi (b2 (lookM M x0 x1))))) 0 0 (fun _ => False) := by
  refine Met.ofW (cc := cL_isLook) (maxL := 4) (ret := (some .boolean)) (by decide) rfl ?_
  intro p e s m args below meth c s₁ B hml hv
  obtain ⟨rfl, hP, hK⟩ := hv
  have hx := B.exec
  have hb := B.bytes
  have hr := B.returns
  have hts := atoms_spec (ws := wsL_isLook) B.pre
  have hown : s.vm.findClass RL = some m.cls := findClass_of_methodNamed B.named
  have hlocks := B.notSynchronized
  have hl := lv_entry ([.ref (ld 0), .ref (ld 3), .int (zi x0), .int (zi x1)]) (n := 4) (Nat.le_of_ble_eq_true rfl)
  rw [lg_entry_eq]
  generalize (lg_sl ([.ref (ld 0), .ref (ld 3), .int (zi x0), .int (zi x1)]) ++ List.replicate (4 - (lg_sl ([.ref (ld 0), .ref (ld 3), .int (zi x0), .int (zi x1)])).length) Slot.unset).toArray = ls at hl ⊢
  have hl : lv_has ls 4 [(0, .ref (ld 0)), (1, .ref (ld 3)), (2, .int (zi x0)), (3, .int (zi x1))] := hl
  show W p l e rmct_L_isLook s m ([.ref (ld 0), .ref (ld 3), .int (zi x0), .int (zi x1)] : List Value).toArray below meth c s.heap [] 0 0 (MQ below (k2_QcV (.int (zi (b2 (lookM M x0 x1))))) ([.ref (ld 0), .ref (ld 3), .int (zi x0), .int (zi x1)] : List Value).toArray s 0 0 (fun _ => False)) (F0 m 0 ls [])
  have hac9 := Inv.acc hG.2.1 hG.2.2 x0 hk0.1 (by have := GL.c hG; omega)
  refine lv_aload_n hx hb dL_isLook_0 rfl (lv_at hl 0 rfl) ?_
  refine lv_iload_n hx hb dL_isLook_1 rfl (lv_at hl 2 rfl) ?_
  refine zk_r (zc_S (As := [.ref (ld 0), .int (zi x0)]) (rest := []) ⟨hx, hb, hml, hown, hts⟩ (ct_L_owner l D cI cZ cJ ld L M hG x0 ⟨by omega, by omega⟩ ⟨by omega, by omega⟩) (va_cwS 2 hts gL_isLook_L_owner rfl rfl rfl (by decide +kernel) ⟨Nat.le_of_ble_eq_true rfl, Nat.le_of_ble_eq_true rfl⟩) hK hP rfl hl.1 rfl (Nat.le_of_ble_eq_true rfl) dL_isLook_2 ⟨Nat.zero_le _, Nat.zero_le _⟩) ?_
  refine zi_top (fun (r_2 : Int) (er_2 : r_2 = M 10 x0) => ?_)
  have fr_2 : (-1 : Int) ≤ r_2 ∧ r_2 < 12 := by rw [er_2]; exact GL.ob hG (by omega) (by omega)
  refine zi_if_lt (tgt := 25) hx hb ⟨by omega, by omega⟩ dL_isLook_5 (by decide) (fun c_5 => ?_) (fun c_5 => ?_)
  · refine zi_iconst hx hb dL_isLook_25 ?_
    exact zr_z hx hb hr hlocks dL_isLook_26 (Or.inl rfl) (by exact (b2_f (fun h9 => h9.1 (by omega))).symm)
  · refine lv_aload_n hx hb dL_isLook_8 rfl (lv_at hl 1 rfl) ?_
    refine lv_aload_n hx hb dL_isLook_9 rfl (lv_at hl 0 rfl) ?_
    refine lv_iload_n hx hb dL_isLook_10 rfl (lv_at hl 2 rfl) ?_
    refine zk_r (zc_S (As := [.ref (ld 0), .int (zi x0)]) (rest := [.ref (ld 3)]) ⟨hx, hb, hml, hown, hts⟩ (ct_L_owner l D cI cZ cJ ld L M hG x0 ⟨by omega, by omega⟩ ⟨by omega, by omega⟩) (va_cwS 2 hts gL_isLook_L_owner rfl rfl rfl (by decide +kernel) ⟨Nat.le_of_ble_eq_true rfl, Nat.le_of_ble_eq_true rfl⟩) hK hP rfl hl.1 rfl (Nat.le_of_ble_eq_true rfl) dL_isLook_11 ⟨Nat.zero_le _, Nat.zero_le _⟩) ?_
    refine zi_top (fun (r_11 : Int) (er_11 : r_11 = M 10 x0) => ?_)
    have fr_11 : (-1 : Int) ≤ r_11 ∧ r_11 < 12 := by rw [er_11]; exact GL.ob hG (by omega) (by omega)
    refine lv_iload_n hx hb dL_isLook_14 rfl (lv_at hl 3 rfl) ?_
    have hac : anc (M 12) 20 r_11 = -1 := by rw [er_11]; exact hac9 (by omega)
    refine zk_r (zc_S (As := [.ref (ld 3), .int (zi r_11), .int (zi x1)]) (rest := []) ⟨hx, hb, hml, hown, hts⟩ (ct_L_isBelow l D cI cZ cJ ld L M hG r_11 x1 ⟨by omega, by omega⟩ ⟨by omega, by omega⟩ ⟨by omega, by omega⟩ (by assumption)) (va_cwS 3 hts gL_isLook_L_isBelow rfl rfl rfl (by decide +kernel) ⟨Nat.le_of_ble_eq_true rfl, Nat.le_of_ble_eq_true rfl⟩) hK hP rfl hl.1 rfl (Nat.le_of_ble_eq_true rfl) dL_isLook_15 ⟨Nat.zero_le _, Nat.zero_le _⟩) ?_
    refine zi_top (fun (r_15 : Int) (er_15 : r_15 = b2 (climb (M 12) 20 r_11 x1 = x1)) => ?_)
    have fr_15 : (0 : Int) ≤ r_15 ∧ r_15 ≤ 1 := by rw [er_15]; exact b2_b
    refine zi_if_eq (tgt := 25) hx hb ⟨by omega, by omega⟩ dL_isLook_18 (by decide) (fun c_18 => ?_) (fun c_18 => ?_)
    · refine zi_iconst hx hb dL_isLook_25 ?_
      exact zr_z hx hb hr hlocks dL_isLook_26 (Or.inl rfl) (by exact (b2_f (fun h9 => b2_0 er_15 c_18 (by rw [er_11]; exact h9.2))).symm)
    · refine zi_iconst hx hb dL_isLook_21 ?_
      refine lv_goto (tgt := 26) hx hb dL_isLook_22 (by decide) ?_
      exact zr_z hx hb hr hlocks dL_isLook_26 (Or.inr rfl) (by exact (b2_t ⟨by omega, by have h9 := b2_1 er_15 c_18; rw [er_11] at h9; exact h9⟩).symm)

abbrev rmct_L_looks : Room := { frames := 2, cells := 0, slots := 0, locals := 46 }
set_option maxHeartbeats 4000000 in
set_option maxRecDepth 100000 in
theorem ct_L_looks (l : Launch) (D : va_G) (cI cZ cJ : ClassId) (ld : Nat → Nat) (L M : ZS) (hG : GL L M) (x0 : Int) (hx0 : ir x0)  : Met l yL_looks wsL_looks rmct_L_looks (zP D cI cZ cJ (lW cI ld L) [.ref (ld 0), .ref (ld 3), .ref (ld 4), .int (zi x0)]) (k2_QcV (.int (zi (lkN M x0)))) 0 0 (fun _ => False) := by
  refine Met.ofW (cc := cL_looks) (maxL := 6) (ret := (some .int)) (by decide) rfl ?_
  intro p e s m args below meth c s₁ B hml hv
  obtain ⟨rfl, hP, hK⟩ := hv
  have hx := B.exec
  have hb := B.bytes
  have hr := B.returns
  have hts := atoms_spec (ws := wsL_looks) B.pre
  have hown : s.vm.findClass RL = some m.cls := findClass_of_methodNamed B.named
  have hlocks := B.notSynchronized
  have hl := lv_entry ([.ref (ld 0), .ref (ld 3), .ref (ld 4), .int (zi x0)]) (n := 6) (Nat.le_of_ble_eq_true rfl)
  rw [lg_entry_eq]
  generalize (lg_sl ([.ref (ld 0), .ref (ld 3), .ref (ld 4), .int (zi x0)]) ++ List.replicate (6 - (lg_sl ([.ref (ld 0), .ref (ld 3), .ref (ld 4), .int (zi x0)])).length) Slot.unset).toArray = ls at hl ⊢
  have hl : lv_has ls 6 [(0, .ref (ld 0)), (1, .ref (ld 3)), (2, .ref (ld 4)), (3, .int (zi x0))] := hl
  show W p l e rmct_L_looks s m ([.ref (ld 0), .ref (ld 3), .ref (ld 4), .int (zi x0)] : List Value).toArray below meth c s.heap [] 0 0 (MQ below (k2_QcV (.int (zi (lkN M x0)))) ([.ref (ld 0), .ref (ld 3), .ref (ld 4), .int (zi x0)] : List Value).toArray s 0 0 (fun _ => False)) (F0 m 0 ls [])
  refine zi_iconst hx hb dL_looks_0 ?_
  refine lv_istore (lv' := [(4, .int (zi 0)), (0, .ref (ld 0)), (1, .ref (ld 3)), (2, .ref (ld 4)), (3, .int (zi x0))]) hx hb dL_looks_1 hl (by decide) rfl (fun ls hl => ?_)
  refine zi_iconst hx hb dL_looks_3 ?_
  have K_6 : ∀ (k : Nat) (n : Nat) (n9 i : Int), (i + (n : Int) = 40) → (0 ≤ i) → (0 ≤ n9 ∧ n9 ≤ i) → (itr (fun k acc => acc + b2 (lookM M k x0)) n i n9 = lkN M x0) → ((n : Int) < (k : Int)) → ∀ (ls : Array Slot), lv_has ls 6 [(0, .ref (ld 0)), (1, .ref (ld 3)), (2, .ref (ld 4)), (3, .int (zi x0)), (4, .int (zi n9)), (5, .int (zi i))] → W p l e rmct_L_looks s m ([.ref (ld 0), .ref (ld 3), .ref (ld 4), .int (zi x0)] : List Value).toArray below meth c s.heap [] 0 0 (MQ below (k2_QcV (.int (zi (lkN M x0)))) ([.ref (ld 0), .ref (ld 3), .ref (ld 4), .int (zi x0)] : List Value).toArray s 0 0 (fun _ => False)) (F0 m 6 ls []) := by
    intro k
    induction k with
    | zero => intro n n9 i h_n h_i h_b h_R hk; exact absurd hk (by omega)
    | succ k ih_6 =>
      intro n n9 i h_n h_i h_b h_R hk ls hl
      refine lv_iload hx hb dL_looks_6 (lv_at hl 5 rfl) ?_
      refine lv_aload_n hx hb dL_looks_8 rfl (lv_at hl 2 rfl) ?_
      refine zi_iconst hx hb dL_looks_9 ?_
      refine zi_iald hx hb hK.1 hP 4 0 rfl rfl (by omega) (by omega) (by decide) dL_looks_10 ?_
      refine zi_is 40 (GL.c hG).1 ?_
      have q_10 := GL.c hG
      refine zi_icmp_ge (tgt := 41) hx hb ⟨by omega, by omega⟩ ⟨by decide, by decide⟩ dL_looks_11 (by decide) (fun c_11 => ?_) (fun c_11 => ?_)
      · obtain rfl : n = 0 := by omega
        refine lv_iload hx hb dL_looks_41 (lv_at hl 4 rfl) ?_
        exact zr_i hx hb hr hlocks dL_looks_43 (by exact h_R)
      · obtain ⟨n, rfl⟩ : ∃ n9 : Nat, n = n9 + 1 := ⟨n - 1, by omega⟩
        refine lv_iload hx hb dL_looks_14 (lv_at hl 4 rfl) ?_
        refine lv_aload_n hx hb dL_looks_16 rfl (lv_at hl 0 rfl) ?_
        refine lv_aload_n hx hb dL_looks_17 rfl (lv_at hl 1 rfl) ?_
        refine lv_iload hx hb dL_looks_18 (lv_at hl 5 rfl) ?_
        refine lv_iload_n hx hb dL_looks_20 rfl (lv_at hl 3 rfl) ?_
        refine zk_r (zc_S (As := [.ref (ld 0), .ref (ld 3), .int (zi i), .int (zi x0)]) (rest := [.int (zi n9)]) ⟨hx, hb, hml, hown, hts⟩ (ct_L_isLook l D cI cZ cJ ld L M hG i x0 ⟨by omega, by omega⟩ ⟨by omega, by omega⟩ ⟨by omega, by omega⟩) (va_cwS 4 hts gL_looks_L_isLook rfl rfl rfl (by decide +kernel) ⟨Nat.le_of_ble_eq_true rfl, Nat.le_of_ble_eq_true rfl⟩) hK hP rfl hl.1 rfl (Nat.le_of_ble_eq_true rfl) dL_looks_21 ⟨Nat.zero_le _, Nat.zero_le _⟩) ?_
        refine zi_top (fun (r_21 : Int) (er_21 : r_21 = b2 (lookM M i x0)) => ?_)
        have fr_21 : (0 : Int) ≤ r_21 ∧ r_21 ≤ 1 := by rw [er_21]; exact b2_b
        have K_32 : ∀ (d9 : Int), (d9 = b2 (lookM M i x0)) → ∀ (ls : Array Slot), lv_has ls 6 [(0, .ref (ld 0)), (1, .ref (ld 3)), (2, .ref (ld 4)), (3, .int (zi x0)), (5, .int (zi i))] → W p l e rmct_L_looks s m ([.ref (ld 0), .ref (ld 3), .ref (ld 4), .int (zi x0)] : List Value).toArray below meth c s.heap [] 0 0 (MQ below (k2_QcV (.int (zi (lkN M x0)))) ([.ref (ld 0), .ref (ld 3), .ref (ld 4), .int (zi x0)] : List Value).toArray s 0 0 (fun _ => False)) (F0 m 32 ls [.int (zi d9), .int (zi n9)]) := by
          intro d9 h_d ls hl
          have h_d9 : 0 ≤ d9 ∧ d9 ≤ 1 := by rw [h_d]; exact b2_b
          refine zi_iadd hx hb dL_looks_32 ?_
          refine zi_top (fun x4_33 ex4_33 => ?_)
          refine lv_istore (lv' := [(4, .int (zi x4_33)), (0, .ref (ld 0)), (1, .ref (ld 3)), (2, .ref (ld 4)), (3, .int (zi x0)), (5, .int (zi i))]) hx hb dL_looks_33 hl (by decide) rfl (fun ls hl => ?_)
          refine zi_iinc (k := 5) (lv' := [(5, .int (zi (i + 1))), (4, .int (zi x4_33)), (0, .ref (ld 0)), (1, .ref (ld 3)), (2, .ref (ld 4)), (3, .int (zi x0))]) hx hb dL_looks_35 hl rfl (by decide) rfl (fun ls hl => ?_)
          refine lv_goto (tgt := 6) hx hb dL_looks_38 (by decide) ?_
          exact ih_6 n x4_33 (i + 1) (by first | omega | assumption) (by first | omega | assumption) ⟨by omega, by omega⟩ (by rw [← h_R, itr_s, ← h_d, ex4_33]) (by omega) _ (lv_sub hl [2, 3, 4, 5, 1, 0] rfl)
        refine zi_if_eq (tgt := 31) hx hb ⟨by omega, by omega⟩ dL_looks_24 (by decide) (fun c_24 => ?_) (fun c_24 => ?_)
        · refine zi_iconst hx hb dL_looks_31 ?_
          exact K_32 0 (b2_f (b2_0 er_21 c_24)).symm _ (lv_sub hl [0, 1, 2, 3, 5] rfl)
        · refine zi_iconst hx hb dL_looks_27 ?_
          refine lv_goto (tgt := 32) hx hb dL_looks_28 (by decide) ?_
          exact K_32 1 (b2_t (b2_1 er_21 c_24)).symm _ (lv_sub hl [0, 1, 2, 3, 5] rfl)
  refine lv_istore (lv' := [(5, .int (zi 0)), (4, .int (zi 0)), (0, .ref (ld 0)), (1, .ref (ld 3)), (2, .ref (ld 4)), (3, .int (zi x0))]) hx hb dL_looks_4 hl (by decide) rfl (fun ls hl => ?_)
  exact K_6 41 40 0 0 (by first | omega | assumption) (by first | omega | assumption) (by first | omega | assumption) rfl (by omega) _ (lv_sub hl [2, 3, 4, 5, 1, 0] rfl)

abbrev rmct_L_firstOf : Room := { frames := 2, cells := 0, slots := 0, locals := 46 }
set_option maxHeartbeats 4000000 in
set_option maxRecDepth 100000 in
theorem ct_L_firstOf (l : Launch) (D : va_G) (cI cZ cJ : ClassId) (ld : Nat → Nat) (L M : ZS) (hG : GL L M) (x0 : Int) (hx0 : ir x0)  : Met l yL_firstOf wsL_firstOf rmct_L_firstOf (zP D cI cZ cJ (lW cI ld L) [.ref (ld 0), .ref (ld 1), .ref (ld 3), .ref (ld 4), .int (zi x0)]) (k2_QcV (.int (zi (fsN M x0)))) 0 0 (fun _ => False) := by
  refine Met.ofW (cc := cL_firstOf) (maxL := 7) (ret := (some .int)) (by decide) rfl ?_
  intro p e s m args below meth c s₁ B hml hv
  obtain ⟨rfl, hP, hK⟩ := hv
  have hx := B.exec
  have hb := B.bytes
  have hr := B.returns
  have hts := atoms_spec (ws := wsL_firstOf) B.pre
  have hown : s.vm.findClass RL = some m.cls := findClass_of_methodNamed B.named
  have hlocks := B.notSynchronized
  have hl := lv_entry ([.ref (ld 0), .ref (ld 1), .ref (ld 3), .ref (ld 4), .int (zi x0)]) (n := 7) (Nat.le_of_ble_eq_true rfl)
  rw [lg_entry_eq]
  generalize (lg_sl ([.ref (ld 0), .ref (ld 1), .ref (ld 3), .ref (ld 4), .int (zi x0)]) ++ List.replicate (7 - (lg_sl ([.ref (ld 0), .ref (ld 1), .ref (ld 3), .ref (ld 4), .int (zi x0)])).length) Slot.unset).toArray = ls at hl ⊢
  have hl : lv_has ls 7 [(0, .ref (ld 0)), (1, .ref (ld 1)), (2, .ref (ld 3)), (3, .ref (ld 4)), (4, .int (zi x0))] := hl
  show W p l e rmct_L_firstOf s m ([.ref (ld 0), .ref (ld 1), .ref (ld 3), .ref (ld 4), .int (zi x0)] : List Value).toArray below meth c s.heap [] 0 0 (MQ below (k2_QcV (.int (zi (fsN M x0)))) ([.ref (ld 0), .ref (ld 1), .ref (ld 3), .ref (ld 4), .int (zi x0)] : List Value).toArray s 0 0 (fun _ => False)) (F0 m 0 ls [])
  refine zi_iconst hx hb dL_firstOf_0 ?_
  refine lv_istore (lv' := [(5, .int (zi (-1))), (0, .ref (ld 0)), (1, .ref (ld 1)), (2, .ref (ld 3)), (3, .ref (ld 4)), (4, .int (zi x0))]) hx hb dL_firstOf_1 hl (by decide) rfl (fun ls hl => ?_)
  refine zi_iconst hx hb dL_firstOf_3 ?_
  have K_6 : ∀ (k : Nat) (n : Nat) (f9 i : Int), (i + (n : Int) = 40) → (0 ≤ i) → (-1 ≤ f9 ∧ f9 < i) → (itr (fsF M x0) n i f9 = fsN M x0) → ((n : Int) < (k : Int)) → ∀ (ls : Array Slot), lv_has ls 7 [(0, .ref (ld 0)), (1, .ref (ld 1)), (2, .ref (ld 3)), (3, .ref (ld 4)), (4, .int (zi x0)), (5, .int (zi f9)), (6, .int (zi i))] → W p l e rmct_L_firstOf s m ([.ref (ld 0), .ref (ld 1), .ref (ld 3), .ref (ld 4), .int (zi x0)] : List Value).toArray below meth c s.heap [] 0 0 (MQ below (k2_QcV (.int (zi (fsN M x0)))) ([.ref (ld 0), .ref (ld 1), .ref (ld 3), .ref (ld 4), .int (zi x0)] : List Value).toArray s 0 0 (fun _ => False)) (F0 m 6 ls []) := by
    intro k
    induction k with
    | zero => intro n f9 i h_n h_i h_b h_R hk; exact absurd hk (by omega)
    | succ k ih_6 =>
      intro n f9 i h_n h_i h_b h_R hk ls hl
      refine lv_iload hx hb dL_firstOf_6 (lv_at hl 6 rfl) ?_
      refine lv_aload_n hx hb dL_firstOf_8 rfl (lv_at hl 3 rfl) ?_
      refine zi_iconst hx hb dL_firstOf_9 ?_
      refine zi_iald hx hb hK.1 hP 4 0 rfl rfl (by omega) (by omega) (by decide) dL_firstOf_10 ?_
      refine zi_is 40 (GL.c hG).1 ?_
      have q_10 := GL.c hG
      refine zi_icmp_ge (tgt := 63) hx hb ⟨by omega, by omega⟩ ⟨by decide, by decide⟩ dL_firstOf_11 (by decide) (fun c_11 => ?_) (fun c_11 => ?_)
      · obtain rfl : n = 0 := by omega
        refine lv_iload hx hb dL_firstOf_63 (lv_at hl 5 rfl) ?_
        exact zr_i hx hb hr hlocks dL_firstOf_65 (by exact h_R)
      · obtain ⟨n, rfl⟩ : ∃ n9 : Nat, n = n9 + 1 := ⟨n - 1, by omega⟩
        refine lv_aload_n hx hb dL_firstOf_14 rfl (lv_at hl 0 rfl) ?_
        refine lv_aload_n hx hb dL_firstOf_15 rfl (lv_at hl 2 rfl) ?_
        refine lv_iload hx hb dL_firstOf_16 (lv_at hl 6 rfl) ?_
        refine lv_iload hx hb dL_firstOf_18 (lv_at hl 4 rfl) ?_
        refine zk_r (zc_S (As := [.ref (ld 0), .ref (ld 3), .int (zi i), .int (zi x0)]) (rest := []) ⟨hx, hb, hml, hown, hts⟩ (ct_L_isLook l D cI cZ cJ ld L M hG i x0 ⟨by omega, by omega⟩ ⟨by omega, by omega⟩ ⟨by omega, by omega⟩) (va_cwS 4 hts gL_firstOf_L_isLook rfl rfl rfl (by decide +kernel) ⟨Nat.le_of_ble_eq_true rfl, Nat.le_of_ble_eq_true rfl⟩) hK hP rfl hl.1 rfl (Nat.le_of_ble_eq_true rfl) dL_firstOf_20 ⟨Nat.zero_le _, Nat.zero_le _⟩) ?_
        refine zi_top (fun (r_20 : Int) (er_20 : r_20 = b2 (lookM M i x0)) => ?_)
        have fr_20 : (0 : Int) ≤ r_20 ∧ r_20 ≤ 1 := by rw [er_20]; exact b2_b
        have K_55 : ∀ (v9 : Int), (v9 = fsF M x0 i f9) → (v9 = i ∨ v9 = f9) → ∀ (ls : Array Slot), lv_has ls 7 [(0, .ref (ld 0)), (1, .ref (ld 1)), (2, .ref (ld 3)), (3, .ref (ld 4)), (4, .int (zi x0)), (6, .int (zi i))] → W p l e rmct_L_firstOf s m ([.ref (ld 0), .ref (ld 1), .ref (ld 3), .ref (ld 4), .int (zi x0)] : List Value).toArray below meth c s.heap [] 0 0 (MQ below (k2_QcV (.int (zi (fsN M x0)))) ([.ref (ld 0), .ref (ld 1), .ref (ld 3), .ref (ld 4), .int (zi x0)] : List Value).toArray s 0 0 (fun _ => False)) (F0 m 55 ls [.int (zi v9)]) := by
          intro v9 h_v h_w ls hl
          refine lv_istore (lv' := [(5, .int (zi v9)), (0, .ref (ld 0)), (1, .ref (ld 1)), (2, .ref (ld 3)), (3, .ref (ld 4)), (4, .int (zi x0)), (6, .int (zi i))]) hx hb dL_firstOf_55 hl (by decide) rfl (fun ls hl => ?_)
          refine zi_iinc (k := 6) (lv' := [(6, .int (zi (i + 1))), (5, .int (zi v9)), (0, .ref (ld 0)), (1, .ref (ld 1)), (2, .ref (ld 3)), (3, .ref (ld 4)), (4, .int (zi x0))]) hx hb dL_firstOf_57 hl rfl (by decide) rfl (fun ls hl => ?_)
          refine lv_goto (tgt := 6) hx hb dL_firstOf_60 (by decide) ?_
          exact ih_6 n v9 (i + 1) (by first | omega | assumption) (by first | omega | assumption) ⟨by omega, by omega⟩ (by rw [← h_R, itr_s, h_v]) (by omega) _ (lv_sub hl [2, 3, 4, 5, 6, 1, 0] rfl)
        refine zi_if_eq (tgt := 53) hx hb ⟨by omega, by omega⟩ dL_firstOf_23 (by decide) (fun c_23 => ?_) (fun c_23 => ?_)
        · refine lv_iload hx hb dL_firstOf_53 (lv_at hl 5 rfl) ?_
          exact K_55 f9 (cif_f (fun h9 => b2_0 er_20 c_23 h9.1)).symm (by first | omega | assumption) _ (lv_sub hl [0, 1, 2, 3, 4, 6] rfl)
        · refine lv_iload hx hb dL_firstOf_26 (lv_at hl 5 rfl) ?_
          refine zi_if_lt (tgt := 48) hx hb ⟨by omega, by omega⟩ dL_firstOf_28 (by decide) (fun c_28 => ?_) (fun c_28 => ?_)
          · refine lv_iload hx hb dL_firstOf_48 (lv_at hl 6 rfl) ?_
            refine lv_goto (tgt := 55) hx hb dL_firstOf_50 (by decide) ?_
            exact K_55 i (cif_t ⟨b2_1 er_20 c_23, Or.inl (by omega)⟩).symm (by first | omega | assumption) _ (lv_sub hl [0, 1, 2, 3, 4, 6] rfl)
          · refine lv_aload_n hx hb dL_firstOf_31 rfl (lv_at hl 0 rfl) ?_
            refine lv_aload_n hx hb dL_firstOf_32 rfl (lv_at hl 1 rfl) ?_
            refine lv_iload hx hb dL_firstOf_33 (lv_at hl 6 rfl) ?_
            refine zk_r (zc_S (As := [.ref (ld 0), .ref (ld 1), .int (zi i)]) (rest := []) ⟨hx, hb, hml, hown, hts⟩ (ct_L_nightOf l D cI cZ cJ ld L M hG i ⟨by omega, by omega⟩ ⟨by omega, by omega⟩) (va_cwS 3 hts gL_firstOf_L_nightOf rfl rfl rfl (by decide +kernel) ⟨Nat.le_of_ble_eq_true rfl, Nat.le_of_ble_eq_true rfl⟩) hK hP rfl hl.1 rfl (Nat.le_of_ble_eq_true rfl) dL_firstOf_35 ⟨Nat.zero_le _, Nat.zero_le _⟩) ?_
            refine zi_top (fun (r_35 : Int) (er_35 : r_35 = nM M i) => ?_)
            have fr_35 : (0 : Int) ≤ r_35 ∧ r_35 ≤ 999 := by rw [er_35]; exact GL.nb hG _
            refine lv_aload_n hx hb dL_firstOf_38 rfl (lv_at hl 0 rfl) ?_
            refine lv_aload_n hx hb dL_firstOf_39 rfl (lv_at hl 1 rfl) ?_
            refine lv_iload hx hb dL_firstOf_40 (lv_at hl 5 rfl) ?_
            refine zk_r (zc_S (As := [.ref (ld 0), .ref (ld 1), .int (zi f9)]) (rest := [.int (zi r_35)]) ⟨hx, hb, hml, hown, hts⟩ (ct_L_nightOf l D cI cZ cJ ld L M hG f9 ⟨by omega, by omega⟩ ⟨by omega, by omega⟩) (va_cwS 3 hts gL_firstOf_L_nightOf rfl rfl rfl (by decide +kernel) ⟨Nat.le_of_ble_eq_true rfl, Nat.le_of_ble_eq_true rfl⟩) hK hP rfl hl.1 rfl (Nat.le_of_ble_eq_true rfl) dL_firstOf_42 ⟨Nat.zero_le _, Nat.zero_le _⟩) ?_
            refine zi_top (fun (r_42 : Int) (er_42 : r_42 = nM M f9) => ?_)
            have fr_42 : (0 : Int) ≤ r_42 ∧ r_42 ≤ 999 := by rw [er_42]; exact GL.nb hG _
            refine zi_icmp_ge (tgt := 53) hx hb ⟨by omega, by omega⟩ ⟨by omega, by omega⟩ dL_firstOf_45 (by decide) (fun c_45 => ?_) (fun c_45 => ?_)
            · refine lv_iload hx hb dL_firstOf_53 (lv_at hl 5 rfl) ?_
              exact K_55 f9 (cif_f (fun h9 => h9.2.elim c_28 (fun h8 => by rw [er_35, er_42] at c_45; exact absurd h8 (by omega)))).symm (by first | omega | assumption) _ (lv_sub hl [0, 1, 2, 3, 4, 6] rfl)
            · refine lv_iload hx hb dL_firstOf_48 (lv_at hl 6 rfl) ?_
              refine lv_goto (tgt := 55) hx hb dL_firstOf_50 (by decide) ?_
              exact K_55 i (cif_t ⟨b2_1 er_20 c_23, Or.inr (by rw [← er_35, ← er_42]; omega)⟩).symm (by first | omega | assumption) _ (lv_sub hl [0, 1, 2, 3, 4, 6] rfl)
  refine lv_istore (lv' := [(6, .int (zi 0)), (5, .int (zi (-1))), (0, .ref (ld 0)), (1, .ref (ld 1)), (2, .ref (ld 3)), (3, .ref (ld 4)), (4, .int (zi x0))]) hx hb dL_firstOf_4 hl (by decide) rfl (fun ls hl => ?_)
  exact K_6 41 40 (-1) 0 (by first | omega | assumption) (by first | omega | assumption) (by first | omega | assumption) rfl (by omega) _ (lv_sub hl [2, 3, 4, 5, 6, 1, 0] rfl)

abbrev rmct_L_placeBy : Room := { frames := 0, cells := 0, slots := 0, locals := 0 }
set_option maxHeartbeats 4000000 in
set_option maxRecDepth 100000 in
theorem ct_L_placeBy (l : Launch) (D : va_G) (cI cZ cJ : ClassId) (x0 x1 x2 x3 : Int) (hx0 : ir x0) (hx1 : ir x1) (hx2 : ir x2) (hx3 : ir x3) (hp0 : -100000 ≤ x0 ∧ x0 ≤ 100000) (hp1 : -40 ≤ x1 ∧ x1 ≤ 40) (hp2 : -2 ≤ x2 ∧ x2 ≤ 2) (hp3 : 0 ≤ x3 ∧ x3 ≤ 999) : Met l yL_placeBy wsL_placeBy rmct_L_placeBy (zP D cI cZ cJ [] [.int (zi x0), .int (zi x1), .int (zi x2), .int (zi x3)]) (k2_QcV (.int (zi ((x0 + mvM x1 x2 x3) % 3600)))) 0 0 (fun _ => False) := by
  refine Met.ofW (cc := cL_placeBy) (maxL := 4) (ret := (some .int)) (by decide) rfl ?_
  intro p e s m args below meth c s₁ B hml hv
  obtain ⟨rfl, hP, hK⟩ := hv
  have hx := B.exec
  have hb := B.bytes
  have hr := B.returns
  have hts := atoms_spec (ws := wsL_placeBy) B.pre
  have hown : s.vm.findClass RL = some m.cls := findClass_of_methodNamed B.named
  have hlocks := B.notSynchronized
  have hl := lv_entry ([.int (zi x0), .int (zi x1), .int (zi x2), .int (zi x3)]) (n := 4) (Nat.le_of_ble_eq_true rfl)
  rw [lg_entry_eq]
  generalize (lg_sl ([.int (zi x0), .int (zi x1), .int (zi x2), .int (zi x3)]) ++ List.replicate (4 - (lg_sl ([.int (zi x0), .int (zi x1), .int (zi x2), .int (zi x3)])).length) Slot.unset).toArray = ls at hl ⊢
  have hl : lv_has ls 4 [(0, .int (zi x0)), (1, .int (zi x1)), (2, .int (zi x2)), (3, .int (zi x3))] := hl
  show W p l e rmct_L_placeBy s m ([.int (zi x0), .int (zi x1), .int (zi x2), .int (zi x3)] : List Value).toArray below meth c s.heap [] 0 0 (MQ below (k2_QcV (.int (zi ((x0 + mvM x1 x2 x3) % 3600)))) ([.int (zi x0), .int (zi x1), .int (zi x2), .int (zi x3)] : List Value).toArray s 0 0 (fun _ => False)) (F0 m 0 ls [])
  have q_1 := sq_b hp3.1 hp3.2
  have q_2 := mvM_b hp1.1 hp1.2 hp2.1 hp2.2 hp3.1 hp3.2
  unfold mvM at q_2
  refine lv_iload_n hx hb dL_placeBy_0 rfl (lv_at hl 0 rfl) ?_
  refine lv_iload_n hx hb dL_placeBy_1 rfl (lv_at hl 1 rfl) ?_
  refine lv_iload_n hx hb dL_placeBy_2 rfl (lv_at hl 3 rfl) ?_
  refine zi_imul hx hb dL_placeBy_3 ?_
  refine zi_iadd hx hb dL_placeBy_4 ?_
  refine lv_iload_n hx hb dL_placeBy_5 rfl (lv_at hl 2 rfl) ?_
  refine lv_iload_n hx hb dL_placeBy_6 rfl (lv_at hl 3 rfl) ?_
  refine lv_iload_n hx hb dL_placeBy_7 rfl (lv_at hl 3 rfl) ?_
  refine zi_iconst hx hb dL_placeBy_8 ?_
  refine zi_isub hx hb dL_placeBy_9 ?_
  refine zi_imul hx hb dL_placeBy_10 ?_
  refine zi_iconst hx hb dL_placeBy_11 ?_
  refine zi_idiv hx hb ⟨by omega, by omega⟩ ⟨by omega, by omega⟩ (by omega) (by omega) dL_placeBy_12 ?_
  refine zi_imul hx hb dL_placeBy_13 ?_
  refine zi_iadd hx hb dL_placeBy_14 ?_
  refine zi_sipush hx hb dL_placeBy_15 (by decide) ?_
  refine zi_iremT hx hb ⟨by omega, by omega⟩ ⟨by omega, by omega⟩ (by omega) dL_placeBy_18 ?_
  refine zi_sipush hx hb dL_placeBy_19 (by decide) ?_
  have q_3 := tm_b (x := x0 + x1 * x3 + x2 * (x3 * (x3 - 1) / 2)) (y := 3600) (by decide)
  refine zi_iadd hx hb dL_placeBy_22 ?_
  refine zi_sipush hx hb dL_placeBy_23 (by decide) ?_
  refine zi_irem hx hb ⟨by omega, by omega⟩ ⟨by omega, by omega⟩ (by omega) (by omega) dL_placeBy_26 ?_
  exact zr_i hx hb hr hlocks dL_placeBy_27 (by rw [tm36 ⟨by omega, by omega⟩, Int.add_assoc]; rfl)

abbrev rmct_L_isNear : Room := { frames := 0, cells := 0, slots := 0, locals := 0 }
set_option maxHeartbeats 4000000 in
set_option maxRecDepth 100000 in
theorem ct_L_isNear (l : Launch) (D : va_G) (cI cZ cJ : ClassId) (x0 x1 x2 : Int) (hx0 : ir x0) (hx1 : ir x1) (hx2 : ir x2) (hp0 : 0 ≤ x0 ∧ x0 ≤ 3599) (hp1 : 0 ≤ x1 ∧ x1 ≤ 3599) (hp2 : 0 ≤ x2 ∧ x2 ≤ 9) : Met l yL_isNear wsL_isNear rmct_L_isNear (zP D cI cZ cJ [] [.int (zi x0), .int (zi x1), .int (zi x2)]) (k2_QcV (.int (zi (b2 (apM x0 x1 ≤ x2))))) 0 0 (fun _ => False) := by
  refine Met.ofW (cc := cL_isNear) (maxL := 4) (ret := (some .boolean)) (by decide) rfl ?_
  intro p e s m args below meth c s₁ B hml hv
  obtain ⟨rfl, hP, hK⟩ := hv
  have hx := B.exec
  have hb := B.bytes
  have hr := B.returns
  have hts := atoms_spec (ws := wsL_isNear) B.pre
  have hown : s.vm.findClass RL = some m.cls := findClass_of_methodNamed B.named
  have hlocks := B.notSynchronized
  have hl := lv_entry ([.int (zi x0), .int (zi x1), .int (zi x2)]) (n := 4) (Nat.le_of_ble_eq_true rfl)
  rw [lg_entry_eq]
  generalize (lg_sl ([.int (zi x0), .int (zi x1), .int (zi x2)]) ++ List.replicate (4 - (lg_sl ([.int (zi x0), .int (zi x1), .int (zi x2)])).length) Slot.unset).toArray = ls at hl ⊢
  have hl : lv_has ls 4 [(0, .int (zi x0)), (1, .int (zi x1)), (2, .int (zi x2))] := hl
  show W p l e rmct_L_isNear s m ([.int (zi x0), .int (zi x1), .int (zi x2)] : List Value).toArray below meth c s.heap [] 0 0 (MQ below (k2_QcV (.int (zi (b2 (apM x0 x1 ≤ x2))))) ([.int (zi x0), .int (zi x1), .int (zi x2)] : List Value).toArray s 0 0 (fun _ => False)) (F0 m 0 ls [])
  refine lv_iload_n hx hb dL_isNear_0 rfl (lv_at hl 0 rfl) ?_
  refine lv_iload_n hx hb dL_isNear_1 rfl (lv_at hl 1 rfl) ?_
  have K_14 : ∀ (f9 : Int), (f9 = max (x0 - x1) (-(x0 - x1))) → ∀ (ls : Array Slot), lv_has ls 4 [(0, .int (zi x0)), (1, .int (zi x1)), (2, .int (zi x2))] → W p l e rmct_L_isNear s m ([.int (zi x0), .int (zi x1), .int (zi x2)] : List Value).toArray below meth c s.heap [] 0 0 (MQ below (k2_QcV (.int (zi (b2 (apM x0 x1 ≤ x2))))) ([.int (zi x0), .int (zi x1), .int (zi x2)] : List Value).toArray s 0 0 (fun _ => False)) (F0 m 14 ls [.int (zi f9)]) := by
    intro f9 h_f ls hl
    refine lv_istore_n (lv' := [(3, .int (zi f9)), (0, .int (zi x0)), (1, .int (zi x1)), (2, .int (zi x2))]) hx hb dL_isNear_14 rfl hl (by decide) rfl (fun ls hl => ?_)
    refine lv_iload_n hx hb dL_isNear_15 rfl (lv_at hl 0 rfl) ?_
    refine lv_iload_n hx hb dL_isNear_16 rfl (lv_at hl 3 rfl) ?_
    refine zi_icmp_le (tgt := 29) hx hb ⟨by omega, by omega⟩ ⟨by omega, by omega⟩ dL_isNear_17 (by decide) (fun c_17 => ?_) (fun c_17 => ?_)
    · refine zi_iconst hx hb dL_isNear_29 ?_
      refine lv_goto (tgt := 34) hx hb dL_isNear_30 (by decide) ?_
      exact zr_z hx hb hr hlocks dL_isNear_34 (Or.inr rfl) (by unfold apM; rw [← h_f]; first | exact (b2_t (by split <;> omega)).symm | exact (b2_f (by split <;> omega)).symm)
    · refine zi_sipush hx hb dL_isNear_20 (by decide) ?_
      refine lv_iload_n hx hb dL_isNear_23 rfl (lv_at hl 0 rfl) ?_
      refine zi_isub hx hb dL_isNear_24 ?_
      refine lv_iload_n hx hb dL_isNear_25 rfl (lv_at hl 3 rfl) ?_
      refine zi_icmp_gt (tgt := 33) hx hb ⟨by omega, by omega⟩ ⟨by omega, by omega⟩ dL_isNear_26 (by decide) (fun c_26 => ?_) (fun c_26 => ?_)
      · refine zi_iconst hx hb dL_isNear_33 ?_
        exact zr_z hx hb hr hlocks dL_isNear_34 (Or.inl rfl) (by unfold apM; rw [← h_f]; first | exact (b2_t (by split <;> omega)).symm | exact (b2_f (by split <;> omega)).symm)
      · refine zi_iconst hx hb dL_isNear_29 ?_
        refine lv_goto (tgt := 34) hx hb dL_isNear_30 (by decide) ?_
        exact zr_z hx hb hr hlocks dL_isNear_34 (Or.inr rfl) (by unfold apM; rw [← h_f]; first | exact (b2_t (by split <;> omega)).symm | exact (b2_f (by split <;> omega)).symm)
  refine zi_icmp_ge (tgt := 11) hx hb ⟨by omega, by omega⟩ ⟨by omega, by omega⟩ dL_isNear_2 (by decide) (fun c_2 => ?_) (fun c_2 => ?_)
  · refine lv_iload_n hx hb dL_isNear_11 rfl (lv_at hl 0 rfl) ?_
    refine lv_iload_n hx hb dL_isNear_12 rfl (lv_at hl 1 rfl) ?_
    refine zi_isub hx hb dL_isNear_13 ?_
    exact K_14 (x0 - x1) (by first | omega | assumption) _ (lv_sub hl [0, 1, 2] rfl)
  · refine lv_iload_n hx hb dL_isNear_5 rfl (lv_at hl 1 rfl) ?_
    refine lv_iload_n hx hb dL_isNear_6 rfl (lv_at hl 0 rfl) ?_
    refine zi_isub hx hb dL_isNear_7 ?_
    refine lv_goto (tgt := 14) hx hb dL_isNear_8 (by decide) ?_
    exact K_14 (x1 - x0) (by first | omega | assumption) _ (lv_sub hl [0, 1, 2] rfl)

abbrev rmct_L_latest : Room := { frames := 0, cells := 0, slots := 0, locals := 0 }
set_option maxHeartbeats 4000000 in
set_option maxRecDepth 100000 in
theorem ct_L_latest (l : Launch) (D : va_G) (cI cZ cJ : ClassId) (ld : Nat → Nat) (L M : ZS) (hG : GL L M) (x0 : Int) (hx0 : ir x0) (hp0 : 0 ≤ x0 ∧ x0 < 12) : Met l yL_latest wsL_latest rmct_L_latest (zP D cI cZ cJ (lW cI ld L) [.ref (ld 3), .ref (ld 4), .int (zi x0)]) (k2_QcV (.int (zi (lateM M x0)))) 0 0 (fun _ => False) := by
  refine Met.ofW (cc := cL_latest) (maxL := 5) (ret := (some .int)) (by decide) rfl ?_
  intro p e s m args below meth c s₁ B hml hv
  obtain ⟨rfl, hP, hK⟩ := hv
  have hx := B.exec
  have hb := B.bytes
  have hr := B.returns
  have hts := atoms_spec (ws := wsL_latest) B.pre
  have hown : s.vm.findClass RL = some m.cls := findClass_of_methodNamed B.named
  have hlocks := B.notSynchronized
  have hl := lv_entry ([.ref (ld 3), .ref (ld 4), .int (zi x0)]) (n := 5) (Nat.le_of_ble_eq_true rfl)
  rw [lg_entry_eq]
  generalize (lg_sl ([.ref (ld 3), .ref (ld 4), .int (zi x0)]) ++ List.replicate (5 - (lg_sl ([.ref (ld 3), .ref (ld 4), .int (zi x0)])).length) Slot.unset).toArray = ls at hl ⊢
  have hl : lv_has ls 5 [(0, .ref (ld 3)), (1, .ref (ld 4)), (2, .int (zi x0))] := hl
  show W p l e rmct_L_latest s m ([.ref (ld 3), .ref (ld 4), .int (zi x0)] : List Value).toArray below meth c s.heap [] 0 0 (MQ below (k2_QcV (.int (zi (lateM M x0)))) ([.ref (ld 3), .ref (ld 4), .int (zi x0)] : List Value).toArray s 0 0 (fun _ => False)) (F0 m 0 ls [])
  have q_0 := GL.c hG
  refine zi_iconst hx hb dL_latest_0 ?_
  refine lv_istore_n (lv' := [(3, .int (zi (-1))), (0, .ref (ld 3)), (1, .ref (ld 4)), (2, .int (zi x0))]) hx hb dL_latest_1 rfl hl (by decide) rfl (fun ls hl => ?_)
  refine zi_iconst hx hb dL_latest_2 ?_
  have K_5 : ∀ (k : Nat) (n : Nat) (f9 i : Int), (i + (n : Int) = M 11 0) → (0 ≤ i) → (-1 ≤ f9 ∧ f9 < i) → (f9 = -1 ∨ M 12 f9 = x0) → (itr (lateG M x0) n i f9 = lateM M x0) → ((n : Int) < (k : Int)) → ∀ (ls : Array Slot), lv_has ls 5 [(0, .ref (ld 3)), (1, .ref (ld 4)), (2, .int (zi x0)), (3, .int (zi f9)), (4, .int (zi i))] → W p l e rmct_L_latest s m ([.ref (ld 3), .ref (ld 4), .int (zi x0)] : List Value).toArray below meth c s.heap [] 0 0 (MQ below (k2_QcV (.int (zi (lateM M x0)))) ([.ref (ld 3), .ref (ld 4), .int (zi x0)] : List Value).toArray s 0 0 (fun _ => False)) (F0 m 5 ls []) := by
    intro k
    induction k with
    | zero => intro n f9 i h_n h_i h_b h_l h_R hk; exact absurd hk (by omega)
    | succ k ih_5 =>
      intro n f9 i h_n h_i h_b h_l h_R hk ls hl
      refine lv_iload hx hb dL_latest_5 (lv_at hl 4 rfl) ?_
      refine lv_aload_n hx hb dL_latest_7 rfl (lv_at hl 1 rfl) ?_
      refine zi_iconst hx hb dL_latest_8 ?_
      refine zi_iald hx hb hK.1 hP 4 0 rfl rfl (by omega) (by omega) (by decide) dL_latest_9 ?_
      refine zi_is (M 11 0) (GL.c hG).2.1 ?_
      have q_9 := GL.c hG
      refine zi_icmp_ge (tgt := 60) hx hb ⟨by omega, by omega⟩ ⟨by omega, by omega⟩ dL_latest_10 (by decide) (fun c_10 => ?_) (fun c_10 => ?_)
      · obtain rfl : n = 0 := by omega
        refine lv_iload_n hx hb dL_latest_60 rfl (lv_at hl 3 rfl) ?_
        exact zr_i hx hb hr hlocks dL_latest_61 (by exact h_R)
      · obtain ⟨n, rfl⟩ : ∃ n9 : Nat, n = n9 + 1 := ⟨n - 1, by omega⟩
        refine lv_aload_n hx hb dL_latest_13 rfl (lv_at hl 0 rfl) ?_
        refine zi_iconst hx hb dL_latest_14 ?_
        refine lv_iload hx hb dL_latest_15 (lv_at hl 4 rfl) ?_
        refine zi_imul hx hb dL_latest_17 ?_
        refine zi_iald hx hb hK.1 hP 3 0 rfl rfl (by omega) (by omega) (by decide) dL_latest_18 ?_
        refine zi_is (M 12 i + 1) (GL.u hG (j := i) (by omega) (by omega)).1 ?_
        have q_18 := (GL.u hG (j := i) (by omega) (by omega)).2
        refine zi_iconst hx hb dL_latest_19 ?_
        refine zi_isub hx hb dL_latest_20 ?_
        refine lv_iload_n hx hb dL_latest_21 rfl (lv_at hl 2 rfl) ?_
        have K_53 : ∀ (v9 : Int), (v9 = lateG M x0 i f9) → ((v9 = i ∧ M 12 i = x0) ∨ v9 = f9) → ∀ (ls : Array Slot), lv_has ls 5 [(0, .ref (ld 3)), (1, .ref (ld 4)), (2, .int (zi x0)), (4, .int (zi i))] → W p l e rmct_L_latest s m ([.ref (ld 3), .ref (ld 4), .int (zi x0)] : List Value).toArray below meth c s.heap [] 0 0 (MQ below (k2_QcV (.int (zi (lateM M x0)))) ([.ref (ld 3), .ref (ld 4), .int (zi x0)] : List Value).toArray s 0 0 (fun _ => False)) (F0 m 53 ls [.int (zi v9)]) := by
          intro v9 h_v h_w ls hl
          refine lv_istore_n (lv' := [(3, .int (zi v9)), (0, .ref (ld 3)), (1, .ref (ld 4)), (2, .int (zi x0)), (4, .int (zi i))]) hx hb dL_latest_53 rfl hl (by decide) rfl (fun ls hl => ?_)
          refine zi_iinc (k := 4) (lv' := [(4, .int (zi (i + 1))), (3, .int (zi v9)), (0, .ref (ld 3)), (1, .ref (ld 4)), (2, .int (zi x0))]) hx hb dL_latest_54 hl rfl (by decide) rfl (fun ls hl => ?_)
          refine lv_goto (tgt := 5) hx hb dL_latest_57 (by decide) ?_
          exact ih_5 n v9 (i + 1) (by first | omega | assumption) (by first | omega | assumption) ⟨by omega, by omega⟩ (by rcases h_w with ⟨rfl, h9⟩ | rfl; exact Or.inr h9; exact h_l) (by rw [← h_R, itr_s, h_v]) (by omega) _ (lv_sub hl [2, 3, 4, 1, 0] rfl)
        refine zi_icmp_ne (tgt := 52) hx hb ⟨by omega, by omega⟩ ⟨by omega, by omega⟩ dL_latest_22 (by decide) (fun c_22 => ?_) (fun c_22 => ?_)
        · refine lv_iload_n hx hb dL_latest_52 rfl (lv_at hl 3 rfl) ?_
          exact K_53 f9 (if_neg (fun h9 => by omega)).symm (by first | omega | assumption) _ (lv_sub hl [0, 1, 2, 4] rfl)
        · refine lv_iload_n hx hb dL_latest_25 rfl (lv_at hl 3 rfl) ?_
          refine zi_if_lt (tgt := 47) hx hb ⟨by omega, by omega⟩ dL_latest_26 (by decide) (fun c_26 => ?_) (fun c_26 => ?_)
          · refine lv_iload hx hb dL_latest_47 (lv_at hl 4 rfl) ?_
            refine lv_goto (tgt := 53) hx hb dL_latest_49 (by decide) ?_
            exact K_53 i (if_pos ⟨by omega, by omega⟩).symm (by first | omega | assumption) _ (lv_sub hl [0, 1, 2, 4] rfl)
          · refine lv_aload_n hx hb dL_latest_29 rfl (lv_at hl 0 rfl) ?_
            refine zi_iconst hx hb dL_latest_30 ?_
            refine lv_iload hx hb dL_latest_31 (lv_at hl 4 rfl) ?_
            refine zi_imul hx hb dL_latest_33 ?_
            refine zi_iconst hx hb dL_latest_34 ?_
            refine zi_iadd hx hb dL_latest_35 ?_
            have h_m9 : M 12 i ≠ -1 := by omega
            refine zi_iald hx hb hK.1 hP 3 0 rfl rfl (by omega) (by omega) (by decide) dL_latest_36 ?_
            refine zi_is (M 13 i + 1) (GL.ut hG (j := i) (by omega) (by omega) (by omega)).1 ?_
            have q_36 := (GL.ut hG (j := i) (by omega) (by omega) (by omega)).2
            refine lv_aload_n hx hb dL_latest_37 rfl (lv_at hl 0 rfl) ?_
            refine zi_iconst hx hb dL_latest_38 ?_
            refine lv_iload_n hx hb dL_latest_39 rfl (lv_at hl 3 rfl) ?_
            refine zi_imul hx hb dL_latest_40 ?_
            refine zi_iconst hx hb dL_latest_41 ?_
            refine zi_iadd hx hb dL_latest_42 ?_
            have h_m8 : M 12 f9 ≠ -1 := by omega
            refine zi_iald hx hb hK.1 hP 3 0 rfl rfl (by omega) (by omega) (by decide) dL_latest_43 ?_
            refine zi_is (M 13 f9 + 1) (GL.ut hG (j := f9) (by omega) (by omega) (by omega)).1 ?_
            have q_43 := (GL.ut hG (j := f9) (by omega) (by omega) (by omega)).2
            refine zi_icmp_le (tgt := 52) hx hb ⟨by omega, by omega⟩ ⟨by omega, by omega⟩ dL_latest_44 (by decide) (fun c_44 => ?_) (fun c_44 => ?_)
            · refine lv_iload_n hx hb dL_latest_52 rfl (lv_at hl 3 rfl) ?_
              exact K_53 f9 (if_neg (fun h9 => by omega)).symm (by first | omega | assumption) _ (lv_sub hl [0, 1, 2, 4] rfl)
            · refine lv_iload hx hb dL_latest_47 (lv_at hl 4 rfl) ?_
              refine lv_goto (tgt := 53) hx hb dL_latest_49 (by decide) ?_
              exact K_53 i (if_pos ⟨by omega, by omega⟩).symm (by first | omega | assumption) _ (lv_sub hl [0, 1, 2, 4] rfl)
  refine lv_istore (lv' := [(4, .int (zi 0)), (3, .int (zi (-1))), (0, .ref (ld 3)), (1, .ref (ld 4)), (2, .int (zi x0))]) hx hb dL_latest_3 hl (by decide) rfl (fun ls hl => ?_)
  exact K_5 ((M 11 0).toNat + 1) ((M 11 0).toNat) (-1) 0 (by first | omega | assumption) (by first | omega | assumption) (by first | omega | assumption) (by first | omega | assumption) (by rw [lateM]) (by omega) _ (lv_sub hl [2, 3, 4, 1, 0] rfl)

abbrev rmct_L_share : Room := { frames := 2, cells := 0, slots := 0, locals := 46 }
set_option maxHeartbeats 4000000 in
set_option maxRecDepth 100000 in
theorem ct_L_share (l : Launch) (D : va_G) (cI cZ cJ : ClassId) (ld : Nat → Nat) (L M : ZS) (hG : GL L M) (x0 x1 : Int) (hx0 : ir x0) (hx1 : ir x1)  : Met l yL_share wsL_share rmct_L_share (zP D cI cZ cJ (lW cI ld L) [.ref (ld 0), .ref (ld 3), .ref (ld 4), .int (zi x0), .int (zi x1)]) (k2_QcV (.int (zi (b2 (shN M x0 x1))))) 0 0 (fun _ => False) := by
  refine Met.ofW (cc := cL_share) (maxL := 9) (ret := (some .boolean)) (by decide) rfl ?_
  intro p e s m args below meth c s₁ B hml hv
  obtain ⟨rfl, hP, hK⟩ := hv
  have hx := B.exec
  have hb := B.bytes
  have hr := B.returns
  have hts := atoms_spec (ws := wsL_share) B.pre
  have hown : s.vm.findClass RL = some m.cls := findClass_of_methodNamed B.named
  have hlocks := B.notSynchronized
  have hl := lv_entry ([.ref (ld 0), .ref (ld 3), .ref (ld 4), .int (zi x0), .int (zi x1)]) (n := 9) (Nat.le_of_ble_eq_true rfl)
  rw [lg_entry_eq]
  generalize (lg_sl ([.ref (ld 0), .ref (ld 3), .ref (ld 4), .int (zi x0), .int (zi x1)]) ++ List.replicate (9 - (lg_sl ([.ref (ld 0), .ref (ld 3), .ref (ld 4), .int (zi x0), .int (zi x1)])).length) Slot.unset).toArray = ls at hl ⊢
  have hl : lv_has ls 9 [(0, .ref (ld 0)), (1, .ref (ld 3)), (2, .ref (ld 4)), (3, .int (zi x0)), (4, .int (zi x1))] := hl
  show W p l e rmct_L_share s m ([.ref (ld 0), .ref (ld 3), .ref (ld 4), .int (zi x0), .int (zi x1)] : List Value).toArray below meth c s.heap [] 0 0 (MQ below (k2_QcV (.int (zi (b2 (shN M x0 x1))))) ([.ref (ld 0), .ref (ld 3), .ref (ld 4), .int (zi x0), .int (zi x1)] : List Value).toArray s 0 0 (fun _ => False)) (F0 m 0 ls [])
  refine zi_iconst hx hb dL_share_0 ?_
  refine lv_istore (lv' := [(5, .int (zi 0)), (0, .ref (ld 0)), (1, .ref (ld 3)), (2, .ref (ld 4)), (3, .int (zi x0)), (4, .int (zi x1))]) hx hb dL_share_1 hl (by decide) rfl (fun ls hl => ?_)
  refine zi_iconst hx hb dL_share_3 ?_
  have K_6 : ∀ (k : Nat) (n : Nat) (d9 j : Int), (j + (n : Int) = 1600) → (0 ≤ j) → (0 ≤ d9 ∧ d9 ≤ 1) → ((d9 = 1 ∧ shN M x0 x1) ∨ (d9 = 0 ∧ (anyI (fun j => M 7 (j / 40) = M 7 (j % 40) ∧ lookM M (j / 40) x0 ∧ lookM M (j % 40) x1) n j ↔ shN M x0 x1))) → ((n : Int) < (k : Int)) → ∀ (ls : Array Slot), lv_has ls 9 [(0, .ref (ld 0)), (1, .ref (ld 3)), (2, .ref (ld 4)), (3, .int (zi x0)), (4, .int (zi x1)), (5, .int (zi d9)), (6, .int (zi j))] → W p l e rmct_L_share s m ([.ref (ld 0), .ref (ld 3), .ref (ld 4), .int (zi x0), .int (zi x1)] : List Value).toArray below meth c s.heap [] 0 0 (MQ below (k2_QcV (.int (zi (b2 (shN M x0 x1))))) ([.ref (ld 0), .ref (ld 3), .ref (ld 4), .int (zi x0), .int (zi x1)] : List Value).toArray s 0 0 (fun _ => False)) (F0 m 6 ls []) := by
    intro k
    induction k with
    | zero => intro n d9 j h_n h_i h_b h_R hk; exact absurd hk (by omega)
    | succ k ih_6 =>
      intro n d9 j h_n h_i h_b h_R hk ls hl
      refine lv_iload hx hb dL_share_6 (lv_at hl 6 rfl) ?_
      refine lv_aload_n hx hb dL_share_8 rfl (lv_at hl 2 rfl) ?_
      refine zi_iconst hx hb dL_share_9 ?_
      refine zi_iald hx hb hK.1 hP 4 0 rfl rfl (by omega) (by omega) (by decide) dL_share_10 ?_
      refine zi_is 40 (GL.c hG).1 ?_
      have q_10 := GL.c hG
      refine lv_aload_n hx hb dL_share_11 rfl (lv_at hl 2 rfl) ?_
      refine zi_iconst hx hb dL_share_12 ?_
      refine zi_iald hx hb hK.1 hP 4 0 rfl rfl (by omega) (by omega) (by decide) dL_share_13 ?_
      refine zi_is 40 (GL.c hG).1 ?_
      have q_13 := GL.c hG
      refine zi_imul hx hb dL_share_14 ?_
      refine zi_icmp_ge (tgt := 90) hx hb ⟨by omega, by omega⟩ ⟨by omega, by omega⟩ dL_share_15 (by decide) (fun c_15 => ?_) (fun c_15 => ?_)
      · obtain rfl : n = 0 := by omega
        refine lv_iload hx hb dL_share_90 (lv_at hl 5 rfl) ?_
        exact zr_z hx hb hr hlocks dL_share_92 (by first | assumption | omega) (by exact sh_end h_R)
      · obtain ⟨n, rfl⟩ : ∃ n9 : Nat, n = n9 + 1 := ⟨n - 1, by omega⟩
        refine lv_iload hx hb dL_share_18 (lv_at hl 6 rfl) ?_
        refine lv_aload_n hx hb dL_share_20 rfl (lv_at hl 2 rfl) ?_
        refine zi_iconst hx hb dL_share_21 ?_
        refine zi_iald hx hb hK.1 hP 4 0 rfl rfl (by omega) (by omega) (by decide) dL_share_22 ?_
        refine zi_is 40 (GL.c hG).1 ?_
        have q_22 := GL.c hG
        refine zi_idiv hx hb ⟨by omega, by omega⟩ ⟨by omega, by omega⟩ (by omega) (by omega) dL_share_23 ?_
        refine zi_top (fun x7_24 ex7_24 => ?_)
        refine lv_istore (lv' := [(7, .int (zi x7_24)), (0, .ref (ld 0)), (1, .ref (ld 3)), (2, .ref (ld 4)), (3, .int (zi x0)), (4, .int (zi x1)), (5, .int (zi d9)), (6, .int (zi j))]) hx hb dL_share_24 hl (by decide) rfl (fun ls hl => ?_)
        refine lv_iload hx hb dL_share_26 (lv_at hl 7 rfl) ?_
        refine lv_aload_n hx hb dL_share_28 rfl (lv_at hl 3 rfl) ?_
        refine zi_iconst hx hb dL_share_29 ?_
        refine zi_iald hx hb hK.1 hP 4 0 rfl rfl (by omega) (by omega) (by decide) dL_share_30 ?_
        refine zi_is 40 (GL.c hG).1 ?_
        have q_30 := GL.c hG
        refine zi_irem hx hb ⟨by omega, by omega⟩ ⟨by omega, by omega⟩ (by omega) (by omega) dL_share_31 ?_
        refine zi_top (fun x8_32 ex8_32 => ?_)
        refine lv_istore (lv' := [(8, .int (zi x8_32)), (7, .int (zi x7_24)), (0, .ref (ld 0)), (1, .ref (ld 3)), (2, .ref (ld 4)), (3, .int (zi x0)), (4, .int (zi x1)), (5, .int (zi d9)), (6, .int (zi j))]) hx hb dL_share_32 hl (by decide) rfl (fun ls hl => ?_)
        refine lv_iload hx hb dL_share_34 (lv_at hl 7 rfl) ?_
        have K_82 : ∀ (v9 : Int), ((v9 = 1 ∧ (d9 = 1 ∨ (fun j => M 7 (j / 40) = M 7 (j % 40) ∧ lookM M (j / 40) x0 ∧ lookM M (j % 40) x1) j)) ∨ (v9 = 0 ∧ d9 = 0 ∧ ¬ (fun j => M 7 (j / 40) = M 7 (j % 40) ∧ lookM M (j / 40) x0 ∧ lookM M (j % 40) x1) j)) → ∀ (ls : Array Slot), lv_has ls 9 [(0, .ref (ld 0)), (1, .ref (ld 3)), (2, .ref (ld 4)), (3, .int (zi x0)), (4, .int (zi x1)), (6, .int (zi j))] → W p l e rmct_L_share s m ([.ref (ld 0), .ref (ld 3), .ref (ld 4), .int (zi x0), .int (zi x1)] : List Value).toArray below meth c s.heap [] 0 0 (MQ below (k2_QcV (.int (zi (b2 (shN M x0 x1))))) ([.ref (ld 0), .ref (ld 3), .ref (ld 4), .int (zi x0), .int (zi x1)] : List Value).toArray s 0 0 (fun _ => False)) (F0 m 82 ls [.int (zi v9)]) := by
          intro v9 h_v ls hl
          refine lv_istore (lv' := [(5, .int (zi v9)), (0, .ref (ld 0)), (1, .ref (ld 3)), (2, .ref (ld 4)), (3, .int (zi x0)), (4, .int (zi x1)), (6, .int (zi j))]) hx hb dL_share_82 hl (by decide) rfl (fun ls hl => ?_)
          refine zi_iinc (k := 6) (lv' := [(6, .int (zi (j + 1))), (5, .int (zi v9)), (0, .ref (ld 0)), (1, .ref (ld 3)), (2, .ref (ld 4)), (3, .int (zi x0)), (4, .int (zi x1))]) hx hb dL_share_84 hl rfl (by decide) rfl (fun ls hl => ?_)
          refine lv_goto (tgt := 6) hx hb dL_share_87 (by decide) ?_
          exact ih_6 n v9 (j + 1) (by first | omega | assumption) (by first | omega | assumption) ⟨by omega, by omega⟩ (sh_step h_R h_v) (by omega) _ (lv_sub hl [2, 3, 4, 5, 6, 1, 0] rfl)
        refine zi_if_ne (tgt := 77) hx hb ⟨by omega, by omega⟩ dL_share_36 (by decide) (fun c_36 => ?_) (fun c_36 => ?_)
        · refine zi_iconst hx hb dL_share_77 ?_
          refine lv_goto (tgt := 82) hx hb dL_share_78 (by decide) ?_
          exact K_82 1 (Or.inl ⟨rfl, Or.inl (by omega)⟩) _ (lv_sub hl [2, 3, 4, 5, 6, 8] rfl)
        · refine lv_aload_n hx hb dL_share_39 rfl (lv_at hl 2 rfl) ?_
          refine lv_iload hx hb dL_share_40 (lv_at hl 1 rfl) ?_
          refine zk_r (zc_S (As := [.ref (ld 0), .int (zi x7_24)]) (rest := []) ⟨hx, hb, hml, hown, hts⟩ (ct_L_plateOf l D cI cZ cJ ld L M hG x7_24 ⟨by omega, by omega⟩ ⟨by omega, by omega⟩) (va_cwS 2 hts gL_share_L_plateOf rfl rfl rfl (by decide +kernel) ⟨Nat.le_of_ble_eq_true rfl, Nat.le_of_ble_eq_true rfl⟩) hK hP rfl hl.1 rfl (Nat.le_of_ble_eq_true rfl) dL_share_42 ⟨Nat.zero_le _, Nat.zero_le _⟩) ?_
          refine zi_top (fun (r_42 : Int) (er_42 : r_42 = M 7 x7_24) => ?_)
          have fr_42 : (0 : Int) ≤ r_42 ∧ r_42 < 14 := by rw [er_42]; exact GL.pb hG (by omega) (by omega)
          refine lv_aload_n hx hb dL_share_45 rfl (lv_at hl 2 rfl) ?_
          refine lv_iload hx hb dL_share_46 (lv_at hl 0 rfl) ?_
          refine zk_r (zc_S (As := [.ref (ld 0), .int (zi x8_32)]) (rest := [.int (zi r_42)]) ⟨hx, hb, hml, hown, hts⟩ (ct_L_plateOf l D cI cZ cJ ld L M hG x8_32 ⟨by omega, by omega⟩ ⟨by omega, by omega⟩) (va_cwS 2 hts gL_share_L_plateOf rfl rfl rfl (by decide +kernel) ⟨Nat.le_of_ble_eq_true rfl, Nat.le_of_ble_eq_true rfl⟩) hK hP rfl hl.1 rfl (Nat.le_of_ble_eq_true rfl) dL_share_48 ⟨Nat.zero_le _, Nat.zero_le _⟩) ?_
          refine zi_top (fun (r_48 : Int) (er_48 : r_48 = M 7 x8_32) => ?_)
          have fr_48 : (0 : Int) ≤ r_48 ∧ r_48 < 14 := by rw [er_48]; exact GL.pb hG (by omega) (by omega)
          refine zi_icmp_ne (tgt := 81) hx hb ⟨by omega, by omega⟩ ⟨by omega, by omega⟩ dL_share_51 (by decide) (fun c_51 => ?_) (fun c_51 => ?_)
          · refine zi_iconst hx hb dL_share_81 ?_
            exact K_82 0 (Or.inr ⟨rfl, by omega, fun h9 => c_51 (by rw [er_42, er_48, ex7_24, ex8_32]; exact h9.1)⟩) _ (lv_sub hl [2, 3, 4, 5, 6, 8] rfl)
          · refine lv_aload_n hx hb dL_share_54 rfl (lv_at hl 2 rfl) ?_
            refine lv_aload_n hx hb dL_share_55 rfl (lv_at hl 3 rfl) ?_
            refine lv_iload hx hb dL_share_56 (lv_at hl 1 rfl) ?_
            refine lv_iload_n hx hb dL_share_58 rfl (lv_at hl 5 rfl) ?_
            refine zk_r (zc_S (As := [.ref (ld 0), .ref (ld 3), .int (zi x7_24), .int (zi x0)]) (rest := []) ⟨hx, hb, hml, hown, hts⟩ (ct_L_isLook l D cI cZ cJ ld L M hG x7_24 x0 ⟨by omega, by omega⟩ ⟨by omega, by omega⟩ ⟨by omega, by omega⟩) (va_cwS 4 hts gL_share_L_isLook rfl rfl rfl (by decide +kernel) ⟨Nat.le_of_ble_eq_true rfl, Nat.le_of_ble_eq_true rfl⟩) hK hP rfl hl.1 rfl (Nat.le_of_ble_eq_true rfl) dL_share_59 ⟨Nat.zero_le _, Nat.zero_le _⟩) ?_
            refine zi_top (fun (r_59 : Int) (er_59 : r_59 = b2 (lookM M x7_24 x0)) => ?_)
            have fr_59 : (0 : Int) ≤ r_59 ∧ r_59 ≤ 1 := by rw [er_59]; exact b2_b
            refine zi_if_eq (tgt := 81) hx hb ⟨by omega, by omega⟩ dL_share_62 (by decide) (fun c_62 => ?_) (fun c_62 => ?_)
            · refine zi_iconst hx hb dL_share_81 ?_
              exact K_82 0 (Or.inr ⟨rfl, by omega, fun h9 => b2_0 er_59 c_62 (by rw [ex7_24]; exact h9.2.1)⟩) _ (lv_sub hl [2, 3, 4, 5, 6, 8] rfl)
            · refine lv_aload_n hx hb dL_share_65 rfl (lv_at hl 2 rfl) ?_
              refine lv_aload_n hx hb dL_share_66 rfl (lv_at hl 3 rfl) ?_
              refine lv_iload hx hb dL_share_67 (lv_at hl 0 rfl) ?_
              refine lv_iload hx hb dL_share_69 (lv_at hl 6 rfl) ?_
              refine zk_r (zc_S (As := [.ref (ld 0), .ref (ld 3), .int (zi x8_32), .int (zi x1)]) (rest := []) ⟨hx, hb, hml, hown, hts⟩ (ct_L_isLook l D cI cZ cJ ld L M hG x8_32 x1 ⟨by omega, by omega⟩ ⟨by omega, by omega⟩ ⟨by omega, by omega⟩) (va_cwS 4 hts gL_share_L_isLook rfl rfl rfl (by decide +kernel) ⟨Nat.le_of_ble_eq_true rfl, Nat.le_of_ble_eq_true rfl⟩) hK hP rfl hl.1 rfl (Nat.le_of_ble_eq_true rfl) dL_share_71 ⟨Nat.zero_le _, Nat.zero_le _⟩) ?_
              refine zi_top (fun (r_71 : Int) (er_71 : r_71 = b2 (lookM M x8_32 x1)) => ?_)
              have fr_71 : (0 : Int) ≤ r_71 ∧ r_71 ≤ 1 := by rw [er_71]; exact b2_b
              refine zi_if_eq (tgt := 81) hx hb ⟨by omega, by omega⟩ dL_share_74 (by decide) (fun c_74 => ?_) (fun c_74 => ?_)
              · refine zi_iconst hx hb dL_share_81 ?_
                exact K_82 0 (Or.inr ⟨rfl, by omega, fun h9 => b2_0 er_71 c_74 (by rw [ex8_32]; exact h9.2.2)⟩) _ (lv_sub hl [2, 3, 4, 5, 6, 8] rfl)
              · refine zi_iconst hx hb dL_share_77 ?_
                refine lv_goto (tgt := 82) hx hb dL_share_78 (by decide) ?_
                exact K_82 1 (Or.inl ⟨rfl, Or.inr ⟨by rw [← ex7_24, ← ex8_32, ← er_42, ← er_48]; exact c_51, by rw [← ex7_24]; exact b2_1 er_59 c_62, by rw [← ex8_32]; exact b2_1 er_71 c_74⟩⟩) _ (lv_sub hl [2, 3, 4, 5, 6, 8] rfl)
  refine lv_istore (lv' := [(6, .int (zi 0)), (5, .int (zi 0)), (0, .ref (ld 0)), (1, .ref (ld 3)), (2, .ref (ld 4)), (3, .int (zi x0)), (4, .int (zi x1))]) hx hb dL_share_4 hl (by decide) rfl (fun ls hl => ?_)
  exact K_6 1601 1600 0 0 (by first | omega | assumption) (by first | omega | assumption) (by first | omega | assumption) (Or.inr ⟨rfl, by rw [shN]⟩) (by omega) _ (lv_sub hl [2, 3, 4, 5, 6, 1, 0] rfl)

