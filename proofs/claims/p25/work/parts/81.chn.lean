theorem kE_len {M : ZS} (hM : MB M) {b : Int} : 0 ≤ ((kE M b).length : Int) ∧ ((kE M b).length : Int) ≤ 1458000 := by
  have h := nodup_le (ens_nodup (fun k => Ak_ok hM b k)) (l2 := rg 1458000 0) (fun x hx => rg_mem.mpr (by have := ens_b x hx; omega))
  rw [rg_len] at h
  unfold kE
  omega
abbrev rmct_L_isChance : Room := { frames := 8, cells := 15, slots := 90, locals := 150 }
set_option maxHeartbeats 8000000 in
set_option maxRecDepth 100000 in
theorem ct_L_isChance (l : Launch) (hst : l.stackTraces = false) (D : va_G) (cI cZ cJ : ClassId) (sa ad ld : Nat → Nat) (S L M : ZS) (hdis : bDis ad ld) (hG : GL L M) (hD : DK S M) (x0 x1 : Int) (hx0 : ir x0) (hx1 : ir x1) (hp0 : 0 ≤ x0) (hp1 : 0 ≤ x1 ∧ x1 < M 11 0) : Met l yL_isChance wsL_isChance rmct_L_isChance (zPb D cI cZ cJ sa ad ld S L [.ref (ad 0), .int (zi x0), .int (zi x1)]) (zWb D cI ad ld (fun r S9 L9 => r = 1 ∧ L9 = L ∧ DK S9 M)) 15 90 (bA ad ld) := by
  refine Met.ofW (cc := cL_isChance) (maxL := 10) (ret := (some .boolean)) (by decide) rfl ?_
  intro p e s m args below meth c s₁ B hml hv
  obtain ⟨rfl, hP, hL, hK, hX, hQ⟩ := hv
  have hx := B.exec
  have hb := B.bytes
  have hr := B.returns
  have hts := atoms_spec (ws := wsL_isChance) B.pre
  have hown : s.vm.findClass RL = some m.cls := findClass_of_methodNamed B.named
  have hlocks := B.notSynchronized
  have hl := lv_entry ([.ref (ad 0), .int (zi x0), .int (zi x1)]) (n := 10) (Nat.le_of_ble_eq_true rfl)
  rw [lg_entry_eq]
  generalize (lg_sl ([.ref (ad 0), .int (zi x0), .int (zi x1)]) ++ List.replicate (10 - (lg_sl ([.ref (ad 0), .int (zi x0), .int (zi x1)])).length) Slot.unset).toArray = ls at hl ⊢
  have hl : lv_has ls 10 [(0, .ref (ad 0)), (1, .int (zi x0)), (2, .int (zi x1))] := hl
  have hS : va_S (bA ad ld) s.heap s.heap [] := va_S.rf
  show W p l e rmct_L_isChance s m ([.ref (ad 0), .int (zi x0), .int (zi x1)] : List Value).toArray below meth c s.heap [] 0 0 (MQ below (zWb D cI ad ld (fun r S9 L9 => r = 1 ∧ L9 = L ∧ DK S9 M)) ([.ref (ad 0), .int (zi x0), .int (zi x1)] : List Value).toArray s 15 90 (bA ad ld)) (F0 m 0 ls [])
  have q0 := GL.c hG
  refine zi_iconst hx hb dL_isChance_0 ?_
  refine lv_iload_n hx hb dL_isChance_1 rfl (lv_at hl 1 rfl) ?_
  refine zi_bipush hx hb dL_isChance_2 (by decide) ?_
  refine zi_irem hx hb ⟨by omega, by omega⟩ ⟨by omega, by omega⟩ (by omega) (by omega) dL_isChance_4 ?_
  refine zi_iadd hx hb dL_isChance_5 ?_
  refine zi_top (fun x3_6 ex3_6 => ?_)
  refine lv_istore_n (lv' := [(3, .int (zi x3_6)), (0, .ref (ad 0)), (1, .int (zi x0)), (2, .int (zi x1))]) hx hb dL_isChance_6 rfl hl (by decide) rfl (fun ls hl => ?_)
  refine lv_iload_n hx hb dL_isChance_7 rfl (lv_at hl 2 rfl) ?_
  refine zi_bipush hx hb dL_isChance_8 (by decide) ?_
  refine zi_idiv hx hb ⟨by omega, by omega⟩ ⟨by omega, by omega⟩ (by omega) (by omega) dL_isChance_10 ?_
  refine zi_sipush hx hb dL_isChance_11 (by decide) ?_
  refine zi_irem hx hb ⟨by omega, by omega⟩ ⟨by omega, by omega⟩ (by omega) (by omega) dL_isChance_14 ?_
  refine zi_top (fun x4_15 ex4_15 => ?_)
  refine lv_istore (lv' := [(4, .int (zi x4_15)), (3, .int (zi x3_6)), (0, .ref (ad 0)), (1, .int (zi x0)), (2, .int (zi x1))]) hx hb dL_isChance_15 hl (by decide) rfl (fun ls hl => ?_)
  refine lv_aload_n hx hb dL_isChance_17 rfl (lv_at hl 2 rfl) ?_
  refine lv_iload_n hx hb dL_isChance_18 rfl (lv_at hl 4 rfl) ?_
  refine lv_iload hx hb dL_isChance_19 (lv_at hl 0 rfl) ?_
  refine lv_iload_n hx hb dL_isChance_21 rfl (lv_at hl 1 rfl) ?_
  refine zi_iconst hx hb dL_isChance_22 ?_
  refine lc_pub (ld := ld) (L0 := L) (As := [.int (zi x1), .int (zi x4_15), .int (zi x3_6), .int (zi 0)]) (rest := []) (A0 := bA ad ld) ⟨hx, hb, hml, hown, hts⟩ (ct_X7_chance l hst D cI cZ cJ sa ad S hD.1 hdis.1 x1 x4_15 x3_6 0 ⟨by omega, by omega⟩ ⟨by omega, by omega⟩ ⟨by omega, by omega⟩ ⟨by decide, by decide⟩ (hw_of hD)) (cwV 4 hts gL_isChance_X7_chance rfl rfl rfl (by decide +kernel) ⟨Nat.le_of_ble_eq_true rfl, Nat.le_of_ble_eq_true rfl⟩) rfl hK hX hdis (fun _ h => h) hS hP hL (nox_chance (w := 0) hD (by omega) (by omega) ⟨by omega, by omega⟩ ⟨by omega, by omega⟩ ⟨by omega, by omega⟩) rfl hl.1 rfl (Nat.le_of_ble_eq_true rfl) dL_isChance_23 ⟨(by show _ ≤ (15 : Nat); omega), (by show _ ≤ (90 : Nat); omega)⟩ (fun r_23 S_23 H locs hp_23 _ _ hP hL hS => ?_)
  obtain ⟨er_23, hD_23⟩ := q_chance hD (by omega) (by omega) (by omega) hp_23
  refine lv_istore (lv' := [(5, .int (zi r_23)), (4, .int (zi x4_15)), (3, .int (zi x3_6)), (0, .ref (ad 0)), (1, .int (zi x0)), (2, .int (zi x1))]) hx hb dL_isChance_26 hl (by decide) rfl (fun ls hl => ?_)
  refine lv_aload_n hx hb dL_isChance_28 rfl (lv_at hl 3 rfl) ?_
  refine lv_iload_n hx hb dL_isChance_29 rfl (lv_at hl 5 rfl) ?_
  refine lv_iload hx hb dL_isChance_30 (lv_at hl 1 rfl) ?_
  refine lv_iload_n hx hb dL_isChance_32 rfl (lv_at hl 2 rfl) ?_
  refine zi_iconst hx hb dL_isChance_33 ?_
  refine lc_pub (ld := ld) (L0 := L) (As := [.int (zi x1), .int (zi x4_15), .int (zi x3_6), .int (zi 1)]) (rest := []) (A0 := bA ad ld) ⟨hx, hb, hml, hown, hts⟩ (ct_X7_chance l hst D cI cZ cJ sa ad S_23 hD_23.1 hdis.1 x1 x4_15 x3_6 1 ⟨by omega, by omega⟩ ⟨by omega, by omega⟩ ⟨by omega, by omega⟩ ⟨by decide, by decide⟩ (hw_of hD_23)) (cwV 4 hts gL_isChance_X7_chance rfl rfl rfl (by decide +kernel) ⟨Nat.le_of_ble_eq_true rfl, Nat.le_of_ble_eq_true rfl⟩) rfl hK hX hdis (fun _ h => h) hS hP hL (nox_chance (w := 1) hD_23 (by omega) (by omega) ⟨by omega, by omega⟩ ⟨by omega, by omega⟩ ⟨by omega, by omega⟩) rfl hl.1 rfl (Nat.le_of_ble_eq_true rfl) dL_isChance_34 ⟨(by show _ ≤ (15 : Nat); omega), (by show _ ≤ (90 : Nat); omega)⟩ (fun r_34 S_34 H locs hp_34 _ _ hP hL hS => ?_)
  obtain ⟨er_34, hD_34⟩ := q_chance hD_23 (by omega) (by omega) (by omega) hp_34
  refine lv_istore (lv' := [(6, .int (zi r_34)), (5, .int (zi r_23)), (4, .int (zi x4_15)), (3, .int (zi x3_6)), (0, .ref (ad 0)), (1, .int (zi x0)), (2, .int (zi x1))]) hx hb dL_isChance_37 hl (by decide) rfl (fun ls hl => ?_)
  refine lv_aload_n hx hb dL_isChance_39 rfl (lv_at hl 4 rfl) ?_
  refine lv_iload_n hx hb dL_isChance_40 rfl (lv_at hl 6 rfl) ?_
  refine lc_pub (ld := ld) (L0 := L) (As := [.int (zi x1)]) (rest := []) (A0 := bA ad ld) ⟨hx, hb, hml, hown, hts⟩ (ct_X7_orbits l hst D cI cZ cJ sa ad S_34 hD_34.1 hdis.1 x1 ⟨by omega, by omega⟩) (cwV 1 hts gL_isChance_X7_orbits rfl rfl rfl (by decide +kernel) ⟨Nat.le_of_ble_eq_true rfl, Nat.le_of_ble_eq_true rfl⟩) rfl hK hX hdis (fun _ h => h) hS hP hL (nox_orbits hD_34 (by omega) (by omega)) rfl hl.1 rfl (Nat.le_of_ble_eq_true rfl) dL_isChance_41 ⟨(by show _ ≤ (15 : Nat); omega), (by show _ ≤ (90 : Nat); omega)⟩ (fun r_41 S_41 H locs hp_41 _ _ hP hL hS => ?_)
  obtain ⟨er_41, hD_41⟩ := q_orbits hD_34 (by omega) (by omega) hp_41
  have q9 := ch_facts hD (b := x1) (f := x4_15) (n := x3_6) (by omega) (by omega) (by omega) er_23.2.2
  rw [← er_23.2.1, ← er_34.2.1, ← er_41] at q9
  refine lv_istore (lv' := [(7, .int (zi r_41)), (6, .int (zi r_34)), (5, .int (zi r_23)), (4, .int (zi x4_15)), (3, .int (zi x3_6)), (0, .ref (ad 0)), (1, .int (zi x0)), (2, .int (zi x1))]) hx hb dL_isChance_44 hl (by decide) rfl (fun ls hl => ?_)
  have hb41 := kE_len hG.2.1 (b := x1)
  refine lv_iload hx hb dL_isChance_46 (lv_at hl 0 rfl) ?_
  refine zi_if_ne (tgt := 67) hx hb ⟨by omega, by omega⟩ dL_isChance_48 (by decide) (fun c_48 => ?_) (fun c_48 => ?_)
  · obtain ⟨q1, q2, q3, q4, q5, q6, q7, q8⟩ := q9.2 (by omega)
    refine lv_iload hx hb dL_isChance_67 (lv_at hl 2 rfl) ?_
    refine zi_if_lt (tgt := 135) hx hb ⟨by omega, by omega⟩ dL_isChance_69 (by decide) (fun c_69 => ?_) (fun c_69 => ?_)
    · exact absurd c_69 (by omega)
    · refine lv_iload hx hb dL_isChance_72 (lv_at hl 2 rfl) ?_
      refine lv_iload hx hb dL_isChance_74 (lv_at hl 1 rfl) ?_
      refine zi_icmp_gt (tgt := 135) hx hb ⟨by omega, by omega⟩ ⟨by omega, by omega⟩ dL_isChance_76 (by decide) (fun c_76 => ?_) (fun c_76 => ?_)
      · exact absurd c_76 (by omega)
      · refine lv_iload hx hb dL_isChance_79 (lv_at hl 2 rfl) ?_
        have K_90 : ∀ (ls : Array Slot), lv_has ls 10 [(0, .ref (ad 0)), (1, .int (zi x0)), (2, .int (zi x1)), (3, .int (zi x3_6)), (4, .int (zi x4_15)), (5, .int (zi r_23)), (6, .int (zi r_34)), (7, .int (zi r_41))] → W p l e rmct_L_isChance s m ([.ref (ad 0), .int (zi x0), .int (zi x1)] : List Value).toArray below meth c H locs (0 + 5 + 5 + 2) (0 + 30 + 30 + 12) (MQ below (zWb D cI ad ld (fun r S9 L9 => r = 1 ∧ L9 = L ∧ DK S9 M)) ([.ref (ad 0), .int (zi x0), .int (zi x1)] : List Value).toArray s 15 90 (bA ad ld)) (F0 m 90 ls []) := by
          intro ls hl
          refine lv_iload_n hx hb dL_isChance_90 rfl (lv_at hl 3 rfl) ?_
          refine zi_iconst hx hb dL_isChance_91 ?_
          have K_113 : ∀ (ls : Array Slot), lv_has ls 10 [(0, .ref (ad 0)), (1, .int (zi x0)), (2, .int (zi x1)), (3, .int (zi x3_6)), (4, .int (zi x4_15)), (5, .int (zi r_23)), (6, .int (zi r_34)), (7, .int (zi r_41))] → W p l e rmct_L_isChance s m ([.ref (ad 0), .int (zi x0), .int (zi x1)] : List Value).toArray below meth c H locs (0 + 5 + 5 + 2) (0 + 30 + 30 + 12) (MQ below (zWb D cI ad ld (fun r S9 L9 => r = 1 ∧ L9 = L ∧ DK S9 M)) ([.ref (ad 0), .int (zi x0), .int (zi x1)] : List Value).toArray s 15 90 (bA ad ld)) (F0 m 113 ls []) := by
            intro ls hl
            refine lv_iload_n hx hb dL_isChance_113 rfl (lv_at hl 3 rfl) ?_
            refine zi_iconst hx hb dL_isChance_114 ?_
            have K_131 : ∀ (T : ZS), (DK T M) → ∀ (H : Heap) (locs : List Loc), va_P D vwCl (dW cI ad T) H → va_P D vwCl (lW cI ld L) H → va_S (bA ad ld) s.heap H locs → ∀ (ls : Array Slot), lv_has ls 10 [(0, .ref (ad 0)), (1, .int (zi x0)), (2, .int (zi x1)), (3, .int (zi x3_6)), (4, .int (zi x4_15)), (5, .int (zi r_23)), (6, .int (zi r_34)), (7, .int (zi r_41))] → W p l e rmct_L_isChance s m ([.ref (ad 0), .int (zi x0), .int (zi x1)] : List Value).toArray below meth c H locs 15 90 (MQ below (zWb D cI ad ld (fun r S9 L9 => r = 1 ∧ L9 = L ∧ DK S9 M)) ([.ref (ad 0), .int (zi x0), .int (zi x1)] : List Value).toArray s 15 90 (bA ad ld)) (F0 m 131 ls []) := by
              intro T hD_T H locs hP hL hS ls hl
              refine zi_iconst hx hb dL_isChance_131 ?_
              refine lv_goto (tgt := 136) hx hb dL_isChance_132 (by decide) ?_
              refine lv_istore (lv' := [(8, .int (zi 1)), (0, .ref (ad 0)), (1, .int (zi x0)), (2, .int (zi x1)), (3, .int (zi x3_6)), (4, .int (zi x4_15)), (5, .int (zi r_23)), (6, .int (zi r_34)), (7, .int (zi r_41))]) hx hb dL_isChance_136 hl (by decide) rfl (fun ls hl => ?_)
              refine zi_iconst hx hb dL_isChance_138 ?_
              have K_141 : ∀ (k : Nat) (d9 k9 : Int), (d9 = 1) → (2 ≤ k9 ∧ k9 ≤ 100) → (100 - k9 < (k : Int)) → ∀ (ls : Array Slot), lv_has ls 10 [(0, .ref (ad 0)), (1, .int (zi x0)), (2, .int (zi x1)), (3, .int (zi x3_6)), (4, .int (zi x4_15)), (5, .int (zi r_23)), (6, .int (zi r_34)), (7, .int (zi r_41)), (8, .int (zi d9)), (9, .int (zi k9))] → W p l e rmct_L_isChance s m ([.ref (ad 0), .int (zi x0), .int (zi x1)] : List Value).toArray below meth c H locs 15 90 (MQ below (zWb D cI ad ld (fun r S9 L9 => r = 1 ∧ L9 = L ∧ DK S9 M)) ([.ref (ad 0), .int (zi x0), .int (zi x1)] : List Value).toArray s 15 90 (bA ad ld)) (F0 m 141 ls []) := by
                intro k
                induction k with
                | zero => intro d9 k9 h_d h_k hk; exact absurd hk (by omega)
                | succ k ih_141 =>
                  intro d9 k9 h_d h_k hk ls hl
                  refine lv_iload hx hb dL_isChance_141 (lv_at hl 9 rfl) ?_
                  refine lv_iload hx hb dL_isChance_143 (lv_at hl 6 rfl) ?_
                  refine zi_icmp_gt (tgt := 189) hx hb ⟨by omega, by omega⟩ ⟨by omega, by omega⟩ dL_isChance_145 (by decide) (fun c_145 => ?_) (fun c_145 => ?_)
                  · refine lv_iload hx hb dL_isChance_189 (lv_at hl 8 rfl) ?_
                    exact lr_wz (S1 := T) (L1 := L) hx hb hr hlocks dL_isChance_191 (by first | assumption | omega) hP hL hS ⟨by omega, by omega⟩ (by exact ⟨by omega, rfl, hD_T⟩)
                  · refine lv_iload hx hb dL_isChance_148 (lv_at hl 9 rfl) ?_
                    refine zi_bipush hx hb dL_isChance_150 (by decide) ?_
                    refine zi_icmp_ge (tgt := 189) hx hb ⟨by omega, by omega⟩ ⟨by decide, by decide⟩ dL_isChance_152 (by decide) (fun c_152 => ?_) (fun c_152 => ?_)
                    · refine lv_iload hx hb dL_isChance_189 (lv_at hl 8 rfl) ?_
                      exact lr_wz (S1 := T) (L1 := L) hx hb hr hlocks dL_isChance_191 (by first | assumption | omega) hP hL hS ⟨by omega, by omega⟩ (by exact ⟨by omega, rfl, hD_T⟩)
                    · refine lv_iload hx hb dL_isChance_155 (lv_at hl 8 rfl) ?_
                      refine zi_if_eq (tgt := 180) hx hb ⟨by omega, by omega⟩ dL_isChance_157 (by decide) (fun c_157 => ?_) (fun c_157 => ?_)
                      · exact absurd c_157 (by omega)
                      · refine lv_iload hx hb dL_isChance_160 (lv_at hl 5 rfl) ?_
                        refine lv_iload hx hb dL_isChance_162 (lv_at hl 9 rfl) ?_
                        refine zi_irem hx hb ⟨by omega, by omega⟩ ⟨by omega, by omega⟩ (by omega) (by omega) dL_isChance_164 ?_
                        have K_176 : ∀ (ls : Array Slot), lv_has ls 10 [(0, .ref (ad 0)), (1, .int (zi x0)), (2, .int (zi x1)), (3, .int (zi x3_6)), (4, .int (zi x4_15)), (5, .int (zi r_23)), (6, .int (zi r_34)), (7, .int (zi r_41)), (8, .int (zi d9)), (9, .int (zi k9))] → W p l e rmct_L_isChance s m ([.ref (ad 0), .int (zi x0), .int (zi x1)] : List Value).toArray below meth c H locs 15 90 (MQ below (zWb D cI ad ld (fun r S9 L9 => r = 1 ∧ L9 = L ∧ DK S9 M)) ([.ref (ad 0), .int (zi x0), .int (zi x1)] : List Value).toArray s 15 90 (bA ad ld)) (F0 m 176 ls []) := by
                          intro ls hl
                          refine zi_iconst hx hb dL_isChance_176 ?_
                          refine lv_goto (tgt := 181) hx hb dL_isChance_177 (by decide) ?_
                          refine lv_istore (lv' := [(8, .int (zi 1)), (0, .ref (ad 0)), (1, .int (zi x0)), (2, .int (zi x1)), (3, .int (zi x3_6)), (4, .int (zi x4_15)), (5, .int (zi r_23)), (6, .int (zi r_34)), (7, .int (zi r_41)), (9, .int (zi k9))]) hx hb dL_isChance_181 hl (by decide) rfl (fun ls hl => ?_)
                          refine zi_iinc (k := 9) (lv' := [(9, .int (zi (k9 + 1))), (8, .int (zi 1)), (0, .ref (ad 0)), (1, .int (zi x0)), (2, .int (zi x1)), (3, .int (zi x3_6)), (4, .int (zi x4_15)), (5, .int (zi r_23)), (6, .int (zi r_34)), (7, .int (zi r_41))]) hx hb dL_isChance_183 hl rfl (by decide) rfl (fun ls hl => ?_)
                          refine lv_goto (tgt := 141) hx hb dL_isChance_186 (by decide) ?_
                          exact ih_141 1 (k9 + 1) (by first | omega | assumption) (by first | omega | assumption) (by omega) _ (lv_sub hl [2, 3, 4, 5, 6, 7, 8, 9, 1, 0] rfl)
                        have m1_ := Int.emod_nonneg r_23 (show k9 ≠ 0 by omega)
                        have m2_ := Int.emod_lt_of_pos r_23 (show 0 < k9 by omega)
                        refine zi_if_gt (tgt := 176) hx hb ⟨by omega, by omega⟩ dL_isChance_165 (by decide) (fun c_165 => ?_) (fun c_165 => ?_)
                        · exact K_176 _ (lv_sub hl [0, 1, 2, 3, 4, 5, 6, 7, 8, 9] rfl)
                        · refine lv_iload hx hb dL_isChance_168 (lv_at hl 6 rfl) ?_
                          refine lv_iload hx hb dL_isChance_170 (lv_at hl 9 rfl) ?_
                          refine zi_irem hx hb ⟨by omega, by omega⟩ ⟨by omega, by omega⟩ (by omega) (by omega) dL_isChance_172 ?_
                          have m1_ := Int.emod_nonneg r_34 (show k9 ≠ 0 by omega)
                          have m2_ := Int.emod_lt_of_pos r_34 (show 0 < k9 by omega)
                          refine zi_if_le (tgt := 180) hx hb ⟨by omega, by omega⟩ dL_isChance_173 (by decide) (fun c_173 => ?_) (fun c_173 => ?_)
                          · exact absurd c_173 (by intro h9; have n1 := Int.emod_nonneg r_23 (show k9 ≠ 0 by omega); have n2 := Int.emod_nonneg r_34 (show k9 ≠ 0 by omega); exact q8 k9 h_k.1 ⟨by omega, by omega⟩)
                          · exact K_176 _ (lv_sub hl [0, 1, 2, 3, 4, 5, 6, 7, 8, 9] rfl)
              refine lv_istore (lv' := [(9, .int (zi 2)), (8, .int (zi 1)), (0, .ref (ad 0)), (1, .int (zi x0)), (2, .int (zi x1)), (3, .int (zi x3_6)), (4, .int (zi x4_15)), (5, .int (zi r_23)), (6, .int (zi r_34)), (7, .int (zi r_41))]) hx hb dL_isChance_139 hl (by decide) rfl (fun ls hl => ?_)
              exact K_141 99 1 2 (by first | omega | assumption) (by first | omega | assumption) (by omega) _ (lv_sub hl [2, 3, 4, 5, 6, 7, 8, 9, 1, 0] rfl)
            refine zi_icmp_gt (tgt := 131) hx hb ⟨by omega, by omega⟩ ⟨by decide, by decide⟩ dL_isChance_115 (by decide) (fun c_115 => ?_) (fun c_115 => ?_)
            · exact lw_wd (by omega) (by omega) (K_131 S_41 hD_41 _ _ hP hL hS _ (lv_sub hl [0, 1, 2, 3, 4, 5, 6, 7] rfl))
            · refine lv_aload_n hx hb dL_isChance_118 rfl (lv_at hl 0 rfl) ?_
              refine lv_iload_n hx hb dL_isChance_119 rfl (lv_at hl 2 rfl) ?_
              refine lv_iload hx hb dL_isChance_120 (lv_at hl 4 rfl) ?_
              refine lc_pub (ld := ld) (L0 := L) (As := [.int (zi x1), .int (zi x4_15)]) (rest := []) (A0 := bA ad ld) ⟨hx, hb, hml, hown, hts⟩ (ct_X7_spread l hst D cI cZ cJ sa ad S_41 hD_41.1 hdis.1 x1 x4_15 ⟨by omega, by omega⟩ ⟨by omega, by omega⟩) (cwV 2 hts gL_isChance_X7_spread rfl rfl rfl (by decide +kernel) ⟨Nat.le_of_ble_eq_true rfl, Nat.le_of_ble_eq_true rfl⟩) rfl hK hX hdis (fun _ h => h) hS hP hL (nox_spread hD_41 (by omega) (by omega) ⟨by omega, by omega⟩) rfl hl.1 rfl (Nat.le_of_ble_eq_true rfl) dL_isChance_122 ⟨(by show _ ≤ (15 : Nat); omega), (by show _ ≤ (90 : Nat); omega)⟩ (fun r_122 S_122 H locs hp_122 _ _ hP hL hS => ?_)
              obtain ⟨er_122, hD_122⟩ := q_spread hD_41 (by omega) (by omega) hp_122
              have sp_ := sp_le (l := kE M x1) (t := x4_15)
              rw [← er_122] at sp_
              refine lv_iload hx hb dL_isChance_125 (lv_at hl 6 rfl) ?_
              refine zi_irem hx hb ⟨by omega, by omega⟩ ⟨by omega, by omega⟩ (by omega) (by omega) dL_isChance_127 ?_
              have m1_ := Int.emod_nonneg r_122 (show r_34 ≠ 0 by omega)
              have m2_ := Int.emod_lt_of_pos r_122 (show 0 < r_34 by omega)
              refine zi_if_ne (tgt := 135) hx hb ⟨by omega, by omega⟩ dL_isChance_128 (by decide) (fun c_128 => ?_) (fun c_128 => ?_)
              · exact absurd c_128 (by have := q7 (by omega); rw [← er_122] at this; omega)
              · exact lw_wd (by omega) (by omega) (K_131 S_122 hD_122 _ _ hP hL hS _ (lv_sub hl [0, 1, 2, 3, 4, 5, 6, 7] rfl))
          refine zi_icmp_ge (tgt := 105) hx hb ⟨by omega, by omega⟩ ⟨by decide, by decide⟩ dL_isChance_92 (by decide) (fun c_92 => ?_) (fun c_92 => ?_)
          · refine lv_iload hx hb dL_isChance_105 (lv_at hl 7 rfl) ?_
            refine lv_iload hx hb dL_isChance_107 (lv_at hl 6 rfl) ?_
            refine zi_irem hx hb ⟨by omega, by omega⟩ ⟨by omega, by omega⟩ (by omega) (by omega) dL_isChance_109 ?_
            have m1_ := Int.emod_nonneg r_41 (show r_34 ≠ 0 by omega)
            have m2_ := Int.emod_lt_of_pos r_41 (show 0 < r_34 by omega)
            refine zi_if_ne (tgt := 135) hx hb ⟨by omega, by omega⟩ dL_isChance_110 (by decide) (fun c_110 => ?_) (fun c_110 => ?_)
            · exact absurd c_110 (by have := q6 (by omega); omega)
            · exact K_113 _ (lv_sub hl [0, 1, 2, 3, 4, 5, 6, 7] rfl)
          · refine lv_iload hx hb dL_isChance_95 (lv_at hl 6 rfl) ?_
            refine lv_iload hx hb dL_isChance_97 (lv_at hl 7 rfl) ?_
            refine zi_icmp_gt (tgt := 135) hx hb ⟨by omega, by omega⟩ ⟨by omega, by omega⟩ dL_isChance_99 (by decide) (fun c_99 => ?_) (fun c_99 => ?_)
            · exact absurd c_99 (by omega)
            · refine lv_goto (tgt := 113) hx hb dL_isChance_102 (by decide) ?_
              exact K_113 _ (lv_sub hl [0, 1, 2, 3, 4, 5, 6, 7] rfl)
        refine zi_if_gt (tgt := 90) hx hb ⟨by omega, by omega⟩ dL_isChance_81 (by decide) (fun c_81 => ?_) (fun c_81 => ?_)
        · exact K_90 _ (lv_sub hl [5, 6, 7, 4, 3, 2, 1, 0] rfl)
        · refine lv_iload hx hb dL_isChance_84 (lv_at hl 1 rfl) ?_
          refine zi_iconst hx hb dL_isChance_86 ?_
          refine zi_icmp_ne (tgt := 135) hx hb ⟨by omega, by omega⟩ ⟨by decide, by decide⟩ dL_isChance_87 (by decide) (fun c_87 => ?_) (fun c_87 => ?_)
          · exact absurd c_87 (by omega)
          · exact K_90 _ (lv_sub hl [5, 6, 7, 4, 3, 2, 1, 0] rfl)
  · obtain ⟨z1, z2⟩ := q9.1 (by omega)
    refine lv_iload hx hb dL_isChance_51 (lv_at hl 2 rfl) ?_
    refine zi_if_ne (tgt := 65) hx hb ⟨by omega, by omega⟩ dL_isChance_53 (by decide) (fun c_53 => ?_) (fun c_53 => ?_)
    · exact absurd c_53 (by have := q9.1 (by omega); omega)
    · refine lv_iload hx hb dL_isChance_56 (lv_at hl 1 rfl) ?_
      refine zi_if_ne (tgt := 65) hx hb ⟨by omega, by omega⟩ dL_isChance_58 (by decide) (fun c_58 => ?_) (fun c_58 => ?_)
      · exact absurd c_58 (by have := q9.1 (by omega); omega)
      · refine zi_iconst hx hb dL_isChance_61 ?_
        refine lv_goto (tgt := 66) hx hb dL_isChance_62 (by decide) ?_
        exact lr_wz (S1 := S_41) (L1 := L) hx hb hr hlocks dL_isChance_66 (Or.inr rfl) hP hL hS ⟨by omega, by omega⟩ (by exact ⟨by omega, rfl, hD_41⟩)
