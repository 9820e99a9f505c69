theorem add_ite {c : Prop} [Decidable c] {n : Int} : (n + if c then 1 else 0) = if c then n + 1 else n := by split <;> omega
theorem fm_rng {M : ZS} (hM : MB M) (hi : Inv M) (d : Int) {k : Int} (h0 : 0 ≤ k) (h1 : k < M 11 0) : -1 ≤ rcM d M 30 k ∧ rcM d M 30 k < M 11 0 := by
  by_cases hk : 0 < M 14 k
  · have h := (fm_yes hM hi d ⟨h0, h1, hk⟩).1
    obtain ⟨a, b, c⟩ := h
    exact ⟨by omega, b⟩
  · have h9 : (0 : Int) ≤ M 14 k ∧ M 14 k ≤ 20 := hM 14 k
    have := fm_no hM d h0 h1 (by omega)
    omega
theorem fcN_b {M : ZS} {d : Int} : 0 ≤ fcN M d ∧ fcN M d ≤ (M 11 0).toNat := by
  have h := cnt_b (fun k => rcM d M 30 k = k) (M 11 0).toNat 0 0
  unfold fcN
  omega
abbrev rmct_L_areFamilies : Room := { frames := 8, cells := 620, slots := 3720, locals := 140 }
set_option maxHeartbeats 8000000 in
set_option maxRecDepth 100000 in
theorem ct_L_areFamilies (l : Launch) (hst : l.stackTraces = false) (D : va_G) (cI cZ cJ : ClassId) (sa ad ld : Nat → Nat) (S L M : ZS) (hdis : bDis ad ld) (hG : GL L M) (hD : DK S M) (x0 : Int) (hx0 : ir x0) (hp0 : 0 ≤ x0 ∧ x0 ≤ 90) : Met l yL_areFamilies wsL_areFamilies rmct_L_areFamilies (zPb D cI cZ cJ sa ad ld S L [.ref (ad 0), .int (zi x0), .ref (ld 3), .ref (ld 4)]) (zWb D cI ad ld (fun r S9 L9 => r = 1 ∧ L9 = L ∧ DK S9 M)) 620 3720 (bA ad ld) := by
  refine Met.ofW (cc := cL_areFamilies) (maxL := 10) (ret := (some .boolean)) (by decide) rfl ?_
  intro p e s m args below meth c s₁ B hml hv
  obtain ⟨rfl, hP, hL, hK, hX, hQ⟩ := hv
  have hx := B.exec
  have hb := B.bytes
  have hr := B.returns
  have hts := atoms_spec (ws := wsL_areFamilies) B.pre
  have hown : s.vm.findClass RL = some m.cls := findClass_of_methodNamed B.named
  have hlocks := B.notSynchronized
  have hl := lv_entry ([.ref (ad 0), .int (zi x0), .ref (ld 3), .ref (ld 4)]) (n := 10) (Nat.le_of_ble_eq_true rfl)
  rw [lg_entry_eq]
  generalize (lg_sl ([.ref (ad 0), .int (zi x0), .ref (ld 3), .ref (ld 4)]) ++ List.replicate (10 - (lg_sl ([.ref (ad 0), .int (zi x0), .ref (ld 3), .ref (ld 4)])).length) Slot.unset).toArray = ls at hl ⊢
  have hl : lv_has ls 10 [(0, .ref (ad 0)), (1, .int (zi x0)), (2, .ref (ld 3)), (3, .ref (ld 4))] := hl
  have hS : va_S (bA ad ld) s.heap s.heap [] := va_S.rf
  show W p l e rmct_L_areFamilies s m ([.ref (ad 0), .int (zi x0), .ref (ld 3), .ref (ld 4)] : List Value).toArray below meth c s.heap [] 0 0 (MQ below (zWb D cI ad ld (fun r S9 L9 => r = 1 ∧ L9 = L ∧ DK S9 M)) ([.ref (ad 0), .int (zi x0), .ref (ld 3), .ref (ld 4)] : List Value).toArray s 620 3720 (bA ad ld)) (F0 m 0 ls [])
  have q0 := GL.c hG
  refine zi_iconst hx hb dL_areFamilies_0 ?_
  refine lv_istore (lv' := [(4, .int (zi 0)), (0, .ref (ad 0)), (1, .int (zi x0)), (2, .ref (ld 3)), (3, .ref (ld 4))]) hx hb dL_areFamilies_1 hl (by decide) rfl (fun ls hl => ?_)
  refine zi_iconst hx hb dL_areFamilies_3 ?_
  refine lv_istore (lv' := [(5, .int (zi 1)), (4, .int (zi 0)), (0, .ref (ad 0)), (1, .int (zi x0)), (2, .ref (ld 3)), (3, .ref (ld 4))]) hx hb dL_areFamilies_4 hl (by decide) rfl (fun ls hl => ?_)
  refine zi_iconst hx hb dL_areFamilies_6 ?_
  have K_9 : ∀ (k : Nat) (n : Nat) (n9 d9 k9 : Int) (T : ZS), (k9 + (n : Int) = M 11 0) → (0 ≤ k9) → (d9 = 1) → (0 ≤ n9 ∧ n9 ≤ k9) → (itr (fun k acc => if rcM x0 M 30 k = k then acc + 1 else acc) n k9 n9 = fcN M x0) → (DK T M) → ((n : Int) < (k : Int)) → ∀ (H : Heap) (locs : List Loc), va_P D vwCl (dW cI ad T) H → va_P D vwCl (lW cI ld L) H → va_S (bA ad ld) s.heap H locs → ∀ (ls : Array Slot), lv_has ls 10 [(0, .ref (ad 0)), (1, .int (zi x0)), (2, .ref (ld 3)), (3, .ref (ld 4)), (4, .int (zi n9)), (5, .int (zi d9)), (6, .int (zi k9))] → W p l e rmct_L_areFamilies s m ([.ref (ad 0), .int (zi x0), .ref (ld 3), .ref (ld 4)] : List Value).toArray below meth c H locs (50 * k9.toNat) (300 * k9.toNat) (MQ below (zWb D cI ad ld (fun r S9 L9 => r = 1 ∧ L9 = L ∧ DK S9 M)) ([.ref (ad 0), .int (zi x0), .ref (ld 3), .ref (ld 4)] : List Value).toArray s 620 3720 (bA ad ld)) (F0 m 9 ls []) := by
    intro k
    induction k with
    | zero => intro n n9 d9 k9 T h_n h_i h_d h_b h_R hD_T hk; exact absurd hk (by omega)
    | succ k ih_9 =>
      intro n n9 d9 k9 T h_n h_i h_d h_b h_R hD_T hk H locs hP hL hS ls hl
      refine lv_iload hx hb dL_areFamilies_9 (lv_at hl 6 rfl) ?_
      refine lv_aload_n hx hb dL_areFamilies_11 rfl (lv_at hl 3 rfl) ?_
      refine zi_iconst hx hb dL_areFamilies_12 ?_
      refine zi_iald hx hb hK.1 hL 4 0 rfl rfl (by omega) (by omega) (by decide) dL_areFamilies_13 ?_
      refine zi_is (M 11 0) (GL.c hG).2.1 ?_
      have q_13 := GL.c hG
      refine zi_icmp_ge (tgt := 322) hx hb ⟨by omega, by omega⟩ ⟨by omega, by omega⟩ dL_areFamilies_14 (by decide) (fun c_14 => ?_) (fun c_14 => ?_)
      · obtain rfl : n = 0 := by omega
        have h_E : n9 = fcN M x0 := h_R
        refine lv_iload hx hb dL_areFamilies_322 (lv_at hl 5 rfl) ?_
        refine zi_if_eq (tgt := 357) hx hb ⟨by omega, by omega⟩ dL_areFamilies_324 (by decide) (fun c_324 => ?_) (fun c_324 => ?_)
        · exact absurd c_324 (by omega)
        · refine lv_aload_n hx hb dL_areFamilies_327 rfl (lv_at hl 0 rfl) ?_
          refine lv_iload_n hx hb dL_areFamilies_328 rfl (lv_at hl 1 rfl) ?_
          refine lc_pub (ld := ld) (L0 := L) (As := [.int (zi x0)]) (rest := []) (A0 := bA ad ld) ⟨hx, hb, hml, hown, hts⟩ (ct_X7_families l hst D cI cZ cJ sa ad T hD_T.1 hdis.1 x0 ⟨by omega, by omega⟩) (cwV 1 hts gL_areFamilies_X7_families rfl rfl rfl (by decide +kernel) ⟨Nat.le_of_ble_eq_true rfl, Nat.le_of_ble_eq_true rfl⟩) rfl hK hX hdis (fun _ h => h) hS hP hL (nox_families ⟨by omega, by omega⟩) rfl hl.1 rfl (Nat.le_of_ble_eq_true rfl) dL_areFamilies_329 ⟨(by show _ ≤ (620 : Nat); omega), (by show _ ≤ (3720 : Nat); omega)⟩ (fun r_329 S_329 H locs hp_329 _ _ hP hL hS => ?_)
          obtain ⟨er_329, hD_329⟩ := q_families hD_T ⟨by omega, by omega⟩ hp_329
          have fcb := fcN_b (M := M) (d := x0)
          have er329 : r_329 = fcN M x0 := er_329
          refine lv_iload hx hb dL_areFamilies_332 (lv_at hl 4 rfl) ?_
          refine zi_icmp_ne (tgt := 357) hx hb ⟨by omega, by omega⟩ ⟨by omega, by omega⟩ dL_areFamilies_334 (by decide) (fun c_334 => ?_) (fun c_334 => ?_)
          · exact absurd c_334 (by rw [er329, h_E]; exact not_not_intro rfl)
          · refine lv_iload_n hx hb dL_areFamilies_337 rfl (lv_at hl 1 rfl) ?_
            refine zi_if_eq (tgt := 353) hx hb ⟨by omega, by omega⟩ dL_areFamilies_338 (by decide) (fun c_338 => ?_) (fun c_338 => ?_)
            · refine zi_iconst hx hb dL_areFamilies_353 ?_
              refine lv_goto (tgt := 358) hx hb dL_areFamilies_354 (by decide) ?_
              exact lr_wz (S1 := S_329) (L1 := L) hx hb hr hlocks dL_areFamilies_358 (Or.inr rfl) hP hL hS ⟨by omega, by omega⟩ (by exact ⟨by omega, rfl, hD_329⟩)
            · refine lv_aload_n hx hb dL_areFamilies_341 rfl (lv_at hl 0 rfl) ?_
              refine lv_iload_n hx hb dL_areFamilies_342 rfl (lv_at hl 1 rfl) ?_
              refine zi_iconst hx hb dL_areFamilies_343 ?_
              refine zi_isub hx hb dL_areFamilies_344 ?_
              refine lc_pub (ld := ld) (L0 := L) (As := [.int (zi (x0 - 1))]) (rest := []) (A0 := bA ad ld) ⟨hx, hb, hml, hown, hts⟩ (ct_X7_families l hst D cI cZ cJ sa ad S_329 hD_329.1 hdis.1 (x0 - 1) ⟨by omega, by omega⟩) (cwV 1 hts gL_areFamilies_X7_families rfl rfl rfl (by decide +kernel) ⟨Nat.le_of_ble_eq_true rfl, Nat.le_of_ble_eq_true rfl⟩) rfl hK hX hdis (fun _ h => h) hS hP hL (nox_families ⟨by omega, by omega⟩) rfl hl.1 rfl (Nat.le_of_ble_eq_true rfl) dL_areFamilies_345 ⟨(by show _ ≤ (620 : Nat); omega), (by show _ ≤ (3720 : Nat); omega)⟩ (fun r_345 S_345 H locs hp_345 _ _ hP hL hS => ?_)
              obtain ⟨er_345, hD_345⟩ := q_families hD_329 ⟨by omega, by omega⟩ hp_345
              have er345 : r_345 = fcN M (x0 - 1) := er_345
              have fcm := fc_mono hG.2.1 hG.2.2 x0
              have fcb2 := fcN_b (M := M) (d := x0 - 1)
              refine lv_iload hx hb dL_areFamilies_348 (lv_at hl 4 rfl) ?_
              refine zi_icmp_lt (tgt := 357) hx hb ⟨by omega, by omega⟩ ⟨by omega, by omega⟩ dL_areFamilies_350 (by decide) (fun c_350 => ?_) (fun c_350 => ?_)
              · exact absurd c_350 (by omega)
              · refine zi_iconst hx hb dL_areFamilies_353 ?_
                refine lv_goto (tgt := 358) hx hb dL_areFamilies_354 (by decide) ?_
                exact lr_wz (S1 := S_345) (L1 := L) hx hb hr hlocks dL_areFamilies_358 (Or.inr rfl) hP hL hS ⟨by omega, by omega⟩ (by exact ⟨by omega, rfl, hD_345⟩)
      · obtain ⟨n, rfl⟩ : ∃ n8 : Nat, n = n8 + 1 := ⟨n - 1, by omega⟩
        refine lv_iload hx hb dL_areFamilies_17 (lv_at hl 5 rfl) ?_
        refine zi_if_eq (tgt := 322) hx hb ⟨by omega, by omega⟩ dL_areFamilies_19 (by decide) (fun c_19 => ?_) (fun c_19 => ?_)
        · exact absurd c_19 (by omega)
        · refine lv_aload_n hx hb dL_areFamilies_22 rfl (lv_at hl 0 rfl) ?_
          refine lv_iload hx hb dL_areFamilies_23 (lv_at hl 6 rfl) ?_
          refine lv_iload_n hx hb dL_areFamilies_25 rfl (lv_at hl 1 rfl) ?_
          refine lc_pub (ld := ld) (L0 := L) (As := [.int (zi k9), .int (zi x0)]) (rest := []) (A0 := bA ad ld) ⟨hx, hb, hml, hown, hts⟩ (ct_X7_family l hst D cI cZ cJ sa ad T hD_T.1 hdis.1 k9 x0 ⟨by omega, by omega⟩ ⟨by omega, by omega⟩) (cwV 2 hts gL_areFamilies_X7_family rfl rfl rfl (by decide +kernel) ⟨Nat.le_of_ble_eq_true rfl, Nat.le_of_ble_eq_true rfl⟩) rfl hK hX hdis (fun _ h => h) hS hP hL (nox_family hD_T (by omega) (by omega) ⟨by omega, by omega⟩) rfl hl.1 rfl (Nat.le_of_ble_eq_true rfl) dL_areFamilies_26 ⟨(by show _ ≤ (620 : Nat); omega), (by show _ ≤ (3720 : Nat); omega)⟩ (fun r_26 S_26 H locs hp_26 _ _ hP hL hS => ?_)
          obtain ⟨er_26, hD_26⟩ := q_family hD_T (by omega) (by omega) hp_26
          have fr_ := fm_rng hG.2.1 hG.2.2 x0 (k := k9) h_i (by omega)
          rw [← er_26] at fr_
          refine lv_istore (lv' := [(7, .int (zi r_26)), (0, .ref (ad 0)), (1, .int (zi x0)), (2, .ref (ld 3)), (3, .ref (ld 4)), (4, .int (zi n9)), (5, .int (zi d9)), (6, .int (zi k9))]) hx hb dL_areFamilies_29 hl (by decide) rfl (fun ls hl => ?_)
          refine lv_iload hx hb dL_areFamilies_31 (lv_at hl 5 rfl) ?_
          refine lv_iload hx hb dL_areFamilies_33 (lv_at hl 0 rfl) ?_
          refine lv_iload hx hb dL_areFamilies_35 (lv_at hl 7 rfl) ?_
          have K_45 : ∀ (w9 : Int), (w9 = if rcM x0 M 30 k9 = k9 then 1 else 0) → (0 ≤ w9 ∧ w9 ≤ 1) → ∀ (ls : Array Slot), lv_has ls 10 [(0, .ref (ad 0)), (1, .int (zi x0)), (2, .ref (ld 3)), (3, .ref (ld 4)), (5, .int (zi d9)), (6, .int (zi k9)), (7, .int (zi r_26))] → W p l e rmct_L_areFamilies s m ([.ref (ad 0), .int (zi x0), .ref (ld 3), .ref (ld 4)] : List Value).toArray below meth c H locs (50 * k9.toNat + 3) (300 * k9.toNat + 18) (MQ below (zWb D cI ad ld (fun r S9 L9 => r = 1 ∧ L9 = L ∧ DK S9 M)) ([.ref (ad 0), .int (zi x0), .ref (ld 3), .ref (ld 4)] : List Value).toArray s 620 3720 (bA ad ld)) (F0 m 45 ls [.int (zi w9), .int (zi n9)]) := by
            intro w9 h_w h_wb ls hl
            refine zi_iadd hx hb dL_areFamilies_45 ?_
            refine zi_top (fun x4_46 ex4_46 => ?_)
            refine lv_istore (lv' := [(4, .int (zi x4_46)), (0, .ref (ad 0)), (1, .int (zi x0)), (2, .ref (ld 3)), (3, .ref (ld 4)), (5, .int (zi d9)), (6, .int (zi k9)), (7, .int (zi r_26))]) hx hb dL_areFamilies_46 hl (by decide) rfl (fun ls hl => ?_)
            refine lv_aload_n hx hb dL_areFamilies_48 rfl (lv_at hl 3 rfl) ?_
            refine zi_iconst hx hb dL_areFamilies_49 ?_
            refine lv_iload hx hb dL_areFamilies_50 (lv_at hl 6 rfl) ?_
            refine zi_imul hx hb dL_areFamilies_52 ?_
            refine zi_iconst hx hb dL_areFamilies_53 ?_
            refine zi_iadd hx hb dL_areFamilies_54 ?_
            refine zi_iald hx hb hK.1 hL 3 0 rfl rfl (by omega) (by omega) (by decide) dL_areFamilies_55 ?_
            refine zi_is (M 14 k9) (GL.un hG (j := k9) (by omega) (by omega)).1 ?_
            have q_55 := (GL.un hG (j := k9) (by omega) (by omega)).2
            have K_125 : ∀ (v9 : Int) (T1 : ZS), (v9 = 1) → (DK T1 M) → ∀ (H : Heap) (locs : List Loc), va_P D vwCl (dW cI ad T1) H → va_P D vwCl (lW cI ld L) H → va_S (bA ad ld) s.heap H locs → ∀ (ls : Array Slot), lv_has ls 10 [(0, .ref (ad 0)), (1, .int (zi x0)), (2, .ref (ld 3)), (3, .ref (ld 4)), (4, .int (zi x4_46)), (6, .int (zi k9)), (7, .int (zi r_26))] → W p l e rmct_L_areFamilies s m ([.ref (ad 0), .int (zi x0), .ref (ld 3), .ref (ld 4)] : List Value).toArray below meth c H locs (50 * k9.toNat + 6) (300 * k9.toNat + 36) (MQ below (zWb D cI ad ld (fun r S9 L9 => r = 1 ∧ L9 = L ∧ DK S9 M)) ([.ref (ad 0), .int (zi x0), .ref (ld 3), .ref (ld 4)] : List Value).toArray s 620 3720 (bA ad ld)) (F0 m 125 ls [.int (zi v9)]) := by
              intro v9 T1 h_v hD_T1 H locs hP hL hS ls hl
              refine lv_istore (lv' := [(5, .int (zi v9)), (0, .ref (ad 0)), (1, .int (zi x0)), (2, .ref (ld 3)), (3, .ref (ld 4)), (4, .int (zi x4_46)), (6, .int (zi k9)), (7, .int (zi r_26))]) hx hb dL_areFamilies_125 hl (by decide) rfl (fun ls hl => ?_)
              refine zi_iconst hx hb dL_areFamilies_127 ?_
              have K_130 : ∀ (k : Nat) (n2 : Nat) (e9 j9 : Int) (T2 : ZS), (j9 + (n2 : Int) = k9) → (0 ≤ j9) → (e9 = 1) → (DK T2 M) → ((n2 : Int) < (k : Int)) → ∀ (H : Heap) (locs : List Loc), va_P D vwCl (dW cI ad T2) H → va_P D vwCl (lW cI ld L) H → va_S (bA ad ld) s.heap H locs → ∀ (ls : Array Slot), lv_has ls 10 [(0, .ref (ad 0)), (1, .int (zi x0)), (2, .ref (ld 3)), (3, .ref (ld 4)), (4, .int (zi x4_46)), (6, .int (zi k9)), (7, .int (zi r_26)), (5, .int (zi e9)), (8, .int (zi j9))] → W p l e rmct_L_areFamilies s m ([.ref (ad 0), .int (zi x0), .ref (ld 3), .ref (ld 4)] : List Value).toArray below meth c H locs (50 * k9.toNat + 6 + 3 * j9.toNat) (300 * k9.toNat + 36 + 18 * j9.toNat) (MQ below (zWb D cI ad ld (fun r S9 L9 => r = 1 ∧ L9 = L ∧ DK S9 M)) ([.ref (ad 0), .int (zi x0), .ref (ld 3), .ref (ld 4)] : List Value).toArray s 620 3720 (bA ad ld)) (F0 m 130 ls []) := by
                intro k
                induction k with
                | zero => intro n2 e9 j9 T2 g_n g_i g_d hD_T2 hk; exact absurd hk (by omega)
                | succ k ih_130 =>
                  intro n2 e9 j9 T2 g_n g_i g_d hD_T2 hk H locs hP hL hS ls hl
                  refine lv_iload hx hb dL_areFamilies_130 (lv_at hl 8 rfl) ?_
                  refine lv_iload hx hb dL_areFamilies_132 (lv_at hl 5 rfl) ?_
                  refine zi_icmp_ge (tgt := 316) hx hb ⟨by omega, by omega⟩ ⟨by omega, by omega⟩ dL_areFamilies_134 (by decide) (fun c_134 => ?_) (fun c_134 => ?_)
                  · refine zi_iinc (k := 5) (lv' := [(6, .int (zi (k9 + 1))), (0, .ref (ad 0)), (1, .int (zi x0)), (2, .ref (ld 3)), (3, .ref (ld 4)), (4, .int (zi x4_46)), (7, .int (zi r_26)), (5, .int (zi e9)), (8, .int (zi j9))]) hx hb dL_areFamilies_316 hl rfl (by decide) rfl (fun ls hl => ?_)
                    refine lv_goto (tgt := 9) hx hb dL_areFamilies_319 (by decide) ?_
                    exact lw_wd (by omega) (by omega) (ih_9 n x4_46 e9 (k9 + 1) T2 (by first | omega | assumption) (by first | omega | assumption) (by first | omega | assumption) ⟨by omega, by omega⟩ (by rw [← h_R, itr_s, ex4_46, h_w]; congr 1; exact add_ite) hD_T2 (by omega) _ _ hP hL hS _ (lv_sub hl [1, 2, 3, 4, 5, 7, 0] rfl))
                  · obtain ⟨n2, rfl⟩ : ∃ n8 : Nat, n2 = n8 + 1 := ⟨n2 - 1, by omega⟩
                    refine lv_iload hx hb dL_areFamilies_137 (lv_at hl 7 rfl) ?_
                    refine zi_if_eq (tgt := 316) hx hb ⟨by omega, by omega⟩ dL_areFamilies_139 (by decide) (fun c_139 => ?_) (fun c_139 => ?_)
                    · exact absurd c_139 (by omega)
                    · refine lv_aload_n hx hb dL_areFamilies_142 rfl (lv_at hl 2 rfl) ?_
                      refine zi_iconst hx hb dL_areFamilies_143 ?_
                      refine lv_iload hx hb dL_areFamilies_144 (lv_at hl 5 rfl) ?_
                      refine zi_imul hx hb dL_areFamilies_146 ?_
                      refine zi_iconst hx hb dL_areFamilies_147 ?_
                      refine zi_iadd hx hb dL_areFamilies_148 ?_
                      refine zi_iald hx hb hK.1 hL 3 0 rfl rfl (by omega) (by omega) (by decide) dL_areFamilies_149 ?_
                      have q_149 := GL.b hG (j := (5 * k9) + 3) (by omega) (by omega)
                      refine lv_aload_n hx hb dL_areFamilies_150 rfl (lv_at hl 2 rfl) ?_
                      refine zi_iconst hx hb dL_areFamilies_151 ?_
                      refine lv_iload hx hb dL_areFamilies_152 (lv_at hl 8 rfl) ?_
                      refine zi_imul hx hb dL_areFamilies_154 ?_
                      refine zi_iconst hx hb dL_areFamilies_155 ?_
                      refine zi_iadd hx hb dL_areFamilies_156 ?_
                      refine zi_iald hx hb hK.1 hL 3 0 rfl rfl (by omega) (by omega) (by decide) dL_areFamilies_157 ?_
                      have q_157 := GL.b hG (j := (5 * j9) + 3) (by omega) (by omega)
                      have K_198 : ∀ (f9 : Int), (f9 = max (L 3 (5 * k9 + 3) - L 3 (5 * j9 + 3)) (-(L 3 (5 * k9 + 3) - L 3 (5 * j9 + 3)))) → ∀ (ls : Array Slot), lv_has ls 10 [(0, .ref (ad 0)), (1, .int (zi x0)), (2, .ref (ld 3)), (3, .ref (ld 4)), (4, .int (zi x4_46)), (5, .int (zi e9)), (6, .int (zi k9)), (7, .int (zi r_26)), (8, .int (zi j9))] → W p l e rmct_L_areFamilies s m ([.ref (ad 0), .int (zi x0), .ref (ld 3), .ref (ld 4)] : List Value).toArray below meth c H locs (50 * k9.toNat + 6 + 3 * j9.toNat) (300 * k9.toNat + 36 + 18 * j9.toNat) (MQ below (zWb D cI ad ld (fun r S9 L9 => r = 1 ∧ L9 = L ∧ DK S9 M)) ([.ref (ad 0), .int (zi x0), .ref (ld 3), .ref (ld 4)] : List Value).toArray s 620 3720 (bA ad ld)) (F0 m 198 ls [.int (zi f9)]) := by
                        intro f9 h_f ls hl
                        refine lv_istore (lv' := [(9, .int (zi f9)), (0, .ref (ad 0)), (1, .int (zi x0)), (2, .ref (ld 3)), (3, .ref (ld 4)), (4, .int (zi x4_46)), (5, .int (zi e9)), (6, .int (zi k9)), (7, .int (zi r_26)), (8, .int (zi j9))]) hx hb dL_areFamilies_198 hl (by decide) rfl (fun ls hl => ?_)
                        refine lv_iload hx hb dL_areFamilies_200 (lv_at hl 0 rfl) ?_
                        refine zi_iconst hx hb dL_areFamilies_202 ?_
                        refine lv_aload_n hx hb dL_areFamilies_203 rfl (lv_at hl 3 rfl) ?_
                        refine zi_iconst hx hb dL_areFamilies_204 ?_
                        refine lv_iload hx hb dL_areFamilies_205 (lv_at hl 7 rfl) ?_
                        refine zi_imul hx hb dL_areFamilies_207 ?_
                        refine zi_iconst hx hb dL_areFamilies_208 ?_
                        refine zi_iadd hx hb dL_areFamilies_209 ?_
                        refine zi_iald hx hb hK.1 hL 3 0 rfl rfl (by omega) (by omega) (by decide) dL_areFamilies_210 ?_
                        have q_210 := GL.b hG (j := (5 * k9) + 4) (by omega) (by omega)
                        refine lv_aload_n hx hb dL_areFamilies_211 rfl (lv_at hl 3 rfl) ?_
                        refine zi_iconst hx hb dL_areFamilies_212 ?_
                        refine lv_iload hx hb dL_areFamilies_213 (lv_at hl 9 rfl) ?_
                        refine zi_imul hx hb dL_areFamilies_215 ?_
                        refine zi_iconst hx hb dL_areFamilies_216 ?_
                        refine zi_iadd hx hb dL_areFamilies_217 ?_
                        refine zi_iald hx hb hK.1 hL 3 0 rfl rfl (by omega) (by omega) (by decide) dL_areFamilies_218 ?_
                        have q_218 := GL.b hG (j := (5 * j9) + 4) (by omega) (by omega)
                        have K_259 : ∀ (g9 : Int), (g9 = max (L 3 (5 * k9 + 4) - L 3 (5 * j9 + 4)) (-(L 3 (5 * k9 + 4) - L 3 (5 * j9 + 4)))) → ∀ (ls : Array Slot), lv_has ls 10 [(0, .ref (ad 0)), (1, .int (zi x0)), (2, .ref (ld 3)), (3, .ref (ld 4)), (4, .int (zi x4_46)), (5, .int (zi e9)), (6, .int (zi k9)), (7, .int (zi r_26)), (8, .int (zi j9)), (9, .int (zi f9))] → W p l e rmct_L_areFamilies s m ([.ref (ad 0), .int (zi x0), .ref (ld 3), .ref (ld 4)] : List Value).toArray below meth c H locs (50 * k9.toNat + 6 + 3 * j9.toNat) (300 * k9.toNat + 36 + 18 * j9.toNat) (MQ below (zWb D cI ad ld (fun r S9 L9 => r = 1 ∧ L9 = L ∧ DK S9 M)) ([.ref (ad 0), .int (zi x0), .ref (ld 3), .ref (ld 4)] : List Value).toArray s 620 3720 (bA ad ld)) (F0 m 259 ls [.int (zi g9), .int (zi 5), .int (zi f9)]) := by
                          intro g9 h_g ls hl
                          refine zi_imul hx hb dL_areFamilies_259 ?_
                          refine zi_iadd hx hb dL_areFamilies_260 ?_
                          refine zi_top (fun x9_261 ex9_261 => ?_)
                          refine lv_istore (lv' := [(9, .int (zi x9_261)), (0, .ref (ad 0)), (1, .int (zi x0)), (2, .ref (ld 3)), (3, .ref (ld 4)), (4, .int (zi x4_46)), (5, .int (zi e9)), (6, .int (zi k9)), (7, .int (zi r_26)), (8, .int (zi j9))]) hx hb dL_areFamilies_261 hl (by decide) rfl (fun ls hl => ?_)
                          refine lv_aload_n hx hb dL_areFamilies_263 rfl (lv_at hl 3 rfl) ?_
                          refine zi_iconst hx hb dL_areFamilies_264 ?_
                          refine lv_iload hx hb dL_areFamilies_265 (lv_at hl 7 rfl) ?_
                          refine zi_imul hx hb dL_areFamilies_267 ?_
                          refine zi_iconst hx hb dL_areFamilies_268 ?_
                          refine zi_iadd hx hb dL_areFamilies_269 ?_
                          refine zi_iald hx hb hK.1 hL 3 0 rfl rfl (by omega) (by omega) (by decide) dL_areFamilies_270 ?_
                          refine zi_is (M 14 k9) (GL.un hG (j := k9) (by omega) (by omega)).1 ?_
                          have q_270 := (GL.un hG (j := k9) (by omega) (by omega)).2
                          have K_303 : ∀ (T3 : ZS), (DK T3 M) → ∀ (H : Heap) (locs : List Loc), va_P D vwCl (dW cI ad T3) H → va_P D vwCl (lW cI ld L) H → va_S (bA ad ld) s.heap H locs → ∀ (ls : Array Slot), lv_has ls 10 [(0, .ref (ad 0)), (1, .int (zi x0)), (2, .ref (ld 3)), (3, .ref (ld 4)), (4, .int (zi x4_46)), (6, .int (zi k9)), (7, .int (zi r_26)), (8, .int (zi j9))] → W p l e rmct_L_areFamilies s m ([.ref (ad 0), .int (zi x0), .ref (ld 3), .ref (ld 4)] : List Value).toArray below meth c H locs (50 * k9.toNat + 9 + 3 * j9.toNat) (300 * k9.toNat + 54 + 18 * j9.toNat) (MQ below (zWb D cI ad ld (fun r S9 L9 => r = 1 ∧ L9 = L ∧ DK S9 M)) ([.ref (ad 0), .int (zi x0), .ref (ld 3), .ref (ld 4)] : List Value).toArray s 620 3720 (bA ad ld)) (F0 m 303 ls []) := by
                            intro T3 hD_T3 H locs hP hL hS ls hl
                            refine zi_iconst hx hb dL_areFamilies_303 ?_
                            refine lv_goto (tgt := 308) hx hb dL_areFamilies_304 (by decide) ?_
                            refine lv_istore (lv' := [(5, .int (zi 1)), (0, .ref (ad 0)), (1, .int (zi x0)), (2, .ref (ld 3)), (3, .ref (ld 4)), (4, .int (zi x4_46)), (6, .int (zi k9)), (7, .int (zi r_26)), (8, .int (zi j9))]) hx hb dL_areFamilies_308 hl (by decide) rfl (fun ls hl => ?_)
                            refine zi_iinc (k := 8) (lv' := [(8, .int (zi (j9 + 1))), (5, .int (zi 1)), (0, .ref (ad 0)), (1, .int (zi x0)), (2, .ref (ld 3)), (3, .ref (ld 4)), (4, .int (zi x4_46)), (6, .int (zi k9)), (7, .int (zi r_26))]) hx hb dL_areFamilies_310 hl rfl (by decide) rfl (fun ls hl => ?_)
                            refine lv_goto (tgt := 130) hx hb dL_areFamilies_313 (by decide) ?_
                            exact lw_wd (by omega) (by omega) (ih_130 n2 1 (j9 + 1) T3 (by first | omega | assumption) (by first | omega | assumption) (by first | omega | assumption) hD_T3 (by omega) _ _ hP hL hS _ (lv_sub hl [2, 3, 4, 5, 6, 7, 8, 1, 0] rfl))
                          refine zi_if_eq (tgt := 303) hx hb ⟨by omega, by omega⟩ dL_areFamilies_271 (by decide) (fun c_271 => ?_) (fun c_271 => ?_)
                          · exact lw_wd (by omega) (by omega) (K_303 T2 hD_T2 _ _ hP hL hS _ (lv_sub hl [1, 2, 3, 4, 5, 7, 8, 9] rfl))
                          · refine lv_aload_n hx hb dL_areFamilies_274 rfl (lv_at hl 3 rfl) ?_
                            refine zi_iconst hx hb dL_areFamilies_275 ?_
                            refine lv_iload hx hb dL_areFamilies_276 (lv_at hl 9 rfl) ?_
                            refine zi_imul hx hb dL_areFamilies_278 ?_
                            refine zi_iconst hx hb dL_areFamilies_279 ?_
                            refine zi_iadd hx hb dL_areFamilies_280 ?_
                            refine zi_iald hx hb hK.1 hL 3 0 rfl rfl (by omega) (by omega) (by decide) dL_areFamilies_281 ?_
                            refine zi_is (M 14 j9) (GL.un hG (j := j9) (by omega) (by omega)).1 ?_
                            have q_281 := (GL.un hG (j := j9) (by omega) (by omega)).2
                            refine zi_if_eq (tgt := 303) hx hb ⟨by omega, by omega⟩ dL_areFamilies_282 (by decide) (fun c_282 => ?_) (fun c_282 => ?_)
                            · exact lw_wd (by omega) (by omega) (K_303 T2 hD_T2 _ _ hP hL hS _ (lv_sub hl [1, 2, 3, 4, 5, 7, 8, 9] rfl))
                            · refine lv_iload hx hb dL_areFamilies_285 (lv_at hl 0 rfl) ?_
                              refine lv_iload_n hx hb dL_areFamilies_287 rfl (lv_at hl 2 rfl) ?_
                              refine zi_icmp_gt (tgt := 303) hx hb ⟨by omega, by omega⟩ ⟨by omega, by omega⟩ dL_areFamilies_288 (by decide) (fun c_288 => ?_) (fun c_288 => ?_)
                              · exact lw_wd (by omega) (by omega) (K_303 T2 hD_T2 _ _ hP hL hS _ (lv_sub hl [1, 2, 3, 4, 5, 7, 8, 9] rfl))
                              · refine lv_aload_n hx hb dL_areFamilies_291 rfl (lv_at hl 1 rfl) ?_
                                refine lv_iload hx hb dL_areFamilies_292 (lv_at hl 9 rfl) ?_
                                refine lv_iload_n hx hb dL_areFamilies_294 rfl (lv_at hl 2 rfl) ?_
                                refine lc_pub (ld := ld) (L0 := L) (As := [.int (zi j9), .int (zi x0)]) (rest := []) (A0 := bA ad ld) ⟨hx, hb, hml, hown, hts⟩ (ct_X7_family l hst D cI cZ cJ sa ad T2 hD_T2.1 hdis.1 j9 x0 ⟨by omega, by omega⟩ ⟨by omega, by omega⟩) (cwV 2 hts gL_areFamilies_X7_family rfl rfl rfl (by decide +kernel) ⟨Nat.le_of_ble_eq_true rfl, Nat.le_of_ble_eq_true rfl⟩) rfl hK hX hdis (fun _ h => h) hS hP hL (nox_family hD_T2 (by omega) (by omega) ⟨by omega, by omega⟩) rfl hl.1 rfl (Nat.le_of_ble_eq_true rfl) dL_areFamilies_295 ⟨(by show _ ≤ (620 : Nat); omega), (by show _ ≤ (3720 : Nat); omega)⟩ (fun r_295 S_295 H locs hp_295 _ _ hP hL hS => ?_)
                                obtain ⟨er_295, hD_295⟩ := q_family hD_T2 (by omega) (by omega) hp_295
                                have uk := GL.up hG (j := k9) (by omega) (by omega) (by omega)
                                have uj := GL.up hG (j := j9) (by omega) (by omega) (by omega)
                                have ak : akM M k9 j9 x0 := ⟨by omega, by omega, by omega⟩
                                have fe2 := fm_akin hG.2.1 hG.2.2 x0 (x := k9) (y := j9) ⟨by omega, by omega, by omega⟩ ⟨by omega, by omega, by omega⟩ ak
                                have fr2 := fm_rng hG.2.1 hG.2.2 x0 (k := j9) (by omega) (by omega)
                                rw [← er_295] at fr2
                                refine lv_iload hx hb dL_areFamilies_298 (lv_at hl 8 rfl) ?_
                                refine zi_icmp_ne (tgt := 307) hx hb ⟨by omega, by omega⟩ ⟨by omega, by omega⟩ dL_areFamilies_300 (by decide) (fun c_300 => ?_) (fun c_300 => ?_)
                                · exact absurd c_300 (by rw [er_295, er_26, fe2]; exact not_not_intro rfl)
                                · exact lw_wd (by omega) (by omega) (K_303 S_295 hD_295 _ _ hP hL hS _ (lv_sub hl [1, 2, 3, 4, 5, 7, 8, 9] rfl))
                        refine zi_icmp_ge (tgt := 242) hx hb ⟨by omega, by omega⟩ ⟨by omega, by omega⟩ dL_areFamilies_219 (by decide) (fun c_219 => ?_) (fun c_219 => ?_)
                        · refine lv_aload_n hx hb dL_areFamilies_242 rfl (lv_at hl 3 rfl) ?_
                          refine zi_iconst hx hb dL_areFamilies_243 ?_
                          refine lv_iload hx hb dL_areFamilies_244 (lv_at hl 7 rfl) ?_
                          refine zi_imul hx hb dL_areFamilies_246 ?_
                          refine zi_iconst hx hb dL_areFamilies_247 ?_
                          refine zi_iadd hx hb dL_areFamilies_248 ?_
                          refine zi_iald hx hb hK.1 hL 3 0 rfl rfl (by omega) (by omega) (by decide) dL_areFamilies_249 ?_
                          have q_249 := GL.b hG (j := (5 * k9) + 4) (by omega) (by omega)
                          refine lv_aload_n hx hb dL_areFamilies_250 rfl (lv_at hl 3 rfl) ?_
                          refine zi_iconst hx hb dL_areFamilies_251 ?_
                          refine lv_iload hx hb dL_areFamilies_252 (lv_at hl 9 rfl) ?_
                          refine zi_imul hx hb dL_areFamilies_254 ?_
                          refine zi_iconst hx hb dL_areFamilies_255 ?_
                          refine zi_iadd hx hb dL_areFamilies_256 ?_
                          refine zi_iald hx hb hK.1 hL 3 0 rfl rfl (by omega) (by omega) (by decide) dL_areFamilies_257 ?_
                          have q_257 := GL.b hG (j := (5 * j9) + 4) (by omega) (by omega)
                          refine zi_isub hx hb dL_areFamilies_258 ?_
                          exact K_259 ((L 3 ((5 * k9) + 4)) - (L 3 ((5 * j9) + 4))) (by first | omega | assumption) _ (lv_sub hl [1, 2, 3, 4, 5, 6, 7, 8, 9, 0] rfl)
                        · refine lv_aload_n hx hb dL_areFamilies_222 rfl (lv_at hl 3 rfl) ?_
                          refine zi_iconst hx hb dL_areFamilies_223 ?_
                          refine lv_iload hx hb dL_areFamilies_224 (lv_at hl 9 rfl) ?_
                          refine zi_imul hx hb dL_areFamilies_226 ?_
                          refine zi_iconst hx hb dL_areFamilies_227 ?_
                          refine zi_iadd hx hb dL_areFamilies_228 ?_
                          refine zi_iald hx hb hK.1 hL 3 0 rfl rfl (by omega) (by omega) (by decide) dL_areFamilies_229 ?_
                          have q_229 := GL.b hG (j := (5 * j9) + 4) (by omega) (by omega)
                          refine lv_aload_n hx hb dL_areFamilies_230 rfl (lv_at hl 3 rfl) ?_
                          refine zi_iconst hx hb dL_areFamilies_231 ?_
                          refine lv_iload hx hb dL_areFamilies_232 (lv_at hl 7 rfl) ?_
                          refine zi_imul hx hb dL_areFamilies_234 ?_
                          refine zi_iconst hx hb dL_areFamilies_235 ?_
                          refine zi_iadd hx hb dL_areFamilies_236 ?_
                          refine zi_iald hx hb hK.1 hL 3 0 rfl rfl (by omega) (by omega) (by decide) dL_areFamilies_237 ?_
                          have q_237 := GL.b hG (j := (5 * k9) + 4) (by omega) (by omega)
                          refine zi_isub hx hb dL_areFamilies_238 ?_
                          refine lv_goto (tgt := 259) hx hb dL_areFamilies_239 (by decide) ?_
                          exact K_259 ((L 3 ((5 * j9) + 4)) - (L 3 ((5 * k9) + 4))) (by first | omega | assumption) _ (lv_sub hl [1, 2, 3, 4, 5, 6, 7, 8, 9, 0] rfl)
                      refine zi_icmp_ge (tgt := 181) hx hb ⟨by omega, by omega⟩ ⟨by omega, by omega⟩ dL_areFamilies_158 (by decide) (fun c_158 => ?_) (fun c_158 => ?_)
                      · refine lv_aload_n hx hb dL_areFamilies_181 rfl (lv_at hl 2 rfl) ?_
                        refine zi_iconst hx hb dL_areFamilies_182 ?_
                        refine lv_iload hx hb dL_areFamilies_183 (lv_at hl 5 rfl) ?_
                        refine zi_imul hx hb dL_areFamilies_185 ?_
                        refine zi_iconst hx hb dL_areFamilies_186 ?_
                        refine zi_iadd hx hb dL_areFamilies_187 ?_
                        refine zi_iald hx hb hK.1 hL 3 0 rfl rfl (by omega) (by omega) (by decide) dL_areFamilies_188 ?_
                        have q_188 := GL.b hG (j := (5 * k9) + 3) (by omega) (by omega)
                        refine lv_aload_n hx hb dL_areFamilies_189 rfl (lv_at hl 2 rfl) ?_
                        refine zi_iconst hx hb dL_areFamilies_190 ?_
                        refine lv_iload hx hb dL_areFamilies_191 (lv_at hl 8 rfl) ?_
                        refine zi_imul hx hb dL_areFamilies_193 ?_
                        refine zi_iconst hx hb dL_areFamilies_194 ?_
                        refine zi_iadd hx hb dL_areFamilies_195 ?_
                        refine zi_iald hx hb hK.1 hL 3 0 rfl rfl (by omega) (by omega) (by decide) dL_areFamilies_196 ?_
                        have q_196 := GL.b hG (j := (5 * j9) + 3) (by omega) (by omega)
                        refine zi_isub hx hb dL_areFamilies_197 ?_
                        exact K_198 ((L 3 ((5 * k9) + 3)) - (L 3 ((5 * j9) + 3))) (by first | omega | assumption) _ (lv_sub hl [0, 1, 2, 3, 4, 7, 5, 6, 8] rfl)
                      · refine lv_aload_n hx hb dL_areFamilies_161 rfl (lv_at hl 2 rfl) ?_
                        refine zi_iconst hx hb dL_areFamilies_162 ?_
                        refine lv_iload hx hb dL_areFamilies_163 (lv_at hl 8 rfl) ?_
                        refine zi_imul hx hb dL_areFamilies_165 ?_
                        refine zi_iconst hx hb dL_areFamilies_166 ?_
                        refine zi_iadd hx hb dL_areFamilies_167 ?_
                        refine zi_iald hx hb hK.1 hL 3 0 rfl rfl (by omega) (by omega) (by decide) dL_areFamilies_168 ?_
                        have q_168 := GL.b hG (j := (5 * j9) + 3) (by omega) (by omega)
                        refine lv_aload_n hx hb dL_areFamilies_169 rfl (lv_at hl 2 rfl) ?_
                        refine zi_iconst hx hb dL_areFamilies_170 ?_
                        refine lv_iload hx hb dL_areFamilies_171 (lv_at hl 5 rfl) ?_
                        refine zi_imul hx hb dL_areFamilies_173 ?_
                        refine zi_iconst hx hb dL_areFamilies_174 ?_
                        refine zi_iadd hx hb dL_areFamilies_175 ?_
                        refine zi_iald hx hb hK.1 hL 3 0 rfl rfl (by omega) (by omega) (by decide) dL_areFamilies_176 ?_
                        have q_176 := GL.b hG (j := (5 * k9) + 3) (by omega) (by omega)
                        refine zi_isub hx hb dL_areFamilies_177 ?_
                        refine lv_goto (tgt := 198) hx hb dL_areFamilies_178 (by decide) ?_
                        exact K_198 ((L 3 ((5 * j9) + 3)) - (L 3 ((5 * k9) + 3))) (by first | omega | assumption) _ (lv_sub hl [0, 1, 2, 3, 4, 7, 5, 6, 8] rfl)
              refine lv_istore (lv' := [(8, .int (zi 0)), (5, .int (zi v9)), (0, .ref (ad 0)), (1, .int (zi x0)), (2, .ref (ld 3)), (3, .ref (ld 4)), (4, .int (zi x4_46)), (6, .int (zi k9)), (7, .int (zi r_26))]) hx hb dL_areFamilies_128 hl (by decide) rfl (fun ls hl => ?_)
              exact lw_wd (by omega) (by omega) (K_130 (k9.toNat + 1) k9.toNat v9 0 T1 (by first | omega | assumption) (by first | omega | assumption) (by first | omega | assumption) hD_T1 (by omega) _ _ hP hL hS _ (lv_sub hl [2, 3, 4, 5, 6, 7, 8, 1, 0] rfl))
            refine zi_if_ne (tgt := 73) hx hb ⟨by omega, by omega⟩ dL_areFamilies_56 (by decide) (fun c_56 => ?_) (fun c_56 => ?_)
            · have hk9 : nmP M k9 := ⟨h_i, by omega, by omega⟩
              have fy_ := fm_yes hG.2.1 hG.2.2 x0 hk9
              rw [← er_26] at fy_
              obtain ⟨⟨fa, fb, fc⟩, fd, fe⟩ := fy_
              refine lv_iload hx hb dL_areFamilies_73 (lv_at hl 7 rfl) ?_
              refine zi_if_lt (tgt := 124) hx hb ⟨by omega, by omega⟩ dL_areFamilies_75 (by decide) (fun c_75 => ?_) (fun c_75 => ?_)
              · exact absurd c_75 (by omega)
              · refine lv_aload_n hx hb dL_areFamilies_78 rfl (lv_at hl 3 rfl) ?_
                refine zi_iconst hx hb dL_areFamilies_79 ?_
                refine lv_iload hx hb dL_areFamilies_80 (lv_at hl 7 rfl) ?_
                refine zi_imul hx hb dL_areFamilies_82 ?_
                refine zi_iconst hx hb dL_areFamilies_83 ?_
                refine zi_iadd hx hb dL_areFamilies_84 ?_
                refine zi_iald hx hb hK.1 hL 3 0 rfl rfl (by omega) (by omega) (by decide) dL_areFamilies_85 ?_
                refine zi_is (M 14 r_26) (GL.un hG (j := r_26) (by omega) (by omega)).1 ?_
                have q_85 := (GL.un hG (j := r_26) (by omega) (by omega)).2
                refine zi_if_le (tgt := 124) hx hb ⟨by omega, by omega⟩ dL_areFamilies_86 (by decide) (fun c_86 => ?_) (fun c_86 => ?_)
                · exact absurd c_86 (by omega)
                · refine lv_aload_n hx hb dL_areFamilies_89 rfl (lv_at hl 3 rfl) ?_
                  refine zi_iconst hx hb dL_areFamilies_90 ?_
                  refine lv_iload hx hb dL_areFamilies_91 (lv_at hl 7 rfl) ?_
                  refine zi_imul hx hb dL_areFamilies_93 ?_
                  refine zi_iconst hx hb dL_areFamilies_94 ?_
                  refine zi_iadd hx hb dL_areFamilies_95 ?_
                  refine zi_iald hx hb hK.1 hL 3 0 rfl rfl (by omega) (by omega) (by decide) dL_areFamilies_96 ?_
                  refine zi_is (M 14 r_26) (GL.un hG (j := r_26) (by omega) (by omega)).1 ?_
                  have q_96 := (GL.un hG (j := r_26) (by omega) (by omega)).2
                  refine lv_aload_n hx hb dL_areFamilies_97 rfl (lv_at hl 3 rfl) ?_
                  refine zi_iconst hx hb dL_areFamilies_98 ?_
                  refine lv_iload hx hb dL_areFamilies_99 (lv_at hl 6 rfl) ?_
                  refine zi_imul hx hb dL_areFamilies_101 ?_
                  refine zi_iconst hx hb dL_areFamilies_102 ?_
                  refine zi_iadd hx hb dL_areFamilies_103 ?_
                  refine zi_iald hx hb hK.1 hL 3 0 rfl rfl (by omega) (by omega) (by decide) dL_areFamilies_104 ?_
                  refine zi_is (M 14 k9) (GL.un hG (j := k9) (by omega) (by omega)).1 ?_
                  have q_104 := (GL.un hG (j := k9) (by omega) (by omega)).2
                  refine zi_icmp_gt (tgt := 124) hx hb ⟨by omega, by omega⟩ ⟨by omega, by omega⟩ dL_areFamilies_105 (by decide) (fun c_105 => ?_) (fun c_105 => ?_)
                  · exact absurd c_105 (by omega)
                  · refine lv_aload_n hx hb dL_areFamilies_108 rfl (lv_at hl 1 rfl) ?_
                    refine lv_iload hx hb dL_areFamilies_109 (lv_at hl 7 rfl) ?_
                    refine lv_iload_n hx hb dL_areFamilies_111 rfl (lv_at hl 2 rfl) ?_
                    refine lc_pub (ld := ld) (L0 := L) (As := [.int (zi r_26), .int (zi x0)]) (rest := []) (A0 := bA ad ld) ⟨hx, hb, hml, hown, hts⟩ (ct_X7_family l hst D cI cZ cJ sa ad S_26 hD_26.1 hdis.1 r_26 x0 ⟨by omega, by omega⟩ ⟨by omega, by omega⟩) (cwV 2 hts gL_areFamilies_X7_family rfl rfl rfl (by decide +kernel) ⟨Nat.le_of_ble_eq_true rfl, Nat.le_of_ble_eq_true rfl⟩) rfl hK hX hdis (fun _ h => h) hS hP hL (nox_family hD_26 (by omega) (by omega) ⟨by omega, by omega⟩) rfl hl.1 rfl (Nat.le_of_ble_eq_true rfl) dL_areFamilies_112 ⟨(by show _ ≤ (620 : Nat); omega), (by show _ ≤ (3720 : Nat); omega)⟩ (fun r_112 S_112 H locs hp_112 _ _ hP hL hS => ?_)
                    obtain ⟨er_112, hD_112⟩ := q_family hD_26 (by omega) (by omega) hp_112
                    refine lv_iload hx hb dL_areFamilies_115 (lv_at hl 7 rfl) ?_
                    refine zi_icmp_ne (tgt := 124) hx hb ⟨by omega, by omega⟩ ⟨by omega, by omega⟩ dL_areFamilies_117 (by decide) (fun c_117 => ?_) (fun c_117 => ?_)
                    · exact absurd c_117 (by rw [er_112, fe]; exact not_not_intro rfl)
                    · refine zi_iconst hx hb dL_areFamilies_120 ?_
                      refine lv_goto (tgt := 125) hx hb dL_areFamilies_121 (by decide) ?_
                      exact lw_wd (by omega) (by omega) (K_125 1 S_112 (by first | omega | assumption) hD_112 _ _ hP hL hS _ (lv_sub hl [1, 2, 3, 4, 0, 6, 7] rfl))
            · refine lv_iload hx hb dL_areFamilies_59 (lv_at hl 7 rfl) ?_
              refine zi_iconst hx hb dL_areFamilies_61 ?_
              refine zi_icmp_ne (tgt := 69) hx hb ⟨by omega, by omega⟩ ⟨by decide, by decide⟩ dL_areFamilies_62 (by decide) (fun c_62 => ?_) (fun c_62 => ?_)
              · exact absurd c_62 (by rw [er_26, fm_no hG.2.1 x0 h_i (by omega) (by omega)]; exact not_not_intro rfl)
              · refine zi_iconst hx hb dL_areFamilies_65 ?_
                refine lv_goto (tgt := 125) hx hb dL_areFamilies_66 (by decide) ?_
                exact lw_wd (by omega) (by omega) (K_125 1 S_26 (by first | omega | assumption) hD_26 _ _ hP hL hS _ (lv_sub hl [1, 2, 3, 4, 0, 6, 7] rfl))
          refine zi_icmp_ne (tgt := 44) hx hb ⟨by omega, by omega⟩ ⟨by omega, by omega⟩ dL_areFamilies_37 (by decide) (fun c_37 => ?_) (fun c_37 => ?_)
          · refine zi_iconst hx hb dL_areFamilies_44 ?_
            exact K_45 0 (if_neg (by rw [← er_26]; exact c_37)).symm (by first | omega | assumption) _ (lv_sub hl [1, 2, 3, 4, 6, 7, 0] rfl)
          · refine zi_iconst hx hb dL_areFamilies_40 ?_
            refine lv_goto (tgt := 45) hx hb dL_areFamilies_41 (by decide) ?_
            exact K_45 1 (if_pos (by rw [← er_26]; exact c_37)).symm (by first | omega | assumption) _ (lv_sub hl [1, 2, 3, 4, 6, 7, 0] rfl)
  refine lv_istore (lv' := [(6, .int (zi 0)), (5, .int (zi 1)), (4, .int (zi 0)), (0, .ref (ad 0)), (1, .int (zi x0)), (2, .ref (ld 3)), (3, .ref (ld 4))]) hx hb dL_areFamilies_7 hl (by decide) rfl (fun ls hl => ?_)
  exact lw_wd (by omega) (by omega) (K_9 ((M 11 0).toNat + 1) ((M 11 0).toNat) 0 1 0 S (by first | omega | assumption) (by first | omega | assumption) (by first | omega | assumption) (by first | omega | assumption) (by rw [fcN]) hD (by omega) _ _ hP hL hS _ (lv_sub hl [3, 4, 5, 6, 2, 1, 0] rfl))
