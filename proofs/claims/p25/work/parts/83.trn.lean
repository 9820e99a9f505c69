theorem lkN_b {M : ZS} {b : Int} : 0 ≤ lkN M b ∧ lkN M b ≤ 40 := by
  unfold lkN
  rw [cnt_fl]
  have := fl_len (fun k => lookM M k b) 40 0
  omega
abbrev rmct_L_isTurn : Room := { frames := 8, cells := 4, slots := 24, locals := 129 }
set_option maxHeartbeats 8000000 in
set_option maxRecDepth 100000 in
theorem ct_L_isTurn (l : Launch) (hst : l.stackTraces = false) (D : va_G) (cI cZ cJ : ClassId) (sa ad ld : Nat → Nat) (S L M : ZS) (hdis : bDis ad ld) (hG : GL L M) (hD : DK S M) (x0 : Int) (hx0 : ir x0) (hp0 : 0 ≤ x0 ∧ x0 < M 11 0) : Met l yL_isTurn wsL_isTurn rmct_L_isTurn (zPb D cI cZ cJ sa ad ld S L [.ref (ad 0), .int (zi x0), .ref (ld 0), .ref (ld 1), .ref (ld 3), .ref (ld 4)]) (zWb D cI ad ld (fun r S9 L9 => r = 1 ∧ L9 = L ∧ DK S9 M)) 4 24 (bA ad ld) := by
  refine Met.ofW (cc := cL_isTurn) (maxL := 14) (ret := (some .boolean)) (by decide) rfl ?_
  intro p e s m args below meth c s₁ B hml hv
  obtain ⟨rfl, hP, hL, hK, hX, hQ⟩ := hv
  have hx := B.exec
  have hb := B.bytes
  have hr := B.returns
  have hts := atoms_spec (ws := wsL_isTurn) B.pre
  have hown : s.vm.findClass RL = some m.cls := findClass_of_methodNamed B.named
  have hlocks := B.notSynchronized
  have hl := lv_entry ([.ref (ad 0), .int (zi x0), .ref (ld 0), .ref (ld 1), .ref (ld 3), .ref (ld 4)]) (n := 14) (Nat.le_of_ble_eq_true rfl)
  rw [lg_entry_eq]
  generalize (lg_sl ([.ref (ad 0), .int (zi x0), .ref (ld 0), .ref (ld 1), .ref (ld 3), .ref (ld 4)]) ++ List.replicate (14 - (lg_sl ([.ref (ad 0), .int (zi x0), .ref (ld 0), .ref (ld 1), .ref (ld 3), .ref (ld 4)])).length) Slot.unset).toArray = ls at hl ⊢
  have hl : lv_has ls 14 [(0, .ref (ad 0)), (1, .int (zi x0)), (2, .ref (ld 0)), (3, .ref (ld 1)), (4, .ref (ld 3)), (5, .ref (ld 4))] := hl
  have hS : va_S (bA ad ld) s.heap s.heap [] := va_S.rf
  show W p l e rmct_L_isTurn s m ([.ref (ad 0), .int (zi x0), .ref (ld 0), .ref (ld 1), .ref (ld 3), .ref (ld 4)] : List Value).toArray below meth c s.heap [] 0 0 (MQ below (zWb D cI ad ld (fun r S9 L9 => r = 1 ∧ L9 = L ∧ DK S9 M)) ([.ref (ad 0), .int (zi x0), .ref (ld 0), .ref (ld 1), .ref (ld 3), .ref (ld 4)] : List Value).toArray s 4 24 (bA ad ld)) (F0 m 0 ls [])
  have q0 := GL.c hG
  have tb := turn_law hG x0
  refine zi_iconst hx hb dL_isTurn_0 ?_
  refine lv_istore (lv' := [(6, .int (zi (-1))), (0, .ref (ad 0)), (1, .int (zi x0)), (2, .ref (ld 0)), (3, .ref (ld 1)), (4, .ref (ld 3)), (5, .ref (ld 4))]) hx hb dL_isTurn_1 hl (by decide) rfl (fun ls hl => ?_)
  refine zi_iconst hx hb dL_isTurn_3 ?_
  refine lv_istore (lv' := [(7, .int (zi (-1))), (6, .int (zi (-1))), (0, .ref (ad 0)), (1, .int (zi x0)), (2, .ref (ld 0)), (3, .ref (ld 1)), (4, .ref (ld 3)), (5, .ref (ld 4))]) hx hb dL_isTurn_4 hl (by decide) rfl (fun ls hl => ?_)
  refine zi_iconst hx hb dL_isTurn_6 ?_
  have K_9 : ∀ (k : Nat) (n : Nat) (best9 least9 by9 : Int), (by9 + (n : Int) = 21) → (2 ≤ by9) → (-1 ≤ best9 ∧ best9 ≤ 20 ∧ -1 ≤ least9 ∧ least9 ≤ 2500) → ((by9 = 2 ∧ best9 = -1 ∧ least9 = -1) ∨ (3 < lkN M x0 ∧ itr (tlB M x0) n by9 (best9, least9) = itr (tlB M x0) 19 2 (-1, -1))) → ((n : Int) < (k : Int)) → ∀ (ls : Array Slot), lv_has ls 14 [(0, .ref (ad 0)), (1, .int (zi x0)), (2, .ref (ld 0)), (3, .ref (ld 1)), (4, .ref (ld 3)), (5, .ref (ld 4)), (6, .int (zi best9)), (7, .int (zi least9)), (8, .int (zi by9))] → W p l e rmct_L_isTurn s m ([.ref (ad 0), .int (zi x0), .ref (ld 0), .ref (ld 1), .ref (ld 3), .ref (ld 4)] : List Value).toArray below meth c s.heap [] 0 0 (MQ below (zWb D cI ad ld (fun r S9 L9 => r = 1 ∧ L9 = L ∧ DK S9 M)) ([.ref (ad 0), .int (zi x0), .ref (ld 0), .ref (ld 1), .ref (ld 3), .ref (ld 4)] : List Value).toArray s 4 24 (bA ad ld)) (F0 m 9 ls []) := by
    intro k
    induction k with
    | zero => intro n best9 least9 by9 h_n h_i h_b h_R hk; exact absurd hk (by omega)
    | succ k ih_9 =>
      intro n best9 least9 by9 h_n h_i h_b h_R hk ls hl
      refine lv_iload hx hb dL_isTurn_9 (lv_at hl 8 rfl) ?_
      refine zi_bipush hx hb dL_isTurn_11 (by decide) ?_
      have K_215 : ∀ (bf9 lf9 : Int), (bf9 = tuM M x0 0) → (lf9 = tuM M x0 1) → (-1 ≤ bf9 ∧ bf9 ≤ 20 ∧ -1 ≤ lf9 ∧ lf9 ≤ 2500) → ∀ (ls : Array Slot), lv_has ls 14 [(0, .ref (ad 0)), (1, .int (zi x0)), (2, .ref (ld 0)), (3, .ref (ld 1)), (4, .ref (ld 3)), (5, .ref (ld 4)), (6, .int (zi bf9)), (7, .int (zi lf9))] → W p l e rmct_L_isTurn s m ([.ref (ad 0), .int (zi x0), .ref (ld 0), .ref (ld 1), .ref (ld 3), .ref (ld 4)] : List Value).toArray below meth c s.heap [] 0 0 (MQ below (zWb D cI ad ld (fun r S9 L9 => r = 1 ∧ L9 = L ∧ DK S9 M)) ([.ref (ad 0), .int (zi x0), .ref (ld 0), .ref (ld 1), .ref (ld 3), .ref (ld 4)] : List Value).toArray s 4 24 (bA ad ld)) (F0 m 215 ls []) := by
        intro bf9 lf9 h_f1 h_f2 h_fb ls hl
        refine lv_aload_n hx hb dL_isTurn_215 rfl (lv_at hl 0 rfl) ?_
        refine lv_iload_n hx hb dL_isTurn_216 rfl (lv_at hl 1 rfl) ?_
        refine zi_iconst hx hb dL_isTurn_217 ?_
        refine lc_pub (ld := ld) (L0 := L) (As := [.int (zi x0), .int (zi 0)]) (rest := []) (A0 := bA ad ld) ⟨hx, hb, hml, hown, hts⟩ (ct_X7_turn l hst D cI cZ cJ sa ad S hD.1 hdis.1 x0 0 ⟨by omega, by omega⟩ ⟨by decide, by decide⟩) (cwV 2 hts gL_isTurn_X7_turn rfl rfl rfl (by decide +kernel) ⟨Nat.le_of_ble_eq_true rfl, Nat.le_of_ble_eq_true rfl⟩) rfl hK hX hdis (fun _ h => h) hS hP hL (nox_turn (w := 0) hD (by omega) (by omega)) rfl hl.1 rfl (Nat.le_of_ble_eq_true rfl) dL_isTurn_218 ⟨(by show _ ≤ (4 : Nat); omega), (by show _ ≤ (24 : Nat); omega)⟩ (fun r_218 S_218 H locs hp_218 _ _ hP hL hS => ?_)
        obtain ⟨er_218, hD_218⟩ := q_turn hD (by omega) (by omega) hp_218
        refine lv_iload hx hb dL_isTurn_221 (lv_at hl 6 rfl) ?_
        refine zi_icmp_ne (tgt := 241) hx hb ⟨by omega, by omega⟩ ⟨by omega, by omega⟩ dL_isTurn_223 (by decide) (fun c_223 => ?_) (fun c_223 => ?_)
        · exact absurd c_223 (by rw [er_218, h_f1]; exact not_not_intro rfl)
        · refine lv_aload_n hx hb dL_isTurn_226 rfl (lv_at hl 0 rfl) ?_
          refine lv_iload_n hx hb dL_isTurn_227 rfl (lv_at hl 1 rfl) ?_
          refine zi_iconst hx hb dL_isTurn_228 ?_
          refine lc_pub (ld := ld) (L0 := L) (As := [.int (zi x0), .int (zi 1)]) (rest := []) (A0 := bA ad ld) ⟨hx, hb, hml, hown, hts⟩ (ct_X7_turn l hst D cI cZ cJ sa ad S_218 hD_218.1 hdis.1 x0 1 ⟨by omega, by omega⟩ ⟨by decide, by decide⟩) (cwV 2 hts gL_isTurn_X7_turn rfl rfl rfl (by decide +kernel) ⟨Nat.le_of_ble_eq_true rfl, Nat.le_of_ble_eq_true rfl⟩) rfl hK hX hdis (fun _ h => h) hS hP hL (nox_turn (w := 1) hD_218 (by omega) (by omega)) rfl hl.1 rfl (Nat.le_of_ble_eq_true rfl) dL_isTurn_229 ⟨(by show _ ≤ (4 : Nat); omega), (by show _ ≤ (24 : Nat); omega)⟩ (fun r_229 S_229 H locs hp_229 _ _ hP hL hS => ?_)
          obtain ⟨er_229, hD_229⟩ := q_turn hD_218 (by omega) (by omega) hp_229
          refine lv_iload hx hb dL_isTurn_232 (lv_at hl 7 rfl) ?_
          refine zi_icmp_ne (tgt := 241) hx hb ⟨by omega, by omega⟩ ⟨by omega, by omega⟩ dL_isTurn_234 (by decide) (fun c_234 => ?_) (fun c_234 => ?_)
          · exact absurd c_234 (by rw [er_229, h_f2]; exact not_not_intro rfl)
          · refine zi_iconst hx hb dL_isTurn_237 ?_
            refine lv_goto (tgt := 242) hx hb dL_isTurn_238 (by decide) ?_
            exact lr_wz (S1 := S_229) (L1 := L) hx hb hr hlocks dL_isTurn_242 (Or.inr rfl) hP hL hS ⟨by omega, by omega⟩ (by exact ⟨by omega, rfl, hD_229⟩)
      refine zi_icmp_ge (tgt := 215) hx hb ⟨by omega, by omega⟩ ⟨by decide, by decide⟩ dL_isTurn_13 (by decide) (fun c_13 => ?_) (fun c_13 => ?_)
      · obtain rfl : n = 0 := by omega
        have h_E : (best9, least9) = itr (tlB M x0) 19 2 (-1, -1) := (h_R.resolve_left (by omega)).2
        have h_L : 3 < lkN M x0 := (h_R.resolve_left (by omega)).1
        exact K_215 best9 least9 (by rw [tb.1, if_pos h_L, ← h_E]) (by rw [tb.2, if_pos h_L, ← h_E]) (by first | omega | assumption) _ (lv_sub hl [0, 1, 2, 3, 4, 5, 6, 7] rfl)
      · obtain ⟨n, rfl⟩ : ∃ n8 : Nat, n = n8 + 1 := ⟨n - 1, by omega⟩
        refine lv_aload_n hx hb dL_isTurn_16 rfl (lv_at hl 2 rfl) ?_
        refine lv_aload hx hb dL_isTurn_17 (lv_at hl 4 rfl) ?_
        refine lv_aload hx hb dL_isTurn_19 (lv_at hl 5 rfl) ?_
        refine lv_iload_n hx hb dL_isTurn_21 rfl (lv_at hl 1 rfl) ?_
        refine zk_r (zc_S (As := [.ref (ld 0), .ref (ld 3), .ref (ld 4), .int (zi x0)]) (rest := []) ⟨hx, hb, hml, hown, hts⟩ (ct_L_looks l D cI cZ cJ ld L M hG x0 ⟨by omega, by omega⟩) (va_cwS 4 hts gL_isTurn_L_looks rfl rfl rfl (by decide +kernel) ⟨Nat.le_of_ble_eq_true rfl, Nat.le_of_ble_eq_true rfl⟩) hK hL rfl hl.1 rfl (Nat.le_of_ble_eq_true rfl) dL_isTurn_22 ⟨(by show _ ≤ (4 : Nat); omega), (by show _ ≤ (24 : Nat); omega)⟩) ?_
        refine zi_top (fun (r_22 : Int) (er_22 : r_22 = lkN M x0) => ?_)
        have lk_ := lkN_b (M := M) (b := x0)
        rw [← er_22] at lk_
        refine zi_iconst hx hb dL_isTurn_25 ?_
        refine zi_icmp_le (tgt := 215) hx hb ⟨by omega, by omega⟩ ⟨by decide, by decide⟩ dL_isTurn_26 (by decide) (fun c_26 => ?_) (fun c_26 => ?_)
        · exact K_215 best9 least9 (by rw [tb.1, if_neg (by rw [← er_22]; omega)]; have := h_R.resolve_right (fun h => by rw [← er_22] at h; omega); omega) (by rw [tb.2, if_neg (by rw [← er_22]; omega)]; have := h_R.resolve_right (fun h => by rw [← er_22] at h; omega); omega) (by first | omega | assumption) _ (lv_sub hl [0, 1, 2, 3, 4, 5, 6, 7] rfl)
        · refine zi_iconst hx hb dL_isTurn_29 ?_
          refine lv_istore (lv' := [(9, .int (zi 0)), (0, .ref (ad 0)), (1, .int (zi x0)), (2, .ref (ld 0)), (3, .ref (ld 1)), (4, .ref (ld 3)), (5, .ref (ld 4)), (6, .int (zi best9)), (7, .int (zi least9)), (8, .int (zi by9))]) hx hb dL_isTurn_30 hl (by decide) rfl (fun ls hl => ?_)
          refine zi_iconst hx hb dL_isTurn_32 ?_
          have K_35 : ∀ (k : Nat) (n2 : Nat) (fault9 rest9 : Int), (rest9 + (n2 : Int) = by9) → (0 ≤ rest9) → (0 ≤ fault9 ∧ fault9 ≤ 99 * rest9) → (itr (fun r acc => acc + tlV (tlQ M x0 by9 r)) n2 rest9 fault9 = tlT M x0 by9) → ((n2 : Int) < (k : Int)) → ∀ (ls : Array Slot), lv_has ls 14 [(0, .ref (ad 0)), (1, .int (zi x0)), (2, .ref (ld 0)), (3, .ref (ld 1)), (4, .ref (ld 3)), (5, .ref (ld 4)), (6, .int (zi best9)), (7, .int (zi least9)), (8, .int (zi by9)), (9, .int (zi fault9)), (10, .int (zi rest9))] → W p l e rmct_L_isTurn s m ([.ref (ad 0), .int (zi x0), .ref (ld 0), .ref (ld 1), .ref (ld 3), .ref (ld 4)] : List Value).toArray below meth c s.heap [] 0 0 (MQ below (zWb D cI ad ld (fun r S9 L9 => r = 1 ∧ L9 = L ∧ DK S9 M)) ([.ref (ad 0), .int (zi x0), .ref (ld 0), .ref (ld 1), .ref (ld 3), .ref (ld 4)] : List Value).toArray s 4 24 (bA ad ld)) (F0 m 35 ls []) := by
            intro k
            induction k with
            | zero => intro n2 fault9 rest9 g_n g_i g_b g_R hk; exact absurd hk (by omega)
            | succ k ih_35 =>
              intro n2 fault9 rest9 g_n g_i g_b g_R hk ls hl
              refine lv_iload hx hb dL_isTurn_35 (lv_at hl 10 rfl) ?_
              refine lv_iload hx hb dL_isTurn_37 (lv_at hl 8 rfl) ?_
              refine zi_icmp_ge (tgt := 167) hx hb ⟨by omega, by omega⟩ ⟨by omega, by omega⟩ dL_isTurn_39 (by decide) (fun c_39 => ?_) (fun c_39 => ?_)
              · obtain rfl : n2 = 0 := by omega
                have h_T : fault9 = tlT M x0 by9 := g_R
                refine lv_iload hx hb dL_isTurn_167 (lv_at hl 7 rfl) ?_
                have K_186 : ∀ (be9 : Int), (be9 = if least9 < 0 ∨ fault9 < least9 then by9 else best9) → ∀ (ls : Array Slot), lv_has ls 14 [(0, .ref (ad 0)), (1, .int (zi x0)), (2, .ref (ld 0)), (3, .ref (ld 1)), (4, .ref (ld 3)), (5, .ref (ld 4)), (6, .int (zi best9)), (7, .int (zi least9)), (8, .int (zi by9)), (9, .int (zi fault9))] → W p l e rmct_L_isTurn s m ([.ref (ad 0), .int (zi x0), .ref (ld 0), .ref (ld 1), .ref (ld 3), .ref (ld 4)] : List Value).toArray below meth c s.heap [] 0 0 (MQ below (zWb D cI ad ld (fun r S9 L9 => r = 1 ∧ L9 = L ∧ DK S9 M)) ([.ref (ad 0), .int (zi x0), .ref (ld 0), .ref (ld 1), .ref (ld 3), .ref (ld 4)] : List Value).toArray s 4 24 (bA ad ld)) (F0 m 186 ls [.int (zi be9)]) := by
                  intro be9 h_be ls hl
                  refine lv_istore (lv' := [(6, .int (zi be9)), (0, .ref (ad 0)), (1, .int (zi x0)), (2, .ref (ld 0)), (3, .ref (ld 1)), (4, .ref (ld 3)), (5, .ref (ld 4)), (7, .int (zi least9)), (8, .int (zi by9)), (9, .int (zi fault9))]) hx hb dL_isTurn_186 hl (by decide) rfl (fun ls hl => ?_)
                  refine lv_iload hx hb dL_isTurn_188 (lv_at hl 7 rfl) ?_
                  have K_207 : ∀ (le9 : Int), (le9 = if least9 < 0 ∨ fault9 < least9 then fault9 else least9) → ∀ (ls : Array Slot), lv_has ls 14 [(0, .ref (ad 0)), (1, .int (zi x0)), (2, .ref (ld 0)), (3, .ref (ld 1)), (4, .ref (ld 3)), (5, .ref (ld 4)), (6, .int (zi be9)), (8, .int (zi by9)), (9, .int (zi fault9))] → W p l e rmct_L_isTurn s m ([.ref (ad 0), .int (zi x0), .ref (ld 0), .ref (ld 1), .ref (ld 3), .ref (ld 4)] : List Value).toArray below meth c s.heap [] 0 0 (MQ below (zWb D cI ad ld (fun r S9 L9 => r = 1 ∧ L9 = L ∧ DK S9 M)) ([.ref (ad 0), .int (zi x0), .ref (ld 0), .ref (ld 1), .ref (ld 3), .ref (ld 4)] : List Value).toArray s 4 24 (bA ad ld)) (F0 m 207 ls [.int (zi le9)]) := by
                    intro le9 h_le ls hl
                    refine lv_istore (lv' := [(7, .int (zi le9)), (0, .ref (ad 0)), (1, .int (zi x0)), (2, .ref (ld 0)), (3, .ref (ld 1)), (4, .ref (ld 3)), (5, .ref (ld 4)), (6, .int (zi be9)), (8, .int (zi by9)), (9, .int (zi fault9))]) hx hb dL_isTurn_207 hl (by decide) rfl (fun ls hl => ?_)
                    refine zi_iinc (k := 8) (lv' := [(8, .int (zi (by9 + 1))), (7, .int (zi le9)), (0, .ref (ad 0)), (1, .int (zi x0)), (2, .ref (ld 0)), (3, .ref (ld 1)), (4, .ref (ld 3)), (5, .ref (ld 4)), (6, .int (zi be9)), (9, .int (zi fault9))]) hx hb dL_isTurn_209 hl rfl (by decide) rfl (fun ls hl => ?_)
                    refine lv_goto (tgt := 9) hx hb dL_isTurn_212 (by decide) ?_
                    exact ih_9 n be9 le9 (by9 + 1) (by first | omega | assumption) (by first | omega | assumption) (by by_cases c9 : least9 < 0 ∨ fault9 < least9 <;> simp only [c9, if_true, if_false] at h_be h_le <;> omega) (Or.inr ⟨by omega, by have h9 := h_R.elim (fun h => by obtain ⟨rfl, rfl, rfl⟩ := h; exact congrArg (fun q => itr (tlB M x0) q 2 (-1, -1)) (show n + 1 = 19 by omega)) (fun h => h.2); rw [← h9, itr_s]; congr 1; show (be9, le9) = (if least9 < 0 ∨ tlT M x0 by9 < least9 then by9 else best9, if least9 < 0 ∨ tlT M x0 by9 < least9 then tlT M x0 by9 else least9); rw [← h_T, ← h_be, ← h_le]⟩) (by omega) _ (lv_sub hl [2, 3, 4, 5, 6, 7, 8, 1, 0] rfl)
                  refine zi_if_lt (tgt := 200) hx hb ⟨by omega, by omega⟩ dL_isTurn_190 (by decide) (fun c_190 => ?_) (fun c_190 => ?_)
                  · refine lv_iload hx hb dL_isTurn_200 (lv_at hl 9 rfl) ?_
                    refine lv_goto (tgt := 207) hx hb dL_isTurn_202 (by decide) ?_
                    exact K_207 fault9 (by rw [if_pos (by omega)]) _ (lv_sub hl [1, 2, 3, 4, 5, 6, 0, 8, 9] rfl)
                  · refine lv_iload hx hb dL_isTurn_193 (lv_at hl 9 rfl) ?_
                    refine lv_iload hx hb dL_isTurn_195 (lv_at hl 7 rfl) ?_
                    refine zi_icmp_ge (tgt := 205) hx hb ⟨by omega, by omega⟩ ⟨by omega, by omega⟩ dL_isTurn_197 (by decide) (fun c_197 => ?_) (fun c_197 => ?_)
                    · refine lv_iload hx hb dL_isTurn_205 (lv_at hl 7 rfl) ?_
                      exact K_207 least9 (by rw [if_neg (by omega)]) _ (lv_sub hl [1, 2, 3, 4, 5, 6, 0, 8, 9] rfl)
                    · refine lv_iload hx hb dL_isTurn_200 (lv_at hl 9 rfl) ?_
                      refine lv_goto (tgt := 207) hx hb dL_isTurn_202 (by decide) ?_
                      exact K_207 fault9 (by rw [if_pos (by omega)]) _ (lv_sub hl [1, 2, 3, 4, 5, 6, 0, 8, 9] rfl)
                refine zi_if_lt (tgt := 179) hx hb ⟨by omega, by omega⟩ dL_isTurn_169 (by decide) (fun c_169 => ?_) (fun c_169 => ?_)
                · refine lv_iload hx hb dL_isTurn_179 (lv_at hl 8 rfl) ?_
                  refine lv_goto (tgt := 186) hx hb dL_isTurn_181 (by decide) ?_
                  exact K_186 by9 (by rw [if_pos (by omega)]) _ (lv_sub hl [0, 1, 2, 3, 4, 5, 6, 7, 8, 9] rfl)
                · refine lv_iload hx hb dL_isTurn_172 (lv_at hl 9 rfl) ?_
                  refine lv_iload hx hb dL_isTurn_174 (lv_at hl 7 rfl) ?_
                  refine zi_icmp_ge (tgt := 184) hx hb ⟨by omega, by omega⟩ ⟨by omega, by omega⟩ dL_isTurn_176 (by decide) (fun c_176 => ?_) (fun c_176 => ?_)
                  · refine lv_iload hx hb dL_isTurn_184 (lv_at hl 6 rfl) ?_
                    exact K_186 best9 (by rw [if_neg (by omega)]) _ (lv_sub hl [0, 1, 2, 3, 4, 5, 6, 7, 8, 9] rfl)
                  · refine lv_iload hx hb dL_isTurn_179 (lv_at hl 8 rfl) ?_
                    refine lv_goto (tgt := 186) hx hb dL_isTurn_181 (by decide) ?_
                    exact K_186 by9 (by rw [if_pos (by omega)]) _ (lv_sub hl [0, 1, 2, 3, 4, 5, 6, 7, 8, 9] rfl)
              · obtain ⟨n2, rfl⟩ : ∃ n8 : Nat, n2 = n8 + 1 := ⟨n2 - 1, by omega⟩
                refine zi_bipush hx hb dL_isTurn_42 (by decide) ?_
                refine lv_istore (lv' := [(11, .int (zi 100)), (0, .ref (ad 0)), (1, .int (zi x0)), (2, .ref (ld 0)), (3, .ref (ld 1)), (4, .ref (ld 3)), (5, .ref (ld 4)), (6, .int (zi best9)), (7, .int (zi least9)), (8, .int (zi by9)), (9, .int (zi fault9)), (10, .int (zi rest9))]) hx hb dL_isTurn_44 hl (by decide) rfl (fun ls hl => ?_)
                refine zi_iconst hx hb dL_isTurn_46 ?_
                refine lv_istore (lv' := [(12, .int (zi (-1))), (11, .int (zi 100)), (0, .ref (ad 0)), (1, .int (zi x0)), (2, .ref (ld 0)), (3, .ref (ld 1)), (4, .ref (ld 3)), (5, .ref (ld 4)), (6, .int (zi best9)), (7, .int (zi least9)), (8, .int (zi by9)), (9, .int (zi fault9)), (10, .int (zi rest9))]) hx hb dL_isTurn_47 hl (by decide) rfl (fun ls hl => ?_)
                refine zi_iconst hx hb dL_isTurn_49 ?_
                have K_52 : ∀ (k : Nat) (n3 : Nat) (low9 high9 k9 : Int), (k9 + (n3 : Int) = 40) → (0 ≤ k9) → ((low9 = 100 ∧ high9 = -1) ∨ (0 ≤ low9 ∧ low9 ≤ high9 ∧ high9 ≤ 99)) → (itr (tlF M x0 by9 rest9) n3 k9 (low9, high9) = tlQ M x0 by9 rest9) → ((n3 : Int) < (k : Int)) → ∀ (ls : Array Slot), lv_has ls 14 [(0, .ref (ad 0)), (1, .int (zi x0)), (2, .ref (ld 0)), (3, .ref (ld 1)), (4, .ref (ld 3)), (5, .ref (ld 4)), (6, .int (zi best9)), (7, .int (zi least9)), (8, .int (zi by9)), (9, .int (zi fault9)), (10, .int (zi rest9)), (11, .int (zi low9)), (12, .int (zi high9)), (13, .int (zi k9))] → W p l e rmct_L_isTurn s m ([.ref (ad 0), .int (zi x0), .ref (ld 0), .ref (ld 1), .ref (ld 3), .ref (ld 4)] : List Value).toArray below meth c s.heap [] 0 0 (MQ below (zWb D cI ad ld (fun r S9 L9 => r = 1 ∧ L9 = L ∧ DK S9 M)) ([.ref (ad 0), .int (zi x0), .ref (ld 0), .ref (ld 1), .ref (ld 3), .ref (ld 4)] : List Value).toArray s 4 24 (bA ad ld)) (F0 m 52 ls []) := by
                  intro k
                  induction k with
                  | zero => intro n3 low9 high9 k9 k_n k_i k_b k_R hk; exact absurd hk (by omega)
                  | succ k ih_52 =>
                    intro n3 low9 high9 k9 k_n k_i k_b k_R hk ls hl
                    refine lv_iload hx hb dL_isTurn_52 (lv_at hl 13 rfl) ?_
                    refine lv_aload hx hb dL_isTurn_54 (lv_at hl 5 rfl) ?_
                    refine zi_iconst hx hb dL_isTurn_56 ?_
                    refine zi_iald hx hb hK.1 hL 4 0 rfl rfl (by omega) (by omega) (by decide) dL_isTurn_57 ?_
                    refine zi_is 40 (GL.c hG).1 ?_
                    have q_57 := GL.c hG
                    refine zi_icmp_ge (tgt := 142) hx hb ⟨by omega, by omega⟩ ⟨by decide, by decide⟩ dL_isTurn_58 (by decide) (fun c_58 => ?_) (fun c_58 => ?_)
                    · obtain rfl : n3 = 0 := by omega
                      have h_Q : (low9, high9) = tlQ M x0 by9 rest9 := k_R
                      refine lv_iload hx hb dL_isTurn_142 (lv_at hl 9 rfl) ?_
                      refine lv_iload hx hb dL_isTurn_144 (lv_at hl 12 rfl) ?_
                      have K_158 : ∀ (w9 : Int), (w9 = tlV (tlQ M x0 by9 rest9)) → (0 ≤ w9 ∧ w9 ≤ 99) → ∀ (ls : Array Slot), lv_has ls 14 [(0, .ref (ad 0)), (1, .int (zi x0)), (2, .ref (ld 0)), (3, .ref (ld 1)), (4, .ref (ld 3)), (5, .ref (ld 4)), (6, .int (zi best9)), (7, .int (zi least9)), (8, .int (zi by9)), (10, .int (zi rest9))] → W p l e rmct_L_isTurn s m ([.ref (ad 0), .int (zi x0), .ref (ld 0), .ref (ld 1), .ref (ld 3), .ref (ld 4)] : List Value).toArray below meth c s.heap [] 0 0 (MQ below (zWb D cI ad ld (fun r S9 L9 => r = 1 ∧ L9 = L ∧ DK S9 M)) ([.ref (ad 0), .int (zi x0), .ref (ld 0), .ref (ld 1), .ref (ld 3), .ref (ld 4)] : List Value).toArray s 4 24 (bA ad ld)) (F0 m 158 ls [.int (zi w9), .int (zi fault9)]) := by
                        intro w9 h_w h_wb ls hl
                        refine zi_iadd hx hb dL_isTurn_158 ?_
                        refine zi_top (fun x9_159 ex9_159 => ?_)
                        refine lv_istore (lv' := [(9, .int (zi x9_159)), (0, .ref (ad 0)), (1, .int (zi x0)), (2, .ref (ld 0)), (3, .ref (ld 1)), (4, .ref (ld 3)), (5, .ref (ld 4)), (6, .int (zi best9)), (7, .int (zi least9)), (8, .int (zi by9)), (10, .int (zi rest9))]) hx hb dL_isTurn_159 hl (by decide) rfl (fun ls hl => ?_)
                        refine zi_iinc (k := 10) (lv' := [(10, .int (zi (rest9 + 1))), (9, .int (zi x9_159)), (0, .ref (ad 0)), (1, .int (zi x0)), (2, .ref (ld 0)), (3, .ref (ld 1)), (4, .ref (ld 3)), (5, .ref (ld 4)), (6, .int (zi best9)), (7, .int (zi least9)), (8, .int (zi by9))]) hx hb dL_isTurn_161 hl rfl (by decide) rfl (fun ls hl => ?_)
                        refine lv_goto (tgt := 35) hx hb dL_isTurn_164 (by decide) ?_
                        exact ih_35 n2 x9_159 (rest9 + 1) (by first | omega | assumption) (by first | omega | assumption) ⟨by omega, by omega⟩ (by rw [← g_R, itr_s, ← h_w, ex9_159]) (by omega) _ (lv_sub hl [2, 3, 4, 5, 6, 7, 8, 9, 10, 1, 0] rfl)
                      refine zi_if_ge (tgt := 153) hx hb ⟨by omega, by omega⟩ dL_isTurn_146 (by decide) (fun c_146 => ?_) (fun c_146 => ?_)
                      · refine lv_iload hx hb dL_isTurn_153 (lv_at hl 12 rfl) ?_
                        refine lv_iload hx hb dL_isTurn_155 (lv_at hl 11 rfl) ?_
                        refine zi_isub hx hb dL_isTurn_157 ?_
                        exact K_158 (high9 - low9) (by rw [← h_Q]; unfold tlV; exact (if_neg (by omega)).symm) (by first | omega | assumption) _ (lv_sub hl [0, 1, 2, 3, 4, 5, 6, 7, 8, 10] rfl)
                      · refine zi_iconst hx hb dL_isTurn_149 ?_
                        refine lv_goto (tgt := 158) hx hb dL_isTurn_150 (by decide) ?_
                        exact K_158 0 (by rw [← h_Q]; unfold tlV; exact (if_pos (by omega)).symm) (by first | omega | assumption) _ (lv_sub hl [0, 1, 2, 3, 4, 5, 6, 7, 8, 10] rfl)
                    · obtain ⟨n3, rfl⟩ : ∃ n8 : Nat, n3 = n8 + 1 := ⟨n3 - 1, by omega⟩
                      refine lv_aload_n hx hb dL_isTurn_61 rfl (lv_at hl 2 rfl) ?_
                      refine lv_aload hx hb dL_isTurn_62 (lv_at hl 4 rfl) ?_
                      refine lv_iload hx hb dL_isTurn_64 (lv_at hl 13 rfl) ?_
                      refine lv_iload_n hx hb dL_isTurn_66 rfl (lv_at hl 1 rfl) ?_
                      refine zk_r (zc_S (As := [.ref (ld 0), .ref (ld 3), .int (zi k9), .int (zi x0)]) (rest := []) ⟨hx, hb, hml, hown, hts⟩ (ct_L_isLook l D cI cZ cJ ld L M hG k9 x0 ⟨by omega, by omega⟩ ⟨by omega, by omega⟩ ⟨by omega, by omega⟩) (va_cwS 4 hts gL_isTurn_L_isLook rfl rfl rfl (by decide +kernel) ⟨Nat.le_of_ble_eq_true rfl, Nat.le_of_ble_eq_true rfl⟩) hK hL rfl hl.1 rfl (Nat.le_of_ble_eq_true rfl) dL_isTurn_67 ⟨(by show _ ≤ (4 : Nat); omega), (by show _ ≤ (24 : Nat); omega)⟩) ?_
                      refine zi_top (fun (r_67 : Int) (er_67 : r_67 = b2 (lookM M k9 x0)) => ?_)
                      have fr_67 : (0 : Int) ≤ r_67 ∧ r_67 ≤ 1 := by rw [er_67]; exact b2_b
                      have K_136 : ∀ (lo9 hi9 : Int), ((lo9, hi9) = tlF M x0 by9 rest9 k9 (low9, high9)) → ((lo9 = 100 ∧ hi9 = -1) ∨ (0 ≤ lo9 ∧ lo9 ≤ hi9 ∧ hi9 ≤ 99)) → ∀ (ls : Array Slot), lv_has ls 14 [(0, .ref (ad 0)), (1, .int (zi x0)), (2, .ref (ld 0)), (3, .ref (ld 1)), (4, .ref (ld 3)), (5, .ref (ld 4)), (6, .int (zi best9)), (7, .int (zi least9)), (8, .int (zi by9)), (9, .int (zi fault9)), (10, .int (zi rest9)), (13, .int (zi k9)), (11, .int (zi lo9)), (12, .int (zi hi9))] → W p l e rmct_L_isTurn s m ([.ref (ad 0), .int (zi x0), .ref (ld 0), .ref (ld 1), .ref (ld 3), .ref (ld 4)] : List Value).toArray below meth c s.heap [] 0 0 (MQ below (zWb D cI ad ld (fun r S9 L9 => r = 1 ∧ L9 = L ∧ DK S9 M)) ([.ref (ad 0), .int (zi x0), .ref (ld 0), .ref (ld 1), .ref (ld 3), .ref (ld 4)] : List Value).toArray s 4 24 (bA ad ld)) (F0 m 136 ls []) := by
                        intro lo9 hi9 h_u h_k2 ls hl
                        refine zi_iinc (k := 11) (lv' := [(13, .int (zi (k9 + 1))), (0, .ref (ad 0)), (1, .int (zi x0)), (2, .ref (ld 0)), (3, .ref (ld 1)), (4, .ref (ld 3)), (5, .ref (ld 4)), (6, .int (zi best9)), (7, .int (zi least9)), (8, .int (zi by9)), (9, .int (zi fault9)), (10, .int (zi rest9)), (11, .int (zi lo9)), (12, .int (zi hi9))]) hx hb dL_isTurn_136 hl rfl (by decide) rfl (fun ls hl => ?_)
                        refine lv_goto (tgt := 52) hx hb dL_isTurn_139 (by decide) ?_
                        exact ih_52 n3 lo9 hi9 (k9 + 1) (by first | omega | assumption) (by first | omega | assumption) h_k2 (by rw [← k_R, itr_s, h_u]) (by omega) _ (lv_sub hl [1, 2, 3, 4, 5, 6, 7, 8, 9, 10, 11, 12, 13, 0] rfl)
                      refine zi_if_eq (tgt := 136) hx hb ⟨by omega, by omega⟩ dL_isTurn_70 (by decide) (fun c_70 => ?_) (fun c_70 => ?_)
                      · exact K_136 low9 high9 (cif_f (fun h9 => b2_0 er_67 c_70 h9.1)).symm k_b _ (lv_sub hl [0, 1, 2, 3, 4, 5, 6, 7, 8, 9, 10, 13, 11, 12] rfl)
                      · refine lv_aload_n hx hb dL_isTurn_73 rfl (lv_at hl 2 rfl) ?_
                        refine lv_aload_n hx hb dL_isTurn_74 rfl (lv_at hl 3 rfl) ?_
                        refine lv_iload hx hb dL_isTurn_75 (lv_at hl 13 rfl) ?_
                        refine zk_r (zc_S (As := [.ref (ld 0), .ref (ld 1), .int (zi k9)]) (rest := []) ⟨hx, hb, hml, hown, hts⟩ (ct_L_nightOf l D cI cZ cJ ld L M hG k9 ⟨by omega, by omega⟩ ⟨by omega, by omega⟩) (va_cwS 3 hts gL_isTurn_L_nightOf rfl rfl rfl (by decide +kernel) ⟨Nat.le_of_ble_eq_true rfl, Nat.le_of_ble_eq_true rfl⟩) hK hL rfl hl.1 rfl (Nat.le_of_ble_eq_true rfl) dL_isTurn_77 ⟨(by show _ ≤ (4 : Nat); omega), (by show _ ≤ (24 : Nat); omega)⟩) ?_
                        refine zi_top (fun (r_77 : Int) (er_77 : r_77 = nM M k9) => ?_)
                        have fr_77 : (0 : Int) ≤ r_77 ∧ r_77 ≤ 999 := by rw [er_77]; exact GL.nb hG _
                        refine lv_iload hx hb dL_isTurn_80 (lv_at hl 8 rfl) ?_
                        have m1_ := Int.emod_nonneg r_77 (show by9 ≠ 0 by omega)
                        have m2_ := Int.emod_lt_of_pos r_77 (show 0 < by9 by omega)
                        refine zi_irem hx hb ⟨by omega, by omega⟩ ⟨by omega, by omega⟩ (by omega) (by omega) dL_isTurn_82 ?_
                        refine lv_iload hx hb dL_isTurn_83 (lv_at hl 10 rfl) ?_
                        have m1_ := Int.emod_nonneg r_77 (show by9 ≠ 0 by omega)
                        have m2_ := Int.emod_lt_of_pos r_77 (show 0 < by9 by omega)
                        refine zi_icmp_ne (tgt := 136) hx hb ⟨by omega, by omega⟩ ⟨by omega, by omega⟩ dL_isTurn_85 (by decide) (fun c_85 => ?_) (fun c_85 => ?_)
                        · exact K_136 low9 high9 (cif_f (fun h9 => c_85 (by rw [er_77]; exact h9.2))).symm k_b _ (lv_sub hl [0, 1, 2, 3, 4, 5, 6, 7, 8, 9, 10, 13, 11, 12] rfl)
                        · refine lv_aload_n hx hb dL_isTurn_88 rfl (lv_at hl 2 rfl) ?_
                          refine lv_iload hx hb dL_isTurn_89 (lv_at hl 13 rfl) ?_
                          refine zk_r (zc_S (As := [.ref (ld 0), .int (zi k9)]) (rest := []) ⟨hx, hb, hml, hown, hts⟩ (ct_L_lightOf l D cI cZ cJ ld L M hG k9 ⟨by omega, by omega⟩ ⟨by omega, by omega⟩) (va_cwS 2 hts gL_isTurn_L_lightOf rfl rfl rfl (by decide +kernel) ⟨Nat.le_of_ble_eq_true rfl, Nat.le_of_ble_eq_true rfl⟩) hK hL rfl hl.1 rfl (Nat.le_of_ble_eq_true rfl) dL_isTurn_91 ⟨(by show _ ≤ (4 : Nat); omega), (by show _ ≤ (24 : Nat); omega)⟩) ?_
                          refine zi_top (fun (r_91 : Int) (er_91 : r_91 = M 9 k9) => ?_)
                          have fr_91 : (0 : Int) ≤ r_91 ∧ r_91 ≤ 99 := by rw [er_91]; exact GL.lb hG _
                          refine lv_iload hx hb dL_isTurn_94 (lv_at hl 11 rfl) ?_
                          have K_110 : ∀ (a9 : Int), (a9 = if M 9 k9 < low9 then M 9 k9 else low9) → ∀ (ls : Array Slot), lv_has ls 14 [(0, .ref (ad 0)), (1, .int (zi x0)), (2, .ref (ld 0)), (3, .ref (ld 1)), (4, .ref (ld 3)), (5, .ref (ld 4)), (6, .int (zi best9)), (7, .int (zi least9)), (8, .int (zi by9)), (9, .int (zi fault9)), (10, .int (zi rest9)), (12, .int (zi high9)), (13, .int (zi k9))] → W p l e rmct_L_isTurn s m ([.ref (ad 0), .int (zi x0), .ref (ld 0), .ref (ld 1), .ref (ld 3), .ref (ld 4)] : List Value).toArray below meth c s.heap [] 0 0 (MQ below (zWb D cI ad ld (fun r S9 L9 => r = 1 ∧ L9 = L ∧ DK S9 M)) ([.ref (ad 0), .int (zi x0), .ref (ld 0), .ref (ld 1), .ref (ld 3), .ref (ld 4)] : List Value).toArray s 4 24 (bA ad ld)) (F0 m 110 ls [.int (zi a9)]) := by
                            intro a9 h_a ls hl
                            have lb_ := GL.lb hG k9
                            refine lv_istore (lv' := [(11, .int (zi a9)), (0, .ref (ad 0)), (1, .int (zi x0)), (2, .ref (ld 0)), (3, .ref (ld 1)), (4, .ref (ld 3)), (5, .ref (ld 4)), (6, .int (zi best9)), (7, .int (zi least9)), (8, .int (zi by9)), (9, .int (zi fault9)), (10, .int (zi rest9)), (12, .int (zi high9)), (13, .int (zi k9))]) hx hb dL_isTurn_110 hl (by decide) rfl (fun ls hl => ?_)
                            refine lv_aload_n hx hb dL_isTurn_112 rfl (lv_at hl 3 rfl) ?_
                            refine lv_iload hx hb dL_isTurn_113 (lv_at hl 13 rfl) ?_
                            refine zk_r (zc_S (As := [.ref (ld 0), .int (zi k9)]) (rest := []) ⟨hx, hb, hml, hown, hts⟩ (ct_L_lightOf l D cI cZ cJ ld L M hG k9 ⟨by omega, by omega⟩ ⟨by omega, by omega⟩) (va_cwS 2 hts gL_isTurn_L_lightOf rfl rfl rfl (by decide +kernel) ⟨Nat.le_of_ble_eq_true rfl, Nat.le_of_ble_eq_true rfl⟩) hK hL rfl hl.1 rfl (Nat.le_of_ble_eq_true rfl) dL_isTurn_115 ⟨(by show _ ≤ (4 : Nat); omega), (by show _ ≤ (24 : Nat); omega)⟩) ?_
                            refine zi_top (fun (r_115 : Int) (er_115 : r_115 = M 9 k9) => ?_)
                            have fr_115 : (0 : Int) ≤ r_115 ∧ r_115 ≤ 99 := by rw [er_115]; exact GL.lb hG _
                            refine lv_iload hx hb dL_isTurn_118 (lv_at hl 12 rfl) ?_
                            have K_134 : ∀ (z9 : Int), (z9 = if high9 < M 9 k9 then M 9 k9 else high9) → ∀ (ls : Array Slot), lv_has ls 14 [(0, .ref (ad 0)), (1, .int (zi x0)), (2, .ref (ld 0)), (3, .ref (ld 1)), (4, .ref (ld 3)), (5, .ref (ld 4)), (6, .int (zi best9)), (7, .int (zi least9)), (8, .int (zi by9)), (9, .int (zi fault9)), (10, .int (zi rest9)), (11, .int (zi a9)), (13, .int (zi k9))] → W p l e rmct_L_isTurn s m ([.ref (ad 0), .int (zi x0), .ref (ld 0), .ref (ld 1), .ref (ld 3), .ref (ld 4)] : List Value).toArray below meth c s.heap [] 0 0 (MQ below (zWb D cI ad ld (fun r S9 L9 => r = 1 ∧ L9 = L ∧ DK S9 M)) ([.ref (ad 0), .int (zi x0), .ref (ld 0), .ref (ld 1), .ref (ld 3), .ref (ld 4)] : List Value).toArray s 4 24 (bA ad ld)) (F0 m 134 ls [.int (zi z9)]) := by
                              intro z9 h_z ls hl
                              refine lv_istore (lv' := [(12, .int (zi z9)), (0, .ref (ad 0)), (1, .int (zi x0)), (2, .ref (ld 0)), (3, .ref (ld 1)), (4, .ref (ld 3)), (5, .ref (ld 4)), (6, .int (zi best9)), (7, .int (zi least9)), (8, .int (zi by9)), (9, .int (zi fault9)), (10, .int (zi rest9)), (11, .int (zi a9)), (13, .int (zi k9))]) hx hb dL_isTurn_134 hl (by decide) rfl (fun ls hl => ?_)
                              exact K_136 a9 z9 (by rw [h_a, h_z]; exact (cif_t ⟨b2_1 er_67 c_70, by rw [← er_77]; exact c_85⟩).symm) (by rw [h_a, h_z]; have lb_ := GL.lb hG k9; by_cases z1 : M 9 k9 < low9 <;> by_cases z2 : high9 < M 9 k9 <;> simp only [z1, z2, if_true, if_false] <;> omega) _ (lv_sub hl [1, 2, 3, 4, 5, 6, 7, 8, 9, 10, 11, 13, 12, 0] rfl)
                            refine zi_icmp_le (tgt := 132) hx hb ⟨by omega, by omega⟩ ⟨by omega, by omega⟩ dL_isTurn_120 (by decide) (fun c_120 => ?_) (fun c_120 => ?_)
                            · refine lv_iload hx hb dL_isTurn_132 (lv_at hl 12 rfl) ?_
                              exact K_134 high9 (by rw [if_neg (by omega)]) _ (lv_sub hl [1, 2, 3, 4, 5, 6, 7, 8, 9, 10, 11, 0, 13] rfl)
                            · refine lv_aload_n hx hb dL_isTurn_123 rfl (lv_at hl 3 rfl) ?_
                              refine lv_iload hx hb dL_isTurn_124 (lv_at hl 13 rfl) ?_
                              refine zk_r (zc_S (As := [.ref (ld 0), .int (zi k9)]) (rest := []) ⟨hx, hb, hml, hown, hts⟩ (ct_L_lightOf l D cI cZ cJ ld L M hG k9 ⟨by omega, by omega⟩ ⟨by omega, by omega⟩) (va_cwS 2 hts gL_isTurn_L_lightOf rfl rfl rfl (by decide +kernel) ⟨Nat.le_of_ble_eq_true rfl, Nat.le_of_ble_eq_true rfl⟩) hK hL rfl hl.1 rfl (Nat.le_of_ble_eq_true rfl) dL_isTurn_126 ⟨(by show _ ≤ (4 : Nat); omega), (by show _ ≤ (24 : Nat); omega)⟩) ?_
                              refine zi_top (fun (r_126 : Int) (er_126 : r_126 = M 9 k9) => ?_)
                              have fr_126 : (0 : Int) ≤ r_126 ∧ r_126 ≤ 99 := by rw [er_126]; exact GL.lb hG _
                              refine lv_goto (tgt := 134) hx hb dL_isTurn_129 (by decide) ?_
                              exact K_134 r_126 (by rw [if_pos (by omega)]; omega) _ (lv_sub hl [1, 2, 3, 4, 5, 6, 7, 8, 9, 10, 11, 0, 13] rfl)
                          refine zi_icmp_ge (tgt := 108) hx hb ⟨by omega, by omega⟩ ⟨by omega, by omega⟩ dL_isTurn_96 (by decide) (fun c_96 => ?_) (fun c_96 => ?_)
                          · refine lv_iload hx hb dL_isTurn_108 (lv_at hl 11 rfl) ?_
                            exact K_110 low9 (by rw [if_neg (by omega)]) _ (lv_sub hl [0, 1, 2, 3, 4, 5, 6, 7, 8, 9, 10, 12, 13] rfl)
                          · refine lv_aload_n hx hb dL_isTurn_99 rfl (lv_at hl 2 rfl) ?_
                            refine lv_iload hx hb dL_isTurn_100 (lv_at hl 13 rfl) ?_
                            refine zk_r (zc_S (As := [.ref (ld 0), .int (zi k9)]) (rest := []) ⟨hx, hb, hml, hown, hts⟩ (ct_L_lightOf l D cI cZ cJ ld L M hG k9 ⟨by omega, by omega⟩ ⟨by omega, by omega⟩) (va_cwS 2 hts gL_isTurn_L_lightOf rfl rfl rfl (by decide +kernel) ⟨Nat.le_of_ble_eq_true rfl, Nat.le_of_ble_eq_true rfl⟩) hK hL rfl hl.1 rfl (Nat.le_of_ble_eq_true rfl) dL_isTurn_102 ⟨(by show _ ≤ (4 : Nat); omega), (by show _ ≤ (24 : Nat); omega)⟩) ?_
                            refine zi_top (fun (r_102 : Int) (er_102 : r_102 = M 9 k9) => ?_)
                            have fr_102 : (0 : Int) ≤ r_102 ∧ r_102 ≤ 99 := by rw [er_102]; exact GL.lb hG _
                            refine lv_goto (tgt := 110) hx hb dL_isTurn_105 (by decide) ?_
                            exact K_110 r_102 (by rw [if_pos (by omega)]; omega) _ (lv_sub hl [0, 1, 2, 3, 4, 5, 6, 7, 8, 9, 10, 12, 13] rfl)
                refine lv_istore (lv' := [(13, .int (zi 0)), (12, .int (zi (-1))), (11, .int (zi 100)), (0, .ref (ad 0)), (1, .int (zi x0)), (2, .ref (ld 0)), (3, .ref (ld 1)), (4, .ref (ld 3)), (5, .ref (ld 4)), (6, .int (zi best9)), (7, .int (zi least9)), (8, .int (zi by9)), (9, .int (zi fault9)), (10, .int (zi rest9))]) hx hb dL_isTurn_50 hl (by decide) rfl (fun ls hl => ?_)
                exact K_52 41 40 100 (-1) 0 (by first | omega | assumption) (by first | omega | assumption) (by first | omega | assumption) rfl (by omega) _ (lv_sub hl [3, 4, 5, 6, 7, 8, 9, 10, 11, 12, 13, 2, 1, 0] rfl)
          refine lv_istore (lv' := [(10, .int (zi 0)), (9, .int (zi 0)), (0, .ref (ad 0)), (1, .int (zi x0)), (2, .ref (ld 0)), (3, .ref (ld 1)), (4, .ref (ld 3)), (5, .ref (ld 4)), (6, .int (zi best9)), (7, .int (zi least9)), (8, .int (zi by9))]) hx hb dL_isTurn_33 hl (by decide) rfl (fun ls hl => ?_)
          exact K_35 (by9.toNat + 1) by9.toNat 0 0 (by first | omega | assumption) (by first | omega | assumption) (by first | omega | assumption) (by rw [tlT]) (by omega) _ (lv_sub hl [2, 3, 4, 5, 6, 7, 8, 9, 10, 1, 0] rfl)
  refine lv_istore (lv' := [(8, .int (zi 2)), (7, .int (zi (-1))), (6, .int (zi (-1))), (0, .ref (ad 0)), (1, .int (zi x0)), (2, .ref (ld 0)), (3, .ref (ld 1)), (4, .ref (ld 3)), (5, .ref (ld 4))]) hx hb dL_isTurn_7 hl (by decide) rfl (fun ls hl => ?_)
  exact K_9 20 19 (-1) (-1) 2 (by first | omega | assumption) (by first | omega | assumption) (by first | omega | assumption) (Or.inl ⟨rfl, rfl, rfl⟩) (by omega) _ (lv_sub hl [3, 4, 5, 6, 7, 8, 2, 1, 0] rfl)
