theorem kE_num {M : ZS} {b y : Int} : kE (mNum M b y) b = kE M b := rfl
theorem kE_one {l : List Int} {x y : Int} (h : (l.length : Int) = 1) (hx : x ∈ l) (hy : y ∈ l) : x = y := by
  obtain ⟨a, rfl⟩ := List.length_eq_one_iff.mp (show l.length = 1 by omega)
  rw [List.mem_singleton] at hx hy
  rw [hx, hy]
theorem ci41_L_numbers : Cond.constant RL 41 (-70008) ∈ wsL_numbers := by decide +kernel
abbrev rmct_L_numbers : Room := { frames := 9, cells := 16, slots := 260, locals := 182 }
set_option maxHeartbeats 8000000 in
set_option maxRecDepth 100000 in
theorem ct_L_numbers (l : Launch) (hst : l.stackTraces = false) (D : va_G) (cI cZ cJ : ClassId) (sa ad ld : Nat → Nat) (S L M : ZS) (hdis : bDis ad ld) (hG : GL L M) (hD : DK S M) (x0 : Int) (hx0 : ir x0) (hN : NX M) (hp0 : 0 ≤ x0) (hc2 : 1 ≤ M 11 0) : Met l yL_numbers wsL_numbers rmct_L_numbers (zPb D cI cZ cJ sa ad ld S L [.ref (ad 0), .int (zi x0), .ref (ld 0), .ref (ld 1), .ref (ld 2), .ref (ld 3), .ref (ld 4)]) (zWb D cI ad ld (fun r S9 L9 => r = 1 ∧ ∃ M' : ZS, GL L9 M' ∧ DK S9 M' ∧ NX M' ∧ M' 17 0 ≤ M 17 0 + 1)) 16 260 (bA ad ld) := by
  refine Met.ofW (cc := cL_numbers) (maxL := 13) (ret := (some .boolean)) (by decide) rfl ?_
  intro p e s m args below meth c s₁ B hml hv
  obtain ⟨rfl, hP, hL, hK, hX, hQ⟩ := hv
  have hx := B.exec
  have hb := B.bytes
  have hr := B.returns
  have hts := atoms_spec (ws := wsL_numbers) B.pre
  have hown : s.vm.findClass RL = some m.cls := findClass_of_methodNamed B.named
  have hlocks := B.notSynchronized
  have hl := lv_entry ([.ref (ad 0), .int (zi x0), .ref (ld 0), .ref (ld 1), .ref (ld 2), .ref (ld 3), .ref (ld 4)]) (n := 13) (Nat.le_of_ble_eq_true rfl)
  rw [lg_entry_eq]
  generalize (lg_sl ([.ref (ad 0), .int (zi x0), .ref (ld 0), .ref (ld 1), .ref (ld 2), .ref (ld 3), .ref (ld 4)]) ++ List.replicate (13 - (lg_sl ([.ref (ad 0), .int (zi x0), .ref (ld 0), .ref (ld 1), .ref (ld 2), .ref (ld 3), .ref (ld 4)])).length) Slot.unset).toArray = ls at hl ⊢
  have hl : lv_has ls 13 [(0, .ref (ad 0)), (1, .int (zi x0)), (2, .ref (ld 0)), (3, .ref (ld 1)), (4, .ref (ld 2)), (5, .ref (ld 3)), (6, .ref (ld 4))] := hl
  have hS : va_S (bA ad ld) s.heap s.heap [] := va_S.rf
  show W p l e rmct_L_numbers s m ([.ref (ad 0), .int (zi x0), .ref (ld 0), .ref (ld 1), .ref (ld 2), .ref (ld 3), .ref (ld 4)] : List Value).toArray below meth c s.heap [] 0 0 (MQ below (zWb D cI ad ld (fun r S9 L9 => r = 1 ∧ ∃ M' : ZS, GL L9 M' ∧ DK S9 M' ∧ NX M' ∧ M' 17 0 ≤ M 17 0 + 1)) ([.ref (ad 0), .int (zi x0), .ref (ld 0), .ref (ld 1), .ref (ld 2), .ref (ld 3), .ref (ld 4)] : List Value).toArray s 16 260 (bA ad ld)) (F0 m 0 ls [])
  have q0 := GL.c hG
  refine lv_iload_n hx hb dL_numbers_0 rfl (lv_at hl 1 rfl) ?_
  refine lv_aload hx hb dL_numbers_1 (lv_at hl 6 rfl) ?_
  refine zi_iconst hx hb dL_numbers_3 ?_
  refine zi_iald hx hb hK.1 hL 4 0 rfl rfl (by omega) (by omega) (by decide) dL_numbers_4 ?_
  refine zi_is (M 11 0) (GL.c hG).2.1 ?_
  have q_4 := GL.c hG
  refine zi_irem hx hb ⟨by omega, by omega⟩ ⟨by omega, by omega⟩ (by omega) (by omega) dL_numbers_5 ?_
  refine zi_top (fun x7_6 ex7_6 => ?_)
  refine lv_istore (lv' := [(7, .int (zi x7_6)), (0, .ref (ad 0)), (1, .int (zi x0)), (2, .ref (ld 0)), (3, .ref (ld 1)), (4, .ref (ld 2)), (5, .ref (ld 3)), (6, .ref (ld 4))]) hx hb dL_numbers_6 hl (by decide) rfl (fun ls hl => ?_)
  have m1_ := Int.emod_nonneg x0 (show M 11 0 ≠ 0 by omega)
  have m2_ := Int.emod_lt_of_pos x0 (show 0 < M 11 0 by omega)
  refine zi_sipush hx hb dL_numbers_8 (by decide) ?_
  refine lv_istore (lv' := [(8, .int (zi 1000)), (7, .int (zi x7_6)), (0, .ref (ad 0)), (1, .int (zi x0)), (2, .ref (ld 0)), (3, .ref (ld 1)), (4, .ref (ld 2)), (5, .ref (ld 3)), (6, .ref (ld 4))]) hx hb dL_numbers_11 hl (by decide) rfl (fun ls hl => ?_)
  refine zi_iconst hx hb dL_numbers_13 ?_
  refine lv_istore (lv' := [(9, .int (zi (-1))), (8, .int (zi 1000)), (7, .int (zi x7_6)), (0, .ref (ad 0)), (1, .int (zi x0)), (2, .ref (ld 0)), (3, .ref (ld 1)), (4, .ref (ld 2)), (5, .ref (ld 3)), (6, .ref (ld 4))]) hx hb dL_numbers_14 hl (by decide) rfl (fun ls hl => ?_)
  refine zi_iconst hx hb dL_numbers_16 ?_
  refine lv_istore (lv' := [(10, .int (zi (-1))), (9, .int (zi (-1))), (8, .int (zi 1000)), (7, .int (zi x7_6)), (0, .ref (ad 0)), (1, .int (zi x0)), (2, .ref (ld 0)), (3, .ref (ld 1)), (4, .ref (ld 2)), (5, .ref (ld 3)), (6, .ref (ld 4))]) hx hb dL_numbers_17 hl (by decide) rfl (fun ls hl => ?_)
  refine zi_iconst hx hb dL_numbers_19 ?_
  have K_22 : ∀ (k : Nat) (lo9 hi9 i9 : Int), (0 ≤ i9 ∧ i9 ≤ 40) → (nlI M x7_6 i9 lo9 hi9) → (0 ≤ lo9 ∧ lo9 ≤ 1000 ∧ -1 ≤ hi9 ∧ hi9 ≤ 999) → (40 - i9 < (k : Int)) → ∀ (ls : Array Slot), lv_has ls 13 [(0, .ref (ad 0)), (1, .int (zi x0)), (2, .ref (ld 0)), (3, .ref (ld 1)), (4, .ref (ld 2)), (5, .ref (ld 3)), (6, .ref (ld 4)), (7, .int (zi x7_6)), (10, .int (zi (-1))), (8, .int (zi lo9)), (9, .int (zi hi9)), (11, .int (zi i9))] → W p l e rmct_L_numbers s m ([.ref (ad 0), .int (zi x0), .ref (ld 0), .ref (ld 1), .ref (ld 2), .ref (ld 3), .ref (ld 4)] : List Value).toArray below meth c s.heap [] 0 0 (MQ below (zWb D cI ad ld (fun r S9 L9 => r = 1 ∧ ∃ M' : ZS, GL L9 M' ∧ DK S9 M' ∧ NX M' ∧ M' 17 0 ≤ M 17 0 + 1)) ([.ref (ad 0), .int (zi x0), .ref (ld 0), .ref (ld 1), .ref (ld 2), .ref (ld 3), .ref (ld 4)] : List Value).toArray s 16 260 (bA ad ld)) (F0 m 22 ls []) := by
    intro k
    induction k with
    | zero => intro lo9 hi9 i9 h_i9 h_b h_r9 hk; exact absurd hk (by omega)
    | succ k ih_22 =>
      intro lo9 hi9 i9 h_i9 h_b h_r9 hk ls hl
      refine lv_iload hx hb dL_numbers_22 (lv_at hl 11 rfl) ?_
      refine lv_aload hx hb dL_numbers_24 (lv_at hl 6 rfl) ?_
      refine zi_iconst hx hb dL_numbers_26 ?_
      refine zi_iald hx hb hK.1 hL 4 0 rfl rfl (by omega) (by omega) (by decide) dL_numbers_27 ?_
      refine zi_is 40 (GL.c hG).1 ?_
      have q_27 := GL.c hG
      refine zi_icmp_ge (tgt := 102) hx hb ⟨by omega, by omega⟩ ⟨by decide, by decide⟩ dL_numbers_28 (by decide) (fun c_28 => ?_) (fun c_28 => ?_)
      · have h_b40 : nlI M x7_6 40 lo9 hi9 := by rw [show (40 : Int) = i9 by omega]; exact h_b
        refine zi_iconst hx hb dL_numbers_102 ?_
        have K_105 : ∀ (k : Nat) (t9 j9 : Int), (0 ≤ j9 ∧ j9 ≤ 40) → (tdI M x7_6 lo9 hi9 j9 t9) → (-1 ≤ t9 ∧ t9 < 40) → (40 - j9 < (k : Int)) → ∀ (ls : Array Slot), lv_has ls 13 [(0, .ref (ad 0)), (1, .int (zi x0)), (2, .ref (ld 0)), (3, .ref (ld 1)), (4, .ref (ld 2)), (5, .ref (ld 3)), (6, .ref (ld 4)), (7, .int (zi x7_6)), (8, .int (zi lo9)), (9, .int (zi hi9)), (10, .int (zi t9)), (11, .int (zi j9))] → W p l e rmct_L_numbers s m ([.ref (ad 0), .int (zi x0), .ref (ld 0), .ref (ld 1), .ref (ld 2), .ref (ld 3), .ref (ld 4)] : List Value).toArray below meth c s.heap [] 0 0 (MQ below (zWb D cI ad ld (fun r S9 L9 => r = 1 ∧ ∃ M' : ZS, GL L9 M' ∧ DK S9 M' ∧ NX M' ∧ M' 17 0 ≤ M 17 0 + 1)) ([.ref (ad 0), .int (zi x0), .ref (ld 0), .ref (ld 1), .ref (ld 2), .ref (ld 3), .ref (ld 4)] : List Value).toArray s 16 260 (bA ad ld)) (F0 m 105 ls []) := by
          intro k
          induction k with
          | zero => intro t9 j9 h_j9 h_t h_tb9 hk; exact absurd hk (by omega)
          | succ k ih_105 =>
            intro t9 j9 h_j9 h_t h_tb9 hk ls hl
            refine lv_iload hx hb dL_numbers_105 (lv_at hl 11 rfl) ?_
            refine lv_aload hx hb dL_numbers_107 (lv_at hl 6 rfl) ?_
            refine zi_iconst hx hb dL_numbers_109 ?_
            refine zi_iald hx hb hK.1 hL 4 0 rfl rfl (by omega) (by omega) (by decide) dL_numbers_110 ?_
            refine zi_is 40 (GL.c hG).1 ?_
            have q_110 := GL.c hG
            refine zi_icmp_ge (tgt := 166) hx hb ⟨by omega, by omega⟩ ⟨by decide, by decide⟩ dL_numbers_111 (by decide) (fun c_111 => ?_) (fun c_111 => ?_)
            · have h_t40 : tdI M x7_6 lo9 hi9 40 t9 := by rw [show (40 : Int) = j9 by omega]; exact h_t
              refine lv_aload hx hb dL_numbers_166 (lv_at hl 5 rfl) ?_
              refine zi_iconst hx hb dL_numbers_168 ?_
              refine lv_iload hx hb dL_numbers_169 (lv_at hl 7 rfl) ?_
              refine zi_imul hx hb dL_numbers_171 ?_
              refine zi_iald hx hb hK.1 hL 3 0 rfl rfl (by omega) (by omega) (by decide) dL_numbers_172 ?_
              refine zi_is (M 12 x7_6 + 1) (GL.u hG (j := x7_6) (by omega) (by omega)).1 ?_
              have q_172 := (GL.u hG (j := x7_6) (by omega) (by omega)).2
              have K_227 : ∀ (m9 : Int) (T : ZS), ((m9 = 1 ∧ cnP M x7_6) ∨ (m9 = 0 ∧ ¬ cnP M x7_6)) → (0 ≤ m9 ∧ m9 ≤ 1) → (DK T M) → ∀ (H : Heap) (locs : List Loc), va_P D vwCl (dW cI ad T) H → va_P D vwCl (lW cI ld L) H → va_S (bA ad ld) s.heap H locs → ∀ (ls : Array Slot), lv_has ls 13 [(0, .ref (ad 0)), (1, .int (zi x0)), (2, .ref (ld 0)), (3, .ref (ld 1)), (4, .ref (ld 2)), (5, .ref (ld 3)), (6, .ref (ld 4)), (7, .int (zi x7_6)), (8, .int (zi lo9)), (9, .int (zi hi9))] → W p l e rmct_L_numbers s m ([.ref (ad 0), .int (zi x0), .ref (ld 0), .ref (ld 1), .ref (ld 2), .ref (ld 3), .ref (ld 4)] : List Value).toArray below meth c H locs 3 180 (MQ below (zWb D cI ad ld (fun r S9 L9 => r = 1 ∧ ∃ M' : ZS, GL L9 M' ∧ DK S9 M' ∧ NX M' ∧ M' 17 0 ≤ M 17 0 + 1)) ([.ref (ad 0), .int (zi x0), .ref (ld 0), .ref (ld 1), .ref (ld 2), .ref (ld 3), .ref (ld 4)] : List Value).toArray s 16 260 (bA ad ld)) (F0 m 227 ls [.int (zi m9)]) := by
                intro m9 T h_m9 h_mb9 hD_T H locs hP hL hS ls hl
                refine lv_istore (lv' := [(11, .int (zi m9)), (0, .ref (ad 0)), (1, .int (zi x0)), (2, .ref (ld 0)), (3, .ref (ld 1)), (4, .ref (ld 2)), (5, .ref (ld 3)), (6, .ref (ld 4)), (7, .int (zi x7_6)), (8, .int (zi lo9)), (9, .int (zi hi9))]) hx hb dL_numbers_227 hl (by decide) rfl (fun ls hl => ?_)
                refine lv_aload_n hx hb dL_numbers_229 rfl (lv_at hl 1 rfl) ?_
                refine zi_iconst hx hb dL_numbers_230 ?_
                refine lv_iload hx hb dL_numbers_231 (lv_at hl 8 rfl) ?_
                refine zi_iconst hx hb dL_numbers_233 ?_
                refine lc_SW (As := [.ref (ad 0), .int (zi 5), .int (zi x7_6), .int (zi 0)]) (rest := []) (A0 := bA ad ld) ⟨hx, hb, hml, hown, hts⟩ (ct_L_asks5 l hst D cI cZ cJ sa ad ld T L M hdis hG hD_T x7_6 0 ⟨by omega, by omega⟩ ⟨by decide, by decide⟩) (vx_cwSW 4 hts gL_numbers_L_asks rfl rfl rfl (by decide +kernel) ⟨Nat.le_of_ble_eq_true rfl, Nat.le_of_ble_eq_true rfl⟩) hK hX hQ (fun _ h => h) hS hP hL rfl hl.1 rfl (Nat.le_of_ble_eq_true rfl) dL_numbers_234 ⟨(by show _ ≤ (16 : Nat); omega), (by show _ ≤ (260 : Nat); omega)⟩ (fun r_234 S_234 L_234 H locs hp_234 _ _ hP hL hS => ?_)
                obtain ⟨eL_234, hB_234⟩ := ask_number hD_T hG hN (by omega) (by omega) hp_234
                rw [eL_234] at hL
                refine lv_istore (lv' := [(12, .int (zi r_234)), (11, .int (zi m9)), (0, .ref (ad 0)), (1, .int (zi x0)), (2, .ref (ld 0)), (3, .ref (ld 1)), (4, .ref (ld 2)), (5, .ref (ld 3)), (6, .ref (ld 4)), (7, .int (zi x7_6)), (8, .int (zi lo9)), (9, .int (zi hi9))]) hx hb dL_numbers_237 hl (by decide) rfl (fun ls hl => ?_)
                refine lv_iload hx hb dL_numbers_239 (lv_at hl 1 rfl) ?_
                refine zi_if_eq (tgt := 299) hx hb ⟨by omega, by omega⟩ dL_numbers_241 (by decide) (fun c_241 => ?_) (fun c_241 => ?_)
                · obtain ⟨hb1, er_234, hD_234⟩ := hB_234.resolve_left (fun h9 => (h_m9.resolve_left (by omega)).2 h9.1)
                  refine lv_iload hx hb dL_numbers_299 (lv_at hl 0 rfl) ?_
                  refine lv_iload hx hb dL_numbers_301 (lv_at hl 1 rfl) ?_
                  refine zi_if_eq (tgt := 313) hx hb ⟨by omega, by omega⟩ dL_numbers_303 (by decide) (fun c_303 => ?_) (fun c_303 => ?_)
                  · refine lv_ldc (v := zi (-70008)) hx hb hown (hts _ ci41_L_numbers) dL_numbers_313 ?_
                    refine zi_icmp_ne (tgt := 322) hx hb ⟨by omega, by omega⟩ ⟨by decide, by decide⟩ dL_numbers_315 (by decide) (fun c_315 => ?_) (fun c_315 => ?_)
                    · exact absurd c_315 (by omega)
                    · refine zi_iconst hx hb dL_numbers_318 ?_
                      refine lv_goto (tgt := 323) hx hb dL_numbers_319 (by decide) ?_
                      exact lr_wz (S1 := S_234) (L1 := L) hx hb hr hlocks dL_numbers_323 (Or.inr rfl) hP hL hS ⟨by omega, by omega⟩ (by exact ⟨rfl, M, hG, hD_234, hN, by omega⟩)
                  · exact absurd c_303 (by omega)
                · obtain ⟨hb1, er_234, ky9, hy9, hD_234, hN_234, hG_234⟩ := hB_234.resolve_right (fun h9 => h9.1 (h_m9.resolve_right (by omega)).2)
                  have kb9 := ens_b _ hy9
                  have q9_ : (mNum M x7_6 ky9) 11 0 = M 11 0 := rfl
                  have q8_ : (mNum M x7_6 ky9) 18 0 = M 18 0 + 1 := rfl
                  have kn9 := ((cn_law hD hG (b := x7_6) (by omega) (by omega)).mp hb1).2.2.2
                  rw [(or_self hG (b := x7_6) (by omega) (by omega)).2] at kn9
                  have kn8 : ((kE (mNum M x7_6 ky9) x7_6).length : Int) = 1 := by rw [kE_num]; exact kn9
                  refine lv_aload hx hb dL_numbers_244 (lv_at hl 8 rfl) ?_
                  refine zi_iconst hx hb dL_numbers_246 ?_
                  refine lv_dup2_11 hx hb dL_numbers_247 rfl rfl ?_
                  refine zi_iald hx hb hK.1 hL 4 0 rfl rfl (by omega) (by omega) (by decide) dL_numbers_248 ?_
                  refine zi_is (M 18 0) (GL.c hG).2.2.2.1 ?_
                  have q_248 := GL.c hG
                  refine zi_iconst hx hb dL_numbers_249 ?_
                  refine zi_iadd hx hb dL_numbers_250 ?_
                  refine zb_iast hx hb hK hdis (fun _ h => h) hP hL hS 4 rfl (fun _ => rfl) (by omega) (by omega) (by decide) dL_numbers_251 (fun H locs hP hL hS => ?_)
                  have hL : va_P D vwCl (lW cI ld (su L 4 (up (L 4) 5 ((M 18 0) + 1)))) H := hL
                  refine lv_aload hx hb dL_numbers_252 (lv_at hl 7 rfl) ?_
                  refine zi_iconst hx hb dL_numbers_254 ?_
                  refine lv_iload hx hb dL_numbers_255 (lv_at hl 9 rfl) ?_
                  refine zi_imul hx hb dL_numbers_257 ?_
                  refine zi_iconst hx hb dL_numbers_258 ?_
                  refine zi_iadd hx hb dL_numbers_259 ?_
                  refine lv_aload hx hb dL_numbers_260 (lv_at hl 8 rfl) ?_
                  refine zi_iconst hx hb dL_numbers_262 ?_
                  refine zi_iald hx hb hK.1 hL 4 0 rfl rfl (by omega) (by omega) (by decide) dL_numbers_263 ?_
                  refine zi_is (M 18 0 + 1) (su_up _ _ _ _ _) ?_
                  refine zb_iast hx hb hK hdis (fun _ h => h) hP hL hS 3 rfl (fun _ => rfl) (by omega) (by omega) (by decide) dL_numbers_264 (fun H locs hP hL hS => ?_)
                  have hL : va_P D vwCl (lW cI ld (su (su L 4 (up (L 4) 5 ((M 18 0) + 1))) 3 (up (L 3) ((5 * x7_6) + 2) (M 18 0 + 1)))) H := hL
                  refine lv_aload hx hb dL_numbers_265 (lv_at hl 7 rfl) ?_
                  refine zi_iconst hx hb dL_numbers_267 ?_
                  refine lv_iload hx hb dL_numbers_268 (lv_at hl 9 rfl) ?_
                  refine zi_imul hx hb dL_numbers_270 ?_
                  refine zi_iconst hx hb dL_numbers_271 ?_
                  refine zi_iadd hx hb dL_numbers_272 ?_
                  refine lv_aload_n hx hb dL_numbers_273 rfl (lv_at hl 2 rfl) ?_
                  refine lv_iload hx hb dL_numbers_274 (lv_at hl 9 rfl) ?_
                  refine zi_iconst hx hb dL_numbers_276 ?_
                  refine zi_iconst hx hb dL_numbers_277 ?_
                  refine lc_pub (ld := ld) (L0 := (su (su L 4 (up (L 4) 5 ((M 18 0) + 1))) 3 (up (L 3) ((5 * x7_6) + 2) (M 18 0 + 1)))) (As := [.int (zi x7_6), .int (zi 0), .int (zi 1)]) (rest := [.int (zi ((5 * x7_6) + 3)), .ref (ld 3)]) (A0 := bA ad ld) ⟨hx, hb, hml, hown, hts⟩ (ct_X7_orbit l hst D cI cZ cJ sa ad S_234 hD_234.1 hdis.1 x7_6 0 1 ⟨by omega, by omega⟩ ⟨by decide, by decide⟩ ⟨by decide, by decide⟩) (cwV 3 hts gL_numbers_X7_orbit rfl rfl rfl (by decide +kernel) ⟨Nat.le_of_ble_eq_true rfl, Nat.le_of_ble_eq_true rfl⟩) rfl hK hX hdis (fun _ h => h) hS hP hL (nox_orbit hD_234 (by omega) (by omega) ⟨by omega, by omega⟩ ⟨by omega, by omega⟩) rfl hl.1 rfl (Nat.le_of_ble_eq_true rfl) dL_numbers_278 ⟨(by show _ ≤ (16 : Nat); omega), (by show _ ≤ (260 : Nat); omega)⟩ (fun r_278 S_278 H locs hp_278 _ _ hP hL hS => ?_)
                  obtain ⟨er_278, hD_278⟩ := q_orbit hD_234 (by omega) (by omega) hp_278
                  obtain ⟨y_278, -, -, yk_278, er_278⟩ := er_278
                  have yu_278 := kE_one kn9 (kE_num ▸ rk_mem yk_278) hy9
                  rw [yu_278, orv1] at er_278
                  unfold bC at er_278
                  have er_278 : r_278 = ky9 % 405 / 5 - 40 := by omega
                  refine zb_iast hx hb hK hdis (fun _ h => h) hP hL hS 3 rfl (fun _ => rfl) (by omega) (by omega) (by decide) dL_numbers_281 (fun H locs hP hL hS => ?_)
                  have hL : va_P D vwCl (lW cI ld (su (su (su L 4 (up (L 4) 5 ((M 18 0) + 1))) 3 (up (L 3) ((5 * x7_6) + 2) (M 18 0 + 1))) 3 (up ((up (L 3) ((5 * x7_6) + 2) (M 18 0 + 1))) ((5 * x7_6) + 3) r_278))) H := hL
                  refine lv_aload hx hb dL_numbers_282 (lv_at hl 7 rfl) ?_
                  refine zi_iconst hx hb dL_numbers_284 ?_
                  refine lv_iload hx hb dL_numbers_285 (lv_at hl 9 rfl) ?_
                  refine zi_imul hx hb dL_numbers_287 ?_
                  refine zi_iconst hx hb dL_numbers_288 ?_
                  refine zi_iadd hx hb dL_numbers_289 ?_
                  refine lv_aload_n hx hb dL_numbers_290 rfl (lv_at hl 2 rfl) ?_
                  refine lv_iload hx hb dL_numbers_291 (lv_at hl 9 rfl) ?_
                  refine zi_iconst hx hb dL_numbers_293 ?_
                  refine zi_iconst hx hb dL_numbers_294 ?_
                  refine lc_pub (ld := ld) (L0 := (su (su (su L 4 (up (L 4) 5 ((M 18 0) + 1))) 3 (up (L 3) ((5 * x7_6) + 2) (M 18 0 + 1))) 3 (up ((up (L 3) ((5 * x7_6) + 2) (M 18 0 + 1))) ((5 * x7_6) + 3) r_278))) (As := [.int (zi x7_6), .int (zi 0), .int (zi 2)]) (rest := [.int (zi ((5 * x7_6) + 4)), .ref (ld 3)]) (A0 := bA ad ld) ⟨hx, hb, hml, hown, hts⟩ (ct_X7_orbit l hst D cI cZ cJ sa ad S_278 hD_278.1 hdis.1 x7_6 0 2 ⟨by omega, by omega⟩ ⟨by decide, by decide⟩ ⟨by decide, by decide⟩) (cwV 3 hts gL_numbers_X7_orbit rfl rfl rfl (by decide +kernel) ⟨Nat.le_of_ble_eq_true rfl, Nat.le_of_ble_eq_true rfl⟩) rfl hK hX hdis (fun _ h => h) hS hP hL (nox_orbit hD_278 (by omega) (by omega) ⟨by omega, by omega⟩ ⟨by omega, by omega⟩) rfl hl.1 rfl (Nat.le_of_ble_eq_true rfl) dL_numbers_295 ⟨(by show _ ≤ (16 : Nat); omega), (by show _ ≤ (260 : Nat); omega)⟩ (fun r_295 S_295 H locs hp_295 _ _ hP hL hS => ?_)
                  obtain ⟨er_295, hD_295⟩ := q_orbit hD_278 (by omega) (by omega) hp_295
                  obtain ⟨y_295, -, -, yk_295, er_295⟩ := er_295
                  have yu_295 := kE_one kn9 (kE_num ▸ rk_mem yk_295) hy9
                  rw [yu_295, orv2] at er_295
                  unfold cC at er_295
                  have er_295 : r_295 = ky9 % 5 - 2 := by omega
                  refine zb_iast hx hb hK hdis (fun _ h => h) hP hL hS 3 rfl (fun _ => rfl) (by omega) (by omega) (by decide) dL_numbers_298 (fun H locs hP hL hS => ?_)
                  have hL : va_P D vwCl (lW cI ld (su (su (su (su L 4 (up (L 4) 5 ((M 18 0) + 1))) 3 (up (L 3) ((5 * x7_6) + 2) (M 18 0 + 1))) 3 (up ((up (L 3) ((5 * x7_6) + 2) (M 18 0 + 1))) ((5 * x7_6) + 3) r_278)) 3 (up ((up ((up (L 3) ((5 * x7_6) + 2) (M 18 0 + 1))) ((5 * x7_6) + 3) r_278)) ((5 * x7_6) + 4) r_295))) H := hL
                  refine lv_iload hx hb dL_numbers_299 (lv_at hl 0 rfl) ?_
                  refine lv_iload hx hb dL_numbers_301 (lv_at hl 1 rfl) ?_
                  refine zi_if_eq (tgt := 313) hx hb ⟨by omega, by omega⟩ dL_numbers_303 (by decide) (fun c_303 => ?_) (fun c_303 => ?_)
                  · exact absurd c_303 (by omega)
                  · refine lv_aload hx hb dL_numbers_306 (lv_at hl 8 rfl) ?_
                    refine zi_iconst hx hb dL_numbers_308 ?_
                    refine zi_iald hx hb hK.1 hL 4 0 rfl rfl (by omega) (by omega) (by decide) dL_numbers_309 ?_
                    refine zi_is ((mNum M x7_6 ky9) 18 0) (GL.c (hG_234 _ _ er_278 er_295)).2.2.2.1 ?_
                    have q_309 := GL.c (hG_234 _ _ er_278 er_295)
                    refine lv_goto (tgt := 315) hx hb dL_numbers_310 (by decide) ?_
                    refine zi_icmp_ne (tgt := 322) hx hb ⟨by omega, by omega⟩ ⟨by omega, by omega⟩ dL_numbers_315 (by decide) (fun c_315 => ?_) (fun c_315 => ?_)
                    · exact absurd c_315 (by omega)
                    · refine zi_iconst hx hb dL_numbers_318 ?_
                      refine lv_goto (tgt := 323) hx hb dL_numbers_319 (by decide) ?_
                      exact lr_wz (S1 := S_295) (L1 := (su (su (su (su L 4 (up (L 4) 5 ((M 18 0) + 1))) 3 (up (L 3) ((5 * x7_6) + 2) (M 18 0 + 1))) 3 (up ((up (L 3) ((5 * x7_6) + 2) (M 18 0 + 1))) ((5 * x7_6) + 3) r_278)) 3 (up ((up ((up (L 3) ((5 * x7_6) + 2) (M 18 0 + 1))) ((5 * x7_6) + 3) r_278)) ((5 * x7_6) + 4) r_295))) hx hb hr hlocks dL_numbers_323 (Or.inr rfl) hP hL hS ⟨by omega, by omega⟩ (by exact ⟨rfl, mNum M x7_6 ky9, hG_234 _ _ er_278 er_295, hD_295, hN_234, by show M 17 0 ≤ M 17 0 + 1; omega⟩)
              refine zi_if_ne (tgt := 226) hx hb ⟨by omega, by omega⟩ dL_numbers_173 (by decide) (fun c_173 => ?_) (fun c_173 => ?_)
              · refine zi_iconst hx hb dL_numbers_226 ?_
                exact lw_wd (by omega) (by omega) (K_227 0 S (Or.inr ⟨rfl, fun h9 => by have h8 := (cn_law hD hG (b := x7_6) (by omega) (by omega)).mp h9; omega⟩) (by first | omega | assumption) hD _ _ hP hL hS _ (lv_sub hl [0, 1, 2, 3, 4, 5, 6, 7, 8, 9] rfl))
              · refine lv_aload hx hb dL_numbers_176 (lv_at hl 5 rfl) ?_
                refine zi_iconst hx hb dL_numbers_178 ?_
                refine lv_iload hx hb dL_numbers_179 (lv_at hl 7 rfl) ?_
                refine zi_imul hx hb dL_numbers_181 ?_
                refine zi_iconst hx hb dL_numbers_182 ?_
                refine zi_iadd hx hb dL_numbers_183 ?_
                refine zi_iald hx hb hK.1 hL 3 0 rfl rfl (by omega) (by omega) (by decide) dL_numbers_184 ?_
                refine zi_is (M 14 x7_6) (GL.un hG (j := x7_6) (by omega) (by omega)).1 ?_
                have q_184 := (GL.un hG (j := x7_6) (by omega) (by omega)).2
                refine zi_if_ne (tgt := 226) hx hb ⟨by omega, by omega⟩ dL_numbers_185 (by decide) (fun c_185 => ?_) (fun c_185 => ?_)
                · refine zi_iconst hx hb dL_numbers_226 ?_
                  exact lw_wd (by omega) (by omega) (K_227 0 S (Or.inr ⟨rfl, fun h9 => by have h8 := (cn_law hD hG (b := x7_6) (by omega) (by omega)).mp h9; omega⟩) (by first | omega | assumption) hD _ _ hP hL hS _ (lv_sub hl [0, 1, 2, 3, 4, 5, 6, 7, 8, 9] rfl))
                · refine lv_iload hx hb dL_numbers_188 (lv_at hl 10 rfl) ?_
                  refine zi_if_lt (tgt := 226) hx hb ⟨by omega, by omega⟩ dL_numbers_190 (by decide) (fun c_190 => ?_) (fun c_190 => ?_)
                  · refine zi_iconst hx hb dL_numbers_226 ?_
                    exact lw_wd (by omega) (by omega) (K_227 0 S (Or.inr ⟨rfl, fun h9 => by have h8 := (num_law hG h_b40 h_t40).mpr ((cn_law hD hG (b := x7_6) (by omega) (by omega)).mp h9).2.2.1; omega⟩) (by first | omega | assumption) hD _ _ hP hL hS _ (lv_sub hl [0, 1, 2, 3, 4, 5, 6, 7, 8, 9] rfl))
                  · refine lv_iload hx hb dL_numbers_193 (lv_at hl 9 rfl) ?_
                    refine lv_iload hx hb dL_numbers_195 (lv_at hl 8 rfl) ?_
                    refine zi_isub hx hb dL_numbers_197 ?_
                    refine zi_bipush hx hb dL_numbers_198 (by decide) ?_
                    refine zi_icmp_lt (tgt := 226) hx hb ⟨by omega, by omega⟩ ⟨by decide, by decide⟩ dL_numbers_200 (by decide) (fun c_200 => ?_) (fun c_200 => ?_)
                    · refine zi_iconst hx hb dL_numbers_226 ?_
                      exact lw_wd (by omega) (by omega) (K_227 0 S (Or.inr ⟨rfl, fun h9 => by have h8 := (num_law hG h_b40 h_t40).mpr ((cn_law hD hG (b := x7_6) (by omega) (by omega)).mp h9).2.2.1; omega⟩) (by first | omega | assumption) hD _ _ hP hL hS _ (lv_sub hl [0, 1, 2, 3, 4, 5, 6, 7, 8, 9] rfl))
                    · refine lv_aload_n hx hb dL_numbers_203 rfl (lv_at hl 2 rfl) ?_
                      refine lv_aload_n hx hb dL_numbers_204 rfl (lv_at hl 3 rfl) ?_
                      refine lv_aload hx hb dL_numbers_205 (lv_at hl 4 rfl) ?_
                      refine lv_aload hx hb dL_numbers_207 (lv_at hl 5 rfl) ?_
                      refine lv_aload hx hb dL_numbers_209 (lv_at hl 6 rfl) ?_
                      refine lv_iload hx hb dL_numbers_211 (lv_at hl 7 rfl) ?_
                      refine zi_iconst hx hb dL_numbers_213 ?_
                      refine zi_iconst hx hb dL_numbers_214 ?_
                      refine lc_N (As := [.ref (ld 0), .ref (ld 1), .ref (ld 2), .ref (ld 3), .ref (ld 4), .int (zi x7_6), .int (zi (-1)), .int (zi (-1))]) (rest := []) (A0 := bA ad ld) ⟨hx, hb, hml, hown, hts⟩ (ct_L_orbits l D cI cZ cJ ld L M hG x7_6 (-1) (-1) ⟨by omega, by omega⟩ ⟨by decide, by decide⟩ ⟨by decide, by decide⟩ (or_self hG (by omega) (by omega)).1) (va_cwS 8 hts gL_numbers_L_orbits rfl rfl rfl (by decide +kernel) ⟨Nat.le_of_ble_eq_true rfl, Nat.le_of_ble_eq_true rfl⟩) ⟨zP_blind, fun U hU hW => ⟨rfl, by rw [hU]; exact hL, hK.warm hW⟩⟩ hS rfl hl.1 rfl (Nat.le_of_ble_eq_true rfl) dL_numbers_215 ⟨(by show _ ≤ (16 : Nat); omega), (by show _ ≤ (260 : Nat); omega)⟩ (fun r_215 H locs er_215 _ hk_215 hS => ?_)
                      have er_215 : r_215 = orN M x7_6 (-1) (-1) := er_215
                      have hP := hP.kept (fun k q hq => hk_215 q.1 (vx_lt hP hq))
                      have hL := hL.kept (fun k q hq => hk_215 q.1 (vx_lt hL hq))
                      have ol_ := (or_self hG (b := x7_6) (by omega) (by omega)).2
                      rw [← er_215] at ol_
                      have kl_ := kE_len hG.2.1 (b := x7_6)
                      refine zi_iconst hx hb dL_numbers_218 ?_
                      refine zi_icmp_ne (tgt := 226) hx hb ⟨by omega, by omega⟩ ⟨by decide, by decide⟩ dL_numbers_219 (by decide) (fun c_219 => ?_) (fun c_219 => ?_)
                      · refine zi_iconst hx hb dL_numbers_226 ?_
                        exact lw_wd (by omega) (by omega) (K_227 0 S (Or.inr ⟨rfl, fun h9 => by have h8 := ((cn_law hD hG (b := x7_6) (by omega) (by omega)).mp h9).2.2.2; rw [← er_215] at h8; omega⟩) (by first | omega | assumption) hD _ _ hP hL hS _ (lv_sub hl [0, 1, 2, 3, 4, 5, 6, 7, 8, 9] rfl))
                      · refine zi_iconst hx hb dL_numbers_222 ?_
                        refine lv_goto (tgt := 227) hx hb dL_numbers_223 (by decide) ?_
                        exact lw_wd (by omega) (by omega) (K_227 1 S (Or.inl ⟨rfl, (cn_law hD hG (b := x7_6) (by omega) (by omega)).mpr ⟨by omega, by omega, (num_law hG h_b40 h_t40).mp ⟨by omega, by omega⟩, by rw [← er_215]; omega⟩⟩) (by first | omega | assumption) hD _ _ hP hL hS _ (lv_sub hl [0, 1, 2, 3, 4, 5, 6, 7, 8, 9] rfl))
            · refine lv_aload_n hx hb dL_numbers_114 rfl (lv_at hl 2 rfl) ?_
              refine lv_aload hx hb dL_numbers_115 (lv_at hl 5 rfl) ?_
              refine lv_iload hx hb dL_numbers_117 (lv_at hl 11 rfl) ?_
              refine lv_iload hx hb dL_numbers_119 (lv_at hl 7 rfl) ?_
              refine zk_r (zc_S (As := [.ref (ld 0), .ref (ld 3), .int (zi j9), .int (zi x7_6)]) (rest := []) ⟨hx, hb, hml, hown, hts⟩ (ct_L_isLook l D cI cZ cJ ld L M hG j9 x7_6 ⟨by omega, by omega⟩ ⟨by omega, by omega⟩ ⟨by omega, by omega⟩) (va_cwS 4 hts gL_numbers_L_isLook rfl rfl rfl (by decide +kernel) ⟨Nat.le_of_ble_eq_true rfl, Nat.le_of_ble_eq_true rfl⟩) hK hL rfl hl.1 rfl (Nat.le_of_ble_eq_true rfl) dL_numbers_121 ⟨(by show _ ≤ (16 : Nat); omega), (by show _ ≤ (260 : Nat); omega)⟩) ?_
              refine zi_top (fun (r_121 : Int) (er_121 : r_121 = b2 (lookM M j9 x7_6)) => ?_)
              have fr_121 : (0 : Int) ≤ r_121 ∧ r_121 ≤ 1 := by rw [er_121]; exact b2_b
              refine zi_if_eq (tgt := 156) hx hb ⟨by omega, by omega⟩ dL_numbers_124 (by decide) (fun c_124 => ?_) (fun c_124 => ?_)
              · refine lv_iload hx hb dL_numbers_156 (lv_at hl 10 rfl) ?_
                refine lv_istore (lv' := [(10, .int (zi t9)), (0, .ref (ad 0)), (1, .int (zi x0)), (2, .ref (ld 0)), (3, .ref (ld 1)), (4, .ref (ld 2)), (5, .ref (ld 3)), (6, .ref (ld 4)), (7, .int (zi x7_6)), (8, .int (zi lo9)), (9, .int (zi hi9)), (11, .int (zi j9))]) hx hb dL_numbers_158 hl (by decide) rfl (fun ls hl => ?_)
                refine zi_iinc (k := 11) (lv' := [(11, .int (zi (j9 + 1))), (10, .int (zi t9)), (0, .ref (ad 0)), (1, .int (zi x0)), (2, .ref (ld 0)), (3, .ref (ld 1)), (4, .ref (ld 2)), (5, .ref (ld 3)), (6, .ref (ld 4)), (7, .int (zi x7_6)), (8, .int (zi lo9)), (9, .int (zi hi9))]) hx hb dL_numbers_160 hl rfl (by decide) rfl (fun ls hl => ?_)
                refine lv_goto (tgt := 105) hx hb dL_numbers_163 (by decide) ?_
                exact ih_105 t9 (j9 + 1) (by first | omega | assumption) (td_no h_t (fun h9 => b2_0 er_121 c_124 h9.1)) (by first | omega | assumption) (by omega) _ (lv_sub hl [2, 3, 4, 5, 6, 7, 8, 9, 10, 11, 1, 0] rfl)
              · refine lv_aload_n hx hb dL_numbers_127 rfl (lv_at hl 2 rfl) ?_
                refine lv_aload_n hx hb dL_numbers_128 rfl (lv_at hl 3 rfl) ?_
                refine lv_iload hx hb dL_numbers_129 (lv_at hl 11 rfl) ?_
                refine zk_r (zc_S (As := [.ref (ld 0), .ref (ld 1), .int (zi j9)]) (rest := []) ⟨hx, hb, hml, hown, hts⟩ (ct_L_nightOf l D cI cZ cJ ld L M hG j9 ⟨by omega, by omega⟩ ⟨by omega, by omega⟩) (va_cwS 3 hts gL_numbers_L_nightOf rfl rfl rfl (by decide +kernel) ⟨Nat.le_of_ble_eq_true rfl, Nat.le_of_ble_eq_true rfl⟩) hK hL rfl hl.1 rfl (Nat.le_of_ble_eq_true rfl) dL_numbers_131 ⟨(by show _ ≤ (16 : Nat); omega), (by show _ ≤ (260 : Nat); omega)⟩) ?_
                refine zi_top (fun (r_131 : Int) (er_131 : r_131 = nM M j9) => ?_)
                have fr_131 : (0 : Int) ≤ r_131 ∧ r_131 ≤ 999 := by rw [er_131]; exact GL.nb hG _
                refine lv_iload hx hb dL_numbers_134 (lv_at hl 8 rfl) ?_
                refine zi_icmp_le (tgt := 156) hx hb ⟨by omega, by omega⟩ ⟨by omega, by omega⟩ dL_numbers_136 (by decide) (fun c_136 => ?_) (fun c_136 => ?_)
                · refine lv_iload hx hb dL_numbers_156 (lv_at hl 10 rfl) ?_
                  refine lv_istore (lv' := [(10, .int (zi t9)), (0, .ref (ad 0)), (1, .int (zi x0)), (2, .ref (ld 0)), (3, .ref (ld 1)), (4, .ref (ld 2)), (5, .ref (ld 3)), (6, .ref (ld 4)), (7, .int (zi x7_6)), (8, .int (zi lo9)), (9, .int (zi hi9)), (11, .int (zi j9))]) hx hb dL_numbers_158 hl (by decide) rfl (fun ls hl => ?_)
                  refine zi_iinc (k := 11) (lv' := [(11, .int (zi (j9 + 1))), (10, .int (zi t9)), (0, .ref (ad 0)), (1, .int (zi x0)), (2, .ref (ld 0)), (3, .ref (ld 1)), (4, .ref (ld 2)), (5, .ref (ld 3)), (6, .ref (ld 4)), (7, .int (zi x7_6)), (8, .int (zi lo9)), (9, .int (zi hi9))]) hx hb dL_numbers_160 hl rfl (by decide) rfl (fun ls hl => ?_)
                  refine lv_goto (tgt := 105) hx hb dL_numbers_163 (by decide) ?_
                  exact ih_105 t9 (j9 + 1) (by first | omega | assumption) (td_no h_t (fun h9 => by have h8 := h9.2; omega)) (by first | omega | assumption) (by omega) _ (lv_sub hl [2, 3, 4, 5, 6, 7, 8, 9, 10, 11, 1, 0] rfl)
                · refine lv_aload_n hx hb dL_numbers_139 rfl (lv_at hl 2 rfl) ?_
                  refine lv_aload_n hx hb dL_numbers_140 rfl (lv_at hl 3 rfl) ?_
                  refine lv_iload hx hb dL_numbers_141 (lv_at hl 11 rfl) ?_
                  refine zk_r (zc_S (As := [.ref (ld 0), .ref (ld 1), .int (zi j9)]) (rest := []) ⟨hx, hb, hml, hown, hts⟩ (ct_L_nightOf l D cI cZ cJ ld L M hG j9 ⟨by omega, by omega⟩ ⟨by omega, by omega⟩) (va_cwS 3 hts gL_numbers_L_nightOf rfl rfl rfl (by decide +kernel) ⟨Nat.le_of_ble_eq_true rfl, Nat.le_of_ble_eq_true rfl⟩) hK hL rfl hl.1 rfl (Nat.le_of_ble_eq_true rfl) dL_numbers_143 ⟨(by show _ ≤ (16 : Nat); omega), (by show _ ≤ (260 : Nat); omega)⟩) ?_
                  refine zi_top (fun (r_143 : Int) (er_143 : r_143 = nM M j9) => ?_)
                  have fr_143 : (0 : Int) ≤ r_143 ∧ r_143 ≤ 999 := by rw [er_143]; exact GL.nb hG _
                  refine lv_iload hx hb dL_numbers_146 (lv_at hl 9 rfl) ?_
                  refine zi_icmp_ge (tgt := 156) hx hb ⟨by omega, by omega⟩ ⟨by omega, by omega⟩ dL_numbers_148 (by decide) (fun c_148 => ?_) (fun c_148 => ?_)
                  · refine lv_iload hx hb dL_numbers_156 (lv_at hl 10 rfl) ?_
                    refine lv_istore (lv' := [(10, .int (zi t9)), (0, .ref (ad 0)), (1, .int (zi x0)), (2, .ref (ld 0)), (3, .ref (ld 1)), (4, .ref (ld 2)), (5, .ref (ld 3)), (6, .ref (ld 4)), (7, .int (zi x7_6)), (8, .int (zi lo9)), (9, .int (zi hi9)), (11, .int (zi j9))]) hx hb dL_numbers_158 hl (by decide) rfl (fun ls hl => ?_)
                    refine zi_iinc (k := 11) (lv' := [(11, .int (zi (j9 + 1))), (10, .int (zi t9)), (0, .ref (ad 0)), (1, .int (zi x0)), (2, .ref (ld 0)), (3, .ref (ld 1)), (4, .ref (ld 2)), (5, .ref (ld 3)), (6, .ref (ld 4)), (7, .int (zi x7_6)), (8, .int (zi lo9)), (9, .int (zi hi9))]) hx hb dL_numbers_160 hl rfl (by decide) rfl (fun ls hl => ?_)
                    refine lv_goto (tgt := 105) hx hb dL_numbers_163 (by decide) ?_
                    exact ih_105 t9 (j9 + 1) (by first | omega | assumption) (td_no h_t (fun h9 => by have h8 := h9.2; omega)) (by first | omega | assumption) (by omega) _ (lv_sub hl [2, 3, 4, 5, 6, 7, 8, 9, 10, 11, 1, 0] rfl)
                  · refine lv_iload hx hb dL_numbers_151 (lv_at hl 11 rfl) ?_
                    refine lv_goto (tgt := 158) hx hb dL_numbers_153 (by decide) ?_
                    refine lv_istore (lv' := [(10, .int (zi j9)), (0, .ref (ad 0)), (1, .int (zi x0)), (2, .ref (ld 0)), (3, .ref (ld 1)), (4, .ref (ld 2)), (5, .ref (ld 3)), (6, .ref (ld 4)), (7, .int (zi x7_6)), (8, .int (zi lo9)), (9, .int (zi hi9)), (11, .int (zi j9))]) hx hb dL_numbers_158 hl (by decide) rfl (fun ls hl => ?_)
                    refine zi_iinc (k := 11) (lv' := [(11, .int (zi (j9 + 1))), (10, .int (zi j9)), (0, .ref (ad 0)), (1, .int (zi x0)), (2, .ref (ld 0)), (3, .ref (ld 1)), (4, .ref (ld 2)), (5, .ref (ld 3)), (6, .ref (ld 4)), (7, .int (zi x7_6)), (8, .int (zi lo9)), (9, .int (zi hi9))]) hx hb dL_numbers_160 hl rfl (by decide) rfl (fun ls hl => ?_)
                    refine lv_goto (tgt := 105) hx hb dL_numbers_163 (by decide) ?_
                    exact ih_105 j9 (j9 + 1) (by first | omega | assumption) (Or.inr ⟨h_j9.1, by omega, b2_1 er_121 c_124, by omega, by omega⟩) (by first | omega | assumption) (by omega) _ (lv_sub hl [2, 3, 4, 5, 6, 7, 8, 9, 10, 11, 1, 0] rfl)
        refine lv_istore (lv' := [(11, .int (zi 0)), (0, .ref (ad 0)), (1, .int (zi x0)), (2, .ref (ld 0)), (3, .ref (ld 1)), (4, .ref (ld 2)), (5, .ref (ld 3)), (6, .ref (ld 4)), (7, .int (zi x7_6)), (10, .int (zi (-1))), (8, .int (zi lo9)), (9, .int (zi hi9))]) hx hb dL_numbers_103 hl (by decide) rfl (fun ls hl => ?_)
        exact K_105 41 (-1) 0 (by first | omega | assumption) (Or.inl ⟨rfl, fun k a c => absurd c (by omega)⟩) (by first | omega | assumption) (by omega) _ (lv_sub hl [1, 2, 3, 4, 5, 6, 7, 8, 10, 11, 9, 0] rfl)
      · refine lv_aload_n hx hb dL_numbers_31 rfl (lv_at hl 2 rfl) ?_
        refine lv_aload hx hb dL_numbers_32 (lv_at hl 5 rfl) ?_
        refine lv_iload hx hb dL_numbers_34 (lv_at hl 11 rfl) ?_
        refine lv_iload hx hb dL_numbers_36 (lv_at hl 7 rfl) ?_
        refine zk_r (zc_S (As := [.ref (ld 0), .ref (ld 3), .int (zi i9), .int (zi x7_6)]) (rest := []) ⟨hx, hb, hml, hown, hts⟩ (ct_L_isLook l D cI cZ cJ ld L M hG i9 x7_6 ⟨by omega, by omega⟩ ⟨by omega, by omega⟩ ⟨by omega, by omega⟩) (va_cwS 4 hts gL_numbers_L_isLook rfl rfl rfl (by decide +kernel) ⟨Nat.le_of_ble_eq_true rfl, Nat.le_of_ble_eq_true rfl⟩) hK hL rfl hl.1 rfl (Nat.le_of_ble_eq_true rfl) dL_numbers_38 ⟨(by show _ ≤ (16 : Nat); omega), (by show _ ≤ (260 : Nat); omega)⟩) ?_
        refine zi_top (fun (r_38 : Int) (er_38 : r_38 = b2 (lookM M i9 x7_6)) => ?_)
        have fr_38 : (0 : Int) ≤ r_38 ∧ r_38 ≤ 1 := by rw [er_38]; exact b2_b
        refine zi_if_eq (tgt := 96) hx hb ⟨by omega, by omega⟩ dL_numbers_41 (by decide) (fun c_41 => ?_) (fun c_41 => ?_)
        · refine zi_iinc (k := 11) (lv' := [(11, .int (zi (i9 + 1))), (0, .ref (ad 0)), (1, .int (zi x0)), (2, .ref (ld 0)), (3, .ref (ld 1)), (4, .ref (ld 2)), (5, .ref (ld 3)), (6, .ref (ld 4)), (7, .int (zi x7_6)), (10, .int (zi (-1))), (8, .int (zi lo9)), (9, .int (zi hi9))]) hx hb dL_numbers_96 hl rfl (by decide) rfl (fun ls hl => ?_)
          refine lv_goto (tgt := 22) hx hb dL_numbers_99 (by decide) ?_
          exact ih_22 lo9 hi9 (i9 + 1) (by first | omega | assumption) (nl_no h_b (b2_0 er_38 c_41)) (by first | omega | assumption) (by omega) _ (lv_sub hl [1, 2, 3, 4, 5, 6, 7, 8, 9, 10, 11, 0] rfl)
        · refine lv_aload_n hx hb dL_numbers_44 rfl (lv_at hl 2 rfl) ?_
          refine lv_aload_n hx hb dL_numbers_45 rfl (lv_at hl 3 rfl) ?_
          refine lv_iload hx hb dL_numbers_46 (lv_at hl 11 rfl) ?_
          refine zk_r (zc_S (As := [.ref (ld 0), .ref (ld 1), .int (zi i9)]) (rest := []) ⟨hx, hb, hml, hown, hts⟩ (ct_L_nightOf l D cI cZ cJ ld L M hG i9 ⟨by omega, by omega⟩ ⟨by omega, by omega⟩) (va_cwS 3 hts gL_numbers_L_nightOf rfl rfl rfl (by decide +kernel) ⟨Nat.le_of_ble_eq_true rfl, Nat.le_of_ble_eq_true rfl⟩) hK hL rfl hl.1 rfl (Nat.le_of_ble_eq_true rfl) dL_numbers_48 ⟨(by show _ ≤ (16 : Nat); omega), (by show _ ≤ (260 : Nat); omega)⟩) ?_
          refine zi_top (fun (r_48 : Int) (er_48 : r_48 = nM M i9) => ?_)
          have fr_48 : (0 : Int) ≤ r_48 ∧ r_48 ≤ 999 := by rw [er_48]; exact GL.nb hG _
          refine lv_iload hx hb dL_numbers_51 (lv_at hl 9 rfl) ?_
          refine zi_icmp_ge (tgt := 66) hx hb ⟨by omega, by omega⟩ ⟨by omega, by omega⟩ dL_numbers_53 (by decide) (fun c_53 => ?_) (fun c_53 => ?_)
          · refine lv_iload hx hb dL_numbers_66 (lv_at hl 9 rfl) ?_
            refine lv_istore (lv' := [(8, .int (zi lo9)), (0, .ref (ad 0)), (1, .int (zi x0)), (2, .ref (ld 0)), (3, .ref (ld 1)), (4, .ref (ld 2)), (5, .ref (ld 3)), (6, .ref (ld 4)), (7, .int (zi x7_6)), (10, .int (zi (-1))), (9, .int (zi hi9)), (11, .int (zi i9))]) hx hb dL_numbers_68 hl (by decide) rfl (fun ls hl => ?_)
            refine lv_aload_n hx hb dL_numbers_70 rfl (lv_at hl 3 rfl) ?_
            refine lv_aload_n hx hb dL_numbers_71 rfl (lv_at hl 4 rfl) ?_
            refine lv_iload hx hb dL_numbers_72 (lv_at hl 11 rfl) ?_
            refine zk_r (zc_S (As := [.ref (ld 0), .ref (ld 1), .int (zi i9)]) (rest := []) ⟨hx, hb, hml, hown, hts⟩ (ct_L_nightOf l D cI cZ cJ ld L M hG i9 ⟨by omega, by omega⟩ ⟨by omega, by omega⟩) (va_cwS 3 hts gL_numbers_L_nightOf rfl rfl rfl (by decide +kernel) ⟨Nat.le_of_ble_eq_true rfl, Nat.le_of_ble_eq_true rfl⟩) hK hL rfl hl.1 rfl (Nat.le_of_ble_eq_true rfl) dL_numbers_74 ⟨(by show _ ≤ (16 : Nat); omega), (by show _ ≤ (260 : Nat); omega)⟩) ?_
            refine zi_top (fun (r_74 : Int) (er_74 : r_74 = nM M i9) => ?_)
            have fr_74 : (0 : Int) ≤ r_74 ∧ r_74 ≤ 999 := by rw [er_74]; exact GL.nb hG _
            refine lv_iload hx hb dL_numbers_77 (lv_at hl 10 rfl) ?_
            refine zi_icmp_le (tgt := 92) hx hb ⟨by omega, by omega⟩ ⟨by omega, by omega⟩ dL_numbers_79 (by decide) (fun c_79 => ?_) (fun c_79 => ?_)
            · refine lv_iload hx hb dL_numbers_92 (lv_at hl 10 rfl) ?_
              refine lv_istore (lv' := [(9, .int (zi hi9)), (8, .int (zi lo9)), (0, .ref (ad 0)), (1, .int (zi x0)), (2, .ref (ld 0)), (3, .ref (ld 1)), (4, .ref (ld 2)), (5, .ref (ld 3)), (6, .ref (ld 4)), (7, .int (zi x7_6)), (10, .int (zi (-1))), (11, .int (zi i9))]) hx hb dL_numbers_94 hl (by decide) rfl (fun ls hl => ?_)
              refine zi_iinc (k := 11) (lv' := [(11, .int (zi (i9 + 1))), (9, .int (zi hi9)), (8, .int (zi lo9)), (0, .ref (ad 0)), (1, .int (zi x0)), (2, .ref (ld 0)), (3, .ref (ld 1)), (4, .ref (ld 2)), (5, .ref (ld 3)), (6, .ref (ld 4)), (7, .int (zi x7_6)), (10, .int (zi (-1)))]) hx hb dL_numbers_96 hl rfl (by decide) rfl (fun ls hl => ?_)
              refine lv_goto (tgt := 22) hx hb dL_numbers_99 (by decide) ?_
              exact ih_22 lo9 hi9 (i9 + 1) (by first | omega | assumption) (nl_yes h_b h_i9.1 (b2_1 er_38 c_41) (GL.nb hG i9) (by split <;> omega) (by split <;> omega)) (by first | omega | assumption) (by omega) _ (lv_sub hl [3, 4, 5, 6, 7, 8, 9, 10, 11, 2, 1, 0] rfl)
            · refine lv_aload_n hx hb dL_numbers_82 rfl (lv_at hl 3 rfl) ?_
              refine lv_aload_n hx hb dL_numbers_83 rfl (lv_at hl 4 rfl) ?_
              refine lv_iload hx hb dL_numbers_84 (lv_at hl 11 rfl) ?_
              refine zk_r (zc_S (As := [.ref (ld 0), .ref (ld 1), .int (zi i9)]) (rest := []) ⟨hx, hb, hml, hown, hts⟩ (ct_L_nightOf l D cI cZ cJ ld L M hG i9 ⟨by omega, by omega⟩ ⟨by omega, by omega⟩) (va_cwS 3 hts gL_numbers_L_nightOf rfl rfl rfl (by decide +kernel) ⟨Nat.le_of_ble_eq_true rfl, Nat.le_of_ble_eq_true rfl⟩) hK hL rfl hl.1 rfl (Nat.le_of_ble_eq_true rfl) dL_numbers_86 ⟨(by show _ ≤ (16 : Nat); omega), (by show _ ≤ (260 : Nat); omega)⟩) ?_
              refine zi_top (fun (r_86 : Int) (er_86 : r_86 = nM M i9) => ?_)
              have fr_86 : (0 : Int) ≤ r_86 ∧ r_86 ≤ 999 := by rw [er_86]; exact GL.nb hG _
              refine lv_goto (tgt := 94) hx hb dL_numbers_89 (by decide) ?_
              refine lv_istore (lv' := [(9, .int (zi r_86)), (8, .int (zi lo9)), (0, .ref (ad 0)), (1, .int (zi x0)), (2, .ref (ld 0)), (3, .ref (ld 1)), (4, .ref (ld 2)), (5, .ref (ld 3)), (6, .ref (ld 4)), (7, .int (zi x7_6)), (10, .int (zi (-1))), (11, .int (zi i9))]) hx hb dL_numbers_94 hl (by decide) rfl (fun ls hl => ?_)
              refine zi_iinc (k := 11) (lv' := [(11, .int (zi (i9 + 1))), (9, .int (zi r_86)), (8, .int (zi lo9)), (0, .ref (ad 0)), (1, .int (zi x0)), (2, .ref (ld 0)), (3, .ref (ld 1)), (4, .ref (ld 2)), (5, .ref (ld 3)), (6, .ref (ld 4)), (7, .int (zi x7_6)), (10, .int (zi (-1)))]) hx hb dL_numbers_96 hl rfl (by decide) rfl (fun ls hl => ?_)
              refine lv_goto (tgt := 22) hx hb dL_numbers_99 (by decide) ?_
              exact ih_22 lo9 r_86 (i9 + 1) (by first | omega | assumption) (nl_yes h_b h_i9.1 (b2_1 er_38 c_41) (GL.nb hG i9) (by split <;> omega) (by split <;> omega)) (by first | omega | assumption) (by omega) _ (lv_sub hl [3, 4, 5, 6, 7, 8, 9, 10, 11, 2, 1, 0] rfl)
          · refine lv_aload_n hx hb dL_numbers_56 rfl (lv_at hl 2 rfl) ?_
            refine lv_aload_n hx hb dL_numbers_57 rfl (lv_at hl 3 rfl) ?_
            refine lv_iload hx hb dL_numbers_58 (lv_at hl 11 rfl) ?_
            refine zk_r (zc_S (As := [.ref (ld 0), .ref (ld 1), .int (zi i9)]) (rest := []) ⟨hx, hb, hml, hown, hts⟩ (ct_L_nightOf l D cI cZ cJ ld L M hG i9 ⟨by omega, by omega⟩ ⟨by omega, by omega⟩) (va_cwS 3 hts gL_numbers_L_nightOf rfl rfl rfl (by decide +kernel) ⟨Nat.le_of_ble_eq_true rfl, Nat.le_of_ble_eq_true rfl⟩) hK hL rfl hl.1 rfl (Nat.le_of_ble_eq_true rfl) dL_numbers_60 ⟨(by show _ ≤ (16 : Nat); omega), (by show _ ≤ (260 : Nat); omega)⟩) ?_
            refine zi_top (fun (r_60 : Int) (er_60 : r_60 = nM M i9) => ?_)
            have fr_60 : (0 : Int) ≤ r_60 ∧ r_60 ≤ 999 := by rw [er_60]; exact GL.nb hG _
            refine lv_goto (tgt := 68) hx hb dL_numbers_63 (by decide) ?_
            refine lv_istore (lv' := [(8, .int (zi r_60)), (0, .ref (ad 0)), (1, .int (zi x0)), (2, .ref (ld 0)), (3, .ref (ld 1)), (4, .ref (ld 2)), (5, .ref (ld 3)), (6, .ref (ld 4)), (7, .int (zi x7_6)), (10, .int (zi (-1))), (9, .int (zi hi9)), (11, .int (zi i9))]) hx hb dL_numbers_68 hl (by decide) rfl (fun ls hl => ?_)
            refine lv_aload_n hx hb dL_numbers_70 rfl (lv_at hl 3 rfl) ?_
            refine lv_aload_n hx hb dL_numbers_71 rfl (lv_at hl 4 rfl) ?_
            refine lv_iload hx hb dL_numbers_72 (lv_at hl 11 rfl) ?_
            refine zk_r (zc_S (As := [.ref (ld 0), .ref (ld 1), .int (zi i9)]) (rest := []) ⟨hx, hb, hml, hown, hts⟩ (ct_L_nightOf l D cI cZ cJ ld L M hG i9 ⟨by omega, by omega⟩ ⟨by omega, by omega⟩) (va_cwS 3 hts gL_numbers_L_nightOf rfl rfl rfl (by decide +kernel) ⟨Nat.le_of_ble_eq_true rfl, Nat.le_of_ble_eq_true rfl⟩) hK hL rfl hl.1 rfl (Nat.le_of_ble_eq_true rfl) dL_numbers_74 ⟨(by show _ ≤ (16 : Nat); omega), (by show _ ≤ (260 : Nat); omega)⟩) ?_
            refine zi_top (fun (r_74 : Int) (er_74 : r_74 = nM M i9) => ?_)
            have fr_74 : (0 : Int) ≤ r_74 ∧ r_74 ≤ 999 := by rw [er_74]; exact GL.nb hG _
            refine lv_iload hx hb dL_numbers_77 (lv_at hl 10 rfl) ?_
            refine zi_icmp_le (tgt := 92) hx hb ⟨by omega, by omega⟩ ⟨by omega, by omega⟩ dL_numbers_79 (by decide) (fun c_79 => ?_) (fun c_79 => ?_)
            · refine lv_iload hx hb dL_numbers_92 (lv_at hl 10 rfl) ?_
              refine lv_istore (lv' := [(9, .int (zi hi9)), (8, .int (zi r_60)), (0, .ref (ad 0)), (1, .int (zi x0)), (2, .ref (ld 0)), (3, .ref (ld 1)), (4, .ref (ld 2)), (5, .ref (ld 3)), (6, .ref (ld 4)), (7, .int (zi x7_6)), (10, .int (zi (-1))), (11, .int (zi i9))]) hx hb dL_numbers_94 hl (by decide) rfl (fun ls hl => ?_)
              refine zi_iinc (k := 11) (lv' := [(11, .int (zi (i9 + 1))), (9, .int (zi hi9)), (8, .int (zi r_60)), (0, .ref (ad 0)), (1, .int (zi x0)), (2, .ref (ld 0)), (3, .ref (ld 1)), (4, .ref (ld 2)), (5, .ref (ld 3)), (6, .ref (ld 4)), (7, .int (zi x7_6)), (10, .int (zi (-1)))]) hx hb dL_numbers_96 hl rfl (by decide) rfl (fun ls hl => ?_)
              refine lv_goto (tgt := 22) hx hb dL_numbers_99 (by decide) ?_
              exact ih_22 r_60 hi9 (i9 + 1) (by first | omega | assumption) (nl_yes h_b h_i9.1 (b2_1 er_38 c_41) (GL.nb hG i9) (by split <;> omega) (by split <;> omega)) (by first | omega | assumption) (by omega) _ (lv_sub hl [3, 4, 5, 6, 7, 8, 9, 10, 11, 2, 1, 0] rfl)
            · refine lv_aload_n hx hb dL_numbers_82 rfl (lv_at hl 3 rfl) ?_
              refine lv_aload_n hx hb dL_numbers_83 rfl (lv_at hl 4 rfl) ?_
              refine lv_iload hx hb dL_numbers_84 (lv_at hl 11 rfl) ?_
              refine zk_r (zc_S (As := [.ref (ld 0), .ref (ld 1), .int (zi i9)]) (rest := []) ⟨hx, hb, hml, hown, hts⟩ (ct_L_nightOf l D cI cZ cJ ld L M hG i9 ⟨by omega, by omega⟩ ⟨by omega, by omega⟩) (va_cwS 3 hts gL_numbers_L_nightOf rfl rfl rfl (by decide +kernel) ⟨Nat.le_of_ble_eq_true rfl, Nat.le_of_ble_eq_true rfl⟩) hK hL rfl hl.1 rfl (Nat.le_of_ble_eq_true rfl) dL_numbers_86 ⟨(by show _ ≤ (16 : Nat); omega), (by show _ ≤ (260 : Nat); omega)⟩) ?_
              refine zi_top (fun (r_86 : Int) (er_86 : r_86 = nM M i9) => ?_)
              have fr_86 : (0 : Int) ≤ r_86 ∧ r_86 ≤ 999 := by rw [er_86]; exact GL.nb hG _
              refine lv_goto (tgt := 94) hx hb dL_numbers_89 (by decide) ?_
              refine lv_istore (lv' := [(9, .int (zi r_86)), (8, .int (zi r_60)), (0, .ref (ad 0)), (1, .int (zi x0)), (2, .ref (ld 0)), (3, .ref (ld 1)), (4, .ref (ld 2)), (5, .ref (ld 3)), (6, .ref (ld 4)), (7, .int (zi x7_6)), (10, .int (zi (-1))), (11, .int (zi i9))]) hx hb dL_numbers_94 hl (by decide) rfl (fun ls hl => ?_)
              refine zi_iinc (k := 11) (lv' := [(11, .int (zi (i9 + 1))), (9, .int (zi r_86)), (8, .int (zi r_60)), (0, .ref (ad 0)), (1, .int (zi x0)), (2, .ref (ld 0)), (3, .ref (ld 1)), (4, .ref (ld 2)), (5, .ref (ld 3)), (6, .ref (ld 4)), (7, .int (zi x7_6)), (10, .int (zi (-1)))]) hx hb dL_numbers_96 hl rfl (by decide) rfl (fun ls hl => ?_)
              refine lv_goto (tgt := 22) hx hb dL_numbers_99 (by decide) ?_
              exact ih_22 r_60 r_86 (i9 + 1) (by first | omega | assumption) (nl_yes h_b h_i9.1 (b2_1 er_38 c_41) (GL.nb hG i9) (by split <;> omega) (by split <;> omega)) (by first | omega | assumption) (by omega) _ (lv_sub hl [3, 4, 5, 6, 7, 8, 9, 10, 11, 2, 1, 0] rfl)
  refine lv_istore (lv' := [(11, .int (zi 0)), (10, .int (zi (-1))), (9, .int (zi (-1))), (8, .int (zi 1000)), (7, .int (zi x7_6)), (0, .ref (ad 0)), (1, .int (zi x0)), (2, .ref (ld 0)), (3, .ref (ld 1)), (4, .ref (ld 2)), (5, .ref (ld 3)), (6, .ref (ld 4))]) hx hb dL_numbers_20 hl (by decide) rfl (fun ls hl => ?_)
  exact K_22 41 1000 (-1) 0 (by first | omega | assumption) ⟨fun k a c => absurd c (by omega), Or.inl ⟨rfl, rfl⟩⟩ (by first | omega | assumption) (by omega) _ (lv_sub hl [5, 6, 7, 8, 9, 10, 11, 4, 1, 3, 2, 0] rfl)
