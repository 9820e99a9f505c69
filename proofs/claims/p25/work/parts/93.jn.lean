theorem mJoin_w {M : ZS} {w t : Int} : mJoin M w t 12 w = t := if_pos rfl
theorem lk_n1 {L M : ZS} (hG : GL L M) {b o : Int} (h0 : 0 ≤ b) (h1 : b < M 11 0) : 1 ≤ (oG M b o (-1)).2 ∧ 1 ≤ (oL M b o (-1)).length := by
  obtain ⟨d, hd⟩ := List.exists_mem_of_ne_nil _ (lkM_ne hG.2.2 h0 h1)
  have hd9 := (GL.lkm hG).mp hd
  exact oG_1 (oL_mem.mpr ⟨hd9.1, Or.inl hd9.2⟩)
theorem lateM_b {M : ZS} {b : Int} (hM : 0 ≤ M 11 0) : -1 ≤ lateM M b ∧ lateM M b < M 11 0 := by
  have key : ∀ (n : Nat) (j acc : Int), 0 ≤ j → j + n = M 11 0 → -1 ≤ acc ∧ acc < M 11 0 → -1 ≤ itr (lateG M b) n j acc ∧ itr (lateG M b) n j acc < M 11 0 := by
    intro n
    induction n with
    | zero => intro j acc _ _ h; exact h
    | succ n ih =>
      intro j acc hj hn h
      rw [itr_s]
      refine ih _ _ (by omega) (by omega) ?_
      unfold lateG
      split
      · omega
      · exact h
  unfold lateM
  by_cases c : 0 < M 11 0
  · exact key _ 0 (-1) (by omega) (by omega) (by omega)
  · rw [show (M 11 0).toNat = 0 by omega]
    exact ⟨Int.le_refl _, by show (-1 : Int) < M 11 0; omega⟩
theorem ci41_L_joins : Cond.constant RL 41 (-70008) ∈ wsL_joins := by decide +kernel
abbrev rmct_L_joins : Room := { frames := 9, cells := 12, slots := 240, locals := 186 }
set_option maxHeartbeats 8000000 in
set_option maxRecDepth 100000 in
theorem ct_L_joins (l : Launch) (hst : l.stackTraces = false) (D : va_G) (cI cZ cJ : ClassId) (sa ad ld : Nat → Nat) (S L M : ZS) (hdis : bDis ad ld) (hG : GL L M) (hD : DK S M) (x0 x1 : Int) (hx0 : ir x0) (hx1 : ir x1) (hN : NX M) (hp0 : 0 ≤ x0) (hp1 : 0 ≤ x1) (hc2 : 2 ≤ M 11 0) (hj2 : M 17 0 ≤ 1000) : Met l yL_joins wsL_joins rmct_L_joins (zPb D cI cZ cJ sa ad ld S L [.ref (ad 0), .int (zi x0), .int (zi x1), .ref (ld 0), .ref (ld 1), .ref (ld 2), .ref (ld 3), .ref (ld 4)]) (zWb D cI ad ld (fun r S9 L9 => r = 1 ∧ ∃ M' : ZS, GL L9 M' ∧ DK S9 M' ∧ NX M' ∧ M' 17 0 ≤ M 17 0 + 1)) 12 240 (bA ad ld) := by
  refine Met.ofW (cc := cL_joins) (maxL := 18) (ret := (some .boolean)) (by decide) rfl ?_
  intro p e s m args below meth c s₁ B hml hv
  obtain ⟨rfl, hP, hL, hK, hX, hQ⟩ := hv
  have hx := B.exec
  have hb := B.bytes
  have hr := B.returns
  have hts := atoms_spec (ws := wsL_joins) B.pre
  have hown : s.vm.findClass RL = some m.cls := findClass_of_methodNamed B.named
  have hlocks := B.notSynchronized
  have hl := lv_entry ([.ref (ad 0), .int (zi x0), .int (zi x1), .ref (ld 0), .ref (ld 1), .ref (ld 2), .ref (ld 3), .ref (ld 4)]) (n := 18) (Nat.le_of_ble_eq_true rfl)
  rw [lg_entry_eq]
  generalize (lg_sl ([.ref (ad 0), .int (zi x0), .int (zi x1), .ref (ld 0), .ref (ld 1), .ref (ld 2), .ref (ld 3), .ref (ld 4)]) ++ List.replicate (18 - (lg_sl ([.ref (ad 0), .int (zi x0), .int (zi x1), .ref (ld 0), .ref (ld 1), .ref (ld 2), .ref (ld 3), .ref (ld 4)])).length) Slot.unset).toArray = ls at hl ⊢
  have hl : lv_has ls 18 [(0, .ref (ad 0)), (1, .int (zi x0)), (2, .int (zi x1)), (3, .ref (ld 0)), (4, .ref (ld 1)), (5, .ref (ld 2)), (6, .ref (ld 3)), (7, .ref (ld 4))] := hl
  have hS : va_S (bA ad ld) s.heap s.heap [] := va_S.rf
  show W p l e rmct_L_joins s m ([.ref (ad 0), .int (zi x0), .int (zi x1), .ref (ld 0), .ref (ld 1), .ref (ld 2), .ref (ld 3), .ref (ld 4)] : List Value).toArray below meth c s.heap [] 0 0 (MQ below (zWb D cI ad ld (fun r S9 L9 => r = 1 ∧ ∃ M' : ZS, GL L9 M' ∧ DK S9 M' ∧ NX M' ∧ M' 17 0 ≤ M 17 0 + 1)) ([.ref (ad 0), .int (zi x0), .int (zi x1), .ref (ld 0), .ref (ld 1), .ref (ld 2), .ref (ld 3), .ref (ld 4)] : List Value).toArray s 12 240 (bA ad ld)) (F0 m 0 ls [])
  have q0 := GL.c hG
  refine lv_iload_n hx hb dL_joins_0 rfl (lv_at hl 1 rfl) ?_
  refine lv_aload hx hb dL_joins_1 (lv_at hl 7 rfl) ?_
  refine zi_iconst hx hb dL_joins_3 ?_
  refine zi_iald hx hb hK.1 hL 4 0 rfl rfl (by omega) (by omega) (by decide) dL_joins_4 ?_
  refine zi_is (M 11 0) (GL.c hG).2.1 ?_
  have q_4 := GL.c hG
  refine zi_irem hx hb ⟨by omega, by omega⟩ ⟨by omega, by omega⟩ (by omega) (by omega) dL_joins_5 ?_
  refine zi_top (fun x8_6 ex8_6 => ?_)
  refine lv_istore (lv' := [(8, .int (zi x8_6)), (0, .ref (ad 0)), (1, .int (zi x0)), (2, .int (zi x1)), (3, .ref (ld 0)), (4, .ref (ld 1)), (5, .ref (ld 2)), (6, .ref (ld 3)), (7, .ref (ld 4))]) hx hb dL_joins_6 hl (by decide) rfl (fun ls hl => ?_)
  have m1_ := Int.emod_nonneg x0 (show M 11 0 ≠ 0 by omega)
  have m2_ := Int.emod_lt_of_pos x0 (show 0 < M 11 0 by omega)
  refine lv_iload_n hx hb dL_joins_8 rfl (lv_at hl 2 rfl) ?_
  refine zi_bipush hx hb dL_joins_9 (by decide) ?_
  refine zi_idiv hx hb ⟨by omega, by omega⟩ ⟨by omega, by omega⟩ (by omega) (by omega) dL_joins_11 ?_
  refine lv_aload hx hb dL_joins_12 (lv_at hl 8 rfl) ?_
  refine zi_iconst hx hb dL_joins_14 ?_
  refine zi_iald hx hb hK.1 hL 4 0 rfl rfl (by omega) (by omega) (by decide) dL_joins_15 ?_
  refine zi_is (M 11 0) (GL.c hG).2.1 ?_
  have q_15 := GL.c hG
  refine zi_irem hx hb ⟨by omega, by omega⟩ ⟨by omega, by omega⟩ (by omega) (by omega) dL_joins_16 ?_
  refine zi_top (fun x9_17 ex9_17 => ?_)
  refine lv_istore (lv' := [(9, .int (zi x9_17)), (8, .int (zi x8_6)), (0, .ref (ad 0)), (1, .int (zi x0)), (2, .int (zi x1)), (3, .ref (ld 0)), (4, .ref (ld 1)), (5, .ref (ld 2)), (6, .ref (ld 3)), (7, .ref (ld 4))]) hx hb dL_joins_17 hl (by decide) rfl (fun ls hl => ?_)
  have m3_ := Int.emod_nonneg (x0 / 12) (show M 11 0 ≠ 0 by omega)
  have m4_ := Int.emod_lt_of_pos (x0 / 12) (show 0 < M 11 0 by omega)
  refine lv_iload_n hx hb dL_joins_19 rfl (lv_at hl 4 rfl) ?_
  refine zi_iconst hx hb dL_joins_20 ?_
  refine zi_irem hx hb ⟨by omega, by omega⟩ ⟨by omega, by omega⟩ (by omega) (by omega) dL_joins_21 ?_
  refine zi_if_ne (tgt := 103) hx hb ⟨by omega, by omega⟩ dL_joins_22 (by decide) (fun c_22 => ?_) (fun c_22 => ?_)
  · refine lv_aload hx hb dL_joins_103 (lv_at hl 8 rfl) ?_
    refine zi_iconst hx hb dL_joins_105 ?_
    refine lv_iload hx hb dL_joins_106 (lv_at hl 1 rfl) ?_
    refine zi_imul hx hb dL_joins_108 ?_
    refine zi_iconst hx hb dL_joins_109 ?_
    refine zi_iadd hx hb dL_joins_110 ?_
    refine zi_iald hx hb hK.1 hL 3 0 rfl rfl (by omega) (by omega) (by decide) dL_joins_111 ?_
    refine zi_is (M 14 x8_6) (GL.un hG (j := x8_6) (by omega) (by omega)).1 ?_
    have q_111 := (GL.un hG (j := x8_6) (by omega) (by omega)).2
    have K_132 : ∀ (v9 : Int), ((v9 = 1 ∧ 0 < M 14 x8_6 ∧ 0 < M 14 x9_17) ∨ (v9 = 0 ∧ ¬ (0 < M 14 x8_6 ∧ 0 < M 14 x9_17))) → (0 ≤ v9 ∧ v9 ≤ 1) → ∀ (ls : Array Slot), lv_has ls 18 [(0, .ref (ad 0)), (1, .int (zi x0)), (2, .int (zi x1)), (3, .ref (ld 0)), (4, .ref (ld 1)), (5, .ref (ld 2)), (6, .ref (ld 3)), (7, .ref (ld 4)), (8, .int (zi x8_6)), (9, .int (zi x9_17))] → W p l e rmct_L_joins s m ([.ref (ad 0), .int (zi x0), .int (zi x1), .ref (ld 0), .ref (ld 1), .ref (ld 2), .ref (ld 3), .ref (ld 4)] : List Value).toArray below meth c s.heap [] 0 0 (MQ below (zWb D cI ad ld (fun r S9 L9 => r = 1 ∧ ∃ M' : ZS, GL L9 M' ∧ DK S9 M' ∧ NX M' ∧ M' 17 0 ≤ M 17 0 + 1)) ([.ref (ad 0), .int (zi x0), .int (zi x1), .ref (ld 0), .ref (ld 1), .ref (ld 2), .ref (ld 3), .ref (ld 4)] : List Value).toArray s 12 240 (bA ad ld)) (F0 m 132 ls [.int (zi v9)]) := by
      intro v9 h_v9 h_vb9 ls hl
      refine lv_istore (lv' := [(10, .int (zi v9)), (0, .ref (ad 0)), (1, .int (zi x0)), (2, .int (zi x1)), (3, .ref (ld 0)), (4, .ref (ld 1)), (5, .ref (ld 2)), (6, .ref (ld 3)), (7, .ref (ld 4)), (8, .int (zi x8_6)), (9, .int (zi x9_17))]) hx hb dL_joins_132 hl (by decide) rfl (fun ls hl => ?_)
      refine lv_iload hx hb dL_joins_134 (lv_at hl 9 rfl) ?_
      refine lv_iload hx hb dL_joins_136 (lv_at hl 10 rfl) ?_
      have K_206 : ∀ (m9 : Int) (T : ZS), ((m9 = 1 ∧ cjP M x8_6 x9_17) ∨ (m9 = 0 ∧ ¬ cjP M x8_6 x9_17)) → (0 ≤ m9 ∧ m9 ≤ 1) → (DK T M) → ∀ (H : Heap) (locs : List Loc), va_P D vwCl (dW cI ad T) H → va_P D vwCl (lW cI ld L) H → va_S (bA ad ld) s.heap H locs → ∀ (ls : Array Slot), lv_has ls 18 [(0, .ref (ad 0)), (1, .int (zi x0)), (2, .int (zi x1)), (3, .ref (ld 0)), (4, .ref (ld 1)), (5, .ref (ld 2)), (6, .ref (ld 3)), (7, .ref (ld 4)), (8, .int (zi x8_6)), (9, .int (zi x9_17)), (10, .int (zi v9))] → W p l e rmct_L_joins s m ([.ref (ad 0), .int (zi x0), .int (zi x1), .ref (ld 0), .ref (ld 1), .ref (ld 2), .ref (ld 3), .ref (ld 4)] : List Value).toArray below meth c H locs 3 180 (MQ below (zWb D cI ad ld (fun r S9 L9 => r = 1 ∧ ∃ M' : ZS, GL L9 M' ∧ DK S9 M' ∧ NX M' ∧ M' 17 0 ≤ M 17 0 + 1)) ([.ref (ad 0), .int (zi x0), .int (zi x1), .ref (ld 0), .ref (ld 1), .ref (ld 2), .ref (ld 3), .ref (ld 4)] : List Value).toArray s 12 240 (bA ad ld)) (F0 m 206 ls [.int (zi m9)]) := by
        intro m9 T h_m9 h_mb9 hD_T H locs hP hL hS ls hl
        refine lv_istore (lv' := [(11, .int (zi m9)), (0, .ref (ad 0)), (1, .int (zi x0)), (2, .int (zi x1)), (3, .ref (ld 0)), (4, .ref (ld 1)), (5, .ref (ld 2)), (6, .ref (ld 3)), (7, .ref (ld 4)), (8, .int (zi x8_6)), (9, .int (zi x9_17)), (10, .int (zi v9))]) hx hb dL_joins_206 hl (by decide) rfl (fun ls hl => ?_)
        refine lv_aload_n hx hb dL_joins_208 rfl (lv_at hl 4 rfl) ?_
        refine lv_aload hx hb dL_joins_209 (lv_at hl 5 rfl) ?_
        refine lv_aload hx hb dL_joins_211 (lv_at hl 7 rfl) ?_
        refine lv_aload hx hb dL_joins_213 (lv_at hl 8 rfl) ?_
        refine lv_iload hx hb dL_joins_215 (lv_at hl 9 rfl) ?_
        refine zk_r (zc_S (As := [.ref (ld 0), .ref (ld 1), .ref (ld 3), .ref (ld 4), .int (zi x8_6)]) (rest := []) ⟨hx, hb, hml, hown, hts⟩ (ct_L_firstOf l D cI cZ cJ ld L M hG x8_6 ⟨by omega, by omega⟩) (va_cwS 5 hts gL_joins_L_firstOf rfl rfl rfl (by decide +kernel) ⟨Nat.le_of_ble_eq_true rfl, Nat.le_of_ble_eq_true rfl⟩) hK hL rfl hl.1 rfl (Nat.le_of_ble_eq_true rfl) dL_joins_217 ⟨(by show _ ≤ (12 : Nat); omega), (by show _ ≤ (240 : Nat); omega)⟩) ?_
        refine zi_top (fun (r_217 : Int) (er_217 : r_217 = fsN M x8_6) => ?_)
        refine lv_istore (lv' := [(12, .int (zi r_217)), (11, .int (zi m9)), (0, .ref (ad 0)), (1, .int (zi x0)), (2, .int (zi x1)), (3, .ref (ld 0)), (4, .ref (ld 1)), (5, .ref (ld 2)), (6, .ref (ld 3)), (7, .ref (ld 4)), (8, .int (zi x8_6)), (9, .int (zi x9_17)), (10, .int (zi v9))]) hx hb dL_joins_220 hl (by decide) rfl (fun ls hl => ?_)
        refine lv_aload_n hx hb dL_joins_222 rfl (lv_at hl 5 rfl) ?_
        refine lv_aload hx hb dL_joins_223 (lv_at hl 6 rfl) ?_
        refine lv_aload hx hb dL_joins_225 (lv_at hl 8 rfl) ?_
        refine lv_aload hx hb dL_joins_227 (lv_at hl 9 rfl) ?_
        refine lv_iload hx hb dL_joins_229 (lv_at hl 11 rfl) ?_
        refine zk_r (zc_S (As := [.ref (ld 0), .ref (ld 1), .ref (ld 3), .ref (ld 4), .int (zi x9_17)]) (rest := []) ⟨hx, hb, hml, hown, hts⟩ (ct_L_firstOf l D cI cZ cJ ld L M hG x9_17 ⟨by omega, by omega⟩) (va_cwS 5 hts gL_joins_L_firstOf rfl rfl rfl (by decide +kernel) ⟨Nat.le_of_ble_eq_true rfl, Nat.le_of_ble_eq_true rfl⟩) hK hL rfl hl.1 rfl (Nat.le_of_ble_eq_true rfl) dL_joins_231 ⟨(by show _ ≤ (12 : Nat); omega), (by show _ ≤ (240 : Nat); omega)⟩) ?_
        refine zi_top (fun (r_231 : Int) (er_231 : r_231 = fsN M x9_17) => ?_)
        refine lv_istore (lv' := [(13, .int (zi r_231)), (12, .int (zi r_217)), (11, .int (zi m9)), (0, .ref (ad 0)), (1, .int (zi x0)), (2, .int (zi x1)), (3, .ref (ld 0)), (4, .ref (ld 1)), (5, .ref (ld 2)), (6, .ref (ld 3)), (7, .ref (ld 4)), (8, .int (zi x8_6)), (9, .int (zi x9_17)), (10, .int (zi v9))]) hx hb dL_joins_234 hl (by decide) rfl (fun ls hl => ?_)
        have f1_ := ((GL.lkm hG).mp (fsN_first hG (b := x8_6) (by omega) (by omega)).2).1
        have f2_ := ((GL.lkm hG).mp (fsN_first hG (b := x9_17) (by omega) (by omega)).2).1
        rw [← er_217] at f1_
        rw [← er_231] at f2_
        refine lv_aload_n hx hb dL_joins_236 rfl (lv_at hl 6 rfl) ?_
        refine lv_aload hx hb dL_joins_237 (lv_at hl 7 rfl) ?_
        refine lv_iload hx hb dL_joins_239 (lv_at hl 1 rfl) ?_
        refine zk_r (zc_S (As := [.ref (ld 0), .ref (ld 1), .int (zi r_217)]) (rest := []) ⟨hx, hb, hml, hown, hts⟩ (ct_L_nightOf l D cI cZ cJ ld L M hG r_217 ⟨by omega, by omega⟩ ⟨by omega, by omega⟩) (va_cwS 3 hts gL_joins_L_nightOf rfl rfl rfl (by decide +kernel) ⟨Nat.le_of_ble_eq_true rfl, Nat.le_of_ble_eq_true rfl⟩) hK hL rfl hl.1 rfl (Nat.le_of_ble_eq_true rfl) dL_joins_241 ⟨(by show _ ≤ (12 : Nat); omega), (by show _ ≤ (240 : Nat); omega)⟩) ?_
        refine zi_top (fun (r_241 : Int) (er_241 : r_241 = nM M r_217) => ?_)
        have fr_241 : (0 : Int) ≤ r_241 ∧ r_241 ≤ 999 := by rw [er_241]; exact GL.nb hG _
        refine lv_aload_n hx hb dL_joins_244 rfl (lv_at hl 6 rfl) ?_
        refine lv_aload hx hb dL_joins_245 (lv_at hl 7 rfl) ?_
        refine lv_iload hx hb dL_joins_247 (lv_at hl 0 rfl) ?_
        refine zk_r (zc_S (As := [.ref (ld 0), .ref (ld 1), .int (zi r_231)]) (rest := [.int (zi r_241)]) ⟨hx, hb, hml, hown, hts⟩ (ct_L_nightOf l D cI cZ cJ ld L M hG r_231 ⟨by omega, by omega⟩ ⟨by omega, by omega⟩) (va_cwS 3 hts gL_joins_L_nightOf rfl rfl rfl (by decide +kernel) ⟨Nat.le_of_ble_eq_true rfl, Nat.le_of_ble_eq_true rfl⟩) hK hL rfl hl.1 rfl (Nat.le_of_ble_eq_true rfl) dL_joins_249 ⟨(by show _ ≤ (12 : Nat); omega), (by show _ ≤ (240 : Nat); omega)⟩) ?_
        refine zi_top (fun (r_249 : Int) (er_249 : r_249 = nM M r_231) => ?_)
        have fr_249 : (0 : Int) ≤ r_249 ∧ r_249 ≤ 999 := by rw [er_249]; exact GL.nb hG _
        have K_286 : ∀ (a9 : Int), ((a9 = 1 ∧ (nM M r_217 < nM M r_231 ∨ (nM M r_217 = nM M r_231 ∧ r_217 < r_231))) ∨ (a9 = 0 ∧ ¬ (nM M r_217 < nM M r_231 ∨ (nM M r_217 = nM M r_231 ∧ r_217 < r_231)))) → (0 ≤ a9 ∧ a9 ≤ 1) → ∀ (ls : Array Slot), lv_has ls 18 [(0, .ref (ad 0)), (1, .int (zi x0)), (2, .int (zi x1)), (3, .ref (ld 0)), (4, .ref (ld 1)), (5, .ref (ld 2)), (6, .ref (ld 3)), (7, .ref (ld 4)), (8, .int (zi x8_6)), (9, .int (zi x9_17)), (10, .int (zi v9)), (11, .int (zi m9)), (12, .int (zi r_217)), (13, .int (zi r_231))] → W p l e rmct_L_joins s m ([.ref (ad 0), .int (zi x0), .int (zi x1), .ref (ld 0), .ref (ld 1), .ref (ld 2), .ref (ld 3), .ref (ld 4)] : List Value).toArray below meth c H locs 3 180 (MQ below (zWb D cI ad ld (fun r S9 L9 => r = 1 ∧ ∃ M' : ZS, GL L9 M' ∧ DK S9 M' ∧ NX M' ∧ M' 17 0 ≤ M 17 0 + 1)) ([.ref (ad 0), .int (zi x0), .int (zi x1), .ref (ld 0), .ref (ld 1), .ref (ld 2), .ref (ld 3), .ref (ld 4)] : List Value).toArray s 12 240 (bA ad ld)) (F0 m 286 ls [.int (zi a9)]) := by
          intro a9 h_a9 h_ab9 ls hl
          refine lv_istore (lv' := [(14, .int (zi a9)), (0, .ref (ad 0)), (1, .int (zi x0)), (2, .int (zi x1)), (3, .ref (ld 0)), (4, .ref (ld 1)), (5, .ref (ld 2)), (6, .ref (ld 3)), (7, .ref (ld 4)), (8, .int (zi x8_6)), (9, .int (zi x9_17)), (10, .int (zi v9)), (11, .int (zi m9)), (12, .int (zi r_217)), (13, .int (zi r_231))]) hx hb dL_joins_286 hl (by decide) rfl (fun ls hl => ?_)
          refine lv_aload hx hb dL_joins_288 (lv_at hl 7 rfl) ?_
          refine zi_iconst hx hb dL_joins_290 ?_
          refine lv_iload hx hb dL_joins_291 (lv_at hl 9 rfl) ?_
          refine zi_imul hx hb dL_joins_293 ?_
          refine zi_iconst hx hb dL_joins_294 ?_
          refine zi_iadd hx hb dL_joins_295 ?_
          refine zi_iald hx hb hK.1 hL 3 0 rfl rfl (by omega) (by omega) (by decide) dL_joins_296 ?_
          refine zi_is (M 14 x8_6) (GL.un hG (j := x8_6) (by omega) (by omega)).1 ?_
          have q_296 := (GL.un hG (j := x8_6) (by omega) (by omega)).2
          have K_322 : ∀ (s9 : Int), ((s9 = 1 ∧ (0 < M 14 x8_6 ∨ (M 14 x9_17 = 0 ∧ (nM M r_217 < nM M r_231 ∨ (nM M r_217 = nM M r_231 ∧ r_217 < r_231))))) ∨ (s9 = 0 ∧ ¬ (0 < M 14 x8_6 ∨ (M 14 x9_17 = 0 ∧ (nM M r_217 < nM M r_231 ∨ (nM M r_217 = nM M r_231 ∧ r_217 < r_231)))))) → (0 ≤ s9 ∧ s9 ≤ 1) → ∀ (ls : Array Slot), lv_has ls 18 [(0, .ref (ad 0)), (1, .int (zi x0)), (2, .int (zi x1)), (3, .ref (ld 0)), (4, .ref (ld 1)), (5, .ref (ld 2)), (6, .ref (ld 3)), (7, .ref (ld 4)), (8, .int (zi x8_6)), (9, .int (zi x9_17)), (10, .int (zi v9)), (11, .int (zi m9)), (12, .int (zi r_217)), (13, .int (zi r_231)), (14, .int (zi a9))] → W p l e rmct_L_joins s m ([.ref (ad 0), .int (zi x0), .int (zi x1), .ref (ld 0), .ref (ld 1), .ref (ld 2), .ref (ld 3), .ref (ld 4)] : List Value).toArray below meth c H locs 3 180 (MQ below (zWb D cI ad ld (fun r S9 L9 => r = 1 ∧ ∃ M' : ZS, GL L9 M' ∧ DK S9 M' ∧ NX M' ∧ M' 17 0 ≤ M 17 0 + 1)) ([.ref (ad 0), .int (zi x0), .int (zi x1), .ref (ld 0), .ref (ld 1), .ref (ld 2), .ref (ld 3), .ref (ld 4)] : List Value).toArray s 12 240 (bA ad ld)) (F0 m 322 ls [.int (zi s9)]) := by
            intro s9 h_s9 h_sb9 ls hl
            refine lv_istore (lv' := [(15, .int (zi s9)), (0, .ref (ad 0)), (1, .int (zi x0)), (2, .int (zi x1)), (3, .ref (ld 0)), (4, .ref (ld 1)), (5, .ref (ld 2)), (6, .ref (ld 3)), (7, .ref (ld 4)), (8, .int (zi x8_6)), (9, .int (zi x9_17)), (10, .int (zi v9)), (11, .int (zi m9)), (12, .int (zi r_217)), (13, .int (zi r_231)), (14, .int (zi a9))]) hx hb dL_joins_322 hl (by decide) rfl (fun ls hl => ?_)
            have hn_ := DK.n hD_T
            refine lv_aload_n hx hb dL_joins_324 rfl (lv_at hl 1 rfl) ?_
            refine zi_iconst hx hb dL_joins_325 ?_
            refine lv_iload hx hb dL_joins_326 (lv_at hl 9 rfl) ?_
            refine lv_iload hx hb dL_joins_328 (lv_at hl 10 rfl) ?_
            refine lc_SW (As := [.ref (ad 0), .int (zi 3), .int (zi x8_6), .int (zi x9_17)]) (rest := []) (A0 := bA ad ld) ⟨hx, hb, hml, hown, hts⟩ (ct_L_asks3 l hst D cI cZ cJ sa ad ld T L M hdis hG hD_T x8_6 x9_17 ⟨by omega, by omega⟩ ⟨by omega, by omega⟩ (by omega)) (vx_cwSW 4 hts gL_joins_L_asks rfl rfl rfl (by decide +kernel) ⟨Nat.le_of_ble_eq_true rfl, Nat.le_of_ble_eq_true rfl⟩) hK hX hQ (fun _ h => h) hS hP hL rfl hl.1 rfl (Nat.le_of_ble_eq_true rfl) dL_joins_330 ⟨(by show _ ≤ (12 : Nat); omega), (by show _ ≤ (240 : Nat); omega)⟩ (fun r_330 S_330 L_330 H locs hp_330 _ _ hP hL hS => ?_)
            obtain ⟨eL_330, hB_330⟩ := ask_join hD_T hG hN (by omega) (by omega) (by omega) (by omega) (by omega) hp_330
            rw [eL_330] at hL
            refine lv_istore (lv' := [(16, .int (zi r_330)), (15, .int (zi s9)), (0, .ref (ad 0)), (1, .int (zi x0)), (2, .int (zi x1)), (3, .ref (ld 0)), (4, .ref (ld 1)), (5, .ref (ld 2)), (6, .ref (ld 3)), (7, .ref (ld 4)), (8, .int (zi x8_6)), (9, .int (zi x9_17)), (10, .int (zi v9)), (11, .int (zi m9)), (12, .int (zi r_217)), (13, .int (zi r_231)), (14, .int (zi a9))]) hx hb dL_joins_333 hl (by decide) rfl (fun ls hl => ?_)
            refine lv_iload hx hb dL_joins_335 (lv_at hl 13 rfl) ?_
            refine zi_if_ne (tgt := 353) hx hb ⟨by omega, by omega⟩ dL_joins_337 (by decide) (fun c_337 => ?_) (fun c_337 => ?_)
            · obtain ⟨hb1, er_330, hJ_330⟩ := hB_330.resolve_right (fun h9 => h9.1 (h_m9.resolve_right (by omega)).2)
              have cj_ := (cj_law hD hG (b := x8_6) (o := x9_17) (by omega) (by omega) (by omega) (by omega)).mp hb1
              have sl_ := str_law (f1 := r_217) (f2 := r_231) (GL.un hG (j := x8_6) (by omega) (by omega)).2.1 (GL.un hG (j := x9_17) (by omega) (by omega)).2.1 cj_.2.2.2.1
              rw [← er_217, ← er_231] at er_330
              refine lv_aload hx hb dL_joins_353 (lv_at hl 9 rfl) ?_
              refine zi_iconst hx hb dL_joins_355 ?_
              refine lv_dup2_11 hx hb dL_joins_356 rfl rfl ?_
              refine zi_iald hx hb hK.1 hL 4 0 rfl rfl (by omega) (by omega) (by decide) dL_joins_357 ?_
              refine zi_is (M 17 0) (GL.c hG).2.2.1 ?_
              have q_357 := GL.c hG
              refine zi_iconst hx hb dL_joins_358 ?_
              refine zi_iadd hx hb dL_joins_359 ?_
              refine zb_iast hx hb hK hdis (fun _ h => h) hP hL hS 4 rfl (fun _ => rfl) (by omega) (by omega) (by decide) dL_joins_360 (fun H locs hP hL hS => ?_)
              have hL : va_P D vwCl (lW cI ld (su L 4 (up (L 4) 4 ((M 17 0) + 1)))) H := hL
              refine lv_iload hx hb dL_joins_361 (lv_at hl 1 rfl) ?_
              refine zi_if_eq (tgt := 371) hx hb ⟨by omega, by omega⟩ dL_joins_363 (by decide) (fun c_363 => ?_) (fun c_363 => ?_)
              · have st_ := fun h9 => (h_s9.resolve_left (by omega)).2 (sl_.mp h9)
                rw [cif_f st_] at er_330
                obtain ⟨hD_330, hG_330, hN_330⟩ := hJ_330 x8_6 x9_17 er_330 (Or.inr ⟨rfl, rfl⟩)
                have q9_ : (mJoin M x8_6 x9_17) 11 0 = M 11 0 := rfl
                refine lv_iload hx hb dL_joins_371 (lv_at hl 10 rfl) ?_
                refine lv_istore (lv' := [(17, .int (zi x8_6)), (16, .int (zi r_330)), (15, .int (zi s9)), (0, .ref (ad 0)), (1, .int (zi x0)), (2, .int (zi x1)), (3, .ref (ld 0)), (4, .ref (ld 1)), (5, .ref (ld 2)), (6, .ref (ld 3)), (7, .ref (ld 4)), (8, .int (zi x8_6)), (9, .int (zi x9_17)), (10, .int (zi v9)), (11, .int (zi m9)), (12, .int (zi r_217)), (13, .int (zi r_231)), (14, .int (zi a9))]) hx hb dL_joins_373 hl (by decide) rfl (fun ls hl => ?_)
                refine lv_aload hx hb dL_joins_375 (lv_at hl 9 rfl) ?_
                refine zi_iconst hx hb dL_joins_377 ?_
                refine lv_iload hx hb dL_joins_378 (lv_at hl 0 rfl) ?_
                refine zi_imul hx hb dL_joins_380 ?_
                refine lv_iload hx hb dL_joins_381 (lv_at hl 2 rfl) ?_
                refine zi_if_eq (tgt := 391) hx hb ⟨by omega, by omega⟩ dL_joins_383 (by decide) (fun c_383 => ?_) (fun c_383 => ?_)
                · refine lv_iload hx hb dL_joins_391 (lv_at hl 12 rfl) ?_
                  refine zi_iconst hx hb dL_joins_393 ?_
                  refine zi_iadd hx hb dL_joins_394 ?_
                  refine zb_iast hx hb hK hdis (fun _ h => h) hP hL hS 3 rfl (fun _ => rfl) (by omega) (by omega) (by decide) dL_joins_395 (fun H locs hP hL hS => ?_)
                  have hL : va_P D vwCl (lW cI ld (su (su L 4 (up (L 4) 4 ((M 17 0) + 1))) 3 (up (L 3) (5 * x8_6) (x9_17 + 1)))) H := hL
                  refine lv_aload hx hb dL_joins_396 (lv_at hl 9 rfl) ?_
                  refine zi_iconst hx hb dL_joins_398 ?_
                  refine lv_iload hx hb dL_joins_399 (lv_at hl 0 rfl) ?_
                  refine zi_imul hx hb dL_joins_401 ?_
                  refine zi_iconst hx hb dL_joins_402 ?_
                  refine zi_iadd hx hb dL_joins_403 ?_
                  refine lv_aload hx hb dL_joins_404 (lv_at hl 10 rfl) ?_
                  refine zi_iconst hx hb dL_joins_406 ?_
                  refine zi_iald hx hb hK.1 hL 4 0 rfl rfl (by omega) (by omega) (by decide) dL_joins_407 ?_
                  refine zi_is (M 17 0 + 1) ((congrFun (su_n _ _ (by decide)) _).trans (su_up _ _ _ _ _)) ?_
                  refine zb_iast hx hb hK hdis (fun _ h => h) hP hL hS 3 rfl (fun _ => rfl) (by omega) (by omega) (by decide) dL_joins_408 (fun H locs hP hL hS => ?_)
                  have hL : va_P D vwCl (lW cI ld (su (su (su L 4 (up (L 4) 4 ((M 17 0) + 1))) 3 (up (L 3) (5 * x8_6) (x9_17 + 1))) 3 (up ((up (L 3) (5 * x8_6) (x9_17 + 1))) ((5 * x8_6) + 1) (M 17 0 + 1)))) H := hL
                  refine lv_iload hx hb dL_joins_409 (lv_at hl 1 rfl) ?_
                  refine lv_iload hx hb dL_joins_411 (lv_at hl 2 rfl) ?_
                  refine zi_if_eq (tgt := 421) hx hb ⟨by omega, by omega⟩ dL_joins_413 (by decide) (fun c_413 => ?_) (fun c_413 => ?_)
                  · refine lv_iload hx hb dL_joins_421 (lv_at hl 12 rfl) ?_
                    refine zi_icmp_ne (tgt := 442) hx hb ⟨by omega, by omega⟩ ⟨by omega, by omega⟩ dL_joins_423 (by decide) (fun c_423 => ?_) (fun c_423 => ?_)
                    · exact absurd c_423 (by omega)
                    · refine lv_aload_n hx hb dL_joins_426 rfl (lv_at hl 3 rfl) ?_
                      refine lv_iload hx hb dL_joins_427 (lv_at hl 0 rfl) ?_
                      refine zi_iconst hx hb dL_joins_429 ?_
                      refine lc_pub (ld := ld) (L0 := (su (su (su L 4 (up (L 4) 4 ((M 17 0) + 1))) 3 (up (L 3) (5 * x8_6) (x9_17 + 1))) 3 (up ((up (L 3) (5 * x8_6) (x9_17 + 1))) ((5 * x8_6) + 1) (M 17 0 + 1)))) (As := [.int (zi x8_6), .int (zi 2)]) (rest := []) (A0 := bA ad ld) ⟨hx, hb, hml, hown, hts⟩ (ct_X7_ofBody l hst D cI cZ cJ sa ad S_330 hD_330.1 hdis.1 x8_6 2 ⟨by omega, by omega⟩ ⟨by decide, by decide⟩) (cwV 2 hts gL_joins_X7_ofBody rfl rfl rfl (by decide +kernel) ⟨Nat.le_of_ble_eq_true rfl, Nat.le_of_ble_eq_true rfl⟩) rfl hK hX hdis (fun _ h => h) hS hP hL (nox_ofBody hD_330 (by omega) (by omega) ⟨by omega, by omega⟩) rfl hl.1 rfl (Nat.le_of_ble_eq_true rfl) dL_joins_430 ⟨(by show _ ≤ (12 : Nat); omega), (by show _ ≤ (240 : Nat); omega)⟩ (fun r_430 S_430 H locs hp_430 _ _ hP hL hS => ?_)
                      obtain ⟨er_430, hD_430⟩ := q_ofB2 hD_330 (by omega) (by omega) hp_430
                      rw [mJoin_w] at er_430
                      refine lv_iload hx hb dL_joins_433 (lv_at hl 1 rfl) ?_
                      refine zi_icmp_ne (tgt := 442) hx hb ⟨by omega, by omega⟩ ⟨by omega, by omega⟩ dL_joins_435 (by decide) (fun c_435 => ?_) (fun c_435 => ?_)
                      · exact absurd c_435 (by omega)
                      · refine zi_iconst hx hb dL_joins_438 ?_
                        refine lv_goto (tgt := 443) hx hb dL_joins_439 (by decide) ?_
                        exact lr_wz (S1 := S_430) (L1 := (su (su (su L 4 (up (L 4) 4 ((M 17 0) + 1))) 3 (up (L 3) (5 * x8_6) (x9_17 + 1))) 3 (up ((up (L 3) (5 * x8_6) (x9_17 + 1))) ((5 * x8_6) + 1) (M 17 0 + 1)))) hx hb hr hlocks dL_joins_443 (Or.inr rfl) hP hL hS ⟨by omega, by omega⟩ (by exact ⟨rfl, mJoin M x8_6 x9_17, hG_330, hD_430, hN_330, by show M 17 0 + 1 ≤ M 17 0 + 1; omega⟩)
                  · exact absurd c_413 (by omega)
                · exact absurd c_383 (by omega)
              · have st_ := sl_.mpr (h_s9.resolve_right (by omega)).2
                rw [cif_t st_] at er_330
                obtain ⟨hD_330, hG_330, hN_330⟩ := hJ_330 x9_17 x8_6 er_330 (Or.inl ⟨rfl, rfl⟩)
                have q9_ : (mJoin M x9_17 x8_6) 11 0 = M 11 0 := rfl
                refine lv_iload hx hb dL_joins_366 (lv_at hl 11 rfl) ?_
                refine lv_goto (tgt := 373) hx hb dL_joins_368 (by decide) ?_
                refine lv_istore (lv' := [(17, .int (zi x9_17)), (16, .int (zi r_330)), (15, .int (zi s9)), (0, .ref (ad 0)), (1, .int (zi x0)), (2, .int (zi x1)), (3, .ref (ld 0)), (4, .ref (ld 1)), (5, .ref (ld 2)), (6, .ref (ld 3)), (7, .ref (ld 4)), (8, .int (zi x8_6)), (9, .int (zi x9_17)), (10, .int (zi v9)), (11, .int (zi m9)), (12, .int (zi r_217)), (13, .int (zi r_231)), (14, .int (zi a9))]) hx hb dL_joins_373 hl (by decide) rfl (fun ls hl => ?_)
                refine lv_aload hx hb dL_joins_375 (lv_at hl 9 rfl) ?_
                refine zi_iconst hx hb dL_joins_377 ?_
                refine lv_iload hx hb dL_joins_378 (lv_at hl 0 rfl) ?_
                refine zi_imul hx hb dL_joins_380 ?_
                refine lv_iload hx hb dL_joins_381 (lv_at hl 2 rfl) ?_
                refine zi_if_eq (tgt := 391) hx hb ⟨by omega, by omega⟩ dL_joins_383 (by decide) (fun c_383 => ?_) (fun c_383 => ?_)
                · exact absurd c_383 (by omega)
                · refine lv_iload hx hb dL_joins_386 (lv_at hl 11 rfl) ?_
                  refine lv_goto (tgt := 393) hx hb dL_joins_388 (by decide) ?_
                  refine zi_iconst hx hb dL_joins_393 ?_
                  refine zi_iadd hx hb dL_joins_394 ?_
                  refine zb_iast hx hb hK hdis (fun _ h => h) hP hL hS 3 rfl (fun _ => rfl) (by omega) (by omega) (by decide) dL_joins_395 (fun H locs hP hL hS => ?_)
                  have hL : va_P D vwCl (lW cI ld (su (su L 4 (up (L 4) 4 ((M 17 0) + 1))) 3 (up (L 3) (5 * x9_17) (x8_6 + 1)))) H := hL
                  refine lv_aload hx hb dL_joins_396 (lv_at hl 9 rfl) ?_
                  refine zi_iconst hx hb dL_joins_398 ?_
                  refine lv_iload hx hb dL_joins_399 (lv_at hl 0 rfl) ?_
                  refine zi_imul hx hb dL_joins_401 ?_
                  refine zi_iconst hx hb dL_joins_402 ?_
                  refine zi_iadd hx hb dL_joins_403 ?_
                  refine lv_aload hx hb dL_joins_404 (lv_at hl 10 rfl) ?_
                  refine zi_iconst hx hb dL_joins_406 ?_
                  refine zi_iald hx hb hK.1 hL 4 0 rfl rfl (by omega) (by omega) (by decide) dL_joins_407 ?_
                  refine zi_is (M 17 0 + 1) ((congrFun (su_n _ _ (by decide)) _).trans (su_up _ _ _ _ _)) ?_
                  refine zb_iast hx hb hK hdis (fun _ h => h) hP hL hS 3 rfl (fun _ => rfl) (by omega) (by omega) (by decide) dL_joins_408 (fun H locs hP hL hS => ?_)
                  have hL : va_P D vwCl (lW cI ld (su (su (su L 4 (up (L 4) 4 ((M 17 0) + 1))) 3 (up (L 3) (5 * x9_17) (x8_6 + 1))) 3 (up ((up (L 3) (5 * x9_17) (x8_6 + 1))) ((5 * x9_17) + 1) (M 17 0 + 1)))) H := hL
                  refine lv_iload hx hb dL_joins_409 (lv_at hl 1 rfl) ?_
                  refine lv_iload hx hb dL_joins_411 (lv_at hl 2 rfl) ?_
                  refine zi_if_eq (tgt := 421) hx hb ⟨by omega, by omega⟩ dL_joins_413 (by decide) (fun c_413 => ?_) (fun c_413 => ?_)
                  · exact absurd c_413 (by omega)
                  · refine lv_iload hx hb dL_joins_416 (lv_at hl 11 rfl) ?_
                    refine lv_goto (tgt := 423) hx hb dL_joins_418 (by decide) ?_
                    refine zi_icmp_ne (tgt := 442) hx hb ⟨by omega, by omega⟩ ⟨by omega, by omega⟩ dL_joins_423 (by decide) (fun c_423 => ?_) (fun c_423 => ?_)
                    · exact absurd c_423 (by omega)
                    · refine lv_aload_n hx hb dL_joins_426 rfl (lv_at hl 3 rfl) ?_
                      refine lv_iload hx hb dL_joins_427 (lv_at hl 0 rfl) ?_
                      refine zi_iconst hx hb dL_joins_429 ?_
                      refine lc_pub (ld := ld) (L0 := (su (su (su L 4 (up (L 4) 4 ((M 17 0) + 1))) 3 (up (L 3) (5 * x9_17) (x8_6 + 1))) 3 (up ((up (L 3) (5 * x9_17) (x8_6 + 1))) ((5 * x9_17) + 1) (M 17 0 + 1)))) (As := [.int (zi x9_17), .int (zi 2)]) (rest := []) (A0 := bA ad ld) ⟨hx, hb, hml, hown, hts⟩ (ct_X7_ofBody l hst D cI cZ cJ sa ad S_330 hD_330.1 hdis.1 x9_17 2 ⟨by omega, by omega⟩ ⟨by decide, by decide⟩) (cwV 2 hts gL_joins_X7_ofBody rfl rfl rfl (by decide +kernel) ⟨Nat.le_of_ble_eq_true rfl, Nat.le_of_ble_eq_true rfl⟩) rfl hK hX hdis (fun _ h => h) hS hP hL (nox_ofBody hD_330 (by omega) (by omega) ⟨by omega, by omega⟩) rfl hl.1 rfl (Nat.le_of_ble_eq_true rfl) dL_joins_430 ⟨(by show _ ≤ (12 : Nat); omega), (by show _ ≤ (240 : Nat); omega)⟩ (fun r_430 S_430 H locs hp_430 _ _ hP hL hS => ?_)
                      obtain ⟨er_430, hD_430⟩ := q_ofB2 hD_330 (by omega) (by omega) hp_430
                      rw [mJoin_w] at er_430
                      refine lv_iload hx hb dL_joins_433 (lv_at hl 1 rfl) ?_
                      refine zi_icmp_ne (tgt := 442) hx hb ⟨by omega, by omega⟩ ⟨by omega, by omega⟩ dL_joins_435 (by decide) (fun c_435 => ?_) (fun c_435 => ?_)
                      · exact absurd c_435 (by omega)
                      · refine zi_iconst hx hb dL_joins_438 ?_
                        refine lv_goto (tgt := 443) hx hb dL_joins_439 (by decide) ?_
                        exact lr_wz (S1 := S_430) (L1 := (su (su (su L 4 (up (L 4) 4 ((M 17 0) + 1))) 3 (up (L 3) (5 * x9_17) (x8_6 + 1))) 3 (up ((up (L 3) (5 * x9_17) (x8_6 + 1))) ((5 * x9_17) + 1) (M 17 0 + 1)))) hx hb hr hlocks dL_joins_443 (Or.inr rfl) hP hL hS ⟨by omega, by omega⟩ (by exact ⟨rfl, mJoin M x9_17 x8_6, hG_330, hD_430, hN_330, by show M 17 0 + 1 ≤ M 17 0 + 1; omega⟩)
            · obtain ⟨hb1, er_330, hD_330⟩ := hB_330.resolve_left (fun h9 => (h_m9.resolve_left (by omega)).2 h9.1)
              refine lv_iload hx hb dL_joins_340 (lv_at hl 0 rfl) ?_
              refine lv_ldc (v := zi (-70008)) hx hb hown (hts _ ci41_L_joins) dL_joins_342 ?_
              refine zi_icmp_ne (tgt := 351) hx hb ⟨by omega, by omega⟩ ⟨by decide, by decide⟩ dL_joins_344 (by decide) (fun c_344 => ?_) (fun c_344 => ?_)
              · exact absurd c_344 (by omega)
              · refine zi_iconst hx hb dL_joins_347 ?_
                refine lv_goto (tgt := 352) hx hb dL_joins_348 (by decide) ?_
                exact lr_wz (S1 := S_330) (L1 := L) hx hb hr hlocks dL_joins_352 (Or.inr rfl) hP hL hS ⟨by omega, by omega⟩ (by exact ⟨rfl, M, hG, hD_330, hN, by omega⟩)
          refine zi_if_gt (tgt := 317) hx hb ⟨by omega, by omega⟩ dL_joins_297 (by decide) (fun c_297 => ?_) (fun c_297 => ?_)
          · refine zi_iconst hx hb dL_joins_317 ?_
            refine lv_goto (tgt := 322) hx hb dL_joins_318 (by decide) ?_
            exact K_322 1 (by first | omega | assumption) (by first | omega | assumption) _ (lv_sub hl [1, 2, 3, 4, 5, 6, 7, 8, 9, 10, 11, 12, 13, 14, 0] rfl)
          · refine lv_aload hx hb dL_joins_300 (lv_at hl 7 rfl) ?_
            refine zi_iconst hx hb dL_joins_302 ?_
            refine lv_iload hx hb dL_joins_303 (lv_at hl 10 rfl) ?_
            refine zi_imul hx hb dL_joins_305 ?_
            refine zi_iconst hx hb dL_joins_306 ?_
            refine zi_iadd hx hb dL_joins_307 ?_
            refine zi_iald hx hb hK.1 hL 3 0 rfl rfl (by omega) (by omega) (by decide) dL_joins_308 ?_
            refine zi_is (M 14 x9_17) (GL.un hG (j := x9_17) (by omega) (by omega)).1 ?_
            have q_308 := (GL.un hG (j := x9_17) (by omega) (by omega)).2
            refine zi_if_ne (tgt := 321) hx hb ⟨by omega, by omega⟩ dL_joins_309 (by decide) (fun c_309 => ?_) (fun c_309 => ?_)
            · refine zi_iconst hx hb dL_joins_321 ?_
              exact K_322 0 (by first | omega | assumption) (by first | omega | assumption) _ (lv_sub hl [1, 2, 3, 4, 5, 6, 7, 8, 9, 10, 11, 12, 13, 14, 0] rfl)
            · refine lv_iload hx hb dL_joins_312 (lv_at hl 0 rfl) ?_
              refine zi_if_eq (tgt := 321) hx hb ⟨by omega, by omega⟩ dL_joins_314 (by decide) (fun c_314 => ?_) (fun c_314 => ?_)
              · refine zi_iconst hx hb dL_joins_321 ?_
                exact K_322 0 (by first | omega | assumption) (by first | omega | assumption) _ (lv_sub hl [1, 2, 3, 4, 5, 6, 7, 8, 9, 10, 11, 12, 13, 14, 0] rfl)
              · refine zi_iconst hx hb dL_joins_317 ?_
                refine lv_goto (tgt := 322) hx hb dL_joins_318 (by decide) ?_
                exact K_322 1 (by first | omega | assumption) (by first | omega | assumption) _ (lv_sub hl [1, 2, 3, 4, 5, 6, 7, 8, 9, 10, 11, 12, 13, 14, 0] rfl)
        refine zi_icmp_lt (tgt := 281) hx hb ⟨by omega, by omega⟩ ⟨by omega, by omega⟩ dL_joins_252 (by decide) (fun c_252 => ?_) (fun c_252 => ?_)
        · refine zi_iconst hx hb dL_joins_281 ?_
          refine lv_goto (tgt := 286) hx hb dL_joins_282 (by decide) ?_
          exact K_286 1 (by first | omega | assumption) (by first | omega | assumption) _ (lv_sub hl [3, 4, 5, 6, 7, 8, 9, 10, 11, 12, 13, 2, 1, 0] rfl)
        · refine lv_aload_n hx hb dL_joins_255 rfl (lv_at hl 6 rfl) ?_
          refine lv_aload hx hb dL_joins_256 (lv_at hl 7 rfl) ?_
          refine lv_iload hx hb dL_joins_258 (lv_at hl 1 rfl) ?_
          refine zk_r (zc_S (As := [.ref (ld 0), .ref (ld 1), .int (zi r_217)]) (rest := []) ⟨hx, hb, hml, hown, hts⟩ (ct_L_nightOf l D cI cZ cJ ld L M hG r_217 ⟨by omega, by omega⟩ ⟨by omega, by omega⟩) (va_cwS 3 hts gL_joins_L_nightOf rfl rfl rfl (by decide +kernel) ⟨Nat.le_of_ble_eq_true rfl, Nat.le_of_ble_eq_true rfl⟩) hK hL rfl hl.1 rfl (Nat.le_of_ble_eq_true rfl) dL_joins_260 ⟨(by show _ ≤ (12 : Nat); omega), (by show _ ≤ (240 : Nat); omega)⟩) ?_
          refine zi_top (fun (r_260 : Int) (er_260 : r_260 = nM M r_217) => ?_)
          have fr_260 : (0 : Int) ≤ r_260 ∧ r_260 ≤ 999 := by rw [er_260]; exact GL.nb hG _
          refine lv_aload_n hx hb dL_joins_263 rfl (lv_at hl 6 rfl) ?_
          refine lv_aload hx hb dL_joins_264 (lv_at hl 7 rfl) ?_
          refine lv_iload hx hb dL_joins_266 (lv_at hl 0 rfl) ?_
          refine zk_r (zc_S (As := [.ref (ld 0), .ref (ld 1), .int (zi r_231)]) (rest := [.int (zi r_260)]) ⟨hx, hb, hml, hown, hts⟩ (ct_L_nightOf l D cI cZ cJ ld L M hG r_231 ⟨by omega, by omega⟩ ⟨by omega, by omega⟩) (va_cwS 3 hts gL_joins_L_nightOf rfl rfl rfl (by decide +kernel) ⟨Nat.le_of_ble_eq_true rfl, Nat.le_of_ble_eq_true rfl⟩) hK hL rfl hl.1 rfl (Nat.le_of_ble_eq_true rfl) dL_joins_268 ⟨(by show _ ≤ (12 : Nat); omega), (by show _ ≤ (240 : Nat); omega)⟩) ?_
          refine zi_top (fun (r_268 : Int) (er_268 : r_268 = nM M r_231) => ?_)
          have fr_268 : (0 : Int) ≤ r_268 ∧ r_268 ≤ 999 := by rw [er_268]; exact GL.nb hG _
          refine zi_icmp_ne (tgt := 285) hx hb ⟨by omega, by omega⟩ ⟨by omega, by omega⟩ dL_joins_271 (by decide) (fun c_271 => ?_) (fun c_271 => ?_)
          · refine zi_iconst hx hb dL_joins_285 ?_
            exact K_286 0 (by first | omega | assumption) (by first | omega | assumption) _ (lv_sub hl [3, 4, 5, 6, 7, 8, 9, 10, 11, 12, 13, 2, 1, 0] rfl)
          · refine lv_iload hx hb dL_joins_274 (lv_at hl 1 rfl) ?_
            refine lv_iload hx hb dL_joins_276 (lv_at hl 0 rfl) ?_
            refine zi_icmp_ge (tgt := 285) hx hb ⟨by omega, by omega⟩ ⟨by omega, by omega⟩ dL_joins_278 (by decide) (fun c_278 => ?_) (fun c_278 => ?_)
            · refine zi_iconst hx hb dL_joins_285 ?_
              exact K_286 0 (by first | omega | assumption) (by first | omega | assumption) _ (lv_sub hl [3, 4, 5, 6, 7, 8, 9, 10, 11, 12, 13, 2, 1, 0] rfl)
            · refine zi_iconst hx hb dL_joins_281 ?_
              refine lv_goto (tgt := 286) hx hb dL_joins_282 (by decide) ?_
              exact K_286 1 (by first | omega | assumption) (by first | omega | assumption) _ (lv_sub hl [3, 4, 5, 6, 7, 8, 9, 10, 11, 12, 13, 2, 1, 0] rfl)
      refine zi_icmp_eq (tgt := 205) hx hb ⟨by omega, by omega⟩ ⟨by omega, by omega⟩ dL_joins_138 (by decide) (fun c_138 => ?_) (fun c_138 => ?_)
      · refine zi_iconst hx hb dL_joins_205 ?_
        exact lw_wd (by omega) (by omega) (K_206 0 S (Or.inr ⟨rfl, fun h9 => by have h8 := (cj_law hD hG (b := x8_6) (o := x9_17) (by omega) (by omega) (by omega) (by omega)).mp h9; omega⟩) (by first | omega | assumption) hD _ _ hP hL hS _ (lv_sub hl [1, 2, 3, 4, 5, 6, 7, 8, 9, 10, 0] rfl))
      · refine lv_aload hx hb dL_joins_141 (lv_at hl 7 rfl) ?_
        refine zi_iconst hx hb dL_joins_143 ?_
        refine lv_iload hx hb dL_joins_144 (lv_at hl 9 rfl) ?_
        refine zi_imul hx hb dL_joins_146 ?_
        refine zi_iald hx hb hK.1 hL 3 0 rfl rfl (by omega) (by omega) (by decide) dL_joins_147 ?_
        refine zi_is (M 12 x8_6 + 1) (GL.u hG (j := x8_6) (by omega) (by omega)).1 ?_
        have q_147 := (GL.u hG (j := x8_6) (by omega) (by omega)).2
        refine zi_if_ne (tgt := 205) hx hb ⟨by omega, by omega⟩ dL_joins_148 (by decide) (fun c_148 => ?_) (fun c_148 => ?_)
        · refine zi_iconst hx hb dL_joins_205 ?_
          exact lw_wd (by omega) (by omega) (K_206 0 S (Or.inr ⟨rfl, fun h9 => by have h8 := (cj_law hD hG (b := x8_6) (o := x9_17) (by omega) (by omega) (by omega) (by omega)).mp h9; omega⟩) (by first | omega | assumption) hD _ _ hP hL hS _ (lv_sub hl [1, 2, 3, 4, 5, 6, 7, 8, 9, 10, 0] rfl))
        · refine lv_aload hx hb dL_joins_151 (lv_at hl 7 rfl) ?_
          refine zi_iconst hx hb dL_joins_153 ?_
          refine lv_iload hx hb dL_joins_154 (lv_at hl 10 rfl) ?_
          refine zi_imul hx hb dL_joins_156 ?_
          refine zi_iald hx hb hK.1 hL 3 0 rfl rfl (by omega) (by omega) (by decide) dL_joins_157 ?_
          refine zi_is (M 12 x9_17 + 1) (GL.u hG (j := x9_17) (by omega) (by omega)).1 ?_
          have q_157 := (GL.u hG (j := x9_17) (by omega) (by omega)).2
          refine zi_if_ne (tgt := 205) hx hb ⟨by omega, by omega⟩ dL_joins_158 (by decide) (fun c_158 => ?_) (fun c_158 => ?_)
          · refine zi_iconst hx hb dL_joins_205 ?_
            exact lw_wd (by omega) (by omega) (K_206 0 S (Or.inr ⟨rfl, fun h9 => by have h8 := (cj_law hD hG (b := x8_6) (o := x9_17) (by omega) (by omega) (by omega) (by omega)).mp h9; omega⟩) (by first | omega | assumption) hD _ _ hP hL hS _ (lv_sub hl [1, 2, 3, 4, 5, 6, 7, 8, 9, 10, 0] rfl))
          · refine lv_iload hx hb dL_joins_161 (lv_at hl 0 rfl) ?_
            refine zi_if_ne (tgt := 205) hx hb ⟨by omega, by omega⟩ dL_joins_163 (by decide) (fun c_163 => ?_) (fun c_163 => ?_)
            · refine zi_iconst hx hb dL_joins_205 ?_
              exact lw_wd (by omega) (by omega) (K_206 0 S (Or.inr ⟨rfl, fun h9 => by have h8 := (cj_law hD hG (b := x8_6) (o := x9_17) (by omega) (by omega) (by omega) (by omega)).mp h9; omega⟩) (by first | omega | assumption) hD _ _ hP hL hS _ (lv_sub hl [1, 2, 3, 4, 5, 6, 7, 8, 9, 10, 0] rfl))
            · refine lv_aload_n hx hb dL_joins_166 rfl (lv_at hl 4 rfl) ?_
              refine lv_aload hx hb dL_joins_167 (lv_at hl 7 rfl) ?_
              refine lv_aload hx hb dL_joins_169 (lv_at hl 8 rfl) ?_
              refine lv_iload hx hb dL_joins_171 (lv_at hl 9 rfl) ?_
              refine lv_iload hx hb dL_joins_173 (lv_at hl 10 rfl) ?_
              refine zk_r (zc_S (As := [.ref (ld 0), .ref (ld 3), .ref (ld 4), .int (zi x8_6), .int (zi x9_17)]) (rest := []) ⟨hx, hb, hml, hown, hts⟩ (ct_L_share l D cI cZ cJ ld L M hG x8_6 x9_17 ⟨by omega, by omega⟩ ⟨by omega, by omega⟩) (va_cwS 5 hts gL_joins_L_share rfl rfl rfl (by decide +kernel) ⟨Nat.le_of_ble_eq_true rfl, Nat.le_of_ble_eq_true rfl⟩) hK hL rfl hl.1 rfl (Nat.le_of_ble_eq_true rfl) dL_joins_175 ⟨(by show _ ≤ (12 : Nat); omega), (by show _ ≤ (240 : Nat); omega)⟩) ?_
              refine zi_top (fun (r_175 : Int) (er_175 : r_175 = b2 (shN M x8_6 x9_17)) => ?_)
              have fr_175 : (0 : Int) ≤ r_175 ∧ r_175 ≤ 1 := by rw [er_175]; exact b2_b
              refine zi_if_ne (tgt := 205) hx hb ⟨by omega, by omega⟩ dL_joins_178 (by decide) (fun c_178 => ?_) (fun c_178 => ?_)
              · refine zi_iconst hx hb dL_joins_205 ?_
                exact lw_wd (by omega) (by omega) (K_206 0 S (Or.inr ⟨rfl, fun h9 => ((cj_law hD hG (b := x8_6) (o := x9_17) (by omega) (by omega) (by omega) (by omega)).mp h9).2.2.2.2.1 (b2_1 er_175 c_178)⟩) (by first | omega | assumption) hD _ _ hP hL hS _ (lv_sub hl [1, 2, 3, 4, 5, 6, 7, 8, 9, 10, 0] rfl))
              · refine lv_aload_n hx hb dL_joins_181 rfl (lv_at hl 4 rfl) ?_
                refine lv_aload hx hb dL_joins_182 (lv_at hl 5 rfl) ?_
                refine lv_aload hx hb dL_joins_184 (lv_at hl 6 rfl) ?_
                refine lv_aload hx hb dL_joins_186 (lv_at hl 7 rfl) ?_
                refine lv_aload hx hb dL_joins_188 (lv_at hl 8 rfl) ?_
                refine lv_iload hx hb dL_joins_190 (lv_at hl 9 rfl) ?_
                refine lv_iload hx hb dL_joins_192 (lv_at hl 10 rfl) ?_
                refine zi_iconst hx hb dL_joins_194 ?_
                refine lc_N (As := [.ref (ld 0), .ref (ld 1), .ref (ld 2), .ref (ld 3), .ref (ld 4), .int (zi x8_6), .int (zi x9_17), .int (zi (-1))]) (rest := []) (A0 := bA ad ld) ⟨hx, hb, hml, hown, hts⟩ (ct_L_orbits l D cI cZ cJ ld L M hG x8_6 x9_17 (-1) ⟨by omega, by omega⟩ ⟨by omega, by omega⟩ ⟨by decide, by decide⟩ (lk_n1 hG (by omega) (by omega)).1) (va_cwS 8 hts gL_joins_L_orbits rfl rfl rfl (by decide +kernel) ⟨Nat.le_of_ble_eq_true rfl, Nat.le_of_ble_eq_true rfl⟩) ⟨zP_blind, fun U hU hW => ⟨rfl, by rw [hU]; exact hL, hK.warm hW⟩⟩ hS rfl hl.1 rfl (Nat.le_of_ble_eq_true rfl) dL_joins_195 ⟨(by show _ ≤ (12 : Nat); omega), (by show _ ≤ (240 : Nat); omega)⟩ (fun r_195 H locs er_195 _ hk_195 hS => ?_)
                have er_195 : r_195 = orN M x8_6 x9_17 (-1) := er_195
                have hP := hP.kept (fun k q hq => hk_195 q.1 (vx_lt hP hq))
                have hL := hL.kept (fun k q hq => hk_195 q.1 (vx_lt hL hq))
                have or_ := orN_b (E9.of hG.2.1) (lk_n1 hG (b := x8_6) (o := x9_17) (by omega) (by omega)).2
                rw [← er_195] at or_
                refine zi_if_le (tgt := 205) hx hb ⟨by omega, by omega⟩ dL_joins_198 (by decide) (fun c_198 => ?_) (fun c_198 => ?_)
                · refine zi_iconst hx hb dL_joins_205 ?_
                  exact lw_wd (by omega) (by omega) (K_206 0 S (Or.inr ⟨rfl, fun h9 => by have h8 := ((cj_law hD hG (b := x8_6) (o := x9_17) (by omega) (by omega) (by omega) (by omega)).mp h9).2.2.2.2.2; rw [← er_195] at h8; omega⟩) (by first | omega | assumption) hD _ _ hP hL hS _ (lv_sub hl [1, 2, 3, 4, 5, 6, 7, 8, 9, 10, 0] rfl))
                · refine zi_iconst hx hb dL_joins_201 ?_
                  refine lv_goto (tgt := 206) hx hb dL_joins_202 (by decide) ?_
                  exact lw_wd (by omega) (by omega) (K_206 1 S (Or.inl ⟨rfl, (cj_law hD hG (b := x8_6) (o := x9_17) (by omega) (by omega) (by omega) (by omega)).mpr ⟨by omega, by omega, by omega, by omega, b2_0 er_175 (by omega), by rw [← er_195]; omega⟩⟩) (by first | omega | assumption) hD _ _ hP hL hS _ (lv_sub hl [1, 2, 3, 4, 5, 6, 7, 8, 9, 10, 0] rfl))
    refine zi_if_le (tgt := 131) hx hb ⟨by omega, by omega⟩ dL_joins_112 (by decide) (fun c_112 => ?_) (fun c_112 => ?_)
    · refine zi_iconst hx hb dL_joins_131 ?_
      exact K_132 0 (by first | omega | assumption) (by first | omega | assumption) _ (lv_sub hl [2, 3, 4, 5, 6, 7, 8, 9, 1, 0] rfl)
    · refine lv_aload hx hb dL_joins_115 (lv_at hl 8 rfl) ?_
      refine zi_iconst hx hb dL_joins_117 ?_
      refine lv_iload hx hb dL_joins_118 (lv_at hl 0 rfl) ?_
      refine zi_imul hx hb dL_joins_120 ?_
      refine zi_iconst hx hb dL_joins_121 ?_
      refine zi_iadd hx hb dL_joins_122 ?_
      refine zi_iald hx hb hK.1 hL 3 0 rfl rfl (by omega) (by omega) (by decide) dL_joins_123 ?_
      refine zi_is (M 14 x9_17) (GL.un hG (j := x9_17) (by omega) (by omega)).1 ?_
      have q_123 := (GL.un hG (j := x9_17) (by omega) (by omega)).2
      refine zi_if_le (tgt := 131) hx hb ⟨by omega, by omega⟩ dL_joins_124 (by decide) (fun c_124 => ?_) (fun c_124 => ?_)
      · refine zi_iconst hx hb dL_joins_131 ?_
        exact K_132 0 (by first | omega | assumption) (by first | omega | assumption) _ (lv_sub hl [2, 3, 4, 5, 6, 7, 8, 9, 1, 0] rfl)
      · refine zi_iconst hx hb dL_joins_127 ?_
        refine lv_goto (tgt := 132) hx hb dL_joins_128 (by decide) ?_
        exact K_132 1 (by first | omega | assumption) (by first | omega | assumption) _ (lv_sub hl [2, 3, 4, 5, 6, 7, 8, 9, 1, 0] rfl)
  · refine lv_aload hx hb dL_joins_25 (lv_at hl 8 rfl) ?_
    refine lv_aload hx hb dL_joins_27 (lv_at hl 9 rfl) ?_
    refine lv_iload hx hb dL_joins_29 (lv_at hl 1 rfl) ?_
    refine zk_r (zc_S (As := [.ref (ld 3), .ref (ld 4), .int (zi x8_6)]) (rest := []) ⟨hx, hb, hml, hown, hts⟩ (ct_L_latest l D cI cZ cJ ld L M hG x8_6 ⟨by omega, by omega⟩ ⟨by omega, by omega⟩) (va_cwS 3 hts gL_joins_L_latest rfl rfl rfl (by decide +kernel) ⟨Nat.le_of_ble_eq_true rfl, Nat.le_of_ble_eq_true rfl⟩) hK hL rfl hl.1 rfl (Nat.le_of_ble_eq_true rfl) dL_joins_31 ⟨(by show _ ≤ (12 : Nat); omega), (by show _ ≤ (240 : Nat); omega)⟩) ?_
    refine zi_top (fun (r_31 : Int) (er_31 : r_31 = lateM M x8_6) => ?_)
    have la_ := lateM_b (M := M) (b := x8_6) (by omega)
    rw [← er_31] at la_
    refine lv_istore (lv' := [(10, .int (zi r_31)), (9, .int (zi x9_17)), (8, .int (zi x8_6)), (0, .ref (ad 0)), (1, .int (zi x0)), (2, .int (zi x1)), (3, .ref (ld 0)), (4, .ref (ld 1)), (5, .ref (ld 2)), (6, .ref (ld 3)), (7, .ref (ld 4))]) hx hb dL_joins_34 hl (by decide) rfl (fun ls hl => ?_)
    refine lv_aload_n hx hb dL_joins_36 rfl (lv_at hl 3 rfl) ?_
    refine zi_iconst hx hb dL_joins_37 ?_
    refine lv_iload hx hb dL_joins_38 (lv_at hl 2 rfl) ?_
    refine zi_iconst hx hb dL_joins_40 ?_
    refine lc_SW (As := [.ref (ad 0), .int (zi 4), .int (zi x8_6), .int (zi 0)]) (rest := []) (A0 := bA ad ld) ⟨hx, hb, hml, hown, hts⟩ (ct_L_asks4 l hst D cI cZ cJ sa ad ld S L M hdis hG hD x8_6 0 ⟨by omega, by omega⟩ ⟨by decide, by decide⟩) (vx_cwSW 4 hts gL_joins_L_asks rfl rfl rfl (by decide +kernel) ⟨Nat.le_of_ble_eq_true rfl, Nat.le_of_ble_eq_true rfl⟩) hK hX hQ (fun _ h => h) hS hP hL rfl hl.1 rfl (Nat.le_of_ble_eq_true rfl) dL_joins_41 ⟨(by show _ ≤ (12 : Nat); omega), (by show _ ≤ (240 : Nat); omega)⟩ (fun r_41 S_41 L_41 H locs hp_41 _ _ hP hL hS => ?_)
    obtain ⟨eL_41, hB_41⟩ := ask_part hD hG hN (by omega) (by omega) er_31 hp_41
    rw [eL_41] at hL
    refine lv_istore (lv' := [(11, .int (zi r_41)), (10, .int (zi r_31)), (9, .int (zi x9_17)), (8, .int (zi x8_6)), (0, .ref (ad 0)), (1, .int (zi x0)), (2, .int (zi x1)), (3, .ref (ld 0)), (4, .ref (ld 1)), (5, .ref (ld 2)), (6, .ref (ld 3)), (7, .ref (ld 4))]) hx hb dL_joins_44 hl (by decide) rfl (fun ls hl => ?_)
    refine lv_aload hx hb dL_joins_46 (lv_at hl 10 rfl) ?_
    refine zi_iconst hx hb dL_joins_48 ?_
    refine lv_iload hx hb dL_joins_49 (lv_at hl 1 rfl) ?_
    refine zi_if_ge (tgt := 59) hx hb ⟨by omega, by omega⟩ dL_joins_51 (by decide) (fun c_51 => ?_) (fun c_51 => ?_)
    · obtain ⟨hi0, er_41, hi1, hD_41, hG_41, hN_41⟩ := hB_41.resolve_right (fun h9 => by omega)
      have q9_ : (mPart M r_31) 11 0 = M 11 0 := rfl
      refine lv_iload hx hb dL_joins_59 (lv_at hl 1 rfl) ?_
      refine zi_imul hx hb dL_joins_61 ?_
      refine zi_iconst hx hb dL_joins_62 ?_
      refine zb_iast hx hb hK hdis (fun _ h => h) hP hL hS 3 rfl (fun _ => rfl) (by omega) (by omega) (by decide) dL_joins_63 (fun H locs hP hL hS => ?_)
      have hL : va_P D vwCl (lW cI ld (su L 3 (up (L 3) (5 * r_31) 0))) H := hL
      refine lv_iload hx hb dL_joins_64 (lv_at hl 0 rfl) ?_
      refine lv_iload hx hb dL_joins_66 (lv_at hl 1 rfl) ?_
      refine zi_if_ge (tgt := 76) hx hb ⟨by omega, by omega⟩ dL_joins_68 (by decide) (fun c_68 => ?_) (fun c_68 => ?_)
      · refine lv_iload hx hb dL_joins_76 (lv_at hl 1 rfl) ?_
        refine zi_icmp_ne (tgt := 101) hx hb ⟨by omega, by omega⟩ ⟨by omega, by omega⟩ dL_joins_78 (by decide) (fun c_78 => ?_) (fun c_78 => ?_)
        · exact absurd c_78 (by omega)
        · refine lv_iload hx hb dL_joins_81 (lv_at hl 1 rfl) ?_
          refine zi_if_lt (tgt := 97) hx hb ⟨by omega, by omega⟩ dL_joins_83 (by decide) (fun c_83 => ?_) (fun c_83 => ?_)
          · exact absurd c_83 (by omega)
          · refine lv_aload_n hx hb dL_joins_86 rfl (lv_at hl 4 rfl) ?_
            refine lv_iload hx hb dL_joins_87 (lv_at hl 1 rfl) ?_
            refine zi_iconst hx hb dL_joins_89 ?_
            refine lc_pub (ld := ld) (L0 := (su L 3 (up (L 3) (5 * r_31) 0))) (As := [.int (zi r_31), .int (zi 2)]) (rest := []) (A0 := bA ad ld) ⟨hx, hb, hml, hown, hts⟩ (ct_X7_ofBody l hst D cI cZ cJ sa ad S_41 hD_41.1 hdis.1 r_31 2 ⟨by omega, by omega⟩ ⟨by decide, by decide⟩) (cwV 2 hts gL_joins_X7_ofBody rfl rfl rfl (by decide +kernel) ⟨Nat.le_of_ble_eq_true rfl, Nat.le_of_ble_eq_true rfl⟩) rfl hK hX hdis (fun _ h => h) hS hP hL (nox_ofBody hD_41 (by omega) (by omega) ⟨by omega, by omega⟩) rfl hl.1 rfl (Nat.le_of_ble_eq_true rfl) dL_joins_90 ⟨(by show _ ≤ (12 : Nat); omega), (by show _ ≤ (240 : Nat); omega)⟩ (fun r_90 S_90 H locs hp_90 _ _ hP hL hS => ?_)
            obtain ⟨er_90, hD_90⟩ := q_ofB2 hD_41 (by omega) (by omega) hp_90
            rw [show mPart M r_31 12 r_31 = -1 from if_pos rfl] at er_90
            refine zi_iconst hx hb dL_joins_93 ?_
            refine zi_icmp_ne (tgt := 101) hx hb ⟨by omega, by omega⟩ ⟨by decide, by decide⟩ dL_joins_94 (by decide) (fun c_94 => ?_) (fun c_94 => ?_)
            · exact absurd c_94 (by omega)
            · refine zi_iconst hx hb dL_joins_97 ?_
              refine lv_goto (tgt := 102) hx hb dL_joins_98 (by decide) ?_
              exact lr_wz (S1 := S_90) (L1 := (su L 3 (up (L 3) (5 * r_31) 0))) hx hb hr hlocks dL_joins_102 (Or.inr rfl) hP hL hS ⟨by omega, by omega⟩ (by exact ⟨rfl, mPart M r_31, hG_41, hD_90, hN_41, by show M 17 0 ≤ M 17 0 + 1; omega⟩)
      · exact absurd c_68 (by omega)
    · obtain ⟨hi0, er_41, hD_41⟩ := hB_41.resolve_left (fun h9 => by omega)
      refine zi_bipush hx hb dL_joins_54 (by decide) ?_
      refine lv_goto (tgt := 61) hx hb dL_joins_56 (by decide) ?_
      refine zi_imul hx hb dL_joins_61 ?_
      refine zi_iconst hx hb dL_joins_62 ?_
      refine zb_iast hx hb hK hdis (fun _ h => h) hP hL hS 3 rfl (fun _ => rfl) (by omega) (by omega) (by decide) dL_joins_63 (fun H locs hP hL hS => ?_)
      have hL : va_P D vwCl (lW cI ld (su L 3 (up (L 3) (5 * 12) 0))) H := hL
      refine lv_iload hx hb dL_joins_64 (lv_at hl 0 rfl) ?_
      refine lv_iload hx hb dL_joins_66 (lv_at hl 1 rfl) ?_
      refine zi_if_ge (tgt := 76) hx hb ⟨by omega, by omega⟩ dL_joins_68 (by decide) (fun c_68 => ?_) (fun c_68 => ?_)
      · exact absurd c_68 (by omega)
      · refine lv_ldc (v := zi (-70008)) hx hb hown (hts _ ci41_L_joins) dL_joins_71 ?_
        refine lv_goto (tgt := 78) hx hb dL_joins_73 (by decide) ?_
        refine zi_icmp_ne (tgt := 101) hx hb ⟨by omega, by omega⟩ ⟨by decide, by decide⟩ dL_joins_78 (by decide) (fun c_78 => ?_) (fun c_78 => ?_)
        · exact absurd c_78 (by omega)
        · refine lv_iload hx hb dL_joins_81 (lv_at hl 1 rfl) ?_
          refine zi_if_lt (tgt := 97) hx hb ⟨by omega, by omega⟩ dL_joins_83 (by decide) (fun c_83 => ?_) (fun c_83 => ?_)
          · refine zi_iconst hx hb dL_joins_97 ?_
            refine lv_goto (tgt := 102) hx hb dL_joins_98 (by decide) ?_
            exact lr_wz (S1 := S_41) (L1 := (su L 3 (up (L 3) (5 * 12) 0))) hx hb hr hlocks dL_joins_102 (Or.inr rfl) hP hL hS ⟨by omega, by omega⟩ (by exact ⟨rfl, M, GL_60 hG rfl, hD_41, hN, by omega⟩)
          · exact absurd c_83 (by omega)
