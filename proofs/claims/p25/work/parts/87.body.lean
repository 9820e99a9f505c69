theorem ci38_L_isBody : Cond.constant RL 38 (-70007) ∈ wsL_isBody := by decide +kernel
abbrev rmct_L_isBody : Room := { frames := 9, cells := 100, slots := 700, locals := 164 }
set_option maxHeartbeats 8000000 in
set_option maxRecDepth 100000 in
theorem ct_L_isBody (l : Launch) (hst : l.stackTraces = false) (D : va_G) (cI cZ cJ : ClassId) (sa ad ld : Nat → Nat) (S L M : ZS) (hdis : bDis ad ld) (hG : GL L M) (hD : DK S M) (x0 x1 : Int) (hx0 : ir x0) (hx1 : ir x1) (hp0 : 0 ≤ x0) (hp1 : 0 ≤ x1 ∧ x1 < M 11 0) : Met l yL_isBody wsL_isBody rmct_L_isBody (zPb D cI cZ cJ sa ad ld S L [.ref (ad 0), .int (zi x0), .int (zi x1), .ref (ld 0), .ref (ld 1), .ref (ld 2), .ref (ld 3), .ref (ld 4)]) (zWb D cI ad ld (fun r S9 L9 => r = 1 ∧ L9 = L ∧ DK S9 M)) 100 700 (bA ad ld) := by
  refine Met.ofW (cc := cL_isBody) (maxL := 20) (ret := (some .boolean)) (by decide) rfl ?_
  intro p e s m args below meth c s₁ B hml hv
  obtain ⟨rfl, hP, hL, hK, hX, hQ⟩ := hv
  have hx := B.exec
  have hb := B.bytes
  have hr := B.returns
  have hts := atoms_spec (ws := wsL_isBody) B.pre
  have hown : s.vm.findClass RL = some m.cls := findClass_of_methodNamed B.named
  have hlocks := B.notSynchronized
  have hl := lv_entry ([.ref (ad 0), .int (zi x0), .int (zi x1), .ref (ld 0), .ref (ld 1), .ref (ld 2), .ref (ld 3), .ref (ld 4)]) (n := 20) (Nat.le_of_ble_eq_true rfl)
  rw [lg_entry_eq]
  generalize (lg_sl ([.ref (ad 0), .int (zi x0), .int (zi x1), .ref (ld 0), .ref (ld 1), .ref (ld 2), .ref (ld 3), .ref (ld 4)]) ++ List.replicate (20 - (lg_sl ([.ref (ad 0), .int (zi x0), .int (zi x1), .ref (ld 0), .ref (ld 1), .ref (ld 2), .ref (ld 3), .ref (ld 4)])).length) Slot.unset).toArray = ls at hl ⊢
  have hl : lv_has ls 20 [(0, .ref (ad 0)), (1, .int (zi x0)), (2, .int (zi x1)), (3, .ref (ld 0)), (4, .ref (ld 1)), (5, .ref (ld 2)), (6, .ref (ld 3)), (7, .ref (ld 4))] := hl
  have hS : va_S (bA ad ld) s.heap s.heap [] := va_S.rf
  show W p l e rmct_L_isBody s m ([.ref (ad 0), .int (zi x0), .int (zi x1), .ref (ld 0), .ref (ld 1), .ref (ld 2), .ref (ld 3), .ref (ld 4)] : List Value).toArray below meth c s.heap [] 0 0 (MQ below (zWb D cI ad ld (fun r S9 L9 => r = 1 ∧ L9 = L ∧ DK S9 M)) ([.ref (ad 0), .int (zi x0), .int (zi x1), .ref (ld 0), .ref (ld 1), .ref (ld 2), .ref (ld 3), .ref (ld 4)] : List Value).toArray s 100 700 (bA ad ld)) (F0 m 0 ls [])
  have q0 := GL.c hG
  refine zi_iconst hx hb dL_isBody_0 ?_
  refine lv_istore (lv' := [(8, .int (zi 0)), (0, .ref (ad 0)), (1, .int (zi x0)), (2, .int (zi x1)), (3, .ref (ld 0)), (4, .ref (ld 1)), (5, .ref (ld 2)), (6, .ref (ld 3)), (7, .ref (ld 4))]) hx hb dL_isBody_1 hl (by decide) rfl (fun ls hl => ?_)
  refine zi_iconst hx hb dL_isBody_3 ?_
  refine lv_istore (lv' := [(9, .int (zi 0)), (8, .int (zi 0)), (0, .ref (ad 0)), (1, .int (zi x0)), (2, .int (zi x1)), (3, .ref (ld 0)), (4, .ref (ld 1)), (5, .ref (ld 2)), (6, .ref (ld 3)), (7, .ref (ld 4))]) hx hb dL_isBody_4 hl (by decide) rfl (fun ls hl => ?_)
  refine zi_iconst hx hb dL_isBody_6 ?_
  have K_9 : ∀ (k : Nat) (n : Nat) (o9 k9 : Int), (k9 + (n : Int) = 40) → (0 ≤ k9) → (0 ≤ o9 ∧ o9 ≤ k9) → (itr (fun j acc => if M 10 j = x1 then acc + 1 else acc) n k9 o9 = ownM M x1) → ((n : Int) < (k : Int)) → ∀ (ls : Array Slot), lv_has ls 20 [(0, .ref (ad 0)), (1, .int (zi x0)), (2, .int (zi x1)), (3, .ref (ld 0)), (4, .ref (ld 1)), (5, .ref (ld 2)), (6, .ref (ld 3)), (7, .ref (ld 4)), (9, .int (zi 0)), (8, .int (zi o9)), (10, .int (zi k9))] → W p l e rmct_L_isBody s m ([.ref (ad 0), .int (zi x0), .int (zi x1), .ref (ld 0), .ref (ld 1), .ref (ld 2), .ref (ld 3), .ref (ld 4)] : List Value).toArray below meth c s.heap [] 0 0 (MQ below (zWb D cI ad ld (fun r S9 L9 => r = 1 ∧ L9 = L ∧ DK S9 M)) ([.ref (ad 0), .int (zi x0), .int (zi x1), .ref (ld 0), .ref (ld 1), .ref (ld 2), .ref (ld 3), .ref (ld 4)] : List Value).toArray s 100 700 (bA ad ld)) (F0 m 9 ls []) := by
    intro k
    induction k with
    | zero => intro n o9 k9 h_n h_i h_b h_R hk; exact absurd hk (by omega)
    | succ k ih_9 =>
      intro n o9 k9 h_n h_i h_b h_R hk ls hl
      refine lv_iload hx hb dL_isBody_9 (lv_at hl 10 rfl) ?_
      refine lv_aload hx hb dL_isBody_11 (lv_at hl 7 rfl) ?_
      refine zi_iconst hx hb dL_isBody_13 ?_
      refine zi_iald hx hb hK.1 hL 4 0 rfl rfl (by omega) (by omega) (by decide) dL_isBody_14 ?_
      refine zi_is 40 (GL.c hG).1 ?_
      have q_14 := GL.c hG
      refine zi_icmp_ge (tgt := 44) hx hb ⟨by omega, by omega⟩ ⟨by decide, by decide⟩ dL_isBody_15 (by decide) (fun c_15 => ?_) (fun c_15 => ?_)
      · obtain rfl : n = 0 := by omega
        have h_own : o9 = ownM M x1 := h_R
        refine zi_iconst hx hb dL_isBody_44 ?_
        have K_47 : ∀ (k : Nat) (n : Nat) (y9 k9 : Int), (k9 + (n : Int) = M 11 0) → (0 ≤ k9) → (0 ≤ y9 ∧ y9 ≤ k9) → (itr (fun j acc => if M 12 j = x1 then acc + 1 else acc) n k9 y9 = joinM M x1) → ((n : Int) < (k : Int)) → ∀ (ls : Array Slot), lv_has ls 20 [(0, .ref (ad 0)), (1, .int (zi x0)), (2, .int (zi x1)), (3, .ref (ld 0)), (4, .ref (ld 1)), (5, .ref (ld 2)), (6, .ref (ld 3)), (7, .ref (ld 4)), (8, .int (zi o9)), (9, .int (zi y9)), (10, .int (zi k9))] → W p l e rmct_L_isBody s m ([.ref (ad 0), .int (zi x0), .int (zi x1), .ref (ld 0), .ref (ld 1), .ref (ld 2), .ref (ld 3), .ref (ld 4)] : List Value).toArray below meth c s.heap [] 0 0 (MQ below (zWb D cI ad ld (fun r S9 L9 => r = 1 ∧ L9 = L ∧ DK S9 M)) ([.ref (ad 0), .int (zi x0), .int (zi x1), .ref (ld 0), .ref (ld 1), .ref (ld 2), .ref (ld 3), .ref (ld 4)] : List Value).toArray s 100 700 (bA ad ld)) (F0 m 47 ls []) := by
          intro k
          induction k with
          | zero => intro n y9 k9 h_n h_i h_b2 h_R2 hk; exact absurd hk (by omega)
          | succ k ih_47 =>
            intro n y9 k9 h_n h_i h_b2 h_R2 hk ls hl
            refine lv_iload hx hb dL_isBody_47 (lv_at hl 10 rfl) ?_
            refine lv_aload hx hb dL_isBody_49 (lv_at hl 7 rfl) ?_
            refine zi_iconst hx hb dL_isBody_51 ?_
            refine zi_iald hx hb hK.1 hL 4 0 rfl rfl (by omega) (by omega) (by decide) dL_isBody_52 ?_
            refine zi_is (M 11 0) (GL.c hG).2.1 ?_
            have q_52 := GL.c hG
            refine zi_icmp_ge (tgt := 85) hx hb ⟨by omega, by omega⟩ ⟨by omega, by omega⟩ dL_isBody_53 (by decide) (fun c_53 => ?_) (fun c_53 => ?_)
            · obtain rfl : n = 0 := by omega
              have h_by : y9 = joinM M x1 := h_R2
              refine lv_aload_n hx hb dL_isBody_85 rfl (lv_at hl 3 rfl) ?_
              refine lv_aload hx hb dL_isBody_86 (lv_at hl 4 rfl) ?_
              refine lv_aload hx hb dL_isBody_88 (lv_at hl 6 rfl) ?_
              refine lv_aload hx hb dL_isBody_90 (lv_at hl 7 rfl) ?_
              refine lv_iload_n hx hb dL_isBody_92 rfl (lv_at hl 2 rfl) ?_
              refine zk_r (zc_S (As := [.ref (ld 0), .ref (ld 1), .ref (ld 3), .ref (ld 4), .int (zi x1)]) (rest := []) ⟨hx, hb, hml, hown, hts⟩ (ct_L_firstOf l D cI cZ cJ ld L M hG x1 ⟨by omega, by omega⟩) (va_cwS 5 hts gL_isBody_L_firstOf rfl rfl rfl (by decide +kernel) ⟨Nat.le_of_ble_eq_true rfl, Nat.le_of_ble_eq_true rfl⟩) hK hL rfl hl.1 rfl (Nat.le_of_ble_eq_true rfl) dL_isBody_93 ⟨(by show _ ≤ (100 : Nat); omega), (by show _ ≤ (700 : Nat); omega)⟩) ?_
              refine zi_top (fun (r_93 : Int) (er_93 : r_93 = fsN M x1) => ?_)
              refine lv_istore (lv' := [(10, .int (zi r_93)), (0, .ref (ad 0)), (1, .int (zi x0)), (2, .int (zi x1)), (3, .ref (ld 0)), (4, .ref (ld 1)), (5, .ref (ld 2)), (6, .ref (ld 3)), (7, .ref (ld 4)), (8, .int (zi o9)), (9, .int (zi y9))]) hx hb dL_isBody_96 hl (by decide) rfl (fun ls hl => ?_)
              have fi_ := fsN_first hG (b := x1) (by omega) (by omega)
              have fd_ := lkM_b hG.2.1 r_93 (by rw [er_93]; exact fi_.2)
              refine lv_aload_n hx hb dL_isBody_98 rfl (lv_at hl 1 rfl) ?_
              refine lv_iload_n hx hb dL_isBody_99 rfl (lv_at hl 3 rfl) ?_
              refine lc_pub (ld := ld) (L0 := L) (As := [.int (zi x1)]) (rest := []) (A0 := bA ad ld) ⟨hx, hb, hml, hown, hts⟩ (ct_X7_orbits l hst D cI cZ cJ sa ad S hD.1 hdis.1 x1 ⟨by omega, by omega⟩) (cwV 1 hts gL_isBody_X7_orbits rfl rfl rfl (by decide +kernel) ⟨Nat.le_of_ble_eq_true rfl, Nat.le_of_ble_eq_true rfl⟩) rfl hK hX hdis (fun _ h => h) hS hP hL (nox_orbits hD (by omega) (by omega)) rfl hl.1 rfl (Nat.le_of_ble_eq_true rfl) dL_isBody_100 ⟨(by show _ ≤ (100 : Nat); omega), (by show _ ≤ (700 : Nat); omega)⟩ (fun r_100 S_100 H locs hp_100 _ _ hP hL hS => ?_)
              obtain ⟨er_100, hD_100⟩ := q_orbits hD (by omega) (by omega) hp_100
              refine lv_istore (lv' := [(11, .int (zi r_100)), (10, .int (zi r_93)), (0, .ref (ad 0)), (1, .int (zi x0)), (2, .int (zi x1)), (3, .ref (ld 0)), (4, .ref (ld 1)), (5, .ref (ld 2)), (6, .ref (ld 3)), (7, .ref (ld 4)), (8, .int (zi o9)), (9, .int (zi y9))]) hx hb dL_isBody_103 hl (by decide) rfl (fun ls hl => ?_)
              have kl_ := kE_len hG.2.1 (b := x1)
              refine lv_iload_n hx hb dL_isBody_105 rfl (lv_at hl 3 rfl) ?_
              refine zi_sipush hx hb dL_isBody_106 (by decide) ?_
              refine zi_irem hx hb ⟨by omega, by omega⟩ ⟨by omega, by omega⟩ (by omega) (by omega) dL_isBody_109 ?_
              refine zi_top (fun x12_110 ex12_110 => ?_)
              refine lv_istore (lv' := [(12, .int (zi x12_110)), (11, .int (zi r_100)), (10, .int (zi r_93)), (0, .ref (ad 0)), (1, .int (zi x0)), (2, .int (zi x1)), (3, .ref (ld 0)), (4, .ref (ld 1)), (5, .ref (ld 2)), (6, .ref (ld 3)), (7, .ref (ld 4)), (8, .int (zi o9)), (9, .int (zi y9))]) hx hb dL_isBody_110 hl (by decide) rfl (fun ls hl => ?_)
              refine lv_aload_n hx hb dL_isBody_112 rfl (lv_at hl 3 rfl) ?_
              refine lv_iload_n hx hb dL_isBody_113 rfl (lv_at hl 5 rfl) ?_
              refine lv_iload hx hb dL_isBody_114 (lv_at hl 0 rfl) ?_
              refine lc_pub (ld := ld) (L0 := L) (As := [.int (zi x1), .int (zi x12_110)]) (rest := []) (A0 := bA ad ld) ⟨hx, hb, hml, hown, hts⟩ (ct_X7_spread l hst D cI cZ cJ sa ad S_100 hD_100.1 hdis.1 x1 x12_110 ⟨by omega, by omega⟩ ⟨by omega, by omega⟩) (cwV 2 hts gL_isBody_X7_spread rfl rfl rfl (by decide +kernel) ⟨Nat.le_of_ble_eq_true rfl, Nat.le_of_ble_eq_true rfl⟩) rfl hK hX hdis (fun _ h => h) hS hP hL (nox_spread hD_100 (by omega) (by omega) ⟨by omega, by omega⟩) rfl hl.1 rfl (Nat.le_of_ble_eq_true rfl) dL_isBody_116 ⟨(by show _ ≤ (100 : Nat); omega), (by show _ ≤ (700 : Nat); omega)⟩ (fun r_116 S_116 H locs hp_116 _ _ hP hL hS => ?_)
              obtain ⟨er_116, hD_116⟩ := q_spread hD_100 (by omega) (by omega) hp_116
              have sp_ := sp_le (l := kE M x1) (t := x12_110)
              rw [← er_116] at sp_
              refine lv_istore (lv' := [(13, .int (zi r_116)), (12, .int (zi x12_110)), (11, .int (zi r_100)), (10, .int (zi r_93)), (0, .ref (ad 0)), (1, .int (zi x0)), (2, .int (zi x1)), (3, .ref (ld 0)), (4, .ref (ld 1)), (5, .ref (ld 2)), (6, .ref (ld 3)), (7, .ref (ld 4)), (8, .int (zi o9)), (9, .int (zi y9))]) hx hb dL_isBody_119 hl (by decide) rfl (fun ls hl => ?_)
              refine lv_aload_n hx hb dL_isBody_121 rfl (lv_at hl 4 rfl) ?_
              refine lv_iload_n hx hb dL_isBody_122 rfl (lv_at hl 6 rfl) ?_
              refine zi_iconst hx hb dL_isBody_123 ?_
              refine lc_pub (ld := ld) (L0 := L) (As := [.int (zi x1), .int (zi 0)]) (rest := []) (A0 := bA ad ld) ⟨hx, hb, hml, hown, hts⟩ (ct_X7_ofBody l hst D cI cZ cJ sa ad S_116 hD_116.1 hdis.1 x1 0 ⟨by omega, by omega⟩ ⟨by decide, by decide⟩) (cwV 2 hts gL_isBody_X7_ofBody rfl rfl rfl (by decide +kernel) ⟨Nat.le_of_ble_eq_true rfl, Nat.le_of_ble_eq_true rfl⟩) rfl hK hX hdis (fun _ h => h) hS hP hL (nox_ofBody hD_116 (by omega) (by omega) ⟨by omega, by omega⟩) rfl hl.1 rfl (Nat.le_of_ble_eq_true rfl) dL_isBody_124 ⟨(by show _ ≤ (100 : Nat); omega), (by show _ ≤ (700 : Nat); omega)⟩ (fun r_124 S_124 H locs hp_124 _ _ hP hL hS => ?_)
              obtain ⟨er_124, hD_124⟩ := q_ofB0 hD_116 (by omega) (by omega) hp_124
              refine lv_aload_n hx hb dL_isBody_127 rfl (lv_at hl 7 rfl) ?_
              refine lv_aload hx hb dL_isBody_128 (lv_at hl 10 rfl) ?_
              refine lv_aload hx hb dL_isBody_130 (lv_at hl 11 rfl) ?_
              refine lv_iload_n hx hb dL_isBody_132 rfl (lv_at hl 6 rfl) ?_
              refine zk_r (zc_S (As := [.ref (ld 0), .ref (ld 3), .ref (ld 4), .int (zi x1)]) (rest := [.int (zi r_124)]) ⟨hx, hb, hml, hown, hts⟩ (ct_L_looks l D cI cZ cJ ld L M hG x1 ⟨by omega, by omega⟩) (va_cwS 4 hts gL_isBody_L_looks rfl rfl rfl (by decide +kernel) ⟨Nat.le_of_ble_eq_true rfl, Nat.le_of_ble_eq_true rfl⟩) hK hL rfl hl.1 rfl (Nat.le_of_ble_eq_true rfl) dL_isBody_133 ⟨(by show _ ≤ (100 : Nat); omega), (by show _ ≤ (700 : Nat); omega)⟩) ?_
              refine zi_top (fun (r_133 : Int) (er_133 : r_133 = lkN M x1) => ?_)
              rw [lkN_len hG] at er_133
              have lk_ := fl_len (fun k => lookM M k x1) 40 0
              rw [← GL.lk hG] at lk_
              refine zi_icmp_ne (tgt := 303) hx hb ⟨by omega, by omega⟩ ⟨by omega, by omega⟩ dL_isBody_136 (by decide) (fun c_136 => ?_) (fun c_136 => ?_)
              · exact absurd c_136 (by rw [er_124, er_133]; exact not_not_intro rfl)
              · refine lv_aload_n hx hb dL_isBody_139 rfl (lv_at hl 4 rfl) ?_
                refine lv_iload_n hx hb dL_isBody_140 rfl (lv_at hl 6 rfl) ?_
                refine zi_iconst hx hb dL_isBody_141 ?_
                refine lc_pub (ld := ld) (L0 := L) (As := [.int (zi x1), .int (zi 1)]) (rest := []) (A0 := bA ad ld) ⟨hx, hb, hml, hown, hts⟩ (ct_X7_ofBody l hst D cI cZ cJ sa ad S_124 hD_124.1 hdis.1 x1 1 ⟨by omega, by omega⟩ ⟨by decide, by decide⟩) (cwV 2 hts gL_isBody_X7_ofBody rfl rfl rfl (by decide +kernel) ⟨Nat.le_of_ble_eq_true rfl, Nat.le_of_ble_eq_true rfl⟩) rfl hK hX hdis (fun _ h => h) hS hP hL (nox_ofBody hD_124 (by omega) (by omega) ⟨by omega, by omega⟩) rfl hl.1 rfl (Nat.le_of_ble_eq_true rfl) dL_isBody_142 ⟨(by show _ ≤ (100 : Nat); omega), (by show _ ≤ (700 : Nat); omega)⟩ (fun r_142 S_142 H locs hp_142 _ _ hP hL hS => ?_)
                obtain ⟨er_142, hD_142⟩ := q_ofB1 hD_124 (by omega) (by omega) hp_142
                refine lv_iload hx hb dL_isBody_145 (lv_at hl 12 rfl) ?_
                refine zi_icmp_ne (tgt := 303) hx hb ⟨by omega, by omega⟩ ⟨by omega, by omega⟩ dL_isBody_147 (by decide) (fun c_147 => ?_) (fun c_147 => ?_)
                · exact absurd c_147 (by rw [er_142, h_own]; exact not_not_intro rfl)
                · refine lv_aload_n hx hb dL_isBody_150 rfl (lv_at hl 4 rfl) ?_
                  refine lv_iload_n hx hb dL_isBody_151 rfl (lv_at hl 6 rfl) ?_
                  refine zi_iconst hx hb dL_isBody_152 ?_
                  refine lc_pub (ld := ld) (L0 := L) (As := [.int (zi x1), .int (zi 2)]) (rest := []) (A0 := bA ad ld) ⟨hx, hb, hml, hown, hts⟩ (ct_X7_ofBody l hst D cI cZ cJ sa ad S_142 hD_142.1 hdis.1 x1 2 ⟨by omega, by omega⟩ ⟨by decide, by decide⟩) (cwV 2 hts gL_isBody_X7_ofBody rfl rfl rfl (by decide +kernel) ⟨Nat.le_of_ble_eq_true rfl, Nat.le_of_ble_eq_true rfl⟩) rfl hK hX hdis (fun _ h => h) hS hP hL (nox_ofBody hD_142 (by omega) (by omega) ⟨by omega, by omega⟩) rfl hl.1 rfl (Nat.le_of_ble_eq_true rfl) dL_isBody_153 ⟨(by show _ ≤ (100 : Nat); omega), (by show _ ≤ (700 : Nat); omega)⟩ (fun r_153 S_153 H locs hp_153 _ _ hP hL hS => ?_)
                  obtain ⟨er_153, hD_153⟩ := q_ofB2 hD_142 (by omega) (by omega) hp_153
                  refine lv_aload hx hb dL_isBody_156 (lv_at hl 10 rfl) ?_
                  refine zi_iconst hx hb dL_isBody_158 ?_
                  refine lv_iload_n hx hb dL_isBody_159 rfl (lv_at hl 6 rfl) ?_
                  refine zi_imul hx hb dL_isBody_160 ?_
                  refine zi_iald hx hb hK.1 hL 3 0 rfl rfl (by omega) (by omega) (by decide) dL_isBody_161 ?_
                  refine zi_is (M 12 x1 + 1) (GL.u hG (j := x1) (by omega) (by omega)).1 ?_
                  have q_161 := (GL.u hG (j := x1) (by omega) (by omega)).2
                  refine zi_iconst hx hb dL_isBody_162 ?_
                  refine zi_isub hx hb dL_isBody_163 ?_
                  refine zi_icmp_ne (tgt := 303) hx hb ⟨by omega, by omega⟩ ⟨by omega, by omega⟩ dL_isBody_164 (by decide) (fun c_164 => ?_) (fun c_164 => ?_)
                  · exact absurd c_164 (by omega)
                  · refine lv_aload_n hx hb dL_isBody_167 rfl (lv_at hl 4 rfl) ?_
                    refine lv_iload_n hx hb dL_isBody_168 rfl (lv_at hl 6 rfl) ?_
                    refine zi_iconst hx hb dL_isBody_169 ?_
                    refine lc_pub (ld := ld) (L0 := L) (As := [.int (zi x1), .int (zi 4)]) (rest := []) (A0 := bA ad ld) ⟨hx, hb, hml, hown, hts⟩ (ct_X7_ofBody l hst D cI cZ cJ sa ad S_153 hD_153.1 hdis.1 x1 4 ⟨by omega, by omega⟩ ⟨by decide, by decide⟩) (cwV 2 hts gL_isBody_X7_ofBody rfl rfl rfl (by decide +kernel) ⟨Nat.le_of_ble_eq_true rfl, Nat.le_of_ble_eq_true rfl⟩) rfl hK hX hdis (fun _ h => h) hS hP hL (nox_ofBody hD_153 (by omega) (by omega) ⟨by omega, by omega⟩) rfl hl.1 rfl (Nat.le_of_ble_eq_true rfl) dL_isBody_170 ⟨(by show _ ≤ (100 : Nat); omega), (by show _ ≤ (700 : Nat); omega)⟩ (fun r_170 S_170 H locs hp_170 _ _ hP hL hS => ?_)
                    obtain ⟨er_170, hD_170⟩ := q_ofB4 hD_153 (by omega) (by omega) hp_170
                    refine lv_iload hx hb dL_isBody_173 (lv_at hl 3 rfl) ?_
                    refine zi_icmp_ne (tgt := 303) hx hb ⟨by omega, by omega⟩ ⟨by omega, by omega⟩ dL_isBody_175 (by decide) (fun c_175 => ?_) (fun c_175 => ?_)
                    · exact absurd c_175 (by rw [er_170, er_93, fi_.1]; exact not_not_intro rfl)
                    · refine lv_aload_n hx hb dL_isBody_178 rfl (lv_at hl 4 rfl) ?_
                      refine lv_iload_n hx hb dL_isBody_179 rfl (lv_at hl 6 rfl) ?_
                      refine zi_iconst hx hb dL_isBody_180 ?_
                      refine lc_pub (ld := ld) (L0 := L) (As := [.int (zi x1), .int (zi 5)]) (rest := []) (A0 := bA ad ld) ⟨hx, hb, hml, hown, hts⟩ (ct_X7_ofBody l hst D cI cZ cJ sa ad S_170 hD_170.1 hdis.1 x1 5 ⟨by omega, by omega⟩ ⟨by decide, by decide⟩) (cwV 2 hts gL_isBody_X7_ofBody rfl rfl rfl (by decide +kernel) ⟨Nat.le_of_ble_eq_true rfl, Nat.le_of_ble_eq_true rfl⟩) rfl hK hX hdis (fun _ h => h) hS hP hL (nox_ofBody hD_170 (by omega) (by omega) ⟨by omega, by omega⟩) rfl hl.1 rfl (Nat.le_of_ble_eq_true rfl) dL_isBody_181 ⟨(by show _ ≤ (100 : Nat); omega), (by show _ ≤ (700 : Nat); omega)⟩ (fun r_181 S_181 H locs hp_181 _ _ hP hL hS => ?_)
                      obtain ⟨er_181, hD_181⟩ := q_ofB5 hD_170 (by omega) (by omega) hp_181
                      refine lv_aload hx hb dL_isBody_184 (lv_at hl 10 rfl) ?_
                      refine zi_iconst hx hb dL_isBody_186 ?_
                      refine lv_iload_n hx hb dL_isBody_187 rfl (lv_at hl 6 rfl) ?_
                      refine zi_imul hx hb dL_isBody_188 ?_
                      refine zi_iconst hx hb dL_isBody_189 ?_
                      refine zi_iadd hx hb dL_isBody_190 ?_
                      refine zi_iald hx hb hK.1 hL 3 0 rfl rfl (by omega) (by omega) (by decide) dL_isBody_191 ?_
                      refine zi_is (M 14 x1) (GL.un hG (j := x1) (by omega) (by omega)).1 ?_
                      have q_191 := (GL.un hG (j := x1) (by omega) (by omega)).2
                      have K_207 : ∀ (v9 : Int), (v9 = if 0 < M 14 x1 then M 14 x1 else -1) → (-1 ≤ v9 ∧ v9 ≤ 20) → ∀ (ls : Array Slot), lv_has ls 20 [(0, .ref (ad 0)), (1, .int (zi x0)), (2, .int (zi x1)), (3, .ref (ld 0)), (4, .ref (ld 1)), (5, .ref (ld 2)), (6, .ref (ld 3)), (7, .ref (ld 4)), (8, .int (zi o9)), (9, .int (zi y9)), (10, .int (zi r_93)), (11, .int (zi r_100)), (12, .int (zi x12_110)), (13, .int (zi r_116))] → W p l e rmct_L_isBody s m ([.ref (ad 0), .int (zi x0), .int (zi x1), .ref (ld 0), .ref (ld 1), .ref (ld 2), .ref (ld 3), .ref (ld 4)] : List Value).toArray below meth c H locs (0 + 2 + 3 + 3 + 3 + 3 + 3 + 3) (0 + 12 + 18 + 18 + 18 + 18 + 18 + 18) (MQ below (zWb D cI ad ld (fun r S9 L9 => r = 1 ∧ L9 = L ∧ DK S9 M)) ([.ref (ad 0), .int (zi x0), .int (zi x1), .ref (ld 0), .ref (ld 1), .ref (ld 2), .ref (ld 3), .ref (ld 4)] : List Value).toArray s 100 700 (bA ad ld)) (F0 m 207 ls [.int (zi v9), .int (zi r_181)]) := by
                        intro v9 h_v h_vb ls hl
                        refine zi_icmp_ne (tgt := 303) hx hb ⟨by omega, by omega⟩ ⟨by omega, by omega⟩ dL_isBody_207 (by decide) (fun c_207 => ?_) (fun c_207 => ?_)
                        · exact absurd c_207 (by rw [er_181, h_v]; exact not_not_intro rfl)
                        · refine lv_aload_n hx hb dL_isBody_210 rfl (lv_at hl 0 rfl) ?_
                          refine lv_iload_n hx hb dL_isBody_211 rfl (lv_at hl 2 rfl) ?_
                          refine zi_bipush hx hb dL_isBody_212 (by decide) ?_
                          refine lc_pub (ld := ld) (L0 := L) (As := [.int (zi x1), .int (zi 6)]) (rest := []) (A0 := bA ad ld) ⟨hx, hb, hml, hown, hts⟩ (ct_X7_ofBody l hst D cI cZ cJ sa ad S_181 hD_181.1 hdis.1 x1 6 ⟨by omega, by omega⟩ ⟨by decide, by decide⟩) (cwV 2 hts gL_isBody_X7_ofBody rfl rfl rfl (by decide +kernel) ⟨Nat.le_of_ble_eq_true rfl, Nat.le_of_ble_eq_true rfl⟩) rfl hK hX hdis (fun _ h => h) hS hP hL (nox_ofBody hD_181 (by omega) (by omega) ⟨by omega, by omega⟩) rfl hl.1 rfl (Nat.le_of_ble_eq_true rfl) dL_isBody_214 ⟨(by show _ ≤ (100 : Nat); omega), (by show _ ≤ (700 : Nat); omega)⟩ (fun r_214 S_214 H locs hp_214 _ _ hP hL hS => ?_)
                          obtain ⟨er_214, hD_214⟩ := q_ofB6 hD_181 (by omega) (by omega) hp_214
                          refine lv_iload hx hb dL_isBody_217 (lv_at hl 9 rfl) ?_
                          refine zi_icmp_ne (tgt := 303) hx hb ⟨by omega, by omega⟩ ⟨by omega, by omega⟩ dL_isBody_219 (by decide) (fun c_219 => ?_) (fun c_219 => ?_)
                          · exact absurd c_219 (by rw [er_214, h_by]; exact not_not_intro rfl)
                          · refine lv_iload hx hb dL_isBody_222 (lv_at hl 11 rfl) ?_
                            refine lv_aload_n hx hb dL_isBody_224 rfl (lv_at hl 3 rfl) ?_
                            refine lv_aload hx hb dL_isBody_225 (lv_at hl 4 rfl) ?_
                            refine lv_aload hx hb dL_isBody_227 (lv_at hl 5 rfl) ?_
                            refine lv_aload hx hb dL_isBody_229 (lv_at hl 6 rfl) ?_
                            refine lv_aload hx hb dL_isBody_231 (lv_at hl 7 rfl) ?_
                            refine lv_iload_n hx hb dL_isBody_233 rfl (lv_at hl 2 rfl) ?_
                            refine zi_iconst hx hb dL_isBody_234 ?_
                            refine zi_iconst hx hb dL_isBody_235 ?_
                            refine lc_N (As := [.ref (ld 0), .ref (ld 1), .ref (ld 2), .ref (ld 3), .ref (ld 4), .int (zi x1), .int (zi (-1)), .int (zi (-1))]) (rest := [.int (zi r_100)]) (A0 := bA ad ld) ⟨hx, hb, hml, hown, hts⟩ (ct_L_orbits l D cI cZ cJ ld L M hG x1 (-1) (-1) ⟨by omega, by omega⟩ ⟨by decide, by decide⟩ ⟨by decide, by decide⟩ (or_self hG (by omega) (by omega)).1) (va_cwS 8 hts gL_isBody_L_orbits rfl rfl rfl (by decide +kernel) ⟨Nat.le_of_ble_eq_true rfl, Nat.le_of_ble_eq_true rfl⟩) ⟨zP_blind, fun U hU hW => ⟨rfl, by rw [hU]; exact hL, hK.warm hW⟩⟩ hS rfl hl.1 rfl (Nat.le_of_ble_eq_true rfl) dL_isBody_236 ⟨(by show _ ≤ (100 : Nat); omega), (by show _ ≤ (700 : Nat); omega)⟩ (fun r_236 H locs er_236 _ hk_236 hS => ?_)
                            have er_236 : r_236 = orN M x1 (-1) (-1) := er_236
                            have hP := hP.kept (fun k q hq => hk_236 q.1 (vx_lt hP hq))
                            have hL := hL.kept (fun k q hq => hk_236 q.1 (vx_lt hL hq))
                            rw [(or_self hG (b := x1) (by omega) (by omega)).2] at er_236
                            refine zi_icmp_ne (tgt := 303) hx hb ⟨by omega, by omega⟩ ⟨by omega, by omega⟩ dL_isBody_239 (by decide) (fun c_239 => ?_) (fun c_239 => ?_)
                            · exact absurd c_239 (by rw [er_100, er_236]; exact not_not_intro rfl)
                            · refine lv_iload hx hb dL_isBody_242 (lv_at hl 13 rfl) ?_
                              refine lv_iload hx hb dL_isBody_244 (lv_at hl 11 rfl) ?_
                              refine zi_icmp_gt (tgt := 303) hx hb ⟨by omega, by omega⟩ ⟨by omega, by omega⟩ dL_isBody_246 (by decide) (fun c_246 => ?_) (fun c_246 => ?_)
                              · exact absurd c_246 (by omega)
                              · refine lv_iload hx hb dL_isBody_249 (lv_at hl 13 rfl) ?_
                                have K_259 : ∀ (s9 : Int), (s9 = b2 (0 < r_116)) → (0 ≤ s9 ∧ s9 ≤ 1) → ∀ (ls : Array Slot), lv_has ls 20 [(0, .ref (ad 0)), (1, .int (zi x0)), (2, .int (zi x1)), (3, .ref (ld 0)), (4, .ref (ld 1)), (5, .ref (ld 2)), (6, .ref (ld 3)), (7, .ref (ld 4)), (8, .int (zi o9)), (9, .int (zi y9)), (10, .int (zi r_93)), (11, .int (zi r_100)), (12, .int (zi x12_110)), (13, .int (zi r_116))] → W p l e rmct_L_isBody s m ([.ref (ad 0), .int (zi x0), .int (zi x1), .ref (ld 0), .ref (ld 1), .ref (ld 2), .ref (ld 3), .ref (ld 4)] : List Value).toArray below meth c H locs (0 + 2 + 3 + 3 + 3 + 3 + 3 + 3 + 3 + 3) (0 + 12 + 18 + 18 + 18 + 18 + 18 + 18 + 18 + 180) (MQ below (zWb D cI ad ld (fun r S9 L9 => r = 1 ∧ L9 = L ∧ DK S9 M)) ([.ref (ad 0), .int (zi x0), .int (zi x1), .ref (ld 0), .ref (ld 1), .ref (ld 2), .ref (ld 3), .ref (ld 4)] : List Value).toArray s 100 700 (bA ad ld)) (F0 m 259 ls [.int (zi s9)]) := by
                                  intro s9 h_s9 h_sb ls hl
                                  refine lv_iload hx hb dL_isBody_259 (lv_at hl 11 rfl) ?_
                                  have K_269 : ∀ (t9 : Int), (t9 = b2 (0 < r_100)) → (0 ≤ t9 ∧ t9 ≤ 1) → ∀ (ls : Array Slot), lv_has ls 20 [(0, .ref (ad 0)), (1, .int (zi x0)), (2, .int (zi x1)), (3, .ref (ld 0)), (4, .ref (ld 1)), (5, .ref (ld 2)), (6, .ref (ld 3)), (7, .ref (ld 4)), (8, .int (zi o9)), (9, .int (zi y9)), (10, .int (zi r_93)), (11, .int (zi r_100)), (12, .int (zi x12_110)), (13, .int (zi r_116))] → W p l e rmct_L_isBody s m ([.ref (ad 0), .int (zi x0), .int (zi x1), .ref (ld 0), .ref (ld 1), .ref (ld 2), .ref (ld 3), .ref (ld 4)] : List Value).toArray below meth c H locs (0 + 2 + 3 + 3 + 3 + 3 + 3 + 3 + 3 + 3) (0 + 12 + 18 + 18 + 18 + 18 + 18 + 18 + 18 + 180) (MQ below (zWb D cI ad ld (fun r S9 L9 => r = 1 ∧ L9 = L ∧ DK S9 M)) ([.ref (ad 0), .int (zi x0), .int (zi x1), .ref (ld 0), .ref (ld 1), .ref (ld 2), .ref (ld 3), .ref (ld 4)] : List Value).toArray s 100 700 (bA ad ld)) (F0 m 269 ls [.int (zi t9), .int (zi s9)]) := by
                                    intro t9 h_t9 h_tb ls hl
                                    refine zi_icmp_ne (tgt := 303) hx hb ⟨by omega, by omega⟩ ⟨by omega, by omega⟩ dL_isBody_269 (by decide) (fun c_269 => ?_) (fun c_269 => ?_)
                                    · exact absurd c_269 (by rw [h_s9, h_t9]; exact not_not_intro (b2_iff (by rw [er_100]; exact sp_.2.2.2)))
                                    · refine lv_aload_n hx hb dL_isBody_272 rfl (lv_at hl 0 rfl) ?_
                                      refine lv_iload_n hx hb dL_isBody_273 rfl (lv_at hl 2 rfl) ?_
                                      refine lv_iload hx hb dL_isBody_274 (lv_at hl 12 rfl) ?_
                                      refine lv_iload hx hb dL_isBody_276 (lv_at hl 13 rfl) ?_
                                      refine lc_pub (ld := ld) (L0 := L) (As := [.int (zi x1), .int (zi x12_110), .int (zi r_116)]) (rest := []) (A0 := bA ad ld) ⟨hx, hb, hml, hown, hts⟩ (ct_X7_where l hst D cI cZ cJ sa ad S_214 hD_214.1 hdis.1 x1 x12_110 r_116 ⟨by omega, by omega⟩ ⟨by omega, by omega⟩ ⟨by omega, by omega⟩) (cwV 3 hts gL_isBody_X7_where rfl rfl rfl (by decide +kernel) ⟨Nat.le_of_ble_eq_true rfl, Nat.le_of_ble_eq_true rfl⟩) rfl hK hX hdis (fun _ h => h) hS hP hL (nox_where hD_214 (by omega) (by omega) ⟨by omega, by omega⟩ (by omega)) rfl hl.1 rfl (Nat.le_of_ble_eq_true rfl) dL_isBody_278 ⟨(by show _ ≤ (100 : Nat); omega), (by show _ ≤ (700 : Nat); omega)⟩ (fun r_278 S_278 H locs hp_278 _ _ hP hL hS => ?_)
                                      obtain ⟨er_278, hD_278⟩ := q_where hD_214 (by omega) (by omega) hp_278
                                      rw [er_116, wh_end] at er_278
                                      refine zi_iconst hx hb dL_isBody_281 ?_
                                      refine zi_icmp_ne (tgt := 303) hx hb ⟨by omega, by omega⟩ ⟨by decide, by decide⟩ dL_isBody_282 (by decide) (fun c_282 => ?_) (fun c_282 => ?_)
                                      · exact absurd c_282 (by omega)
                                      · refine lv_aload_n hx hb dL_isBody_285 rfl (lv_at hl 0 rfl) ?_
                                        refine zi_bipush hx hb dL_isBody_286 (by decide) ?_
                                        refine lv_iload_n hx hb dL_isBody_288 rfl (lv_at hl 2 rfl) ?_
                                        refine lv_iload hx hb dL_isBody_289 (lv_at hl 11 rfl) ?_
                                        refine lc_SW (As := [.ref (ad 0), .int (zi 6), .int (zi x1), .int (zi r_100)]) (rest := []) (A0 := bA ad ld) ⟨hx, hb, hml, hown, hts⟩ (ct_L_asks6 l hst D cI cZ cJ sa ad ld S_278 L M hdis hG hD_278 x1 r_100 ⟨by omega, by omega⟩ ⟨by omega, by omega⟩) (vx_cwSW 4 hts gL_isBody_L_asks rfl rfl rfl (by decide +kernel) ⟨Nat.le_of_ble_eq_true rfl, Nat.le_of_ble_eq_true rfl⟩) hK hX hQ (fun _ h => h) hS hP hL rfl hl.1 rfl (Nat.le_of_ble_eq_true rfl) dL_isBody_291 ⟨(by show _ ≤ (100 : Nat); omega), (by show _ ≤ (700 : Nat); omega)⟩ (fun r_291 S_291 L_291 H locs hp_291 _ _ hP hL hS => ?_)
                                        obtain ⟨er_291, eL_291, hD_291⟩ := q_ask6n hD_278 (by omega) (by omega) er_100 hp_291
                                        rw [eL_291] at hL
                                        refine lv_ldc (v := zi (-70007)) hx hb hown (hts _ ci38_L_isBody) dL_isBody_294 ?_
                                        refine zi_icmp_ne (tgt := 303) hx hb ⟨by omega, by omega⟩ ⟨by decide, by decide⟩ dL_isBody_296 (by decide) (fun c_296 => ?_) (fun c_296 => ?_)
                                        · exact absurd c_296 (by omega)
                                        · refine zi_iconst hx hb dL_isBody_299 ?_
                                          refine lv_goto (tgt := 304) hx hb dL_isBody_300 (by decide) ?_
                                          refine lv_istore (lv' := [(14, .int (zi 1)), (0, .ref (ad 0)), (1, .int (zi x0)), (2, .int (zi x1)), (3, .ref (ld 0)), (4, .ref (ld 1)), (5, .ref (ld 2)), (6, .ref (ld 3)), (7, .ref (ld 4)), (8, .int (zi o9)), (9, .int (zi y9)), (10, .int (zi r_93)), (11, .int (zi r_100)), (12, .int (zi x12_110)), (13, .int (zi r_116))]) hx hb dL_isBody_304 hl (by decide) rfl (fun ls hl => ?_)
                                          refine zi_iconst hx hb dL_isBody_306 ?_
                                          have K_309 : ∀ (k : Nat) (i9 j9 : Int) (T : ZS), (i9 = 1) → (1 ≤ j9 ∧ j9 ≤ 4) → (DK T M) → (4 - j9 < (k : Int)) → ∀ (H : Heap) (locs : List Loc), va_P D vwCl (dW cI ad T) H → va_P D vwCl (lW cI ld L) H → va_S (bA ad ld) s.heap H locs → ∀ (ls : Array Slot), lv_has ls 20 [(0, .ref (ad 0)), (1, .int (zi x0)), (2, .int (zi x1)), (3, .ref (ld 0)), (4, .ref (ld 1)), (5, .ref (ld 2)), (6, .ref (ld 3)), (7, .ref (ld 4)), (8, .int (zi o9)), (9, .int (zi y9)), (10, .int (zi r_93)), (11, .int (zi r_100)), (12, .int (zi x12_110)), (13, .int (zi r_116)), (14, .int (zi i9)), (15, .int (zi j9))] → W p l e rmct_L_isBody s m ([.ref (ad 0), .int (zi x0), .int (zi x1), .ref (ld 0), .ref (ld 1), .ref (ld 2), .ref (ld 3), .ref (ld 4)] : List Value).toArray below meth c H locs (33 + 6 * (j9 - 1).toNat) (360 + 36 * (j9 - 1).toNat) (MQ below (zWb D cI ad ld (fun r S9 L9 => r = 1 ∧ L9 = L ∧ DK S9 M)) ([.ref (ad 0), .int (zi x0), .int (zi x1), .ref (ld 0), .ref (ld 1), .ref (ld 2), .ref (ld 3), .ref (ld 4)] : List Value).toArray s 100 700 (bA ad ld)) (F0 m 309 ls []) := by
                                            intro k
                                            induction k with
                                            | zero => intro i9 j9 T h_i9 h_j9 hD_T hk; exact absurd hk (by omega)
                                            | succ k ih_309 =>
                                              intro i9 j9 T h_i9 h_j9 hD_T hk H locs hP hL hS ls hl
                                              refine lv_iload hx hb dL_isBody_309 (lv_at hl 15 rfl) ?_
                                              refine lv_iload hx hb dL_isBody_311 (lv_at hl 13 rfl) ?_
                                              have K_363 : ∀ (ls : Array Slot), lv_has ls 20 [(0, .ref (ad 0)), (1, .int (zi x0)), (2, .int (zi x1)), (3, .ref (ld 0)), (4, .ref (ld 1)), (5, .ref (ld 2)), (6, .ref (ld 3)), (7, .ref (ld 4)), (8, .int (zi o9)), (9, .int (zi y9)), (10, .int (zi r_93)), (11, .int (zi r_100)), (12, .int (zi x12_110)), (13, .int (zi r_116)), (14, .int (zi i9))] → W p l e rmct_L_isBody s m ([.ref (ad 0), .int (zi x0), .int (zi x1), .ref (ld 0), .ref (ld 1), .ref (ld 2), .ref (ld 3), .ref (ld 4)] : List Value).toArray below meth c H locs 51 468 (MQ below (zWb D cI ad ld (fun r S9 L9 => r = 1 ∧ L9 = L ∧ DK S9 M)) ([.ref (ad 0), .int (zi x0), .int (zi x1), .ref (ld 0), .ref (ld 1), .ref (ld 2), .ref (ld 3), .ref (ld 4)] : List Value).toArray s 100 700 (bA ad ld)) (F0 m 363 ls []) := by
                                                intro ls hl
                                                refine lv_iload hx hb dL_isBody_363 (lv_at hl 11 rfl) ?_
                                                have K_657 : ∀ (i7 : Int) (T7 : ZS), (i7 = 1) → (DK T7 M) → ∀ (H : Heap) (locs : List Loc), va_P D vwCl (dW cI ad T7) H → va_P D vwCl (lW cI ld L) H → va_S (bA ad ld) s.heap H locs → ∀ (ls : Array Slot), lv_has ls 20 [(0, .ref (ad 0)), (1, .int (zi x0)), (2, .int (zi x1)), (3, .ref (ld 0)), (4, .ref (ld 1)), (5, .ref (ld 2)), (6, .ref (ld 3)), (7, .ref (ld 4)), (8, .int (zi o9)), (9, .int (zi y9)), (10, .int (zi r_93)), (11, .int (zi r_100)), (12, .int (zi x12_110)), (13, .int (zi r_116)), (14, .int (zi i7))] → W p l e rmct_L_isBody s m ([.ref (ad 0), .int (zi x0), .int (zi x1), .ref (ld 0), .ref (ld 1), .ref (ld 2), .ref (ld 3), .ref (ld 4)] : List Value).toArray below meth c H locs 81 648 (MQ below (zWb D cI ad ld (fun r S9 L9 => r = 1 ∧ L9 = L ∧ DK S9 M)) ([.ref (ad 0), .int (zi x0), .int (zi x1), .ref (ld 0), .ref (ld 1), .ref (ld 2), .ref (ld 3), .ref (ld 4)] : List Value).toArray s 100 700 (bA ad ld)) (F0 m 657 ls []) := by
                                                  intro i7 T7 h_i7 hD_T7 H locs hP hL hS ls hl
                                                  refine lv_iload hx hb dL_isBody_657 (lv_at hl 14 rfl) ?_
                                                  refine zi_if_eq (tgt := 682) hx hb ⟨by omega, by omega⟩ dL_isBody_659 (by decide) (fun c_659 => ?_) (fun c_659 => ?_)
                                                  · exact absurd c_659 (by omega)
                                                  · refine lv_iload_n hx hb dL_isBody_662 rfl (lv_at hl 1 rfl) ?_
                                                    refine zi_iconst hx hb dL_isBody_663 ?_
                                                    refine zi_irem hx hb ⟨by omega, by omega⟩ ⟨by omega, by omega⟩ (by omega) (by omega) dL_isBody_664 ?_
                                                    refine zi_if_gt (tgt := 678) hx hb ⟨by omega, by omega⟩ dL_isBody_665 (by decide) (fun c_665 => ?_) (fun c_665 => ?_)
                                                    · refine zi_iconst hx hb dL_isBody_678 ?_
                                                      refine lv_goto (tgt := 683) hx hb dL_isBody_679 (by decide) ?_
                                                      exact lr_wz (S1 := T7) (L1 := L) hx hb hr hlocks dL_isBody_683 (Or.inr rfl) hP hL hS ⟨by omega, by omega⟩ (by exact ⟨by omega, rfl, hD_T7⟩)
                                                    · refine lv_aload_n hx hb dL_isBody_668 rfl (lv_at hl 0 rfl) ?_
                                                      refine lv_iload_n hx hb dL_isBody_669 rfl (lv_at hl 2 rfl) ?_
                                                      refine lc_pub (ld := ld) (L0 := L) (As := [.int (zi x1)]) (rest := []) (A0 := bA ad ld) ⟨hx, hb, hml, hown, hts⟩ (ct_X7_orbitsAnew l hst D cI cZ cJ sa ad T7 hD_T7.1 hdis.1 x1 ⟨by omega, by omega⟩) (cwV 1 hts gL_isBody_X7_orbitsAnew rfl rfl rfl (by decide +kernel) ⟨Nat.le_of_ble_eq_true rfl, Nat.le_of_ble_eq_true rfl⟩) rfl hK hX hdis (fun _ h => h) hS hP hL (nox_anew hD_T7 (by omega) (by omega)) rfl hl.1 rfl (Nat.le_of_ble_eq_true rfl) dL_isBody_670 ⟨(by show _ ≤ (100 : Nat); omega), (by show _ ≤ (700 : Nat); omega)⟩ (fun r_670 S_670 H locs hp_670 _ _ hP hL hS => ?_)
                                                      obtain ⟨er_670, hD_670⟩ := q_anew hD_T7 (by omega) (by omega) hp_670
                                                      refine lv_iload hx hb dL_isBody_673 (lv_at hl 11 rfl) ?_
                                                      refine zi_icmp_ne (tgt := 682) hx hb ⟨by omega, by omega⟩ ⟨by omega, by omega⟩ dL_isBody_675 (by decide) (fun c_675 => ?_) (fun c_675 => ?_)
                                                      · exact absurd c_675 (by rw [er_670, er_100]; exact not_not_intro rfl)
                                                      · refine zi_iconst hx hb dL_isBody_678 ?_
                                                        refine lv_goto (tgt := 683) hx hb dL_isBody_679 (by decide) ?_
                                                        exact lr_wz (S1 := S_670) (L1 := L) hx hb hr hlocks dL_isBody_683 (Or.inr rfl) hP hL hS ⟨by omega, by omega⟩ (by exact ⟨by omega, rfl, hD_670⟩)
                                                refine zi_if_le (tgt := 657) hx hb ⟨by omega, by omega⟩ dL_isBody_365 (by decide) (fun c_365 => ?_) (fun c_365 => ?_)
                                                · exact lw_wd (by omega) (by omega) (K_657 i9 T (by first | omega | assumption) hD_T _ _ hP hL hS _ (lv_sub hl [0, 1, 2, 3, 4, 5, 6, 7, 8, 9, 10, 11, 12, 13, 14] rfl))
                                                · refine lv_iload hx hb dL_isBody_368 (lv_at hl 14 rfl) ?_
                                                  refine zi_if_eq (tgt := 657) hx hb ⟨by omega, by omega⟩ dL_isBody_370 (by decide) (fun c_370 => ?_) (fun c_370 => ?_)
                                                  · exact absurd c_370 (by omega)
                                                  · refine lv_iload_n hx hb dL_isBody_373 rfl (lv_at hl 1 rfl) ?_
                                                    refine zi_sipush hx hb dL_isBody_374 (by decide) ?_
                                                    refine zi_idiv hx hb ⟨by omega, by omega⟩ ⟨by omega, by omega⟩ (by omega) (by omega) dL_isBody_377 ?_
                                                    refine lv_iload hx hb dL_isBody_378 (lv_at hl 11 rfl) ?_
                                                    refine zi_irem hx hb ⟨by omega, by omega⟩ ⟨by omega, by omega⟩ (by omega) (by omega) dL_isBody_380 ?_
                                                    refine zi_top (fun x15_381 ex15_381 => ?_)
                                                    refine lv_istore (lv' := [(15, .int (zi x15_381)), (0, .ref (ad 0)), (1, .int (zi x0)), (2, .int (zi x1)), (3, .ref (ld 0)), (4, .ref (ld 1)), (5, .ref (ld 2)), (6, .ref (ld 3)), (7, .ref (ld 4)), (8, .int (zi o9)), (9, .int (zi y9)), (10, .int (zi r_93)), (11, .int (zi r_100)), (12, .int (zi x12_110)), (13, .int (zi r_116)), (14, .int (zi i9))]) hx hb dL_isBody_381 hl (by decide) rfl (fun ls hl => ?_)
                                                    have m1_ := Int.emod_nonneg (x0 / 1000) (show r_100 ≠ 0 by omega)
                                                    have m2_ := Int.emod_lt_of_pos (x0 / 1000) (show 0 < r_100 by omega)
                                                    refine lv_aload_n hx hb dL_isBody_383 rfl (lv_at hl 1 rfl) ?_
                                                    refine lv_iload_n hx hb dL_isBody_384 rfl (lv_at hl 3 rfl) ?_
                                                    refine lv_iload hx hb dL_isBody_385 (lv_at hl 0 rfl) ?_
                                                    refine zi_iconst hx hb dL_isBody_387 ?_
                                                    refine lc_pub (ld := ld) (L0 := L) (As := [.int (zi x1), .int (zi x15_381), .int (zi 0)]) (rest := []) (A0 := bA ad ld) ⟨hx, hb, hml, hown, hts⟩ (ct_X7_orbit l hst D cI cZ cJ sa ad T hD_T.1 hdis.1 x1 x15_381 0 ⟨by omega, by omega⟩ ⟨by omega, by omega⟩ ⟨by decide, by decide⟩) (cwV 3 hts gL_isBody_X7_orbit rfl rfl rfl (by decide +kernel) ⟨Nat.le_of_ble_eq_true rfl, Nat.le_of_ble_eq_true rfl⟩) rfl hK hX hdis (fun _ h => h) hS hP hL (nox_orbit hD_T (by omega) (by omega) ⟨by omega, by omega⟩ ⟨by omega, by omega⟩) rfl hl.1 rfl (Nat.le_of_ble_eq_true rfl) dL_isBody_388 ⟨(by show _ ≤ (100 : Nat); omega), (by show _ ≤ (700 : Nat); omega)⟩ (fun r_388 S_388 H locs hp_388 _ _ hP hL hS => ?_)
                                                    obtain ⟨er_388, hD_388⟩ := q_orbit hD_T (by omega) (by omega) hp_388
                                                    obtain ⟨ky9, ya_388, yb_388, yk_388, er_388⟩ := er_388
                                                    rw [orv0] at er_388
                                                    refine lv_istore (lv' := [(16, .int (zi r_388)), (15, .int (zi x15_381)), (0, .ref (ad 0)), (1, .int (zi x0)), (2, .int (zi x1)), (3, .ref (ld 0)), (4, .ref (ld 1)), (5, .ref (ld 2)), (6, .ref (ld 3)), (7, .ref (ld 4)), (8, .int (zi o9)), (9, .int (zi y9)), (10, .int (zi r_93)), (11, .int (zi r_100)), (12, .int (zi x12_110)), (13, .int (zi r_116)), (14, .int (zi i9))]) hx hb dL_isBody_391 hl (by decide) rfl (fun ls hl => ?_)
                                                    refine lv_aload_n hx hb dL_isBody_393 rfl (lv_at hl 2 rfl) ?_
                                                    refine lv_iload_n hx hb dL_isBody_394 rfl (lv_at hl 4 rfl) ?_
                                                    refine lv_iload hx hb dL_isBody_395 (lv_at hl 1 rfl) ?_
                                                    refine zi_iconst hx hb dL_isBody_397 ?_
                                                    refine lc_pub (ld := ld) (L0 := L) (As := [.int (zi x1), .int (zi x15_381), .int (zi 1)]) (rest := []) (A0 := bA ad ld) ⟨hx, hb, hml, hown, hts⟩ (ct_X7_orbit l hst D cI cZ cJ sa ad S_388 hD_388.1 hdis.1 x1 x15_381 1 ⟨by omega, by omega⟩ ⟨by omega, by omega⟩ ⟨by decide, by decide⟩) (cwV 3 hts gL_isBody_X7_orbit rfl rfl rfl (by decide +kernel) ⟨Nat.le_of_ble_eq_true rfl, Nat.le_of_ble_eq_true rfl⟩) rfl hK hX hdis (fun _ h => h) hS hP hL (nox_orbit hD_388 (by omega) (by omega) ⟨by omega, by omega⟩ ⟨by omega, by omega⟩) rfl hl.1 rfl (Nat.le_of_ble_eq_true rfl) dL_isBody_398 ⟨(by show _ ≤ (100 : Nat); omega), (by show _ ≤ (700 : Nat); omega)⟩ (fun r_398 S_398 H locs hp_398 _ _ hP hL hS => ?_)
                                                    obtain ⟨er_398, hD_398⟩ := q_orbit hD_388 (by omega) (by omega) hp_398
                                                    obtain ⟨y_398, -, -, yk_398, er_398⟩ := er_398
                                                    have yu_398 := rkP_u yk_398 yk_388
                                                    rw [yu_398, orv1] at er_398
                                                    refine lv_istore (lv' := [(17, .int (zi r_398)), (16, .int (zi r_388)), (15, .int (zi x15_381)), (0, .ref (ad 0)), (1, .int (zi x0)), (2, .int (zi x1)), (3, .ref (ld 0)), (4, .ref (ld 1)), (5, .ref (ld 2)), (6, .ref (ld 3)), (7, .ref (ld 4)), (8, .int (zi o9)), (9, .int (zi y9)), (10, .int (zi r_93)), (11, .int (zi r_100)), (12, .int (zi x12_110)), (13, .int (zi r_116)), (14, .int (zi i9))]) hx hb dL_isBody_401 hl (by decide) rfl (fun ls hl => ?_)
                                                    refine lv_aload_n hx hb dL_isBody_403 rfl (lv_at hl 3 rfl) ?_
                                                    refine lv_iload_n hx hb dL_isBody_404 rfl (lv_at hl 5 rfl) ?_
                                                    refine lv_iload hx hb dL_isBody_405 (lv_at hl 2 rfl) ?_
                                                    refine zi_iconst hx hb dL_isBody_407 ?_
                                                    refine lc_pub (ld := ld) (L0 := L) (As := [.int (zi x1), .int (zi x15_381), .int (zi 2)]) (rest := []) (A0 := bA ad ld) ⟨hx, hb, hml, hown, hts⟩ (ct_X7_orbit l hst D cI cZ cJ sa ad S_398 hD_398.1 hdis.1 x1 x15_381 2 ⟨by omega, by omega⟩ ⟨by omega, by omega⟩ ⟨by decide, by decide⟩) (cwV 3 hts gL_isBody_X7_orbit rfl rfl rfl (by decide +kernel) ⟨Nat.le_of_ble_eq_true rfl, Nat.le_of_ble_eq_true rfl⟩) rfl hK hX hdis (fun _ h => h) hS hP hL (nox_orbit hD_398 (by omega) (by omega) ⟨by omega, by omega⟩ ⟨by omega, by omega⟩) rfl hl.1 rfl (Nat.le_of_ble_eq_true rfl) dL_isBody_408 ⟨(by show _ ≤ (100 : Nat); omega), (by show _ ≤ (700 : Nat); omega)⟩ (fun r_408 S_408 H locs hp_408 _ _ hP hL hS => ?_)
                                                    obtain ⟨er_408, hD_408⟩ := q_orbit hD_398 (by omega) (by omega) hp_408
                                                    obtain ⟨y_408, -, -, yk_408, er_408⟩ := er_408
                                                    have yu_408 := rkP_u yk_408 yk_388
                                                    rw [yu_408, orv2] at er_408
                                                    have kf := key_fit hG.2.1 (rk_mem yk_388)
                                                    refine lv_istore (lv' := [(18, .int (zi r_408)), (17, .int (zi r_398)), (16, .int (zi r_388)), (15, .int (zi x15_381)), (0, .ref (ad 0)), (1, .int (zi x0)), (2, .int (zi x1)), (3, .ref (ld 0)), (4, .ref (ld 1)), (5, .ref (ld 2)), (6, .ref (ld 3)), (7, .ref (ld 4)), (8, .int (zi o9)), (9, .int (zi y9)), (10, .int (zi r_93)), (11, .int (zi r_100)), (12, .int (zi x12_110)), (13, .int (zi r_116)), (14, .int (zi i9))]) hx hb dL_isBody_411 hl (by decide) rfl (fun ls hl => ?_)
                                                    refine zi_iconst hx hb dL_isBody_413 ?_
                                                    have K_416 : ∀ (k : Nat) (n : Nat) (i8 j8 : Int), (j8 + (n : Int) = 40) → (0 ≤ j8) → (i8 = 1) → ((n : Int) < (k : Int)) → ∀ (ls : Array Slot), lv_has ls 20 [(0, .ref (ad 0)), (1, .int (zi x0)), (2, .int (zi x1)), (3, .ref (ld 0)), (4, .ref (ld 1)), (5, .ref (ld 2)), (6, .ref (ld 3)), (7, .ref (ld 4)), (8, .int (zi o9)), (9, .int (zi y9)), (10, .int (zi r_93)), (11, .int (zi r_100)), (12, .int (zi x12_110)), (13, .int (zi r_116)), (15, .int (zi x15_381)), (16, .int (zi r_388)), (17, .int (zi r_398)), (18, .int (zi r_408)), (14, .int (zi i8)), (19, .int (zi j8))] → W p l e rmct_L_isBody s m ([.ref (ad 0), .int (zi x0), .int (zi x1), .ref (ld 0), .ref (ld 1), .ref (ld 2), .ref (ld 3), .ref (ld 4)] : List Value).toArray below meth c H locs (51 + 4 + 4 + 4) (468 + 24 + 24 + 24) (MQ below (zWb D cI ad ld (fun r S9 L9 => r = 1 ∧ L9 = L ∧ DK S9 M)) ([.ref (ad 0), .int (zi x0), .int (zi x1), .ref (ld 0), .ref (ld 1), .ref (ld 2), .ref (ld 3), .ref (ld 4)] : List Value).toArray s 100 700 (bA ad ld)) (F0 m 416 ls []) := by
                                                      intro k
                                                      induction k with
                                                      | zero => intro n i8 j8 h_n8 h_i8 h_d8 hk; exact absurd hk (by omega)
                                                      | succ k ih_416 =>
                                                        intro n i8 j8 h_n8 h_i8 h_d8 hk ls hl
                                                        refine lv_iload hx hb dL_isBody_416 (lv_at hl 19 rfl) ?_
                                                        refine lv_aload hx hb dL_isBody_418 (lv_at hl 7 rfl) ?_
                                                        refine zi_iconst hx hb dL_isBody_420 ?_
                                                        refine zi_iald hx hb hK.1 hL 4 0 rfl rfl (by omega) (by omega) (by decide) dL_isBody_421 ?_
                                                        refine zi_is 40 (GL.c hG).1 ?_
                                                        have q_421 := GL.c hG
                                                        refine zi_icmp_ge (tgt := 498) hx hb ⟨by omega, by omega⟩ ⟨by decide, by decide⟩ dL_isBody_422 (by decide) (fun c_422 => ?_) (fun c_422 => ?_)
                                                        · obtain rfl : n = 0 := by omega
                                                          refine lv_iload hx hb dL_isBody_498 (lv_at hl 18 rfl) ?_
                                                          refine zi_if_eq (tgt := 654) hx hb ⟨by omega, by omega⟩ dL_isBody_500 (by decide) (fun c_500 => ?_) (fun c_500 => ?_)
                                                          · exact absurd c_500 (by omega)
                                                          · refine lv_iload hx hb dL_isBody_503 (lv_at hl 16 rfl) ?_
                                                            refine zi_bipush hx hb dL_isBody_505 (by decide) ?_
                                                            refine zi_icmp_le (tgt := 654) hx hb ⟨by omega, by omega⟩ ⟨by decide, by decide⟩ dL_isBody_507 (by decide) (fun c_507 => ?_) (fun c_507 => ?_)
                                                            · exact absurd c_507 (by omega)
                                                            · refine lv_iload hx hb dL_isBody_510 (lv_at hl 16 rfl) ?_
                                                              refine zi_bipush hx hb dL_isBody_512 (by decide) ?_
                                                              refine zi_icmp_ge (tgt := 654) hx hb ⟨by omega, by omega⟩ ⟨by decide, by decide⟩ dL_isBody_514 (by decide) (fun c_514 => ?_) (fun c_514 => ?_)
                                                              · exact absurd c_514 (by omega)
                                                              · refine lv_iload hx hb dL_isBody_517 (lv_at hl 17 rfl) ?_
                                                                refine zi_bipush hx hb dL_isBody_519 (by decide) ?_
                                                                refine zi_icmp_le (tgt := 654) hx hb ⟨by omega, by omega⟩ ⟨by decide, by decide⟩ dL_isBody_521 (by decide) (fun c_521 => ?_) (fun c_521 => ?_)
                                                                · exact absurd c_521 (by omega)
                                                                · refine lv_iload hx hb dL_isBody_524 (lv_at hl 17 rfl) ?_
                                                                  refine zi_iconst hx hb dL_isBody_526 ?_
                                                                  refine zi_icmp_ge (tgt := 654) hx hb ⟨by omega, by omega⟩ ⟨by decide, by decide⟩ dL_isBody_527 (by decide) (fun c_527 => ?_) (fun c_527 => ?_)
                                                                  · exact absurd c_527 (by omega)
                                                                  · refine lv_iload hx hb dL_isBody_530 (lv_at hl 15 rfl) ?_
                                                                    refine zi_if_lt (tgt := 654) hx hb ⟨by omega, by omega⟩ dL_isBody_532 (by decide) (fun c_532 => ?_) (fun c_532 => ?_)
                                                                    · exact absurd c_532 (by omega)
                                                                    · refine lv_iload hx hb dL_isBody_535 (lv_at hl 15 rfl) ?_
                                                                      refine zi_sipush hx hb dL_isBody_537 (by decide) ?_
                                                                      refine zi_icmp_ge (tgt := 654) hx hb ⟨by omega, by omega⟩ ⟨by decide, by decide⟩ dL_isBody_540 (by decide) (fun c_540 => ?_) (fun c_540 => ?_)
                                                                      · exact absurd c_540 (by omega)
                                                                      · refine lv_iload hx hb dL_isBody_543 (lv_at hl 14 rfl) ?_
                                                                        have K_603 : ∀ (T6 : ZS), (DK T6 M) → ∀ (H : Heap) (locs : List Loc), va_P D vwCl (dW cI ad T6) H → va_P D vwCl (lW cI ld L) H → va_S (bA ad ld) s.heap H locs → ∀ (ls : Array Slot), lv_has ls 20 [(0, .ref (ad 0)), (1, .int (zi x0)), (2, .int (zi x1)), (3, .ref (ld 0)), (4, .ref (ld 1)), (5, .ref (ld 2)), (6, .ref (ld 3)), (7, .ref (ld 4)), (8, .int (zi o9)), (9, .int (zi y9)), (10, .int (zi r_93)), (11, .int (zi r_100)), (12, .int (zi x12_110)), (13, .int (zi r_116)), (15, .int (zi x15_381)), (16, .int (zi r_388)), (17, .int (zi r_398)), (18, .int (zi r_408))] → W p l e rmct_L_isBody s m ([.ref (ad 0), .int (zi x0), .int (zi x1), .ref (ld 0), .ref (ld 1), .ref (ld 2), .ref (ld 3), .ref (ld 4)] : List Value).toArray below meth c H locs 75 612 (MQ below (zWb D cI ad ld (fun r S9 L9 => r = 1 ∧ L9 = L ∧ DK S9 M)) ([.ref (ad 0), .int (zi x0), .int (zi x1), .ref (ld 0), .ref (ld 1), .ref (ld 2), .ref (ld 3), .ref (ld 4)] : List Value).toArray s 100 700 (bA ad ld)) (F0 m 603 ls []) := by
                                                                          intro T6 hD_T6 H locs hP hL hS ls hl
                                                                          refine lv_aload_n hx hb dL_isBody_603 rfl (lv_at hl 0 rfl) ?_
                                                                          refine lv_iload_n hx hb dL_isBody_604 rfl (lv_at hl 2 rfl) ?_
                                                                          refine lv_iload hx hb dL_isBody_605 (lv_at hl 12 rfl) ?_
                                                                          refine zi_iconst hx hb dL_isBody_607 ?_
                                                                          refine lc_pub (ld := ld) (L0 := L) (As := [.int (zi x1), .int (zi x12_110), .int (zi 0)]) (rest := []) (A0 := bA ad ld) ⟨hx, hb, hml, hown, hts⟩ (ct_X7_where l hst D cI cZ cJ sa ad T6 hD_T6.1 hdis.1 x1 x12_110 0 ⟨by omega, by omega⟩ ⟨by omega, by omega⟩ ⟨by decide, by decide⟩) (cwV 3 hts gL_isBody_X7_where rfl rfl rfl (by decide +kernel) ⟨Nat.le_of_ble_eq_true rfl, Nat.le_of_ble_eq_true rfl⟩) rfl hK hX hdis (fun _ h => h) hS hP hL (nox_where hD_T6 (by omega) (by omega) ⟨by omega, by omega⟩ (by omega)) rfl hl.1 rfl (Nat.le_of_ble_eq_true rfl) dL_isBody_608 ⟨(by show _ ≤ (100 : Nat); omega), (by show _ ≤ (700 : Nat); omega)⟩ (fun r_608 S_608 H locs hp_608 _ _ hP hL hS => ?_)
                                                                          obtain ⟨er_608, hD_608⟩ := q_where hD_T6 (by omega) (by omega) hp_608
                                                                          have wr3_ := wh_rng (l := kE M x1) (t := x12_110) (r := 0) (by omega)
                                                                          rw [← er_608] at wr3_
                                                                          have wb_ := wh_btw (t := x12_110) (rk_mem yk_388)
                                                                          refine lv_iload hx hb dL_isBody_611 (lv_at hl 15 rfl) ?_
                                                                          refine lv_iload hx hb dL_isBody_613 (lv_at hl 16 rfl) ?_
                                                                          refine lv_iload hx hb dL_isBody_615 (lv_at hl 17 rfl) ?_
                                                                          refine lv_iload hx hb dL_isBody_617 (lv_at hl 12 rfl) ?_
                                                                          refine zk_r (zc_S (As := [.int (zi r_388), .int (zi r_398), .int (zi r_408), .int (zi x12_110)]) (rest := [.int (zi r_608)]) ⟨hx, hb, hml, hown, hts⟩ (ct_L_placeBy l D cI cZ cJ r_388 r_398 r_408 x12_110 ⟨by omega, by omega⟩ ⟨by omega, by omega⟩ ⟨by omega, by omega⟩ ⟨by omega, by omega⟩ ⟨by omega, by omega⟩ ⟨by omega, by omega⟩ ⟨by omega, by omega⟩ ⟨by omega, by omega⟩) (va_cwS 4 hts gL_isBody_L_placeBy rfl rfl rfl (by decide +kernel) ⟨Nat.le_of_ble_eq_true rfl, Nat.le_of_ble_eq_true rfl⟩) hK va_P_nil rfl hl.1 rfl (Nat.le_of_ble_eq_true rfl) dL_isBody_619 ⟨(by show _ ≤ (100 : Nat); omega), (by show _ ≤ (700 : Nat); omega)⟩) ?_
                                                                          refine zi_top (fun (r_619 : Int) (er_619 : r_619 = (r_388 + mvM r_398 r_408 x12_110) % 3600) => ?_)
                                                                          have fr_619 : (0 : Int) ≤ r_619 ∧ r_619 ≤ 3599 := by rw [er_619]; exact ⟨Int.emod_nonneg _ (by decide), Int.le_of_lt_add_one (Int.emod_lt_of_pos _ (by decide))⟩
                                                                          have e619 : r_619 = plM ky9 x12_110 := by rw [er_619, er_388, er_398, er_408]; exact kf.2.2.2.1 _
                                                                          refine zi_icmp_gt (tgt := 654) hx hb ⟨by omega, by omega⟩ ⟨by omega, by omega⟩ dL_isBody_622 (by decide) (fun c_622 => ?_) (fun c_622 => ?_)
                                                                          · exact absurd c_622 (by have w9 := wb_.1; rw [← er_608, ← e619] at w9; omega)
                                                                          · refine lv_aload_n hx hb dL_isBody_625 rfl (lv_at hl 0 rfl) ?_
                                                                            refine lv_iload_n hx hb dL_isBody_626 rfl (lv_at hl 2 rfl) ?_
                                                                            refine lv_iload hx hb dL_isBody_627 (lv_at hl 12 rfl) ?_
                                                                            refine lv_iload hx hb dL_isBody_629 (lv_at hl 13 rfl) ?_
                                                                            refine zi_iconst hx hb dL_isBody_631 ?_
                                                                            refine zi_isub hx hb dL_isBody_632 ?_
                                                                            refine lc_pub (ld := ld) (L0 := L) (As := [.int (zi x1), .int (zi x12_110), .int (zi (r_116 - 1))]) (rest := []) (A0 := bA ad ld) ⟨hx, hb, hml, hown, hts⟩ (ct_X7_where l hst D cI cZ cJ sa ad S_608 hD_608.1 hdis.1 x1 x12_110 (r_116 - 1) ⟨by omega, by omega⟩ ⟨by omega, by omega⟩ ⟨by omega, by omega⟩) (cwV 3 hts gL_isBody_X7_where rfl rfl rfl (by decide +kernel) ⟨Nat.le_of_ble_eq_true rfl, Nat.le_of_ble_eq_true rfl⟩) rfl hK hX hdis (fun _ h => h) hS hP hL (nox_where hD_608 (by omega) (by omega) ⟨by omega, by omega⟩ (by omega)) rfl hl.1 rfl (Nat.le_of_ble_eq_true rfl) dL_isBody_633 ⟨(by show _ ≤ (100 : Nat); omega), (by show _ ≤ (700 : Nat); omega)⟩ (fun r_633 S_633 H locs hp_633 _ _ hP hL hS => ?_)
                                                                            obtain ⟨er_633, hD_633⟩ := q_where hD_608 (by omega) (by omega) hp_633
                                                                            have wr4_ := wh_rng (l := kE M x1) (t := x12_110) (r := r_116 - 1) (by omega)
                                                                            rw [← er_633] at wr4_
                                                                            refine lv_iload hx hb dL_isBody_636 (lv_at hl 15 rfl) ?_
                                                                            refine lv_iload hx hb dL_isBody_638 (lv_at hl 16 rfl) ?_
                                                                            refine lv_iload hx hb dL_isBody_640 (lv_at hl 17 rfl) ?_
                                                                            refine lv_iload hx hb dL_isBody_642 (lv_at hl 12 rfl) ?_
                                                                            refine zk_r (zc_S (As := [.int (zi r_388), .int (zi r_398), .int (zi r_408), .int (zi x12_110)]) (rest := [.int (zi r_633)]) ⟨hx, hb, hml, hown, hts⟩ (ct_L_placeBy l D cI cZ cJ r_388 r_398 r_408 x12_110 ⟨by omega, by omega⟩ ⟨by omega, by omega⟩ ⟨by omega, by omega⟩ ⟨by omega, by omega⟩ ⟨by omega, by omega⟩ ⟨by omega, by omega⟩ ⟨by omega, by omega⟩ ⟨by omega, by omega⟩) (va_cwS 4 hts gL_isBody_L_placeBy rfl rfl rfl (by decide +kernel) ⟨Nat.le_of_ble_eq_true rfl, Nat.le_of_ble_eq_true rfl⟩) hK va_P_nil rfl hl.1 rfl (Nat.le_of_ble_eq_true rfl) dL_isBody_644 ⟨(by show _ ≤ (100 : Nat); omega), (by show _ ≤ (700 : Nat); omega)⟩) ?_
                                                                            refine zi_top (fun (r_644 : Int) (er_644 : r_644 = (r_388 + mvM r_398 r_408 x12_110) % 3600) => ?_)
                                                                            have fr_644 : (0 : Int) ≤ r_644 ∧ r_644 ≤ 3599 := by rw [er_644]; exact ⟨Int.emod_nonneg _ (by decide), Int.le_of_lt_add_one (Int.emod_lt_of_pos _ (by decide))⟩
                                                                            have e644 : r_644 = plM ky9 x12_110 := by rw [er_644, er_388, er_398, er_408]; exact kf.2.2.2.1 _
                                                                            refine zi_icmp_lt (tgt := 654) hx hb ⟨by omega, by omega⟩ ⟨by omega, by omega⟩ dL_isBody_647 (by decide) (fun c_647 => ?_) (fun c_647 => ?_)
                                                                            · exact absurd c_647 (by have w9 := wb_.2; rw [← er_116, ← er_633, ← e644] at w9; omega)
                                                                            · refine zi_iconst hx hb dL_isBody_650 ?_
                                                                              refine lv_goto (tgt := 655) hx hb dL_isBody_651 (by decide) ?_
                                                                              refine lv_istore (lv' := [(14, .int (zi 1)), (0, .ref (ad 0)), (1, .int (zi x0)), (2, .int (zi x1)), (3, .ref (ld 0)), (4, .ref (ld 1)), (5, .ref (ld 2)), (6, .ref (ld 3)), (7, .ref (ld 4)), (8, .int (zi o9)), (9, .int (zi y9)), (10, .int (zi r_93)), (11, .int (zi r_100)), (12, .int (zi x12_110)), (13, .int (zi r_116)), (15, .int (zi x15_381)), (16, .int (zi r_388)), (17, .int (zi r_398)), (18, .int (zi r_408))]) hx hb dL_isBody_655 hl (by decide) rfl (fun ls hl => ?_)
                                                                              exact lw_wd (by omega) (by omega) (K_657 1 S_633 (by first | omega | assumption) hD_633 _ _ hP hL hS _ (lv_sub hl [1, 2, 3, 4, 5, 6, 7, 8, 9, 10, 11, 12, 13, 14, 0] rfl))
                                                                        refine zi_if_eq (tgt := 603) hx hb ⟨by omega, by omega⟩ dL_isBody_545 (by decide) (fun c_545 => ?_) (fun c_545 => ?_)
                                                                        · exact lw_wd (by omega) (by omega) (K_603 S_408 hD_408 _ _ hP hL hS _ (lv_sub hl [0, 1, 2, 3, 4, 5, 6, 7, 8, 9, 10, 11, 12, 13, 14, 15, 16, 17] rfl))
                                                                        · refine zi_sipush hx hb dL_isBody_548 (by decide) ?_
                                                                          refine lv_aload_n hx hb dL_isBody_551 rfl (lv_at hl 0 rfl) ?_
                                                                          refine lv_iload_n hx hb dL_isBody_552 rfl (lv_at hl 2 rfl) ?_
                                                                          refine lv_iload hx hb dL_isBody_553 (lv_at hl 14 rfl) ?_
                                                                          refine zi_iconst hx hb dL_isBody_555 ?_
                                                                          refine zi_isub hx hb dL_isBody_556 ?_
                                                                          refine zi_iconst hx hb dL_isBody_557 ?_
                                                                          refine lc_pub (ld := ld) (L0 := L) (As := [.int (zi x1), .int (zi (x15_381 - 1)), .int (zi 0)]) (rest := [.int (zi 405)]) (A0 := bA ad ld) ⟨hx, hb, hml, hown, hts⟩ (ct_X7_orbit l hst D cI cZ cJ sa ad S_408 hD_408.1 hdis.1 x1 (x15_381 - 1) 0 ⟨by omega, by omega⟩ ⟨by omega, by omega⟩ ⟨by decide, by decide⟩) (cwV 3 hts gL_isBody_X7_orbit rfl rfl rfl (by decide +kernel) ⟨Nat.le_of_ble_eq_true rfl, Nat.le_of_ble_eq_true rfl⟩) rfl hK hX hdis (fun _ h => h) hS hP hL (nox_orbit hD_408 (by omega) (by omega) ⟨by omega, by omega⟩ ⟨by omega, by omega⟩) rfl hl.1 rfl (Nat.le_of_ble_eq_true rfl) dL_isBody_558 ⟨(by show _ ≤ (100 : Nat); omega), (by show _ ≤ (700 : Nat); omega)⟩ (fun r_558 S_558 H locs hp_558 _ _ hP hL hS => ?_)
                                                                          obtain ⟨er_558, hD_558⟩ := q_orbit hD_408 (by omega) (by omega) hp_558
                                                                          obtain ⟨y6, ya_558, yb_558, yk_558, er_558⟩ := er_558
                                                                          rw [orv0] at er_558
                                                                          have kf6 := key_fit hG.2.1 (rk_mem yk_558)
                                                                          refine zi_imul hx hb dL_isBody_561 ?_
                                                                          refine zi_iconst hx hb dL_isBody_562 ?_
                                                                          refine lv_aload_n hx hb dL_isBody_563 rfl (lv_at hl 0 rfl) ?_
                                                                          refine lv_iload_n hx hb dL_isBody_564 rfl (lv_at hl 2 rfl) ?_
                                                                          refine lv_iload hx hb dL_isBody_565 (lv_at hl 14 rfl) ?_
                                                                          refine zi_iconst hx hb dL_isBody_567 ?_
                                                                          refine zi_isub hx hb dL_isBody_568 ?_
                                                                          refine zi_iconst hx hb dL_isBody_569 ?_
                                                                          refine lc_pub (ld := ld) (L0 := L) (As := [.int (zi x1), .int (zi (x15_381 - 1)), .int (zi 1)]) (rest := [.int (zi 5), .int (zi (405 * r_558))]) (A0 := bA ad ld) ⟨hx, hb, hml, hown, hts⟩ (ct_X7_orbit l hst D cI cZ cJ sa ad S_558 hD_558.1 hdis.1 x1 (x15_381 - 1) 1 ⟨by omega, by omega⟩ ⟨by omega, by omega⟩ ⟨by decide, by decide⟩) (cwV 3 hts gL_isBody_X7_orbit rfl rfl rfl (by decide +kernel) ⟨Nat.le_of_ble_eq_true rfl, Nat.le_of_ble_eq_true rfl⟩) rfl hK hX hdis (fun _ h => h) hS hP hL (nox_orbit hD_558 (by omega) (by omega) ⟨by omega, by omega⟩ ⟨by omega, by omega⟩) rfl hl.1 rfl (Nat.le_of_ble_eq_true rfl) dL_isBody_570 ⟨(by show _ ≤ (100 : Nat); omega), (by show _ ≤ (700 : Nat); omega)⟩ (fun r_570 S_570 H locs hp_570 _ _ hP hL hS => ?_)
                                                                          obtain ⟨er_570, hD_570⟩ := q_orbit hD_558 (by omega) (by omega) hp_570
                                                                          obtain ⟨y_570, -, -, yk_570, er_570⟩ := er_570
                                                                          have yu_570 := rkP_u yk_570 yk_558
                                                                          rw [yu_570, orv1] at er_570
                                                                          refine zi_imul hx hb dL_isBody_573 ?_
                                                                          refine zi_iadd hx hb dL_isBody_574 ?_
                                                                          refine lv_aload_n hx hb dL_isBody_575 rfl (lv_at hl 0 rfl) ?_
                                                                          refine lv_iload_n hx hb dL_isBody_576 rfl (lv_at hl 2 rfl) ?_
                                                                          refine lv_iload hx hb dL_isBody_577 (lv_at hl 14 rfl) ?_
                                                                          refine zi_iconst hx hb dL_isBody_579 ?_
                                                                          refine zi_isub hx hb dL_isBody_580 ?_
                                                                          refine zi_iconst hx hb dL_isBody_581 ?_
                                                                          refine lc_pub (ld := ld) (L0 := L) (As := [.int (zi x1), .int (zi (x15_381 - 1)), .int (zi 2)]) (rest := [.int (zi ((405 * r_558) + (5 * r_570)))]) (A0 := bA ad ld) ⟨hx, hb, hml, hown, hts⟩ (ct_X7_orbit l hst D cI cZ cJ sa ad S_570 hD_570.1 hdis.1 x1 (x15_381 - 1) 2 ⟨by omega, by omega⟩ ⟨by omega, by omega⟩ ⟨by decide, by decide⟩) (cwV 3 hts gL_isBody_X7_orbit rfl rfl rfl (by decide +kernel) ⟨Nat.le_of_ble_eq_true rfl, Nat.le_of_ble_eq_true rfl⟩) rfl hK hX hdis (fun _ h => h) hS hP hL (nox_orbit hD_570 (by omega) (by omega) ⟨by omega, by omega⟩ ⟨by omega, by omega⟩) rfl hl.1 rfl (Nat.le_of_ble_eq_true rfl) dL_isBody_582 ⟨(by show _ ≤ (100 : Nat); omega), (by show _ ≤ (700 : Nat); omega)⟩ (fun r_582 S_582 H locs hp_582 _ _ hP hL hS => ?_)
                                                                          obtain ⟨er_582, hD_582⟩ := q_orbit hD_570 (by omega) (by omega) hp_582
                                                                          obtain ⟨y_582, -, -, yk_582, er_582⟩ := er_582
                                                                          have yu_582 := rkP_u yk_582 yk_558
                                                                          rw [yu_582, orv2] at er_582
                                                                          have rl_ := rk_lt (A := Ak M x1) (fun k => Ak_ok hG.2.1 x1 k) yk_558 yk_388
                                                                          refine zi_iadd hx hb dL_isBody_585 ?_
                                                                          refine zi_sipush hx hb dL_isBody_586 (by decide) ?_
                                                                          refine lv_iload hx hb dL_isBody_589 (lv_at hl 15 rfl) ?_
                                                                          refine zi_imul hx hb dL_isBody_591 ?_
                                                                          refine zi_iconst hx hb dL_isBody_592 ?_
                                                                          refine lv_iload hx hb dL_isBody_593 (lv_at hl 16 rfl) ?_
                                                                          refine zi_imul hx hb dL_isBody_595 ?_
                                                                          refine zi_iadd hx hb dL_isBody_596 ?_
                                                                          refine lv_iload hx hb dL_isBody_597 (lv_at hl 17 rfl) ?_
                                                                          refine zi_iadd hx hb dL_isBody_599 ?_
                                                                          refine zi_icmp_ge (tgt := 654) hx hb ⟨by omega, by omega⟩ ⟨by omega, by omega⟩ dL_isBody_600 (by decide) (fun c_600 => ?_) (fun c_600 => ?_)
                                                                          · exact absurd c_600 (by omega)
                                                                          · exact lw_wd (by omega) (by omega) (K_603 S_582 hD_582 _ _ hP hL hS _ (lv_sub hl [0, 1, 2, 3, 4, 5, 6, 7, 8, 9, 10, 11, 12, 13, 14, 15, 16, 17] rfl))
                                                        · obtain ⟨n, rfl⟩ : ∃ n9 : Nat, n = n9 + 1 := ⟨n - 1, by omega⟩
                                                          refine lv_iload hx hb dL_isBody_425 (lv_at hl 18 rfl) ?_
                                                          refine zi_if_eq (tgt := 498) hx hb ⟨by omega, by omega⟩ dL_isBody_427 (by decide) (fun c_427 => ?_) (fun c_427 => ?_)
                                                          · exact absurd c_427 (by omega)
                                                          · refine lv_aload_n hx hb dL_isBody_430 rfl (lv_at hl 3 rfl) ?_
                                                            refine lv_aload hx hb dL_isBody_431 (lv_at hl 6 rfl) ?_
                                                            refine lv_iload hx hb dL_isBody_433 (lv_at hl 19 rfl) ?_
                                                            refine lv_iload_n hx hb dL_isBody_435 rfl (lv_at hl 2 rfl) ?_
                                                            refine zk_r (zc_S (As := [.ref (ld 0), .ref (ld 3), .int (zi j8), .int (zi x1)]) (rest := []) ⟨hx, hb, hml, hown, hts⟩ (ct_L_isLook l D cI cZ cJ ld L M hG j8 x1 ⟨by omega, by omega⟩ ⟨by omega, by omega⟩ ⟨by omega, by omega⟩) (va_cwS 4 hts gL_isBody_L_isLook rfl rfl rfl (by decide +kernel) ⟨Nat.le_of_ble_eq_true rfl, Nat.le_of_ble_eq_true rfl⟩) hK hL rfl hl.1 rfl (Nat.le_of_ble_eq_true rfl) dL_isBody_436 ⟨(by show _ ≤ (100 : Nat); omega), (by show _ ≤ (700 : Nat); omega)⟩) ?_
                                                            refine zi_top (fun (r_436 : Int) (er_436 : r_436 = b2 (lookM M j8 x1)) => ?_)
                                                            have fr_436 : (0 : Int) ≤ r_436 ∧ r_436 ≤ 1 := by rw [er_436]; exact b2_b
                                                            have K_485 : ∀ (ls : Array Slot), lv_has ls 20 [(0, .ref (ad 0)), (1, .int (zi x0)), (2, .int (zi x1)), (3, .ref (ld 0)), (4, .ref (ld 1)), (5, .ref (ld 2)), (6, .ref (ld 3)), (7, .ref (ld 4)), (8, .int (zi o9)), (9, .int (zi y9)), (10, .int (zi r_93)), (11, .int (zi r_100)), (12, .int (zi x12_110)), (13, .int (zi r_116)), (15, .int (zi x15_381)), (16, .int (zi r_388)), (17, .int (zi r_398)), (18, .int (zi r_408)), (19, .int (zi j8))] → W p l e rmct_L_isBody s m ([.ref (ad 0), .int (zi x0), .int (zi x1), .ref (ld 0), .ref (ld 1), .ref (ld 2), .ref (ld 3), .ref (ld 4)] : List Value).toArray below meth c H locs (51 + 4 + 4 + 4) (468 + 24 + 24 + 24) (MQ below (zWb D cI ad ld (fun r S9 L9 => r = 1 ∧ L9 = L ∧ DK S9 M)) ([.ref (ad 0), .int (zi x0), .int (zi x1), .ref (ld 0), .ref (ld 1), .ref (ld 2), .ref (ld 3), .ref (ld 4)] : List Value).toArray s 100 700 (bA ad ld)) (F0 m 485 ls []) := by
                                                              intro ls hl
                                                              refine zi_iconst hx hb dL_isBody_485 ?_
                                                              refine lv_goto (tgt := 490) hx hb dL_isBody_486 (by decide) ?_
                                                              refine lv_istore (lv' := [(14, .int (zi 1)), (0, .ref (ad 0)), (1, .int (zi x0)), (2, .int (zi x1)), (3, .ref (ld 0)), (4, .ref (ld 1)), (5, .ref (ld 2)), (6, .ref (ld 3)), (7, .ref (ld 4)), (8, .int (zi o9)), (9, .int (zi y9)), (10, .int (zi r_93)), (11, .int (zi r_100)), (12, .int (zi x12_110)), (13, .int (zi r_116)), (15, .int (zi x15_381)), (16, .int (zi r_388)), (17, .int (zi r_398)), (18, .int (zi r_408)), (19, .int (zi j8))]) hx hb dL_isBody_490 hl (by decide) rfl (fun ls hl => ?_)
                                                              refine zi_iinc (k := 19) (lv' := [(19, .int (zi (j8 + 1))), (14, .int (zi 1)), (0, .ref (ad 0)), (1, .int (zi x0)), (2, .int (zi x1)), (3, .ref (ld 0)), (4, .ref (ld 1)), (5, .ref (ld 2)), (6, .ref (ld 3)), (7, .ref (ld 4)), (8, .int (zi o9)), (9, .int (zi y9)), (10, .int (zi r_93)), (11, .int (zi r_100)), (12, .int (zi x12_110)), (13, .int (zi r_116)), (15, .int (zi x15_381)), (16, .int (zi r_388)), (17, .int (zi r_398)), (18, .int (zi r_408))]) hx hb dL_isBody_492 hl rfl (by decide) rfl (fun ls hl => ?_)
                                                              refine lv_goto (tgt := 416) hx hb dL_isBody_495 (by decide) ?_
                                                              exact ih_416 n 1 (j8 + 1) (by first | omega | assumption) (by first | omega | assumption) (by first | omega | assumption) (by omega) _ (lv_sub hl [2, 3, 4, 5, 6, 7, 8, 9, 10, 11, 12, 13, 14, 15, 16, 17, 18, 19, 1, 0] rfl)
                                                            refine zi_if_eq (tgt := 485) hx hb ⟨by omega, by omega⟩ dL_isBody_439 (by decide) (fun c_439 => ?_) (fun c_439 => ?_)
                                                            · exact K_485 _ (lv_sub hl [0, 1, 2, 3, 4, 5, 6, 7, 8, 9, 10, 11, 12, 13, 14, 15, 16, 17, 19] rfl)
                                                            · refine lv_iload hx hb dL_isBody_442 (lv_at hl 15 rfl) ?_
                                                              refine lv_iload hx hb dL_isBody_444 (lv_at hl 16 rfl) ?_
                                                              refine lv_iload hx hb dL_isBody_446 (lv_at hl 17 rfl) ?_
                                                              refine lv_aload_n hx hb dL_isBody_448 rfl (lv_at hl 3 rfl) ?_
                                                              refine lv_aload hx hb dL_isBody_449 (lv_at hl 4 rfl) ?_
                                                              refine lv_iload hx hb dL_isBody_451 (lv_at hl 19 rfl) ?_
                                                              refine zk_r (zc_S (As := [.ref (ld 0), .ref (ld 1), .int (zi j8)]) (rest := [.int (zi r_408), .int (zi r_398), .int (zi r_388)]) ⟨hx, hb, hml, hown, hts⟩ (ct_L_nightOf l D cI cZ cJ ld L M hG j8 ⟨by omega, by omega⟩ ⟨by omega, by omega⟩) (va_cwS 3 hts gL_isBody_L_nightOf rfl rfl rfl (by decide +kernel) ⟨Nat.le_of_ble_eq_true rfl, Nat.le_of_ble_eq_true rfl⟩) hK hL rfl hl.1 rfl (Nat.le_of_ble_eq_true rfl) dL_isBody_453 ⟨(by show _ ≤ (100 : Nat); omega), (by show _ ≤ (700 : Nat); omega)⟩) ?_
                                                              refine zi_top (fun (r_453 : Int) (er_453 : r_453 = nM M j8) => ?_)
                                                              have fr_453 : (0 : Int) ≤ r_453 ∧ r_453 ≤ 999 := by rw [er_453]; exact GL.nb hG _
                                                              refine zk_r (zc_S (As := [.int (zi r_388), .int (zi r_398), .int (zi r_408), .int (zi r_453)]) (rest := []) ⟨hx, hb, hml, hown, hts⟩ (ct_L_placeBy l D cI cZ cJ r_388 r_398 r_408 r_453 ⟨by omega, by omega⟩ ⟨by omega, by omega⟩ ⟨by omega, by omega⟩ ⟨by omega, by omega⟩ ⟨by omega, by omega⟩ ⟨by omega, by omega⟩ ⟨by omega, by omega⟩ ⟨by omega, by omega⟩) (va_cwS 4 hts gL_isBody_L_placeBy rfl rfl rfl (by decide +kernel) ⟨Nat.le_of_ble_eq_true rfl, Nat.le_of_ble_eq_true rfl⟩) hK va_P_nil rfl hl.1 rfl (Nat.le_of_ble_eq_true rfl) dL_isBody_456 ⟨(by show _ ≤ (100 : Nat); omega), (by show _ ≤ (700 : Nat); omega)⟩) ?_
                                                              refine zi_top (fun (r_456 : Int) (er_456 : r_456 = (r_388 + mvM r_398 r_408 r_453) % 3600) => ?_)
                                                              have fr_456 : (0 : Int) ≤ r_456 ∧ r_456 ≤ 3599 := by rw [er_456]; exact ⟨Int.emod_nonneg _ (by decide), Int.le_of_lt_add_one (Int.emod_lt_of_pos _ (by decide))⟩
                                                              refine lv_aload_n hx hb dL_isBody_459 rfl (lv_at hl 3 rfl) ?_
                                                              refine lv_aload hx hb dL_isBody_460 (lv_at hl 5 rfl) ?_
                                                              refine lv_iload hx hb dL_isBody_462 (lv_at hl 19 rfl) ?_
                                                              refine zk_r (zc_S (As := [.ref (ld 0), .ref (ld 2), .int (zi j8)]) (rest := [.int (zi r_456)]) ⟨hx, hb, hml, hown, hts⟩ (ct_L_placeOf l D cI cZ cJ ld L M hG j8 ⟨by omega, by omega⟩ ⟨by omega, by omega⟩) (va_cwS 3 hts gL_isBody_L_placeOf rfl rfl rfl (by decide +kernel) ⟨Nat.le_of_ble_eq_true rfl, Nat.le_of_ble_eq_true rfl⟩) hK hL rfl hl.1 rfl (Nat.le_of_ble_eq_true rfl) dL_isBody_464 ⟨(by show _ ≤ (100 : Nat); omega), (by show _ ≤ (700 : Nat); omega)⟩) ?_
                                                              refine zi_top (fun (r_464 : Int) (er_464 : r_464 = tM M j8) => ?_)
                                                              have fr_464 : (0 : Int) ≤ r_464 ∧ r_464 ≤ 3599 := by rw [er_464]; exact tM_b _ _
                                                              refine lv_aload hx hb dL_isBody_467 (lv_at hl 4 rfl) ?_
                                                              refine lv_aload_n hx hb dL_isBody_469 rfl (lv_at hl 3 rfl) ?_
                                                              refine lv_iload hx hb dL_isBody_470 (lv_at hl 19 rfl) ?_
                                                              refine zk_r (zc_S (As := [.ref (ld 0), .int (zi j8)]) (rest := [.ref (ld 1), .int (zi r_464), .int (zi r_456)]) ⟨hx, hb, hml, hown, hts⟩ (ct_L_plateOf l D cI cZ cJ ld L M hG j8 ⟨by omega, by omega⟩ ⟨by omega, by omega⟩) (va_cwS 2 hts gL_isBody_L_plateOf rfl rfl rfl (by decide +kernel) ⟨Nat.le_of_ble_eq_true rfl, Nat.le_of_ble_eq_true rfl⟩) hK hL rfl hl.1 rfl (Nat.le_of_ble_eq_true rfl) dL_isBody_472 ⟨(by show _ ≤ (100 : Nat); omega), (by show _ ≤ (700 : Nat); omega)⟩) ?_
                                                              refine zi_top (fun (r_472 : Int) (er_472 : r_472 = M 7 j8) => ?_)
                                                              have fr_472 : (0 : Int) ≤ r_472 ∧ r_472 < 14 := by rw [er_472]; exact GL.pb hG (by omega) (by omega)
                                                              refine zi_iald hx hb hK.1 hL 1 0 rfl rfl (by omega) (by omega) (by decide) dL_isBody_475 ?_
                                                              have q_475 := GL.p hG (k := r_472) (by omega) (by omega)
                                                              refine zi_bipush hx hb dL_isBody_476 (by decide) ?_
                                                              refine zi_irem hx hb ⟨by omega, by omega⟩ ⟨by omega, by omega⟩ (by omega) (by omega) dL_isBody_478 ?_
                                                              refine zk_r (zc_S (As := [.int (zi r_456), .int (zi r_464), .int (zi ((L 1 r_472) % 10))]) (rest := []) ⟨hx, hb, hml, hown, hts⟩ (ct_L_isNear l D cI cZ cJ r_456 r_464 ((L 1 r_472) % 10) ⟨by omega, by omega⟩ ⟨by omega, by omega⟩ ⟨by omega, by omega⟩ ⟨by omega, by omega⟩ ⟨by omega, by omega⟩ ⟨by omega, by omega⟩) (va_cwS 3 hts gL_isBody_L_isNear rfl rfl rfl (by decide +kernel) ⟨Nat.le_of_ble_eq_true rfl, Nat.le_of_ble_eq_true rfl⟩) hK va_P_nil rfl hl.1 rfl (Nat.le_of_ble_eq_true rfl) dL_isBody_479 ⟨(by show _ ≤ (100 : Nat); omega), (by show _ ≤ (700 : Nat); omega)⟩) ?_
                                                              refine zi_top (fun (r_479 : Int) (er_479 : r_479 = b2 (apM r_456 r_464 ≤ ((L 1 r_472) % 10))) => ?_)
                                                              have fr_479 : (0 : Int) ≤ r_479 ∧ r_479 ≤ 1 := by rw [er_479]; exact b2_b
                                                              have hm_ := kf.2.2.2.2.2 j8 (lkM_mem.mpr ⟨by omega, by omega, b2_1 er_436 c_439⟩)
                                                              have e456 : r_456 = plM ky9 (nM M j8) := by rw [er_456, er_388, er_398, er_408, er_453]; exact kf.2.2.2.1 _
                                                              have e475 : L 1 r_472 % 10 = eM M j8 := by unfold eM; rw [← er_472]; omega
                                                              refine zi_if_eq (tgt := 489) hx hb ⟨by omega, by omega⟩ dL_isBody_482 (by decide) (fun c_482 => ?_) (fun c_482 => ?_)
                                                              · exact absurd c_482 (by intro h9; exact b2_0 er_479 h9 (by rw [e456, er_464, e475]; exact hm_))
                                                              · exact K_485 _ (lv_sub hl [0, 1, 2, 3, 4, 5, 6, 7, 8, 9, 10, 11, 12, 13, 14, 15, 16, 17, 19] rfl)
                                                    refine lv_istore (lv' := [(19, .int (zi 0)), (18, .int (zi r_408)), (17, .int (zi r_398)), (16, .int (zi r_388)), (15, .int (zi x15_381)), (0, .ref (ad 0)), (1, .int (zi x0)), (2, .int (zi x1)), (3, .ref (ld 0)), (4, .ref (ld 1)), (5, .ref (ld 2)), (6, .ref (ld 3)), (7, .ref (ld 4)), (8, .int (zi o9)), (9, .int (zi y9)), (10, .int (zi r_93)), (11, .int (zi r_100)), (12, .int (zi x12_110)), (13, .int (zi r_116)), (14, .int (zi i9))]) hx hb dL_isBody_414 hl (by decide) rfl (fun ls hl => ?_)
                                                    exact K_416 41 40 i9 0 (by first | omega | assumption) (by first | omega | assumption) (by first | omega | assumption) (by omega) _ (lv_sub hl [5, 6, 7, 8, 9, 10, 11, 12, 13, 14, 15, 16, 17, 18, 4, 3, 2, 1, 19, 0] rfl)
                                              refine zi_icmp_ge (tgt := 363) hx hb ⟨by omega, by omega⟩ ⟨by omega, by omega⟩ dL_isBody_313 (by decide) (fun c_313 => ?_) (fun c_313 => ?_)
                                              · exact lw_wd (by omega) (by omega) (K_363 _ (lv_sub hl [0, 1, 2, 3, 4, 5, 6, 7, 8, 9, 10, 11, 12, 13, 14] rfl))
                                              · refine lv_iload hx hb dL_isBody_316 (lv_at hl 15 rfl) ?_
                                                refine zi_iconst hx hb dL_isBody_318 ?_
                                                refine zi_icmp_ge (tgt := 363) hx hb ⟨by omega, by omega⟩ ⟨by decide, by decide⟩ dL_isBody_319 (by decide) (fun c_319 => ?_) (fun c_319 => ?_)
                                                · exact lw_wd (by omega) (by omega) (K_363 _ (lv_sub hl [0, 1, 2, 3, 4, 5, 6, 7, 8, 9, 10, 11, 12, 13, 14] rfl))
                                                · refine lv_iload hx hb dL_isBody_322 (lv_at hl 14 rfl) ?_
                                                  refine zi_if_eq (tgt := 363) hx hb ⟨by omega, by omega⟩ dL_isBody_324 (by decide) (fun c_324 => ?_) (fun c_324 => ?_)
                                                  · exact absurd c_324 (by omega)
                                                  · refine lv_aload_n hx hb dL_isBody_327 rfl (lv_at hl 0 rfl) ?_
                                                    refine lv_iload_n hx hb dL_isBody_328 rfl (lv_at hl 2 rfl) ?_
                                                    refine lv_iload hx hb dL_isBody_329 (lv_at hl 12 rfl) ?_
                                                    refine lv_iload hx hb dL_isBody_331 (lv_at hl 15 rfl) ?_
                                                    refine zi_iconst hx hb dL_isBody_333 ?_
                                                    refine zi_isub hx hb dL_isBody_334 ?_
                                                    refine lc_pub (ld := ld) (L0 := L) (As := [.int (zi x1), .int (zi x12_110), .int (zi (j9 - 1))]) (rest := []) (A0 := bA ad ld) ⟨hx, hb, hml, hown, hts⟩ (ct_X7_where l hst D cI cZ cJ sa ad T hD_T.1 hdis.1 x1 x12_110 (j9 - 1) ⟨by omega, by omega⟩ ⟨by omega, by omega⟩ ⟨by omega, by omega⟩) (cwV 3 hts gL_isBody_X7_where rfl rfl rfl (by decide +kernel) ⟨Nat.le_of_ble_eq_true rfl, Nat.le_of_ble_eq_true rfl⟩) rfl hK hX hdis (fun _ h => h) hS hP hL (nox_where hD_T (by omega) (by omega) ⟨by omega, by omega⟩ (by omega)) rfl hl.1 rfl (Nat.le_of_ble_eq_true rfl) dL_isBody_335 ⟨(by show _ ≤ (100 : Nat); omega), (by show _ ≤ (700 : Nat); omega)⟩ (fun r_335 S_335 H locs hp_335 _ _ hP hL hS => ?_)
                                                    obtain ⟨er_335, hD_335⟩ := q_where hD_T (by omega) (by omega) hp_335
                                                    have wr1_ := wh_rng (l := kE M x1) (t := x12_110) (r := j9 - 1) (by omega)
                                                    rw [← er_335] at wr1_
                                                    refine lv_aload_n hx hb dL_isBody_338 rfl (lv_at hl 0 rfl) ?_
                                                    refine lv_iload_n hx hb dL_isBody_339 rfl (lv_at hl 2 rfl) ?_
                                                    refine lv_iload hx hb dL_isBody_340 (lv_at hl 12 rfl) ?_
                                                    refine lv_iload hx hb dL_isBody_342 (lv_at hl 15 rfl) ?_
                                                    refine lc_pub (ld := ld) (L0 := L) (As := [.int (zi x1), .int (zi x12_110), .int (zi j9)]) (rest := [.int (zi r_335)]) (A0 := bA ad ld) ⟨hx, hb, hml, hown, hts⟩ (ct_X7_where l hst D cI cZ cJ sa ad S_335 hD_335.1 hdis.1 x1 x12_110 j9 ⟨by omega, by omega⟩ ⟨by omega, by omega⟩ ⟨by omega, by omega⟩) (cwV 3 hts gL_isBody_X7_where rfl rfl rfl (by decide +kernel) ⟨Nat.le_of_ble_eq_true rfl, Nat.le_of_ble_eq_true rfl⟩) rfl hK hX hdis (fun _ h => h) hS hP hL (nox_where hD_335 (by omega) (by omega) ⟨by omega, by omega⟩ (by omega)) rfl hl.1 rfl (Nat.le_of_ble_eq_true rfl) dL_isBody_344 ⟨(by show _ ≤ (100 : Nat); omega), (by show _ ≤ (700 : Nat); omega)⟩ (fun r_344 S_344 H locs hp_344 _ _ hP hL hS => ?_)
                                                    obtain ⟨er_344, hD_344⟩ := q_where hD_335 (by omega) (by omega) hp_344
                                                    have wr2_ := wh_rng (l := kE M x1) (t := x12_110) (r := j9) (by omega)
                                                    rw [← er_344] at wr2_
                                                    refine zi_icmp_ge (tgt := 354) hx hb ⟨by omega, by omega⟩ ⟨by omega, by omega⟩ dL_isBody_347 (by decide) (fun c_347 => ?_) (fun c_347 => ?_)
                                                    · exact absurd c_347 (by have wl_ := wh_lt (l := kE M x1) (t := x12_110) (show 0 ≤ j9 - 1 by omega) (show j9 - 1 < j9 by omega) (by rw [← sp_pl, ← er_116]; omega); rw [← er_335, ← er_344] at wl_; omega)
                                                    · refine zi_iconst hx hb dL_isBody_350 ?_
                                                      refine lv_goto (tgt := 355) hx hb dL_isBody_351 (by decide) ?_
                                                      refine lv_istore (lv' := [(14, .int (zi 1)), (0, .ref (ad 0)), (1, .int (zi x0)), (2, .int (zi x1)), (3, .ref (ld 0)), (4, .ref (ld 1)), (5, .ref (ld 2)), (6, .ref (ld 3)), (7, .ref (ld 4)), (8, .int (zi o9)), (9, .int (zi y9)), (10, .int (zi r_93)), (11, .int (zi r_100)), (12, .int (zi x12_110)), (13, .int (zi r_116)), (15, .int (zi j9))]) hx hb dL_isBody_355 hl (by decide) rfl (fun ls hl => ?_)
                                                      refine zi_iinc (k := 15) (lv' := [(15, .int (zi (j9 + 1))), (14, .int (zi 1)), (0, .ref (ad 0)), (1, .int (zi x0)), (2, .int (zi x1)), (3, .ref (ld 0)), (4, .ref (ld 1)), (5, .ref (ld 2)), (6, .ref (ld 3)), (7, .ref (ld 4)), (8, .int (zi o9)), (9, .int (zi y9)), (10, .int (zi r_93)), (11, .int (zi r_100)), (12, .int (zi x12_110)), (13, .int (zi r_116))]) hx hb dL_isBody_357 hl rfl (by decide) rfl (fun ls hl => ?_)
                                                      refine lv_goto (tgt := 309) hx hb dL_isBody_360 (by decide) ?_
                                                      exact lw_wd (by omega) (by omega) (ih_309 1 (j9 + 1) S_344 (by first | omega | assumption) (by first | omega | assumption) hD_344 (by omega) _ _ hP hL hS _ (lv_sub hl [2, 3, 4, 5, 6, 7, 8, 9, 10, 11, 12, 13, 14, 15, 1, 0] rfl))
                                          refine lv_istore (lv' := [(15, .int (zi 1)), (14, .int (zi 1)), (0, .ref (ad 0)), (1, .int (zi x0)), (2, .int (zi x1)), (3, .ref (ld 0)), (4, .ref (ld 1)), (5, .ref (ld 2)), (6, .ref (ld 3)), (7, .ref (ld 4)), (8, .int (zi o9)), (9, .int (zi y9)), (10, .int (zi r_93)), (11, .int (zi r_100)), (12, .int (zi x12_110)), (13, .int (zi r_116))]) hx hb dL_isBody_307 hl (by decide) rfl (fun ls hl => ?_)
                                          exact lw_wd (by omega) (by omega) (K_309 4 1 1 S_291 (by first | omega | assumption) (by first | omega | assumption) hD_291 (by omega) _ _ hP hL hS _ (lv_sub hl [2, 3, 4, 5, 6, 7, 8, 9, 10, 11, 12, 13, 14, 15, 1, 0] rfl))
                                  refine zi_if_le (tgt := 268) hx hb ⟨by omega, by omega⟩ dL_isBody_261 (by decide) (fun c_261 => ?_) (fun c_261 => ?_)
                                  · refine zi_iconst hx hb dL_isBody_268 ?_
                                    exact K_269 0 (b2_f (by omega)).symm (by first | omega | assumption) _ (lv_sub hl [0, 1, 2, 3, 4, 5, 6, 7, 8, 9, 10, 11, 12, 13] rfl)
                                  · refine zi_iconst hx hb dL_isBody_264 ?_
                                    refine lv_goto (tgt := 269) hx hb dL_isBody_265 (by decide) ?_
                                    exact K_269 1 (b2_t (by omega)).symm (by first | omega | assumption) _ (lv_sub hl [0, 1, 2, 3, 4, 5, 6, 7, 8, 9, 10, 11, 12, 13] rfl)
                                refine zi_if_le (tgt := 258) hx hb ⟨by omega, by omega⟩ dL_isBody_251 (by decide) (fun c_251 => ?_) (fun c_251 => ?_)
                                · refine zi_iconst hx hb dL_isBody_258 ?_
                                  exact K_259 0 (b2_f (by omega)).symm (by first | omega | assumption) _ (lv_sub hl [0, 1, 2, 3, 4, 5, 6, 7, 8, 9, 10, 11, 12, 13] rfl)
                                · refine zi_iconst hx hb dL_isBody_254 ?_
                                  refine lv_goto (tgt := 259) hx hb dL_isBody_255 (by decide) ?_
                                  exact K_259 1 (b2_t (by omega)).symm (by first | omega | assumption) _ (lv_sub hl [0, 1, 2, 3, 4, 5, 6, 7, 8, 9, 10, 11, 12, 13] rfl)
                      refine zi_if_le (tgt := 206) hx hb ⟨by omega, by omega⟩ dL_isBody_192 (by decide) (fun c_192 => ?_) (fun c_192 => ?_)
                      · refine zi_iconst hx hb dL_isBody_206 ?_
                        exact K_207 (-1) (if_neg (by omega)).symm (by first | omega | assumption) _ (lv_sub hl [4, 5, 6, 7, 8, 9, 10, 11, 12, 13, 3, 2, 1, 0] rfl)
                      · refine lv_aload hx hb dL_isBody_195 (lv_at hl 10 rfl) ?_
                        refine zi_iconst hx hb dL_isBody_197 ?_
                        refine lv_iload_n hx hb dL_isBody_198 rfl (lv_at hl 6 rfl) ?_
                        refine zi_imul hx hb dL_isBody_199 ?_
                        refine zi_iconst hx hb dL_isBody_200 ?_
                        refine zi_iadd hx hb dL_isBody_201 ?_
                        refine zi_iald hx hb hK.1 hL 3 0 rfl rfl (by omega) (by omega) (by decide) dL_isBody_202 ?_
                        refine zi_is (M 14 x1) (GL.un hG (j := x1) (by omega) (by omega)).1 ?_
                        have q_202 := (GL.un hG (j := x1) (by omega) (by omega)).2
                        refine lv_goto (tgt := 207) hx hb dL_isBody_203 (by decide) ?_
                        exact K_207 (M 14 x1) (if_pos (by omega)).symm (by first | omega | assumption) _ (lv_sub hl [4, 5, 6, 7, 8, 9, 10, 11, 12, 13, 3, 2, 1, 0] rfl)
            · obtain ⟨n, rfl⟩ : ∃ n9 : Nat, n = n9 + 1 := ⟨n - 1, by omega⟩
              refine lv_iload hx hb dL_isBody_56 (lv_at hl 9 rfl) ?_
              refine lv_aload hx hb dL_isBody_58 (lv_at hl 6 rfl) ?_
              refine zi_iconst hx hb dL_isBody_60 ?_
              refine lv_iload hx hb dL_isBody_61 (lv_at hl 10 rfl) ?_
              refine zi_imul hx hb dL_isBody_63 ?_
              refine zi_iald hx hb hK.1 hL 3 0 rfl rfl (by omega) (by omega) (by decide) dL_isBody_64 ?_
              refine zi_is (M 12 k9 + 1) (GL.u hG (j := k9) (by omega) (by omega)).1 ?_
              have q_64 := (GL.u hG (j := k9) (by omega) (by omega)).2
              refine zi_iconst hx hb dL_isBody_65 ?_
              refine zi_isub hx hb dL_isBody_66 ?_
              refine lv_iload_n hx hb dL_isBody_67 rfl (lv_at hl 2 rfl) ?_
              have K_76 : ∀ (w9 : Int), (w9 = if M 12 k9 = x1 then 1 else 0) → (0 ≤ w9 ∧ w9 ≤ 1) → ∀ (ls : Array Slot), lv_has ls 20 [(0, .ref (ad 0)), (1, .int (zi x0)), (2, .int (zi x1)), (3, .ref (ld 0)), (4, .ref (ld 1)), (5, .ref (ld 2)), (6, .ref (ld 3)), (7, .ref (ld 4)), (8, .int (zi o9)), (10, .int (zi k9))] → W p l e rmct_L_isBody s m ([.ref (ad 0), .int (zi x0), .int (zi x1), .ref (ld 0), .ref (ld 1), .ref (ld 2), .ref (ld 3), .ref (ld 4)] : List Value).toArray below meth c s.heap [] 0 0 (MQ below (zWb D cI ad ld (fun r S9 L9 => r = 1 ∧ L9 = L ∧ DK S9 M)) ([.ref (ad 0), .int (zi x0), .int (zi x1), .ref (ld 0), .ref (ld 1), .ref (ld 2), .ref (ld 3), .ref (ld 4)] : List Value).toArray s 100 700 (bA ad ld)) (F0 m 76 ls [.int (zi w9), .int (zi y9)]) := by
                intro w9 h_w h_wb ls hl
                refine zi_iadd hx hb dL_isBody_76 ?_
                refine zi_top (fun x9_77 ex9_77 => ?_)
                refine lv_istore (lv' := [(9, .int (zi x9_77)), (0, .ref (ad 0)), (1, .int (zi x0)), (2, .int (zi x1)), (3, .ref (ld 0)), (4, .ref (ld 1)), (5, .ref (ld 2)), (6, .ref (ld 3)), (7, .ref (ld 4)), (8, .int (zi o9)), (10, .int (zi k9))]) hx hb dL_isBody_77 hl (by decide) rfl (fun ls hl => ?_)
                refine zi_iinc (k := 10) (lv' := [(10, .int (zi (k9 + 1))), (9, .int (zi x9_77)), (0, .ref (ad 0)), (1, .int (zi x0)), (2, .int (zi x1)), (3, .ref (ld 0)), (4, .ref (ld 1)), (5, .ref (ld 2)), (6, .ref (ld 3)), (7, .ref (ld 4)), (8, .int (zi o9))]) hx hb dL_isBody_79 hl rfl (by decide) rfl (fun ls hl => ?_)
                refine lv_goto (tgt := 47) hx hb dL_isBody_82 (by decide) ?_
                exact ih_47 n x9_77 (k9 + 1) (by first | omega | assumption) (by first | omega | assumption) ⟨by omega, by omega⟩ (by rw [← h_R2, itr_s, ex9_77, h_w]; congr 1; exact add_ite) (by omega) _ (lv_sub hl [2, 3, 4, 5, 6, 7, 8, 9, 10, 1, 0] rfl)
              refine zi_icmp_ne (tgt := 75) hx hb ⟨by omega, by omega⟩ ⟨by omega, by omega⟩ dL_isBody_68 (by decide) (fun c_68 => ?_) (fun c_68 => ?_)
              · refine zi_iconst hx hb dL_isBody_75 ?_
                exact K_76 0 (if_neg (by omega)).symm (by first | omega | assumption) _ (lv_sub hl [0, 1, 2, 3, 4, 5, 6, 7, 8, 10] rfl)
              · refine zi_iconst hx hb dL_isBody_71 ?_
                refine lv_goto (tgt := 76) hx hb dL_isBody_72 (by decide) ?_
                exact K_76 1 (if_pos (by omega)).symm (by first | omega | assumption) _ (lv_sub hl [0, 1, 2, 3, 4, 5, 6, 7, 8, 10] rfl)
        refine lv_istore (lv' := [(10, .int (zi 0)), (0, .ref (ad 0)), (1, .int (zi x0)), (2, .int (zi x1)), (3, .ref (ld 0)), (4, .ref (ld 1)), (5, .ref (ld 2)), (6, .ref (ld 3)), (7, .ref (ld 4)), (9, .int (zi 0)), (8, .int (zi o9))]) hx hb dL_isBody_45 hl (by decide) rfl (fun ls hl => ?_)
        exact K_47 ((M 11 0).toNat + 1) ((M 11 0).toNat) 0 0 (by first | omega | assumption) (by first | omega | assumption) (by first | omega | assumption) (by rw [joinM]) (by omega) _ (lv_sub hl [1, 2, 3, 4, 5, 6, 7, 8, 10, 9, 0] rfl)
      · obtain ⟨n, rfl⟩ : ∃ n9 : Nat, n = n9 + 1 := ⟨n - 1, by omega⟩
        refine lv_iload hx hb dL_isBody_18 (lv_at hl 9 rfl) ?_
        refine lv_aload_n hx hb dL_isBody_20 rfl (lv_at hl 3 rfl) ?_
        refine lv_iload hx hb dL_isBody_21 (lv_at hl 10 rfl) ?_
        refine zk_r (zc_S (As := [.ref (ld 0), .int (zi k9)]) (rest := [.int (zi o9)]) ⟨hx, hb, hml, hown, hts⟩ (ct_L_owner l D cI cZ cJ ld L M hG k9 ⟨by omega, by omega⟩ ⟨by omega, by omega⟩) (va_cwS 2 hts gL_isBody_L_owner rfl rfl rfl (by decide +kernel) ⟨Nat.le_of_ble_eq_true rfl, Nat.le_of_ble_eq_true rfl⟩) hK hL rfl hl.1 rfl (Nat.le_of_ble_eq_true rfl) dL_isBody_23 ⟨(by show _ ≤ (100 : Nat); omega), (by show _ ≤ (700 : Nat); omega)⟩) ?_
        refine zi_top (fun (r_23 : Int) (er_23 : r_23 = M 10 k9) => ?_)
        have fr_23 : (-1 : Int) ≤ r_23 ∧ r_23 < 12 := by rw [er_23]; exact GL.ob hG (by omega) (by omega)
        refine lv_iload_n hx hb dL_isBody_26 rfl (lv_at hl 2 rfl) ?_
        have K_35 : ∀ (w9 : Int), (w9 = if M 10 k9 = x1 then 1 else 0) → (0 ≤ w9 ∧ w9 ≤ 1) → ∀ (ls : Array Slot), lv_has ls 20 [(0, .ref (ad 0)), (1, .int (zi x0)), (2, .int (zi x1)), (3, .ref (ld 0)), (4, .ref (ld 1)), (5, .ref (ld 2)), (6, .ref (ld 3)), (7, .ref (ld 4)), (9, .int (zi 0)), (10, .int (zi k9))] → W p l e rmct_L_isBody s m ([.ref (ad 0), .int (zi x0), .int (zi x1), .ref (ld 0), .ref (ld 1), .ref (ld 2), .ref (ld 3), .ref (ld 4)] : List Value).toArray below meth c s.heap [] 0 0 (MQ below (zWb D cI ad ld (fun r S9 L9 => r = 1 ∧ L9 = L ∧ DK S9 M)) ([.ref (ad 0), .int (zi x0), .int (zi x1), .ref (ld 0), .ref (ld 1), .ref (ld 2), .ref (ld 3), .ref (ld 4)] : List Value).toArray s 100 700 (bA ad ld)) (F0 m 35 ls [.int (zi w9), .int (zi o9)]) := by
          intro w9 h_w h_wb ls hl
          refine zi_iadd hx hb dL_isBody_35 ?_
          refine zi_top (fun x8_36 ex8_36 => ?_)
          refine lv_istore (lv' := [(8, .int (zi x8_36)), (0, .ref (ad 0)), (1, .int (zi x0)), (2, .int (zi x1)), (3, .ref (ld 0)), (4, .ref (ld 1)), (5, .ref (ld 2)), (6, .ref (ld 3)), (7, .ref (ld 4)), (9, .int (zi 0)), (10, .int (zi k9))]) hx hb dL_isBody_36 hl (by decide) rfl (fun ls hl => ?_)
          refine zi_iinc (k := 10) (lv' := [(10, .int (zi (k9 + 1))), (8, .int (zi x8_36)), (0, .ref (ad 0)), (1, .int (zi x0)), (2, .int (zi x1)), (3, .ref (ld 0)), (4, .ref (ld 1)), (5, .ref (ld 2)), (6, .ref (ld 3)), (7, .ref (ld 4)), (9, .int (zi 0))]) hx hb dL_isBody_38 hl rfl (by decide) rfl (fun ls hl => ?_)
          refine lv_goto (tgt := 9) hx hb dL_isBody_41 (by decide) ?_
          exact ih_9 n x8_36 (k9 + 1) (by first | omega | assumption) (by first | omega | assumption) ⟨by omega, by omega⟩ (by rw [← h_R, itr_s, ex8_36, h_w]; congr 1; exact add_ite) (by omega) _ (lv_sub hl [2, 3, 4, 5, 6, 7, 8, 9, 10, 1, 0] rfl)
        refine zi_icmp_ne (tgt := 34) hx hb ⟨by omega, by omega⟩ ⟨by omega, by omega⟩ dL_isBody_27 (by decide) (fun c_27 => ?_) (fun c_27 => ?_)
        · refine zi_iconst hx hb dL_isBody_34 ?_
          exact K_35 0 (if_neg (by omega)).symm (by first | omega | assumption) _ (lv_sub hl [0, 1, 2, 3, 4, 5, 6, 7, 8, 10] rfl)
        · refine zi_iconst hx hb dL_isBody_30 ?_
          refine lv_goto (tgt := 35) hx hb dL_isBody_31 (by decide) ?_
          exact K_35 1 (if_pos (by omega)).symm (by first | omega | assumption) _ (lv_sub hl [0, 1, 2, 3, 4, 5, 6, 7, 8, 10] rfl)
  refine lv_istore (lv' := [(10, .int (zi 0)), (9, .int (zi 0)), (8, .int (zi 0)), (0, .ref (ad 0)), (1, .int (zi x0)), (2, .int (zi x1)), (3, .ref (ld 0)), (4, .ref (ld 1)), (5, .ref (ld 2)), (6, .ref (ld 3)), (7, .ref (ld 4))]) hx hb dL_isBody_7 hl (by decide) rfl (fun ls hl => ?_)
  exact K_9 41 40 0 0 (by first | omega | assumption) (by first | omega | assumption) (by first | omega | assumption) (by rw [ownM, q0.2.2.2.2.1]; rfl) (by omega) _ (lv_sub hl [3, 4, 5, 6, 7, 8, 9, 10, 1, 2, 0] rfl)
