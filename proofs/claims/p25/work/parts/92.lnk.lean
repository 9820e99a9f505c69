theorem su_up (S : ZS) (k : Nat) (g : Int → Int) (x v : Int) : su S k (up g x v) k x = v := by
  rw [su_s]
  exact up_s g x v
theorem su_sam {L : ZS} {k : Nat} {x v : Int} (h : v = L k x) : su L k (up (L k) x v) = L := by
  have e : v = L k x + 0 := by omega
  rw [e]
  exact su_same
theorem orN_b {M : ZS} (hE : E9 M) {b o d : Int} (hl : 1 ≤ (oL M b o d).length) : 0 ≤ orN M b o d ∧ orN M b o d ≤ 1458000 := by
  have hok : ∀ d9 ∈ (oL M b o d).map (datM M), okD d9 := fun d9 hd => by
    obtain ⟨x, _, rfl⟩ := List.mem_map.mp hd
    exact datM_ok hE x
  rw [orN_len hE hl]
  have h := nodup_le (ens_nodup (A := fun k => arcL k ((oL M b o d).map (datM M))) (fun k => (arcL_ok hok).1)) (l2 := rg 1458000 0) (fun x hx => rg_mem.mpr (by have := ens_b x hx; omega))
  rw [rg_len] at h
  omega
theorem ci41_L_links : Cond.constant RL 41 (-70008) ∈ wsL_links := by decide +kernel
theorem ci42_L_links : Cond.constant RL 42 10800000 ∈ wsL_links := by decide +kernel
abbrev rmct_L_links : Room := { frames := 9, cells := 10, slots := 220, locals := 162 }
set_option maxHeartbeats 8000000 in
set_option maxRecDepth 100000 in
theorem ct_L_links (l : Launch) (hst : l.stackTraces = false) (D : va_G) (cI cZ cJ : ClassId) (sa ad ld : Nat → Nat) (S L M : ZS) (hdis : bDis ad ld) (hG : GL L M) (hD : DK S M) (x0 x1 : Int) (hx0 : ir x0) (hx1 : ir x1) (hN : NX M) (hp0 : 0 ≤ x0) (hp1 : 0 ≤ x1) : Met l yL_links wsL_links rmct_L_links (zPb D cI cZ cJ sa ad ld S L [.ref (ad 0), .int (zi x0), .int (zi x1), .ref (ld 0), .ref (ld 1), .ref (ld 2), .ref (ld 3), .ref (ld 4)]) (zWb D cI ad ld (fun r S9 L9 => r = 1 ∧ ∃ M' : ZS, GL L9 M' ∧ DK S9 M' ∧ NX M' ∧ M' 17 0 ≤ M 17 0 + 1)) 10 220 (bA ad ld) := by
  refine Met.ofW (cc := cL_links) (maxL := 13) (ret := (some .boolean)) (by decide) rfl ?_
  intro p e s m args below meth c s₁ B hml hv
  obtain ⟨rfl, hP, hL, hK, hX, hQ⟩ := hv
  have hx := B.exec
  have hb := B.bytes
  have hr := B.returns
  have hts := atoms_spec (ws := wsL_links) B.pre
  have hown : s.vm.findClass RL = some m.cls := findClass_of_methodNamed B.named
  have hlocks := B.notSynchronized
  have hl := lv_entry ([.ref (ad 0), .int (zi x0), .int (zi x1), .ref (ld 0), .ref (ld 1), .ref (ld 2), .ref (ld 3), .ref (ld 4)]) (n := 13) (Nat.le_of_ble_eq_true rfl)
  rw [lg_entry_eq]
  generalize (lg_sl ([.ref (ad 0), .int (zi x0), .int (zi x1), .ref (ld 0), .ref (ld 1), .ref (ld 2), .ref (ld 3), .ref (ld 4)]) ++ List.replicate (13 - (lg_sl ([.ref (ad 0), .int (zi x0), .int (zi x1), .ref (ld 0), .ref (ld 1), .ref (ld 2), .ref (ld 3), .ref (ld 4)])).length) Slot.unset).toArray = ls at hl ⊢
  have hl : lv_has ls 13 [(0, .ref (ad 0)), (1, .int (zi x0)), (2, .int (zi x1)), (3, .ref (ld 0)), (4, .ref (ld 1)), (5, .ref (ld 2)), (6, .ref (ld 3)), (7, .ref (ld 4))] := hl
  have hS : va_S (bA ad ld) s.heap s.heap [] := va_S.rf
  show W p l e rmct_L_links s m ([.ref (ad 0), .int (zi x0), .int (zi x1), .ref (ld 0), .ref (ld 1), .ref (ld 2), .ref (ld 3), .ref (ld 4)] : List Value).toArray below meth c s.heap [] 0 0 (MQ below (zWb D cI ad ld (fun r S9 L9 => r = 1 ∧ ∃ M' : ZS, GL L9 M' ∧ DK S9 M' ∧ NX M' ∧ M' 17 0 ≤ M 17 0 + 1)) ([.ref (ad 0), .int (zi x0), .int (zi x1), .ref (ld 0), .ref (ld 1), .ref (ld 2), .ref (ld 3), .ref (ld 4)] : List Value).toArray s 10 220 (bA ad ld)) (F0 m 0 ls [])
  have q0 := GL.c hG
  refine lv_iload_n hx hb dL_links_0 rfl (lv_at hl 1 rfl) ?_
  refine lv_aload hx hb dL_links_1 (lv_at hl 7 rfl) ?_
  refine zi_iconst hx hb dL_links_3 ?_
  refine zi_iald hx hb hK.1 hL 4 0 rfl rfl (by omega) (by omega) (by decide) dL_links_4 ?_
  refine zi_is 40 (GL.c hG).1 ?_
  have q_4 := GL.c hG
  refine zi_irem hx hb ⟨by omega, by omega⟩ ⟨by omega, by omega⟩ (by omega) (by omega) dL_links_5 ?_
  refine zi_top (fun x8_6 ex8_6 => ?_)
  refine lv_istore (lv' := [(8, .int (zi x8_6)), (0, .ref (ad 0)), (1, .int (zi x0)), (2, .int (zi x1)), (3, .ref (ld 0)), (4, .ref (ld 1)), (5, .ref (ld 2)), (6, .ref (ld 3)), (7, .ref (ld 4))]) hx hb dL_links_6 hl (by decide) rfl (fun ls hl => ?_)
  have K_74 : ∀ (t9 : Int), (0 ≤ t9 ∧ t9 < 40) → ∀ (ls : Array Slot), lv_has ls 13 [(0, .ref (ad 0)), (1, .int (zi x0)), (2, .int (zi x1)), (3, .ref (ld 0)), (4, .ref (ld 1)), (5, .ref (ld 2)), (6, .ref (ld 3)), (7, .ref (ld 4)), (8, .int (zi t9))] → W p l e rmct_L_links s m ([.ref (ad 0), .int (zi x0), .int (zi x1), .ref (ld 0), .ref (ld 1), .ref (ld 2), .ref (ld 3), .ref (ld 4)] : List Value).toArray below meth c s.heap [] 0 0 (MQ below (zWb D cI ad ld (fun r S9 L9 => r = 1 ∧ ∃ M' : ZS, GL L9 M' ∧ DK S9 M' ∧ NX M' ∧ M' 17 0 ≤ M 17 0 + 1)) ([.ref (ad 0), .int (zi x0), .int (zi x1), .ref (ld 0), .ref (ld 1), .ref (ld 2), .ref (ld 3), .ref (ld 4)] : List Value).toArray s 10 220 (bA ad ld)) (F0 m 74 ls []) := by
    intro t9 h_t ls hl
    refine lv_aload hx hb dL_links_74 (lv_at hl 7 rfl) ?_
    refine zi_iconst hx hb dL_links_76 ?_
    refine zi_iald hx hb hK.1 hL 4 0 rfl rfl (by omega) (by omega) (by decide) dL_links_77 ?_
    refine zi_is (M 11 0) (GL.c hG).2.1 ?_
    have q_77 := GL.c hG
    refine zi_iconst hx hb dL_links_78 ?_
    have K_100 : (M 11 0 < 12) → ∀ (ls : Array Slot), lv_has ls 13 [(0, .ref (ad 0)), (1, .int (zi x0)), (2, .int (zi x1)), (3, .ref (ld 0)), (4, .ref (ld 1)), (5, .ref (ld 2)), (6, .ref (ld 3)), (7, .ref (ld 4)), (8, .int (zi t9))] → W p l e rmct_L_links s m ([.ref (ad 0), .int (zi x0), .int (zi x1), .ref (ld 0), .ref (ld 1), .ref (ld 2), .ref (ld 3), .ref (ld 4)] : List Value).toArray below meth c s.heap [] 0 0 (MQ below (zWb D cI ad ld (fun r S9 L9 => r = 1 ∧ ∃ M' : ZS, GL L9 M' ∧ DK S9 M' ∧ NX M' ∧ M' 17 0 ≤ M 17 0 + 1)) ([.ref (ad 0), .int (zi x0), .int (zi x1), .ref (ld 0), .ref (ld 1), .ref (ld 2), .ref (ld 3), .ref (ld 4)] : List Value).toArray s 10 220 (bA ad ld)) (F0 m 100 ls []) := by
      intro h_c ls hl
      refine lv_aload_n hx hb dL_links_100 rfl (lv_at hl 3 rfl) ?_
      refine lv_iload hx hb dL_links_101 (lv_at hl 8 rfl) ?_
      refine zk_r (zc_S (As := [.ref (ld 0), .int (zi t9)]) (rest := []) ⟨hx, hb, hml, hown, hts⟩ (ct_L_owner l D cI cZ cJ ld L M hG t9 ⟨by omega, by omega⟩ ⟨by omega, by omega⟩) (va_cwS 2 hts gL_links_L_owner rfl rfl rfl (by decide +kernel) ⟨Nat.le_of_ble_eq_true rfl, Nat.le_of_ble_eq_true rfl⟩) hK hL rfl hl.1 rfl (Nat.le_of_ble_eq_true rfl) dL_links_103 ⟨(by show _ ≤ (10 : Nat); omega), (by show _ ≤ (220 : Nat); omega)⟩) ?_
      refine zi_top (fun (r_103 : Int) (er_103 : r_103 = M 10 t9) => ?_)
      have fr_103 : (-1 : Int) ≤ r_103 ∧ r_103 < 12 := by rw [er_103]; exact GL.ob hG (by omega) (by omega)
      refine zi_if_ge (tgt := 113) hx hb ⟨by omega, by omega⟩ dL_links_106 (by decide) (fun c_106 => ?_) (fun c_106 => ?_)
      · refine zi_iconst hx hb dL_links_113 ?_
        refine lv_istore (lv' := [(9, .int (zi 0)), (0, .ref (ad 0)), (1, .int (zi x0)), (2, .int (zi x1)), (3, .ref (ld 0)), (4, .ref (ld 1)), (5, .ref (ld 2)), (6, .ref (ld 3)), (7, .ref (ld 4)), (8, .int (zi t9))]) hx hb dL_links_114 hl (by decide) rfl (fun ls hl => ?_)
        refine lv_aload_n hx hb dL_links_116 rfl (lv_at hl 1 rfl) ?_
        refine zi_iconst hx hb dL_links_117 ?_
        refine lv_iload hx hb dL_links_118 (lv_at hl 9 rfl) ?_
        refine zi_iconst hx hb dL_links_120 ?_
        refine lc_SW (As := [.ref (ad 0), .int (zi 0), .int (zi t9), .int (zi 0)]) (rest := []) (A0 := bA ad ld) ⟨hx, hb, hml, hown, hts⟩ (ct_L_asks0 l hst D cI cZ cJ sa ad ld S L M hdis hG hD t9 0 ⟨by omega, by omega⟩ ⟨by decide, by decide⟩) (vx_cwSW 4 hts gL_links_L_asks rfl rfl rfl (by decide +kernel) ⟨Nat.le_of_ble_eq_true rfl, Nat.le_of_ble_eq_true rfl⟩) hK hX hQ (fun _ h => h) hS hP hL rfl hl.1 rfl (Nat.le_of_ble_eq_true rfl) dL_links_121 ⟨(by show _ ≤ (10 : Nat); omega), (by show _ ≤ (220 : Nat); omega)⟩ (fun r_121 S_121 L_121 H locs hp_121 _ _ hP hL hS => ?_)
        obtain ⟨eL_121, hB_121⟩ := ask_body hD hG hN (by omega) (by omega) (by omega) hp_121
        rw [eL_121] at hL
        obtain ⟨hb1, er_121, hD_121⟩ := hB_121.resolve_left (fun h9 => by omega)
        refine lv_istore (lv' := [(10, .int (zi r_121)), (9, .int (zi 0)), (0, .ref (ad 0)), (1, .int (zi x0)), (2, .int (zi x1)), (3, .ref (ld 0)), (4, .ref (ld 1)), (5, .ref (ld 2)), (6, .ref (ld 3)), (7, .ref (ld 4)), (8, .int (zi t9))]) hx hb dL_links_124 hl (by decide) rfl (fun ls hl => ?_)
        refine lv_aload_n hx hb dL_links_126 rfl (lv_at hl 5 rfl) ?_
        refine lv_iload hx hb dL_links_127 (lv_at hl 10 rfl) ?_
        refine lv_dup2_11 hx hb dL_links_129 rfl rfl ?_
        refine zi_iald hx hb hK.1 hL 0 0 rfl rfl (by omega) (by omega) (by decide) dL_links_130 ?_
        have q_130 := GL.d hG (k := t9) (by omega) (by omega)
        refine lv_iload hx hb dL_links_131 (lv_at hl 1 rfl) ?_
        refine zi_if_eq (tgt := 148) hx hb ⟨by decide, by decide⟩ dL_links_133 (by decide) (fun c_133 => ?_) (fun c_133 => ?_)
        · refine zi_iconst hx hb dL_links_148 ?_
          refine zi_iadd hx hb dL_links_149 ?_
          refine zb_iast hx hb hK hdis (fun _ h => h) hP hL hS 0 rfl (fun _ => rfl) (by omega) (by omega) (by decide) dL_links_150 (fun H locs hP hL hS => ?_)
          have hL : va_P D vwCl (lW cI ld (su L 0 (up (L 0) t9 ((L 0 t9) + 0)))) H := hL
          rw [su_sam (k := 0) (by omega)] at hL
          refine lv_aload hx hb dL_links_151 (lv_at hl 9 rfl) ?_
          refine zi_iconst hx hb dL_links_153 ?_
          refine lv_dup2_11 hx hb dL_links_154 rfl rfl ?_
          refine zi_iald hx hb hK.1 hL 4 0 rfl rfl (by omega) (by omega) (by decide) dL_links_155 ?_
          refine zi_is (M 11 0) (GL.c hG).2.1 ?_
          have q_155 := GL.c hG
          refine lv_iload hx hb dL_links_156 (lv_at hl 1 rfl) ?_
          refine zi_if_eq (tgt := 165) hx hb ⟨by decide, by decide⟩ dL_links_158 (by decide) (fun c_158 => ?_) (fun c_158 => ?_)
          · refine zi_iconst hx hb dL_links_165 ?_
            refine zi_iadd hx hb dL_links_166 ?_
            refine zb_iast hx hb hK hdis (fun _ h => h) hP hL hS 4 rfl (fun _ => rfl) (by omega) (by omega) (by decide) dL_links_167 (fun H locs hP hL hS => ?_)
            have hL : va_P D vwCl (lW cI ld (su L 4 (up (L 4) 3 ((M 11 0) + 0)))) H := hL
            rw [su_sam (k := 4) (show M 11 0 + 0 = L 4 3 by omega)] at hL
            refine lv_iload hx hb dL_links_168 (lv_at hl 0 rfl) ?_
            refine lv_iload hx hb dL_links_170 (lv_at hl 1 rfl) ?_
            refine zi_if_eq (tgt := 184) hx hb ⟨by decide, by decide⟩ dL_links_172 (by decide) (fun c_172 => ?_) (fun c_172 => ?_)
            · refine lv_ldc (v := zi (-70008)) hx hb hown (hts _ ci41_L_links) dL_links_184 ?_
              refine zi_icmp_ne (tgt := 193) hx hb ⟨by omega, by omega⟩ ⟨by decide, by decide⟩ dL_links_186 (by decide) (fun c_186 => ?_) (fun c_186 => ?_)
              · exact absurd c_186 (by omega)
              · refine zi_iconst hx hb dL_links_189 ?_
                refine lv_goto (tgt := 194) hx hb dL_links_190 (by decide) ?_
                exact lr_wz (S1 := S_121) (L1 := L) hx hb hr hlocks dL_links_194 (Or.inr rfl) hP hL hS ⟨by omega, by omega⟩ (by exact ⟨rfl, M, hG, hD_121, hN, by omega⟩)
            · exact absurd c_172 (by omega)
          · exact absurd c_158 (by omega)
        · exact absurd c_133 (by omega)
      · refine zi_iconst hx hb dL_links_109 ?_
        refine lv_goto (tgt := 114) hx hb dL_links_110 (by decide) ?_
        refine lv_istore (lv' := [(9, .int (zi 1)), (0, .ref (ad 0)), (1, .int (zi x0)), (2, .int (zi x1)), (3, .ref (ld 0)), (4, .ref (ld 1)), (5, .ref (ld 2)), (6, .ref (ld 3)), (7, .ref (ld 4)), (8, .int (zi t9))]) hx hb dL_links_114 hl (by decide) rfl (fun ls hl => ?_)
        refine lv_aload_n hx hb dL_links_116 rfl (lv_at hl 1 rfl) ?_
        refine zi_iconst hx hb dL_links_117 ?_
        refine lv_iload hx hb dL_links_118 (lv_at hl 9 rfl) ?_
        refine zi_iconst hx hb dL_links_120 ?_
        refine lc_SW (As := [.ref (ad 0), .int (zi 0), .int (zi t9), .int (zi 0)]) (rest := []) (A0 := bA ad ld) ⟨hx, hb, hml, hown, hts⟩ (ct_L_asks0 l hst D cI cZ cJ sa ad ld S L M hdis hG hD t9 0 ⟨by omega, by omega⟩ ⟨by decide, by decide⟩) (vx_cwSW 4 hts gL_links_L_asks rfl rfl rfl (by decide +kernel) ⟨Nat.le_of_ble_eq_true rfl, Nat.le_of_ble_eq_true rfl⟩) hK hX hQ (fun _ h => h) hS hP hL rfl hl.1 rfl (Nat.le_of_ble_eq_true rfl) dL_links_121 ⟨(by show _ ≤ (10 : Nat); omega), (by show _ ≤ (220 : Nat); omega)⟩ (fun r_121 S_121 L_121 H locs hp_121 _ _ hP hL hS => ?_)
        obtain ⟨eL_121, hB_121⟩ := ask_body hD hG hN (by omega) (by omega) (by omega) hp_121
        rw [eL_121] at hL
        obtain ⟨hb1, er_121, hD_121, hG_121, hN_121⟩ := hB_121.resolve_right (fun h9 => h9.1 (by omega))
        refine lv_istore (lv' := [(10, .int (zi r_121)), (9, .int (zi 1)), (0, .ref (ad 0)), (1, .int (zi x0)), (2, .int (zi x1)), (3, .ref (ld 0)), (4, .ref (ld 1)), (5, .ref (ld 2)), (6, .ref (ld 3)), (7, .ref (ld 4)), (8, .int (zi t9))]) hx hb dL_links_124 hl (by decide) rfl (fun ls hl => ?_)
        refine lv_aload_n hx hb dL_links_126 rfl (lv_at hl 5 rfl) ?_
        refine lv_iload hx hb dL_links_127 (lv_at hl 10 rfl) ?_
        refine lv_dup2_11 hx hb dL_links_129 rfl rfl ?_
        refine zi_iald hx hb hK.1 hL 0 0 rfl rfl (by omega) (by omega) (by decide) dL_links_130 ?_
        have q_130 := GL.d hG (k := t9) (by omega) (by omega)
        refine lv_iload hx hb dL_links_131 (lv_at hl 1 rfl) ?_
        refine zi_if_eq (tgt := 148) hx hb ⟨by decide, by decide⟩ dL_links_133 (by decide) (fun c_133 => ?_) (fun c_133 => ?_)
        · exact absurd c_133 (by omega)
        · refine lv_ldc (v := zi 10800000) hx hb hown (hts _ ci42_L_links) dL_links_136 ?_
          refine lv_aload hx hb dL_links_138 (lv_at hl 9 rfl) ?_
          refine zi_iconst hx hb dL_links_140 ?_
          refine zi_iald hx hb hK.1 hL 4 0 rfl rfl (by omega) (by omega) (by decide) dL_links_141 ?_
          refine zi_is (M 11 0) (GL.c hG).2.1 ?_
          have q_141 := GL.c hG
          refine zi_iconst hx hb dL_links_142 ?_
          refine zi_iadd hx hb dL_links_143 ?_
          refine zi_imul hx hb dL_links_144 ?_
          refine lv_goto (tgt := 149) hx hb dL_links_145 (by decide) ?_
          refine zi_iadd hx hb dL_links_149 ?_
          refine zb_iast hx hb hK hdis (fun _ h => h) hP hL hS 0 rfl (fun _ => rfl) (by omega) (by omega) (by decide) dL_links_150 (fun H locs hP hL hS => ?_)
          have hL : va_P D vwCl (lW cI ld (su L 0 (up (L 0) t9 ((L 0 t9) + (10800000 * ((M 11 0) + 1)))))) H := hL
          refine lv_aload hx hb dL_links_151 (lv_at hl 9 rfl) ?_
          refine zi_iconst hx hb dL_links_153 ?_
          refine lv_dup2_11 hx hb dL_links_154 rfl rfl ?_
          refine zi_iald hx hb hK.1 hL 4 0 rfl rfl (by omega) (by omega) (by decide) dL_links_155 ?_
          refine zi_is (M 11 0) (GL.c hG).2.1 ?_
          have q_155 := GL.c hG
          refine lv_iload hx hb dL_links_156 (lv_at hl 1 rfl) ?_
          refine zi_if_eq (tgt := 165) hx hb ⟨by decide, by decide⟩ dL_links_158 (by decide) (fun c_158 => ?_) (fun c_158 => ?_)
          · exact absurd c_158 (by omega)
          · refine zi_iconst hx hb dL_links_161 ?_
            refine lv_goto (tgt := 166) hx hb dL_links_162 (by decide) ?_
            refine zi_iadd hx hb dL_links_166 ?_
            refine zb_iast hx hb hK hdis (fun _ h => h) hP hL hS 4 rfl (fun _ => rfl) (by omega) (by omega) (by decide) dL_links_167 (fun H locs hP hL hS => ?_)
            have hL : va_P D vwCl (lW cI ld (su (su L 0 (up (L 0) t9 ((L 0 t9) + (10800000 * ((M 11 0) + 1))))) 4 (up (L 4) 3 ((M 11 0) + 1)))) H := hL
            refine lv_iload hx hb dL_links_168 (lv_at hl 0 rfl) ?_
            refine lv_iload hx hb dL_links_170 (lv_at hl 1 rfl) ?_
            refine zi_if_eq (tgt := 184) hx hb ⟨by decide, by decide⟩ dL_links_172 (by decide) (fun c_172 => ?_) (fun c_172 => ?_)
            · exact absurd c_172 (by omega)
            · refine lv_aload hx hb dL_links_175 (lv_at hl 9 rfl) ?_
              refine zi_iconst hx hb dL_links_177 ?_
              refine zi_iald hx hb hK.1 hL 4 0 rfl rfl (by omega) (by omega) (by decide) dL_links_178 ?_
              refine zi_is (M 11 0 + 1) (su_up _ _ _ _ _) ?_
              refine zi_iconst hx hb dL_links_179 ?_
              refine zi_isub hx hb dL_links_180 ?_
              refine lv_goto (tgt := 186) hx hb dL_links_181 (by decide) ?_
              refine zi_icmp_ne (tgt := 193) hx hb ⟨by omega, by omega⟩ ⟨by omega, by omega⟩ dL_links_186 (by decide) (fun c_186 => ?_) (fun c_186 => ?_)
              · exact absurd c_186 (by omega)
              · refine zi_iconst hx hb dL_links_189 ?_
                refine lv_goto (tgt := 194) hx hb dL_links_190 (by decide) ?_
                exact lr_wz (S1 := S_121) (L1 := (su (su L 0 (up (L 0) t9 ((L 0 t9) + (10800000 * ((M 11 0) + 1))))) 4 (up (L 4) 3 ((M 11 0) + 1)))) hx hb hr hlocks dL_links_194 (Or.inr rfl) hP hL hS ⟨by omega, by omega⟩ (by exact ⟨rfl, mBody M t9, hG_121, hD_121, hN_121, by show M 17 0 ≤ M 17 0 + 1; omega⟩)
    refine zi_icmp_lt (tgt := 100) hx hb ⟨by omega, by omega⟩ ⟨by decide, by decide⟩ dL_links_79 (by decide) (fun c_79 => ?_) (fun c_79 => ?_)
    · exact K_100 (by first | omega | assumption) _ (lv_sub hl [0, 1, 2, 3, 4, 5, 6, 7, 8] rfl)
    · refine lv_iload_n hx hb dL_links_82 rfl (lv_at hl 2 rfl) ?_
      refine zi_iconst hx hb dL_links_83 ?_
      refine zi_idiv hx hb ⟨by omega, by omega⟩ ⟨by omega, by omega⟩ (by omega) (by omega) dL_links_84 ?_
      refine zi_bipush hx hb dL_links_85 (by decide) ?_
      refine zi_irem hx hb ⟨by omega, by omega⟩ ⟨by omega, by omega⟩ (by omega) (by omega) dL_links_87 ?_
      have K_195 : (1 ≤ M 11 0) → ∀ (ls : Array Slot), lv_has ls 13 [(0, .ref (ad 0)), (1, .int (zi x0)), (2, .int (zi x1)), (3, .ref (ld 0)), (4, .ref (ld 1)), (5, .ref (ld 2)), (6, .ref (ld 3)), (7, .ref (ld 4)), (8, .int (zi t9))] → W p l e rmct_L_links s m ([.ref (ad 0), .int (zi x0), .int (zi x1), .ref (ld 0), .ref (ld 1), .ref (ld 2), .ref (ld 3), .ref (ld 4)] : List Value).toArray below meth c s.heap [] 0 0 (MQ below (zWb D cI ad ld (fun r S9 L9 => r = 1 ∧ ∃ M' : ZS, GL L9 M' ∧ DK S9 M' ∧ NX M' ∧ M' 17 0 ≤ M 17 0 + 1)) ([.ref (ad 0), .int (zi x0), .int (zi x1), .ref (ld 0), .ref (ld 1), .ref (ld 2), .ref (ld 3), .ref (ld 4)] : List Value).toArray s 10 220 (bA ad ld)) (F0 m 195 ls []) := by
        intro h_c4 ls hl
        refine lv_iload_n hx hb dL_links_195 rfl (lv_at hl 2 rfl) ?_
        refine zi_bipush hx hb dL_links_196 (by decide) ?_
        refine zi_idiv hx hb ⟨by omega, by omega⟩ ⟨by omega, by omega⟩ (by omega) (by omega) dL_links_198 ?_
        refine lv_aload hx hb dL_links_199 (lv_at hl 7 rfl) ?_
        refine zi_iconst hx hb dL_links_201 ?_
        refine zi_iald hx hb hK.1 hL 4 0 rfl rfl (by omega) (by omega) (by decide) dL_links_202 ?_
        refine zi_is (M 11 0) (GL.c hG).2.1 ?_
        have q_202 := GL.c hG
        refine zi_irem hx hb ⟨by omega, by omega⟩ ⟨by omega, by omega⟩ (by omega) (by omega) dL_links_203 ?_
        refine zi_top (fun x9_204 ex9_204 => ?_)
        refine lv_istore (lv' := [(9, .int (zi x9_204)), (0, .ref (ad 0)), (1, .int (zi x0)), (2, .int (zi x1)), (3, .ref (ld 0)), (4, .ref (ld 1)), (5, .ref (ld 2)), (6, .ref (ld 3)), (7, .ref (ld 4)), (8, .int (zi t9))]) hx hb dL_links_204 hl (by decide) rfl (fun ls hl => ?_)
        have m1_ := Int.emod_nonneg (x1 / 36) (show M 11 0 ≠ 0 by omega)
        have m2_ := Int.emod_lt_of_pos (x1 / 36) (show 0 < M 11 0 by omega)
        refine lv_aload_n hx hb dL_links_206 rfl (lv_at hl 4 rfl) ?_
        refine lv_iload hx hb dL_links_207 (lv_at hl 9 rfl) ?_
        refine zk_r (zc_S (As := [.ref (ld 0), .int (zi t9)]) (rest := []) ⟨hx, hb, hml, hown, hts⟩ (ct_L_owner l D cI cZ cJ ld L M hG t9 ⟨by omega, by omega⟩ ⟨by omega, by omega⟩) (va_cwS 2 hts gL_links_L_owner rfl rfl rfl (by decide +kernel) ⟨Nat.le_of_ble_eq_true rfl, Nat.le_of_ble_eq_true rfl⟩) hK hL rfl hl.1 rfl (Nat.le_of_ble_eq_true rfl) dL_links_209 ⟨(by show _ ≤ (10 : Nat); omega), (by show _ ≤ (220 : Nat); omega)⟩) ?_
        refine zi_top (fun (r_209 : Int) (er_209 : r_209 = M 10 t9) => ?_)
        have fr_209 : (-1 : Int) ≤ r_209 ∧ r_209 < 12 := by rw [er_209]; exact GL.ob hG (by omega) (by omega)
        have K_230 : ∀ (m9 : Int), ((m9 = 1 ∧ (M 10 t9 = -1 ∧ M 12 x9_204 = -1)) ∨ (m9 = 0 ∧ ¬ (M 10 t9 = -1 ∧ M 12 x9_204 = -1))) → ∀ (ls : Array Slot), lv_has ls 13 [(0, .ref (ad 0)), (1, .int (zi x0)), (2, .int (zi x1)), (3, .ref (ld 0)), (4, .ref (ld 1)), (5, .ref (ld 2)), (6, .ref (ld 3)), (7, .ref (ld 4)), (8, .int (zi t9)), (9, .int (zi x9_204))] → W p l e rmct_L_links s m ([.ref (ad 0), .int (zi x0), .int (zi x1), .ref (ld 0), .ref (ld 1), .ref (ld 2), .ref (ld 3), .ref (ld 4)] : List Value).toArray below meth c s.heap [] 0 0 (MQ below (zWb D cI ad ld (fun r S9 L9 => r = 1 ∧ ∃ M' : ZS, GL L9 M' ∧ DK S9 M' ∧ NX M' ∧ M' 17 0 ≤ M 17 0 + 1)) ([.ref (ad 0), .int (zi x0), .int (zi x1), .ref (ld 0), .ref (ld 1), .ref (ld 2), .ref (ld 3), .ref (ld 4)] : List Value).toArray s 10 220 (bA ad ld)) (F0 m 230 ls [.int (zi m9)]) := by
          intro m9 h_m9 ls hl
          refine lv_istore (lv' := [(10, .int (zi m9)), (0, .ref (ad 0)), (1, .int (zi x0)), (2, .int (zi x1)), (3, .ref (ld 0)), (4, .ref (ld 1)), (5, .ref (ld 2)), (6, .ref (ld 3)), (7, .ref (ld 4)), (8, .int (zi t9)), (9, .int (zi x9_204))]) hx hb dL_links_230 hl (by decide) rfl (fun ls hl => ?_)
          refine zi_iconst hx hb dL_links_232 ?_
          have K_235 : ∀ (k : Nat) (m8 k8 : Int), (0 ≤ k8 ∧ k8 ≤ 40) → ((m8 = 1 ∧ (M 10 t9 = -1 ∧ M 12 x9_204 = -1) ∧ ∀ j : Int, 0 ≤ j → j < k8 → lookM M j x9_204 → ¬ M 7 j = M 7 t9) ∨ (m8 = 0 ∧ ¬ clP M x9_204 t9)) → (0 ≤ m8 ∧ m8 ≤ 1) → (40 - k8 < (k : Int)) → ∀ (ls : Array Slot), lv_has ls 13 [(0, .ref (ad 0)), (1, .int (zi x0)), (2, .int (zi x1)), (3, .ref (ld 0)), (4, .ref (ld 1)), (5, .ref (ld 2)), (6, .ref (ld 3)), (7, .ref (ld 4)), (8, .int (zi t9)), (9, .int (zi x9_204)), (10, .int (zi m8)), (11, .int (zi k8))] → W p l e rmct_L_links s m ([.ref (ad 0), .int (zi x0), .int (zi x1), .ref (ld 0), .ref (ld 1), .ref (ld 2), .ref (ld 3), .ref (ld 4)] : List Value).toArray below meth c s.heap [] 0 0 (MQ below (zWb D cI ad ld (fun r S9 L9 => r = 1 ∧ ∃ M' : ZS, GL L9 M' ∧ DK S9 M' ∧ NX M' ∧ M' 17 0 ≤ M 17 0 + 1)) ([.ref (ad 0), .int (zi x0), .int (zi x1), .ref (ld 0), .ref (ld 1), .ref (ld 2), .ref (ld 3), .ref (ld 4)] : List Value).toArray s 10 220 (bA ad ld)) (F0 m 235 ls []) := by
            intro k
            induction k with
            | zero => intro m8 k8 h_k8 h_m8 h_mb hk; exact absurd hk (by omega)
            | succ k ih_235 =>
              intro m8 k8 h_k8 h_m8 h_mb hk ls hl
              refine lv_iload hx hb dL_links_235 (lv_at hl 11 rfl) ?_
              refine lv_aload hx hb dL_links_237 (lv_at hl 7 rfl) ?_
              refine zi_iconst hx hb dL_links_239 ?_
              refine zi_iald hx hb hK.1 hL 4 0 rfl rfl (by omega) (by omega) (by decide) dL_links_240 ?_
              refine zi_is 40 (GL.c hG).1 ?_
              have q_240 := GL.c hG
              have K_290 : ∀ (m7 : Int), ((m7 = 1 ∧ (M 10 t9 = -1 ∧ M 12 x9_204 = -1) ∧ ∀ j : Int, 0 ≤ j → j < 40 → lookM M j x9_204 → ¬ M 7 j = M 7 t9) ∨ (m7 = 0 ∧ ¬ clP M x9_204 t9)) → (0 ≤ m7 ∧ m7 ≤ 1) → ∀ (ls : Array Slot), lv_has ls 13 [(0, .ref (ad 0)), (1, .int (zi x0)), (2, .int (zi x1)), (3, .ref (ld 0)), (4, .ref (ld 1)), (5, .ref (ld 2)), (6, .ref (ld 3)), (7, .ref (ld 4)), (8, .int (zi t9)), (9, .int (zi x9_204)), (10, .int (zi m7))] → W p l e rmct_L_links s m ([.ref (ad 0), .int (zi x0), .int (zi x1), .ref (ld 0), .ref (ld 1), .ref (ld 2), .ref (ld 3), .ref (ld 4)] : List Value).toArray below meth c s.heap [] 0 0 (MQ below (zWb D cI ad ld (fun r S9 L9 => r = 1 ∧ ∃ M' : ZS, GL L9 M' ∧ DK S9 M' ∧ NX M' ∧ M' 17 0 ≤ M 17 0 + 1)) ([.ref (ad 0), .int (zi x0), .int (zi x1), .ref (ld 0), .ref (ld 1), .ref (ld 2), .ref (ld 3), .ref (ld 4)] : List Value).toArray s 10 220 (bA ad ld)) (F0 m 290 ls []) := by
                intro m7 h_m7 h_mb7 ls hl
                refine lv_iload hx hb dL_links_290 (lv_at hl 10 rfl) ?_
                have K_320 : ∀ (m6 : Int) (T : ZS), ((m6 = 1 ∧ clP M x9_204 t9) ∨ (m6 = 0 ∧ ¬ clP M x9_204 t9)) → (0 ≤ m6 ∧ m6 ≤ 1) → (DK T M) → ∀ (H : Heap) (locs : List Loc), va_P D vwCl (dW cI ad T) H → va_P D vwCl (lW cI ld L) H → va_S (bA ad ld) s.heap H locs → ∀ (ls : Array Slot), lv_has ls 13 [(0, .ref (ad 0)), (1, .int (zi x0)), (2, .int (zi x1)), (3, .ref (ld 0)), (4, .ref (ld 1)), (5, .ref (ld 2)), (6, .ref (ld 3)), (7, .ref (ld 4)), (8, .int (zi t9)), (9, .int (zi x9_204))] → W p l e rmct_L_links s m ([.ref (ad 0), .int (zi x0), .int (zi x1), .ref (ld 0), .ref (ld 1), .ref (ld 2), .ref (ld 3), .ref (ld 4)] : List Value).toArray below meth c H locs 3 180 (MQ below (zWb D cI ad ld (fun r S9 L9 => r = 1 ∧ ∃ M' : ZS, GL L9 M' ∧ DK S9 M' ∧ NX M' ∧ M' 17 0 ≤ M 17 0 + 1)) ([.ref (ad 0), .int (zi x0), .int (zi x1), .ref (ld 0), .ref (ld 1), .ref (ld 2), .ref (ld 3), .ref (ld 4)] : List Value).toArray s 10 220 (bA ad ld)) (F0 m 320 ls [.int (zi m6)]) := by
                  intro m6 T h_m6 h_mb6 hD_T H locs hP hL hS ls hl
                  refine lv_istore (lv' := [(10, .int (zi m6)), (0, .ref (ad 0)), (1, .int (zi x0)), (2, .int (zi x1)), (3, .ref (ld 0)), (4, .ref (ld 1)), (5, .ref (ld 2)), (6, .ref (ld 3)), (7, .ref (ld 4)), (8, .int (zi t9)), (9, .int (zi x9_204))]) hx hb dL_links_320 hl (by decide) rfl (fun ls hl => ?_)
                  refine lv_aload_n hx hb dL_links_322 rfl (lv_at hl 4 rfl) ?_
                  refine lv_aload hx hb dL_links_323 (lv_at hl 7 rfl) ?_
                  refine lv_aload hx hb dL_links_325 (lv_at hl 8 rfl) ?_
                  refine lv_iload hx hb dL_links_327 (lv_at hl 10 rfl) ?_
                  refine zk_r (zc_S (As := [.ref (ld 0), .ref (ld 3), .ref (ld 4), .int (zi x9_204)]) (rest := []) ⟨hx, hb, hml, hown, hts⟩ (ct_L_looks l D cI cZ cJ ld L M hG x9_204 ⟨by omega, by omega⟩) (va_cwS 4 hts gL_links_L_looks rfl rfl rfl (by decide +kernel) ⟨Nat.le_of_ble_eq_true rfl, Nat.le_of_ble_eq_true rfl⟩) hK hL rfl hl.1 rfl (Nat.le_of_ble_eq_true rfl) dL_links_329 ⟨(by show _ ≤ (10 : Nat); omega), (by show _ ≤ (220 : Nat); omega)⟩) ?_
                  refine zi_top (fun (r_329 : Int) (er_329 : r_329 = lkN M x9_204) => ?_)
                  have lk_ := lkN_b (M := M) (b := x9_204)
                  rw [← er_329] at lk_
                  refine lv_istore (lv' := [(11, .int (zi r_329)), (10, .int (zi m6)), (0, .ref (ad 0)), (1, .int (zi x0)), (2, .int (zi x1)), (3, .ref (ld 0)), (4, .ref (ld 1)), (5, .ref (ld 2)), (6, .ref (ld 3)), (7, .ref (ld 4)), (8, .int (zi t9)), (9, .int (zi x9_204))]) hx hb dL_links_332 hl (by decide) rfl (fun ls hl => ?_)
                  refine lv_aload_n hx hb dL_links_334 rfl (lv_at hl 2 rfl) ?_
                  refine zi_iconst hx hb dL_links_335 ?_
                  refine lv_iload hx hb dL_links_336 (lv_at hl 11 rfl) ?_
                  refine lv_iload hx hb dL_links_338 (lv_at hl 10 rfl) ?_
                  refine lc_SW (As := [.ref (ad 0), .int (zi 1), .int (zi x9_204), .int (zi t9)]) (rest := []) (A0 := bA ad ld) ⟨hx, hb, hml, hown, hts⟩ (ct_L_asks1 l hst D cI cZ cJ sa ad ld T L M hdis hG hD_T x9_204 t9 ⟨by omega, by omega⟩ ⟨by omega, by omega⟩) (vx_cwSW 4 hts gL_links_L_asks rfl rfl rfl (by decide +kernel) ⟨Nat.le_of_ble_eq_true rfl, Nat.le_of_ble_eq_true rfl⟩) hK hX hQ (fun _ h => h) hS hP hL rfl hl.1 rfl (Nat.le_of_ble_eq_true rfl) dL_links_340 ⟨(by show _ ≤ (10 : Nat); omega), (by show _ ≤ (220 : Nat); omega)⟩ (fun r_340 S_340 L_340 H locs hp_340 _ _ hP hL hS => ?_)
                  obtain ⟨eL_340, hB_340⟩ := ask_link hD_T hG hN (by omega) (by omega) (by omega) (by omega) hp_340
                  rw [eL_340] at hL
                  refine lv_istore (lv' := [(12, .int (zi r_340)), (11, .int (zi r_329)), (10, .int (zi m6)), (0, .ref (ad 0)), (1, .int (zi x0)), (2, .int (zi x1)), (3, .ref (ld 0)), (4, .ref (ld 1)), (5, .ref (ld 2)), (6, .ref (ld 3)), (7, .ref (ld 4)), (8, .int (zi t9)), (9, .int (zi x9_204))]) hx hb dL_links_343 hl (by decide) rfl (fun ls hl => ?_)
                  refine lv_aload_n hx hb dL_links_345 rfl (lv_at hl 6 rfl) ?_
                  refine lv_iload hx hb dL_links_346 (lv_at hl 11 rfl) ?_
                  refine lv_dup2_11 hx hb dL_links_348 rfl rfl ?_
                  refine zi_iald hx hb hK.1 hL 0 0 rfl rfl (by omega) (by omega) (by decide) dL_links_349 ?_
                  have q_349 := GL.d hG (k := t9) (by omega) (by omega)
                  refine lv_iload hx hb dL_links_350 (lv_at hl 2 rfl) ?_
                  refine zi_if_eq (tgt := 365) hx hb ⟨by omega, by omega⟩ dL_links_352 (by decide) (fun c_352 => ?_) (fun c_352 => ?_)
                  · obtain ⟨hb1, er_340, hD_340⟩ := hB_340.resolve_left (fun h9 => (h_m6.resolve_left (by omega)).2 h9.1)
                    refine zi_iconst hx hb dL_links_365 ?_
                    refine zi_iadd hx hb dL_links_366 ?_
                    refine zb_iast hx hb hK hdis (fun _ h => h) hP hL hS 0 rfl (fun _ => rfl) (by omega) (by omega) (by decide) dL_links_367 (fun H locs hP hL hS => ?_)
                    have hL : va_P D vwCl (lW cI ld (su L 0 (up (L 0) t9 ((L 0 t9) + 0)))) H := hL
                    rw [su_sam (k := 0) (by omega)] at hL
                    refine lv_iload hx hb dL_links_368 (lv_at hl 0 rfl) ?_
                    refine lv_iload hx hb dL_links_370 (lv_at hl 2 rfl) ?_
                    refine zi_if_eq (tgt := 382) hx hb ⟨by omega, by omega⟩ dL_links_372 (by decide) (fun c_372 => ?_) (fun c_372 => ?_)
                    · refine lv_ldc (v := zi (-70008)) hx hb hown (hts _ ci41_L_links) dL_links_382 ?_
                      refine zi_icmp_ne (tgt := 407) hx hb ⟨by omega, by omega⟩ ⟨by decide, by decide⟩ dL_links_384 (by decide) (fun c_384 => ?_) (fun c_384 => ?_)
                      · exact absurd c_384 (by omega)
                      · refine lv_aload_n hx hb dL_links_387 rfl (lv_at hl 3 rfl) ?_
                        refine lv_iload hx hb dL_links_388 (lv_at hl 11 rfl) ?_
                        refine zi_iconst hx hb dL_links_390 ?_
                        refine lc_pub (ld := ld) (L0 := L) (As := [.int (zi t9), .int (zi 3)]) (rest := []) (A0 := bA ad ld) ⟨hx, hb, hml, hown, hts⟩ (ct_X7_ofDot l hst D cI cZ cJ sa ad S_340 hD_340.1 hdis.1 t9 3 ⟨by omega, by omega⟩ ⟨by decide, by decide⟩) (cwV 2 hts gL_links_X7_ofDot rfl rfl rfl (by decide +kernel) ⟨Nat.le_of_ble_eq_true rfl, Nat.le_of_ble_eq_true rfl⟩) rfl hK hX hdis (fun _ h => h) hS hP hL (nox_ofDot hD_340 (by omega) (by omega)) rfl hl.1 rfl (Nat.le_of_ble_eq_true rfl) dL_links_391 ⟨(by show _ ≤ (10 : Nat); omega), (by show _ ≤ (220 : Nat); omega)⟩ (fun r_391 S_391 H locs hp_391 _ _ hP hL hS => ?_)
                        obtain ⟨er_391, hD_391⟩ := q_ofDot hD_340 (by omega) (by omega) hp_391
                        refine lv_aload_n hx hb dL_links_394 rfl (lv_at hl 6 rfl) ?_
                        refine lv_iload hx hb dL_links_395 (lv_at hl 11 rfl) ?_
                        refine zk_r (zc_S (As := [.ref (ld 0), .int (zi t9)]) (rest := [.int (zi r_391)]) ⟨hx, hb, hml, hown, hts⟩ (ct_L_owner l D cI cZ cJ ld L M hG t9 ⟨by omega, by omega⟩ ⟨by omega, by omega⟩) (va_cwS 2 hts gL_links_L_owner rfl rfl rfl (by decide +kernel) ⟨Nat.le_of_ble_eq_true rfl, Nat.le_of_ble_eq_true rfl⟩) hK hL rfl hl.1 rfl (Nat.le_of_ble_eq_true rfl) dL_links_397 ⟨(by show _ ≤ (10 : Nat); omega), (by show _ ≤ (220 : Nat); omega)⟩) ?_
                        refine zi_top (fun (r_397 : Int) (er_397 : r_397 = M 10 t9) => ?_)
                        have fr_397 : (-1 : Int) ≤ r_397 ∧ r_397 < 12 := by rw [er_397]; exact GL.ob hG (by omega) (by omega)
                        refine zi_icmp_ne (tgt := 407) hx hb ⟨by omega, by omega⟩ ⟨by omega, by omega⟩ dL_links_400 (by decide) (fun c_400 => ?_) (fun c_400 => ?_)
                        · exact absurd c_400 (by rw [er_391, er_397]; exact not_not_intro rfl)
                        · refine zi_iconst hx hb dL_links_403 ?_
                          refine lv_goto (tgt := 408) hx hb dL_links_404 (by decide) ?_
                          exact lr_wz (S1 := S_391) (L1 := L) hx hb hr hlocks dL_links_408 (Or.inr rfl) hP hL hS ⟨by omega, by omega⟩ (by exact ⟨rfl, M, hG, hD_391, hN, by omega⟩)
                    · exact absurd c_372 (by omega)
                  · obtain ⟨hb1, er_340, hD_340, hG_340, hN_340⟩ := hB_340.resolve_right (fun h9 => h9.1 (h_m6.resolve_right (by omega)).2)
                    refine lv_ldc (v := zi 10800000) hx hb hown (hts _ ci42_L_links) dL_links_355 ?_
                    refine lv_iload hx hb dL_links_357 (lv_at hl 12 rfl) ?_
                    refine zi_iconst hx hb dL_links_359 ?_
                    refine zi_iadd hx hb dL_links_360 ?_
                    refine zi_imul hx hb dL_links_361 ?_
                    refine lv_goto (tgt := 366) hx hb dL_links_362 (by decide) ?_
                    refine zi_iadd hx hb dL_links_366 ?_
                    refine zb_iast hx hb hK hdis (fun _ h => h) hP hL hS 0 rfl (fun _ => rfl) (by omega) (by omega) (by decide) dL_links_367 (fun H locs hP hL hS => ?_)
                    have hL : va_P D vwCl (lW cI ld (su L 0 (up (L 0) t9 ((L 0 t9) + (10800000 * (x9_204 + 1)))))) H := hL
                    have q1_ := GL.c hG_340
                    refine lv_iload hx hb dL_links_368 (lv_at hl 0 rfl) ?_
                    refine lv_iload hx hb dL_links_370 (lv_at hl 2 rfl) ?_
                    refine zi_if_eq (tgt := 382) hx hb ⟨by omega, by omega⟩ dL_links_372 (by decide) (fun c_372 => ?_) (fun c_372 => ?_)
                    · exact absurd c_372 (by omega)
                    · refine lv_iload hx hb dL_links_375 (lv_at hl 1 rfl) ?_
                      refine zi_iconst hx hb dL_links_377 ?_
                      refine zi_iadd hx hb dL_links_378 ?_
                      refine lv_goto (tgt := 384) hx hb dL_links_379 (by decide) ?_
                      refine zi_icmp_ne (tgt := 407) hx hb ⟨by omega, by omega⟩ ⟨by omega, by omega⟩ dL_links_384 (by decide) (fun c_384 => ?_) (fun c_384 => ?_)
                      · exact absurd c_384 (by omega)
                      · refine lv_aload_n hx hb dL_links_387 rfl (lv_at hl 3 rfl) ?_
                        refine lv_iload hx hb dL_links_388 (lv_at hl 11 rfl) ?_
                        refine zi_iconst hx hb dL_links_390 ?_
                        refine lc_pub (ld := ld) (L0 := (su L 0 (up (L 0) t9 ((L 0 t9) + (10800000 * (x9_204 + 1)))))) (As := [.int (zi t9), .int (zi 3)]) (rest := []) (A0 := bA ad ld) ⟨hx, hb, hml, hown, hts⟩ (ct_X7_ofDot l hst D cI cZ cJ sa ad S_340 hD_340.1 hdis.1 t9 3 ⟨by omega, by omega⟩ ⟨by decide, by decide⟩) (cwV 2 hts gL_links_X7_ofDot rfl rfl rfl (by decide +kernel) ⟨Nat.le_of_ble_eq_true rfl, Nat.le_of_ble_eq_true rfl⟩) rfl hK hX hdis (fun _ h => h) hS hP hL (nox_ofDot hD_340 (by omega) (by omega)) rfl hl.1 rfl (Nat.le_of_ble_eq_true rfl) dL_links_391 ⟨(by show _ ≤ (10 : Nat); omega), (by show _ ≤ (220 : Nat); omega)⟩ (fun r_391 S_391 H locs hp_391 _ _ hP hL hS => ?_)
                        obtain ⟨er_391, hD_391⟩ := q_ofDot hD_340 (by omega) (by omega) hp_391
                        refine lv_aload_n hx hb dL_links_394 rfl (lv_at hl 6 rfl) ?_
                        refine lv_iload hx hb dL_links_395 (lv_at hl 11 rfl) ?_
                        refine zk_r (zc_S (As := [.ref (ld 0), .int (zi t9)]) (rest := [.int (zi r_391)]) ⟨hx, hb, hml, hown, hts⟩ (ct_L_owner l D cI cZ cJ ld (su L 0 (up (L 0) t9 ((L 0 t9) + (10800000 * (x9_204 + 1))))) (mLink M x9_204 t9) hG_340 t9 ⟨by omega, by omega⟩ ⟨by omega, by omega⟩) (va_cwS 2 hts gL_links_L_owner rfl rfl rfl (by decide +kernel) ⟨Nat.le_of_ble_eq_true rfl, Nat.le_of_ble_eq_true rfl⟩) hK hL rfl hl.1 rfl (Nat.le_of_ble_eq_true rfl) dL_links_397 ⟨(by show _ ≤ (10 : Nat); omega), (by show _ ≤ (220 : Nat); omega)⟩) ?_
                        refine zi_top (fun (r_397 : Int) (er_397 : r_397 = (mLink M x9_204 t9) 10 t9) => ?_)
                        have fr_397 : (-1 : Int) ≤ r_397 ∧ r_397 < 12 := by rw [er_397]; exact GL.ob hG_340 (by omega) (by omega)
                        refine zi_icmp_ne (tgt := 407) hx hb ⟨by omega, by omega⟩ ⟨by omega, by omega⟩ dL_links_400 (by decide) (fun c_400 => ?_) (fun c_400 => ?_)
                        · exact absurd c_400 (by rw [er_391, er_397]; exact not_not_intro rfl)
                        · refine zi_iconst hx hb dL_links_403 ?_
                          refine lv_goto (tgt := 408) hx hb dL_links_404 (by decide) ?_
                          exact lr_wz (S1 := S_391) (L1 := (su L 0 (up (L 0) t9 ((L 0 t9) + (10800000 * (x9_204 + 1)))))) hx hb hr hlocks dL_links_408 (Or.inr rfl) hP hL hS ⟨by omega, by omega⟩ (by exact ⟨rfl, mLink M x9_204 t9, hG_340, hD_391, hN_340, by show M 17 0 ≤ M 17 0 + 1; omega⟩)
                refine zi_if_eq (tgt := 319) hx hb ⟨by omega, by omega⟩ dL_links_292 (by decide) (fun c_292 => ?_) (fun c_292 => ?_)
                · refine zi_iconst hx hb dL_links_319 ?_
                  exact lw_wd (by omega) (by omega) (K_320 0 S (Or.inr ⟨rfl, (h_m7.resolve_left (by omega)).2⟩) (by first | omega | assumption) hD _ _ hP hL hS _ (lv_sub hl [0, 1, 2, 3, 4, 5, 6, 7, 8, 9] rfl))
                · refine lv_aload_n hx hb dL_links_295 rfl (lv_at hl 3 rfl) ?_
                  refine lv_aload hx hb dL_links_296 (lv_at hl 4 rfl) ?_
                  refine lv_aload hx hb dL_links_298 (lv_at hl 5 rfl) ?_
                  refine lv_aload hx hb dL_links_300 (lv_at hl 6 rfl) ?_
                  refine lv_aload hx hb dL_links_302 (lv_at hl 7 rfl) ?_
                  refine lv_iload hx hb dL_links_304 (lv_at hl 9 rfl) ?_
                  refine zi_iconst hx hb dL_links_306 ?_
                  refine lv_iload hx hb dL_links_307 (lv_at hl 8 rfl) ?_
                  refine lc_N (As := [.ref (ld 0), .ref (ld 1), .ref (ld 2), .ref (ld 3), .ref (ld 4), .int (zi x9_204), .int (zi (-1)), .int (zi t9)]) (rest := []) (A0 := bA ad ld) ⟨hx, hb, hml, hown, hts⟩ (ct_L_orbits l D cI cZ cJ ld L M hG x9_204 (-1) t9 ⟨by omega, by omega⟩ ⟨by decide, by decide⟩ ⟨by omega, by omega⟩ (oG_1 (oL_mem.mpr ⟨⟨by omega, by omega⟩, Or.inr (Or.inr rfl)⟩)).1) (va_cwS 8 hts gL_links_L_orbits rfl rfl rfl (by decide +kernel) ⟨Nat.le_of_ble_eq_true rfl, Nat.le_of_ble_eq_true rfl⟩) ⟨zP_blind, fun U hU hW => ⟨rfl, by rw [hU]; exact hL, hK.warm hW⟩⟩ hS rfl hl.1 rfl (Nat.le_of_ble_eq_true rfl) dL_links_309 ⟨(by show _ ≤ (10 : Nat); omega), (by show _ ≤ (220 : Nat); omega)⟩ (fun r_309 H locs er_309 _ hk_309 hS => ?_)
                  have er_309 : r_309 = orN M x9_204 (-1) t9 := er_309
                  have hP := hP.kept (fun k q hq => hk_309 q.1 (vx_lt hP hq))
                  have hL := hL.kept (fun k q hq => hk_309 q.1 (vx_lt hL hq))
                  have or_ := orN_b (E9.of hG.2.1) (oG_1 (M := M) (b := x9_204) (o := -1) (d := t9) (oL_mem.mpr ⟨⟨by omega, by omega⟩, Or.inr (Or.inr rfl)⟩)).2
                  rw [← er_309] at or_
                  refine zi_if_le (tgt := 319) hx hb ⟨by omega, by omega⟩ dL_links_312 (by decide) (fun c_312 => ?_) (fun c_312 => ?_)
                  · refine zi_iconst hx hb dL_links_319 ?_
                    exact lw_wd (by omega) (by omega) (K_320 0 S (Or.inr ⟨rfl, fun h9 => by have h8 := ((cl_law hG (b := x9_204) (d := t9) (by omega) (by omega)).mp h9).2.2.2; rw [← er_309] at h8; omega⟩) (by first | omega | assumption) hD _ _ hP hL hS _ (lv_sub hl [0, 1, 2, 3, 4, 5, 6, 7, 8, 9] rfl))
                  · refine zi_iconst hx hb dL_links_315 ?_
                    refine lv_goto (tgt := 320) hx hb dL_links_316 (by decide) ?_
                    exact lw_wd (by omega) (by omega) (K_320 1 S (Or.inl ⟨rfl, (cl_law hG (b := x9_204) (d := t9) (by omega) (by omega)).mpr ⟨(h_m7.resolve_right (by omega)).2.1.1, (h_m7.resolve_right (by omega)).2.1.2, (h_m7.resolve_right (by omega)).2.2, by rw [← er_309]; omega⟩⟩) (by first | omega | assumption) hD _ _ hP hL hS _ (lv_sub hl [0, 1, 2, 3, 4, 5, 6, 7, 8, 9] rfl))
              refine zi_icmp_ge (tgt := 290) hx hb ⟨by omega, by omega⟩ ⟨by decide, by decide⟩ dL_links_241 (by decide) (fun c_241 => ?_) (fun c_241 => ?_)
              · exact K_290 m8 (h_m8.elim (fun h => Or.inl ⟨h.1, h.2.1, fun j a c => h.2.2 j a (by omega)⟩) Or.inr) (by first | omega | assumption) _ (lv_sub hl [0, 1, 2, 3, 4, 5, 6, 7, 8, 9, 10] rfl)
              · refine lv_iload hx hb dL_links_244 (lv_at hl 10 rfl) ?_
                refine zi_if_eq (tgt := 290) hx hb ⟨by omega, by omega⟩ dL_links_246 (by decide) (fun c_246 => ?_) (fun c_246 => ?_)
                · exact K_290 m8 (Or.inr ⟨by omega, (h_m8.resolve_left (by omega)).2⟩) (by first | omega | assumption) _ (lv_sub hl [0, 1, 2, 3, 4, 5, 6, 7, 8, 9, 10] rfl)
                · refine lv_aload_n hx hb dL_links_249 rfl (lv_at hl 3 rfl) ?_
                  refine lv_aload hx hb dL_links_250 (lv_at hl 6 rfl) ?_
                  refine lv_iload hx hb dL_links_252 (lv_at hl 11 rfl) ?_
                  refine lv_iload hx hb dL_links_254 (lv_at hl 9 rfl) ?_
                  refine zk_r (zc_S (As := [.ref (ld 0), .ref (ld 3), .int (zi k8), .int (zi x9_204)]) (rest := []) ⟨hx, hb, hml, hown, hts⟩ (ct_L_isLook l D cI cZ cJ ld L M hG k8 x9_204 ⟨by omega, by omega⟩ ⟨by omega, by omega⟩ ⟨by omega, by omega⟩) (va_cwS 4 hts gL_links_L_isLook rfl rfl rfl (by decide +kernel) ⟨Nat.le_of_ble_eq_true rfl, Nat.le_of_ble_eq_true rfl⟩) hK hL rfl hl.1 rfl (Nat.le_of_ble_eq_true rfl) dL_links_256 ⟨(by show _ ≤ (10 : Nat); omega), (by show _ ≤ (220 : Nat); omega)⟩) ?_
                  refine zi_top (fun (r_256 : Int) (er_256 : r_256 = b2 (lookM M k8 x9_204)) => ?_)
                  have fr_256 : (0 : Int) ≤ r_256 ∧ r_256 ≤ 1 := by rw [er_256]; exact b2_b
                  refine zi_if_eq (tgt := 277) hx hb ⟨by omega, by omega⟩ dL_links_259 (by decide) (fun c_259 => ?_) (fun c_259 => ?_)
                  · refine zi_iconst hx hb dL_links_277 ?_
                    refine lv_goto (tgt := 282) hx hb dL_links_278 (by decide) ?_
                    refine lv_istore (lv' := [(10, .int (zi 1)), (0, .ref (ad 0)), (1, .int (zi x0)), (2, .int (zi x1)), (3, .ref (ld 0)), (4, .ref (ld 1)), (5, .ref (ld 2)), (6, .ref (ld 3)), (7, .ref (ld 4)), (8, .int (zi t9)), (9, .int (zi x9_204)), (11, .int (zi k8))]) hx hb dL_links_282 hl (by decide) rfl (fun ls hl => ?_)
                    refine zi_iinc (k := 11) (lv' := [(11, .int (zi (k8 + 1))), (10, .int (zi 1)), (0, .ref (ad 0)), (1, .int (zi x0)), (2, .int (zi x1)), (3, .ref (ld 0)), (4, .ref (ld 1)), (5, .ref (ld 2)), (6, .ref (ld 3)), (7, .ref (ld 4)), (8, .int (zi t9)), (9, .int (zi x9_204))]) hx hb dL_links_284 hl rfl (by decide) rfl (fun ls hl => ?_)
                    refine lv_goto (tgt := 235) hx hb dL_links_287 (by decide) ?_
                    exact ih_235 1 (k8 + 1) (by first | omega | assumption) (Or.inl ⟨rfl, (h_m8.resolve_right (by omega)).2.1, fun j a c hl9 => by by_cases e9 : j = k8; exact absurd (by rw [← e9]; exact hl9) (b2_0 er_256 c_259); exact (h_m8.resolve_right (by omega)).2.2 j a (by omega) hl9⟩) (by first | omega | assumption) (by omega) _ (lv_sub hl [2, 3, 4, 5, 6, 7, 8, 9, 10, 11, 1, 0] rfl)
                  · refine lv_aload_n hx hb dL_links_262 rfl (lv_at hl 3 rfl) ?_
                    refine lv_iload hx hb dL_links_263 (lv_at hl 11 rfl) ?_
                    refine zk_r (zc_S (As := [.ref (ld 0), .int (zi k8)]) (rest := []) ⟨hx, hb, hml, hown, hts⟩ (ct_L_plateOf l D cI cZ cJ ld L M hG k8 ⟨by omega, by omega⟩ ⟨by omega, by omega⟩) (va_cwS 2 hts gL_links_L_plateOf rfl rfl rfl (by decide +kernel) ⟨Nat.le_of_ble_eq_true rfl, Nat.le_of_ble_eq_true rfl⟩) hK hL rfl hl.1 rfl (Nat.le_of_ble_eq_true rfl) dL_links_265 ⟨(by show _ ≤ (10 : Nat); omega), (by show _ ≤ (220 : Nat); omega)⟩) ?_
                    refine zi_top (fun (r_265 : Int) (er_265 : r_265 = M 7 k8) => ?_)
                    have fr_265 : (0 : Int) ≤ r_265 ∧ r_265 < 14 := by rw [er_265]; exact GL.pb hG (by omega) (by omega)
                    refine lv_aload_n hx hb dL_links_268 rfl (lv_at hl 3 rfl) ?_
                    refine lv_iload hx hb dL_links_269 (lv_at hl 8 rfl) ?_
                    refine zk_r (zc_S (As := [.ref (ld 0), .int (zi t9)]) (rest := [.int (zi r_265)]) ⟨hx, hb, hml, hown, hts⟩ (ct_L_plateOf l D cI cZ cJ ld L M hG t9 ⟨by omega, by omega⟩ ⟨by omega, by omega⟩) (va_cwS 2 hts gL_links_L_plateOf rfl rfl rfl (by decide +kernel) ⟨Nat.le_of_ble_eq_true rfl, Nat.le_of_ble_eq_true rfl⟩) hK hL rfl hl.1 rfl (Nat.le_of_ble_eq_true rfl) dL_links_271 ⟨(by show _ ≤ (10 : Nat); omega), (by show _ ≤ (220 : Nat); omega)⟩) ?_
                    refine zi_top (fun (r_271 : Int) (er_271 : r_271 = M 7 t9) => ?_)
                    have fr_271 : (0 : Int) ≤ r_271 ∧ r_271 < 14 := by rw [er_271]; exact GL.pb hG (by omega) (by omega)
                    refine zi_icmp_eq (tgt := 281) hx hb ⟨by omega, by omega⟩ ⟨by omega, by omega⟩ dL_links_274 (by decide) (fun c_274 => ?_) (fun c_274 => ?_)
                    · refine zi_iconst hx hb dL_links_281 ?_
                      refine lv_istore (lv' := [(10, .int (zi 0)), (0, .ref (ad 0)), (1, .int (zi x0)), (2, .int (zi x1)), (3, .ref (ld 0)), (4, .ref (ld 1)), (5, .ref (ld 2)), (6, .ref (ld 3)), (7, .ref (ld 4)), (8, .int (zi t9)), (9, .int (zi x9_204)), (11, .int (zi k8))]) hx hb dL_links_282 hl (by decide) rfl (fun ls hl => ?_)
                      refine zi_iinc (k := 11) (lv' := [(11, .int (zi (k8 + 1))), (10, .int (zi 0)), (0, .ref (ad 0)), (1, .int (zi x0)), (2, .int (zi x1)), (3, .ref (ld 0)), (4, .ref (ld 1)), (5, .ref (ld 2)), (6, .ref (ld 3)), (7, .ref (ld 4)), (8, .int (zi t9)), (9, .int (zi x9_204))]) hx hb dL_links_284 hl rfl (by decide) rfl (fun ls hl => ?_)
                      refine lv_goto (tgt := 235) hx hb dL_links_287 (by decide) ?_
                      exact ih_235 0 (k8 + 1) (by first | omega | assumption) (Or.inr ⟨rfl, fun h9 => ((cl_law hG (b := x9_204) (d := t9) (by omega) (by omega)).mp h9).2.2.1 k8 (by omega) (by omega) (b2_1 er_256 c_259) (by rw [← er_265, ← er_271]; exact c_274)⟩) (by first | omega | assumption) (by omega) _ (lv_sub hl [2, 3, 4, 5, 6, 7, 8, 9, 10, 11, 1, 0] rfl)
                    · refine zi_iconst hx hb dL_links_277 ?_
                      refine lv_goto (tgt := 282) hx hb dL_links_278 (by decide) ?_
                      refine lv_istore (lv' := [(10, .int (zi 1)), (0, .ref (ad 0)), (1, .int (zi x0)), (2, .int (zi x1)), (3, .ref (ld 0)), (4, .ref (ld 1)), (5, .ref (ld 2)), (6, .ref (ld 3)), (7, .ref (ld 4)), (8, .int (zi t9)), (9, .int (zi x9_204)), (11, .int (zi k8))]) hx hb dL_links_282 hl (by decide) rfl (fun ls hl => ?_)
                      refine zi_iinc (k := 11) (lv' := [(11, .int (zi (k8 + 1))), (10, .int (zi 1)), (0, .ref (ad 0)), (1, .int (zi x0)), (2, .int (zi x1)), (3, .ref (ld 0)), (4, .ref (ld 1)), (5, .ref (ld 2)), (6, .ref (ld 3)), (7, .ref (ld 4)), (8, .int (zi t9)), (9, .int (zi x9_204))]) hx hb dL_links_284 hl rfl (by decide) rfl (fun ls hl => ?_)
                      refine lv_goto (tgt := 235) hx hb dL_links_287 (by decide) ?_
                      exact ih_235 1 (k8 + 1) (by first | omega | assumption) (Or.inl ⟨rfl, (h_m8.resolve_right (by omega)).2.1, fun j a c hl9 => by by_cases e9 : j = k8; (rw [e9, ← er_265, ← er_271]; exact c_274); exact (h_m8.resolve_right (by omega)).2.2 j a (by omega) hl9⟩) (by first | omega | assumption) (by omega) _ (lv_sub hl [2, 3, 4, 5, 6, 7, 8, 9, 10, 11, 1, 0] rfl)
          refine lv_istore (lv' := [(11, .int (zi 0)), (10, .int (zi m9)), (0, .ref (ad 0)), (1, .int (zi x0)), (2, .int (zi x1)), (3, .ref (ld 0)), (4, .ref (ld 1)), (5, .ref (ld 2)), (6, .ref (ld 3)), (7, .ref (ld 4)), (8, .int (zi t9)), (9, .int (zi x9_204))]) hx hb dL_links_233 hl (by decide) rfl (fun ls hl => ?_)
          exact K_235 41 m9 0 (by first | omega | assumption) (h_m9.elim (fun h => Or.inl ⟨h.1, h.2, fun j a c => absurd c (by omega)⟩) (fun h => Or.inr ⟨h.1, fun h9 => h.2 ⟨((cl_law hG (b := x9_204) (d := t9) (by omega) (by omega)).mp h9).1, ((cl_law hG (b := x9_204) (d := t9) (by omega) (by omega)).mp h9).2.1⟩⟩)) (by first | omega | assumption) (by omega) _ (lv_sub hl [2, 3, 4, 5, 6, 7, 8, 9, 10, 11, 1, 0] rfl)
        refine zi_if_ge (tgt := 229) hx hb ⟨by omega, by omega⟩ dL_links_212 (by decide) (fun c_212 => ?_) (fun c_212 => ?_)
        · refine zi_iconst hx hb dL_links_229 ?_
          exact K_230 0 (Or.inr ⟨rfl, fun h9 => by omega⟩) _ (lv_sub hl [1, 2, 3, 4, 5, 6, 7, 8, 9, 0] rfl)
        · refine lv_aload hx hb dL_links_215 (lv_at hl 7 rfl) ?_
          refine zi_iconst hx hb dL_links_217 ?_
          refine lv_iload hx hb dL_links_218 (lv_at hl 0 rfl) ?_
          refine zi_imul hx hb dL_links_220 ?_
          refine zi_iald hx hb hK.1 hL 3 0 rfl rfl (by omega) (by omega) (by decide) dL_links_221 ?_
          refine zi_is (M 12 x9_204 + 1) (GL.u hG (j := x9_204) (by omega) (by omega)).1 ?_
          have q_221 := (GL.u hG (j := x9_204) (by omega) (by omega)).2
          refine zi_if_ne (tgt := 229) hx hb ⟨by omega, by omega⟩ dL_links_222 (by decide) (fun c_222 => ?_) (fun c_222 => ?_)
          · refine zi_iconst hx hb dL_links_229 ?_
            exact K_230 0 (Or.inr ⟨rfl, fun h9 => by omega⟩) _ (lv_sub hl [1, 2, 3, 4, 5, 6, 7, 8, 9, 0] rfl)
          · refine zi_iconst hx hb dL_links_225 ?_
            refine lv_goto (tgt := 230) hx hb dL_links_226 (by decide) ?_
            exact K_230 1 (Or.inl ⟨rfl, by omega, by omega⟩) _ (lv_sub hl [1, 2, 3, 4, 5, 6, 7, 8, 9, 0] rfl)
      refine zi_if_ne (tgt := 195) hx hb ⟨by omega, by omega⟩ dL_links_88 (by decide) (fun c_88 => ?_) (fun c_88 => ?_)
      · exact K_195 (by first | omega | assumption) _ (lv_sub hl [0, 1, 2, 3, 4, 5, 6, 7, 8] rfl)
      · refine lv_aload hx hb dL_links_91 (lv_at hl 7 rfl) ?_
        refine zi_iconst hx hb dL_links_93 ?_
        refine zi_iald hx hb hK.1 hL 4 0 rfl rfl (by omega) (by omega) (by decide) dL_links_94 ?_
        refine zi_is (M 11 0) (GL.c hG).2.1 ?_
        have q_94 := GL.c hG
        refine zi_bipush hx hb dL_links_95 (by decide) ?_
        refine zi_icmp_ge (tgt := 195) hx hb ⟨by omega, by omega⟩ ⟨by decide, by decide⟩ dL_links_97 (by decide) (fun c_97 => ?_) (fun c_97 => ?_)
        · exact K_195 (by first | omega | assumption) _ (lv_sub hl [0, 1, 2, 3, 4, 5, 6, 7, 8] rfl)
        · exact K_100 (by first | omega | assumption) _ (lv_sub hl [0, 1, 2, 3, 4, 5, 6, 7, 8] rfl)
  refine zi_iconst hx hb dL_links_8 ?_
  have K_11 : ∀ (k : Nat) (t9 k9 : Int), (0 ≤ t9 ∧ t9 < 40) → (0 ≤ k9 ∧ k9 ≤ 40) → (40 - k9 < (k : Int)) → ∀ (ls : Array Slot), lv_has ls 13 [(0, .ref (ad 0)), (1, .int (zi x0)), (2, .int (zi x1)), (3, .ref (ld 0)), (4, .ref (ld 1)), (5, .ref (ld 2)), (6, .ref (ld 3)), (7, .ref (ld 4)), (8, .int (zi t9)), (9, .int (zi k9))] → W p l e rmct_L_links s m ([.ref (ad 0), .int (zi x0), .int (zi x1), .ref (ld 0), .ref (ld 1), .ref (ld 2), .ref (ld 3), .ref (ld 4)] : List Value).toArray below meth c s.heap [] 0 0 (MQ below (zWb D cI ad ld (fun r S9 L9 => r = 1 ∧ ∃ M' : ZS, GL L9 M' ∧ DK S9 M' ∧ NX M' ∧ M' 17 0 ≤ M 17 0 + 1)) ([.ref (ad 0), .int (zi x0), .int (zi x1), .ref (ld 0), .ref (ld 1), .ref (ld 2), .ref (ld 3), .ref (ld 4)] : List Value).toArray s 10 220 (bA ad ld)) (F0 m 11 ls []) := by
    intro k
    induction k with
    | zero => intro t9 k9 h_t h_k hk; exact absurd hk (by omega)
    | succ k ih_11 =>
      intro t9 k9 h_t h_k hk ls hl
      refine lv_iload hx hb dL_links_11 (lv_at hl 9 rfl) ?_
      refine lv_aload hx hb dL_links_13 (lv_at hl 7 rfl) ?_
      refine zi_iconst hx hb dL_links_15 ?_
      refine zi_iald hx hb hK.1 hL 4 0 rfl rfl (by omega) (by omega) (by decide) dL_links_16 ?_
      refine zi_is 40 (GL.c hG).1 ?_
      have q_16 := GL.c hG
      refine zi_icmp_ge (tgt := 74) hx hb ⟨by omega, by omega⟩ ⟨by decide, by decide⟩ dL_links_17 (by decide) (fun c_17 => ?_) (fun c_17 => ?_)
      · exact K_74 t9 (by first | omega | assumption) _ (lv_sub hl [0, 1, 2, 3, 4, 5, 6, 7, 8] rfl)
      · refine lv_iload_n hx hb dL_links_20 rfl (lv_at hl 2 rfl) ?_
        refine zi_iconst hx hb dL_links_21 ?_
        refine zi_irem hx hb ⟨by omega, by omega⟩ ⟨by omega, by omega⟩ (by omega) (by omega) dL_links_22 ?_
        refine zi_if_le (tgt := 74) hx hb ⟨by omega, by omega⟩ dL_links_23 (by decide) (fun c_23 => ?_) (fun c_23 => ?_)
        · exact K_74 t9 (by first | omega | assumption) _ (lv_sub hl [0, 1, 2, 3, 4, 5, 6, 7, 8] rfl)
        · refine lv_aload_n hx hb dL_links_26 rfl (lv_at hl 3 rfl) ?_
          refine lv_iload_n hx hb dL_links_27 rfl (lv_at hl 1 rfl) ?_
          refine lv_aload hx hb dL_links_28 (lv_at hl 7 rfl) ?_
          refine zi_iconst hx hb dL_links_30 ?_
          refine zi_iald hx hb hK.1 hL 4 0 rfl rfl (by omega) (by omega) (by decide) dL_links_31 ?_
          refine zi_is 40 (GL.c hG).1 ?_
          have q_31 := GL.c hG
          refine zi_irem hx hb ⟨by omega, by omega⟩ ⟨by omega, by omega⟩ (by omega) (by omega) dL_links_32 ?_
          refine lv_iload hx hb dL_links_33 (lv_at hl 9 rfl) ?_
          refine zi_iadd hx hb dL_links_35 ?_
          refine lv_aload hx hb dL_links_36 (lv_at hl 7 rfl) ?_
          refine zi_iconst hx hb dL_links_38 ?_
          refine zi_iald hx hb hK.1 hL 4 0 rfl rfl (by omega) (by omega) (by decide) dL_links_39 ?_
          refine zi_is 40 (GL.c hG).1 ?_
          have q_39 := GL.c hG
          refine zi_irem hx hb ⟨by omega, by omega⟩ ⟨by omega, by omega⟩ (by omega) (by omega) dL_links_40 ?_
          refine zk_r (zc_S (As := [.ref (ld 0), .int (zi (((x0 % 40) + k9) % 40))]) (rest := []) ⟨hx, hb, hml, hown, hts⟩ (ct_L_owner l D cI cZ cJ ld L M hG (((x0 % 40) + k9) % 40) ⟨by omega, by omega⟩ ⟨by omega, by omega⟩) (va_cwS 2 hts gL_links_L_owner rfl rfl rfl (by decide +kernel) ⟨Nat.le_of_ble_eq_true rfl, Nat.le_of_ble_eq_true rfl⟩) hK hL rfl hl.1 rfl (Nat.le_of_ble_eq_true rfl) dL_links_41 ⟨(by show _ ≤ (10 : Nat); omega), (by show _ ≤ (220 : Nat); omega)⟩) ?_
          refine zi_top (fun (r_41 : Int) (er_41 : r_41 = M 10 (((x0 % 40) + k9) % 40)) => ?_)
          have fr_41 : (-1 : Int) ≤ r_41 ∧ r_41 < 12 := by rw [er_41]; exact GL.ob hG (by omega) (by omega)
          have K_66 : ∀ (v9 : Int), (0 ≤ v9 ∧ v9 < 40) → ∀ (ls : Array Slot), lv_has ls 13 [(0, .ref (ad 0)), (1, .int (zi x0)), (2, .int (zi x1)), (3, .ref (ld 0)), (4, .ref (ld 1)), (5, .ref (ld 2)), (6, .ref (ld 3)), (7, .ref (ld 4)), (9, .int (zi k9))] → W p l e rmct_L_links s m ([.ref (ad 0), .int (zi x0), .int (zi x1), .ref (ld 0), .ref (ld 1), .ref (ld 2), .ref (ld 3), .ref (ld 4)] : List Value).toArray below meth c s.heap [] 0 0 (MQ below (zWb D cI ad ld (fun r S9 L9 => r = 1 ∧ ∃ M' : ZS, GL L9 M' ∧ DK S9 M' ∧ NX M' ∧ M' 17 0 ≤ M 17 0 + 1)) ([.ref (ad 0), .int (zi x0), .int (zi x1), .ref (ld 0), .ref (ld 1), .ref (ld 2), .ref (ld 3), .ref (ld 4)] : List Value).toArray s 10 220 (bA ad ld)) (F0 m 66 ls [.int (zi v9)]) := by
            intro v9 h_v ls hl
            refine lv_istore (lv' := [(8, .int (zi v9)), (0, .ref (ad 0)), (1, .int (zi x0)), (2, .int (zi x1)), (3, .ref (ld 0)), (4, .ref (ld 1)), (5, .ref (ld 2)), (6, .ref (ld 3)), (7, .ref (ld 4)), (9, .int (zi k9))]) hx hb dL_links_66 hl (by decide) rfl (fun ls hl => ?_)
            refine zi_iinc (k := 9) (lv' := [(9, .int (zi (k9 + 1))), (8, .int (zi v9)), (0, .ref (ad 0)), (1, .int (zi x0)), (2, .int (zi x1)), (3, .ref (ld 0)), (4, .ref (ld 1)), (5, .ref (ld 2)), (6, .ref (ld 3)), (7, .ref (ld 4))]) hx hb dL_links_68 hl rfl (by decide) rfl (fun ls hl => ?_)
            refine lv_goto (tgt := 11) hx hb dL_links_71 (by decide) ?_
            exact ih_11 v9 (k9 + 1) (by first | omega | assumption) (by first | omega | assumption) (by omega) _ (lv_sub hl [2, 3, 4, 5, 6, 7, 8, 9, 1, 0] rfl)
          refine zi_if_ge (tgt := 64) hx hb ⟨by omega, by omega⟩ dL_links_44 (by decide) (fun c_44 => ?_) (fun c_44 => ?_)
          · refine lv_iload hx hb dL_links_64 (lv_at hl 8 rfl) ?_
            exact K_66 t9 (by first | omega | assumption) _ (lv_sub hl [0, 1, 2, 3, 4, 5, 6, 7, 9] rfl)
          · refine lv_iload_n hx hb dL_links_47 rfl (lv_at hl 1 rfl) ?_
            refine lv_aload hx hb dL_links_48 (lv_at hl 7 rfl) ?_
            refine zi_iconst hx hb dL_links_50 ?_
            refine zi_iald hx hb hK.1 hL 4 0 rfl rfl (by omega) (by omega) (by decide) dL_links_51 ?_
            refine zi_is 40 (GL.c hG).1 ?_
            have q_51 := GL.c hG
            refine zi_irem hx hb ⟨by omega, by omega⟩ ⟨by omega, by omega⟩ (by omega) (by omega) dL_links_52 ?_
            refine lv_iload hx hb dL_links_53 (lv_at hl 9 rfl) ?_
            refine zi_iadd hx hb dL_links_55 ?_
            refine lv_aload hx hb dL_links_56 (lv_at hl 7 rfl) ?_
            refine zi_iconst hx hb dL_links_58 ?_
            refine zi_iald hx hb hK.1 hL 4 0 rfl rfl (by omega) (by omega) (by decide) dL_links_59 ?_
            refine zi_is 40 (GL.c hG).1 ?_
            have q_59 := GL.c hG
            refine zi_irem hx hb ⟨by omega, by omega⟩ ⟨by omega, by omega⟩ (by omega) (by omega) dL_links_60 ?_
            refine lv_goto (tgt := 66) hx hb dL_links_61 (by decide) ?_
            exact K_66 (((x0 % 40) + k9) % 40) (by first | omega | assumption) _ (lv_sub hl [0, 1, 2, 3, 4, 5, 6, 7, 9] rfl)
  refine lv_istore (lv' := [(9, .int (zi 0)), (8, .int (zi x8_6)), (0, .ref (ad 0)), (1, .int (zi x0)), (2, .int (zi x1)), (3, .ref (ld 0)), (4, .ref (ld 1)), (5, .ref (ld 2)), (6, .ref (ld 3)), (7, .ref (ld 4))]) hx hb dL_links_9 hl (by decide) rfl (fun ls hl => ?_)
  exact K_11 41 x8_6 0 (by first | omega | assumption) (by first | omega | assumption) (by omega) _ (lv_sub hl [2, 3, 4, 5, 6, 7, 8, 9, 1, 0] rfl)
