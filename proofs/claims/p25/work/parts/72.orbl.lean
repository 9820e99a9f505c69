theorem arr_L_orbits : Cond.arrayClass .int ∈ wsL_orbits := by decide +kernel
abbrev rmct_L_orbits : Room := { frames := 2, cells := 3, slots := 180, locals := 46 }
set_option maxHeartbeats 4000000 in
set_option maxRecDepth 100000 in
theorem ct_L_orbits (l : Launch) (D : va_G) (cI cZ cJ : ClassId) (ld : Nat → Nat) (L M : ZS) (hG : GL L M) (x0 x1 x2 : Int) (hx0 : ir x0) (hx1 : ir x1) (hx2 : ir x2) (hn1 : 1 ≤ (oG M x0 x1 x2).2) : Met l yL_orbits wsL_orbits rmct_L_orbits (zP D cI cZ cJ (lW cI ld L) [.ref (ld 0), .ref (ld 1), .ref (ld 2), .ref (ld 3), .ref (ld 4), .int (zi x0), .int (zi x1), .int (zi x2)]) (zNi (fun r => r = orN M x0 x1 x2)) 3 180 (fun _ => False) := by
  refine Met.ofW (cc := cL_orbits) (maxL := 18) (ret := (some .int)) (by decide) rfl ?_
  intro p e s m args below meth c s₁ B hml hv
  obtain ⟨rfl, hP, hK⟩ := hv
  have hx := B.exec
  have hb := B.bytes
  have hr := B.returns
  have hts := atoms_spec (ws := wsL_orbits) B.pre
  have hown : s.vm.findClass RL = some m.cls := findClass_of_methodNamed B.named
  have hlocks := B.notSynchronized
  have hl := lv_entry ([.ref (ld 0), .ref (ld 1), .ref (ld 2), .ref (ld 3), .ref (ld 4), .int (zi x0), .int (zi x1), .int (zi x2)]) (n := 18) (Nat.le_of_ble_eq_true rfl)
  rw [lg_entry_eq]
  generalize (lg_sl ([.ref (ld 0), .ref (ld 1), .ref (ld 2), .ref (ld 3), .ref (ld 4), .int (zi x0), .int (zi x1), .int (zi x2)]) ++ List.replicate (18 - (lg_sl ([.ref (ld 0), .ref (ld 1), .ref (ld 2), .ref (ld 3), .ref (ld 4), .int (zi x0), .int (zi x1), .int (zi x2)])).length) Slot.unset).toArray = ls at hl ⊢
  have hl : lv_has ls 18 [(0, .ref (ld 0)), (1, .ref (ld 1)), (2, .ref (ld 2)), (3, .ref (ld 3)), (4, .ref (ld 4)), (5, .int (zi x0)), (6, .int (zi x1)), (7, .int (zi x2))] := hl
  have hL := hP
  clear hP
  have hP : va_P D vwCl [] s.heap := va_P_nil
  have hD : va_D (fun q : Nat => s.heap.size ≤ q) [] := ⟨fun i j p q h => by simp at h, fun k q h => by simp at h⟩
  have hS : va_S (fun q : Nat => s.heap.size ≤ q) s.heap s.heap [] := va_S.rf
  have hA : ∀ q : Nat, s.heap.size ≤ q → (fun q : Nat => s.heap.size ≤ q) q := fun _ h => h
  show W p l e rmct_L_orbits s m ([.ref (ld 0), .ref (ld 1), .ref (ld 2), .ref (ld 3), .ref (ld 4), .int (zi x0), .int (zi x1), .int (zi x2)] : List Value).toArray below meth c s.heap [] 0 0 (MQ below (zNi (fun r => r = orN M x0 x1 x2)) ([.ref (ld 0), .ref (ld 1), .ref (ld 2), .ref (ld 3), .ref (ld 4), .int (zi x0), .int (zi x1), .int (zi x2)] : List Value).toArray s 3 180 (fun _ => False)) (F0 m 0 ls [])
  refine zi_bipush hx hb dL_orbits_0 (by decide) ?_
  refine va_newa (atype := .int) (a0 := (60, .inl (zf (fun _ => 0)))) hx hb (hts _ arr_L_orbits) (ty := .int) rfl hK.1 hP hD hS hA (fun _ => rfl) (by decide) (by decide) (Nat.le_of_ble_eq_true rfl) (Nat.le_of_ble_eq_true rfl) (Nat.le_of_ble_eq_true rfl) dL_orbits_2 (fun qa2 cA H hKa hP hD hS => ?_)
  have ecA : cA = cI := Option.some.inj ((va_nm_int (hKa.2 1 _ rfl).2).symm.trans (va_nm_int (hK.1.2 0 _ rfl).2))
  rw [ecA] at hP hD
  clear hKa ecA
  have hP : va_P D vwCl [(qa2, .inl (cI, 60, .inl (zf (fun _ => 0))))] H := hP
  have hD : va_D (fun q => s.heap.size ≤ q) [(qa2, .inl (cI, 60, .inl (zf (fun _ => 0))))] := hD
  refine lv_astore (lv' := [(8, .ref qa2), (0, .ref (ld 0)), (1, .ref (ld 1)), (2, .ref (ld 2)), (3, .ref (ld 3)), (4, .ref (ld 4)), (5, .int (zi x0)), (6, .int (zi x1)), (7, .int (zi x2))]) hx hb dL_orbits_4 hl (by decide) rfl (fun ls hl => ?_)
  refine zi_bipush hx hb dL_orbits_6 (by decide) ?_
  refine va_newa (atype := .int) (a0 := (60, .inl (zf (fun _ => 0)))) hx hb (hts _ arr_L_orbits) (ty := .int) rfl hK.1 hP hD hS hA (fun _ => rfl) (by decide) (by decide) (Nat.le_of_ble_eq_true rfl) (Nat.le_of_ble_eq_true rfl) (Nat.le_of_ble_eq_true rfl) dL_orbits_8 (fun qa8 cA H hKa hP hD hS => ?_)
  have ecA : cA = cI := Option.some.inj ((va_nm_int (hKa.2 1 _ rfl).2).symm.trans (va_nm_int (hK.1.2 0 _ rfl).2))
  rw [ecA] at hP hD
  clear hKa ecA
  have hP : va_P D vwCl [(qa2, .inl (cI, 60, .inl (zf (fun _ => 0)))), (qa8, .inl (cI, 60, .inl (zf (fun _ => 0))))] H := hP
  have hD : va_D (fun q => s.heap.size ≤ q) [(qa2, .inl (cI, 60, .inl (zf (fun _ => 0)))), (qa8, .inl (cI, 60, .inl (zf (fun _ => 0))))] := hD
  refine lv_astore (lv' := [(9, .ref qa8), (8, .ref qa2), (0, .ref (ld 0)), (1, .ref (ld 1)), (2, .ref (ld 2)), (3, .ref (ld 3)), (4, .ref (ld 4)), (5, .int (zi x0)), (6, .int (zi x1)), (7, .int (zi x2))]) hx hb dL_orbits_10 hl (by decide) rfl (fun ls hl => ?_)
  refine zi_bipush hx hb dL_orbits_12 (by decide) ?_
  refine va_newa (atype := .int) (a0 := (60, .inl (zf (fun _ => 0)))) hx hb (hts _ arr_L_orbits) (ty := .int) rfl hK.1 hP hD hS hA (fun _ => rfl) (by decide) (by decide) (Nat.le_of_ble_eq_true rfl) (Nat.le_of_ble_eq_true rfl) (Nat.le_of_ble_eq_true rfl) dL_orbits_14 (fun qa14 cA H hKa hP hD hS => ?_)
  have ecA : cA = cI := Option.some.inj ((va_nm_int (hKa.2 1 _ rfl).2).symm.trans (va_nm_int (hK.1.2 0 _ rfl).2))
  rw [ecA] at hP hD
  clear hKa ecA
  have hP : va_P D vwCl [(qa2, .inl (cI, 60, .inl (zf (fun _ => 0)))), (qa8, .inl (cI, 60, .inl (zf (fun _ => 0)))), (qa14, .inl (cI, 60, .inl (zf (fun _ => 0))))] H := hP
  have hD : va_D (fun q => s.heap.size ≤ q) [(qa2, .inl (cI, 60, .inl (zf (fun _ => 0)))), (qa8, .inl (cI, 60, .inl (zf (fun _ => 0)))), (qa14, .inl (cI, 60, .inl (zf (fun _ => 0))))] := hD
  obtain ⟨nd, e0, e1, e2, hDn, hP⟩ := nW_of hP hD
  rw [← e0] at hl
  rw [← e1] at hl
  rw [← e2]
  refine lv_astore (lv' := [(10, .ref (nd 2)), (9, .ref (nd 1)), (8, .ref (nd 0)), (0, .ref (ld 0)), (1, .ref (ld 1)), (2, .ref (ld 2)), (3, .ref (ld 3)), (4, .ref (ld 4)), (5, .int (zi x0)), (6, .int (zi x1)), (7, .int (zi x2))]) hx hb dL_orbits_16 hl (by decide) rfl (fun ls hl => ?_)
  refine zi_iconst hx hb dL_orbits_18 ?_
  refine lv_istore (lv' := [(11, .int (zi 0)), (10, .ref (nd 2)), (9, .ref (nd 1)), (8, .ref (nd 0)), (0, .ref (ld 0)), (1, .ref (ld 1)), (2, .ref (ld 2)), (3, .ref (ld 3)), (4, .ref (ld 4)), (5, .int (zi x0)), (6, .int (zi x1)), (7, .int (zi x2))]) hx hb dL_orbits_19 hl (by decide) rfl (fun ls hl => ?_)
  refine zi_iconst hx hb dL_orbits_21 ?_
  have K_24 : ∀ (k : Nat) (n : Nat) (n9 i : Int) (T : ZS), (i + (n : Int) = 40) → (0 ≤ i) → (0 ≤ n9 ∧ n9 ≤ i) → (oB T) → (itr (oF M x0 x1 x2) n i (T, n9) = oG M x0 x1 x2) → ((n : Int) < (k : Int)) → ∀ (H : Heap) (locs : List Loc), va_P D vwCl (nW cI nd T) H → va_S (fun q => s.heap.size ≤ q) s.heap H locs → ∀ (ls : Array Slot), lv_has ls 18 [(0, .ref (ld 0)), (1, .ref (ld 1)), (2, .ref (ld 2)), (3, .ref (ld 3)), (4, .ref (ld 4)), (5, .int (zi x0)), (6, .int (zi x1)), (7, .int (zi x2)), (8, .ref (nd 0)), (9, .ref (nd 1)), (10, .ref (nd 2)), (11, .int (zi n9)), (12, .int (zi i))] → W p l e rmct_L_orbits s m ([.ref (ld 0), .ref (ld 1), .ref (ld 2), .ref (ld 3), .ref (ld 4), .int (zi x0), .int (zi x1), .int (zi x2)] : List Value).toArray below meth c H locs 3 180 (MQ below (zNi (fun r => r = orN M x0 x1 x2)) ([.ref (ld 0), .ref (ld 1), .ref (ld 2), .ref (ld 3), .ref (ld 4), .int (zi x0), .int (zi x1), .int (zi x2)] : List Value).toArray s 3 180 (fun _ => False)) (F0 m 24 ls []) := by
    intro k
    induction k with
    | zero => intro n n9 i T h_n h_i h_b h_o h_R hk; exact absurd hk (by omega)
    | succ k ih_24 =>
      intro n n9 i T h_n h_i h_b h_o h_R hk H locs hP hS ls hl
      refine lv_iload hx hb dL_orbits_24 (lv_at hl 12 rfl) ?_
      refine lv_aload hx hb dL_orbits_26 (lv_at hl 4 rfl) ?_
      refine zi_iconst hx hb dL_orbits_28 ?_
      refine zi_iald hx hb hK.1 (wold hL hS) 4 0 rfl rfl (by omega) (by omega) (by decide) dL_orbits_29 ?_
      refine zi_is 40 (GL.c hG).1 ?_
      have q_29 := GL.c hG
      refine zi_icmp_ge (tgt := 118) hx hb ⟨by omega, by omega⟩ ⟨by decide, by decide⟩ dL_orbits_30 (by decide) (fun c_30 => ?_) (fun c_30 => ?_)
      · obtain rfl : n = 0 := by omega
        have h_R0 : (T, n9) = oG M x0 x1 x2 := h_R
        have h_n1 : 1 ≤ n9 := by rw [← h_R0] at hn1; exact hn1
        refine zi_iconst hx hb dL_orbits_118 ?_
        refine lv_istore (lv' := [(12, .int (zi 0)), (0, .ref (ld 0)), (1, .ref (ld 1)), (2, .ref (ld 2)), (3, .ref (ld 3)), (4, .ref (ld 4)), (5, .int (zi x0)), (6, .int (zi x1)), (7, .int (zi x2)), (8, .ref (nd 0)), (9, .ref (nd 1)), (10, .ref (nd 2)), (11, .int (zi n9))]) hx hb dL_orbits_119 hl (by decide) rfl (fun ls hl => ?_)
        refine zi_iconst hx hb dL_orbits_121 ?_
        have K_124 : ∀ (k : Nat) (n : Nat) (f9 bc : Int), (bc + (n : Int) = 405) → (0 ≤ bc) → (0 ≤ f9 ∧ f9 ≤ 19 * bc) → (itr (oOut T n9) n bc f9 = orN M x0 x1 x2) → ((n : Int) < (k : Int)) → ∀ (ls : Array Slot), lv_has ls 18 [(0, .ref (ld 0)), (1, .ref (ld 1)), (2, .ref (ld 2)), (3, .ref (ld 3)), (4, .ref (ld 4)), (5, .int (zi x0)), (6, .int (zi x1)), (7, .int (zi x2)), (8, .ref (nd 0)), (9, .ref (nd 1)), (10, .ref (nd 2)), (11, .int (zi n9)), (12, .int (zi f9)), (13, .int (zi bc))] → W p l e rmct_L_orbits s m ([.ref (ld 0), .ref (ld 1), .ref (ld 2), .ref (ld 3), .ref (ld 4), .int (zi x0), .int (zi x1), .int (zi x2)] : List Value).toArray below meth c H locs 3 180 (MQ below (zNi (fun r => r = orN M x0 x1 x2)) ([.ref (ld 0), .ref (ld 1), .ref (ld 2), .ref (ld 3), .ref (ld 4), .int (zi x0), .int (zi x1), .int (zi x2)] : List Value).toArray s 3 180 (fun _ => False)) (F0 m 124 ls []) := by
          intro k
          induction k with
          | zero => intro n f9 bc h_n2 h_i2 h_b2 h_R1 hk; exact absurd hk (by omega)
          | succ k ih_124 =>
            intro n f9 bc h_n2 h_i2 h_b2 h_R1 hk ls hl
            refine lv_iload hx hb dL_orbits_124 (lv_at hl 13 rfl) ?_
            refine zi_sipush hx hb dL_orbits_126 (by decide) ?_
            refine zi_icmp_ge (tgt := 272) hx hb ⟨by omega, by omega⟩ ⟨by decide, by decide⟩ dL_orbits_129 (by decide) (fun c_129 => ?_) (fun c_129 => ?_)
            · obtain rfl : n = 0 := by omega
              have h_R2 : f9 = orN M x0 x1 x2 := h_R1
              refine lv_iload hx hb dL_orbits_272 (lv_at hl 12 rfl) ?_
              exact zr_N hx hb hr hlocks dL_orbits_274 hS (by rw [← h_R2])
            · obtain ⟨n, rfl⟩ : ∃ n9 : Nat, n = n9 + 1 := ⟨n - 1, by omega⟩
              have hT0 := h_o 0
              refine lv_aload hx hb dL_orbits_132 (lv_at hl 9 rfl) ?_
              refine zi_iconst hx hb dL_orbits_134 ?_
              refine zi_iald hx hb hK.1 hP 1 0 rfl rfl (by omega) (by omega) (by decide) dL_orbits_135 ?_
              refine zi_iconst hx hb dL_orbits_136 ?_
              refine lv_iload hx hb dL_orbits_137 (lv_at hl 13 rfl) ?_
              refine zi_bipush hx hb dL_orbits_139 (by decide) ?_
              refine zi_irem hx hb ⟨by omega, by omega⟩ ⟨by omega, by omega⟩ (by omega) (by omega) dL_orbits_141 ?_
              refine zi_bipush hx hb dL_orbits_142 (by decide) ?_
              refine zi_isub hx hb dL_orbits_144 ?_
              refine lv_iload hx hb dL_orbits_145 (lv_at hl 13 rfl) ?_
              refine zi_bipush hx hb dL_orbits_147 (by decide) ?_
              refine zi_idiv hx hb ⟨by omega, by omega⟩ ⟨by omega, by omega⟩ (by omega) (by omega) dL_orbits_149 ?_
              refine zi_iconst hx hb dL_orbits_150 ?_
              refine zi_isub hx hb dL_orbits_151 ?_
              refine lv_aload hx hb dL_orbits_152 (lv_at hl 8 rfl) ?_
              refine zi_iconst hx hb dL_orbits_154 ?_
              refine zi_iald hx hb hK.1 hP 0 0 rfl rfl (by omega) (by omega) (by decide) dL_orbits_155 ?_
              refine zk_r (zc_S (As := [.int (zi 0), .int (zi ((bc % 81) - 40)), .int (zi ((bc / 81) - 2)), .int (zi (T 0 0))]) (rest := [.int (zi (T 1 0))]) ⟨hx, hb, hml, hown, hts⟩ (ct_L_placeBy l D cI cZ cJ 0 ((bc % 81) - 40) ((bc / 81) - 2) (T 0 0) ⟨by decide, by decide⟩ ⟨by omega, by omega⟩ ⟨by omega, by omega⟩ ⟨by omega, by omega⟩ ⟨by omega, by omega⟩ ⟨by omega, by omega⟩ ⟨by omega, by omega⟩ ⟨by omega, by omega⟩) (va_cwS 4 hts gL_orbits_L_placeBy rfl rfl rfl (by decide +kernel) ⟨Nat.le_of_ble_eq_true rfl, Nat.le_of_ble_eq_true rfl⟩) hK va_P_nil rfl hl.1 rfl (Nat.le_of_ble_eq_true rfl) dL_orbits_156 ⟨by decide, by decide⟩) ?_
              refine zi_top (fun (r_156 : Int) (er_156 : r_156 = (0 + mvM ((bc % 81) - 40) ((bc / 81) - 2) (T 0 0)) % 3600) => ?_)
              have fr_156 : (0 : Int) ≤ r_156 ∧ r_156 ≤ 3599 := by rw [er_156]; exact ⟨Int.emod_nonneg _ (by decide), Int.le_of_lt_add_one (Int.emod_lt_of_pos _ (by decide))⟩
              refine zi_isub hx hb dL_orbits_159 ?_
              refine zi_top (fun x14_160 ex14_160 => ?_)
              refine lv_istore (lv' := [(14, .int (zi x14_160)), (0, .ref (ld 0)), (1, .ref (ld 1)), (2, .ref (ld 2)), (3, .ref (ld 3)), (4, .ref (ld 4)), (5, .int (zi x0)), (6, .int (zi x1)), (7, .int (zi x2)), (8, .ref (nd 0)), (9, .ref (nd 1)), (10, .ref (nd 2)), (11, .int (zi n9)), (12, .int (zi f9)), (13, .int (zi bc))]) hx hb dL_orbits_160 hl (by decide) rfl (fun ls hl => ?_)
              have h_fr : x14_160 = oFr T bc := by rw [oFr, ← er_156]; exact ex14_160
              refine lv_aload hx hb dL_orbits_162 (lv_at hl 11 rfl) ?_
              refine zi_iconst hx hb dL_orbits_164 ?_
              refine zi_iald hx hb hK.1 hP 2 0 rfl rfl (by omega) (by omega) (by decide) dL_orbits_165 ?_
              refine zi_ineg hx hb dL_orbits_166 ?_
              have K_169 : ∀ (k : Nat) (n2 : Nat) (a9 e9 : Int), (e9 + (n2 : Int) = T 2 0 + 1) → (-(T 2 0) ≤ e9) → (0 ≤ a9 ∧ a9 ≤ 19 * bc + (e9 + T 2 0)) → (itr (oIn T n9 bc) n2 e9 a9 = oOut T n9 bc f9) → ((n2 : Int) < (k : Int)) → ∀ (ls : Array Slot), lv_has ls 18 [(0, .ref (ld 0)), (1, .ref (ld 1)), (2, .ref (ld 2)), (3, .ref (ld 3)), (4, .ref (ld 4)), (5, .int (zi x0)), (6, .int (zi x1)), (7, .int (zi x2)), (8, .ref (nd 0)), (9, .ref (nd 1)), (10, .ref (nd 2)), (11, .int (zi n9)), (13, .int (zi bc)), (14, .int (zi x14_160)), (12, .int (zi a9)), (15, .int (zi e9))] → W p l e rmct_L_orbits s m ([.ref (ld 0), .ref (ld 1), .ref (ld 2), .ref (ld 3), .ref (ld 4), .int (zi x0), .int (zi x1), .int (zi x2)] : List Value).toArray below meth c H locs 3 180 (MQ below (zNi (fun r => r = orN M x0 x1 x2)) ([.ref (ld 0), .ref (ld 1), .ref (ld 2), .ref (ld 3), .ref (ld 4), .int (zi x0), .int (zi x1), .int (zi x2)] : List Value).toArray s 3 180 (fun _ => False)) (F0 m 169 ls []) := by
                intro k
                induction k with
                | zero => intro n2 a9 e9 g_n g_i g_b g_R hk; exact absurd hk (by omega)
                | succ k ih_169 =>
                  intro n2 a9 e9 g_n g_i g_b g_R hk ls hl
                  refine lv_iload hx hb dL_orbits_169 (lv_at hl 15 rfl) ?_
                  refine lv_aload hx hb dL_orbits_171 (lv_at hl 10 rfl) ?_
                  refine zi_iconst hx hb dL_orbits_173 ?_
                  refine zi_iald hx hb hK.1 hP 2 0 rfl rfl (by omega) (by omega) (by decide) dL_orbits_174 ?_
                  refine zi_icmp_gt (tgt := 266) hx hb ⟨by omega, by omega⟩ ⟨by omega, by omega⟩ dL_orbits_175 (by decide) (fun c_175 => ?_) (fun c_175 => ?_)
                  · obtain rfl : n2 = 0 := by omega
                    have h_R3 : a9 = oOut T n9 bc f9 := g_R
                    refine zi_iinc (k := 12) (lv' := [(13, .int (zi (bc + 1))), (0, .ref (ld 0)), (1, .ref (ld 1)), (2, .ref (ld 2)), (3, .ref (ld 3)), (4, .ref (ld 4)), (5, .int (zi x0)), (6, .int (zi x1)), (7, .int (zi x2)), (8, .ref (nd 0)), (9, .ref (nd 1)), (10, .ref (nd 2)), (11, .int (zi n9)), (14, .int (zi x14_160)), (12, .int (zi a9)), (15, .int (zi e9))]) hx hb dL_orbits_266 hl rfl (by decide) rfl (fun ls hl => ?_)
                    refine lv_goto (tgt := 124) hx hb dL_orbits_269 (by decide) ?_
                    exact ih_124 n a9 (bc + 1) (by first | omega | assumption) (by first | omega | assumption) ⟨by omega, by omega⟩ (by rw [← h_R1, itr_s, ← h_R3]) (by omega) _ (lv_sub hl [1, 2, 3, 4, 5, 6, 7, 8, 9, 10, 11, 12, 14, 0] rfl)
                  · obtain ⟨n2, rfl⟩ : ∃ n8 : Nat, n2 = n8 + 1 := ⟨n2 - 1, by omega⟩
                    have K_245 : ∀ (d9 : Int), (d9 = b2 (oFt T n9 bc (oFr T bc + e9))) → (0 ≤ d9 ∧ d9 ≤ 1) → ∀ (ls : Array Slot), lv_has ls 18 [(0, .ref (ld 0)), (1, .ref (ld 1)), (2, .ref (ld 2)), (3, .ref (ld 3)), (4, .ref (ld 4)), (5, .int (zi x0)), (6, .int (zi x1)), (7, .int (zi x2)), (8, .ref (nd 0)), (9, .ref (nd 1)), (10, .ref (nd 2)), (11, .int (zi n9)), (12, .int (zi a9)), (13, .int (zi bc)), (14, .int (zi x14_160)), (15, .int (zi e9)), (16, .int (zi d9))] → W p l e rmct_L_orbits s m ([.ref (ld 0), .ref (ld 1), .ref (ld 2), .ref (ld 3), .ref (ld 4), .int (zi x0), .int (zi x1), .int (zi x2)] : List Value).toArray below meth c H locs 3 180 (MQ below (zNi (fun r => r = orN M x0 x1 x2)) ([.ref (ld 0), .ref (ld 1), .ref (ld 2), .ref (ld 3), .ref (ld 4), .int (zi x0), .int (zi x1), .int (zi x2)] : List Value).toArray s 3 180 (fun _ => False)) (F0 m 245 ls []) := by
                      intro d9 h_E h_Eb ls hl
                      refine lv_iload hx hb dL_orbits_245 (lv_at hl 12 rfl) ?_
                      refine lv_iload hx hb dL_orbits_247 (lv_at hl 16 rfl) ?_
                      have K_257 : ∀ (w9 : Int), (w9 = b2 (oFt T n9 bc (oFr T bc + e9))) → (0 ≤ w9 ∧ w9 ≤ 1) → ∀ (ls : Array Slot), lv_has ls 18 [(0, .ref (ld 0)), (1, .ref (ld 1)), (2, .ref (ld 2)), (3, .ref (ld 3)), (4, .ref (ld 4)), (5, .int (zi x0)), (6, .int (zi x1)), (7, .int (zi x2)), (8, .ref (nd 0)), (9, .ref (nd 1)), (10, .ref (nd 2)), (11, .int (zi n9)), (13, .int (zi bc)), (14, .int (zi x14_160)), (15, .int (zi e9))] → W p l e rmct_L_orbits s m ([.ref (ld 0), .ref (ld 1), .ref (ld 2), .ref (ld 3), .ref (ld 4), .int (zi x0), .int (zi x1), .int (zi x2)] : List Value).toArray below meth c H locs 3 180 (MQ below (zNi (fun r => r = orN M x0 x1 x2)) ([.ref (ld 0), .ref (ld 1), .ref (ld 2), .ref (ld 3), .ref (ld 4), .int (zi x0), .int (zi x1), .int (zi x2)] : List Value).toArray s 3 180 (fun _ => False)) (F0 m 257 ls [.int (zi w9), .int (zi a9)]) := by
                        intro w9 h_w h_wb ls hl
                        refine zi_iadd hx hb dL_orbits_257 ?_
                        refine zi_top (fun x12_258 ex12_258 => ?_)
                        refine lv_istore (lv' := [(12, .int (zi x12_258)), (0, .ref (ld 0)), (1, .ref (ld 1)), (2, .ref (ld 2)), (3, .ref (ld 3)), (4, .ref (ld 4)), (5, .int (zi x0)), (6, .int (zi x1)), (7, .int (zi x2)), (8, .ref (nd 0)), (9, .ref (nd 1)), (10, .ref (nd 2)), (11, .int (zi n9)), (13, .int (zi bc)), (14, .int (zi x14_160)), (15, .int (zi e9))]) hx hb dL_orbits_258 hl (by decide) rfl (fun ls hl => ?_)
                        refine zi_iinc (k := 15) (lv' := [(15, .int (zi (e9 + 1))), (12, .int (zi x12_258)), (0, .ref (ld 0)), (1, .ref (ld 1)), (2, .ref (ld 2)), (3, .ref (ld 3)), (4, .ref (ld 4)), (5, .int (zi x0)), (6, .int (zi x1)), (7, .int (zi x2)), (8, .ref (nd 0)), (9, .ref (nd 1)), (10, .ref (nd 2)), (11, .int (zi n9)), (13, .int (zi bc)), (14, .int (zi x14_160))]) hx hb dL_orbits_260 hl rfl (by decide) rfl (fun ls hl => ?_)
                        refine lv_goto (tgt := 169) hx hb dL_orbits_263 (by decide) ?_
                        exact ih_169 n2 x12_258 (e9 + 1) (by first | omega | assumption) (by first | omega | assumption) ⟨by omega, by omega⟩ (by rw [← g_R, itr_s, ex12_258, h_w]; rfl) (by omega) _ (lv_sub hl [2, 3, 4, 5, 6, 7, 8, 9, 10, 11, 12, 13, 14, 15, 1, 0] rfl)
                      refine zi_if_eq (tgt := 256) hx hb ⟨by omega, by omega⟩ dL_orbits_249 (by decide) (fun c_249 => ?_) (fun c_249 => ?_)
                      · refine zi_iconst hx hb dL_orbits_256 ?_
                        exact K_257 0 (by omega) (by first | omega | assumption) _ (lv_sub hl [0, 1, 2, 3, 4, 5, 6, 7, 8, 9, 10, 11, 13, 14, 15] rfl)
                      · refine zi_iconst hx hb dL_orbits_252 ?_
                        refine lv_goto (tgt := 257) hx hb dL_orbits_253 (by decide) ?_
                        exact K_257 1 (by omega) (by first | omega | assumption) _ (lv_sub hl [0, 1, 2, 3, 4, 5, 6, 7, 8, 9, 10, 11, 13, 14, 15] rfl)
                    refine zi_iconst hx hb dL_orbits_178 ?_
                    refine lv_istore (lv' := [(16, .int (zi 1)), (0, .ref (ld 0)), (1, .ref (ld 1)), (2, .ref (ld 2)), (3, .ref (ld 3)), (4, .ref (ld 4)), (5, .int (zi x0)), (6, .int (zi x1)), (7, .int (zi x2)), (8, .ref (nd 0)), (9, .ref (nd 1)), (10, .ref (nd 2)), (11, .int (zi n9)), (13, .int (zi bc)), (14, .int (zi x14_160)), (12, .int (zi a9)), (15, .int (zi e9))]) hx hb dL_orbits_179 hl (by decide) rfl (fun ls hl => ?_)
                    refine zi_iconst hx hb dL_orbits_181 ?_
                    have K_184 : ∀ (k : Nat) (n3 : Nat) (d9 k9 : Int), (k9 + (n3 : Int) = n9) → (1 ≤ k9) → (0 ≤ d9 ∧ d9 ≤ 1) → ((d9 = 1 ∧ b2 (¬ anyI (fun k => ¬ oNr T bc (oFr T bc + e9) k) n3 k9) = b2 (oFt T n9 bc (oFr T bc + e9))) ∨ (d9 = 0 ∧ 0 = b2 (oFt T n9 bc (oFr T bc + e9)))) → ((n3 : Int) < (k : Int)) → ∀ (ls : Array Slot), lv_has ls 18 [(0, .ref (ld 0)), (1, .ref (ld 1)), (2, .ref (ld 2)), (3, .ref (ld 3)), (4, .ref (ld 4)), (5, .int (zi x0)), (6, .int (zi x1)), (7, .int (zi x2)), (8, .ref (nd 0)), (9, .ref (nd 1)), (10, .ref (nd 2)), (11, .int (zi n9)), (12, .int (zi a9)), (13, .int (zi bc)), (14, .int (zi x14_160)), (15, .int (zi e9)), (16, .int (zi d9)), (17, .int (zi k9))] → W p l e rmct_L_orbits s m ([.ref (ld 0), .ref (ld 1), .ref (ld 2), .ref (ld 3), .ref (ld 4), .int (zi x0), .int (zi x1), .int (zi x2)] : List Value).toArray below meth c H locs 3 180 (MQ below (zNi (fun r => r = orN M x0 x1 x2)) ([.ref (ld 0), .ref (ld 1), .ref (ld 2), .ref (ld 3), .ref (ld 4), .int (zi x0), .int (zi x1), .int (zi x2)] : List Value).toArray s 3 180 (fun _ => False)) (F0 m 184 ls []) := by
                      intro k
                      induction k with
                      | zero => intro n3 d9 k9 k_n k_i k_b k_R hk; exact absurd hk (by omega)
                      | succ k ih_184 =>
                        intro n3 d9 k9 k_n k_i k_b k_R hk ls hl
                        refine lv_iload hx hb dL_orbits_184 (lv_at hl 17 rfl) ?_
                        refine lv_iload hx hb dL_orbits_186 (lv_at hl 11 rfl) ?_
                        refine zi_icmp_ge (tgt := 245) hx hb ⟨by omega, by omega⟩ ⟨by omega, by omega⟩ dL_orbits_188 (by decide) (fun c_188 => ?_) (fun c_188 => ?_)
                        · obtain rfl : n3 = 0 := by omega
                          exact K_245 d9 (fit_end k_R) (by first | omega | assumption) _ (lv_sub hl [0, 1, 2, 3, 4, 5, 6, 7, 8, 9, 10, 11, 12, 13, 14, 15, 16] rfl)
                        · obtain ⟨n3, rfl⟩ : ∃ n8 : Nat, n3 = n8 + 1 := ⟨n3 - 1, by omega⟩
                          refine lv_iload hx hb dL_orbits_191 (lv_at hl 16 rfl) ?_
                          refine zi_if_eq (tgt := 245) hx hb ⟨by omega, by omega⟩ dL_orbits_193 (by decide) (fun c_193 => ?_) (fun c_193 => ?_)
                          · exact K_245 d9 (k_R.elim (fun h => absurd h.1 (by omega)) (fun h => h.1.trans h.2)) (by first | omega | assumption) _ (lv_sub hl [0, 1, 2, 3, 4, 5, 6, 7, 8, 9, 10, 11, 12, 13, 14, 15, 16] rfl)
                          · have hTk := h_o k9
                            refine lv_iload hx hb dL_orbits_196 (lv_at hl 14 rfl) ?_
                            refine lv_iload hx hb dL_orbits_198 (lv_at hl 15 rfl) ?_
                            refine zi_iadd hx hb dL_orbits_200 ?_
                            refine lv_iload hx hb dL_orbits_201 (lv_at hl 13 rfl) ?_
                            refine zi_bipush hx hb dL_orbits_203 (by decide) ?_
                            refine zi_irem hx hb ⟨by omega, by omega⟩ ⟨by omega, by omega⟩ (by omega) (by omega) dL_orbits_205 ?_
                            refine zi_bipush hx hb dL_orbits_206 (by decide) ?_
                            refine zi_isub hx hb dL_orbits_208 ?_
                            refine lv_iload hx hb dL_orbits_209 (lv_at hl 13 rfl) ?_
                            refine zi_bipush hx hb dL_orbits_211 (by decide) ?_
                            refine zi_idiv hx hb ⟨by omega, by omega⟩ ⟨by omega, by omega⟩ (by omega) (by omega) dL_orbits_213 ?_
                            refine zi_iconst hx hb dL_orbits_214 ?_
                            refine zi_isub hx hb dL_orbits_215 ?_
                            refine lv_aload hx hb dL_orbits_216 (lv_at hl 8 rfl) ?_
                            refine lv_iload hx hb dL_orbits_218 (lv_at hl 17 rfl) ?_
                            refine zi_iald hx hb hK.1 hP 0 0 rfl rfl (by omega) (by omega) (by decide) dL_orbits_220 ?_
                            refine zk_r (zc_S (As := [.int (zi (x14_160 + e9)), .int (zi ((bc % 81) - 40)), .int (zi ((bc / 81) - 2)), .int (zi (T 0 k9))]) (rest := []) ⟨hx, hb, hml, hown, hts⟩ (ct_L_placeBy l D cI cZ cJ (x14_160 + e9) ((bc % 81) - 40) ((bc / 81) - 2) (T 0 k9) ⟨by omega, by omega⟩ ⟨by omega, by omega⟩ ⟨by omega, by omega⟩ ⟨by omega, by omega⟩ ⟨by omega, by omega⟩ ⟨by omega, by omega⟩ ⟨by omega, by omega⟩ ⟨by omega, by omega⟩) (va_cwS 4 hts gL_orbits_L_placeBy rfl rfl rfl (by decide +kernel) ⟨Nat.le_of_ble_eq_true rfl, Nat.le_of_ble_eq_true rfl⟩) hK va_P_nil rfl hl.1 rfl (Nat.le_of_ble_eq_true rfl) dL_orbits_221 ⟨by decide, by decide⟩) ?_
                            refine zi_top (fun (r_221 : Int) (er_221 : r_221 = ((x14_160 + e9) + mvM ((bc % 81) - 40) ((bc / 81) - 2) (T 0 k9)) % 3600) => ?_)
                            have fr_221 : (0 : Int) ≤ r_221 ∧ r_221 ≤ 3599 := by rw [er_221]; exact ⟨Int.emod_nonneg _ (by decide), Int.le_of_lt_add_one (Int.emod_lt_of_pos _ (by decide))⟩
                            refine lv_aload hx hb dL_orbits_224 (lv_at hl 9 rfl) ?_
                            refine lv_iload hx hb dL_orbits_226 (lv_at hl 17 rfl) ?_
                            refine zi_iald hx hb hK.1 hP 1 0 rfl rfl (by omega) (by omega) (by decide) dL_orbits_228 ?_
                            refine lv_aload hx hb dL_orbits_229 (lv_at hl 10 rfl) ?_
                            refine lv_iload hx hb dL_orbits_231 (lv_at hl 17 rfl) ?_
                            refine zi_iald hx hb hK.1 hP 2 0 rfl rfl (by omega) (by omega) (by decide) dL_orbits_233 ?_
                            refine zk_r (zc_S (As := [.int (zi r_221), .int (zi (T 1 k9)), .int (zi (T 2 k9))]) (rest := []) ⟨hx, hb, hml, hown, hts⟩ (ct_L_isNear l D cI cZ cJ r_221 (T 1 k9) (T 2 k9) ⟨by omega, by omega⟩ ⟨by omega, by omega⟩ ⟨by omega, by omega⟩ ⟨by omega, by omega⟩ ⟨by omega, by omega⟩ ⟨by omega, by omega⟩) (va_cwS 3 hts gL_orbits_L_isNear rfl rfl rfl (by decide +kernel) ⟨Nat.le_of_ble_eq_true rfl, Nat.le_of_ble_eq_true rfl⟩) hK va_P_nil rfl hl.1 rfl (Nat.le_of_ble_eq_true rfl) dL_orbits_234 ⟨by decide, by decide⟩) ?_
                            refine zi_top (fun (r_234 : Int) (er_234 : r_234 = b2 (apM r_221 (T 1 k9) ≤ (T 2 k9))) => ?_)
                            have fr_234 : (0 : Int) ≤ r_234 ∧ r_234 ≤ 1 := by rw [er_234]; exact b2_b
                            refine lv_istore (lv' := [(16, .int (zi r_234)), (0, .ref (ld 0)), (1, .ref (ld 1)), (2, .ref (ld 2)), (3, .ref (ld 3)), (4, .ref (ld 4)), (5, .int (zi x0)), (6, .int (zi x1)), (7, .int (zi x2)), (8, .ref (nd 0)), (9, .ref (nd 1)), (10, .ref (nd 2)), (11, .int (zi n9)), (12, .int (zi a9)), (13, .int (zi bc)), (14, .int (zi x14_160)), (15, .int (zi e9)), (17, .int (zi k9))]) hx hb dL_orbits_237 hl (by decide) rfl (fun ls hl => ?_)
                            refine zi_iinc (k := 17) (lv' := [(17, .int (zi (k9 + 1))), (16, .int (zi r_234)), (0, .ref (ld 0)), (1, .ref (ld 1)), (2, .ref (ld 2)), (3, .ref (ld 3)), (4, .ref (ld 4)), (5, .int (zi x0)), (6, .int (zi x1)), (7, .int (zi x2)), (8, .ref (nd 0)), (9, .ref (nd 1)), (10, .ref (nd 2)), (11, .int (zi n9)), (12, .int (zi a9)), (13, .int (zi bc)), (14, .int (zi x14_160)), (15, .int (zi e9))]) hx hb dL_orbits_239 hl rfl (by decide) rfl (fun ls hl => ?_)
                            refine lv_goto (tgt := 184) hx hb dL_orbits_242 (by decide) ?_
                            exact ih_184 n3 r_234 (k9 + 1) (by first | omega | assumption) (by first | omega | assumption) ⟨by omega, by omega⟩ (fit_step k_R c_193 (by rw [er_234, er_221, h_fr]; rfl)) (by omega) _ (lv_sub hl [2, 3, 4, 5, 6, 7, 8, 9, 10, 11, 12, 13, 14, 15, 16, 17, 1, 0] rfl)
                    refine lv_istore (lv' := [(17, .int (zi 1)), (16, .int (zi 1)), (0, .ref (ld 0)), (1, .ref (ld 1)), (2, .ref (ld 2)), (3, .ref (ld 3)), (4, .ref (ld 4)), (5, .int (zi x0)), (6, .int (zi x1)), (7, .int (zi x2)), (8, .ref (nd 0)), (9, .ref (nd 1)), (10, .ref (nd 2)), (11, .int (zi n9)), (13, .int (zi bc)), (14, .int (zi x14_160)), (12, .int (zi a9)), (15, .int (zi e9))]) hx hb dL_orbits_182 hl (by decide) rfl (fun ls hl => ?_)
                    exact K_184 ((n9 - 1).toNat + 1) ((n9 - 1).toNat) 1 1 (by first | omega | assumption) (by first | omega | assumption) ⟨by decide, by decide⟩ (Or.inl ⟨rfl, rfl⟩) (by omega) _ (lv_sub hl [2, 3, 4, 5, 6, 7, 8, 9, 10, 11, 12, 13, 16, 14, 15, 17, 1, 0] rfl)
              refine zi_top (fun x15_167 ex15_167 => ?_)
              refine lv_istore (lv' := [(15, .int (zi x15_167)), (14, .int (zi x14_160)), (0, .ref (ld 0)), (1, .ref (ld 1)), (2, .ref (ld 2)), (3, .ref (ld 3)), (4, .ref (ld 4)), (5, .int (zi x0)), (6, .int (zi x1)), (7, .int (zi x2)), (8, .ref (nd 0)), (9, .ref (nd 1)), (10, .ref (nd 2)), (11, .int (zi n9)), (12, .int (zi f9)), (13, .int (zi bc))]) hx hb dL_orbits_167 hl (by decide) rfl (fun ls hl => ?_)
              exact K_169 ((2 * T 2 0 + 1).toNat + 1) ((2 * T 2 0 + 1).toNat) f9 x15_167 (by first | omega | assumption) (by first | omega | assumption) (by first | omega | assumption) (by rw [oOut, ex15_167]) (by omega) _ (lv_sub hl [2, 3, 4, 5, 6, 7, 8, 9, 10, 11, 12, 13, 15, 1, 14, 0] rfl)
        refine lv_istore (lv' := [(13, .int (zi 0)), (12, .int (zi 0)), (0, .ref (ld 0)), (1, .ref (ld 1)), (2, .ref (ld 2)), (3, .ref (ld 3)), (4, .ref (ld 4)), (5, .int (zi x0)), (6, .int (zi x1)), (7, .int (zi x2)), (8, .ref (nd 0)), (9, .ref (nd 1)), (10, .ref (nd 2)), (11, .int (zi n9))]) hx hb dL_orbits_122 hl (by decide) rfl (fun ls hl => ?_)
        exact K_124 406 405 0 0 (by first | omega | assumption) (by first | omega | assumption) (by first | omega | assumption) (by rw [orN, ← h_R0]; rfl) (by omega) _ (lv_sub hl [2, 3, 4, 5, 6, 7, 8, 9, 10, 11, 12, 13, 1, 0] rfl)
      · obtain ⟨n, rfl⟩ : ∃ n9 : Nat, n = n9 + 1 := ⟨n - 1, by omega⟩
        refine lv_aload_n hx hb dL_orbits_33 rfl (lv_at hl 0 rfl) ?_
        refine lv_aload_n hx hb dL_orbits_34 rfl (lv_at hl 3 rfl) ?_
        refine lv_iload hx hb dL_orbits_35 (lv_at hl 12 rfl) ?_
        refine lv_iload hx hb dL_orbits_37 (lv_at hl 5 rfl) ?_
        refine zk_r (zc_S (As := [.ref (ld 0), .ref (ld 3), .int (zi i), .int (zi x0)]) (rest := []) ⟨hx, hb, hml, hown, hts⟩ (ct_L_isLook l D cI cZ cJ ld L M hG i x0 ⟨by omega, by omega⟩ ⟨by omega, by omega⟩ ⟨by omega, by omega⟩) (va_cwS 4 hts gL_orbits_L_isLook rfl rfl rfl (by decide +kernel) ⟨Nat.le_of_ble_eq_true rfl, Nat.le_of_ble_eq_true rfl⟩) hK (wold hL hS) rfl hl.1 rfl (Nat.le_of_ble_eq_true rfl) dL_orbits_39 ⟨by decide, by decide⟩) ?_
        refine zi_top (fun (r_39 : Int) (er_39 : r_39 = b2 (lookM M i x0)) => ?_)
        have fr_39 : (0 : Int) ≤ r_39 ∧ r_39 ≤ 1 := by rw [er_39]; exact b2_b
        have K_69 : (oPr M x0 x1 x2 i) → ∀ (ls : Array Slot), lv_has ls 18 [(0, .ref (ld 0)), (1, .ref (ld 1)), (2, .ref (ld 2)), (3, .ref (ld 3)), (4, .ref (ld 4)), (5, .int (zi x0)), (6, .int (zi x1)), (7, .int (zi x2)), (8, .ref (nd 0)), (9, .ref (nd 1)), (10, .ref (nd 2)), (11, .int (zi n9)), (12, .int (zi i))] → W p l e rmct_L_orbits s m ([.ref (ld 0), .ref (ld 1), .ref (ld 2), .ref (ld 3), .ref (ld 4), .int (zi x0), .int (zi x1), .int (zi x2)] : List Value).toArray below meth c H locs 3 180 (MQ below (zNi (fun r => r = orN M x0 x1 x2)) ([.ref (ld 0), .ref (ld 1), .ref (ld 2), .ref (ld 3), .ref (ld 4), .int (zi x0), .int (zi x1), .int (zi x2)] : List Value).toArray s 3 180 (fun _ => False)) (F0 m 69 ls []) := by
          intro h_p ls hl
          refine lv_aload hx hb dL_orbits_69 (lv_at hl 8 rfl) ?_
          refine lv_iload hx hb dL_orbits_71 (lv_at hl 11 rfl) ?_
          refine lv_aload_n hx hb dL_orbits_73 rfl (lv_at hl 0 rfl) ?_
          refine lv_aload_n hx hb dL_orbits_74 rfl (lv_at hl 1 rfl) ?_
          refine lv_iload hx hb dL_orbits_75 (lv_at hl 12 rfl) ?_
          refine zk_r (zc_S (As := [.ref (ld 0), .ref (ld 1), .int (zi i)]) (rest := [.int (zi n9), .ref (nd 0)]) ⟨hx, hb, hml, hown, hts⟩ (ct_L_nightOf l D cI cZ cJ ld L M hG i ⟨by omega, by omega⟩ ⟨by omega, by omega⟩) (va_cwS 3 hts gL_orbits_L_nightOf rfl rfl rfl (by decide +kernel) ⟨Nat.le_of_ble_eq_true rfl, Nat.le_of_ble_eq_true rfl⟩) hK (wold hL hS) rfl hl.1 rfl (Nat.le_of_ble_eq_true rfl) dL_orbits_77 ⟨by decide, by decide⟩) ?_
          refine zi_top (fun (r_77 : Int) (er_77 : r_77 = nM M i) => ?_)
          have fr_77 : (0 : Int) ≤ r_77 ∧ r_77 ≤ 999 := by rw [er_77]; exact GL.nb hG _
          refine zi_iast hx hb hK.1 hP (hDn _) hS 0 0 rfl rfl (by omega) (by omega) (by decide) dL_orbits_80 (fun H locs hP hS => ?_)
          have hP : va_P D vwCl (nW cI nd (su T 0 (up (T 0) n9 r_77))) H := hP
          refine lv_aload hx hb dL_orbits_81 (lv_at hl 9 rfl) ?_
          refine lv_iload hx hb dL_orbits_83 (lv_at hl 11 rfl) ?_
          refine lv_aload_n hx hb dL_orbits_85 rfl (lv_at hl 0 rfl) ?_
          refine lv_aload_n hx hb dL_orbits_86 rfl (lv_at hl 2 rfl) ?_
          refine lv_iload hx hb dL_orbits_87 (lv_at hl 12 rfl) ?_
          refine zk_r (zc_S (As := [.ref (ld 0), .ref (ld 2), .int (zi i)]) (rest := [.int (zi n9), .ref (nd 1)]) ⟨hx, hb, hml, hown, hts⟩ (ct_L_placeOf l D cI cZ cJ ld L M hG i ⟨by omega, by omega⟩ ⟨by omega, by omega⟩) (va_cwS 3 hts gL_orbits_L_placeOf rfl rfl rfl (by decide +kernel) ⟨Nat.le_of_ble_eq_true rfl, Nat.le_of_ble_eq_true rfl⟩) hK (wold hL hS) rfl hl.1 rfl (Nat.le_of_ble_eq_true rfl) dL_orbits_89 ⟨by decide, by decide⟩) ?_
          refine zi_top (fun (r_89 : Int) (er_89 : r_89 = tM M i) => ?_)
          have fr_89 : (0 : Int) ≤ r_89 ∧ r_89 ≤ 3599 := by rw [er_89]; exact tM_b _ _
          refine zi_iast hx hb hK.1 hP (hDn _) hS 1 0 rfl rfl (by omega) (by omega) (by decide) dL_orbits_92 (fun H locs hP hS => ?_)
          have hP : va_P D vwCl (nW cI nd (su (su T 0 (up (T 0) n9 r_77)) 1 (up ((su T 0 (up (T 0) n9 r_77)) 1) n9 r_89))) H := hP
          refine lv_aload hx hb dL_orbits_93 (lv_at hl 10 rfl) ?_
          refine lv_iload hx hb dL_orbits_95 (lv_at hl 11 rfl) ?_
          refine lv_aload_n hx hb dL_orbits_97 rfl (lv_at hl 1 rfl) ?_
          refine lv_aload_n hx hb dL_orbits_98 rfl (lv_at hl 0 rfl) ?_
          refine lv_iload hx hb dL_orbits_99 (lv_at hl 12 rfl) ?_
          refine zk_r (zc_S (As := [.ref (ld 0), .int (zi i)]) (rest := [.ref (ld 1), .int (zi n9), .ref (nd 2)]) ⟨hx, hb, hml, hown, hts⟩ (ct_L_plateOf l D cI cZ cJ ld L M hG i ⟨by omega, by omega⟩ ⟨by omega, by omega⟩) (va_cwS 2 hts gL_orbits_L_plateOf rfl rfl rfl (by decide +kernel) ⟨Nat.le_of_ble_eq_true rfl, Nat.le_of_ble_eq_true rfl⟩) hK (wold hL hS) rfl hl.1 rfl (Nat.le_of_ble_eq_true rfl) dL_orbits_101 ⟨by decide, by decide⟩) ?_
          refine zi_top (fun (r_101 : Int) (er_101 : r_101 = M 7 i) => ?_)
          have fr_101 : (0 : Int) ≤ r_101 ∧ r_101 < 14 := by rw [er_101]; exact GL.pb hG (by omega) (by omega)
          refine zi_iald hx hb hK.1 (wold hL hS) 1 0 rfl rfl (by omega) (by omega) (by decide) dL_orbits_104 ?_
          have q_104 := GL.p hG (k := r_101) (by omega) (by omega)
          refine zi_bipush hx hb dL_orbits_105 (by decide) ?_
          refine zi_irem hx hb ⟨by omega, by omega⟩ ⟨by omega, by omega⟩ (by omega) (by omega) dL_orbits_107 ?_
          refine zi_iast hx hb hK.1 hP (hDn _) hS 2 0 rfl rfl (by omega) (by omega) (by decide) dL_orbits_108 (fun H locs hP hS => ?_)
          have hP : va_P D vwCl (nW cI nd (su (su (su T 0 (up (T 0) n9 r_77)) 1 (up ((su T 0 (up (T 0) n9 r_77)) 1) n9 r_89)) 2 (up ((su (su T 0 (up (T 0) n9 r_77)) 1 (up ((su T 0 (up (T 0) n9 r_77)) 1) n9 r_89)) 2) n9 ((L 1 r_101) % 10)))) H := hP
          have h_e : L 1 r_101 % 10 = eM M i := by unfold eM; rw [← er_101]; omega
          have h_o2 := oPut_b h_o (n := n9) (mB_n hG.2.1 i) (tM_b M i) (mB_e hG.2.1 i)
          rw [← er_77, ← er_89, ← h_e] at h_o2
          refine zi_iinc (k := 11) (lv' := [(11, .int (zi (n9 + 1))), (0, .ref (ld 0)), (1, .ref (ld 1)), (2, .ref (ld 2)), (3, .ref (ld 3)), (4, .ref (ld 4)), (5, .int (zi x0)), (6, .int (zi x1)), (7, .int (zi x2)), (8, .ref (nd 0)), (9, .ref (nd 1)), (10, .ref (nd 2)), (12, .int (zi i))]) hx hb dL_orbits_109 hl rfl (by decide) rfl (fun ls hl => ?_)
          refine zi_iinc (k := 12) (lv' := [(12, .int (zi (i + 1))), (11, .int (zi (n9 + 1))), (0, .ref (ld 0)), (1, .ref (ld 1)), (2, .ref (ld 2)), (3, .ref (ld 3)), (4, .ref (ld 4)), (5, .int (zi x0)), (6, .int (zi x1)), (7, .int (zi x2)), (8, .ref (nd 0)), (9, .ref (nd 1)), (10, .ref (nd 2))]) hx hb dL_orbits_112 hl rfl (by decide) rfl (fun ls hl => ?_)
          refine lv_goto (tgt := 24) hx hb dL_orbits_115 (by decide) ?_
          exact ih_24 n (n9 + 1) (i + 1) (su (su (su T 0 (up (T 0) n9 r_77)) 1 (up ((su T 0 (up (T 0) n9 r_77)) 1) n9 r_89)) 2 (up ((su (su T 0 (up (T 0) n9 r_77)) 1 (up ((su T 0 (up (T 0) n9 r_77)) 1) n9 r_89)) 2) n9 ((L 1 r_101) % 10))) (by first | omega | assumption) (by first | omega | assumption) ⟨by omega, by omega⟩ h_o2 (by rw [← h_R, itr_s]; congr 1; exact ((cif_t (a := (oPut T n9 (nM M i) (tM M i) (eM M i), n9 + 1)) h_p).trans (by rw [er_77, er_89, h_e]; rfl)).symm) (by omega) _ _ hP hS _ (lv_sub hl [2, 3, 4, 5, 6, 7, 8, 9, 10, 11, 12, 1, 0] rfl)
        refine zi_if_ne (tgt := 69) hx hb ⟨by omega, by omega⟩ dL_orbits_42 (by decide) (fun c_42 => ?_) (fun c_42 => ?_)
        · exact K_69 (Or.inl (b2_1 er_39 c_42)) _ (lv_sub hl [0, 1, 2, 3, 4, 5, 6, 7, 8, 9, 10, 11, 12] rfl)
        · refine lv_iload hx hb dL_orbits_45 (lv_at hl 6 rfl) ?_
          refine zi_if_lt (tgt := 62) hx hb ⟨by omega, by omega⟩ dL_orbits_47 (by decide) (fun c_47 => ?_) (fun c_47 => ?_)
          · refine lv_iload hx hb dL_orbits_62 (lv_at hl 12 rfl) ?_
            refine lv_iload hx hb dL_orbits_64 (lv_at hl 7 rfl) ?_
            refine zi_icmp_ne (tgt := 112) hx hb ⟨by omega, by omega⟩ ⟨by omega, by omega⟩ dL_orbits_66 (by decide) (fun c_66 => ?_) (fun c_66 => ?_)
            · have h_no : ¬ oPr M x0 x1 x2 i := fun h9 => h9.elim (fun h => b2_0 er_39 (by omega) h) (fun h => h.elim (fun h => absurd h.1 (by omega)) (fun h => by omega))
              refine zi_iinc (k := 12) (lv' := [(12, .int (zi (i + 1))), (0, .ref (ld 0)), (1, .ref (ld 1)), (2, .ref (ld 2)), (3, .ref (ld 3)), (4, .ref (ld 4)), (5, .int (zi x0)), (6, .int (zi x1)), (7, .int (zi x2)), (8, .ref (nd 0)), (9, .ref (nd 1)), (10, .ref (nd 2)), (11, .int (zi n9))]) hx hb dL_orbits_112 hl rfl (by decide) rfl (fun ls hl => ?_)
              refine lv_goto (tgt := 24) hx hb dL_orbits_115 (by decide) ?_
              exact ih_24 n n9 (i + 1) T (by first | omega | assumption) (by first | omega | assumption) ⟨by omega, by omega⟩ h_o (by rw [← h_R, itr_s]; congr 1; exact (cif_f h_no).symm) (by omega) _ _ hP hS _ (lv_sub hl [1, 2, 3, 4, 5, 6, 7, 8, 9, 10, 11, 12, 0] rfl)
            · exact K_69 (Or.inr (Or.inr (by omega))) _ (lv_sub hl [0, 1, 2, 3, 4, 5, 6, 7, 8, 9, 10, 11, 12] rfl)
          · refine lv_aload_n hx hb dL_orbits_50 rfl (lv_at hl 0 rfl) ?_
            refine lv_aload_n hx hb dL_orbits_51 rfl (lv_at hl 3 rfl) ?_
            refine lv_iload hx hb dL_orbits_52 (lv_at hl 12 rfl) ?_
            refine lv_iload hx hb dL_orbits_54 (lv_at hl 6 rfl) ?_
            refine zk_r (zc_S (As := [.ref (ld 0), .ref (ld 3), .int (zi i), .int (zi x1)]) (rest := []) ⟨hx, hb, hml, hown, hts⟩ (ct_L_isLook l D cI cZ cJ ld L M hG i x1 ⟨by omega, by omega⟩ ⟨by omega, by omega⟩ ⟨by omega, by omega⟩) (va_cwS 4 hts gL_orbits_L_isLook rfl rfl rfl (by decide +kernel) ⟨Nat.le_of_ble_eq_true rfl, Nat.le_of_ble_eq_true rfl⟩) hK (wold hL hS) rfl hl.1 rfl (Nat.le_of_ble_eq_true rfl) dL_orbits_56 ⟨by decide, by decide⟩) ?_
            refine zi_top (fun (r_56 : Int) (er_56 : r_56 = b2 (lookM M i x1)) => ?_)
            have fr_56 : (0 : Int) ≤ r_56 ∧ r_56 ≤ 1 := by rw [er_56]; exact b2_b
            refine zi_if_ne (tgt := 69) hx hb ⟨by omega, by omega⟩ dL_orbits_59 (by decide) (fun c_59 => ?_) (fun c_59 => ?_)
            · exact K_69 (Or.inr (Or.inl ⟨by omega, b2_1 er_56 c_59⟩)) _ (lv_sub hl [0, 1, 2, 3, 4, 5, 6, 7, 8, 9, 10, 11, 12] rfl)
            · refine lv_iload hx hb dL_orbits_62 (lv_at hl 12 rfl) ?_
              refine lv_iload hx hb dL_orbits_64 (lv_at hl 7 rfl) ?_
              refine zi_icmp_ne (tgt := 112) hx hb ⟨by omega, by omega⟩ ⟨by omega, by omega⟩ dL_orbits_66 (by decide) (fun c_66 => ?_) (fun c_66 => ?_)
              · have h_no : ¬ oPr M x0 x1 x2 i := fun h9 => h9.elim (fun h => b2_0 er_39 (by omega) h) (fun h => h.elim (fun h => b2_0 er_56 (by omega) h.2) (fun h => by omega))
                refine zi_iinc (k := 12) (lv' := [(12, .int (zi (i + 1))), (0, .ref (ld 0)), (1, .ref (ld 1)), (2, .ref (ld 2)), (3, .ref (ld 3)), (4, .ref (ld 4)), (5, .int (zi x0)), (6, .int (zi x1)), (7, .int (zi x2)), (8, .ref (nd 0)), (9, .ref (nd 1)), (10, .ref (nd 2)), (11, .int (zi n9))]) hx hb dL_orbits_112 hl rfl (by decide) rfl (fun ls hl => ?_)
                refine lv_goto (tgt := 24) hx hb dL_orbits_115 (by decide) ?_
                exact ih_24 n n9 (i + 1) T (by first | omega | assumption) (by first | omega | assumption) ⟨by omega, by omega⟩ h_o (by rw [← h_R, itr_s]; congr 1; exact (cif_f h_no).symm) (by omega) _ _ hP hS _ (lv_sub hl [1, 2, 3, 4, 5, 6, 7, 8, 9, 10, 11, 12, 0] rfl)
              · exact K_69 (Or.inr (Or.inr (by omega))) _ (lv_sub hl [0, 1, 2, 3, 4, 5, 6, 7, 8, 9, 10, 11, 12] rfl)
  refine lv_istore (lv' := [(12, .int (zi 0)), (11, .int (zi 0)), (10, .ref (nd 2)), (9, .ref (nd 1)), (8, .ref (nd 0)), (0, .ref (ld 0)), (1, .ref (ld 1)), (2, .ref (ld 2)), (3, .ref (ld 3)), (4, .ref (ld 4)), (5, .int (zi x0)), (6, .int (zi x1)), (7, .int (zi x2))]) hx hb dL_orbits_22 hl (by decide) rfl (fun ls hl => ?_)
  exact K_24 41 40 0 0 (fun _ _ => 0) (by first | omega | assumption) (by first | omega | assumption) (by first | omega | assumption) (fun j => by show ((0 : Int) ≤ 0 ∧ (0 : Int) ≤ 999) ∧ ((0 : Int) ≤ 0 ∧ (0 : Int) ≤ 3599) ∧ (0 : Int) ≤ 0 ∧ (0 : Int) ≤ 9; decide) rfl (by omega) _ _ hP hS _ (lv_sub hl [5, 6, 7, 8, 9, 10, 11, 12, 4, 3, 2, 1, 0] rfl)

