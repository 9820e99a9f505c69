theorem ic7_L_desk : ∀ w ∈ wsX70, w ∈ wsL_desk := by decide +kernel
theorem cl7_L_desk : Cond.classLink RL 11 RX7 ∈ wsL_desk := by decide +kernel
theorem ins7_L_desk : Cond.instantiable RX7 6 ∈ wsL_desk := by decide +kernel
theorem ini7_L_desk : Cond.initialized RX7 ∈ wsL_desk := by decide +kernel
theorem ml7_L_desk : Cond.methodLink RL 133 yX7_init ∈ wsL_desk := by decide +kernel
theorem im7_L_desk : Cond.instanceMethod yX7_init ∈ wsL_desk := by decide +kernel
theorem arr_L_desk : Cond.arrayClass .int ∈ wsL_desk := by decide +kernel
theorem ci141_L_desk : Cond.constant RL 141 1073741824 ∈ wsL_desk := by decide +kernel
theorem ci41_L_desk : Cond.constant RL 41 (-70008) ∈ wsL_desk := by decide +kernel
theorem ci42_L_desk : Cond.constant RL 42 10800000 ∈ wsL_desk := by decide +kernel
theorem ci43_L_desk : Cond.constant RL 43 108000 ∈ wsL_desk := by decide +kernel
abbrev rmct_L_desk : Room := { frames := 10, cells := 33000, slots := 220000, locals := 223 }
set_option maxHeartbeats 16000000 in
set_option maxRecDepth 100000 in
theorem ct_L_desk (l : Launch) (hst : l.stackTraces = false) (D : va_G) (cI cZ cJ : ClassId) (sa : Nat → Nat) (b n : Nat) (xs : Nat → Int32) (hLL : n ≤ 260) (x0 : Int) (hx0 : ir x0) (hp0 : 0 ≤ x0 ∧ x0 ≤ 1000) : Met l yL_desk wsL_desk rmct_L_desk (va_Pc [.ref b, .int (zi x0)] (fun U => va_X b n xs U U.heap ∧ b < U.heap.size ∧ KK D cI cZ cJ U ∧ xP sa (fun q => U.heap.size ≤ q) U U.heap ∧ xQ U)) (zNi (fun r => r = 1)) 33000 220000 (fun _ => False) := by
  refine Met.ofW (cc := cL_desk) (maxL := 19) (ret := (some .boolean)) (by decide) rfl ?_
  intro p e s m args below meth c s₁ B hml hv
  obtain ⟨rfl, hX0, hbl, hK, hX, hQ⟩ := hv
  have hx := B.exec
  have hb := B.bytes
  have hr := B.returns
  have hts := atoms_spec (ws := wsL_desk) B.pre
  have hown : s.vm.findClass RL = some m.cls := findClass_of_methodNamed B.named
  have hlocks := B.notSynchronized
  have hl := lv_entry ([.ref b, .int (zi x0)]) (n := 19) (Nat.le_of_ble_eq_true rfl)
  rw [lg_entry_eq]
  generalize (lg_sl ([.ref b, .int (zi x0)]) ++ List.replicate (19 - (lg_sl ([.ref b, .int (zi x0)])).length) Slot.unset).toArray = ls at hl ⊢
  have hl : lv_has ls 19 [(0, .ref b), (1, .int (zi x0))] := hl
  have hA : ∀ q : Nat, s.heap.size ≤ q → (fun q : Nat => s.heap.size ≤ q) q := fun _ h => h
  have hS : va_S (fun q : Nat => s.heap.size ≤ q) s.heap s.heap [] := va_S.rf
  have hP : va_P D vwCl [] s.heap := va_P_nil
  have hD : va_D (fun q : Nat => s.heap.size ≤ q) [] := ⟨fun i j p q h => by simp at h, fun k q h => by simp at h⟩
  show W p l e rmct_L_desk s m ([.ref b, .int (zi x0)] : List Value).toArray below meth c s.heap [] 0 0 (MQ below (zNi (fun r => r = 1)) ([.ref b, .int (zi x0)] : List Value).toArray s 33000 220000 (fun _ => False)) (F0 m 0 ls [])
  refine va_new (ci := 7) (fs := [.null, .null, .null, .null, .null, .null]) (C := RX7) (T := TX7) (N := 6) hx hb hts ic7_L_desk tyX7 tyX7_ok hown (hts _ cl7_L_desk) (hts _ ins7_L_desk) (hts _ ini7_L_desk) hK.1 hP hD hS hA rfl (fun j hj => by rcases (show j = 0 ∨ j = 1 ∨ j = 2 ∨ j = 3 ∨ j = 4 ∨ j = 5 by omega) with rfl | rfl | rfl | rfl | rfl | rfl <;> rfl) (Nat.le_of_ble_eq_true rfl) (Nat.le_of_ble_eq_true rfl) dL_desk_0 (fun q0 H hP hD hS => ?_)
  have hP : va_P D vwCl [(q0, .inr (7, [.null, .null, .null, .null, .null, .null]))] H := hP
  have hD : va_D (fun q : Nat => s.heap.size ≤ q) [(q0, .inr (7, [.null, .null, .null, .null, .null, .null]))] := hD
  refine lv_dup hx hb dL_desk_3 rfl ?_
  have hFc := va_free (wc := [(q0, .inr (7, [.null, .null, .null, .null, .null, .null]))]) hD hS hA [0] rfl
  refine va_callv (va_runI (As := []) (rest := [.ref q0]) ⟨hx, hb, hml, hown, hts⟩ (ct_X7_init l D cI cZ cJ q0 H.size) (cwI 0 hts gL_desk_X7_init rfl rfl rfl (hts _ ini7_L_desk) (hts _ ml7_L_desk) (hts _ im7_L_desk) rfl (by decide +kernel) ⟨Nat.le_of_ble_eq_true rfl, Nat.le_of_ble_eq_true rfl⟩) ⟨fun a U g mk q => by obtain ⟨q0, q1, qP, qK, qD⟩ := q; exact ⟨q0, q1, qP, KK.same (u := U) (U := U.calling g mk a) rfl qK, qD⟩, fun U hU hW => ⟨rfl, by rw [hU], by rw [hU]; exact hP, KK.warm hW hK, hD.weaken (fun _ _ _ _ => trivial)⟩⟩ rfl rfl hl.1 rfl (lv_room (Nat.le_of_ble_eq_true rfl)) dL_desk_4 ⟨Nat.le_of_ble_eq_true rfl, Nat.le_of_ble_eq_true rfl⟩) hS (fun q _ h => hFc q h) hFc (fun u0 t H1 locs ht hvm hw hB hz1 hk1 hS => ?_)
  obtain ⟨hP1, hD1⟩ := hB
  rw [ht] at hP1
  obtain ⟨hP, hD⟩ := va_join (wr := []) (w1 := cW cI q0 u0) hP hD [0] [] rfl rfl (by decide) (by decide) hk1 hFc hP1 hD1
  clear hFc hP1 hD1 hz1 hk1 ht hvm hw
  generalize H1 = H at hP hS ⊢
  have hP : va_P D vwCl (cW cI q0 u0) H := hP
  have hD : va_D (fun q : Nat => s.heap.size ≤ q) (cW cI q0 u0) := hD
  refine lv_astore_n (lv' := [(2, .ref q0), (0, .ref b), (1, .int (zi x0))]) hx hb dL_desk_7 rfl hl (by decide) rfl (fun ls hl => ?_)
  refine zi_bipush hx hb dL_desk_8 (by decide) ?_
  refine va_newa (atype := .int) (a0 := (60, .inl (zf (fun _ => 0)))) hx hb (hts _ arr_L_desk) (ty := .int) rfl hK.1 hP hD hS hA (fun _ => rfl) (by decide) (by decide) (Nat.le_of_ble_eq_true rfl) (Nat.le_of_ble_eq_true rfl) (Nat.le_of_ble_eq_true rfl) dL_desk_10 (fun qd cA H hKa hP hD hS => ?_)
  have ecA : cA = cI := Option.some.inj ((va_nm_int (hKa.2 1 _ rfl).2).symm.trans (va_nm_int (hK.1.2 0 _ rfl).2))
  rw [ecA] at hP hD
  clear hKa ecA
  have hP : va_P D vwCl ((cW cI q0 u0) ++ [ar3 cI qd 60]) H := hP
  have hD : va_D (fun q : Nat => s.heap.size ≤ q) ((cW cI q0 u0) ++ [ar3 cI qd 60]) := hD
  refine lv_astore_n (lv' := [(3, .ref qd), (2, .ref q0), (0, .ref b), (1, .int (zi x0))]) hx hb dL_desk_12 rfl hl (by decide) rfl (fun ls hl => ?_)
  refine zi_bipush hx hb dL_desk_13 (by decide) ?_
  refine va_newa (atype := .int) (a0 := (30, .inl (zf (fun _ => 0)))) hx hb (hts _ arr_L_desk) (ty := .int) rfl hK.1 hP hD hS hA (fun _ => rfl) (by decide) (by decide) (Nat.le_of_ble_eq_true rfl) (Nat.le_of_ble_eq_true rfl) (Nat.le_of_ble_eq_true rfl) dL_desk_15 (fun qp cA H hKa hP hD hS => ?_)
  have ecA : cA = cI := Option.some.inj ((va_nm_int (hKa.2 1 _ rfl).2).symm.trans (va_nm_int (hK.1.2 0 _ rfl).2))
  rw [ecA] at hP hD
  clear hKa ecA
  have hP : va_P D vwCl (((cW cI q0 u0) ++ [ar3 cI qd 60]) ++ [ar3 cI qp 30]) H := hP
  have hD : va_D (fun q : Nat => s.heap.size ≤ q) (((cW cI q0 u0) ++ [ar3 cI qd 60]) ++ [ar3 cI qp 30]) := hD
  refine lv_astore (lv' := [(4, .ref qp), (3, .ref qd), (2, .ref q0), (0, .ref b), (1, .int (zi x0))]) hx hb dL_desk_17 hl (by decide) rfl (fun ls hl => ?_)
  refine zi_bipush hx hb dL_desk_19 (by decide) ?_
  refine va_newa (atype := .int) (a0 := (9, .inl (zf (fun _ => 0)))) hx hb (hts _ arr_L_desk) (ty := .int) rfl hK.1 hP hD hS hA (fun _ => rfl) (by decide) (by decide) (Nat.le_of_ble_eq_true rfl) (Nat.le_of_ble_eq_true rfl) (Nat.le_of_ble_eq_true rfl) dL_desk_21 (fun qz cA H hKa hP hD hS => ?_)
  have ecA : cA = cI := Option.some.inj ((va_nm_int (hKa.2 1 _ rfl).2).symm.trans (va_nm_int (hK.1.2 0 _ rfl).2))
  rw [ecA] at hP hD
  clear hKa ecA
  have hP : va_P D vwCl ((((cW cI q0 u0) ++ [ar3 cI qd 60]) ++ [ar3 cI qp 30]) ++ [ar3 cI qz 9]) H := hP
  have hD : va_D (fun q : Nat => s.heap.size ≤ q) ((((cW cI q0 u0) ++ [ar3 cI qd 60]) ++ [ar3 cI qp 30]) ++ [ar3 cI qz 9]) := hD
  refine lv_astore (lv' := [(5, .ref qz), (4, .ref qp), (3, .ref qd), (2, .ref q0), (0, .ref b), (1, .int (zi x0))]) hx hb dL_desk_23 hl (by decide) rfl (fun ls hl => ?_)
  refine zi_bipush hx hb dL_desk_25 (by decide) ?_
  refine va_newa (atype := .int) (a0 := (64, .inl (zf (fun _ => 0)))) hx hb (hts _ arr_L_desk) (ty := .int) rfl hK.1 hP hD hS hA (fun _ => rfl) (by decide) (by decide) (Nat.le_of_ble_eq_true rfl) (Nat.le_of_ble_eq_true rfl) (Nat.le_of_ble_eq_true rfl) dL_desk_27 (fun qu cA H hKa hP hD hS => ?_)
  have ecA : cA = cI := Option.some.inj ((va_nm_int (hKa.2 1 _ rfl).2).symm.trans (va_nm_int (hK.1.2 0 _ rfl).2))
  rw [ecA] at hP hD
  clear hKa ecA
  have hP : va_P D vwCl (((((cW cI q0 u0) ++ [ar3 cI qd 60]) ++ [ar3 cI qp 30]) ++ [ar3 cI qz 9]) ++ [ar3 cI qu 64]) H := hP
  have hD : va_D (fun q : Nat => s.heap.size ≤ q) (((((cW cI q0 u0) ++ [ar3 cI qd 60]) ++ [ar3 cI qp 30]) ++ [ar3 cI qz 9]) ++ [ar3 cI qu 64]) := hD
  refine lv_astore (lv' := [(6, .ref qu), (5, .ref qz), (4, .ref qp), (3, .ref qd), (2, .ref q0), (0, .ref b), (1, .int (zi x0))]) hx hb dL_desk_29 hl (by decide) rfl (fun ls hl => ?_)
  refine zi_bipush hx hb dL_desk_31 (by decide) ?_
  refine va_newa (atype := .int) (a0 := (6, .inl (zf (fun _ => 0)))) hx hb (hts _ arr_L_desk) (ty := .int) rfl hK.1 hP hD hS hA (fun _ => rfl) (by decide) (by decide) (Nat.le_of_ble_eq_true rfl) (Nat.le_of_ble_eq_true rfl) (Nat.le_of_ble_eq_true rfl) dL_desk_33 (fun qc cA H hKa hP hD hS => ?_)
  have ecA : cA = cI := Option.some.inj ((va_nm_int (hKa.2 1 _ rfl).2).symm.trans (va_nm_int (hK.1.2 0 _ rfl).2))
  rw [ecA] at hP hD
  clear hKa ecA
  have hP : va_P D vwCl ((((((cW cI q0 u0) ++ [ar3 cI qd 60]) ++ [ar3 cI qp 30]) ++ [ar3 cI qz 9]) ++ [ar3 cI qu 64]) ++ [ar3 cI qc 6]) H := hP
  have hD : va_D (fun q : Nat => s.heap.size ≤ q) ((((((cW cI q0 u0) ++ [ar3 cI qd 60]) ++ [ar3 cI qp 30]) ++ [ar3 cI qz 9]) ++ [ar3 cI qu 64]) ++ [ar3 cI qc 6]) := hD
  refine lv_astore (lv' := [(7, .ref qc), (6, .ref qu), (5, .ref qz), (4, .ref qp), (3, .ref qd), (2, .ref q0), (0, .ref b), (1, .int (zi x0))]) hx hb dL_desk_35 hl (by decide) rfl (fun ls hl => ?_)
  refine zi_iconst hx hb dL_desk_37 ?_
  refine va_newa (atype := .int) (a0 := (3, .inl (zf (fun _ => 0)))) hx hb (hts _ arr_L_desk) (ty := .int) rfl hK.1 hP hD hS hA (fun _ => rfl) (by decide) (by decide) (Nat.le_of_ble_eq_true rfl) (Nat.le_of_ble_eq_true rfl) (Nat.le_of_ble_eq_true rfl) dL_desk_38 (fun qe cA H hKa hP hD hS => ?_)
  have ecA : cA = cI := Option.some.inj ((va_nm_int (hKa.2 1 _ rfl).2).symm.trans (va_nm_int (hK.1.2 0 _ rfl).2))
  rw [ecA] at hP hD
  clear hKa ecA
  have hP : va_P D vwCl (((((((cW cI q0 u0) ++ [ar3 cI qd 60]) ++ [ar3 cI qp 30]) ++ [ar3 cI qz 9]) ++ [ar3 cI qu 64]) ++ [ar3 cI qc 6]) ++ [ar3 cI qe 3]) H := hP
  have hD : va_D (fun q : Nat => s.heap.size ≤ q) (((((((cW cI q0 u0) ++ [ar3 cI qd 60]) ++ [ar3 cI qp 30]) ++ [ar3 cI qz 9]) ++ [ar3 cI qu 64]) ++ [ar3 cI qc 6]) ++ [ar3 cI qe 3]) := hD
  obtain ⟨ad, ld, ⟨e0, e1, e2, e3, e4, e5⟩, hdis, hbA, hqA, hqe, hP, hL, hE⟩ := desk_split hP hD
  rw [← e0, ← e1, ← e2, ← e3, ← e4, ← e5] at hl
  clear e0 e1 e2 e3 e4 e5 hD
  refine lv_astore (lv' := [(8, .ref qe), (7, .ref (ld 4)), (6, .ref (ld 3)), (5, .ref (ld 2)), (4, .ref (ld 1)), (3, .ref (ld 0)), (2, .ref (ad 0)), (0, .ref b), (1, .int (zi x0))]) hx hb dL_desk_40 hl (by decide) rfl (fun ls hl => ?_)
  refine zi_iconst hx hb dL_desk_42 ?_
  refine lv_istore (lv' := [(9, .int (zi 1)), (8, .ref qe), (7, .ref (ld 4)), (6, .ref (ld 3)), (5, .ref (ld 2)), (4, .ref (ld 1)), (3, .ref (ld 0)), (2, .ref (ad 0)), (0, .ref b), (1, .int (zi x0))]) hx hb dL_desk_43 hl (by decide) rfl (fun ls hl => ?_)
  refine zi_iconst hx hb dL_desk_45 ?_
  have K_48 : ∀ (k : Nat) (ok9 i9 : Int) (T Mc : ZS) (e8 : Int → Int), (ok9 = 1) → (0 ≤ i9 ∧ i9 ≤ 3) → (DK T Mc) → (SU i9 0 0 Mc) → (LE3 i9 e8 Mc) → (3 - i9 < (k : Int)) → ∀ (H : Heap) (locs : List Loc), va_P D vwCl (dW cI ad T) H → va_P D vwCl (lW cI ld (fun _ _ => 0)) H → va_P D vwCl [(qe, .inl (cI, 3, .inl (zf e8)))] H → va_S (fun q => s.heap.size ≤ q) s.heap H locs → ∀ (ls : Array Slot), lv_has ls 19 [(0, .ref b), (1, .int (zi x0)), (2, .ref (ad 0)), (3, .ref (ld 0)), (4, .ref (ld 1)), (5, .ref (ld 2)), (6, .ref (ld 3)), (7, .ref (ld 4)), (8, .ref qe), (9, .int (zi ok9)), (10, .int (zi i9))] → W p l e rmct_L_desk s m ([.ref b, .int (zi x0)] : List Value).toArray below meth c H locs (53 + 2 * i9.toNat) (12717 + 12 * i9.toNat) (MQ below (zNi (fun r => r = 1)) ([.ref b, .int (zi x0)] : List Value).toArray s 33000 220000 (fun _ => False)) (F0 m 48 ls []) := by
    intro k
    induction k with
    | zero => intro ok9 i9 T Mc e8 h_ok h_i hD_T h_su h_le hk; exact absurd hk (by omega)
    | succ k ih_48 =>
      intro ok9 i9 T Mc e8 h_ok h_i hD_T h_su h_le hk H locs hP hL hE hS ls hl
      have s_1 := h_su.1
      have s_2 := h_su.2.1
      have s_3 := h_su.2.2.1
      refine lv_iload hx hb dL_desk_48 (lv_at hl 10 rfl) ?_
      refine zi_iconst hx hb dL_desk_50 ?_
      refine zi_icmp_ge (tgt := 100) hx hb ⟨by omega, by omega⟩ ⟨by decide, by decide⟩ dL_desk_51 (by decide) (fun c_51 => ?_) (fun c_51 => ?_)
      · refine zi_iconst hx hb dL_desk_100 ?_
        have K_103 : ∀ (k : Nat) (ok8 i8 : Int) (T Lc Mc : ZS) (e8 : Int → Int), (ok8 = 1) → (0 ≤ i8 ∧ i8 ≤ 14) → (DK T Mc) → (SU 3 i8 0 Mc) → (LE3 3 e8 Mc) → (LPl i8 Lc Mc) → (ZL Lc) → (14 - i8 < (k : Int)) → ∀ (H : Heap) (locs : List Loc), va_P D vwCl (dW cI ad T) H → va_P D vwCl (lW cI ld Lc) H → va_P D vwCl [(qe, .inl (cI, 3, .inl (zf e8)))] H → va_S (fun q => s.heap.size ≤ q) s.heap H locs → ∀ (ls : Array Slot), lv_has ls 19 [(0, .ref b), (1, .int (zi x0)), (2, .ref (ad 0)), (3, .ref (ld 0)), (4, .ref (ld 1)), (5, .ref (ld 2)), (6, .ref (ld 3)), (7, .ref (ld 4)), (8, .ref qe), (9, .int (zi ok8)), (10, .int (zi i8))] → W p l e rmct_L_desk s m ([.ref b, .int (zi x0)] : List Value).toArray below meth c H locs (59 + 3 * i8.toNat) (12753 + 18 * i8.toNat) (MQ below (zNi (fun r => r = 1)) ([.ref b, .int (zi x0)] : List Value).toArray s 33000 220000 (fun _ => False)) (F0 m 103 ls []) := by
          intro k
          induction k with
          | zero => intro ok8 i8 T Lc Mc e8 h_ok h_i hD_T h_su h_le h_lp h_z hk; exact absurd hk (by omega)
          | succ k ih_103 =>
            intro ok8 i8 T Lc Mc e8 h_ok h_i hD_T h_su h_le h_lp h_z hk H locs hP hL hE hS ls hl
            have s_1 := h_su.1
            have s_2 := h_su.2.1
            have s_3 := h_su.2.2.1
            refine lv_iload hx hb dL_desk_103 (lv_at hl 10 rfl) ?_
            refine zi_bipush hx hb dL_desk_105 (by decide) ?_
            refine zi_icmp_ge (tgt := 189) hx hb ⟨by omega, by omega⟩ ⟨by decide, by decide⟩ dL_desk_107 (by decide) (fun c_107 => ?_) (fun c_107 => ?_)
            · refine lv_aload hx hb dL_desk_189 (lv_at hl 7 rfl) ?_
              refine zi_iconst hx hb dL_desk_191 ?_
              refine zi_bipush hx hb dL_desk_192 (by decide) ?_
              have hEk := hE
              refine zbe_iast hx hb hK hdis hbA hqA hqe hP hL hE hS 4 rfl (fun _ => rfl) (by omega) (by omega) (by decide) dL_desk_194 (fun H locs hP hL hE hS => ?_)
              have hL : va_P D vwCl (lW cI ld (su Lc 4 (up (Lc 4) 1 14))) H := hL
              refine zi_iconst hx hb dL_desk_195 ?_
              have K_198 : ∀ (k : Nat) (ok7 i7 : Int) (T Lc Mc : ZS), (ok7 = 1) → (0 ≤ i7 ∧ i7 ≤ 40) → (DK T Mc) → (SU 3 14 i7 Mc) → (LPl 14 Lc Mc) → (LD i7 Lc Mc) → (ZL Lc) → (40 - i7 < (k : Int)) → ∀ (H : Heap) (locs : List Loc), va_P D vwCl (dW cI ad T) H → va_P D vwCl (lW cI ld Lc) H → va_S (fun q => s.heap.size ≤ q) s.heap H locs → ∀ (ls : Array Slot), lv_has ls 19 [(0, .ref b), (1, .int (zi x0)), (2, .ref (ad 0)), (3, .ref (ld 0)), (4, .ref (ld 1)), (5, .ref (ld 2)), (6, .ref (ld 3)), (7, .ref (ld 4)), (9, .int (zi ok7)), (10, .int (zi i7))] → W p l e rmct_L_desk s m ([.ref b, .int (zi x0)] : List Value).toArray below meth c H locs (101 + 4 * i7.toNat) (13005 + 24 * i7.toNat) (MQ below (zNi (fun r => r = 1)) ([.ref b, .int (zi x0)] : List Value).toArray s 33000 220000 (fun _ => False)) (F0 m 198 ls []) := by
                intro k
                induction k with
                | zero => intro ok7 i7 T Lc Mc h_ok h_i hD_T h_su h_lp h_ld h_z hk; exact absurd hk (by omega)
                | succ k ih_198 =>
                  intro ok7 i7 T Lc Mc h_ok h_i hD_T h_su h_lp h_ld h_z hk H locs hP hL hS ls hl
                  have s_1 := h_su.1
                  have s_2 := h_su.2.1
                  have s_3 := h_su.2.2.1
                  refine lv_iload hx hb dL_desk_198 (lv_at hl 9 rfl) ?_
                  refine zi_bipush hx hb dL_desk_200 (by decide) ?_
                  refine zi_icmp_ge (tgt := 393) hx hb ⟨by omega, by omega⟩ ⟨by decide, by decide⟩ dL_desk_202 (by decide) (fun c_202 => ?_) (fun c_202 => ?_)
                  · refine lv_aload hx hb dL_desk_393 (lv_at hl 7 rfl) ?_
                    refine zi_iconst hx hb dL_desk_395 ?_
                    refine zi_bipush hx hb dL_desk_396 (by decide) ?_
                    refine zb_iast hx hb hK hdis hbA hP hL hS 4 rfl (fun _ => rfl) (by omega) (by omega) (by decide) dL_desk_398 (fun H locs hP hL hS => ?_)
                    have hL : va_P D vwCl (lW cI ld (su Lc 4 (up (Lc 4) 2 40))) H := hL
                    have h_su4 : SU 3 14 40 Mc := by have e9 : i7 = 40 := (by omega); rw [e9] at h_su; exact h_su
                    have h_ld4 : LD 40 Lc Mc := by have e9 : i7 = 40 := (by omega); rw [e9] at h_ld; exact h_ld
                    obtain ⟨hG_399, hN_399⟩ := GL_init (L := (su Lc 4 (up (Lc 4) 2 40))) hD_T h_su4 h_lp h_ld4 h_z.1 h_z.2.1 (su_up _ _ _ _ _) h_z.2.2.1 h_z.2.2.2.1 h_z.2.2.2.2
                    refine zi_iconst hx hb dL_desk_399 ?_
                    have K_402 : ∀ (k : Nat) (ok6 i6 : Int) (T Lc Mc : ZS), (ok6 = 1) → (0 ≤ i6 ∧ i6 ≤ 44) → (DK T Mc) → (GL Lc Mc) → (NX Mc) → (Mc 17 0 ≤ i6) → (44 - i6 < (k : Int)) → ∀ (H : Heap) (locs : List Loc), va_P D vwCl (dW cI ad T) H → va_P D vwCl (lW cI ld Lc) H → va_S (fun q => s.heap.size ≤ q) s.heap H locs → ∀ (ls : Array Slot), lv_has ls 19 [(0, .ref b), (1, .int (zi x0)), (2, .ref (ad 0)), (3, .ref (ld 0)), (4, .ref (ld 1)), (5, .ref (ld 2)), (6, .ref (ld 3)), (7, .ref (ld 4)), (9, .int (zi ok6)), (10, .int (zi i6))] → W p l e rmct_L_desk s m ([.ref b, .int (zi x0)] : List Value).toArray below meth c H locs (261 + 740 * i6.toNat) (13965 + 4600 * i6.toNat) (MQ below (zNi (fun r => r = 1)) ([.ref b, .int (zi x0)] : List Value).toArray s 33000 220000 (fun _ => False)) (F0 m 402 ls []) := by
                      intro k
                      induction k with
                      | zero => intro ok6 i6 T Lc Mc h_ok h_i hD_T h_gl h_nx h_j hk; exact absurd hk (by omega)
                      | succ k ih_402 =>
                        intro ok6 i6 T Lc Mc h_ok h_i hD_T h_gl h_nx h_j hk H locs hP hL hS ls hl
                        have q0 := GL.c h_gl
                        refine lv_iload hx hb dL_desk_402 (lv_at hl 9 rfl) ?_
                        refine zi_bipush hx hb dL_desk_404 (by decide) ?_
                        refine zi_icmp_ge (tgt := 921) hx hb ⟨by omega, by omega⟩ ⟨by decide, by decide⟩ dL_desk_406 (by decide) (fun c_406 => ?_) (fun c_406 => ?_)
                        · refine lv_iload hx hb dL_desk_921 (lv_at hl 8 rfl) ?_
                          exact zr_NZ hx hb hr hlocks dL_desk_923 (by first | assumption | omega) hS ⟨by omega, by omega⟩ (by exact h_ok)
                        · refine lv_iload hx hb dL_desk_409 (lv_at hl 8 rfl) ?_
                          refine zi_if_eq (tgt := 921) hx hb ⟨by omega, by omega⟩ dL_desk_411 (by decide) (fun c_411 => ?_) (fun c_411 => ?_)
                          · exact absurd c_411 (by omega)
                          · refine lv_aload_n hx hb dL_desk_414 rfl (lv_at hl 0 rfl) ?_
                            refine lv_iload_n hx hb dL_desk_415 rfl (lv_at hl 1 rfl) ?_
                            refine zi_bipush hx hb dL_desk_416 (by decide) ?_
                            refine zi_iadd hx hb dL_desk_418 ?_
                            refine zi_iconst hx hb dL_desk_419 ?_
                            refine lv_iload hx hb dL_desk_420 (lv_at hl 9 rfl) ?_
                            refine zi_imul hx hb dL_desk_422 ?_
                            refine zi_iadd hx hb dL_desk_423 ?_
                            refine lv_ldc (v := zi 1073741824) hx hb hown (hts _ ci141_L_desk) dL_desk_424 ?_
                            refine lc_N (As := [.ref b, .int (zi ((x0 + 57) + (2 * i6))), .int (zi 1073741824)]) (rest := []) (A0 := fun q => s.heap.size ≤ q) ⟨hx, hb, hml, hown, hts⟩ (ct_L_draw l b n xs hLL ((x0 + 57) + (2 * i6)) 1073741824 ⟨by omega, by omega⟩ ⟨by decide, by decide⟩ (by omega) (by omega)) (va_cwS 3 hts gL_desk_L_draw rfl rfl rfl (by decide +kernel) ⟨Nat.le_of_ble_eq_true rfl, Nat.le_of_ble_eq_true rfl⟩) (pX_S hX0 hbl hS) hS rfl hl.1 rfl (Nat.le_of_ble_eq_true rfl) dL_desk_426 ⟨(by show _ ≤ (33000 : Nat); omega), (by show _ ≤ (220000 : Nat); omega)⟩ (fun r_426 H locs er_426 _ hk_426 hS => ?_)
                            have er_426 : 0 ≤ r_426 ∧ r_426 < 1073741824 := er_426
                            have hP := hP.kept (fun k q hq => hk_426 q.1 (vx_lt hP hq))
                            have hL := hL.kept (fun k q hq => hk_426 q.1 (vx_lt hL hq))
                            refine lv_istore (lv' := [(11, .int (zi r_426)), (0, .ref b), (1, .int (zi x0)), (2, .ref (ad 0)), (3, .ref (ld 0)), (4, .ref (ld 1)), (5, .ref (ld 2)), (6, .ref (ld 3)), (7, .ref (ld 4)), (9, .int (zi ok6)), (10, .int (zi i6))]) hx hb dL_desk_429 hl (by decide) rfl (fun ls hl => ?_)
                            refine lv_aload_n hx hb dL_desk_431 rfl (lv_at hl 1 rfl) ?_
                            refine lv_iload_n hx hb dL_desk_432 rfl (lv_at hl 2 rfl) ?_
                            refine zi_bipush hx hb dL_desk_433 (by decide) ?_
                            refine zi_iadd hx hb dL_desk_435 ?_
                            refine zi_iconst hx hb dL_desk_436 ?_
                            refine lv_iload hx hb dL_desk_437 (lv_at hl 10 rfl) ?_
                            refine zi_imul hx hb dL_desk_439 ?_
                            refine zi_iadd hx hb dL_desk_440 ?_
                            refine lv_ldc (v := zi 1073741824) hx hb hown (hts _ ci141_L_desk) dL_desk_441 ?_
                            refine lc_N (As := [.ref b, .int (zi ((x0 + 58) + (2 * i6))), .int (zi 1073741824)]) (rest := []) (A0 := fun q => s.heap.size ≤ q) ⟨hx, hb, hml, hown, hts⟩ (ct_L_draw l b n xs hLL ((x0 + 58) + (2 * i6)) 1073741824 ⟨by omega, by omega⟩ ⟨by decide, by decide⟩ (by omega) (by omega)) (va_cwS 3 hts gL_desk_L_draw rfl rfl rfl (by decide +kernel) ⟨Nat.le_of_ble_eq_true rfl, Nat.le_of_ble_eq_true rfl⟩) (pX_S hX0 hbl hS) hS rfl hl.1 rfl (Nat.le_of_ble_eq_true rfl) dL_desk_443 ⟨(by show _ ≤ (33000 : Nat); omega), (by show _ ≤ (220000 : Nat); omega)⟩ (fun r_443 H locs er_443 _ hk_443 hS => ?_)
                            have er_443 : 0 ≤ r_443 ∧ r_443 < 1073741824 := er_443
                            have hP := hP.kept (fun k q hq => hk_443 q.1 (vx_lt hP hq))
                            have hL := hL.kept (fun k q hq => hk_443 q.1 (vx_lt hL hq))
                            refine lv_istore (lv' := [(12, .int (zi r_443)), (11, .int (zi r_426)), (0, .ref b), (1, .int (zi x0)), (2, .ref (ad 0)), (3, .ref (ld 0)), (4, .ref (ld 1)), (5, .ref (ld 2)), (6, .ref (ld 3)), (7, .ref (ld 4)), (9, .int (zi ok6)), (10, .int (zi i6))]) hx hb dL_desk_446 hl (by decide) rfl (fun ls hl => ?_)
                            refine lv_iload hx hb dL_desk_448 (lv_at hl 11 rfl) ?_
                            refine zi_iconst hx hb dL_desk_450 ?_
                            have K_463 : ∀ (k9 : Int), (0 ≤ k9 ∧ k9 ≤ 15) → ∀ (ls : Array Slot), lv_has ls 19 [(0, .ref b), (1, .int (zi x0)), (2, .ref (ad 0)), (3, .ref (ld 0)), (4, .ref (ld 1)), (5, .ref (ld 2)), (6, .ref (ld 3)), (7, .ref (ld 4)), (9, .int (zi ok6)), (10, .int (zi i6)), (11, .int (zi r_426)), (12, .int (zi r_443))] → W p l e rmct_L_desk s m ([.ref b, .int (zi x0)] : List Value).toArray below meth c H locs (261 + 740 * i6.toNat + 0 + 0) (13965 + 4600 * i6.toNat + 0 + 0) (MQ below (zNi (fun r => r = 1)) ([.ref b, .int (zi x0)] : List Value).toArray s 33000 220000 (fun _ => False)) (F0 m 463 ls [.int (zi k9)]) := by
                              intro k9 h_k9 ls hl
                              refine lv_istore (lv' := [(13, .int (zi k9)), (0, .ref b), (1, .int (zi x0)), (2, .ref (ad 0)), (3, .ref (ld 0)), (4, .ref (ld 1)), (5, .ref (ld 2)), (6, .ref (ld 3)), (7, .ref (ld 4)), (9, .int (zi ok6)), (10, .int (zi i6)), (11, .int (zi r_426)), (12, .int (zi r_443))]) hx hb dL_desk_463 hl (by decide) rfl (fun ls hl => ?_)
                              refine lv_iload hx hb dL_desk_465 (lv_at hl 11 rfl) ?_
                              refine zi_bipush hx hb dL_desk_467 (by decide) ?_
                              refine zi_idiv hx hb ⟨by omega, by omega⟩ ⟨by omega, by omega⟩ (by omega) (by omega) dL_desk_469 ?_
                              refine zi_top (fun x14_470 ex14_470 => ?_)
                              refine lv_istore (lv' := [(14, .int (zi x14_470)), (13, .int (zi k9)), (0, .ref b), (1, .int (zi x0)), (2, .ref (ad 0)), (3, .ref (ld 0)), (4, .ref (ld 1)), (5, .ref (ld 2)), (6, .ref (ld 3)), (7, .ref (ld 4)), (9, .int (zi ok6)), (10, .int (zi i6)), (11, .int (zi r_426)), (12, .int (zi r_443))]) hx hb dL_desk_470 hl (by decide) rfl (fun ls hl => ?_)
                              refine lv_iload hx hb dL_desk_472 (lv_at hl 1 rfl) ?_
                              refine zi_bipush hx hb dL_desk_474 (by decide) ?_
                              have K_863 : ∀ (ok5 : Int) (T Lc Mc : ZS), (ok5 = 1) → (DK T Mc) → (GL Lc Mc) → (NX Mc) → (Mc 17 0 ≤ i6 + 1) → ∀ (H : Heap) (locs : List Loc), va_P D vwCl (dW cI ad T) H → va_P D vwCl (lW cI ld Lc) H → va_S (fun q => s.heap.size ≤ q) s.heap H locs → ∀ (ls : Array Slot), lv_has ls 19 [(0, .ref b), (1, .int (zi x0)), (2, .ref (ad 0)), (3, .ref (ld 0)), (4, .ref (ld 1)), (5, .ref (ld 2)), (6, .ref (ld 3)), (7, .ref (ld 4)), (10, .int (zi i6)), (11, .int (zi r_426)), (12, .int (zi r_443)), (14, .int (zi x14_470)), (9, .int (zi ok5))] → W p l e rmct_L_desk s m ([.ref b, .int (zi x0)] : List Value).toArray below meth c H locs (261 + 740 * i6.toNat + 640) (13965 + 4600 * i6.toNat + 3840) (MQ below (zNi (fun r => r = 1)) ([.ref b, .int (zi x0)] : List Value).toArray s 33000 220000 (fun _ => False)) (F0 m 863 ls []) := by
                                intro ok5 T Lc Mc h_ok5 hD_T h_gl h_nx h_j H locs hP hL hS ls hl
                                have q0 := GL.c h_gl
                                refine lv_iload hx hb dL_desk_863 (lv_at hl 12 rfl) ?_
                                refine zi_if_eq (tgt := 912) hx hb ⟨by omega, by omega⟩ dL_desk_865 (by decide) (fun c_865 => ?_) (fun c_865 => ?_)
                                · exact absurd c_865 (by omega)
                                · refine lv_iload hx hb dL_desk_868 (lv_at hl 8 rfl) ?_
                                  refine zi_iconst hx hb dL_desk_870 ?_
                                  refine zi_irem hx hb ⟨by omega, by omega⟩ ⟨by omega, by omega⟩ (by omega) (by omega) dL_desk_871 ?_
                                  refine zi_iconst hx hb dL_desk_872 ?_
                                  refine zi_icmp_lt (tgt := 908) hx hb ⟨by omega, by omega⟩ ⟨by decide, by decide⟩ dL_desk_873 (by decide) (fun c_873 => ?_) (fun c_873 => ?_)
                                  · refine zi_iconst hx hb dL_desk_908 ?_
                                    refine lv_goto (tgt := 913) hx hb dL_desk_909 (by decide) ?_
                                    refine lv_istore (lv' := [(9, .int (zi 1)), (0, .ref b), (1, .int (zi x0)), (2, .ref (ad 0)), (3, .ref (ld 0)), (4, .ref (ld 1)), (5, .ref (ld 2)), (6, .ref (ld 3)), (7, .ref (ld 4)), (10, .int (zi i6)), (11, .int (zi r_426)), (12, .int (zi r_443)), (14, .int (zi x14_470))]) hx hb dL_desk_913 hl (by decide) rfl (fun ls hl => ?_)
                                    refine zi_iinc (k := 9) (lv' := [(10, .int (zi (i6 + 1))), (9, .int (zi 1)), (0, .ref b), (1, .int (zi x0)), (2, .ref (ad 0)), (3, .ref (ld 0)), (4, .ref (ld 1)), (5, .ref (ld 2)), (6, .ref (ld 3)), (7, .ref (ld 4)), (11, .int (zi r_426)), (12, .int (zi r_443)), (14, .int (zi x14_470))]) hx hb dL_desk_915 hl rfl (by decide) rfl (fun ls hl => ?_)
                                    refine lv_goto (tgt := 402) hx hb dL_desk_918 (by decide) ?_
                                    exact lw_wd (by omega) (by omega) (ih_402 1 (i6 + 1) T Lc Mc (by first | omega | assumption) (by first | omega | assumption) hD_T h_gl h_nx (by first | omega | assumption) (by omega) _ _ hP hL hS _ (lv_sub hl [2, 3, 4, 5, 6, 7, 8, 9, 1, 0] rfl))
                                  · refine lv_aload hx hb dL_desk_876 (lv_at hl 7 rfl) ?_
                                    refine zi_iconst hx hb dL_desk_878 ?_
                                    refine zi_iald hx hb hK.1 hL 4 0 rfl rfl (by omega) (by omega) (by decide) dL_desk_879 ?_
                                    refine zi_is (Mc 11 0) (GL.c h_gl).2.1 ?_
                                    have q_879 := GL.c h_gl
                                    refine zi_if_eq (tgt := 908) hx hb ⟨by omega, by omega⟩ dL_desk_880 (by decide) (fun c_880 => ?_) (fun c_880 => ?_)
                                    · refine zi_iconst hx hb dL_desk_908 ?_
                                      refine lv_goto (tgt := 913) hx hb dL_desk_909 (by decide) ?_
                                      refine lv_istore (lv' := [(9, .int (zi 1)), (0, .ref b), (1, .int (zi x0)), (2, .ref (ad 0)), (3, .ref (ld 0)), (4, .ref (ld 1)), (5, .ref (ld 2)), (6, .ref (ld 3)), (7, .ref (ld 4)), (10, .int (zi i6)), (11, .int (zi r_426)), (12, .int (zi r_443)), (14, .int (zi x14_470))]) hx hb dL_desk_913 hl (by decide) rfl (fun ls hl => ?_)
                                      refine zi_iinc (k := 9) (lv' := [(10, .int (zi (i6 + 1))), (9, .int (zi 1)), (0, .ref b), (1, .int (zi x0)), (2, .ref (ad 0)), (3, .ref (ld 0)), (4, .ref (ld 1)), (5, .ref (ld 2)), (6, .ref (ld 3)), (7, .ref (ld 4)), (11, .int (zi r_426)), (12, .int (zi r_443)), (14, .int (zi x14_470))]) hx hb dL_desk_915 hl rfl (by decide) rfl (fun ls hl => ?_)
                                      refine lv_goto (tgt := 402) hx hb dL_desk_918 (by decide) ?_
                                      exact lw_wd (by omega) (by omega) (ih_402 1 (i6 + 1) T Lc Mc (by first | omega | assumption) (by first | omega | assumption) hD_T h_gl h_nx (by first | omega | assumption) (by omega) _ _ hP hL hS _ (lv_sub hl [2, 3, 4, 5, 6, 7, 8, 9, 1, 0] rfl))
                                    · refine lv_aload_n hx hb dL_desk_883 rfl (lv_at hl 2 rfl) ?_
                                      refine lv_iload hx hb dL_desk_884 (lv_at hl 10 rfl) ?_
                                      refine lv_iload hx hb dL_desk_886 (lv_at hl 11 rfl) ?_
                                      refine lv_aload hx hb dL_desk_888 (lv_at hl 7 rfl) ?_
                                      refine zi_iconst hx hb dL_desk_890 ?_
                                      refine zi_iald hx hb hK.1 hL 4 0 rfl rfl (by omega) (by omega) (by decide) dL_desk_891 ?_
                                      refine zi_is (Mc 11 0) (GL.c h_gl).2.1 ?_
                                      have q_891 := GL.c h_gl
                                      have m1_ := Int.emod_nonneg x14_470 (show Mc 11 0 ≠ 0 by omega)
                                      have m2_ := Int.emod_lt_of_pos x14_470 (show 0 < Mc 11 0 by omega)
                                      refine zi_irem hx hb ⟨by omega, by omega⟩ ⟨by omega, by omega⟩ (by omega) (by omega) dL_desk_892 ?_
                                      refine lv_aload_n hx hb dL_desk_893 rfl (lv_at hl 3 rfl) ?_
                                      refine lv_aload hx hb dL_desk_894 (lv_at hl 4 rfl) ?_
                                      refine lv_aload hx hb dL_desk_896 (lv_at hl 5 rfl) ?_
                                      refine lv_aload hx hb dL_desk_898 (lv_at hl 6 rfl) ?_
                                      refine lv_aload hx hb dL_desk_900 (lv_at hl 7 rfl) ?_
                                      refine lc_S (As := [.ref (ad 0), .int (zi r_443), .int (zi (x14_470 % (Mc 11 0))), .ref (ld 0), .ref (ld 1), .ref (ld 2), .ref (ld 3), .ref (ld 4)]) (rest := []) (A0 := fun q => s.heap.size ≤ q) ⟨hx, hb, hml, hown, hts⟩ (ct_L_isBody l hst D cI cZ cJ sa ad ld T Lc Mc hdis h_gl hD_T r_443 (x14_470 % (Mc 11 0)) ⟨by omega, by omega⟩ ⟨by omega, by omega⟩ (by omega) ⟨by omega, by omega⟩) (va_cwS 8 hts gL_desk_L_isBody rfl rfl rfl (by decide +kernel) ⟨Nat.le_of_ble_eq_true rfl, Nat.le_of_ble_eq_true rfl⟩) hK hX hQ hbA hS hP hL rfl hl.1 rfl (Nat.le_of_ble_eq_true rfl) dL_desk_902 ⟨(by show _ ≤ (33000 : Nat); omega), (by show _ ≤ (220000 : Nat); omega)⟩ (fun r_902 S_902 L_902 H locs hp_902 _ _ hP hL hS => ?_)
                                      obtain ⟨er_902, eL_902, hD_902⟩ := hp_902
                                      rw [eL_902] at hL
                                      refine zi_if_eq (tgt := 912) hx hb ⟨by omega, by omega⟩ dL_desk_905 (by decide) (fun c_905 => ?_) (fun c_905 => ?_)
                                      · exact absurd c_905 (by omega)
                                      · refine zi_iconst hx hb dL_desk_908 ?_
                                        refine lv_goto (tgt := 913) hx hb dL_desk_909 (by decide) ?_
                                        refine lv_istore (lv' := [(9, .int (zi 1)), (0, .ref b), (1, .int (zi x0)), (2, .ref (ad 0)), (3, .ref (ld 0)), (4, .ref (ld 1)), (5, .ref (ld 2)), (6, .ref (ld 3)), (7, .ref (ld 4)), (10, .int (zi i6)), (11, .int (zi r_426)), (12, .int (zi r_443)), (14, .int (zi x14_470))]) hx hb dL_desk_913 hl (by decide) rfl (fun ls hl => ?_)
                                        refine zi_iinc (k := 9) (lv' := [(10, .int (zi (i6 + 1))), (9, .int (zi 1)), (0, .ref b), (1, .int (zi x0)), (2, .ref (ad 0)), (3, .ref (ld 0)), (4, .ref (ld 1)), (5, .ref (ld 2)), (6, .ref (ld 3)), (7, .ref (ld 4)), (11, .int (zi r_426)), (12, .int (zi r_443)), (14, .int (zi x14_470))]) hx hb dL_desk_915 hl rfl (by decide) rfl (fun ls hl => ?_)
                                        refine lv_goto (tgt := 402) hx hb dL_desk_918 (by decide) ?_
                                        exact lw_wd (by omega) (by omega) (ih_402 1 (i6 + 1) S_902 Lc Mc (by first | omega | assumption) (by first | omega | assumption) hD_902 h_gl h_nx (by first | omega | assumption) (by omega) _ _ hP hL hS _ (lv_sub hl [2, 3, 4, 5, 6, 7, 8, 9, 1, 0] rfl))
                              refine zi_icmp_ge (tgt := 501) hx hb ⟨by omega, by omega⟩ ⟨by decide, by decide⟩ dL_desk_476 (by decide) (fun c_476 => ?_) (fun c_476 => ?_)
                              · refine lv_iload hx hb dL_desk_501 (lv_at hl 1 rfl) ?_
                                refine zi_bipush hx hb dL_desk_503 (by decide) ?_
                                refine zi_icmp_ge (tgt := 546) hx hb ⟨by omega, by omega⟩ ⟨by decide, by decide⟩ dL_desk_505 (by decide) (fun c_505 => ?_) (fun c_505 => ?_)
                                · refine lv_iload hx hb dL_desk_546 (lv_at hl 1 rfl) ?_
                                  refine zi_bipush hx hb dL_desk_548 (by decide) ?_
                                  refine zi_icmp_ne (tgt := 588) hx hb ⟨by omega, by omega⟩ ⟨by decide, by decide⟩ dL_desk_550 (by decide) (fun c_550 => ?_) (fun c_550 => ?_)
                                  · refine lv_iload hx hb dL_desk_588 (lv_at hl 1 rfl) ?_
                                    refine zi_bipush hx hb dL_desk_590 (by decide) ?_
                                    refine zi_icmp_ne (tgt := 646) hx hb ⟨by omega, by omega⟩ ⟨by decide, by decide⟩ dL_desk_592 (by decide) (fun c_592 => ?_) (fun c_592 => ?_)
                                    · refine lv_iload hx hb dL_desk_646 (lv_at hl 1 rfl) ?_
                                      refine zi_bipush hx hb dL_desk_648 (by decide) ?_
                                      refine zi_icmp_ne (tgt := 796) hx hb ⟨by omega, by omega⟩ ⟨by decide, by decide⟩ dL_desk_650 (by decide) (fun c_650 => ?_) (fun c_650 => ?_)
                                      · refine lv_aload hx hb dL_desk_796 (lv_at hl 9 rfl) ?_
                                        refine zi_iconst hx hb dL_desk_798 ?_
                                        refine zi_iald hx hb hK.1 hL 4 0 rfl rfl (by omega) (by omega) (by decide) dL_desk_799 ?_
                                        refine zi_is (Mc 11 0) (GL.c h_gl).2.1 ?_
                                        have q_799 := GL.c h_gl
                                        refine zi_if_le (tgt := 863) hx hb ⟨by omega, by omega⟩ dL_desk_800 (by decide) (fun c_800 => ?_) (fun c_800 => ?_)
                                        · exact lw_wd (by omega) (by omega) (K_863 ok6 T Lc Mc (by first | omega | assumption) hD_T h_gl h_nx (by first | omega | assumption) _ _ hP hL hS _ (lv_sub hl [2, 3, 4, 5, 6, 7, 8, 9, 11, 12, 13, 0, 10] rfl))
                                        · refine lv_aload_n hx hb dL_desk_803 rfl (lv_at hl 4 rfl) ?_
                                          refine lv_iload hx hb dL_desk_804 (lv_at hl 13 rfl) ?_
                                          refine lv_iload hx hb dL_desk_806 (lv_at hl 0 rfl) ?_
                                          refine lv_aload hx hb dL_desk_808 (lv_at hl 9 rfl) ?_
                                          refine zi_iconst hx hb dL_desk_810 ?_
                                          refine zi_iald hx hb hK.1 hL 4 0 rfl rfl (by omega) (by omega) (by decide) dL_desk_811 ?_
                                          refine zi_is (Mc 11 0) (GL.c h_gl).2.1 ?_
                                          have q_811 := GL.c h_gl
                                          refine zi_irem hx hb ⟨by omega, by omega⟩ ⟨by omega, by omega⟩ (by omega) (by omega) dL_desk_812 ?_
                                          have m1_ := Int.emod_nonneg x14_470 (show Mc 11 0 ≠ 0 by omega)
                                          have m2_ := Int.emod_lt_of_pos x14_470 (show 0 < Mc 11 0 by omega)
                                          refine lc_S (As := [.ref (ad 0), .int (zi r_443), .int (zi (x14_470 % (Mc 11 0)))]) (rest := []) (A0 := fun q => s.heap.size ≤ q) ⟨hx, hb, hml, hown, hts⟩ (ct_L_isChance l hst D cI cZ cJ sa ad ld T Lc Mc hdis h_gl hD_T r_443 (x14_470 % (Mc 11 0)) ⟨by omega, by omega⟩ ⟨by omega, by omega⟩ (by omega) ⟨by omega, by omega⟩) (va_cwS 3 hts gL_desk_L_isChance rfl rfl rfl (by decide +kernel) ⟨Nat.le_of_ble_eq_true rfl, Nat.le_of_ble_eq_true rfl⟩) hK hX hQ hbA hS hP hL rfl hl.1 rfl (Nat.le_of_ble_eq_true rfl) dL_desk_813 ⟨(by show _ ≤ (33000 : Nat); omega), (by show _ ≤ (220000 : Nat); omega)⟩ (fun r_813 S_813 L_813 H locs hp_813 _ _ hP hL hS => ?_)
                                          obtain ⟨er_813, eL_813, hD_813⟩ := hp_813
                                          rw [eL_813] at hL
                                          refine zi_if_eq (tgt := 860) hx hb ⟨by omega, by omega⟩ dL_desk_816 (by decide) (fun c_816 => ?_) (fun c_816 => ?_)
                                          · exact absurd c_816 (by omega)
                                          · refine lv_aload_n hx hb dL_desk_819 rfl (lv_at hl 4 rfl) ?_
                                            refine lv_iload hx hb dL_desk_820 (lv_at hl 13 rfl) ?_
                                            refine zi_bipush hx hb dL_desk_822 (by decide) ?_
                                            refine zi_irem hx hb ⟨by omega, by omega⟩ ⟨by omega, by omega⟩ (by omega) (by omega) dL_desk_824 ?_
                                            refine lv_aload hx hb dL_desk_825 (lv_at hl 8 rfl) ?_
                                            refine lv_aload hx hb dL_desk_827 (lv_at hl 9 rfl) ?_
                                            refine lc_S (As := [.ref (ad 0), .int (zi (r_443 % 91)), .ref (ld 3), .ref (ld 4)]) (rest := []) (A0 := fun q => s.heap.size ≤ q) ⟨hx, hb, hml, hown, hts⟩ (ct_L_areFamilies l hst D cI cZ cJ sa ad ld S_813 Lc Mc hdis h_gl hD_813 (r_443 % 91) ⟨by omega, by omega⟩ ⟨by omega, by omega⟩) (va_cwS 4 hts gL_desk_L_areFamilies rfl rfl rfl (by decide +kernel) ⟨Nat.le_of_ble_eq_true rfl, Nat.le_of_ble_eq_true rfl⟩) hK hX hQ hbA hS hP hL rfl hl.1 rfl (Nat.le_of_ble_eq_true rfl) dL_desk_829 ⟨(by show _ ≤ (33000 : Nat); omega), (by show _ ≤ (220000 : Nat); omega)⟩ (fun r_829 S_829 L_829 H locs hp_829 _ _ hP hL hS => ?_)
                                            obtain ⟨er_829, eL_829, hD_829⟩ := hp_829
                                            rw [eL_829] at hL
                                            refine zi_if_eq (tgt := 860) hx hb ⟨by omega, by omega⟩ dL_desk_832 (by decide) (fun c_832 => ?_) (fun c_832 => ?_)
                                            · exact absurd c_832 (by omega)
                                            · refine lv_aload_n hx hb dL_desk_835 rfl (lv_at hl 4 rfl) ?_
                                              refine lv_iload hx hb dL_desk_836 (lv_at hl 0 rfl) ?_
                                              refine lv_aload hx hb dL_desk_838 (lv_at hl 9 rfl) ?_
                                              refine zi_iconst hx hb dL_desk_840 ?_
                                              refine zi_iald hx hb hK.1 hL 4 0 rfl rfl (by omega) (by omega) (by decide) dL_desk_841 ?_
                                              refine zi_is (Mc 11 0) (GL.c h_gl).2.1 ?_
                                              have q_841 := GL.c h_gl
                                              refine zi_irem hx hb ⟨by omega, by omega⟩ ⟨by omega, by omega⟩ (by omega) (by omega) dL_desk_842 ?_
                                              refine lv_aload_n hx hb dL_desk_843 rfl (lv_at hl 5 rfl) ?_
                                              refine lv_aload hx hb dL_desk_844 (lv_at hl 6 rfl) ?_
                                              refine lv_aload hx hb dL_desk_846 (lv_at hl 8 rfl) ?_
                                              refine lv_aload hx hb dL_desk_848 (lv_at hl 9 rfl) ?_
                                              refine lc_S (As := [.ref (ad 0), .int (zi (x14_470 % (Mc 11 0))), .ref (ld 0), .ref (ld 1), .ref (ld 3), .ref (ld 4)]) (rest := []) (A0 := fun q => s.heap.size ≤ q) ⟨hx, hb, hml, hown, hts⟩ (ct_L_isTurn l hst D cI cZ cJ sa ad ld S_829 Lc Mc hdis h_gl hD_829 (x14_470 % (Mc 11 0)) ⟨by omega, by omega⟩ ⟨by omega, by omega⟩) (va_cwS 6 hts gL_desk_L_isTurn rfl rfl rfl (by decide +kernel) ⟨Nat.le_of_ble_eq_true rfl, Nat.le_of_ble_eq_true rfl⟩) hK hX hQ hbA hS hP hL rfl hl.1 rfl (Nat.le_of_ble_eq_true rfl) dL_desk_850 ⟨(by show _ ≤ (33000 : Nat); omega), (by show _ ≤ (220000 : Nat); omega)⟩ (fun r_850 S_850 L_850 H locs hp_850 _ _ hP hL hS => ?_)
                                              obtain ⟨er_850, eL_850, hD_850⟩ := hp_850
                                              rw [eL_850] at hL
                                              refine zi_if_eq (tgt := 860) hx hb ⟨by omega, by omega⟩ dL_desk_853 (by decide) (fun c_853 => ?_) (fun c_853 => ?_)
                                              · exact absurd c_853 (by omega)
                                              · refine zi_iconst hx hb dL_desk_856 ?_
                                                refine lv_goto (tgt := 861) hx hb dL_desk_857 (by decide) ?_
                                                refine lv_istore (lv' := [(9, .int (zi 1)), (14, .int (zi x14_470)), (13, .int (zi k9)), (0, .ref b), (1, .int (zi x0)), (2, .ref (ad 0)), (3, .ref (ld 0)), (4, .ref (ld 1)), (5, .ref (ld 2)), (6, .ref (ld 3)), (7, .ref (ld 4)), (10, .int (zi i6)), (11, .int (zi r_426)), (12, .int (zi r_443))]) hx hb dL_desk_861 hl (by decide) rfl (fun ls hl => ?_)
                                                exact lw_wd (by omega) (by omega) (K_863 1 S_850 Lc Mc (by first | omega | assumption) hD_850 h_gl h_nx (by first | omega | assumption) _ _ hP hL hS _ (lv_sub hl [3, 4, 5, 6, 7, 8, 9, 10, 11, 12, 13, 1, 0] rfl))
                                      · refine lv_aload hx hb dL_desk_653 (lv_at hl 9 rfl) ?_
                                        refine zi_iconst hx hb dL_desk_655 ?_
                                        refine zi_iald hx hb hK.1 hL 4 0 rfl rfl (by omega) (by omega) (by decide) dL_desk_656 ?_
                                        refine zi_is (Mc 11 0) (GL.c h_gl).2.1 ?_
                                        have q_656 := GL.c h_gl
                                        refine zi_if_le (tgt := 796) hx hb ⟨by omega, by omega⟩ dL_desk_657 (by decide) (fun c_657 => ?_) (fun c_657 => ?_)
                                        · refine lv_aload hx hb dL_desk_796 (lv_at hl 9 rfl) ?_
                                          refine zi_iconst hx hb dL_desk_798 ?_
                                          refine zi_iald hx hb hK.1 hL 4 0 rfl rfl (by omega) (by omega) (by decide) dL_desk_799 ?_
                                          refine zi_is (Mc 11 0) (GL.c h_gl).2.1 ?_
                                          have q_799 := GL.c h_gl
                                          refine zi_if_le (tgt := 863) hx hb ⟨by omega, by omega⟩ dL_desk_800 (by decide) (fun c_800 => ?_) (fun c_800 => ?_)
                                          · exact lw_wd (by omega) (by omega) (K_863 ok6 T Lc Mc (by first | omega | assumption) hD_T h_gl h_nx (by first | omega | assumption) _ _ hP hL hS _ (lv_sub hl [2, 3, 4, 5, 6, 7, 8, 9, 11, 12, 13, 0, 10] rfl))
                                          · refine lv_aload_n hx hb dL_desk_803 rfl (lv_at hl 4 rfl) ?_
                                            refine lv_iload hx hb dL_desk_804 (lv_at hl 13 rfl) ?_
                                            refine lv_iload hx hb dL_desk_806 (lv_at hl 0 rfl) ?_
                                            refine lv_aload hx hb dL_desk_808 (lv_at hl 9 rfl) ?_
                                            refine zi_iconst hx hb dL_desk_810 ?_
                                            refine zi_iald hx hb hK.1 hL 4 0 rfl rfl (by omega) (by omega) (by decide) dL_desk_811 ?_
                                            refine zi_is (Mc 11 0) (GL.c h_gl).2.1 ?_
                                            have q_811 := GL.c h_gl
                                            refine zi_irem hx hb ⟨by omega, by omega⟩ ⟨by omega, by omega⟩ (by omega) (by omega) dL_desk_812 ?_
                                            have m1_ := Int.emod_nonneg x14_470 (show Mc 11 0 ≠ 0 by omega)
                                            have m2_ := Int.emod_lt_of_pos x14_470 (show 0 < Mc 11 0 by omega)
                                            refine lc_S (As := [.ref (ad 0), .int (zi r_443), .int (zi (x14_470 % (Mc 11 0)))]) (rest := []) (A0 := fun q => s.heap.size ≤ q) ⟨hx, hb, hml, hown, hts⟩ (ct_L_isChance l hst D cI cZ cJ sa ad ld T Lc Mc hdis h_gl hD_T r_443 (x14_470 % (Mc 11 0)) ⟨by omega, by omega⟩ ⟨by omega, by omega⟩ (by omega) ⟨by omega, by omega⟩) (va_cwS 3 hts gL_desk_L_isChance rfl rfl rfl (by decide +kernel) ⟨Nat.le_of_ble_eq_true rfl, Nat.le_of_ble_eq_true rfl⟩) hK hX hQ hbA hS hP hL rfl hl.1 rfl (Nat.le_of_ble_eq_true rfl) dL_desk_813 ⟨(by show _ ≤ (33000 : Nat); omega), (by show _ ≤ (220000 : Nat); omega)⟩ (fun r_813 S_813 L_813 H locs hp_813 _ _ hP hL hS => ?_)
                                            obtain ⟨er_813, eL_813, hD_813⟩ := hp_813
                                            rw [eL_813] at hL
                                            refine zi_if_eq (tgt := 860) hx hb ⟨by omega, by omega⟩ dL_desk_816 (by decide) (fun c_816 => ?_) (fun c_816 => ?_)
                                            · exact absurd c_816 (by omega)
                                            · refine lv_aload_n hx hb dL_desk_819 rfl (lv_at hl 4 rfl) ?_
                                              refine lv_iload hx hb dL_desk_820 (lv_at hl 13 rfl) ?_
                                              refine zi_bipush hx hb dL_desk_822 (by decide) ?_
                                              refine zi_irem hx hb ⟨by omega, by omega⟩ ⟨by omega, by omega⟩ (by omega) (by omega) dL_desk_824 ?_
                                              refine lv_aload hx hb dL_desk_825 (lv_at hl 8 rfl) ?_
                                              refine lv_aload hx hb dL_desk_827 (lv_at hl 9 rfl) ?_
                                              refine lc_S (As := [.ref (ad 0), .int (zi (r_443 % 91)), .ref (ld 3), .ref (ld 4)]) (rest := []) (A0 := fun q => s.heap.size ≤ q) ⟨hx, hb, hml, hown, hts⟩ (ct_L_areFamilies l hst D cI cZ cJ sa ad ld S_813 Lc Mc hdis h_gl hD_813 (r_443 % 91) ⟨by omega, by omega⟩ ⟨by omega, by omega⟩) (va_cwS 4 hts gL_desk_L_areFamilies rfl rfl rfl (by decide +kernel) ⟨Nat.le_of_ble_eq_true rfl, Nat.le_of_ble_eq_true rfl⟩) hK hX hQ hbA hS hP hL rfl hl.1 rfl (Nat.le_of_ble_eq_true rfl) dL_desk_829 ⟨(by show _ ≤ (33000 : Nat); omega), (by show _ ≤ (220000 : Nat); omega)⟩ (fun r_829 S_829 L_829 H locs hp_829 _ _ hP hL hS => ?_)
                                              obtain ⟨er_829, eL_829, hD_829⟩ := hp_829
                                              rw [eL_829] at hL
                                              refine zi_if_eq (tgt := 860) hx hb ⟨by omega, by omega⟩ dL_desk_832 (by decide) (fun c_832 => ?_) (fun c_832 => ?_)
                                              · exact absurd c_832 (by omega)
                                              · refine lv_aload_n hx hb dL_desk_835 rfl (lv_at hl 4 rfl) ?_
                                                refine lv_iload hx hb dL_desk_836 (lv_at hl 0 rfl) ?_
                                                refine lv_aload hx hb dL_desk_838 (lv_at hl 9 rfl) ?_
                                                refine zi_iconst hx hb dL_desk_840 ?_
                                                refine zi_iald hx hb hK.1 hL 4 0 rfl rfl (by omega) (by omega) (by decide) dL_desk_841 ?_
                                                refine zi_is (Mc 11 0) (GL.c h_gl).2.1 ?_
                                                have q_841 := GL.c h_gl
                                                refine zi_irem hx hb ⟨by omega, by omega⟩ ⟨by omega, by omega⟩ (by omega) (by omega) dL_desk_842 ?_
                                                refine lv_aload_n hx hb dL_desk_843 rfl (lv_at hl 5 rfl) ?_
                                                refine lv_aload hx hb dL_desk_844 (lv_at hl 6 rfl) ?_
                                                refine lv_aload hx hb dL_desk_846 (lv_at hl 8 rfl) ?_
                                                refine lv_aload hx hb dL_desk_848 (lv_at hl 9 rfl) ?_
                                                refine lc_S (As := [.ref (ad 0), .int (zi (x14_470 % (Mc 11 0))), .ref (ld 0), .ref (ld 1), .ref (ld 3), .ref (ld 4)]) (rest := []) (A0 := fun q => s.heap.size ≤ q) ⟨hx, hb, hml, hown, hts⟩ (ct_L_isTurn l hst D cI cZ cJ sa ad ld S_829 Lc Mc hdis h_gl hD_829 (x14_470 % (Mc 11 0)) ⟨by omega, by omega⟩ ⟨by omega, by omega⟩) (va_cwS 6 hts gL_desk_L_isTurn rfl rfl rfl (by decide +kernel) ⟨Nat.le_of_ble_eq_true rfl, Nat.le_of_ble_eq_true rfl⟩) hK hX hQ hbA hS hP hL rfl hl.1 rfl (Nat.le_of_ble_eq_true rfl) dL_desk_850 ⟨(by show _ ≤ (33000 : Nat); omega), (by show _ ≤ (220000 : Nat); omega)⟩ (fun r_850 S_850 L_850 H locs hp_850 _ _ hP hL hS => ?_)
                                                obtain ⟨er_850, eL_850, hD_850⟩ := hp_850
                                                rw [eL_850] at hL
                                                refine zi_if_eq (tgt := 860) hx hb ⟨by omega, by omega⟩ dL_desk_853 (by decide) (fun c_853 => ?_) (fun c_853 => ?_)
                                                · exact absurd c_853 (by omega)
                                                · refine zi_iconst hx hb dL_desk_856 ?_
                                                  refine lv_goto (tgt := 861) hx hb dL_desk_857 (by decide) ?_
                                                  refine lv_istore (lv' := [(9, .int (zi 1)), (14, .int (zi x14_470)), (13, .int (zi k9)), (0, .ref b), (1, .int (zi x0)), (2, .ref (ad 0)), (3, .ref (ld 0)), (4, .ref (ld 1)), (5, .ref (ld 2)), (6, .ref (ld 3)), (7, .ref (ld 4)), (10, .int (zi i6)), (11, .int (zi r_426)), (12, .int (zi r_443))]) hx hb dL_desk_861 hl (by decide) rfl (fun ls hl => ?_)
                                                  exact lw_wd (by omega) (by omega) (K_863 1 S_850 Lc Mc (by first | omega | assumption) hD_850 h_gl h_nx (by first | omega | assumption) _ _ hP hL hS _ (lv_sub hl [3, 4, 5, 6, 7, 8, 9, 10, 11, 12, 13, 1, 0] rfl))
                                        · refine lv_iload hx hb dL_desk_660 (lv_at hl 13 rfl) ?_
                                          refine zi_bipush hx hb dL_desk_662 (by decide) ?_
                                          refine zi_irem hx hb ⟨by omega, by omega⟩ ⟨by omega, by omega⟩ (by omega) (by omega) dL_desk_664 ?_
                                          refine zi_top (fun x15_665 ex15_665 => ?_)
                                          refine lv_istore (lv' := [(15, .int (zi x15_665)), (14, .int (zi x14_470)), (13, .int (zi k9)), (0, .ref b), (1, .int (zi x0)), (2, .ref (ad 0)), (3, .ref (ld 0)), (4, .ref (ld 1)), (5, .ref (ld 2)), (6, .ref (ld 3)), (7, .ref (ld 4)), (9, .int (zi ok6)), (10, .int (zi i6)), (11, .int (zi r_426)), (12, .int (zi r_443))]) hx hb dL_desk_665 hl (by decide) rfl (fun ls hl => ?_)
                                          refine lv_aload_n hx hb dL_desk_667 rfl (lv_at hl 6 rfl) ?_
                                          refine lv_iload hx hb dL_desk_668 (lv_at hl 0 rfl) ?_
                                          refine zk_r (zc_S (As := [.ref (ld 0), .int (zi x15_665)]) (rest := []) ⟨hx, hb, hml, hown, hts⟩ (ct_L_owner l D cI cZ cJ ld Lc Mc h_gl x15_665 ⟨by omega, by omega⟩ ⟨by omega, by omega⟩) (va_cwS 2 hts gL_desk_L_owner rfl rfl rfl (by decide +kernel) ⟨Nat.le_of_ble_eq_true rfl, Nat.le_of_ble_eq_true rfl⟩) hK hL rfl hl.1 rfl (Nat.le_of_ble_eq_true rfl) dL_desk_670 ⟨(by show _ ≤ (33000 : Nat); omega), (by show _ ≤ (220000 : Nat); omega)⟩) ?_
                                          refine zi_top (fun (r_670 : Int) (er_670 : r_670 = Mc 10 x15_665) => ?_)
                                          have fr_670 : (-1 : Int) ≤ r_670 ∧ r_670 < 12 := by rw [er_670]; exact GL.ob h_gl (by omega) (by omega)
                                          have K_702 : ∀ (o9 : Int), (0 ≤ o9 ∧ o9 < Mc 11 0) → ∀ (ls : Array Slot), lv_has ls 19 [(0, .ref b), (1, .int (zi x0)), (2, .ref (ad 0)), (3, .ref (ld 0)), (4, .ref (ld 1)), (5, .ref (ld 2)), (6, .ref (ld 3)), (7, .ref (ld 4)), (10, .int (zi i6)), (11, .int (zi r_426)), (12, .int (zi r_443)), (14, .int (zi x14_470)), (15, .int (zi x15_665))] → W p l e rmct_L_desk s m ([.ref b, .int (zi x0)] : List Value).toArray below meth c H locs (261 + 740 * i6.toNat + 0 + 0) (13965 + 4600 * i6.toNat + 0 + 0) (MQ below (zNi (fun r => r = 1)) ([.ref b, .int (zi x0)] : List Value).toArray s 33000 220000 (fun _ => False)) (F0 m 702 ls [.int (zi o9)]) := by
                                            intro o9 h_o9 ls hl
                                            refine lv_istore (lv' := [(16, .int (zi o9)), (0, .ref b), (1, .int (zi x0)), (2, .ref (ad 0)), (3, .ref (ld 0)), (4, .ref (ld 1)), (5, .ref (ld 2)), (6, .ref (ld 3)), (7, .ref (ld 4)), (10, .int (zi i6)), (11, .int (zi r_426)), (12, .int (zi r_443)), (14, .int (zi x14_470)), (15, .int (zi x15_665))]) hx hb dL_desk_702 hl (by decide) rfl (fun ls hl => ?_)
                                            refine lv_aload_n hx hb dL_desk_704 rfl (lv_at hl 3 rfl) ?_
                                            refine lv_iload hx hb dL_desk_705 (lv_at hl 0 rfl) ?_
                                            refine zi_iconst hx hb dL_desk_707 ?_
                                            refine lc_pub (ld := ld) (L0 := Lc) (As := [.int (zi o9), .int (zi 1)]) (rest := []) (A0 := fun q => s.heap.size ≤ q) ⟨hx, hb, hml, hown, hts⟩ (ct_X7_ofBody l hst D cI cZ cJ sa ad T hD_T.1 hdis.1 o9 1 ⟨by omega, by omega⟩ ⟨by decide, by decide⟩) (cwV 2 hts gL_desk_X7_ofBody rfl rfl rfl (by decide +kernel) ⟨Nat.le_of_ble_eq_true rfl, Nat.le_of_ble_eq_true rfl⟩) rfl hK hX hdis hbA hS hP hL (nox_ofBody hD_T (by omega) (by omega) ⟨by omega, by omega⟩) rfl hl.1 rfl (Nat.le_of_ble_eq_true rfl) dL_desk_708 ⟨(by show _ ≤ (33000 : Nat); omega), (by show _ ≤ (220000 : Nat); omega)⟩ (fun r_708 S_708 H locs hp_708 _ _ hP hL hS => ?_)
                                            obtain ⟨er_708, hD_708⟩ := q_ofB1 hD_T (by omega) (by omega) hp_708
                                            have ow_ := ownM_b (M := Mc) (b := o9) (by omega)
                                            rw [← er_708] at ow_
                                            refine lv_istore (lv' := [(17, .int (zi r_708)), (16, .int (zi o9)), (0, .ref b), (1, .int (zi x0)), (2, .ref (ad 0)), (3, .ref (ld 0)), (4, .ref (ld 1)), (5, .ref (ld 2)), (6, .ref (ld 3)), (7, .ref (ld 4)), (10, .int (zi i6)), (11, .int (zi r_426)), (12, .int (zi r_443)), (14, .int (zi x14_470)), (15, .int (zi x15_665))]) hx hb dL_desk_711 hl (by decide) rfl (fun ls hl => ?_)
                                            refine lv_aload_n hx hb dL_desk_713 rfl (lv_at hl 5 rfl) ?_
                                            refine lv_iload hx hb dL_desk_714 (lv_at hl 14 rfl) ?_
                                            refine zk_r (zc_S (As := [.ref (ld 0), .int (zi x15_665)]) (rest := []) ⟨hx, hb, hml, hown, hts⟩ (ct_L_owner l D cI cZ cJ ld Lc Mc h_gl x15_665 ⟨by omega, by omega⟩ ⟨by omega, by omega⟩) (va_cwS 2 hts gL_desk_L_owner rfl rfl rfl (by decide +kernel) ⟨Nat.le_of_ble_eq_true rfl, Nat.le_of_ble_eq_true rfl⟩) hK hL rfl hl.1 rfl (Nat.le_of_ble_eq_true rfl) dL_desk_716 ⟨(by show _ ≤ (33000 : Nat); omega), (by show _ ≤ (220000 : Nat); omega)⟩) ?_
                                            refine zi_top (fun (r_716 : Int) (er_716 : r_716 = Mc 10 x15_665) => ?_)
                                            have fr_716 : (-1 : Int) ≤ r_716 ∧ r_716 < 12 := by rw [er_716]; exact GL.ob h_gl (by omega) (by omega)
                                            refine lv_iload hx hb dL_desk_719 (lv_at hl 1 rfl) ?_
                                            have K_735 : ∀ (u9 : Int), ((u9 = 1 ∧ Mc 10 x15_665 = o9 ∧ 2 ≤ ownM Mc o9) ∨ (u9 = 0 ∧ ¬ (Mc 10 x15_665 = o9 ∧ 2 ≤ ownM Mc o9))) → (0 ≤ u9 ∧ u9 ≤ 1) → ∀ (ls : Array Slot), lv_has ls 19 [(0, .ref b), (1, .int (zi x0)), (2, .ref (ad 0)), (3, .ref (ld 0)), (4, .ref (ld 1)), (5, .ref (ld 2)), (6, .ref (ld 3)), (7, .ref (ld 4)), (10, .int (zi i6)), (11, .int (zi r_426)), (12, .int (zi r_443)), (14, .int (zi x14_470)), (15, .int (zi x15_665)), (16, .int (zi o9)), (17, .int (zi r_708))] → W p l e rmct_L_desk s m ([.ref b, .int (zi x0)] : List Value).toArray below meth c H locs (261 + 740 * i6.toNat + 0 + 0 + 3) (13965 + 4600 * i6.toNat + 0 + 0 + 18) (MQ below (zNi (fun r => r = 1)) ([.ref b, .int (zi x0)] : List Value).toArray s 33000 220000 (fun _ => False)) (F0 m 735 ls [.int (zi u9)]) := by
                                              intro u9 h_u9 h_ub9 ls hl
                                              refine lv_istore (lv' := [(18, .int (zi u9)), (0, .ref b), (1, .int (zi x0)), (2, .ref (ad 0)), (3, .ref (ld 0)), (4, .ref (ld 1)), (5, .ref (ld 2)), (6, .ref (ld 3)), (7, .ref (ld 4)), (10, .int (zi i6)), (11, .int (zi r_426)), (12, .int (zi r_443)), (14, .int (zi x14_470)), (15, .int (zi x15_665)), (16, .int (zi o9)), (17, .int (zi r_708))]) hx hb dL_desk_735 hl (by decide) rfl (fun ls hl => ?_)
                                              refine lv_aload_n hx hb dL_desk_737 rfl (lv_at hl 4 rfl) ?_
                                              refine lv_iload hx hb dL_desk_738 (lv_at hl 13 rfl) ?_
                                              refine lv_dup2_11 hx hb dL_desk_740 rfl rfl ?_
                                              refine zi_iald hx hb hK.1 hL 0 0 rfl rfl (by omega) (by omega) (by decide) dL_desk_741 ?_
                                              have q_741 := GL.d h_gl (k := x15_665) (by omega) (by omega)
                                              refine lv_iload hx hb dL_desk_742 (lv_at hl 0 rfl) ?_
                                              refine zi_if_eq (tgt := 757) hx hb ⟨by omega, by omega⟩ dL_desk_744 (by decide) (fun c_744 => ?_) (fun c_744 => ?_)
                                              · refine zi_iconst hx hb dL_desk_757 ?_
                                                refine zi_isub hx hb dL_desk_758 ?_
                                                refine zb_iast hx hb hK hdis hbA hP hL hS 0 rfl (fun _ => rfl) (by omega) (by omega) (by decide) dL_desk_759 (fun H locs hP hL hS => ?_)
                                                have hL : va_P D vwCl (lW cI ld (su Lc 0 (up (Lc 0) x15_665 ((Lc 0 x15_665) - 0)))) H := hL
                                                rw [su_sam (k := 0) (by omega)] at hL
                                                refine lv_aload_n hx hb dL_desk_760 rfl (lv_at hl 3 rfl) ?_
                                                refine zi_iconst hx hb dL_desk_761 ?_
                                                refine lv_iload hx hb dL_desk_762 (lv_at hl 14 rfl) ?_
                                                refine lv_iload hx hb dL_desk_764 (lv_at hl 13 rfl) ?_
                                                refine lc_SW (As := [.ref (ad 0), .int (zi 2), .int (zi o9), .int (zi x15_665)]) (rest := []) (A0 := fun q => s.heap.size ≤ q) ⟨hx, hb, hml, hown, hts⟩ (ct_L_asks2n l hst D cI cZ cJ sa ad ld S_708 Lc Mc hdis hD_708 o9 x15_665 ⟨by omega, by omega⟩ ⟨by omega, by omega⟩) (vx_cwSW 4 hts gL_desk_L_asks rfl rfl rfl (by decide +kernel) ⟨Nat.le_of_ble_eq_true rfl, Nat.le_of_ble_eq_true rfl⟩) hK hX hQ hbA hS hP hL rfl hl.1 rfl (Nat.le_of_ble_eq_true rfl) dL_desk_766 ⟨(by show _ ≤ (33000 : Nat); omega), (by show _ ≤ (220000 : Nat); omega)⟩ (fun r_766 S_766 L_766 H locs hp_766 _ _ hP hL hS => ?_)
                                                obtain ⟨eL_766, hp_766⟩ := hp_766
                                                rw [eL_766] at hL
                                                obtain ⟨-, hB_766⟩ := ask_unlink (L9 := Lc) hD_708 h_gl h_nx (by omega) (by omega) (by omega) (by omega) ⟨rfl, hp_766⟩
                                                obtain ⟨hb1, er_766, hD_766⟩ := hB_766.resolve_left (fun h9 => (h_u9.resolve_left (by omega)).2 h9.1)
                                                refine lv_iload hx hb dL_desk_769 (lv_at hl 0 rfl) ?_
                                                refine zi_if_eq (tgt := 781) hx hb ⟨by omega, by omega⟩ dL_desk_771 (by decide) (fun c_771 => ?_) (fun c_771 => ?_)
                                                · refine lv_ldc (v := zi (-70008)) hx hb hown (hts _ ci41_L_desk) dL_desk_781 ?_
                                                  refine zi_icmp_ne (tgt := 790) hx hb ⟨by omega, by omega⟩ ⟨by decide, by decide⟩ dL_desk_783 (by decide) (fun c_783 => ?_) (fun c_783 => ?_)
                                                  · exact absurd c_783 (by omega)
                                                  · refine zi_iconst hx hb dL_desk_786 ?_
                                                    refine lv_goto (tgt := 791) hx hb dL_desk_787 (by decide) ?_
                                                    refine lv_istore (lv' := [(9, .int (zi 1)), (18, .int (zi u9)), (0, .ref b), (1, .int (zi x0)), (2, .ref (ad 0)), (3, .ref (ld 0)), (4, .ref (ld 1)), (5, .ref (ld 2)), (6, .ref (ld 3)), (7, .ref (ld 4)), (10, .int (zi i6)), (11, .int (zi r_426)), (12, .int (zi r_443)), (14, .int (zi x14_470)), (15, .int (zi x15_665)), (16, .int (zi o9)), (17, .int (zi r_708))]) hx hb dL_desk_791 hl (by decide) rfl (fun ls hl => ?_)
                                                    refine lv_goto (tgt := 863) hx hb dL_desk_793 (by decide) ?_
                                                    exact lw_wd (by omega) (by omega) (K_863 1 S_766 Lc Mc (by first | omega | assumption) hD_766 h_gl h_nx (by first | omega | assumption) _ _ hP hL hS _ (lv_sub hl [2, 3, 4, 5, 6, 7, 8, 9, 10, 11, 12, 13, 0] rfl))
                                                · exact absurd c_771 (by omega)
                                              · refine lv_ldc (v := zi 10800000) hx hb hown (hts _ ci42_L_desk) dL_desk_747 ?_
                                                refine lv_iload hx hb dL_desk_749 (lv_at hl 14 rfl) ?_
                                                refine zi_iconst hx hb dL_desk_751 ?_
                                                refine zi_iadd hx hb dL_desk_752 ?_
                                                refine zi_imul hx hb dL_desk_753 ?_
                                                refine lv_goto (tgt := 758) hx hb dL_desk_754 (by decide) ?_
                                                refine zi_isub hx hb dL_desk_758 ?_
                                                refine zb_iast hx hb hK hdis hbA hP hL hS 0 rfl (fun _ => rfl) (by omega) (by omega) (by decide) dL_desk_759 (fun H locs hP hL hS => ?_)
                                                have hL : va_P D vwCl (lW cI ld (su Lc 0 (up (Lc 0) x15_665 ((Lc 0 x15_665) - (10800000 * (o9 + 1)))))) H := hL
                                                refine lv_aload_n hx hb dL_desk_760 rfl (lv_at hl 3 rfl) ?_
                                                refine zi_iconst hx hb dL_desk_761 ?_
                                                refine lv_iload hx hb dL_desk_762 (lv_at hl 14 rfl) ?_
                                                refine lv_iload hx hb dL_desk_764 (lv_at hl 13 rfl) ?_
                                                refine lc_SW (As := [.ref (ad 0), .int (zi 2), .int (zi o9), .int (zi x15_665)]) (rest := []) (A0 := fun q => s.heap.size ≤ q) ⟨hx, hb, hml, hown, hts⟩ (ct_L_asks2n l hst D cI cZ cJ sa ad ld S_708 (su Lc 0 (up (Lc 0) x15_665 ((Lc 0 x15_665) - (10800000 * (o9 + 1))))) Mc hdis hD_708 o9 x15_665 ⟨by omega, by omega⟩ ⟨by omega, by omega⟩) (vx_cwSW 4 hts gL_desk_L_asks rfl rfl rfl (by decide +kernel) ⟨Nat.le_of_ble_eq_true rfl, Nat.le_of_ble_eq_true rfl⟩) hK hX hQ hbA hS hP hL rfl hl.1 rfl (Nat.le_of_ble_eq_true rfl) dL_desk_766 ⟨(by show _ ≤ (33000 : Nat); omega), (by show _ ≤ (220000 : Nat); omega)⟩ (fun r_766 S_766 L_766 H locs hp_766 _ _ hP hL hS => ?_)
                                                obtain ⟨eL_766, hp_766⟩ := hp_766
                                                rw [eL_766] at hL
                                                obtain ⟨-, hB_766⟩ := ask_unlink (L9 := Lc) hD_708 h_gl h_nx (by omega) (by omega) (by omega) (by omega) ⟨rfl, hp_766⟩
                                                obtain ⟨hb1, er_766, hD_766, hG_766, hN_766⟩ := hB_766.resolve_right (fun h9 => h9.1 (h_u9.resolve_right (by omega)).2)
                                                have q9_ : mLink Mc (-1) x15_665 17 0 = Mc 17 0 := rfl
                                                refine lv_iload hx hb dL_desk_769 (lv_at hl 0 rfl) ?_
                                                refine zi_if_eq (tgt := 781) hx hb ⟨by omega, by omega⟩ dL_desk_771 (by decide) (fun c_771 => ?_) (fun c_771 => ?_)
                                                · exact absurd c_771 (by omega)
                                                · refine lv_iload hx hb dL_desk_774 (lv_at hl 15 rfl) ?_
                                                  refine zi_iconst hx hb dL_desk_776 ?_
                                                  refine zi_isub hx hb dL_desk_777 ?_
                                                  refine lv_goto (tgt := 783) hx hb dL_desk_778 (by decide) ?_
                                                  refine zi_icmp_ne (tgt := 790) hx hb ⟨by omega, by omega⟩ ⟨by omega, by omega⟩ dL_desk_783 (by decide) (fun c_783 => ?_) (fun c_783 => ?_)
                                                  · exact absurd c_783 (by omega)
                                                  · refine zi_iconst hx hb dL_desk_786 ?_
                                                    refine lv_goto (tgt := 791) hx hb dL_desk_787 (by decide) ?_
                                                    refine lv_istore (lv' := [(9, .int (zi 1)), (18, .int (zi u9)), (0, .ref b), (1, .int (zi x0)), (2, .ref (ad 0)), (3, .ref (ld 0)), (4, .ref (ld 1)), (5, .ref (ld 2)), (6, .ref (ld 3)), (7, .ref (ld 4)), (10, .int (zi i6)), (11, .int (zi r_426)), (12, .int (zi r_443)), (14, .int (zi x14_470)), (15, .int (zi x15_665)), (16, .int (zi o9)), (17, .int (zi r_708))]) hx hb dL_desk_791 hl (by decide) rfl (fun ls hl => ?_)
                                                    refine lv_goto (tgt := 863) hx hb dL_desk_793 (by decide) ?_
                                                    exact lw_wd (by omega) (by omega) (K_863 1 S_766 (su Lc 0 (up (Lc 0) x15_665 ((Lc 0 x15_665) - (10800000 * (o9 + 1))))) (mLink Mc (-1) x15_665) (by first | omega | assumption) hD_766 hG_766 hN_766 (by first | omega | assumption) _ _ hP hL hS _ (lv_sub hl [2, 3, 4, 5, 6, 7, 8, 9, 10, 11, 12, 13, 0] rfl))
                                            refine zi_icmp_ne (tgt := 734) hx hb ⟨by omega, by omega⟩ ⟨by omega, by omega⟩ dL_desk_721 (by decide) (fun c_721 => ?_) (fun c_721 => ?_)
                                            · refine zi_iconst hx hb dL_desk_734 ?_
                                              exact K_735 0 (by first | omega | assumption) (by first | omega | assumption) _ (lv_sub hl [2, 3, 4, 5, 6, 7, 8, 9, 10, 11, 12, 13, 14, 1, 0] rfl)
                                            · refine lv_iload hx hb dL_desk_724 (lv_at hl 0 rfl) ?_
                                              refine zi_iconst hx hb dL_desk_726 ?_
                                              refine zi_icmp_le (tgt := 734) hx hb ⟨by omega, by omega⟩ ⟨by decide, by decide⟩ dL_desk_727 (by decide) (fun c_727 => ?_) (fun c_727 => ?_)
                                              · refine zi_iconst hx hb dL_desk_734 ?_
                                                exact K_735 0 (by first | omega | assumption) (by first | omega | assumption) _ (lv_sub hl [2, 3, 4, 5, 6, 7, 8, 9, 10, 11, 12, 13, 14, 1, 0] rfl)
                                              · refine zi_iconst hx hb dL_desk_730 ?_
                                                refine lv_goto (tgt := 735) hx hb dL_desk_731 (by decide) ?_
                                                exact K_735 1 (by first | omega | assumption) (by first | omega | assumption) _ (lv_sub hl [2, 3, 4, 5, 6, 7, 8, 9, 10, 11, 12, 13, 14, 1, 0] rfl)
                                          refine zi_if_lt (tgt := 686) hx hb ⟨by omega, by omega⟩ dL_desk_673 (by decide) (fun c_673 => ?_) (fun c_673 => ?_)
                                          · refine lv_iload hx hb dL_desk_686 (lv_at hl 1 rfl) ?_
                                            refine lv_aload hx hb dL_desk_688 (lv_at hl 10 rfl) ?_
                                            refine zi_iconst hx hb dL_desk_690 ?_
                                            refine zi_iald hx hb hK.1 hL 4 0 rfl rfl (by omega) (by omega) (by decide) dL_desk_691 ?_
                                            refine zi_is (Mc 11 0) (GL.c h_gl).2.1 ?_
                                            have q_691 := GL.c h_gl
                                            refine zi_irem hx hb ⟨by omega, by omega⟩ ⟨by omega, by omega⟩ (by omega) (by omega) dL_desk_692 ?_
                                            have m1_ := Int.emod_nonneg x14_470 (show Mc 11 0 ≠ 0 by omega)
                                            have m2_ := Int.emod_lt_of_pos x14_470 (show 0 < Mc 11 0 by omega)
                                            refine lv_goto (tgt := 702) hx hb dL_desk_693 (by decide) ?_
                                            exact K_702 (x14_470 % (Mc 11 0)) (by first | omega | assumption) _ (lv_sub hl [3, 4, 5, 6, 7, 8, 9, 10, 12, 13, 14, 1, 0] rfl)
                                          · refine lv_iload hx hb dL_desk_676 (lv_at hl 14 rfl) ?_
                                            refine zi_bipush hx hb dL_desk_678 (by decide) ?_
                                            refine zi_idiv hx hb ⟨by omega, by omega⟩ ⟨by omega, by omega⟩ (by omega) (by omega) dL_desk_680 ?_
                                            refine zi_iconst hx hb dL_desk_681 ?_
                                            refine zi_irem hx hb ⟨by omega, by omega⟩ ⟨by omega, by omega⟩ (by omega) (by omega) dL_desk_682 ?_
                                            refine zi_if_ne (tgt := 696) hx hb ⟨by omega, by omega⟩ dL_desk_683 (by decide) (fun c_683 => ?_) (fun c_683 => ?_)
                                            · refine lv_aload_n hx hb dL_desk_696 rfl (lv_at hl 6 rfl) ?_
                                              refine lv_iload hx hb dL_desk_697 (lv_at hl 0 rfl) ?_
                                              refine zk_r (zc_S (As := [.ref (ld 0), .int (zi x15_665)]) (rest := []) ⟨hx, hb, hml, hown, hts⟩ (ct_L_owner l D cI cZ cJ ld Lc Mc h_gl x15_665 ⟨by omega, by omega⟩ ⟨by omega, by omega⟩) (va_cwS 2 hts gL_desk_L_owner rfl rfl rfl (by decide +kernel) ⟨Nat.le_of_ble_eq_true rfl, Nat.le_of_ble_eq_true rfl⟩) hK hL rfl hl.1 rfl (Nat.le_of_ble_eq_true rfl) dL_desk_699 ⟨(by show _ ≤ (33000 : Nat); omega), (by show _ ≤ (220000 : Nat); omega)⟩) ?_
                                              refine zi_top (fun (r_699 : Int) (er_699 : r_699 = Mc 10 x15_665) => ?_)
                                              have fr_699 : (-1 : Int) ≤ r_699 ∧ r_699 < 12 := by rw [er_699]; exact GL.ob h_gl (by omega) (by omega)
                                              have ow1_ := Inv.ownB h_gl.2.2 x15_665 (by omega) (by omega)
                                              exact K_702 r_699 (by first | omega | assumption) _ (lv_sub hl [3, 4, 5, 6, 7, 8, 9, 10, 12, 13, 14, 1, 0] rfl)
                                            · refine lv_iload hx hb dL_desk_686 (lv_at hl 1 rfl) ?_
                                              refine lv_aload hx hb dL_desk_688 (lv_at hl 10 rfl) ?_
                                              refine zi_iconst hx hb dL_desk_690 ?_
                                              refine zi_iald hx hb hK.1 hL 4 0 rfl rfl (by omega) (by omega) (by decide) dL_desk_691 ?_
                                              refine zi_is (Mc 11 0) (GL.c h_gl).2.1 ?_
                                              have q_691 := GL.c h_gl
                                              refine zi_irem hx hb ⟨by omega, by omega⟩ ⟨by omega, by omega⟩ (by omega) (by omega) dL_desk_692 ?_
                                              have m1_ := Int.emod_nonneg x14_470 (show Mc 11 0 ≠ 0 by omega)
                                              have m2_ := Int.emod_lt_of_pos x14_470 (show 0 < Mc 11 0 by omega)
                                              refine lv_goto (tgt := 702) hx hb dL_desk_693 (by decide) ?_
                                              exact K_702 (x14_470 % (Mc 11 0)) (by first | omega | assumption) _ (lv_sub hl [3, 4, 5, 6, 7, 8, 9, 10, 12, 13, 14, 1, 0] rfl)
                                    · refine lv_iload hx hb dL_desk_595 (lv_at hl 0 rfl) ?_
                                      refine zi_bipush hx hb dL_desk_597 (by decide) ?_
                                      refine zi_irem hx hb ⟨by omega, by omega⟩ ⟨by omega, by omega⟩ (by omega) (by omega) dL_desk_599 ?_
                                      refine zi_top (fun x15_600 ex15_600 => ?_)
                                      refine lv_istore (lv' := [(15, .int (zi x15_600)), (14, .int (zi x14_470)), (13, .int (zi k9)), (0, .ref b), (1, .int (zi x0)), (2, .ref (ad 0)), (3, .ref (ld 0)), (4, .ref (ld 1)), (5, .ref (ld 2)), (6, .ref (ld 3)), (7, .ref (ld 4)), (9, .int (zi ok6)), (10, .int (zi i6)), (11, .int (zi r_426)), (12, .int (zi r_443))]) hx hb dL_desk_600 hl (by decide) rfl (fun ls hl => ?_)
                                      refine lv_aload hx hb dL_desk_602 (lv_at hl 8 rfl) ?_
                                      refine lv_iload hx hb dL_desk_604 (lv_at hl 0 rfl) ?_
                                      refine zi_iald hx hb hK.1 hL 2 0 rfl rfl (by omega) (by omega) (by decide) dL_desk_606 ?_
                                      have q_606 := GL.z h_gl (k := x15_600) (by omega) (by omega)
                                      refine zi_top (fun x16_607 ex16_607 => ?_)
                                      refine lv_istore (lv' := [(16, .int (zi x16_607)), (15, .int (zi x15_600)), (14, .int (zi x14_470)), (13, .int (zi k9)), (0, .ref b), (1, .int (zi x0)), (2, .ref (ad 0)), (3, .ref (ld 0)), (4, .ref (ld 1)), (5, .ref (ld 2)), (6, .ref (ld 3)), (7, .ref (ld 4)), (9, .int (zi ok6)), (10, .int (zi i6)), (11, .int (zi r_426)), (12, .int (zi r_443))]) hx hb dL_desk_607 hl (by decide) rfl (fun ls hl => ?_)
                                      refine lv_aload hx hb dL_desk_609 (lv_at hl 9 rfl) ?_
                                      refine lv_iload hx hb dL_desk_611 (lv_at hl 1 rfl) ?_
                                      refine lv_iload hx hb dL_desk_613 (lv_at hl 15 rfl) ?_
                                      refine zi_iconst hx hb dL_desk_615 ?_
                                      refine zi_irem hx hb ⟨by omega, by omega⟩ ⟨by omega, by omega⟩ (by omega) (by omega) dL_desk_616 ?_
                                      refine zi_iconst hx hb dL_desk_617 ?_
                                      refine zi_isub hx hb dL_desk_618 ?_
                                      refine zb_iast hx hb hK hdis hbA hP hL hS 2 rfl (fun _ => rfl) (by omega) (by omega) (by decide) dL_desk_619 (fun H locs hP hL hS => ?_)
                                      have hL : va_P D vwCl (lW cI ld (su Lc 2 (up (Lc 2) x15_600 ((r_443 % 5) - 2)))) H := hL
                                      refine lv_aload_n hx hb dL_desk_620 rfl (lv_at hl 6 rfl) ?_
                                      refine lv_iload hx hb dL_desk_621 (lv_at hl 1 rfl) ?_
                                      refine lv_aload hx hb dL_desk_623 (lv_at hl 9 rfl) ?_
                                      refine lv_iload hx hb dL_desk_625 (lv_at hl 1 rfl) ?_
                                      refine zi_iald hx hb hK.1 hL 2 0 rfl rfl (by omega) (by omega) (by decide) dL_desk_627 ?_
                                      refine zi_is (r_443 % 5 - 2) (su_up _ _ _ _ _) ?_
                                      refine lc_pub (ld := ld) (L0 := (su Lc 2 (up (Lc 2) x15_600 ((r_443 % 5) - 2)))) (As := [.int (zi x15_600), .int (zi (r_443 % 5 - 2))]) (rest := []) (A0 := fun q => s.heap.size ≤ q) ⟨hx, hb, hml, hown, hts⟩ (ct_X7_shift l hst D cI cZ cJ sa ad T hD_T.1 hdis.1 x15_600 (r_443 % 5 - 2) ⟨by omega, by omega⟩ ⟨by omega, by omega⟩) (cwV 2 hts gL_desk_X7_shift rfl rfl rfl (by decide +kernel) ⟨Nat.le_of_ble_eq_true rfl, Nat.le_of_ble_eq_true rfl⟩) rfl hK hX hdis hbA hS hP hL (nox_shift ⟨by omega, by omega⟩ ⟨by omega, by omega⟩) rfl hl.1 rfl (Nat.le_of_ble_eq_true rfl) dL_desk_628 ⟨(by show _ ≤ (33000 : Nat); omega), (by show _ ≤ (220000 : Nat); omega)⟩ (fun r_628 S_628 H locs hp_628 _ _ hP hL hS => ?_)
                                      obtain ⟨er_628, hD_628, hG_628, hN_628⟩ := shift_step hD_T h_gl h_nx (by omega) (by omega) ⟨by omega, by omega⟩ hp_628
                                      have q9_ : mShift Mc x15_600 (r_443 % 5 - 2) 17 0 = Mc 17 0 := rfl
                                      refine lv_iload hx hb dL_desk_631 (lv_at hl 0 rfl) ?_
                                      refine zi_icmp_ne (tgt := 640) hx hb ⟨by omega, by omega⟩ ⟨by omega, by omega⟩ dL_desk_633 (by decide) (fun c_633 => ?_) (fun c_633 => ?_)
                                      · exact absurd c_633 (by omega)
                                      · refine zi_iconst hx hb dL_desk_636 ?_
                                        refine lv_goto (tgt := 641) hx hb dL_desk_637 (by decide) ?_
                                        refine lv_istore (lv' := [(9, .int (zi 1)), (16, .int (zi x16_607)), (15, .int (zi x15_600)), (14, .int (zi x14_470)), (13, .int (zi k9)), (0, .ref b), (1, .int (zi x0)), (2, .ref (ad 0)), (3, .ref (ld 0)), (4, .ref (ld 1)), (5, .ref (ld 2)), (6, .ref (ld 3)), (7, .ref (ld 4)), (10, .int (zi i6)), (11, .int (zi r_426)), (12, .int (zi r_443))]) hx hb dL_desk_641 hl (by decide) rfl (fun ls hl => ?_)
                                        refine lv_goto (tgt := 863) hx hb dL_desk_643 (by decide) ?_
                                        exact lw_wd (by omega) (by omega) (K_863 1 S_628 (su Lc 2 (up (Lc 2) x15_600 ((r_443 % 5) - 2))) (mShift Mc x15_600 (r_443 % 5 - 2)) (by first | omega | assumption) hD_628 hG_628 hN_628 (by first | omega | assumption) _ _ hP hL hS _ (lv_sub hl [5, 6, 7, 8, 9, 10, 11, 12, 13, 14, 15, 3, 0] rfl))
                                  · refine lv_aload hx hb dL_desk_553 (lv_at hl 9 rfl) ?_
                                    refine zi_iconst hx hb dL_desk_555 ?_
                                    refine zi_iald hx hb hK.1 hL 4 0 rfl rfl (by omega) (by omega) (by decide) dL_desk_556 ?_
                                    refine zi_is (Mc 11 0) (GL.c h_gl).2.1 ?_
                                    have q_556 := GL.c h_gl
                                    refine zi_if_eq (tgt := 578) hx hb ⟨by omega, by omega⟩ dL_desk_557 (by decide) (fun c_557 => ?_) (fun c_557 => ?_)
                                    · refine zi_iconst hx hb dL_desk_578 ?_
                                      refine lv_goto (tgt := 583) hx hb dL_desk_579 (by decide) ?_
                                      refine lv_istore (lv' := [(9, .int (zi 1)), (14, .int (zi x14_470)), (13, .int (zi k9)), (0, .ref b), (1, .int (zi x0)), (2, .ref (ad 0)), (3, .ref (ld 0)), (4, .ref (ld 1)), (5, .ref (ld 2)), (6, .ref (ld 3)), (7, .ref (ld 4)), (10, .int (zi i6)), (11, .int (zi r_426)), (12, .int (zi r_443))]) hx hb dL_desk_583 hl (by decide) rfl (fun ls hl => ?_)
                                      refine lv_goto (tgt := 863) hx hb dL_desk_585 (by decide) ?_
                                      exact lw_wd (by omega) (by omega) (K_863 1 T Lc Mc (by first | omega | assumption) hD_T h_gl h_nx (by first | omega | assumption) _ _ hP hL hS _ (lv_sub hl [3, 4, 5, 6, 7, 8, 9, 10, 11, 12, 13, 1, 0] rfl))
                                    · refine lv_aload_n hx hb dL_desk_560 rfl (lv_at hl 4 rfl) ?_
                                      refine lv_iload hx hb dL_desk_561 (lv_at hl 0 rfl) ?_
                                      refine lv_aload_n hx hb dL_desk_563 rfl (lv_at hl 5 rfl) ?_
                                      refine lv_aload hx hb dL_desk_564 (lv_at hl 6 rfl) ?_
                                      refine lv_aload hx hb dL_desk_566 (lv_at hl 7 rfl) ?_
                                      refine lv_aload hx hb dL_desk_568 (lv_at hl 8 rfl) ?_
                                      refine lv_aload hx hb dL_desk_570 (lv_at hl 9 rfl) ?_
                                      refine lc_S (As := [.ref (ad 0), .int (zi x14_470), .ref (ld 0), .ref (ld 1), .ref (ld 2), .ref (ld 3), .ref (ld 4)]) (rest := []) (A0 := fun q => s.heap.size ≤ q) ⟨hx, hb, hml, hown, hts⟩ (ct_L_numbers l hst D cI cZ cJ sa ad ld T Lc Mc hdis h_gl hD_T x14_470 ⟨by omega, by omega⟩ h_nx (by omega) (by omega)) (va_cwS 7 hts gL_desk_L_numbers rfl rfl rfl (by decide +kernel) ⟨Nat.le_of_ble_eq_true rfl, Nat.le_of_ble_eq_true rfl⟩) hK hX hQ hbA hS hP hL rfl hl.1 rfl (Nat.le_of_ble_eq_true rfl) dL_desk_572 ⟨(by show _ ≤ (33000 : Nat); omega), (by show _ ≤ (220000 : Nat); omega)⟩ (fun r_572 S_572 L_572 H locs hp_572 _ _ hP hL hS => ?_)
                                      obtain ⟨er_572, M_572, hG_572, hD_572, hN_572, hj_572⟩ := hp_572
                                      refine zi_if_eq (tgt := 582) hx hb ⟨by omega, by omega⟩ dL_desk_575 (by decide) (fun c_575 => ?_) (fun c_575 => ?_)
                                      · exact absurd c_575 (by omega)
                                      · refine zi_iconst hx hb dL_desk_578 ?_
                                        refine lv_goto (tgt := 583) hx hb dL_desk_579 (by decide) ?_
                                        refine lv_istore (lv' := [(9, .int (zi 1)), (14, .int (zi x14_470)), (13, .int (zi k9)), (0, .ref b), (1, .int (zi x0)), (2, .ref (ad 0)), (3, .ref (ld 0)), (4, .ref (ld 1)), (5, .ref (ld 2)), (6, .ref (ld 3)), (7, .ref (ld 4)), (10, .int (zi i6)), (11, .int (zi r_426)), (12, .int (zi r_443))]) hx hb dL_desk_583 hl (by decide) rfl (fun ls hl => ?_)
                                        refine lv_goto (tgt := 863) hx hb dL_desk_585 (by decide) ?_
                                        exact lw_wd (by omega) (by omega) (K_863 1 S_572 L_572 M_572 (by first | omega | assumption) hD_572 hG_572 hN_572 (by first | omega | assumption) _ _ hP hL hS _ (lv_sub hl [3, 4, 5, 6, 7, 8, 9, 10, 11, 12, 13, 1, 0] rfl))
                                · refine lv_aload hx hb dL_desk_508 (lv_at hl 9 rfl) ?_
                                  refine zi_iconst hx hb dL_desk_510 ?_
                                  refine zi_iald hx hb hK.1 hL 4 0 rfl rfl (by omega) (by omega) (by decide) dL_desk_511 ?_
                                  refine zi_is (Mc 11 0) (GL.c h_gl).2.1 ?_
                                  have q_511 := GL.c h_gl
                                  refine zi_iconst hx hb dL_desk_512 ?_
                                  refine zi_icmp_lt (tgt := 536) hx hb ⟨by omega, by omega⟩ ⟨by decide, by decide⟩ dL_desk_513 (by decide) (fun c_513 => ?_) (fun c_513 => ?_)
                                  · refine zi_iconst hx hb dL_desk_536 ?_
                                    refine lv_goto (tgt := 541) hx hb dL_desk_537 (by decide) ?_
                                    refine lv_istore (lv' := [(9, .int (zi 1)), (14, .int (zi x14_470)), (13, .int (zi k9)), (0, .ref b), (1, .int (zi x0)), (2, .ref (ad 0)), (3, .ref (ld 0)), (4, .ref (ld 1)), (5, .ref (ld 2)), (6, .ref (ld 3)), (7, .ref (ld 4)), (10, .int (zi i6)), (11, .int (zi r_426)), (12, .int (zi r_443))]) hx hb dL_desk_541 hl (by decide) rfl (fun ls hl => ?_)
                                    refine lv_goto (tgt := 863) hx hb dL_desk_543 (by decide) ?_
                                    exact lw_wd (by omega) (by omega) (K_863 1 T Lc Mc (by first | omega | assumption) hD_T h_gl h_nx (by first | omega | assumption) _ _ hP hL hS _ (lv_sub hl [3, 4, 5, 6, 7, 8, 9, 10, 11, 12, 13, 1, 0] rfl))
                                  · refine lv_aload_n hx hb dL_desk_516 rfl (lv_at hl 4 rfl) ?_
                                    refine lv_iload hx hb dL_desk_517 (lv_at hl 0 rfl) ?_
                                    refine lv_iload hx hb dL_desk_519 (lv_at hl 13 rfl) ?_
                                    refine lv_aload_n hx hb dL_desk_521 rfl (lv_at hl 5 rfl) ?_
                                    refine lv_aload hx hb dL_desk_522 (lv_at hl 6 rfl) ?_
                                    refine lv_aload hx hb dL_desk_524 (lv_at hl 7 rfl) ?_
                                    refine lv_aload hx hb dL_desk_526 (lv_at hl 8 rfl) ?_
                                    refine lv_aload hx hb dL_desk_528 (lv_at hl 9 rfl) ?_
                                    refine lc_S (As := [.ref (ad 0), .int (zi x14_470), .int (zi r_443), .ref (ld 0), .ref (ld 1), .ref (ld 2), .ref (ld 3), .ref (ld 4)]) (rest := []) (A0 := fun q => s.heap.size ≤ q) ⟨hx, hb, hml, hown, hts⟩ (ct_L_joins l hst D cI cZ cJ sa ad ld T Lc Mc hdis h_gl hD_T x14_470 r_443 ⟨by omega, by omega⟩ ⟨by omega, by omega⟩ h_nx (by omega) (by omega) (by omega) (by omega)) (va_cwS 8 hts gL_desk_L_joins rfl rfl rfl (by decide +kernel) ⟨Nat.le_of_ble_eq_true rfl, Nat.le_of_ble_eq_true rfl⟩) hK hX hQ hbA hS hP hL rfl hl.1 rfl (Nat.le_of_ble_eq_true rfl) dL_desk_530 ⟨(by show _ ≤ (33000 : Nat); omega), (by show _ ≤ (220000 : Nat); omega)⟩ (fun r_530 S_530 L_530 H locs hp_530 _ _ hP hL hS => ?_)
                                    obtain ⟨er_530, M_530, hG_530, hD_530, hN_530, hj_530⟩ := hp_530
                                    refine zi_if_eq (tgt := 540) hx hb ⟨by omega, by omega⟩ dL_desk_533 (by decide) (fun c_533 => ?_) (fun c_533 => ?_)
                                    · exact absurd c_533 (by omega)
                                    · refine zi_iconst hx hb dL_desk_536 ?_
                                      refine lv_goto (tgt := 541) hx hb dL_desk_537 (by decide) ?_
                                      refine lv_istore (lv' := [(9, .int (zi 1)), (14, .int (zi x14_470)), (13, .int (zi k9)), (0, .ref b), (1, .int (zi x0)), (2, .ref (ad 0)), (3, .ref (ld 0)), (4, .ref (ld 1)), (5, .ref (ld 2)), (6, .ref (ld 3)), (7, .ref (ld 4)), (10, .int (zi i6)), (11, .int (zi r_426)), (12, .int (zi r_443))]) hx hb dL_desk_541 hl (by decide) rfl (fun ls hl => ?_)
                                      refine lv_goto (tgt := 863) hx hb dL_desk_543 (by decide) ?_
                                      exact lw_wd (by omega) (by omega) (K_863 1 S_530 L_530 M_530 (by first | omega | assumption) hD_530 hG_530 hN_530 (by first | omega | assumption) _ _ hP hL hS _ (lv_sub hl [3, 4, 5, 6, 7, 8, 9, 10, 11, 12, 13, 1, 0] rfl))
                              · refine lv_aload_n hx hb dL_desk_479 rfl (lv_at hl 4 rfl) ?_
                                refine lv_iload hx hb dL_desk_480 (lv_at hl 0 rfl) ?_
                                refine lv_iload hx hb dL_desk_482 (lv_at hl 13 rfl) ?_
                                refine lv_aload_n hx hb dL_desk_484 rfl (lv_at hl 5 rfl) ?_
                                refine lv_aload hx hb dL_desk_485 (lv_at hl 6 rfl) ?_
                                refine lv_aload hx hb dL_desk_487 (lv_at hl 7 rfl) ?_
                                refine lv_aload hx hb dL_desk_489 (lv_at hl 8 rfl) ?_
                                refine lv_aload hx hb dL_desk_491 (lv_at hl 9 rfl) ?_
                                refine lc_S (As := [.ref (ad 0), .int (zi x14_470), .int (zi r_443), .ref (ld 0), .ref (ld 1), .ref (ld 2), .ref (ld 3), .ref (ld 4)]) (rest := []) (A0 := fun q => s.heap.size ≤ q) ⟨hx, hb, hml, hown, hts⟩ (ct_L_links l hst D cI cZ cJ sa ad ld T Lc Mc hdis h_gl hD_T x14_470 r_443 ⟨by omega, by omega⟩ ⟨by omega, by omega⟩ h_nx (by omega) (by omega)) (va_cwS 8 hts gL_desk_L_links rfl rfl rfl (by decide +kernel) ⟨Nat.le_of_ble_eq_true rfl, Nat.le_of_ble_eq_true rfl⟩) hK hX hQ hbA hS hP hL rfl hl.1 rfl (Nat.le_of_ble_eq_true rfl) dL_desk_493 ⟨(by show _ ≤ (33000 : Nat); omega), (by show _ ≤ (220000 : Nat); omega)⟩ (fun r_493 S_493 L_493 H locs hp_493 _ _ hP hL hS => ?_)
                                obtain ⟨er_493, M_493, hG_493, hD_493, hN_493, hj_493⟩ := hp_493
                                refine lv_istore (lv' := [(9, .int (zi r_493)), (14, .int (zi x14_470)), (13, .int (zi k9)), (0, .ref b), (1, .int (zi x0)), (2, .ref (ad 0)), (3, .ref (ld 0)), (4, .ref (ld 1)), (5, .ref (ld 2)), (6, .ref (ld 3)), (7, .ref (ld 4)), (10, .int (zi i6)), (11, .int (zi r_426)), (12, .int (zi r_443))]) hx hb dL_desk_496 hl (by decide) rfl (fun ls hl => ?_)
                                refine lv_goto (tgt := 863) hx hb dL_desk_498 (by decide) ?_
                                exact lw_wd (by omega) (by omega) (K_863 r_493 S_493 L_493 M_493 (by first | omega | assumption) hD_493 hG_493 hN_493 (by first | omega | assumption) _ _ hP hL hS _ (lv_sub hl [3, 4, 5, 6, 7, 8, 9, 10, 11, 12, 13, 1, 0] rfl))
                            refine zi_icmp_ge (tgt := 458) hx hb ⟨by omega, by omega⟩ ⟨by decide, by decide⟩ dL_desk_451 (by decide) (fun c_451 => ?_) (fun c_451 => ?_)
                            · refine lv_iload hx hb dL_desk_458 (lv_at hl 1 rfl) ?_
                              refine zi_bipush hx hb dL_desk_460 (by decide) ?_
                              refine zi_irem hx hb ⟨by omega, by omega⟩ ⟨by omega, by omega⟩ (by omega) (by omega) dL_desk_462 ?_
                              exact K_463 (r_426 % 16) (by first | omega | assumption) _ (lv_sub hl [2, 3, 4, 5, 6, 7, 8, 9, 10, 11, 1, 0] rfl)
                            · refine zi_iconst hx hb dL_desk_454 ?_
                              refine lv_goto (tgt := 463) hx hb dL_desk_455 (by decide) ?_
                              exact K_463 0 (by first | omega | assumption) _ (lv_sub hl [2, 3, 4, 5, 6, 7, 8, 9, 10, 11, 1, 0] rfl)
                    refine lv_istore (lv' := [(10, .int (zi 0)), (0, .ref b), (1, .int (zi x0)), (2, .ref (ad 0)), (3, .ref (ld 0)), (4, .ref (ld 1)), (5, .ref (ld 2)), (6, .ref (ld 3)), (7, .ref (ld 4)), (9, .int (zi ok7))]) hx hb dL_desk_400 hl (by decide) rfl (fun ls hl => ?_)
                    exact lw_wd (by omega) (by omega) (K_402 45 ok7 0 T (su Lc 4 (up (Lc 4) 2 40)) Mc (by first | omega | assumption) (by first | omega | assumption) hD_T hG_399 hN_399 (by have := h_su.2.2.2.2.1; omega) (by omega) _ _ hP hL hS _ (lv_sub hl [1, 2, 3, 4, 5, 6, 7, 8, 9, 0] rfl))
                  · refine lv_iload hx hb dL_desk_205 (lv_at hl 8 rfl) ?_
                    refine zi_if_eq (tgt := 393) hx hb ⟨by omega, by omega⟩ dL_desk_207 (by decide) (fun c_207 => ?_) (fun c_207 => ?_)
                    · exact absurd c_207 (by omega)
                    · refine lv_aload_n hx hb dL_desk_210 rfl (lv_at hl 0 rfl) ?_
                      refine lv_iload_n hx hb dL_desk_211 rfl (lv_at hl 1 rfl) ?_
                      refine zi_bipush hx hb dL_desk_212 (by decide) ?_
                      refine zi_iadd hx hb dL_desk_214 ?_
                      refine lv_iload hx hb dL_desk_215 (lv_at hl 9 rfl) ?_
                      refine zi_iadd hx hb dL_desk_217 ?_
                      refine lv_ldc (v := zi 1073741824) hx hb hown (hts _ ci141_L_desk) dL_desk_218 ?_
                      refine lc_N (As := [.ref b, .int (zi ((x0 + 17) + i7)), .int (zi 1073741824)]) (rest := []) (A0 := fun q => s.heap.size ≤ q) ⟨hx, hb, hml, hown, hts⟩ (ct_L_draw l b n xs hLL ((x0 + 17) + i7) 1073741824 ⟨by omega, by omega⟩ ⟨by decide, by decide⟩ (by omega) (by omega)) (va_cwS 3 hts gL_desk_L_draw rfl rfl rfl (by decide +kernel) ⟨Nat.le_of_ble_eq_true rfl, Nat.le_of_ble_eq_true rfl⟩) (pX_S hX0 hbl hS) hS rfl hl.1 rfl (Nat.le_of_ble_eq_true rfl) dL_desk_220 ⟨(by show _ ≤ (33000 : Nat); omega), (by show _ ≤ (220000 : Nat); omega)⟩ (fun r_220 H locs er_220 _ hk_220 hS => ?_)
                      have er_220 : 0 ≤ r_220 ∧ r_220 < 1073741824 := er_220
                      have hP := hP.kept (fun k q hq => hk_220 q.1 (vx_lt hP hq))
                      have hL := hL.kept (fun k q hq => hk_220 q.1 (vx_lt hL hq))
                      refine lv_istore (lv' := [(11, .int (zi r_220)), (0, .ref b), (1, .int (zi x0)), (2, .ref (ad 0)), (3, .ref (ld 0)), (4, .ref (ld 1)), (5, .ref (ld 2)), (6, .ref (ld 3)), (7, .ref (ld 4)), (9, .int (zi ok7)), (10, .int (zi i7))]) hx hb dL_desk_223 hl (by decide) rfl (fun ls hl => ?_)
                      refine lv_iload hx hb dL_desk_225 (lv_at hl 0 rfl) ?_
                      refine zi_bipush hx hb dL_desk_227 (by decide) ?_
                      refine zi_irem hx hb ⟨by omega, by omega⟩ ⟨by omega, by omega⟩ (by omega) (by omega) dL_desk_229 ?_
                      refine zi_top (fun x12_230 ex12_230 => ?_)
                      refine lv_istore (lv' := [(12, .int (zi x12_230)), (11, .int (zi r_220)), (0, .ref b), (1, .int (zi x0)), (2, .ref (ad 0)), (3, .ref (ld 0)), (4, .ref (ld 1)), (5, .ref (ld 2)), (6, .ref (ld 3)), (7, .ref (ld 4)), (9, .int (zi ok7)), (10, .int (zi i7))]) hx hb dL_desk_230 hl (by decide) rfl (fun ls hl => ?_)
                      refine lv_iload hx hb dL_desk_232 (lv_at hl 1 rfl) ?_
                      refine zi_bipush hx hb dL_desk_234 (by decide) ?_
                      refine zi_idiv hx hb ⟨by omega, by omega⟩ ⟨by omega, by omega⟩ (by omega) (by omega) dL_desk_236 ?_
                      refine zi_iconst hx hb dL_desk_237 ?_
                      refine zi_irem hx hb ⟨by omega, by omega⟩ ⟨by omega, by omega⟩ (by omega) (by omega) dL_desk_238 ?_
                      refine zi_top (fun x13_239 ex13_239 => ?_)
                      refine lv_istore (lv' := [(13, .int (zi x13_239)), (12, .int (zi x12_230)), (11, .int (zi r_220)), (0, .ref b), (1, .int (zi x0)), (2, .ref (ad 0)), (3, .ref (ld 0)), (4, .ref (ld 1)), (5, .ref (ld 2)), (6, .ref (ld 3)), (7, .ref (ld 4)), (9, .int (zi ok7)), (10, .int (zi i7))]) hx hb dL_desk_239 hl (by decide) rfl (fun ls hl => ?_)
                      refine lv_iload hx hb dL_desk_241 (lv_at hl 0 rfl) ?_
                      refine zi_iconst hx hb dL_desk_243 ?_
                      have K_290 : ∀ (t9 : Int), (0 ≤ t9 ∧ t9 ≤ 3599) → ∀ (ls : Array Slot), lv_has ls 19 [(0, .ref b), (1, .int (zi x0)), (2, .ref (ad 0)), (3, .ref (ld 0)), (4, .ref (ld 1)), (5, .ref (ld 2)), (6, .ref (ld 3)), (7, .ref (ld 4)), (9, .int (zi ok7)), (10, .int (zi i7)), (11, .int (zi r_220)), (12, .int (zi x12_230)), (13, .int (zi x13_239))] → W p l e rmct_L_desk s m ([.ref b, .int (zi x0)] : List Value).toArray below meth c H locs (101 + 4 * i7.toNat + 0) (13005 + 24 * i7.toNat + 0) (MQ below (zNi (fun r => r = 1)) ([.ref b, .int (zi x0)] : List Value).toArray s 33000 220000 (fun _ => False)) (F0 m 290 ls [.int (zi t9)]) := by
                        intro t9 h_t9 ls hl
                        refine lv_istore (lv' := [(14, .int (zi t9)), (0, .ref b), (1, .int (zi x0)), (2, .ref (ad 0)), (3, .ref (ld 0)), (4, .ref (ld 1)), (5, .ref (ld 2)), (6, .ref (ld 3)), (7, .ref (ld 4)), (9, .int (zi ok7)), (10, .int (zi i7)), (11, .int (zi r_220)), (12, .int (zi x12_230)), (13, .int (zi x13_239))]) hx hb dL_desk_290 hl (by decide) rfl (fun ls hl => ?_)
                        refine lv_iload hx hb dL_desk_292 (lv_at hl 0 rfl) ?_
                        refine lv_iload hx hb dL_desk_294 (lv_at hl 11 rfl) ?_
                        refine zi_bipush hx hb dL_desk_296 (by decide) ?_
                        refine zi_idiv hx hb ⟨by omega, by omega⟩ ⟨by omega, by omega⟩ (by omega) (by omega) dL_desk_298 ?_
                        refine zi_iconst hx hb dL_desk_299 ?_
                        refine lv_aload hx hb dL_desk_300 (lv_at hl 5 rfl) ?_
                        refine lv_iload hx hb dL_desk_302 (lv_at hl 12 rfl) ?_
                        refine zi_iald hx hb hK.1 hL 1 0 rfl rfl (by omega) (by omega) (by decide) dL_desk_304 ?_
                        have q_304 := LPl_b hD_T.2.1 h_lp (k := x12_230) (by omega) (by omega)
                        refine zi_bipush hx hb dL_desk_305 (by decide) ?_
                        refine zi_irem hx hb ⟨by omega, by omega⟩ ⟨by omega, by omega⟩ (by omega) (by omega) dL_desk_307 ?_
                        refine zi_imul hx hb dL_desk_308 ?_
                        refine zi_iconst hx hb dL_desk_309 ?_
                        refine zi_iadd hx hb dL_desk_310 ?_
                        refine zi_irem hx hb ⟨by omega, by omega⟩ ⟨by omega, by omega⟩ (by omega) (by omega) dL_desk_311 ?_
                        have m1_ := Int.emod_nonneg (r_220 / 56) (show 2 * (Lc 1 x12_230 % 10) + 1 ≠ 0 by omega)
                        have m2_ := Int.emod_lt_of_pos (r_220 / 56) (show 0 < 2 * (Lc 1 x12_230 % 10) + 1 by omega)
                        refine zi_iadd hx hb dL_desk_312 ?_
                        refine lv_aload hx hb dL_desk_313 (lv_at hl 5 rfl) ?_
                        refine lv_iload hx hb dL_desk_315 (lv_at hl 12 rfl) ?_
                        refine zi_iald hx hb hK.1 hL 1 0 rfl rfl (by omega) (by omega) (by decide) dL_desk_317 ?_
                        have q_317 := LPl_b hD_T.2.1 h_lp (k := x12_230) (by omega) (by omega)
                        refine zi_bipush hx hb dL_desk_318 (by decide) ?_
                        refine zi_irem hx hb ⟨by omega, by omega⟩ ⟨by omega, by omega⟩ (by omega) (by omega) dL_desk_320 ?_
                        refine zi_isub hx hb dL_desk_321 ?_
                        refine zi_sipush hx hb dL_desk_322 (by decide) ?_
                        refine zi_iadd hx hb dL_desk_325 ?_
                        refine zi_sipush hx hb dL_desk_326 (by decide) ?_
                        refine zi_irem hx hb ⟨by omega, by omega⟩ ⟨by omega, by omega⟩ (by omega) (by omega) dL_desk_329 ?_
                        refine zi_top (fun x14_330 ex14_330 => ?_)
                        refine lv_istore (lv' := [(14, .int (zi x14_330)), (0, .ref b), (1, .int (zi x0)), (2, .ref (ad 0)), (3, .ref (ld 0)), (4, .ref (ld 1)), (5, .ref (ld 2)), (6, .ref (ld 3)), (7, .ref (ld 4)), (9, .int (zi ok7)), (10, .int (zi i7)), (11, .int (zi r_220)), (12, .int (zi x12_230)), (13, .int (zi x13_239))]) hx hb dL_desk_330 hl (by decide) rfl (fun ls hl => ?_)
                        refine lv_aload_n hx hb dL_desk_332 rfl (lv_at hl 4 rfl) ?_
                        refine lv_iload hx hb dL_desk_333 (lv_at hl 10 rfl) ?_
                        refine zi_sipush hx hb dL_desk_335 (by decide) ?_
                        refine lv_iload hx hb dL_desk_338 (lv_at hl 12 rfl) ?_
                        refine zi_imul hx hb dL_desk_340 ?_
                        refine lv_iload hx hb dL_desk_341 (lv_at hl 0 rfl) ?_
                        refine zi_iadd hx hb dL_desk_343 ?_
                        refine lv_ldc (v := zi 108000) hx hb hown (hts _ ci43_L_desk) dL_desk_344 ?_
                        refine lv_iload hx hb dL_desk_346 (lv_at hl 11 rfl) ?_
                        refine zi_sipush hx hb dL_desk_348 (by decide) ?_
                        refine zi_idiv hx hb ⟨by omega, by omega⟩ ⟨by omega, by omega⟩ (by omega) (by omega) dL_desk_351 ?_
                        refine zi_bipush hx hb dL_desk_352 (by decide) ?_
                        refine zi_irem hx hb ⟨by omega, by omega⟩ ⟨by omega, by omega⟩ (by omega) (by omega) dL_desk_354 ?_
                        refine zi_imul hx hb dL_desk_355 ?_
                        refine zi_iadd hx hb dL_desk_356 ?_
                        refine zb_iast hx hb hK hdis hbA hP hL hS 0 rfl (fun _ => rfl) (by omega) (by omega) (by decide) dL_desk_357 (fun H locs hP hL hS => ?_)
                        have hL : va_P D vwCl (lW cI ld (su Lc 0 (up (Lc 0) i7 (((3600 * x12_230) + x14_330) + (108000 * ((r_220 / 4000) % 100)))))) H := hL
                        refine lv_aload_n hx hb dL_desk_358 rfl (lv_at hl 3 rfl) ?_
                        refine lv_iload hx hb dL_desk_359 (lv_at hl 12 rfl) ?_
                        refine lv_iload hx hb dL_desk_361 (lv_at hl 0 rfl) ?_
                        refine lv_iload hx hb dL_desk_363 (lv_at hl 11 rfl) ?_
                        refine zi_sipush hx hb dL_desk_365 (by decide) ?_
                        refine zi_idiv hx hb ⟨by omega, by omega⟩ ⟨by omega, by omega⟩ (by omega) (by omega) dL_desk_368 ?_
                        refine zi_bipush hx hb dL_desk_369 (by decide) ?_
                        refine zi_irem hx hb ⟨by omega, by omega⟩ ⟨by omega, by omega⟩ (by omega) (by omega) dL_desk_371 ?_
                        refine lc_pub (ld := ld) (L0 := (su Lc 0 (up (Lc 0) i7 (((3600 * x12_230) + x14_330) + (108000 * ((r_220 / 4000) % 100)))))) (As := [.int (zi x12_230), .int (zi x14_330), .int (zi ((r_220 / 4000) % 100))]) (rest := []) (A0 := fun q => s.heap.size ≤ q) ⟨hx, hb, hml, hown, hts⟩ (ct_X7_dot l hst D cI cZ cJ sa ad T hD_T.1 hdis.1 x12_230 x14_330 ((r_220 / 4000) % 100) ⟨by omega, by omega⟩ ⟨by omega, by omega⟩ ⟨by omega, by omega⟩) (cwV 3 hts gL_desk_X7_dot rfl rfl rfl (by decide +kernel) ⟨Nat.le_of_ble_eq_true rfl, Nat.le_of_ble_eq_true rfl⟩) rfl hK hX hdis hbA hS hP hL (nox_dot hD_T ⟨by omega, by omega⟩ ⟨by omega, by omega⟩ ⟨by omega, by omega⟩ (by omega)) rfl hl.1 rfl (Nat.le_of_ble_eq_true rfl) dL_desk_372 ⟨(by show _ ≤ (33000 : Nat); omega), (by show _ ≤ (220000 : Nat); omega)⟩ (fun r_372 S_372 H locs hp_372 _ _ hP hL hS => ?_)
                        obtain ⟨er_372, hD_372⟩ := dot_step hD_T hp_372
                        refine lv_iload hx hb dL_desk_375 (lv_at hl 10 rfl) ?_
                        refine zi_icmp_ne (tgt := 384) hx hb ⟨by omega, by omega⟩ ⟨by omega, by omega⟩ dL_desk_377 (by decide) (fun c_377 => ?_) (fun c_377 => ?_)
                        · exact absurd c_377 (by omega)
                        · refine zi_iconst hx hb dL_desk_380 ?_
                          refine lv_goto (tgt := 385) hx hb dL_desk_381 (by decide) ?_
                          refine lv_istore (lv' := [(9, .int (zi 1)), (14, .int (zi x14_330)), (0, .ref b), (1, .int (zi x0)), (2, .ref (ad 0)), (3, .ref (ld 0)), (4, .ref (ld 1)), (5, .ref (ld 2)), (6, .ref (ld 3)), (7, .ref (ld 4)), (10, .int (zi i7)), (11, .int (zi r_220)), (12, .int (zi x12_230)), (13, .int (zi x13_239))]) hx hb dL_desk_385 hl (by decide) rfl (fun ls hl => ?_)
                          refine zi_iinc (k := 10) (lv' := [(10, .int (zi (i7 + 1))), (9, .int (zi 1)), (14, .int (zi x14_330)), (0, .ref b), (1, .int (zi x0)), (2, .ref (ad 0)), (3, .ref (ld 0)), (4, .ref (ld 1)), (5, .ref (ld 2)), (6, .ref (ld 3)), (7, .ref (ld 4)), (11, .int (zi r_220)), (12, .int (zi x12_230)), (13, .int (zi x13_239))]) hx hb dL_desk_387 hl rfl (by decide) rfl (fun ls hl => ?_)
                          refine lv_goto (tgt := 198) hx hb dL_desk_390 (by decide) ?_
                          exact lw_wd (by omega) (by omega) (ih_198 1 (i7 + 1) S_372 (su Lc 0 (up (Lc 0) i7 (((3600 * x12_230) + x14_330) + (108000 * ((r_220 / 4000) % 100))))) (mDt Mc x12_230 x14_330 (r_220 / 4000 % 100)) (by first | omega | assumption) (by first | omega | assumption) hD_372 h_su.dt (LPl.dt h_lp) (LD.dt h_ld h_su ⟨by omega, by omega⟩ rfl) h_z (by omega) _ _ hP hL hS _ (lv_sub hl [3, 4, 5, 6, 7, 8, 9, 10, 1, 0] rfl))
                      refine zi_icmp_ne (tgt := 259) hx hb ⟨by omega, by omega⟩ ⟨by decide, by decide⟩ dL_desk_244 (by decide) (fun c_244 => ?_) (fun c_244 => ?_)
                      · refine zi_sipush hx hb dL_desk_259 (by decide) ?_
                        refine lv_iload hx hb dL_desk_262 (lv_at hl 0 rfl) ?_
                        refine zi_imul hx hb dL_desk_264 ?_
                        refine zi_bipush hx hb dL_desk_265 (by decide) ?_
                        refine zi_iadd hx hb dL_desk_267 ?_
                        refine zi_bipush hx hb dL_desk_268 (by decide) ?_
                        refine lv_iload hx hb dL_desk_270 (lv_at hl 0 rfl) ?_
                        refine zi_imul hx hb dL_desk_272 ?_
                        refine zi_iconst hx hb dL_desk_273 ?_
                        refine zi_isub hx hb dL_desk_274 ?_
                        refine lv_iload hx hb dL_desk_275 (lv_at hl 0 rfl) ?_
                        refine zi_iconst hx hb dL_desk_277 ?_
                        refine zi_isub hx hb dL_desk_278 ?_
                        refine lv_aload hx hb dL_desk_279 (lv_at hl 7 rfl) ?_
                        refine lv_iload hx hb dL_desk_281 (lv_at hl 1 rfl) ?_
                        refine zi_iald hx hb hK.1 hL 1 0 rfl rfl (by omega) (by omega) (by decide) dL_desk_283 ?_
                        have q_283 := LPl_b hD_T.2.1 h_lp (k := x12_230) (by omega) (by omega)
                        refine zi_bipush hx hb dL_desk_284 (by decide) ?_
                        refine zi_idiv hx hb ⟨by omega, by omega⟩ ⟨by omega, by omega⟩ (by omega) (by omega) dL_desk_286 ?_
                        refine zk_r (zc_S (As := [.int (zi ((900 * x13_239) + 77)), .int (zi ((7 * x13_239) - 5)), .int (zi (x13_239 - 1)), .int (zi ((Lc 1 x12_230) / 10))]) (rest := []) ⟨hx, hb, hml, hown, hts⟩ (ct_L_placeBy l D cI cZ cJ ((900 * x13_239) + 77) ((7 * x13_239) - 5) (x13_239 - 1) ((Lc 1 x12_230) / 10) ⟨by omega, by omega⟩ ⟨by omega, by omega⟩ ⟨by omega, by omega⟩ ⟨by omega, by omega⟩ ⟨by omega, by omega⟩ ⟨by omega, by omega⟩ ⟨by omega, by omega⟩ ⟨by omega, by omega⟩) (va_cwS 4 hts gL_desk_L_placeBy rfl rfl rfl (by decide +kernel) ⟨Nat.le_of_ble_eq_true rfl, Nat.le_of_ble_eq_true rfl⟩) hK va_P_nil rfl hl.1 rfl (Nat.le_of_ble_eq_true rfl) dL_desk_287 ⟨(by show _ ≤ (33000 : Nat); omega), (by show _ ≤ (220000 : Nat); omega)⟩) ?_
                        refine zi_top (fun (r_287 : Int) (er_287 : r_287 = (((900 * x13_239) + 77) + mvM ((7 * x13_239) - 5) (x13_239 - 1) ((Lc 1 x12_230) / 10)) % 3600) => ?_)
                        have fr_287 : (0 : Int) ≤ r_287 ∧ r_287 ≤ 3599 := by rw [er_287]; exact ⟨Int.emod_nonneg _ (by decide), Int.le_of_lt_add_one (Int.emod_lt_of_pos _ (by decide))⟩
                        exact K_290 r_287 (by first | omega | assumption) _ (lv_sub hl [3, 4, 5, 6, 7, 8, 9, 10, 11, 12, 2, 1, 0] rfl)
                      · refine lv_iload hx hb dL_desk_247 (lv_at hl 2 rfl) ?_
                        refine zi_bipush hx hb dL_desk_249 (by decide) ?_
                        refine zi_idiv hx hb ⟨by omega, by omega⟩ ⟨by omega, by omega⟩ (by omega) (by omega) dL_desk_251 ?_
                        refine zi_sipush hx hb dL_desk_252 (by decide) ?_
                        refine zi_irem hx hb ⟨by omega, by omega⟩ ⟨by omega, by omega⟩ (by omega) (by omega) dL_desk_255 ?_
                        refine lv_goto (tgt := 290) hx hb dL_desk_256 (by decide) ?_
                        exact K_290 ((r_220 / 56) % 3600) (by first | omega | assumption) _ (lv_sub hl [3, 4, 5, 6, 7, 8, 9, 10, 11, 12, 2, 1, 0] rfl)
              refine lv_istore (lv' := [(10, .int (zi 0)), (0, .ref b), (1, .int (zi x0)), (2, .ref (ad 0)), (3, .ref (ld 0)), (4, .ref (ld 1)), (5, .ref (ld 2)), (6, .ref (ld 3)), (7, .ref (ld 4)), (8, .ref qe), (9, .int (zi ok8))]) hx hb dL_desk_196 hl (by decide) rfl (fun ls hl => ?_)
              exact lw_wd (by omega) (by omega) (K_198 41 ok8 0 T (su Lc 4 (up (Lc 4) 1 14)) Mc (by first | omega | assumption) (by first | omega | assumption) hD_T (by have e9 : i8 = 14 := (by omega); rw [e9] at h_su; exact h_su) (by have e9 : i8 = 14 := (by omega); rw [e9] at h_lp; exact h_lp) (fun k a c => absurd c (by omega)) ⟨h_z.1, h_z.2.1, h_z.2.2.1, h_z.2.2.2.1, h_z.2.2.2.2⟩ (by omega) _ _ hP hL hS _ (lv_sub hl [1, 2, 3, 4, 5, 6, 7, 8, 10, 0] rfl))
            · refine lv_aload_n hx hb dL_desk_110 rfl (lv_at hl 0 rfl) ?_
              refine lv_iload_n hx hb dL_desk_111 rfl (lv_at hl 1 rfl) ?_
              refine zi_iconst hx hb dL_desk_112 ?_
              refine zi_iadd hx hb dL_desk_113 ?_
              refine lv_iload hx hb dL_desk_114 (lv_at hl 10 rfl) ?_
              refine zi_iadd hx hb dL_desk_116 ?_
              refine lv_ldc (v := zi 1073741824) hx hb hown (hts _ ci141_L_desk) dL_desk_117 ?_
              refine lc_N (As := [.ref b, .int (zi ((x0 + 3) + i8)), .int (zi 1073741824)]) (rest := []) (A0 := fun q => s.heap.size ≤ q) ⟨hx, hb, hml, hown, hts⟩ (ct_L_draw l b n xs hLL ((x0 + 3) + i8) 1073741824 ⟨by omega, by omega⟩ ⟨by decide, by decide⟩ (by omega) (by omega)) (va_cwS 3 hts gL_desk_L_draw rfl rfl rfl (by decide +kernel) ⟨Nat.le_of_ble_eq_true rfl, Nat.le_of_ble_eq_true rfl⟩) (pX_S hX0 hbl hS) hS rfl hl.1 rfl (Nat.le_of_ble_eq_true rfl) dL_desk_119 ⟨(by show _ ≤ (33000 : Nat); omega), (by show _ ≤ (220000 : Nat); omega)⟩ (fun r_119 H locs er_119 _ hk_119 hS => ?_)
              have er_119 : 0 ≤ r_119 ∧ r_119 < 1073741824 := er_119
              have hP := hP.kept (fun k q hq => hk_119 q.1 (vx_lt hP hq))
              have hL := hL.kept (fun k q hq => hk_119 q.1 (vx_lt hL hq))
              have hE := hE.kept (fun k q hq => hk_119 q.1 (vx_lt hE hq))
              refine lv_istore (lv' := [(11, .int (zi r_119)), (0, .ref b), (1, .int (zi x0)), (2, .ref (ad 0)), (3, .ref (ld 0)), (4, .ref (ld 1)), (5, .ref (ld 2)), (6, .ref (ld 3)), (7, .ref (ld 4)), (8, .ref qe), (9, .int (zi ok8)), (10, .int (zi i8))]) hx hb dL_desk_122 hl (by decide) rfl (fun ls hl => ?_)
              refine zi_iconst hx hb dL_desk_124 ?_
              refine lv_iload hx hb dL_desk_125 (lv_at hl 11 rfl) ?_
              refine zi_imul hx hb dL_desk_127 ?_
              refine lv_iload hx hb dL_desk_128 (lv_at hl 0 rfl) ?_
              refine zi_iconst hx hb dL_desk_130 ?_
              refine zi_idiv hx hb ⟨by omega, by omega⟩ ⟨by omega, by omega⟩ (by omega) (by omega) dL_desk_131 ?_
              refine zi_bipush hx hb dL_desk_132 (by decide) ?_
              refine zi_irem hx hb ⟨by omega, by omega⟩ ⟨by omega, by omega⟩ (by omega) (by omega) dL_desk_134 ?_
              refine zi_iadd hx hb dL_desk_135 ?_
              refine zi_top (fun x12_136 ex12_136 => ?_)
              refine lv_istore (lv' := [(12, .int (zi x12_136)), (11, .int (zi r_119)), (0, .ref b), (1, .int (zi x0)), (2, .ref (ad 0)), (3, .ref (ld 0)), (4, .ref (ld 1)), (5, .ref (ld 2)), (6, .ref (ld 3)), (7, .ref (ld 4)), (8, .ref qe), (9, .int (zi ok8)), (10, .int (zi i8))]) hx hb dL_desk_136 hl (by decide) rfl (fun ls hl => ?_)
              refine lv_aload hx hb dL_desk_138 (lv_at hl 6 rfl) ?_
              refine lv_iload hx hb dL_desk_140 (lv_at hl 12 rfl) ?_
              refine zi_bipush hx hb dL_desk_142 (by decide) ?_
              refine lv_iload hx hb dL_desk_144 (lv_at hl 0 rfl) ?_
              refine zi_imul hx hb dL_desk_146 ?_
              refine lv_aload hx hb dL_desk_147 (lv_at hl 10 rfl) ?_
              refine lv_iload hx hb dL_desk_149 (lv_at hl 1 rfl) ?_
              refine zi_iconst hx hb dL_desk_151 ?_
              refine zi_irem hx hb ⟨by omega, by omega⟩ ⟨by omega, by omega⟩ (by omega) (by omega) dL_desk_152 ?_
              refine zi_iald hx hb hK.1 hE 0 0 rfl rfl (by omega) (by omega) (by decide) dL_desk_153 ?_
              have q_153 := h_le (r_119 % 3) (by omega) (by omega)
              refine zi_iadd hx hb dL_desk_154 ?_
              have hEk := hE
              refine zbe_iast hx hb hK hdis hbA hqA hqe hP hL hE hS 1 rfl (fun _ => rfl) (by omega) (by omega) (by decide) dL_desk_155 (fun H locs hP hL hE hS => ?_)
              have hL : va_P D vwCl (lW cI ld (su Lc 1 (up (Lc 1) i8 ((10 * x12_136) + (e8 (r_119 % 3)))))) H := hL
              refine lv_iload hx hb dL_desk_156 (lv_at hl 11 rfl) ?_
              refine zi_if_eq (tgt := 180) hx hb ⟨by omega, by omega⟩ dL_desk_158 (by decide) (fun c_158 => ?_) (fun c_158 => ?_)
              · exact absurd c_158 (by omega)
              · refine lv_aload_n hx hb dL_desk_161 rfl (lv_at hl 4 rfl) ?_
                refine lv_iload hx hb dL_desk_162 (lv_at hl 1 rfl) ?_
                refine zi_iconst hx hb dL_desk_164 ?_
                refine zi_irem hx hb ⟨by omega, by omega⟩ ⟨by omega, by omega⟩ (by omega) (by omega) dL_desk_165 ?_
                refine lv_iload hx hb dL_desk_166 (lv_at hl 0 rfl) ?_
                refine lc_pub (ld := ld) (L0 := (su Lc 1 (up (Lc 1) i8 ((10 * x12_136) + (e8 (r_119 % 3)))))) (As := [.int (zi (r_119 % 3)), .int (zi x12_136)]) (rest := []) (A0 := fun q => s.heap.size ≤ q) ⟨hx, hb, hml, hown, hts⟩ (ct_X7_plate l hst D cI cZ cJ sa ad T hD_T.1 hdis.1 (r_119 % 3) x12_136 ⟨by omega, by omega⟩ ⟨by omega, by omega⟩) (cwV 2 hts gL_desk_X7_plate rfl rfl rfl (by decide +kernel) ⟨Nat.le_of_ble_eq_true rfl, Nat.le_of_ble_eq_true rfl⟩) rfl hK hX hdis hbA hS hP hL (nox_plate hD_T ⟨by omega, by omega⟩ ⟨by omega, by omega⟩ (by omega)) rfl hl.1 rfl (Nat.le_of_ble_eq_true rfl) dL_desk_168 ⟨(by show _ ≤ (33000 : Nat); omega), (by show _ ≤ (220000 : Nat); omega)⟩ (fun r_168 S_168 H locs hp_168 _ hk_168 hP hL hS => ?_)
                have hE := hE.kept (fun k q hq => hk_168 q.1 (vx_lt hE hq) (by rw [List.mem_singleton.mp (List.mem_of_getElem? hq)]; exact fun h9 => hqe (Or.inl h9)))
                obtain ⟨er_168, hD_168⟩ := plate_step hD_T hp_168
                refine lv_iload hx hb dL_desk_171 (lv_at hl 12 rfl) ?_
                refine zi_icmp_ne (tgt := 180) hx hb ⟨by omega, by omega⟩ ⟨by omega, by omega⟩ dL_desk_173 (by decide) (fun c_173 => ?_) (fun c_173 => ?_)
                · exact absurd c_173 (by omega)
                · refine zi_iconst hx hb dL_desk_176 ?_
                  refine lv_goto (tgt := 181) hx hb dL_desk_177 (by decide) ?_
                  refine lv_istore (lv' := [(9, .int (zi 1)), (12, .int (zi x12_136)), (11, .int (zi r_119)), (0, .ref b), (1, .int (zi x0)), (2, .ref (ad 0)), (3, .ref (ld 0)), (4, .ref (ld 1)), (5, .ref (ld 2)), (6, .ref (ld 3)), (7, .ref (ld 4)), (8, .ref qe), (10, .int (zi i8))]) hx hb dL_desk_181 hl (by decide) rfl (fun ls hl => ?_)
                  refine zi_iinc (k := 12) (lv' := [(10, .int (zi (i8 + 1))), (9, .int (zi 1)), (12, .int (zi x12_136)), (11, .int (zi r_119)), (0, .ref b), (1, .int (zi x0)), (2, .ref (ad 0)), (3, .ref (ld 0)), (4, .ref (ld 1)), (5, .ref (ld 2)), (6, .ref (ld 3)), (7, .ref (ld 4)), (8, .ref qe)]) hx hb dL_desk_183 hl rfl (by decide) rfl (fun ls hl => ?_)
                  refine lv_goto (tgt := 103) hx hb dL_desk_186 (by decide) ?_
                  exact lw_wd (by omega) (by omega) (ih_103 1 (i8 + 1) S_168 (su Lc 1 (up (Lc 1) i8 ((10 * x12_136) + (e8 (r_119 % 3))))) (mPl Mc (r_119 % 3) x12_136) e8 (by first | omega | assumption) (by first | omega | assumption) hD_168 h_su.pl (LE3.pl h_le) (LPl.pl h_lp h_su (by rw [q_153.1])) h_z (by omega) _ _ hP hL hE hS _ (lv_sub hl [4, 5, 6, 7, 8, 9, 10, 11, 12, 1, 0] rfl))
        refine lv_istore (lv' := [(10, .int (zi 0)), (0, .ref b), (1, .int (zi x0)), (2, .ref (ad 0)), (3, .ref (ld 0)), (4, .ref (ld 1)), (5, .ref (ld 2)), (6, .ref (ld 3)), (7, .ref (ld 4)), (8, .ref qe), (9, .int (zi ok9))]) hx hb dL_desk_101 hl (by decide) rfl (fun ls hl => ?_)
        exact lw_wd (by omega) (by omega) (K_103 15 ok9 0 T (fun _ _ => 0) Mc e8 (by first | omega | assumption) (by first | omega | assumption) hD_T (by have e9 : i9 = 3 := (by omega); rw [e9] at h_su; exact h_su) (by have e9 : i9 = 3 := (by omega); rw [e9] at h_le; exact h_le) (fun k a c => absurd c (by omega)) ⟨fun _ => rfl, fun _ => rfl, rfl, rfl, rfl⟩ (by omega) _ _ hP hL hE hS _ (lv_sub hl [1, 2, 3, 4, 5, 6, 7, 8, 9, 10, 0] rfl))
      · refine lv_aload hx hb dL_desk_54 (lv_at hl 8 rfl) ?_
        refine lv_iload hx hb dL_desk_56 (lv_at hl 10 rfl) ?_
        refine lv_aload_n hx hb dL_desk_58 rfl (lv_at hl 0 rfl) ?_
        refine lv_iload_n hx hb dL_desk_59 rfl (lv_at hl 1 rfl) ?_
        refine lv_iload hx hb dL_desk_60 (lv_at hl 10 rfl) ?_
        refine zi_iadd hx hb dL_desk_62 ?_
        refine zi_iconst hx hb dL_desk_63 ?_
        refine lc_N (As := [.ref b, .int (zi (x0 + i9)), .int (zi 3)]) (rest := [.int (zi i9), .ref qe]) (A0 := fun q => s.heap.size ≤ q) ⟨hx, hb, hml, hown, hts⟩ (ct_L_draw l b n xs hLL (x0 + i9) 3 ⟨by omega, by omega⟩ ⟨by decide, by decide⟩ (by omega) (by omega)) (va_cwS 3 hts gL_desk_L_draw rfl rfl rfl (by decide +kernel) ⟨Nat.le_of_ble_eq_true rfl, Nat.le_of_ble_eq_true rfl⟩) (pX_S hX0 hbl hS) hS rfl hl.1 rfl (Nat.le_of_ble_eq_true rfl) dL_desk_64 ⟨(by show _ ≤ (33000 : Nat); omega), (by show _ ≤ (220000 : Nat); omega)⟩ (fun r_64 H locs er_64 _ hk_64 hS => ?_)
        have er_64 : 0 ≤ r_64 ∧ r_64 < 3 := er_64
        have hP := hP.kept (fun k q hq => hk_64 q.1 (vx_lt hP hq))
        have hL := hL.kept (fun k q hq => hk_64 q.1 (vx_lt hL hq))
        have hE := hE.kept (fun k q hq => hk_64 q.1 (vx_lt hE hq))
        refine ze_iast hx hb hK hdis hbA hqA hqe hP hL hE hS (by omega) (by omega) dL_desk_67 (fun H locs hP hL hE hS => ?_)
        refine lv_iload hx hb dL_desk_68 (lv_at hl 9 rfl) ?_
        refine zi_if_eq (tgt := 91) hx hb ⟨by omega, by omega⟩ dL_desk_70 (by decide) (fun c_70 => ?_) (fun c_70 => ?_)
        · exact absurd c_70 (by omega)
        · refine lv_aload_n hx hb dL_desk_73 rfl (lv_at hl 2 rfl) ?_
          refine lv_aload hx hb dL_desk_74 (lv_at hl 8 rfl) ?_
          refine lv_iload hx hb dL_desk_76 (lv_at hl 10 rfl) ?_
          refine zi_iald hx hb hK.1 hE 0 0 rfl rfl (by omega) (by omega) (by decide) dL_desk_78 ?_
          refine zi_is r_64 (up_s _ _ _) ?_
          refine lc_pub (ld := ld) (L0 := (fun _ _ => 0)) (As := [.int (zi r_64)]) (rest := []) (A0 := fun q => s.heap.size ≤ q) ⟨hx, hb, hml, hown, hts⟩ (ct_X7_observatory l hst D cI cZ cJ sa ad T hD_T.1 hdis.1 r_64 ⟨by omega, by omega⟩) (cwV 1 hts gL_desk_X7_observatory rfl rfl rfl (by decide +kernel) ⟨Nat.le_of_ble_eq_true rfl, Nat.le_of_ble_eq_true rfl⟩) rfl hK hX hdis hbA hS hP hL (nox_obs hD_T ⟨by omega, by omega⟩ (by omega)) rfl hl.1 rfl (Nat.le_of_ble_eq_true rfl) dL_desk_79 ⟨(by show _ ≤ (33000 : Nat); omega), (by show _ ≤ (220000 : Nat); omega)⟩ (fun r_79 S_79 H locs hp_79 _ hk_79 hP hL hS => ?_)
          have hE := hE.kept (fun k q hq => hk_79 q.1 (vx_lt hE hq) (by rw [List.mem_singleton.mp (List.mem_of_getElem? hq)]; exact fun h9 => hqe (Or.inl h9)))
          obtain ⟨er_79, hD_79⟩ := obs_step hD_T ⟨by omega, by omega⟩ hp_79
          refine lv_iload hx hb dL_desk_82 (lv_at hl 10 rfl) ?_
          refine zi_icmp_ne (tgt := 91) hx hb ⟨by omega, by omega⟩ ⟨by omega, by omega⟩ dL_desk_84 (by decide) (fun c_84 => ?_) (fun c_84 => ?_)
          · exact absurd c_84 (by omega)
          · refine zi_iconst hx hb dL_desk_87 ?_
            refine lv_goto (tgt := 92) hx hb dL_desk_88 (by decide) ?_
            refine lv_istore (lv' := [(9, .int (zi 1)), (0, .ref b), (1, .int (zi x0)), (2, .ref (ad 0)), (3, .ref (ld 0)), (4, .ref (ld 1)), (5, .ref (ld 2)), (6, .ref (ld 3)), (7, .ref (ld 4)), (8, .ref qe), (10, .int (zi i9))]) hx hb dL_desk_92 hl (by decide) rfl (fun ls hl => ?_)
            refine zi_iinc (k := 10) (lv' := [(10, .int (zi (i9 + 1))), (9, .int (zi 1)), (0, .ref b), (1, .int (zi x0)), (2, .ref (ad 0)), (3, .ref (ld 0)), (4, .ref (ld 1)), (5, .ref (ld 2)), (6, .ref (ld 3)), (7, .ref (ld 4)), (8, .ref qe)]) hx hb dL_desk_94 hl rfl (by decide) rfl (fun ls hl => ?_)
            refine lv_goto (tgt := 48) hx hb dL_desk_97 (by decide) ?_
            exact lw_wd (by omega) (by omega) (ih_48 1 (i9 + 1) S_79 (mObs Mc r_64) (up (e8) i9 r_64) (by first | omega | assumption) (by first | omega | assumption) hD_79 h_su.obs (h_le.obs h_su ⟨by omega, by omega⟩) (by omega) _ _ hP hL hE hS _ (lv_sub hl [2, 3, 4, 5, 6, 7, 8, 9, 10, 1, 0] rfl))
  refine lv_istore (lv' := [(10, .int (zi 0)), (9, .int (zi 1)), (8, .ref qe), (7, .ref (ld 4)), (6, .ref (ld 3)), (5, .ref (ld 2)), (4, .ref (ld 1)), (3, .ref (ld 0)), (2, .ref (ad 0)), (0, .ref b), (1, .int (zi x0))]) hx hb dL_desk_46 hl (by decide) rfl (fun ls hl => ?_)
  exact lw_wd (by omega) (by omega) (K_48 4 1 0 S00 M00 (fun _ => 0) (by first | omega | assumption) (by first | omega | assumption) DK_00 SU_00 (fun k a c => absurd c (by omega)) (by omega) _ _ hP hL hE hS _ (lv_sub hl [9, 10, 8, 7, 6, 5, 4, 3, 2, 1, 0] rfl))
