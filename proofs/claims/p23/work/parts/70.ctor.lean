theorem va_D.set_arr {A : Nat → Prop} {ws : va_W} (h : va_D A ws) (j : Nat) {b : Nat} {cI : ClassId} {n : Nat} {g g' : Int → Int} (hj : ws[j]? = some (b, .inl (cI, n, .inl (zf g)))) : va_D A (rW ws j b cI n g') := by
  have hlt : j < ws.length := (List.getElem?_eq_some_iff.mp hj).1
  have key : ∀ (i : Nat) (q : Nat × va_E), (rW ws j b cI n g')[i]? = some q → ∃ q', ws[i]? = some q' ∧ q'.1 = q.1 := fun i q hq => by
    by_cases e : i = j
    · subst e
      rw [rW_a hlt] at hq
      cases hq
      exact ⟨_, hj, rfl⟩
    · rw [rW, List.getElem?_set_ne (Ne.symm e)] at hq
      exact ⟨q, hq, rfl⟩
  refine ⟨fun i k p q hp hq e => ?_, fun i q hq => ?_⟩
  · obtain ⟨p', hp', e1⟩ := key i p hp
    obtain ⟨q', hq', e2⟩ := key k q hq
    exact h.1 i k p' q' hp' hq' (by rw [e1, e2, e])
  · obtain ⟨q', hq', e2⟩ := key i q hq
    rw [← e2]; exact h.2 i q' hq'
theorem oml_X5_init : Cond.methodLink RX5 1 objectInit ∈ wsX5_init := by decide +kernel
theorem oin_X5_init : Cond.instanceMethod objectInit ∈ wsX5_init := by decide +kernel
theorem oco_X5_init : Cond.code objectInit ⟨#[0xb1]⟩ 1 none ∈ wsX5_init := by decide +kernel
theorem arr_X5_init : Cond.arrayClass .int ∈ wsX5_init := by decide +kernel
theorem lk_X5_init : Cond.fieldLink RX5 7 "PlanetoidDesk$Row" "cells" "[I" ∈ wsX5_init := by decide +kernel
theorem ic_X5_init : ∀ w ∈ wsX50, w ∈ wsX5_init := by decide +kernel
set_option maxHeartbeats 4000000 in
set_option maxRecDepth 100000 in
/-- Row(n): its cells, all 0 -/
theorem ct_X5_init (l : Launch) (D : va_G) (cI cZ cJ : ClassId) (h0 sz : Nat) (n : Int) (N : Nat) (hnN : n = N) (hn0 : 0 < N) (hn1 : N ≤ 3600) : Met l yX5_init wsX5_init { frames := 1, cells := 1, slots := N, locals := 12 } (va_Pc [.ref h0, .int (zi n)] (fun U => U.heap.size = sz ∧ va_P D vwCl [(h0, .inr (5, [.null]))] U.heap ∧ KK D cI cZ cJ U ∧ va_D (fun _ => True) [(h0, .inr (5, [.null]))])) (va_Qv (S := Nat) (fun _ => True) (fun u t => va_P D vwCl [(h0, .inr (5, [.ref u])), (u, .inl (cI, N, .inl (zf (fun _ => 0))))] t.heap ∧ va_D (va_A [(h0, .inr (5, [.null]))] sz) [(h0, .inr (5, [.ref u])), (u, .inl (cI, N, .inl (zf (fun _ => 0))))]) (va_A [(h0, .inr (5, [.null]))] sz)) 1 N (va_A [(h0, .inr (5, [.null]))] sz) := by
  refine Met.ofW (cc := cX5_init) (maxL := 2) (ret := none) (by decide) rfl ?_
  intro p e s m args below meth c s₁ B hml hv
  obtain ⟨rfl, hsz, hP, hK, hD0⟩ := hv
  have hx := B.exec
  have hb := B.bytes
  have hr := B.returns
  have hts := atoms_spec (ws := wsX5_init) B.pre
  have hown : s.vm.findClass RX5 = some m.cls := findClass_of_methodNamed B.named
  have hlocks := B.notSynchronized
  have hin : meth.name = "<init>" := (name_of_methodNamed B.named B.method).1
  subst hsz
  have hD := hD0.self (sz := s.heap.size)
  generalize hAe : va_A [(h0, .inr (5, [.null]))] s.heap.size = A at hD ⊢
  have hA : ∀ q : Nat, s.heap.size ≤ q → A q := fun q h => by rw [← hAe]; exact Or.inr h
  have hS : va_S A s.heap s.heap [] := va_S.rf
  have hP : va_P D vwCl [(h0, .inr (5, [.null]))] s.heap := hP
  have hl := lv_entry ([.ref h0, .int (zi n)]) (n := 2) (Nat.le_of_ble_eq_true rfl)
  rw [lg_entry_eq]
  generalize (lg_sl ([.ref h0, .int (zi n)]) ++ List.replicate (2 - (lg_sl ([.ref h0, .int (zi n)])).length) Slot.unset).toArray = ls at hl ⊢
  have hl : lv_has ls 2 [(0, .ref h0), (1, .int (zi n))] := hl
  refine lv_aload_n hx hb dX5_init_0 rfl (lv_at hl 0 rfl) ?_
  refine W.objInit hx hb hown (hts _ oml_X5_init) (hts _ oin_X5_init) (hts _ oco_X5_init) rfl (by rw [hml]; exact hl.1) rfl dX5_init_1 (Nat.le_of_ble_eq_true rfl) (Nat.le_of_ble_eq_true rfl) ?_
  refine W.eq (g2 := F0 m 4 ls []) rfl ?_
  refine lv_aload_n hx hb dX5_init_4 rfl (lv_at hl 0 rfl) ?_
  refine lv_iload_n hx hb dX5_init_5 rfl (lv_at hl 1 rfl) ?_
  refine zi_if_le (tgt := 13) hx hb ⟨by omega, by omega⟩ dX5_init_6 (by decide) (fun c_6 => ?_) (fun c_6 => ?_)
  · exact absurd c_6 (by omega)
  refine lv_iload_n hx hb dX5_init_9 rfl (lv_at hl 1 rfl) ?_
  refine lv_goto (tgt := 14) hx hb dX5_init_10 (by decide) ?_
  refine va_newa (atype := .int) (a0 := (N, .inl (zf (fun _ => 0)))) (N' := N) hx hb (hts _ arr_X5_init) (ty := .int) rfl hK.1 hP hD hS hA (fun _ => rfl) ?_ ?_ ?_ (by show 0 + 1 ≤ 1; omega) (by show 0 + N ≤ N; omega) dX5_init_14 (fun b14 cA H hKa hP hD hS => ?_)
  · rw [Int32.lt_iff_toInt_lt, zi_toInt ⟨by omega, by omega⟩]
    show ¬ n < 0
    omega
  · rw [Int32.toNatClampNeg, zi_toInt ⟨by omega, by omega⟩]; omega
  · show N * 4 ≤ 536870912
    omega
  have ecA : cA = cI := Option.some.inj ((va_nm_int (hKa.2 3 _ rfl).2).symm.trans (va_nm_int (hK.1.2 0 _ rfl).2))
  rw [ecA] at hP hD
  clear hKa ecA
  have hP : va_P D vwCl [(h0, .inr (5, [.null])), (b14, .inl (cI, N, .inl (zf (fun _ => 0))))] H := hP
  have hD : va_D A [(h0, .inr (5, [.null])), (b14, .inl (cI, N, .inl (zf (fun _ => 0))))] := hD
  refine va_putF (D := D) (ci := 5) (v := .ref b14) (ty := (.array .int)) (C := RX5) (T := TX5) (N := 1) hx hb hts ic_X5_init tyX5 tyX5_ok nmX5 hown hK.1 hP hD hS 0 rfl rfl 0 (by decide) (hts _ lk_X5_init) (fun _ h9 => h9) rfl hin rfl (by decide +kernel) rfl rfl (Nat.le_of_ble_eq_true rfl) dX5_init_16 (fun H locs hP hD hS => ?_)
  refine W.widen (k := 1) (n := N) (by omega) (by omega) ?_
  exact W.vret hx hb hr (fun t ht hW => ⟨⟨b14, rfl, trivial, by rw [ht]; exact hP, hD⟩, hS.F ht⟩) hS.2.2 dX5_init_19
theorem oml_X6_init : Cond.methodLink RX6 3 objectInit ∈ wsX6_init := by decide +kernel
theorem oin_X6_init : Cond.instanceMethod objectInit ∈ wsX6_init := by decide +kernel
theorem oco_X6_init : Cond.code objectInit ⟨#[0xb1]⟩ 1 none ∈ wsX6_init := by decide +kernel
theorem ic_X6_init_5 : ∀ w ∈ wsX50, w ∈ wsX6_init := by decide +kernel
theorem cl5_X6_init : Cond.classLink RX6 9 RX5 ∈ wsX6_init := by decide +kernel
theorem ins5_X6_init : Cond.instantiable RX5 1 ∈ wsX6_init := by decide +kernel
theorem ini5_X6_init : Cond.initialized RX5 ∈ wsX6_init := by decide +kernel
theorem iniX5_init_X6_init : Cond.initialized RX5 ∈ wsX6_init := by decide +kernel
theorem inmX5_init_X6_init : Cond.instanceMethod yX5_init ∈ wsX6_init := by decide +kernel
theorem mlX5_init_X6_init : Cond.methodLink RX6 11 yX5_init ∈ wsX6_init := by decide +kernel
theorem ic_X6_init_6 : ∀ w ∈ wsX60, w ∈ wsX6_init := by decide +kernel
theorem lk0_X6_init : Cond.fieldLink RX6 14 "PlanetoidDesk$Sky" "errors" "LPlanetoidDesk$Row;" ∈ wsX6_init := by decide +kernel
theorem lk1_X6_init : Cond.fieldLink RX6 20 "PlanetoidDesk$Sky" "plateObservatories" "LPlanetoidDesk$Row;" ∈ wsX6_init := by decide +kernel
theorem lk2_X6_init : Cond.fieldLink RX6 23 "PlanetoidDesk$Sky" "plateNights" "LPlanetoidDesk$Row;" ∈ wsX6_init := by decide +kernel
theorem lk3_X6_init : Cond.fieldLink RX6 26 "PlanetoidDesk$Sky" "dotPlates" "LPlanetoidDesk$Row;" ∈ wsX6_init := by decide +kernel
theorem lk4_X6_init : Cond.fieldLink RX6 29 "PlanetoidDesk$Sky" "dotPlaces" "LPlanetoidDesk$Row;" ∈ wsX6_init := by decide +kernel
theorem lk5_X6_init : Cond.fieldLink RX6 32 "PlanetoidDesk$Sky" "dotLights" "LPlanetoidDesk$Row;" ∈ wsX6_init := by decide +kernel
theorem lk6_X6_init : Cond.fieldLink RX6 35 "PlanetoidDesk$Sky" "shifts" "LPlanetoidDesk$Row;" ∈ wsX6_init := by decide +kernel
set_option maxHeartbeats 4000000 in
set_option maxRecDepth 100000 in
theorem ct_X6_init (l : Launch) (D : va_G) (cI cZ cJ : ClassId) (h0 sz : Nat) : Met l yX6_init wsX6_init { frames := 2, cells := 14, slots := 262, locals := 33 } (va_Pc [.ref h0] (fun U => U.heap.size = sz ∧ va_P D vwCl [(h0, .inr (6, [.null, .null, .null, .null, .null, .null, .null, .int (zi 0), .int (zi 0), .int (zi 0)]))] U.heap ∧ KK D cI cZ cJ U ∧ va_D (fun _ => True) [(h0, .inr (6, [.null, .null, .null, .null, .null, .null, .null, .int (zi 0), .int (zi 0), .int (zi 0)]))])) (va_Qv (S := Nat → Nat) (fun _ => True) (fun u t => va_P D vwCl [(h0, .inr (6, [.ref (u 0), .ref (u 2), .ref (u 4), .ref (u 6), .ref (u 8), .ref (u 10), .ref (u 12), .int (zi 0), .int (zi 0), .int (zi 0)])), ((u 0), .inr (5, [.ref (u 1)])), ((u 1), .inl (cI, 6, .inl (zf (fun _ => 0)))), ((u 2), .inr (5, [.ref (u 3)])), ((u 3), .inl (cI, 30, .inl (zf (fun _ => 0)))), ((u 4), .inr (5, [.ref (u 5)])), ((u 5), .inl (cI, 30, .inl (zf (fun _ => 0)))), ((u 6), .inr (5, [.ref (u 7)])), ((u 7), .inl (cI, 60, .inl (zf (fun _ => 0)))), ((u 8), .inr (5, [.ref (u 9)])), ((u 9), .inl (cI, 60, .inl (zf (fun _ => 0)))), ((u 10), .inr (5, [.ref (u 11)])), ((u 11), .inl (cI, 60, .inl (zf (fun _ => 0)))), ((u 12), .inr (5, [.ref (u 13)])), ((u 13), .inl (cI, 9, .inl (zf (fun _ => 0))))] t.heap ∧ va_D (va_A [(h0, .inr (6, [.null, .null, .null, .null, .null, .null, .null, .int (zi 0), .int (zi 0), .int (zi 0)]))] sz) [(h0, .inr (6, [.ref (u 0), .ref (u 2), .ref (u 4), .ref (u 6), .ref (u 8), .ref (u 10), .ref (u 12), .int (zi 0), .int (zi 0), .int (zi 0)])), ((u 0), .inr (5, [.ref (u 1)])), ((u 1), .inl (cI, 6, .inl (zf (fun _ => 0)))), ((u 2), .inr (5, [.ref (u 3)])), ((u 3), .inl (cI, 30, .inl (zf (fun _ => 0)))), ((u 4), .inr (5, [.ref (u 5)])), ((u 5), .inl (cI, 30, .inl (zf (fun _ => 0)))), ((u 6), .inr (5, [.ref (u 7)])), ((u 7), .inl (cI, 60, .inl (zf (fun _ => 0)))), ((u 8), .inr (5, [.ref (u 9)])), ((u 9), .inl (cI, 60, .inl (zf (fun _ => 0)))), ((u 10), .inr (5, [.ref (u 11)])), ((u 11), .inl (cI, 60, .inl (zf (fun _ => 0)))), ((u 12), .inr (5, [.ref (u 13)])), ((u 13), .inl (cI, 9, .inl (zf (fun _ => 0))))]) (va_A [(h0, .inr (6, [.null, .null, .null, .null, .null, .null, .null, .int (zi 0), .int (zi 0), .int (zi 0)]))] sz)) 14 262 (va_A [(h0, .inr (6, [.null, .null, .null, .null, .null, .null, .null, .int (zi 0), .int (zi 0), .int (zi 0)]))] sz) := by
  refine Met.ofW (cc := cX6_init) (maxL := 1) (ret := none) (by decide) rfl ?_
  intro p e s m args below meth c s₁ B hml hv
  obtain ⟨rfl, hsz, hP, hK, hD0⟩ := hv
  have hx := B.exec
  have hb := B.bytes
  have hr := B.returns
  have hts := atoms_spec (ws := wsX6_init) B.pre
  have hown : s.vm.findClass RX6 = some m.cls := findClass_of_methodNamed B.named
  have hlocks := B.notSynchronized
  have hin : meth.name = "<init>" := (name_of_methodNamed B.named B.method).1
  subst hsz
  have hD := hD0.self (sz := s.heap.size)
  generalize hAe : va_A [(h0, .inr (6, [.null, .null, .null, .null, .null, .null, .null, .int (zi 0), .int (zi 0), .int (zi 0)]))] s.heap.size = A at hD ⊢
  have hA : ∀ q : Nat, s.heap.size ≤ q → A q := fun q h => by rw [← hAe]; exact Or.inr h
  have hS : va_S A s.heap s.heap [] := va_S.rf
  have hP : va_P D vwCl [(h0, .inr (6, [.null, .null, .null, .null, .null, .null, .null, .int (zi 0), .int (zi 0), .int (zi 0)]))] s.heap := hP
  have hl := lv_entry ([.ref h0]) (n := 1) (Nat.le_of_ble_eq_true rfl)
  rw [lg_entry_eq]
  generalize (lg_sl ([.ref h0]) ++ List.replicate (1 - (lg_sl ([.ref h0])).length) Slot.unset).toArray = ls at hl ⊢
  have hl : lv_has ls 1 [(0, .ref h0)] := hl
  refine lv_aload_n hx hb dX6_init_0 rfl (lv_at hl 0 rfl) ?_
  refine W.objInit hx hb hown (hts _ oml_X6_init) (hts _ oin_X6_init) (hts _ oco_X6_init) rfl (by rw [hml]; exact hl.1) rfl dX6_init_1 (Nat.le_of_ble_eq_true rfl) (Nat.le_of_ble_eq_true rfl) ?_
  refine W.eq (g2 := F0 m 4 ls []) rfl ?_
  refine lv_aload_n hx hb dX6_init_4 rfl (lv_at hl 0 rfl) ?_
  refine va_new (ci := 5) (fs := [.null]) (C := RX5) (T := TX5) (N := 1) hx hb hts ic_X6_init_5 tyX5 tyX5_ok hown (hts _ cl5_X6_init) (hts _ ins5_X6_init) (hts _ ini5_X6_init) hK.1 hP hD hS hA rfl (fun j hj => by rcases (show j = 0 by omega) with rfl <;> rfl) (Nat.le_of_ble_eq_true rfl) (Nat.le_of_ble_eq_true rfl) dX6_init_5 (fun q5 H hP hD hS => ?_)
  have hP : va_P D vwCl [(h0, .inr (6, [.null, .null, .null, .null, .null, .null, .null, .int (zi 0), .int (zi 0), .int (zi 0)])), (q5, .inr (5, [.null]))] H := hP
  have hD : va_D A [(h0, .inr (6, [.null, .null, .null, .null, .null, .null, .null, .int (zi 0), .int (zi 0), .int (zi 0)])), (q5, .inr (5, [.null]))] := hD
  refine lv_dup hx hb dX6_init_8 rfl ?_
  refine zi_bipush hx hb dX6_init_9 (by decide) ?_
  have hPc := hP.sub (ws' := [(q5, .inr (5, [.null]))]) [1] rfl
  have hDc := hD.sub (ws' := [(q5, .inr (5, [.null]))]) [1] (by decide) rfl
  have hFc := va_free (wc := [(q5, .inr (5, [.null]))]) hD hS hA [1] rfl
  refine va_callv (va_runI (As := [.int (zi 6)]) (rest := [.ref q5, .ref h0]) ⟨hx, hb, hml, hown, hts⟩ (ct_X5_init l D cI cZ cJ q5 H.size 6 6 rfl (by decide) (by decide)) (cwI 1 hts gX6_init_X5_init rfl rfl rfl (hts _ iniX5_init_X6_init) (hts _ mlX5_init_X6_init) (hts _ inmX5_init_X6_init) rfl (by decide +kernel) ⟨Nat.le_of_ble_eq_true rfl, Nat.le_of_ble_eq_true rfl⟩) ⟨fun a U g mk q => by obtain ⟨q0, q1, qP, qK, qD⟩ := q; exact ⟨q0, q1, qP, KK.same (u := U) (U := U.calling g mk a) rfl qK, qD⟩, fun U hU hW => ⟨rfl, by rw [hU], by rw [hU]; exact hPc, KK.warm hW hK, hDc.weaken (fun _ _ _ _ => trivial)⟩⟩ rfl rfl hl.1 rfl (lv_room (Nat.le_of_ble_eq_true rfl)) dX6_init_11 ⟨Nat.le_of_ble_eq_true rfl, Nat.le_of_ble_eq_true rfl⟩) hS (fun q _ h => hFc q h) hFc (fun u11 t H1 locs ht hvm hw hB hz1 hk1 hS => ?_)
  obtain ⟨hP1, hD1⟩ := hB
  rw [ht] at hP1
  obtain ⟨hP, hD⟩ := va_join (wr := [(h0, .inr (6, [.null, .null, .null, .null, .null, .null, .null, .int (zi 0), .int (zi 0), .int (zi 0)]))]) (w1 := [(q5, .inr (5, [.ref u11])), (u11, .inl (cI, 6, .inl (zf (fun _ => 0))))]) hP hD [1] [0] rfl rfl (by decide) (by decide) hk1 hFc hP1 hD1
  clear hPc hDc hFc hP1 hD1 hz1 hk1 ht hvm hw
  generalize H1 = H at hP hS ⊢
  have hP : va_P D vwCl [(h0, .inr (6, [.null, .null, .null, .null, .null, .null, .null, .int (zi 0), .int (zi 0), .int (zi 0)])), (q5, .inr (5, [.ref u11])), (u11, .inl (cI, 6, .inl (zf (fun _ => 0))))] H := hP
  have hD : va_D A [(h0, .inr (6, [.null, .null, .null, .null, .null, .null, .null, .int (zi 0), .int (zi 0), .int (zi 0)])), (q5, .inr (5, [.ref u11])), (u11, .inl (cI, 6, .inl (zf (fun _ => 0))))] := hD
  refine va_putF (D := D) (ci := 6) (v := .ref q5) (ty := (.object "PlanetoidDesk$Row")) (C := RX6) (T := TX6) (N := 10) hx hb hts ic_X6_init_6 tyX6 tyX6_ok nmX6 hown hK.1 hP hD hS 0 rfl rfl 0 (by decide) (hts _ lk0_X6_init) (fun _ h9 => h9) rfl hin rfl (by decide +kernel) rfl rfl (Nat.le_of_ble_eq_true rfl) dX6_init_14 (fun H locs hP hD hS => ?_)
  have hP : va_P D vwCl [(h0, .inr (6, [.ref q5, .null, .null, .null, .null, .null, .null, .int (zi 0), .int (zi 0), .int (zi 0)])), (q5, .inr (5, [.ref u11])), (u11, .inl (cI, 6, .inl (zf (fun _ => 0))))] H := hP
  have hD : va_D A [(h0, .inr (6, [.ref q5, .null, .null, .null, .null, .null, .null, .int (zi 0), .int (zi 0), .int (zi 0)])), (q5, .inr (5, [.ref u11])), (u11, .inl (cI, 6, .inl (zf (fun _ => 0))))] := hD
  refine lv_aload_n hx hb dX6_init_17 rfl (lv_at hl 0 rfl) ?_
  refine va_new (ci := 5) (fs := [.null]) (C := RX5) (T := TX5) (N := 1) hx hb hts ic_X6_init_5 tyX5 tyX5_ok hown (hts _ cl5_X6_init) (hts _ ins5_X6_init) (hts _ ini5_X6_init) hK.1 hP hD hS hA rfl (fun j hj => by rcases (show j = 0 by omega) with rfl <;> rfl) (Nat.le_of_ble_eq_true rfl) (Nat.le_of_ble_eq_true rfl) dX6_init_18 (fun q18 H hP hD hS => ?_)
  have hP : va_P D vwCl [(h0, .inr (6, [.ref q5, .null, .null, .null, .null, .null, .null, .int (zi 0), .int (zi 0), .int (zi 0)])), (q5, .inr (5, [.ref u11])), (u11, .inl (cI, 6, .inl (zf (fun _ => 0)))), (q18, .inr (5, [.null]))] H := hP
  have hD : va_D A [(h0, .inr (6, [.ref q5, .null, .null, .null, .null, .null, .null, .int (zi 0), .int (zi 0), .int (zi 0)])), (q5, .inr (5, [.ref u11])), (u11, .inl (cI, 6, .inl (zf (fun _ => 0)))), (q18, .inr (5, [.null]))] := hD
  refine lv_dup hx hb dX6_init_21 rfl ?_
  refine zi_bipush hx hb dX6_init_22 (by decide) ?_
  have hPc := hP.sub (ws' := [(q18, .inr (5, [.null]))]) [3] rfl
  have hDc := hD.sub (ws' := [(q18, .inr (5, [.null]))]) [3] (by decide) rfl
  have hFc := va_free (wc := [(q18, .inr (5, [.null]))]) hD hS hA [3] rfl
  refine va_callv (va_runI (As := [.int (zi 30)]) (rest := [.ref q18, .ref h0]) ⟨hx, hb, hml, hown, hts⟩ (ct_X5_init l D cI cZ cJ q18 H.size 30 30 rfl (by decide) (by decide)) (cwI 1 hts gX6_init_X5_init rfl rfl rfl (hts _ iniX5_init_X6_init) (hts _ mlX5_init_X6_init) (hts _ inmX5_init_X6_init) rfl (by decide +kernel) ⟨Nat.le_of_ble_eq_true rfl, Nat.le_of_ble_eq_true rfl⟩) ⟨fun a U g mk q => by obtain ⟨q0, q1, qP, qK, qD⟩ := q; exact ⟨q0, q1, qP, KK.same (u := U) (U := U.calling g mk a) rfl qK, qD⟩, fun U hU hW => ⟨rfl, by rw [hU], by rw [hU]; exact hPc, KK.warm hW hK, hDc.weaken (fun _ _ _ _ => trivial)⟩⟩ rfl rfl hl.1 rfl (lv_room (Nat.le_of_ble_eq_true rfl)) dX6_init_24 ⟨Nat.le_of_ble_eq_true rfl, Nat.le_of_ble_eq_true rfl⟩) hS (fun q _ h => hFc q h) hFc (fun u24 t H1 locs ht hvm hw hB hz1 hk1 hS => ?_)
  obtain ⟨hP1, hD1⟩ := hB
  rw [ht] at hP1
  obtain ⟨hP, hD⟩ := va_join (wr := [(h0, .inr (6, [.ref q5, .null, .null, .null, .null, .null, .null, .int (zi 0), .int (zi 0), .int (zi 0)])), (q5, .inr (5, [.ref u11])), (u11, .inl (cI, 6, .inl (zf (fun _ => 0))))]) (w1 := [(q18, .inr (5, [.ref u24])), (u24, .inl (cI, 30, .inl (zf (fun _ => 0))))]) hP hD [3] [0, 1, 2] rfl rfl (by decide) (by decide) hk1 hFc hP1 hD1
  clear hPc hDc hFc hP1 hD1 hz1 hk1 ht hvm hw
  generalize H1 = H at hP hS ⊢
  have hP : va_P D vwCl [(h0, .inr (6, [.ref q5, .null, .null, .null, .null, .null, .null, .int (zi 0), .int (zi 0), .int (zi 0)])), (q5, .inr (5, [.ref u11])), (u11, .inl (cI, 6, .inl (zf (fun _ => 0)))), (q18, .inr (5, [.ref u24])), (u24, .inl (cI, 30, .inl (zf (fun _ => 0))))] H := hP
  have hD : va_D A [(h0, .inr (6, [.ref q5, .null, .null, .null, .null, .null, .null, .int (zi 0), .int (zi 0), .int (zi 0)])), (q5, .inr (5, [.ref u11])), (u11, .inl (cI, 6, .inl (zf (fun _ => 0)))), (q18, .inr (5, [.ref u24])), (u24, .inl (cI, 30, .inl (zf (fun _ => 0))))] := hD
  refine va_putF (D := D) (ci := 6) (v := .ref q18) (ty := (.object "PlanetoidDesk$Row")) (C := RX6) (T := TX6) (N := 10) hx hb hts ic_X6_init_6 tyX6 tyX6_ok nmX6 hown hK.1 hP hD hS 0 rfl rfl 1 (by decide) (hts _ lk1_X6_init) (fun _ h9 => h9) rfl hin rfl (by decide +kernel) rfl rfl (Nat.le_of_ble_eq_true rfl) dX6_init_27 (fun H locs hP hD hS => ?_)
  have hP : va_P D vwCl [(h0, .inr (6, [.ref q5, .ref q18, .null, .null, .null, .null, .null, .int (zi 0), .int (zi 0), .int (zi 0)])), (q5, .inr (5, [.ref u11])), (u11, .inl (cI, 6, .inl (zf (fun _ => 0)))), (q18, .inr (5, [.ref u24])), (u24, .inl (cI, 30, .inl (zf (fun _ => 0))))] H := hP
  have hD : va_D A [(h0, .inr (6, [.ref q5, .ref q18, .null, .null, .null, .null, .null, .int (zi 0), .int (zi 0), .int (zi 0)])), (q5, .inr (5, [.ref u11])), (u11, .inl (cI, 6, .inl (zf (fun _ => 0)))), (q18, .inr (5, [.ref u24])), (u24, .inl (cI, 30, .inl (zf (fun _ => 0))))] := hD
  refine lv_aload_n hx hb dX6_init_30 rfl (lv_at hl 0 rfl) ?_
  refine va_new (ci := 5) (fs := [.null]) (C := RX5) (T := TX5) (N := 1) hx hb hts ic_X6_init_5 tyX5 tyX5_ok hown (hts _ cl5_X6_init) (hts _ ins5_X6_init) (hts _ ini5_X6_init) hK.1 hP hD hS hA rfl (fun j hj => by rcases (show j = 0 by omega) with rfl <;> rfl) (Nat.le_of_ble_eq_true rfl) (Nat.le_of_ble_eq_true rfl) dX6_init_31 (fun q31 H hP hD hS => ?_)
  have hP : va_P D vwCl [(h0, .inr (6, [.ref q5, .ref q18, .null, .null, .null, .null, .null, .int (zi 0), .int (zi 0), .int (zi 0)])), (q5, .inr (5, [.ref u11])), (u11, .inl (cI, 6, .inl (zf (fun _ => 0)))), (q18, .inr (5, [.ref u24])), (u24, .inl (cI, 30, .inl (zf (fun _ => 0)))), (q31, .inr (5, [.null]))] H := hP
  have hD : va_D A [(h0, .inr (6, [.ref q5, .ref q18, .null, .null, .null, .null, .null, .int (zi 0), .int (zi 0), .int (zi 0)])), (q5, .inr (5, [.ref u11])), (u11, .inl (cI, 6, .inl (zf (fun _ => 0)))), (q18, .inr (5, [.ref u24])), (u24, .inl (cI, 30, .inl (zf (fun _ => 0)))), (q31, .inr (5, [.null]))] := hD
  refine lv_dup hx hb dX6_init_34 rfl ?_
  refine zi_bipush hx hb dX6_init_35 (by decide) ?_
  have hPc := hP.sub (ws' := [(q31, .inr (5, [.null]))]) [5] rfl
  have hDc := hD.sub (ws' := [(q31, .inr (5, [.null]))]) [5] (by decide) rfl
  have hFc := va_free (wc := [(q31, .inr (5, [.null]))]) hD hS hA [5] rfl
  refine va_callv (va_runI (As := [.int (zi 30)]) (rest := [.ref q31, .ref h0]) ⟨hx, hb, hml, hown, hts⟩ (ct_X5_init l D cI cZ cJ q31 H.size 30 30 rfl (by decide) (by decide)) (cwI 1 hts gX6_init_X5_init rfl rfl rfl (hts _ iniX5_init_X6_init) (hts _ mlX5_init_X6_init) (hts _ inmX5_init_X6_init) rfl (by decide +kernel) ⟨Nat.le_of_ble_eq_true rfl, Nat.le_of_ble_eq_true rfl⟩) ⟨fun a U g mk q => by obtain ⟨q0, q1, qP, qK, qD⟩ := q; exact ⟨q0, q1, qP, KK.same (u := U) (U := U.calling g mk a) rfl qK, qD⟩, fun U hU hW => ⟨rfl, by rw [hU], by rw [hU]; exact hPc, KK.warm hW hK, hDc.weaken (fun _ _ _ _ => trivial)⟩⟩ rfl rfl hl.1 rfl (lv_room (Nat.le_of_ble_eq_true rfl)) dX6_init_37 ⟨Nat.le_of_ble_eq_true rfl, Nat.le_of_ble_eq_true rfl⟩) hS (fun q _ h => hFc q h) hFc (fun u37 t H1 locs ht hvm hw hB hz1 hk1 hS => ?_)
  obtain ⟨hP1, hD1⟩ := hB
  rw [ht] at hP1
  obtain ⟨hP, hD⟩ := va_join (wr := [(h0, .inr (6, [.ref q5, .ref q18, .null, .null, .null, .null, .null, .int (zi 0), .int (zi 0), .int (zi 0)])), (q5, .inr (5, [.ref u11])), (u11, .inl (cI, 6, .inl (zf (fun _ => 0)))), (q18, .inr (5, [.ref u24])), (u24, .inl (cI, 30, .inl (zf (fun _ => 0))))]) (w1 := [(q31, .inr (5, [.ref u37])), (u37, .inl (cI, 30, .inl (zf (fun _ => 0))))]) hP hD [5] [0, 1, 2, 3, 4] rfl rfl (by decide) (by decide) hk1 hFc hP1 hD1
  clear hPc hDc hFc hP1 hD1 hz1 hk1 ht hvm hw
  generalize H1 = H at hP hS ⊢
  have hP : va_P D vwCl [(h0, .inr (6, [.ref q5, .ref q18, .null, .null, .null, .null, .null, .int (zi 0), .int (zi 0), .int (zi 0)])), (q5, .inr (5, [.ref u11])), (u11, .inl (cI, 6, .inl (zf (fun _ => 0)))), (q18, .inr (5, [.ref u24])), (u24, .inl (cI, 30, .inl (zf (fun _ => 0)))), (q31, .inr (5, [.ref u37])), (u37, .inl (cI, 30, .inl (zf (fun _ => 0))))] H := hP
  have hD : va_D A [(h0, .inr (6, [.ref q5, .ref q18, .null, .null, .null, .null, .null, .int (zi 0), .int (zi 0), .int (zi 0)])), (q5, .inr (5, [.ref u11])), (u11, .inl (cI, 6, .inl (zf (fun _ => 0)))), (q18, .inr (5, [.ref u24])), (u24, .inl (cI, 30, .inl (zf (fun _ => 0)))), (q31, .inr (5, [.ref u37])), (u37, .inl (cI, 30, .inl (zf (fun _ => 0))))] := hD
  refine va_putF (D := D) (ci := 6) (v := .ref q31) (ty := (.object "PlanetoidDesk$Row")) (C := RX6) (T := TX6) (N := 10) hx hb hts ic_X6_init_6 tyX6 tyX6_ok nmX6 hown hK.1 hP hD hS 0 rfl rfl 2 (by decide) (hts _ lk2_X6_init) (fun _ h9 => h9) rfl hin rfl (by decide +kernel) rfl rfl (Nat.le_of_ble_eq_true rfl) dX6_init_40 (fun H locs hP hD hS => ?_)
  have hP : va_P D vwCl [(h0, .inr (6, [.ref q5, .ref q18, .ref q31, .null, .null, .null, .null, .int (zi 0), .int (zi 0), .int (zi 0)])), (q5, .inr (5, [.ref u11])), (u11, .inl (cI, 6, .inl (zf (fun _ => 0)))), (q18, .inr (5, [.ref u24])), (u24, .inl (cI, 30, .inl (zf (fun _ => 0)))), (q31, .inr (5, [.ref u37])), (u37, .inl (cI, 30, .inl (zf (fun _ => 0))))] H := hP
  have hD : va_D A [(h0, .inr (6, [.ref q5, .ref q18, .ref q31, .null, .null, .null, .null, .int (zi 0), .int (zi 0), .int (zi 0)])), (q5, .inr (5, [.ref u11])), (u11, .inl (cI, 6, .inl (zf (fun _ => 0)))), (q18, .inr (5, [.ref u24])), (u24, .inl (cI, 30, .inl (zf (fun _ => 0)))), (q31, .inr (5, [.ref u37])), (u37, .inl (cI, 30, .inl (zf (fun _ => 0))))] := hD
  refine lv_aload_n hx hb dX6_init_43 rfl (lv_at hl 0 rfl) ?_
  refine va_new (ci := 5) (fs := [.null]) (C := RX5) (T := TX5) (N := 1) hx hb hts ic_X6_init_5 tyX5 tyX5_ok hown (hts _ cl5_X6_init) (hts _ ins5_X6_init) (hts _ ini5_X6_init) hK.1 hP hD hS hA rfl (fun j hj => by rcases (show j = 0 by omega) with rfl <;> rfl) (Nat.le_of_ble_eq_true rfl) (Nat.le_of_ble_eq_true rfl) dX6_init_44 (fun q44 H hP hD hS => ?_)
  have hP : va_P D vwCl [(h0, .inr (6, [.ref q5, .ref q18, .ref q31, .null, .null, .null, .null, .int (zi 0), .int (zi 0), .int (zi 0)])), (q5, .inr (5, [.ref u11])), (u11, .inl (cI, 6, .inl (zf (fun _ => 0)))), (q18, .inr (5, [.ref u24])), (u24, .inl (cI, 30, .inl (zf (fun _ => 0)))), (q31, .inr (5, [.ref u37])), (u37, .inl (cI, 30, .inl (zf (fun _ => 0)))), (q44, .inr (5, [.null]))] H := hP
  have hD : va_D A [(h0, .inr (6, [.ref q5, .ref q18, .ref q31, .null, .null, .null, .null, .int (zi 0), .int (zi 0), .int (zi 0)])), (q5, .inr (5, [.ref u11])), (u11, .inl (cI, 6, .inl (zf (fun _ => 0)))), (q18, .inr (5, [.ref u24])), (u24, .inl (cI, 30, .inl (zf (fun _ => 0)))), (q31, .inr (5, [.ref u37])), (u37, .inl (cI, 30, .inl (zf (fun _ => 0)))), (q44, .inr (5, [.null]))] := hD
  refine lv_dup hx hb dX6_init_47 rfl ?_
  refine zi_bipush hx hb dX6_init_48 (by decide) ?_
  have hPc := hP.sub (ws' := [(q44, .inr (5, [.null]))]) [7] rfl
  have hDc := hD.sub (ws' := [(q44, .inr (5, [.null]))]) [7] (by decide) rfl
  have hFc := va_free (wc := [(q44, .inr (5, [.null]))]) hD hS hA [7] rfl
  refine va_callv (va_runI (As := [.int (zi 60)]) (rest := [.ref q44, .ref h0]) ⟨hx, hb, hml, hown, hts⟩ (ct_X5_init l D cI cZ cJ q44 H.size 60 60 rfl (by decide) (by decide)) (cwI 1 hts gX6_init_X5_init rfl rfl rfl (hts _ iniX5_init_X6_init) (hts _ mlX5_init_X6_init) (hts _ inmX5_init_X6_init) rfl (by decide +kernel) ⟨Nat.le_of_ble_eq_true rfl, Nat.le_of_ble_eq_true rfl⟩) ⟨fun a U g mk q => by obtain ⟨q0, q1, qP, qK, qD⟩ := q; exact ⟨q0, q1, qP, KK.same (u := U) (U := U.calling g mk a) rfl qK, qD⟩, fun U hU hW => ⟨rfl, by rw [hU], by rw [hU]; exact hPc, KK.warm hW hK, hDc.weaken (fun _ _ _ _ => trivial)⟩⟩ rfl rfl hl.1 rfl (lv_room (Nat.le_of_ble_eq_true rfl)) dX6_init_50 ⟨Nat.le_of_ble_eq_true rfl, Nat.le_of_ble_eq_true rfl⟩) hS (fun q _ h => hFc q h) hFc (fun u50 t H1 locs ht hvm hw hB hz1 hk1 hS => ?_)
  obtain ⟨hP1, hD1⟩ := hB
  rw [ht] at hP1
  obtain ⟨hP, hD⟩ := va_join (wr := [(h0, .inr (6, [.ref q5, .ref q18, .ref q31, .null, .null, .null, .null, .int (zi 0), .int (zi 0), .int (zi 0)])), (q5, .inr (5, [.ref u11])), (u11, .inl (cI, 6, .inl (zf (fun _ => 0)))), (q18, .inr (5, [.ref u24])), (u24, .inl (cI, 30, .inl (zf (fun _ => 0)))), (q31, .inr (5, [.ref u37])), (u37, .inl (cI, 30, .inl (zf (fun _ => 0))))]) (w1 := [(q44, .inr (5, [.ref u50])), (u50, .inl (cI, 60, .inl (zf (fun _ => 0))))]) hP hD [7] [0, 1, 2, 3, 4, 5, 6] rfl rfl (by decide) (by decide) hk1 hFc hP1 hD1
  clear hPc hDc hFc hP1 hD1 hz1 hk1 ht hvm hw
  generalize H1 = H at hP hS ⊢
  have hP : va_P D vwCl [(h0, .inr (6, [.ref q5, .ref q18, .ref q31, .null, .null, .null, .null, .int (zi 0), .int (zi 0), .int (zi 0)])), (q5, .inr (5, [.ref u11])), (u11, .inl (cI, 6, .inl (zf (fun _ => 0)))), (q18, .inr (5, [.ref u24])), (u24, .inl (cI, 30, .inl (zf (fun _ => 0)))), (q31, .inr (5, [.ref u37])), (u37, .inl (cI, 30, .inl (zf (fun _ => 0)))), (q44, .inr (5, [.ref u50])), (u50, .inl (cI, 60, .inl (zf (fun _ => 0))))] H := hP
  have hD : va_D A [(h0, .inr (6, [.ref q5, .ref q18, .ref q31, .null, .null, .null, .null, .int (zi 0), .int (zi 0), .int (zi 0)])), (q5, .inr (5, [.ref u11])), (u11, .inl (cI, 6, .inl (zf (fun _ => 0)))), (q18, .inr (5, [.ref u24])), (u24, .inl (cI, 30, .inl (zf (fun _ => 0)))), (q31, .inr (5, [.ref u37])), (u37, .inl (cI, 30, .inl (zf (fun _ => 0)))), (q44, .inr (5, [.ref u50])), (u50, .inl (cI, 60, .inl (zf (fun _ => 0))))] := hD
  refine va_putF (D := D) (ci := 6) (v := .ref q44) (ty := (.object "PlanetoidDesk$Row")) (C := RX6) (T := TX6) (N := 10) hx hb hts ic_X6_init_6 tyX6 tyX6_ok nmX6 hown hK.1 hP hD hS 0 rfl rfl 3 (by decide) (hts _ lk3_X6_init) (fun _ h9 => h9) rfl hin rfl (by decide +kernel) rfl rfl (Nat.le_of_ble_eq_true rfl) dX6_init_53 (fun H locs hP hD hS => ?_)
  have hP : va_P D vwCl [(h0, .inr (6, [.ref q5, .ref q18, .ref q31, .ref q44, .null, .null, .null, .int (zi 0), .int (zi 0), .int (zi 0)])), (q5, .inr (5, [.ref u11])), (u11, .inl (cI, 6, .inl (zf (fun _ => 0)))), (q18, .inr (5, [.ref u24])), (u24, .inl (cI, 30, .inl (zf (fun _ => 0)))), (q31, .inr (5, [.ref u37])), (u37, .inl (cI, 30, .inl (zf (fun _ => 0)))), (q44, .inr (5, [.ref u50])), (u50, .inl (cI, 60, .inl (zf (fun _ => 0))))] H := hP
  have hD : va_D A [(h0, .inr (6, [.ref q5, .ref q18, .ref q31, .ref q44, .null, .null, .null, .int (zi 0), .int (zi 0), .int (zi 0)])), (q5, .inr (5, [.ref u11])), (u11, .inl (cI, 6, .inl (zf (fun _ => 0)))), (q18, .inr (5, [.ref u24])), (u24, .inl (cI, 30, .inl (zf (fun _ => 0)))), (q31, .inr (5, [.ref u37])), (u37, .inl (cI, 30, .inl (zf (fun _ => 0)))), (q44, .inr (5, [.ref u50])), (u50, .inl (cI, 60, .inl (zf (fun _ => 0))))] := hD
  refine lv_aload_n hx hb dX6_init_56 rfl (lv_at hl 0 rfl) ?_
  refine va_new (ci := 5) (fs := [.null]) (C := RX5) (T := TX5) (N := 1) hx hb hts ic_X6_init_5 tyX5 tyX5_ok hown (hts _ cl5_X6_init) (hts _ ins5_X6_init) (hts _ ini5_X6_init) hK.1 hP hD hS hA rfl (fun j hj => by rcases (show j = 0 by omega) with rfl <;> rfl) (Nat.le_of_ble_eq_true rfl) (Nat.le_of_ble_eq_true rfl) dX6_init_57 (fun q57 H hP hD hS => ?_)
  have hP : va_P D vwCl [(h0, .inr (6, [.ref q5, .ref q18, .ref q31, .ref q44, .null, .null, .null, .int (zi 0), .int (zi 0), .int (zi 0)])), (q5, .inr (5, [.ref u11])), (u11, .inl (cI, 6, .inl (zf (fun _ => 0)))), (q18, .inr (5, [.ref u24])), (u24, .inl (cI, 30, .inl (zf (fun _ => 0)))), (q31, .inr (5, [.ref u37])), (u37, .inl (cI, 30, .inl (zf (fun _ => 0)))), (q44, .inr (5, [.ref u50])), (u50, .inl (cI, 60, .inl (zf (fun _ => 0)))), (q57, .inr (5, [.null]))] H := hP
  have hD : va_D A [(h0, .inr (6, [.ref q5, .ref q18, .ref q31, .ref q44, .null, .null, .null, .int (zi 0), .int (zi 0), .int (zi 0)])), (q5, .inr (5, [.ref u11])), (u11, .inl (cI, 6, .inl (zf (fun _ => 0)))), (q18, .inr (5, [.ref u24])), (u24, .inl (cI, 30, .inl (zf (fun _ => 0)))), (q31, .inr (5, [.ref u37])), (u37, .inl (cI, 30, .inl (zf (fun _ => 0)))), (q44, .inr (5, [.ref u50])), (u50, .inl (cI, 60, .inl (zf (fun _ => 0)))), (q57, .inr (5, [.null]))] := hD
  refine lv_dup hx hb dX6_init_60 rfl ?_
  refine zi_bipush hx hb dX6_init_61 (by decide) ?_
  have hPc := hP.sub (ws' := [(q57, .inr (5, [.null]))]) [9] rfl
  have hDc := hD.sub (ws' := [(q57, .inr (5, [.null]))]) [9] (by decide) rfl
  have hFc := va_free (wc := [(q57, .inr (5, [.null]))]) hD hS hA [9] rfl
  refine va_callv (va_runI (As := [.int (zi 60)]) (rest := [.ref q57, .ref h0]) ⟨hx, hb, hml, hown, hts⟩ (ct_X5_init l D cI cZ cJ q57 H.size 60 60 rfl (by decide) (by decide)) (cwI 1 hts gX6_init_X5_init rfl rfl rfl (hts _ iniX5_init_X6_init) (hts _ mlX5_init_X6_init) (hts _ inmX5_init_X6_init) rfl (by decide +kernel) ⟨Nat.le_of_ble_eq_true rfl, Nat.le_of_ble_eq_true rfl⟩) ⟨fun a U g mk q => by obtain ⟨q0, q1, qP, qK, qD⟩ := q; exact ⟨q0, q1, qP, KK.same (u := U) (U := U.calling g mk a) rfl qK, qD⟩, fun U hU hW => ⟨rfl, by rw [hU], by rw [hU]; exact hPc, KK.warm hW hK, hDc.weaken (fun _ _ _ _ => trivial)⟩⟩ rfl rfl hl.1 rfl (lv_room (Nat.le_of_ble_eq_true rfl)) dX6_init_63 ⟨Nat.le_of_ble_eq_true rfl, Nat.le_of_ble_eq_true rfl⟩) hS (fun q _ h => hFc q h) hFc (fun u63 t H1 locs ht hvm hw hB hz1 hk1 hS => ?_)
  obtain ⟨hP1, hD1⟩ := hB
  rw [ht] at hP1
  obtain ⟨hP, hD⟩ := va_join (wr := [(h0, .inr (6, [.ref q5, .ref q18, .ref q31, .ref q44, .null, .null, .null, .int (zi 0), .int (zi 0), .int (zi 0)])), (q5, .inr (5, [.ref u11])), (u11, .inl (cI, 6, .inl (zf (fun _ => 0)))), (q18, .inr (5, [.ref u24])), (u24, .inl (cI, 30, .inl (zf (fun _ => 0)))), (q31, .inr (5, [.ref u37])), (u37, .inl (cI, 30, .inl (zf (fun _ => 0)))), (q44, .inr (5, [.ref u50])), (u50, .inl (cI, 60, .inl (zf (fun _ => 0))))]) (w1 := [(q57, .inr (5, [.ref u63])), (u63, .inl (cI, 60, .inl (zf (fun _ => 0))))]) hP hD [9] [0, 1, 2, 3, 4, 5, 6, 7, 8] rfl rfl (by decide) (by decide) hk1 hFc hP1 hD1
  clear hPc hDc hFc hP1 hD1 hz1 hk1 ht hvm hw
  generalize H1 = H at hP hS ⊢
  have hP : va_P D vwCl [(h0, .inr (6, [.ref q5, .ref q18, .ref q31, .ref q44, .null, .null, .null, .int (zi 0), .int (zi 0), .int (zi 0)])), (q5, .inr (5, [.ref u11])), (u11, .inl (cI, 6, .inl (zf (fun _ => 0)))), (q18, .inr (5, [.ref u24])), (u24, .inl (cI, 30, .inl (zf (fun _ => 0)))), (q31, .inr (5, [.ref u37])), (u37, .inl (cI, 30, .inl (zf (fun _ => 0)))), (q44, .inr (5, [.ref u50])), (u50, .inl (cI, 60, .inl (zf (fun _ => 0)))), (q57, .inr (5, [.ref u63])), (u63, .inl (cI, 60, .inl (zf (fun _ => 0))))] H := hP
  have hD : va_D A [(h0, .inr (6, [.ref q5, .ref q18, .ref q31, .ref q44, .null, .null, .null, .int (zi 0), .int (zi 0), .int (zi 0)])), (q5, .inr (5, [.ref u11])), (u11, .inl (cI, 6, .inl (zf (fun _ => 0)))), (q18, .inr (5, [.ref u24])), (u24, .inl (cI, 30, .inl (zf (fun _ => 0)))), (q31, .inr (5, [.ref u37])), (u37, .inl (cI, 30, .inl (zf (fun _ => 0)))), (q44, .inr (5, [.ref u50])), (u50, .inl (cI, 60, .inl (zf (fun _ => 0)))), (q57, .inr (5, [.ref u63])), (u63, .inl (cI, 60, .inl (zf (fun _ => 0))))] := hD
  refine va_putF (D := D) (ci := 6) (v := .ref q57) (ty := (.object "PlanetoidDesk$Row")) (C := RX6) (T := TX6) (N := 10) hx hb hts ic_X6_init_6 tyX6 tyX6_ok nmX6 hown hK.1 hP hD hS 0 rfl rfl 4 (by decide) (hts _ lk4_X6_init) (fun _ h9 => h9) rfl hin rfl (by decide +kernel) rfl rfl (Nat.le_of_ble_eq_true rfl) dX6_init_66 (fun H locs hP hD hS => ?_)
  have hP : va_P D vwCl [(h0, .inr (6, [.ref q5, .ref q18, .ref q31, .ref q44, .ref q57, .null, .null, .int (zi 0), .int (zi 0), .int (zi 0)])), (q5, .inr (5, [.ref u11])), (u11, .inl (cI, 6, .inl (zf (fun _ => 0)))), (q18, .inr (5, [.ref u24])), (u24, .inl (cI, 30, .inl (zf (fun _ => 0)))), (q31, .inr (5, [.ref u37])), (u37, .inl (cI, 30, .inl (zf (fun _ => 0)))), (q44, .inr (5, [.ref u50])), (u50, .inl (cI, 60, .inl (zf (fun _ => 0)))), (q57, .inr (5, [.ref u63])), (u63, .inl (cI, 60, .inl (zf (fun _ => 0))))] H := hP
  have hD : va_D A [(h0, .inr (6, [.ref q5, .ref q18, .ref q31, .ref q44, .ref q57, .null, .null, .int (zi 0), .int (zi 0), .int (zi 0)])), (q5, .inr (5, [.ref u11])), (u11, .inl (cI, 6, .inl (zf (fun _ => 0)))), (q18, .inr (5, [.ref u24])), (u24, .inl (cI, 30, .inl (zf (fun _ => 0)))), (q31, .inr (5, [.ref u37])), (u37, .inl (cI, 30, .inl (zf (fun _ => 0)))), (q44, .inr (5, [.ref u50])), (u50, .inl (cI, 60, .inl (zf (fun _ => 0)))), (q57, .inr (5, [.ref u63])), (u63, .inl (cI, 60, .inl (zf (fun _ => 0))))] := hD
  refine lv_aload_n hx hb dX6_init_69 rfl (lv_at hl 0 rfl) ?_
  refine va_new (ci := 5) (fs := [.null]) (C := RX5) (T := TX5) (N := 1) hx hb hts ic_X6_init_5 tyX5 tyX5_ok hown (hts _ cl5_X6_init) (hts _ ins5_X6_init) (hts _ ini5_X6_init) hK.1 hP hD hS hA rfl (fun j hj => by rcases (show j = 0 by omega) with rfl <;> rfl) (Nat.le_of_ble_eq_true rfl) (Nat.le_of_ble_eq_true rfl) dX6_init_70 (fun q70 H hP hD hS => ?_)
  have hP : va_P D vwCl [(h0, .inr (6, [.ref q5, .ref q18, .ref q31, .ref q44, .ref q57, .null, .null, .int (zi 0), .int (zi 0), .int (zi 0)])), (q5, .inr (5, [.ref u11])), (u11, .inl (cI, 6, .inl (zf (fun _ => 0)))), (q18, .inr (5, [.ref u24])), (u24, .inl (cI, 30, .inl (zf (fun _ => 0)))), (q31, .inr (5, [.ref u37])), (u37, .inl (cI, 30, .inl (zf (fun _ => 0)))), (q44, .inr (5, [.ref u50])), (u50, .inl (cI, 60, .inl (zf (fun _ => 0)))), (q57, .inr (5, [.ref u63])), (u63, .inl (cI, 60, .inl (zf (fun _ => 0)))), (q70, .inr (5, [.null]))] H := hP
  have hD : va_D A [(h0, .inr (6, [.ref q5, .ref q18, .ref q31, .ref q44, .ref q57, .null, .null, .int (zi 0), .int (zi 0), .int (zi 0)])), (q5, .inr (5, [.ref u11])), (u11, .inl (cI, 6, .inl (zf (fun _ => 0)))), (q18, .inr (5, [.ref u24])), (u24, .inl (cI, 30, .inl (zf (fun _ => 0)))), (q31, .inr (5, [.ref u37])), (u37, .inl (cI, 30, .inl (zf (fun _ => 0)))), (q44, .inr (5, [.ref u50])), (u50, .inl (cI, 60, .inl (zf (fun _ => 0)))), (q57, .inr (5, [.ref u63])), (u63, .inl (cI, 60, .inl (zf (fun _ => 0)))), (q70, .inr (5, [.null]))] := hD
  refine lv_dup hx hb dX6_init_73 rfl ?_
  refine zi_bipush hx hb dX6_init_74 (by decide) ?_
  have hPc := hP.sub (ws' := [(q70, .inr (5, [.null]))]) [11] rfl
  have hDc := hD.sub (ws' := [(q70, .inr (5, [.null]))]) [11] (by decide) rfl
  have hFc := va_free (wc := [(q70, .inr (5, [.null]))]) hD hS hA [11] rfl
  refine va_callv (va_runI (As := [.int (zi 60)]) (rest := [.ref q70, .ref h0]) ⟨hx, hb, hml, hown, hts⟩ (ct_X5_init l D cI cZ cJ q70 H.size 60 60 rfl (by decide) (by decide)) (cwI 1 hts gX6_init_X5_init rfl rfl rfl (hts _ iniX5_init_X6_init) (hts _ mlX5_init_X6_init) (hts _ inmX5_init_X6_init) rfl (by decide +kernel) ⟨Nat.le_of_ble_eq_true rfl, Nat.le_of_ble_eq_true rfl⟩) ⟨fun a U g mk q => by obtain ⟨q0, q1, qP, qK, qD⟩ := q; exact ⟨q0, q1, qP, KK.same (u := U) (U := U.calling g mk a) rfl qK, qD⟩, fun U hU hW => ⟨rfl, by rw [hU], by rw [hU]; exact hPc, KK.warm hW hK, hDc.weaken (fun _ _ _ _ => trivial)⟩⟩ rfl rfl hl.1 rfl (lv_room (Nat.le_of_ble_eq_true rfl)) dX6_init_76 ⟨Nat.le_of_ble_eq_true rfl, Nat.le_of_ble_eq_true rfl⟩) hS (fun q _ h => hFc q h) hFc (fun u76 t H1 locs ht hvm hw hB hz1 hk1 hS => ?_)
  obtain ⟨hP1, hD1⟩ := hB
  rw [ht] at hP1
  obtain ⟨hP, hD⟩ := va_join (wr := [(h0, .inr (6, [.ref q5, .ref q18, .ref q31, .ref q44, .ref q57, .null, .null, .int (zi 0), .int (zi 0), .int (zi 0)])), (q5, .inr (5, [.ref u11])), (u11, .inl (cI, 6, .inl (zf (fun _ => 0)))), (q18, .inr (5, [.ref u24])), (u24, .inl (cI, 30, .inl (zf (fun _ => 0)))), (q31, .inr (5, [.ref u37])), (u37, .inl (cI, 30, .inl (zf (fun _ => 0)))), (q44, .inr (5, [.ref u50])), (u50, .inl (cI, 60, .inl (zf (fun _ => 0)))), (q57, .inr (5, [.ref u63])), (u63, .inl (cI, 60, .inl (zf (fun _ => 0))))]) (w1 := [(q70, .inr (5, [.ref u76])), (u76, .inl (cI, 60, .inl (zf (fun _ => 0))))]) hP hD [11] [0, 1, 2, 3, 4, 5, 6, 7, 8, 9, 10] rfl rfl (by decide) (by decide) hk1 hFc hP1 hD1
  clear hPc hDc hFc hP1 hD1 hz1 hk1 ht hvm hw
  generalize H1 = H at hP hS ⊢
  have hP : va_P D vwCl [(h0, .inr (6, [.ref q5, .ref q18, .ref q31, .ref q44, .ref q57, .null, .null, .int (zi 0), .int (zi 0), .int (zi 0)])), (q5, .inr (5, [.ref u11])), (u11, .inl (cI, 6, .inl (zf (fun _ => 0)))), (q18, .inr (5, [.ref u24])), (u24, .inl (cI, 30, .inl (zf (fun _ => 0)))), (q31, .inr (5, [.ref u37])), (u37, .inl (cI, 30, .inl (zf (fun _ => 0)))), (q44, .inr (5, [.ref u50])), (u50, .inl (cI, 60, .inl (zf (fun _ => 0)))), (q57, .inr (5, [.ref u63])), (u63, .inl (cI, 60, .inl (zf (fun _ => 0)))), (q70, .inr (5, [.ref u76])), (u76, .inl (cI, 60, .inl (zf (fun _ => 0))))] H := hP
  have hD : va_D A [(h0, .inr (6, [.ref q5, .ref q18, .ref q31, .ref q44, .ref q57, .null, .null, .int (zi 0), .int (zi 0), .int (zi 0)])), (q5, .inr (5, [.ref u11])), (u11, .inl (cI, 6, .inl (zf (fun _ => 0)))), (q18, .inr (5, [.ref u24])), (u24, .inl (cI, 30, .inl (zf (fun _ => 0)))), (q31, .inr (5, [.ref u37])), (u37, .inl (cI, 30, .inl (zf (fun _ => 0)))), (q44, .inr (5, [.ref u50])), (u50, .inl (cI, 60, .inl (zf (fun _ => 0)))), (q57, .inr (5, [.ref u63])), (u63, .inl (cI, 60, .inl (zf (fun _ => 0)))), (q70, .inr (5, [.ref u76])), (u76, .inl (cI, 60, .inl (zf (fun _ => 0))))] := hD
  refine va_putF (D := D) (ci := 6) (v := .ref q70) (ty := (.object "PlanetoidDesk$Row")) (C := RX6) (T := TX6) (N := 10) hx hb hts ic_X6_init_6 tyX6 tyX6_ok nmX6 hown hK.1 hP hD hS 0 rfl rfl 5 (by decide) (hts _ lk5_X6_init) (fun _ h9 => h9) rfl hin rfl (by decide +kernel) rfl rfl (Nat.le_of_ble_eq_true rfl) dX6_init_79 (fun H locs hP hD hS => ?_)
  have hP : va_P D vwCl [(h0, .inr (6, [.ref q5, .ref q18, .ref q31, .ref q44, .ref q57, .ref q70, .null, .int (zi 0), .int (zi 0), .int (zi 0)])), (q5, .inr (5, [.ref u11])), (u11, .inl (cI, 6, .inl (zf (fun _ => 0)))), (q18, .inr (5, [.ref u24])), (u24, .inl (cI, 30, .inl (zf (fun _ => 0)))), (q31, .inr (5, [.ref u37])), (u37, .inl (cI, 30, .inl (zf (fun _ => 0)))), (q44, .inr (5, [.ref u50])), (u50, .inl (cI, 60, .inl (zf (fun _ => 0)))), (q57, .inr (5, [.ref u63])), (u63, .inl (cI, 60, .inl (zf (fun _ => 0)))), (q70, .inr (5, [.ref u76])), (u76, .inl (cI, 60, .inl (zf (fun _ => 0))))] H := hP
  have hD : va_D A [(h0, .inr (6, [.ref q5, .ref q18, .ref q31, .ref q44, .ref q57, .ref q70, .null, .int (zi 0), .int (zi 0), .int (zi 0)])), (q5, .inr (5, [.ref u11])), (u11, .inl (cI, 6, .inl (zf (fun _ => 0)))), (q18, .inr (5, [.ref u24])), (u24, .inl (cI, 30, .inl (zf (fun _ => 0)))), (q31, .inr (5, [.ref u37])), (u37, .inl (cI, 30, .inl (zf (fun _ => 0)))), (q44, .inr (5, [.ref u50])), (u50, .inl (cI, 60, .inl (zf (fun _ => 0)))), (q57, .inr (5, [.ref u63])), (u63, .inl (cI, 60, .inl (zf (fun _ => 0)))), (q70, .inr (5, [.ref u76])), (u76, .inl (cI, 60, .inl (zf (fun _ => 0))))] := hD
  refine lv_aload_n hx hb dX6_init_82 rfl (lv_at hl 0 rfl) ?_
  refine va_new (ci := 5) (fs := [.null]) (C := RX5) (T := TX5) (N := 1) hx hb hts ic_X6_init_5 tyX5 tyX5_ok hown (hts _ cl5_X6_init) (hts _ ins5_X6_init) (hts _ ini5_X6_init) hK.1 hP hD hS hA rfl (fun j hj => by rcases (show j = 0 by omega) with rfl <;> rfl) (Nat.le_of_ble_eq_true rfl) (Nat.le_of_ble_eq_true rfl) dX6_init_83 (fun q83 H hP hD hS => ?_)
  have hP : va_P D vwCl [(h0, .inr (6, [.ref q5, .ref q18, .ref q31, .ref q44, .ref q57, .ref q70, .null, .int (zi 0), .int (zi 0), .int (zi 0)])), (q5, .inr (5, [.ref u11])), (u11, .inl (cI, 6, .inl (zf (fun _ => 0)))), (q18, .inr (5, [.ref u24])), (u24, .inl (cI, 30, .inl (zf (fun _ => 0)))), (q31, .inr (5, [.ref u37])), (u37, .inl (cI, 30, .inl (zf (fun _ => 0)))), (q44, .inr (5, [.ref u50])), (u50, .inl (cI, 60, .inl (zf (fun _ => 0)))), (q57, .inr (5, [.ref u63])), (u63, .inl (cI, 60, .inl (zf (fun _ => 0)))), (q70, .inr (5, [.ref u76])), (u76, .inl (cI, 60, .inl (zf (fun _ => 0)))), (q83, .inr (5, [.null]))] H := hP
  have hD : va_D A [(h0, .inr (6, [.ref q5, .ref q18, .ref q31, .ref q44, .ref q57, .ref q70, .null, .int (zi 0), .int (zi 0), .int (zi 0)])), (q5, .inr (5, [.ref u11])), (u11, .inl (cI, 6, .inl (zf (fun _ => 0)))), (q18, .inr (5, [.ref u24])), (u24, .inl (cI, 30, .inl (zf (fun _ => 0)))), (q31, .inr (5, [.ref u37])), (u37, .inl (cI, 30, .inl (zf (fun _ => 0)))), (q44, .inr (5, [.ref u50])), (u50, .inl (cI, 60, .inl (zf (fun _ => 0)))), (q57, .inr (5, [.ref u63])), (u63, .inl (cI, 60, .inl (zf (fun _ => 0)))), (q70, .inr (5, [.ref u76])), (u76, .inl (cI, 60, .inl (zf (fun _ => 0)))), (q83, .inr (5, [.null]))] := hD
  refine lv_dup hx hb dX6_init_86 rfl ?_
  refine zi_bipush hx hb dX6_init_87 (by decide) ?_
  have hPc := hP.sub (ws' := [(q83, .inr (5, [.null]))]) [13] rfl
  have hDc := hD.sub (ws' := [(q83, .inr (5, [.null]))]) [13] (by decide) rfl
  have hFc := va_free (wc := [(q83, .inr (5, [.null]))]) hD hS hA [13] rfl
  refine va_callv (va_runI (As := [.int (zi 9)]) (rest := [.ref q83, .ref h0]) ⟨hx, hb, hml, hown, hts⟩ (ct_X5_init l D cI cZ cJ q83 H.size 9 9 rfl (by decide) (by decide)) (cwI 1 hts gX6_init_X5_init rfl rfl rfl (hts _ iniX5_init_X6_init) (hts _ mlX5_init_X6_init) (hts _ inmX5_init_X6_init) rfl (by decide +kernel) ⟨Nat.le_of_ble_eq_true rfl, Nat.le_of_ble_eq_true rfl⟩) ⟨fun a U g mk q => by obtain ⟨q0, q1, qP, qK, qD⟩ := q; exact ⟨q0, q1, qP, KK.same (u := U) (U := U.calling g mk a) rfl qK, qD⟩, fun U hU hW => ⟨rfl, by rw [hU], by rw [hU]; exact hPc, KK.warm hW hK, hDc.weaken (fun _ _ _ _ => trivial)⟩⟩ rfl rfl hl.1 rfl (lv_room (Nat.le_of_ble_eq_true rfl)) dX6_init_89 ⟨Nat.le_of_ble_eq_true rfl, Nat.le_of_ble_eq_true rfl⟩) hS (fun q _ h => hFc q h) hFc (fun u89 t H1 locs ht hvm hw hB hz1 hk1 hS => ?_)
  obtain ⟨hP1, hD1⟩ := hB
  rw [ht] at hP1
  obtain ⟨hP, hD⟩ := va_join (wr := [(h0, .inr (6, [.ref q5, .ref q18, .ref q31, .ref q44, .ref q57, .ref q70, .null, .int (zi 0), .int (zi 0), .int (zi 0)])), (q5, .inr (5, [.ref u11])), (u11, .inl (cI, 6, .inl (zf (fun _ => 0)))), (q18, .inr (5, [.ref u24])), (u24, .inl (cI, 30, .inl (zf (fun _ => 0)))), (q31, .inr (5, [.ref u37])), (u37, .inl (cI, 30, .inl (zf (fun _ => 0)))), (q44, .inr (5, [.ref u50])), (u50, .inl (cI, 60, .inl (zf (fun _ => 0)))), (q57, .inr (5, [.ref u63])), (u63, .inl (cI, 60, .inl (zf (fun _ => 0)))), (q70, .inr (5, [.ref u76])), (u76, .inl (cI, 60, .inl (zf (fun _ => 0))))]) (w1 := [(q83, .inr (5, [.ref u89])), (u89, .inl (cI, 9, .inl (zf (fun _ => 0))))]) hP hD [13] [0, 1, 2, 3, 4, 5, 6, 7, 8, 9, 10, 11, 12] rfl rfl (by decide) (by decide) hk1 hFc hP1 hD1
  clear hPc hDc hFc hP1 hD1 hz1 hk1 ht hvm hw
  generalize H1 = H at hP hS ⊢
  have hP : va_P D vwCl [(h0, .inr (6, [.ref q5, .ref q18, .ref q31, .ref q44, .ref q57, .ref q70, .null, .int (zi 0), .int (zi 0), .int (zi 0)])), (q5, .inr (5, [.ref u11])), (u11, .inl (cI, 6, .inl (zf (fun _ => 0)))), (q18, .inr (5, [.ref u24])), (u24, .inl (cI, 30, .inl (zf (fun _ => 0)))), (q31, .inr (5, [.ref u37])), (u37, .inl (cI, 30, .inl (zf (fun _ => 0)))), (q44, .inr (5, [.ref u50])), (u50, .inl (cI, 60, .inl (zf (fun _ => 0)))), (q57, .inr (5, [.ref u63])), (u63, .inl (cI, 60, .inl (zf (fun _ => 0)))), (q70, .inr (5, [.ref u76])), (u76, .inl (cI, 60, .inl (zf (fun _ => 0)))), (q83, .inr (5, [.ref u89])), (u89, .inl (cI, 9, .inl (zf (fun _ => 0))))] H := hP
  have hD : va_D A [(h0, .inr (6, [.ref q5, .ref q18, .ref q31, .ref q44, .ref q57, .ref q70, .null, .int (zi 0), .int (zi 0), .int (zi 0)])), (q5, .inr (5, [.ref u11])), (u11, .inl (cI, 6, .inl (zf (fun _ => 0)))), (q18, .inr (5, [.ref u24])), (u24, .inl (cI, 30, .inl (zf (fun _ => 0)))), (q31, .inr (5, [.ref u37])), (u37, .inl (cI, 30, .inl (zf (fun _ => 0)))), (q44, .inr (5, [.ref u50])), (u50, .inl (cI, 60, .inl (zf (fun _ => 0)))), (q57, .inr (5, [.ref u63])), (u63, .inl (cI, 60, .inl (zf (fun _ => 0)))), (q70, .inr (5, [.ref u76])), (u76, .inl (cI, 60, .inl (zf (fun _ => 0)))), (q83, .inr (5, [.ref u89])), (u89, .inl (cI, 9, .inl (zf (fun _ => 0))))] := hD
  refine va_putF (D := D) (ci := 6) (v := .ref q83) (ty := (.object "PlanetoidDesk$Row")) (C := RX6) (T := TX6) (N := 10) hx hb hts ic_X6_init_6 tyX6 tyX6_ok nmX6 hown hK.1 hP hD hS 0 rfl rfl 6 (by decide) (hts _ lk6_X6_init) (fun _ h9 => h9) rfl hin rfl (by decide +kernel) rfl rfl (Nat.le_of_ble_eq_true rfl) dX6_init_92 (fun H locs hP hD hS => ?_)
  have hP : va_P D vwCl [(h0, .inr (6, [.ref q5, .ref q18, .ref q31, .ref q44, .ref q57, .ref q70, .ref q83, .int (zi 0), .int (zi 0), .int (zi 0)])), (q5, .inr (5, [.ref u11])), (u11, .inl (cI, 6, .inl (zf (fun _ => 0)))), (q18, .inr (5, [.ref u24])), (u24, .inl (cI, 30, .inl (zf (fun _ => 0)))), (q31, .inr (5, [.ref u37])), (u37, .inl (cI, 30, .inl (zf (fun _ => 0)))), (q44, .inr (5, [.ref u50])), (u50, .inl (cI, 60, .inl (zf (fun _ => 0)))), (q57, .inr (5, [.ref u63])), (u63, .inl (cI, 60, .inl (zf (fun _ => 0)))), (q70, .inr (5, [.ref u76])), (u76, .inl (cI, 60, .inl (zf (fun _ => 0)))), (q83, .inr (5, [.ref u89])), (u89, .inl (cI, 9, .inl (zf (fun _ => 0))))] H := hP
  have hD : va_D A [(h0, .inr (6, [.ref q5, .ref q18, .ref q31, .ref q44, .ref q57, .ref q70, .ref q83, .int (zi 0), .int (zi 0), .int (zi 0)])), (q5, .inr (5, [.ref u11])), (u11, .inl (cI, 6, .inl (zf (fun _ => 0)))), (q18, .inr (5, [.ref u24])), (u24, .inl (cI, 30, .inl (zf (fun _ => 0)))), (q31, .inr (5, [.ref u37])), (u37, .inl (cI, 30, .inl (zf (fun _ => 0)))), (q44, .inr (5, [.ref u50])), (u50, .inl (cI, 60, .inl (zf (fun _ => 0)))), (q57, .inr (5, [.ref u63])), (u63, .inl (cI, 60, .inl (zf (fun _ => 0)))), (q70, .inr (5, [.ref u76])), (u76, .inl (cI, 60, .inl (zf (fun _ => 0)))), (q83, .inr (5, [.ref u89])), (u89, .inl (cI, 9, .inl (zf (fun _ => 0))))] := hD
  refine W.widen (k := 14) (n := 262) (Nat.le_of_ble_eq_true rfl) (Nat.le_of_ble_eq_true rfl) ?_
  exact W.vret hx hb hr (fun t ht hW => ⟨⟨(fun i => [q5, u11, q18, u24, q31, u37, q44, u50, q57, u63, q70, u76, q83, u89].getD i 0), rfl, trivial, by rw [ht]; exact hP, hD⟩, hS.F ht⟩) hS.2.2 dX6_init_95
theorem oml_X0_init : Cond.methodLink RX0 3 objectInit ∈ wsX0_init := by decide +kernel
theorem oin_X0_init : Cond.instanceMethod objectInit ∈ wsX0_init := by decide +kernel
theorem oco_X0_init : Cond.code objectInit ⟨#[0xb1]⟩ 1 none ∈ wsX0_init := by decide +kernel
theorem ic_X0_init_5 : ∀ w ∈ wsX50, w ∈ wsX0_init := by decide +kernel
theorem cl5_X0_init : Cond.classLink RX0 9 RX5 ∈ wsX0_init := by decide +kernel
theorem ins5_X0_init : Cond.instantiable RX5 1 ∈ wsX0_init := by decide +kernel
theorem ini5_X0_init : Cond.initialized RX5 ∈ wsX0_init := by decide +kernel
theorem iniX5_init_X0_init : Cond.initialized RX5 ∈ wsX0_init := by decide +kernel
theorem inmX5_init_X0_init : Cond.instanceMethod yX5_init ∈ wsX0_init := by decide +kernel
theorem mlX5_init_X0_init : Cond.methodLink RX0 11 yX5_init ∈ wsX0_init := by decide +kernel
theorem ic_X0_init_0 : ∀ w ∈ wsX00, w ∈ wsX0_init := by decide +kernel
theorem lk0_X0_init : Cond.fieldLink RX0 14 "PlanetoidDesk$Bodies" "owners" "LPlanetoidDesk$Row;" ∈ wsX0_init := by decide +kernel
theorem lk1_X0_init : Cond.fieldLink RX0 20 "PlanetoidDesk$Bodies" "hosts" "LPlanetoidDesk$Row;" ∈ wsX0_init := by decide +kernel
theorem lk2_X0_init : Cond.fieldLink RX0 23 "PlanetoidDesk$Bodies" "joinTimes" "LPlanetoidDesk$Row;" ∈ wsX0_init := by decide +kernel
theorem lk3_X0_init : Cond.fieldLink RX0 26 "PlanetoidDesk$Bodies" "numbers" "LPlanetoidDesk$Row;" ∈ wsX0_init := by decide +kernel
theorem lk4_X0_init : Cond.fieldLink RX0 29 "PlanetoidDesk$Bodies" "properCourses" "LPlanetoidDesk$Row;" ∈ wsX0_init := by decide +kernel
set_option maxHeartbeats 4000000 in
set_option maxRecDepth 100000 in
theorem ct_X0_init (l : Launch) (D : va_G) (cI cZ cJ : ClassId) (h0 sz : Nat) : Met l yX0_init wsX0_init { frames := 2, cells := 10, slots := 145, locals := 33 } (va_Pc [.ref h0] (fun U => U.heap.size = sz ∧ va_P D vwCl [(h0, .inr (0, [.null, .null, .null, .null, .null, .int (zi 0), .int (zi 0), .int (zi 0)]))] U.heap ∧ KK D cI cZ cJ U ∧ va_D (fun _ => True) [(h0, .inr (0, [.null, .null, .null, .null, .null, .int (zi 0), .int (zi 0), .int (zi 0)]))])) (va_Qv (S := Nat → Nat) (fun _ => True) (fun u t => va_P D vwCl [(h0, .inr (0, [.ref (u 0), .ref (u 2), .ref (u 4), .ref (u 6), .ref (u 8), .int (zi 0), .int (zi 0), .int (zi 0)])), ((u 0), .inr (5, [.ref (u 1)])), ((u 1), .inl (cI, 60, .inl (zf (rFill 60 (fun _ => 0) (-1))))), ((u 2), .inr (5, [.ref (u 3)])), ((u 3), .inl (cI, 20, .inl (zf (rFill 20 (fun _ => 0) (-1))))), ((u 4), .inr (5, [.ref (u 5)])), ((u 5), .inl (cI, 20, .inl (zf (fun _ => 0)))), ((u 6), .inr (5, [.ref (u 7)])), ((u 7), .inl (cI, 20, .inl (zf (rFill 20 (fun _ => 0) (-1))))), ((u 8), .inr (5, [.ref (u 9)])), ((u 9), .inl (cI, 20, .inl (zf (fun _ => 0))))] t.heap ∧ va_D (va_A [(h0, .inr (0, [.null, .null, .null, .null, .null, .int (zi 0), .int (zi 0), .int (zi 0)]))] sz) [(h0, .inr (0, [.ref (u 0), .ref (u 2), .ref (u 4), .ref (u 6), .ref (u 8), .int (zi 0), .int (zi 0), .int (zi 0)])), ((u 0), .inr (5, [.ref (u 1)])), ((u 1), .inl (cI, 60, .inl (zf (rFill 60 (fun _ => 0) (-1))))), ((u 2), .inr (5, [.ref (u 3)])), ((u 3), .inl (cI, 20, .inl (zf (rFill 20 (fun _ => 0) (-1))))), ((u 4), .inr (5, [.ref (u 5)])), ((u 5), .inl (cI, 20, .inl (zf (fun _ => 0)))), ((u 6), .inr (5, [.ref (u 7)])), ((u 7), .inl (cI, 20, .inl (zf (rFill 20 (fun _ => 0) (-1))))), ((u 8), .inr (5, [.ref (u 9)])), ((u 9), .inl (cI, 20, .inl (zf (fun _ => 0))))]) (va_A [(h0, .inr (0, [.null, .null, .null, .null, .null, .int (zi 0), .int (zi 0), .int (zi 0)]))] sz)) 10 145 (va_A [(h0, .inr (0, [.null, .null, .null, .null, .null, .int (zi 0), .int (zi 0), .int (zi 0)]))] sz) := by
  refine Met.ofW (cc := cX0_init) (maxL := 1) (ret := none) (by decide) rfl ?_
  intro p e s m args below meth c s₁ B hml hv
  obtain ⟨rfl, hsz, hP, hK, hD0⟩ := hv
  have hx := B.exec
  have hb := B.bytes
  have hr := B.returns
  have hts := atoms_spec (ws := wsX0_init) B.pre
  have hown : s.vm.findClass RX0 = some m.cls := findClass_of_methodNamed B.named
  have hlocks := B.notSynchronized
  have hin : meth.name = "<init>" := (name_of_methodNamed B.named B.method).1
  subst hsz
  have hD := hD0.self (sz := s.heap.size)
  generalize hAe : va_A [(h0, .inr (0, [.null, .null, .null, .null, .null, .int (zi 0), .int (zi 0), .int (zi 0)]))] s.heap.size = A at hD ⊢
  have hA : ∀ q : Nat, s.heap.size ≤ q → A q := fun q h => by rw [← hAe]; exact Or.inr h
  have hS : va_S A s.heap s.heap [] := va_S.rf
  have hP : va_P D vwCl [(h0, .inr (0, [.null, .null, .null, .null, .null, .int (zi 0), .int (zi 0), .int (zi 0)]))] s.heap := hP
  have hl := lv_entry ([.ref h0]) (n := 1) (Nat.le_of_ble_eq_true rfl)
  rw [lg_entry_eq]
  generalize (lg_sl ([.ref h0]) ++ List.replicate (1 - (lg_sl ([.ref h0])).length) Slot.unset).toArray = ls at hl ⊢
  have hl : lv_has ls 1 [(0, .ref h0)] := hl
  refine lv_aload_n hx hb dX0_init_0 rfl (lv_at hl 0 rfl) ?_
  refine W.objInit hx hb hown (hts _ oml_X0_init) (hts _ oin_X0_init) (hts _ oco_X0_init) rfl (by rw [hml]; exact hl.1) rfl dX0_init_1 (Nat.le_of_ble_eq_true rfl) (Nat.le_of_ble_eq_true rfl) ?_
  refine W.eq (g2 := F0 m 4 ls []) rfl ?_
  refine lv_aload_n hx hb dX0_init_4 rfl (lv_at hl 0 rfl) ?_
  refine va_new (ci := 5) (fs := [.null]) (C := RX5) (T := TX5) (N := 1) hx hb hts ic_X0_init_5 tyX5 tyX5_ok hown (hts _ cl5_X0_init) (hts _ ins5_X0_init) (hts _ ini5_X0_init) hK.1 hP hD hS hA rfl (fun j hj => by rcases (show j = 0 by omega) with rfl <;> rfl) (Nat.le_of_ble_eq_true rfl) (Nat.le_of_ble_eq_true rfl) dX0_init_5 (fun q5 H hP hD hS => ?_)
  have hP : va_P D vwCl [(h0, .inr (0, [.null, .null, .null, .null, .null, .int (zi 0), .int (zi 0), .int (zi 0)])), (q5, .inr (5, [.null]))] H := hP
  have hD : va_D A [(h0, .inr (0, [.null, .null, .null, .null, .null, .int (zi 0), .int (zi 0), .int (zi 0)])), (q5, .inr (5, [.null]))] := hD
  refine lv_dup hx hb dX0_init_8 rfl ?_
  refine zi_bipush hx hb dX0_init_9 (by decide) ?_
  have hPc := hP.sub (ws' := [(q5, .inr (5, [.null]))]) [1] rfl
  have hDc := hD.sub (ws' := [(q5, .inr (5, [.null]))]) [1] (by decide) rfl
  have hFc := va_free (wc := [(q5, .inr (5, [.null]))]) hD hS hA [1] rfl
  refine va_callv (va_runI (As := [.int (zi 60)]) (rest := [.ref q5, .ref h0]) ⟨hx, hb, hml, hown, hts⟩ (ct_X5_init l D cI cZ cJ q5 H.size 60 60 rfl (by decide) (by decide)) (cwI 1 hts gX0_init_X5_init rfl rfl rfl (hts _ iniX5_init_X0_init) (hts _ mlX5_init_X0_init) (hts _ inmX5_init_X0_init) rfl (by decide +kernel) ⟨Nat.le_of_ble_eq_true rfl, Nat.le_of_ble_eq_true rfl⟩) ⟨fun a U g mk q => by obtain ⟨q0, q1, qP, qK, qD⟩ := q; exact ⟨q0, q1, qP, KK.same (u := U) (U := U.calling g mk a) rfl qK, qD⟩, fun U hU hW => ⟨rfl, by rw [hU], by rw [hU]; exact hPc, KK.warm hW hK, hDc.weaken (fun _ _ _ _ => trivial)⟩⟩ rfl rfl hl.1 rfl (lv_room (Nat.le_of_ble_eq_true rfl)) dX0_init_11 ⟨Nat.le_of_ble_eq_true rfl, Nat.le_of_ble_eq_true rfl⟩) hS (fun q _ h => hFc q h) hFc (fun u11 t H1 locs ht hvm hw hB hz1 hk1 hS => ?_)
  obtain ⟨hP1, hD1⟩ := hB
  rw [ht] at hP1
  obtain ⟨hP, hD⟩ := va_join (wr := [(h0, .inr (0, [.null, .null, .null, .null, .null, .int (zi 0), .int (zi 0), .int (zi 0)]))]) (w1 := [(q5, .inr (5, [.ref u11])), (u11, .inl (cI, 60, .inl (zf (fun _ => 0))))]) hP hD [1] [0] rfl rfl (by decide) (by decide) hk1 hFc hP1 hD1
  clear hPc hDc hFc hP1 hD1 hz1 hk1 ht hvm hw
  generalize H1 = H at hP hS ⊢
  have hP : va_P D vwCl [(h0, .inr (0, [.null, .null, .null, .null, .null, .int (zi 0), .int (zi 0), .int (zi 0)])), (q5, .inr (5, [.ref u11])), (u11, .inl (cI, 60, .inl (zf (fun _ => 0))))] H := hP
  have hD : va_D A [(h0, .inr (0, [.null, .null, .null, .null, .null, .int (zi 0), .int (zi 0), .int (zi 0)])), (q5, .inr (5, [.ref u11])), (u11, .inl (cI, 60, .inl (zf (fun _ => 0))))] := hD
  refine va_putF (D := D) (ci := 0) (v := .ref q5) (ty := (.object "PlanetoidDesk$Row")) (C := RX0) (T := TX0) (N := 8) hx hb hts ic_X0_init_0 tyX0 tyX0_ok nmX0 hown hK.1 hP hD hS 0 rfl rfl 0 (by decide) (hts _ lk0_X0_init) (fun _ h9 => h9) rfl hin rfl (by decide +kernel) rfl rfl (Nat.le_of_ble_eq_true rfl) dX0_init_14 (fun H locs hP hD hS => ?_)
  have hP : va_P D vwCl [(h0, .inr (0, [.ref q5, .null, .null, .null, .null, .int (zi 0), .int (zi 0), .int (zi 0)])), (q5, .inr (5, [.ref u11])), (u11, .inl (cI, 60, .inl (zf (fun _ => 0))))] H := hP
  have hD : va_D A [(h0, .inr (0, [.ref q5, .null, .null, .null, .null, .int (zi 0), .int (zi 0), .int (zi 0)])), (q5, .inr (5, [.ref u11])), (u11, .inl (cI, 60, .inl (zf (fun _ => 0))))] := hD
  refine lv_aload_n hx hb dX0_init_17 rfl (lv_at hl 0 rfl) ?_
  refine va_new (ci := 5) (fs := [.null]) (C := RX5) (T := TX5) (N := 1) hx hb hts ic_X0_init_5 tyX5 tyX5_ok hown (hts _ cl5_X0_init) (hts _ ins5_X0_init) (hts _ ini5_X0_init) hK.1 hP hD hS hA rfl (fun j hj => by rcases (show j = 0 by omega) with rfl <;> rfl) (Nat.le_of_ble_eq_true rfl) (Nat.le_of_ble_eq_true rfl) dX0_init_18 (fun q18 H hP hD hS => ?_)
  have hP : va_P D vwCl [(h0, .inr (0, [.ref q5, .null, .null, .null, .null, .int (zi 0), .int (zi 0), .int (zi 0)])), (q5, .inr (5, [.ref u11])), (u11, .inl (cI, 60, .inl (zf (fun _ => 0)))), (q18, .inr (5, [.null]))] H := hP
  have hD : va_D A [(h0, .inr (0, [.ref q5, .null, .null, .null, .null, .int (zi 0), .int (zi 0), .int (zi 0)])), (q5, .inr (5, [.ref u11])), (u11, .inl (cI, 60, .inl (zf (fun _ => 0)))), (q18, .inr (5, [.null]))] := hD
  refine lv_dup hx hb dX0_init_21 rfl ?_
  refine zi_bipush hx hb dX0_init_22 (by decide) ?_
  have hPc := hP.sub (ws' := [(q18, .inr (5, [.null]))]) [3] rfl
  have hDc := hD.sub (ws' := [(q18, .inr (5, [.null]))]) [3] (by decide) rfl
  have hFc := va_free (wc := [(q18, .inr (5, [.null]))]) hD hS hA [3] rfl
  refine va_callv (va_runI (As := [.int (zi 20)]) (rest := [.ref q18, .ref h0]) ⟨hx, hb, hml, hown, hts⟩ (ct_X5_init l D cI cZ cJ q18 H.size 20 20 rfl (by decide) (by decide)) (cwI 1 hts gX0_init_X5_init rfl rfl rfl (hts _ iniX5_init_X0_init) (hts _ mlX5_init_X0_init) (hts _ inmX5_init_X0_init) rfl (by decide +kernel) ⟨Nat.le_of_ble_eq_true rfl, Nat.le_of_ble_eq_true rfl⟩) ⟨fun a U g mk q => by obtain ⟨q0, q1, qP, qK, qD⟩ := q; exact ⟨q0, q1, qP, KK.same (u := U) (U := U.calling g mk a) rfl qK, qD⟩, fun U hU hW => ⟨rfl, by rw [hU], by rw [hU]; exact hPc, KK.warm hW hK, hDc.weaken (fun _ _ _ _ => trivial)⟩⟩ rfl rfl hl.1 rfl (lv_room (Nat.le_of_ble_eq_true rfl)) dX0_init_24 ⟨Nat.le_of_ble_eq_true rfl, Nat.le_of_ble_eq_true rfl⟩) hS (fun q _ h => hFc q h) hFc (fun u24 t H1 locs ht hvm hw hB hz1 hk1 hS => ?_)
  obtain ⟨hP1, hD1⟩ := hB
  rw [ht] at hP1
  obtain ⟨hP, hD⟩ := va_join (wr := [(h0, .inr (0, [.ref q5, .null, .null, .null, .null, .int (zi 0), .int (zi 0), .int (zi 0)])), (q5, .inr (5, [.ref u11])), (u11, .inl (cI, 60, .inl (zf (fun _ => 0))))]) (w1 := [(q18, .inr (5, [.ref u24])), (u24, .inl (cI, 20, .inl (zf (fun _ => 0))))]) hP hD [3] [0, 1, 2] rfl rfl (by decide) (by decide) hk1 hFc hP1 hD1
  clear hPc hDc hFc hP1 hD1 hz1 hk1 ht hvm hw
  generalize H1 = H at hP hS ⊢
  have hP : va_P D vwCl [(h0, .inr (0, [.ref q5, .null, .null, .null, .null, .int (zi 0), .int (zi 0), .int (zi 0)])), (q5, .inr (5, [.ref u11])), (u11, .inl (cI, 60, .inl (zf (fun _ => 0)))), (q18, .inr (5, [.ref u24])), (u24, .inl (cI, 20, .inl (zf (fun _ => 0))))] H := hP
  have hD : va_D A [(h0, .inr (0, [.ref q5, .null, .null, .null, .null, .int (zi 0), .int (zi 0), .int (zi 0)])), (q5, .inr (5, [.ref u11])), (u11, .inl (cI, 60, .inl (zf (fun _ => 0)))), (q18, .inr (5, [.ref u24])), (u24, .inl (cI, 20, .inl (zf (fun _ => 0))))] := hD
  refine va_putF (D := D) (ci := 0) (v := .ref q18) (ty := (.object "PlanetoidDesk$Row")) (C := RX0) (T := TX0) (N := 8) hx hb hts ic_X0_init_0 tyX0 tyX0_ok nmX0 hown hK.1 hP hD hS 0 rfl rfl 1 (by decide) (hts _ lk1_X0_init) (fun _ h9 => h9) rfl hin rfl (by decide +kernel) rfl rfl (Nat.le_of_ble_eq_true rfl) dX0_init_27 (fun H locs hP hD hS => ?_)
  have hP : va_P D vwCl [(h0, .inr (0, [.ref q5, .ref q18, .null, .null, .null, .int (zi 0), .int (zi 0), .int (zi 0)])), (q5, .inr (5, [.ref u11])), (u11, .inl (cI, 60, .inl (zf (fun _ => 0)))), (q18, .inr (5, [.ref u24])), (u24, .inl (cI, 20, .inl (zf (fun _ => 0))))] H := hP
  have hD : va_D A [(h0, .inr (0, [.ref q5, .ref q18, .null, .null, .null, .int (zi 0), .int (zi 0), .int (zi 0)])), (q5, .inr (5, [.ref u11])), (u11, .inl (cI, 60, .inl (zf (fun _ => 0)))), (q18, .inr (5, [.ref u24])), (u24, .inl (cI, 20, .inl (zf (fun _ => 0))))] := hD
  refine lv_aload_n hx hb dX0_init_30 rfl (lv_at hl 0 rfl) ?_
  refine va_new (ci := 5) (fs := [.null]) (C := RX5) (T := TX5) (N := 1) hx hb hts ic_X0_init_5 tyX5 tyX5_ok hown (hts _ cl5_X0_init) (hts _ ins5_X0_init) (hts _ ini5_X0_init) hK.1 hP hD hS hA rfl (fun j hj => by rcases (show j = 0 by omega) with rfl <;> rfl) (Nat.le_of_ble_eq_true rfl) (Nat.le_of_ble_eq_true rfl) dX0_init_31 (fun q31 H hP hD hS => ?_)
  have hP : va_P D vwCl [(h0, .inr (0, [.ref q5, .ref q18, .null, .null, .null, .int (zi 0), .int (zi 0), .int (zi 0)])), (q5, .inr (5, [.ref u11])), (u11, .inl (cI, 60, .inl (zf (fun _ => 0)))), (q18, .inr (5, [.ref u24])), (u24, .inl (cI, 20, .inl (zf (fun _ => 0)))), (q31, .inr (5, [.null]))] H := hP
  have hD : va_D A [(h0, .inr (0, [.ref q5, .ref q18, .null, .null, .null, .int (zi 0), .int (zi 0), .int (zi 0)])), (q5, .inr (5, [.ref u11])), (u11, .inl (cI, 60, .inl (zf (fun _ => 0)))), (q18, .inr (5, [.ref u24])), (u24, .inl (cI, 20, .inl (zf (fun _ => 0)))), (q31, .inr (5, [.null]))] := hD
  refine lv_dup hx hb dX0_init_34 rfl ?_
  refine zi_bipush hx hb dX0_init_35 (by decide) ?_
  have hPc := hP.sub (ws' := [(q31, .inr (5, [.null]))]) [5] rfl
  have hDc := hD.sub (ws' := [(q31, .inr (5, [.null]))]) [5] (by decide) rfl
  have hFc := va_free (wc := [(q31, .inr (5, [.null]))]) hD hS hA [5] rfl
  refine va_callv (va_runI (As := [.int (zi 20)]) (rest := [.ref q31, .ref h0]) ⟨hx, hb, hml, hown, hts⟩ (ct_X5_init l D cI cZ cJ q31 H.size 20 20 rfl (by decide) (by decide)) (cwI 1 hts gX0_init_X5_init rfl rfl rfl (hts _ iniX5_init_X0_init) (hts _ mlX5_init_X0_init) (hts _ inmX5_init_X0_init) rfl (by decide +kernel) ⟨Nat.le_of_ble_eq_true rfl, Nat.le_of_ble_eq_true rfl⟩) ⟨fun a U g mk q => by obtain ⟨q0, q1, qP, qK, qD⟩ := q; exact ⟨q0, q1, qP, KK.same (u := U) (U := U.calling g mk a) rfl qK, qD⟩, fun U hU hW => ⟨rfl, by rw [hU], by rw [hU]; exact hPc, KK.warm hW hK, hDc.weaken (fun _ _ _ _ => trivial)⟩⟩ rfl rfl hl.1 rfl (lv_room (Nat.le_of_ble_eq_true rfl)) dX0_init_37 ⟨Nat.le_of_ble_eq_true rfl, Nat.le_of_ble_eq_true rfl⟩) hS (fun q _ h => hFc q h) hFc (fun u37 t H1 locs ht hvm hw hB hz1 hk1 hS => ?_)
  obtain ⟨hP1, hD1⟩ := hB
  rw [ht] at hP1
  obtain ⟨hP, hD⟩ := va_join (wr := [(h0, .inr (0, [.ref q5, .ref q18, .null, .null, .null, .int (zi 0), .int (zi 0), .int (zi 0)])), (q5, .inr (5, [.ref u11])), (u11, .inl (cI, 60, .inl (zf (fun _ => 0)))), (q18, .inr (5, [.ref u24])), (u24, .inl (cI, 20, .inl (zf (fun _ => 0))))]) (w1 := [(q31, .inr (5, [.ref u37])), (u37, .inl (cI, 20, .inl (zf (fun _ => 0))))]) hP hD [5] [0, 1, 2, 3, 4] rfl rfl (by decide) (by decide) hk1 hFc hP1 hD1
  clear hPc hDc hFc hP1 hD1 hz1 hk1 ht hvm hw
  generalize H1 = H at hP hS ⊢
  have hP : va_P D vwCl [(h0, .inr (0, [.ref q5, .ref q18, .null, .null, .null, .int (zi 0), .int (zi 0), .int (zi 0)])), (q5, .inr (5, [.ref u11])), (u11, .inl (cI, 60, .inl (zf (fun _ => 0)))), (q18, .inr (5, [.ref u24])), (u24, .inl (cI, 20, .inl (zf (fun _ => 0)))), (q31, .inr (5, [.ref u37])), (u37, .inl (cI, 20, .inl (zf (fun _ => 0))))] H := hP
  have hD : va_D A [(h0, .inr (0, [.ref q5, .ref q18, .null, .null, .null, .int (zi 0), .int (zi 0), .int (zi 0)])), (q5, .inr (5, [.ref u11])), (u11, .inl (cI, 60, .inl (zf (fun _ => 0)))), (q18, .inr (5, [.ref u24])), (u24, .inl (cI, 20, .inl (zf (fun _ => 0)))), (q31, .inr (5, [.ref u37])), (u37, .inl (cI, 20, .inl (zf (fun _ => 0))))] := hD
  refine va_putF (D := D) (ci := 0) (v := .ref q31) (ty := (.object "PlanetoidDesk$Row")) (C := RX0) (T := TX0) (N := 8) hx hb hts ic_X0_init_0 tyX0 tyX0_ok nmX0 hown hK.1 hP hD hS 0 rfl rfl 2 (by decide) (hts _ lk2_X0_init) (fun _ h9 => h9) rfl hin rfl (by decide +kernel) rfl rfl (Nat.le_of_ble_eq_true rfl) dX0_init_40 (fun H locs hP hD hS => ?_)
  have hP : va_P D vwCl [(h0, .inr (0, [.ref q5, .ref q18, .ref q31, .null, .null, .int (zi 0), .int (zi 0), .int (zi 0)])), (q5, .inr (5, [.ref u11])), (u11, .inl (cI, 60, .inl (zf (fun _ => 0)))), (q18, .inr (5, [.ref u24])), (u24, .inl (cI, 20, .inl (zf (fun _ => 0)))), (q31, .inr (5, [.ref u37])), (u37, .inl (cI, 20, .inl (zf (fun _ => 0))))] H := hP
  have hD : va_D A [(h0, .inr (0, [.ref q5, .ref q18, .ref q31, .null, .null, .int (zi 0), .int (zi 0), .int (zi 0)])), (q5, .inr (5, [.ref u11])), (u11, .inl (cI, 60, .inl (zf (fun _ => 0)))), (q18, .inr (5, [.ref u24])), (u24, .inl (cI, 20, .inl (zf (fun _ => 0)))), (q31, .inr (5, [.ref u37])), (u37, .inl (cI, 20, .inl (zf (fun _ => 0))))] := hD
  refine lv_aload_n hx hb dX0_init_43 rfl (lv_at hl 0 rfl) ?_
  refine va_new (ci := 5) (fs := [.null]) (C := RX5) (T := TX5) (N := 1) hx hb hts ic_X0_init_5 tyX5 tyX5_ok hown (hts _ cl5_X0_init) (hts _ ins5_X0_init) (hts _ ini5_X0_init) hK.1 hP hD hS hA rfl (fun j hj => by rcases (show j = 0 by omega) with rfl <;> rfl) (Nat.le_of_ble_eq_true rfl) (Nat.le_of_ble_eq_true rfl) dX0_init_44 (fun q44 H hP hD hS => ?_)
  have hP : va_P D vwCl [(h0, .inr (0, [.ref q5, .ref q18, .ref q31, .null, .null, .int (zi 0), .int (zi 0), .int (zi 0)])), (q5, .inr (5, [.ref u11])), (u11, .inl (cI, 60, .inl (zf (fun _ => 0)))), (q18, .inr (5, [.ref u24])), (u24, .inl (cI, 20, .inl (zf (fun _ => 0)))), (q31, .inr (5, [.ref u37])), (u37, .inl (cI, 20, .inl (zf (fun _ => 0)))), (q44, .inr (5, [.null]))] H := hP
  have hD : va_D A [(h0, .inr (0, [.ref q5, .ref q18, .ref q31, .null, .null, .int (zi 0), .int (zi 0), .int (zi 0)])), (q5, .inr (5, [.ref u11])), (u11, .inl (cI, 60, .inl (zf (fun _ => 0)))), (q18, .inr (5, [.ref u24])), (u24, .inl (cI, 20, .inl (zf (fun _ => 0)))), (q31, .inr (5, [.ref u37])), (u37, .inl (cI, 20, .inl (zf (fun _ => 0)))), (q44, .inr (5, [.null]))] := hD
  refine lv_dup hx hb dX0_init_47 rfl ?_
  refine zi_bipush hx hb dX0_init_48 (by decide) ?_
  have hPc := hP.sub (ws' := [(q44, .inr (5, [.null]))]) [7] rfl
  have hDc := hD.sub (ws' := [(q44, .inr (5, [.null]))]) [7] (by decide) rfl
  have hFc := va_free (wc := [(q44, .inr (5, [.null]))]) hD hS hA [7] rfl
  refine va_callv (va_runI (As := [.int (zi 20)]) (rest := [.ref q44, .ref h0]) ⟨hx, hb, hml, hown, hts⟩ (ct_X5_init l D cI cZ cJ q44 H.size 20 20 rfl (by decide) (by decide)) (cwI 1 hts gX0_init_X5_init rfl rfl rfl (hts _ iniX5_init_X0_init) (hts _ mlX5_init_X0_init) (hts _ inmX5_init_X0_init) rfl (by decide +kernel) ⟨Nat.le_of_ble_eq_true rfl, Nat.le_of_ble_eq_true rfl⟩) ⟨fun a U g mk q => by obtain ⟨q0, q1, qP, qK, qD⟩ := q; exact ⟨q0, q1, qP, KK.same (u := U) (U := U.calling g mk a) rfl qK, qD⟩, fun U hU hW => ⟨rfl, by rw [hU], by rw [hU]; exact hPc, KK.warm hW hK, hDc.weaken (fun _ _ _ _ => trivial)⟩⟩ rfl rfl hl.1 rfl (lv_room (Nat.le_of_ble_eq_true rfl)) dX0_init_50 ⟨Nat.le_of_ble_eq_true rfl, Nat.le_of_ble_eq_true rfl⟩) hS (fun q _ h => hFc q h) hFc (fun u50 t H1 locs ht hvm hw hB hz1 hk1 hS => ?_)
  obtain ⟨hP1, hD1⟩ := hB
  rw [ht] at hP1
  obtain ⟨hP, hD⟩ := va_join (wr := [(h0, .inr (0, [.ref q5, .ref q18, .ref q31, .null, .null, .int (zi 0), .int (zi 0), .int (zi 0)])), (q5, .inr (5, [.ref u11])), (u11, .inl (cI, 60, .inl (zf (fun _ => 0)))), (q18, .inr (5, [.ref u24])), (u24, .inl (cI, 20, .inl (zf (fun _ => 0)))), (q31, .inr (5, [.ref u37])), (u37, .inl (cI, 20, .inl (zf (fun _ => 0))))]) (w1 := [(q44, .inr (5, [.ref u50])), (u50, .inl (cI, 20, .inl (zf (fun _ => 0))))]) hP hD [7] [0, 1, 2, 3, 4, 5, 6] rfl rfl (by decide) (by decide) hk1 hFc hP1 hD1
  clear hPc hDc hFc hP1 hD1 hz1 hk1 ht hvm hw
  generalize H1 = H at hP hS ⊢
  have hP : va_P D vwCl [(h0, .inr (0, [.ref q5, .ref q18, .ref q31, .null, .null, .int (zi 0), .int (zi 0), .int (zi 0)])), (q5, .inr (5, [.ref u11])), (u11, .inl (cI, 60, .inl (zf (fun _ => 0)))), (q18, .inr (5, [.ref u24])), (u24, .inl (cI, 20, .inl (zf (fun _ => 0)))), (q31, .inr (5, [.ref u37])), (u37, .inl (cI, 20, .inl (zf (fun _ => 0)))), (q44, .inr (5, [.ref u50])), (u50, .inl (cI, 20, .inl (zf (fun _ => 0))))] H := hP
  have hD : va_D A [(h0, .inr (0, [.ref q5, .ref q18, .ref q31, .null, .null, .int (zi 0), .int (zi 0), .int (zi 0)])), (q5, .inr (5, [.ref u11])), (u11, .inl (cI, 60, .inl (zf (fun _ => 0)))), (q18, .inr (5, [.ref u24])), (u24, .inl (cI, 20, .inl (zf (fun _ => 0)))), (q31, .inr (5, [.ref u37])), (u37, .inl (cI, 20, .inl (zf (fun _ => 0)))), (q44, .inr (5, [.ref u50])), (u50, .inl (cI, 20, .inl (zf (fun _ => 0))))] := hD
  refine va_putF (D := D) (ci := 0) (v := .ref q44) (ty := (.object "PlanetoidDesk$Row")) (C := RX0) (T := TX0) (N := 8) hx hb hts ic_X0_init_0 tyX0 tyX0_ok nmX0 hown hK.1 hP hD hS 0 rfl rfl 3 (by decide) (hts _ lk3_X0_init) (fun _ h9 => h9) rfl hin rfl (by decide +kernel) rfl rfl (Nat.le_of_ble_eq_true rfl) dX0_init_53 (fun H locs hP hD hS => ?_)
  have hP : va_P D vwCl [(h0, .inr (0, [.ref q5, .ref q18, .ref q31, .ref q44, .null, .int (zi 0), .int (zi 0), .int (zi 0)])), (q5, .inr (5, [.ref u11])), (u11, .inl (cI, 60, .inl (zf (fun _ => 0)))), (q18, .inr (5, [.ref u24])), (u24, .inl (cI, 20, .inl (zf (fun _ => 0)))), (q31, .inr (5, [.ref u37])), (u37, .inl (cI, 20, .inl (zf (fun _ => 0)))), (q44, .inr (5, [.ref u50])), (u50, .inl (cI, 20, .inl (zf (fun _ => 0))))] H := hP
  have hD : va_D A [(h0, .inr (0, [.ref q5, .ref q18, .ref q31, .ref q44, .null, .int (zi 0), .int (zi 0), .int (zi 0)])), (q5, .inr (5, [.ref u11])), (u11, .inl (cI, 60, .inl (zf (fun _ => 0)))), (q18, .inr (5, [.ref u24])), (u24, .inl (cI, 20, .inl (zf (fun _ => 0)))), (q31, .inr (5, [.ref u37])), (u37, .inl (cI, 20, .inl (zf (fun _ => 0)))), (q44, .inr (5, [.ref u50])), (u50, .inl (cI, 20, .inl (zf (fun _ => 0))))] := hD
  refine lv_aload_n hx hb dX0_init_56 rfl (lv_at hl 0 rfl) ?_
  refine va_new (ci := 5) (fs := [.null]) (C := RX5) (T := TX5) (N := 1) hx hb hts ic_X0_init_5 tyX5 tyX5_ok hown (hts _ cl5_X0_init) (hts _ ins5_X0_init) (hts _ ini5_X0_init) hK.1 hP hD hS hA rfl (fun j hj => by rcases (show j = 0 by omega) with rfl <;> rfl) (Nat.le_of_ble_eq_true rfl) (Nat.le_of_ble_eq_true rfl) dX0_init_57 (fun q57 H hP hD hS => ?_)
  have hP : va_P D vwCl [(h0, .inr (0, [.ref q5, .ref q18, .ref q31, .ref q44, .null, .int (zi 0), .int (zi 0), .int (zi 0)])), (q5, .inr (5, [.ref u11])), (u11, .inl (cI, 60, .inl (zf (fun _ => 0)))), (q18, .inr (5, [.ref u24])), (u24, .inl (cI, 20, .inl (zf (fun _ => 0)))), (q31, .inr (5, [.ref u37])), (u37, .inl (cI, 20, .inl (zf (fun _ => 0)))), (q44, .inr (5, [.ref u50])), (u50, .inl (cI, 20, .inl (zf (fun _ => 0)))), (q57, .inr (5, [.null]))] H := hP
  have hD : va_D A [(h0, .inr (0, [.ref q5, .ref q18, .ref q31, .ref q44, .null, .int (zi 0), .int (zi 0), .int (zi 0)])), (q5, .inr (5, [.ref u11])), (u11, .inl (cI, 60, .inl (zf (fun _ => 0)))), (q18, .inr (5, [.ref u24])), (u24, .inl (cI, 20, .inl (zf (fun _ => 0)))), (q31, .inr (5, [.ref u37])), (u37, .inl (cI, 20, .inl (zf (fun _ => 0)))), (q44, .inr (5, [.ref u50])), (u50, .inl (cI, 20, .inl (zf (fun _ => 0)))), (q57, .inr (5, [.null]))] := hD
  refine lv_dup hx hb dX0_init_60 rfl ?_
  refine zi_bipush hx hb dX0_init_61 (by decide) ?_
  have hPc := hP.sub (ws' := [(q57, .inr (5, [.null]))]) [9] rfl
  have hDc := hD.sub (ws' := [(q57, .inr (5, [.null]))]) [9] (by decide) rfl
  have hFc := va_free (wc := [(q57, .inr (5, [.null]))]) hD hS hA [9] rfl
  refine va_callv (va_runI (As := [.int (zi 20)]) (rest := [.ref q57, .ref h0]) ⟨hx, hb, hml, hown, hts⟩ (ct_X5_init l D cI cZ cJ q57 H.size 20 20 rfl (by decide) (by decide)) (cwI 1 hts gX0_init_X5_init rfl rfl rfl (hts _ iniX5_init_X0_init) (hts _ mlX5_init_X0_init) (hts _ inmX5_init_X0_init) rfl (by decide +kernel) ⟨Nat.le_of_ble_eq_true rfl, Nat.le_of_ble_eq_true rfl⟩) ⟨fun a U g mk q => by obtain ⟨q0, q1, qP, qK, qD⟩ := q; exact ⟨q0, q1, qP, KK.same (u := U) (U := U.calling g mk a) rfl qK, qD⟩, fun U hU hW => ⟨rfl, by rw [hU], by rw [hU]; exact hPc, KK.warm hW hK, hDc.weaken (fun _ _ _ _ => trivial)⟩⟩ rfl rfl hl.1 rfl (lv_room (Nat.le_of_ble_eq_true rfl)) dX0_init_63 ⟨Nat.le_of_ble_eq_true rfl, Nat.le_of_ble_eq_true rfl⟩) hS (fun q _ h => hFc q h) hFc (fun u63 t H1 locs ht hvm hw hB hz1 hk1 hS => ?_)
  obtain ⟨hP1, hD1⟩ := hB
  rw [ht] at hP1
  obtain ⟨hP, hD⟩ := va_join (wr := [(h0, .inr (0, [.ref q5, .ref q18, .ref q31, .ref q44, .null, .int (zi 0), .int (zi 0), .int (zi 0)])), (q5, .inr (5, [.ref u11])), (u11, .inl (cI, 60, .inl (zf (fun _ => 0)))), (q18, .inr (5, [.ref u24])), (u24, .inl (cI, 20, .inl (zf (fun _ => 0)))), (q31, .inr (5, [.ref u37])), (u37, .inl (cI, 20, .inl (zf (fun _ => 0)))), (q44, .inr (5, [.ref u50])), (u50, .inl (cI, 20, .inl (zf (fun _ => 0))))]) (w1 := [(q57, .inr (5, [.ref u63])), (u63, .inl (cI, 20, .inl (zf (fun _ => 0))))]) hP hD [9] [0, 1, 2, 3, 4, 5, 6, 7, 8] rfl rfl (by decide) (by decide) hk1 hFc hP1 hD1
  clear hPc hDc hFc hP1 hD1 hz1 hk1 ht hvm hw
  generalize H1 = H at hP hS ⊢
  have hP : va_P D vwCl [(h0, .inr (0, [.ref q5, .ref q18, .ref q31, .ref q44, .null, .int (zi 0), .int (zi 0), .int (zi 0)])), (q5, .inr (5, [.ref u11])), (u11, .inl (cI, 60, .inl (zf (fun _ => 0)))), (q18, .inr (5, [.ref u24])), (u24, .inl (cI, 20, .inl (zf (fun _ => 0)))), (q31, .inr (5, [.ref u37])), (u37, .inl (cI, 20, .inl (zf (fun _ => 0)))), (q44, .inr (5, [.ref u50])), (u50, .inl (cI, 20, .inl (zf (fun _ => 0)))), (q57, .inr (5, [.ref u63])), (u63, .inl (cI, 20, .inl (zf (fun _ => 0))))] H := hP
  have hD : va_D A [(h0, .inr (0, [.ref q5, .ref q18, .ref q31, .ref q44, .null, .int (zi 0), .int (zi 0), .int (zi 0)])), (q5, .inr (5, [.ref u11])), (u11, .inl (cI, 60, .inl (zf (fun _ => 0)))), (q18, .inr (5, [.ref u24])), (u24, .inl (cI, 20, .inl (zf (fun _ => 0)))), (q31, .inr (5, [.ref u37])), (u37, .inl (cI, 20, .inl (zf (fun _ => 0)))), (q44, .inr (5, [.ref u50])), (u50, .inl (cI, 20, .inl (zf (fun _ => 0)))), (q57, .inr (5, [.ref u63])), (u63, .inl (cI, 20, .inl (zf (fun _ => 0))))] := hD
  refine va_putF (D := D) (ci := 0) (v := .ref q57) (ty := (.object "PlanetoidDesk$Row")) (C := RX0) (T := TX0) (N := 8) hx hb hts ic_X0_init_0 tyX0 tyX0_ok nmX0 hown hK.1 hP hD hS 0 rfl rfl 4 (by decide) (hts _ lk4_X0_init) (fun _ h9 => h9) rfl hin rfl (by decide +kernel) rfl rfl (Nat.le_of_ble_eq_true rfl) dX0_init_66 (fun H locs hP hD hS => ?_)
  have hP : va_P D vwCl [(h0, .inr (0, [.ref q5, .ref q18, .ref q31, .ref q44, .ref q57, .int (zi 0), .int (zi 0), .int (zi 0)])), (q5, .inr (5, [.ref u11])), (u11, .inl (cI, 60, .inl (zf (fun _ => 0)))), (q18, .inr (5, [.ref u24])), (u24, .inl (cI, 20, .inl (zf (fun _ => 0)))), (q31, .inr (5, [.ref u37])), (u37, .inl (cI, 20, .inl (zf (fun _ => 0)))), (q44, .inr (5, [.ref u50])), (u50, .inl (cI, 20, .inl (zf (fun _ => 0)))), (q57, .inr (5, [.ref u63])), (u63, .inl (cI, 20, .inl (zf (fun _ => 0))))] H := hP
  have hD : va_D A [(h0, .inr (0, [.ref q5, .ref q18, .ref q31, .ref q44, .ref q57, .int (zi 0), .int (zi 0), .int (zi 0)])), (q5, .inr (5, [.ref u11])), (u11, .inl (cI, 60, .inl (zf (fun _ => 0)))), (q18, .inr (5, [.ref u24])), (u24, .inl (cI, 20, .inl (zf (fun _ => 0)))), (q31, .inr (5, [.ref u37])), (u37, .inl (cI, 20, .inl (zf (fun _ => 0)))), (q44, .inr (5, [.ref u50])), (u50, .inl (cI, 20, .inl (zf (fun _ => 0)))), (q57, .inr (5, [.ref u63])), (u63, .inl (cI, 20, .inl (zf (fun _ => 0))))] := hD
  refine lv_aload_n hx hb dX0_init_69 rfl (lv_at hl 0 rfl) ?_
  refine va_get (D := D) (ci := 0) (v := .ref q5) (C := RX0) (T := TX0) (N := 8) hx hb hts ic_X0_init_0 hown hK.1 hP 0 rfl rfl 0 (by decide) (hts _ lk0_X0_init) (fun _ h9 => h9) rfl dX0_init_70 ?_
  refine zi_iconst hx hb dX0_init_73 ?_
  have hDr : ∀ g, va_D A (rW [(h0, .inr (0, [.ref q5, .ref q18, .ref q31, .ref q44, .ref q57, .int (zi 0), .int (zi 0), .int (zi 0)])), (q5, .inr (5, [.ref u11])), (u11, .inl (cI, 60, .inl (zf (fun _ => 0)))), (q18, .inr (5, [.ref u24])), (u24, .inl (cI, 20, .inl (zf (fun _ => 0)))), (q31, .inr (5, [.ref u37])), (u37, .inl (cI, 20, .inl (zf (fun _ => 0)))), (q44, .inr (5, [.ref u50])), (u50, .inl (cI, 20, .inl (zf (fun _ => 0)))), (q57, .inr (5, [.ref u63])), (u63, .inl (cI, 20, .inl (zf (fun _ => 0))))] 2 u11 cI 60 g) := fun g => hD.set_arr 2 rfl
  refine va_callv (va_runV (As := [.int (zi (-1))]) (rest := []) ⟨hx, hb, hml, hown, hts⟩ (ct_X5_fill l D cI cZ cJ [(h0, .inr (0, [.ref q5, .ref q18, .ref q31, .ref q44, .ref q57, .int (zi 0), .int (zi 0), .int (zi 0)])), (q5, .inr (5, [.ref u11])), (u11, .inl (cI, 60, .inl (zf (fun _ => 0)))), (q18, .inr (5, [.ref u24])), (u24, .inl (cI, 20, .inl (zf (fun _ => 0)))), (q31, .inr (5, [.ref u37])), (u37, .inl (cI, 20, .inl (zf (fun _ => 0)))), (q44, .inr (5, [.ref u50])), (u50, .inl (cI, 20, .inl (zf (fun _ => 0)))), (q57, .inr (5, [.ref u63])), (u63, .inl (cI, 20, .inl (zf (fun _ => 0))))] A q5 u11 1 2 60 (fun _ => 0) (-1) rfl (Nat.le_of_ble_eq_true rfl) (by decide) hDr (by decide)) (cwV 1 hts gX0_init_X5_fill rfl rfl rfl (by decide +kernel) ⟨Nat.le_of_ble_eq_true rfl, Nat.le_of_ble_eq_true rfl⟩) ⟨zP_blind, va_recv hK.1 hP (ci := 5) (q0 := 1) rfl rfl, fun U hU hW => ⟨rfl, by rw [hU]; exact hP, KK.warm hW hK⟩⟩ rfl rfl hl.1 rfl (lv_room (Nat.le_of_ble_eq_true rfl)) dX0_init_74 ⟨Nat.le_of_ble_eq_true rfl, Nat.le_of_ble_eq_true rfl⟩) hS (fun _ _ h => h) (fun _ h => h) (fun u74 t H1 locs ht hvm hw hB hz1 hk1 hS => ?_)
  have hw : u74 = rFill 60 (fun _ => 0) (-1) := hw
  subst hw
  rw [ht] at hB
  have hP := hB
  have hD := hDr (rFill 60 (fun _ => 0) (-1))
  clear hB hDr hz1 hk1 ht hvm
  generalize H1 = H at hP hS ⊢
  have hP : va_P D vwCl [(h0, .inr (0, [.ref q5, .ref q18, .ref q31, .ref q44, .ref q57, .int (zi 0), .int (zi 0), .int (zi 0)])), (q5, .inr (5, [.ref u11])), (u11, .inl (cI, 60, .inl (zf (rFill 60 (fun _ => 0) (-1))))), (q18, .inr (5, [.ref u24])), (u24, .inl (cI, 20, .inl (zf (fun _ => 0)))), (q31, .inr (5, [.ref u37])), (u37, .inl (cI, 20, .inl (zf (fun _ => 0)))), (q44, .inr (5, [.ref u50])), (u50, .inl (cI, 20, .inl (zf (fun _ => 0)))), (q57, .inr (5, [.ref u63])), (u63, .inl (cI, 20, .inl (zf (fun _ => 0))))] H := hP
  have hD : va_D A [(h0, .inr (0, [.ref q5, .ref q18, .ref q31, .ref q44, .ref q57, .int (zi 0), .int (zi 0), .int (zi 0)])), (q5, .inr (5, [.ref u11])), (u11, .inl (cI, 60, .inl (zf (rFill 60 (fun _ => 0) (-1))))), (q18, .inr (5, [.ref u24])), (u24, .inl (cI, 20, .inl (zf (fun _ => 0)))), (q31, .inr (5, [.ref u37])), (u37, .inl (cI, 20, .inl (zf (fun _ => 0)))), (q44, .inr (5, [.ref u50])), (u50, .inl (cI, 20, .inl (zf (fun _ => 0)))), (q57, .inr (5, [.ref u63])), (u63, .inl (cI, 20, .inl (zf (fun _ => 0))))] := hD
  refine lv_aload_n hx hb dX0_init_77 rfl (lv_at hl 0 rfl) ?_
  refine va_get (D := D) (ci := 0) (v := .ref q18) (C := RX0) (T := TX0) (N := 8) hx hb hts ic_X0_init_0 hown hK.1 hP 0 rfl rfl 1 (by decide) (hts _ lk1_X0_init) (fun _ h9 => h9) rfl dX0_init_78 ?_
  refine zi_iconst hx hb dX0_init_81 ?_
  have hDr : ∀ g, va_D A (rW [(h0, .inr (0, [.ref q5, .ref q18, .ref q31, .ref q44, .ref q57, .int (zi 0), .int (zi 0), .int (zi 0)])), (q5, .inr (5, [.ref u11])), (u11, .inl (cI, 60, .inl (zf (rFill 60 (fun _ => 0) (-1))))), (q18, .inr (5, [.ref u24])), (u24, .inl (cI, 20, .inl (zf (fun _ => 0)))), (q31, .inr (5, [.ref u37])), (u37, .inl (cI, 20, .inl (zf (fun _ => 0)))), (q44, .inr (5, [.ref u50])), (u50, .inl (cI, 20, .inl (zf (fun _ => 0)))), (q57, .inr (5, [.ref u63])), (u63, .inl (cI, 20, .inl (zf (fun _ => 0))))] 4 u24 cI 20 g) := fun g => hD.set_arr 4 rfl
  refine va_callv (va_runV (As := [.int (zi (-1))]) (rest := []) ⟨hx, hb, hml, hown, hts⟩ (ct_X5_fill l D cI cZ cJ [(h0, .inr (0, [.ref q5, .ref q18, .ref q31, .ref q44, .ref q57, .int (zi 0), .int (zi 0), .int (zi 0)])), (q5, .inr (5, [.ref u11])), (u11, .inl (cI, 60, .inl (zf (rFill 60 (fun _ => 0) (-1))))), (q18, .inr (5, [.ref u24])), (u24, .inl (cI, 20, .inl (zf (fun _ => 0)))), (q31, .inr (5, [.ref u37])), (u37, .inl (cI, 20, .inl (zf (fun _ => 0)))), (q44, .inr (5, [.ref u50])), (u50, .inl (cI, 20, .inl (zf (fun _ => 0)))), (q57, .inr (5, [.ref u63])), (u63, .inl (cI, 20, .inl (zf (fun _ => 0))))] A q18 u24 3 4 20 (fun _ => 0) (-1) rfl (Nat.le_of_ble_eq_true rfl) (by decide) hDr (by decide)) (cwV 1 hts gX0_init_X5_fill rfl rfl rfl (by decide +kernel) ⟨Nat.le_of_ble_eq_true rfl, Nat.le_of_ble_eq_true rfl⟩) ⟨zP_blind, va_recv hK.1 hP (ci := 5) (q0 := 3) rfl rfl, fun U hU hW => ⟨rfl, by rw [hU]; exact hP, KK.warm hW hK⟩⟩ rfl rfl hl.1 rfl (lv_room (Nat.le_of_ble_eq_true rfl)) dX0_init_82 ⟨Nat.le_of_ble_eq_true rfl, Nat.le_of_ble_eq_true rfl⟩) hS (fun _ _ h => h) (fun _ h => h) (fun u82 t H1 locs ht hvm hw hB hz1 hk1 hS => ?_)
  have hw : u82 = rFill 20 (fun _ => 0) (-1) := hw
  subst hw
  rw [ht] at hB
  have hP := hB
  have hD := hDr (rFill 20 (fun _ => 0) (-1))
  clear hB hDr hz1 hk1 ht hvm
  generalize H1 = H at hP hS ⊢
  have hP : va_P D vwCl [(h0, .inr (0, [.ref q5, .ref q18, .ref q31, .ref q44, .ref q57, .int (zi 0), .int (zi 0), .int (zi 0)])), (q5, .inr (5, [.ref u11])), (u11, .inl (cI, 60, .inl (zf (rFill 60 (fun _ => 0) (-1))))), (q18, .inr (5, [.ref u24])), (u24, .inl (cI, 20, .inl (zf (rFill 20 (fun _ => 0) (-1))))), (q31, .inr (5, [.ref u37])), (u37, .inl (cI, 20, .inl (zf (fun _ => 0)))), (q44, .inr (5, [.ref u50])), (u50, .inl (cI, 20, .inl (zf (fun _ => 0)))), (q57, .inr (5, [.ref u63])), (u63, .inl (cI, 20, .inl (zf (fun _ => 0))))] H := hP
  have hD : va_D A [(h0, .inr (0, [.ref q5, .ref q18, .ref q31, .ref q44, .ref q57, .int (zi 0), .int (zi 0), .int (zi 0)])), (q5, .inr (5, [.ref u11])), (u11, .inl (cI, 60, .inl (zf (rFill 60 (fun _ => 0) (-1))))), (q18, .inr (5, [.ref u24])), (u24, .inl (cI, 20, .inl (zf (rFill 20 (fun _ => 0) (-1))))), (q31, .inr (5, [.ref u37])), (u37, .inl (cI, 20, .inl (zf (fun _ => 0)))), (q44, .inr (5, [.ref u50])), (u50, .inl (cI, 20, .inl (zf (fun _ => 0)))), (q57, .inr (5, [.ref u63])), (u63, .inl (cI, 20, .inl (zf (fun _ => 0))))] := hD
  refine lv_aload_n hx hb dX0_init_85 rfl (lv_at hl 0 rfl) ?_
  refine va_get (D := D) (ci := 0) (v := .ref q44) (C := RX0) (T := TX0) (N := 8) hx hb hts ic_X0_init_0 hown hK.1 hP 0 rfl rfl 3 (by decide) (hts _ lk3_X0_init) (fun _ h9 => h9) rfl dX0_init_86 ?_
  refine zi_iconst hx hb dX0_init_89 ?_
  have hDr : ∀ g, va_D A (rW [(h0, .inr (0, [.ref q5, .ref q18, .ref q31, .ref q44, .ref q57, .int (zi 0), .int (zi 0), .int (zi 0)])), (q5, .inr (5, [.ref u11])), (u11, .inl (cI, 60, .inl (zf (rFill 60 (fun _ => 0) (-1))))), (q18, .inr (5, [.ref u24])), (u24, .inl (cI, 20, .inl (zf (rFill 20 (fun _ => 0) (-1))))), (q31, .inr (5, [.ref u37])), (u37, .inl (cI, 20, .inl (zf (fun _ => 0)))), (q44, .inr (5, [.ref u50])), (u50, .inl (cI, 20, .inl (zf (fun _ => 0)))), (q57, .inr (5, [.ref u63])), (u63, .inl (cI, 20, .inl (zf (fun _ => 0))))] 8 u50 cI 20 g) := fun g => hD.set_arr 8 rfl
  refine va_callv (va_runV (As := [.int (zi (-1))]) (rest := []) ⟨hx, hb, hml, hown, hts⟩ (ct_X5_fill l D cI cZ cJ [(h0, .inr (0, [.ref q5, .ref q18, .ref q31, .ref q44, .ref q57, .int (zi 0), .int (zi 0), .int (zi 0)])), (q5, .inr (5, [.ref u11])), (u11, .inl (cI, 60, .inl (zf (rFill 60 (fun _ => 0) (-1))))), (q18, .inr (5, [.ref u24])), (u24, .inl (cI, 20, .inl (zf (rFill 20 (fun _ => 0) (-1))))), (q31, .inr (5, [.ref u37])), (u37, .inl (cI, 20, .inl (zf (fun _ => 0)))), (q44, .inr (5, [.ref u50])), (u50, .inl (cI, 20, .inl (zf (fun _ => 0)))), (q57, .inr (5, [.ref u63])), (u63, .inl (cI, 20, .inl (zf (fun _ => 0))))] A q44 u50 7 8 20 (fun _ => 0) (-1) rfl (Nat.le_of_ble_eq_true rfl) (by decide) hDr (by decide)) (cwV 1 hts gX0_init_X5_fill rfl rfl rfl (by decide +kernel) ⟨Nat.le_of_ble_eq_true rfl, Nat.le_of_ble_eq_true rfl⟩) ⟨zP_blind, va_recv hK.1 hP (ci := 5) (q0 := 7) rfl rfl, fun U hU hW => ⟨rfl, by rw [hU]; exact hP, KK.warm hW hK⟩⟩ rfl rfl hl.1 rfl (lv_room (Nat.le_of_ble_eq_true rfl)) dX0_init_90 ⟨Nat.le_of_ble_eq_true rfl, Nat.le_of_ble_eq_true rfl⟩) hS (fun _ _ h => h) (fun _ h => h) (fun u90 t H1 locs ht hvm hw hB hz1 hk1 hS => ?_)
  have hw : u90 = rFill 20 (fun _ => 0) (-1) := hw
  subst hw
  rw [ht] at hB
  have hP := hB
  have hD := hDr (rFill 20 (fun _ => 0) (-1))
  clear hB hDr hz1 hk1 ht hvm
  generalize H1 = H at hP hS ⊢
  have hP : va_P D vwCl [(h0, .inr (0, [.ref q5, .ref q18, .ref q31, .ref q44, .ref q57, .int (zi 0), .int (zi 0), .int (zi 0)])), (q5, .inr (5, [.ref u11])), (u11, .inl (cI, 60, .inl (zf (rFill 60 (fun _ => 0) (-1))))), (q18, .inr (5, [.ref u24])), (u24, .inl (cI, 20, .inl (zf (rFill 20 (fun _ => 0) (-1))))), (q31, .inr (5, [.ref u37])), (u37, .inl (cI, 20, .inl (zf (fun _ => 0)))), (q44, .inr (5, [.ref u50])), (u50, .inl (cI, 20, .inl (zf (rFill 20 (fun _ => 0) (-1))))), (q57, .inr (5, [.ref u63])), (u63, .inl (cI, 20, .inl (zf (fun _ => 0))))] H := hP
  have hD : va_D A [(h0, .inr (0, [.ref q5, .ref q18, .ref q31, .ref q44, .ref q57, .int (zi 0), .int (zi 0), .int (zi 0)])), (q5, .inr (5, [.ref u11])), (u11, .inl (cI, 60, .inl (zf (rFill 60 (fun _ => 0) (-1))))), (q18, .inr (5, [.ref u24])), (u24, .inl (cI, 20, .inl (zf (rFill 20 (fun _ => 0) (-1))))), (q31, .inr (5, [.ref u37])), (u37, .inl (cI, 20, .inl (zf (fun _ => 0)))), (q44, .inr (5, [.ref u50])), (u50, .inl (cI, 20, .inl (zf (rFill 20 (fun _ => 0) (-1))))), (q57, .inr (5, [.ref u63])), (u63, .inl (cI, 20, .inl (zf (fun _ => 0))))] := hD
  refine W.widen (k := 10) (n := 145) (Nat.le_of_ble_eq_true rfl) (Nat.le_of_ble_eq_true rfl) ?_
  exact W.vret hx hb hr (fun t ht hW => ⟨⟨(fun i => [q5, u11, q18, u24, q31, u37, q44, u50, q57, u63].getD i 0), rfl, trivial, by rw [ht]; exact hP, hD⟩, hS.F ht⟩) hS.2.2 dX0_init_93
theorem oml_X2_init : Cond.methodLink RX2 3 objectInit ∈ wsX2_init := by decide +kernel
theorem oin_X2_init : Cond.instanceMethod objectInit ∈ wsX2_init := by decide +kernel
theorem oco_X2_init : Cond.code objectInit ⟨#[0xb1]⟩ 1 none ∈ wsX2_init := by decide +kernel
theorem ic_X2_init_5 : ∀ w ∈ wsX50, w ∈ wsX2_init := by decide +kernel
theorem cl5_X2_init : Cond.classLink RX2 9 RX5 ∈ wsX2_init := by decide +kernel
theorem ins5_X2_init : Cond.instantiable RX5 1 ∈ wsX2_init := by decide +kernel
theorem ini5_X2_init : Cond.initialized RX5 ∈ wsX2_init := by decide +kernel
theorem iniX5_init_X2_init : Cond.initialized RX5 ∈ wsX2_init := by decide +kernel
theorem inmX5_init_X2_init : Cond.instanceMethod yX5_init ∈ wsX2_init := by decide +kernel
theorem mlX5_init_X2_init : Cond.methodLink RX2 11 yX5_init ∈ wsX2_init := by decide +kernel
theorem ic_X2_init_2 : ∀ w ∈ wsX20, w ∈ wsX2_init := by decide +kernel
theorem lk0_X2_init : Cond.fieldLink RX2 14 "PlanetoidDesk$Looks" "dots" "LPlanetoidDesk$Row;" ∈ wsX2_init := by decide +kernel
set_option maxHeartbeats 4000000 in
set_option maxRecDepth 100000 in
theorem ct_X2_init (l : Launch) (D : va_G) (cI cZ cJ : ClassId) (h0 sz : Nat) : Met l yX2_init wsX2_init { frames := 2, cells := 2, slots := 61, locals := 33 } (va_Pc [.ref h0] (fun U => U.heap.size = sz ∧ va_P D vwCl [(h0, .inr (2, [.null, .int (zi 0)]))] U.heap ∧ KK D cI cZ cJ U ∧ va_D (fun _ => True) [(h0, .inr (2, [.null, .int (zi 0)]))])) (va_Qv (S := Nat → Nat) (fun _ => True) (fun u t => va_P D vwCl [(h0, .inr (2, [.ref (u 0), .int (zi 0)])), ((u 0), .inr (5, [.ref (u 1)])), ((u 1), .inl (cI, 60, .inl (zf (fun _ => 0))))] t.heap ∧ va_D (va_A [(h0, .inr (2, [.null, .int (zi 0)]))] sz) [(h0, .inr (2, [.ref (u 0), .int (zi 0)])), ((u 0), .inr (5, [.ref (u 1)])), ((u 1), .inl (cI, 60, .inl (zf (fun _ => 0))))]) (va_A [(h0, .inr (2, [.null, .int (zi 0)]))] sz)) 2 61 (va_A [(h0, .inr (2, [.null, .int (zi 0)]))] sz) := by
  refine Met.ofW (cc := cX2_init) (maxL := 1) (ret := none) (by decide) rfl ?_
  intro p e s m args below meth c s₁ B hml hv
  obtain ⟨rfl, hsz, hP, hK, hD0⟩ := hv
  have hx := B.exec
  have hb := B.bytes
  have hr := B.returns
  have hts := atoms_spec (ws := wsX2_init) B.pre
  have hown : s.vm.findClass RX2 = some m.cls := findClass_of_methodNamed B.named
  have hlocks := B.notSynchronized
  have hin : meth.name = "<init>" := (name_of_methodNamed B.named B.method).1
  subst hsz
  have hD := hD0.self (sz := s.heap.size)
  generalize hAe : va_A [(h0, .inr (2, [.null, .int (zi 0)]))] s.heap.size = A at hD ⊢
  have hA : ∀ q : Nat, s.heap.size ≤ q → A q := fun q h => by rw [← hAe]; exact Or.inr h
  have hS : va_S A s.heap s.heap [] := va_S.rf
  have hP : va_P D vwCl [(h0, .inr (2, [.null, .int (zi 0)]))] s.heap := hP
  have hl := lv_entry ([.ref h0]) (n := 1) (Nat.le_of_ble_eq_true rfl)
  rw [lg_entry_eq]
  generalize (lg_sl ([.ref h0]) ++ List.replicate (1 - (lg_sl ([.ref h0])).length) Slot.unset).toArray = ls at hl ⊢
  have hl : lv_has ls 1 [(0, .ref h0)] := hl
  refine lv_aload_n hx hb dX2_init_0 rfl (lv_at hl 0 rfl) ?_
  refine W.objInit hx hb hown (hts _ oml_X2_init) (hts _ oin_X2_init) (hts _ oco_X2_init) rfl (by rw [hml]; exact hl.1) rfl dX2_init_1 (Nat.le_of_ble_eq_true rfl) (Nat.le_of_ble_eq_true rfl) ?_
  refine W.eq (g2 := F0 m 4 ls []) rfl ?_
  refine lv_aload_n hx hb dX2_init_4 rfl (lv_at hl 0 rfl) ?_
  refine va_new (ci := 5) (fs := [.null]) (C := RX5) (T := TX5) (N := 1) hx hb hts ic_X2_init_5 tyX5 tyX5_ok hown (hts _ cl5_X2_init) (hts _ ins5_X2_init) (hts _ ini5_X2_init) hK.1 hP hD hS hA rfl (fun j hj => by rcases (show j = 0 by omega) with rfl <;> rfl) (Nat.le_of_ble_eq_true rfl) (Nat.le_of_ble_eq_true rfl) dX2_init_5 (fun q5 H hP hD hS => ?_)
  have hP : va_P D vwCl [(h0, .inr (2, [.null, .int (zi 0)])), (q5, .inr (5, [.null]))] H := hP
  have hD : va_D A [(h0, .inr (2, [.null, .int (zi 0)])), (q5, .inr (5, [.null]))] := hD
  refine lv_dup hx hb dX2_init_8 rfl ?_
  refine zi_bipush hx hb dX2_init_9 (by decide) ?_
  have hPc := hP.sub (ws' := [(q5, .inr (5, [.null]))]) [1] rfl
  have hDc := hD.sub (ws' := [(q5, .inr (5, [.null]))]) [1] (by decide) rfl
  have hFc := va_free (wc := [(q5, .inr (5, [.null]))]) hD hS hA [1] rfl
  refine va_callv (va_runI (As := [.int (zi 60)]) (rest := [.ref q5, .ref h0]) ⟨hx, hb, hml, hown, hts⟩ (ct_X5_init l D cI cZ cJ q5 H.size 60 60 rfl (by decide) (by decide)) (cwI 1 hts gX2_init_X5_init rfl rfl rfl (hts _ iniX5_init_X2_init) (hts _ mlX5_init_X2_init) (hts _ inmX5_init_X2_init) rfl (by decide +kernel) ⟨Nat.le_of_ble_eq_true rfl, Nat.le_of_ble_eq_true rfl⟩) ⟨fun a U g mk q => by obtain ⟨q0, q1, qP, qK, qD⟩ := q; exact ⟨q0, q1, qP, KK.same (u := U) (U := U.calling g mk a) rfl qK, qD⟩, fun U hU hW => ⟨rfl, by rw [hU], by rw [hU]; exact hPc, KK.warm hW hK, hDc.weaken (fun _ _ _ _ => trivial)⟩⟩ rfl rfl hl.1 rfl (lv_room (Nat.le_of_ble_eq_true rfl)) dX2_init_11 ⟨Nat.le_of_ble_eq_true rfl, Nat.le_of_ble_eq_true rfl⟩) hS (fun q _ h => hFc q h) hFc (fun u11 t H1 locs ht hvm hw hB hz1 hk1 hS => ?_)
  obtain ⟨hP1, hD1⟩ := hB
  rw [ht] at hP1
  obtain ⟨hP, hD⟩ := va_join (wr := [(h0, .inr (2, [.null, .int (zi 0)]))]) (w1 := [(q5, .inr (5, [.ref u11])), (u11, .inl (cI, 60, .inl (zf (fun _ => 0))))]) hP hD [1] [0] rfl rfl (by decide) (by decide) hk1 hFc hP1 hD1
  clear hPc hDc hFc hP1 hD1 hz1 hk1 ht hvm hw
  generalize H1 = H at hP hS ⊢
  have hP : va_P D vwCl [(h0, .inr (2, [.null, .int (zi 0)])), (q5, .inr (5, [.ref u11])), (u11, .inl (cI, 60, .inl (zf (fun _ => 0))))] H := hP
  have hD : va_D A [(h0, .inr (2, [.null, .int (zi 0)])), (q5, .inr (5, [.ref u11])), (u11, .inl (cI, 60, .inl (zf (fun _ => 0))))] := hD
  refine va_putF (D := D) (ci := 2) (v := .ref q5) (ty := (.object "PlanetoidDesk$Row")) (C := RX2) (T := TX2) (N := 2) hx hb hts ic_X2_init_2 tyX2 tyX2_ok nmX2 hown hK.1 hP hD hS 0 rfl rfl 0 (by decide) (hts _ lk0_X2_init) (fun _ h9 => h9) rfl hin rfl (by decide +kernel) rfl rfl (Nat.le_of_ble_eq_true rfl) dX2_init_14 (fun H locs hP hD hS => ?_)
  have hP : va_P D vwCl [(h0, .inr (2, [.ref q5, .int (zi 0)])), (q5, .inr (5, [.ref u11])), (u11, .inl (cI, 60, .inl (zf (fun _ => 0))))] H := hP
  have hD : va_D A [(h0, .inr (2, [.ref q5, .int (zi 0)])), (q5, .inr (5, [.ref u11])), (u11, .inl (cI, 60, .inl (zf (fun _ => 0))))] := hD
  refine W.widen (k := 2) (n := 61) (Nat.le_of_ble_eq_true rfl) (Nat.le_of_ble_eq_true rfl) ?_
  exact W.vret hx hb hr (fun t ht hW => ⟨⟨(fun i => [q5, u11].getD i 0), rfl, trivial, by rw [ht]; exact hP, hD⟩, hS.F ht⟩) hS.2.2 dX2_init_17
theorem oml_X3_init : Cond.methodLink RX3 3 objectInit ∈ wsX3_init := by decide +kernel
theorem oin_X3_init : Cond.instanceMethod objectInit ∈ wsX3_init := by decide +kernel
theorem oco_X3_init : Cond.code objectInit ⟨#[0xb1]⟩ 1 none ∈ wsX3_init := by decide +kernel
theorem ic_X3_init_5 : ∀ w ∈ wsX50, w ∈ wsX3_init := by decide +kernel
theorem cl5_X3_init : Cond.classLink RX3 9 RX5 ∈ wsX3_init := by decide +kernel
theorem ins5_X3_init : Cond.instantiable RX5 1 ∈ wsX3_init := by decide +kernel
theorem ini5_X3_init : Cond.initialized RX5 ∈ wsX3_init := by decide +kernel
theorem iniX5_init_X3_init : Cond.initialized RX5 ∈ wsX3_init := by decide +kernel
theorem inmX5_init_X3_init : Cond.instanceMethod yX5_init ∈ wsX3_init := by decide +kernel
theorem mlX5_init_X3_init : Cond.methodLink RX3 11 yX5_init ∈ wsX3_init := by decide +kernel
theorem ic_X3_init_3 : ∀ w ∈ wsX30, w ∈ wsX3_init := by decide +kernel
theorem lk0_X3_init : Cond.fieldLink RX3 14 "PlanetoidDesk$Orbits" "starts" "LPlanetoidDesk$Row;" ∈ wsX3_init := by decide +kernel
theorem lk1_X3_init : Cond.fieldLink RX3 20 "PlanetoidDesk$Orbits" "widths" "LPlanetoidDesk$Row;" ∈ wsX3_init := by decide +kernel
theorem lk2_X3_init : Cond.fieldLink RX3 23 "PlanetoidDesk$Orbits" "tallies" "LPlanetoidDesk$Row;" ∈ wsX3_init := by decide +kernel
set_option maxHeartbeats 4000000 in
set_option maxRecDepth 100000 in
theorem ct_X3_init (l : Launch) (D : va_G) (cI cZ cJ : ClassId) (h0 sz : Nat) : Met l yX3_init wsX3_init { frames := 2, cells := 6, slots := 4413, locals := 33 } (va_Pc [.ref h0] (fun U => U.heap.size = sz ∧ va_P D vwCl [(h0, .inr (3, [.null, .null, .null]))] U.heap ∧ KK D cI cZ cJ U ∧ va_D (fun _ => True) [(h0, .inr (3, [.null, .null, .null]))])) (va_Qv (S := Nat → Nat) (fun _ => True) (fun u t => va_P D vwCl [(h0, .inr (3, [.ref (u 0), .ref (u 2), .ref (u 4)])), ((u 0), .inr (5, [.ref (u 1)])), ((u 1), .inl (cI, 405, .inl (zf (fun _ => 0)))), ((u 2), .inr (5, [.ref (u 3)])), ((u 3), .inl (cI, 405, .inl (zf (fun _ => 0)))), ((u 4), .inr (5, [.ref (u 5)])), ((u 5), .inl (cI, 3600, .inl (zf (fun _ => 0))))] t.heap ∧ va_D (va_A [(h0, .inr (3, [.null, .null, .null]))] sz) [(h0, .inr (3, [.ref (u 0), .ref (u 2), .ref (u 4)])), ((u 0), .inr (5, [.ref (u 1)])), ((u 1), .inl (cI, 405, .inl (zf (fun _ => 0)))), ((u 2), .inr (5, [.ref (u 3)])), ((u 3), .inl (cI, 405, .inl (zf (fun _ => 0)))), ((u 4), .inr (5, [.ref (u 5)])), ((u 5), .inl (cI, 3600, .inl (zf (fun _ => 0))))]) (va_A [(h0, .inr (3, [.null, .null, .null]))] sz)) 6 4413 (va_A [(h0, .inr (3, [.null, .null, .null]))] sz) := by
  refine Met.ofW (cc := cX3_init) (maxL := 1) (ret := none) (by decide) rfl ?_
  intro p e s m args below meth c s₁ B hml hv
  obtain ⟨rfl, hsz, hP, hK, hD0⟩ := hv
  have hx := B.exec
  have hb := B.bytes
  have hr := B.returns
  have hts := atoms_spec (ws := wsX3_init) B.pre
  have hown : s.vm.findClass RX3 = some m.cls := findClass_of_methodNamed B.named
  have hlocks := B.notSynchronized
  have hin : meth.name = "<init>" := (name_of_methodNamed B.named B.method).1
  subst hsz
  have hD := hD0.self (sz := s.heap.size)
  generalize hAe : va_A [(h0, .inr (3, [.null, .null, .null]))] s.heap.size = A at hD ⊢
  have hA : ∀ q : Nat, s.heap.size ≤ q → A q := fun q h => by rw [← hAe]; exact Or.inr h
  have hS : va_S A s.heap s.heap [] := va_S.rf
  have hP : va_P D vwCl [(h0, .inr (3, [.null, .null, .null]))] s.heap := hP
  have hl := lv_entry ([.ref h0]) (n := 1) (Nat.le_of_ble_eq_true rfl)
  rw [lg_entry_eq]
  generalize (lg_sl ([.ref h0]) ++ List.replicate (1 - (lg_sl ([.ref h0])).length) Slot.unset).toArray = ls at hl ⊢
  have hl : lv_has ls 1 [(0, .ref h0)] := hl
  refine lv_aload_n hx hb dX3_init_0 rfl (lv_at hl 0 rfl) ?_
  refine W.objInit hx hb hown (hts _ oml_X3_init) (hts _ oin_X3_init) (hts _ oco_X3_init) rfl (by rw [hml]; exact hl.1) rfl dX3_init_1 (Nat.le_of_ble_eq_true rfl) (Nat.le_of_ble_eq_true rfl) ?_
  refine W.eq (g2 := F0 m 4 ls []) rfl ?_
  refine lv_aload_n hx hb dX3_init_4 rfl (lv_at hl 0 rfl) ?_
  refine va_new (ci := 5) (fs := [.null]) (C := RX5) (T := TX5) (N := 1) hx hb hts ic_X3_init_5 tyX5 tyX5_ok hown (hts _ cl5_X3_init) (hts _ ins5_X3_init) (hts _ ini5_X3_init) hK.1 hP hD hS hA rfl (fun j hj => by rcases (show j = 0 by omega) with rfl <;> rfl) (Nat.le_of_ble_eq_true rfl) (Nat.le_of_ble_eq_true rfl) dX3_init_5 (fun q5 H hP hD hS => ?_)
  have hP : va_P D vwCl [(h0, .inr (3, [.null, .null, .null])), (q5, .inr (5, [.null]))] H := hP
  have hD : va_D A [(h0, .inr (3, [.null, .null, .null])), (q5, .inr (5, [.null]))] := hD
  refine lv_dup hx hb dX3_init_8 rfl ?_
  refine zi_sipush hx hb dX3_init_9 (by decide) ?_
  have hPc := hP.sub (ws' := [(q5, .inr (5, [.null]))]) [1] rfl
  have hDc := hD.sub (ws' := [(q5, .inr (5, [.null]))]) [1] (by decide) rfl
  have hFc := va_free (wc := [(q5, .inr (5, [.null]))]) hD hS hA [1] rfl
  refine va_callv (va_runI (As := [.int (zi 405)]) (rest := [.ref q5, .ref h0]) ⟨hx, hb, hml, hown, hts⟩ (ct_X5_init l D cI cZ cJ q5 H.size 405 405 rfl (by decide) (by decide)) (cwI 1 hts gX3_init_X5_init rfl rfl rfl (hts _ iniX5_init_X3_init) (hts _ mlX5_init_X3_init) (hts _ inmX5_init_X3_init) rfl (by decide +kernel) ⟨Nat.le_of_ble_eq_true rfl, Nat.le_of_ble_eq_true rfl⟩) ⟨fun a U g mk q => by obtain ⟨q0, q1, qP, qK, qD⟩ := q; exact ⟨q0, q1, qP, KK.same (u := U) (U := U.calling g mk a) rfl qK, qD⟩, fun U hU hW => ⟨rfl, by rw [hU], by rw [hU]; exact hPc, KK.warm hW hK, hDc.weaken (fun _ _ _ _ => trivial)⟩⟩ rfl rfl hl.1 rfl (lv_room (Nat.le_of_ble_eq_true rfl)) dX3_init_12 ⟨Nat.le_of_ble_eq_true rfl, Nat.le_of_ble_eq_true rfl⟩) hS (fun q _ h => hFc q h) hFc (fun u12 t H1 locs ht hvm hw hB hz1 hk1 hS => ?_)
  obtain ⟨hP1, hD1⟩ := hB
  rw [ht] at hP1
  obtain ⟨hP, hD⟩ := va_join (wr := [(h0, .inr (3, [.null, .null, .null]))]) (w1 := [(q5, .inr (5, [.ref u12])), (u12, .inl (cI, 405, .inl (zf (fun _ => 0))))]) hP hD [1] [0] rfl rfl (by decide) (by decide) hk1 hFc hP1 hD1
  clear hPc hDc hFc hP1 hD1 hz1 hk1 ht hvm hw
  generalize H1 = H at hP hS ⊢
  have hP : va_P D vwCl [(h0, .inr (3, [.null, .null, .null])), (q5, .inr (5, [.ref u12])), (u12, .inl (cI, 405, .inl (zf (fun _ => 0))))] H := hP
  have hD : va_D A [(h0, .inr (3, [.null, .null, .null])), (q5, .inr (5, [.ref u12])), (u12, .inl (cI, 405, .inl (zf (fun _ => 0))))] := hD
  refine va_putF (D := D) (ci := 3) (v := .ref q5) (ty := (.object "PlanetoidDesk$Row")) (C := RX3) (T := TX3) (N := 3) hx hb hts ic_X3_init_3 tyX3 tyX3_ok nmX3 hown hK.1 hP hD hS 0 rfl rfl 0 (by decide) (hts _ lk0_X3_init) (fun _ h9 => h9) rfl hin rfl (by decide +kernel) rfl rfl (Nat.le_of_ble_eq_true rfl) dX3_init_15 (fun H locs hP hD hS => ?_)
  have hP : va_P D vwCl [(h0, .inr (3, [.ref q5, .null, .null])), (q5, .inr (5, [.ref u12])), (u12, .inl (cI, 405, .inl (zf (fun _ => 0))))] H := hP
  have hD : va_D A [(h0, .inr (3, [.ref q5, .null, .null])), (q5, .inr (5, [.ref u12])), (u12, .inl (cI, 405, .inl (zf (fun _ => 0))))] := hD
  refine lv_aload_n hx hb dX3_init_18 rfl (lv_at hl 0 rfl) ?_
  refine va_new (ci := 5) (fs := [.null]) (C := RX5) (T := TX5) (N := 1) hx hb hts ic_X3_init_5 tyX5 tyX5_ok hown (hts _ cl5_X3_init) (hts _ ins5_X3_init) (hts _ ini5_X3_init) hK.1 hP hD hS hA rfl (fun j hj => by rcases (show j = 0 by omega) with rfl <;> rfl) (Nat.le_of_ble_eq_true rfl) (Nat.le_of_ble_eq_true rfl) dX3_init_19 (fun q19 H hP hD hS => ?_)
  have hP : va_P D vwCl [(h0, .inr (3, [.ref q5, .null, .null])), (q5, .inr (5, [.ref u12])), (u12, .inl (cI, 405, .inl (zf (fun _ => 0)))), (q19, .inr (5, [.null]))] H := hP
  have hD : va_D A [(h0, .inr (3, [.ref q5, .null, .null])), (q5, .inr (5, [.ref u12])), (u12, .inl (cI, 405, .inl (zf (fun _ => 0)))), (q19, .inr (5, [.null]))] := hD
  refine lv_dup hx hb dX3_init_22 rfl ?_
  refine zi_sipush hx hb dX3_init_23 (by decide) ?_
  have hPc := hP.sub (ws' := [(q19, .inr (5, [.null]))]) [3] rfl
  have hDc := hD.sub (ws' := [(q19, .inr (5, [.null]))]) [3] (by decide) rfl
  have hFc := va_free (wc := [(q19, .inr (5, [.null]))]) hD hS hA [3] rfl
  refine va_callv (va_runI (As := [.int (zi 405)]) (rest := [.ref q19, .ref h0]) ⟨hx, hb, hml, hown, hts⟩ (ct_X5_init l D cI cZ cJ q19 H.size 405 405 rfl (by decide) (by decide)) (cwI 1 hts gX3_init_X5_init rfl rfl rfl (hts _ iniX5_init_X3_init) (hts _ mlX5_init_X3_init) (hts _ inmX5_init_X3_init) rfl (by decide +kernel) ⟨Nat.le_of_ble_eq_true rfl, Nat.le_of_ble_eq_true rfl⟩) ⟨fun a U g mk q => by obtain ⟨q0, q1, qP, qK, qD⟩ := q; exact ⟨q0, q1, qP, KK.same (u := U) (U := U.calling g mk a) rfl qK, qD⟩, fun U hU hW => ⟨rfl, by rw [hU], by rw [hU]; exact hPc, KK.warm hW hK, hDc.weaken (fun _ _ _ _ => trivial)⟩⟩ rfl rfl hl.1 rfl (lv_room (Nat.le_of_ble_eq_true rfl)) dX3_init_26 ⟨Nat.le_of_ble_eq_true rfl, Nat.le_of_ble_eq_true rfl⟩) hS (fun q _ h => hFc q h) hFc (fun u26 t H1 locs ht hvm hw hB hz1 hk1 hS => ?_)
  obtain ⟨hP1, hD1⟩ := hB
  rw [ht] at hP1
  obtain ⟨hP, hD⟩ := va_join (wr := [(h0, .inr (3, [.ref q5, .null, .null])), (q5, .inr (5, [.ref u12])), (u12, .inl (cI, 405, .inl (zf (fun _ => 0))))]) (w1 := [(q19, .inr (5, [.ref u26])), (u26, .inl (cI, 405, .inl (zf (fun _ => 0))))]) hP hD [3] [0, 1, 2] rfl rfl (by decide) (by decide) hk1 hFc hP1 hD1
  clear hPc hDc hFc hP1 hD1 hz1 hk1 ht hvm hw
  generalize H1 = H at hP hS ⊢
  have hP : va_P D vwCl [(h0, .inr (3, [.ref q5, .null, .null])), (q5, .inr (5, [.ref u12])), (u12, .inl (cI, 405, .inl (zf (fun _ => 0)))), (q19, .inr (5, [.ref u26])), (u26, .inl (cI, 405, .inl (zf (fun _ => 0))))] H := hP
  have hD : va_D A [(h0, .inr (3, [.ref q5, .null, .null])), (q5, .inr (5, [.ref u12])), (u12, .inl (cI, 405, .inl (zf (fun _ => 0)))), (q19, .inr (5, [.ref u26])), (u26, .inl (cI, 405, .inl (zf (fun _ => 0))))] := hD
  refine va_putF (D := D) (ci := 3) (v := .ref q19) (ty := (.object "PlanetoidDesk$Row")) (C := RX3) (T := TX3) (N := 3) hx hb hts ic_X3_init_3 tyX3 tyX3_ok nmX3 hown hK.1 hP hD hS 0 rfl rfl 1 (by decide) (hts _ lk1_X3_init) (fun _ h9 => h9) rfl hin rfl (by decide +kernel) rfl rfl (Nat.le_of_ble_eq_true rfl) dX3_init_29 (fun H locs hP hD hS => ?_)
  have hP : va_P D vwCl [(h0, .inr (3, [.ref q5, .ref q19, .null])), (q5, .inr (5, [.ref u12])), (u12, .inl (cI, 405, .inl (zf (fun _ => 0)))), (q19, .inr (5, [.ref u26])), (u26, .inl (cI, 405, .inl (zf (fun _ => 0))))] H := hP
  have hD : va_D A [(h0, .inr (3, [.ref q5, .ref q19, .null])), (q5, .inr (5, [.ref u12])), (u12, .inl (cI, 405, .inl (zf (fun _ => 0)))), (q19, .inr (5, [.ref u26])), (u26, .inl (cI, 405, .inl (zf (fun _ => 0))))] := hD
  refine lv_aload_n hx hb dX3_init_32 rfl (lv_at hl 0 rfl) ?_
  refine va_new (ci := 5) (fs := [.null]) (C := RX5) (T := TX5) (N := 1) hx hb hts ic_X3_init_5 tyX5 tyX5_ok hown (hts _ cl5_X3_init) (hts _ ins5_X3_init) (hts _ ini5_X3_init) hK.1 hP hD hS hA rfl (fun j hj => by rcases (show j = 0 by omega) with rfl <;> rfl) (Nat.le_of_ble_eq_true rfl) (Nat.le_of_ble_eq_true rfl) dX3_init_33 (fun q33 H hP hD hS => ?_)
  have hP : va_P D vwCl [(h0, .inr (3, [.ref q5, .ref q19, .null])), (q5, .inr (5, [.ref u12])), (u12, .inl (cI, 405, .inl (zf (fun _ => 0)))), (q19, .inr (5, [.ref u26])), (u26, .inl (cI, 405, .inl (zf (fun _ => 0)))), (q33, .inr (5, [.null]))] H := hP
  have hD : va_D A [(h0, .inr (3, [.ref q5, .ref q19, .null])), (q5, .inr (5, [.ref u12])), (u12, .inl (cI, 405, .inl (zf (fun _ => 0)))), (q19, .inr (5, [.ref u26])), (u26, .inl (cI, 405, .inl (zf (fun _ => 0)))), (q33, .inr (5, [.null]))] := hD
  refine lv_dup hx hb dX3_init_36 rfl ?_
  refine zi_sipush hx hb dX3_init_37 (by decide) ?_
  have hPc := hP.sub (ws' := [(q33, .inr (5, [.null]))]) [5] rfl
  have hDc := hD.sub (ws' := [(q33, .inr (5, [.null]))]) [5] (by decide) rfl
  have hFc := va_free (wc := [(q33, .inr (5, [.null]))]) hD hS hA [5] rfl
  refine va_callv (va_runI (As := [.int (zi 3600)]) (rest := [.ref q33, .ref h0]) ⟨hx, hb, hml, hown, hts⟩ (ct_X5_init l D cI cZ cJ q33 H.size 3600 3600 rfl (by decide) (by decide)) (cwI 1 hts gX3_init_X5_init rfl rfl rfl (hts _ iniX5_init_X3_init) (hts _ mlX5_init_X3_init) (hts _ inmX5_init_X3_init) rfl (by decide +kernel) ⟨Nat.le_of_ble_eq_true rfl, Nat.le_of_ble_eq_true rfl⟩) ⟨fun a U g mk q => by obtain ⟨q0, q1, qP, qK, qD⟩ := q; exact ⟨q0, q1, qP, KK.same (u := U) (U := U.calling g mk a) rfl qK, qD⟩, fun U hU hW => ⟨rfl, by rw [hU], by rw [hU]; exact hPc, KK.warm hW hK, hDc.weaken (fun _ _ _ _ => trivial)⟩⟩ rfl rfl hl.1 rfl (lv_room (Nat.le_of_ble_eq_true rfl)) dX3_init_40 ⟨Nat.le_of_ble_eq_true rfl, Nat.le_of_ble_eq_true rfl⟩) hS (fun q _ h => hFc q h) hFc (fun u40 t H1 locs ht hvm hw hB hz1 hk1 hS => ?_)
  obtain ⟨hP1, hD1⟩ := hB
  rw [ht] at hP1
  obtain ⟨hP, hD⟩ := va_join (wr := [(h0, .inr (3, [.ref q5, .ref q19, .null])), (q5, .inr (5, [.ref u12])), (u12, .inl (cI, 405, .inl (zf (fun _ => 0)))), (q19, .inr (5, [.ref u26])), (u26, .inl (cI, 405, .inl (zf (fun _ => 0))))]) (w1 := [(q33, .inr (5, [.ref u40])), (u40, .inl (cI, 3600, .inl (zf (fun _ => 0))))]) hP hD [5] [0, 1, 2, 3, 4] rfl rfl (by decide) (by decide) hk1 hFc hP1 hD1
  clear hPc hDc hFc hP1 hD1 hz1 hk1 ht hvm hw
  generalize H1 = H at hP hS ⊢
  have hP : va_P D vwCl [(h0, .inr (3, [.ref q5, .ref q19, .null])), (q5, .inr (5, [.ref u12])), (u12, .inl (cI, 405, .inl (zf (fun _ => 0)))), (q19, .inr (5, [.ref u26])), (u26, .inl (cI, 405, .inl (zf (fun _ => 0)))), (q33, .inr (5, [.ref u40])), (u40, .inl (cI, 3600, .inl (zf (fun _ => 0))))] H := hP
  have hD : va_D A [(h0, .inr (3, [.ref q5, .ref q19, .null])), (q5, .inr (5, [.ref u12])), (u12, .inl (cI, 405, .inl (zf (fun _ => 0)))), (q19, .inr (5, [.ref u26])), (u26, .inl (cI, 405, .inl (zf (fun _ => 0)))), (q33, .inr (5, [.ref u40])), (u40, .inl (cI, 3600, .inl (zf (fun _ => 0))))] := hD
  refine va_putF (D := D) (ci := 3) (v := .ref q33) (ty := (.object "PlanetoidDesk$Row")) (C := RX3) (T := TX3) (N := 3) hx hb hts ic_X3_init_3 tyX3 tyX3_ok nmX3 hown hK.1 hP hD hS 0 rfl rfl 2 (by decide) (hts _ lk2_X3_init) (fun _ h9 => h9) rfl hin rfl (by decide +kernel) rfl rfl (Nat.le_of_ble_eq_true rfl) dX3_init_43 (fun H locs hP hD hS => ?_)
  have hP : va_P D vwCl [(h0, .inr (3, [.ref q5, .ref q19, .ref q33])), (q5, .inr (5, [.ref u12])), (u12, .inl (cI, 405, .inl (zf (fun _ => 0)))), (q19, .inr (5, [.ref u26])), (u26, .inl (cI, 405, .inl (zf (fun _ => 0)))), (q33, .inr (5, [.ref u40])), (u40, .inl (cI, 3600, .inl (zf (fun _ => 0))))] H := hP
  have hD : va_D A [(h0, .inr (3, [.ref q5, .ref q19, .ref q33])), (q5, .inr (5, [.ref u12])), (u12, .inl (cI, 405, .inl (zf (fun _ => 0)))), (q19, .inr (5, [.ref u26])), (u26, .inl (cI, 405, .inl (zf (fun _ => 0)))), (q33, .inr (5, [.ref u40])), (u40, .inl (cI, 3600, .inl (zf (fun _ => 0))))] := hD
  refine W.widen (k := 6) (n := 4413) (Nat.le_of_ble_eq_true rfl) (Nat.le_of_ble_eq_true rfl) ?_
  exact W.vret hx hb hr (fun t ht hW => ⟨⟨(fun i => [q5, u12, q19, u26, q33, u40].getD i 0), rfl, trivial, by rw [ht]; exact hP, hD⟩, hS.F ht⟩) hS.2.2 dX3_init_46
theorem oml_X4_init : Cond.methodLink RX4 3 objectInit ∈ wsX4_init := by decide +kernel
theorem oin_X4_init : Cond.instanceMethod objectInit ∈ wsX4_init := by decide +kernel
theorem oco_X4_init : Cond.code objectInit ⟨#[0xb1]⟩ 1 none ∈ wsX4_init := by decide +kernel
theorem ic_X4_init_5 : ∀ w ∈ wsX50, w ∈ wsX4_init := by decide +kernel
theorem cl5_X4_init : Cond.classLink RX4 9 RX5 ∈ wsX4_init := by decide +kernel
theorem ins5_X4_init : Cond.instantiable RX5 1 ∈ wsX4_init := by decide +kernel
theorem ini5_X4_init : Cond.initialized RX5 ∈ wsX4_init := by decide +kernel
theorem iniX5_init_X4_init : Cond.initialized RX5 ∈ wsX4_init := by decide +kernel
theorem inmX5_init_X4_init : Cond.instanceMethod yX5_init ∈ wsX4_init := by decide +kernel
theorem mlX5_init_X4_init : Cond.methodLink RX4 11 yX5_init ∈ wsX4_init := by decide +kernel
theorem ic_X4_init_4 : ∀ w ∈ wsX40, w ∈ wsX4_init := by decide +kernel
theorem lk0_X4_init : Cond.fieldLink RX4 14 "PlanetoidDesk$Paths" "groupHeads" "LPlanetoidDesk$Row;" ∈ wsX4_init := by decide +kernel
theorem lk1_X4_init : Cond.fieldLink RX4 20 "PlanetoidDesk$Paths" "nextInGroup" "LPlanetoidDesk$Row;" ∈ wsX4_init := by decide +kernel
theorem lk2_X4_init : Cond.fieldLink RX4 23 "PlanetoidDesk$Paths" "lastGroupAt" "LPlanetoidDesk$Row;" ∈ wsX4_init := by decide +kernel
set_option maxHeartbeats 4000000 in
set_option maxRecDepth 100000 in
theorem ct_X4_init (l : Launch) (D : va_G) (cI cZ cJ : ClassId) (h0 sz : Nat) : Met l yX4_init wsX4_init { frames := 2, cells := 6, slots := 7608, locals := 33 } (va_Pc [.ref h0] (fun U => U.heap.size = sz ∧ va_P D vwCl [(h0, .inr (4, [.null, .null, .null, .int (zi 0), .int (zi 0)]))] U.heap ∧ KK D cI cZ cJ U ∧ va_D (fun _ => True) [(h0, .inr (4, [.null, .null, .null, .int (zi 0), .int (zi 0)]))])) (va_Qv (S := Nat → Nat) (fun _ => True) (fun u t => va_P D vwCl [(h0, .inr (4, [.ref (u 0), .ref (u 2), .ref (u 4), .int (zi 0), .int (zi 0)])), ((u 0), .inr (5, [.ref (u 1)])), ((u 1), .inl (cI, 3600, .inl (zf (fun _ => 0)))), ((u 2), .inr (5, [.ref (u 3)])), ((u 3), .inl (cI, 405, .inl (zf (fun _ => 0)))), ((u 4), .inr (5, [.ref (u 5)])), ((u 5), .inl (cI, 3600, .inl (zf (fun _ => 0))))] t.heap ∧ va_D (va_A [(h0, .inr (4, [.null, .null, .null, .int (zi 0), .int (zi 0)]))] sz) [(h0, .inr (4, [.ref (u 0), .ref (u 2), .ref (u 4), .int (zi 0), .int (zi 0)])), ((u 0), .inr (5, [.ref (u 1)])), ((u 1), .inl (cI, 3600, .inl (zf (fun _ => 0)))), ((u 2), .inr (5, [.ref (u 3)])), ((u 3), .inl (cI, 405, .inl (zf (fun _ => 0)))), ((u 4), .inr (5, [.ref (u 5)])), ((u 5), .inl (cI, 3600, .inl (zf (fun _ => 0))))]) (va_A [(h0, .inr (4, [.null, .null, .null, .int (zi 0), .int (zi 0)]))] sz)) 6 7608 (va_A [(h0, .inr (4, [.null, .null, .null, .int (zi 0), .int (zi 0)]))] sz) := by
  refine Met.ofW (cc := cX4_init) (maxL := 1) (ret := none) (by decide) rfl ?_
  intro p e s m args below meth c s₁ B hml hv
  obtain ⟨rfl, hsz, hP, hK, hD0⟩ := hv
  have hx := B.exec
  have hb := B.bytes
  have hr := B.returns
  have hts := atoms_spec (ws := wsX4_init) B.pre
  have hown : s.vm.findClass RX4 = some m.cls := findClass_of_methodNamed B.named
  have hlocks := B.notSynchronized
  have hin : meth.name = "<init>" := (name_of_methodNamed B.named B.method).1
  subst hsz
  have hD := hD0.self (sz := s.heap.size)
  generalize hAe : va_A [(h0, .inr (4, [.null, .null, .null, .int (zi 0), .int (zi 0)]))] s.heap.size = A at hD ⊢
  have hA : ∀ q : Nat, s.heap.size ≤ q → A q := fun q h => by rw [← hAe]; exact Or.inr h
  have hS : va_S A s.heap s.heap [] := va_S.rf
  have hP : va_P D vwCl [(h0, .inr (4, [.null, .null, .null, .int (zi 0), .int (zi 0)]))] s.heap := hP
  have hl := lv_entry ([.ref h0]) (n := 1) (Nat.le_of_ble_eq_true rfl)
  rw [lg_entry_eq]
  generalize (lg_sl ([.ref h0]) ++ List.replicate (1 - (lg_sl ([.ref h0])).length) Slot.unset).toArray = ls at hl ⊢
  have hl : lv_has ls 1 [(0, .ref h0)] := hl
  refine lv_aload_n hx hb dX4_init_0 rfl (lv_at hl 0 rfl) ?_
  refine W.objInit hx hb hown (hts _ oml_X4_init) (hts _ oin_X4_init) (hts _ oco_X4_init) rfl (by rw [hml]; exact hl.1) rfl dX4_init_1 (Nat.le_of_ble_eq_true rfl) (Nat.le_of_ble_eq_true rfl) ?_
  refine W.eq (g2 := F0 m 4 ls []) rfl ?_
  refine lv_aload_n hx hb dX4_init_4 rfl (lv_at hl 0 rfl) ?_
  refine va_new (ci := 5) (fs := [.null]) (C := RX5) (T := TX5) (N := 1) hx hb hts ic_X4_init_5 tyX5 tyX5_ok hown (hts _ cl5_X4_init) (hts _ ins5_X4_init) (hts _ ini5_X4_init) hK.1 hP hD hS hA rfl (fun j hj => by rcases (show j = 0 by omega) with rfl <;> rfl) (Nat.le_of_ble_eq_true rfl) (Nat.le_of_ble_eq_true rfl) dX4_init_5 (fun q5 H hP hD hS => ?_)
  have hP : va_P D vwCl [(h0, .inr (4, [.null, .null, .null, .int (zi 0), .int (zi 0)])), (q5, .inr (5, [.null]))] H := hP
  have hD : va_D A [(h0, .inr (4, [.null, .null, .null, .int (zi 0), .int (zi 0)])), (q5, .inr (5, [.null]))] := hD
  refine lv_dup hx hb dX4_init_8 rfl ?_
  refine zi_sipush hx hb dX4_init_9 (by decide) ?_
  have hPc := hP.sub (ws' := [(q5, .inr (5, [.null]))]) [1] rfl
  have hDc := hD.sub (ws' := [(q5, .inr (5, [.null]))]) [1] (by decide) rfl
  have hFc := va_free (wc := [(q5, .inr (5, [.null]))]) hD hS hA [1] rfl
  refine va_callv (va_runI (As := [.int (zi 3600)]) (rest := [.ref q5, .ref h0]) ⟨hx, hb, hml, hown, hts⟩ (ct_X5_init l D cI cZ cJ q5 H.size 3600 3600 rfl (by decide) (by decide)) (cwI 1 hts gX4_init_X5_init rfl rfl rfl (hts _ iniX5_init_X4_init) (hts _ mlX5_init_X4_init) (hts _ inmX5_init_X4_init) rfl (by decide +kernel) ⟨Nat.le_of_ble_eq_true rfl, Nat.le_of_ble_eq_true rfl⟩) ⟨fun a U g mk q => by obtain ⟨q0, q1, qP, qK, qD⟩ := q; exact ⟨q0, q1, qP, KK.same (u := U) (U := U.calling g mk a) rfl qK, qD⟩, fun U hU hW => ⟨rfl, by rw [hU], by rw [hU]; exact hPc, KK.warm hW hK, hDc.weaken (fun _ _ _ _ => trivial)⟩⟩ rfl rfl hl.1 rfl (lv_room (Nat.le_of_ble_eq_true rfl)) dX4_init_12 ⟨Nat.le_of_ble_eq_true rfl, Nat.le_of_ble_eq_true rfl⟩) hS (fun q _ h => hFc q h) hFc (fun u12 t H1 locs ht hvm hw hB hz1 hk1 hS => ?_)
  obtain ⟨hP1, hD1⟩ := hB
  rw [ht] at hP1
  obtain ⟨hP, hD⟩ := va_join (wr := [(h0, .inr (4, [.null, .null, .null, .int (zi 0), .int (zi 0)]))]) (w1 := [(q5, .inr (5, [.ref u12])), (u12, .inl (cI, 3600, .inl (zf (fun _ => 0))))]) hP hD [1] [0] rfl rfl (by decide) (by decide) hk1 hFc hP1 hD1
  clear hPc hDc hFc hP1 hD1 hz1 hk1 ht hvm hw
  generalize H1 = H at hP hS ⊢
  have hP : va_P D vwCl [(h0, .inr (4, [.null, .null, .null, .int (zi 0), .int (zi 0)])), (q5, .inr (5, [.ref u12])), (u12, .inl (cI, 3600, .inl (zf (fun _ => 0))))] H := hP
  have hD : va_D A [(h0, .inr (4, [.null, .null, .null, .int (zi 0), .int (zi 0)])), (q5, .inr (5, [.ref u12])), (u12, .inl (cI, 3600, .inl (zf (fun _ => 0))))] := hD
  refine va_putF (D := D) (ci := 4) (v := .ref q5) (ty := (.object "PlanetoidDesk$Row")) (C := RX4) (T := TX4) (N := 5) hx hb hts ic_X4_init_4 tyX4 tyX4_ok nmX4 hown hK.1 hP hD hS 0 rfl rfl 0 (by decide) (hts _ lk0_X4_init) (fun _ h9 => h9) rfl hin rfl (by decide +kernel) rfl rfl (Nat.le_of_ble_eq_true rfl) dX4_init_15 (fun H locs hP hD hS => ?_)
  have hP : va_P D vwCl [(h0, .inr (4, [.ref q5, .null, .null, .int (zi 0), .int (zi 0)])), (q5, .inr (5, [.ref u12])), (u12, .inl (cI, 3600, .inl (zf (fun _ => 0))))] H := hP
  have hD : va_D A [(h0, .inr (4, [.ref q5, .null, .null, .int (zi 0), .int (zi 0)])), (q5, .inr (5, [.ref u12])), (u12, .inl (cI, 3600, .inl (zf (fun _ => 0))))] := hD
  refine lv_aload_n hx hb dX4_init_18 rfl (lv_at hl 0 rfl) ?_
  refine va_new (ci := 5) (fs := [.null]) (C := RX5) (T := TX5) (N := 1) hx hb hts ic_X4_init_5 tyX5 tyX5_ok hown (hts _ cl5_X4_init) (hts _ ins5_X4_init) (hts _ ini5_X4_init) hK.1 hP hD hS hA rfl (fun j hj => by rcases (show j = 0 by omega) with rfl <;> rfl) (Nat.le_of_ble_eq_true rfl) (Nat.le_of_ble_eq_true rfl) dX4_init_19 (fun q19 H hP hD hS => ?_)
  have hP : va_P D vwCl [(h0, .inr (4, [.ref q5, .null, .null, .int (zi 0), .int (zi 0)])), (q5, .inr (5, [.ref u12])), (u12, .inl (cI, 3600, .inl (zf (fun _ => 0)))), (q19, .inr (5, [.null]))] H := hP
  have hD : va_D A [(h0, .inr (4, [.ref q5, .null, .null, .int (zi 0), .int (zi 0)])), (q5, .inr (5, [.ref u12])), (u12, .inl (cI, 3600, .inl (zf (fun _ => 0)))), (q19, .inr (5, [.null]))] := hD
  refine lv_dup hx hb dX4_init_22 rfl ?_
  refine zi_sipush hx hb dX4_init_23 (by decide) ?_
  have hPc := hP.sub (ws' := [(q19, .inr (5, [.null]))]) [3] rfl
  have hDc := hD.sub (ws' := [(q19, .inr (5, [.null]))]) [3] (by decide) rfl
  have hFc := va_free (wc := [(q19, .inr (5, [.null]))]) hD hS hA [3] rfl
  refine va_callv (va_runI (As := [.int (zi 405)]) (rest := [.ref q19, .ref h0]) ⟨hx, hb, hml, hown, hts⟩ (ct_X5_init l D cI cZ cJ q19 H.size 405 405 rfl (by decide) (by decide)) (cwI 1 hts gX4_init_X5_init rfl rfl rfl (hts _ iniX5_init_X4_init) (hts _ mlX5_init_X4_init) (hts _ inmX5_init_X4_init) rfl (by decide +kernel) ⟨Nat.le_of_ble_eq_true rfl, Nat.le_of_ble_eq_true rfl⟩) ⟨fun a U g mk q => by obtain ⟨q0, q1, qP, qK, qD⟩ := q; exact ⟨q0, q1, qP, KK.same (u := U) (U := U.calling g mk a) rfl qK, qD⟩, fun U hU hW => ⟨rfl, by rw [hU], by rw [hU]; exact hPc, KK.warm hW hK, hDc.weaken (fun _ _ _ _ => trivial)⟩⟩ rfl rfl hl.1 rfl (lv_room (Nat.le_of_ble_eq_true rfl)) dX4_init_26 ⟨Nat.le_of_ble_eq_true rfl, Nat.le_of_ble_eq_true rfl⟩) hS (fun q _ h => hFc q h) hFc (fun u26 t H1 locs ht hvm hw hB hz1 hk1 hS => ?_)
  obtain ⟨hP1, hD1⟩ := hB
  rw [ht] at hP1
  obtain ⟨hP, hD⟩ := va_join (wr := [(h0, .inr (4, [.ref q5, .null, .null, .int (zi 0), .int (zi 0)])), (q5, .inr (5, [.ref u12])), (u12, .inl (cI, 3600, .inl (zf (fun _ => 0))))]) (w1 := [(q19, .inr (5, [.ref u26])), (u26, .inl (cI, 405, .inl (zf (fun _ => 0))))]) hP hD [3] [0, 1, 2] rfl rfl (by decide) (by decide) hk1 hFc hP1 hD1
  clear hPc hDc hFc hP1 hD1 hz1 hk1 ht hvm hw
  generalize H1 = H at hP hS ⊢
  have hP : va_P D vwCl [(h0, .inr (4, [.ref q5, .null, .null, .int (zi 0), .int (zi 0)])), (q5, .inr (5, [.ref u12])), (u12, .inl (cI, 3600, .inl (zf (fun _ => 0)))), (q19, .inr (5, [.ref u26])), (u26, .inl (cI, 405, .inl (zf (fun _ => 0))))] H := hP
  have hD : va_D A [(h0, .inr (4, [.ref q5, .null, .null, .int (zi 0), .int (zi 0)])), (q5, .inr (5, [.ref u12])), (u12, .inl (cI, 3600, .inl (zf (fun _ => 0)))), (q19, .inr (5, [.ref u26])), (u26, .inl (cI, 405, .inl (zf (fun _ => 0))))] := hD
  refine va_putF (D := D) (ci := 4) (v := .ref q19) (ty := (.object "PlanetoidDesk$Row")) (C := RX4) (T := TX4) (N := 5) hx hb hts ic_X4_init_4 tyX4 tyX4_ok nmX4 hown hK.1 hP hD hS 0 rfl rfl 1 (by decide) (hts _ lk1_X4_init) (fun _ h9 => h9) rfl hin rfl (by decide +kernel) rfl rfl (Nat.le_of_ble_eq_true rfl) dX4_init_29 (fun H locs hP hD hS => ?_)
  have hP : va_P D vwCl [(h0, .inr (4, [.ref q5, .ref q19, .null, .int (zi 0), .int (zi 0)])), (q5, .inr (5, [.ref u12])), (u12, .inl (cI, 3600, .inl (zf (fun _ => 0)))), (q19, .inr (5, [.ref u26])), (u26, .inl (cI, 405, .inl (zf (fun _ => 0))))] H := hP
  have hD : va_D A [(h0, .inr (4, [.ref q5, .ref q19, .null, .int (zi 0), .int (zi 0)])), (q5, .inr (5, [.ref u12])), (u12, .inl (cI, 3600, .inl (zf (fun _ => 0)))), (q19, .inr (5, [.ref u26])), (u26, .inl (cI, 405, .inl (zf (fun _ => 0))))] := hD
  refine lv_aload_n hx hb dX4_init_32 rfl (lv_at hl 0 rfl) ?_
  refine va_new (ci := 5) (fs := [.null]) (C := RX5) (T := TX5) (N := 1) hx hb hts ic_X4_init_5 tyX5 tyX5_ok hown (hts _ cl5_X4_init) (hts _ ins5_X4_init) (hts _ ini5_X4_init) hK.1 hP hD hS hA rfl (fun j hj => by rcases (show j = 0 by omega) with rfl <;> rfl) (Nat.le_of_ble_eq_true rfl) (Nat.le_of_ble_eq_true rfl) dX4_init_33 (fun q33 H hP hD hS => ?_)
  have hP : va_P D vwCl [(h0, .inr (4, [.ref q5, .ref q19, .null, .int (zi 0), .int (zi 0)])), (q5, .inr (5, [.ref u12])), (u12, .inl (cI, 3600, .inl (zf (fun _ => 0)))), (q19, .inr (5, [.ref u26])), (u26, .inl (cI, 405, .inl (zf (fun _ => 0)))), (q33, .inr (5, [.null]))] H := hP
  have hD : va_D A [(h0, .inr (4, [.ref q5, .ref q19, .null, .int (zi 0), .int (zi 0)])), (q5, .inr (5, [.ref u12])), (u12, .inl (cI, 3600, .inl (zf (fun _ => 0)))), (q19, .inr (5, [.ref u26])), (u26, .inl (cI, 405, .inl (zf (fun _ => 0)))), (q33, .inr (5, [.null]))] := hD
  refine lv_dup hx hb dX4_init_36 rfl ?_
  refine zi_sipush hx hb dX4_init_37 (by decide) ?_
  have hPc := hP.sub (ws' := [(q33, .inr (5, [.null]))]) [5] rfl
  have hDc := hD.sub (ws' := [(q33, .inr (5, [.null]))]) [5] (by decide) rfl
  have hFc := va_free (wc := [(q33, .inr (5, [.null]))]) hD hS hA [5] rfl
  refine va_callv (va_runI (As := [.int (zi 3600)]) (rest := [.ref q33, .ref h0]) ⟨hx, hb, hml, hown, hts⟩ (ct_X5_init l D cI cZ cJ q33 H.size 3600 3600 rfl (by decide) (by decide)) (cwI 1 hts gX4_init_X5_init rfl rfl rfl (hts _ iniX5_init_X4_init) (hts _ mlX5_init_X4_init) (hts _ inmX5_init_X4_init) rfl (by decide +kernel) ⟨Nat.le_of_ble_eq_true rfl, Nat.le_of_ble_eq_true rfl⟩) ⟨fun a U g mk q => by obtain ⟨q0, q1, qP, qK, qD⟩ := q; exact ⟨q0, q1, qP, KK.same (u := U) (U := U.calling g mk a) rfl qK, qD⟩, fun U hU hW => ⟨rfl, by rw [hU], by rw [hU]; exact hPc, KK.warm hW hK, hDc.weaken (fun _ _ _ _ => trivial)⟩⟩ rfl rfl hl.1 rfl (lv_room (Nat.le_of_ble_eq_true rfl)) dX4_init_40 ⟨Nat.le_of_ble_eq_true rfl, Nat.le_of_ble_eq_true rfl⟩) hS (fun q _ h => hFc q h) hFc (fun u40 t H1 locs ht hvm hw hB hz1 hk1 hS => ?_)
  obtain ⟨hP1, hD1⟩ := hB
  rw [ht] at hP1
  obtain ⟨hP, hD⟩ := va_join (wr := [(h0, .inr (4, [.ref q5, .ref q19, .null, .int (zi 0), .int (zi 0)])), (q5, .inr (5, [.ref u12])), (u12, .inl (cI, 3600, .inl (zf (fun _ => 0)))), (q19, .inr (5, [.ref u26])), (u26, .inl (cI, 405, .inl (zf (fun _ => 0))))]) (w1 := [(q33, .inr (5, [.ref u40])), (u40, .inl (cI, 3600, .inl (zf (fun _ => 0))))]) hP hD [5] [0, 1, 2, 3, 4] rfl rfl (by decide) (by decide) hk1 hFc hP1 hD1
  clear hPc hDc hFc hP1 hD1 hz1 hk1 ht hvm hw
  generalize H1 = H at hP hS ⊢
  have hP : va_P D vwCl [(h0, .inr (4, [.ref q5, .ref q19, .null, .int (zi 0), .int (zi 0)])), (q5, .inr (5, [.ref u12])), (u12, .inl (cI, 3600, .inl (zf (fun _ => 0)))), (q19, .inr (5, [.ref u26])), (u26, .inl (cI, 405, .inl (zf (fun _ => 0)))), (q33, .inr (5, [.ref u40])), (u40, .inl (cI, 3600, .inl (zf (fun _ => 0))))] H := hP
  have hD : va_D A [(h0, .inr (4, [.ref q5, .ref q19, .null, .int (zi 0), .int (zi 0)])), (q5, .inr (5, [.ref u12])), (u12, .inl (cI, 3600, .inl (zf (fun _ => 0)))), (q19, .inr (5, [.ref u26])), (u26, .inl (cI, 405, .inl (zf (fun _ => 0)))), (q33, .inr (5, [.ref u40])), (u40, .inl (cI, 3600, .inl (zf (fun _ => 0))))] := hD
  refine va_putF (D := D) (ci := 4) (v := .ref q33) (ty := (.object "PlanetoidDesk$Row")) (C := RX4) (T := TX4) (N := 5) hx hb hts ic_X4_init_4 tyX4 tyX4_ok nmX4 hown hK.1 hP hD hS 0 rfl rfl 2 (by decide) (hts _ lk2_X4_init) (fun _ h9 => h9) rfl hin rfl (by decide +kernel) rfl rfl (Nat.le_of_ble_eq_true rfl) dX4_init_43 (fun H locs hP hD hS => ?_)
  have hP : va_P D vwCl [(h0, .inr (4, [.ref q5, .ref q19, .ref q33, .int (zi 0), .int (zi 0)])), (q5, .inr (5, [.ref u12])), (u12, .inl (cI, 3600, .inl (zf (fun _ => 0)))), (q19, .inr (5, [.ref u26])), (u26, .inl (cI, 405, .inl (zf (fun _ => 0)))), (q33, .inr (5, [.ref u40])), (u40, .inl (cI, 3600, .inl (zf (fun _ => 0))))] H := hP
  have hD : va_D A [(h0, .inr (4, [.ref q5, .ref q19, .ref q33, .int (zi 0), .int (zi 0)])), (q5, .inr (5, [.ref u12])), (u12, .inl (cI, 3600, .inl (zf (fun _ => 0)))), (q19, .inr (5, [.ref u26])), (u26, .inl (cI, 405, .inl (zf (fun _ => 0)))), (q33, .inr (5, [.ref u40])), (u40, .inl (cI, 3600, .inl (zf (fun _ => 0))))] := hD
  refine W.widen (k := 6) (n := 7608) (Nat.le_of_ble_eq_true rfl) (Nat.le_of_ble_eq_true rfl) ?_
  exact W.vret hx hb hr (fun t ht hW => ⟨⟨(fun i => [q5, u12, q19, u26, q33, u40].getD i 0), rfl, trivial, by rw [ht]; exact hP, hD⟩, hS.F ht⟩) hS.2.2 dX4_init_46
theorem oml_X1_init : Cond.methodLink RX1 3 objectInit ∈ wsX1_init := by decide +kernel
theorem oin_X1_init : Cond.instanceMethod objectInit ∈ wsX1_init := by decide +kernel
theorem oco_X1_init : Cond.code objectInit ⟨#[0xb1]⟩ 1 none ∈ wsX1_init := by decide +kernel
theorem ic_X1_init_5 : ∀ w ∈ wsX50, w ∈ wsX1_init := by decide +kernel
theorem cl5_X1_init : Cond.classLink RX1 9 RX5 ∈ wsX1_init := by decide +kernel
theorem ins5_X1_init : Cond.instantiable RX5 1 ∈ wsX1_init := by decide +kernel
theorem ini5_X1_init : Cond.initialized RX5 ∈ wsX1_init := by decide +kernel
theorem iniX5_init_X1_init : Cond.initialized RX5 ∈ wsX1_init := by decide +kernel
theorem inmX5_init_X1_init : Cond.instanceMethod yX5_init ∈ wsX1_init := by decide +kernel
theorem mlX5_init_X1_init : Cond.methodLink RX1 11 yX5_init ∈ wsX1_init := by decide +kernel
theorem ic_X1_init_1 : ∀ w ∈ wsX10, w ∈ wsX1_init := by decide +kernel
theorem lk0_X1_init : Cond.fieldLink RX1 14 "PlanetoidDesk$Kinship" "lowestNumbers" "LPlanetoidDesk$Row;" ∈ wsX1_init := by decide +kernel
set_option maxHeartbeats 4000000 in
set_option maxRecDepth 100000 in
theorem ct_X1_init (l : Launch) (D : va_G) (cI cZ cJ : ClassId) (h0 sz : Nat) : Met l yX1_init wsX1_init { frames := 2, cells := 2, slots := 21, locals := 33 } (va_Pc [.ref h0] (fun U => U.heap.size = sz ∧ va_P D vwCl [(h0, .inr (1, [.null]))] U.heap ∧ KK D cI cZ cJ U ∧ va_D (fun _ => True) [(h0, .inr (1, [.null]))])) (va_Qv (S := Nat → Nat) (fun _ => True) (fun u t => va_P D vwCl [(h0, .inr (1, [.ref (u 0)])), ((u 0), .inr (5, [.ref (u 1)])), ((u 1), .inl (cI, 20, .inl (zf (fun _ => 0))))] t.heap ∧ va_D (va_A [(h0, .inr (1, [.null]))] sz) [(h0, .inr (1, [.ref (u 0)])), ((u 0), .inr (5, [.ref (u 1)])), ((u 1), .inl (cI, 20, .inl (zf (fun _ => 0))))]) (va_A [(h0, .inr (1, [.null]))] sz)) 2 21 (va_A [(h0, .inr (1, [.null]))] sz) := by
  refine Met.ofW (cc := cX1_init) (maxL := 1) (ret := none) (by decide) rfl ?_
  intro p e s m args below meth c s₁ B hml hv
  obtain ⟨rfl, hsz, hP, hK, hD0⟩ := hv
  have hx := B.exec
  have hb := B.bytes
  have hr := B.returns
  have hts := atoms_spec (ws := wsX1_init) B.pre
  have hown : s.vm.findClass RX1 = some m.cls := findClass_of_methodNamed B.named
  have hlocks := B.notSynchronized
  have hin : meth.name = "<init>" := (name_of_methodNamed B.named B.method).1
  subst hsz
  have hD := hD0.self (sz := s.heap.size)
  generalize hAe : va_A [(h0, .inr (1, [.null]))] s.heap.size = A at hD ⊢
  have hA : ∀ q : Nat, s.heap.size ≤ q → A q := fun q h => by rw [← hAe]; exact Or.inr h
  have hS : va_S A s.heap s.heap [] := va_S.rf
  have hP : va_P D vwCl [(h0, .inr (1, [.null]))] s.heap := hP
  have hl := lv_entry ([.ref h0]) (n := 1) (Nat.le_of_ble_eq_true rfl)
  rw [lg_entry_eq]
  generalize (lg_sl ([.ref h0]) ++ List.replicate (1 - (lg_sl ([.ref h0])).length) Slot.unset).toArray = ls at hl ⊢
  have hl : lv_has ls 1 [(0, .ref h0)] := hl
  refine lv_aload_n hx hb dX1_init_0 rfl (lv_at hl 0 rfl) ?_
  refine W.objInit hx hb hown (hts _ oml_X1_init) (hts _ oin_X1_init) (hts _ oco_X1_init) rfl (by rw [hml]; exact hl.1) rfl dX1_init_1 (Nat.le_of_ble_eq_true rfl) (Nat.le_of_ble_eq_true rfl) ?_
  refine W.eq (g2 := F0 m 4 ls []) rfl ?_
  refine lv_aload_n hx hb dX1_init_4 rfl (lv_at hl 0 rfl) ?_
  refine va_new (ci := 5) (fs := [.null]) (C := RX5) (T := TX5) (N := 1) hx hb hts ic_X1_init_5 tyX5 tyX5_ok hown (hts _ cl5_X1_init) (hts _ ins5_X1_init) (hts _ ini5_X1_init) hK.1 hP hD hS hA rfl (fun j hj => by rcases (show j = 0 by omega) with rfl <;> rfl) (Nat.le_of_ble_eq_true rfl) (Nat.le_of_ble_eq_true rfl) dX1_init_5 (fun q5 H hP hD hS => ?_)
  have hP : va_P D vwCl [(h0, .inr (1, [.null])), (q5, .inr (5, [.null]))] H := hP
  have hD : va_D A [(h0, .inr (1, [.null])), (q5, .inr (5, [.null]))] := hD
  refine lv_dup hx hb dX1_init_8 rfl ?_
  refine zi_bipush hx hb dX1_init_9 (by decide) ?_
  have hPc := hP.sub (ws' := [(q5, .inr (5, [.null]))]) [1] rfl
  have hDc := hD.sub (ws' := [(q5, .inr (5, [.null]))]) [1] (by decide) rfl
  have hFc := va_free (wc := [(q5, .inr (5, [.null]))]) hD hS hA [1] rfl
  refine va_callv (va_runI (As := [.int (zi 20)]) (rest := [.ref q5, .ref h0]) ⟨hx, hb, hml, hown, hts⟩ (ct_X5_init l D cI cZ cJ q5 H.size 20 20 rfl (by decide) (by decide)) (cwI 1 hts gX1_init_X5_init rfl rfl rfl (hts _ iniX5_init_X1_init) (hts _ mlX5_init_X1_init) (hts _ inmX5_init_X1_init) rfl (by decide +kernel) ⟨Nat.le_of_ble_eq_true rfl, Nat.le_of_ble_eq_true rfl⟩) ⟨fun a U g mk q => by obtain ⟨q0, q1, qP, qK, qD⟩ := q; exact ⟨q0, q1, qP, KK.same (u := U) (U := U.calling g mk a) rfl qK, qD⟩, fun U hU hW => ⟨rfl, by rw [hU], by rw [hU]; exact hPc, KK.warm hW hK, hDc.weaken (fun _ _ _ _ => trivial)⟩⟩ rfl rfl hl.1 rfl (lv_room (Nat.le_of_ble_eq_true rfl)) dX1_init_11 ⟨Nat.le_of_ble_eq_true rfl, Nat.le_of_ble_eq_true rfl⟩) hS (fun q _ h => hFc q h) hFc (fun u11 t H1 locs ht hvm hw hB hz1 hk1 hS => ?_)
  obtain ⟨hP1, hD1⟩ := hB
  rw [ht] at hP1
  obtain ⟨hP, hD⟩ := va_join (wr := [(h0, .inr (1, [.null]))]) (w1 := [(q5, .inr (5, [.ref u11])), (u11, .inl (cI, 20, .inl (zf (fun _ => 0))))]) hP hD [1] [0] rfl rfl (by decide) (by decide) hk1 hFc hP1 hD1
  clear hPc hDc hFc hP1 hD1 hz1 hk1 ht hvm hw
  generalize H1 = H at hP hS ⊢
  have hP : va_P D vwCl [(h0, .inr (1, [.null])), (q5, .inr (5, [.ref u11])), (u11, .inl (cI, 20, .inl (zf (fun _ => 0))))] H := hP
  have hD : va_D A [(h0, .inr (1, [.null])), (q5, .inr (5, [.ref u11])), (u11, .inl (cI, 20, .inl (zf (fun _ => 0))))] := hD
  refine va_putF (D := D) (ci := 1) (v := .ref q5) (ty := (.object "PlanetoidDesk$Row")) (C := RX1) (T := TX1) (N := 1) hx hb hts ic_X1_init_1 tyX1 tyX1_ok nmX1 hown hK.1 hP hD hS 0 rfl rfl 0 (by decide) (hts _ lk0_X1_init) (fun _ h9 => h9) rfl hin rfl (by decide +kernel) rfl rfl (Nat.le_of_ble_eq_true rfl) dX1_init_14 (fun H locs hP hD hS => ?_)
  have hP : va_P D vwCl [(h0, .inr (1, [.ref q5])), (q5, .inr (5, [.ref u11])), (u11, .inl (cI, 20, .inl (zf (fun _ => 0))))] H := hP
  have hD : va_D A [(h0, .inr (1, [.ref q5])), (q5, .inr (5, [.ref u11])), (u11, .inl (cI, 20, .inl (zf (fun _ => 0))))] := hD
  refine W.widen (k := 2) (n := 21) (Nat.le_of_ble_eq_true rfl) (Nat.le_of_ble_eq_true rfl) ?_
  exact W.vret hx hb hr (fun t ht hW => ⟨⟨(fun i => [q5, u11].getD i 0), rfl, trivial, by rw [ht]; exact hP, hD⟩, hS.F ht⟩) hS.2.2 dX1_init_17

