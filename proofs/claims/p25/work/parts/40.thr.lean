def xIOB : String := "java/lang/IndexOutOfBoundsException"
def xIAE : String := "java/lang/IllegalArgumentException"
def xISE : String := "java/lang/IllegalStateException"
def xNS : List String := ["java/lang/RuntimeException", "java/lang/Exception"]
def xTx : List (Nat × String) := [(243, "there is no such one"), (246, "an argument is out of its range"), (61, "there are 6 observatories"), (77, "there are 30 plates"), (86, "there are 60 dots"), (111, "the dot is not unlinked"), (116, "there are 20 bodies"), (129, "the dot cannot be linked to the body"), (140, "the dot is no own dot of the body, or the only one"), (145, "the bodies cannot be joined"), (156, "no body is joined to it"), (164, "the body cannot get a number"), (208, "there is no rank below 0")]
def xB : List Cond := (vx_atS RX7 245 xIOB xNS ++ (vx_atS RX7 210 xIAE xNS ++ vx_atS RX7 63 xISE xNS)).filter (fun w => !goodWord w)
theorem xB_ot : ∀ w ∈ xB, vx_ot w = true := by decide +kernel
/-- what a throw of the desk needs of the state: the statics of Throwable, the texts, the words -/
def xP (sa : Nat → Nat) (A : Nat → Prop) (U : State) (H : Heap) : Prop := vx_Zq Bundle.tN "UNASSIGNED_STACK" Bundle.steD A U H ∧ vx_Zq Bundle.tN "SUPPRESSED_SENTINEL" Bundle.listD A U H ∧ (∀ (k : Nat) (q : Nat × String), xTx[k]? = some q → vk_R RX7 q.1 q.2 (sa k) U) ∧ ∀ w ∈ xB, w.before #[] U = true
theorem xB_in {n : Nat} {cls : String} {L : List Cond} (hL : ∀ w ∈ L.filter (fun w => !goodWord w), w ∈ xB) {sa : Nat → Nat} {A : Nat → Prop} {U : State} {H : Heap} {args : Array Value} (h : xP sa A U H) (h1 : ∀ w ∈ L.filter goodWord, w.before args U = true) : ∀ w ∈ L, w.before args U = true := vx_hat h1 hL (fun w hw => vx_ot_at (State.WarmedH.refl U) rfl (xB_ot w hw) (h.2.2.2 w hw))
theorem sub_245 : ∀ w ∈ (vx_atS RX7 245 xIOB xNS).filter (fun w => !goodWord w), w ∈ xB := by
  intro w hw
  rw [xB, List.filter_append]
  exact List.mem_append_left _ hw
theorem sub_210 : ∀ w ∈ (vx_atS RX7 210 xIAE xNS).filter (fun w => !goodWord w), w ∈ xB := by
  intro w hw
  rw [xB, List.filter_append, List.filter_append]
  exact List.mem_append_right _ (List.mem_append_left _ hw)
theorem sub_63 : ∀ w ∈ (vx_atS RX7 63 xISE xNS).filter (fun w => !goodWord w), w ∈ xB := by
  intro w hw
  rw [xB, List.filter_append, List.filter_append]
  exact List.mem_append_right _ (List.mem_append_right _ hw)
theorem ot_245 : ∀ w ∈ Cond.classLink RX7 241 xIOB :: Cond.initialized xIOB :: vx_atS RX7 245 xIOB xNS, vx_ot w = true := by decide +kernel
theorem ot_210 : ∀ w ∈ Cond.classLink RX7 206 xIAE :: Cond.initialized xIAE :: vx_atS RX7 210 xIAE xNS, vx_ot w = true := by decide +kernel
theorem ot_63 : ∀ w ∈ Cond.classLink RX7 59 xISE :: Cond.initialized xISE :: vx_atS RX7 63 xISE xNS, vx_ot w = true := by decide +kernel
theorem xNS_fit : ∀ n ∈ xNS, Bundle.fit n = true := by decide
/-- a check of the desk: it returns where P holds, else it throws E; it changes nothing -/
def xChk (l : Launch) (y : MethodName) (ws : List Cond) (rm : Room) (av : List Value) (P : Prop) (E0 : String) : Prop := ∀ (sa : Nat → Nat) (A : Nat → Prop), vx_Met l y ws rm (va_Pc av (fun U => xP sa A U U.heap)) (va_Qv (S := Unit) (fun _ => P) (fun _ _ => True) (fun _ => False)) (vx_X (S := Unit) (fun _ => ¬ P) (fun E _ _ => E = E0) (fun _ => False)) 1 6 (fun _ => False)
abbrev rmThr : Room := { frames := 6, cells := 1, slots := 6, locals := 82 }
set_option maxHeartbeats 4000000 in
set_option maxRecDepth 100000 in
theorem ct_X7_needOneOf (l : Launch) (hst : l.stackTraces = false) (x0 x1 : Int) (hx0 : ir x0) (hx1 : ir x1) : xChk l yX7_needOneOf wsX7_needOneOf rmThr [.int (zi x0), .int (zi x1)] (0 ≤ x0 ∧ x0 < x1) xIOB := by
  intro sa A
  refine vx_ofW (cc := cX7_needOneOf) (maxL := 2) (ret := none) (by decide) rfl ?_
  intro p e s m args below meth c s₁ B hml htab hv
  obtain ⟨rfl, hX⟩ := hv
  have hx := B.exec
  have hb := B.bytes
  have hr := B.returns
  have hts := atoms_spec (ws := wsX7_needOneOf) B.pre
  have hown : s.vm.findClass RX7 = some m.cls := findClass_of_methodNamed B.named
  have hlocks := B.notSynchronized
  have hl := lv_entry ([.int (zi x0), .int (zi x1)]) (n := 2) (Nat.le_of_ble_eq_true rfl)
  rw [lg_entry_eq]
  generalize (lg_sl ([.int (zi x0), .int (zi x1)]) ++ List.replicate (2 - (lg_sl ([.int (zi x0), .int (zi x1)])).length) Slot.unset).toArray = ls at hl ⊢
  have hl : lv_has ls 2 [(0, .int (zi x0)), (1, .int (zi x1))] := hl
  show W p l e rmThr s m ([.int (zi x0), .int (zi x1)] : List Value).toArray below meth c s.heap [] 0 0 _ (F0 m 0 ls [])
  have hS : va_S A s.heap s.heap [] := ⟨Nat.le_refl _, fun _ _ _ => rfl, fun _ h => nomatch h⟩
  have thr : ¬ (0 ≤ x0 ∧ x0 < x1) → W p l e rmThr s m ([.int (zi x0), .int (zi x1)] : List Value).toArray below meth c s.heap [] 0 0 (vx_MQ below (va_Qv (S := Unit) (fun _ => 0 ≤ x0 ∧ x0 < x1) (fun _ _ => True) (fun _ => False)) (vx_X (S := Unit) (fun _ => ¬ (0 ≤ x0 ∧ x0 < x1)) (fun E _ _ => E = xIOB) (fun _ => False)) ([.int (zi x0), .int (zi x1)] : List Value).toArray s 1 6 (fun _ => False)) (F0 m 9 ls []) := fun hno => vx_throwS hx hb hst hown (by decide) xNS_fit (hts _ (List.mem_cons_of_mem _ (List.mem_append_left _ (List.mem_cons_self)))) (hts _ (List.mem_cons_of_mem _ (List.mem_append_left _ (List.mem_cons_of_mem _ (List.mem_cons_self))))) (hX.2.2.1 0 (243, "there is no such one") rfl) (xB_in (n := 0) (cls := xIOB) sub_245 hX (fun w hw => hts w (List.mem_cons_of_mem _ (List.mem_append_right _ hw)))) ot_245 hX.1 hX.2.1 hS (hl.1.trans hml.symm) dX7_needOneOf_9 dX7_needOneOf_12 dX7_needOneOf_13 dX7_needOneOf_15 dX7_needOneOf_18 (fun x h9 => (htab x h9).elim) (by decide) (by decide) (by decide) (by decide) hlocks (fun t h1 h2 h3 => ⟨(), hno, rfl, h2, fun q hq _ => h3 q hq⟩) (fun _ h => nomatch h) (by decide) (by decide)
  have ret : (0 ≤ x0 ∧ x0 < x1) → W p l e rmThr s m ([.int (zi x0), .int (zi x1)] : List Value).toArray below meth c s.heap [] 0 0 (vx_MQ below (va_Qv (S := Unit) (fun _ => 0 ≤ x0 ∧ x0 < x1) (fun _ _ => True) (fun _ => False)) (vx_X (S := Unit) (fun _ => ¬ (0 ≤ x0 ∧ x0 < x1)) (fun E _ _ => E = xIOB) (fun _ => False)) ([.int (zi x0), .int (zi x1)] : List Value).toArray s 1 6 (fun _ => False)) (F0 m 19 ls []) := fun hyes T9 hT X => (vx_ret (XC := vx_X (S := Unit) (fun _ => ¬ (0 ≤ x0 ∧ x0 < x1)) (fun E _ _ => E = xIOB) (fun _ => False)) (W.vret (Qc := va_Qv (S := Unit) (fun _ => 0 ≤ x0 ∧ x0 < x1) (fun _ _ => True) (fun _ => False)) hx hb hr (fun t ht _ => ⟨⟨(), rfl, hyes, trivial⟩, by rw [ht]; exact Nat.le_refl _, fun q _ _ => by rw [ht]⟩) (fun _ h => nomatch h) dX7_needOneOf_19 hlocks) : W p l e rmThr s m ([.int (zi x0), .int (zi x1)] : List Value).toArray below meth c s.heap [] 1 6 _ (F0 m 19 ls [])) T9 hT (stand_widen X (by decide) (by decide))
  refine lv_iload_n hx hb dX7_needOneOf_0 rfl (lv_at hl 0 rfl) ?_
  refine zi_if_lt (tgt := 9) hx hb hx0 dX7_needOneOf_1 (by decide) (fun c_1 => thr (by omega)) (fun c_1 => ?_)
  refine lv_iload_n hx hb dX7_needOneOf_4 rfl (lv_at hl 0 rfl) ?_
  refine lv_iload_n hx hb dX7_needOneOf_5 rfl (lv_at hl 1 rfl) ?_
  exact zi_icmp_lt (tgt := 19) hx hb hx0 hx1 dX7_needOneOf_6 (by decide) (fun c_6 => ret (by omega)) (fun c_6 => thr (by omega))
set_option maxHeartbeats 4000000 in
set_option maxRecDepth 100000 in
theorem ct_X7_needWithin (l : Launch) (hst : l.stackTraces = false) (x0 x1 x2 : Int) (hx0 : ir x0) (hx1 : ir x1) (hx2 : ir x2) : xChk l yX7_needWithin wsX7_needWithin rmThr [.int (zi x0), .int (zi x1), .int (zi x2)] (x1 ≤ x0 ∧ x0 ≤ x2) xIAE := by
  intro sa A
  refine vx_ofW (cc := cX7_needWithin) (maxL := 3) (ret := none) (by decide) rfl ?_
  intro p e s m args below meth c s₁ B hml htab hv
  obtain ⟨rfl, hX⟩ := hv
  have hx := B.exec
  have hb := B.bytes
  have hr := B.returns
  have hts := atoms_spec (ws := wsX7_needWithin) B.pre
  have hown : s.vm.findClass RX7 = some m.cls := findClass_of_methodNamed B.named
  have hlocks := B.notSynchronized
  have hl := lv_entry ([.int (zi x0), .int (zi x1), .int (zi x2)]) (n := 3) (Nat.le_of_ble_eq_true rfl)
  rw [lg_entry_eq]
  generalize (lg_sl ([.int (zi x0), .int (zi x1), .int (zi x2)]) ++ List.replicate (3 - (lg_sl ([.int (zi x0), .int (zi x1), .int (zi x2)])).length) Slot.unset).toArray = ls at hl ⊢
  have hl : lv_has ls 3 [(0, .int (zi x0)), (1, .int (zi x1)), (2, .int (zi x2))] := hl
  show W p l e rmThr s m ([.int (zi x0), .int (zi x1), .int (zi x2)] : List Value).toArray below meth c s.heap [] 0 0 _ (F0 m 0 ls [])
  have hS : va_S A s.heap s.heap [] := ⟨Nat.le_refl _, fun _ _ _ => rfl, fun _ h => nomatch h⟩
  have thr : ¬ (x1 ≤ x0 ∧ x0 ≤ x2) → W p l e rmThr s m ([.int (zi x0), .int (zi x1), .int (zi x2)] : List Value).toArray below meth c s.heap [] 0 0 (vx_MQ below (va_Qv (S := Unit) (fun _ => x1 ≤ x0 ∧ x0 ≤ x2) (fun _ _ => True) (fun _ => False)) (vx_X (S := Unit) (fun _ => ¬ (x1 ≤ x0 ∧ x0 ≤ x2)) (fun E _ _ => E = xIAE) (fun _ => False)) ([.int (zi x0), .int (zi x1), .int (zi x2)] : List Value).toArray s 1 6 (fun _ => False)) (F0 m 10 ls []) := fun hno => vx_throwS hx hb hst hown (by decide) xNS_fit (hts _ (List.mem_cons_of_mem _ (List.mem_append_left _ (List.mem_cons_self)))) (hts _ (List.mem_cons_of_mem _ (List.mem_append_left _ (List.mem_cons_of_mem _ (List.mem_cons_self))))) (hX.2.2.1 1 (246, "an argument is out of its range") rfl) (xB_in (n := 0) (cls := xIAE) sub_210 hX (fun w hw => hts w (List.mem_cons_of_mem _ (List.mem_append_right _ hw)))) ot_210 hX.1 hX.2.1 hS (hl.1.trans hml.symm) dX7_needWithin_10 dX7_needWithin_13 dX7_needWithin_14 dX7_needWithin_16 dX7_needWithin_19 (fun x h9 => (htab x h9).elim) (by decide) (by decide) (by decide) (by decide) hlocks (fun t h1 h2 h3 => ⟨(), hno, rfl, h2, fun q hq _ => h3 q hq⟩) (fun _ h => nomatch h) (by decide) (by decide)
  have ret : (x1 ≤ x0 ∧ x0 ≤ x2) → W p l e rmThr s m ([.int (zi x0), .int (zi x1), .int (zi x2)] : List Value).toArray below meth c s.heap [] 0 0 (vx_MQ below (va_Qv (S := Unit) (fun _ => x1 ≤ x0 ∧ x0 ≤ x2) (fun _ _ => True) (fun _ => False)) (vx_X (S := Unit) (fun _ => ¬ (x1 ≤ x0 ∧ x0 ≤ x2)) (fun E _ _ => E = xIAE) (fun _ => False)) ([.int (zi x0), .int (zi x1), .int (zi x2)] : List Value).toArray s 1 6 (fun _ => False)) (F0 m 20 ls []) := fun hyes T9 hT X => (vx_ret (XC := vx_X (S := Unit) (fun _ => ¬ (x1 ≤ x0 ∧ x0 ≤ x2)) (fun E _ _ => E = xIAE) (fun _ => False)) (W.vret (Qc := va_Qv (S := Unit) (fun _ => x1 ≤ x0 ∧ x0 ≤ x2) (fun _ _ => True) (fun _ => False)) hx hb hr (fun t ht _ => ⟨⟨(), rfl, hyes, trivial⟩, by rw [ht]; exact Nat.le_refl _, fun q _ _ => by rw [ht]⟩) (fun _ h => nomatch h) dX7_needWithin_20 hlocks) : W p l e rmThr s m ([.int (zi x0), .int (zi x1), .int (zi x2)] : List Value).toArray below meth c s.heap [] 1 6 _ (F0 m 20 ls [])) T9 hT (stand_widen X (by decide) (by decide))
  refine lv_iload_n hx hb dX7_needWithin_0 rfl (lv_at hl 0 rfl) ?_
  refine lv_iload_n hx hb dX7_needWithin_1 rfl (lv_at hl 1 rfl) ?_
  refine zi_icmp_lt (tgt := 10) hx hb hx0 hx1 dX7_needWithin_2 (by decide) (fun c_2 => thr (by omega)) (fun c_2 => ?_)
  refine lv_iload_n hx hb dX7_needWithin_5 rfl (lv_at hl 0 rfl) ?_
  refine lv_iload_n hx hb dX7_needWithin_6 rfl (lv_at hl 2 rfl) ?_
  exact zi_icmp_le (tgt := 20) hx hb hx0 hx2 dX7_needWithin_7 (by decide) (fun c_7 => ret (by omega)) (fun c_7 => thr (by omega))
