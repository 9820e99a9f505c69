/-! asks: a call of the desk by its kind, its throws as numbers -/
theorem mt_ofWH {l : Launch} {y : MethodName} {ws ws' : List Cond} {rm : Room} {Pc : Array Value → State → Prop} {Qc : Array Value → State → Outcome → State → Prop} {mc ms : Nat} {free : Addr → Prop} {cc : ByteArray} {maxL : Nat} {ret : Option FieldType} {hh : List (Nat × Nat × Nat × Nat)}
    (hy : plainName y.cls = true) (hw : ws = Cond.codeWith y cc maxL ret hh :: ws')
    (body : ∀ p e s m args below meth c s₁, BodyLoose p l y (headSpec ws rm) cc maxL ret e s m args below meth c s₁ → c.maxLocals = maxL → Pc args s →
      W p l e (headSpec ws rm).room s m args below meth c s.heap [] 0 0 (MQ below Qc args s mc ms free) (entryFrame m args maxL)) : Met l y ws rm Pc Qc mc ms free := by
  refine MetFree.of_bodyS (code := cc) (maxLocals := maxL) (ret := ret) hy ?_ ?_
  · intro args s m h hn
    obtain ⟨m9, meth, c, hn9, h1, h2, h3, h4, -, h5, h6, -⟩ := Cond.codeWith_spec (atoms_spec (ws := ws) h _ (by rw [hw]; exact List.mem_cons_self))
    cases hn.symm.trans hn9
    exact ⟨meth, c, h1, h2, h3, h4, h5, h6⟩
  · intro p e s m args below meth c s₁ B hml hP _
    have hh0 : s₁.heap = s.heap := by rw [B.state]; rfl
    obtain ⟨t, a1, o, b1, b2, b3⟩ := body p e s m args below meth c s₁ B hml hP s₁ hh0 (Stand.of_body B)
    exact ⟨t, o, a1, b1, b2, b3⟩
/-- asks, called -/
theorem lc_SW {p : Program} {l : Launch} {e : Env} {R : Room} {s : State} {m : MethodId} {args : Array Value} {below : List Frame} {meth : Method} {c : Code} {H : Heap} {locs : List Loc} {cells slots : Nat} {Q : State → Prop} {cc : ByteArray} {pc : Nat} {ls : Array Slot} {rest st0 : List Value} {D : va_G} {cI cZ cJ : ClassId} {As : List Value} {y : MethodName} {ws Ts : List Cond} {rm : Room} {A0 : Addr → Prop} {bytes : ByteArray} {maxL nL n index : Nat} {ret : Option FieldType} {hh : List (Nat × Nat × Nat × Nat)} {own : String} {sa ad ld : Nat → Nat} {mc ms : Nat} {S0 L0 : ZS} {post : Int → ZS → ZS → Prop} (S : CallFix p m c cc nL s args Ts own) (hM : Met l y ws rm (zPb D cI cZ cJ sa ad ld S0 L0 As) (zWb D cI ad ld post) mc ms (bA ad ld)) (cw : vx_CSW R s args own index y bytes maxL ret hh ws rm mc ms n) (hK : KK D cI cZ cJ s) (hX : xP sa A0 s s.heap) (hQ : xQ s) (hA : ∀ q, bA ad ld q → A0 q) (hS : va_S A0 s.heap H locs) (hP : va_P D vwCl (dW cI ad S0) H) (hL : va_P D vwCl (lW cI ld L0) H) (hn : As.length = n) (hsize : ls.size = nL) (hst : st0 = As.reverse ++ rest) (hW : (rest.map fun v => v.category).sum ≤ 8) (hdg : decode cc pc = .ok (.invokestatic index, 3)) (hf : cells + mc ≤ R.cells ∧ slots + ms ≤ R.slots)
    (kk : ∀ (r : Int) (S1 L1 : ZS) (H1 : Heap) (locs1 : List Loc), post r S1 L1 → H.size ≤ H1.size → (∀ q : Nat, q < H.size → ¬ bA ad ld q → H1[q]? = H[q]?) → va_P D vwCl (dW cI ad S1) H1 → va_P D vwCl (lW cI ld L1) H1 → va_S A0 s.heap H1 locs1 → W p l e R s m args below meth c H1 locs1 (cells + mc) (slots + ms) Q (F0 m (pc + 3) ls (.int (zi r) :: rest))) : W p l e R s m args below meth c H locs cells slots Q (F0 m pc ls st0) :=
  va_calli (vx_runSW (As := As) (rest := rest) S hM cw ⟨zPb_blind, fun U hU hW => ⟨rfl, by rw [hU]; exact hP, by rw [hU]; exact hL, hK.warm hW, (hX.warm hW hS hU).narrow hA, hQ.warm hW⟩⟩ rfl hn hsize hst (lv_room hW) hdg hf) hS (fun q _ h => hA q h) hA
    (fun r u t H1 locs1 ht _ hp hB hz hk hS1 => by rw [hp.1]; exact kk u.1 u.2.1 u.2.2 H1 locs1 hp.2 hz hk (by rw [← ht]; exact hB.1) (by rw [← ht]; exact hB.2) hS1)
theorem cl36_L_asks : Cond.classLink RL 36 xIOB ∈ wsL_asks := by decide +kernel
theorem cl39_L_asks : Cond.classLink RL 39 xISE ∈ wsL_asks := by decide +kernel
theorem ci38_L_asks : Cond.constant RL 38 (-70007) ∈ wsL_asks := by decide +kernel
theorem ci41_L_asks : Cond.constant RL 41 (-70008) ∈ wsL_asks := by decide +kernel
abbrev rmct_L_asks0 : Room := { frames := 8, cells := 2, slots := 12, locals := 124 }
set_option maxHeartbeats 8000000 in
set_option maxRecDepth 100000 in
theorem ct_L_asks0 (l : Launch) (hst : l.stackTraces = false) (D : va_G) (cI cZ cJ : ClassId) (sa ad ld : Nat → Nat) (S L M : ZS) (hdis : bDis ad ld) (hG : GL L M) (hD : DK S M) (x0 x1 : Int) (hx0 : ir x0) (hx1 : ir x1)  : Met l yL_asks wsL_asks rmct_L_asks0 (zPb D cI cZ cJ sa ad ld S L [.ref (ad 0), .int (zi 0), .int (zi x0), .int (zi x1)]) (zWb D cI ad ld (fun r S9 L9 => L9 = L ∧ (pst_body S x0 r S9 ∨ (r = -70007 ∧ pxx_body S x0 xIOB S9) ∨ (r = -70008 ∧ pxx_body S x0 xISE S9)))) 2 12 (bA ad ld) := by
  refine mt_ofWH (cc := cL_asks) (maxL := 5) (ret := (some .int)) (by decide) rfl ?_
  intro p e s m args below meth c s₁ B hml hv
  obtain ⟨rfl, hP, hL, hK, hX, hQ⟩ := hv
  have htab := vx_table (x := yL_asks) B (atoms_spec (ws := wsL_asks) B.pre _ List.mem_cons_self)
  have hx := B.exec
  have hb := B.bytes
  have hr := B.returns
  have hts := atoms_spec (ws := wsL_asks) B.pre
  have hown : s.vm.findClass RL = some m.cls := findClass_of_methodNamed B.named
  have hlocks := B.notSynchronized
  have hl := lv_entry ([.ref (ad 0), .int (zi 0), .int (zi x0), .int (zi x1)]) (n := 5) (Nat.le_of_ble_eq_true rfl)
  rw [lg_entry_eq]
  generalize (lg_sl ([.ref (ad 0), .int (zi 0), .int (zi x0), .int (zi x1)]) ++ List.replicate (5 - (lg_sl ([.ref (ad 0), .int (zi 0), .int (zi x0), .int (zi x1)])).length) Slot.unset).toArray = ls at hl ⊢
  have hl : lv_has ls 5 [(0, .ref (ad 0)), (1, .int (zi 0)), (2, .int (zi x0)), (3, .int (zi x1))] := hl
  have hS : va_S (bA ad ld) s.heap s.heap [] := va_S.rf
  show W p l e rmct_L_asks0 s m ([.ref (ad 0), .int (zi 0), .int (zi x0), .int (zi x1)] : List Value).toArray below meth c s.heap [] 0 0 (MQ below (zWb D cI ad ld (fun r S9 L9 => L9 = L ∧ (pst_body S x0 r S9 ∨ (r = -70007 ∧ pxx_body S x0 xIOB S9) ∨ (r = -70008 ∧ pxx_body S x0 xISE S9)))) ([.ref (ad 0), .int (zi 0), .int (zi x0), .int (zi x1)] : List Value).toArray s 2 12 (bA ad ld)) (F0 m 0 ls [])
  refine lv_iload_n hx hb dL_asks_0 rfl (lv_at hl 1 rfl) ?_
  refine zi_if_ne (tgt := 12) hx hb ⟨by decide, by decide⟩ dL_asks_1 (by decide) (fun c_1 => ?_) (fun c_1 => ?_)
  · exact absurd c_1 (by omega)
  · refine lv_aload_n hx hb dL_asks_4 rfl (lv_at hl 0 rfl) ?_
    refine lv_iload_n hx hb dL_asks_5 rfl (lv_at hl 2 rfl) ?_
    refine lc_try (ld := ld) (L0 := L) (As := [.int (zi x0)]) (rest := []) (A0 := bA ad ld) ⟨hx, hb, hml, hown, hts⟩ (ct_X7_body l hst D cI cZ cJ sa ad S hD.1 hdis.1 x0 ⟨by omega, by omega⟩) (cwV 1 hts gL_asks_X7_body rfl rfl rfl (by decide +kernel) ⟨Nat.le_of_ble_eq_true rfl, Nat.le_of_ble_eq_true rfl⟩) rfl hK hX hQ hdis (fun _ h => h) hS hP hL htab (by decide) hown (hts _ cl36_L_asks) (hts _ cl39_L_asks) (fun E T hx9 => (by rcases hx9.1 with ⟨-, e⟩ | ⟨-, -, e⟩ | ⟨-, -, -, e⟩ <;> first | exact Or.inl e | exact Or.inr e)) rfl hl.1 rfl (Nat.le_of_ble_eq_true rfl) dL_asks_6 ⟨(by show _ ≤ (2 : Nat); omega), (by show _ ≤ (12 : Nat); omega)⟩ (fun S_6 q9 H locs hp_6 hP hL hS => ?_) (fun S_6 q9 H locs hp_6 hP hL hS => ?_) (fun r_6 S_6 H locs hp_6 hP hL hS => ?_)
    · skip
      refine lv_astore (lv' := [(4, .ref q9), (0, .ref (ad 0)), (1, .int (zi 0)), (2, .int (zi x0)), (3, .int (zi x1))]) hx hb dL_asks_88 hl (by decide) rfl (fun ls hl => ?_)
      refine lv_ldc (v := zi (-70007)) hx hb hown (hts _ ci38_L_asks) dL_asks_90 ?_
      exact lr_w (S1 := S_6) (L1 := L) hx hb hr hlocks dL_asks_92 hP hL hS ⟨by omega, by omega⟩ (by exact ⟨rfl, Or.inr (Or.inl ⟨rfl, hp_6⟩)⟩)
    · skip
      refine lv_astore (lv' := [(4, .ref q9), (0, .ref (ad 0)), (1, .int (zi 0)), (2, .int (zi x0)), (3, .int (zi x1))]) hx hb dL_asks_93 hl (by decide) rfl (fun ls hl => ?_)
      refine lv_ldc (v := zi (-70008)) hx hb hown (hts _ ci41_L_asks) dL_asks_95 ?_
      exact lr_w (S1 := S_6) (L1 := L) hx hb hr hlocks dL_asks_97 hP hL hS ⟨by omega, by omega⟩ (by exact ⟨rfl, Or.inr (Or.inr ⟨rfl, hp_6⟩)⟩)
    · skip
      refine lv_goto (tgt := 87) hx hb dL_asks_9 (by decide) ?_
      exact lr_w (S1 := S_6) (L1 := L) hx hb hr hlocks dL_asks_87 hP hL hS ⟨by omega, by omega⟩ (by exact ⟨rfl, Or.inl hp_6⟩)
abbrev rmct_L_asks1 : Room := { frames := 8, cells := 3, slots := 18, locals := 138 }
set_option maxHeartbeats 8000000 in
set_option maxRecDepth 100000 in
theorem ct_L_asks1 (l : Launch) (hst : l.stackTraces = false) (D : va_G) (cI cZ cJ : ClassId) (sa ad ld : Nat → Nat) (S L M : ZS) (hdis : bDis ad ld) (hG : GL L M) (hD : DK S M) (x0 x1 : Int) (hx0 : ir x0) (hx1 : ir x1)  : Met l yL_asks wsL_asks rmct_L_asks1 (zPb D cI cZ cJ sa ad ld S L [.ref (ad 0), .int (zi 1), .int (zi x0), .int (zi x1)]) (zWb D cI ad ld (fun r S9 L9 => L9 = L ∧ (pst_link S x0 x1 r S9 ∨ (r = -70007 ∧ pxx_link S x0 x1 xIOB S9) ∨ (r = -70008 ∧ pxx_link S x0 x1 xISE S9)))) 3 18 (bA ad ld) := by
  refine mt_ofWH (cc := cL_asks) (maxL := 5) (ret := (some .int)) (by decide) rfl ?_
  intro p e s m args below meth c s₁ B hml hv
  obtain ⟨rfl, hP, hL, hK, hX, hQ⟩ := hv
  have htab := vx_table (x := yL_asks) B (atoms_spec (ws := wsL_asks) B.pre _ List.mem_cons_self)
  have hx := B.exec
  have hb := B.bytes
  have hr := B.returns
  have hts := atoms_spec (ws := wsL_asks) B.pre
  have hown : s.vm.findClass RL = some m.cls := findClass_of_methodNamed B.named
  have hlocks := B.notSynchronized
  have hl := lv_entry ([.ref (ad 0), .int (zi 1), .int (zi x0), .int (zi x1)]) (n := 5) (Nat.le_of_ble_eq_true rfl)
  rw [lg_entry_eq]
  generalize (lg_sl ([.ref (ad 0), .int (zi 1), .int (zi x0), .int (zi x1)]) ++ List.replicate (5 - (lg_sl ([.ref (ad 0), .int (zi 1), .int (zi x0), .int (zi x1)])).length) Slot.unset).toArray = ls at hl ⊢
  have hl : lv_has ls 5 [(0, .ref (ad 0)), (1, .int (zi 1)), (2, .int (zi x0)), (3, .int (zi x1))] := hl
  have hS : va_S (bA ad ld) s.heap s.heap [] := va_S.rf
  show W p l e rmct_L_asks1 s m ([.ref (ad 0), .int (zi 1), .int (zi x0), .int (zi x1)] : List Value).toArray below meth c s.heap [] 0 0 (MQ below (zWb D cI ad ld (fun r S9 L9 => L9 = L ∧ (pst_link S x0 x1 r S9 ∨ (r = -70007 ∧ pxx_link S x0 x1 xIOB S9) ∨ (r = -70008 ∧ pxx_link S x0 x1 xISE S9)))) ([.ref (ad 0), .int (zi 1), .int (zi x0), .int (zi x1)] : List Value).toArray s 3 18 (bA ad ld)) (F0 m 0 ls [])
  refine lv_iload_n hx hb dL_asks_0 rfl (lv_at hl 1 rfl) ?_
  refine zi_if_ne (tgt := 12) hx hb ⟨by decide, by decide⟩ dL_asks_1 (by decide) (fun c_1 => ?_) (fun c_1 => ?_)
  · refine lv_iload_n hx hb dL_asks_12 rfl (lv_at hl 1 rfl) ?_
    refine zi_iconst hx hb dL_asks_13 ?_
    refine zi_icmp_ne (tgt := 26) hx hb ⟨by decide, by decide⟩ ⟨by decide, by decide⟩ dL_asks_14 (by decide) (fun c_14 => ?_) (fun c_14 => ?_)
    · exact absurd c_14 (by decide)
    · refine lv_aload_n hx hb dL_asks_17 rfl (lv_at hl 0 rfl) ?_
      refine lv_iload_n hx hb dL_asks_18 rfl (lv_at hl 2 rfl) ?_
      refine lv_iload_n hx hb dL_asks_19 rfl (lv_at hl 3 rfl) ?_
      refine lc_try (ld := ld) (L0 := L) (As := [.int (zi x0), .int (zi x1)]) (rest := []) (A0 := bA ad ld) ⟨hx, hb, hml, hown, hts⟩ (ct_X7_link l hst D cI cZ cJ sa ad S hD.1 hdis.1 x0 x1 ⟨by omega, by omega⟩ ⟨by omega, by omega⟩) (cwV 2 hts gL_asks_X7_link rfl rfl rfl (by decide +kernel) ⟨Nat.le_of_ble_eq_true rfl, Nat.le_of_ble_eq_true rfl⟩) rfl hK hX hQ hdis (fun _ h => h) hS hP hL htab (by decide) hown (hts _ cl36_L_asks) (hts _ cl39_L_asks) (fun E T hx9 => (by rcases hx9.1 with ⟨-, e⟩ | ⟨-, -, e⟩ | ⟨-, -, -, e⟩ <;> first | exact Or.inl e | exact Or.inr e)) rfl hl.1 rfl (Nat.le_of_ble_eq_true rfl) dL_asks_20 ⟨(by show _ ≤ (3 : Nat); omega), (by show _ ≤ (18 : Nat); omega)⟩ (fun S_20 q9 H locs hp_20 hP hL hS => ?_) (fun S_20 q9 H locs hp_20 hP hL hS => ?_) (fun r_20 S_20 H locs hp_20 hP hL hS => ?_)
      · skip
        refine lv_astore (lv' := [(4, .ref q9), (0, .ref (ad 0)), (1, .int (zi 1)), (2, .int (zi x0)), (3, .int (zi x1))]) hx hb dL_asks_88 hl (by decide) rfl (fun ls hl => ?_)
        refine lv_ldc (v := zi (-70007)) hx hb hown (hts _ ci38_L_asks) dL_asks_90 ?_
        exact lr_w (S1 := S_20) (L1 := L) hx hb hr hlocks dL_asks_92 hP hL hS ⟨by omega, by omega⟩ (by exact ⟨rfl, Or.inr (Or.inl ⟨rfl, hp_20⟩)⟩)
      · skip
        refine lv_astore (lv' := [(4, .ref q9), (0, .ref (ad 0)), (1, .int (zi 1)), (2, .int (zi x0)), (3, .int (zi x1))]) hx hb dL_asks_93 hl (by decide) rfl (fun ls hl => ?_)
        refine lv_ldc (v := zi (-70008)) hx hb hown (hts _ ci41_L_asks) dL_asks_95 ?_
        exact lr_w (S1 := S_20) (L1 := L) hx hb hr hlocks dL_asks_97 hP hL hS ⟨by omega, by omega⟩ (by exact ⟨rfl, Or.inr (Or.inr ⟨rfl, hp_20⟩)⟩)
      · skip
        refine lv_goto (tgt := 87) hx hb dL_asks_23 (by decide) ?_
        exact lr_w (S1 := S_20) (L1 := L) hx hb hr hlocks dL_asks_87 hP hL hS ⟨by omega, by omega⟩ (by exact ⟨rfl, Or.inl hp_20⟩)
  · exact absurd c_1 (by omega)
abbrev rmct_L_asks2 : Room := { frames := 8, cells := 3, slots := 18, locals := 125 }
set_option maxHeartbeats 8000000 in
set_option maxRecDepth 100000 in
theorem ct_L_asks2 (l : Launch) (hst : l.stackTraces = false) (D : va_G) (cI cZ cJ : ClassId) (sa ad ld : Nat → Nat) (S L M : ZS) (hdis : bDis ad ld) (hG : GL L M) (hD : DK S M) (x0 x1 : Int) (hx0 : ir x0) (hx1 : ir x1)  : Met l yL_asks wsL_asks rmct_L_asks2 (zPb D cI cZ cJ sa ad ld S L [.ref (ad 0), .int (zi 2), .int (zi x0), .int (zi x1)]) (zWb D cI ad ld (fun r S9 L9 => L9 = L ∧ (pst_unlink S x0 x1 r S9 ∨ (r = -70007 ∧ pxx_unlink S x0 x1 xIOB S9) ∨ (r = -70008 ∧ pxx_unlink S x0 x1 xISE S9)))) 3 18 (bA ad ld) := by
  refine mt_ofWH (cc := cL_asks) (maxL := 5) (ret := (some .int)) (by decide) rfl ?_
  intro p e s m args below meth c s₁ B hml hv
  obtain ⟨rfl, hP, hL, hK, hX, hQ⟩ := hv
  have htab := vx_table (x := yL_asks) B (atoms_spec (ws := wsL_asks) B.pre _ List.mem_cons_self)
  have hx := B.exec
  have hb := B.bytes
  have hr := B.returns
  have hts := atoms_spec (ws := wsL_asks) B.pre
  have hown : s.vm.findClass RL = some m.cls := findClass_of_methodNamed B.named
  have hlocks := B.notSynchronized
  have hl := lv_entry ([.ref (ad 0), .int (zi 2), .int (zi x0), .int (zi x1)]) (n := 5) (Nat.le_of_ble_eq_true rfl)
  rw [lg_entry_eq]
  generalize (lg_sl ([.ref (ad 0), .int (zi 2), .int (zi x0), .int (zi x1)]) ++ List.replicate (5 - (lg_sl ([.ref (ad 0), .int (zi 2), .int (zi x0), .int (zi x1)])).length) Slot.unset).toArray = ls at hl ⊢
  have hl : lv_has ls 5 [(0, .ref (ad 0)), (1, .int (zi 2)), (2, .int (zi x0)), (3, .int (zi x1))] := hl
  have hS : va_S (bA ad ld) s.heap s.heap [] := va_S.rf
  show W p l e rmct_L_asks2 s m ([.ref (ad 0), .int (zi 2), .int (zi x0), .int (zi x1)] : List Value).toArray below meth c s.heap [] 0 0 (MQ below (zWb D cI ad ld (fun r S9 L9 => L9 = L ∧ (pst_unlink S x0 x1 r S9 ∨ (r = -70007 ∧ pxx_unlink S x0 x1 xIOB S9) ∨ (r = -70008 ∧ pxx_unlink S x0 x1 xISE S9)))) ([.ref (ad 0), .int (zi 2), .int (zi x0), .int (zi x1)] : List Value).toArray s 3 18 (bA ad ld)) (F0 m 0 ls [])
  refine lv_iload_n hx hb dL_asks_0 rfl (lv_at hl 1 rfl) ?_
  refine zi_if_ne (tgt := 12) hx hb ⟨by decide, by decide⟩ dL_asks_1 (by decide) (fun c_1 => ?_) (fun c_1 => ?_)
  · refine lv_iload_n hx hb dL_asks_12 rfl (lv_at hl 1 rfl) ?_
    refine zi_iconst hx hb dL_asks_13 ?_
    refine zi_icmp_ne (tgt := 26) hx hb ⟨by decide, by decide⟩ ⟨by decide, by decide⟩ dL_asks_14 (by decide) (fun c_14 => ?_) (fun c_14 => ?_)
    · refine lv_iload_n hx hb dL_asks_26 rfl (lv_at hl 1 rfl) ?_
      refine zi_iconst hx hb dL_asks_27 ?_
      refine zi_icmp_ne (tgt := 40) hx hb ⟨by decide, by decide⟩ ⟨by decide, by decide⟩ dL_asks_28 (by decide) (fun c_28 => ?_) (fun c_28 => ?_)
      · exact absurd c_28 (by decide)
      · refine lv_aload_n hx hb dL_asks_31 rfl (lv_at hl 0 rfl) ?_
        refine lv_iload_n hx hb dL_asks_32 rfl (lv_at hl 2 rfl) ?_
        refine lv_iload_n hx hb dL_asks_33 rfl (lv_at hl 3 rfl) ?_
        refine lc_try (ld := ld) (L0 := L) (As := [.int (zi x0), .int (zi x1)]) (rest := []) (A0 := bA ad ld) ⟨hx, hb, hml, hown, hts⟩ (ct_X7_unlink l hst D cI cZ cJ sa ad S hD.1 hdis.1 x0 x1 ⟨by omega, by omega⟩ ⟨by omega, by omega⟩) (cwV 2 hts gL_asks_X7_unlink rfl rfl rfl (by decide +kernel) ⟨Nat.le_of_ble_eq_true rfl, Nat.le_of_ble_eq_true rfl⟩) rfl hK hX hQ hdis (fun _ h => h) hS hP hL htab (by decide) hown (hts _ cl36_L_asks) (hts _ cl39_L_asks) (fun E T hx9 => (by rcases hx9.1 with ⟨-, e⟩ | ⟨-, -, e⟩ | ⟨-, -, -, e⟩ <;> first | exact Or.inl e | exact Or.inr e)) rfl hl.1 rfl (Nat.le_of_ble_eq_true rfl) dL_asks_34 ⟨(by show _ ≤ (3 : Nat); omega), (by show _ ≤ (18 : Nat); omega)⟩ (fun S_34 q9 H locs hp_34 hP hL hS => ?_) (fun S_34 q9 H locs hp_34 hP hL hS => ?_) (fun r_34 S_34 H locs hp_34 hP hL hS => ?_)
        · skip
          refine lv_astore (lv' := [(4, .ref q9), (0, .ref (ad 0)), (1, .int (zi 2)), (2, .int (zi x0)), (3, .int (zi x1))]) hx hb dL_asks_88 hl (by decide) rfl (fun ls hl => ?_)
          refine lv_ldc (v := zi (-70007)) hx hb hown (hts _ ci38_L_asks) dL_asks_90 ?_
          exact lr_w (S1 := S_34) (L1 := L) hx hb hr hlocks dL_asks_92 hP hL hS ⟨by omega, by omega⟩ (by exact ⟨rfl, Or.inr (Or.inl ⟨rfl, hp_34⟩)⟩)
        · skip
          refine lv_astore (lv' := [(4, .ref q9), (0, .ref (ad 0)), (1, .int (zi 2)), (2, .int (zi x0)), (3, .int (zi x1))]) hx hb dL_asks_93 hl (by decide) rfl (fun ls hl => ?_)
          refine lv_ldc (v := zi (-70008)) hx hb hown (hts _ ci41_L_asks) dL_asks_95 ?_
          exact lr_w (S1 := S_34) (L1 := L) hx hb hr hlocks dL_asks_97 hP hL hS ⟨by omega, by omega⟩ (by exact ⟨rfl, Or.inr (Or.inr ⟨rfl, hp_34⟩)⟩)
        · skip
          refine lv_goto (tgt := 87) hx hb dL_asks_37 (by decide) ?_
          exact lr_w (S1 := S_34) (L1 := L) hx hb hr hlocks dL_asks_87 hP hL hS ⟨by omega, by omega⟩ (by exact ⟨rfl, Or.inl hp_34⟩)
    · exact absurd c_14 (by decide)
  · exact absurd c_1 (by omega)
abbrev rmct_L_asks3 : Room := { frames := 8, cells := 3, slots := 18, locals := 162 }
set_option maxHeartbeats 8000000 in
set_option maxRecDepth 100000 in
theorem ct_L_asks3 (l : Launch) (hst : l.stackTraces = false) (D : va_G) (cI cZ cJ : ClassId) (sa ad ld : Nat → Nat) (S L M : ZS) (hdis : bDis ad ld) (hG : GL L M) (hD : DK S M) (x0 x1 : Int) (hx0 : ir x0) (hx1 : ir x1) (hjj : S 24 0 < 100000) : Met l yL_asks wsL_asks rmct_L_asks3 (zPb D cI cZ cJ sa ad ld S L [.ref (ad 0), .int (zi 3), .int (zi x0), .int (zi x1)]) (zWb D cI ad ld (fun r S9 L9 => L9 = L ∧ (pst_join S x0 x1 r S9 ∨ (r = -70007 ∧ pxx_join S x0 x1 xIOB S9) ∨ (r = -70008 ∧ pxx_join S x0 x1 xISE S9)))) 3 18 (bA ad ld) := by
  refine mt_ofWH (cc := cL_asks) (maxL := 5) (ret := (some .int)) (by decide) rfl ?_
  intro p e s m args below meth c s₁ B hml hv
  obtain ⟨rfl, hP, hL, hK, hX, hQ⟩ := hv
  have htab := vx_table (x := yL_asks) B (atoms_spec (ws := wsL_asks) B.pre _ List.mem_cons_self)
  have hx := B.exec
  have hb := B.bytes
  have hr := B.returns
  have hts := atoms_spec (ws := wsL_asks) B.pre
  have hown : s.vm.findClass RL = some m.cls := findClass_of_methodNamed B.named
  have hlocks := B.notSynchronized
  have hl := lv_entry ([.ref (ad 0), .int (zi 3), .int (zi x0), .int (zi x1)]) (n := 5) (Nat.le_of_ble_eq_true rfl)
  rw [lg_entry_eq]
  generalize (lg_sl ([.ref (ad 0), .int (zi 3), .int (zi x0), .int (zi x1)]) ++ List.replicate (5 - (lg_sl ([.ref (ad 0), .int (zi 3), .int (zi x0), .int (zi x1)])).length) Slot.unset).toArray = ls at hl ⊢
  have hl : lv_has ls 5 [(0, .ref (ad 0)), (1, .int (zi 3)), (2, .int (zi x0)), (3, .int (zi x1))] := hl
  have hS : va_S (bA ad ld) s.heap s.heap [] := va_S.rf
  show W p l e rmct_L_asks3 s m ([.ref (ad 0), .int (zi 3), .int (zi x0), .int (zi x1)] : List Value).toArray below meth c s.heap [] 0 0 (MQ below (zWb D cI ad ld (fun r S9 L9 => L9 = L ∧ (pst_join S x0 x1 r S9 ∨ (r = -70007 ∧ pxx_join S x0 x1 xIOB S9) ∨ (r = -70008 ∧ pxx_join S x0 x1 xISE S9)))) ([.ref (ad 0), .int (zi 3), .int (zi x0), .int (zi x1)] : List Value).toArray s 3 18 (bA ad ld)) (F0 m 0 ls [])
  refine lv_iload_n hx hb dL_asks_0 rfl (lv_at hl 1 rfl) ?_
  refine zi_if_ne (tgt := 12) hx hb ⟨by decide, by decide⟩ dL_asks_1 (by decide) (fun c_1 => ?_) (fun c_1 => ?_)
  · refine lv_iload_n hx hb dL_asks_12 rfl (lv_at hl 1 rfl) ?_
    refine zi_iconst hx hb dL_asks_13 ?_
    refine zi_icmp_ne (tgt := 26) hx hb ⟨by decide, by decide⟩ ⟨by decide, by decide⟩ dL_asks_14 (by decide) (fun c_14 => ?_) (fun c_14 => ?_)
    · refine lv_iload_n hx hb dL_asks_26 rfl (lv_at hl 1 rfl) ?_
      refine zi_iconst hx hb dL_asks_27 ?_
      refine zi_icmp_ne (tgt := 40) hx hb ⟨by decide, by decide⟩ ⟨by decide, by decide⟩ dL_asks_28 (by decide) (fun c_28 => ?_) (fun c_28 => ?_)
      · refine lv_iload_n hx hb dL_asks_40 rfl (lv_at hl 1 rfl) ?_
        refine zi_iconst hx hb dL_asks_41 ?_
        refine zi_icmp_ne (tgt := 54) hx hb ⟨by decide, by decide⟩ ⟨by decide, by decide⟩ dL_asks_42 (by decide) (fun c_42 => ?_) (fun c_42 => ?_)
        · exact absurd c_42 (by decide)
        · refine lv_aload_n hx hb dL_asks_45 rfl (lv_at hl 0 rfl) ?_
          refine lv_iload_n hx hb dL_asks_46 rfl (lv_at hl 2 rfl) ?_
          refine lv_iload_n hx hb dL_asks_47 rfl (lv_at hl 3 rfl) ?_
          refine lc_try (ld := ld) (L0 := L) (As := [.int (zi x0), .int (zi x1)]) (rest := []) (A0 := bA ad ld) ⟨hx, hb, hml, hown, hts⟩ (ct_X7_join l hst D cI cZ cJ sa ad S hD.1 hdis.1 x0 x1 ⟨by omega, by omega⟩ ⟨by omega, by omega⟩ hjj) (cwV 2 hts gL_asks_X7_join rfl rfl rfl (by decide +kernel) ⟨Nat.le_of_ble_eq_true rfl, Nat.le_of_ble_eq_true rfl⟩) rfl hK hX hQ hdis (fun _ h => h) hS hP hL htab (by decide) hown (hts _ cl36_L_asks) (hts _ cl39_L_asks) (fun E T hx9 => (by rcases hx9.1 with ⟨-, e⟩ | ⟨-, -, e⟩ | ⟨-, -, -, e⟩ <;> first | exact Or.inl e | exact Or.inr e)) rfl hl.1 rfl (Nat.le_of_ble_eq_true rfl) dL_asks_48 ⟨(by show _ ≤ (3 : Nat); omega), (by show _ ≤ (18 : Nat); omega)⟩ (fun S_48 q9 H locs hp_48 hP hL hS => ?_) (fun S_48 q9 H locs hp_48 hP hL hS => ?_) (fun r_48 S_48 H locs hp_48 hP hL hS => ?_)
          · skip
            refine lv_astore (lv' := [(4, .ref q9), (0, .ref (ad 0)), (1, .int (zi 3)), (2, .int (zi x0)), (3, .int (zi x1))]) hx hb dL_asks_88 hl (by decide) rfl (fun ls hl => ?_)
            refine lv_ldc (v := zi (-70007)) hx hb hown (hts _ ci38_L_asks) dL_asks_90 ?_
            exact lr_w (S1 := S_48) (L1 := L) hx hb hr hlocks dL_asks_92 hP hL hS ⟨by omega, by omega⟩ (by exact ⟨rfl, Or.inr (Or.inl ⟨rfl, hp_48⟩)⟩)
          · skip
            refine lv_astore (lv' := [(4, .ref q9), (0, .ref (ad 0)), (1, .int (zi 3)), (2, .int (zi x0)), (3, .int (zi x1))]) hx hb dL_asks_93 hl (by decide) rfl (fun ls hl => ?_)
            refine lv_ldc (v := zi (-70008)) hx hb hown (hts _ ci41_L_asks) dL_asks_95 ?_
            exact lr_w (S1 := S_48) (L1 := L) hx hb hr hlocks dL_asks_97 hP hL hS ⟨by omega, by omega⟩ (by exact ⟨rfl, Or.inr (Or.inr ⟨rfl, hp_48⟩)⟩)
          · skip
            refine lv_goto (tgt := 87) hx hb dL_asks_51 (by decide) ?_
            exact lr_w (S1 := S_48) (L1 := L) hx hb hr hlocks dL_asks_87 hP hL hS ⟨by omega, by omega⟩ (by exact ⟨rfl, Or.inl hp_48⟩)
      · exact absurd c_28 (by decide)
    · exact absurd c_14 (by decide)
  · exact absurd c_1 (by omega)
abbrev rmct_L_asks4 : Room := { frames := 8, cells := 2, slots := 12, locals := 125 }
set_option maxHeartbeats 8000000 in
set_option maxRecDepth 100000 in
theorem ct_L_asks4 (l : Launch) (hst : l.stackTraces = false) (D : va_G) (cI cZ cJ : ClassId) (sa ad ld : Nat → Nat) (S L M : ZS) (hdis : bDis ad ld) (hG : GL L M) (hD : DK S M) (x0 x1 : Int) (hx0 : ir x0) (hx1 : ir x1)  : Met l yL_asks wsL_asks rmct_L_asks4 (zPb D cI cZ cJ sa ad ld S L [.ref (ad 0), .int (zi 4), .int (zi x0), .int (zi x1)]) (zWb D cI ad ld (fun r S9 L9 => L9 = L ∧ (pst_part S x0 r S9 ∨ (r = -70007 ∧ pxx_part S x0 xIOB S9) ∨ (r = -70008 ∧ pxx_part S x0 xISE S9)))) 2 12 (bA ad ld) := by
  refine mt_ofWH (cc := cL_asks) (maxL := 5) (ret := (some .int)) (by decide) rfl ?_
  intro p e s m args below meth c s₁ B hml hv
  obtain ⟨rfl, hP, hL, hK, hX, hQ⟩ := hv
  have htab := vx_table (x := yL_asks) B (atoms_spec (ws := wsL_asks) B.pre _ List.mem_cons_self)
  have hx := B.exec
  have hb := B.bytes
  have hr := B.returns
  have hts := atoms_spec (ws := wsL_asks) B.pre
  have hown : s.vm.findClass RL = some m.cls := findClass_of_methodNamed B.named
  have hlocks := B.notSynchronized
  have hl := lv_entry ([.ref (ad 0), .int (zi 4), .int (zi x0), .int (zi x1)]) (n := 5) (Nat.le_of_ble_eq_true rfl)
  rw [lg_entry_eq]
  generalize (lg_sl ([.ref (ad 0), .int (zi 4), .int (zi x0), .int (zi x1)]) ++ List.replicate (5 - (lg_sl ([.ref (ad 0), .int (zi 4), .int (zi x0), .int (zi x1)])).length) Slot.unset).toArray = ls at hl ⊢
  have hl : lv_has ls 5 [(0, .ref (ad 0)), (1, .int (zi 4)), (2, .int (zi x0)), (3, .int (zi x1))] := hl
  have hS : va_S (bA ad ld) s.heap s.heap [] := va_S.rf
  show W p l e rmct_L_asks4 s m ([.ref (ad 0), .int (zi 4), .int (zi x0), .int (zi x1)] : List Value).toArray below meth c s.heap [] 0 0 (MQ below (zWb D cI ad ld (fun r S9 L9 => L9 = L ∧ (pst_part S x0 r S9 ∨ (r = -70007 ∧ pxx_part S x0 xIOB S9) ∨ (r = -70008 ∧ pxx_part S x0 xISE S9)))) ([.ref (ad 0), .int (zi 4), .int (zi x0), .int (zi x1)] : List Value).toArray s 2 12 (bA ad ld)) (F0 m 0 ls [])
  refine lv_iload_n hx hb dL_asks_0 rfl (lv_at hl 1 rfl) ?_
  refine zi_if_ne (tgt := 12) hx hb ⟨by decide, by decide⟩ dL_asks_1 (by decide) (fun c_1 => ?_) (fun c_1 => ?_)
  · refine lv_iload_n hx hb dL_asks_12 rfl (lv_at hl 1 rfl) ?_
    refine zi_iconst hx hb dL_asks_13 ?_
    refine zi_icmp_ne (tgt := 26) hx hb ⟨by decide, by decide⟩ ⟨by decide, by decide⟩ dL_asks_14 (by decide) (fun c_14 => ?_) (fun c_14 => ?_)
    · refine lv_iload_n hx hb dL_asks_26 rfl (lv_at hl 1 rfl) ?_
      refine zi_iconst hx hb dL_asks_27 ?_
      refine zi_icmp_ne (tgt := 40) hx hb ⟨by decide, by decide⟩ ⟨by decide, by decide⟩ dL_asks_28 (by decide) (fun c_28 => ?_) (fun c_28 => ?_)
      · refine lv_iload_n hx hb dL_asks_40 rfl (lv_at hl 1 rfl) ?_
        refine zi_iconst hx hb dL_asks_41 ?_
        refine zi_icmp_ne (tgt := 54) hx hb ⟨by decide, by decide⟩ ⟨by decide, by decide⟩ dL_asks_42 (by decide) (fun c_42 => ?_) (fun c_42 => ?_)
        · refine lv_iload_n hx hb dL_asks_54 rfl (lv_at hl 1 rfl) ?_
          refine zi_iconst hx hb dL_asks_55 ?_
          refine zi_icmp_ne (tgt := 67) hx hb ⟨by decide, by decide⟩ ⟨by decide, by decide⟩ dL_asks_56 (by decide) (fun c_56 => ?_) (fun c_56 => ?_)
          · exact absurd c_56 (by decide)
          · refine lv_aload_n hx hb dL_asks_59 rfl (lv_at hl 0 rfl) ?_
            refine lv_iload_n hx hb dL_asks_60 rfl (lv_at hl 2 rfl) ?_
            refine lc_try (ld := ld) (L0 := L) (As := [.int (zi x0)]) (rest := []) (A0 := bA ad ld) ⟨hx, hb, hml, hown, hts⟩ (ct_X7_part l hst D cI cZ cJ sa ad S hD.1 hdis.1 x0 ⟨by omega, by omega⟩) (cwV 1 hts gL_asks_X7_part rfl rfl rfl (by decide +kernel) ⟨Nat.le_of_ble_eq_true rfl, Nat.le_of_ble_eq_true rfl⟩) rfl hK hX hQ hdis (fun _ h => h) hS hP hL htab (by decide) hown (hts _ cl36_L_asks) (hts _ cl39_L_asks) (fun E T hx9 => (by rcases hx9.1 with ⟨-, e⟩ | ⟨-, -, e⟩ <;> first | exact Or.inl e | exact Or.inr e)) rfl hl.1 rfl (Nat.le_of_ble_eq_true rfl) dL_asks_61 ⟨(by show _ ≤ (2 : Nat); omega), (by show _ ≤ (12 : Nat); omega)⟩ (fun S_61 q9 H locs hp_61 hP hL hS => ?_) (fun S_61 q9 H locs hp_61 hP hL hS => ?_) (fun r_61 S_61 H locs hp_61 hP hL hS => ?_)
            · skip
              refine lv_astore (lv' := [(4, .ref q9), (0, .ref (ad 0)), (1, .int (zi 4)), (2, .int (zi x0)), (3, .int (zi x1))]) hx hb dL_asks_88 hl (by decide) rfl (fun ls hl => ?_)
              refine lv_ldc (v := zi (-70007)) hx hb hown (hts _ ci38_L_asks) dL_asks_90 ?_
              exact lr_w (S1 := S_61) (L1 := L) hx hb hr hlocks dL_asks_92 hP hL hS ⟨by omega, by omega⟩ (by exact ⟨rfl, Or.inr (Or.inl ⟨rfl, hp_61⟩)⟩)
            · skip
              refine lv_astore (lv' := [(4, .ref q9), (0, .ref (ad 0)), (1, .int (zi 4)), (2, .int (zi x0)), (3, .int (zi x1))]) hx hb dL_asks_93 hl (by decide) rfl (fun ls hl => ?_)
              refine lv_ldc (v := zi (-70008)) hx hb hown (hts _ ci41_L_asks) dL_asks_95 ?_
              exact lr_w (S1 := S_61) (L1 := L) hx hb hr hlocks dL_asks_97 hP hL hS ⟨by omega, by omega⟩ (by exact ⟨rfl, Or.inr (Or.inr ⟨rfl, hp_61⟩)⟩)
            · skip
              refine lv_goto (tgt := 87) hx hb dL_asks_64 (by decide) ?_
              exact lr_w (S1 := S_61) (L1 := L) hx hb hr hlocks dL_asks_87 hP hL hS ⟨by omega, by omega⟩ (by exact ⟨rfl, Or.inl hp_61⟩)
        · exact absurd c_42 (by decide)
      · exact absurd c_28 (by decide)
    · exact absurd c_14 (by decide)
  · exact absurd c_1 (by omega)
abbrev rmct_L_asks5 : Room := { frames := 8, cells := 2, slots := 12, locals := 158 }
set_option maxHeartbeats 8000000 in
set_option maxRecDepth 100000 in
theorem ct_L_asks5 (l : Launch) (hst : l.stackTraces = false) (D : va_G) (cI cZ cJ : ClassId) (sa ad ld : Nat → Nat) (S L M : ZS) (hdis : bDis ad ld) (hG : GL L M) (hD : DK S M) (x0 x1 : Int) (hx0 : ir x0) (hx1 : ir x1)  : Met l yL_asks wsL_asks rmct_L_asks5 (zPb D cI cZ cJ sa ad ld S L [.ref (ad 0), .int (zi 5), .int (zi x0), .int (zi x1)]) (zWb D cI ad ld (fun r S9 L9 => L9 = L ∧ (pst_number S x0 r S9 ∨ (r = -70007 ∧ pxx_number S x0 xIOB S9) ∨ (r = -70008 ∧ pxx_number S x0 xISE S9)))) 2 12 (bA ad ld) := by
  refine mt_ofWH (cc := cL_asks) (maxL := 5) (ret := (some .int)) (by decide) rfl ?_
  intro p e s m args below meth c s₁ B hml hv
  obtain ⟨rfl, hP, hL, hK, hX, hQ⟩ := hv
  have htab := vx_table (x := yL_asks) B (atoms_spec (ws := wsL_asks) B.pre _ List.mem_cons_self)
  have hx := B.exec
  have hb := B.bytes
  have hr := B.returns
  have hts := atoms_spec (ws := wsL_asks) B.pre
  have hown : s.vm.findClass RL = some m.cls := findClass_of_methodNamed B.named
  have hlocks := B.notSynchronized
  have hl := lv_entry ([.ref (ad 0), .int (zi 5), .int (zi x0), .int (zi x1)]) (n := 5) (Nat.le_of_ble_eq_true rfl)
  rw [lg_entry_eq]
  generalize (lg_sl ([.ref (ad 0), .int (zi 5), .int (zi x0), .int (zi x1)]) ++ List.replicate (5 - (lg_sl ([.ref (ad 0), .int (zi 5), .int (zi x0), .int (zi x1)])).length) Slot.unset).toArray = ls at hl ⊢
  have hl : lv_has ls 5 [(0, .ref (ad 0)), (1, .int (zi 5)), (2, .int (zi x0)), (3, .int (zi x1))] := hl
  have hS : va_S (bA ad ld) s.heap s.heap [] := va_S.rf
  show W p l e rmct_L_asks5 s m ([.ref (ad 0), .int (zi 5), .int (zi x0), .int (zi x1)] : List Value).toArray below meth c s.heap [] 0 0 (MQ below (zWb D cI ad ld (fun r S9 L9 => L9 = L ∧ (pst_number S x0 r S9 ∨ (r = -70007 ∧ pxx_number S x0 xIOB S9) ∨ (r = -70008 ∧ pxx_number S x0 xISE S9)))) ([.ref (ad 0), .int (zi 5), .int (zi x0), .int (zi x1)] : List Value).toArray s 2 12 (bA ad ld)) (F0 m 0 ls [])
  refine lv_iload_n hx hb dL_asks_0 rfl (lv_at hl 1 rfl) ?_
  refine zi_if_ne (tgt := 12) hx hb ⟨by decide, by decide⟩ dL_asks_1 (by decide) (fun c_1 => ?_) (fun c_1 => ?_)
  · refine lv_iload_n hx hb dL_asks_12 rfl (lv_at hl 1 rfl) ?_
    refine zi_iconst hx hb dL_asks_13 ?_
    refine zi_icmp_ne (tgt := 26) hx hb ⟨by decide, by decide⟩ ⟨by decide, by decide⟩ dL_asks_14 (by decide) (fun c_14 => ?_) (fun c_14 => ?_)
    · refine lv_iload_n hx hb dL_asks_26 rfl (lv_at hl 1 rfl) ?_
      refine zi_iconst hx hb dL_asks_27 ?_
      refine zi_icmp_ne (tgt := 40) hx hb ⟨by decide, by decide⟩ ⟨by decide, by decide⟩ dL_asks_28 (by decide) (fun c_28 => ?_) (fun c_28 => ?_)
      · refine lv_iload_n hx hb dL_asks_40 rfl (lv_at hl 1 rfl) ?_
        refine zi_iconst hx hb dL_asks_41 ?_
        refine zi_icmp_ne (tgt := 54) hx hb ⟨by decide, by decide⟩ ⟨by decide, by decide⟩ dL_asks_42 (by decide) (fun c_42 => ?_) (fun c_42 => ?_)
        · refine lv_iload_n hx hb dL_asks_54 rfl (lv_at hl 1 rfl) ?_
          refine zi_iconst hx hb dL_asks_55 ?_
          refine zi_icmp_ne (tgt := 67) hx hb ⟨by decide, by decide⟩ ⟨by decide, by decide⟩ dL_asks_56 (by decide) (fun c_56 => ?_) (fun c_56 => ?_)
          · refine lv_iload_n hx hb dL_asks_67 rfl (lv_at hl 1 rfl) ?_
            refine zi_iconst hx hb dL_asks_68 ?_
            refine zi_icmp_ne (tgt := 80) hx hb ⟨by decide, by decide⟩ ⟨by decide, by decide⟩ dL_asks_69 (by decide) (fun c_69 => ?_) (fun c_69 => ?_)
            · exact absurd c_69 (by decide)
            · refine lv_aload_n hx hb dL_asks_72 rfl (lv_at hl 0 rfl) ?_
              refine lv_iload_n hx hb dL_asks_73 rfl (lv_at hl 2 rfl) ?_
              refine lc_try (ld := ld) (L0 := L) (As := [.int (zi x0)]) (rest := []) (A0 := bA ad ld) ⟨hx, hb, hml, hown, hts⟩ (ct_X7_number l hst D cI cZ cJ sa ad S hD.1 hdis.1 x0 ⟨by omega, by omega⟩ (hnn_of hD)) (cwV 1 hts gL_asks_X7_number rfl rfl rfl (by decide +kernel) ⟨Nat.le_of_ble_eq_true rfl, Nat.le_of_ble_eq_true rfl⟩) rfl hK hX hQ hdis (fun _ h => h) hS hP hL htab (by decide) hown (hts _ cl36_L_asks) (hts _ cl39_L_asks) (fun E T hx9 => (by rcases hx9.1 with ⟨-, e⟩ | ⟨-, -, e⟩ <;> first | exact Or.inl e | exact Or.inr e)) rfl hl.1 rfl (Nat.le_of_ble_eq_true rfl) dL_asks_74 ⟨(by show _ ≤ (2 : Nat); omega), (by show _ ≤ (12 : Nat); omega)⟩ (fun S_74 q9 H locs hp_74 hP hL hS => ?_) (fun S_74 q9 H locs hp_74 hP hL hS => ?_) (fun r_74 S_74 H locs hp_74 hP hL hS => ?_)
              · skip
                refine lv_astore (lv' := [(4, .ref q9), (0, .ref (ad 0)), (1, .int (zi 5)), (2, .int (zi x0)), (3, .int (zi x1))]) hx hb dL_asks_88 hl (by decide) rfl (fun ls hl => ?_)
                refine lv_ldc (v := zi (-70007)) hx hb hown (hts _ ci38_L_asks) dL_asks_90 ?_
                exact lr_w (S1 := S_74) (L1 := L) hx hb hr hlocks dL_asks_92 hP hL hS ⟨by omega, by omega⟩ (by exact ⟨rfl, Or.inr (Or.inl ⟨rfl, hp_74⟩)⟩)
              · skip
                refine lv_astore (lv' := [(4, .ref q9), (0, .ref (ad 0)), (1, .int (zi 5)), (2, .int (zi x0)), (3, .int (zi x1))]) hx hb dL_asks_93 hl (by decide) rfl (fun ls hl => ?_)
                refine lv_ldc (v := zi (-70008)) hx hb hown (hts _ ci41_L_asks) dL_asks_95 ?_
                exact lr_w (S1 := S_74) (L1 := L) hx hb hr hlocks dL_asks_97 hP hL hS ⟨by omega, by omega⟩ (by exact ⟨rfl, Or.inr (Or.inr ⟨rfl, hp_74⟩)⟩)
              · skip
                refine lv_goto (tgt := 87) hx hb dL_asks_77 (by decide) ?_
                exact lr_w (S1 := S_74) (L1 := L) hx hb hr hlocks dL_asks_87 hP hL hS ⟨by omega, by omega⟩ (by exact ⟨rfl, Or.inl hp_74⟩)
          · exact absurd c_56 (by decide)
        · exact absurd c_42 (by decide)
      · exact absurd c_28 (by decide)
    · exact absurd c_14 (by decide)
  · exact absurd c_1 (by omega)
abbrev rmct_L_asks6 : Room := { frames := 8, cells := 4, slots := 24, locals := 140 }
set_option maxHeartbeats 8000000 in
set_option maxRecDepth 100000 in
theorem ct_L_asks6 (l : Launch) (hst : l.stackTraces = false) (D : va_G) (cI cZ cJ : ClassId) (sa ad ld : Nat → Nat) (S L M : ZS) (hdis : bDis ad ld) (hG : GL L M) (hD : DK S M) (x0 x1 : Int) (hx0 : ir x0) (hx1 : ir x1)  : Met l yL_asks wsL_asks rmct_L_asks6 (zPb D cI cZ cJ sa ad ld S L [.ref (ad 0), .int (zi 6), .int (zi x0), .int (zi x1)]) (zWb D cI ad ld (fun r S9 L9 => L9 = L ∧ (pst_orbit S x0 x1 0 r S9 ∨ (r = -70007 ∧ pxx_orbit S x0 x1 0 xIOB S9) ∨ (r = -70008 ∧ pxx_orbit S x0 x1 0 xISE S9)))) 4 24 (bA ad ld) := by
  refine mt_ofWH (cc := cL_asks) (maxL := 5) (ret := (some .int)) (by decide) rfl ?_
  intro p e s m args below meth c s₁ B hml hv
  obtain ⟨rfl, hP, hL, hK, hX, hQ⟩ := hv
  have htab := vx_table (x := yL_asks) B (atoms_spec (ws := wsL_asks) B.pre _ List.mem_cons_self)
  have hx := B.exec
  have hb := B.bytes
  have hr := B.returns
  have hts := atoms_spec (ws := wsL_asks) B.pre
  have hown : s.vm.findClass RL = some m.cls := findClass_of_methodNamed B.named
  have hlocks := B.notSynchronized
  have hl := lv_entry ([.ref (ad 0), .int (zi 6), .int (zi x0), .int (zi x1)]) (n := 5) (Nat.le_of_ble_eq_true rfl)
  rw [lg_entry_eq]
  generalize (lg_sl ([.ref (ad 0), .int (zi 6), .int (zi x0), .int (zi x1)]) ++ List.replicate (5 - (lg_sl ([.ref (ad 0), .int (zi 6), .int (zi x0), .int (zi x1)])).length) Slot.unset).toArray = ls at hl ⊢
  have hl : lv_has ls 5 [(0, .ref (ad 0)), (1, .int (zi 6)), (2, .int (zi x0)), (3, .int (zi x1))] := hl
  have hS : va_S (bA ad ld) s.heap s.heap [] := va_S.rf
  show W p l e rmct_L_asks6 s m ([.ref (ad 0), .int (zi 6), .int (zi x0), .int (zi x1)] : List Value).toArray below meth c s.heap [] 0 0 (MQ below (zWb D cI ad ld (fun r S9 L9 => L9 = L ∧ (pst_orbit S x0 x1 0 r S9 ∨ (r = -70007 ∧ pxx_orbit S x0 x1 0 xIOB S9) ∨ (r = -70008 ∧ pxx_orbit S x0 x1 0 xISE S9)))) ([.ref (ad 0), .int (zi 6), .int (zi x0), .int (zi x1)] : List Value).toArray s 4 24 (bA ad ld)) (F0 m 0 ls [])
  refine lv_iload_n hx hb dL_asks_0 rfl (lv_at hl 1 rfl) ?_
  refine zi_if_ne (tgt := 12) hx hb ⟨by decide, by decide⟩ dL_asks_1 (by decide) (fun c_1 => ?_) (fun c_1 => ?_)
  · refine lv_iload_n hx hb dL_asks_12 rfl (lv_at hl 1 rfl) ?_
    refine zi_iconst hx hb dL_asks_13 ?_
    refine zi_icmp_ne (tgt := 26) hx hb ⟨by decide, by decide⟩ ⟨by decide, by decide⟩ dL_asks_14 (by decide) (fun c_14 => ?_) (fun c_14 => ?_)
    · refine lv_iload_n hx hb dL_asks_26 rfl (lv_at hl 1 rfl) ?_
      refine zi_iconst hx hb dL_asks_27 ?_
      refine zi_icmp_ne (tgt := 40) hx hb ⟨by decide, by decide⟩ ⟨by decide, by decide⟩ dL_asks_28 (by decide) (fun c_28 => ?_) (fun c_28 => ?_)
      · refine lv_iload_n hx hb dL_asks_40 rfl (lv_at hl 1 rfl) ?_
        refine zi_iconst hx hb dL_asks_41 ?_
        refine zi_icmp_ne (tgt := 54) hx hb ⟨by decide, by decide⟩ ⟨by decide, by decide⟩ dL_asks_42 (by decide) (fun c_42 => ?_) (fun c_42 => ?_)
        · refine lv_iload_n hx hb dL_asks_54 rfl (lv_at hl 1 rfl) ?_
          refine zi_iconst hx hb dL_asks_55 ?_
          refine zi_icmp_ne (tgt := 67) hx hb ⟨by decide, by decide⟩ ⟨by decide, by decide⟩ dL_asks_56 (by decide) (fun c_56 => ?_) (fun c_56 => ?_)
          · refine lv_iload_n hx hb dL_asks_67 rfl (lv_at hl 1 rfl) ?_
            refine zi_iconst hx hb dL_asks_68 ?_
            refine zi_icmp_ne (tgt := 80) hx hb ⟨by decide, by decide⟩ ⟨by decide, by decide⟩ dL_asks_69 (by decide) (fun c_69 => ?_) (fun c_69 => ?_)
            · refine lv_aload_n hx hb dL_asks_80 rfl (lv_at hl 0 rfl) ?_
              refine lv_iload_n hx hb dL_asks_81 rfl (lv_at hl 2 rfl) ?_
              refine lv_iload_n hx hb dL_asks_82 rfl (lv_at hl 3 rfl) ?_
              refine zi_iconst hx hb dL_asks_83 ?_
              refine lc_try (ld := ld) (L0 := L) (As := [.int (zi x0), .int (zi x1), .int (zi 0)]) (rest := []) (A0 := bA ad ld) ⟨hx, hb, hml, hown, hts⟩ (ct_X7_orbit l hst D cI cZ cJ sa ad S hD.1 hdis.1 x0 x1 0 ⟨by omega, by omega⟩ ⟨by omega, by omega⟩ ⟨by decide, by decide⟩) (cwV 3 hts gL_asks_X7_orbit rfl rfl rfl (by decide +kernel) ⟨Nat.le_of_ble_eq_true rfl, Nat.le_of_ble_eq_true rfl⟩) rfl hK hX hQ hdis (fun _ h => h) hS hP hL htab (by decide) hown (hts _ cl36_L_asks) (hts _ cl39_L_asks) (fun E T hx9 => (by rcases hx9.1 with ⟨-, e⟩ | ⟨-, -, e⟩ | ⟨-, -, h8, -⟩; exact Or.inl e; exact Or.inl e; exact absurd (by decide) h8)) rfl hl.1 rfl (Nat.le_of_ble_eq_true rfl) dL_asks_84 ⟨(by show _ ≤ (4 : Nat); omega), (by show _ ≤ (24 : Nat); omega)⟩ (fun S_84 q9 H locs hp_84 hP hL hS => ?_) (fun S_84 q9 H locs hp_84 hP hL hS => ?_) (fun r_84 S_84 H locs hp_84 hP hL hS => ?_)
              · skip
                refine lv_astore (lv' := [(4, .ref q9), (0, .ref (ad 0)), (1, .int (zi 6)), (2, .int (zi x0)), (3, .int (zi x1))]) hx hb dL_asks_88 hl (by decide) rfl (fun ls hl => ?_)
                refine lv_ldc (v := zi (-70007)) hx hb hown (hts _ ci38_L_asks) dL_asks_90 ?_
                exact lr_w (S1 := S_84) (L1 := L) hx hb hr hlocks dL_asks_92 hP hL hS ⟨by omega, by omega⟩ (by exact ⟨rfl, Or.inr (Or.inl ⟨rfl, hp_84⟩)⟩)
              · skip
                refine lv_astore (lv' := [(4, .ref q9), (0, .ref (ad 0)), (1, .int (zi 6)), (2, .int (zi x0)), (3, .int (zi x1))]) hx hb dL_asks_93 hl (by decide) rfl (fun ls hl => ?_)
                refine lv_ldc (v := zi (-70008)) hx hb hown (hts _ ci41_L_asks) dL_asks_95 ?_
                exact lr_w (S1 := S_84) (L1 := L) hx hb hr hlocks dL_asks_97 hP hL hS ⟨by omega, by omega⟩ (by exact ⟨rfl, Or.inr (Or.inr ⟨rfl, hp_84⟩)⟩)
              · skip
                exact lr_w (S1 := S_84) (L1 := L) hx hb hr hlocks dL_asks_87 hP hL hS ⟨by omega, by omega⟩ (by exact ⟨rfl, Or.inl hp_84⟩)
            · exact absurd c_69 (by decide)
          · exact absurd c_56 (by decide)
        · exact absurd c_42 (by decide)
      · exact absurd c_28 (by decide)
    · exact absurd c_14 (by decide)
  · exact absurd c_1 (by omega)
