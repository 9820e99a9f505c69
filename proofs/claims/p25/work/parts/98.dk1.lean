theorem zbe_iast {p : Program} {l : Launch} {e : Env} {R : Room} {s : State} {m : MethodId} {args : Array Value} {below : List Frame} {meth : Method} {c : Code} {H H0 : Heap} {locs : List Loc} {cells slots : Nat} {Q : State → Prop} {cc : ByteArray} {pc : Nat} {ls : Array Slot} {rest : List Value} {D : va_G} {cI cZ cJ : ClassId} {ad ld : Nat → Nat} {S L : ZS} {A : Nat → Prop} {qe : Nat} {e9 : Int → Int} (hexec : p.tables.exec = Jvm.exec) (hb : c.code = cc) (hK : KK D cI cZ cJ s) (hdis : bDis ad ld) (hA : ∀ q, bA ad ld q → A q) (hqA : A qe) (hqe : ¬ bA ad ld qe) (hP : va_P D vwCl (dW cI ad S) H) (hL : va_P D vwCl (lW cI ld L) H) (hE : va_P D vwCl [(qe, .inl (cI, 3, .inl (zf e9)))] H) (hS : va_S A H0 H locs) (k : Nat) {n : Nat} (ha : (lW cI ld L)[k]? = some (ld k, .inl (cI, n, .inl (zf (L k))))) (hset : ∀ g : Int → Int, (lW cI ld L).set k (ld k, .inl (cI, n, .inl (zf g))) = lW cI ld (su L k g)) {x v : Int} (h0 : 0 ≤ x) (h1 : x < n) (hn : n < 2147483648) (hdg : decode cc pc = .ok (.iastore, 1)) (kk : ∀ (H1 : Heap) (locs1 : List Loc), va_P D vwCl (dW cI ad S) H1 → va_P D vwCl (lW cI ld (su L k (up (L k) x v))) H1 → va_P D vwCl [(qe, .inl (cI, 3, .inl (zf e9)))] H1 → va_S A H0 H1 locs1 → W p l e R s m args below meth c H1 locs1 cells slots Q (F0 m (pc + 1) ls rest)) : W p l e R s m args below meth c H locs cells slots Q (F0 m pc ls (.int (zi v) :: .int (zi x) :: .ref (ld k) :: rest)) := by
  have hlen : (dW cI ad S).length = 47 := rfl
  have hk5 : k < (lW cI ld L).length := (List.getElem?_eq_some_iff.mp ha).1
  refine zi_iast hexec hb hK.1 (vP_app (vP_app hP hL) hE) (eW_D hdis hA hqA hqe) hS (47 + k) 0 (by rw [List.getElem?_append_left (by rw [List.length_append, hlen]; omega), List.getElem?_append_right (by rw [hlen]; omega), hlen, Nat.add_sub_cancel_left]; exact ha) rfl h0 h1 hn hdg (fun H1 locs1 k1 k3 => ?_)
  rw [List.set_append_left _ _ (by rw [List.length_append, hlen]; omega), List.set_append_right _ _ (by rw [hlen]; omega), hlen, Nat.add_sub_cancel_left, hset] at k1
  exact kk H1 locs1 (vP_fst (vP_fst k1)) (vP_snd (vP_fst k1)) (vP_snd k1) k3
abbrev rmct_L_asks2n : Room := { frames := 8, cells := 3, slots := 18, locals := 125 }
set_option maxHeartbeats 8000000 in
set_option maxRecDepth 100000 in
theorem ct_L_asks2n (l : Launch) (hst : l.stackTraces = false) (D : va_G) (cI cZ cJ : ClassId) (sa ad ld : Nat → Nat) (S L M : ZS) (hdis : bDis ad ld) (hD : DK S M) (x0 x1 : Int) (hx0 : ir x0) (hx1 : ir x1)  : Met l yL_asks wsL_asks rmct_L_asks2n (zPb D cI cZ cJ sa ad ld S L [.ref (ad 0), .int (zi 2), .int (zi x0), .int (zi x1)]) (zWb D cI ad ld (fun r S9 L9 => L9 = L ∧ (pst_unlink S x0 x1 r S9 ∨ (r = -70007 ∧ pxx_unlink S x0 x1 xIOB S9) ∨ (r = -70008 ∧ pxx_unlink S x0 x1 xISE S9)))) 3 18 (bA ad ld) := by
  refine mt_ofWH (cc := cL_asks) (maxL := 5) (ret := (some .int)) (by decide) rfl ?_
  intro p e s m args below meth c s₁ B hml hv
  obtain ⟨rfl, hP, hL, hK, hX, hQ⟩ := hv
  have htab := vx_table (x := yL_asks) B (atoms_spec (ws := wsL_asks) B.pre _ List.mem_cons_self)
  have hx := B.exec
  have hb := B.bytes
  have hr := B.returns
  have hts := atoms_spec (ws := wsL_asks) B.pre
  have hown : s.vm.findClass RL = some m.cls := findClass_of_methodNamed B.named
  have hlocks := B.notSynchronized
  have hl := lv_entry ([.ref (ad 0), .int (zi 2), .int (zi x0), .int (zi x1)]) (n := 5) (Nat.le_of_ble_eq_true rfl)
  rw [lg_entry_eq]
  generalize (lg_sl ([.ref (ad 0), .int (zi 2), .int (zi x0), .int (zi x1)]) ++ List.replicate (5 - (lg_sl ([.ref (ad 0), .int (zi 2), .int (zi x0), .int (zi x1)])).length) Slot.unset).toArray = ls at hl ⊢
  have hl : lv_has ls 5 [(0, .ref (ad 0)), (1, .int (zi 2)), (2, .int (zi x0)), (3, .int (zi x1))] := hl
  have hS : va_S (bA ad ld) s.heap s.heap [] := va_S.rf
  show W p l e rmct_L_asks2n s m ([.ref (ad 0), .int (zi 2), .int (zi x0), .int (zi x1)] : List Value).toArray below meth c s.heap [] 0 0 (MQ below (zWb D cI ad ld (fun r S9 L9 => L9 = L ∧ (pst_unlink S x0 x1 r S9 ∨ (r = -70007 ∧ pxx_unlink S x0 x1 xIOB S9) ∨ (r = -70008 ∧ pxx_unlink S x0 x1 xISE S9)))) ([.ref (ad 0), .int (zi 2), .int (zi x0), .int (zi x1)] : List Value).toArray s 3 18 (bA ad ld)) (F0 m 0 ls [])
  refine lv_iload_n hx hb dL_asks_0 rfl (lv_at hl 1 rfl) ?_
  refine zi_if_ne (tgt := 12) hx hb ⟨by decide, by decide⟩ dL_asks_1 (by decide) (fun c_1 => ?_) (fun c_1 => ?_)
  · refine lv_iload_n hx hb dL_asks_12 rfl (lv_at hl 1 rfl) ?_
    refine zi_iconst hx hb dL_asks_13 ?_
    refine zi_icmp_ne (tgt := 26) hx hb ⟨by decide, by decide⟩ ⟨by decide, by decide⟩ dL_asks_14 (by decide) (fun c_14 => ?_) (fun c_14 => ?_)
    · refine lv_iload_n hx hb dL_asks_26 rfl (lv_at hl 1 rfl) ?_
      refine zi_iconst hx hb dL_asks_27 ?_
      refine zi_icmp_ne (tgt := 40) hx hb ⟨by decide, by decide⟩ ⟨by decide, by decide⟩ dL_asks_28 (by decide) (fun c_28 => ?_) (fun c_28 => ?_)
      · exact absurd c_28 (by decide)
      · refine lv_aload_n hx hb dL_asks_31 rfl (lv_at hl 0 rfl) ?_
        refine lv_iload_n hx hb dL_asks_32 rfl (lv_at hl 2 rfl) ?_
        refine lv_iload_n hx hb dL_asks_33 rfl (lv_at hl 3 rfl) ?_
        refine lc_try (ld := ld) (L0 := L) (As := [.int (zi x0), .int (zi x1)]) (rest := []) (A0 := bA ad ld) ⟨hx, hb, hml, hown, hts⟩ (ct_X7_unlink l hst D cI cZ cJ sa ad S hD.1 hdis.1 x0 x1 ⟨by omega, by omega⟩ ⟨by omega, by omega⟩) (cwV 2 hts gL_asks_X7_unlink rfl rfl rfl (by decide +kernel) ⟨Nat.le_of_ble_eq_true rfl, Nat.le_of_ble_eq_true rfl⟩) rfl hK hX hQ hdis (fun _ h => h) hS hP hL htab (by decide) hown (hts _ cl36_L_asks) (hts _ cl39_L_asks) (fun E T hx9 => (by rcases hx9.1 with ⟨-, e⟩ | ⟨-, -, e⟩ | ⟨-, -, -, e⟩ <;> first | exact Or.inl e | exact Or.inr e)) rfl hl.1 rfl (Nat.le_of_ble_eq_true rfl) dL_asks_34 ⟨(by show _ ≤ (3 : Nat); omega), (by show _ ≤ (18 : Nat); omega)⟩ (fun S_34 q9 H locs hp_34 hP hL hS => ?_) (fun S_34 q9 H locs hp_34 hP hL hS => ?_) (fun r_34 S_34 H locs hp_34 hP hL hS => ?_)
        · skip
          refine lv_astore (lv' := [(4, .ref q9), (0, .ref (ad 0)), (1, .int (zi 2)), (2, .int (zi x0)), (3, .int (zi x1))]) hx hb dL_asks_88 hl (by decide) rfl (fun ls hl => ?_)
          refine lv_ldc (v := zi (-70007)) hx hb hown (hts _ ci38_L_asks) dL_asks_90 ?_
          exact lr_w (S1 := S_34) (L1 := L) hx hb hr hlocks dL_asks_92 hP hL hS ⟨by omega, by omega⟩ (by exact ⟨rfl, Or.inr (Or.inl ⟨rfl, hp_34⟩)⟩)
        · skip
          refine lv_astore (lv' := [(4, .ref q9), (0, .ref (ad 0)), (1, .int (zi 2)), (2, .int (zi x0)), (3, .int (zi x1))]) hx hb dL_asks_93 hl (by decide) rfl (fun ls hl => ?_)
          refine lv_ldc (v := zi (-70008)) hx hb hown (hts _ ci41_L_asks) dL_asks_95 ?_
          exact lr_w (S1 := S_34) (L1 := L) hx hb hr hlocks dL_asks_97 hP hL hS ⟨by omega, by omega⟩ (by exact ⟨rfl, Or.inr (Or.inr ⟨rfl, hp_34⟩)⟩)
        · skip
          refine lv_goto (tgt := 87) hx hb dL_asks_37 (by decide) ?_
          exact lr_w (S1 := S_34) (L1 := L) hx hb hr hlocks dL_asks_87 hP hL hS ⟨by omega, by omega⟩ (by exact ⟨rfl, Or.inl hp_34⟩)
    · exact absurd c_14 (by decide)
  · exact absurd c_1 (by omega)
