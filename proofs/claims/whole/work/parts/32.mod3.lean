/-! the reference, third part -/
def cnF (G : ZS) (k : Int) (q : Int × Int × Int) : Int × Int × Int := (if nM G (G 20 k) < q.1 then nM G (G 20 k) else q.1, if q.2.1 < nM G (G 20 k) then nM G (G 20 k) else q.2.1, q.2.2)
def seenM (G : ZS) (k : Int) : Prop := anyI (fun j => nM G (G 20 j) = nM G (G 20 k)) k.toNat 0
noncomputable def cnG (G : ZS) (k : Int) (q : Int × Int × Int) : Int × Int × Int := ((cnF G k q).1, (cnF G k q).2.1, q.2.2 + (1 - b2 (seenM G k)))
noncomputable def cnA (G : ZS) : Int × Int × Int := itr (cnG G) (G 19 0).toNat 0 (1000, 0, 0)
noncomputable def cnP (S : ZS) (b : Int) : Prop := S 12 b = -1 ∧ ¬ 0 < S 14 b ∧ 2 < (cnA (laysM b S)).2.2 ∧ 29 < (cnA (laysM b S)).2.1 - (cnA (laysM b S)).1 ∧ 0 < findM (laysM b S) 21 0 ∧ findM (laysM b S) 21 0 = 1
/-- how many of the keys are not above a number -/
def cle (S : ZS) (x : Int) : Int := itr (fun k acc => if S 22 k ≤ x then acc + 1 else acc) (S 21 0).toNat 0 0
def kaR (S : ZS) (r : Int) : Nat → Int → Int → Int
  | 0, low, _ => low
  | n + 1, low, high => if low < high then (if r < cle S ((low + high) / 2) then kaR S r n low ((low + high) / 2) else kaR S r n ((low + high) / 2 + 1) high) else low
theorem kaR_e {S : ZS} {r : Int} {n : Nat} {low high : Int} (h : ¬ low < high) : kaR S r n low high = low := by
  cases n with
  | zero => rfl
  | succ n => exact if_neg h
theorem kaR_b {S : ZS} {r : Int} : ∀ (n : Nat) (low high : Int), 0 ≤ low → low ≤ high → high ≤ 1457999 → 0 ≤ kaR S r n low high ∧ kaR S r n low high ≤ 1457999 := by
  intro n
  induction n with
  | zero => intro low high h0 h1 h2; exact ⟨h0, by show low ≤ _; omega⟩
  | succ n ih =>
    intro low high h0 h1 h2
    unfold kaR; split
    · split
      · exact ih low _ h0 (by omega) (by omega)
      · exact ih _ high (by omega) (by omega) h2
    · omega
def plM (i t : Int) : Int := (i / 405 + mvM (i % 405 / 5 - 40) (i % 5 - 2) t) % 3600
def zrF (k : Int) (T : ZS) : ZS := su T 23 (up (T 23) k 0)
def spF (t k : Int) (T : ZS) : ZS := su T 23 (up (T 23) (plM (T 22 k) t) (T 23 (plM (T 22 k) t) + 1))
noncomputable def spB (b : Int) (S : ZS) : ZS := findM (laysM b (itr zrF 3600 0 S))
noncomputable def spM (b t : Int) (S : ZS) : ZS := itr (spF t) (spB b S 21 0).toNat 0 (spB b S)
theorem zr_n {n : Nat} {j : Int} {S : ZS} {r : Nat} (h : r ≠ 23) : itr zrF n j S r = S r := itr_keep (fun _ _ => su_n _ _ h) _ _ _
theorem spB_n {b : Int} {S : ZS} {r : Nat} (h1 : r ≠ 19) (h2 : r ≠ 20) (h3 : r ≠ 21) (h4 : r ≠ 22) (h5 : r ≠ 23) : spB b S r = S r := by
  unfold spB; rw [findM_n h4 h3, laysM_n h2 h1, zr_n h5]
theorem spM_n {b t : Int} {S : ZS} {r : Nat} (h1 : r ≠ 19) (h2 : r ≠ 20) (h3 : r ≠ 21) (h4 : r ≠ 22) (h5 : r ≠ 23) : spM b t S r = S r := by
  unfold spM; rw [itr_keep (f := spF t) (k := r) (fun _ _ => su_n _ _ h5) _ _ _, spB_n h1 h2 h3 h4 h5]
theorem SM_sp {b t : Int} {S : ZS} : SM S (spM b t S) := fun _ hk => spM_n (scm_ne hk rfl) (scm_ne hk rfl) (scm_ne hk rfl) (scm_ne hk rfl) (scm_ne hk rfl)
def sprM (S : ZS) : Int := itr (fun p acc => if 0 < S 23 p then acc + 1 else acc) 3600 0 0
def plcM (S : ZS) (r : Int) : Int := nthC (fun p => 0 < S 23 p) (-1) 3600 0 r
def isNP (its f n : Int) : Prop := anyI (fun t => apM (plM its t) (10 * t % 3600) ≤ 2) n.toNat f
def akM (S : ZS) (o t m : Int) : Prop := 0 < S 14 o ∧ 0 < S 14 t ∧ max (S 15 o - S 15 t) (-(S 15 o - S 15 t)) + 5 * max (S 16 o - S 16 t) (-(S 16 o - S 16 t)) ≤ m
theorem gcd_z {n : Nat} {a : Int} : gcdC n a 0 = a := by
  cases n with
  | zero => rfl
  | succ n => exact if_pos rfl
theorem cj_room {S : ZS} (h : MI S) {b o : Int} (hd : ∀ k : Int, 0 ≤ k → k < S 6 0 → ¬ (lookM S k b ∧ lookM S k o)) : laysM b S 19 0 + cnt (fun k => lookM (laysM b S) k o) (laysM b S 6 0).toNat ≤ 60 := by
  have h1 : (0 : Int) ≤ S 6 0 ∧ S 6 0 ≤ 60 := h 6 0
  rw [laysM_c h, laysM_n (r := 6) (by decide) (by decide)]
  have key : ∀ n : Nat, (n : Int) ≤ S 6 0 → cnt (fun k => lookM S k b) n + cnt (fun k => lookM (laysM b S) k o) n ≤ n := by
    intro n
    induction n with
    | zero => intro _; exact Int.le_refl 0
    | succ n ih =>
      intro hn
      have h2 := ih (by omega)
      show (cnt (fun k => lookM S k b) n + b2 (lookM S n b)) + (cnt (fun k => lookM (laysM b S) k o) n + b2 (lookM (laysM b S) n o)) ≤ _
      have h3 : b2 (lookM S n b) + b2 (lookM (laysM b S) n o) ≤ 1 := by
        have e : b2 (lookM (laysM b S) n o) = b2 (lookM S n o) := b2_iff (lookM_c (laysM_n (by decide) (by decide)) (laysM_n (by decide) (by decide)) n o)
        rw [e]
        by_cases hp : lookM S n b
        · rw [b2_f (fun h9 => hd n (by omega) (by omega) ⟨hp, h9⟩)]
          have := b2_b (P := lookM S n b); omega
        · rw [b2_f hp]
          have := b2_b (P := lookM S n o); omega
      omega
  have h4 := key (S 6 0).toNat (by omega)
  omega
theorem laysA_ge {b : Int} {M : ZS} : M 19 0 ≤ laysA b M 19 0 := by
  unfold laysA
  rw [laysA_c (M := M) (b := b) _ 0 M (by omega) rfl rfl]
  have h := cnt_mono (fun k => lookM M k b) (m := (0 : Int).toNat) (n := (0 + ((M 6 0).toNat : Int)).toNat) (by omega)
  omega
theorem SM_ca {S : ZS} {b : Int} : SM S (caM S b).1 := by
  have h := itr_inv (f := caF b) (P := fun _ q => SM S q.1) (fun j q hq => by
    have hq : SM S q.1 := hq
    exact hq.tr SM_cl) (S 6 0).toNat 0 (S, 0) SM.rf
  exact h
theorem strM_b {S : ZS} {b o : Int} (h0 : 0 ≤ b) (h1 : b ≤ 19) (h2 : 0 ≤ o) (h3 : o ≤ 19) : (0 : Int) ≤ strM S b o ∧ strM S b o ≤ 19 := by
  unfold strM
  by_cases h : strQ S b o (firstM (laysM b S)) (firstM (laysM o (laysM b S)))
  · rw [cif_t h]; exact ⟨h0, h1⟩
  · rw [cif_f h]; exact ⟨h2, h3⟩
theorem in_X8_canJoin_8 : ∀ w ∈ wsX80, w ∈ wsX8_canJoin := by decide +kernel
theorem lk_X8_canJoin_34 : Cond.fieldLink RX8 34 "PlanetoidDeskModel" "above" "[I" ∈ wsX8_canJoin := by decide +kernel
theorem lk_X8_canJoin_40 : Cond.fieldLink RX8 40 "PlanetoidDeskModel" "numberOf" "[I" ∈ wsX8_canJoin := by decide +kernel
theorem lk_X8_canJoin_127 : Cond.fieldLink RX8 127 "PlanetoidDeskModel" "looks" "I" ∈ wsX8_canJoin := by decide +kernel
theorem lk_X8_canJoin_22 : Cond.fieldLink RX8 22 "PlanetoidDeskModel" "plateOf" "[I" ∈ wsX8_canJoin := by decide +kernel
theorem lk_X8_canJoin_49 : Cond.fieldLink RX8 49 "PlanetoidDeskModel" "look" "[I" ∈ wsX8_canJoin := by decide +kernel
abbrev rmct_X8_canJoin : Room := { frames := 5, cells := 0, slots := 0, locals := 114 }
set_option maxHeartbeats 4000000 in
set_option maxRecDepth 100000 in
theorem ct_X8_canJoin (l : Launch) (D : va_G) (cI cZ cJ : ClassId) (bd : Nat → Nat) (S : ZS) (hI : MI S) (hdis : mDis bd) (x0 x1 : Int) (hx0 : ir x0) (hx1 : ir x1) (hp00 : 0 ≤ x0) (hp01 : x0 ≤ 19) (hp10 : 0 ≤ x1) (hp11 : x1 ≤ 19) (hac : accM S) (hdj : x0 ≠ x1 → S 12 x0 = -1 → S 12 x1 = -1 → ∀ k : Int, 0 ≤ k → k < S 6 0 → ¬ (lookM S k x0 ∧ lookM S k x1)) : Met l yX8_canJoin wsX8_canJoin rmct_X8_canJoin (zP D cI cZ cJ (mW cI cZ bd S) [.ref (bd 0), .int (zi x0), .int (zi x1)]) (zWi D (mW cI cZ bd) (mA bd) (fun r T => r = b2 (cjP S x0 x1) ∧ SM S T ∧ MI T)) 0 0 (mA bd) := by
  refine Met.ofW (cc := cX8_canJoin) (maxL := 6) (ret := (some .boolean)) (by decide) rfl ?_
  intro p e s m args below meth c s₁ B hml hv
  obtain ⟨rfl, hP, hK⟩ := hv
  have hx := B.exec
  have hb := B.bytes
  have hr := B.returns
  have hts := atoms_spec (ws := wsX8_canJoin) B.pre
  have hown : s.vm.findClass RX8 = some m.cls := findClass_of_methodNamed B.named
  have hlocks := B.notSynchronized
  have hl := lv_entry ([.ref (bd 0), .int (zi x0), .int (zi x1)]) (n := 6) (Nat.le_of_ble_eq_true rfl)
  rw [lg_entry_eq]
  generalize (lg_sl ([.ref (bd 0), .int (zi x0), .int (zi x1)]) ++ List.replicate (6 - (lg_sl ([.ref (bd 0), .int (zi x0), .int (zi x1)])).length) Slot.unset).toArray = ls at hl ⊢
  have hl : lv_has ls 6 [(0, .ref (bd 0)), (1, .int (zi x0)), (2, .int (zi x1))] := hl
  have hS : va_S (mA bd) s.heap s.heap [] := va_S.rf
  show W p l e rmct_X8_canJoin s m ([.ref (bd 0), .int (zi x0), .int (zi x1)] : List Value).toArray below meth c s.heap [] 0 0 (MQ below (zWi D (mW cI cZ bd) (mA bd) (fun r T => r = b2 (cjP S x0 x1) ∧ SM S T ∧ MI T)) ([.ref (bd 0), .int (zi x0), .int (zi x1)] : List Value).toArray s 0 0 (mA bd)) (F0 m 0 ls [])
  have hd0 : (0 : Int) ≤ S 6 0 ∧ S 6 0 ≤ 60 := hI 6 0
  refine lv_iload_n hx hb dX8_canJoin_0 rfl (lv_at hl 1 rfl) ?_
  refine lv_iload_n hx hb dX8_canJoin_1 rfl (lv_at hl 2 rfl) ?_
  refine zi_icmp_eq (tgt := 43) hx hb ⟨by omega, by omega⟩ ⟨by omega, by omega⟩ dX8_canJoin_2 (by decide) (fun c_2 => ?_) (fun c_2 => ?_)
  · refine zi_iconst hx hb dX8_canJoin_43 ?_
    exact zr_wz (T := S) hx hb hr hlocks dX8_canJoin_44 (Or.inl rfl) hP hS (by exact ⟨(b2_f (fun h9 => h9.1.1 c_2)).symm, SM.rf, hI⟩)
  · refine lv_aload_n hx hb dX8_canJoin_5 rfl (lv_at hl 0 rfl) ?_
    refine va_get (D := D) (ci := 8) (v := .ref (bd 13)) (C := RX8) (T := TX8) (N := 32) hx hb hts in_X8_canJoin_8 hown hK.1 hP 0 rfl rfl 12 (by decide) (hts _ lk_X8_canJoin_34) (fun _ h9 => h9) rfl dX8_canJoin_6 ?_
    refine lv_iload_n hx hb dX8_canJoin_9 rfl (lv_at hl 1 rfl) ?_
    refine zi_iald hx hb hK.1 hP 9 0 rfl rfl (by omega) (by omega) (by decide) dX8_canJoin_10 ?_
    have f_10 : (-1 : Int) ≤ S 12 x0 ∧ S 12 x0 ≤ 19 := hI 12 x0
    refine zi_iconst hx hb dX8_canJoin_11 ?_
    refine zi_icmp_ne (tgt := 43) hx hb ⟨by omega, by omega⟩ ⟨by decide, by decide⟩ dX8_canJoin_12 (by decide) (fun c_12 => ?_) (fun c_12 => ?_)
    · refine zi_iconst hx hb dX8_canJoin_43 ?_
      exact zr_wz (T := S) hx hb hr hlocks dX8_canJoin_44 (Or.inl rfl) hP hS (by exact ⟨(b2_f (fun h9 => c_12 h9.1.2.1)).symm, SM.rf, hI⟩)
    · refine lv_aload_n hx hb dX8_canJoin_15 rfl (lv_at hl 0 rfl) ?_
      refine va_get (D := D) (ci := 8) (v := .ref (bd 13)) (C := RX8) (T := TX8) (N := 32) hx hb hts in_X8_canJoin_8 hown hK.1 hP 0 rfl rfl 12 (by decide) (hts _ lk_X8_canJoin_34) (fun _ h9 => h9) rfl dX8_canJoin_16 ?_
      refine lv_iload_n hx hb dX8_canJoin_19 rfl (lv_at hl 2 rfl) ?_
      refine zi_iald hx hb hK.1 hP 9 0 rfl rfl (by omega) (by omega) (by decide) dX8_canJoin_20 ?_
      have f_20 : (-1 : Int) ≤ S 12 x1 ∧ S 12 x1 ≤ 19 := hI 12 x1
      refine zi_iconst hx hb dX8_canJoin_21 ?_
      refine zi_icmp_ne (tgt := 43) hx hb ⟨by omega, by omega⟩ ⟨by decide, by decide⟩ dX8_canJoin_22 (by decide) (fun c_22 => ?_) (fun c_22 => ?_)
      · refine zi_iconst hx hb dX8_canJoin_43 ?_
        exact zr_wz (T := S) hx hb hr hlocks dX8_canJoin_44 (Or.inl rfl) hP hS (by exact ⟨(b2_f (fun h9 => c_22 h9.1.2.2.1)).symm, SM.rf, hI⟩)
      · refine lv_aload_n hx hb dX8_canJoin_25 rfl (lv_at hl 0 rfl) ?_
        refine va_get (D := D) (ci := 8) (v := .ref (bd 15)) (C := RX8) (T := TX8) (N := 32) hx hb hts in_X8_canJoin_8 hown hK.1 hP 0 rfl rfl 14 (by decide) (hts _ lk_X8_canJoin_40) (fun _ h9 => h9) rfl dX8_canJoin_26 ?_
        refine lv_iload_n hx hb dX8_canJoin_29 rfl (lv_at hl 1 rfl) ?_
        refine zi_iald hx hb hK.1 hP 11 0 rfl rfl (by omega) (by omega) (by decide) dX8_canJoin_30 ?_
        have f_30 : (0 : Int) ≤ S 14 x0 ∧ S 14 x0 ≤ 20 := hI 14 x0
        refine zi_if_le (tgt := 45) hx hb ⟨by omega, by omega⟩ dX8_canJoin_31 (by decide) (fun c_31 => ?_) (fun c_31 => ?_)
        · have hpre : x0 ≠ x1 ∧ S 12 x0 = -1 ∧ S 12 x1 = -1 ∧ ¬ (0 < S 14 x0 ∧ 0 < S 14 x1) := ⟨c_2, c_12, c_22, fun h7 => by have h8 := h7.1; have h9 := h7.2; omega⟩
          refine lv_aload_n hx hb dX8_canJoin_45 rfl (lv_at hl 0 rfl) ?_
          refine lv_iload_n hx hb dX8_canJoin_46 rfl (lv_at hl 1 rfl) ?_
          refine zk_wv (zc_V (As := [.int (zi x0)]) (rest := []) ⟨hx, hb, hml, hown, hts⟩ (ct_X8_lays l D cI cZ cJ bd S hI hdis x0 ⟨by omega, by omega⟩ (by omega) (by omega) hac) (cwV 1 hts gX8_canJoin_X8_lays rfl rfl rfl (by decide +kernel) ⟨Nat.le_of_ble_eq_true rfl, Nat.le_of_ble_eq_true rfl⟩) hK hP (q0 := 0) (ci := 8) rfl rfl rfl rfl hl.1 rfl (Nat.le_of_ble_eq_true rfl) dX8_canJoin_47 ⟨Nat.zero_le _, Nat.zero_le _⟩) hS (fun S_47 H locs hp_47 hP hS => ?_)
          obtain ⟨e9, hI_47⟩ := hp_47
          have eS_47 := e9.symm; clear e9
          refine lv_aload_n hx hb dX8_canJoin_50 rfl (lv_at hl 0 rfl) ?_
          refine va_get (D := D) (ci := 8) (v := .int (zi (S_47 19 0))) (C := RX8) (T := TX8) (N := 32) hx hb hts in_X8_canJoin_8 hown hK.1 hP 0 rfl rfl 19 (by decide) (hts _ lk_X8_canJoin_127) (fun _ h9 => h9) rfl dX8_canJoin_51 ?_
          have f_51 : (0 : Int) ≤ S_47 19 0 ∧ S_47 19 0 ≤ 60 := hI_47 19 0
          refine zi_top (fun x3_54 ex3_54 => ?_)
          refine lv_istore_n (lv' := [(3, .int (zi x3_54)), (0, .ref (bd 0)), (1, .int (zi x0)), (2, .int (zi x1))]) hx hb dX8_canJoin_54 rfl hl (by decide) rfl (fun ls hl => ?_)
          have hlk57 : S_47 19 0 + cnt (fun k => lookM S_47 k x1) (S_47 6 0).toNat ≤ 60 := by rw [← eS_47]; exact cj_room hI (hdj c_2 c_12 c_22)
          refine lv_aload_n hx hb dX8_canJoin_55 rfl (lv_at hl 1 rfl) ?_
          refine lv_iload_n hx hb dX8_canJoin_56 rfl (lv_at hl 3 rfl) ?_
          refine zk_wv (zc_V (As := [.int (zi x1)]) (rest := []) ⟨hx, hb, hml, hown, hts⟩ (ct_X8_laysAlso l D cI cZ cJ bd S_47 hI_47 hdis x1 ⟨by omega, by omega⟩ (by omega) (by omega) (by rw [← eS_47]; exact accM_sm SM_la hac) hlk57) (cwV 1 hts gX8_canJoin_X8_laysAlso rfl rfl rfl (by decide +kernel) ⟨Nat.le_of_ble_eq_true rfl, Nat.le_of_ble_eq_true rfl⟩) hK hP (q0 := 0) (ci := 8) rfl rfl rfl rfl hl.1 rfl (Nat.le_of_ble_eq_true rfl) dX8_canJoin_57 ⟨Nat.zero_le _, Nat.zero_le _⟩) hS (fun S_57 H locs hp_57 hP hS => ?_)
          obtain ⟨e9, hI_57⟩ := hp_57
          have eS_57 := e9.symm; clear e9
          have f60 : (0 : Int) ≤ S_47 19 0 ∧ S_47 19 0 ≤ 60 := hI_47 19 0
          have f61 : (0 : Int) ≤ S_57 19 0 ∧ S_57 19 0 ≤ 60 := hI_57 19 0
          have f62 : S_47 19 0 ≤ S_57 19 0 := by rw [← eS_57]; exact laysA_ge
          refine zi_iconst hx hb dX8_canJoin_60 ?_
          refine lv_istore (lv' := [(4, .int (zi 1)), (3, .int (zi x3_54)), (0, .ref (bd 0)), (1, .int (zi x0)), (2, .int (zi x1))]) hx hb dX8_canJoin_61 hl (by decide) rfl (fun ls hl => ?_)
          refine lv_iload_n hx hb dX8_canJoin_63 rfl (lv_at hl 1 rfl) ?_
          have K_66 : ∀ (k : Nat) (n : Nat) (ma i : Int), (i + (n : Int) = S_57 19 0) → (0 ≤ i) → (0 ≤ ma ∧ ma ≤ 1) → ((ma = 1 ∧ b2 (¬ anyI (fun k => ¬ ¬ onP S_57 (S_57 7 (S_57 20 k)) x3_54) n i) = b2 (mayP S x0 x1)) ∨ (ma = 0 ∧ 0 = b2 (mayP S x0 x1))) → ((n : Int) < (k : Int)) → ∀ (ls : Array Slot), lv_has ls 6 [(0, .ref (bd 0)), (1, .int (zi x0)), (2, .int (zi x1)), (3, .int (zi x3_54)), (4, .int (zi ma)), (5, .int (zi i))] → W p l e rmct_X8_canJoin s m ([.ref (bd 0), .int (zi x0), .int (zi x1)] : List Value).toArray below meth c H locs 0 0 (MQ below (zWi D (mW cI cZ bd) (mA bd) (fun r T => r = b2 (cjP S x0 x1) ∧ SM S T ∧ MI T)) ([.ref (bd 0), .int (zi x0), .int (zi x1)] : List Value).toArray s 0 0 (mA bd)) (F0 m 66 ls []) := by
            intro k
            induction k with
            | zero => intro n ma i h_n h_i h_b h_R hk; exact absurd hk (by omega)
            | succ k ih_66 =>
              intro n ma i h_n h_i h_b h_R hk ls hl
              refine lv_iload hx hb dX8_canJoin_66 (lv_at hl 5 rfl) ?_
              refine lv_aload_n hx hb dX8_canJoin_68 rfl (lv_at hl 0 rfl) ?_
              refine va_get (D := D) (ci := 8) (v := .int (zi (S_57 19 0))) (C := RX8) (T := TX8) (N := 32) hx hb hts in_X8_canJoin_8 hown hK.1 hP 0 rfl rfl 19 (by decide) (hts _ lk_X8_canJoin_127) (fun _ h9 => h9) rfl dX8_canJoin_69 ?_
              have f_69 : (0 : Int) ≤ S_57 19 0 ∧ S_57 19 0 ≤ 60 := hI_57 19 0
              refine zi_icmp_ge (tgt := 113) hx hb ⟨by omega, by omega⟩ ⟨by omega, by omega⟩ dX8_canJoin_72 (by decide) (fun c_72 => ?_) (fun c_72 => ?_)
              · obtain rfl : n = 0 := by omega
                refine lv_iload hx hb dX8_canJoin_113 (lv_at hl 4 rfl) ?_
                refine zi_if_eq (tgt := 129) hx hb ⟨by omega, by omega⟩ dX8_canJoin_115 (by decide) (fun c_115 => ?_) (fun c_115 => ?_)
                · refine zi_iconst hx hb dX8_canJoin_129 ?_
                  exact zr_wz (T := S_57) hx hb hr hlocks dX8_canJoin_130 (Or.inl rfl) hP hS (by
                      have hma : ma = b2 (mayP S x0 x1) := fit_end h_R
                      exact ⟨(b2_f (fun h9 => b2_0 hma c_115 h9.2.1)).symm, by rw [← eS_57, ← eS_47]; exact SM_la.tr SM_laA, hI_57⟩)
                · refine lv_aload_n hx hb dX8_canJoin_118 rfl (lv_at hl 0 rfl) ?_
                  refine zk_wi (zc_V (As := []) (rest := []) ⟨hx, hb, hml, hown, hts⟩ (ct_X8_hasOrbit l D cI cZ cJ bd S_57 hI_57 hdis  ) (cwV 0 hts gX8_canJoin_X8_hasOrbit rfl rfl rfl (by decide +kernel) ⟨Nat.le_of_ble_eq_true rfl, Nat.le_of_ble_eq_true rfl⟩) hK hP (q0 := 0) (ci := 8) rfl rfl rfl rfl hl.1 rfl (Nat.le_of_ble_eq_true rfl) dX8_canJoin_119 ⟨Nat.zero_le _, Nat.zero_le _⟩) hS (fun r_119 S_119 H locs hp_119 hP hS => ?_)
                  obtain ⟨er_119, e9, hI_119⟩ := hp_119
                  have eS_119 := e9.symm; clear e9
                  have fr_119 : (0 : Int) ≤ r_119 ∧ r_119 ≤ 1 := by rw [er_119]; exact b2_b
                  refine zi_if_eq (tgt := 129) hx hb ⟨by omega, by omega⟩ dX8_canJoin_122 (by decide) (fun c_122 => ?_) (fun c_122 => ?_)
                  · refine zi_iconst hx hb dX8_canJoin_129 ?_
                    exact zr_wz (T := S_119) hx hb hr hlocks dX8_canJoin_130 (Or.inl rfl) hP hS (by
                        have hma : ma = b2 (mayP S x0 x1) := fit_end h_R
                        exact ⟨(b2_f (fun h9 => b2_0 er_119 c_122 (by rw [← eS_57, ← eS_47]; exact h9.2.2))).symm, by rw [← eS_119, ← eS_57, ← eS_47]; exact SM_la.tr (SM_laA.tr SM_fd), hI_119⟩)
                  · refine zi_iconst hx hb dX8_canJoin_125 ?_
                    refine lv_goto (tgt := 130) hx hb dX8_canJoin_126 (by decide) ?_
                    exact zr_wz (T := S_119) hx hb hr hlocks dX8_canJoin_130 (Or.inr rfl) hP hS (by
                        have hma : ma = b2 (mayP S x0 x1) := fit_end h_R
                        exact ⟨(b2_t ⟨hpre, b2_1 hma c_115, by have h9 := b2_1 er_119 c_122; rw [← eS_57, ← eS_47] at h9; exact h9⟩).symm, by rw [← eS_119, ← eS_57, ← eS_47]; exact SM_la.tr (SM_laA.tr SM_fd), hI_119⟩)
              · obtain ⟨n, rfl⟩ : ∃ n9 : Nat, n = n9 + 1 := ⟨n - 1, by omega⟩
                refine lv_iload hx hb dX8_canJoin_75 (lv_at hl 4 rfl) ?_
                refine zi_if_eq (tgt := 104) hx hb ⟨by omega, by omega⟩ dX8_canJoin_77 (by decide) (fun c_77 => ?_) (fun c_77 => ?_)
                · refine zi_iconst hx hb dX8_canJoin_104 ?_
                  refine lv_istore (lv' := [(4, .int (zi 0)), (0, .ref (bd 0)), (1, .int (zi x0)), (2, .int (zi x1)), (3, .int (zi x3_54)), (5, .int (zi i))]) hx hb dX8_canJoin_105 hl (by decide) rfl (fun ls hl => ?_)
                  refine zi_iinc (k := 5) (lv' := [(5, .int (zi (i + 1))), (4, .int (zi 0)), (0, .ref (bd 0)), (1, .int (zi x0)), (2, .int (zi x1)), (3, .int (zi x3_54))]) hx hb dX8_canJoin_107 hl rfl (by decide) rfl (fun ls hl => ?_)
                  refine lv_goto (tgt := 66) hx hb dX8_canJoin_110 (by decide) ?_
                  exact ih_66 n 0 (i + 1) (by first | omega | assumption) (by first | omega | assumption) ⟨by decide, by decide⟩ (fit_0 h_R (by omega)) (by omega) _ (lv_sub hl [2, 3, 4, 5, 1, 0] rfl)
                · refine lv_aload_n hx hb dX8_canJoin_80 rfl (lv_at hl 0 rfl) ?_
                  refine lv_aload_n hx hb dX8_canJoin_81 rfl (lv_at hl 0 rfl) ?_
                  refine va_get (D := D) (ci := 8) (v := .ref (bd 8)) (C := RX8) (T := TX8) (N := 32) hx hb hts in_X8_canJoin_8 hown hK.1 hP 0 rfl rfl 7 (by decide) (hts _ lk_X8_canJoin_22) (fun _ h9 => h9) rfl dX8_canJoin_82 ?_
                  refine lv_aload_n hx hb dX8_canJoin_85 rfl (lv_at hl 0 rfl) ?_
                  refine va_get (D := D) (ci := 8) (v := .ref (bd 21)) (C := RX8) (T := TX8) (N := 32) hx hb hts in_X8_canJoin_8 hown hK.1 hP 0 rfl rfl 20 (by decide) (hts _ lk_X8_canJoin_49) (fun _ h9 => h9) rfl dX8_canJoin_86 ?_
                  refine lv_iload hx hb dX8_canJoin_89 (lv_at hl 5 rfl) ?_
                  refine zi_iald hx hb hK.1 hP 14 0 rfl rfl (by omega) (by omega) (by decide) dX8_canJoin_91 ?_
                  have f_91 : (0 : Int) ≤ S_57 20 i ∧ S_57 20 i ≤ 59 := hI_57 20 i
                  refine zi_iald hx hb hK.1 hP 5 0 rfl rfl (by omega) (by omega) (by decide) dX8_canJoin_92 ?_
                  have f_92 : (0 : Int) ≤ S_57 7 (S_57 20 i) ∧ S_57 7 (S_57 20 i) ≤ 29 := hI_57 7 (S_57 20 i)
                  refine lv_iload_n hx hb dX8_canJoin_93 rfl (lv_at hl 3 rfl) ?_
                  refine zk_r (zc_V (As := [.int (zi (S_57 7 (S_57 20 i))), .int (zi x3_54)]) (rest := []) ⟨hx, hb, hml, hown, hts⟩ (ct_X8_isOnPlate l D cI cZ cJ bd S_57 hI_57 (S_57 7 (S_57 20 i)) x3_54 ⟨by omega, by omega⟩ ⟨by omega, by omega⟩ (by omega) (by omega)) (cwV 2 hts gX8_canJoin_X8_isOnPlate rfl rfl rfl (by decide +kernel) ⟨Nat.le_of_ble_eq_true rfl, Nat.le_of_ble_eq_true rfl⟩) hK hP (q0 := 0) (ci := 8) rfl rfl rfl rfl hl.1 rfl (Nat.le_of_ble_eq_true rfl) dX8_canJoin_94 ⟨Nat.zero_le _, Nat.zero_le _⟩) ?_
                  refine zi_top (fun (r_94 : Int) (er_94 : r_94 = b2 (onP S_57 (S_57 7 (S_57 20 i)) x3_54)) => ?_)
                  have fr_94 : (0 : Int) ≤ r_94 ∧ r_94 ≤ 1 := by rw [er_94]; exact b2_b
                  refine zi_if_ne (tgt := 104) hx hb ⟨by omega, by omega⟩ dX8_canJoin_97 (by decide) (fun c_97 => ?_) (fun c_97 => ?_)
                  · refine zi_iconst hx hb dX8_canJoin_104 ?_
                    refine lv_istore (lv' := [(4, .int (zi 0)), (0, .ref (bd 0)), (1, .int (zi x0)), (2, .int (zi x1)), (3, .int (zi x3_54)), (5, .int (zi i))]) hx hb dX8_canJoin_105 hl (by decide) rfl (fun ls hl => ?_)
                    refine zi_iinc (k := 5) (lv' := [(5, .int (zi (i + 1))), (4, .int (zi 0)), (0, .ref (bd 0)), (1, .int (zi x0)), (2, .int (zi x1)), (3, .int (zi x3_54))]) hx hb dX8_canJoin_107 hl rfl (by decide) rfl (fun ls hl => ?_)
                    refine lv_goto (tgt := 66) hx hb dX8_canJoin_110 (by decide) ?_
                    exact ih_66 n 0 (i + 1) (by first | omega | assumption) (by first | omega | assumption) ⟨by decide, by decide⟩ (fit_step (dd := 0) h_R c_77 (b2_f (fun h9 => h9 (b2_1 er_94 c_97))).symm) (by omega) _ (lv_sub hl [2, 3, 4, 5, 1, 0] rfl)
                  · refine zi_iconst hx hb dX8_canJoin_100 ?_
                    refine lv_goto (tgt := 105) hx hb dX8_canJoin_101 (by decide) ?_
                    refine lv_istore (lv' := [(4, .int (zi 1)), (0, .ref (bd 0)), (1, .int (zi x0)), (2, .int (zi x1)), (3, .int (zi x3_54)), (5, .int (zi i))]) hx hb dX8_canJoin_105 hl (by decide) rfl (fun ls hl => ?_)
                    refine zi_iinc (k := 5) (lv' := [(5, .int (zi (i + 1))), (4, .int (zi 1)), (0, .ref (bd 0)), (1, .int (zi x0)), (2, .int (zi x1)), (3, .int (zi x3_54))]) hx hb dX8_canJoin_107 hl rfl (by decide) rfl (fun ls hl => ?_)
                    refine lv_goto (tgt := 66) hx hb dX8_canJoin_110 (by decide) ?_
                    exact ih_66 n 1 (i + 1) (by first | omega | assumption) (by first | omega | assumption) ⟨by decide, by decide⟩ (fit_step (dd := 1) h_R c_77 (b2_t (b2_0 er_94 c_97)).symm) (by omega) _ (lv_sub hl [2, 3, 4, 5, 1, 0] rfl)
          refine lv_istore (lv' := [(5, .int (zi x3_54)), (4, .int (zi 1)), (3, .int (zi x3_54)), (0, .ref (bd 0)), (1, .int (zi x0)), (2, .int (zi x1))]) hx hb dX8_canJoin_64 hl (by decide) rfl (fun ls hl => ?_)
          exact K_66 ((S_57 19 0 - x3_54).toNat + 1) ((S_57 19 0 - x3_54).toNat) 1 x3_54 (by omega) (by first | omega | assumption) ⟨by decide, by decide⟩ (Or.inl ⟨rfl, by rw [mayP, cjL, eS_47, eS_57, ex3_54]⟩) (by omega) _ (lv_sub hl [3, 4, 5, 2, 1, 0] rfl)
        · refine lv_aload_n hx hb dX8_canJoin_34 rfl (lv_at hl 0 rfl) ?_
          refine va_get (D := D) (ci := 8) (v := .ref (bd 15)) (C := RX8) (T := TX8) (N := 32) hx hb hts in_X8_canJoin_8 hown hK.1 hP 0 rfl rfl 14 (by decide) (hts _ lk_X8_canJoin_40) (fun _ h9 => h9) rfl dX8_canJoin_35 ?_
          refine lv_iload_n hx hb dX8_canJoin_38 rfl (lv_at hl 2 rfl) ?_
          refine zi_iald hx hb hK.1 hP 11 0 rfl rfl (by omega) (by omega) (by decide) dX8_canJoin_39 ?_
          have f_39 : (0 : Int) ≤ S 14 x1 ∧ S 14 x1 ≤ 20 := hI 14 x1
          refine zi_if_le (tgt := 45) hx hb ⟨by omega, by omega⟩ dX8_canJoin_40 (by decide) (fun c_40 => ?_) (fun c_40 => ?_)
          · have hpre : x0 ≠ x1 ∧ S 12 x0 = -1 ∧ S 12 x1 = -1 ∧ ¬ (0 < S 14 x0 ∧ 0 < S 14 x1) := ⟨c_2, c_12, c_22, fun h7 => by have h8 := h7.1; have h9 := h7.2; omega⟩
            refine lv_aload_n hx hb dX8_canJoin_45 rfl (lv_at hl 0 rfl) ?_
            refine lv_iload_n hx hb dX8_canJoin_46 rfl (lv_at hl 1 rfl) ?_
            refine zk_wv (zc_V (As := [.int (zi x0)]) (rest := []) ⟨hx, hb, hml, hown, hts⟩ (ct_X8_lays l D cI cZ cJ bd S hI hdis x0 ⟨by omega, by omega⟩ (by omega) (by omega) hac) (cwV 1 hts gX8_canJoin_X8_lays rfl rfl rfl (by decide +kernel) ⟨Nat.le_of_ble_eq_true rfl, Nat.le_of_ble_eq_true rfl⟩) hK hP (q0 := 0) (ci := 8) rfl rfl rfl rfl hl.1 rfl (Nat.le_of_ble_eq_true rfl) dX8_canJoin_47 ⟨Nat.zero_le _, Nat.zero_le _⟩) hS (fun S_47 H locs hp_47 hP hS => ?_)
            obtain ⟨e9, hI_47⟩ := hp_47
            have eS_47 := e9.symm; clear e9
            refine lv_aload_n hx hb dX8_canJoin_50 rfl (lv_at hl 0 rfl) ?_
            refine va_get (D := D) (ci := 8) (v := .int (zi (S_47 19 0))) (C := RX8) (T := TX8) (N := 32) hx hb hts in_X8_canJoin_8 hown hK.1 hP 0 rfl rfl 19 (by decide) (hts _ lk_X8_canJoin_127) (fun _ h9 => h9) rfl dX8_canJoin_51 ?_
            have f_51 : (0 : Int) ≤ S_47 19 0 ∧ S_47 19 0 ≤ 60 := hI_47 19 0
            refine zi_top (fun x3_54 ex3_54 => ?_)
            refine lv_istore_n (lv' := [(3, .int (zi x3_54)), (0, .ref (bd 0)), (1, .int (zi x0)), (2, .int (zi x1))]) hx hb dX8_canJoin_54 rfl hl (by decide) rfl (fun ls hl => ?_)
            have hlk57 : S_47 19 0 + cnt (fun k => lookM S_47 k x1) (S_47 6 0).toNat ≤ 60 := by rw [← eS_47]; exact cj_room hI (hdj c_2 c_12 c_22)
            refine lv_aload_n hx hb dX8_canJoin_55 rfl (lv_at hl 1 rfl) ?_
            refine lv_iload_n hx hb dX8_canJoin_56 rfl (lv_at hl 3 rfl) ?_
            refine zk_wv (zc_V (As := [.int (zi x1)]) (rest := []) ⟨hx, hb, hml, hown, hts⟩ (ct_X8_laysAlso l D cI cZ cJ bd S_47 hI_47 hdis x1 ⟨by omega, by omega⟩ (by omega) (by omega) (by rw [← eS_47]; exact accM_sm SM_la hac) hlk57) (cwV 1 hts gX8_canJoin_X8_laysAlso rfl rfl rfl (by decide +kernel) ⟨Nat.le_of_ble_eq_true rfl, Nat.le_of_ble_eq_true rfl⟩) hK hP (q0 := 0) (ci := 8) rfl rfl rfl rfl hl.1 rfl (Nat.le_of_ble_eq_true rfl) dX8_canJoin_57 ⟨Nat.zero_le _, Nat.zero_le _⟩) hS (fun S_57 H locs hp_57 hP hS => ?_)
            obtain ⟨e9, hI_57⟩ := hp_57
            have eS_57 := e9.symm; clear e9
            have f60 : (0 : Int) ≤ S_47 19 0 ∧ S_47 19 0 ≤ 60 := hI_47 19 0
            have f61 : (0 : Int) ≤ S_57 19 0 ∧ S_57 19 0 ≤ 60 := hI_57 19 0
            have f62 : S_47 19 0 ≤ S_57 19 0 := by rw [← eS_57]; exact laysA_ge
            refine zi_iconst hx hb dX8_canJoin_60 ?_
            refine lv_istore (lv' := [(4, .int (zi 1)), (3, .int (zi x3_54)), (0, .ref (bd 0)), (1, .int (zi x0)), (2, .int (zi x1))]) hx hb dX8_canJoin_61 hl (by decide) rfl (fun ls hl => ?_)
            refine lv_iload_n hx hb dX8_canJoin_63 rfl (lv_at hl 1 rfl) ?_
            have K_66 : ∀ (k : Nat) (n : Nat) (ma i : Int), (i + (n : Int) = S_57 19 0) → (0 ≤ i) → (0 ≤ ma ∧ ma ≤ 1) → ((ma = 1 ∧ b2 (¬ anyI (fun k => ¬ ¬ onP S_57 (S_57 7 (S_57 20 k)) x3_54) n i) = b2 (mayP S x0 x1)) ∨ (ma = 0 ∧ 0 = b2 (mayP S x0 x1))) → ((n : Int) < (k : Int)) → ∀ (ls : Array Slot), lv_has ls 6 [(0, .ref (bd 0)), (1, .int (zi x0)), (2, .int (zi x1)), (3, .int (zi x3_54)), (4, .int (zi ma)), (5, .int (zi i))] → W p l e rmct_X8_canJoin s m ([.ref (bd 0), .int (zi x0), .int (zi x1)] : List Value).toArray below meth c H locs 0 0 (MQ below (zWi D (mW cI cZ bd) (mA bd) (fun r T => r = b2 (cjP S x0 x1) ∧ SM S T ∧ MI T)) ([.ref (bd 0), .int (zi x0), .int (zi x1)] : List Value).toArray s 0 0 (mA bd)) (F0 m 66 ls []) := by
              intro k
              induction k with
              | zero => intro n ma i h_n h_i h_b h_R hk; exact absurd hk (by omega)
              | succ k ih_66 =>
                intro n ma i h_n h_i h_b h_R hk ls hl
                refine lv_iload hx hb dX8_canJoin_66 (lv_at hl 5 rfl) ?_
                refine lv_aload_n hx hb dX8_canJoin_68 rfl (lv_at hl 0 rfl) ?_
                refine va_get (D := D) (ci := 8) (v := .int (zi (S_57 19 0))) (C := RX8) (T := TX8) (N := 32) hx hb hts in_X8_canJoin_8 hown hK.1 hP 0 rfl rfl 19 (by decide) (hts _ lk_X8_canJoin_127) (fun _ h9 => h9) rfl dX8_canJoin_69 ?_
                have f_69 : (0 : Int) ≤ S_57 19 0 ∧ S_57 19 0 ≤ 60 := hI_57 19 0
                refine zi_icmp_ge (tgt := 113) hx hb ⟨by omega, by omega⟩ ⟨by omega, by omega⟩ dX8_canJoin_72 (by decide) (fun c_72 => ?_) (fun c_72 => ?_)
                · obtain rfl : n = 0 := by omega
                  refine lv_iload hx hb dX8_canJoin_113 (lv_at hl 4 rfl) ?_
                  refine zi_if_eq (tgt := 129) hx hb ⟨by omega, by omega⟩ dX8_canJoin_115 (by decide) (fun c_115 => ?_) (fun c_115 => ?_)
                  · refine zi_iconst hx hb dX8_canJoin_129 ?_
                    exact zr_wz (T := S_57) hx hb hr hlocks dX8_canJoin_130 (Or.inl rfl) hP hS (by
                        have hma : ma = b2 (mayP S x0 x1) := fit_end h_R
                        exact ⟨(b2_f (fun h9 => b2_0 hma c_115 h9.2.1)).symm, by rw [← eS_57, ← eS_47]; exact SM_la.tr SM_laA, hI_57⟩)
                  · refine lv_aload_n hx hb dX8_canJoin_118 rfl (lv_at hl 0 rfl) ?_
                    refine zk_wi (zc_V (As := []) (rest := []) ⟨hx, hb, hml, hown, hts⟩ (ct_X8_hasOrbit l D cI cZ cJ bd S_57 hI_57 hdis  ) (cwV 0 hts gX8_canJoin_X8_hasOrbit rfl rfl rfl (by decide +kernel) ⟨Nat.le_of_ble_eq_true rfl, Nat.le_of_ble_eq_true rfl⟩) hK hP (q0 := 0) (ci := 8) rfl rfl rfl rfl hl.1 rfl (Nat.le_of_ble_eq_true rfl) dX8_canJoin_119 ⟨Nat.zero_le _, Nat.zero_le _⟩) hS (fun r_119 S_119 H locs hp_119 hP hS => ?_)
                    obtain ⟨er_119, e9, hI_119⟩ := hp_119
                    have eS_119 := e9.symm; clear e9
                    have fr_119 : (0 : Int) ≤ r_119 ∧ r_119 ≤ 1 := by rw [er_119]; exact b2_b
                    refine zi_if_eq (tgt := 129) hx hb ⟨by omega, by omega⟩ dX8_canJoin_122 (by decide) (fun c_122 => ?_) (fun c_122 => ?_)
                    · refine zi_iconst hx hb dX8_canJoin_129 ?_
                      exact zr_wz (T := S_119) hx hb hr hlocks dX8_canJoin_130 (Or.inl rfl) hP hS (by
                          have hma : ma = b2 (mayP S x0 x1) := fit_end h_R
                          exact ⟨(b2_f (fun h9 => b2_0 er_119 c_122 (by rw [← eS_57, ← eS_47]; exact h9.2.2))).symm, by rw [← eS_119, ← eS_57, ← eS_47]; exact SM_la.tr (SM_laA.tr SM_fd), hI_119⟩)
                    · refine zi_iconst hx hb dX8_canJoin_125 ?_
                      refine lv_goto (tgt := 130) hx hb dX8_canJoin_126 (by decide) ?_
                      exact zr_wz (T := S_119) hx hb hr hlocks dX8_canJoin_130 (Or.inr rfl) hP hS (by
                          have hma : ma = b2 (mayP S x0 x1) := fit_end h_R
                          exact ⟨(b2_t ⟨hpre, b2_1 hma c_115, by have h9 := b2_1 er_119 c_122; rw [← eS_57, ← eS_47] at h9; exact h9⟩).symm, by rw [← eS_119, ← eS_57, ← eS_47]; exact SM_la.tr (SM_laA.tr SM_fd), hI_119⟩)
                · obtain ⟨n, rfl⟩ : ∃ n9 : Nat, n = n9 + 1 := ⟨n - 1, by omega⟩
                  refine lv_iload hx hb dX8_canJoin_75 (lv_at hl 4 rfl) ?_
                  refine zi_if_eq (tgt := 104) hx hb ⟨by omega, by omega⟩ dX8_canJoin_77 (by decide) (fun c_77 => ?_) (fun c_77 => ?_)
                  · refine zi_iconst hx hb dX8_canJoin_104 ?_
                    refine lv_istore (lv' := [(4, .int (zi 0)), (0, .ref (bd 0)), (1, .int (zi x0)), (2, .int (zi x1)), (3, .int (zi x3_54)), (5, .int (zi i))]) hx hb dX8_canJoin_105 hl (by decide) rfl (fun ls hl => ?_)
                    refine zi_iinc (k := 5) (lv' := [(5, .int (zi (i + 1))), (4, .int (zi 0)), (0, .ref (bd 0)), (1, .int (zi x0)), (2, .int (zi x1)), (3, .int (zi x3_54))]) hx hb dX8_canJoin_107 hl rfl (by decide) rfl (fun ls hl => ?_)
                    refine lv_goto (tgt := 66) hx hb dX8_canJoin_110 (by decide) ?_
                    exact ih_66 n 0 (i + 1) (by first | omega | assumption) (by first | omega | assumption) ⟨by decide, by decide⟩ (fit_0 h_R (by omega)) (by omega) _ (lv_sub hl [2, 3, 4, 5, 1, 0] rfl)
                  · refine lv_aload_n hx hb dX8_canJoin_80 rfl (lv_at hl 0 rfl) ?_
                    refine lv_aload_n hx hb dX8_canJoin_81 rfl (lv_at hl 0 rfl) ?_
                    refine va_get (D := D) (ci := 8) (v := .ref (bd 8)) (C := RX8) (T := TX8) (N := 32) hx hb hts in_X8_canJoin_8 hown hK.1 hP 0 rfl rfl 7 (by decide) (hts _ lk_X8_canJoin_22) (fun _ h9 => h9) rfl dX8_canJoin_82 ?_
                    refine lv_aload_n hx hb dX8_canJoin_85 rfl (lv_at hl 0 rfl) ?_
                    refine va_get (D := D) (ci := 8) (v := .ref (bd 21)) (C := RX8) (T := TX8) (N := 32) hx hb hts in_X8_canJoin_8 hown hK.1 hP 0 rfl rfl 20 (by decide) (hts _ lk_X8_canJoin_49) (fun _ h9 => h9) rfl dX8_canJoin_86 ?_
                    refine lv_iload hx hb dX8_canJoin_89 (lv_at hl 5 rfl) ?_
                    refine zi_iald hx hb hK.1 hP 14 0 rfl rfl (by omega) (by omega) (by decide) dX8_canJoin_91 ?_
                    have f_91 : (0 : Int) ≤ S_57 20 i ∧ S_57 20 i ≤ 59 := hI_57 20 i
                    refine zi_iald hx hb hK.1 hP 5 0 rfl rfl (by omega) (by omega) (by decide) dX8_canJoin_92 ?_
                    have f_92 : (0 : Int) ≤ S_57 7 (S_57 20 i) ∧ S_57 7 (S_57 20 i) ≤ 29 := hI_57 7 (S_57 20 i)
                    refine lv_iload_n hx hb dX8_canJoin_93 rfl (lv_at hl 3 rfl) ?_
                    refine zk_r (zc_V (As := [.int (zi (S_57 7 (S_57 20 i))), .int (zi x3_54)]) (rest := []) ⟨hx, hb, hml, hown, hts⟩ (ct_X8_isOnPlate l D cI cZ cJ bd S_57 hI_57 (S_57 7 (S_57 20 i)) x3_54 ⟨by omega, by omega⟩ ⟨by omega, by omega⟩ (by omega) (by omega)) (cwV 2 hts gX8_canJoin_X8_isOnPlate rfl rfl rfl (by decide +kernel) ⟨Nat.le_of_ble_eq_true rfl, Nat.le_of_ble_eq_true rfl⟩) hK hP (q0 := 0) (ci := 8) rfl rfl rfl rfl hl.1 rfl (Nat.le_of_ble_eq_true rfl) dX8_canJoin_94 ⟨Nat.zero_le _, Nat.zero_le _⟩) ?_
                    refine zi_top (fun (r_94 : Int) (er_94 : r_94 = b2 (onP S_57 (S_57 7 (S_57 20 i)) x3_54)) => ?_)
                    have fr_94 : (0 : Int) ≤ r_94 ∧ r_94 ≤ 1 := by rw [er_94]; exact b2_b
                    refine zi_if_ne (tgt := 104) hx hb ⟨by omega, by omega⟩ dX8_canJoin_97 (by decide) (fun c_97 => ?_) (fun c_97 => ?_)
                    · refine zi_iconst hx hb dX8_canJoin_104 ?_
                      refine lv_istore (lv' := [(4, .int (zi 0)), (0, .ref (bd 0)), (1, .int (zi x0)), (2, .int (zi x1)), (3, .int (zi x3_54)), (5, .int (zi i))]) hx hb dX8_canJoin_105 hl (by decide) rfl (fun ls hl => ?_)
                      refine zi_iinc (k := 5) (lv' := [(5, .int (zi (i + 1))), (4, .int (zi 0)), (0, .ref (bd 0)), (1, .int (zi x0)), (2, .int (zi x1)), (3, .int (zi x3_54))]) hx hb dX8_canJoin_107 hl rfl (by decide) rfl (fun ls hl => ?_)
                      refine lv_goto (tgt := 66) hx hb dX8_canJoin_110 (by decide) ?_
                      exact ih_66 n 0 (i + 1) (by first | omega | assumption) (by first | omega | assumption) ⟨by decide, by decide⟩ (fit_step (dd := 0) h_R c_77 (b2_f (fun h9 => h9 (b2_1 er_94 c_97))).symm) (by omega) _ (lv_sub hl [2, 3, 4, 5, 1, 0] rfl)
                    · refine zi_iconst hx hb dX8_canJoin_100 ?_
                      refine lv_goto (tgt := 105) hx hb dX8_canJoin_101 (by decide) ?_
                      refine lv_istore (lv' := [(4, .int (zi 1)), (0, .ref (bd 0)), (1, .int (zi x0)), (2, .int (zi x1)), (3, .int (zi x3_54)), (5, .int (zi i))]) hx hb dX8_canJoin_105 hl (by decide) rfl (fun ls hl => ?_)
                      refine zi_iinc (k := 5) (lv' := [(5, .int (zi (i + 1))), (4, .int (zi 1)), (0, .ref (bd 0)), (1, .int (zi x0)), (2, .int (zi x1)), (3, .int (zi x3_54))]) hx hb dX8_canJoin_107 hl rfl (by decide) rfl (fun ls hl => ?_)
                      refine lv_goto (tgt := 66) hx hb dX8_canJoin_110 (by decide) ?_
                      exact ih_66 n 1 (i + 1) (by first | omega | assumption) (by first | omega | assumption) ⟨by decide, by decide⟩ (fit_step (dd := 1) h_R c_77 (b2_t (b2_0 er_94 c_97)).symm) (by omega) _ (lv_sub hl [2, 3, 4, 5, 1, 0] rfl)
            refine lv_istore (lv' := [(5, .int (zi x3_54)), (4, .int (zi 1)), (3, .int (zi x3_54)), (0, .ref (bd 0)), (1, .int (zi x0)), (2, .int (zi x1))]) hx hb dX8_canJoin_64 hl (by decide) rfl (fun ls hl => ?_)
            exact K_66 ((S_57 19 0 - x3_54).toNat + 1) ((S_57 19 0 - x3_54).toNat) 1 x3_54 (by omega) (by first | omega | assumption) ⟨by decide, by decide⟩ (Or.inl ⟨rfl, by rw [mayP, cjL, eS_47, eS_57, ex3_54]⟩) (by omega) _ (lv_sub hl [3, 4, 5, 2, 1, 0] rfl)
          · refine zi_iconst hx hb dX8_canJoin_43 ?_
            exact zr_wz (T := S) hx hb hr hlocks dX8_canJoin_44 (Or.inl rfl) hP hS (by exact ⟨(b2_f (fun h9 => h9.1.2.2.2 ⟨by omega, by omega⟩)).symm, SM.rf, hI⟩)

theorem in_X8_stronger_8 : ∀ w ∈ wsX80, w ∈ wsX8_stronger := by decide +kernel
theorem lk_X8_stronger_40 : Cond.fieldLink RX8 40 "PlanetoidDeskModel" "numberOf" "[I" ∈ wsX8_stronger := by decide +kernel
abbrev rmct_X8_stronger : Room := { frames := 4, cells := 0, slots := 0, locals := 89 }
set_option maxHeartbeats 4000000 in
set_option maxRecDepth 100000 in
theorem ct_X8_stronger (l : Launch) (D : va_G) (cI cZ cJ : ClassId) (bd : Nat → Nat) (S : ZS) (hI : MI S) (hdis : mDis bd) (x0 x1 : Int) (hx0 : ir x0) (hx1 : ir x1) (hp00 : 0 ≤ x0) (hp01 : x0 ≤ 19) (hp10 : 0 ≤ x1) (hp11 : x1 ≤ 19) (hac : accM S) : Met l yX8_stronger wsX8_stronger rmct_X8_stronger (zP D cI cZ cJ (mW cI cZ bd S) [.ref (bd 0), .int (zi x0), .int (zi x1)]) (zWi D (mW cI cZ bd) (mA bd) (fun r T => r = strM S x0 x1 ∧ SM S T ∧ MI T)) 0 0 (mA bd) := by
  refine Met.ofW (cc := cX8_stronger) (maxL := 6) (ret := (some .int)) (by decide) rfl ?_
  intro p e s m args below meth c s₁ B hml hv
  obtain ⟨rfl, hP, hK⟩ := hv
  have hx := B.exec
  have hb := B.bytes
  have hr := B.returns
  have hts := atoms_spec (ws := wsX8_stronger) B.pre
  have hown : s.vm.findClass RX8 = some m.cls := findClass_of_methodNamed B.named
  have hlocks := B.notSynchronized
  have hl := lv_entry ([.ref (bd 0), .int (zi x0), .int (zi x1)]) (n := 6) (Nat.le_of_ble_eq_true rfl)
  rw [lg_entry_eq]
  generalize (lg_sl ([.ref (bd 0), .int (zi x0), .int (zi x1)]) ++ List.replicate (6 - (lg_sl ([.ref (bd 0), .int (zi x0), .int (zi x1)])).length) Slot.unset).toArray = ls at hl ⊢
  have hl : lv_has ls 6 [(0, .ref (bd 0)), (1, .int (zi x0)), (2, .int (zi x1))] := hl
  have hS : va_S (mA bd) s.heap s.heap [] := va_S.rf
  show W p l e rmct_X8_stronger s m ([.ref (bd 0), .int (zi x0), .int (zi x1)] : List Value).toArray below meth c s.heap [] 0 0 (MQ below (zWi D (mW cI cZ bd) (mA bd) (fun r T => r = strM S x0 x1 ∧ SM S T ∧ MI T)) ([.ref (bd 0), .int (zi x0), .int (zi x1)] : List Value).toArray s 0 0 (mA bd)) (F0 m 0 ls [])
  refine lv_aload_n hx hb dX8_stronger_0 rfl (lv_at hl 0 rfl) ?_
  refine va_get (D := D) (ci := 8) (v := .ref (bd 15)) (C := RX8) (T := TX8) (N := 32) hx hb hts in_X8_stronger_8 hown hK.1 hP 0 rfl rfl 14 (by decide) (hts _ lk_X8_stronger_40) (fun _ h9 => h9) rfl dX8_stronger_1 ?_
  refine lv_iload_n hx hb dX8_stronger_4 rfl (lv_at hl 1 rfl) ?_
  refine zi_iald hx hb hK.1 hP 11 0 rfl rfl (by omega) (by omega) (by decide) dX8_stronger_5 ?_
  have f_5 : (0 : Int) ≤ S 14 x0 ∧ S 14 x0 ≤ 20 := hI 14 x0
  refine lv_aload_n hx hb dX8_stronger_6 rfl (lv_at hl 0 rfl) ?_
  refine va_get (D := D) (ci := 8) (v := .ref (bd 15)) (C := RX8) (T := TX8) (N := 32) hx hb hts in_X8_stronger_8 hown hK.1 hP 0 rfl rfl 14 (by decide) (hts _ lk_X8_stronger_40) (fun _ h9 => h9) rfl dX8_stronger_7 ?_
  refine lv_iload_n hx hb dX8_stronger_10 rfl (lv_at hl 2 rfl) ?_
  refine zi_iald hx hb hK.1 hP 11 0 rfl rfl (by omega) (by omega) (by decide) dX8_stronger_11 ?_
  have f_11 : (0 : Int) ≤ S 14 x1 ∧ S 14 x1 ≤ 20 := hI 14 x1
  refine zi_iadd hx hb dX8_stronger_12 ?_
  refine zi_if_le (tgt := 31) hx hb ⟨by omega, by omega⟩ dX8_stronger_13 (by decide) (fun c_13 => ?_) (fun c_13 => ?_)
  · refine lv_aload_n hx hb dX8_stronger_31 rfl (lv_at hl 0 rfl) ?_
    refine lv_iload_n hx hb dX8_stronger_32 rfl (lv_at hl 1 rfl) ?_
    refine zk_wi (zc_V (As := [.int (zi x0)]) (rest := []) ⟨hx, hb, hml, hown, hts⟩ (ct_X8_firstOf l D cI cZ cJ bd S hI hdis x0 ⟨by omega, by omega⟩ (by omega) (by omega) hac) (cwV 1 hts gX8_stronger_X8_firstOf rfl rfl rfl (by decide +kernel) ⟨Nat.le_of_ble_eq_true rfl, Nat.le_of_ble_eq_true rfl⟩) hK hP (q0 := 0) (ci := 8) rfl rfl rfl rfl hl.1 rfl (Nat.le_of_ble_eq_true rfl) dX8_stronger_33 ⟨Nat.zero_le _, Nat.zero_le _⟩) hS (fun r_33 S_33 H locs hp_33 hP hS => ?_)
    obtain ⟨er_33, e9, hI_33⟩ := hp_33
    have eS_33 := e9.symm; clear e9
    have fr_33 : (0 : Int) ≤ r_33 ∧ r_33 ≤ 59 := by rw [er_33, eS_33]; exact firstM_b hI_33
    refine lv_istore_n (lv' := [(3, .int (zi r_33)), (0, .ref (bd 0)), (1, .int (zi x0)), (2, .int (zi x1))]) hx hb dX8_stronger_36 rfl hl (by decide) rfl (fun ls hl => ?_)
    refine lv_aload_n hx hb dX8_stronger_37 rfl (lv_at hl 1 rfl) ?_
    refine lv_iload_n hx hb dX8_stronger_38 rfl (lv_at hl 3 rfl) ?_
    refine zk_wi (zc_V (As := [.int (zi x1)]) (rest := []) ⟨hx, hb, hml, hown, hts⟩ (ct_X8_firstOf l D cI cZ cJ bd S_33 hI_33 hdis x1 ⟨by omega, by omega⟩ (by omega) (by omega) (by rw [← eS_33]; exact accM_sm SM_la hac)) (cwV 1 hts gX8_stronger_X8_firstOf rfl rfl rfl (by decide +kernel) ⟨Nat.le_of_ble_eq_true rfl, Nat.le_of_ble_eq_true rfl⟩) hK hP (q0 := 0) (ci := 8) rfl rfl rfl rfl hl.1 rfl (Nat.le_of_ble_eq_true rfl) dX8_stronger_39 ⟨Nat.zero_le _, Nat.zero_le _⟩) hS (fun r_39 S_39 H locs hp_39 hP hS => ?_)
    obtain ⟨er_39, e9, hI_39⟩ := hp_39
    have eS_39 := e9.symm; clear e9
    have fr_39 : (0 : Int) ≤ r_39 ∧ r_39 ≤ 59 := by rw [er_39, eS_39]; exact firstM_b hI_39
    refine lv_istore (lv' := [(4, .int (zi r_39)), (3, .int (zi r_33)), (0, .ref (bd 0)), (1, .int (zi x0)), (2, .int (zi x1))]) hx hb dX8_stronger_42 hl (by decide) rfl (fun ls hl => ?_)
    refine lv_aload_n hx hb dX8_stronger_44 rfl (lv_at hl 2 rfl) ?_
    refine lv_iload_n hx hb dX8_stronger_45 rfl (lv_at hl 1 rfl) ?_
    refine zk_r (zc_V (As := [.int (zi r_33)]) (rest := []) ⟨hx, hb, hml, hown, hts⟩ (ct_X8_nightOf l D cI cZ cJ bd S_39 hI_39 r_33 ⟨by omega, by omega⟩ (by omega) (by omega)) (cwV 1 hts gX8_stronger_X8_nightOf rfl rfl rfl (by decide +kernel) ⟨Nat.le_of_ble_eq_true rfl, Nat.le_of_ble_eq_true rfl⟩) hK hP (q0 := 0) (ci := 8) rfl rfl rfl rfl hl.1 rfl (Nat.le_of_ble_eq_true rfl) dX8_stronger_46 ⟨Nat.zero_le _, Nat.zero_le _⟩) ?_
    refine zi_top (fun (r_46 : Int) (er_46 : r_46 = nM S_39 r_33) => ?_)
    have fr_46 : (0 : Int) ≤ r_46 ∧ r_46 ≤ 999 := by rw [er_46]; exact nM_b hI_39 _
    refine lv_aload_n hx hb dX8_stronger_49 rfl (lv_at hl 2 rfl) ?_
    refine lv_iload hx hb dX8_stronger_50 (lv_at hl 0 rfl) ?_
    refine zk_r (zc_V (As := [.int (zi r_39)]) (rest := [.int (zi r_46)]) ⟨hx, hb, hml, hown, hts⟩ (ct_X8_nightOf l D cI cZ cJ bd S_39 hI_39 r_39 ⟨by omega, by omega⟩ (by omega) (by omega)) (cwV 1 hts gX8_stronger_X8_nightOf rfl rfl rfl (by decide +kernel) ⟨Nat.le_of_ble_eq_true rfl, Nat.le_of_ble_eq_true rfl⟩) hK hP (q0 := 0) (ci := 8) rfl rfl rfl rfl hl.1 rfl (Nat.le_of_ble_eq_true rfl) dX8_stronger_52 ⟨Nat.zero_le _, Nat.zero_le _⟩) ?_
    refine zi_top (fun (r_52 : Int) (er_52 : r_52 = nM S_39 r_39) => ?_)
    have fr_52 : (0 : Int) ≤ r_52 ∧ r_52 ≤ 999 := by rw [er_52]; exact nM_b hI_39 _
    refine zi_icmp_lt (tgt := 78) hx hb ⟨by omega, by omega⟩ ⟨by omega, by omega⟩ dX8_stronger_55 (by decide) (fun c_55 => ?_) (fun c_55 => ?_)
    · refine zi_iconst hx hb dX8_stronger_78 ?_
      refine lv_goto (tgt := 83) hx hb dX8_stronger_79 (by decide) ?_
      refine lv_istore (lv' := [(5, .int (zi 1)), (4, .int (zi r_39)), (3, .int (zi r_33)), (0, .ref (bd 0)), (1, .int (zi x0)), (2, .int (zi x1))]) hx hb dX8_stronger_83 hl (by decide) rfl (fun ls hl => ?_)
      refine lv_iload hx hb dX8_stronger_85 (lv_at hl 0 rfl) ?_
      refine zi_if_eq (tgt := 94) hx hb ⟨by decide, by decide⟩ dX8_stronger_87 (by decide) (fun c_87 => ?_) (fun c_87 => ?_)
      · refine lv_iload_n hx hb dX8_stronger_94 rfl (lv_at hl 5 rfl) ?_
        exact zr_wi (T := S_39) hx hb hr hlocks dX8_stronger_95 hP hS (by exact absurd c_87 (by decide))
      · refine lv_iload_n hx hb dX8_stronger_90 rfl (lv_at hl 4 rfl) ?_
        refine lv_goto (tgt := 95) hx hb dX8_stronger_91 (by decide) ?_
        exact zr_wi (T := S_39) hx hb hr hlocks dX8_stronger_95 hP hS (by
            have q1 : r_46 = nM S r_33 := by rw [er_46, ← eS_39, ← eS_33, nM_sm (SM_la.tr SM_la)]
            have q2 : r_52 = nM S r_39 := by rw [er_52, ← eS_39, ← eS_33, nM_sm (SM_la.tr SM_la)]
            rw [er_33] at q1; rw [er_39, ← eS_33] at q2
            exact ⟨(cif_t (Or.inr ⟨by omega, Or.inl (by rw [← q1, ← q2]; exact c_55)⟩)).symm, by rw [← eS_39, ← eS_33]; exact SM_la.tr SM_la, hI_39⟩)
    · refine lv_aload_n hx hb dX8_stronger_58 rfl (lv_at hl 2 rfl) ?_
      refine lv_iload_n hx hb dX8_stronger_59 rfl (lv_at hl 1 rfl) ?_
      refine zk_r (zc_V (As := [.int (zi r_33)]) (rest := []) ⟨hx, hb, hml, hown, hts⟩ (ct_X8_nightOf l D cI cZ cJ bd S_39 hI_39 r_33 ⟨by omega, by omega⟩ (by omega) (by omega)) (cwV 1 hts gX8_stronger_X8_nightOf rfl rfl rfl (by decide +kernel) ⟨Nat.le_of_ble_eq_true rfl, Nat.le_of_ble_eq_true rfl⟩) hK hP (q0 := 0) (ci := 8) rfl rfl rfl rfl hl.1 rfl (Nat.le_of_ble_eq_true rfl) dX8_stronger_60 ⟨Nat.zero_le _, Nat.zero_le _⟩) ?_
      refine zi_top (fun (r_60 : Int) (er_60 : r_60 = nM S_39 r_33) => ?_)
      have fr_60 : (0 : Int) ≤ r_60 ∧ r_60 ≤ 999 := by rw [er_60]; exact nM_b hI_39 _
      refine lv_aload_n hx hb dX8_stronger_63 rfl (lv_at hl 2 rfl) ?_
      refine lv_iload hx hb dX8_stronger_64 (lv_at hl 0 rfl) ?_
      refine zk_r (zc_V (As := [.int (zi r_39)]) (rest := [.int (zi r_60)]) ⟨hx, hb, hml, hown, hts⟩ (ct_X8_nightOf l D cI cZ cJ bd S_39 hI_39 r_39 ⟨by omega, by omega⟩ (by omega) (by omega)) (cwV 1 hts gX8_stronger_X8_nightOf rfl rfl rfl (by decide +kernel) ⟨Nat.le_of_ble_eq_true rfl, Nat.le_of_ble_eq_true rfl⟩) hK hP (q0 := 0) (ci := 8) rfl rfl rfl rfl hl.1 rfl (Nat.le_of_ble_eq_true rfl) dX8_stronger_66 ⟨Nat.zero_le _, Nat.zero_le _⟩) ?_
      refine zi_top (fun (r_66 : Int) (er_66 : r_66 = nM S_39 r_39) => ?_)
      have fr_66 : (0 : Int) ≤ r_66 ∧ r_66 ≤ 999 := by rw [er_66]; exact nM_b hI_39 _
      refine zi_icmp_ne (tgt := 82) hx hb ⟨by omega, by omega⟩ ⟨by omega, by omega⟩ dX8_stronger_69 (by decide) (fun c_69 => ?_) (fun c_69 => ?_)
      · refine zi_iconst hx hb dX8_stronger_82 ?_
        refine lv_istore (lv' := [(5, .int (zi 0)), (4, .int (zi r_39)), (3, .int (zi r_33)), (0, .ref (bd 0)), (1, .int (zi x0)), (2, .int (zi x1))]) hx hb dX8_stronger_83 hl (by decide) rfl (fun ls hl => ?_)
        refine lv_iload hx hb dX8_stronger_85 (lv_at hl 0 rfl) ?_
        refine zi_if_eq (tgt := 94) hx hb ⟨by decide, by decide⟩ dX8_stronger_87 (by decide) (fun c_87 => ?_) (fun c_87 => ?_)
        · refine lv_iload_n hx hb dX8_stronger_94 rfl (lv_at hl 5 rfl) ?_
          exact zr_wi (T := S_39) hx hb hr hlocks dX8_stronger_95 hP hS (by
              have q1 : r_46 = nM S r_33 := by rw [er_46, ← eS_39, ← eS_33, nM_sm (SM_la.tr SM_la)]
              have q2 : r_52 = nM S r_39 := by rw [er_52, ← eS_39, ← eS_33, nM_sm (SM_la.tr SM_la)]
              rw [er_33] at q1; rw [er_39, ← eS_33] at q2
              exact ⟨(cif_f (fun h9 => h9.elim (fun h8 => absurd h8.1 (by omega)) (fun h8 => h8.2.elim (fun h7 => c_55 (by rw [q1, q2]; exact h7)) (fun h7 => c_69 (by rw [er_60, er_66, ← er_46, ← er_52, q1, q2]; exact h7.1))))).symm, by rw [← eS_39, ← eS_33]; exact SM_la.tr SM_la, hI_39⟩)
        · refine lv_iload_n hx hb dX8_stronger_90 rfl (lv_at hl 4 rfl) ?_
          refine lv_goto (tgt := 95) hx hb dX8_stronger_91 (by decide) ?_
          exact zr_wi (T := S_39) hx hb hr hlocks dX8_stronger_95 hP hS (by exact absurd rfl c_87)
      · refine lv_iload_n hx hb dX8_stronger_72 rfl (lv_at hl 1 rfl) ?_
        refine lv_iload hx hb dX8_stronger_73 (lv_at hl 0 rfl) ?_
        refine zi_icmp_ge (tgt := 82) hx hb ⟨by omega, by omega⟩ ⟨by omega, by omega⟩ dX8_stronger_75 (by decide) (fun c_75 => ?_) (fun c_75 => ?_)
        · refine zi_iconst hx hb dX8_stronger_82 ?_
          refine lv_istore (lv' := [(5, .int (zi 0)), (4, .int (zi r_39)), (3, .int (zi r_33)), (0, .ref (bd 0)), (1, .int (zi x0)), (2, .int (zi x1))]) hx hb dX8_stronger_83 hl (by decide) rfl (fun ls hl => ?_)
          refine lv_iload hx hb dX8_stronger_85 (lv_at hl 0 rfl) ?_
          refine zi_if_eq (tgt := 94) hx hb ⟨by decide, by decide⟩ dX8_stronger_87 (by decide) (fun c_87 => ?_) (fun c_87 => ?_)
          · refine lv_iload_n hx hb dX8_stronger_94 rfl (lv_at hl 5 rfl) ?_
            exact zr_wi (T := S_39) hx hb hr hlocks dX8_stronger_95 hP hS (by
                have q1 : r_46 = nM S r_33 := by rw [er_46, ← eS_39, ← eS_33, nM_sm (SM_la.tr SM_la)]
                have q2 : r_52 = nM S r_39 := by rw [er_52, ← eS_39, ← eS_33, nM_sm (SM_la.tr SM_la)]
                rw [er_33] at q1; rw [er_39, ← eS_33] at q2
                have c_75 : ¬ r_33 < r_39 := by omega
                rw [er_33, er_39, ← eS_33] at c_75
                exact ⟨(cif_f (fun h9 => h9.elim (fun h8 => absurd h8.1 (by omega)) (fun h8 => h8.2.elim (fun h7 => c_55 (by rw [q1, q2]; exact h7)) (fun h7 => c_75 h7.2)))).symm, by rw [← eS_39, ← eS_33]; exact SM_la.tr SM_la, hI_39⟩)
          · refine lv_iload_n hx hb dX8_stronger_90 rfl (lv_at hl 4 rfl) ?_
            refine lv_goto (tgt := 95) hx hb dX8_stronger_91 (by decide) ?_
            exact zr_wi (T := S_39) hx hb hr hlocks dX8_stronger_95 hP hS (by exact absurd rfl c_87)
        · refine zi_iconst hx hb dX8_stronger_78 ?_
          refine lv_goto (tgt := 83) hx hb dX8_stronger_79 (by decide) ?_
          refine lv_istore (lv' := [(5, .int (zi 1)), (4, .int (zi r_39)), (3, .int (zi r_33)), (0, .ref (bd 0)), (1, .int (zi x0)), (2, .int (zi x1))]) hx hb dX8_stronger_83 hl (by decide) rfl (fun ls hl => ?_)
          refine lv_iload hx hb dX8_stronger_85 (lv_at hl 0 rfl) ?_
          refine zi_if_eq (tgt := 94) hx hb ⟨by decide, by decide⟩ dX8_stronger_87 (by decide) (fun c_87 => ?_) (fun c_87 => ?_)
          · refine lv_iload_n hx hb dX8_stronger_94 rfl (lv_at hl 5 rfl) ?_
            exact zr_wi (T := S_39) hx hb hr hlocks dX8_stronger_95 hP hS (by exact absurd c_87 (by decide))
          · refine lv_iload_n hx hb dX8_stronger_90 rfl (lv_at hl 4 rfl) ?_
            refine lv_goto (tgt := 95) hx hb dX8_stronger_91 (by decide) ?_
            exact zr_wi (T := S_39) hx hb hr hlocks dX8_stronger_95 hP hS (by
                have q1 : r_46 = nM S r_33 := by rw [er_46, ← eS_39, ← eS_33, nM_sm (SM_la.tr SM_la)]
                have q2 : r_52 = nM S r_39 := by rw [er_52, ← eS_39, ← eS_33, nM_sm (SM_la.tr SM_la)]
                rw [er_33] at q1; rw [er_39, ← eS_33] at q2
                have c_75 : r_33 < r_39 := by omega
                rw [er_33, er_39, ← eS_33] at c_75
                exact ⟨(cif_t (Or.inr ⟨by omega, Or.inr ⟨by rw [← q1, ← q2, er_46, er_52, ← er_60, ← er_66]; exact c_69, c_75⟩⟩)).symm, by rw [← eS_39, ← eS_33]; exact SM_la.tr SM_la, hI_39⟩)
  · refine lv_aload_n hx hb dX8_stronger_16 rfl (lv_at hl 0 rfl) ?_
    refine va_get (D := D) (ci := 8) (v := .ref (bd 15)) (C := RX8) (T := TX8) (N := 32) hx hb hts in_X8_stronger_8 hown hK.1 hP 0 rfl rfl 14 (by decide) (hts _ lk_X8_stronger_40) (fun _ h9 => h9) rfl dX8_stronger_17 ?_
    refine lv_iload_n hx hb dX8_stronger_20 rfl (lv_at hl 1 rfl) ?_
    refine zi_iald hx hb hK.1 hP 11 0 rfl rfl (by omega) (by omega) (by decide) dX8_stronger_21 ?_
    have f_21 : (0 : Int) ≤ S 14 x0 ∧ S 14 x0 ≤ 20 := hI 14 x0
    refine zi_if_le (tgt := 29) hx hb ⟨by omega, by omega⟩ dX8_stronger_22 (by decide) (fun c_22 => ?_) (fun c_22 => ?_)
    · refine lv_iload_n hx hb dX8_stronger_29 rfl (lv_at hl 2 rfl) ?_
      exact zr_wi (T := S) hx hb hr hlocks dX8_stronger_30 hP hS (by exact ⟨(cif_f (fun h9 => h9.elim (fun h8 => absurd h8.2 (by omega)) (fun h8 => h8.1 (by omega)))).symm, SM.rf, hI⟩)
    · refine lv_iload_n hx hb dX8_stronger_25 rfl (lv_at hl 1 rfl) ?_
      refine lv_goto (tgt := 30) hx hb dX8_stronger_26 (by decide) ?_
      exact zr_wi (T := S) hx hb hr hlocks dX8_stronger_30 hP hS (by exact ⟨(cif_t (Or.inl ⟨by omega, by omega⟩)).symm, SM.rf, hI⟩)

abbrev rmct_X8_placeBy : Room := { frames := 1, cells := 0, slots := 0, locals := 22 }
set_option maxHeartbeats 4000000 in
set_option maxRecDepth 100000 in
theorem ct_X8_placeBy (l : Launch) (D : va_G) (cI cZ cJ : ClassId) (bd : Nat → Nat) (S : ZS) (hI : MI S) (x0 x1 : Int) (hx0 : ir x0) (hx1 : ir x1) (hp00 : 0 ≤ x0) (hp01 : x0 ≤ 1457999) (hp10 : 0 ≤ x1) (hp11 : x1 ≤ 999) : Met l yX8_placeBy wsX8_placeBy rmct_X8_placeBy (zP D cI cZ cJ (mW cI cZ bd S) [.ref (bd 0), .int (zi x0), .int (zi x1)]) (k2_QcV (.int (zi (plM x0 x1)))) 0 0 (fun _ => False) := by
  refine Met.ofW (cc := cX8_placeBy) (maxL := 3) (ret := (some .int)) (by decide) rfl ?_
  intro p e s m args below meth c s₁ B hml hv
  obtain ⟨rfl, hP, hK⟩ := hv
  have hx := B.exec
  have hb := B.bytes
  have hr := B.returns
  have hts := atoms_spec (ws := wsX8_placeBy) B.pre
  have hown : s.vm.findClass RX8 = some m.cls := findClass_of_methodNamed B.named
  have hlocks := B.notSynchronized
  have hl := lv_entry ([.ref (bd 0), .int (zi x0), .int (zi x1)]) (n := 3) (Nat.le_of_ble_eq_true rfl)
  rw [lg_entry_eq]
  generalize (lg_sl ([.ref (bd 0), .int (zi x0), .int (zi x1)]) ++ List.replicate (3 - (lg_sl ([.ref (bd 0), .int (zi x0), .int (zi x1)])).length) Slot.unset).toArray = ls at hl ⊢
  have hl : lv_has ls 3 [(0, .ref (bd 0)), (1, .int (zi x0)), (2, .int (zi x1))] := hl
  show W p l e rmct_X8_placeBy s m ([.ref (bd 0), .int (zi x0), .int (zi x1)] : List Value).toArray below meth c s.heap [] 0 0 (MQ below (k2_QcV (.int (zi (plM x0 x1)))) ([.ref (bd 0), .int (zi x0), .int (zi x1)] : List Value).toArray s 0 0 (fun _ => False)) (F0 m 0 ls [])
  refine lv_iload_n hx hb dX8_placeBy_0 rfl (lv_at hl 1 rfl) ?_
  refine zi_sipush hx hb dX8_placeBy_1 (by decide) ?_
  refine zi_idiv hx hb ⟨by omega, by omega⟩ ⟨by omega, by omega⟩ (by omega) (by omega) dX8_placeBy_4 ?_
  refine lv_iload_n hx hb dX8_placeBy_5 rfl (lv_at hl 1 rfl) ?_
  refine zi_sipush hx hb dX8_placeBy_6 (by decide) ?_
  refine zi_irem hx hb ⟨by omega, by omega⟩ ⟨by omega, by omega⟩ (by omega) (by omega) dX8_placeBy_9 ?_
  refine zi_iconst hx hb dX8_placeBy_10 ?_
  refine zi_idiv hx hb ⟨by omega, by omega⟩ ⟨by omega, by omega⟩ (by omega) (by omega) dX8_placeBy_11 ?_
  refine zi_bipush hx hb dX8_placeBy_12 (by decide) ?_
  refine zi_isub hx hb dX8_placeBy_14 ?_
  refine lv_iload_n hx hb dX8_placeBy_15 rfl (lv_at hl 1 rfl) ?_
  refine zi_iconst hx hb dX8_placeBy_16 ?_
  refine zi_irem hx hb ⟨by omega, by omega⟩ ⟨by omega, by omega⟩ (by omega) (by omega) dX8_placeBy_17 ?_
  refine zi_iconst hx hb dX8_placeBy_18 ?_
  refine zi_isub hx hb dX8_placeBy_19 ?_
  refine lv_iload_n hx hb dX8_placeBy_20 rfl (lv_at hl 2 rfl) ?_
  have q_1 : 0 ≤ x0 % 405 ∧ x0 % 405 ≤ 404 := by omega
  refine zk_r (zc_S (As := [.int (zi (((x0 % 405) / 5) - 40)), .int (zi ((x0 % 5) - 2)), .int (zi x1)]) (rest := [.int (zi (x0 / 405))]) ⟨hx, hb, hml, hown, hts⟩ (ct_X8_moves l D cI cZ cJ (((x0 % 405) / 5) - 40) ((x0 % 5) - 2) x1 ⟨by omega, by omega⟩ ⟨by omega, by omega⟩ ⟨by omega, by omega⟩ (by omega) (by omega) (by omega) (by omega) (by omega) (by omega)) (va_cwS 3 hts gX8_placeBy_X8_moves rfl rfl rfl (by decide +kernel) ⟨Nat.le_of_ble_eq_true rfl, Nat.le_of_ble_eq_true rfl⟩) hK va_P_nil rfl hl.1 rfl (Nat.le_of_ble_eq_true rfl) dX8_placeBy_21 ⟨Nat.zero_le _, Nat.zero_le _⟩) ?_
  refine zi_top (fun (r_21 : Int) (er_21 : r_21 = mvM (((x0 % 405) / 5) - 40) ((x0 % 5) - 2) x1) => ?_)
  have fr_21 : (-1036962 : Int) ≤ r_21 ∧ r_21 ≤ 1036962 := by rw [er_21]; exact mvM_b (by omega) (by omega) (by omega) (by omega) (by omega) (by omega)
  refine zi_iadd hx hb dX8_placeBy_24 ?_
  refine zk_r (zc_S (As := [.int (zi ((x0 / 405) + r_21))]) (rest := []) ⟨hx, hb, hml, hown, hts⟩ (ct_X8_round l D cI cZ cJ ((x0 / 405) + r_21) ⟨by omega, by omega⟩) (va_cwS 1 hts gX8_placeBy_X8_round rfl rfl rfl (by decide +kernel) ⟨Nat.le_of_ble_eq_true rfl, Nat.le_of_ble_eq_true rfl⟩) hK va_P_nil rfl hl.1 rfl (Nat.le_of_ble_eq_true rfl) dX8_placeBy_25 ⟨Nat.zero_le _, Nat.zero_le _⟩) ?_
  refine zi_top (fun (r_25 : Int) (er_25 : r_25 = ((x0 / 405) + r_21) % 3600) => ?_)
  have fr_25 : (0 : Int) ≤ r_25 ∧ r_25 ≤ 3599 := by rw [er_25]; exact (by omega)
  exact zr_i hx hb hr hlocks dX8_placeBy_28 (by subst_vars; rfl)

theorem ci203_X8_keyAt : Cond.constant RX8 203 1457999 ∈ wsX8_keyAt := by decide +kernel
theorem in_X8_keyAt_8 : ∀ w ∈ wsX80, w ∈ wsX8_keyAt := by decide +kernel
theorem lk_X8_keyAt_145 : Cond.fieldLink RX8 145 "PlanetoidDeskModel" "found" "I" ∈ wsX8_keyAt := by decide +kernel
theorem lk_X8_keyAt_52 : Cond.fieldLink RX8 52 "PlanetoidDeskModel" "key" "[I" ∈ wsX8_keyAt := by decide +kernel
abbrev rmct_X8_keyAt : Room := { frames := 0, cells := 0, slots := 0, locals := 0 }
set_option maxHeartbeats 4000000 in
set_option maxRecDepth 100000 in
theorem ct_X8_keyAt (l : Launch) (D : va_G) (cI cZ cJ : ClassId) (bd : Nat → Nat) (S : ZS) (hI : MI S) (x0 : Int) (hx0 : ir x0)  : Met l yX8_keyAt wsX8_keyAt rmct_X8_keyAt (zP D cI cZ cJ (mW cI cZ bd S) [.ref (bd 0), .int (zi x0)]) (k2_QcV (.int (zi (kaR S x0 21 0 1457999)))) 0 0 (fun _ => False) := by
  refine Met.ofW (cc := cX8_keyAt) (maxL := 7) (ret := (some .int)) (by decide) rfl ?_
  intro p e s m args below meth c s₁ B hml hv
  obtain ⟨rfl, hP, hK⟩ := hv
  have hx := B.exec
  have hb := B.bytes
  have hr := B.returns
  have hts := atoms_spec (ws := wsX8_keyAt) B.pre
  have hown : s.vm.findClass RX8 = some m.cls := findClass_of_methodNamed B.named
  have hlocks := B.notSynchronized
  have hl := lv_entry ([.ref (bd 0), .int (zi x0)]) (n := 7) (Nat.le_of_ble_eq_true rfl)
  rw [lg_entry_eq]
  generalize (lg_sl ([.ref (bd 0), .int (zi x0)]) ++ List.replicate (7 - (lg_sl ([.ref (bd 0), .int (zi x0)])).length) Slot.unset).toArray = ls at hl ⊢
  have hl : lv_has ls 7 [(0, .ref (bd 0)), (1, .int (zi x0))] := hl
  show W p l e rmct_X8_keyAt s m ([.ref (bd 0), .int (zi x0)] : List Value).toArray below meth c s.heap [] 0 0 (MQ below (k2_QcV (.int (zi (kaR S x0 21 0 1457999)))) ([.ref (bd 0), .int (zi x0)] : List Value).toArray s 0 0 (fun _ => False)) (F0 m 0 ls [])
  have hf0 : (0 : Int) ≤ S 21 0 ∧ S 21 0 ≤ 7695 := hI 21 0
  refine zi_iconst hx hb dX8_keyAt_0 ?_
  refine lv_istore_n (lv' := [(2, .int (zi 0)), (0, .ref (bd 0)), (1, .int (zi x0))]) hx hb dX8_keyAt_1 rfl hl (by decide) rfl (fun ls hl => ?_)
  refine lv_ldc (v := zi 1457999) hx hb hown (hts _ ci203_X8_keyAt) dX8_keyAt_2 ?_
  have K_5 : ∀ (k : Nat) (n : Nat) (lo hi : Int), (0 ≤ lo ∧ lo ≤ hi ∧ hi ≤ 1457999) → (hi - lo < 2 ^ n) → (kaR S x0 n lo hi = kaR S x0 21 0 1457999) → ((n : Int) < (k : Int)) → ∀ (ls : Array Slot), lv_has ls 7 [(0, .ref (bd 0)), (1, .int (zi x0)), (2, .int (zi lo)), (3, .int (zi hi))] → W p l e rmct_X8_keyAt s m ([.ref (bd 0), .int (zi x0)] : List Value).toArray below meth c s.heap [] 0 0 (MQ below (k2_QcV (.int (zi (kaR S x0 21 0 1457999)))) ([.ref (bd 0), .int (zi x0)] : List Value).toArray s 0 0 (fun _ => False)) (F0 m 5 ls []) := by
    intro k
    induction k with
    | zero => intro n lo hi h_b h_p h_R hk; exact absurd hk (by omega)
    | succ k ih_5 =>
      intro n lo hi h_b h_p h_R hk ls hl
      refine lv_iload_n hx hb dX8_keyAt_5 rfl (lv_at hl 2 rfl) ?_
      refine lv_iload_n hx hb dX8_keyAt_6 rfl (lv_at hl 3 rfl) ?_
      refine zi_icmp_ge (tgt := 91) hx hb ⟨by omega, by omega⟩ ⟨by omega, by omega⟩ dX8_keyAt_7 (by decide) (fun c_7 => ?_) (fun c_7 => ?_)
      · refine lv_iload_n hx hb dX8_keyAt_91 rfl (lv_at hl 2 rfl) ?_
        exact zr_i hx hb hr hlocks dX8_keyAt_92 (by rw [← h_R]; exact (kaR_e (by omega)).symm)
      · obtain ⟨n, rfl⟩ : ∃ n9 : Nat, n = n9 + 1 := by cases n with | zero => (exact absurd h_p (by rw [Int.pow_zero]; omega)) | succ n => exact ⟨n, rfl⟩
        rw [Int.pow_succ] at h_p
        refine lv_iload_n hx hb dX8_keyAt_10 rfl (lv_at hl 2 rfl) ?_
        refine lv_iload_n hx hb dX8_keyAt_11 rfl (lv_at hl 3 rfl) ?_
        refine zi_iadd hx hb dX8_keyAt_12 ?_
        refine zi_iconst hx hb dX8_keyAt_13 ?_
        refine zi_idiv hx hb ⟨by omega, by omega⟩ ⟨by omega, by omega⟩ (by omega) (by omega) dX8_keyAt_14 ?_
        refine zi_top (fun x4_15 ex4_15 => ?_)
        refine lv_istore (lv' := [(4, .int (zi x4_15)), (0, .ref (bd 0)), (1, .int (zi x0)), (2, .int (zi lo)), (3, .int (zi hi))]) hx hb dX8_keyAt_15 hl (by decide) rfl (fun ls hl => ?_)
        refine zi_iconst hx hb dX8_keyAt_17 ?_
        refine lv_istore (lv' := [(5, .int (zi 0)), (4, .int (zi x4_15)), (0, .ref (bd 0)), (1, .int (zi x0)), (2, .int (zi lo)), (3, .int (zi hi))]) hx hb dX8_keyAt_18 hl (by decide) rfl (fun ls hl => ?_)
        refine zi_iconst hx hb dX8_keyAt_20 ?_
        have K_23 : ∀ (k : Nat) (m9 : Nat) (cn i : Int), (i + (m9 : Int) = S 21 0) → (0 ≤ i) → (0 ≤ cn ∧ cn ≤ i) → (itr (fun k acc => if S 22 k ≤ x4_15 then acc + 1 else acc) m9 i cn = cle S x4_15) → ((m9 : Int) < (k : Int)) → ∀ (ls : Array Slot), lv_has ls 7 [(0, .ref (bd 0)), (1, .int (zi x0)), (2, .int (zi lo)), (3, .int (zi hi)), (4, .int (zi x4_15)), (5, .int (zi cn)), (6, .int (zi i))] → W p l e rmct_X8_keyAt s m ([.ref (bd 0), .int (zi x0)] : List Value).toArray below meth c s.heap [] 0 0 (MQ below (k2_QcV (.int (zi (kaR S x0 21 0 1457999)))) ([.ref (bd 0), .int (zi x0)] : List Value).toArray s 0 0 (fun _ => False)) (F0 m 23 ls []) := by
          intro k
          induction k with
          | zero => intro m9 cn i g_n g_i g_c g_R hk; exact absurd hk (by omega)
          | succ k ih_23 =>
            intro m9 cn i g_n g_i g_c g_R hk ls hl
            refine lv_iload hx hb dX8_keyAt_23 (lv_at hl 6 rfl) ?_
            refine lv_aload_n hx hb dX8_keyAt_25 rfl (lv_at hl 0 rfl) ?_
            refine va_get (D := D) (ci := 8) (v := .int (zi (S 21 0))) (C := RX8) (T := TX8) (N := 32) hx hb hts in_X8_keyAt_8 hown hK.1 hP 0 rfl rfl 21 (by decide) (hts _ lk_X8_keyAt_145) (fun _ h9 => h9) rfl dX8_keyAt_26 ?_
            have f_26 : (0 : Int) ≤ S 21 0 ∧ S 21 0 ≤ 7695 := hI 21 0
            refine zi_icmp_ge (tgt := 60) hx hb ⟨by omega, by omega⟩ ⟨by omega, by omega⟩ dX8_keyAt_29 (by decide) (fun c_29 => ?_) (fun c_29 => ?_)
            · obtain rfl : m9 = 0 := by omega
              have h_c : cn = cle S x4_15 := g_R
              refine lv_iload hx hb dX8_keyAt_60 (lv_at hl 5 rfl) ?_
              refine lv_iload_n hx hb dX8_keyAt_62 rfl (lv_at hl 1 rfl) ?_
              refine zi_icmp_le (tgt := 70) hx hb ⟨by omega, by omega⟩ ⟨by omega, by omega⟩ dX8_keyAt_63 (by decide) (fun c_63 => ?_) (fun c_63 => ?_)
              · refine lv_iload hx hb dX8_keyAt_70 (lv_at hl 4 rfl) ?_
                refine zi_iconst hx hb dX8_keyAt_72 ?_
                refine zi_iadd hx hb dX8_keyAt_73 ?_
                refine zi_top (fun x2_74 ex2_74 => ?_)
                refine lv_istore_n (lv' := [(2, .int (zi x2_74)), (0, .ref (bd 0)), (1, .int (zi x0)), (3, .int (zi hi)), (4, .int (zi x4_15)), (5, .int (zi cn)), (6, .int (zi i))]) hx hb dX8_keyAt_74 rfl hl (by decide) rfl (fun ls hl => ?_)
                refine lv_iload hx hb dX8_keyAt_75 (lv_at hl 5 rfl) ?_
                refine lv_iload_n hx hb dX8_keyAt_77 rfl (lv_at hl 2 rfl) ?_
                refine zi_icmp_le (tgt := 86) hx hb ⟨by omega, by omega⟩ ⟨by omega, by omega⟩ dX8_keyAt_78 (by decide) (fun c_78 => ?_) (fun c_78 => ?_)
                · refine lv_iload_n hx hb dX8_keyAt_86 rfl (lv_at hl 3 rfl) ?_
                  refine lv_istore_n (lv' := [(3, .int (zi hi)), (2, .int (zi x2_74)), (0, .ref (bd 0)), (1, .int (zi x0)), (4, .int (zi x4_15)), (5, .int (zi cn)), (6, .int (zi i))]) hx hb dX8_keyAt_87 rfl hl (by decide) rfl (fun ls hl => ?_)
                  refine lv_goto (tgt := 5) hx hb dX8_keyAt_88 (by decide) ?_
                  exact ih_5 n x2_74 hi ⟨by omega, by omega, by omega⟩ (by omega) (by rw [← h_R]; refine Eq.trans ?_ (if_pos (Int.not_le.mp c_7)).symm; rw [← ex4_15, ← h_c, ex2_74]; exact (if_neg (Int.not_lt.mpr c_63)).symm) (by omega) _ (lv_sub hl [2, 3, 1, 0] rfl)
                · exact absurd c_78 (by omega)
              · refine lv_iload_n hx hb dX8_keyAt_66 rfl (lv_at hl 2 rfl) ?_
                refine lv_goto (tgt := 74) hx hb dX8_keyAt_67 (by decide) ?_
                refine lv_istore_n (lv' := [(2, .int (zi lo)), (0, .ref (bd 0)), (1, .int (zi x0)), (3, .int (zi hi)), (4, .int (zi x4_15)), (5, .int (zi cn)), (6, .int (zi i))]) hx hb dX8_keyAt_74 rfl hl (by decide) rfl (fun ls hl => ?_)
                refine lv_iload hx hb dX8_keyAt_75 (lv_at hl 5 rfl) ?_
                refine lv_iload_n hx hb dX8_keyAt_77 rfl (lv_at hl 2 rfl) ?_
                refine zi_icmp_le (tgt := 86) hx hb ⟨by omega, by omega⟩ ⟨by omega, by omega⟩ dX8_keyAt_78 (by decide) (fun c_78 => ?_) (fun c_78 => ?_)
                · exact absurd c_78 (by omega)
                · refine lv_iload hx hb dX8_keyAt_81 (lv_at hl 4 rfl) ?_
                  refine lv_goto (tgt := 87) hx hb dX8_keyAt_83 (by decide) ?_
                  refine lv_istore_n (lv' := [(3, .int (zi x4_15)), (2, .int (zi lo)), (0, .ref (bd 0)), (1, .int (zi x0)), (4, .int (zi x4_15)), (5, .int (zi cn)), (6, .int (zi i))]) hx hb dX8_keyAt_87 rfl hl (by decide) rfl (fun ls hl => ?_)
                  refine lv_goto (tgt := 5) hx hb dX8_keyAt_88 (by decide) ?_
                  exact ih_5 n lo x4_15 ⟨by omega, by omega, by omega⟩ (by omega) (by rw [← h_R]; refine Eq.trans ?_ (if_pos (Int.not_le.mp c_7)).symm; rw [← ex4_15, ← h_c]; exact (if_pos (Int.not_le.mp c_63)).symm) (by omega) _ (lv_sub hl [2, 3, 1, 0] rfl)
            · obtain ⟨m9, rfl⟩ : ∃ n9 : Nat, m9 = n9 + 1 := ⟨m9 - 1, by omega⟩
              refine lv_iload hx hb dX8_keyAt_32 (lv_at hl 5 rfl) ?_
              refine lv_aload_n hx hb dX8_keyAt_34 rfl (lv_at hl 0 rfl) ?_
              refine va_get (D := D) (ci := 8) (v := .ref (bd 23)) (C := RX8) (T := TX8) (N := 32) hx hb hts in_X8_keyAt_8 hown hK.1 hP 0 rfl rfl 22 (by decide) (hts _ lk_X8_keyAt_52) (fun _ h9 => h9) rfl dX8_keyAt_35 ?_
              refine lv_iload hx hb dX8_keyAt_38 (lv_at hl 6 rfl) ?_
              refine zi_iald hx hb hK.1 hP 15 0 rfl rfl (by omega) (by omega) (by decide) dX8_keyAt_40 ?_
              have f_40 : (0 : Int) ≤ S 22 i ∧ S 22 i ≤ 1457999 := hI 22 i
              refine lv_iload hx hb dX8_keyAt_41 (lv_at hl 4 rfl) ?_
              refine zi_icmp_gt (tgt := 50) hx hb ⟨by omega, by omega⟩ ⟨by omega, by omega⟩ dX8_keyAt_43 (by decide) (fun c_43 => ?_) (fun c_43 => ?_)
              · refine zi_iconst hx hb dX8_keyAt_50 ?_
                refine zi_iadd hx hb dX8_keyAt_51 ?_
                refine zi_top (fun x5_52 ex5_52 => ?_)
                refine lv_istore (lv' := [(5, .int (zi x5_52)), (0, .ref (bd 0)), (1, .int (zi x0)), (2, .int (zi lo)), (3, .int (zi hi)), (4, .int (zi x4_15)), (6, .int (zi i))]) hx hb dX8_keyAt_52 hl (by decide) rfl (fun ls hl => ?_)
                refine zi_iinc (k := 6) (lv' := [(6, .int (zi (i + 1))), (5, .int (zi x5_52)), (0, .ref (bd 0)), (1, .int (zi x0)), (2, .int (zi lo)), (3, .int (zi hi)), (4, .int (zi x4_15))]) hx hb dX8_keyAt_54 hl rfl (by decide) rfl (fun ls hl => ?_)
                refine lv_goto (tgt := 23) hx hb dX8_keyAt_57 (by decide) ?_
                exact ih_23 m9 x5_52 (i + 1) (by first | omega | assumption) (by first | omega | assumption) ⟨by omega, by omega⟩ (by rw [ex5_52, Int.add_zero]; exact itr_if_f (p := fun k => S 22 k ≤ x4_15) g_R (Int.not_le.mpr c_43)) (by omega) _ (lv_sub hl [2, 3, 4, 5, 6, 1, 0] rfl)
              · refine zi_iconst hx hb dX8_keyAt_46 ?_
                refine lv_goto (tgt := 51) hx hb dX8_keyAt_47 (by decide) ?_
                refine zi_iadd hx hb dX8_keyAt_51 ?_
                refine zi_top (fun x5_52 ex5_52 => ?_)
                refine lv_istore (lv' := [(5, .int (zi x5_52)), (0, .ref (bd 0)), (1, .int (zi x0)), (2, .int (zi lo)), (3, .int (zi hi)), (4, .int (zi x4_15)), (6, .int (zi i))]) hx hb dX8_keyAt_52 hl (by decide) rfl (fun ls hl => ?_)
                refine zi_iinc (k := 6) (lv' := [(6, .int (zi (i + 1))), (5, .int (zi x5_52)), (0, .ref (bd 0)), (1, .int (zi x0)), (2, .int (zi lo)), (3, .int (zi hi)), (4, .int (zi x4_15))]) hx hb dX8_keyAt_54 hl rfl (by decide) rfl (fun ls hl => ?_)
                refine lv_goto (tgt := 23) hx hb dX8_keyAt_57 (by decide) ?_
                exact ih_23 m9 x5_52 (i + 1) (by first | omega | assumption) (by first | omega | assumption) ⟨by omega, by omega⟩ (by rw [ex5_52]; exact itr_if_t (p := fun k => S 22 k ≤ x4_15) g_R (Int.not_lt.mp c_43)) (by omega) _ (lv_sub hl [2, 3, 4, 5, 6, 1, 0] rfl)
        refine lv_istore (lv' := [(6, .int (zi 0)), (5, .int (zi 0)), (4, .int (zi x4_15)), (0, .ref (bd 0)), (1, .int (zi x0)), (2, .int (zi lo)), (3, .int (zi hi))]) hx hb dX8_keyAt_21 hl (by decide) rfl (fun ls hl => ?_)
        exact K_23 ((S 21 0).toNat + 1) ((S 21 0).toNat) 0 0 (by first | omega | assumption) (by first | omega | assumption) ⟨by decide, by decide⟩ (by rw [cle]) (by omega) _ (lv_sub hl [3, 4, 5, 6, 2, 1, 0] rfl)
  refine lv_istore_n (lv' := [(3, .int (zi 1457999)), (2, .int (zi 0)), (0, .ref (bd 0)), (1, .int (zi x0))]) hx hb dX8_keyAt_4 rfl hl (by decide) rfl (fun ls hl => ?_)
  exact K_5 22 21 0 1457999 ⟨by decide, by decide, by decide⟩ (by decide) rfl (by omega) _ (lv_sub hl [2, 3, 1, 0] rfl)

theorem in_X8_spreads_8 : ∀ w ∈ wsX80, w ∈ wsX8_spreads := by decide +kernel
theorem lk_X8_spreads_55 : Cond.fieldLink RX8 55 "PlanetoidDeskModel" "often" "[I" ∈ wsX8_spreads := by decide +kernel
theorem lk_X8_spreads_52 : Cond.fieldLink RX8 52 "PlanetoidDeskModel" "key" "[I" ∈ wsX8_spreads := by decide +kernel
abbrev rmct_X8_spreads : Room := { frames := 5, cells := 0, slots := 0, locals := 115 }
set_option maxHeartbeats 4000000 in
set_option maxRecDepth 100000 in
theorem ct_X8_spreads (l : Launch) (D : va_G) (cI cZ cJ : ClassId) (bd : Nat → Nat) (S : ZS) (hI : MI S) (hdis : mDis bd) (x0 x1 : Int) (hx0 : ir x0) (hx1 : ir x1) (hp00 : 0 ≤ x0) (hp01 : x0 ≤ 19) (hp10 : 0 ≤ x1) (hp11 : x1 ≤ 999) (hac : accM S) : Met l yX8_spreads wsX8_spreads rmct_X8_spreads (zP D cI cZ cJ (mW cI cZ bd S) [.ref (bd 0), .int (zi x0), .int (zi x1)]) (zWv D (mW cI cZ bd) (mA bd) (fun T => T = spM x0 x1 S ∧ MI T)) 0 0 (mA bd) := by
  refine Met.ofW (cc := cX8_spreads) (maxL := 5) (ret := none) (by decide) rfl ?_
  intro p e s m args below meth c s₁ B hml hv
  obtain ⟨rfl, hP, hK⟩ := hv
  have hx := B.exec
  have hb := B.bytes
  have hr := B.returns
  have hts := atoms_spec (ws := wsX8_spreads) B.pre
  have hown : s.vm.findClass RX8 = some m.cls := findClass_of_methodNamed B.named
  have hlocks := B.notSynchronized
  have hl := lv_entry ([.ref (bd 0), .int (zi x0), .int (zi x1)]) (n := 5) (Nat.le_of_ble_eq_true rfl)
  rw [lg_entry_eq]
  generalize (lg_sl ([.ref (bd 0), .int (zi x0), .int (zi x1)]) ++ List.replicate (5 - (lg_sl ([.ref (bd 0), .int (zi x0), .int (zi x1)])).length) Slot.unset).toArray = ls at hl ⊢
  have hl : lv_has ls 5 [(0, .ref (bd 0)), (1, .int (zi x0)), (2, .int (zi x1))] := hl
  have hS : va_S (mA bd) s.heap s.heap [] := va_S.rf
  show W p l e rmct_X8_spreads s m ([.ref (bd 0), .int (zi x0), .int (zi x1)] : List Value).toArray below meth c s.heap [] 0 0 (MQ below (zWv D (mW cI cZ bd) (mA bd) (fun T => T = spM x0 x1 S ∧ MI T)) ([.ref (bd 0), .int (zi x0), .int (zi x1)] : List Value).toArray s 0 0 (mA bd)) (F0 m 0 ls [])
  refine zi_iconst hx hb dX8_spreads_0 ?_
  have K_2 : ∀ (k : Nat) (n : Nat) (i : Int) (T : ZS), (i + (n : Int) = 3600) → (0 ≤ i) → (itr zrF n i T = itr zrF 3600 0 S) → (SM S T) → (∀ q : Int, 0 ≤ q → q < i → T 23 q = 0) → ((n : Int) < (k : Int)) → MI T → ∀ (H : Heap) (locs : List Loc), va_P D vwCl (mW cI cZ bd T) H → va_S (mA bd) s.heap H locs → ∀ (ls : Array Slot), lv_has ls 5 [(0, .ref (bd 0)), (1, .int (zi x0)), (2, .int (zi x1)), (3, .int (zi i))] → W p l e rmct_X8_spreads s m ([.ref (bd 0), .int (zi x0), .int (zi x1)] : List Value).toArray below meth c H locs 0 0 (MQ below (zWv D (mW cI cZ bd) (mA bd) (fun T => T = spM x0 x1 S ∧ MI T)) ([.ref (bd 0), .int (zi x0), .int (zi x1)] : List Value).toArray s 0 0 (mA bd)) (F0 m 2 ls []) := by
    intro k
    induction k with
    | zero => intro n i T h_n h_i h_Z h_sm h_z hk hIT; exact absurd hk (by omega)
    | succ k ih_2 =>
      intro n i T h_n h_i h_Z h_sm h_z hk hIT H locs hP hS ls hl
      refine lv_iload_n hx hb dX8_spreads_2 rfl (lv_at hl 3 rfl) ?_
      refine zi_sipush hx hb dX8_spreads_3 (by decide) ?_
      refine zi_icmp_ge (tgt := 22) hx hb ⟨by omega, by omega⟩ ⟨by decide, by decide⟩ dX8_spreads_6 (by decide) (fun c_6 => ?_) (fun c_6 => ?_)
      · obtain rfl : n = 0 := by omega
        have h_Z2 : T = itr zrF 3600 0 S := h_Z
        refine lv_aload_n hx hb dX8_spreads_22 rfl (lv_at hl 0 rfl) ?_
        refine lv_iload_n hx hb dX8_spreads_23 rfl (lv_at hl 1 rfl) ?_
        refine zk_wi (zc_V (As := [.int (zi x0)]) (rest := []) ⟨hx, hb, hml, hown, hts⟩ (ct_X8_orbitsOf l D cI cZ cJ bd T hIT hdis x0 ⟨by omega, by omega⟩ (by omega) (by omega) (accM_sm h_sm hac)) (cwV 1 hts gX8_spreads_X8_orbitsOf rfl rfl rfl (by decide +kernel) ⟨Nat.le_of_ble_eq_true rfl, Nat.le_of_ble_eq_true rfl⟩) hK hP (q0 := 0) (ci := 8) rfl rfl rfl rfl hl.1 rfl (Nat.le_of_ble_eq_true rfl) dX8_spreads_24 ⟨Nat.zero_le _, Nat.zero_le _⟩) hS (fun r_24 S_24 H locs hp_24 hP hS => ?_)
        obtain ⟨er_24, e9, hI_24⟩ := hp_24
        have eS_24 := e9.symm; clear e9
        have fr_24 : (0 : Int) ≤ r_24 ∧ r_24 ≤ 7695 := by rw [er_24, eS_24]; exact hI_24 21 0
        refine lv_istore_n (lv' := [(3, .int (zi r_24)), (0, .ref (bd 0)), (1, .int (zi x0)), (2, .int (zi x1))]) hx hb dX8_spreads_27 rfl hl (by decide) rfl (fun ls hl => ?_)
        refine zi_iconst hx hb dX8_spreads_28 ?_
        have K_31 : ∀ (k : Nat) (n : Nat) (j : Int) (T2 : ZS), (j + (n : Int) = r_24) → (0 ≤ j) → (itr (spF x1) n j T2 = spM x0 x1 S) → (∀ q : Int, 0 ≤ q → q < 3600 → T2 23 q ≤ j) → ((n : Int) < (k : Int)) → MI T2 → ∀ (H : Heap) (locs : List Loc), va_P D vwCl (mW cI cZ bd T2) H → va_S (mA bd) s.heap H locs → ∀ (ls : Array Slot), lv_has ls 5 [(0, .ref (bd 0)), (1, .int (zi x0)), (2, .int (zi x1)), (3, .int (zi r_24)), (4, .int (zi j))] → W p l e rmct_X8_spreads s m ([.ref (bd 0), .int (zi x0), .int (zi x1)] : List Value).toArray below meth c H locs 0 0 (MQ below (zWv D (mW cI cZ bd) (mA bd) (fun T => T = spM x0 x1 S ∧ MI T)) ([.ref (bd 0), .int (zi x0), .int (zi x1)] : List Value).toArray s 0 0 (mA bd)) (F0 m 31 ls []) := by
          intro k
          induction k with
          | zero => intro n j T2 g_n g_i h_R g_b hk hIT2; exact absurd hk (by omega)
          | succ k ih_31 =>
            intro n j T2 g_n g_i h_R g_b hk hIT2 H locs hP hS ls hl
            refine lv_iload hx hb dX8_spreads_31 (lv_at hl 4 rfl) ?_
            refine lv_iload_n hx hb dX8_spreads_33 rfl (lv_at hl 3 rfl) ?_
            refine zi_icmp_ge (tgt := 64) hx hb ⟨by omega, by omega⟩ ⟨by omega, by omega⟩ dX8_spreads_34 (by decide) (fun c_34 => ?_) (fun c_34 => ?_)
            · obtain rfl : n = 0 := by omega
              exact zr_wv (T := T2) hx hb hr hlocks dX8_spreads_64 hP hS (by exact ⟨h_R, hIT2⟩)
            · obtain ⟨n, rfl⟩ : ∃ n9 : Nat, n = n9 + 1 := ⟨n - 1, by omega⟩
              refine lv_aload_n hx hb dX8_spreads_37 rfl (lv_at hl 0 rfl) ?_
              refine va_get (D := D) (ci := 8) (v := .ref (bd 24)) (C := RX8) (T := TX8) (N := 32) hx hb hts in_X8_spreads_8 hown hK.1 hP 0 rfl rfl 23 (by decide) (hts _ lk_X8_spreads_55) (fun _ h9 => h9) rfl dX8_spreads_38 ?_
              refine lv_aload_n hx hb dX8_spreads_41 rfl (lv_at hl 0 rfl) ?_
              refine lv_aload_n hx hb dX8_spreads_42 rfl (lv_at hl 0 rfl) ?_
              refine va_get (D := D) (ci := 8) (v := .ref (bd 23)) (C := RX8) (T := TX8) (N := 32) hx hb hts in_X8_spreads_8 hown hK.1 hP 0 rfl rfl 22 (by decide) (hts _ lk_X8_spreads_52) (fun _ h9 => h9) rfl dX8_spreads_43 ?_
              refine lv_iload hx hb dX8_spreads_46 (lv_at hl 4 rfl) ?_
              refine zi_iald hx hb hK.1 hP 15 0 rfl rfl (by omega) (by omega) (by decide) dX8_spreads_48 ?_
              have f_48 : (0 : Int) ≤ T2 22 j ∧ T2 22 j ≤ 1457999 := hIT2 22 j
              refine lv_iload_n hx hb dX8_spreads_49 rfl (lv_at hl 2 rfl) ?_
              refine zk_r (zc_V (As := [.int (zi (T2 22 j)), .int (zi x1)]) (rest := [.ref (bd 24)]) ⟨hx, hb, hml, hown, hts⟩ (ct_X8_placeBy l D cI cZ cJ bd T2 hIT2 (T2 22 j) x1 ⟨by omega, by omega⟩ ⟨by omega, by omega⟩ (by omega) (by omega) (by omega) (by omega)) (cwV 2 hts gX8_spreads_X8_placeBy rfl rfl rfl (by decide +kernel) ⟨Nat.le_of_ble_eq_true rfl, Nat.le_of_ble_eq_true rfl⟩) hK hP (q0 := 0) (ci := 8) rfl rfl rfl rfl hl.1 rfl (Nat.le_of_ble_eq_true rfl) dX8_spreads_50 ⟨Nat.zero_le _, Nat.zero_le _⟩) ?_
              refine zi_top (fun (r_50 : Int) (er_50 : r_50 = plM (T2 22 j) x1) => ?_)
              have fr_50 : (0 : Int) ≤ r_50 ∧ r_50 ≤ 3599 := by rw [er_50]; exact (by unfold plM; omega)
              refine lv_dup2_11 hx hb dX8_spreads_53 rfl rfl ?_
              have q_54 := g_b r_50 (by omega) (by omega)
              refine zi_iald hx hb hK.1 hP 16 0 rfl rfl (by omega) (by omega) (by decide) dX8_spreads_54 ?_
              have f_54 : (0 : Int) ≤ T2 23 r_50 ∧ T2 23 r_50 ≤ 7695 := hIT2 23 r_50
              refine zi_iconst hx hb dX8_spreads_55 ?_
              refine zi_iadd hx hb dX8_spreads_56 ?_
              refine zi_iast hx hb hK.1 hP (mW_D hdis _) hS 16 0 rfl rfl (by omega) (by omega) (by decide) dX8_spreads_57 (fun H locs hP hS => ?_)
              have hP : va_P D vwCl (mW cI cZ bd (su T2 23 (up (T2 23) r_50 ((T2 23 r_50) + 1)))) H := hP
              have hI_57 : MI (su T2 23 (up (T2 23) r_50 ((T2 23 r_50) + 1))) := MI.up hIT2 23 r_50 ((T2 23 r_50) + 1) (show (0 : Int) ≤ ((T2 23 r_50) + 1) ∧ ((T2 23 r_50) + 1) ≤ 7695 from ⟨by omega, by omega⟩)
              generalize eS_57 : su T2 23 (up (T2 23) r_50 ((T2 23 r_50) + 1)) = S_57 at hP hI_57
              refine zi_iinc (k := 4) (lv' := [(4, .int (zi (j + 1))), (0, .ref (bd 0)), (1, .int (zi x0)), (2, .int (zi x1)), (3, .int (zi r_24))]) hx hb dX8_spreads_58 hl rfl (by decide) rfl (fun ls hl => ?_)
              refine lv_goto (tgt := 31) hx hb dX8_spreads_61 (by decide) ?_
              exact ih_31 n (j + 1) S_57 (by first | omega | assumption) (by first | omega | assumption) (by rw [← h_R, itr_s, ← eS_57, er_50]; rfl) (fun q h0 h1 => by rw [← eS_57, su_s]; have h9 := g_b q h0 h1; by_cases hq : q = r_50; (subst hq; rw [up_s]; omega); (rw [up_n _ _ hq]; omega)) (by omega) hI_57 _ _ hP hS _ (lv_sub hl [1, 2, 3, 4, 0] rfl)
        refine lv_istore (lv' := [(4, .int (zi 0)), (3, .int (zi r_24)), (0, .ref (bd 0)), (1, .int (zi x0)), (2, .int (zi x1))]) hx hb dX8_spreads_29 hl (by decide) rfl (fun ls hl => ?_)
        exact K_31 (r_24.toNat + 1) r_24.toNat 0 S_24 (by first | omega | assumption) (by first | omega | assumption) (by rw [spM, er_24, spB, ← h_Z2, eS_24]) (fun q h0 h1 => by rw [← eS_24, findM_n (by decide) (by decide), laysM_n (by decide) (by decide), h_z q h0 (by omega)]; exact Int.le_refl 0) (by omega) hI_24 _ _ hP hS _ (lv_sub hl [2, 3, 4, 1, 0] rfl)
      · obtain ⟨n, rfl⟩ : ∃ n9 : Nat, n = n9 + 1 := ⟨n - 1, by omega⟩
        refine lv_aload_n hx hb dX8_spreads_9 rfl (lv_at hl 0 rfl) ?_
        refine va_get (D := D) (ci := 8) (v := .ref (bd 24)) (C := RX8) (T := TX8) (N := 32) hx hb hts in_X8_spreads_8 hown hK.1 hP 0 rfl rfl 23 (by decide) (hts _ lk_X8_spreads_55) (fun _ h9 => h9) rfl dX8_spreads_10 ?_
        refine lv_iload_n hx hb dX8_spreads_13 rfl (lv_at hl 3 rfl) ?_
        refine zi_iconst hx hb dX8_spreads_14 ?_
        refine zi_iast hx hb hK.1 hP (mW_D hdis _) hS 16 0 rfl rfl (by omega) (by omega) (by decide) dX8_spreads_15 (fun H locs hP hS => ?_)
        have hP : va_P D vwCl (mW cI cZ bd (su T 23 (up (T 23) i 0))) H := hP
        have hI_15 : MI (su T 23 (up (T 23) i 0)) := MI.up hIT 23 i 0 (show (0 : Int) ≤ 0 ∧ 0 ≤ 7695 from ⟨by omega, by omega⟩)
        generalize eS_15 : su T 23 (up (T 23) i 0) = S_15 at hP hI_15
        refine zi_iinc (k := 3) (lv' := [(3, .int (zi (i + 1))), (0, .ref (bd 0)), (1, .int (zi x0)), (2, .int (zi x1))]) hx hb dX8_spreads_16 hl rfl (by decide) rfl (fun ls hl => ?_)
        refine lv_goto (tgt := 2) hx hb dX8_spreads_19 (by decide) ?_
        exact ih_2 n (i + 1) S_15 (by first | omega | assumption) (by first | omega | assumption) (by rw [← h_Z, itr_s, ← eS_15]; rfl) (by rw [← eS_15]; exact h_sm.tr (SM_su rfl)) (fun q h0 h1 => by rw [← eS_15, su_s]; by_cases hq : q = i; (subst hq; exact up_s _ _ _); (rw [up_n _ _ hq]; exact h_z q h0 (by omega))) (by omega) hI_15 _ _ hP hS _ (lv_sub hl [1, 2, 3, 0] rfl)
  refine lv_istore_n (lv' := [(3, .int (zi 0)), (0, .ref (bd 0)), (1, .int (zi x0)), (2, .int (zi x1))]) hx hb dX8_spreads_1 rfl hl (by decide) rfl (fun ls hl => ?_)
  exact K_2 3601 3600 0 S (by first | omega | assumption) (by first | omega | assumption) rfl SM.rf (fun q h0 h1 => absurd h1 (by omega)) (by omega) hI _ _ hP hS _ (lv_sub hl [1, 2, 3, 0] rfl)

theorem in_X8_spreadOf_8 : ∀ w ∈ wsX80, w ∈ wsX8_spreadOf := by decide +kernel
theorem lk_X8_spreadOf_55 : Cond.fieldLink RX8 55 "PlanetoidDeskModel" "often" "[I" ∈ wsX8_spreadOf := by decide +kernel
abbrev rmct_X8_spreadOf : Room := { frames := 6, cells := 0, slots := 0, locals := 139 }
set_option maxHeartbeats 4000000 in
set_option maxRecDepth 100000 in
theorem ct_X8_spreadOf (l : Launch) (D : va_G) (cI cZ cJ : ClassId) (bd : Nat → Nat) (S : ZS) (hI : MI S) (hdis : mDis bd) (x0 x1 : Int) (hx0 : ir x0) (hx1 : ir x1) (hp00 : 0 ≤ x0) (hp01 : x0 ≤ 19) (hp10 : 0 ≤ x1) (hp11 : x1 ≤ 999) (hac : accM S) : Met l yX8_spreadOf wsX8_spreadOf rmct_X8_spreadOf (zP D cI cZ cJ (mW cI cZ bd S) [.ref (bd 0), .int (zi x0), .int (zi x1)]) (zWi D (mW cI cZ bd) (mA bd) (fun r T => r = sprM (spM x0 x1 S) ∧ T = spM x0 x1 S ∧ MI T)) 0 0 (mA bd) := by
  refine Met.ofW (cc := cX8_spreadOf) (maxL := 5) (ret := (some .int)) (by decide) rfl ?_
  intro p e s m args below meth c s₁ B hml hv
  obtain ⟨rfl, hP, hK⟩ := hv
  have hx := B.exec
  have hb := B.bytes
  have hr := B.returns
  have hts := atoms_spec (ws := wsX8_spreadOf) B.pre
  have hown : s.vm.findClass RX8 = some m.cls := findClass_of_methodNamed B.named
  have hlocks := B.notSynchronized
  have hl := lv_entry ([.ref (bd 0), .int (zi x0), .int (zi x1)]) (n := 5) (Nat.le_of_ble_eq_true rfl)
  rw [lg_entry_eq]
  generalize (lg_sl ([.ref (bd 0), .int (zi x0), .int (zi x1)]) ++ List.replicate (5 - (lg_sl ([.ref (bd 0), .int (zi x0), .int (zi x1)])).length) Slot.unset).toArray = ls at hl ⊢
  have hl : lv_has ls 5 [(0, .ref (bd 0)), (1, .int (zi x0)), (2, .int (zi x1))] := hl
  have hS : va_S (mA bd) s.heap s.heap [] := va_S.rf
  show W p l e rmct_X8_spreadOf s m ([.ref (bd 0), .int (zi x0), .int (zi x1)] : List Value).toArray below meth c s.heap [] 0 0 (MQ below (zWi D (mW cI cZ bd) (mA bd) (fun r T => r = sprM (spM x0 x1 S) ∧ T = spM x0 x1 S ∧ MI T)) ([.ref (bd 0), .int (zi x0), .int (zi x1)] : List Value).toArray s 0 0 (mA bd)) (F0 m 0 ls [])
  refine lv_aload_n hx hb dX8_spreadOf_0 rfl (lv_at hl 0 rfl) ?_
  refine lv_iload_n hx hb dX8_spreadOf_1 rfl (lv_at hl 1 rfl) ?_
  refine lv_iload_n hx hb dX8_spreadOf_2 rfl (lv_at hl 2 rfl) ?_
  refine zk_wv (zc_V (As := [.int (zi x0), .int (zi x1)]) (rest := []) ⟨hx, hb, hml, hown, hts⟩ (ct_X8_spreads l D cI cZ cJ bd S hI hdis x0 x1 ⟨by omega, by omega⟩ ⟨by omega, by omega⟩ (by omega) (by omega) (by omega) (by omega) hac) (cwV 2 hts gX8_spreadOf_X8_spreads rfl rfl rfl (by decide +kernel) ⟨Nat.le_of_ble_eq_true rfl, Nat.le_of_ble_eq_true rfl⟩) hK hP (q0 := 0) (ci := 8) rfl rfl rfl rfl hl.1 rfl (Nat.le_of_ble_eq_true rfl) dX8_spreadOf_3 ⟨Nat.zero_le _, Nat.zero_le _⟩) hS (fun S_3 H locs hp_3 hP hS => ?_)
  obtain ⟨e9, hI_3⟩ := hp_3
  have eS_3 := e9.symm; clear e9
  refine zi_iconst hx hb dX8_spreadOf_6 ?_
  refine lv_istore_n (lv' := [(3, .int (zi 0)), (0, .ref (bd 0)), (1, .int (zi x0)), (2, .int (zi x1))]) hx hb dX8_spreadOf_7 rfl hl (by decide) rfl (fun ls hl => ?_)
  refine zi_iconst hx hb dX8_spreadOf_8 ?_
  have K_11 : ∀ (k : Nat) (n : Nat) (acc i : Int), (i + (n : Int) = 3600) → (0 ≤ i) → (itr (fun p acc => if 0 < S_3 23 p then acc + 1 else acc) n i acc = sprM S_3) → ((n : Int) < (k : Int)) → ∀ (ls : Array Slot), lv_has ls 5 [(0, .ref (bd 0)), (1, .int (zi x0)), (2, .int (zi x1)), (3, .int (zi acc)), (4, .int (zi i))] → W p l e rmct_X8_spreadOf s m ([.ref (bd 0), .int (zi x0), .int (zi x1)] : List Value).toArray below meth c H locs 0 0 (MQ below (zWi D (mW cI cZ bd) (mA bd) (fun r T => r = sprM (spM x0 x1 S) ∧ T = spM x0 x1 S ∧ MI T)) ([.ref (bd 0), .int (zi x0), .int (zi x1)] : List Value).toArray s 0 0 (mA bd)) (F0 m 11 ls []) := by
    intro k
    induction k with
    | zero => intro n acc i h_n h_i h_R hk; exact absurd hk (by omega)
    | succ k ih_11 =>
      intro n acc i h_n h_i h_R hk ls hl
      refine lv_iload hx hb dX8_spreadOf_11 (lv_at hl 4 rfl) ?_
      refine zi_sipush hx hb dX8_spreadOf_13 (by decide) ?_
      refine zi_icmp_ge (tgt := 43) hx hb ⟨by omega, by omega⟩ ⟨by decide, by decide⟩ dX8_spreadOf_16 (by decide) (fun c_16 => ?_) (fun c_16 => ?_)
      · obtain rfl : n = 0 := by omega
        refine lv_iload_n hx hb dX8_spreadOf_43 rfl (lv_at hl 3 rfl) ?_
        exact zr_wi (T := S_3) hx hb hr hlocks dX8_spreadOf_44 hP hS (by exact ⟨by rw [eS_3, ← h_R]; rfl, eS_3.symm, hI_3⟩)
      · obtain ⟨n, rfl⟩ : ∃ n9 : Nat, n = n9 + 1 := ⟨n - 1, by omega⟩
        refine lv_iload_n hx hb dX8_spreadOf_19 rfl (lv_at hl 3 rfl) ?_
        refine lv_aload_n hx hb dX8_spreadOf_20 rfl (lv_at hl 0 rfl) ?_
        refine va_get (D := D) (ci := 8) (v := .ref (bd 24)) (C := RX8) (T := TX8) (N := 32) hx hb hts in_X8_spreadOf_8 hown hK.1 hP 0 rfl rfl 23 (by decide) (hts _ lk_X8_spreadOf_55) (fun _ h9 => h9) rfl dX8_spreadOf_21 ?_
        refine lv_iload hx hb dX8_spreadOf_24 (lv_at hl 4 rfl) ?_
        refine zi_iald hx hb hK.1 hP 16 0 rfl rfl (by omega) (by omega) (by decide) dX8_spreadOf_26 ?_
        have f_26 : (0 : Int) ≤ S_3 23 i ∧ S_3 23 i ≤ 7695 := hI_3 23 i
        refine zi_if_le (tgt := 34) hx hb ⟨by omega, by omega⟩ dX8_spreadOf_27 (by decide) (fun c_27 => ?_) (fun c_27 => ?_)
        · refine zi_iconst hx hb dX8_spreadOf_34 ?_
          refine zi_iadd hx hb dX8_spreadOf_35 ?_
          refine zi_top (fun x3_36 ex3_36 => ?_)
          refine lv_istore_n (lv' := [(3, .int (zi x3_36)), (0, .ref (bd 0)), (1, .int (zi x0)), (2, .int (zi x1)), (4, .int (zi i))]) hx hb dX8_spreadOf_36 rfl hl (by decide) rfl (fun ls hl => ?_)
          refine zi_iinc (k := 4) (lv' := [(4, .int (zi (i + 1))), (3, .int (zi x3_36)), (0, .ref (bd 0)), (1, .int (zi x0)), (2, .int (zi x1))]) hx hb dX8_spreadOf_37 hl rfl (by decide) rfl (fun ls hl => ?_)
          refine lv_goto (tgt := 11) hx hb dX8_spreadOf_40 (by decide) ?_
          exact ih_11 n x3_36 (i + 1) (by first | omega | assumption) (by first | omega | assumption) (by rw [ex3_36, Int.add_zero]; exact itr_if_f (p := fun p => 0 < S_3 23 p) h_R (Int.not_lt.mpr c_27)) (by omega) _ (lv_sub hl [2, 3, 4, 1, 0] rfl)
        · refine zi_iconst hx hb dX8_spreadOf_30 ?_
          refine lv_goto (tgt := 35) hx hb dX8_spreadOf_31 (by decide) ?_
          refine zi_iadd hx hb dX8_spreadOf_35 ?_
          refine zi_top (fun x3_36 ex3_36 => ?_)
          refine lv_istore_n (lv' := [(3, .int (zi x3_36)), (0, .ref (bd 0)), (1, .int (zi x0)), (2, .int (zi x1)), (4, .int (zi i))]) hx hb dX8_spreadOf_36 rfl hl (by decide) rfl (fun ls hl => ?_)
          refine zi_iinc (k := 4) (lv' := [(4, .int (zi (i + 1))), (3, .int (zi x3_36)), (0, .ref (bd 0)), (1, .int (zi x0)), (2, .int (zi x1))]) hx hb dX8_spreadOf_37 hl rfl (by decide) rfl (fun ls hl => ?_)
          refine lv_goto (tgt := 11) hx hb dX8_spreadOf_40 (by decide) ?_
          exact ih_11 n x3_36 (i + 1) (by first | omega | assumption) (by first | omega | assumption) (by rw [ex3_36]; exact itr_if_t (p := fun p => 0 < S_3 23 p) h_R (Int.not_le.mp c_27)) (by omega) _ (lv_sub hl [2, 3, 4, 1, 0] rfl)
  refine lv_istore (lv' := [(4, .int (zi 0)), (3, .int (zi 0)), (0, .ref (bd 0)), (1, .int (zi x0)), (2, .int (zi x1))]) hx hb dX8_spreadOf_9 hl (by decide) rfl (fun ls hl => ?_)
  exact K_11 3601 3600 0 0 (by first | omega | assumption) (by first | omega | assumption) (by rw [sprM]) (by omega) _ (lv_sub hl [2, 3, 4, 1, 0] rfl)

theorem in_X8_placeAt_8 : ∀ w ∈ wsX80, w ∈ wsX8_placeAt := by decide +kernel
theorem lk_X8_placeAt_55 : Cond.fieldLink RX8 55 "PlanetoidDeskModel" "often" "[I" ∈ wsX8_placeAt := by decide +kernel
abbrev rmct_X8_placeAt : Room := { frames := 6, cells := 0, slots := 0, locals := 139 }
set_option maxHeartbeats 4000000 in
set_option maxRecDepth 100000 in
theorem ct_X8_placeAt (l : Launch) (D : va_G) (cI cZ cJ : ClassId) (bd : Nat → Nat) (S : ZS) (hI : MI S) (hdis : mDis bd) (x0 x1 x2 : Int) (hx0 : ir x0) (hx1 : ir x1) (hx2 : ir x2) (hp00 : 0 ≤ x0) (hp01 : x0 ≤ 19) (hp10 : 0 ≤ x1) (hp11 : x1 ≤ 999) (hp20 : 0 ≤ x2) (hp21 : x2 ≤ 2147483647) (hac : accM S) : Met l yX8_placeAt wsX8_placeAt rmct_X8_placeAt (zP D cI cZ cJ (mW cI cZ bd S) [.ref (bd 0), .int (zi x0), .int (zi x1), .int (zi x2)]) (zWi D (mW cI cZ bd) (mA bd) (fun r T => r = plcM (spM x0 x1 S) x2 ∧ T = spM x0 x1 S ∧ MI T)) 0 0 (mA bd) := by
  refine Met.ofW (cc := cX8_placeAt) (maxL := 6) (ret := (some .int)) (by decide) rfl ?_
  intro p e s m args below meth c s₁ B hml hv
  obtain ⟨rfl, hP, hK⟩ := hv
  have hx := B.exec
  have hb := B.bytes
  have hr := B.returns
  have hts := atoms_spec (ws := wsX8_placeAt) B.pre
  have hown : s.vm.findClass RX8 = some m.cls := findClass_of_methodNamed B.named
  have hlocks := B.notSynchronized
  have hl := lv_entry ([.ref (bd 0), .int (zi x0), .int (zi x1), .int (zi x2)]) (n := 6) (Nat.le_of_ble_eq_true rfl)
  rw [lg_entry_eq]
  generalize (lg_sl ([.ref (bd 0), .int (zi x0), .int (zi x1), .int (zi x2)]) ++ List.replicate (6 - (lg_sl ([.ref (bd 0), .int (zi x0), .int (zi x1), .int (zi x2)])).length) Slot.unset).toArray = ls at hl ⊢
  have hl : lv_has ls 6 [(0, .ref (bd 0)), (1, .int (zi x0)), (2, .int (zi x1)), (3, .int (zi x2))] := hl
  have hS : va_S (mA bd) s.heap s.heap [] := va_S.rf
  show W p l e rmct_X8_placeAt s m ([.ref (bd 0), .int (zi x0), .int (zi x1), .int (zi x2)] : List Value).toArray below meth c s.heap [] 0 0 (MQ below (zWi D (mW cI cZ bd) (mA bd) (fun r T => r = plcM (spM x0 x1 S) x2 ∧ T = spM x0 x1 S ∧ MI T)) ([.ref (bd 0), .int (zi x0), .int (zi x1), .int (zi x2)] : List Value).toArray s 0 0 (mA bd)) (F0 m 0 ls [])
  refine lv_aload_n hx hb dX8_placeAt_0 rfl (lv_at hl 0 rfl) ?_
  refine lv_iload_n hx hb dX8_placeAt_1 rfl (lv_at hl 1 rfl) ?_
  refine lv_iload_n hx hb dX8_placeAt_2 rfl (lv_at hl 2 rfl) ?_
  refine zk_wv (zc_V (As := [.int (zi x0), .int (zi x1)]) (rest := []) ⟨hx, hb, hml, hown, hts⟩ (ct_X8_spreads l D cI cZ cJ bd S hI hdis x0 x1 ⟨by omega, by omega⟩ ⟨by omega, by omega⟩ (by omega) (by omega) (by omega) (by omega) hac) (cwV 2 hts gX8_placeAt_X8_spreads rfl rfl rfl (by decide +kernel) ⟨Nat.le_of_ble_eq_true rfl, Nat.le_of_ble_eq_true rfl⟩) hK hP (q0 := 0) (ci := 8) rfl rfl rfl rfl hl.1 rfl (Nat.le_of_ble_eq_true rfl) dX8_placeAt_3 ⟨Nat.zero_le _, Nat.zero_le _⟩) hS (fun S_3 H locs hp_3 hP hS => ?_)
  obtain ⟨e9, hI_3⟩ := hp_3
  have eS_3 := e9.symm; clear e9
  refine lv_iload_n hx hb dX8_placeAt_6 rfl (lv_at hl 3 rfl) ?_
  refine lv_istore (lv' := [(4, .int (zi x2)), (0, .ref (bd 0)), (1, .int (zi x0)), (2, .int (zi x1)), (3, .int (zi x2))]) hx hb dX8_placeAt_7 hl (by decide) rfl (fun ls hl => ?_)
  refine zi_iconst hx hb dX8_placeAt_9 ?_
  have K_12 : ∀ (k : Nat) (n : Nat) (re i : Int), (i + (n : Int) = 3600) → (0 ≤ i) → (0 ≤ re ∧ re ≤ 2147483647) → (nthC (fun p => 0 < S_3 23 p) (-1) n i re = plcM S_3 x2) → ((n : Int) < (k : Int)) → ∀ (ls : Array Slot), lv_has ls 6 [(0, .ref (bd 0)), (1, .int (zi x0)), (2, .int (zi x1)), (3, .int (zi x2)), (4, .int (zi re)), (5, .int (zi i))] → W p l e rmct_X8_placeAt s m ([.ref (bd 0), .int (zi x0), .int (zi x1), .int (zi x2)] : List Value).toArray below meth c H locs 0 0 (MQ below (zWi D (mW cI cZ bd) (mA bd) (fun r T => r = plcM (spM x0 x1 S) x2 ∧ T = spM x0 x1 S ∧ MI T)) ([.ref (bd 0), .int (zi x0), .int (zi x1), .int (zi x2)] : List Value).toArray s 0 0 (mA bd)) (F0 m 12 ls []) := by
    intro k
    induction k with
    | zero => intro n re i h_n h_i h_r h_R hk; exact absurd hk (by omega)
    | succ k ih_12 =>
      intro n re i h_n h_i h_r h_R hk ls hl
      refine lv_iload hx hb dX8_placeAt_12 (lv_at hl 5 rfl) ?_
      refine zi_sipush hx hb dX8_placeAt_14 (by decide) ?_
      refine zi_icmp_ge (tgt := 47) hx hb ⟨by omega, by omega⟩ ⟨by decide, by decide⟩ dX8_placeAt_17 (by decide) (fun c_17 => ?_) (fun c_17 => ?_)
      · obtain rfl : n = 0 := by omega
        refine zi_iconst hx hb dX8_placeAt_47 ?_
        exact zr_wi (T := S_3) hx hb hr hlocks dX8_placeAt_48 hP hS (by exact ⟨by rw [eS_3, ← h_R]; rfl, eS_3.symm, hI_3⟩)
      · obtain ⟨n, rfl⟩ : ∃ n9 : Nat, n = n9 + 1 := ⟨n - 1, by omega⟩
        refine lv_aload_n hx hb dX8_placeAt_20 rfl (lv_at hl 0 rfl) ?_
        refine va_get (D := D) (ci := 8) (v := .ref (bd 24)) (C := RX8) (T := TX8) (N := 32) hx hb hts in_X8_placeAt_8 hown hK.1 hP 0 rfl rfl 23 (by decide) (hts _ lk_X8_placeAt_55) (fun _ h9 => h9) rfl dX8_placeAt_21 ?_
        refine lv_iload hx hb dX8_placeAt_24 (lv_at hl 5 rfl) ?_
        refine zi_iald hx hb hK.1 hP 16 0 rfl rfl (by omega) (by omega) (by decide) dX8_placeAt_26 ?_
        have f_26 : (0 : Int) ≤ S_3 23 i ∧ S_3 23 i ≤ 7695 := hI_3 23 i
        refine zi_if_le (tgt := 41) hx hb ⟨by omega, by omega⟩ dX8_placeAt_27 (by decide) (fun c_27 => ?_) (fun c_27 => ?_)
        · refine zi_iinc (k := 5) (lv' := [(5, .int (zi (i + 1))), (0, .ref (bd 0)), (1, .int (zi x0)), (2, .int (zi x1)), (3, .int (zi x2)), (4, .int (zi re))]) hx hb dX8_placeAt_41 hl rfl (by decide) rfl (fun ls hl => ?_)
          refine lv_goto (tgt := 12) hx hb dX8_placeAt_44 (by decide) ?_
          exact ih_12 n re (i + 1) (by first | omega | assumption) (by first | omega | assumption) ⟨by omega, by omega⟩ (by rw [← h_R]; exact (if_neg (show ¬ 0 < S_3 23 i from Int.not_lt.mpr c_27)).symm) (by omega) _ (lv_sub hl [1, 2, 3, 4, 5, 0] rfl)
        · refine lv_iload hx hb dX8_placeAt_30 (lv_at hl 4 rfl) ?_
          refine zi_if_ne (tgt := 38) hx hb ⟨by omega, by omega⟩ dX8_placeAt_32 (by decide) (fun c_32 => ?_) (fun c_32 => ?_)
          · refine zi_iinc (k := 4) (lv' := [(4, .int (zi (re + (-1)))), (0, .ref (bd 0)), (1, .int (zi x0)), (2, .int (zi x1)), (3, .int (zi x2)), (5, .int (zi i))]) hx hb dX8_placeAt_38 hl rfl (by decide) rfl (fun ls hl => ?_)
            refine zi_iinc (k := 5) (lv' := [(5, .int (zi (i + 1))), (4, .int (zi (re + (-1)))), (0, .ref (bd 0)), (1, .int (zi x0)), (2, .int (zi x1)), (3, .int (zi x2))]) hx hb dX8_placeAt_41 hl rfl (by decide) rfl (fun ls hl => ?_)
            refine lv_goto (tgt := 12) hx hb dX8_placeAt_44 (by decide) ?_
            exact ih_12 n (re + (-1)) (i + 1) (by first | omega | assumption) (by first | omega | assumption) ⟨by omega, by omega⟩ (by rw [← h_R]; exact ((if_pos (show 0 < S_3 23 i from Int.not_le.mp c_27)).trans (if_neg c_32)).symm) (by omega) _ (lv_sub hl [2, 3, 4, 5, 1, 0] rfl)
          · refine lv_iload hx hb dX8_placeAt_35 (lv_at hl 5 rfl) ?_
            exact zr_wi (T := S_3) hx hb hr hlocks dX8_placeAt_37 hP hS (by exact ⟨by rw [eS_3, ← h_R]; exact ((if_pos (show 0 < S_3 23 i from Int.not_le.mp c_27)).trans (if_pos c_32)).symm, eS_3.symm, hI_3⟩)
  refine lv_istore (lv' := [(5, .int (zi 0)), (4, .int (zi x2)), (0, .ref (bd 0)), (1, .int (zi x0)), (2, .int (zi x1)), (3, .int (zi x2))]) hx hb dX8_placeAt_10 hl (by decide) rfl (fun ls hl => ?_)
  exact K_12 3601 3600 x2 0 (by first | omega | assumption) (by first | omega | assumption) ⟨by omega, by omega⟩ (by rw [plcM]) (by omega) _ (lv_sub hl [2, 3, 4, 5, 1, 0] rfl)

theorem in_X8_candidatesOf_8 : ∀ w ∈ wsX80, w ∈ wsX8_candidatesOf := by decide +kernel
theorem lk_X8_candidatesOf_92 : Cond.fieldLink RX8 92 "PlanetoidDeskModel" "dots" "I" ∈ wsX8_candidatesOf := by decide +kernel
abbrev rmct_X8_candidatesOf : Room := { frames := 6, cells := 0, slots := 0, locals := 136 }
set_option maxHeartbeats 4000000 in
set_option maxRecDepth 100000 in
theorem ct_X8_candidatesOf (l : Launch) (D : va_G) (cI cZ cJ : ClassId) (bd : Nat → Nat) (S : ZS) (hI : MI S) (hdis : mDis bd) (x0 : Int) (hx0 : ir x0) (hp00 : 0 ≤ x0) (hp01 : x0 ≤ 19) (hac : accM S) : Met l yX8_candidatesOf wsX8_candidatesOf rmct_X8_candidatesOf (zP D cI cZ cJ (mW cI cZ bd S) [.ref (bd 0), .int (zi x0)]) (zWi D (mW cI cZ bd) (mA bd) (fun r T => r = (caM S x0).2 ∧ T = (caM S x0).1 ∧ MI T)) 0 0 (mA bd) := by
  refine Met.ofW (cc := cX8_candidatesOf) (maxL := 4) (ret := (some .int)) (by decide) rfl ?_
  intro p e s m args below meth c s₁ B hml hv
  obtain ⟨rfl, hP, hK⟩ := hv
  have hx := B.exec
  have hb := B.bytes
  have hr := B.returns
  have hts := atoms_spec (ws := wsX8_candidatesOf) B.pre
  have hown : s.vm.findClass RX8 = some m.cls := findClass_of_methodNamed B.named
  have hlocks := B.notSynchronized
  have hl := lv_entry ([.ref (bd 0), .int (zi x0)]) (n := 4) (Nat.le_of_ble_eq_true rfl)
  rw [lg_entry_eq]
  generalize (lg_sl ([.ref (bd 0), .int (zi x0)]) ++ List.replicate (4 - (lg_sl ([.ref (bd 0), .int (zi x0)])).length) Slot.unset).toArray = ls at hl ⊢
  have hl : lv_has ls 4 [(0, .ref (bd 0)), (1, .int (zi x0))] := hl
  have hS : va_S (mA bd) s.heap s.heap [] := va_S.rf
  show W p l e rmct_X8_candidatesOf s m ([.ref (bd 0), .int (zi x0)] : List Value).toArray below meth c s.heap [] 0 0 (MQ below (zWi D (mW cI cZ bd) (mA bd) (fun r T => r = (caM S x0).2 ∧ T = (caM S x0).1 ∧ MI T)) ([.ref (bd 0), .int (zi x0)] : List Value).toArray s 0 0 (mA bd)) (F0 m 0 ls [])
  have hd0 : (0 : Int) ≤ S 6 0 ∧ S 6 0 ≤ 60 := hI 6 0
  refine zi_iconst hx hb dX8_candidatesOf_0 ?_
  refine lv_istore_n (lv' := [(2, .int (zi 0)), (0, .ref (bd 0)), (1, .int (zi x0))]) hx hb dX8_candidatesOf_1 rfl hl (by decide) rfl (fun ls hl => ?_)
  refine zi_iconst hx hb dX8_candidatesOf_2 ?_
  have K_4 : ∀ (k : Nat) (n : Nat) (ac i : Int) (T : ZS), (i + (n : Int) = S 6 0) → (0 ≤ i) → (itr (caF x0) n i (T, ac) = caM S x0) → (SM S T) → ((n : Int) < (k : Int)) → MI T → ∀ (H : Heap) (locs : List Loc), va_P D vwCl (mW cI cZ bd T) H → va_S (mA bd) s.heap H locs → ∀ (ls : Array Slot), lv_has ls 4 [(0, .ref (bd 0)), (1, .int (zi x0)), (2, .int (zi ac)), (3, .int (zi i))] → W p l e rmct_X8_candidatesOf s m ([.ref (bd 0), .int (zi x0)] : List Value).toArray below meth c H locs 0 0 (MQ below (zWi D (mW cI cZ bd) (mA bd) (fun r T => r = (caM S x0).2 ∧ T = (caM S x0).1 ∧ MI T)) ([.ref (bd 0), .int (zi x0)] : List Value).toArray s 0 0 (mA bd)) (F0 m 4 ls []) := by
    intro k
    induction k with
    | zero => intro n ac i T h_n h_i h_R h_sm hk hIT; exact absurd hk (by omega)
    | succ k ih_4 =>
      intro n ac i T h_n h_i h_R h_sm hk hIT H locs hP hS ls hl
      refine lv_iload_n hx hb dX8_candidatesOf_4 rfl (lv_at hl 3 rfl) ?_
      refine lv_aload_n hx hb dX8_candidatesOf_5 rfl (lv_at hl 0 rfl) ?_
      have hd6 : T 6 0 = S 6 0 := by rw [h_sm 6 rfl]
      refine va_get (D := D) (ci := 8) (v := .int (zi (T 6 0))) (C := RX8) (T := TX8) (N := 32) hx hb hts in_X8_candidatesOf_8 hown hK.1 hP 0 rfl rfl 6 (by decide) (hts _ lk_X8_candidatesOf_92) (fun _ h9 => h9) rfl dX8_candidatesOf_6 ?_
      have f_6 : (0 : Int) ≤ T 6 0 ∧ T 6 0 ≤ 60 := hIT 6 0
      refine zi_icmp_ge (tgt := 35) hx hb ⟨by omega, by omega⟩ ⟨by omega, by omega⟩ dX8_candidatesOf_9 (by decide) (fun c_9 => ?_) (fun c_9 => ?_)
      · obtain rfl : n = 0 := by omega
        refine lv_iload_n hx hb dX8_candidatesOf_35 rfl (lv_at hl 2 rfl) ?_
        exact zr_wi (T := T) hx hb hr hlocks dX8_candidatesOf_36 hP hS (by exact ⟨congrArg Prod.snd h_R, congrArg Prod.fst h_R, hIT⟩)
      · obtain ⟨n, rfl⟩ : ∃ n9 : Nat, n = n9 + 1 := ⟨n - 1, by omega⟩
        refine lv_iload_n hx hb dX8_candidatesOf_12 rfl (lv_at hl 2 rfl) ?_
        refine lv_aload_n hx hb dX8_candidatesOf_13 rfl (lv_at hl 0 rfl) ?_
        refine lv_iload_n hx hb dX8_candidatesOf_14 rfl (lv_at hl 1 rfl) ?_
        refine lv_iload_n hx hb dX8_candidatesOf_15 rfl (lv_at hl 3 rfl) ?_
        refine zk_wi (zc_V (As := [.int (zi x0), .int (zi i)]) (rest := [.int (zi ac)]) ⟨hx, hb, hml, hown, hts⟩ (ct_X8_canLink l D cI cZ cJ bd T hIT hdis x0 i ⟨by omega, by omega⟩ ⟨by omega, by omega⟩ (by omega) (by omega) (by omega) (by omega) (accM_sm h_sm hac)) (cwV 2 hts gX8_candidatesOf_X8_canLink rfl rfl rfl (by decide +kernel) ⟨Nat.le_of_ble_eq_true rfl, Nat.le_of_ble_eq_true rfl⟩) hK hP (q0 := 0) (ci := 8) rfl rfl rfl rfl hl.1 rfl (Nat.le_of_ble_eq_true rfl) dX8_candidatesOf_16 ⟨Nat.zero_le _, Nat.zero_le _⟩) hS (fun r_16 S_16 H locs hp_16 hP hS => ?_)
        obtain ⟨er_16, e9, hI_16⟩ := hp_16
        have eS_16 := e9.symm; clear e9
        have fr_16 : (0 : Int) ≤ r_16 ∧ r_16 ≤ 1 := by rw [er_16]; exact b2_b
        refine zi_if_eq (tgt := 26) hx hb ⟨by omega, by omega⟩ dX8_candidatesOf_19 (by decide) (fun c_19 => ?_) (fun c_19 => ?_)
        · refine zi_iconst hx hb dX8_candidatesOf_26 ?_
          refine zi_iadd hx hb dX8_candidatesOf_27 ?_
          refine zi_top (fun x2_28 ex2_28 => ?_)
          refine lv_istore_n (lv' := [(2, .int (zi x2_28)), (0, .ref (bd 0)), (1, .int (zi x0)), (3, .int (zi i))]) hx hb dX8_candidatesOf_28 rfl hl (by decide) rfl (fun ls hl => ?_)
          refine zi_iinc (k := 3) (lv' := [(3, .int (zi (i + 1))), (2, .int (zi x2_28)), (0, .ref (bd 0)), (1, .int (zi x0))]) hx hb dX8_candidatesOf_29 hl rfl (by decide) rfl (fun ls hl => ?_)
          refine lv_goto (tgt := 4) hx hb dX8_candidatesOf_32 (by decide) ?_
          exact ih_4 n x2_28 (i + 1) S_16 (by first | omega | assumption) (by first | omega | assumption) (by rw [← h_R, itr_s, ex2_28]; congr 1; rw [← eS_16, caF, b2_f (b2_0 er_16 c_19)]) (by rw [← eS_16]; exact h_sm.tr SM_cl) (by omega) hI_16 _ _ hP hS _ (lv_sub hl [2, 3, 1, 0] rfl)
        · refine zi_iconst hx hb dX8_candidatesOf_22 ?_
          refine lv_goto (tgt := 27) hx hb dX8_candidatesOf_23 (by decide) ?_
          refine zi_iadd hx hb dX8_candidatesOf_27 ?_
          refine zi_top (fun x2_28 ex2_28 => ?_)
          refine lv_istore_n (lv' := [(2, .int (zi x2_28)), (0, .ref (bd 0)), (1, .int (zi x0)), (3, .int (zi i))]) hx hb dX8_candidatesOf_28 rfl hl (by decide) rfl (fun ls hl => ?_)
          refine zi_iinc (k := 3) (lv' := [(3, .int (zi (i + 1))), (2, .int (zi x2_28)), (0, .ref (bd 0)), (1, .int (zi x0))]) hx hb dX8_candidatesOf_29 hl rfl (by decide) rfl (fun ls hl => ?_)
          refine lv_goto (tgt := 4) hx hb dX8_candidatesOf_32 (by decide) ?_
          exact ih_4 n x2_28 (i + 1) S_16 (by first | omega | assumption) (by first | omega | assumption) (by rw [← h_R, itr_s, ex2_28]; congr 1; rw [← eS_16, caF, b2_t (b2_1 er_16 c_19)]) (by rw [← eS_16]; exact h_sm.tr SM_cl) (by omega) hI_16 _ _ hP hS _ (lv_sub hl [2, 3, 1, 0] rfl)
  refine lv_istore_n (lv' := [(3, .int (zi 0)), (2, .int (zi 0)), (0, .ref (bd 0)), (1, .int (zi x0))]) hx hb dX8_candidatesOf_3 rfl hl (by decide) rfl (fun ls hl => ?_)
  exact K_4 ((S 6 0).toNat + 1) ((S 6 0).toNat) 0 0 S (by first | omega | assumption) (by first | omega | assumption) (by rw [caM]) SM.rf (by omega) hI _ _ hP hS _ (lv_sub hl [2, 3, 1, 0] rfl)

abbrev rmct_X8_isNear : Room := { frames := 2, cells := 0, slots := 0, locals := 44 }
set_option maxHeartbeats 4000000 in
set_option maxRecDepth 100000 in
theorem ct_X8_isNear (l : Launch) (D : va_G) (cI cZ cJ : ClassId) (bd : Nat → Nat) (S : ZS) (hI : MI S) (x0 x1 x2 : Int) (hx0 : ir x0) (hx1 : ir x1) (hx2 : ir x2) (hp00 : 0 ≤ x0) (hp01 : x0 ≤ 1457999) (hp10 : 0 ≤ x1) (hp11 : x1 ≤ 999) (hp20 : 1 ≤ x2) (hp21 : x2 ≤ 60) (hs : x1 + x2 ≤ 1000) : Met l yX8_isNear wsX8_isNear rmct_X8_isNear (zP D cI cZ cJ (mW cI cZ bd S) [.ref (bd 0), .int (zi x0), .int (zi x1), .int (zi x2)]) (k2_QcV (.int (zi (b2 (isNP x0 x1 x2))))) 0 0 (fun _ => False) := by
  refine Met.ofW (cc := cX8_isNear) (maxL := 6) (ret := (some .boolean)) (by decide) rfl ?_
  intro p e s m args below meth c s₁ B hml hv
  obtain ⟨rfl, hP, hK⟩ := hv
  have hx := B.exec
  have hb := B.bytes
  have hr := B.returns
  have hts := atoms_spec (ws := wsX8_isNear) B.pre
  have hown : s.vm.findClass RX8 = some m.cls := findClass_of_methodNamed B.named
  have hlocks := B.notSynchronized
  have hl := lv_entry ([.ref (bd 0), .int (zi x0), .int (zi x1), .int (zi x2)]) (n := 6) (Nat.le_of_ble_eq_true rfl)
  rw [lg_entry_eq]
  generalize (lg_sl ([.ref (bd 0), .int (zi x0), .int (zi x1), .int (zi x2)]) ++ List.replicate (6 - (lg_sl ([.ref (bd 0), .int (zi x0), .int (zi x1), .int (zi x2)])).length) Slot.unset).toArray = ls at hl ⊢
  have hl : lv_has ls 6 [(0, .ref (bd 0)), (1, .int (zi x0)), (2, .int (zi x1)), (3, .int (zi x2))] := hl
  show W p l e rmct_X8_isNear s m ([.ref (bd 0), .int (zi x0), .int (zi x1), .int (zi x2)] : List Value).toArray below meth c s.heap [] 0 0 (MQ below (k2_QcV (.int (zi (b2 (isNP x0 x1 x2))))) ([.ref (bd 0), .int (zi x0), .int (zi x1), .int (zi x2)] : List Value).toArray s 0 0 (fun _ => False)) (F0 m 0 ls [])
  refine zi_iconst hx hb dX8_isNear_0 ?_
  refine lv_istore (lv' := [(4, .int (zi 0)), (0, .ref (bd 0)), (1, .int (zi x0)), (2, .int (zi x1)), (3, .int (zi x2))]) hx hb dX8_isNear_1 hl (by decide) rfl (fun ls hl => ?_)
  refine lv_iload_n hx hb dX8_isNear_3 rfl (lv_at hl 3 rfl) ?_
  have K_6 : ∀ (k : Nat) (n : Nat) (ne i : Int), (i + (n : Int) = x1 + x2) → (x1 ≤ i) → (0 ≤ ne ∧ ne ≤ 1) → ((ne = 1 ∧ 1 = b2 (isNP x0 x1 x2)) ∨ (ne = 0 ∧ b2 (anyI (fun t => apM (plM x0 t) (10 * t % 3600) ≤ 2) n i) = b2 (isNP x0 x1 x2))) → ((n : Int) < (k : Int)) → ∀ (ls : Array Slot), lv_has ls 6 [(0, .ref (bd 0)), (1, .int (zi x0)), (2, .int (zi x1)), (3, .int (zi x2)), (4, .int (zi ne)), (5, .int (zi i))] → W p l e rmct_X8_isNear s m ([.ref (bd 0), .int (zi x0), .int (zi x1), .int (zi x2)] : List Value).toArray below meth c s.heap [] 0 0 (MQ below (k2_QcV (.int (zi (b2 (isNP x0 x1 x2))))) ([.ref (bd 0), .int (zi x0), .int (zi x1), .int (zi x2)] : List Value).toArray s 0 0 (fun _ => False)) (F0 m 6 ls []) := by
    intro k
    induction k with
    | zero => intro n ne i h_n h_i h_b h_R hk; exact absurd hk (by omega)
    | succ k ih_6 =>
      intro n ne i h_n h_i h_b h_R hk ls hl
      refine lv_iload hx hb dX8_isNear_6 (lv_at hl 5 rfl) ?_
      refine lv_iload_n hx hb dX8_isNear_8 rfl (lv_at hl 2 rfl) ?_
      refine lv_iload_n hx hb dX8_isNear_9 rfl (lv_at hl 3 rfl) ?_
      refine zi_iadd hx hb dX8_isNear_10 ?_
      refine zi_icmp_ge (tgt := 55) hx hb ⟨by omega, by omega⟩ ⟨by omega, by omega⟩ dX8_isNear_11 (by decide) (fun c_11 => ?_) (fun c_11 => ?_)
      · obtain rfl : n = 0 := by omega
        refine lv_iload hx hb dX8_isNear_55 (lv_at hl 4 rfl) ?_
        exact zr_z hx hb hr hlocks dX8_isNear_57 (by first | assumption | omega) (by exact any_end h_R)
      · obtain ⟨n, rfl⟩ : ∃ n9 : Nat, n = n9 + 1 := ⟨n - 1, by omega⟩
        refine lv_iload hx hb dX8_isNear_14 (lv_at hl 4 rfl) ?_
        refine zi_if_ne (tgt := 55) hx hb ⟨by omega, by omega⟩ dX8_isNear_16 (by decide) (fun c_16 => ?_) (fun c_16 => ?_)
        · refine lv_iload hx hb dX8_isNear_55 (lv_at hl 4 rfl) ?_
          exact zr_z hx hb hr hlocks dX8_isNear_57 (by first | assumption | omega) (by exact any_s h_R c_16)
        · refine lv_aload_n hx hb dX8_isNear_19 rfl (lv_at hl 0 rfl) ?_
          refine lv_iload_n hx hb dX8_isNear_20 rfl (lv_at hl 1 rfl) ?_
          refine lv_iload hx hb dX8_isNear_21 (lv_at hl 5 rfl) ?_
          refine zk_r (zc_V (As := [.int (zi x0), .int (zi i)]) (rest := []) ⟨hx, hb, hml, hown, hts⟩ (ct_X8_placeBy l D cI cZ cJ bd S hI x0 i ⟨by omega, by omega⟩ ⟨by omega, by omega⟩ (by omega) (by omega) (by omega) (by omega)) (cwV 2 hts gX8_isNear_X8_placeBy rfl rfl rfl (by decide +kernel) ⟨Nat.le_of_ble_eq_true rfl, Nat.le_of_ble_eq_true rfl⟩) hK hP (q0 := 0) (ci := 8) rfl rfl rfl rfl hl.1 rfl (Nat.le_of_ble_eq_true rfl) dX8_isNear_23 ⟨Nat.zero_le _, Nat.zero_le _⟩) ?_
          refine zi_top (fun (r_23 : Int) (er_23 : r_23 = plM x0 i) => ?_)
          have fr_23 : (0 : Int) ≤ r_23 ∧ r_23 ≤ 3599 := by rw [er_23]; exact (by unfold plM; omega)
          refine zi_bipush hx hb dX8_isNear_26 (by decide) ?_
          refine lv_iload hx hb dX8_isNear_28 (lv_at hl 5 rfl) ?_
          refine zi_imul hx hb dX8_isNear_30 ?_
          refine zi_sipush hx hb dX8_isNear_31 (by decide) ?_
          refine zi_irem hx hb ⟨by omega, by omega⟩ ⟨by omega, by omega⟩ (by omega) (by omega) dX8_isNear_34 ?_
          refine zk_r (zc_S (As := [.int (zi r_23), .int (zi ((10 * i) % 3600))]) (rest := []) ⟨hx, hb, hml, hown, hts⟩ (ct_X8_apart l D cI cZ cJ r_23 ((10 * i) % 3600) ⟨by omega, by omega⟩ ⟨by omega, by omega⟩ (by omega) (by omega) (by omega) (by omega)) (va_cwS 2 hts gX8_isNear_X8_apart rfl rfl rfl (by decide +kernel) ⟨Nat.le_of_ble_eq_true rfl, Nat.le_of_ble_eq_true rfl⟩) hK va_P_nil rfl hl.1 rfl (Nat.le_of_ble_eq_true rfl) dX8_isNear_35 ⟨Nat.zero_le _, Nat.zero_le _⟩) ?_
          refine zi_top (fun (r_35 : Int) (er_35 : r_35 = apM r_23 ((10 * i) % 3600)) => ?_)
          have fr_35 : (0 : Int) ≤ r_35 ∧ r_35 ≤ 1800 := by rw [er_35]; exact apM_b (by omega) (by omega) (by omega) (by omega)
          refine zi_iconst hx hb dX8_isNear_38 ?_
          refine zi_icmp_gt (tgt := 46) hx hb ⟨by omega, by omega⟩ ⟨by decide, by decide⟩ dX8_isNear_39 (by decide) (fun c_39 => ?_) (fun c_39 => ?_)
          · refine zi_iconst hx hb dX8_isNear_46 ?_
            refine lv_istore (lv' := [(4, .int (zi 0)), (0, .ref (bd 0)), (1, .int (zi x0)), (2, .int (zi x1)), (3, .int (zi x2)), (5, .int (zi i))]) hx hb dX8_isNear_47 hl (by decide) rfl (fun ls hl => ?_)
            refine zi_iinc (k := 5) (lv' := [(5, .int (zi (i + 1))), (4, .int (zi 0)), (0, .ref (bd 0)), (1, .int (zi x0)), (2, .int (zi x1)), (3, .int (zi x2))]) hx hb dX8_isNear_49 hl rfl (by decide) rfl (fun ls hl => ?_)
            refine lv_goto (tgt := 6) hx hb dX8_isNear_52 (by decide) ?_
            exact ih_6 n 0 (i + 1) (by first | omega | assumption) (by first | omega | assumption) ⟨by decide, by decide⟩ (any_0 h_R (by omega) (by rw [← er_23, ← er_35]; omega)) (by omega) _ (lv_sub hl [2, 3, 4, 5, 1, 0] rfl)
          · refine zi_iconst hx hb dX8_isNear_42 ?_
            refine lv_goto (tgt := 47) hx hb dX8_isNear_43 (by decide) ?_
            refine lv_istore (lv' := [(4, .int (zi 1)), (0, .ref (bd 0)), (1, .int (zi x0)), (2, .int (zi x1)), (3, .int (zi x2)), (5, .int (zi i))]) hx hb dX8_isNear_47 hl (by decide) rfl (fun ls hl => ?_)
            refine zi_iinc (k := 5) (lv' := [(5, .int (zi (i + 1))), (4, .int (zi 1)), (0, .ref (bd 0)), (1, .int (zi x0)), (2, .int (zi x1)), (3, .int (zi x2))]) hx hb dX8_isNear_49 hl rfl (by decide) rfl (fun ls hl => ?_)
            refine lv_goto (tgt := 6) hx hb dX8_isNear_52 (by decide) ?_
            exact ih_6 n 1 (i + 1) (by first | omega | assumption) (by first | omega | assumption) ⟨by decide, by decide⟩ (any_1 h_R (by rw [← er_23, ← er_35]; omega)) (by omega) _ (lv_sub hl [2, 3, 4, 5, 1, 0] rfl)
  refine lv_istore (lv' := [(5, .int (zi x1)), (4, .int (zi 0)), (0, .ref (bd 0)), (1, .int (zi x0)), (2, .int (zi x1)), (3, .int (zi x2))]) hx hb dX8_isNear_4 hl (by decide) rfl (fun ls hl => ?_)
  exact K_6 (x2.toNat + 1) x2.toNat 0 x1 (by first | omega | assumption) (by first | omega | assumption) ⟨by decide, by decide⟩ (Or.inr ⟨rfl, by rw [isNP]⟩) (by omega) _ (lv_sub hl [2, 3, 4, 5, 1, 0] rfl)

abbrev rmct_X8_common : Room := { frames := 0, cells := 0, slots := 0, locals := 0 }
set_option maxHeartbeats 4000000 in
set_option maxRecDepth 100000 in
theorem ct_X8_common (l : Launch) (D : va_G) (cI cZ cJ : ClassId) (x0 x1 : Int) (hx0 : ir x0) (hx1 : ir x1) (hp00 : 0 ≤ x0) (hp01 : x0 ≤ 2147483647) (hp10 : 0 ≤ x1) (hp11 : x1 ≤ 2147483647) : Met l yX8_common wsX8_common rmct_X8_common (zP D cI cZ cJ [] [.int (zi x0), .int (zi x1)]) (k2_QcV (.int (zi (gcdC (x1.toNat + 1) x0 x1)))) 0 0 (fun _ => False) := by
  refine Met.ofW (cc := cX8_common) (maxL := 5) (ret := (some .int)) (by decide) rfl ?_
  intro p e s m args below meth c s₁ B hml hv
  obtain ⟨rfl, hP, hK⟩ := hv
  have hx := B.exec
  have hb := B.bytes
  have hr := B.returns
  have hts := atoms_spec (ws := wsX8_common) B.pre
  have hown : s.vm.findClass RX8 = some m.cls := findClass_of_methodNamed B.named
  have hlocks := B.notSynchronized
  have hl := lv_entry ([.int (zi x0), .int (zi x1)]) (n := 5) (Nat.le_of_ble_eq_true rfl)
  rw [lg_entry_eq]
  generalize (lg_sl ([.int (zi x0), .int (zi x1)]) ++ List.replicate (5 - (lg_sl ([.int (zi x0), .int (zi x1)])).length) Slot.unset).toArray = ls at hl ⊢
  have hl : lv_has ls 5 [(0, .int (zi x0)), (1, .int (zi x1))] := hl
  show W p l e rmct_X8_common s m ([.int (zi x0), .int (zi x1)] : List Value).toArray below meth c s.heap [] 0 0 (MQ below (k2_QcV (.int (zi (gcdC (x1.toNat + 1) x0 x1)))) ([.int (zi x0), .int (zi x1)] : List Value).toArray s 0 0 (fun _ => False)) (F0 m 0 ls [])
  refine lv_iload_n hx hb dX8_common_0 rfl (lv_at hl 0 rfl) ?_
  refine lv_istore_n (lv' := [(2, .int (zi x0)), (0, .int (zi x0)), (1, .int (zi x1))]) hx hb dX8_common_1 rfl hl (by decide) rfl (fun ls hl => ?_)
  refine lv_iload_n hx hb dX8_common_2 rfl (lv_at hl 2 rfl) ?_
  have K_4 : ∀ (k : Nat) (n : Nat) (hi lo : Int), (0 ≤ hi ∧ 0 ≤ lo ∧ hi ≤ 2147483647 ∧ lo ≤ 2147483647) → (lo < (n : Int)) → (gcdC n hi lo = gcdC (x1.toNat + 1) x0 x1) → ((n : Int) < (k : Int)) → ∀ (ls : Array Slot), lv_has ls 5 [(0, .int (zi x0)), (1, .int (zi x1)), (2, .int (zi hi)), (3, .int (zi lo))] → W p l e rmct_X8_common s m ([.int (zi x0), .int (zi x1)] : List Value).toArray below meth c s.heap [] 0 0 (MQ below (k2_QcV (.int (zi (gcdC (x1.toNat + 1) x0 x1)))) ([.int (zi x0), .int (zi x1)] : List Value).toArray s 0 0 (fun _ => False)) (F0 m 4 ls []) := by
    intro k
    induction k with
    | zero => intro n hi lo h_b h_l h_R hk; exact absurd hk (by omega)
    | succ k ih_4 =>
      intro n hi lo h_b h_l h_R hk ls hl
      refine lv_iload_n hx hb dX8_common_4 rfl (lv_at hl 3 rfl) ?_
      refine zi_if_eq (tgt := 21) hx hb ⟨by omega, by omega⟩ dX8_common_5 (by decide) (fun c_5 => ?_) (fun c_5 => ?_)
      · refine lv_iload_n hx hb dX8_common_21 rfl (lv_at hl 2 rfl) ?_
        exact zr_i hx hb hr hlocks dX8_common_22 (by rw [← h_R, c_5]; exact gcd_z.symm)
      · obtain ⟨n, rfl⟩ : ∃ n9 : Nat, n = n9 + 1 := ⟨n - 1, by omega⟩
        refine lv_iload_n hx hb dX8_common_8 rfl (lv_at hl 2 rfl) ?_
        refine lv_iload_n hx hb dX8_common_9 rfl (lv_at hl 3 rfl) ?_
        refine zi_irem hx hb ⟨by omega, by omega⟩ ⟨by omega, by omega⟩ (by omega) (by omega) dX8_common_10 ?_
        have q_1 : 0 ≤ hi % lo := Int.emod_nonneg _ c_5
        have q_2 : hi % lo < lo := Int.emod_lt_of_pos _ (by omega)
        refine zi_top (fun x4_11 ex4_11 => ?_)
        refine lv_istore (lv' := [(4, .int (zi x4_11)), (0, .int (zi x0)), (1, .int (zi x1)), (2, .int (zi hi)), (3, .int (zi lo))]) hx hb dX8_common_11 hl (by decide) rfl (fun ls hl => ?_)
        refine lv_iload_n hx hb dX8_common_13 rfl (lv_at hl 4 rfl) ?_
        refine lv_istore_n (lv' := [(2, .int (zi lo)), (4, .int (zi x4_11)), (0, .int (zi x0)), (1, .int (zi x1)), (3, .int (zi lo))]) hx hb dX8_common_14 rfl hl (by decide) rfl (fun ls hl => ?_)
        refine lv_iload hx hb dX8_common_15 (lv_at hl 1 rfl) ?_
        refine lv_istore_n (lv' := [(3, .int (zi x4_11)), (2, .int (zi lo)), (4, .int (zi x4_11)), (0, .int (zi x0)), (1, .int (zi x1))]) hx hb dX8_common_17 rfl hl (by decide) rfl (fun ls hl => ?_)
        refine lv_goto (tgt := 4) hx hb dX8_common_18 (by decide) ?_
        exact ih_4 n lo x4_11 ⟨by omega, by omega, by omega, by omega⟩ (by first | omega | assumption) (by rw [← h_R, ex4_11]; exact (if_neg c_5).symm) (by omega) _ (lv_sub hl [3, 4, 1, 0] rfl)
  refine lv_istore_n (lv' := [(3, .int (zi x1)), (2, .int (zi x0)), (0, .int (zi x0)), (1, .int (zi x1))]) hx hb dX8_common_3 rfl hl (by decide) rfl (fun ls hl => ?_)
  exact K_4 (x1.toNat + 2) (x1.toNat + 1) x0 x1 ⟨by omega, by omega, by omega, by omega⟩ (by first | omega | assumption) rfl (by omega) _ (lv_sub hl [2, 3, 1, 0] rfl)

theorem in_X8_areAkin_8 : ∀ w ∈ wsX80, w ∈ wsX8_areAkin := by decide +kernel
theorem lk_X8_areAkin_40 : Cond.fieldLink RX8 40 "PlanetoidDeskModel" "numberOf" "[I" ∈ wsX8_areAkin := by decide +kernel
theorem lk_X8_areAkin_43 : Cond.fieldLink RX8 43 "PlanetoidDeskModel" "properB" "[I" ∈ wsX8_areAkin := by decide +kernel
theorem lk_X8_areAkin_46 : Cond.fieldLink RX8 46 "PlanetoidDeskModel" "properC" "[I" ∈ wsX8_areAkin := by decide +kernel
abbrev rmct_X8_areAkin : Room := { frames := 1, cells := 0, slots := 0, locals := 20 }
set_option maxHeartbeats 4000000 in
set_option maxRecDepth 100000 in
theorem ct_X8_areAkin (l : Launch) (D : va_G) (cI cZ cJ : ClassId) (bd : Nat → Nat) (S : ZS) (hI : MI S) (x0 x1 x2 : Int) (hx0 : ir x0) (hx1 : ir x1) (hx2 : ir x2) (hp00 : 0 ≤ x0) (hp01 : x0 ≤ 19) (hp10 : 0 ≤ x1) (hp11 : x1 ≤ 19) (hp20 : 0 ≤ x2) (hp21 : x2 ≤ 90) : Met l yX8_areAkin wsX8_areAkin rmct_X8_areAkin (zP D cI cZ cJ (mW cI cZ bd S) [.ref (bd 0), .int (zi x0), .int (zi x1), .int (zi x2)]) (k2_QcV (.int (zi (b2 (akM S x0 x1 x2))))) 0 0 (fun _ => False) := by
  refine Met.ofW (cc := cX8_areAkin) (maxL := 4) (ret := (some .boolean)) (by decide) rfl ?_
  intro p e s m args below meth c s₁ B hml hv
  obtain ⟨rfl, hP, hK⟩ := hv
  have hx := B.exec
  have hb := B.bytes
  have hr := B.returns
  have hts := atoms_spec (ws := wsX8_areAkin) B.pre
  have hown : s.vm.findClass RX8 = some m.cls := findClass_of_methodNamed B.named
  have hlocks := B.notSynchronized
  have hl := lv_entry ([.ref (bd 0), .int (zi x0), .int (zi x1), .int (zi x2)]) (n := 4) (Nat.le_of_ble_eq_true rfl)
  rw [lg_entry_eq]
  generalize (lg_sl ([.ref (bd 0), .int (zi x0), .int (zi x1), .int (zi x2)]) ++ List.replicate (4 - (lg_sl ([.ref (bd 0), .int (zi x0), .int (zi x1), .int (zi x2)])).length) Slot.unset).toArray = ls at hl ⊢
  have hl : lv_has ls 4 [(0, .ref (bd 0)), (1, .int (zi x0)), (2, .int (zi x1)), (3, .int (zi x2))] := hl
  show W p l e rmct_X8_areAkin s m ([.ref (bd 0), .int (zi x0), .int (zi x1), .int (zi x2)] : List Value).toArray below meth c s.heap [] 0 0 (MQ below (k2_QcV (.int (zi (b2 (akM S x0 x1 x2))))) ([.ref (bd 0), .int (zi x0), .int (zi x1), .int (zi x2)] : List Value).toArray s 0 0 (fun _ => False)) (F0 m 0 ls [])
  refine lv_aload_n hx hb dX8_areAkin_0 rfl (lv_at hl 0 rfl) ?_
  refine va_get (D := D) (ci := 8) (v := .ref (bd 15)) (C := RX8) (T := TX8) (N := 32) hx hb hts in_X8_areAkin_8 hown hK.1 hP 0 rfl rfl 14 (by decide) (hts _ lk_X8_areAkin_40) (fun _ h9 => h9) rfl dX8_areAkin_1 ?_
  refine lv_iload_n hx hb dX8_areAkin_4 rfl (lv_at hl 1 rfl) ?_
  refine zi_iald hx hb hK.1 hP 11 0 rfl rfl (by omega) (by omega) (by decide) dX8_areAkin_5 ?_
  have f_5 : (0 : Int) ≤ S 14 x0 ∧ S 14 x0 ≤ 20 := hI 14 x0
  refine zi_if_le (tgt := 61) hx hb ⟨by omega, by omega⟩ dX8_areAkin_6 (by decide) (fun c_6 => ?_) (fun c_6 => ?_)
  · refine zi_iconst hx hb dX8_areAkin_61 ?_
    exact zr_z hx hb hr hlocks dX8_areAkin_62 (Or.inl rfl) (by exact (b2_f (fun h9 => absurd h9.1 (by omega))).symm)
  · refine lv_aload_n hx hb dX8_areAkin_9 rfl (lv_at hl 0 rfl) ?_
    refine va_get (D := D) (ci := 8) (v := .ref (bd 15)) (C := RX8) (T := TX8) (N := 32) hx hb hts in_X8_areAkin_8 hown hK.1 hP 0 rfl rfl 14 (by decide) (hts _ lk_X8_areAkin_40) (fun _ h9 => h9) rfl dX8_areAkin_10 ?_
    refine lv_iload_n hx hb dX8_areAkin_13 rfl (lv_at hl 2 rfl) ?_
    refine zi_iald hx hb hK.1 hP 11 0 rfl rfl (by omega) (by omega) (by decide) dX8_areAkin_14 ?_
    have f_14 : (0 : Int) ≤ S 14 x1 ∧ S 14 x1 ≤ 20 := hI 14 x1
    refine zi_if_le (tgt := 61) hx hb ⟨by omega, by omega⟩ dX8_areAkin_15 (by decide) (fun c_15 => ?_) (fun c_15 => ?_)
    · refine zi_iconst hx hb dX8_areAkin_61 ?_
      exact zr_z hx hb hr hlocks dX8_areAkin_62 (Or.inl rfl) (by exact (b2_f (fun h9 => absurd h9.2.1 (by omega))).symm)
    · refine lv_aload_n hx hb dX8_areAkin_18 rfl (lv_at hl 0 rfl) ?_
      refine va_get (D := D) (ci := 8) (v := .ref (bd 16)) (C := RX8) (T := TX8) (N := 32) hx hb hts in_X8_areAkin_8 hown hK.1 hP 0 rfl rfl 15 (by decide) (hts _ lk_X8_areAkin_43) (fun _ h9 => h9) rfl dX8_areAkin_19 ?_
      refine lv_iload_n hx hb dX8_areAkin_22 rfl (lv_at hl 1 rfl) ?_
      refine zi_iald hx hb hK.1 hP 12 0 rfl rfl (by omega) (by omega) (by decide) dX8_areAkin_23 ?_
      have f_23 : (-40 : Int) ≤ S 15 x0 ∧ S 15 x0 ≤ 40 := hI 15 x0
      refine lv_aload_n hx hb dX8_areAkin_24 rfl (lv_at hl 0 rfl) ?_
      refine va_get (D := D) (ci := 8) (v := .ref (bd 16)) (C := RX8) (T := TX8) (N := 32) hx hb hts in_X8_areAkin_8 hown hK.1 hP 0 rfl rfl 15 (by decide) (hts _ lk_X8_areAkin_43) (fun _ h9 => h9) rfl dX8_areAkin_25 ?_
      refine lv_iload_n hx hb dX8_areAkin_28 rfl (lv_at hl 2 rfl) ?_
      refine zi_iald hx hb hK.1 hP 12 0 rfl rfl (by omega) (by omega) (by decide) dX8_areAkin_29 ?_
      have f_29 : (-40 : Int) ≤ S 15 x1 ∧ S 15 x1 ≤ 40 := hI 15 x1
      refine zi_isub hx hb dX8_areAkin_30 ?_
      refine zk_r (zc_S (As := [.int (zi ((S 15 x0) - (S 15 x1)))]) (rest := []) ⟨hx, hb, hml, hown, hts⟩ (ct_X8_size l D cI cZ cJ ((S 15 x0) - (S 15 x1)) ⟨by omega, by omega⟩ (by omega) (by omega)) (va_cwS 1 hts gX8_areAkin_X8_size rfl rfl rfl (by decide +kernel) ⟨Nat.le_of_ble_eq_true rfl, Nat.le_of_ble_eq_true rfl⟩) hK va_P_nil rfl hl.1 rfl (Nat.le_of_ble_eq_true rfl) dX8_areAkin_31 ⟨Nat.zero_le _, Nat.zero_le _⟩) ?_
      refine zi_top (fun (r_31 : Int) (er_31 : r_31 = max ((S 15 x0) - (S 15 x1)) (-((S 15 x0) - (S 15 x1)))) => ?_)
      refine zi_iconst hx hb dX8_areAkin_34 ?_
      refine lv_aload_n hx hb dX8_areAkin_35 rfl (lv_at hl 0 rfl) ?_
      refine va_get (D := D) (ci := 8) (v := .ref (bd 17)) (C := RX8) (T := TX8) (N := 32) hx hb hts in_X8_areAkin_8 hown hK.1 hP 0 rfl rfl 16 (by decide) (hts _ lk_X8_areAkin_46) (fun _ h9 => h9) rfl dX8_areAkin_36 ?_
      refine lv_iload_n hx hb dX8_areAkin_39 rfl (lv_at hl 1 rfl) ?_
      refine zi_iald hx hb hK.1 hP 13 0 rfl rfl (by omega) (by omega) (by decide) dX8_areAkin_40 ?_
      have f_40 : (-2 : Int) ≤ S 16 x0 ∧ S 16 x0 ≤ 2 := hI 16 x0
      refine lv_aload_n hx hb dX8_areAkin_41 rfl (lv_at hl 0 rfl) ?_
      refine va_get (D := D) (ci := 8) (v := .ref (bd 17)) (C := RX8) (T := TX8) (N := 32) hx hb hts in_X8_areAkin_8 hown hK.1 hP 0 rfl rfl 16 (by decide) (hts _ lk_X8_areAkin_46) (fun _ h9 => h9) rfl dX8_areAkin_42 ?_
      refine lv_iload_n hx hb dX8_areAkin_45 rfl (lv_at hl 2 rfl) ?_
      refine zi_iald hx hb hK.1 hP 13 0 rfl rfl (by omega) (by omega) (by decide) dX8_areAkin_46 ?_
      have f_46 : (-2 : Int) ≤ S 16 x1 ∧ S 16 x1 ≤ 2 := hI 16 x1
      refine zi_isub hx hb dX8_areAkin_47 ?_
      refine zk_r (zc_S (As := [.int (zi ((S 16 x0) - (S 16 x1)))]) (rest := [.int (zi 5), .int (zi r_31)]) ⟨hx, hb, hml, hown, hts⟩ (ct_X8_size l D cI cZ cJ ((S 16 x0) - (S 16 x1)) ⟨by omega, by omega⟩ (by omega) (by omega)) (va_cwS 1 hts gX8_areAkin_X8_size rfl rfl rfl (by decide +kernel) ⟨Nat.le_of_ble_eq_true rfl, Nat.le_of_ble_eq_true rfl⟩) hK va_P_nil rfl hl.1 rfl (Nat.le_of_ble_eq_true rfl) dX8_areAkin_48 ⟨Nat.zero_le _, Nat.zero_le _⟩) ?_
      refine zi_top (fun (r_48 : Int) (er_48 : r_48 = max ((S 16 x0) - (S 16 x1)) (-((S 16 x0) - (S 16 x1)))) => ?_)
      refine zi_imul hx hb dX8_areAkin_51 ?_
      refine zi_iadd hx hb dX8_areAkin_52 ?_
      refine lv_iload_n hx hb dX8_areAkin_53 rfl (lv_at hl 3 rfl) ?_
      refine zi_icmp_gt (tgt := 61) hx hb ⟨by omega, by omega⟩ ⟨by omega, by omega⟩ dX8_areAkin_54 (by decide) (fun c_54 => ?_) (fun c_54 => ?_)
      · refine zi_iconst hx hb dX8_areAkin_61 ?_
        exact zr_z hx hb hr hlocks dX8_areAkin_62 (Or.inl rfl) (by exact (b2_f (fun h9 => absurd h9.2.2 (by rw [← er_31, ← er_48]; omega))).symm)
      · refine zi_iconst hx hb dX8_areAkin_57 ?_
        refine lv_goto (tgt := 62) hx hb dX8_areAkin_58 (by decide) ?_
        exact zr_z hx hb hr hlocks dX8_areAkin_62 (Or.inr rfl) (by exact (b2_t ⟨by omega, by omega, by rw [← er_31, ← er_48]; omega⟩).symm)

