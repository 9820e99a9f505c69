/-! the desk's own steps, as programs over the numbers -/
theorem itr_keep {f : Int → ZS → ZS} {k : Nat} (h : ∀ j s, f j s k = s k) : ∀ (n : Nat) (j : Int) (s : ZS), itr f n j s k = s k := by
  intro n
  induction n with
  | zero => intro j s; rfl
  | succ n ih => intro j s; rw [itr_s, ih, h]
theorem knAll_n {n p e : Int} {T : ZS} {k : Nat} (h1 : k ≠ 13) (h2 : k ≠ 14) : knAll n p e T k = T k := by
  unfold knAll
  refine itr_keep (fun j s => ?_) 405 0 T
  unfold knStep; split
  · rw [su_n _ _ h1, su_n _ _ h2]
  · rw [su_n _ _ h2]
theorem takeAll_n {S : ZS} {k : Nat} (h1 : k ≠ 13) (h2 : k ≠ 14) : takeAll S k = S k := by
  unfold takeAll; rw [su_n _ _ h2, su_n _ _ h1]
def addL (T : ZS) (d : Int) : ZS := su (su T 12 (rPut 60 (T 12) (T 26 0) d)) 26 (fun _ => T 26 0 + 1)
theorem addL_n {T : ZS} {d : Int} {k : Nat} (h1 : k ≠ 12) (h2 : k ≠ 26) : addL T d k = T k := by unfold addL; rw [su_n _ _ h2, su_n _ _ h1]
noncomputable def gaStep (b d : Int) (T : ZS) : ZS := cif (lookC T d b) (addL T d) T
noncomputable def gatherL (b : Int) (S : ZS) : ZS := itr (gaStep b) (S 22 0).toNat 0 (su S 26 (fun _ => 0))
theorem gatherL_n {b : Int} {S : ZS} {k : Nat} (h1 : k ≠ 12) (h2 : k ≠ 26) : gatherL b S k = S k := by
  unfold gatherL
  rw [itr_keep (k := k) (fun j s => ?_) _ _ _, su_n _ _ h2]
  unfold gaStep
  by_cases h : lookC s j b
  · rw [cif_t h, addL_n h1 h2]
  · rw [cif_f h]
noncomputable def kfStep (i : Int) (T : ZS) : ZS := knAll (nOf T (rAt 60 (T 12) i)) (tOf T (rAt 60 (T 12) i)) (eOf T (rAt 60 (T 12) i)) T
noncomputable def keepF (b : Int) (S : ZS) : ZS := itr kfStep (gatherL b S 26 0).toNat 0 (gatherL b S)
theorem keepF_n {b : Int} {S : ZS} {k : Nat} (h1 : k ≠ 12) (h2 : k ≠ 26) (h3 : k ≠ 13) (h4 : k ≠ 14) : keepF b S k = S k := by
  unfold keepF
  rw [itr_keep (k := k) (fun j s => by unfold kfStep; exact knAll_n h3 h4) _ _ _, gatherL_n h1 h2]
noncomputable def findO (b : Int) (S : ZS) : ZS := keepF b (takeAll S)
theorem findO_n {b : Int} {S : ZS} {k : Nat} (h1 : k ≠ 12) (h2 : k ≠ 26) (h3 : k ≠ 13) (h4 : k ≠ 14) : findO b S k = S k := by
  unfold findO; rw [keepF_n h1 h2 h3 h4, takeAll_n h3 h4]
def firstL (G : ZS) : Int := itr (fun i f => if nOf G (rAt 60 (G 12) i) < nOf G f then rAt 60 (G 12) i else f) (G 26 0 - 1).toNat 1 (rAt 60 (G 12) 0)
theorem firstL_b {G : ZS} (h : CI G) : (0 : Int) ≤ firstL G ∧ firstL G ≤ 59 := by
  have hc := itr_inv (f := fun i f => if nOf G (rAt 60 (G 12) i) < nOf G f then rAt 60 (G 12) i else f) (P := fun _ f => (0 : Int) ≤ f ∧ f ≤ 59) (fun j s hs => by
    show (0 : Int) ≤ ite _ _ _ ∧ ite _ _ _ ≤ 59
    split
    · exact CI.at h 12 60 j ⟨by decide, by decide⟩
    · exact hs) (G 26 0 - 1).toNat 1 (rAt 60 (G 12) 0) (CI.at h 12 60 0 ⟨by decide, by decide⟩)
  exact hc
def seenP (S : ZS) (b p : Int) : Prop := anyI (fun d => pOf S d = p ∧ lookC S d b) (S 22 0).toNat 0
def takeP (S : ZS) (b d : Int) : Prop := rAt 60 (S 7) d = -1 ∧ rAt 20 (S 8) b = -1 ∧ ¬ seenP S b (pOf S d) ∧ anyI (hnP S (nOf S d) (tOf S d) (eOf S d)) 405 0
def shareP (S : ZS) (b o : Int) : Prop := anyI (fun d => lookC S d b ∧ seenP S o (pOf S d)) (S 22 0).toNat 0
def preJ (S : ZS) (b o : Int) : Prop := b ≠ o ∧ rAt 20 (S 8) b = -1 ∧ rAt 20 (S 8) o = -1 ∧ ¬ (rAt 20 (S 10) b ≠ -1 ∧ rAt 20 (S 10) o ≠ -1) ∧ ¬ shareP S b o
noncomputable def joinP (S : ZS) (b o : Int) : Prop := preJ S b o ∧ 0 < cntO (keepF o (findO b S))
/-- the rows that no call's answer rests on: scratch -/
def scr (k : Nat) : Bool := (12 ≤ k && k ≤ 19) || (26 ≤ k && k ≤ 28)
/-- alike but for scratch -/
def SC (S T : ZS) : Prop := ∀ k : Nat, scr k = false → T k = S k
theorem SC.rf {S : ZS} : SC S S := fun _ _ => rfl
theorem SC.tr {S T U : ZS} (h : SC S T) (h2 : SC T U) : SC S U := fun k hk => (h2 k hk).trans (h k hk)
theorem scr_ne {k q : Nat} (h : scr k = false) (hq : scr q = true) : k ≠ q := fun e => by rw [e, hq] at h; cases h
theorem SC_ga {b : Int} {S : ZS} : SC S (gatherL b S) := fun _ hk => gatherL_n (scr_ne hk rfl) (scr_ne hk rfl)
theorem SC_kf {b : Int} {S : ZS} : SC S (keepF b S) := fun _ hk => keepF_n (scr_ne hk rfl) (scr_ne hk rfl) (scr_ne hk rfl) (scr_ne hk rfl)
theorem SC_fo {b : Int} {S : ZS} : SC S (findO b S) := fun _ hk => findO_n (scr_ne hk rfl) (scr_ne hk rfl) (scr_ne hk rfl) (scr_ne hk rfl)
/-- which is the stronger one -/
def strP (S : ZS) (b o f1 f2 : Int) : Prop := rAt 20 (S 10) b ≠ -1 ∨ (rAt 20 (S 10) o = -1 ∧ (nOf S f1 < nOf S f2 ∨ (nOf S f1 = nOf S f2 ∧ f1 < f2)))
noncomputable def strongP (S : ZS) (b o : Int) : Prop := strP S b o (firstL (gatherL b S)) (firstL (gatherL o (gatherL b S)))
def lgF (G : ZS) (i : Int) (q : Int × Int) : Int × Int := (min q.1 (nOf G (rAt 60 (G 12) i)), max q.2 (nOf G (rAt 60 (G 12) i)))
def lgA (G : ZS) : Int × Int := itr (lgF G) (G 26 0).toNat 0 (1000, 0)
def thP (G : ZS) (lo hi i t : Int) : Prop := ¬ t = 0 ∨ (¬ nOf G (rAt 60 (G 12) i) = lo ∧ ¬ nOf G (rAt 60 (G 12) i) = hi)
noncomputable def thF (G : ZS) (lo hi i t : Int) : Int := b2 (thP G lo hi i t)
noncomputable def thA (G : ZS) : Int := itr (thF G (lgA G).1 (lgA G).2) (G 26 0).toNat 0 0
noncomputable def longP (G : ZS) : Prop := ¬ thA G = 0 ∧ 30 ≤ (lgA G).2 - (lgA G).1
theorem nOf_sc {S T : ZS} (h : SC S T) (x : Int) : nOf T x = nOf S x := by unfold nOf pOf; rw [h 2 rfl, h 3 rfl]
theorem in_X7_gatherLooks_7 : ∀ w ∈ wsX70, w ∈ wsX7_gatherLooks := by decide +kernel
theorem lk_X7_gatherLooks_26 : Cond.fieldLink RX7 26 "PlanetoidDesk" "looks" "LPlanetoidDesk$Looks;" ∈ wsX7_gatherLooks := by decide +kernel
theorem in_X7_gatherLooks_2 : ∀ w ∈ wsX20, w ∈ wsX7_gatherLooks := by decide +kernel
theorem lk_X7_gatherLooks_10 : Cond.fieldLink RX7 10 "PlanetoidDesk" "sky" "LPlanetoidDesk$Sky;" ∈ wsX7_gatherLooks := by decide +kernel
theorem in_X7_gatherLooks_6 : ∀ w ∈ wsX60, w ∈ wsX7_gatherLooks := by decide +kernel
theorem lk_X7_gatherLooks_19 : Cond.fieldLink RX7 19 "PlanetoidDesk" "bodies" "LPlanetoidDesk$Bodies;" ∈ wsX7_gatherLooks := by decide +kernel
abbrev rmct_X7_gatherLooks : Room := { frames := 2, cells := 0, slots := 0, locals := 45 }
set_option maxHeartbeats 4000000 in
set_option maxRecDepth 100000 in
theorem ct_X7_gatherLooks (l : Launch) (D : va_G) (cI cZ cJ : ClassId) (ad : Nat → Nat) (S : ZS) (hI : CI S) (hdis : dDis ad) (x0 : Int) (hx0 : ir x0)  : Met l yX7_gatherLooks wsX7_gatherLooks rmct_X7_gatherLooks (zP D cI cZ cJ (dW cI ad S) [.ref (ad 0), .int (zi x0)]) (zWv D (dW cI ad) (dA ad) (fun T => T = gatherL x0 S ∧ CI T)) 0 0 (dA ad) := by
  refine Met.ofW (cc := cX7_gatherLooks) (maxL := 3) (ret := none) (by decide) rfl ?_
  intro p e s m args below meth c s₁ B hml hv
  obtain ⟨rfl, hP, hK⟩ := hv
  have hx := B.exec
  have hb := B.bytes
  have hr := B.returns
  have hts := atoms_spec (ws := wsX7_gatherLooks) B.pre
  have hown : s.vm.findClass RX7 = some m.cls := findClass_of_methodNamed B.named
  have hlocks := B.notSynchronized
  have hl := lv_entry ([.ref (ad 0), .int (zi x0)]) (n := 3) (Nat.le_of_ble_eq_true rfl)
  rw [lg_entry_eq]
  generalize (lg_sl ([.ref (ad 0), .int (zi x0)]) ++ List.replicate (3 - (lg_sl ([.ref (ad 0), .int (zi x0)])).length) Slot.unset).toArray = ls at hl ⊢
  have hl : lv_has ls 3 [(0, .ref (ad 0)), (1, .int (zi x0))] := hl
  have hS : va_S (dA ad) s.heap s.heap [] := va_S.rf
  show W p l e rmct_X7_gatherLooks s m ([.ref (ad 0), .int (zi x0)] : List Value).toArray below meth c s.heap [] 0 0 (MQ below (zWv D (dW cI ad) (dA ad) (fun T => T = gatherL x0 S ∧ CI T)) ([.ref (ad 0), .int (zi x0)] : List Value).toArray s 0 0 (dA ad)) (F0 m 0 ls [])
  have hd0 : (0 : Int) ≤ S 22 0 ∧ S 22 0 ≤ 60 := hI 22 0
  refine lv_aload_n hx hb dX7_gatherLooks_0 rfl (lv_at hl 0 rfl) ?_
  refine va_get (D := D) (ci := 7) (v := .ref (ad 3)) (C := RX7) (T := TX7) (N := 6) hx hb hts in_X7_gatherLooks_7 hown hK.1 hP 0 rfl rfl 2 (by decide) (hts _ lk_X7_gatherLooks_26) (fun _ h9 => h9) rfl dX7_gatherLooks_1 ?_
  refine zi_iconst hx hb dX7_gatherLooks_4 ?_
  refine va_putN (D := D) (ci := 2) (v := .int (zi 0)) (ty := .int) (C := RX2) (T := TX2) (N := 2) hx hb hts in_X7_gatherLooks_2 tyX2 tyX2_ok nmX2 hown hK.1 hP (dW_D hdis _) hS 3 rfl rfl 1 (by decide) (va_Nw.use rfl (hK.2 _ (List.mem_of_getElem? (i := 3) rfl))) (fun _ h9 => h9) rfl (by decide +kernel) rfl rfl (Nat.le_of_ble_eq_true rfl) dX7_gatherLooks_5 (fun H locs hP _ hS => ?_)
  have hP : va_P D vwCl (dW cI ad (su S 26 (fun _ => 0))) H := hP
  have hI_5 : CI (su S 26 (fun _ => 0)) := CI.upc hI 26 0 (show (0 : Int) ≤ 0 ∧ 0 ≤ 60 from ⟨by omega, by omega⟩)
  generalize eS_5 : su S 26 (fun _ => 0) = S_5 at hP hI_5
  refine zi_iconst hx hb dX7_gatherLooks_8 ?_
  have K_10 : ∀ (k : Nat) (n : Nat) (i : Int) (T : ZS), (i + (n : Int) = S 22 0) → (0 ≤ i) → (itr (gaStep x0) n i T = gatherL x0 S) → (T 22 0 = S 22 0) → (T 26 0 ≤ i) → ((n : Int) < (k : Int)) → CI T → ∀ (H : Heap) (locs : List Loc), va_P D vwCl (dW cI ad T) H → va_S (dA ad) s.heap H locs → ∀ (ls : Array Slot), lv_has ls 3 [(0, .ref (ad 0)), (1, .int (zi x0)), (2, .int (zi i))] → W p l e rmct_X7_gatherLooks s m ([.ref (ad 0), .int (zi x0)] : List Value).toArray below meth c H locs 0 0 (MQ below (zWv D (dW cI ad) (dA ad) (fun T => T = gatherL x0 S ∧ CI T)) ([.ref (ad 0), .int (zi x0)] : List Value).toArray s 0 0 (dA ad)) (F0 m 10 ls []) := by
    intro k
    induction k with
    | zero => intro n i T h_n h_i h_R h_d h_c hk hIT; exact absurd hk (by omega)
    | succ k ih_10 =>
      intro n i T h_n h_i h_R h_d h_c hk hIT H locs hP hS ls hl
      refine lv_iload_n hx hb dX7_gatherLooks_10 rfl (lv_at hl 2 rfl) ?_
      refine lv_aload_n hx hb dX7_gatherLooks_11 rfl (lv_at hl 0 rfl) ?_
      refine va_get (D := D) (ci := 7) (v := .ref (ad 1)) (C := RX7) (T := TX7) (N := 6) hx hb hts in_X7_gatherLooks_7 hown hK.1 hP 0 rfl rfl 0 (by decide) (hts _ lk_X7_gatherLooks_10) (fun _ h9 => h9) rfl dX7_gatherLooks_12 ?_
      refine va_getN (D := D) (ci := 6) (v := .int (zi (T 22 0))) (C := RX6) (T := TX6) (N := 10) hx hb hts in_X7_gatherLooks_6 hown hK.1 hP 1 rfl rfl 9 (by decide) (va_Nw.use rfl (hK.2 _ (List.mem_of_getElem? (i := 6) rfl))) (fun _ h9 => h9) rfl dX7_gatherLooks_15 ?_
      have f_15 : (0 : Int) ≤ T 22 0 ∧ T 22 0 ≤ 60 := hIT 22 0
      refine zi_icmp_ge (tgt := 47) hx hb ⟨by omega, by omega⟩ ⟨by omega, by omega⟩ dX7_gatherLooks_18 (by decide) (fun c_18 => ?_) (fun c_18 => ?_)
      · obtain rfl : n = 0 := by omega
        exact zr_wv (T := T) hx hb hr hlocks dX7_gatherLooks_47 hP hS (by exact ⟨h_R, hIT⟩)
      · obtain ⟨n, rfl⟩ : ∃ n9 : Nat, n = n9 + 1 := ⟨n - 1, by omega⟩
        have ft_26 : (0 : Int) ≤ T 26 0 ∧ T 26 0 ≤ 60 := hIT 26 0
        refine lv_aload_n hx hb dX7_gatherLooks_21 rfl (lv_at hl 0 rfl) ?_
        refine va_get (D := D) (ci := 7) (v := .ref (ad 2)) (C := RX7) (T := TX7) (N := 6) hx hb hts in_X7_gatherLooks_7 hown hK.1 hP 0 rfl rfl 1 (by decide) (hts _ lk_X7_gatherLooks_19) (fun _ h9 => h9) rfl dX7_gatherLooks_22 ?_
        refine lv_iload_n hx hb dX7_gatherLooks_25 rfl (lv_at hl 2 rfl) ?_
        refine lv_iload_n hx hb dX7_gatherLooks_26 rfl (lv_at hl 1 rfl) ?_
        refine zk_r (zc_V (As := [.int (zi i), .int (zi x0)]) (rest := []) ⟨hx, hb, hml, hown, hts⟩ (ct_X0_isLook l D cI cZ cJ ad T hIT i x0 ⟨by omega, by omega⟩ ⟨by omega, by omega⟩) (cwV 2 hts gX7_gatherLooks_X0_isLook rfl rfl rfl (by decide +kernel) ⟨Nat.le_of_ble_eq_true rfl, Nat.le_of_ble_eq_true rfl⟩) hK hP (q0 := 2) (ci := 0) rfl rfl rfl rfl hl.1 rfl (Nat.le_of_ble_eq_true rfl) dX7_gatherLooks_27 ⟨Nat.zero_le _, Nat.zero_le _⟩) ?_
        refine zi_top (fun (r_27 : Int) (er_27 : r_27 = b2 (lookC T i x0)) => ?_)
        have fr_27 : (0 : Int) ≤ r_27 ∧ r_27 ≤ 1 := by rw [er_27]; exact b2_b
        refine zi_if_eq (tgt := 41) hx hb ⟨by omega, by omega⟩ dX7_gatherLooks_30 (by decide) (fun c_30 => ?_) (fun c_30 => ?_)
        · refine zi_iinc (k := 2) (lv' := [(2, .int (zi (i + 1))), (0, .ref (ad 0)), (1, .int (zi x0))]) hx hb dX7_gatherLooks_41 hl rfl (by decide) rfl (fun ls hl => ?_)
          refine lv_goto (tgt := 10) hx hb dX7_gatherLooks_44 (by decide) ?_
          exact ih_10 n (i + 1) T (by first | omega | assumption) (by first | omega | assumption) (by rw [← h_R, itr_s]; congr 1; exact (cif_f (b2_0 er_27 c_30)).symm) h_d (by omega) (by omega) hIT _ _ hP hS _ (lv_sub hl [1, 2, 0] rfl)
        · refine lv_aload_n hx hb dX7_gatherLooks_33 rfl (lv_at hl 0 rfl) ?_
          refine va_get (D := D) (ci := 7) (v := .ref (ad 3)) (C := RX7) (T := TX7) (N := 6) hx hb hts in_X7_gatherLooks_7 hown hK.1 hP 0 rfl rfl 2 (by decide) (hts _ lk_X7_gatherLooks_26) (fun _ h9 => h9) rfl dX7_gatherLooks_34 ?_
          refine lv_iload_n hx hb dX7_gatherLooks_37 rfl (lv_at hl 2 rfl) ?_
          refine zk_wv (zc_V (As := [.int (zi i)]) (rest := []) ⟨hx, hb, hml, hown, hts⟩ (ct_X2_add l D cI cZ cJ ad T hIT hdis i ⟨by omega, by omega⟩ (by omega) (by omega) (by omega)) (cwV 1 hts gX7_gatherLooks_X2_add rfl rfl rfl (by decide +kernel) ⟨Nat.le_of_ble_eq_true rfl, Nat.le_of_ble_eq_true rfl⟩) hK hP (q0 := 3) (ci := 2) rfl rfl rfl rfl hl.1 rfl (Nat.le_of_ble_eq_true rfl) dX7_gatherLooks_38 ⟨Nat.zero_le _, Nat.zero_le _⟩) hS (fun S_38 H locs hp_38 hP hS => ?_)
          obtain ⟨e9, hI_38⟩ := hp_38
          have eS_38 := e9.symm; clear e9
          refine zi_iinc (k := 2) (lv' := [(2, .int (zi (i + 1))), (0, .ref (ad 0)), (1, .int (zi x0))]) hx hb dX7_gatherLooks_41 hl rfl (by decide) rfl (fun ls hl => ?_)
          refine lv_goto (tgt := 10) hx hb dX7_gatherLooks_44 (by decide) ?_
          exact ih_10 n (i + 1) S_38 (by first | omega | assumption) (by first | omega | assumption) (by rw [← h_R, itr_s]; congr 1; exact ((cif_t (b2_1 er_27 c_30)).trans eS_38).symm) (by rw [← eS_38]; exact h_d) (by rw [← eS_38]; show T 26 0 + 1 ≤ i + 1; omega) (by omega) hI_38 _ _ hP hS _ (lv_sub hl [1, 2, 0] rfl)
  refine lv_istore_n (lv' := [(2, .int (zi 0)), (0, .ref (ad 0)), (1, .int (zi x0))]) hx hb dX7_gatherLooks_9 rfl hl (by decide) rfl (fun ls hl => ?_)
  exact K_10 ((S 22 0).toNat + 1) ((S 22 0).toNat) 0 S_5 (by first | omega | assumption) (by first | omega | assumption) (by rw [gatherL, eS_5]) (by rw [← eS_5]; rfl) (by rw [← eS_5]; exact Int.le_refl 0) (by omega) hI_5 _ _ hP hS _ (lv_sub hl [1, 2, 0] rfl)

theorem in_X7_countLooks_7 : ∀ w ∈ wsX70, w ∈ wsX7_countLooks := by decide +kernel
theorem lk_X7_countLooks_26 : Cond.fieldLink RX7 26 "PlanetoidDesk" "looks" "LPlanetoidDesk$Looks;" ∈ wsX7_countLooks := by decide +kernel
theorem in_X7_countLooks_2 : ∀ w ∈ wsX20, w ∈ wsX7_countLooks := by decide +kernel
abbrev rmct_X7_countLooks : Room := { frames := 3, cells := 0, slots := 0, locals := 67 }
set_option maxHeartbeats 4000000 in
set_option maxRecDepth 100000 in
theorem ct_X7_countLooks (l : Launch) (D : va_G) (cI cZ cJ : ClassId) (ad : Nat → Nat) (S : ZS) (hI : CI S) (hdis : dDis ad) (x0 : Int) (hx0 : ir x0)  : Met l yX7_countLooks wsX7_countLooks rmct_X7_countLooks (zP D cI cZ cJ (dW cI ad S) [.ref (ad 0), .int (zi x0)]) (zWi D (dW cI ad) (dA ad) (fun r T => r = gatherL x0 S 26 0 ∧ T = gatherL x0 S ∧ CI T)) 0 0 (dA ad) := by
  refine Met.ofW (cc := cX7_countLooks) (maxL := 2) (ret := (some .int)) (by decide) rfl ?_
  intro p e s m args below meth c s₁ B hml hv
  obtain ⟨rfl, hP, hK⟩ := hv
  have hx := B.exec
  have hb := B.bytes
  have hr := B.returns
  have hts := atoms_spec (ws := wsX7_countLooks) B.pre
  have hown : s.vm.findClass RX7 = some m.cls := findClass_of_methodNamed B.named
  have hlocks := B.notSynchronized
  have hl := lv_entry ([.ref (ad 0), .int (zi x0)]) (n := 2) (Nat.le_of_ble_eq_true rfl)
  rw [lg_entry_eq]
  generalize (lg_sl ([.ref (ad 0), .int (zi x0)]) ++ List.replicate (2 - (lg_sl ([.ref (ad 0), .int (zi x0)])).length) Slot.unset).toArray = ls at hl ⊢
  have hl : lv_has ls 2 [(0, .ref (ad 0)), (1, .int (zi x0))] := hl
  have hS : va_S (dA ad) s.heap s.heap [] := va_S.rf
  show W p l e rmct_X7_countLooks s m ([.ref (ad 0), .int (zi x0)] : List Value).toArray below meth c s.heap [] 0 0 (MQ below (zWi D (dW cI ad) (dA ad) (fun r T => r = gatherL x0 S 26 0 ∧ T = gatherL x0 S ∧ CI T)) ([.ref (ad 0), .int (zi x0)] : List Value).toArray s 0 0 (dA ad)) (F0 m 0 ls [])
  refine lv_aload_n hx hb dX7_countLooks_0 rfl (lv_at hl 0 rfl) ?_
  refine lv_iload_n hx hb dX7_countLooks_1 rfl (lv_at hl 1 rfl) ?_
  refine zk_wv (zc_V (As := [.int (zi x0)]) (rest := []) ⟨hx, hb, hml, hown, hts⟩ (ct_X7_gatherLooks l D cI cZ cJ ad S hI hdis x0 ⟨by omega, by omega⟩) (cwV 1 hts gX7_countLooks_X7_gatherLooks rfl rfl rfl (by decide +kernel) ⟨Nat.le_of_ble_eq_true rfl, Nat.le_of_ble_eq_true rfl⟩) hK hP (q0 := 0) (ci := 7) rfl rfl rfl rfl hl.1 rfl (Nat.le_of_ble_eq_true rfl) dX7_countLooks_2 ⟨Nat.zero_le _, Nat.zero_le _⟩) hS (fun S_2 H locs hp_2 hP hS => ?_)
  obtain ⟨e9, hI_2⟩ := hp_2
  have eS_2 := e9.symm; clear e9
  refine lv_aload_n hx hb dX7_countLooks_5 rfl (lv_at hl 0 rfl) ?_
  refine va_get (D := D) (ci := 7) (v := .ref (ad 3)) (C := RX7) (T := TX7) (N := 6) hx hb hts in_X7_countLooks_7 hown hK.1 hP 0 rfl rfl 2 (by decide) (hts _ lk_X7_countLooks_26) (fun _ h9 => h9) rfl dX7_countLooks_6 ?_
  refine va_getN (D := D) (ci := 2) (v := .int (zi (S_2 26 0))) (C := RX2) (T := TX2) (N := 2) hx hb hts in_X7_countLooks_2 hown hK.1 hP 3 rfl rfl 1 (by decide) (va_Nw.use rfl (hK.2 _ (List.mem_of_getElem? (i := 3) rfl))) (fun _ h9 => h9) rfl dX7_countLooks_9 ?_
  have f_9 : (0 : Int) ≤ S_2 26 0 ∧ S_2 26 0 ≤ 60 := hI_2 26 0
  exact zr_wi (T := S_2) hx hb hr hlocks dX7_countLooks_12 hP hS (by exact ⟨by rw [eS_2], eS_2.symm, hI_2⟩)

theorem in_X7_firstLookOf_7 : ∀ w ∈ wsX70, w ∈ wsX7_firstLookOf := by decide +kernel
theorem lk_X7_firstLookOf_26 : Cond.fieldLink RX7 26 "PlanetoidDesk" "looks" "LPlanetoidDesk$Looks;" ∈ wsX7_firstLookOf := by decide +kernel
theorem in_X7_firstLookOf_2 : ∀ w ∈ wsX20, w ∈ wsX7_firstLookOf := by decide +kernel
theorem lk_X7_firstLookOf_10 : Cond.fieldLink RX7 10 "PlanetoidDesk" "sky" "LPlanetoidDesk$Sky;" ∈ wsX7_firstLookOf := by decide +kernel
abbrev rmct_X7_firstLookOf : Room := { frames := 3, cells := 0, slots := 0, locals := 67 }
set_option maxHeartbeats 4000000 in
set_option maxRecDepth 100000 in
theorem ct_X7_firstLookOf (l : Launch) (D : va_G) (cI cZ cJ : ClassId) (ad : Nat → Nat) (S : ZS) (hI : CI S) (hdis : dDis ad) (x0 : Int) (hx0 : ir x0)  : Met l yX7_firstLookOf wsX7_firstLookOf rmct_X7_firstLookOf (zP D cI cZ cJ (dW cI ad S) [.ref (ad 0), .int (zi x0)]) (zWi D (dW cI ad) (dA ad) (fun r T => r = firstL (gatherL x0 S) ∧ T = gatherL x0 S ∧ CI T)) 0 0 (dA ad) := by
  refine Met.ofW (cc := cX7_firstLookOf) (maxL := 4) (ret := (some .int)) (by decide) rfl ?_
  intro p e s m args below meth c s₁ B hml hv
  obtain ⟨rfl, hP, hK⟩ := hv
  have hx := B.exec
  have hb := B.bytes
  have hr := B.returns
  have hts := atoms_spec (ws := wsX7_firstLookOf) B.pre
  have hown : s.vm.findClass RX7 = some m.cls := findClass_of_methodNamed B.named
  have hlocks := B.notSynchronized
  have hl := lv_entry ([.ref (ad 0), .int (zi x0)]) (n := 4) (Nat.le_of_ble_eq_true rfl)
  rw [lg_entry_eq]
  generalize (lg_sl ([.ref (ad 0), .int (zi x0)]) ++ List.replicate (4 - (lg_sl ([.ref (ad 0), .int (zi x0)])).length) Slot.unset).toArray = ls at hl ⊢
  have hl : lv_has ls 4 [(0, .ref (ad 0)), (1, .int (zi x0))] := hl
  have hS : va_S (dA ad) s.heap s.heap [] := va_S.rf
  show W p l e rmct_X7_firstLookOf s m ([.ref (ad 0), .int (zi x0)] : List Value).toArray below meth c s.heap [] 0 0 (MQ below (zWi D (dW cI ad) (dA ad) (fun r T => r = firstL (gatherL x0 S) ∧ T = gatherL x0 S ∧ CI T)) ([.ref (ad 0), .int (zi x0)] : List Value).toArray s 0 0 (dA ad)) (F0 m 0 ls [])
  refine lv_aload_n hx hb dX7_firstLookOf_0 rfl (lv_at hl 0 rfl) ?_
  refine lv_iload_n hx hb dX7_firstLookOf_1 rfl (lv_at hl 1 rfl) ?_
  refine zk_wv (zc_V (As := [.int (zi x0)]) (rest := []) ⟨hx, hb, hml, hown, hts⟩ (ct_X7_gatherLooks l D cI cZ cJ ad S hI hdis x0 ⟨by omega, by omega⟩) (cwV 1 hts gX7_firstLookOf_X7_gatherLooks rfl rfl rfl (by decide +kernel) ⟨Nat.le_of_ble_eq_true rfl, Nat.le_of_ble_eq_true rfl⟩) hK hP (q0 := 0) (ci := 7) rfl rfl rfl rfl hl.1 rfl (Nat.le_of_ble_eq_true rfl) dX7_firstLookOf_2 ⟨Nat.zero_le _, Nat.zero_le _⟩) hS (fun S_2 H locs hp_2 hP hS => ?_)
  obtain ⟨e9, hI_2⟩ := hp_2
  have eS_2 := e9.symm; clear e9
  have fk_26 : (0 : Int) ≤ S_2 26 0 ∧ S_2 26 0 ≤ 60 := hI_2 26 0
  refine lv_aload_n hx hb dX7_firstLookOf_5 rfl (lv_at hl 0 rfl) ?_
  refine va_get (D := D) (ci := 7) (v := .ref (ad 3)) (C := RX7) (T := TX7) (N := 6) hx hb hts in_X7_firstLookOf_7 hown hK.1 hP 0 rfl rfl 2 (by decide) (hts _ lk_X7_firstLookOf_26) (fun _ h9 => h9) rfl dX7_firstLookOf_6 ?_
  refine zi_iconst hx hb dX7_firstLookOf_9 ?_
  refine zk_r (zc_V (As := [.int (zi 0)]) (rest := []) ⟨hx, hb, hml, hown, hts⟩ (ct_X2_dotAt l D cI cZ cJ ad S_2 hI_2 0 ⟨by decide, by decide⟩) (cwV 1 hts gX7_firstLookOf_X2_dotAt rfl rfl rfl (by decide +kernel) ⟨Nat.le_of_ble_eq_true rfl, Nat.le_of_ble_eq_true rfl⟩) hK hP (q0 := 3) (ci := 2) rfl rfl rfl rfl hl.1 rfl (Nat.le_of_ble_eq_true rfl) dX7_firstLookOf_10 ⟨Nat.zero_le _, Nat.zero_le _⟩) ?_
  refine zi_top (fun (r_10 : Int) (er_10 : r_10 = rAt 60 (S_2 12) 0) => ?_)
  have fr_10 : (0 : Int) ≤ r_10 ∧ r_10 ≤ 59 := by rw [er_10]; exact CI.at hI_2 12 60 0 ⟨by decide, by decide⟩
  refine lv_istore_n (lv' := [(2, .int (zi r_10)), (0, .ref (ad 0)), (1, .int (zi x0))]) hx hb dX7_firstLookOf_13 rfl hl (by decide) rfl (fun ls hl => ?_)
  refine zi_iconst hx hb dX7_firstLookOf_14 ?_
  have K_16 : ∀ (k : Nat) (n : Nat) (f i : Int), ((i + (n : Int) = S_2 26 0 ∨ (n = 0 ∧ S_2 26 0 ≤ i))) → (1 ≤ i ∧ i ≤ 61) → (0 ≤ f ∧ f ≤ 59) → (itr (fun i f => if nOf S_2 (rAt 60 (S_2 12) i) < nOf S_2 f then rAt 60 (S_2 12) i else f) n i f = firstL S_2) → ((n : Int) < (k : Int)) → ∀ (ls : Array Slot), lv_has ls 4 [(0, .ref (ad 0)), (1, .int (zi x0)), (2, .int (zi f)), (3, .int (zi i))] → W p l e rmct_X7_firstLookOf s m ([.ref (ad 0), .int (zi x0)] : List Value).toArray below meth c H locs 0 0 (MQ below (zWi D (dW cI ad) (dA ad) (fun r T => r = firstL (gatherL x0 S) ∧ T = gatherL x0 S ∧ CI T)) ([.ref (ad 0), .int (zi x0)] : List Value).toArray s 0 0 (dA ad)) (F0 m 16 ls []) := by
    intro k
    induction k with
    | zero => intro n f i h_n h_i h_f h_R hk; exact absurd hk (by omega)
    | succ k ih_16 =>
      intro n f i h_n h_i h_f h_R hk ls hl
      refine lv_iload_n hx hb dX7_firstLookOf_16 rfl (lv_at hl 3 rfl) ?_
      refine lv_aload_n hx hb dX7_firstLookOf_17 rfl (lv_at hl 0 rfl) ?_
      refine va_get (D := D) (ci := 7) (v := .ref (ad 3)) (C := RX7) (T := TX7) (N := 6) hx hb hts in_X7_firstLookOf_7 hown hK.1 hP 0 rfl rfl 2 (by decide) (hts _ lk_X7_firstLookOf_26) (fun _ h9 => h9) rfl dX7_firstLookOf_18 ?_
      refine va_getN (D := D) (ci := 2) (v := .int (zi (S_2 26 0))) (C := RX2) (T := TX2) (N := 2) hx hb hts in_X7_firstLookOf_2 hown hK.1 hP 3 rfl rfl 1 (by decide) (va_Nw.use rfl (hK.2 _ (List.mem_of_getElem? (i := 3) rfl))) (fun _ h9 => h9) rfl dX7_firstLookOf_21 ?_
      have f_21 : (0 : Int) ≤ S_2 26 0 ∧ S_2 26 0 ≤ 60 := hI_2 26 0
      refine zi_icmp_ge (tgt := 68) hx hb ⟨by omega, by omega⟩ ⟨by omega, by omega⟩ dX7_firstLookOf_24 (by decide) (fun c_24 => ?_) (fun c_24 => ?_)
      · obtain rfl : n = 0 := by omega
        refine lv_iload_n hx hb dX7_firstLookOf_68 rfl (lv_at hl 2 rfl) ?_
        exact zr_wi (T := S_2) hx hb hr hlocks dX7_firstLookOf_69 hP hS (by exact ⟨by rw [eS_2, ← h_R]; rfl, eS_2.symm, hI_2⟩)
      · obtain ⟨n, rfl⟩ : ∃ n9 : Nat, n = n9 + 1 := ⟨n - 1, by omega⟩
        refine lv_aload_n hx hb dX7_firstLookOf_27 rfl (lv_at hl 0 rfl) ?_
        refine va_get (D := D) (ci := 7) (v := .ref (ad 1)) (C := RX7) (T := TX7) (N := 6) hx hb hts in_X7_firstLookOf_7 hown hK.1 hP 0 rfl rfl 0 (by decide) (hts _ lk_X7_firstLookOf_10) (fun _ h9 => h9) rfl dX7_firstLookOf_28 ?_
        refine lv_aload_n hx hb dX7_firstLookOf_31 rfl (lv_at hl 0 rfl) ?_
        refine va_get (D := D) (ci := 7) (v := .ref (ad 3)) (C := RX7) (T := TX7) (N := 6) hx hb hts in_X7_firstLookOf_7 hown hK.1 hP 0 rfl rfl 2 (by decide) (hts _ lk_X7_firstLookOf_26) (fun _ h9 => h9) rfl dX7_firstLookOf_32 ?_
        refine lv_iload_n hx hb dX7_firstLookOf_35 rfl (lv_at hl 3 rfl) ?_
        refine zk_r (zc_V (As := [.int (zi i)]) (rest := [.ref (ad 1)]) ⟨hx, hb, hml, hown, hts⟩ (ct_X2_dotAt l D cI cZ cJ ad S_2 hI_2 i ⟨by omega, by omega⟩) (cwV 1 hts gX7_firstLookOf_X2_dotAt rfl rfl rfl (by decide +kernel) ⟨Nat.le_of_ble_eq_true rfl, Nat.le_of_ble_eq_true rfl⟩) hK hP (q0 := 3) (ci := 2) rfl rfl rfl rfl hl.1 rfl (Nat.le_of_ble_eq_true rfl) dX7_firstLookOf_36 ⟨Nat.zero_le _, Nat.zero_le _⟩) ?_
        refine zi_top (fun (r_36 : Int) (er_36 : r_36 = rAt 60 (S_2 12) i) => ?_)
        have fr_36 : (0 : Int) ≤ r_36 ∧ r_36 ≤ 59 := by rw [er_36]; exact CI.at hI_2 12 60 i ⟨by decide, by decide⟩
        refine zk_r (zc_V (As := [.int (zi r_36)]) (rest := []) ⟨hx, hb, hml, hown, hts⟩ (ct_X6_nightOf l D cI cZ cJ ad S_2 hI_2 r_36 ⟨by omega, by omega⟩) (cwV 1 hts gX7_firstLookOf_X6_nightOf rfl rfl rfl (by decide +kernel) ⟨Nat.le_of_ble_eq_true rfl, Nat.le_of_ble_eq_true rfl⟩) hK hP (q0 := 1) (ci := 6) rfl rfl rfl rfl hl.1 rfl (Nat.le_of_ble_eq_true rfl) dX7_firstLookOf_39 ⟨Nat.zero_le _, Nat.zero_le _⟩) ?_
        refine zi_top (fun (r_39 : Int) (er_39 : r_39 = nOf S_2 r_36) => ?_)
        have fr_39 : (0 : Int) ≤ r_39 ∧ r_39 ≤ 999 := by rw [er_39]; exact nOf_b hI_2 r_36
        refine lv_aload_n hx hb dX7_firstLookOf_42 rfl (lv_at hl 0 rfl) ?_
        refine va_get (D := D) (ci := 7) (v := .ref (ad 1)) (C := RX7) (T := TX7) (N := 6) hx hb hts in_X7_firstLookOf_7 hown hK.1 hP 0 rfl rfl 0 (by decide) (hts _ lk_X7_firstLookOf_10) (fun _ h9 => h9) rfl dX7_firstLookOf_43 ?_
        refine lv_iload_n hx hb dX7_firstLookOf_46 rfl (lv_at hl 2 rfl) ?_
        refine zk_r (zc_V (As := [.int (zi f)]) (rest := [.int (zi r_39)]) ⟨hx, hb, hml, hown, hts⟩ (ct_X6_nightOf l D cI cZ cJ ad S_2 hI_2 f ⟨by omega, by omega⟩) (cwV 1 hts gX7_firstLookOf_X6_nightOf rfl rfl rfl (by decide +kernel) ⟨Nat.le_of_ble_eq_true rfl, Nat.le_of_ble_eq_true rfl⟩) hK hP (q0 := 1) (ci := 6) rfl rfl rfl rfl hl.1 rfl (Nat.le_of_ble_eq_true rfl) dX7_firstLookOf_47 ⟨Nat.zero_le _, Nat.zero_le _⟩) ?_
        refine zi_top (fun (r_47 : Int) (er_47 : r_47 = nOf S_2 f) => ?_)
        have fr_47 : (0 : Int) ≤ r_47 ∧ r_47 ≤ 999 := by rw [er_47]; exact nOf_b hI_2 f
        refine zi_icmp_ge (tgt := 62) hx hb ⟨by omega, by omega⟩ ⟨by omega, by omega⟩ dX7_firstLookOf_50 (by decide) (fun c_50 => ?_) (fun c_50 => ?_)
        · refine zi_iinc (k := 3) (lv' := [(3, .int (zi (i + 1))), (0, .ref (ad 0)), (1, .int (zi x0)), (2, .int (zi f))]) hx hb dX7_firstLookOf_62 hl rfl (by decide) rfl (fun ls hl => ?_)
          refine lv_goto (tgt := 16) hx hb dX7_firstLookOf_65 (by decide) ?_
          exact ih_16 n f (i + 1) (by first | omega | assumption) ⟨by omega, by omega⟩ (by omega) (by rw [← h_R, itr_s, if_neg (show ¬ nOf S_2 (rAt 60 (S_2 12) i) < nOf S_2 f by rw [← er_36, ← er_39, ← er_47]; omega)]) (by omega) _ (lv_sub hl [1, 2, 3, 0] rfl)
        · refine lv_aload_n hx hb dX7_firstLookOf_53 rfl (lv_at hl 0 rfl) ?_
          refine va_get (D := D) (ci := 7) (v := .ref (ad 3)) (C := RX7) (T := TX7) (N := 6) hx hb hts in_X7_firstLookOf_7 hown hK.1 hP 0 rfl rfl 2 (by decide) (hts _ lk_X7_firstLookOf_26) (fun _ h9 => h9) rfl dX7_firstLookOf_54 ?_
          refine lv_iload_n hx hb dX7_firstLookOf_57 rfl (lv_at hl 3 rfl) ?_
          refine zk_r (zc_V (As := [.int (zi i)]) (rest := []) ⟨hx, hb, hml, hown, hts⟩ (ct_X2_dotAt l D cI cZ cJ ad S_2 hI_2 i ⟨by omega, by omega⟩) (cwV 1 hts gX7_firstLookOf_X2_dotAt rfl rfl rfl (by decide +kernel) ⟨Nat.le_of_ble_eq_true rfl, Nat.le_of_ble_eq_true rfl⟩) hK hP (q0 := 3) (ci := 2) rfl rfl rfl rfl hl.1 rfl (Nat.le_of_ble_eq_true rfl) dX7_firstLookOf_58 ⟨Nat.zero_le _, Nat.zero_le _⟩) ?_
          refine zi_top (fun (r_58 : Int) (er_58 : r_58 = rAt 60 (S_2 12) i) => ?_)
          have fr_58 : (0 : Int) ≤ r_58 ∧ r_58 ≤ 59 := by rw [er_58]; exact CI.at hI_2 12 60 i ⟨by decide, by decide⟩
          refine lv_istore_n (lv' := [(2, .int (zi r_58)), (0, .ref (ad 0)), (1, .int (zi x0)), (3, .int (zi i))]) hx hb dX7_firstLookOf_61 rfl hl (by decide) rfl (fun ls hl => ?_)
          refine zi_iinc (k := 3) (lv' := [(3, .int (zi (i + 1))), (2, .int (zi r_58)), (0, .ref (ad 0)), (1, .int (zi x0))]) hx hb dX7_firstLookOf_62 hl rfl (by decide) rfl (fun ls hl => ?_)
          refine lv_goto (tgt := 16) hx hb dX7_firstLookOf_65 (by decide) ?_
          exact ih_16 n r_58 (i + 1) (by first | omega | assumption) ⟨by omega, by omega⟩ (by omega) (by rw [← h_R, itr_s, if_pos (show nOf S_2 (rAt 60 (S_2 12) i) < nOf S_2 f by rw [← er_36, ← er_39, ← er_47]; omega), er_58]) (by omega) _ (lv_sub hl [2, 3, 1, 0] rfl)
  refine lv_istore_n (lv' := [(3, .int (zi 1)), (2, .int (zi r_10)), (0, .ref (ad 0)), (1, .int (zi x0))]) hx hb dX7_firstLookOf_15 rfl hl (by decide) rfl (fun ls hl => ?_)
  exact K_16 ((S_2 26 0 - 1).toNat + 1) ((S_2 26 0 - 1).toNat) r_10 1 (by first | omega | assumption) ⟨by omega, by omega⟩ (by omega) (by rw [firstL, er_10]) (by omega) _ (lv_sub hl [2, 3, 1, 0] rfl)

theorem in_X7_keepFitting_7 : ∀ w ∈ wsX70, w ∈ wsX7_keepFitting := by decide +kernel
theorem lk_X7_keepFitting_26 : Cond.fieldLink RX7 26 "PlanetoidDesk" "looks" "LPlanetoidDesk$Looks;" ∈ wsX7_keepFitting := by decide +kernel
theorem in_X7_keepFitting_2 : ∀ w ∈ wsX20, w ∈ wsX7_keepFitting := by decide +kernel
theorem lk_X7_keepFitting_33 : Cond.fieldLink RX7 33 "PlanetoidDesk" "fitting" "LPlanetoidDesk$Orbits;" ∈ wsX7_keepFitting := by decide +kernel
theorem lk_X7_keepFitting_10 : Cond.fieldLink RX7 10 "PlanetoidDesk" "sky" "LPlanetoidDesk$Sky;" ∈ wsX7_keepFitting := by decide +kernel
abbrev rmct_X7_keepFitting : Room := { frames := 3, cells := 0, slots := 0, locals := 72 }
set_option maxHeartbeats 4000000 in
set_option maxRecDepth 100000 in
theorem ct_X7_keepFitting (l : Launch) (D : va_G) (cI cZ cJ : ClassId) (ad : Nat → Nat) (S : ZS) (hI : CI S) (hdis : dDis ad) (x0 : Int) (hx0 : ir x0)  : Met l yX7_keepFitting wsX7_keepFitting rmct_X7_keepFitting (zP D cI cZ cJ (dW cI ad S) [.ref (ad 0), .int (zi x0)]) (zWv D (dW cI ad) (dA ad) (fun T => T = keepF x0 S ∧ CI T)) 0 0 (dA ad) := by
  refine Met.ofW (cc := cX7_keepFitting) (maxL := 4) (ret := none) (by decide) rfl ?_
  intro p e s m args below meth c s₁ B hml hv
  obtain ⟨rfl, hP, hK⟩ := hv
  have hx := B.exec
  have hb := B.bytes
  have hr := B.returns
  have hts := atoms_spec (ws := wsX7_keepFitting) B.pre
  have hown : s.vm.findClass RX7 = some m.cls := findClass_of_methodNamed B.named
  have hlocks := B.notSynchronized
  have hl := lv_entry ([.ref (ad 0), .int (zi x0)]) (n := 4) (Nat.le_of_ble_eq_true rfl)
  rw [lg_entry_eq]
  generalize (lg_sl ([.ref (ad 0), .int (zi x0)]) ++ List.replicate (4 - (lg_sl ([.ref (ad 0), .int (zi x0)])).length) Slot.unset).toArray = ls at hl ⊢
  have hl : lv_has ls 4 [(0, .ref (ad 0)), (1, .int (zi x0))] := hl
  have hS : va_S (dA ad) s.heap s.heap [] := va_S.rf
  show W p l e rmct_X7_keepFitting s m ([.ref (ad 0), .int (zi x0)] : List Value).toArray below meth c s.heap [] 0 0 (MQ below (zWv D (dW cI ad) (dA ad) (fun T => T = keepF x0 S ∧ CI T)) ([.ref (ad 0), .int (zi x0)] : List Value).toArray s 0 0 (dA ad)) (F0 m 0 ls [])
  refine lv_aload_n hx hb dX7_keepFitting_0 rfl (lv_at hl 0 rfl) ?_
  refine lv_iload_n hx hb dX7_keepFitting_1 rfl (lv_at hl 1 rfl) ?_
  refine zk_wv (zc_V (As := [.int (zi x0)]) (rest := []) ⟨hx, hb, hml, hown, hts⟩ (ct_X7_gatherLooks l D cI cZ cJ ad S hI hdis x0 ⟨by omega, by omega⟩) (cwV 1 hts gX7_keepFitting_X7_gatherLooks rfl rfl rfl (by decide +kernel) ⟨Nat.le_of_ble_eq_true rfl, Nat.le_of_ble_eq_true rfl⟩) hK hP (q0 := 0) (ci := 7) rfl rfl rfl rfl hl.1 rfl (Nat.le_of_ble_eq_true rfl) dX7_keepFitting_2 ⟨Nat.zero_le _, Nat.zero_le _⟩) hS (fun S_2 H locs hp_2 hP hS => ?_)
  obtain ⟨e9, hI_2⟩ := hp_2
  have eS_2 := e9.symm; clear e9
  have fk_26 : (0 : Int) ≤ S_2 26 0 ∧ S_2 26 0 ≤ 60 := hI_2 26 0
  refine zi_iconst hx hb dX7_keepFitting_5 ?_
  have K_7 : ∀ (k : Nat) (n : Nat) (i : Int) (T : ZS), (i + (n : Int) = S_2 26 0) → (0 ≤ i) → (itr kfStep n i T = keepF x0 S) → (T 26 0 = S_2 26 0) → ((n : Int) < (k : Int)) → CI T → ∀ (H : Heap) (locs : List Loc), va_P D vwCl (dW cI ad T) H → va_S (dA ad) s.heap H locs → ∀ (ls : Array Slot), lv_has ls 4 [(0, .ref (ad 0)), (1, .int (zi x0)), (2, .int (zi i))] → W p l e rmct_X7_keepFitting s m ([.ref (ad 0), .int (zi x0)] : List Value).toArray below meth c H locs 0 0 (MQ below (zWv D (dW cI ad) (dA ad) (fun T => T = keepF x0 S ∧ CI T)) ([.ref (ad 0), .int (zi x0)] : List Value).toArray s 0 0 (dA ad)) (F0 m 7 ls []) := by
    intro k
    induction k with
    | zero => intro n i T h_n h_i h_R h_d hk hIT; exact absurd hk (by omega)
    | succ k ih_7 =>
      intro n i T h_n h_i h_R h_d hk hIT H locs hP hS ls hl
      refine lv_iload_n hx hb dX7_keepFitting_7 rfl (lv_at hl 2 rfl) ?_
      refine lv_aload_n hx hb dX7_keepFitting_8 rfl (lv_at hl 0 rfl) ?_
      refine va_get (D := D) (ci := 7) (v := .ref (ad 3)) (C := RX7) (T := TX7) (N := 6) hx hb hts in_X7_keepFitting_7 hown hK.1 hP 0 rfl rfl 2 (by decide) (hts _ lk_X7_keepFitting_26) (fun _ h9 => h9) rfl dX7_keepFitting_9 ?_
      refine va_getN (D := D) (ci := 2) (v := .int (zi (T 26 0))) (C := RX2) (T := TX2) (N := 2) hx hb hts in_X7_keepFitting_2 hown hK.1 hP 3 rfl rfl 1 (by decide) (va_Nw.use rfl (hK.2 _ (List.mem_of_getElem? (i := 3) rfl))) (fun _ h9 => h9) rfl dX7_keepFitting_12 ?_
      have f_12 : (0 : Int) ≤ T 26 0 ∧ T 26 0 ≤ 60 := hIT 26 0
      refine zi_icmp_ge (tgt := 64) hx hb ⟨by omega, by omega⟩ ⟨by omega, by omega⟩ dX7_keepFitting_15 (by decide) (fun c_15 => ?_) (fun c_15 => ?_)
      · obtain rfl : n = 0 := by omega
        exact zr_wv (T := T) hx hb hr hlocks dX7_keepFitting_64 hP hS (by exact ⟨h_R, hIT⟩)
      · obtain ⟨n, rfl⟩ : ∃ n9 : Nat, n = n9 + 1 := ⟨n - 1, by omega⟩
        refine lv_aload_n hx hb dX7_keepFitting_18 rfl (lv_at hl 0 rfl) ?_
        refine va_get (D := D) (ci := 7) (v := .ref (ad 3)) (C := RX7) (T := TX7) (N := 6) hx hb hts in_X7_keepFitting_7 hown hK.1 hP 0 rfl rfl 2 (by decide) (hts _ lk_X7_keepFitting_26) (fun _ h9 => h9) rfl dX7_keepFitting_19 ?_
        refine lv_iload_n hx hb dX7_keepFitting_22 rfl (lv_at hl 2 rfl) ?_
        refine zk_r (zc_V (As := [.int (zi i)]) (rest := []) ⟨hx, hb, hml, hown, hts⟩ (ct_X2_dotAt l D cI cZ cJ ad T hIT i ⟨by omega, by omega⟩) (cwV 1 hts gX7_keepFitting_X2_dotAt rfl rfl rfl (by decide +kernel) ⟨Nat.le_of_ble_eq_true rfl, Nat.le_of_ble_eq_true rfl⟩) hK hP (q0 := 3) (ci := 2) rfl rfl rfl rfl hl.1 rfl (Nat.le_of_ble_eq_true rfl) dX7_keepFitting_23 ⟨Nat.zero_le _, Nat.zero_le _⟩) ?_
        refine zi_top (fun (r_23 : Int) (er_23 : r_23 = rAt 60 (T 12) i) => ?_)
        have fr_23 : (0 : Int) ≤ r_23 ∧ r_23 ≤ 59 := by rw [er_23]; exact CI.at hIT 12 60 i ⟨by decide, by decide⟩
        refine lv_istore_n (lv' := [(3, .int (zi r_23)), (0, .ref (ad 0)), (1, .int (zi x0)), (2, .int (zi i))]) hx hb dX7_keepFitting_26 rfl hl (by decide) rfl (fun ls hl => ?_)
        refine lv_aload_n hx hb dX7_keepFitting_27 rfl (lv_at hl 1 rfl) ?_
        refine va_get (D := D) (ci := 7) (v := .ref (ad 4)) (C := RX7) (T := TX7) (N := 6) hx hb hts in_X7_keepFitting_7 hown hK.1 hP 0 rfl rfl 3 (by decide) (hts _ lk_X7_keepFitting_33) (fun _ h9 => h9) rfl dX7_keepFitting_28 ?_
        refine lv_aload_n hx hb dX7_keepFitting_31 rfl (lv_at hl 1 rfl) ?_
        refine va_get (D := D) (ci := 7) (v := .ref (ad 1)) (C := RX7) (T := TX7) (N := 6) hx hb hts in_X7_keepFitting_7 hown hK.1 hP 0 rfl rfl 0 (by decide) (hts _ lk_X7_keepFitting_10) (fun _ h9 => h9) rfl dX7_keepFitting_32 ?_
        refine lv_iload_n hx hb dX7_keepFitting_35 rfl (lv_at hl 0 rfl) ?_
        refine zk_r (zc_V (As := [.int (zi r_23)]) (rest := [.ref (ad 4)]) ⟨hx, hb, hml, hown, hts⟩ (ct_X6_nightOf l D cI cZ cJ ad T hIT r_23 ⟨by omega, by omega⟩) (cwV 1 hts gX7_keepFitting_X6_nightOf rfl rfl rfl (by decide +kernel) ⟨Nat.le_of_ble_eq_true rfl, Nat.le_of_ble_eq_true rfl⟩) hK hP (q0 := 1) (ci := 6) rfl rfl rfl rfl hl.1 rfl (Nat.le_of_ble_eq_true rfl) dX7_keepFitting_36 ⟨Nat.zero_le _, Nat.zero_le _⟩) ?_
        refine zi_top (fun (r_36 : Int) (er_36 : r_36 = nOf T r_23) => ?_)
        have fr_36 : (0 : Int) ≤ r_36 ∧ r_36 ≤ 999 := by rw [er_36]; exact nOf_b hIT r_23
        refine lv_aload_n hx hb dX7_keepFitting_39 rfl (lv_at hl 1 rfl) ?_
        refine va_get (D := D) (ci := 7) (v := .ref (ad 1)) (C := RX7) (T := TX7) (N := 6) hx hb hts in_X7_keepFitting_7 hown hK.1 hP 0 rfl rfl 0 (by decide) (hts _ lk_X7_keepFitting_10) (fun _ h9 => h9) rfl dX7_keepFitting_40 ?_
        refine lv_iload_n hx hb dX7_keepFitting_43 rfl (lv_at hl 0 rfl) ?_
        refine zk_r (zc_V (As := [.int (zi r_23)]) (rest := [.int (zi r_36), .ref (ad 4)]) ⟨hx, hb, hml, hown, hts⟩ (ct_X6_truePlaceOf l D cI cZ cJ ad T hIT r_23 ⟨by omega, by omega⟩) (cwV 1 hts gX7_keepFitting_X6_truePlaceOf rfl rfl rfl (by decide +kernel) ⟨Nat.le_of_ble_eq_true rfl, Nat.le_of_ble_eq_true rfl⟩) hK hP (q0 := 1) (ci := 6) rfl rfl rfl rfl hl.1 rfl (Nat.le_of_ble_eq_true rfl) dX7_keepFitting_44 ⟨Nat.zero_le _, Nat.zero_le _⟩) ?_
        refine zi_top (fun (r_44 : Int) (er_44 : r_44 = tOf T r_23) => ?_)
        have fr_44 : (0 : Int) ≤ r_44 ∧ r_44 ≤ 3599 := by rw [er_44]; exact tOf_b hIT r_23
        refine lv_aload_n hx hb dX7_keepFitting_47 rfl (lv_at hl 1 rfl) ?_
        refine va_get (D := D) (ci := 7) (v := .ref (ad 1)) (C := RX7) (T := TX7) (N := 6) hx hb hts in_X7_keepFitting_7 hown hK.1 hP 0 rfl rfl 0 (by decide) (hts _ lk_X7_keepFitting_10) (fun _ h9 => h9) rfl dX7_keepFitting_48 ?_
        refine lv_iload_n hx hb dX7_keepFitting_51 rfl (lv_at hl 0 rfl) ?_
        refine zk_r (zc_V (As := [.int (zi r_23)]) (rest := [.int (zi r_44), .int (zi r_36), .ref (ad 4)]) ⟨hx, hb, hml, hown, hts⟩ (ct_X6_errorOf l D cI cZ cJ ad T hIT r_23 ⟨by omega, by omega⟩) (cwV 1 hts gX7_keepFitting_X6_errorOf rfl rfl rfl (by decide +kernel) ⟨Nat.le_of_ble_eq_true rfl, Nat.le_of_ble_eq_true rfl⟩) hK hP (q0 := 1) (ci := 6) rfl rfl rfl rfl hl.1 rfl (Nat.le_of_ble_eq_true rfl) dX7_keepFitting_52 ⟨Nat.zero_le _, Nat.zero_le _⟩) ?_
        refine zi_top (fun (r_52 : Int) (er_52 : r_52 = eOf T r_23) => ?_)
        have fr_52 : (0 : Int) ≤ r_52 ∧ r_52 ≤ 9 := by rw [er_52]; exact eOf_b hIT r_23
        refine zk_wv (zc_V (As := [.int (zi r_36), .int (zi r_44), .int (zi r_52)]) (rest := []) ⟨hx, hb, hml, hown, hts⟩ (ct_X3_keepNear l D cI cZ cJ ad T hIT hdis r_36 r_44 r_52 ⟨by omega, by omega⟩ ⟨by omega, by omega⟩ ⟨by omega, by omega⟩ (by omega) (by omega) (by omega) (by omega) (by omega) (by omega)) (cwV 3 hts gX7_keepFitting_X3_keepNear rfl rfl rfl (by decide +kernel) ⟨Nat.le_of_ble_eq_true rfl, Nat.le_of_ble_eq_true rfl⟩) hK hP (q0 := 4) (ci := 3) rfl rfl rfl rfl hl.1 rfl (Nat.le_of_ble_eq_true rfl) dX7_keepFitting_55 ⟨Nat.zero_le _, Nat.zero_le _⟩) hS (fun S_55 H locs hp_55 hP hS => ?_)
        obtain ⟨e9, hI_55⟩ := hp_55
        have eS_55 := e9.symm; clear e9
        refine zi_iinc (k := 3) (lv' := [(2, .int (zi (i + 1))), (3, .int (zi r_23)), (0, .ref (ad 0)), (1, .int (zi x0))]) hx hb dX7_keepFitting_58 hl rfl (by decide) rfl (fun ls hl => ?_)
        refine lv_goto (tgt := 7) hx hb dX7_keepFitting_61 (by decide) ?_
        exact ih_7 n (i + 1) S_55 (by first | omega | assumption) (by first | omega | assumption) (by rw [← h_R, itr_s]; congr 1; rw [← eS_55, er_36, er_44, er_52, er_23]; rfl) (by rw [← eS_55, knAll_n (by decide) (by decide)]; exact h_d) (by omega) hI_55 _ _ hP hS _ (lv_sub hl [2, 3, 0] rfl)
  refine lv_istore_n (lv' := [(2, .int (zi 0)), (0, .ref (ad 0)), (1, .int (zi x0))]) hx hb dX7_keepFitting_6 rfl hl (by decide) rfl (fun ls hl => ?_)
  exact K_7 ((S_2 26 0).toNat + 1) ((S_2 26 0).toNat) 0 S_2 (by first | omega | assumption) (by first | omega | assumption) (by rw [keepF, eS_2]) rfl (by omega) hI_2 _ _ hP hS _ (lv_sub hl [1, 2, 0] rfl)

theorem in_X7_findOrbits_7 : ∀ w ∈ wsX70, w ∈ wsX7_findOrbits := by decide +kernel
theorem lk_X7_findOrbits_33 : Cond.fieldLink RX7 33 "PlanetoidDesk" "fitting" "LPlanetoidDesk$Orbits;" ∈ wsX7_findOrbits := by decide +kernel
abbrev rmct_X7_findOrbits : Room := { frames := 4, cells := 0, slots := 0, locals := 95 }
set_option maxHeartbeats 4000000 in
set_option maxRecDepth 100000 in
theorem ct_X7_findOrbits (l : Launch) (D : va_G) (cI cZ cJ : ClassId) (ad : Nat → Nat) (S : ZS) (hI : CI S) (hdis : dDis ad) (x0 : Int) (hx0 : ir x0)  : Met l yX7_findOrbits wsX7_findOrbits rmct_X7_findOrbits (zP D cI cZ cJ (dW cI ad S) [.ref (ad 0), .int (zi x0)]) (zWv D (dW cI ad) (dA ad) (fun T => T = findO x0 S ∧ CI T)) 0 0 (dA ad) := by
  refine Met.ofW (cc := cX7_findOrbits) (maxL := 2) (ret := none) (by decide) rfl ?_
  intro p e s m args below meth c s₁ B hml hv
  obtain ⟨rfl, hP, hK⟩ := hv
  have hx := B.exec
  have hb := B.bytes
  have hr := B.returns
  have hts := atoms_spec (ws := wsX7_findOrbits) B.pre
  have hown : s.vm.findClass RX7 = some m.cls := findClass_of_methodNamed B.named
  have hlocks := B.notSynchronized
  have hl := lv_entry ([.ref (ad 0), .int (zi x0)]) (n := 2) (Nat.le_of_ble_eq_true rfl)
  rw [lg_entry_eq]
  generalize (lg_sl ([.ref (ad 0), .int (zi x0)]) ++ List.replicate (2 - (lg_sl ([.ref (ad 0), .int (zi x0)])).length) Slot.unset).toArray = ls at hl ⊢
  have hl : lv_has ls 2 [(0, .ref (ad 0)), (1, .int (zi x0))] := hl
  have hS : va_S (dA ad) s.heap s.heap [] := va_S.rf
  show W p l e rmct_X7_findOrbits s m ([.ref (ad 0), .int (zi x0)] : List Value).toArray below meth c s.heap [] 0 0 (MQ below (zWv D (dW cI ad) (dA ad) (fun T => T = findO x0 S ∧ CI T)) ([.ref (ad 0), .int (zi x0)] : List Value).toArray s 0 0 (dA ad)) (F0 m 0 ls [])
  refine lv_aload_n hx hb dX7_findOrbits_0 rfl (lv_at hl 0 rfl) ?_
  refine va_get (D := D) (ci := 7) (v := .ref (ad 4)) (C := RX7) (T := TX7) (N := 6) hx hb hts in_X7_findOrbits_7 hown hK.1 hP 0 rfl rfl 3 (by decide) (hts _ lk_X7_findOrbits_33) (fun _ h9 => h9) rfl dX7_findOrbits_1 ?_
  refine zk_wv (zc_V (As := []) (rest := []) ⟨hx, hb, hml, hown, hts⟩ (ct_X3_takeAll l D cI cZ cJ ad S hI hdis  ) (cwV 0 hts gX7_findOrbits_X3_takeAll rfl rfl rfl (by decide +kernel) ⟨Nat.le_of_ble_eq_true rfl, Nat.le_of_ble_eq_true rfl⟩) hK hP (q0 := 4) (ci := 3) rfl rfl rfl rfl hl.1 rfl (Nat.le_of_ble_eq_true rfl) dX7_findOrbits_4 ⟨Nat.zero_le _, Nat.zero_le _⟩) hS (fun S_4 H locs hp_4 hP hS => ?_)
  obtain ⟨e9, hI_4⟩ := hp_4
  have eS_4 := e9.symm; clear e9
  refine lv_aload_n hx hb dX7_findOrbits_7 rfl (lv_at hl 0 rfl) ?_
  refine lv_iload_n hx hb dX7_findOrbits_8 rfl (lv_at hl 1 rfl) ?_
  refine zk_wv (zc_V (As := [.int (zi x0)]) (rest := []) ⟨hx, hb, hml, hown, hts⟩ (ct_X7_keepFitting l D cI cZ cJ ad S_4 hI_4 hdis x0 ⟨by omega, by omega⟩) (cwV 1 hts gX7_findOrbits_X7_keepFitting rfl rfl rfl (by decide +kernel) ⟨Nat.le_of_ble_eq_true rfl, Nat.le_of_ble_eq_true rfl⟩) hK hP (q0 := 0) (ci := 7) rfl rfl rfl rfl hl.1 rfl (Nat.le_of_ble_eq_true rfl) dX7_findOrbits_9 ⟨Nat.zero_le _, Nat.zero_le _⟩) hS (fun S_9 H locs hp_9 hP hS => ?_)
  obtain ⟨e9, hI_9⟩ := hp_9
  have eS_9 := e9.symm; clear e9
  exact zr_wv (T := S_9) hx hb hr hlocks dX7_findOrbits_12 hP hS (by exact ⟨by rw [← eS_9, ← eS_4]; rfl, hI_9⟩)

theorem in_X7_isSeenOn_7 : ∀ w ∈ wsX70, w ∈ wsX7_isSeenOn := by decide +kernel
theorem lk_X7_isSeenOn_10 : Cond.fieldLink RX7 10 "PlanetoidDesk" "sky" "LPlanetoidDesk$Sky;" ∈ wsX7_isSeenOn := by decide +kernel
theorem in_X7_isSeenOn_6 : ∀ w ∈ wsX60, w ∈ wsX7_isSeenOn := by decide +kernel
theorem lk_X7_isSeenOn_19 : Cond.fieldLink RX7 19 "PlanetoidDesk" "bodies" "LPlanetoidDesk$Bodies;" ∈ wsX7_isSeenOn := by decide +kernel
abbrev rmct_X7_isSeenOn : Room := { frames := 2, cells := 0, slots := 0, locals := 45 }
set_option maxHeartbeats 4000000 in
set_option maxRecDepth 100000 in
theorem ct_X7_isSeenOn (l : Launch) (D : va_G) (cI cZ cJ : ClassId) (ad : Nat → Nat) (S : ZS) (hI : CI S) (x0 x1 : Int) (hx0 : ir x0) (hx1 : ir x1)  : Met l yX7_isSeenOn wsX7_isSeenOn rmct_X7_isSeenOn (zP D cI cZ cJ (dW cI ad S) [.ref (ad 0), .int (zi x0), .int (zi x1)]) (k2_QcV (.int (zi (b2 (seenP S x0 x1))))) 0 0 (fun _ => False) := by
  refine Met.ofW (cc := cX7_isSeenOn) (maxL := 4) (ret := (some .boolean)) (by decide) rfl ?_
  intro p e s m args below meth c s₁ B hml hv
  obtain ⟨rfl, hP, hK⟩ := hv
  have hx := B.exec
  have hb := B.bytes
  have hr := B.returns
  have hts := atoms_spec (ws := wsX7_isSeenOn) B.pre
  have hown : s.vm.findClass RX7 = some m.cls := findClass_of_methodNamed B.named
  have hlocks := B.notSynchronized
  have hl := lv_entry ([.ref (ad 0), .int (zi x0), .int (zi x1)]) (n := 4) (Nat.le_of_ble_eq_true rfl)
  rw [lg_entry_eq]
  generalize (lg_sl ([.ref (ad 0), .int (zi x0), .int (zi x1)]) ++ List.replicate (4 - (lg_sl ([.ref (ad 0), .int (zi x0), .int (zi x1)])).length) Slot.unset).toArray = ls at hl ⊢
  have hl : lv_has ls 4 [(0, .ref (ad 0)), (1, .int (zi x0)), (2, .int (zi x1))] := hl
  show W p l e rmct_X7_isSeenOn s m ([.ref (ad 0), .int (zi x0), .int (zi x1)] : List Value).toArray below meth c s.heap [] 0 0 (MQ below (k2_QcV (.int (zi (b2 (seenP S x0 x1))))) ([.ref (ad 0), .int (zi x0), .int (zi x1)] : List Value).toArray s 0 0 (fun _ => False)) (F0 m 0 ls [])
  have hd0 : (0 : Int) ≤ S 22 0 ∧ S 22 0 ≤ 60 := hI 22 0
  refine zi_iconst hx hb dX7_isSeenOn_0 ?_
  have K_2 : ∀ (k : Nat) (n : Nat) (i : Int), (i + (n : Int) = S 22 0) → (0 ≤ i) → (b2 (anyI (fun d => pOf S d = x1 ∧ lookC S d x0) n i) = b2 (seenP S x0 x1)) → ((n : Int) < (k : Int)) → ∀ (ls : Array Slot), lv_has ls 4 [(0, .ref (ad 0)), (1, .int (zi x0)), (2, .int (zi x1)), (3, .int (zi i))] → W p l e rmct_X7_isSeenOn s m ([.ref (ad 0), .int (zi x0), .int (zi x1)] : List Value).toArray below meth c s.heap [] 0 0 (MQ below (k2_QcV (.int (zi (b2 (seenP S x0 x1))))) ([.ref (ad 0), .int (zi x0), .int (zi x1)] : List Value).toArray s 0 0 (fun _ => False)) (F0 m 2 ls []) := by
    intro k
    induction k with
    | zero => intro n i h_n h_i h_R hk; exact absurd hk (by omega)
    | succ k ih_2 =>
      intro n i h_n h_i h_R hk ls hl
      refine lv_iload_n hx hb dX7_isSeenOn_2 rfl (lv_at hl 3 rfl) ?_
      refine lv_aload_n hx hb dX7_isSeenOn_3 rfl (lv_at hl 0 rfl) ?_
      refine va_get (D := D) (ci := 7) (v := .ref (ad 1)) (C := RX7) (T := TX7) (N := 6) hx hb hts in_X7_isSeenOn_7 hown hK.1 hP 0 rfl rfl 0 (by decide) (hts _ lk_X7_isSeenOn_10) (fun _ h9 => h9) rfl dX7_isSeenOn_4 ?_
      refine va_getN (D := D) (ci := 6) (v := .int (zi (S 22 0))) (C := RX6) (T := TX6) (N := 10) hx hb hts in_X7_isSeenOn_6 hown hK.1 hP 1 rfl rfl 9 (by decide) (va_Nw.use rfl (hK.2 _ (List.mem_of_getElem? (i := 6) rfl))) (fun _ h9 => h9) rfl dX7_isSeenOn_7 ?_
      have f_7 : (0 : Int) ≤ S 22 0 ∧ S 22 0 ≤ 60 := hI 22 0
      refine zi_icmp_ge (tgt := 45) hx hb ⟨by omega, by omega⟩ ⟨by omega, by omega⟩ dX7_isSeenOn_10 (by decide) (fun c_10 => ?_) (fun c_10 => ?_)
      · obtain rfl : n = 0 := by omega
        refine zi_iconst hx hb dX7_isSeenOn_45 ?_
        exact zr_z hx hb hr hlocks dX7_isSeenOn_46 (Or.inl rfl) (by rw [← h_R]; exact (b2_f (fun h9 => h9)).symm)
      · obtain ⟨n, rfl⟩ : ∃ n9 : Nat, n = n9 + 1 := ⟨n - 1, by omega⟩
        refine lv_aload_n hx hb dX7_isSeenOn_13 rfl (lv_at hl 0 rfl) ?_
        refine va_get (D := D) (ci := 7) (v := .ref (ad 1)) (C := RX7) (T := TX7) (N := 6) hx hb hts in_X7_isSeenOn_7 hown hK.1 hP 0 rfl rfl 0 (by decide) (hts _ lk_X7_isSeenOn_10) (fun _ h9 => h9) rfl dX7_isSeenOn_14 ?_
        refine lv_iload_n hx hb dX7_isSeenOn_17 rfl (lv_at hl 3 rfl) ?_
        refine zk_r (zc_V (As := [.int (zi i)]) (rest := []) ⟨hx, hb, hml, hown, hts⟩ (ct_X6_plateOf l D cI cZ cJ ad S hI i ⟨by omega, by omega⟩) (cwV 1 hts gX7_isSeenOn_X6_plateOf rfl rfl rfl (by decide +kernel) ⟨Nat.le_of_ble_eq_true rfl, Nat.le_of_ble_eq_true rfl⟩) hK hP (q0 := 1) (ci := 6) rfl rfl rfl rfl hl.1 rfl (Nat.le_of_ble_eq_true rfl) dX7_isSeenOn_18 ⟨Nat.zero_le _, Nat.zero_le _⟩) ?_
        refine zi_top (fun (r_18 : Int) (er_18 : r_18 = pOf S i) => ?_)
        have fr_18 : (0 : Int) ≤ r_18 ∧ r_18 ≤ 29 := by rw [er_18]; exact pOf_b hI i
        refine lv_iload_n hx hb dX7_isSeenOn_21 rfl (lv_at hl 2 rfl) ?_
        refine zi_icmp_ne (tgt := 39) hx hb ⟨by omega, by omega⟩ ⟨by omega, by omega⟩ dX7_isSeenOn_22 (by decide) (fun c_22 => ?_) (fun c_22 => ?_)
        · refine zi_iinc (k := 3) (lv' := [(3, .int (zi (i + 1))), (0, .ref (ad 0)), (1, .int (zi x0)), (2, .int (zi x1))]) hx hb dX7_isSeenOn_39 hl rfl (by decide) rfl (fun ls hl => ?_)
          refine lv_goto (tgt := 2) hx hb dX7_isSeenOn_42 (by decide) ?_
          exact ih_2 n (i + 1) (by first | omega | assumption) (by first | omega | assumption) (by rw [← h_R]; exact congrArg b2 (propext ⟨Or.inr, fun h9 => h9.resolve_left (fun h8 => c_22 (er_18.trans h8.1))⟩)) (by omega) _ (lv_sub hl [1, 2, 3, 0] rfl)
        · refine lv_aload_n hx hb dX7_isSeenOn_25 rfl (lv_at hl 0 rfl) ?_
          refine va_get (D := D) (ci := 7) (v := .ref (ad 2)) (C := RX7) (T := TX7) (N := 6) hx hb hts in_X7_isSeenOn_7 hown hK.1 hP 0 rfl rfl 1 (by decide) (hts _ lk_X7_isSeenOn_19) (fun _ h9 => h9) rfl dX7_isSeenOn_26 ?_
          refine lv_iload_n hx hb dX7_isSeenOn_29 rfl (lv_at hl 3 rfl) ?_
          refine lv_iload_n hx hb dX7_isSeenOn_30 rfl (lv_at hl 1 rfl) ?_
          refine zk_r (zc_V (As := [.int (zi i), .int (zi x0)]) (rest := []) ⟨hx, hb, hml, hown, hts⟩ (ct_X0_isLook l D cI cZ cJ ad S hI i x0 ⟨by omega, by omega⟩ ⟨by omega, by omega⟩) (cwV 2 hts gX7_isSeenOn_X0_isLook rfl rfl rfl (by decide +kernel) ⟨Nat.le_of_ble_eq_true rfl, Nat.le_of_ble_eq_true rfl⟩) hK hP (q0 := 2) (ci := 0) rfl rfl rfl rfl hl.1 rfl (Nat.le_of_ble_eq_true rfl) dX7_isSeenOn_31 ⟨Nat.zero_le _, Nat.zero_le _⟩) ?_
          refine zi_top (fun (r_31 : Int) (er_31 : r_31 = b2 (lookC S i x0)) => ?_)
          have fr_31 : (0 : Int) ≤ r_31 ∧ r_31 ≤ 1 := by rw [er_31]; exact b2_b
          refine zi_if_eq (tgt := 39) hx hb ⟨by omega, by omega⟩ dX7_isSeenOn_34 (by decide) (fun c_34 => ?_) (fun c_34 => ?_)
          · refine zi_iinc (k := 3) (lv' := [(3, .int (zi (i + 1))), (0, .ref (ad 0)), (1, .int (zi x0)), (2, .int (zi x1))]) hx hb dX7_isSeenOn_39 hl rfl (by decide) rfl (fun ls hl => ?_)
            refine lv_goto (tgt := 2) hx hb dX7_isSeenOn_42 (by decide) ?_
            exact ih_2 n (i + 1) (by first | omega | assumption) (by first | omega | assumption) (by rw [← h_R]; exact congrArg b2 (propext ⟨Or.inr, fun h9 => h9.resolve_left (fun h8 => b2_0 er_31 c_34 h8.2)⟩)) (by omega) _ (lv_sub hl [1, 2, 3, 0] rfl)
          · refine zi_iconst hx hb dX7_isSeenOn_37 ?_
            exact zr_z hx hb hr hlocks dX7_isSeenOn_38 (Or.inr rfl) (by rw [← h_R]; exact (b2_t (Or.inl ⟨er_18.symm.trans c_22, b2_1 er_31 c_34⟩)).symm)
  refine lv_istore_n (lv' := [(3, .int (zi 0)), (0, .ref (ad 0)), (1, .int (zi x0)), (2, .int (zi x1))]) hx hb dX7_isSeenOn_1 rfl hl (by decide) rfl (fun ls hl => ?_)
  exact K_2 ((S 22 0).toNat + 1) ((S 22 0).toNat) 0 (by first | omega | assumption) (by first | omega | assumption) (by rw [seenP]) (by omega) _ (lv_sub hl [1, 2, 3, 0] rfl)

theorem in_X7_canTake_7 : ∀ w ∈ wsX70, w ∈ wsX7_canTake := by decide +kernel
theorem lk_X7_canTake_19 : Cond.fieldLink RX7 19 "PlanetoidDesk" "bodies" "LPlanetoidDesk$Bodies;" ∈ wsX7_canTake := by decide +kernel
theorem lk_X7_canTake_10 : Cond.fieldLink RX7 10 "PlanetoidDesk" "sky" "LPlanetoidDesk$Sky;" ∈ wsX7_canTake := by decide +kernel
theorem lk_X7_canTake_33 : Cond.fieldLink RX7 33 "PlanetoidDesk" "fitting" "LPlanetoidDesk$Orbits;" ∈ wsX7_canTake := by decide +kernel
abbrev rmct_X7_canTake : Room := { frames := 3, cells := 0, slots := 0, locals := 70 }
set_option maxHeartbeats 4000000 in
set_option maxRecDepth 100000 in
theorem ct_X7_canTake (l : Launch) (D : va_G) (cI cZ cJ : ClassId) (ad : Nat → Nat) (S : ZS) (hI : CI S) (x0 x1 : Int) (hx0 : ir x0) (hx1 : ir x1)  : Met l yX7_canTake wsX7_canTake rmct_X7_canTake (zP D cI cZ cJ (dW cI ad S) [.ref (ad 0), .int (zi x0), .int (zi x1)]) (k2_QcV (.int (zi (b2 (takeP S x0 x1))))) 0 0 (fun _ => False) := by
  refine Met.ofW (cc := cX7_canTake) (maxL := 3) (ret := (some .boolean)) (by decide) rfl ?_
  intro p e s m args below meth c s₁ B hml hv
  obtain ⟨rfl, hP, hK⟩ := hv
  have hx := B.exec
  have hb := B.bytes
  have hr := B.returns
  have hts := atoms_spec (ws := wsX7_canTake) B.pre
  have hown : s.vm.findClass RX7 = some m.cls := findClass_of_methodNamed B.named
  have hlocks := B.notSynchronized
  have hl := lv_entry ([.ref (ad 0), .int (zi x0), .int (zi x1)]) (n := 3) (Nat.le_of_ble_eq_true rfl)
  rw [lg_entry_eq]
  generalize (lg_sl ([.ref (ad 0), .int (zi x0), .int (zi x1)]) ++ List.replicate (3 - (lg_sl ([.ref (ad 0), .int (zi x0), .int (zi x1)])).length) Slot.unset).toArray = ls at hl ⊢
  have hl : lv_has ls 3 [(0, .ref (ad 0)), (1, .int (zi x0)), (2, .int (zi x1))] := hl
  show W p l e rmct_X7_canTake s m ([.ref (ad 0), .int (zi x0), .int (zi x1)] : List Value).toArray below meth c s.heap [] 0 0 (MQ below (k2_QcV (.int (zi (b2 (takeP S x0 x1))))) ([.ref (ad 0), .int (zi x0), .int (zi x1)] : List Value).toArray s 0 0 (fun _ => False)) (F0 m 0 ls [])
  refine lv_aload_n hx hb dX7_canTake_0 rfl (lv_at hl 0 rfl) ?_
  refine va_get (D := D) (ci := 7) (v := .ref (ad 2)) (C := RX7) (T := TX7) (N := 6) hx hb hts in_X7_canTake_7 hown hK.1 hP 0 rfl rfl 1 (by decide) (hts _ lk_X7_canTake_19) (fun _ h9 => h9) rfl dX7_canTake_1 ?_
  refine lv_iload_n hx hb dX7_canTake_4 rfl (lv_at hl 2 rfl) ?_
  refine zk_r (zc_V (As := [.int (zi x1)]) (rest := []) ⟨hx, hb, hml, hown, hts⟩ (ct_X0_isUnlinked l D cI cZ cJ ad S hI x1 ⟨by omega, by omega⟩) (cwV 1 hts gX7_canTake_X0_isUnlinked rfl rfl rfl (by decide +kernel) ⟨Nat.le_of_ble_eq_true rfl, Nat.le_of_ble_eq_true rfl⟩) hK hP (q0 := 2) (ci := 0) rfl rfl rfl rfl hl.1 rfl (Nat.le_of_ble_eq_true rfl) dX7_canTake_5 ⟨Nat.zero_le _, Nat.zero_le _⟩) ?_
  refine zi_top (fun (r_5 : Int) (er_5 : r_5 = b2 (rAt 60 (S 7) x1 = -1)) => ?_)
  have fr_5 : (0 : Int) ≤ r_5 ∧ r_5 ≤ 1 := by rw [er_5]; exact b2_b
  refine zi_if_eq (tgt := 76) hx hb ⟨by omega, by omega⟩ dX7_canTake_8 (by decide) (fun c_8 => ?_) (fun c_8 => ?_)
  · refine zi_iconst hx hb dX7_canTake_76 ?_
    exact zr_z hx hb hr hlocks dX7_canTake_77 (Or.inl rfl) (by exact (b2_f (fun h9 => b2_0 er_5 c_8 h9.1)).symm)
  · refine lv_aload_n hx hb dX7_canTake_11 rfl (lv_at hl 0 rfl) ?_
    refine va_get (D := D) (ci := 7) (v := .ref (ad 2)) (C := RX7) (T := TX7) (N := 6) hx hb hts in_X7_canTake_7 hown hK.1 hP 0 rfl rfl 1 (by decide) (hts _ lk_X7_canTake_19) (fun _ h9 => h9) rfl dX7_canTake_12 ?_
    refine lv_iload_n hx hb dX7_canTake_15 rfl (lv_at hl 1 rfl) ?_
    refine zk_r (zc_V (As := [.int (zi x0)]) (rest := []) ⟨hx, hb, hml, hown, hts⟩ (ct_X0_isFree l D cI cZ cJ ad S hI x0 ⟨by omega, by omega⟩) (cwV 1 hts gX7_canTake_X0_isFree rfl rfl rfl (by decide +kernel) ⟨Nat.le_of_ble_eq_true rfl, Nat.le_of_ble_eq_true rfl⟩) hK hP (q0 := 2) (ci := 0) rfl rfl rfl rfl hl.1 rfl (Nat.le_of_ble_eq_true rfl) dX7_canTake_16 ⟨Nat.zero_le _, Nat.zero_le _⟩) ?_
    refine zi_top (fun (r_16 : Int) (er_16 : r_16 = b2 (rAt 20 (S 8) x0 = -1)) => ?_)
    have fr_16 : (0 : Int) ≤ r_16 ∧ r_16 ≤ 1 := by rw [er_16]; exact b2_b
    refine zi_if_eq (tgt := 76) hx hb ⟨by omega, by omega⟩ dX7_canTake_19 (by decide) (fun c_19 => ?_) (fun c_19 => ?_)
    · refine zi_iconst hx hb dX7_canTake_76 ?_
      exact zr_z hx hb hr hlocks dX7_canTake_77 (Or.inl rfl) (by exact (b2_f (fun h9 => b2_0 er_16 c_19 h9.2.1)).symm)
    · refine lv_aload_n hx hb dX7_canTake_22 rfl (lv_at hl 0 rfl) ?_
      refine lv_iload_n hx hb dX7_canTake_23 rfl (lv_at hl 1 rfl) ?_
      refine lv_aload_n hx hb dX7_canTake_24 rfl (lv_at hl 0 rfl) ?_
      refine va_get (D := D) (ci := 7) (v := .ref (ad 1)) (C := RX7) (T := TX7) (N := 6) hx hb hts in_X7_canTake_7 hown hK.1 hP 0 rfl rfl 0 (by decide) (hts _ lk_X7_canTake_10) (fun _ h9 => h9) rfl dX7_canTake_25 ?_
      refine lv_iload_n hx hb dX7_canTake_28 rfl (lv_at hl 2 rfl) ?_
      refine zk_r (zc_V (As := [.int (zi x1)]) (rest := [.int (zi x0), .ref (ad 0)]) ⟨hx, hb, hml, hown, hts⟩ (ct_X6_plateOf l D cI cZ cJ ad S hI x1 ⟨by omega, by omega⟩) (cwV 1 hts gX7_canTake_X6_plateOf rfl rfl rfl (by decide +kernel) ⟨Nat.le_of_ble_eq_true rfl, Nat.le_of_ble_eq_true rfl⟩) hK hP (q0 := 1) (ci := 6) rfl rfl rfl rfl hl.1 rfl (Nat.le_of_ble_eq_true rfl) dX7_canTake_29 ⟨Nat.zero_le _, Nat.zero_le _⟩) ?_
      refine zi_top (fun (r_29 : Int) (er_29 : r_29 = pOf S x1) => ?_)
      have fr_29 : (0 : Int) ≤ r_29 ∧ r_29 ≤ 29 := by rw [er_29]; exact pOf_b hI x1
      refine zk_r (zc_V (As := [.int (zi x0), .int (zi r_29)]) (rest := []) ⟨hx, hb, hml, hown, hts⟩ (ct_X7_isSeenOn l D cI cZ cJ ad S hI x0 r_29 ⟨by omega, by omega⟩ ⟨by omega, by omega⟩) (cwV 2 hts gX7_canTake_X7_isSeenOn rfl rfl rfl (by decide +kernel) ⟨Nat.le_of_ble_eq_true rfl, Nat.le_of_ble_eq_true rfl⟩) hK hP (q0 := 0) (ci := 7) rfl rfl rfl rfl hl.1 rfl (Nat.le_of_ble_eq_true rfl) dX7_canTake_32 ⟨Nat.zero_le _, Nat.zero_le _⟩) ?_
      refine zi_top (fun (r_32 : Int) (er_32 : r_32 = b2 (seenP S x0 r_29)) => ?_)
      have fr_32 : (0 : Int) ≤ r_32 ∧ r_32 ≤ 1 := by rw [er_32]; exact b2_b
      refine zi_if_ne (tgt := 76) hx hb ⟨by omega, by omega⟩ dX7_canTake_35 (by decide) (fun c_35 => ?_) (fun c_35 => ?_)
      · refine zi_iconst hx hb dX7_canTake_76 ?_
        exact zr_z hx hb hr hlocks dX7_canTake_77 (Or.inl rfl) (by exact (b2_f (fun h9 => h9.2.2.1 (er_29 ▸ b2_1 er_32 c_35))).symm)
      · refine lv_aload_n hx hb dX7_canTake_38 rfl (lv_at hl 0 rfl) ?_
        refine va_get (D := D) (ci := 7) (v := .ref (ad 4)) (C := RX7) (T := TX7) (N := 6) hx hb hts in_X7_canTake_7 hown hK.1 hP 0 rfl rfl 3 (by decide) (hts _ lk_X7_canTake_33) (fun _ h9 => h9) rfl dX7_canTake_39 ?_
        refine lv_aload_n hx hb dX7_canTake_42 rfl (lv_at hl 0 rfl) ?_
        refine va_get (D := D) (ci := 7) (v := .ref (ad 1)) (C := RX7) (T := TX7) (N := 6) hx hb hts in_X7_canTake_7 hown hK.1 hP 0 rfl rfl 0 (by decide) (hts _ lk_X7_canTake_10) (fun _ h9 => h9) rfl dX7_canTake_43 ?_
        refine lv_iload_n hx hb dX7_canTake_46 rfl (lv_at hl 2 rfl) ?_
        refine zk_r (zc_V (As := [.int (zi x1)]) (rest := [.ref (ad 4)]) ⟨hx, hb, hml, hown, hts⟩ (ct_X6_nightOf l D cI cZ cJ ad S hI x1 ⟨by omega, by omega⟩) (cwV 1 hts gX7_canTake_X6_nightOf rfl rfl rfl (by decide +kernel) ⟨Nat.le_of_ble_eq_true rfl, Nat.le_of_ble_eq_true rfl⟩) hK hP (q0 := 1) (ci := 6) rfl rfl rfl rfl hl.1 rfl (Nat.le_of_ble_eq_true rfl) dX7_canTake_47 ⟨Nat.zero_le _, Nat.zero_le _⟩) ?_
        refine zi_top (fun (r_47 : Int) (er_47 : r_47 = nOf S x1) => ?_)
        have fr_47 : (0 : Int) ≤ r_47 ∧ r_47 ≤ 999 := by rw [er_47]; exact nOf_b hI x1
        refine lv_aload_n hx hb dX7_canTake_50 rfl (lv_at hl 0 rfl) ?_
        refine va_get (D := D) (ci := 7) (v := .ref (ad 1)) (C := RX7) (T := TX7) (N := 6) hx hb hts in_X7_canTake_7 hown hK.1 hP 0 rfl rfl 0 (by decide) (hts _ lk_X7_canTake_10) (fun _ h9 => h9) rfl dX7_canTake_51 ?_
        refine lv_iload_n hx hb dX7_canTake_54 rfl (lv_at hl 2 rfl) ?_
        refine zk_r (zc_V (As := [.int (zi x1)]) (rest := [.int (zi r_47), .ref (ad 4)]) ⟨hx, hb, hml, hown, hts⟩ (ct_X6_truePlaceOf l D cI cZ cJ ad S hI x1 ⟨by omega, by omega⟩) (cwV 1 hts gX7_canTake_X6_truePlaceOf rfl rfl rfl (by decide +kernel) ⟨Nat.le_of_ble_eq_true rfl, Nat.le_of_ble_eq_true rfl⟩) hK hP (q0 := 1) (ci := 6) rfl rfl rfl rfl hl.1 rfl (Nat.le_of_ble_eq_true rfl) dX7_canTake_55 ⟨Nat.zero_le _, Nat.zero_le _⟩) ?_
        refine zi_top (fun (r_55 : Int) (er_55 : r_55 = tOf S x1) => ?_)
        have fr_55 : (0 : Int) ≤ r_55 ∧ r_55 ≤ 3599 := by rw [er_55]; exact tOf_b hI x1
        refine lv_aload_n hx hb dX7_canTake_58 rfl (lv_at hl 0 rfl) ?_
        refine va_get (D := D) (ci := 7) (v := .ref (ad 1)) (C := RX7) (T := TX7) (N := 6) hx hb hts in_X7_canTake_7 hown hK.1 hP 0 rfl rfl 0 (by decide) (hts _ lk_X7_canTake_10) (fun _ h9 => h9) rfl dX7_canTake_59 ?_
        refine lv_iload_n hx hb dX7_canTake_62 rfl (lv_at hl 2 rfl) ?_
        refine zk_r (zc_V (As := [.int (zi x1)]) (rest := [.int (zi r_55), .int (zi r_47), .ref (ad 4)]) ⟨hx, hb, hml, hown, hts⟩ (ct_X6_errorOf l D cI cZ cJ ad S hI x1 ⟨by omega, by omega⟩) (cwV 1 hts gX7_canTake_X6_errorOf rfl rfl rfl (by decide +kernel) ⟨Nat.le_of_ble_eq_true rfl, Nat.le_of_ble_eq_true rfl⟩) hK hP (q0 := 1) (ci := 6) rfl rfl rfl rfl hl.1 rfl (Nat.le_of_ble_eq_true rfl) dX7_canTake_63 ⟨Nat.zero_le _, Nat.zero_le _⟩) ?_
        refine zi_top (fun (r_63 : Int) (er_63 : r_63 = eOf S x1) => ?_)
        have fr_63 : (0 : Int) ≤ r_63 ∧ r_63 ≤ 9 := by rw [er_63]; exact eOf_b hI x1
        refine zk_r (zc_V (As := [.int (zi r_47), .int (zi r_55), .int (zi r_63)]) (rest := []) ⟨hx, hb, hml, hown, hts⟩ (ct_X3_hasNear l D cI cZ cJ ad S hI r_47 r_55 r_63 ⟨by omega, by omega⟩ ⟨by omega, by omega⟩ ⟨by omega, by omega⟩ (by omega) (by omega) (by omega) (by omega) (by omega) (by omega)) (cwV 3 hts gX7_canTake_X3_hasNear rfl rfl rfl (by decide +kernel) ⟨Nat.le_of_ble_eq_true rfl, Nat.le_of_ble_eq_true rfl⟩) hK hP (q0 := 4) (ci := 3) rfl rfl rfl rfl hl.1 rfl (Nat.le_of_ble_eq_true rfl) dX7_canTake_66 ⟨Nat.zero_le _, Nat.zero_le _⟩) ?_
        refine zi_top (fun (r_66 : Int) (er_66 : r_66 = b2 (anyI (hnP S r_47 r_55 r_63) 405 0)) => ?_)
        have fr_66 : (0 : Int) ≤ r_66 ∧ r_66 ≤ 1 := by rw [er_66]; exact b2_b
        refine zi_if_eq (tgt := 76) hx hb ⟨by omega, by omega⟩ dX7_canTake_69 (by decide) (fun c_69 => ?_) (fun c_69 => ?_)
        · refine zi_iconst hx hb dX7_canTake_76 ?_
          exact zr_z hx hb hr hlocks dX7_canTake_77 (Or.inl rfl) (by exact (b2_f (fun h9 => b2_0 (er_66.trans (by rw [er_47, er_55, er_63])) c_69 h9.2.2.2)).symm)
        · refine zi_iconst hx hb dX7_canTake_72 ?_
          refine lv_goto (tgt := 77) hx hb dX7_canTake_73 (by decide) ?_
          exact zr_z hx hb hr hlocks dX7_canTake_77 (Or.inr rfl) (by exact (b2_t ⟨b2_1 er_5 c_8, b2_1 er_16 c_19, er_29 ▸ b2_0 er_32 c_35, b2_1 (er_66.trans (by rw [er_47, er_55, er_63])) c_69⟩).symm)

theorem in_X7_shareAPlate_7 : ∀ w ∈ wsX70, w ∈ wsX7_shareAPlate := by decide +kernel
theorem lk_X7_shareAPlate_10 : Cond.fieldLink RX7 10 "PlanetoidDesk" "sky" "LPlanetoidDesk$Sky;" ∈ wsX7_shareAPlate := by decide +kernel
theorem in_X7_shareAPlate_6 : ∀ w ∈ wsX60, w ∈ wsX7_shareAPlate := by decide +kernel
theorem lk_X7_shareAPlate_19 : Cond.fieldLink RX7 19 "PlanetoidDesk" "bodies" "LPlanetoidDesk$Bodies;" ∈ wsX7_shareAPlate := by decide +kernel
abbrev rmct_X7_shareAPlate : Room := { frames := 3, cells := 0, slots := 0, locals := 68 }
set_option maxHeartbeats 4000000 in
set_option maxRecDepth 100000 in
theorem ct_X7_shareAPlate (l : Launch) (D : va_G) (cI cZ cJ : ClassId) (ad : Nat → Nat) (S : ZS) (hI : CI S) (x0 x1 : Int) (hx0 : ir x0) (hx1 : ir x1)  : Met l yX7_shareAPlate wsX7_shareAPlate rmct_X7_shareAPlate (zP D cI cZ cJ (dW cI ad S) [.ref (ad 0), .int (zi x0), .int (zi x1)]) (k2_QcV (.int (zi (b2 (shareP S x0 x1))))) 0 0 (fun _ => False) := by
  refine Met.ofW (cc := cX7_shareAPlate) (maxL := 4) (ret := (some .boolean)) (by decide) rfl ?_
  intro p e s m args below meth c s₁ B hml hv
  obtain ⟨rfl, hP, hK⟩ := hv
  have hx := B.exec
  have hb := B.bytes
  have hr := B.returns
  have hts := atoms_spec (ws := wsX7_shareAPlate) B.pre
  have hown : s.vm.findClass RX7 = some m.cls := findClass_of_methodNamed B.named
  have hlocks := B.notSynchronized
  have hl := lv_entry ([.ref (ad 0), .int (zi x0), .int (zi x1)]) (n := 4) (Nat.le_of_ble_eq_true rfl)
  rw [lg_entry_eq]
  generalize (lg_sl ([.ref (ad 0), .int (zi x0), .int (zi x1)]) ++ List.replicate (4 - (lg_sl ([.ref (ad 0), .int (zi x0), .int (zi x1)])).length) Slot.unset).toArray = ls at hl ⊢
  have hl : lv_has ls 4 [(0, .ref (ad 0)), (1, .int (zi x0)), (2, .int (zi x1))] := hl
  show W p l e rmct_X7_shareAPlate s m ([.ref (ad 0), .int (zi x0), .int (zi x1)] : List Value).toArray below meth c s.heap [] 0 0 (MQ below (k2_QcV (.int (zi (b2 (shareP S x0 x1))))) ([.ref (ad 0), .int (zi x0), .int (zi x1)] : List Value).toArray s 0 0 (fun _ => False)) (F0 m 0 ls [])
  have hd0 : (0 : Int) ≤ S 22 0 ∧ S 22 0 ≤ 60 := hI 22 0
  refine zi_iconst hx hb dX7_shareAPlate_0 ?_
  have K_2 : ∀ (k : Nat) (n : Nat) (i : Int), (i + (n : Int) = S 22 0) → (0 ≤ i) → (b2 (anyI (fun d => lookC S d x0 ∧ seenP S x1 (pOf S d)) n i) = b2 (shareP S x0 x1)) → ((n : Int) < (k : Int)) → ∀ (ls : Array Slot), lv_has ls 4 [(0, .ref (ad 0)), (1, .int (zi x0)), (2, .int (zi x1)), (3, .int (zi i))] → W p l e rmct_X7_shareAPlate s m ([.ref (ad 0), .int (zi x0), .int (zi x1)] : List Value).toArray below meth c s.heap [] 0 0 (MQ below (k2_QcV (.int (zi (b2 (shareP S x0 x1))))) ([.ref (ad 0), .int (zi x0), .int (zi x1)] : List Value).toArray s 0 0 (fun _ => False)) (F0 m 2 ls []) := by
    intro k
    induction k with
    | zero => intro n i h_n h_i h_R hk; exact absurd hk (by omega)
    | succ k ih_2 =>
      intro n i h_n h_i h_R hk ls hl
      refine lv_iload_n hx hb dX7_shareAPlate_2 rfl (lv_at hl 3 rfl) ?_
      refine lv_aload_n hx hb dX7_shareAPlate_3 rfl (lv_at hl 0 rfl) ?_
      refine va_get (D := D) (ci := 7) (v := .ref (ad 1)) (C := RX7) (T := TX7) (N := 6) hx hb hts in_X7_shareAPlate_7 hown hK.1 hP 0 rfl rfl 0 (by decide) (hts _ lk_X7_shareAPlate_10) (fun _ h9 => h9) rfl dX7_shareAPlate_4 ?_
      refine va_getN (D := D) (ci := 6) (v := .int (zi (S 22 0))) (C := RX6) (T := TX6) (N := 10) hx hb hts in_X7_shareAPlate_6 hown hK.1 hP 1 rfl rfl 9 (by decide) (va_Nw.use rfl (hK.2 _ (List.mem_of_getElem? (i := 6) rfl))) (fun _ h9 => h9) rfl dX7_shareAPlate_7 ?_
      have f_7 : (0 : Int) ≤ S 22 0 ∧ S 22 0 ≤ 60 := hI 22 0
      refine zi_icmp_ge (tgt := 49) hx hb ⟨by omega, by omega⟩ ⟨by omega, by omega⟩ dX7_shareAPlate_10 (by decide) (fun c_10 => ?_) (fun c_10 => ?_)
      · obtain rfl : n = 0 := by omega
        refine zi_iconst hx hb dX7_shareAPlate_49 ?_
        exact zr_z hx hb hr hlocks dX7_shareAPlate_50 (Or.inl rfl) (by rw [← h_R]; exact (b2_f (fun h9 => h9)).symm)
      · obtain ⟨n, rfl⟩ : ∃ n9 : Nat, n = n9 + 1 := ⟨n - 1, by omega⟩
        refine lv_aload_n hx hb dX7_shareAPlate_13 rfl (lv_at hl 0 rfl) ?_
        refine va_get (D := D) (ci := 7) (v := .ref (ad 2)) (C := RX7) (T := TX7) (N := 6) hx hb hts in_X7_shareAPlate_7 hown hK.1 hP 0 rfl rfl 1 (by decide) (hts _ lk_X7_shareAPlate_19) (fun _ h9 => h9) rfl dX7_shareAPlate_14 ?_
        refine lv_iload_n hx hb dX7_shareAPlate_17 rfl (lv_at hl 3 rfl) ?_
        refine lv_iload_n hx hb dX7_shareAPlate_18 rfl (lv_at hl 1 rfl) ?_
        refine zk_r (zc_V (As := [.int (zi i), .int (zi x0)]) (rest := []) ⟨hx, hb, hml, hown, hts⟩ (ct_X0_isLook l D cI cZ cJ ad S hI i x0 ⟨by omega, by omega⟩ ⟨by omega, by omega⟩) (cwV 2 hts gX7_shareAPlate_X0_isLook rfl rfl rfl (by decide +kernel) ⟨Nat.le_of_ble_eq_true rfl, Nat.le_of_ble_eq_true rfl⟩) hK hP (q0 := 2) (ci := 0) rfl rfl rfl rfl hl.1 rfl (Nat.le_of_ble_eq_true rfl) dX7_shareAPlate_19 ⟨Nat.zero_le _, Nat.zero_le _⟩) ?_
        refine zi_top (fun (r_19 : Int) (er_19 : r_19 = b2 (lookC S i x0)) => ?_)
        have fr_19 : (0 : Int) ≤ r_19 ∧ r_19 ≤ 1 := by rw [er_19]; exact b2_b
        refine zi_if_eq (tgt := 43) hx hb ⟨by omega, by omega⟩ dX7_shareAPlate_22 (by decide) (fun c_22 => ?_) (fun c_22 => ?_)
        · refine zi_iinc (k := 3) (lv' := [(3, .int (zi (i + 1))), (0, .ref (ad 0)), (1, .int (zi x0)), (2, .int (zi x1))]) hx hb dX7_shareAPlate_43 hl rfl (by decide) rfl (fun ls hl => ?_)
          refine lv_goto (tgt := 2) hx hb dX7_shareAPlate_46 (by decide) ?_
          exact ih_2 n (i + 1) (by first | omega | assumption) (by first | omega | assumption) (by rw [← h_R]; exact congrArg b2 (propext ⟨Or.inr, fun h9 => h9.resolve_left (fun h8 => b2_0 er_19 c_22 h8.1)⟩)) (by omega) _ (lv_sub hl [1, 2, 3, 0] rfl)
        · refine lv_aload_n hx hb dX7_shareAPlate_25 rfl (lv_at hl 0 rfl) ?_
          refine lv_iload_n hx hb dX7_shareAPlate_26 rfl (lv_at hl 2 rfl) ?_
          refine lv_aload_n hx hb dX7_shareAPlate_27 rfl (lv_at hl 0 rfl) ?_
          refine va_get (D := D) (ci := 7) (v := .ref (ad 1)) (C := RX7) (T := TX7) (N := 6) hx hb hts in_X7_shareAPlate_7 hown hK.1 hP 0 rfl rfl 0 (by decide) (hts _ lk_X7_shareAPlate_10) (fun _ h9 => h9) rfl dX7_shareAPlate_28 ?_
          refine lv_iload_n hx hb dX7_shareAPlate_31 rfl (lv_at hl 3 rfl) ?_
          refine zk_r (zc_V (As := [.int (zi i)]) (rest := [.int (zi x1), .ref (ad 0)]) ⟨hx, hb, hml, hown, hts⟩ (ct_X6_plateOf l D cI cZ cJ ad S hI i ⟨by omega, by omega⟩) (cwV 1 hts gX7_shareAPlate_X6_plateOf rfl rfl rfl (by decide +kernel) ⟨Nat.le_of_ble_eq_true rfl, Nat.le_of_ble_eq_true rfl⟩) hK hP (q0 := 1) (ci := 6) rfl rfl rfl rfl hl.1 rfl (Nat.le_of_ble_eq_true rfl) dX7_shareAPlate_32 ⟨Nat.zero_le _, Nat.zero_le _⟩) ?_
          refine zi_top (fun (r_32 : Int) (er_32 : r_32 = pOf S i) => ?_)
          have fr_32 : (0 : Int) ≤ r_32 ∧ r_32 ≤ 29 := by rw [er_32]; exact pOf_b hI i
          refine zk_r (zc_V (As := [.int (zi x1), .int (zi r_32)]) (rest := []) ⟨hx, hb, hml, hown, hts⟩ (ct_X7_isSeenOn l D cI cZ cJ ad S hI x1 r_32 ⟨by omega, by omega⟩ ⟨by omega, by omega⟩) (cwV 2 hts gX7_shareAPlate_X7_isSeenOn rfl rfl rfl (by decide +kernel) ⟨Nat.le_of_ble_eq_true rfl, Nat.le_of_ble_eq_true rfl⟩) hK hP (q0 := 0) (ci := 7) rfl rfl rfl rfl hl.1 rfl (Nat.le_of_ble_eq_true rfl) dX7_shareAPlate_35 ⟨Nat.zero_le _, Nat.zero_le _⟩) ?_
          refine zi_top (fun (r_35 : Int) (er_35 : r_35 = b2 (seenP S x1 r_32)) => ?_)
          have fr_35 : (0 : Int) ≤ r_35 ∧ r_35 ≤ 1 := by rw [er_35]; exact b2_b
          refine zi_if_eq (tgt := 43) hx hb ⟨by omega, by omega⟩ dX7_shareAPlate_38 (by decide) (fun c_38 => ?_) (fun c_38 => ?_)
          · refine zi_iinc (k := 3) (lv' := [(3, .int (zi (i + 1))), (0, .ref (ad 0)), (1, .int (zi x0)), (2, .int (zi x1))]) hx hb dX7_shareAPlate_43 hl rfl (by decide) rfl (fun ls hl => ?_)
            refine lv_goto (tgt := 2) hx hb dX7_shareAPlate_46 (by decide) ?_
            exact ih_2 n (i + 1) (by first | omega | assumption) (by first | omega | assumption) (by rw [← h_R]; exact congrArg b2 (propext ⟨Or.inr, fun h9 => h9.resolve_left (fun h8 => b2_0 er_35 c_38 (er_32 ▸ h8.2))⟩)) (by omega) _ (lv_sub hl [1, 2, 3, 0] rfl)
          · refine zi_iconst hx hb dX7_shareAPlate_41 ?_
            exact zr_z hx hb hr hlocks dX7_shareAPlate_42 (Or.inr rfl) (by rw [← h_R]; exact (b2_t (Or.inl ⟨b2_1 er_19 c_22, er_32 ▸ b2_1 er_35 c_38⟩)).symm)
  refine lv_istore_n (lv' := [(3, .int (zi 0)), (0, .ref (ad 0)), (1, .int (zi x0)), (2, .int (zi x1))]) hx hb dX7_shareAPlate_1 rfl hl (by decide) rfl (fun ls hl => ?_)
  exact K_2 ((S 22 0).toNat + 1) ((S 22 0).toNat) 0 (by first | omega | assumption) (by first | omega | assumption) (by rw [shareP]) (by omega) _ (lv_sub hl [1, 2, 3, 0] rfl)

theorem in_X7_canJoin_7 : ∀ w ∈ wsX70, w ∈ wsX7_canJoin := by decide +kernel
theorem lk_X7_canJoin_19 : Cond.fieldLink RX7 19 "PlanetoidDesk" "bodies" "LPlanetoidDesk$Bodies;" ∈ wsX7_canJoin := by decide +kernel
theorem lk_X7_canJoin_33 : Cond.fieldLink RX7 33 "PlanetoidDesk" "fitting" "LPlanetoidDesk$Orbits;" ∈ wsX7_canJoin := by decide +kernel
abbrev rmct_X7_canJoin : Room := { frames := 5, cells := 0, slots := 0, locals := 116 }
set_option maxHeartbeats 4000000 in
set_option maxRecDepth 100000 in
theorem ct_X7_canJoin (l : Launch) (D : va_G) (cI cZ cJ : ClassId) (ad : Nat → Nat) (S : ZS) (hI : CI S) (hdis : dDis ad) (x0 x1 : Int) (hx0 : ir x0) (hx1 : ir x1)  : Met l yX7_canJoin wsX7_canJoin rmct_X7_canJoin (zP D cI cZ cJ (dW cI ad S) [.ref (ad 0), .int (zi x0), .int (zi x1)]) (zWi D (dW cI ad) (dA ad) (fun r T => r = b2 (joinP S x0 x1) ∧ SC S T ∧ CI T)) 0 0 (dA ad) := by
  refine Met.ofW (cc := cX7_canJoin) (maxL := 3) (ret := (some .boolean)) (by decide) rfl ?_
  intro p e s m args below meth c s₁ B hml hv
  obtain ⟨rfl, hP, hK⟩ := hv
  have hx := B.exec
  have hb := B.bytes
  have hr := B.returns
  have hts := atoms_spec (ws := wsX7_canJoin) B.pre
  have hown : s.vm.findClass RX7 = some m.cls := findClass_of_methodNamed B.named
  have hlocks := B.notSynchronized
  have hl := lv_entry ([.ref (ad 0), .int (zi x0), .int (zi x1)]) (n := 3) (Nat.le_of_ble_eq_true rfl)
  rw [lg_entry_eq]
  generalize (lg_sl ([.ref (ad 0), .int (zi x0), .int (zi x1)]) ++ List.replicate (3 - (lg_sl ([.ref (ad 0), .int (zi x0), .int (zi x1)])).length) Slot.unset).toArray = ls at hl ⊢
  have hl : lv_has ls 3 [(0, .ref (ad 0)), (1, .int (zi x0)), (2, .int (zi x1))] := hl
  have hS : va_S (dA ad) s.heap s.heap [] := va_S.rf
  show W p l e rmct_X7_canJoin s m ([.ref (ad 0), .int (zi x0), .int (zi x1)] : List Value).toArray below meth c s.heap [] 0 0 (MQ below (zWi D (dW cI ad) (dA ad) (fun r T => r = b2 (joinP S x0 x1) ∧ SC S T ∧ CI T)) ([.ref (ad 0), .int (zi x0), .int (zi x1)] : List Value).toArray s 0 0 (dA ad)) (F0 m 0 ls [])
  refine lv_iload_n hx hb dX7_canJoin_0 rfl (lv_at hl 1 rfl) ?_
  refine lv_iload_n hx hb dX7_canJoin_1 rfl (lv_at hl 2 rfl) ?_
  refine zi_icmp_eq (tgt := 27) hx hb ⟨by omega, by omega⟩ ⟨by omega, by omega⟩ dX7_canJoin_2 (by decide) (fun c_2 => ?_) (fun c_2 => ?_)
  · refine zi_iconst hx hb dX7_canJoin_27 ?_
    exact zr_wz (T := S) hx hb hr hlocks dX7_canJoin_28 (Or.inl rfl) hP hS (by exact ⟨(b2_f (fun h9 => h9.1.1 c_2)).symm, SC.rf, hI⟩)
  · refine lv_aload_n hx hb dX7_canJoin_5 rfl (lv_at hl 0 rfl) ?_
    refine va_get (D := D) (ci := 7) (v := .ref (ad 2)) (C := RX7) (T := TX7) (N := 6) hx hb hts in_X7_canJoin_7 hown hK.1 hP 0 rfl rfl 1 (by decide) (hts _ lk_X7_canJoin_19) (fun _ h9 => h9) rfl dX7_canJoin_6 ?_
    refine lv_iload_n hx hb dX7_canJoin_9 rfl (lv_at hl 1 rfl) ?_
    refine zk_r (zc_V (As := [.int (zi x0)]) (rest := []) ⟨hx, hb, hml, hown, hts⟩ (ct_X0_isFree l D cI cZ cJ ad S hI x0 ⟨by omega, by omega⟩) (cwV 1 hts gX7_canJoin_X0_isFree rfl rfl rfl (by decide +kernel) ⟨Nat.le_of_ble_eq_true rfl, Nat.le_of_ble_eq_true rfl⟩) hK hP (q0 := 2) (ci := 0) rfl rfl rfl rfl hl.1 rfl (Nat.le_of_ble_eq_true rfl) dX7_canJoin_10 ⟨Nat.zero_le _, Nat.zero_le _⟩) ?_
    refine zi_top (fun (r_10 : Int) (er_10 : r_10 = b2 (rAt 20 (S 8) x0 = -1)) => ?_)
    have fr_10 : (0 : Int) ≤ r_10 ∧ r_10 ≤ 1 := by rw [er_10]; exact b2_b
    refine zi_if_eq (tgt := 27) hx hb ⟨by omega, by omega⟩ dX7_canJoin_13 (by decide) (fun c_13 => ?_) (fun c_13 => ?_)
    · refine zi_iconst hx hb dX7_canJoin_27 ?_
      exact zr_wz (T := S) hx hb hr hlocks dX7_canJoin_28 (Or.inl rfl) hP hS (by exact ⟨(b2_f (fun h9 => b2_0 er_10 c_13 h9.1.2.1)).symm, SC.rf, hI⟩)
    · refine lv_aload_n hx hb dX7_canJoin_16 rfl (lv_at hl 0 rfl) ?_
      refine va_get (D := D) (ci := 7) (v := .ref (ad 2)) (C := RX7) (T := TX7) (N := 6) hx hb hts in_X7_canJoin_7 hown hK.1 hP 0 rfl rfl 1 (by decide) (hts _ lk_X7_canJoin_19) (fun _ h9 => h9) rfl dX7_canJoin_17 ?_
      refine lv_iload_n hx hb dX7_canJoin_20 rfl (lv_at hl 2 rfl) ?_
      refine zk_r (zc_V (As := [.int (zi x1)]) (rest := []) ⟨hx, hb, hml, hown, hts⟩ (ct_X0_isFree l D cI cZ cJ ad S hI x1 ⟨by omega, by omega⟩) (cwV 1 hts gX7_canJoin_X0_isFree rfl rfl rfl (by decide +kernel) ⟨Nat.le_of_ble_eq_true rfl, Nat.le_of_ble_eq_true rfl⟩) hK hP (q0 := 2) (ci := 0) rfl rfl rfl rfl hl.1 rfl (Nat.le_of_ble_eq_true rfl) dX7_canJoin_21 ⟨Nat.zero_le _, Nat.zero_le _⟩) ?_
      refine zi_top (fun (r_21 : Int) (er_21 : r_21 = b2 (rAt 20 (S 8) x1 = -1)) => ?_)
      have fr_21 : (0 : Int) ≤ r_21 ∧ r_21 ≤ 1 := by rw [er_21]; exact b2_b
      refine zi_if_ne (tgt := 29) hx hb ⟨by omega, by omega⟩ dX7_canJoin_24 (by decide) (fun c_24 => ?_) (fun c_24 => ?_)
      · refine lv_aload_n hx hb dX7_canJoin_29 rfl (lv_at hl 0 rfl) ?_
        refine va_get (D := D) (ci := 7) (v := .ref (ad 2)) (C := RX7) (T := TX7) (N := 6) hx hb hts in_X7_canJoin_7 hown hK.1 hP 0 rfl rfl 1 (by decide) (hts _ lk_X7_canJoin_19) (fun _ h9 => h9) rfl dX7_canJoin_30 ?_
        refine lv_iload_n hx hb dX7_canJoin_33 rfl (lv_at hl 1 rfl) ?_
        refine zk_r (zc_V (As := [.int (zi x0)]) (rest := []) ⟨hx, hb, hml, hown, hts⟩ (ct_X0_numberOf l D cI cZ cJ ad S hI x0 ⟨by omega, by omega⟩) (cwV 1 hts gX7_canJoin_X0_numberOf rfl rfl rfl (by decide +kernel) ⟨Nat.le_of_ble_eq_true rfl, Nat.le_of_ble_eq_true rfl⟩) hK hP (q0 := 2) (ci := 0) rfl rfl rfl rfl hl.1 rfl (Nat.le_of_ble_eq_true rfl) dX7_canJoin_34 ⟨Nat.zero_le _, Nat.zero_le _⟩) ?_
        refine zi_top (fun (r_34 : Int) (er_34 : r_34 = rAt 20 (S 10) x0) => ?_)
        have fr_34 : (-1 : Int) ≤ r_34 ∧ r_34 ≤ 20 := by rw [er_34]; exact CI.at hI 10 20 x0 ⟨by decide, by decide⟩
        refine zi_iconst hx hb dX7_canJoin_37 ?_
        refine zi_icmp_eq (tgt := 55) hx hb ⟨by omega, by omega⟩ ⟨by decide, by decide⟩ dX7_canJoin_38 (by decide) (fun c_38 => ?_) (fun c_38 => ?_)
        · refine lv_aload_n hx hb dX7_canJoin_55 rfl (lv_at hl 0 rfl) ?_
          refine lv_iload_n hx hb dX7_canJoin_56 rfl (lv_at hl 1 rfl) ?_
          refine lv_iload_n hx hb dX7_canJoin_57 rfl (lv_at hl 2 rfl) ?_
          refine zk_r (zc_V (As := [.int (zi x0), .int (zi x1)]) (rest := []) ⟨hx, hb, hml, hown, hts⟩ (ct_X7_shareAPlate l D cI cZ cJ ad S hI x0 x1 ⟨by omega, by omega⟩ ⟨by omega, by omega⟩) (cwV 2 hts gX7_canJoin_X7_shareAPlate rfl rfl rfl (by decide +kernel) ⟨Nat.le_of_ble_eq_true rfl, Nat.le_of_ble_eq_true rfl⟩) hK hP (q0 := 0) (ci := 7) rfl rfl rfl rfl hl.1 rfl (Nat.le_of_ble_eq_true rfl) dX7_canJoin_58 ⟨Nat.zero_le _, Nat.zero_le _⟩) ?_
          refine zi_top (fun (r_58 : Int) (er_58 : r_58 = b2 (shareP S x0 x1)) => ?_)
          have fr_58 : (0 : Int) ≤ r_58 ∧ r_58 ≤ 1 := by rw [er_58]; exact b2_b
          refine zi_if_eq (tgt := 66) hx hb ⟨by omega, by omega⟩ dX7_canJoin_61 (by decide) (fun c_61 => ?_) (fun c_61 => ?_)
          · refine lv_aload_n hx hb dX7_canJoin_66 rfl (lv_at hl 0 rfl) ?_
            refine lv_iload_n hx hb dX7_canJoin_67 rfl (lv_at hl 1 rfl) ?_
            refine zk_wv (zc_V (As := [.int (zi x0)]) (rest := []) ⟨hx, hb, hml, hown, hts⟩ (ct_X7_findOrbits l D cI cZ cJ ad S hI hdis x0 ⟨by omega, by omega⟩) (cwV 1 hts gX7_canJoin_X7_findOrbits rfl rfl rfl (by decide +kernel) ⟨Nat.le_of_ble_eq_true rfl, Nat.le_of_ble_eq_true rfl⟩) hK hP (q0 := 0) (ci := 7) rfl rfl rfl rfl hl.1 rfl (Nat.le_of_ble_eq_true rfl) dX7_canJoin_68 ⟨Nat.zero_le _, Nat.zero_le _⟩) hS (fun S_68 H locs hp_68 hP hS => ?_)
            obtain ⟨e9, hI_68⟩ := hp_68
            have eS_68 := e9.symm; clear e9
            refine lv_aload_n hx hb dX7_canJoin_71 rfl (lv_at hl 0 rfl) ?_
            refine lv_iload_n hx hb dX7_canJoin_72 rfl (lv_at hl 2 rfl) ?_
            refine zk_wv (zc_V (As := [.int (zi x1)]) (rest := []) ⟨hx, hb, hml, hown, hts⟩ (ct_X7_keepFitting l D cI cZ cJ ad S_68 hI_68 hdis x1 ⟨by omega, by omega⟩) (cwV 1 hts gX7_canJoin_X7_keepFitting rfl rfl rfl (by decide +kernel) ⟨Nat.le_of_ble_eq_true rfl, Nat.le_of_ble_eq_true rfl⟩) hK hP (q0 := 0) (ci := 7) rfl rfl rfl rfl hl.1 rfl (Nat.le_of_ble_eq_true rfl) dX7_canJoin_73 ⟨Nat.zero_le _, Nat.zero_le _⟩) hS (fun S_73 H locs hp_73 hP hS => ?_)
            obtain ⟨e9, hI_73⟩ := hp_73
            have eS_73 := e9.symm; clear e9
            refine lv_aload_n hx hb dX7_canJoin_76 rfl (lv_at hl 0 rfl) ?_
            refine va_get (D := D) (ci := 7) (v := .ref (ad 4)) (C := RX7) (T := TX7) (N := 6) hx hb hts in_X7_canJoin_7 hown hK.1 hP 0 rfl rfl 3 (by decide) (hts _ lk_X7_canJoin_33) (fun _ h9 => h9) rfl dX7_canJoin_77 ?_
            refine zk_r (zc_V (As := []) (rest := []) ⟨hx, hb, hml, hown, hts⟩ (ct_X3_countOrbits l D cI cZ cJ ad S_73 hI_73  ) (cwV 0 hts gX7_canJoin_X3_countOrbits rfl rfl rfl (by decide +kernel) ⟨Nat.le_of_ble_eq_true rfl, Nat.le_of_ble_eq_true rfl⟩) hK hP (q0 := 4) (ci := 3) rfl rfl rfl rfl hl.1 rfl (Nat.le_of_ble_eq_true rfl) dX7_canJoin_80 ⟨Nat.zero_le _, Nat.zero_le _⟩) ?_
            refine zi_top (fun (r_80 : Int) (er_80 : r_80 = cntO S_73) => ?_)
            have fr_80 : (0 : Int) ≤ r_80 ∧ r_80 ≤ 1458000 := by rw [er_80]; exact cntO_b hI_73
            refine zi_if_le (tgt := 90) hx hb ⟨by omega, by omega⟩ dX7_canJoin_83 (by decide) (fun c_83 => ?_) (fun c_83 => ?_)
            · refine zi_iconst hx hb dX7_canJoin_90 ?_
              exact zr_wz (T := S_73) hx hb hr hlocks dX7_canJoin_91 (Or.inl rfl) hP hS (by exact ⟨(b2_f (fun h9 => absurd h9.2 (Int.not_lt.mpr (by rw [eS_68, eS_73, ← er_80]; exact c_83)))).symm, by rw [← eS_73, ← eS_68]; exact SC_fo.tr SC_kf, hI_73⟩)
            · refine zi_iconst hx hb dX7_canJoin_86 ?_
              refine lv_goto (tgt := 91) hx hb dX7_canJoin_87 (by decide) ?_
              exact zr_wz (T := S_73) hx hb hr hlocks dX7_canJoin_91 (Or.inr rfl) hP hS (by exact ⟨(b2_t ⟨⟨c_2, b2_1 er_10 c_13, b2_1 er_21 c_24, fun h7 => h7.1 (er_34 ▸ c_38), b2_0 er_58 c_61⟩, by have h8 := Int.not_le.mp c_83; rw [er_80, ← eS_73, ← eS_68] at h8; exact h8⟩).symm, by rw [← eS_73, ← eS_68]; exact SC_fo.tr SC_kf, hI_73⟩)
          · refine zi_iconst hx hb dX7_canJoin_64 ?_
            exact zr_wz (T := S) hx hb hr hlocks dX7_canJoin_65 (Or.inl rfl) hP hS (by exact ⟨(b2_f (fun h9 => h9.1.2.2.2.2 (b2_1 er_58 c_61))).symm, SC.rf, hI⟩)
        · refine lv_aload_n hx hb dX7_canJoin_41 rfl (lv_at hl 0 rfl) ?_
          refine va_get (D := D) (ci := 7) (v := .ref (ad 2)) (C := RX7) (T := TX7) (N := 6) hx hb hts in_X7_canJoin_7 hown hK.1 hP 0 rfl rfl 1 (by decide) (hts _ lk_X7_canJoin_19) (fun _ h9 => h9) rfl dX7_canJoin_42 ?_
          refine lv_iload_n hx hb dX7_canJoin_45 rfl (lv_at hl 2 rfl) ?_
          refine zk_r (zc_V (As := [.int (zi x1)]) (rest := []) ⟨hx, hb, hml, hown, hts⟩ (ct_X0_numberOf l D cI cZ cJ ad S hI x1 ⟨by omega, by omega⟩) (cwV 1 hts gX7_canJoin_X0_numberOf rfl rfl rfl (by decide +kernel) ⟨Nat.le_of_ble_eq_true rfl, Nat.le_of_ble_eq_true rfl⟩) hK hP (q0 := 2) (ci := 0) rfl rfl rfl rfl hl.1 rfl (Nat.le_of_ble_eq_true rfl) dX7_canJoin_46 ⟨Nat.zero_le _, Nat.zero_le _⟩) ?_
          refine zi_top (fun (r_46 : Int) (er_46 : r_46 = rAt 20 (S 10) x1) => ?_)
          have fr_46 : (-1 : Int) ≤ r_46 ∧ r_46 ≤ 20 := by rw [er_46]; exact CI.at hI 10 20 x1 ⟨by decide, by decide⟩
          refine zi_iconst hx hb dX7_canJoin_49 ?_
          refine zi_icmp_eq (tgt := 55) hx hb ⟨by omega, by omega⟩ ⟨by decide, by decide⟩ dX7_canJoin_50 (by decide) (fun c_50 => ?_) (fun c_50 => ?_)
          · refine lv_aload_n hx hb dX7_canJoin_55 rfl (lv_at hl 0 rfl) ?_
            refine lv_iload_n hx hb dX7_canJoin_56 rfl (lv_at hl 1 rfl) ?_
            refine lv_iload_n hx hb dX7_canJoin_57 rfl (lv_at hl 2 rfl) ?_
            refine zk_r (zc_V (As := [.int (zi x0), .int (zi x1)]) (rest := []) ⟨hx, hb, hml, hown, hts⟩ (ct_X7_shareAPlate l D cI cZ cJ ad S hI x0 x1 ⟨by omega, by omega⟩ ⟨by omega, by omega⟩) (cwV 2 hts gX7_canJoin_X7_shareAPlate rfl rfl rfl (by decide +kernel) ⟨Nat.le_of_ble_eq_true rfl, Nat.le_of_ble_eq_true rfl⟩) hK hP (q0 := 0) (ci := 7) rfl rfl rfl rfl hl.1 rfl (Nat.le_of_ble_eq_true rfl) dX7_canJoin_58 ⟨Nat.zero_le _, Nat.zero_le _⟩) ?_
            refine zi_top (fun (r_58 : Int) (er_58 : r_58 = b2 (shareP S x0 x1)) => ?_)
            have fr_58 : (0 : Int) ≤ r_58 ∧ r_58 ≤ 1 := by rw [er_58]; exact b2_b
            refine zi_if_eq (tgt := 66) hx hb ⟨by omega, by omega⟩ dX7_canJoin_61 (by decide) (fun c_61 => ?_) (fun c_61 => ?_)
            · refine lv_aload_n hx hb dX7_canJoin_66 rfl (lv_at hl 0 rfl) ?_
              refine lv_iload_n hx hb dX7_canJoin_67 rfl (lv_at hl 1 rfl) ?_
              refine zk_wv (zc_V (As := [.int (zi x0)]) (rest := []) ⟨hx, hb, hml, hown, hts⟩ (ct_X7_findOrbits l D cI cZ cJ ad S hI hdis x0 ⟨by omega, by omega⟩) (cwV 1 hts gX7_canJoin_X7_findOrbits rfl rfl rfl (by decide +kernel) ⟨Nat.le_of_ble_eq_true rfl, Nat.le_of_ble_eq_true rfl⟩) hK hP (q0 := 0) (ci := 7) rfl rfl rfl rfl hl.1 rfl (Nat.le_of_ble_eq_true rfl) dX7_canJoin_68 ⟨Nat.zero_le _, Nat.zero_le _⟩) hS (fun S_68 H locs hp_68 hP hS => ?_)
              obtain ⟨e9, hI_68⟩ := hp_68
              have eS_68 := e9.symm; clear e9
              refine lv_aload_n hx hb dX7_canJoin_71 rfl (lv_at hl 0 rfl) ?_
              refine lv_iload_n hx hb dX7_canJoin_72 rfl (lv_at hl 2 rfl) ?_
              refine zk_wv (zc_V (As := [.int (zi x1)]) (rest := []) ⟨hx, hb, hml, hown, hts⟩ (ct_X7_keepFitting l D cI cZ cJ ad S_68 hI_68 hdis x1 ⟨by omega, by omega⟩) (cwV 1 hts gX7_canJoin_X7_keepFitting rfl rfl rfl (by decide +kernel) ⟨Nat.le_of_ble_eq_true rfl, Nat.le_of_ble_eq_true rfl⟩) hK hP (q0 := 0) (ci := 7) rfl rfl rfl rfl hl.1 rfl (Nat.le_of_ble_eq_true rfl) dX7_canJoin_73 ⟨Nat.zero_le _, Nat.zero_le _⟩) hS (fun S_73 H locs hp_73 hP hS => ?_)
              obtain ⟨e9, hI_73⟩ := hp_73
              have eS_73 := e9.symm; clear e9
              refine lv_aload_n hx hb dX7_canJoin_76 rfl (lv_at hl 0 rfl) ?_
              refine va_get (D := D) (ci := 7) (v := .ref (ad 4)) (C := RX7) (T := TX7) (N := 6) hx hb hts in_X7_canJoin_7 hown hK.1 hP 0 rfl rfl 3 (by decide) (hts _ lk_X7_canJoin_33) (fun _ h9 => h9) rfl dX7_canJoin_77 ?_
              refine zk_r (zc_V (As := []) (rest := []) ⟨hx, hb, hml, hown, hts⟩ (ct_X3_countOrbits l D cI cZ cJ ad S_73 hI_73  ) (cwV 0 hts gX7_canJoin_X3_countOrbits rfl rfl rfl (by decide +kernel) ⟨Nat.le_of_ble_eq_true rfl, Nat.le_of_ble_eq_true rfl⟩) hK hP (q0 := 4) (ci := 3) rfl rfl rfl rfl hl.1 rfl (Nat.le_of_ble_eq_true rfl) dX7_canJoin_80 ⟨Nat.zero_le _, Nat.zero_le _⟩) ?_
              refine zi_top (fun (r_80 : Int) (er_80 : r_80 = cntO S_73) => ?_)
              have fr_80 : (0 : Int) ≤ r_80 ∧ r_80 ≤ 1458000 := by rw [er_80]; exact cntO_b hI_73
              refine zi_if_le (tgt := 90) hx hb ⟨by omega, by omega⟩ dX7_canJoin_83 (by decide) (fun c_83 => ?_) (fun c_83 => ?_)
              · refine zi_iconst hx hb dX7_canJoin_90 ?_
                exact zr_wz (T := S_73) hx hb hr hlocks dX7_canJoin_91 (Or.inl rfl) hP hS (by exact ⟨(b2_f (fun h9 => absurd h9.2 (Int.not_lt.mpr (by rw [eS_68, eS_73, ← er_80]; exact c_83)))).symm, by rw [← eS_73, ← eS_68]; exact SC_fo.tr SC_kf, hI_73⟩)
              · refine zi_iconst hx hb dX7_canJoin_86 ?_
                refine lv_goto (tgt := 91) hx hb dX7_canJoin_87 (by decide) ?_
                exact zr_wz (T := S_73) hx hb hr hlocks dX7_canJoin_91 (Or.inr rfl) hP hS (by exact ⟨(b2_t ⟨⟨c_2, b2_1 er_10 c_13, b2_1 er_21 c_24, fun h7 => h7.2 (er_46 ▸ c_50), b2_0 er_58 c_61⟩, by have h8 := Int.not_le.mp c_83; rw [er_80, ← eS_73, ← eS_68] at h8; exact h8⟩).symm, by rw [← eS_73, ← eS_68]; exact SC_fo.tr SC_kf, hI_73⟩)
            · refine zi_iconst hx hb dX7_canJoin_64 ?_
              exact zr_wz (T := S) hx hb hr hlocks dX7_canJoin_65 (Or.inl rfl) hP hS (by exact ⟨(b2_f (fun h9 => h9.1.2.2.2.2 (b2_1 er_58 c_61))).symm, SC.rf, hI⟩)
          · refine zi_iconst hx hb dX7_canJoin_53 ?_
            exact zr_wz (T := S) hx hb hr hlocks dX7_canJoin_54 (Or.inl rfl) hP hS (by exact ⟨(b2_f (fun h9 => h9.1.2.2.2.1 ⟨er_34 ▸ c_38, er_46 ▸ c_50⟩)).symm, SC.rf, hI⟩)
      · refine zi_iconst hx hb dX7_canJoin_27 ?_
        exact zr_wz (T := S) hx hb hr hlocks dX7_canJoin_28 (Or.inl rfl) hP hS (by exact ⟨(b2_f (fun h9 => b2_0 er_21 c_24 h9.1.2.2.1)).symm, SC.rf, hI⟩)

theorem in_X7_isStronger_7 : ∀ w ∈ wsX70, w ∈ wsX7_isStronger := by decide +kernel
theorem lk_X7_isStronger_19 : Cond.fieldLink RX7 19 "PlanetoidDesk" "bodies" "LPlanetoidDesk$Bodies;" ∈ wsX7_isStronger := by decide +kernel
theorem lk_X7_isStronger_10 : Cond.fieldLink RX7 10 "PlanetoidDesk" "sky" "LPlanetoidDesk$Sky;" ∈ wsX7_isStronger := by decide +kernel
abbrev rmct_X7_isStronger : Room := { frames := 4, cells := 0, slots := 0, locals := 90 }
set_option maxHeartbeats 4000000 in
set_option maxRecDepth 100000 in
theorem ct_X7_isStronger (l : Launch) (D : va_G) (cI cZ cJ : ClassId) (ad : Nat → Nat) (S : ZS) (hI : CI S) (hdis : dDis ad) (x0 x1 : Int) (hx0 : ir x0) (hx1 : ir x1)  : Met l yX7_isStronger wsX7_isStronger rmct_X7_isStronger (zP D cI cZ cJ (dW cI ad S) [.ref (ad 0), .int (zi x0), .int (zi x1)]) (zWi D (dW cI ad) (dA ad) (fun r T => r = b2 (strongP S x0 x1) ∧ SC S T ∧ CI T)) 0 0 (dA ad) := by
  refine Met.ofW (cc := cX7_isStronger) (maxL := 7) (ret := (some .boolean)) (by decide) rfl ?_
  intro p e s m args below meth c s₁ B hml hv
  obtain ⟨rfl, hP, hK⟩ := hv
  have hx := B.exec
  have hb := B.bytes
  have hr := B.returns
  have hts := atoms_spec (ws := wsX7_isStronger) B.pre
  have hown : s.vm.findClass RX7 = some m.cls := findClass_of_methodNamed B.named
  have hlocks := B.notSynchronized
  have hl := lv_entry ([.ref (ad 0), .int (zi x0), .int (zi x1)]) (n := 7) (Nat.le_of_ble_eq_true rfl)
  rw [lg_entry_eq]
  generalize (lg_sl ([.ref (ad 0), .int (zi x0), .int (zi x1)]) ++ List.replicate (7 - (lg_sl ([.ref (ad 0), .int (zi x0), .int (zi x1)])).length) Slot.unset).toArray = ls at hl ⊢
  have hl : lv_has ls 7 [(0, .ref (ad 0)), (1, .int (zi x0)), (2, .int (zi x1))] := hl
  have hS : va_S (dA ad) s.heap s.heap [] := va_S.rf
  show W p l e rmct_X7_isStronger s m ([.ref (ad 0), .int (zi x0), .int (zi x1)] : List Value).toArray below meth c s.heap [] 0 0 (MQ below (zWi D (dW cI ad) (dA ad) (fun r T => r = b2 (strongP S x0 x1) ∧ SC S T ∧ CI T)) ([.ref (ad 0), .int (zi x0), .int (zi x1)] : List Value).toArray s 0 0 (dA ad)) (F0 m 0 ls [])
  refine lv_aload_n hx hb dX7_isStronger_0 rfl (lv_at hl 0 rfl) ?_
  refine va_get (D := D) (ci := 7) (v := .ref (ad 2)) (C := RX7) (T := TX7) (N := 6) hx hb hts in_X7_isStronger_7 hown hK.1 hP 0 rfl rfl 1 (by decide) (hts _ lk_X7_isStronger_19) (fun _ h9 => h9) rfl dX7_isStronger_1 ?_
  refine lv_iload_n hx hb dX7_isStronger_4 rfl (lv_at hl 1 rfl) ?_
  refine zk_r (zc_V (As := [.int (zi x0)]) (rest := []) ⟨hx, hb, hml, hown, hts⟩ (ct_X0_numberOf l D cI cZ cJ ad S hI x0 ⟨by omega, by omega⟩) (cwV 1 hts gX7_isStronger_X0_numberOf rfl rfl rfl (by decide +kernel) ⟨Nat.le_of_ble_eq_true rfl, Nat.le_of_ble_eq_true rfl⟩) hK hP (q0 := 2) (ci := 0) rfl rfl rfl rfl hl.1 rfl (Nat.le_of_ble_eq_true rfl) dX7_isStronger_5 ⟨Nat.zero_le _, Nat.zero_le _⟩) ?_
  refine zi_top (fun (r_5 : Int) (er_5 : r_5 = rAt 20 (S 10) x0) => ?_)
  have fr_5 : (-1 : Int) ≤ r_5 ∧ r_5 ≤ 20 := by rw [er_5]; exact CI.at hI 10 20 x0 ⟨by decide, by decide⟩
  refine zi_iconst hx hb dX7_isStronger_8 ?_
  refine zi_icmp_eq (tgt := 14) hx hb ⟨by omega, by omega⟩ ⟨by decide, by decide⟩ dX7_isStronger_9 (by decide) (fun c_9 => ?_) (fun c_9 => ?_)
  · refine lv_aload_n hx hb dX7_isStronger_14 rfl (lv_at hl 0 rfl) ?_
    refine va_get (D := D) (ci := 7) (v := .ref (ad 2)) (C := RX7) (T := TX7) (N := 6) hx hb hts in_X7_isStronger_7 hown hK.1 hP 0 rfl rfl 1 (by decide) (hts _ lk_X7_isStronger_19) (fun _ h9 => h9) rfl dX7_isStronger_15 ?_
    refine lv_iload_n hx hb dX7_isStronger_18 rfl (lv_at hl 2 rfl) ?_
    refine zk_r (zc_V (As := [.int (zi x1)]) (rest := []) ⟨hx, hb, hml, hown, hts⟩ (ct_X0_numberOf l D cI cZ cJ ad S hI x1 ⟨by omega, by omega⟩) (cwV 1 hts gX7_isStronger_X0_numberOf rfl rfl rfl (by decide +kernel) ⟨Nat.le_of_ble_eq_true rfl, Nat.le_of_ble_eq_true rfl⟩) hK hP (q0 := 2) (ci := 0) rfl rfl rfl rfl hl.1 rfl (Nat.le_of_ble_eq_true rfl) dX7_isStronger_19 ⟨Nat.zero_le _, Nat.zero_le _⟩) ?_
    refine zi_top (fun (r_19 : Int) (er_19 : r_19 = rAt 20 (S 10) x1) => ?_)
    have fr_19 : (-1 : Int) ≤ r_19 ∧ r_19 ≤ 20 := by rw [er_19]; exact CI.at hI 10 20 x1 ⟨by decide, by decide⟩
    refine zi_iconst hx hb dX7_isStronger_22 ?_
    refine zi_icmp_eq (tgt := 28) hx hb ⟨by omega, by omega⟩ ⟨by decide, by decide⟩ dX7_isStronger_23 (by decide) (fun c_23 => ?_) (fun c_23 => ?_)
    · refine lv_aload_n hx hb dX7_isStronger_28 rfl (lv_at hl 0 rfl) ?_
      refine lv_iload_n hx hb dX7_isStronger_29 rfl (lv_at hl 1 rfl) ?_
      refine zk_wi (zc_V (As := [.int (zi x0)]) (rest := []) ⟨hx, hb, hml, hown, hts⟩ (ct_X7_firstLookOf l D cI cZ cJ ad S hI hdis x0 ⟨by omega, by omega⟩) (cwV 1 hts gX7_isStronger_X7_firstLookOf rfl rfl rfl (by decide +kernel) ⟨Nat.le_of_ble_eq_true rfl, Nat.le_of_ble_eq_true rfl⟩) hK hP (q0 := 0) (ci := 7) rfl rfl rfl rfl hl.1 rfl (Nat.le_of_ble_eq_true rfl) dX7_isStronger_30 ⟨Nat.zero_le _, Nat.zero_le _⟩) hS (fun r_30 S_30 H locs hp_30 hP hS => ?_)
      obtain ⟨er_30, e9, hI_30⟩ := hp_30
      have eS_30 := e9.symm; clear e9
      have fr_30 : (0 : Int) ≤ r_30 ∧ r_30 ≤ 59 := by rw [er_30, eS_30]; exact firstL_b hI_30
      refine lv_istore_n (lv' := [(3, .int (zi r_30)), (0, .ref (ad 0)), (1, .int (zi x0)), (2, .int (zi x1))]) hx hb dX7_isStronger_33 rfl hl (by decide) rfl (fun ls hl => ?_)
      refine lv_aload_n hx hb dX7_isStronger_34 rfl (lv_at hl 1 rfl) ?_
      refine lv_iload_n hx hb dX7_isStronger_35 rfl (lv_at hl 3 rfl) ?_
      refine zk_wi (zc_V (As := [.int (zi x1)]) (rest := []) ⟨hx, hb, hml, hown, hts⟩ (ct_X7_firstLookOf l D cI cZ cJ ad S_30 hI_30 hdis x1 ⟨by omega, by omega⟩) (cwV 1 hts gX7_isStronger_X7_firstLookOf rfl rfl rfl (by decide +kernel) ⟨Nat.le_of_ble_eq_true rfl, Nat.le_of_ble_eq_true rfl⟩) hK hP (q0 := 0) (ci := 7) rfl rfl rfl rfl hl.1 rfl (Nat.le_of_ble_eq_true rfl) dX7_isStronger_36 ⟨Nat.zero_le _, Nat.zero_le _⟩) hS (fun r_36 S_36 H locs hp_36 hP hS => ?_)
      obtain ⟨er_36, e9, hI_36⟩ := hp_36
      have eS_36 := e9.symm; clear e9
      have fr_36 : (0 : Int) ≤ r_36 ∧ r_36 ≤ 59 := by rw [er_36, eS_36]; exact firstL_b hI_36
      refine lv_istore (lv' := [(4, .int (zi r_36)), (3, .int (zi r_30)), (0, .ref (ad 0)), (1, .int (zi x0)), (2, .int (zi x1))]) hx hb dX7_isStronger_39 hl (by decide) rfl (fun ls hl => ?_)
      refine lv_aload_n hx hb dX7_isStronger_41 rfl (lv_at hl 2 rfl) ?_
      refine va_get (D := D) (ci := 7) (v := .ref (ad 1)) (C := RX7) (T := TX7) (N := 6) hx hb hts in_X7_isStronger_7 hown hK.1 hP 0 rfl rfl 0 (by decide) (hts _ lk_X7_isStronger_10) (fun _ h9 => h9) rfl dX7_isStronger_42 ?_
      refine lv_iload_n hx hb dX7_isStronger_45 rfl (lv_at hl 1 rfl) ?_
      refine zk_r (zc_V (As := [.int (zi r_30)]) (rest := []) ⟨hx, hb, hml, hown, hts⟩ (ct_X6_nightOf l D cI cZ cJ ad S_36 hI_36 r_30 ⟨by omega, by omega⟩) (cwV 1 hts gX7_isStronger_X6_nightOf rfl rfl rfl (by decide +kernel) ⟨Nat.le_of_ble_eq_true rfl, Nat.le_of_ble_eq_true rfl⟩) hK hP (q0 := 1) (ci := 6) rfl rfl rfl rfl hl.1 rfl (Nat.le_of_ble_eq_true rfl) dX7_isStronger_46 ⟨Nat.zero_le _, Nat.zero_le _⟩) ?_
      refine zi_top (fun (r_46 : Int) (er_46 : r_46 = nOf S_36 r_30) => ?_)
      have fr_46 : (0 : Int) ≤ r_46 ∧ r_46 ≤ 999 := by rw [er_46]; exact nOf_b hI_36 r_30
      refine lv_istore (lv' := [(5, .int (zi r_46)), (4, .int (zi r_36)), (3, .int (zi r_30)), (0, .ref (ad 0)), (1, .int (zi x0)), (2, .int (zi x1))]) hx hb dX7_isStronger_49 hl (by decide) rfl (fun ls hl => ?_)
      refine lv_aload_n hx hb dX7_isStronger_51 rfl (lv_at hl 3 rfl) ?_
      refine va_get (D := D) (ci := 7) (v := .ref (ad 1)) (C := RX7) (T := TX7) (N := 6) hx hb hts in_X7_isStronger_7 hown hK.1 hP 0 rfl rfl 0 (by decide) (hts _ lk_X7_isStronger_10) (fun _ h9 => h9) rfl dX7_isStronger_52 ?_
      refine lv_iload hx hb dX7_isStronger_55 (lv_at hl 1 rfl) ?_
      refine zk_r (zc_V (As := [.int (zi r_36)]) (rest := []) ⟨hx, hb, hml, hown, hts⟩ (ct_X6_nightOf l D cI cZ cJ ad S_36 hI_36 r_36 ⟨by omega, by omega⟩) (cwV 1 hts gX7_isStronger_X6_nightOf rfl rfl rfl (by decide +kernel) ⟨Nat.le_of_ble_eq_true rfl, Nat.le_of_ble_eq_true rfl⟩) hK hP (q0 := 1) (ci := 6) rfl rfl rfl rfl hl.1 rfl (Nat.le_of_ble_eq_true rfl) dX7_isStronger_57 ⟨Nat.zero_le _, Nat.zero_le _⟩) ?_
      refine zi_top (fun (r_57 : Int) (er_57 : r_57 = nOf S_36 r_36) => ?_)
      have fr_57 : (0 : Int) ≤ r_57 ∧ r_57 ≤ 999 := by rw [er_57]; exact nOf_b hI_36 r_36
      refine lv_istore (lv' := [(6, .int (zi r_57)), (5, .int (zi r_46)), (4, .int (zi r_36)), (3, .int (zi r_30)), (0, .ref (ad 0)), (1, .int (zi x0)), (2, .int (zi x1))]) hx hb dX7_isStronger_60 hl (by decide) rfl (fun ls hl => ?_)
      refine lv_iload hx hb dX7_isStronger_62 (lv_at hl 1 rfl) ?_
      refine lv_iload hx hb dX7_isStronger_64 (lv_at hl 0 rfl) ?_
      refine zi_icmp_lt (tgt := 82) hx hb ⟨by omega, by omega⟩ ⟨by omega, by omega⟩ dX7_isStronger_66 (by decide) (fun c_66 => ?_) (fun c_66 => ?_)
      · refine zi_iconst hx hb dX7_isStronger_82 ?_
        refine lv_goto (tgt := 87) hx hb dX7_isStronger_83 (by decide) ?_
        exact zr_wz (T := S_36) hx hb hr hlocks dX7_isStronger_87 (Or.inr rfl) hP hS (by
            have q1 : r_46 = nOf S r_30 := by rw [er_46, ← eS_36, ← eS_30, nOf_sc (SC_ga.tr SC_ga)]
            have q2 : r_57 = nOf S r_36 := by rw [er_57, ← eS_36, ← eS_30, nOf_sc (SC_ga.tr SC_ga)]
            rw [er_30] at q1; rw [er_36, ← eS_30] at q2
            exact ⟨(b2_t (Or.inr ⟨er_19 ▸ c_23, Or.inl (by rw [← q1, ← q2]; exact c_66)⟩)).symm, by rw [← eS_36, ← eS_30]; exact SC_ga.tr SC_ga, hI_36⟩)
      · refine lv_iload hx hb dX7_isStronger_69 (lv_at hl 1 rfl) ?_
        refine lv_iload hx hb dX7_isStronger_71 (lv_at hl 0 rfl) ?_
        refine zi_icmp_ne (tgt := 86) hx hb ⟨by omega, by omega⟩ ⟨by omega, by omega⟩ dX7_isStronger_73 (by decide) (fun c_73 => ?_) (fun c_73 => ?_)
        · refine zi_iconst hx hb dX7_isStronger_86 ?_
          exact zr_wz (T := S_36) hx hb hr hlocks dX7_isStronger_87 (Or.inl rfl) hP hS (by
              have q1 : r_46 = nOf S r_30 := by rw [er_46, ← eS_36, ← eS_30, nOf_sc (SC_ga.tr SC_ga)]
              have q2 : r_57 = nOf S r_36 := by rw [er_57, ← eS_36, ← eS_30, nOf_sc (SC_ga.tr SC_ga)]
              rw [er_30] at q1; rw [er_36, ← eS_30] at q2
              exact ⟨(b2_f (fun h9 => h9.elim (fun h8 => h8 (er_5 ▸ c_9)) (fun h8 => h8.2.elim (fun h7 => c_66 (by rw [q1, q2]; exact h7)) (fun h7 => c_73 (by rw [q1, q2]; exact h7.1))))).symm, by rw [← eS_36, ← eS_30]; exact SC_ga.tr SC_ga, hI_36⟩)
        · refine lv_iload_n hx hb dX7_isStronger_76 rfl (lv_at hl 3 rfl) ?_
          refine lv_iload hx hb dX7_isStronger_77 (lv_at hl 2 rfl) ?_
          refine zi_icmp_ge (tgt := 86) hx hb ⟨by omega, by omega⟩ ⟨by omega, by omega⟩ dX7_isStronger_79 (by decide) (fun c_79 => ?_) (fun c_79 => ?_)
          · refine zi_iconst hx hb dX7_isStronger_86 ?_
            exact zr_wz (T := S_36) hx hb hr hlocks dX7_isStronger_87 (Or.inl rfl) hP hS (by
                have q1 : r_46 = nOf S r_30 := by rw [er_46, ← eS_36, ← eS_30, nOf_sc (SC_ga.tr SC_ga)]
                have q2 : r_57 = nOf S r_36 := by rw [er_57, ← eS_36, ← eS_30, nOf_sc (SC_ga.tr SC_ga)]
                rw [er_30] at q1; rw [er_36, ← eS_30] at q2
                rw [er_30, er_36, ← eS_30] at c_79
                exact ⟨(b2_f (fun h9 => h9.elim (fun h8 => h8 (er_5 ▸ c_9)) (fun h8 => h8.2.elim (fun h7 => c_66 (by rw [q1, q2]; exact h7)) (fun h7 => absurd h7.2 (Int.not_lt.mpr c_79))))).symm, by rw [← eS_36, ← eS_30]; exact SC_ga.tr SC_ga, hI_36⟩)
          · refine zi_iconst hx hb dX7_isStronger_82 ?_
            refine lv_goto (tgt := 87) hx hb dX7_isStronger_83 (by decide) ?_
            exact zr_wz (T := S_36) hx hb hr hlocks dX7_isStronger_87 (Or.inr rfl) hP hS (by
                have q1 : r_46 = nOf S r_30 := by rw [er_46, ← eS_36, ← eS_30, nOf_sc (SC_ga.tr SC_ga)]
                have q2 : r_57 = nOf S r_36 := by rw [er_57, ← eS_36, ← eS_30, nOf_sc (SC_ga.tr SC_ga)]
                rw [er_30] at q1; rw [er_36, ← eS_30] at q2
                have c_79 : r_30 < r_36 := by omega
                rw [er_30, er_36, ← eS_30] at c_79
                exact ⟨(b2_t (Or.inr ⟨er_19 ▸ c_23, Or.inr ⟨by rw [← q1, ← q2]; exact c_73, c_79⟩⟩)).symm, by rw [← eS_36, ← eS_30]; exact SC_ga.tr SC_ga, hI_36⟩)
    · refine zi_iconst hx hb dX7_isStronger_26 ?_
      exact zr_wz (T := S) hx hb hr hlocks dX7_isStronger_27 (Or.inl rfl) hP hS (by exact ⟨(b2_f (fun h9 => h9.elim (fun h8 => h8 (er_5 ▸ c_9)) (fun h8 => c_23 (er_19.trans h8.1)))).symm, SC.rf, hI⟩)
  · refine zi_iconst hx hb dX7_isStronger_12 ?_
    exact zr_wz (T := S) hx hb hr hlocks dX7_isStronger_13 (Or.inr rfl) hP hS (by exact ⟨(b2_t (Or.inl (er_5 ▸ c_9))).symm, SC.rf, hI⟩)

theorem in_X7_isSeenLongEnough_7 : ∀ w ∈ wsX70, w ∈ wsX7_isSeenLongEnough := by decide +kernel
theorem lk_X7_isSeenLongEnough_26 : Cond.fieldLink RX7 26 "PlanetoidDesk" "looks" "LPlanetoidDesk$Looks;" ∈ wsX7_isSeenLongEnough := by decide +kernel
theorem in_X7_isSeenLongEnough_2 : ∀ w ∈ wsX20, w ∈ wsX7_isSeenLongEnough := by decide +kernel
theorem lk_X7_isSeenLongEnough_10 : Cond.fieldLink RX7 10 "PlanetoidDesk" "sky" "LPlanetoidDesk$Sky;" ∈ wsX7_isSeenLongEnough := by decide +kernel
theorem ml_min_X7_isSeenLongEnough : Cond.methodLink RX7 288 Lib.Math.min.name ∈ wsX7_isSeenLongEnough := by decide +kernel
theorem st_min_X7_isSeenLongEnough : Cond.static Lib.Math.min.name ∈ wsX7_isSeenLongEnough := by decide +kernel
theorem in_math_X7_isSeenLongEnough : Cond.initialized "java/lang/Math" ∈ wsX7_isSeenLongEnough := by decide +kernel
theorem co_min_X7_isSeenLongEnough : Cond.code Lib.Math.min.name Lib.Math.min.code 2 (some .int) ∈ wsX7_isSeenLongEnough := by decide +kernel
theorem ml_max_X7_isSeenLongEnough : Cond.methodLink RX7 293 Lib.Math.max.name ∈ wsX7_isSeenLongEnough := by decide +kernel
theorem st_max_X7_isSeenLongEnough : Cond.static Lib.Math.max.name ∈ wsX7_isSeenLongEnough := by decide +kernel
theorem co_max_X7_isSeenLongEnough : Cond.code Lib.Math.max.name Lib.Math.max.code 2 (some .int) ∈ wsX7_isSeenLongEnough := by decide +kernel
abbrev rmct_X7_isSeenLongEnough : Room := { frames := 3, cells := 0, slots := 0, locals := 67 }
set_option maxHeartbeats 4000000 in
set_option maxRecDepth 100000 in
theorem ct_X7_isSeenLongEnough (l : Launch) (D : va_G) (cI cZ cJ : ClassId) (ad : Nat → Nat) (S : ZS) (hI : CI S) (hdis : dDis ad) (x0 : Int) (hx0 : ir x0)  : Met l yX7_isSeenLongEnough wsX7_isSeenLongEnough rmct_X7_isSeenLongEnough (zP D cI cZ cJ (dW cI ad S) [.ref (ad 0), .int (zi x0)]) (zWi D (dW cI ad) (dA ad) (fun r T => r = b2 (longP (gatherL x0 S)) ∧ T = gatherL x0 S ∧ CI T)) 0 0 (dA ad) := by
  refine Met.ofW (cc := cX7_isSeenLongEnough) (maxL := 7) (ret := (some .boolean)) (by decide) rfl ?_
  intro p e s m args below meth c s₁ B hml hv
  obtain ⟨rfl, hP, hK⟩ := hv
  have hx := B.exec
  have hb := B.bytes
  have hr := B.returns
  have hts := atoms_spec (ws := wsX7_isSeenLongEnough) B.pre
  have hown : s.vm.findClass RX7 = some m.cls := findClass_of_methodNamed B.named
  have hlocks := B.notSynchronized
  have hl := lv_entry ([.ref (ad 0), .int (zi x0)]) (n := 7) (Nat.le_of_ble_eq_true rfl)
  rw [lg_entry_eq]
  generalize (lg_sl ([.ref (ad 0), .int (zi x0)]) ++ List.replicate (7 - (lg_sl ([.ref (ad 0), .int (zi x0)])).length) Slot.unset).toArray = ls at hl ⊢
  have hl : lv_has ls 7 [(0, .ref (ad 0)), (1, .int (zi x0))] := hl
  have hS : va_S (dA ad) s.heap s.heap [] := va_S.rf
  show W p l e rmct_X7_isSeenLongEnough s m ([.ref (ad 0), .int (zi x0)] : List Value).toArray below meth c s.heap [] 0 0 (MQ below (zWi D (dW cI ad) (dA ad) (fun r T => r = b2 (longP (gatherL x0 S)) ∧ T = gatherL x0 S ∧ CI T)) ([.ref (ad 0), .int (zi x0)] : List Value).toArray s 0 0 (dA ad)) (F0 m 0 ls [])
  refine lv_aload_n hx hb dX7_isSeenLongEnough_0 rfl (lv_at hl 0 rfl) ?_
  refine lv_iload_n hx hb dX7_isSeenLongEnough_1 rfl (lv_at hl 1 rfl) ?_
  refine zk_wv (zc_V (As := [.int (zi x0)]) (rest := []) ⟨hx, hb, hml, hown, hts⟩ (ct_X7_gatherLooks l D cI cZ cJ ad S hI hdis x0 ⟨by omega, by omega⟩) (cwV 1 hts gX7_isSeenLongEnough_X7_gatherLooks rfl rfl rfl (by decide +kernel) ⟨Nat.le_of_ble_eq_true rfl, Nat.le_of_ble_eq_true rfl⟩) hK hP (q0 := 0) (ci := 7) rfl rfl rfl rfl hl.1 rfl (Nat.le_of_ble_eq_true rfl) dX7_isSeenLongEnough_2 ⟨Nat.zero_le _, Nat.zero_le _⟩) hS (fun S_2 H locs hp_2 hP hS => ?_)
  obtain ⟨e9, hI_2⟩ := hp_2
  have eS_2 := e9.symm; clear e9
  have fk_26 : (0 : Int) ≤ S_2 26 0 ∧ S_2 26 0 ≤ 60 := hI_2 26 0
  refine zi_sipush hx hb dX7_isSeenLongEnough_5 (by decide) ?_
  refine lv_istore_n (lv' := [(2, .int (zi 1000)), (0, .ref (ad 0)), (1, .int (zi x0))]) hx hb dX7_isSeenLongEnough_8 rfl hl (by decide) rfl (fun ls hl => ?_)
  refine zi_iconst hx hb dX7_isSeenLongEnough_9 ?_
  refine lv_istore_n (lv' := [(3, .int (zi 0)), (2, .int (zi 1000)), (0, .ref (ad 0)), (1, .int (zi x0))]) hx hb dX7_isSeenLongEnough_10 rfl hl (by decide) rfl (fun ls hl => ?_)
  refine zi_iconst hx hb dX7_isSeenLongEnough_11 ?_
  have K_14 : ∀ (k : Nat) (n : Nat) (lo hi i : Int), (i + (n : Int) = S_2 26 0) → (0 ≤ i) → (0 ≤ lo ∧ lo ≤ 1000 ∧ 0 ≤ hi ∧ hi ≤ 999) → (itr (lgF S_2) n i (lo, hi) = lgA S_2) → ((n : Int) < (k : Int)) → ∀ (ls : Array Slot), lv_has ls 7 [(0, .ref (ad 0)), (1, .int (zi x0)), (2, .int (zi lo)), (3, .int (zi hi)), (4, .int (zi i))] → W p l e rmct_X7_isSeenLongEnough s m ([.ref (ad 0), .int (zi x0)] : List Value).toArray below meth c H locs 0 0 (MQ below (zWi D (dW cI ad) (dA ad) (fun r T => r = b2 (longP (gatherL x0 S)) ∧ T = gatherL x0 S ∧ CI T)) ([.ref (ad 0), .int (zi x0)] : List Value).toArray s 0 0 (dA ad)) (F0 m 14 ls []) := by
    intro k
    induction k with
    | zero => intro n lo hi i h_n h_i h_b h_R hk; exact absurd hk (by omega)
    | succ k ih_14 =>
      intro n lo hi i h_n h_i h_b h_R hk ls hl
      refine lv_iload hx hb dX7_isSeenLongEnough_14 (lv_at hl 4 rfl) ?_
      refine lv_aload_n hx hb dX7_isSeenLongEnough_16 rfl (lv_at hl 0 rfl) ?_
      refine va_get (D := D) (ci := 7) (v := .ref (ad 3)) (C := RX7) (T := TX7) (N := 6) hx hb hts in_X7_isSeenLongEnough_7 hown hK.1 hP 0 rfl rfl 2 (by decide) (hts _ lk_X7_isSeenLongEnough_26) (fun _ h9 => h9) rfl dX7_isSeenLongEnough_17 ?_
      refine va_getN (D := D) (ci := 2) (v := .int (zi (S_2 26 0))) (C := RX2) (T := TX2) (N := 2) hx hb hts in_X7_isSeenLongEnough_2 hown hK.1 hP 3 rfl rfl 1 (by decide) (va_Nw.use rfl (hK.2 _ (List.mem_of_getElem? (i := 3) rfl))) (fun _ h9 => h9) rfl dX7_isSeenLongEnough_20 ?_
      have f_20 : (0 : Int) ≤ S_2 26 0 ∧ S_2 26 0 ≤ 60 := hI_2 26 0
      refine zi_icmp_ge (tgt := 64) hx hb ⟨by omega, by omega⟩ ⟨by omega, by omega⟩ dX7_isSeenLongEnough_23 (by decide) (fun c_23 => ?_) (fun c_23 => ?_)
      · obtain rfl : n = 0 := by omega
        refine zi_iconst hx hb dX7_isSeenLongEnough_64 ?_
        refine lv_istore (lv' := [(4, .int (zi 0)), (0, .ref (ad 0)), (1, .int (zi x0)), (2, .int (zi lo)), (3, .int (zi hi))]) hx hb dX7_isSeenLongEnough_65 hl (by decide) rfl (fun ls hl => ?_)
        have K_70 : ∀ (k : Nat) (n : Nat) (t i : Int), (i + (n : Int) = S_2 26 0) → (0 ≤ i) → (0 ≤ t ∧ t ≤ 1) → (itr (thF S_2 lo hi) n i t = thA S_2) → ((n : Int) < (k : Int)) → ∀ (ls : Array Slot), lv_has ls 7 [(0, .ref (ad 0)), (1, .int (zi x0)), (2, .int (zi lo)), (3, .int (zi hi)), (4, .int (zi t)), (5, .int (zi i))] → W p l e rmct_X7_isSeenLongEnough s m ([.ref (ad 0), .int (zi x0)] : List Value).toArray below meth c H locs 0 0 (MQ below (zWi D (dW cI ad) (dA ad) (fun r T => r = b2 (longP (gatherL x0 S)) ∧ T = gatherL x0 S ∧ CI T)) ([.ref (ad 0), .int (zi x0)] : List Value).toArray s 0 0 (dA ad)) (F0 m 70 ls []) := by
          intro k
          induction k with
          | zero => intro n t i h_n h_i h_t h_S hk; exact absurd hk (by omega)
          | succ k ih_70 =>
            intro n t i h_n h_i h_t h_S hk ls hl
            refine lv_iload hx hb dX7_isSeenLongEnough_70 (lv_at hl 5 rfl) ?_
            refine lv_aload_n hx hb dX7_isSeenLongEnough_72 rfl (lv_at hl 0 rfl) ?_
            refine va_get (D := D) (ci := 7) (v := .ref (ad 3)) (C := RX7) (T := TX7) (N := 6) hx hb hts in_X7_isSeenLongEnough_7 hown hK.1 hP 0 rfl rfl 2 (by decide) (hts _ lk_X7_isSeenLongEnough_26) (fun _ h9 => h9) rfl dX7_isSeenLongEnough_73 ?_
            refine va_getN (D := D) (ci := 2) (v := .int (zi (S_2 26 0))) (C := RX2) (T := TX2) (N := 2) hx hb hts in_X7_isSeenLongEnough_2 hown hK.1 hP 3 rfl rfl 1 (by decide) (va_Nw.use rfl (hK.2 _ (List.mem_of_getElem? (i := 3) rfl))) (fun _ h9 => h9) rfl dX7_isSeenLongEnough_76 ?_
            have f_76 : (0 : Int) ≤ S_2 26 0 ∧ S_2 26 0 ≤ 60 := hI_2 26 0
            refine zi_icmp_ge (tgt := 130) hx hb ⟨by omega, by omega⟩ ⟨by omega, by omega⟩ dX7_isSeenLongEnough_79 (by decide) (fun c_79 => ?_) (fun c_79 => ?_)
            · obtain rfl : n = 0 := by omega
              refine lv_iload hx hb dX7_isSeenLongEnough_130 (lv_at hl 4 rfl) ?_
              refine zi_if_eq (tgt := 147) hx hb ⟨by omega, by omega⟩ dX7_isSeenLongEnough_132 (by decide) (fun c_132 => ?_) (fun c_132 => ?_)
              · refine zi_iconst hx hb dX7_isSeenLongEnough_147 ?_
                exact zr_wz (T := S_2) hx hb hr hlocks dX7_isSeenLongEnough_148 (Or.inl rfl) hP hS (by
                    have q0 : thA S_2 = t := h_S.symm
                    have q1 : lgA S_2 = (lo, hi) := h_R.symm
                    exact ⟨by rw [eS_2]; exact (b2_f (fun h9 => h9.1 (q0.trans c_132))).symm, eS_2.symm, hI_2⟩)
              · refine lv_iload_n hx hb dX7_isSeenLongEnough_135 rfl (lv_at hl 3 rfl) ?_
                refine lv_iload_n hx hb dX7_isSeenLongEnough_136 rfl (lv_at hl 2 rfl) ?_
                refine zi_isub hx hb dX7_isSeenLongEnough_137 ?_
                refine zi_bipush hx hb dX7_isSeenLongEnough_138 (by decide) ?_
                refine zi_icmp_lt (tgt := 147) hx hb ⟨by omega, by omega⟩ ⟨by decide, by decide⟩ dX7_isSeenLongEnough_140 (by decide) (fun c_140 => ?_) (fun c_140 => ?_)
                · refine zi_iconst hx hb dX7_isSeenLongEnough_147 ?_
                  exact zr_wz (T := S_2) hx hb hr hlocks dX7_isSeenLongEnough_148 (Or.inl rfl) hP hS (by
                      have q0 : thA S_2 = t := h_S.symm
                      have q1 : lgA S_2 = (lo, hi) := h_R.symm
                      exact ⟨by rw [eS_2]; exact (b2_f (fun h9 => by have h8 := h9.2; rw [q1] at h8; exact absurd h8 (by show ¬ 30 ≤ hi - lo; omega))).symm, eS_2.symm, hI_2⟩)
                · refine zi_iconst hx hb dX7_isSeenLongEnough_143 ?_
                  refine lv_goto (tgt := 148) hx hb dX7_isSeenLongEnough_144 (by decide) ?_
                  exact zr_wz (T := S_2) hx hb hr hlocks dX7_isSeenLongEnough_148 (Or.inr rfl) hP hS (by
                      have q0 : thA S_2 = t := h_S.symm
                      have q1 : lgA S_2 = (lo, hi) := h_R.symm
                      exact ⟨by rw [eS_2]; exact (b2_t ⟨fun h9 => c_132 (q0.symm.trans h9), by rw [q1]; show 30 ≤ hi - lo; omega⟩).symm, eS_2.symm, hI_2⟩)
            · obtain ⟨n, rfl⟩ : ∃ n9 : Nat, n = n9 + 1 := ⟨n - 1, by omega⟩
              refine lv_aload_n hx hb dX7_isSeenLongEnough_82 rfl (lv_at hl 0 rfl) ?_
              refine va_get (D := D) (ci := 7) (v := .ref (ad 1)) (C := RX7) (T := TX7) (N := 6) hx hb hts in_X7_isSeenLongEnough_7 hown hK.1 hP 0 rfl rfl 0 (by decide) (hts _ lk_X7_isSeenLongEnough_10) (fun _ h9 => h9) rfl dX7_isSeenLongEnough_83 ?_
              refine lv_aload_n hx hb dX7_isSeenLongEnough_86 rfl (lv_at hl 0 rfl) ?_
              refine va_get (D := D) (ci := 7) (v := .ref (ad 3)) (C := RX7) (T := TX7) (N := 6) hx hb hts in_X7_isSeenLongEnough_7 hown hK.1 hP 0 rfl rfl 2 (by decide) (hts _ lk_X7_isSeenLongEnough_26) (fun _ h9 => h9) rfl dX7_isSeenLongEnough_87 ?_
              refine lv_iload hx hb dX7_isSeenLongEnough_90 (lv_at hl 5 rfl) ?_
              refine zk_r (zc_V (As := [.int (zi i)]) (rest := [.ref (ad 1)]) ⟨hx, hb, hml, hown, hts⟩ (ct_X2_dotAt l D cI cZ cJ ad S_2 hI_2 i ⟨by omega, by omega⟩) (cwV 1 hts gX7_isSeenLongEnough_X2_dotAt rfl rfl rfl (by decide +kernel) ⟨Nat.le_of_ble_eq_true rfl, Nat.le_of_ble_eq_true rfl⟩) hK hP (q0 := 3) (ci := 2) rfl rfl rfl rfl hl.1 rfl (Nat.le_of_ble_eq_true rfl) dX7_isSeenLongEnough_92 ⟨Nat.zero_le _, Nat.zero_le _⟩) ?_
              refine zi_top (fun (r_92 : Int) (er_92 : r_92 = rAt 60 (S_2 12) i) => ?_)
              have fr_92 : (0 : Int) ≤ r_92 ∧ r_92 ≤ 59 := by rw [er_92]; exact CI.at hI_2 12 60 i ⟨by decide, by decide⟩
              refine zk_r (zc_V (As := [.int (zi r_92)]) (rest := []) ⟨hx, hb, hml, hown, hts⟩ (ct_X6_nightOf l D cI cZ cJ ad S_2 hI_2 r_92 ⟨by omega, by omega⟩) (cwV 1 hts gX7_isSeenLongEnough_X6_nightOf rfl rfl rfl (by decide +kernel) ⟨Nat.le_of_ble_eq_true rfl, Nat.le_of_ble_eq_true rfl⟩) hK hP (q0 := 1) (ci := 6) rfl rfl rfl rfl hl.1 rfl (Nat.le_of_ble_eq_true rfl) dX7_isSeenLongEnough_95 ⟨Nat.zero_le _, Nat.zero_le _⟩) ?_
              refine zi_top (fun (r_95 : Int) (er_95 : r_95 = nOf S_2 r_92) => ?_)
              have fr_95 : (0 : Int) ≤ r_95 ∧ r_95 ≤ 999 := by rw [er_95]; exact nOf_b hI_2 r_92
              refine lv_istore (lv' := [(6, .int (zi r_95)), (0, .ref (ad 0)), (1, .int (zi x0)), (2, .int (zi lo)), (3, .int (zi hi)), (4, .int (zi t)), (5, .int (zi i))]) hx hb dX7_isSeenLongEnough_98 hl (by decide) rfl (fun ls hl => ?_)
              refine lv_iload hx hb dX7_isSeenLongEnough_100 (lv_at hl 5 rfl) ?_
              have K_122 : ∀ (tt : Int), (tt = thF S_2 lo hi i t) → ∀ (ls : Array Slot), lv_has ls 7 [(0, .ref (ad 0)), (1, .int (zi x0)), (2, .int (zi lo)), (3, .int (zi hi)), (4, .int (zi t)), (5, .int (zi i)), (6, .int (zi r_95))] → W p l e rmct_X7_isSeenLongEnough s m ([.ref (ad 0), .int (zi x0)] : List Value).toArray below meth c H locs 0 0 (MQ below (zWi D (dW cI ad) (dA ad) (fun r T => r = b2 (longP (gatherL x0 S)) ∧ T = gatherL x0 S ∧ CI T)) ([.ref (ad 0), .int (zi x0)] : List Value).toArray s 0 0 (dA ad)) (F0 m 122 ls [.int (zi tt)]) := by
                intro tt h_tt ls hl
                have h_tb : 0 ≤ tt ∧ tt ≤ 1 := by rw [h_tt]; exact b2_b
                refine lv_istore (lv' := [(4, .int (zi tt)), (0, .ref (ad 0)), (1, .int (zi x0)), (2, .int (zi lo)), (3, .int (zi hi)), (5, .int (zi i)), (6, .int (zi r_95))]) hx hb dX7_isSeenLongEnough_122 hl (by decide) rfl (fun ls hl => ?_)
                refine zi_iinc (k := 5) (lv' := [(5, .int (zi (i + 1))), (4, .int (zi tt)), (0, .ref (ad 0)), (1, .int (zi x0)), (2, .int (zi lo)), (3, .int (zi hi)), (6, .int (zi r_95))]) hx hb dX7_isSeenLongEnough_124 hl rfl (by decide) rfl (fun ls hl => ?_)
                refine lv_goto (tgt := 70) hx hb dX7_isSeenLongEnough_127 (by decide) ?_
                exact ih_70 n tt (i + 1) (by first | omega | assumption) (by first | omega | assumption) ⟨by omega, by omega⟩ (by rw [← h_S, itr_s]; congr 1) (by omega) _ (lv_sub hl [2, 3, 4, 5, 1, 0] rfl)
              refine zi_if_ne (tgt := 117) hx hb ⟨by omega, by omega⟩ dX7_isSeenLongEnough_102 (by decide) (fun c_102 => ?_) (fun c_102 => ?_)
              · refine zi_iconst hx hb dX7_isSeenLongEnough_117 ?_
                refine lv_goto (tgt := 122) hx hb dX7_isSeenLongEnough_118 (by decide) ?_
                exact K_122 1 (b2_t (Or.inl c_102)).symm _ (lv_sub hl [1, 2, 3, 4, 5, 6, 0] rfl)
              · refine lv_iload hx hb dX7_isSeenLongEnough_105 (lv_at hl 0 rfl) ?_
                refine lv_iload_n hx hb dX7_isSeenLongEnough_107 rfl (lv_at hl 3 rfl) ?_
                refine zi_icmp_eq (tgt := 121) hx hb ⟨by omega, by omega⟩ ⟨by omega, by omega⟩ dX7_isSeenLongEnough_108 (by decide) (fun c_108 => ?_) (fun c_108 => ?_)
                · refine zi_iconst hx hb dX7_isSeenLongEnough_121 ?_
                  exact K_122 0 (b2_f (fun h9 => h9.elim (fun h7 => h7 c_102) (fun h8 => h8.1 ((by rw [← er_92, ← er_95]; exact c_108))))).symm _ (lv_sub hl [1, 2, 3, 4, 5, 6, 0] rfl)
                · refine lv_iload hx hb dX7_isSeenLongEnough_111 (lv_at hl 0 rfl) ?_
                  refine lv_iload_n hx hb dX7_isSeenLongEnough_113 rfl (lv_at hl 4 rfl) ?_
                  refine zi_icmp_eq (tgt := 121) hx hb ⟨by omega, by omega⟩ ⟨by omega, by omega⟩ dX7_isSeenLongEnough_114 (by decide) (fun c_114 => ?_) (fun c_114 => ?_)
                  · refine zi_iconst hx hb dX7_isSeenLongEnough_121 ?_
                    exact K_122 0 (b2_f (fun h9 => h9.elim (fun h7 => h7 c_102) (fun h8 => h8.2 ((by rw [← er_92, ← er_95]; exact c_114))))).symm _ (lv_sub hl [1, 2, 3, 4, 5, 6, 0] rfl)
                  · refine zi_iconst hx hb dX7_isSeenLongEnough_117 ?_
                    refine lv_goto (tgt := 122) hx hb dX7_isSeenLongEnough_118 (by decide) ?_
                    exact K_122 1 (b2_t (Or.inr ⟨fun h9 => c_108 (er_95.trans (by rw [er_92]; exact h9)), fun h9 => c_114 (er_95.trans (by rw [er_92]; exact h9))⟩)).symm _ (lv_sub hl [1, 2, 3, 4, 5, 6, 0] rfl)
        refine zi_iconst hx hb dX7_isSeenLongEnough_67 ?_
        refine lv_istore (lv' := [(5, .int (zi 0)), (4, .int (zi 0)), (0, .ref (ad 0)), (1, .int (zi x0)), (2, .int (zi lo)), (3, .int (zi hi))]) hx hb dX7_isSeenLongEnough_68 hl (by decide) rfl (fun ls hl => ?_)
        exact K_70 ((S_2 26 0).toNat + 1) ((S_2 26 0).toNat) 0 0 (by first | omega | assumption) (by first | omega | assumption) ⟨by omega, by omega⟩ (by rw [thA, ← h_R]; rfl) (by omega) _ (lv_sub hl [2, 3, 4, 5, 1, 0] rfl)
      · obtain ⟨n, rfl⟩ : ∃ n9 : Nat, n = n9 + 1 := ⟨n - 1, by omega⟩
        refine lv_aload_n hx hb dX7_isSeenLongEnough_26 rfl (lv_at hl 0 rfl) ?_
        refine va_get (D := D) (ci := 7) (v := .ref (ad 1)) (C := RX7) (T := TX7) (N := 6) hx hb hts in_X7_isSeenLongEnough_7 hown hK.1 hP 0 rfl rfl 0 (by decide) (hts _ lk_X7_isSeenLongEnough_10) (fun _ h9 => h9) rfl dX7_isSeenLongEnough_27 ?_
        refine lv_aload_n hx hb dX7_isSeenLongEnough_30 rfl (lv_at hl 0 rfl) ?_
        refine va_get (D := D) (ci := 7) (v := .ref (ad 3)) (C := RX7) (T := TX7) (N := 6) hx hb hts in_X7_isSeenLongEnough_7 hown hK.1 hP 0 rfl rfl 2 (by decide) (hts _ lk_X7_isSeenLongEnough_26) (fun _ h9 => h9) rfl dX7_isSeenLongEnough_31 ?_
        refine lv_iload hx hb dX7_isSeenLongEnough_34 (lv_at hl 4 rfl) ?_
        refine zk_r (zc_V (As := [.int (zi i)]) (rest := [.ref (ad 1)]) ⟨hx, hb, hml, hown, hts⟩ (ct_X2_dotAt l D cI cZ cJ ad S_2 hI_2 i ⟨by omega, by omega⟩) (cwV 1 hts gX7_isSeenLongEnough_X2_dotAt rfl rfl rfl (by decide +kernel) ⟨Nat.le_of_ble_eq_true rfl, Nat.le_of_ble_eq_true rfl⟩) hK hP (q0 := 3) (ci := 2) rfl rfl rfl rfl hl.1 rfl (Nat.le_of_ble_eq_true rfl) dX7_isSeenLongEnough_36 ⟨Nat.zero_le _, Nat.zero_le _⟩) ?_
        refine zi_top (fun (r_36 : Int) (er_36 : r_36 = rAt 60 (S_2 12) i) => ?_)
        have fr_36 : (0 : Int) ≤ r_36 ∧ r_36 ≤ 59 := by rw [er_36]; exact CI.at hI_2 12 60 i ⟨by decide, by decide⟩
        refine zk_r (zc_V (As := [.int (zi r_36)]) (rest := []) ⟨hx, hb, hml, hown, hts⟩ (ct_X6_nightOf l D cI cZ cJ ad S_2 hI_2 r_36 ⟨by omega, by omega⟩) (cwV 1 hts gX7_isSeenLongEnough_X6_nightOf rfl rfl rfl (by decide +kernel) ⟨Nat.le_of_ble_eq_true rfl, Nat.le_of_ble_eq_true rfl⟩) hK hP (q0 := 1) (ci := 6) rfl rfl rfl rfl hl.1 rfl (Nat.le_of_ble_eq_true rfl) dX7_isSeenLongEnough_39 ⟨Nat.zero_le _, Nat.zero_le _⟩) ?_
        refine zi_top (fun (r_39 : Int) (er_39 : r_39 = nOf S_2 r_36) => ?_)
        have fr_39 : (0 : Int) ≤ r_39 ∧ r_39 ≤ 999 := by rw [er_39]; exact nOf_b hI_2 r_36
        refine lv_istore (lv' := [(5, .int (zi r_39)), (0, .ref (ad 0)), (1, .int (zi x0)), (2, .int (zi lo)), (3, .int (zi hi)), (4, .int (zi i))]) hx hb dX7_isSeenLongEnough_42 hl (by decide) rfl (fun ls hl => ?_)
        refine lv_iload_n hx hb dX7_isSeenLongEnough_44 rfl (lv_at hl 3 rfl) ?_
        refine lv_iload hx hb dX7_isSeenLongEnough_45 (lv_at hl 0 rfl) ?_
        refine zi_mmin hx hb (hml.trans hl.1.symm) hown (hts _ ml_min_X7_isSeenLongEnough) (hts _ st_min_X7_isSeenLongEnough) (hts _ in_math_X7_isSeenLongEnough) (hts _ co_min_X7_isSeenLongEnough) (Nat.le_of_ble_eq_true rfl) (Nat.le_of_ble_eq_true rfl) (Nat.zero_le _) (Nat.zero_le _) ⟨by omega, by omega⟩ ⟨by omega, by omega⟩ dX7_isSeenLongEnough_47 ?_
        refine zi_top (fun x2_50 ex2_50 => ?_)
        refine lv_istore_n (lv' := [(2, .int (zi x2_50)), (5, .int (zi r_39)), (0, .ref (ad 0)), (1, .int (zi x0)), (3, .int (zi hi)), (4, .int (zi i))]) hx hb dX7_isSeenLongEnough_50 rfl hl (by decide) rfl (fun ls hl => ?_)
        refine lv_iload_n hx hb dX7_isSeenLongEnough_51 rfl (lv_at hl 4 rfl) ?_
        refine lv_iload hx hb dX7_isSeenLongEnough_52 (lv_at hl 1 rfl) ?_
        refine zi_mmax hx hb (hml.trans hl.1.symm) hown (hts _ ml_max_X7_isSeenLongEnough) (hts _ st_max_X7_isSeenLongEnough) (hts _ in_math_X7_isSeenLongEnough) (hts _ co_max_X7_isSeenLongEnough) (Nat.le_of_ble_eq_true rfl) (Nat.le_of_ble_eq_true rfl) (Nat.zero_le _) (Nat.zero_le _) ⟨by omega, by omega⟩ ⟨by omega, by omega⟩ dX7_isSeenLongEnough_54 ?_
        refine zi_top (fun x3_57 ex3_57 => ?_)
        refine lv_istore_n (lv' := [(3, .int (zi x3_57)), (2, .int (zi x2_50)), (5, .int (zi r_39)), (0, .ref (ad 0)), (1, .int (zi x0)), (4, .int (zi i))]) hx hb dX7_isSeenLongEnough_57 rfl hl (by decide) rfl (fun ls hl => ?_)
        refine zi_iinc (k := 5) (lv' := [(4, .int (zi (i + 1))), (3, .int (zi x3_57)), (2, .int (zi x2_50)), (5, .int (zi r_39)), (0, .ref (ad 0)), (1, .int (zi x0))]) hx hb dX7_isSeenLongEnough_58 hl rfl (by decide) rfl (fun ls hl => ?_)
        refine lv_goto (tgt := 14) hx hb dX7_isSeenLongEnough_61 (by decide) ?_
        exact ih_14 n x2_50 x3_57 (i + 1) (by first | omega | assumption) (by first | omega | assumption) ⟨by omega, by omega, by omega, by omega⟩ (by rw [← h_R, itr_s]; congr 1; rw [ex2_50, ex3_57, er_39, er_36]; rfl) (by omega) _ (lv_sub hl [4, 5, 2, 1, 0] rfl)
  refine lv_istore (lv' := [(4, .int (zi 0)), (3, .int (zi 0)), (2, .int (zi 1000)), (0, .ref (ad 0)), (1, .int (zi x0))]) hx hb dX7_isSeenLongEnough_12 hl (by decide) rfl (fun ls hl => ?_)
  exact K_14 ((S_2 26 0).toNat + 1) ((S_2 26 0).toNat) 1000 0 0 (by first | omega | assumption) (by first | omega | assumption) ⟨by omega, by omega, by omega, by omega⟩ (by rw [lgA]) (by omega) _ (lv_sub hl [3, 4, 2, 1, 0] rfl)
