/-! families, light, numbers: as programs -/
def akP (S : ZS) (o t m : Int) : Prop := ¬ rAt 20 (S 10) o = -1 ∧ ¬ rAt 20 (S 10) t = -1 ∧ max (bC (rAt 20 (S 11) o) - bC (rAt 20 (S 11) t)) (-(bC (rAt 20 (S 11) o) - bC (rAt 20 (S 11) t))) + 5 * max (cC (rAt 20 (S 11) o) - cC (rAt 20 (S 11) t)) (-(cC (rAt 20 (S 11) o) - cC (rAt 20 (S 11) t))) ≤ m
def slPut (one j : Int) (T : ZS) : ZS := su (su T 19 (rPut 20 (T 19) one (min (rAt 20 (T 19) one) (rAt 20 (T 19) j)))) 19 (rPut 20 (su T 19 (rPut 20 (T 19) one (min (rAt 20 (T 19) one) (rAt 20 (T 19) j))) 19) j (min (rAt 20 (T 19) one) (rAt 20 (T 19) j)))
noncomputable def slIn (m one j : Int) (T : ZS) : ZS := cif (akP T one j m) (slPut one j T) T
noncomputable def slOut (m one : Int) (T : ZS) : ZS := itr (slIn m one) one.toNat 0 T
noncomputable def slAll (m : Int) (S : ZS) : ZS := itr (slOut m) (S 23 0).toNat 0 S
theorem slPut_n {one j : Int} {T : ZS} {k : Nat} (h : k ≠ 19) : slPut one j T k = T k := by unfold slPut; rw [su_n _ _ h, su_n _ _ h]
theorem slIn_n {m one j : Int} {T : ZS} {k : Nat} (h : k ≠ 19) : slIn m one j T k = T k := by
  unfold slIn
  by_cases hp : akP T one j m
  · rw [cif_t hp, slPut_n h]
  · rw [cif_f hp]
theorem slOut_n {m one : Int} {T : ZS} {k : Nat} (h : k ≠ 19) : slOut m one T k = T k := itr_keep (fun _ _ => slIn_n h) _ _ _
theorem slAll_n {m : Int} {S : ZS} {k : Nat} (h : k ≠ 19) : slAll m S k = S k := itr_keep (fun _ _ => slOut_n h) _ _ _
def ffIn (b : Int) (T : ZS) : ZS := su T 19 (rPut 20 (T 19) b (rAt 20 (T 10) b))
def ffA (S : ZS) : ZS := itr ffIn (S 23 0).toNat 0 S
noncomputable def ffAll (m : Int) (S : ZS) : ZS := itr (fun _ T => slAll m T) (S 23 0).toNat 0 (ffA S)
theorem ffA_n {S : ZS} {k : Nat} (h : k ≠ 19) : ffA S k = S k := itr_keep (fun _ _ => su_n _ _ h) _ _ _
theorem ffAll_n {m : Int} {S : ZS} {k : Nat} (h : k ≠ 19) : ffAll m S k = S k := by
  unfold ffAll; rw [itr_keep (fun _ _ => slAll_n h) _ _ _, ffA_n h]
theorem SC_ff {m : Int} {S : ZS} : SC S (ffAll m S) := fun _ hk => ffAll_n (scr_ne hk rfl)
noncomputable def numP (S : ZS) (b : Int) : Prop := rAt 20 (S 8) b = -1 ∧ rAt 20 (S 10) b = -1 ∧ longP (gatherL b S) ∧ cntO (findO b (gatherL b S)) = 1
def lrF (S : ZS) (p r i : Int) (q : Int × Int) : Int × Int := if nOf S (rAt 60 (S 12) i) % p = r then (min q.1 (lOf S (rAt 60 (S 12) i)), max q.2 (lOf S (rAt 60 (S 12) i))) else q
def lrA (S : ZS) (p r : Int) : Int × Int := itr (lrF S p r) (S 26 0).toNat 0 (99, 0)
def lrC (S : ZS) (p r : Int) : Int := max 0 ((lrA S p r).2 - (lrA S p r).1)
theorem lrC_b {S : ZS} (h : CI S) (p r : Int) : (0 : Int) ≤ lrC S p r ∧ lrC S p r ≤ 99 := by
  have hc := itr_inv (f := lrF S p r) (P := fun _ q => (0 : Int) ≤ q.1 ∧ q.2 ≤ 99) (fun j q hq => by
    have hb := lOf_b h (rAt 60 (S 12) j)
    show (0 : Int) ≤ (lrF S p r j q).1 ∧ (lrF S p r j q).2 ≤ 99
    unfold lrF; split
    · show (0 : Int) ≤ min _ _ ∧ max _ _ ≤ 99; omega
    · exact hq) (S 26 0).toNat 0 (99, 0) ⟨by decide, by decide⟩
  have hc : (0 : Int) ≤ (lrA S p r).1 ∧ (lrA S p r).2 ≤ 99 := hc
  unfold lrC; omega
def fltC (S : ZS) (p : Int) : Int := itr (fun r acc => acc + lrC S p r) p.toNat 0 0
theorem fltC_b {S : ZS} (h : CI S) {p : Int} (hp : p ≤ 20) : (0 : Int) ≤ fltC S p ∧ fltC S p ≤ 1980 := by
  have := sum_b (g := lrC S p) (B := 99) (lrC_b h p) p.toNat 0 0
  unfold fltC
  omega
def laC (S : ZS) (d k : Int) : Int := (tOf S d - eOf S d - dC k (nOf S d)) % 3600
theorem gcd_b : ∀ (n : Nat) (a b : Int), 0 ≤ a → 0 ≤ b → a ≤ 2147483647 → b ≤ 2147483647 → 0 ≤ gcdC n a b ∧ gcdC n a b ≤ 2147483647 := by
  intro n
  induction n with
  | zero => intro a b h0 _ h1 _; exact ⟨h0, h1⟩
  | succ n ih =>
    intro a b h0 h1 h2 h3
    unfold gcdC; split
    · exact ⟨h0, h2⟩
    · rename_i hb
      have q1 : 0 ≤ a % b := Int.emod_nonneg _ hb
      have q2 : a % b < b := Int.emod_lt_of_pos _ (by omega)
      exact ih b (a % b) h1 q1 h3 (by omega)
theorem in_X1_lowestNumberWith_1 : ∀ w ∈ wsX10, w ∈ wsX1_lowestNumberWith := by decide +kernel
theorem lk_X1_lowestNumberWith_14 : Cond.fieldLink RX1 14 "PlanetoidDesk$Kinship" "lowestNumbers" "LPlanetoidDesk$Row;" ∈ wsX1_lowestNumberWith := by decide +kernel
abbrev rmct_X1_lowestNumberWith : Room := { frames := 1, cells := 0, slots := 0, locals := 21 }
set_option maxHeartbeats 4000000 in
set_option maxRecDepth 100000 in
theorem ct_X1_lowestNumberWith (l : Launch) (D : va_G) (cI cZ cJ : ClassId) (ad : Nat → Nat) (S : ZS) (hI : CI S) (x0 : Int) (hx0 : ir x0)  : Met l yX1_lowestNumberWith wsX1_lowestNumberWith rmct_X1_lowestNumberWith (zP D cI cZ cJ (dW cI ad S) [.ref (ad 6), .int (zi x0)]) (k2_QcV (.int (zi (rAt 20 (S 19) x0)))) 0 0 (fun _ => False) := by
  refine Met.ofW (cc := cX1_lowestNumberWith) (maxL := 2) (ret := (some .int)) (by decide) rfl ?_
  intro p e s m args below meth c s₁ B hml hv
  obtain ⟨rfl, hP, hK⟩ := hv
  have hx := B.exec
  have hb := B.bytes
  have hr := B.returns
  have hts := atoms_spec (ws := wsX1_lowestNumberWith) B.pre
  have hown : s.vm.findClass RX1 = some m.cls := findClass_of_methodNamed B.named
  have hlocks := B.notSynchronized
  have hl := lv_entry ([.ref (ad 6), .int (zi x0)]) (n := 2) (Nat.le_of_ble_eq_true rfl)
  rw [lg_entry_eq]
  generalize (lg_sl ([.ref (ad 6), .int (zi x0)]) ++ List.replicate (2 - (lg_sl ([.ref (ad 6), .int (zi x0)])).length) Slot.unset).toArray = ls at hl ⊢
  have hl : lv_has ls 2 [(0, .ref (ad 6)), (1, .int (zi x0))] := hl
  show W p l e rmct_X1_lowestNumberWith s m ([.ref (ad 6), .int (zi x0)] : List Value).toArray below meth c s.heap [] 0 0 (MQ below (k2_QcV (.int (zi (rAt 20 (S 19) x0)))) ([.ref (ad 6), .int (zi x0)] : List Value).toArray s 0 0 (fun _ => False)) (F0 m 0 ls [])
  refine lv_aload_n hx hb dX1_lowestNumberWith_0 rfl (lv_at hl 0 rfl) ?_
  refine va_get (D := D) (ci := 1) (v := .ref (ad 26)) (C := RX1) (T := TX1) (N := 1) hx hb hts in_X1_lowestNumberWith_1 hown hK.1 hP 6 rfl rfl 0 (by decide) (hts _ lk_X1_lowestNumberWith_14) (fun _ h9 => h9) rfl dX1_lowestNumberWith_1 ?_
  refine lv_iload_n hx hb dX1_lowestNumberWith_4 rfl (lv_at hl 1 rfl) ?_
  refine zk_r (zc_V (As := [.int (zi x0)]) (rest := []) ⟨hx, hb, hml, hown, hts⟩ (ct_X5_at l D cI cZ cJ (dW cI ad S) (ad 26) (ad 46) 26 46 20 (S 19) x0 rfl rfl (by decide) ⟨by omega, by omega⟩) (cwV 1 hts gX1_lowestNumberWith_X5_at rfl rfl rfl (by decide +kernel) ⟨Nat.le_of_ble_eq_true rfl, Nat.le_of_ble_eq_true rfl⟩) hK hP (q0 := 26) (ci := 5) rfl rfl rfl rfl hl.1 rfl (Nat.le_of_ble_eq_true rfl) dX1_lowestNumberWith_5 ⟨Nat.zero_le _, Nat.zero_le _⟩) ?_
  refine zi_top (fun (r_5 : Int) (er_5 : r_5 = rAt 20 (S 19) x0) => ?_)
  have fr_5 : (-1 : Int) ≤ r_5 ∧ r_5 ≤ 20 := by rw [er_5]; exact CI.at hI 19 20 x0 ⟨by decide, by decide⟩
  exact zr_i hx hb hr hlocks dX1_lowestNumberWith_8 (by subst_vars; rfl)

theorem ini_X7_bOf_X1_areAkin : Cond.initialized RX7 ∈ wsX1_areAkin := by decide +kernel
theorem sta_X7_bOf_X1_areAkin : Cond.static yX7_bOf ∈ wsX1_areAkin := by decide +kernel
theorem ml_abs_X1_areAkin : Cond.methodLink RX1 57 Lib.Math.abs.name ∈ wsX1_areAkin := by decide +kernel
theorem st_abs_X1_areAkin : Cond.static Lib.Math.abs.name ∈ wsX1_areAkin := by decide +kernel
theorem in_math_X1_areAkin : Cond.initialized "java/lang/Math" ∈ wsX1_areAkin := by decide +kernel
theorem co_abs_X1_areAkin : Cond.code Lib.Math.abs.name Lib.Math.abs.code 1 (some .int) ∈ wsX1_areAkin := by decide +kernel
theorem ini_X7_cOf_X1_areAkin : Cond.initialized RX7 ∈ wsX1_areAkin := by decide +kernel
theorem sta_X7_cOf_X1_areAkin : Cond.static yX7_cOf ∈ wsX1_areAkin := by decide +kernel
abbrev rmct_X1_areAkin : Room := { frames := 2, cells := 0, slots := 0, locals := 42 }
set_option maxHeartbeats 4000000 in
set_option maxRecDepth 100000 in
theorem ct_X1_areAkin (l : Launch) (D : va_G) (cI cZ cJ : ClassId) (ad : Nat → Nat) (S : ZS) (hI : CI S) (x0 x1 x2 : Int) (hx0 : ir x0) (hx1 : ir x1) (hx2 : ir x2)  : Met l yX1_areAkin wsX1_areAkin rmct_X1_areAkin (zP D cI cZ cJ (dW cI ad S) [.ref (ad 2), .int (zi x0), .int (zi x1), .int (zi x2)]) (k2_QcV (.int (zi (b2 (akP S x0 x1 x2))))) 0 0 (fun _ => False) := by
  refine Met.ofW (cc := cX1_areAkin) (maxL := 8) (ret := (some .boolean)) (by decide) rfl ?_
  intro p e s m args below meth c s₁ B hml hv
  obtain ⟨rfl, hP, hK⟩ := hv
  have hx := B.exec
  have hb := B.bytes
  have hr := B.returns
  have hts := atoms_spec (ws := wsX1_areAkin) B.pre
  have hown : s.vm.findClass RX1 = some m.cls := findClass_of_methodNamed B.named
  have hlocks := B.notSynchronized
  have hl := lv_entry ([.ref (ad 2), .int (zi x0), .int (zi x1), .int (zi x2)]) (n := 8) (Nat.le_of_ble_eq_true rfl)
  rw [lg_entry_eq]
  generalize (lg_sl ([.ref (ad 2), .int (zi x0), .int (zi x1), .int (zi x2)]) ++ List.replicate (8 - (lg_sl ([.ref (ad 2), .int (zi x0), .int (zi x1), .int (zi x2)])).length) Slot.unset).toArray = ls at hl ⊢
  have hl : lv_has ls 8 [(0, .ref (ad 2)), (1, .int (zi x0)), (2, .int (zi x1)), (3, .int (zi x2))] := hl
  show W p l e rmct_X1_areAkin s m ([.ref (ad 2), .int (zi x0), .int (zi x1), .int (zi x2)] : List Value).toArray below meth c s.heap [] 0 0 (MQ below (k2_QcV (.int (zi (b2 (akP S x0 x1 x2))))) ([.ref (ad 2), .int (zi x0), .int (zi x1), .int (zi x2)] : List Value).toArray s 0 0 (fun _ => False)) (F0 m 0 ls [])
  refine lv_aload_n hx hb dX1_areAkin_0 rfl (lv_at hl 0 rfl) ?_
  refine lv_iload_n hx hb dX1_areAkin_1 rfl (lv_at hl 1 rfl) ?_
  refine zk_r (zc_V (As := [.int (zi x0)]) (rest := []) ⟨hx, hb, hml, hown, hts⟩ (ct_X0_numberOf l D cI cZ cJ ad S hI x0 ⟨by omega, by omega⟩) (cwV 1 hts gX1_areAkin_X0_numberOf rfl rfl rfl (by decide +kernel) ⟨Nat.le_of_ble_eq_true rfl, Nat.le_of_ble_eq_true rfl⟩) hK hP (q0 := 2) (ci := 0) rfl rfl rfl rfl hl.1 rfl (Nat.le_of_ble_eq_true rfl) dX1_areAkin_2 ⟨Nat.zero_le _, Nat.zero_le _⟩) ?_
  refine zi_top (fun (r_2 : Int) (er_2 : r_2 = rAt 20 (S 10) x0) => ?_)
  have fr_2 : (-1 : Int) ≤ r_2 ∧ r_2 ≤ 20 := by rw [er_2]; exact CI.at hI 10 20 x0 ⟨by decide, by decide⟩
  refine zi_iconst hx hb dX1_areAkin_5 ?_
  refine zi_icmp_eq (tgt := 18) hx hb ⟨by omega, by omega⟩ ⟨by decide, by decide⟩ dX1_areAkin_6 (by decide) (fun c_6 => ?_) (fun c_6 => ?_)
  · refine zi_iconst hx hb dX1_areAkin_18 ?_
    exact zr_z hx hb hr hlocks dX1_areAkin_19 (Or.inl rfl) (by exact (b2_f (fun h9 => h9.1 (er_2.symm.trans c_6))).symm)
  · refine lv_aload_n hx hb dX1_areAkin_9 rfl (lv_at hl 0 rfl) ?_
    refine lv_iload_n hx hb dX1_areAkin_10 rfl (lv_at hl 2 rfl) ?_
    refine zk_r (zc_V (As := [.int (zi x1)]) (rest := []) ⟨hx, hb, hml, hown, hts⟩ (ct_X0_numberOf l D cI cZ cJ ad S hI x1 ⟨by omega, by omega⟩) (cwV 1 hts gX1_areAkin_X0_numberOf rfl rfl rfl (by decide +kernel) ⟨Nat.le_of_ble_eq_true rfl, Nat.le_of_ble_eq_true rfl⟩) hK hP (q0 := 2) (ci := 0) rfl rfl rfl rfl hl.1 rfl (Nat.le_of_ble_eq_true rfl) dX1_areAkin_11 ⟨Nat.zero_le _, Nat.zero_le _⟩) ?_
    refine zi_top (fun (r_11 : Int) (er_11 : r_11 = rAt 20 (S 10) x1) => ?_)
    have fr_11 : (-1 : Int) ≤ r_11 ∧ r_11 ≤ 20 := by rw [er_11]; exact CI.at hI 10 20 x1 ⟨by decide, by decide⟩
    refine zi_iconst hx hb dX1_areAkin_14 ?_
    refine zi_icmp_ne (tgt := 20) hx hb ⟨by omega, by omega⟩ ⟨by decide, by decide⟩ dX1_areAkin_15 (by decide) (fun c_15 => ?_) (fun c_15 => ?_)
    · refine lv_aload_n hx hb dX1_areAkin_20 rfl (lv_at hl 0 rfl) ?_
      refine lv_iload_n hx hb dX1_areAkin_21 rfl (lv_at hl 1 rfl) ?_
      refine zk_r (zc_V (As := [.int (zi x0)]) (rest := []) ⟨hx, hb, hml, hown, hts⟩ (ct_X0_properCourseOf l D cI cZ cJ ad S hI x0 ⟨by omega, by omega⟩) (cwV 1 hts gX1_areAkin_X0_properCourseOf rfl rfl rfl (by decide +kernel) ⟨Nat.le_of_ble_eq_true rfl, Nat.le_of_ble_eq_true rfl⟩) hK hP (q0 := 2) (ci := 0) rfl rfl rfl rfl hl.1 rfl (Nat.le_of_ble_eq_true rfl) dX1_areAkin_22 ⟨Nat.zero_le _, Nat.zero_le _⟩) ?_
      refine zi_top (fun (r_22 : Int) (er_22 : r_22 = rAt 20 (S 11) x0) => ?_)
      have fr_22 : (0 : Int) ≤ r_22 ∧ r_22 ≤ 404 := by rw [er_22]; exact CI.at hI 11 20 x0 ⟨by decide, by decide⟩
      refine lv_istore (lv' := [(4, .int (zi r_22)), (0, .ref (ad 2)), (1, .int (zi x0)), (2, .int (zi x1)), (3, .int (zi x2))]) hx hb dX1_areAkin_25 hl (by decide) rfl (fun ls hl => ?_)
      refine lv_aload_n hx hb dX1_areAkin_27 rfl (lv_at hl 1 rfl) ?_
      refine lv_iload_n hx hb dX1_areAkin_28 rfl (lv_at hl 3 rfl) ?_
      refine zk_r (zc_V (As := [.int (zi x1)]) (rest := []) ⟨hx, hb, hml, hown, hts⟩ (ct_X0_properCourseOf l D cI cZ cJ ad S hI x1 ⟨by omega, by omega⟩) (cwV 1 hts gX1_areAkin_X0_properCourseOf rfl rfl rfl (by decide +kernel) ⟨Nat.le_of_ble_eq_true rfl, Nat.le_of_ble_eq_true rfl⟩) hK hP (q0 := 2) (ci := 0) rfl rfl rfl rfl hl.1 rfl (Nat.le_of_ble_eq_true rfl) dX1_areAkin_29 ⟨Nat.zero_le _, Nat.zero_le _⟩) ?_
      refine zi_top (fun (r_29 : Int) (er_29 : r_29 = rAt 20 (S 11) x1) => ?_)
      have fr_29 : (0 : Int) ≤ r_29 ∧ r_29 ≤ 404 := by rw [er_29]; exact CI.at hI 11 20 x1 ⟨by decide, by decide⟩
      refine lv_istore (lv' := [(5, .int (zi r_29)), (4, .int (zi r_22)), (0, .ref (ad 2)), (1, .int (zi x0)), (2, .int (zi x1)), (3, .int (zi x2))]) hx hb dX1_areAkin_32 hl (by decide) rfl (fun ls hl => ?_)
      refine lv_iload hx hb dX1_areAkin_34 (lv_at hl 1 rfl) ?_
      refine zk_r (zc_N (As := [.int (zi r_22)]) (rest := []) ⟨hx, hb, hml, hown, hts⟩ (ct_X7_bOf l D cI cZ cJ r_22 ⟨by omega, by omega⟩ (by omega) (by omega)) ⟨va_cnB 1 hts gX1_areAkin_X7_bOf_n54 rfl rfl rfl (hK.2 _ (List.mem_of_getElem? (i := 16) rfl)) (hts _ ini_X7_bOf_X1_areAkin) (by decide +kernel) ⟨Nat.le_of_ble_eq_true rfl, Nat.le_of_ble_eq_true rfl⟩, hts _ sta_X7_bOf_X1_areAkin, trivial⟩ hK va_P_nil rfl hl.1 rfl (Nat.le_of_ble_eq_true rfl) dX1_areAkin_36 ⟨Nat.zero_le _, Nat.zero_le _⟩) ?_
      refine zi_top (fun (r_36 : Int) (er_36 : r_36 = bC r_22) => ?_)
      have fr_36 : (-40 : Int) ≤ r_36 ∧ r_36 ≤ 40 := by rw [er_36]; exact (by unfold bC; omega)
      refine lv_iload hx hb dX1_areAkin_39 (lv_at hl 0 rfl) ?_
      refine zk_r (zc_N (As := [.int (zi r_29)]) (rest := [.int (zi r_36)]) ⟨hx, hb, hml, hown, hts⟩ (ct_X7_bOf l D cI cZ cJ r_29 ⟨by omega, by omega⟩ (by omega) (by omega)) ⟨va_cnB 1 hts gX1_areAkin_X7_bOf_n54 rfl rfl rfl (hK.2 _ (List.mem_of_getElem? (i := 16) rfl)) (hts _ ini_X7_bOf_X1_areAkin) (by decide +kernel) ⟨Nat.le_of_ble_eq_true rfl, Nat.le_of_ble_eq_true rfl⟩, hts _ sta_X7_bOf_X1_areAkin, trivial⟩ hK va_P_nil rfl hl.1 rfl (Nat.le_of_ble_eq_true rfl) dX1_areAkin_41 ⟨Nat.zero_le _, Nat.zero_le _⟩) ?_
      refine zi_top (fun (r_41 : Int) (er_41 : r_41 = bC r_29) => ?_)
      have fr_41 : (-40 : Int) ≤ r_41 ∧ r_41 ≤ 40 := by rw [er_41]; exact (by unfold bC; omega)
      refine zi_isub hx hb dX1_areAkin_44 ?_
      refine zi_mabs hx hb (hml.trans hl.1.symm) hown (hts _ ml_abs_X1_areAkin) (hts _ st_abs_X1_areAkin) (hts _ in_math_X1_areAkin) (hts _ co_abs_X1_areAkin) (Nat.le_of_ble_eq_true rfl) (Nat.le_of_ble_eq_true rfl) (Nat.zero_le _) (Nat.zero_le _)  ⟨by omega, by omega⟩ dX1_areAkin_45 ?_
      refine zi_top (fun x6_48 ex6_48 => ?_)
      refine lv_istore (lv' := [(6, .int (zi x6_48)), (5, .int (zi r_29)), (4, .int (zi r_22)), (0, .ref (ad 2)), (1, .int (zi x0)), (2, .int (zi x1)), (3, .int (zi x2))]) hx hb dX1_areAkin_48 hl (by decide) rfl (fun ls hl => ?_)
      refine lv_iload hx hb dX1_areAkin_50 (lv_at hl 2 rfl) ?_
      refine zk_r (zc_N (As := [.int (zi r_22)]) (rest := []) ⟨hx, hb, hml, hown, hts⟩ (ct_X7_cOf l D cI cZ cJ r_22 ⟨by omega, by omega⟩ (by omega) (by omega)) ⟨va_cnB 1 hts gX1_areAkin_X7_cOf_n60 rfl rfl rfl (hK.2 _ (List.mem_of_getElem? (i := 17) rfl)) (hts _ ini_X7_cOf_X1_areAkin) (by decide +kernel) ⟨Nat.le_of_ble_eq_true rfl, Nat.le_of_ble_eq_true rfl⟩, hts _ sta_X7_cOf_X1_areAkin, trivial⟩ hK va_P_nil rfl hl.1 rfl (Nat.le_of_ble_eq_true rfl) dX1_areAkin_52 ⟨Nat.zero_le _, Nat.zero_le _⟩) ?_
      refine zi_top (fun (r_52 : Int) (er_52 : r_52 = cC r_22) => ?_)
      have fr_52 : (-2 : Int) ≤ r_52 ∧ r_52 ≤ 2 := by rw [er_52]; exact (by unfold cC; omega)
      refine lv_iload hx hb dX1_areAkin_55 (lv_at hl 1 rfl) ?_
      refine zk_r (zc_N (As := [.int (zi r_29)]) (rest := [.int (zi r_52)]) ⟨hx, hb, hml, hown, hts⟩ (ct_X7_cOf l D cI cZ cJ r_29 ⟨by omega, by omega⟩ (by omega) (by omega)) ⟨va_cnB 1 hts gX1_areAkin_X7_cOf_n60 rfl rfl rfl (hK.2 _ (List.mem_of_getElem? (i := 17) rfl)) (hts _ ini_X7_cOf_X1_areAkin) (by decide +kernel) ⟨Nat.le_of_ble_eq_true rfl, Nat.le_of_ble_eq_true rfl⟩, hts _ sta_X7_cOf_X1_areAkin, trivial⟩ hK va_P_nil rfl hl.1 rfl (Nat.le_of_ble_eq_true rfl) dX1_areAkin_57 ⟨Nat.zero_le _, Nat.zero_le _⟩) ?_
      refine zi_top (fun (r_57 : Int) (er_57 : r_57 = cC r_29) => ?_)
      have fr_57 : (-2 : Int) ≤ r_57 ∧ r_57 ≤ 2 := by rw [er_57]; exact (by unfold cC; omega)
      refine zi_isub hx hb dX1_areAkin_60 ?_
      refine zi_mabs hx hb (hml.trans hl.1.symm) hown (hts _ ml_abs_X1_areAkin) (hts _ st_abs_X1_areAkin) (hts _ in_math_X1_areAkin) (hts _ co_abs_X1_areAkin) (Nat.le_of_ble_eq_true rfl) (Nat.le_of_ble_eq_true rfl) (Nat.zero_le _) (Nat.zero_le _)  ⟨by omega, by omega⟩ dX1_areAkin_61 ?_
      refine zi_top (fun x7_64 ex7_64 => ?_)
      refine lv_istore (lv' := [(7, .int (zi x7_64)), (6, .int (zi x6_48)), (5, .int (zi r_29)), (4, .int (zi r_22)), (0, .ref (ad 2)), (1, .int (zi x0)), (2, .int (zi x1)), (3, .int (zi x2))]) hx hb dX1_areAkin_64 hl (by decide) rfl (fun ls hl => ?_)
      refine lv_iload hx hb dX1_areAkin_66 (lv_at hl 1 rfl) ?_
      refine zi_iconst hx hb dX1_areAkin_68 ?_
      refine lv_iload hx hb dX1_areAkin_69 (lv_at hl 0 rfl) ?_
      refine zi_imul hx hb dX1_areAkin_71 ?_
      refine zi_iadd hx hb dX1_areAkin_72 ?_
      refine lv_iload_n hx hb dX1_areAkin_73 rfl (lv_at hl 7 rfl) ?_
      refine zi_icmp_gt (tgt := 81) hx hb ⟨by omega, by omega⟩ ⟨by omega, by omega⟩ dX1_areAkin_74 (by decide) (fun c_74 => ?_) (fun c_74 => ?_)
      · refine zi_iconst hx hb dX1_areAkin_81 ?_
        exact zr_z hx hb hr hlocks dX1_areAkin_82 (Or.inl rfl) (by subst_vars; exact (b2_f (fun h9 => absurd h9.2.2 (Int.not_le.mpr c_74))).symm)
      · refine zi_iconst hx hb dX1_areAkin_77 ?_
        refine lv_goto (tgt := 82) hx hb dX1_areAkin_78 (by decide) ?_
        exact zr_z hx hb hr hlocks dX1_areAkin_82 (Or.inr rfl) (by subst_vars; exact (b2_t ⟨c_6, c_15, Int.not_lt.mp c_74⟩).symm)
    · refine zi_iconst hx hb dX1_areAkin_18 ?_
      exact zr_z hx hb hr hlocks dX1_areAkin_19 (Or.inl rfl) (by exact (b2_f (fun h9 => h9.2.1 (er_11.symm.trans c_15))).symm)

theorem in_X1_spreadLowest_0 : ∀ w ∈ wsX00, w ∈ wsX1_spreadLowest := by decide +kernel
theorem in_X1_spreadLowest_1 : ∀ w ∈ wsX10, w ∈ wsX1_spreadLowest := by decide +kernel
theorem lk_X1_spreadLowest_14 : Cond.fieldLink RX1 14 "PlanetoidDesk$Kinship" "lowestNumbers" "LPlanetoidDesk$Row;" ∈ wsX1_spreadLowest := by decide +kernel
theorem ml_min_X1_spreadLowest : Cond.methodLink RX1 45 Lib.Math.min.name ∈ wsX1_spreadLowest := by decide +kernel
theorem st_min_X1_spreadLowest : Cond.static Lib.Math.min.name ∈ wsX1_spreadLowest := by decide +kernel
theorem in_math_X1_spreadLowest : Cond.initialized "java/lang/Math" ∈ wsX1_spreadLowest := by decide +kernel
theorem co_min_X1_spreadLowest : Cond.code Lib.Math.min.name Lib.Math.min.code 2 (some .int) ∈ wsX1_spreadLowest := by decide +kernel
abbrev rmct_X1_spreadLowest : Room := { frames := 3, cells := 0, slots := 0, locals := 69 }
set_option maxHeartbeats 4000000 in
set_option maxRecDepth 100000 in
theorem ct_X1_spreadLowest (l : Launch) (D : va_G) (cI cZ cJ : ClassId) (ad : Nat → Nat) (S : ZS) (hI : CI S) (hdis : dDis ad) (x0 : Int) (hx0 : ir x0) (hp00 : 0 ≤ x0) (hp01 : x0 ≤ 90) : Met l yX1_spreadLowest wsX1_spreadLowest rmct_X1_spreadLowest (zP D cI cZ cJ (dW cI ad S) [.ref (ad 6), .ref (ad 2), .int (zi x0)]) (zWv D (dW cI ad) (dA ad) (fun T => T = slAll x0 S ∧ CI T)) 0 0 (dA ad) := by
  refine Met.ofW (cc := cX1_spreadLowest) (maxL := 6) (ret := none) (by decide) rfl ?_
  intro p e s m args below meth c s₁ B hml hv
  obtain ⟨rfl, hP, hK⟩ := hv
  have hx := B.exec
  have hb := B.bytes
  have hr := B.returns
  have hts := atoms_spec (ws := wsX1_spreadLowest) B.pre
  have hown : s.vm.findClass RX1 = some m.cls := findClass_of_methodNamed B.named
  have hlocks := B.notSynchronized
  have hl := lv_entry ([.ref (ad 6), .ref (ad 2), .int (zi x0)]) (n := 6) (Nat.le_of_ble_eq_true rfl)
  rw [lg_entry_eq]
  generalize (lg_sl ([.ref (ad 6), .ref (ad 2), .int (zi x0)]) ++ List.replicate (6 - (lg_sl ([.ref (ad 6), .ref (ad 2), .int (zi x0)])).length) Slot.unset).toArray = ls at hl ⊢
  have hl : lv_has ls 6 [(0, .ref (ad 6)), (1, .ref (ad 2)), (2, .int (zi x0))] := hl
  have hS : va_S (dA ad) s.heap s.heap [] := va_S.rf
  show W p l e rmct_X1_spreadLowest s m ([.ref (ad 6), .ref (ad 2), .int (zi x0)] : List Value).toArray below meth c s.heap [] 0 0 (MQ below (zWv D (dW cI ad) (dA ad) (fun T => T = slAll x0 S ∧ CI T)) ([.ref (ad 6), .ref (ad 2), .int (zi x0)] : List Value).toArray s 0 0 (dA ad)) (F0 m 0 ls [])
  have hc0 : (0 : Int) ≤ S 23 0 ∧ S 23 0 ≤ 20 := hI 23 0
  refine zi_iconst hx hb dX1_spreadLowest_0 ?_
  have K_2 : ∀ (k : Nat) (n : Nat) (i : Int) (T : ZS), (i + (n : Int) = S 23 0) → (0 ≤ i) → (itr (slOut x0) n i T = slAll x0 S) → (T 23 0 = S 23 0) → ((n : Int) < (k : Int)) → CI T → ∀ (H : Heap) (locs : List Loc), va_P D vwCl (dW cI ad T) H → va_S (dA ad) s.heap H locs → ∀ (ls : Array Slot), lv_has ls 6 [(0, .ref (ad 6)), (1, .ref (ad 2)), (2, .int (zi x0)), (3, .int (zi i))] → W p l e rmct_X1_spreadLowest s m ([.ref (ad 6), .ref (ad 2), .int (zi x0)] : List Value).toArray below meth c H locs 0 0 (MQ below (zWv D (dW cI ad) (dA ad) (fun T => T = slAll x0 S ∧ CI T)) ([.ref (ad 6), .ref (ad 2), .int (zi x0)] : List Value).toArray s 0 0 (dA ad)) (F0 m 2 ls []) := by
    intro k
    induction k with
    | zero => intro n i T h_n h_i h_R h_d hk hIT; exact absurd hk (by omega)
    | succ k ih_2 =>
      intro n i T h_n h_i h_R h_d hk hIT H locs hP hS ls hl
      refine lv_iload_n hx hb dX1_spreadLowest_2 rfl (lv_at hl 3 rfl) ?_
      refine lv_aload_n hx hb dX1_spreadLowest_3 rfl (lv_at hl 1 rfl) ?_
      refine va_getN (D := D) (ci := 0) (v := .int (zi (T 23 0))) (C := RX0) (T := TX0) (N := 8) hx hb hts in_X1_spreadLowest_0 hown hK.1 hP 2 rfl rfl 5 (by decide) (va_Nw.use rfl (hK.2 _ (List.mem_of_getElem? (i := 7) rfl))) (fun _ h9 => h9) rfl dX1_spreadLowest_4 ?_
      have f_4 : (0 : Int) ≤ T 23 0 ∧ T 23 0 ≤ 20 := hIT 23 0
      refine zi_icmp_ge (tgt := 85) hx hb ⟨by omega, by omega⟩ ⟨by omega, by omega⟩ dX1_spreadLowest_7 (by decide) (fun c_7 => ?_) (fun c_7 => ?_)
      · obtain rfl : n = 0 := by omega
        exact zr_wv (T := T) hx hb hr hlocks dX1_spreadLowest_85 hP hS (by exact ⟨h_R, hIT⟩)
      · obtain ⟨n, rfl⟩ : ∃ n9 : Nat, n = n9 + 1 := ⟨n - 1, by omega⟩
        refine zi_iconst hx hb dX1_spreadLowest_10 ?_
        have K_13 : ∀ (k : Nat) (m9 : Nat) (j : Int) (T2 : ZS), (j + (m9 : Int) = i) → (0 ≤ j) → (itr (slIn x0 i) m9 j T2 = slOut x0 i T) → ((m9 : Int) < (k : Int)) → CI T2 → ∀ (H : Heap) (locs : List Loc), va_P D vwCl (dW cI ad T2) H → va_S (dA ad) s.heap H locs → ∀ (ls : Array Slot), lv_has ls 6 [(0, .ref (ad 6)), (1, .ref (ad 2)), (2, .int (zi x0)), (3, .int (zi i)), (4, .int (zi j))] → W p l e rmct_X1_spreadLowest s m ([.ref (ad 6), .ref (ad 2), .int (zi x0)] : List Value).toArray below meth c H locs 0 0 (MQ below (zWv D (dW cI ad) (dA ad) (fun T => T = slAll x0 S ∧ CI T)) ([.ref (ad 6), .ref (ad 2), .int (zi x0)] : List Value).toArray s 0 0 (dA ad)) (F0 m 13 ls []) := by
          intro k
          induction k with
          | zero => intro m9 j T2 g_n g_i g_R hk hIT2; exact absurd hk (by omega)
          | succ k ih_13 =>
            intro m9 j T2 g_n g_i g_R hk hIT2 H locs hP hS ls hl
            refine lv_iload hx hb dX1_spreadLowest_13 (lv_at hl 4 rfl) ?_
            refine lv_iload_n hx hb dX1_spreadLowest_15 rfl (lv_at hl 3 rfl) ?_
            refine zi_icmp_ge (tgt := 79) hx hb ⟨by omega, by omega⟩ ⟨by omega, by omega⟩ dX1_spreadLowest_16 (by decide) (fun c_16 => ?_) (fun c_16 => ?_)
            · obtain rfl : m9 = 0 := by omega
              have h_R2 : T2 = slOut x0 i T := g_R
              refine zi_iinc (k := 3) (lv' := [(3, .int (zi (i + 1))), (0, .ref (ad 6)), (1, .ref (ad 2)), (2, .int (zi x0)), (4, .int (zi j))]) hx hb dX1_spreadLowest_79 hl rfl (by decide) rfl (fun ls hl => ?_)
              refine lv_goto (tgt := 2) hx hb dX1_spreadLowest_82 (by decide) ?_
              exact ih_2 n (i + 1) T2 (by first | omega | assumption) (by first | omega | assumption) (by rw [← h_R, itr_s, ← h_R2]) (by rw [h_R2, slOut_n (by decide)]; exact h_d) (by omega) hIT2 _ _ hP hS _ (lv_sub hl [1, 2, 3, 0] rfl)
            · obtain ⟨m9, rfl⟩ : ∃ n9 : Nat, m9 = n9 + 1 := ⟨m9 - 1, by omega⟩
              refine lv_aload_n hx hb dX1_spreadLowest_19 rfl (lv_at hl 1 rfl) ?_
              refine lv_iload_n hx hb dX1_spreadLowest_20 rfl (lv_at hl 3 rfl) ?_
              refine lv_iload hx hb dX1_spreadLowest_21 (lv_at hl 4 rfl) ?_
              refine lv_iload_n hx hb dX1_spreadLowest_23 rfl (lv_at hl 2 rfl) ?_
              refine zk_r (zc_S (As := [.ref (ad 2), .int (zi i), .int (zi j), .int (zi x0)]) (rest := []) ⟨hx, hb, hml, hown, hts⟩ (ct_X1_areAkin l D cI cZ cJ ad T2 hIT2 i j x0 ⟨by omega, by omega⟩ ⟨by omega, by omega⟩ ⟨by omega, by omega⟩) (va_cwS 4 hts gX1_spreadLowest_X1_areAkin rfl rfl rfl (by decide +kernel) ⟨Nat.le_of_ble_eq_true rfl, Nat.le_of_ble_eq_true rfl⟩) hK hP rfl hl.1 rfl (Nat.le_of_ble_eq_true rfl) dX1_spreadLowest_24 ⟨Nat.zero_le _, Nat.zero_le _⟩) ?_
              refine zi_top (fun (r_24 : Int) (er_24 : r_24 = b2 (akP T2 i j x0)) => ?_)
              have fr_24 : (0 : Int) ≤ r_24 ∧ r_24 ≤ 1 := by rw [er_24]; exact b2_b
              refine zi_if_eq (tgt := 73) hx hb ⟨by omega, by omega⟩ dX1_spreadLowest_27 (by decide) (fun c_27 => ?_) (fun c_27 => ?_)
              · refine zi_iinc (k := 4) (lv' := [(4, .int (zi (j + 1))), (0, .ref (ad 6)), (1, .ref (ad 2)), (2, .int (zi x0)), (3, .int (zi i))]) hx hb dX1_spreadLowest_73 hl rfl (by decide) rfl (fun ls hl => ?_)
                refine lv_goto (tgt := 13) hx hb dX1_spreadLowest_76 (by decide) ?_
                exact ih_13 m9 (j + 1) T2 (by first | omega | assumption) (by first | omega | assumption) (by rw [← g_R, itr_s]; congr 1; exact (cif_f (b2_0 er_24 c_27)).symm) (by omega) hIT2 _ _ hP hS _ (lv_sub hl [1, 2, 3, 4, 0] rfl)
              · refine lv_aload_n hx hb dX1_spreadLowest_30 rfl (lv_at hl 0 rfl) ?_
                refine va_get (D := D) (ci := 1) (v := .ref (ad 26)) (C := RX1) (T := TX1) (N := 1) hx hb hts in_X1_spreadLowest_1 hown hK.1 hP 6 rfl rfl 0 (by decide) (hts _ lk_X1_spreadLowest_14) (fun _ h9 => h9) rfl dX1_spreadLowest_31 ?_
                refine lv_iload_n hx hb dX1_spreadLowest_34 rfl (lv_at hl 3 rfl) ?_
                refine zk_r (zc_V (As := [.int (zi i)]) (rest := []) ⟨hx, hb, hml, hown, hts⟩ (ct_X5_at l D cI cZ cJ (dW cI ad T2) (ad 26) (ad 46) 26 46 20 (T2 19) i rfl rfl (by decide) ⟨by omega, by omega⟩) (cwV 1 hts gX1_spreadLowest_X5_at rfl rfl rfl (by decide +kernel) ⟨Nat.le_of_ble_eq_true rfl, Nat.le_of_ble_eq_true rfl⟩) hK hP (q0 := 26) (ci := 5) rfl rfl rfl rfl hl.1 rfl (Nat.le_of_ble_eq_true rfl) dX1_spreadLowest_35 ⟨Nat.zero_le _, Nat.zero_le _⟩) ?_
                refine zi_top (fun (r_35 : Int) (er_35 : r_35 = rAt 20 (T2 19) i) => ?_)
                have fr_35 : (-1 : Int) ≤ r_35 ∧ r_35 ≤ 20 := by rw [er_35]; exact CI.at hIT2 19 20 i ⟨by decide, by decide⟩
                refine lv_aload_n hx hb dX1_spreadLowest_38 rfl (lv_at hl 0 rfl) ?_
                refine va_get (D := D) (ci := 1) (v := .ref (ad 26)) (C := RX1) (T := TX1) (N := 1) hx hb hts in_X1_spreadLowest_1 hown hK.1 hP 6 rfl rfl 0 (by decide) (hts _ lk_X1_spreadLowest_14) (fun _ h9 => h9) rfl dX1_spreadLowest_39 ?_
                refine lv_iload hx hb dX1_spreadLowest_42 (lv_at hl 4 rfl) ?_
                refine zk_r (zc_V (As := [.int (zi j)]) (rest := [.int (zi r_35)]) ⟨hx, hb, hml, hown, hts⟩ (ct_X5_at l D cI cZ cJ (dW cI ad T2) (ad 26) (ad 46) 26 46 20 (T2 19) j rfl rfl (by decide) ⟨by omega, by omega⟩) (cwV 1 hts gX1_spreadLowest_X5_at rfl rfl rfl (by decide +kernel) ⟨Nat.le_of_ble_eq_true rfl, Nat.le_of_ble_eq_true rfl⟩) hK hP (q0 := 26) (ci := 5) rfl rfl rfl rfl hl.1 rfl (Nat.le_of_ble_eq_true rfl) dX1_spreadLowest_44 ⟨Nat.zero_le _, Nat.zero_le _⟩) ?_
                refine zi_top (fun (r_44 : Int) (er_44 : r_44 = rAt 20 (T2 19) j) => ?_)
                have fr_44 : (-1 : Int) ≤ r_44 ∧ r_44 ≤ 20 := by rw [er_44]; exact CI.at hIT2 19 20 j ⟨by decide, by decide⟩
                refine zi_mmin hx hb (hml.trans hl.1.symm) hown (hts _ ml_min_X1_spreadLowest) (hts _ st_min_X1_spreadLowest) (hts _ in_math_X1_spreadLowest) (hts _ co_min_X1_spreadLowest) (Nat.le_of_ble_eq_true rfl) (Nat.le_of_ble_eq_true rfl) (Nat.zero_le _) (Nat.zero_le _) ⟨by omega, by omega⟩ ⟨by omega, by omega⟩ dX1_spreadLowest_47 ?_
                refine zi_top (fun x5_50 ex5_50 => ?_)
                refine lv_istore (lv' := [(5, .int (zi x5_50)), (0, .ref (ad 6)), (1, .ref (ad 2)), (2, .int (zi x0)), (3, .int (zi i)), (4, .int (zi j))]) hx hb dX1_spreadLowest_50 hl (by decide) rfl (fun ls hl => ?_)
                refine lv_aload_n hx hb dX1_spreadLowest_52 rfl (lv_at hl 1 rfl) ?_
                refine va_get (D := D) (ci := 1) (v := .ref (ad 26)) (C := RX1) (T := TX1) (N := 1) hx hb hts in_X1_spreadLowest_1 hown hK.1 hP 6 rfl rfl 0 (by decide) (hts _ lk_X1_spreadLowest_14) (fun _ h9 => h9) rfl dX1_spreadLowest_53 ?_
                refine lv_iload_n hx hb dX1_spreadLowest_56 rfl (lv_at hl 4 rfl) ?_
                refine lv_iload hx hb dX1_spreadLowest_57 (lv_at hl 0 rfl) ?_
                refine va_callv (zc_V (As := [.int (zi i), .int (zi x5_50)]) (rest := []) ⟨hx, hb, hml, hown, hts⟩ (ct_X5_put l D cI cZ cJ (dW cI ad T2) (dA ad) (ad 26) (ad 46) 26 46 20 (T2 19) i x5_50 rfl (Nat.le_of_ble_eq_true rfl) (by decide) (fun g9 => dW_D hdis (su T2 19 g9)) (by decide) ⟨by omega, by omega⟩) (cwV 2 hts gX1_spreadLowest_X5_put rfl rfl rfl (by decide +kernel) ⟨Nat.le_of_ble_eq_true rfl, Nat.le_of_ble_eq_true rfl⟩) hK hP (q0 := 26) (ci := 5) rfl rfl rfl rfl hl.1 rfl (Nat.le_of_ble_eq_true rfl) dX1_spreadLowest_59 ⟨Nat.zero_le _, Nat.zero_le _⟩) hS (fun _ _ h => h) (fun _ h => h) (fun u t H locs ht _ hu hQ _ _ hS => ?_)
                have hP : va_P D vwCl (dW cI ad (su T2 19 (rPut 20 (T2 19) i x5_50))) H := by rw [hu] at hQ; rw [← ht]; exact hQ
                have hI_59 : CI (su T2 19 (rPut 20 (T2 19) i x5_50)) := CI.rput hIT2 19 20 i x5_50 (show (-1 : Int) ≤ x5_50 ∧ x5_50 ≤ 20 from ⟨by omega, by omega⟩)
                generalize eS_59 : (su T2 19 (rPut 20 (T2 19) i x5_50)) = S_59 at hP hI_59
                refine lv_aload_n hx hb dX1_spreadLowest_62 rfl (lv_at hl 1 rfl) ?_
                refine va_get (D := D) (ci := 1) (v := .ref (ad 26)) (C := RX1) (T := TX1) (N := 1) hx hb hts in_X1_spreadLowest_1 hown hK.1 hP 6 rfl rfl 0 (by decide) (hts _ lk_X1_spreadLowest_14) (fun _ h9 => h9) rfl dX1_spreadLowest_63 ?_
                refine lv_iload hx hb dX1_spreadLowest_66 (lv_at hl 5 rfl) ?_
                refine lv_iload hx hb dX1_spreadLowest_68 (lv_at hl 0 rfl) ?_
                refine va_callv (zc_V (As := [.int (zi j), .int (zi x5_50)]) (rest := []) ⟨hx, hb, hml, hown, hts⟩ (ct_X5_put l D cI cZ cJ (dW cI ad S_59) (dA ad) (ad 26) (ad 46) 26 46 20 (S_59 19) j x5_50 rfl (Nat.le_of_ble_eq_true rfl) (by decide) (fun g9 => dW_D hdis (su S_59 19 g9)) (by decide) ⟨by omega, by omega⟩) (cwV 2 hts gX1_spreadLowest_X5_put rfl rfl rfl (by decide +kernel) ⟨Nat.le_of_ble_eq_true rfl, Nat.le_of_ble_eq_true rfl⟩) hK hP (q0 := 26) (ci := 5) rfl rfl rfl rfl hl.1 rfl (Nat.le_of_ble_eq_true rfl) dX1_spreadLowest_70 ⟨Nat.zero_le _, Nat.zero_le _⟩) hS (fun _ _ h => h) (fun _ h => h) (fun u t H locs ht _ hu hQ _ _ hS => ?_)
                have hP : va_P D vwCl (dW cI ad (su S_59 19 (rPut 20 (S_59 19) j x5_50))) H := by rw [hu] at hQ; rw [← ht]; exact hQ
                have hI_70 : CI (su S_59 19 (rPut 20 (S_59 19) j x5_50)) := CI.rput hI_59 19 20 j x5_50 (show (-1 : Int) ≤ x5_50 ∧ x5_50 ≤ 20 from ⟨by omega, by omega⟩)
                generalize eS_70 : (su S_59 19 (rPut 20 (S_59 19) j x5_50)) = S_70 at hP hI_70
                refine zi_iinc (k := 5) (lv' := [(4, .int (zi (j + 1))), (5, .int (zi x5_50)), (0, .ref (ad 6)), (1, .ref (ad 2)), (2, .int (zi x0)), (3, .int (zi i))]) hx hb dX1_spreadLowest_73 hl rfl (by decide) rfl (fun ls hl => ?_)
                refine lv_goto (tgt := 13) hx hb dX1_spreadLowest_76 (by decide) ?_
                exact ih_13 m9 (j + 1) S_70 (by first | omega | assumption) (by first | omega | assumption) (by rw [← g_R, itr_s]; congr 1; refine Eq.trans ?_ (cif_t (b2_1 er_24 c_27)).symm; rw [← eS_70, ← eS_59, ex5_50, er_35, er_44]; rfl) (by omega) hI_70 _ _ hP hS _ (lv_sub hl [2, 3, 4, 5, 0] rfl)
        refine lv_istore (lv' := [(4, .int (zi 0)), (0, .ref (ad 6)), (1, .ref (ad 2)), (2, .int (zi x0)), (3, .int (zi i))]) hx hb dX1_spreadLowest_11 hl (by decide) rfl (fun ls hl => ?_)
        exact K_13 (i.toNat + 1) i.toNat 0 T (by first | omega | assumption) (by first | omega | assumption) (by rw [slOut]) (by omega) hIT _ _ hP hS _ (lv_sub hl [1, 2, 3, 4, 0] rfl)
  refine lv_istore_n (lv' := [(3, .int (zi 0)), (0, .ref (ad 6)), (1, .ref (ad 2)), (2, .int (zi x0))]) hx hb dX1_spreadLowest_1 rfl hl (by decide) rfl (fun ls hl => ?_)
  exact K_2 ((S 23 0).toNat + 1) ((S 23 0).toNat) 0 S (by first | omega | assumption) (by first | omega | assumption) (by rw [slAll]) rfl (by omega) hI _ _ hP hS _ (lv_sub hl [1, 2, 3, 0] rfl)

theorem in_X1_findFamilies_0 : ∀ w ∈ wsX00, w ∈ wsX1_findFamilies := by decide +kernel
theorem in_X1_findFamilies_1 : ∀ w ∈ wsX10, w ∈ wsX1_findFamilies := by decide +kernel
theorem lk_X1_findFamilies_14 : Cond.fieldLink RX1 14 "PlanetoidDesk$Kinship" "lowestNumbers" "LPlanetoidDesk$Row;" ∈ wsX1_findFamilies := by decide +kernel
abbrev rmct_X1_findFamilies : Room := { frames := 4, cells := 0, slots := 0, locals := 94 }
set_option maxHeartbeats 4000000 in
set_option maxRecDepth 100000 in
theorem ct_X1_findFamilies (l : Launch) (D : va_G) (cI cZ cJ : ClassId) (ad : Nat → Nat) (S : ZS) (hI : CI S) (hdis : dDis ad) (x0 : Int) (hx0 : ir x0) (hp00 : 0 ≤ x0) (hp01 : x0 ≤ 90) : Met l yX1_findFamilies wsX1_findFamilies rmct_X1_findFamilies (zP D cI cZ cJ (dW cI ad S) [.ref (ad 6), .ref (ad 2), .int (zi x0)]) (zWv D (dW cI ad) (dA ad) (fun T => T = ffAll x0 S ∧ CI T)) 0 0 (dA ad) := by
  refine Met.ofW (cc := cX1_findFamilies) (maxL := 4) (ret := none) (by decide) rfl ?_
  intro p e s m args below meth c s₁ B hml hv
  obtain ⟨rfl, hP, hK⟩ := hv
  have hx := B.exec
  have hb := B.bytes
  have hr := B.returns
  have hts := atoms_spec (ws := wsX1_findFamilies) B.pre
  have hown : s.vm.findClass RX1 = some m.cls := findClass_of_methodNamed B.named
  have hlocks := B.notSynchronized
  have hl := lv_entry ([.ref (ad 6), .ref (ad 2), .int (zi x0)]) (n := 4) (Nat.le_of_ble_eq_true rfl)
  rw [lg_entry_eq]
  generalize (lg_sl ([.ref (ad 6), .ref (ad 2), .int (zi x0)]) ++ List.replicate (4 - (lg_sl ([.ref (ad 6), .ref (ad 2), .int (zi x0)])).length) Slot.unset).toArray = ls at hl ⊢
  have hl : lv_has ls 4 [(0, .ref (ad 6)), (1, .ref (ad 2)), (2, .int (zi x0))] := hl
  have hS : va_S (dA ad) s.heap s.heap [] := va_S.rf
  show W p l e rmct_X1_findFamilies s m ([.ref (ad 6), .ref (ad 2), .int (zi x0)] : List Value).toArray below meth c s.heap [] 0 0 (MQ below (zWv D (dW cI ad) (dA ad) (fun T => T = ffAll x0 S ∧ CI T)) ([.ref (ad 6), .ref (ad 2), .int (zi x0)] : List Value).toArray s 0 0 (dA ad)) (F0 m 0 ls [])
  have hc0 : (0 : Int) ≤ S 23 0 ∧ S 23 0 ≤ 20 := hI 23 0
  refine zi_iconst hx hb dX1_findFamilies_0 ?_
  have K_2 : ∀ (k : Nat) (n : Nat) (i : Int) (T : ZS), (i + (n : Int) = S 23 0) → (0 ≤ i) → (itr ffIn n i T = ffA S) → (T 23 0 = S 23 0) → ((n : Int) < (k : Int)) → CI T → ∀ (H : Heap) (locs : List Loc), va_P D vwCl (dW cI ad T) H → va_S (dA ad) s.heap H locs → ∀ (ls : Array Slot), lv_has ls 4 [(0, .ref (ad 6)), (1, .ref (ad 2)), (2, .int (zi x0)), (3, .int (zi i))] → W p l e rmct_X1_findFamilies s m ([.ref (ad 6), .ref (ad 2), .int (zi x0)] : List Value).toArray below meth c H locs 0 0 (MQ below (zWv D (dW cI ad) (dA ad) (fun T => T = ffAll x0 S ∧ CI T)) ([.ref (ad 6), .ref (ad 2), .int (zi x0)] : List Value).toArray s 0 0 (dA ad)) (F0 m 2 ls []) := by
    intro k
    induction k with
    | zero => intro n i T h_n h_i g_R h_d hk hIT; exact absurd hk (by omega)
    | succ k ih_2 =>
      intro n i T h_n h_i g_R h_d hk hIT H locs hP hS ls hl
      refine lv_iload_n hx hb dX1_findFamilies_2 rfl (lv_at hl 3 rfl) ?_
      refine lv_aload_n hx hb dX1_findFamilies_3 rfl (lv_at hl 1 rfl) ?_
      refine va_getN (D := D) (ci := 0) (v := .int (zi (T 23 0))) (C := RX0) (T := TX0) (N := 8) hx hb hts in_X1_findFamilies_0 hown hK.1 hP 2 rfl rfl 5 (by decide) (va_Nw.use rfl (hK.2 _ (List.mem_of_getElem? (i := 7) rfl))) (fun _ h9 => h9) rfl dX1_findFamilies_4 ?_
      have f_4 : (0 : Int) ≤ T 23 0 ∧ T 23 0 ≤ 20 := hIT 23 0
      refine zi_icmp_ge (tgt := 29) hx hb ⟨by omega, by omega⟩ ⟨by omega, by omega⟩ dX1_findFamilies_7 (by decide) (fun c_7 => ?_) (fun c_7 => ?_)
      · obtain rfl : n = 0 := by omega
        refine zi_iconst hx hb dX1_findFamilies_29 ?_
        have K_31 : ∀ (k : Nat) (n : Nat) (i : Int) (T2 : ZS), (i + (n : Int) = S 23 0) → (0 ≤ i) → (itr (fun _ T => slAll x0 T) n i T2 = ffAll x0 S) → (T2 23 0 = S 23 0) → ((n : Int) < (k : Int)) → CI T2 → ∀ (H : Heap) (locs : List Loc), va_P D vwCl (dW cI ad T2) H → va_S (dA ad) s.heap H locs → ∀ (ls : Array Slot), lv_has ls 4 [(0, .ref (ad 6)), (1, .ref (ad 2)), (2, .int (zi x0)), (3, .int (zi i))] → W p l e rmct_X1_findFamilies s m ([.ref (ad 6), .ref (ad 2), .int (zi x0)] : List Value).toArray below meth c H locs 0 0 (MQ below (zWv D (dW cI ad) (dA ad) (fun T => T = ffAll x0 S ∧ CI T)) ([.ref (ad 6), .ref (ad 2), .int (zi x0)] : List Value).toArray s 0 0 (dA ad)) (F0 m 31 ls []) := by
          intro k
          induction k with
          | zero => intro n i T2 h_n h_i h_R h_d hk hIT2; exact absurd hk (by omega)
          | succ k ih_31 =>
            intro n i T2 h_n h_i h_R h_d hk hIT2 H locs hP hS ls hl
            refine lv_iload_n hx hb dX1_findFamilies_31 rfl (lv_at hl 3 rfl) ?_
            refine lv_aload_n hx hb dX1_findFamilies_32 rfl (lv_at hl 1 rfl) ?_
            refine va_getN (D := D) (ci := 0) (v := .int (zi (T2 23 0))) (C := RX0) (T := TX0) (N := 8) hx hb hts in_X1_findFamilies_0 hown hK.1 hP 2 rfl rfl 5 (by decide) (va_Nw.use rfl (hK.2 _ (List.mem_of_getElem? (i := 7) rfl))) (fun _ h9 => h9) rfl dX1_findFamilies_33 ?_
            have f_33 : (0 : Int) ≤ T2 23 0 ∧ T2 23 0 ≤ 20 := hIT2 23 0
            refine zi_icmp_ge (tgt := 51) hx hb ⟨by omega, by omega⟩ ⟨by omega, by omega⟩ dX1_findFamilies_36 (by decide) (fun c_36 => ?_) (fun c_36 => ?_)
            · obtain rfl : n = 0 := by omega
              exact zr_wv (T := T2) hx hb hr hlocks dX1_findFamilies_51 hP hS (by exact ⟨h_R, hIT2⟩)
            · obtain ⟨n, rfl⟩ : ∃ n9 : Nat, n = n9 + 1 := ⟨n - 1, by omega⟩
              refine lv_aload_n hx hb dX1_findFamilies_39 rfl (lv_at hl 0 rfl) ?_
              refine lv_aload_n hx hb dX1_findFamilies_40 rfl (lv_at hl 1 rfl) ?_
              refine lv_iload_n hx hb dX1_findFamilies_41 rfl (lv_at hl 2 rfl) ?_
              refine zk_wv (zc_V (As := [.ref (ad 2), .int (zi x0)]) (rest := []) ⟨hx, hb, hml, hown, hts⟩ (ct_X1_spreadLowest l D cI cZ cJ ad T2 hIT2 hdis x0 ⟨by omega, by omega⟩ (by omega) (by omega)) (cwV 2 hts gX1_findFamilies_X1_spreadLowest rfl rfl rfl (by decide +kernel) ⟨Nat.le_of_ble_eq_true rfl, Nat.le_of_ble_eq_true rfl⟩) hK hP (q0 := 6) (ci := 1) rfl rfl rfl rfl hl.1 rfl (Nat.le_of_ble_eq_true rfl) dX1_findFamilies_42 ⟨Nat.zero_le _, Nat.zero_le _⟩) hS (fun S_42 H locs hp_42 hP hS => ?_)
              obtain ⟨e9, hI_42⟩ := hp_42
              have eS_42 := e9.symm; clear e9
              refine zi_iinc (k := 3) (lv' := [(3, .int (zi (i + 1))), (0, .ref (ad 6)), (1, .ref (ad 2)), (2, .int (zi x0))]) hx hb dX1_findFamilies_45 hl rfl (by decide) rfl (fun ls hl => ?_)
              refine lv_goto (tgt := 31) hx hb dX1_findFamilies_48 (by decide) ?_
              exact ih_31 n (i + 1) S_42 (by first | omega | assumption) (by first | omega | assumption) (by rw [← h_R, itr_s, eS_42]) (by rw [← eS_42, slAll_n (by decide)]; exact h_d) (by omega) hI_42 _ _ hP hS _ (lv_sub hl [1, 2, 3, 0] rfl)
        refine lv_istore_n (lv' := [(3, .int (zi 0)), (0, .ref (ad 6)), (1, .ref (ad 2)), (2, .int (zi x0))]) hx hb dX1_findFamilies_30 rfl hl (by decide) rfl (fun ls hl => ?_)
        exact K_31 ((S 23 0).toNat + 1) ((S 23 0).toNat) 0 T (by first | omega | assumption) (by first | omega | assumption) (by rw [ffAll, ← g_R]; rfl) h_d (by omega) hIT _ _ hP hS _ (lv_sub hl [1, 2, 3, 0] rfl)
      · obtain ⟨n, rfl⟩ : ∃ n9 : Nat, n = n9 + 1 := ⟨n - 1, by omega⟩
        refine lv_aload_n hx hb dX1_findFamilies_10 rfl (lv_at hl 0 rfl) ?_
        refine va_get (D := D) (ci := 1) (v := .ref (ad 26)) (C := RX1) (T := TX1) (N := 1) hx hb hts in_X1_findFamilies_1 hown hK.1 hP 6 rfl rfl 0 (by decide) (hts _ lk_X1_findFamilies_14) (fun _ h9 => h9) rfl dX1_findFamilies_11 ?_
        refine lv_iload_n hx hb dX1_findFamilies_14 rfl (lv_at hl 3 rfl) ?_
        refine lv_aload_n hx hb dX1_findFamilies_15 rfl (lv_at hl 1 rfl) ?_
        refine lv_iload_n hx hb dX1_findFamilies_16 rfl (lv_at hl 3 rfl) ?_
        refine zk_r (zc_V (As := [.int (zi i)]) (rest := [.int (zi i), .ref (ad 26)]) ⟨hx, hb, hml, hown, hts⟩ (ct_X0_numberOf l D cI cZ cJ ad T hIT i ⟨by omega, by omega⟩) (cwV 1 hts gX1_findFamilies_X0_numberOf rfl rfl rfl (by decide +kernel) ⟨Nat.le_of_ble_eq_true rfl, Nat.le_of_ble_eq_true rfl⟩) hK hP (q0 := 2) (ci := 0) rfl rfl rfl rfl hl.1 rfl (Nat.le_of_ble_eq_true rfl) dX1_findFamilies_17 ⟨Nat.zero_le _, Nat.zero_le _⟩) ?_
        refine zi_top (fun (r_17 : Int) (er_17 : r_17 = rAt 20 (T 10) i) => ?_)
        have fr_17 : (-1 : Int) ≤ r_17 ∧ r_17 ≤ 20 := by rw [er_17]; exact CI.at hIT 10 20 i ⟨by decide, by decide⟩
        refine va_callv (zc_V (As := [.int (zi i), .int (zi r_17)]) (rest := []) ⟨hx, hb, hml, hown, hts⟩ (ct_X5_put l D cI cZ cJ (dW cI ad T) (dA ad) (ad 26) (ad 46) 26 46 20 (T 19) i r_17 rfl (Nat.le_of_ble_eq_true rfl) (by decide) (fun g9 => dW_D hdis (su T 19 g9)) (by decide) ⟨by omega, by omega⟩) (cwV 2 hts gX1_findFamilies_X5_put rfl rfl rfl (by decide +kernel) ⟨Nat.le_of_ble_eq_true rfl, Nat.le_of_ble_eq_true rfl⟩) hK hP (q0 := 26) (ci := 5) rfl rfl rfl rfl hl.1 rfl (Nat.le_of_ble_eq_true rfl) dX1_findFamilies_20 ⟨Nat.zero_le _, Nat.zero_le _⟩) hS (fun _ _ h => h) (fun _ h => h) (fun u t H locs ht _ hu hQ _ _ hS => ?_)
        have hP : va_P D vwCl (dW cI ad (su T 19 (rPut 20 (T 19) i r_17))) H := by rw [hu] at hQ; rw [← ht]; exact hQ
        have hI_20 : CI (su T 19 (rPut 20 (T 19) i r_17)) := CI.rput hIT 19 20 i r_17 (show (-1 : Int) ≤ r_17 ∧ r_17 ≤ 20 from ⟨by omega, by omega⟩)
        generalize eS_20 : (su T 19 (rPut 20 (T 19) i r_17)) = S_20 at hP hI_20
        refine zi_iinc (k := 3) (lv' := [(3, .int (zi (i + 1))), (0, .ref (ad 6)), (1, .ref (ad 2)), (2, .int (zi x0))]) hx hb dX1_findFamilies_23 hl rfl (by decide) rfl (fun ls hl => ?_)
        refine lv_goto (tgt := 2) hx hb dX1_findFamilies_26 (by decide) ?_
        exact ih_2 n (i + 1) S_20 (by first | omega | assumption) (by first | omega | assumption) (by rw [← g_R, itr_s]; congr 1; rw [← eS_20, er_17]; rfl) (by rw [← eS_20]; exact h_d) (by omega) hI_20 _ _ hP hS _ (lv_sub hl [1, 2, 3, 0] rfl)
  refine lv_istore_n (lv' := [(3, .int (zi 0)), (0, .ref (ad 6)), (1, .ref (ad 2)), (2, .int (zi x0))]) hx hb dX1_findFamilies_1 rfl hl (by decide) rfl (fun ls hl => ?_)
  exact K_2 ((S 23 0).toNat + 1) ((S 23 0).toNat) 0 S (by first | omega | assumption) (by first | omega | assumption) (by rw [ffA]) rfl (by omega) hI _ _ hP hS _ (lv_sub hl [1, 2, 3, 0] rfl)

theorem in_X7_canGetNumber_7 : ∀ w ∈ wsX70, w ∈ wsX7_canGetNumber := by decide +kernel
theorem lk_X7_canGetNumber_19 : Cond.fieldLink RX7 19 "PlanetoidDesk" "bodies" "LPlanetoidDesk$Bodies;" ∈ wsX7_canGetNumber := by decide +kernel
theorem lk_X7_canGetNumber_33 : Cond.fieldLink RX7 33 "PlanetoidDesk" "fitting" "LPlanetoidDesk$Orbits;" ∈ wsX7_canGetNumber := by decide +kernel
abbrev rmct_X7_canGetNumber : Room := { frames := 5, cells := 0, slots := 0, locals := 116 }
set_option maxHeartbeats 4000000 in
set_option maxRecDepth 100000 in
theorem ct_X7_canGetNumber (l : Launch) (D : va_G) (cI cZ cJ : ClassId) (ad : Nat → Nat) (S : ZS) (hI : CI S) (hdis : dDis ad) (x0 : Int) (hx0 : ir x0)  : Met l yX7_canGetNumber wsX7_canGetNumber rmct_X7_canGetNumber (zP D cI cZ cJ (dW cI ad S) [.ref (ad 0), .int (zi x0)]) (zWi D (dW cI ad) (dA ad) (fun r T => r = b2 (numP S x0) ∧ (¬ r = 0 → T = findO x0 (gatherL x0 S)) ∧ SC S T ∧ CI T)) 0 0 (dA ad) := by
  refine Met.ofW (cc := cX7_canGetNumber) (maxL := 2) (ret := (some .boolean)) (by decide) rfl ?_
  intro p e s m args below meth c s₁ B hml hv
  obtain ⟨rfl, hP, hK⟩ := hv
  have hx := B.exec
  have hb := B.bytes
  have hr := B.returns
  have hts := atoms_spec (ws := wsX7_canGetNumber) B.pre
  have hown : s.vm.findClass RX7 = some m.cls := findClass_of_methodNamed B.named
  have hlocks := B.notSynchronized
  have hl := lv_entry ([.ref (ad 0), .int (zi x0)]) (n := 2) (Nat.le_of_ble_eq_true rfl)
  rw [lg_entry_eq]
  generalize (lg_sl ([.ref (ad 0), .int (zi x0)]) ++ List.replicate (2 - (lg_sl ([.ref (ad 0), .int (zi x0)])).length) Slot.unset).toArray = ls at hl ⊢
  have hl : lv_has ls 2 [(0, .ref (ad 0)), (1, .int (zi x0))] := hl
  have hS : va_S (dA ad) s.heap s.heap [] := va_S.rf
  show W p l e rmct_X7_canGetNumber s m ([.ref (ad 0), .int (zi x0)] : List Value).toArray below meth c s.heap [] 0 0 (MQ below (zWi D (dW cI ad) (dA ad) (fun r T => r = b2 (numP S x0) ∧ (¬ r = 0 → T = findO x0 (gatherL x0 S)) ∧ SC S T ∧ CI T)) ([.ref (ad 0), .int (zi x0)] : List Value).toArray s 0 0 (dA ad)) (F0 m 0 ls [])
  refine lv_aload_n hx hb dX7_canGetNumber_0 rfl (lv_at hl 0 rfl) ?_
  refine va_get (D := D) (ci := 7) (v := .ref (ad 2)) (C := RX7) (T := TX7) (N := 6) hx hb hts in_X7_canGetNumber_7 hown hK.1 hP 0 rfl rfl 1 (by decide) (hts _ lk_X7_canGetNumber_19) (fun _ h9 => h9) rfl dX7_canGetNumber_1 ?_
  refine lv_iload_n hx hb dX7_canGetNumber_4 rfl (lv_at hl 1 rfl) ?_
  refine zk_r (zc_V (As := [.int (zi x0)]) (rest := []) ⟨hx, hb, hml, hown, hts⟩ (ct_X0_isFree l D cI cZ cJ ad S hI x0 ⟨by omega, by omega⟩) (cwV 1 hts gX7_canGetNumber_X0_isFree rfl rfl rfl (by decide +kernel) ⟨Nat.le_of_ble_eq_true rfl, Nat.le_of_ble_eq_true rfl⟩) hK hP (q0 := 2) (ci := 0) rfl rfl rfl rfl hl.1 rfl (Nat.le_of_ble_eq_true rfl) dX7_canGetNumber_5 ⟨Nat.zero_le _, Nat.zero_le _⟩) ?_
  refine zi_top (fun (r_5 : Int) (er_5 : r_5 = b2 (rAt 20 (S 8) x0 = -1)) => ?_)
  have fr_5 : (0 : Int) ≤ r_5 ∧ r_5 ≤ 1 := by rw [er_5]; exact b2_b
  refine zi_if_eq (tgt := 31) hx hb ⟨by omega, by omega⟩ dX7_canGetNumber_8 (by decide) (fun c_8 => ?_) (fun c_8 => ?_)
  · refine zi_iconst hx hb dX7_canGetNumber_31 ?_
    exact zr_wz (T := S) hx hb hr hlocks dX7_canGetNumber_32 (Or.inl rfl) hP hS (by exact ⟨(b2_f (fun h9 => b2_0 er_5 c_8 h9.1)).symm, fun h9 => absurd rfl h9, SC.rf, hI⟩)
  · refine lv_aload_n hx hb dX7_canGetNumber_11 rfl (lv_at hl 0 rfl) ?_
    refine va_get (D := D) (ci := 7) (v := .ref (ad 2)) (C := RX7) (T := TX7) (N := 6) hx hb hts in_X7_canGetNumber_7 hown hK.1 hP 0 rfl rfl 1 (by decide) (hts _ lk_X7_canGetNumber_19) (fun _ h9 => h9) rfl dX7_canGetNumber_12 ?_
    refine lv_iload_n hx hb dX7_canGetNumber_15 rfl (lv_at hl 1 rfl) ?_
    refine zk_r (zc_V (As := [.int (zi x0)]) (rest := []) ⟨hx, hb, hml, hown, hts⟩ (ct_X0_numberOf l D cI cZ cJ ad S hI x0 ⟨by omega, by omega⟩) (cwV 1 hts gX7_canGetNumber_X0_numberOf rfl rfl rfl (by decide +kernel) ⟨Nat.le_of_ble_eq_true rfl, Nat.le_of_ble_eq_true rfl⟩) hK hP (q0 := 2) (ci := 0) rfl rfl rfl rfl hl.1 rfl (Nat.le_of_ble_eq_true rfl) dX7_canGetNumber_16 ⟨Nat.zero_le _, Nat.zero_le _⟩) ?_
    refine zi_top (fun (r_16 : Int) (er_16 : r_16 = rAt 20 (S 10) x0) => ?_)
    have fr_16 : (-1 : Int) ≤ r_16 ∧ r_16 ≤ 20 := by rw [er_16]; exact CI.at hI 10 20 x0 ⟨by decide, by decide⟩
    refine zi_iconst hx hb dX7_canGetNumber_19 ?_
    refine zi_icmp_ne (tgt := 31) hx hb ⟨by omega, by omega⟩ ⟨by decide, by decide⟩ dX7_canGetNumber_20 (by decide) (fun c_20 => ?_) (fun c_20 => ?_)
    · refine zi_iconst hx hb dX7_canGetNumber_31 ?_
      exact zr_wz (T := S) hx hb hr hlocks dX7_canGetNumber_32 (Or.inl rfl) hP hS (by exact ⟨(b2_f (fun h9 => c_20 (er_16.trans h9.2.1))).symm, fun h9 => absurd rfl h9, SC.rf, hI⟩)
    · refine lv_aload_n hx hb dX7_canGetNumber_23 rfl (lv_at hl 0 rfl) ?_
      refine lv_iload_n hx hb dX7_canGetNumber_24 rfl (lv_at hl 1 rfl) ?_
      refine zk_wi (zc_V (As := [.int (zi x0)]) (rest := []) ⟨hx, hb, hml, hown, hts⟩ (ct_X7_isSeenLongEnough l D cI cZ cJ ad S hI hdis x0 ⟨by omega, by omega⟩) (cwV 1 hts gX7_canGetNumber_X7_isSeenLongEnough rfl rfl rfl (by decide +kernel) ⟨Nat.le_of_ble_eq_true rfl, Nat.le_of_ble_eq_true rfl⟩) hK hP (q0 := 0) (ci := 7) rfl rfl rfl rfl hl.1 rfl (Nat.le_of_ble_eq_true rfl) dX7_canGetNumber_25 ⟨Nat.zero_le _, Nat.zero_le _⟩) hS (fun r_25 S_25 H locs hp_25 hP hS => ?_)
      obtain ⟨er_25, e9, hI_25⟩ := hp_25
      have eS_25 := e9.symm; clear e9
      have fr_25 : (0 : Int) ≤ r_25 ∧ r_25 ≤ 1 := by rw [er_25]; exact b2_b
      refine zi_if_ne (tgt := 33) hx hb ⟨by omega, by omega⟩ dX7_canGetNumber_28 (by decide) (fun c_28 => ?_) (fun c_28 => ?_)
      · refine lv_aload_n hx hb dX7_canGetNumber_33 rfl (lv_at hl 0 rfl) ?_
        refine lv_iload_n hx hb dX7_canGetNumber_34 rfl (lv_at hl 1 rfl) ?_
        refine zk_wv (zc_V (As := [.int (zi x0)]) (rest := []) ⟨hx, hb, hml, hown, hts⟩ (ct_X7_findOrbits l D cI cZ cJ ad S_25 hI_25 hdis x0 ⟨by omega, by omega⟩) (cwV 1 hts gX7_canGetNumber_X7_findOrbits rfl rfl rfl (by decide +kernel) ⟨Nat.le_of_ble_eq_true rfl, Nat.le_of_ble_eq_true rfl⟩) hK hP (q0 := 0) (ci := 7) rfl rfl rfl rfl hl.1 rfl (Nat.le_of_ble_eq_true rfl) dX7_canGetNumber_35 ⟨Nat.zero_le _, Nat.zero_le _⟩) hS (fun S_35 H locs hp_35 hP hS => ?_)
        obtain ⟨e9, hI_35⟩ := hp_35
        have eS_35 := e9.symm; clear e9
        refine lv_aload_n hx hb dX7_canGetNumber_38 rfl (lv_at hl 0 rfl) ?_
        refine va_get (D := D) (ci := 7) (v := .ref (ad 4)) (C := RX7) (T := TX7) (N := 6) hx hb hts in_X7_canGetNumber_7 hown hK.1 hP 0 rfl rfl 3 (by decide) (hts _ lk_X7_canGetNumber_33) (fun _ h9 => h9) rfl dX7_canGetNumber_39 ?_
        refine zk_r (zc_V (As := []) (rest := []) ⟨hx, hb, hml, hown, hts⟩ (ct_X3_countOrbits l D cI cZ cJ ad S_35 hI_35  ) (cwV 0 hts gX7_canGetNumber_X3_countOrbits rfl rfl rfl (by decide +kernel) ⟨Nat.le_of_ble_eq_true rfl, Nat.le_of_ble_eq_true rfl⟩) hK hP (q0 := 4) (ci := 3) rfl rfl rfl rfl hl.1 rfl (Nat.le_of_ble_eq_true rfl) dX7_canGetNumber_42 ⟨Nat.zero_le _, Nat.zero_le _⟩) ?_
        refine zi_top (fun (r_42 : Int) (er_42 : r_42 = cntO S_35) => ?_)
        have fr_42 : (0 : Int) ≤ r_42 ∧ r_42 ≤ 1458000 := by rw [er_42]; exact cntO_b hI_35
        refine zi_iconst hx hb dX7_canGetNumber_45 ?_
        refine zi_icmp_ne (tgt := 53) hx hb ⟨by omega, by omega⟩ ⟨by decide, by decide⟩ dX7_canGetNumber_46 (by decide) (fun c_46 => ?_) (fun c_46 => ?_)
        · refine zi_iconst hx hb dX7_canGetNumber_53 ?_
          exact zr_wz (T := S_35) hx hb hr hlocks dX7_canGetNumber_54 (Or.inl rfl) hP hS (by exact ⟨(b2_f (fun h9 => c_46 (by rw [er_42, ← eS_35, ← eS_25]; exact h9.2.2.2))).symm, fun _ => by rw [← eS_35, ← eS_25], by rw [← eS_35, ← eS_25]; exact SC_ga.tr SC_fo, hI_35⟩)
        · refine zi_iconst hx hb dX7_canGetNumber_49 ?_
          refine lv_goto (tgt := 54) hx hb dX7_canGetNumber_50 (by decide) ?_
          exact zr_wz (T := S_35) hx hb hr hlocks dX7_canGetNumber_54 (Or.inr rfl) hP hS (by exact ⟨(b2_t ⟨b2_1 er_5 c_8, er_16.symm.trans c_20, b2_1 er_25 c_28, by rw [eS_25, eS_35, ← er_42]; exact c_46⟩).symm, fun _ => by rw [← eS_35, ← eS_25], by rw [← eS_35, ← eS_25]; exact SC_ga.tr SC_fo, hI_35⟩)
      · refine zi_iconst hx hb dX7_canGetNumber_31 ?_
        exact zr_wz (T := S_25) hx hb hr hlocks dX7_canGetNumber_32 (Or.inl rfl) hP hS (by exact ⟨(b2_f (fun h9 => b2_0 er_25 c_28 h9.2.2.1)).symm, fun h9 => absurd rfl h9, by rw [← eS_25]; exact SC_ga, hI_25⟩)

abbrev rmct_X7_greatestDivisor : Room := { frames := 0, cells := 0, slots := 0, locals := 0 }
set_option maxHeartbeats 4000000 in
set_option maxRecDepth 100000 in
theorem ct_X7_greatestDivisor (l : Launch) (D : va_G) (cI cZ cJ : ClassId) (x0 x1 : Int) (hx0 : ir x0) (hx1 : ir x1) (hp00 : 0 ≤ x0) (hp01 : x0 ≤ 2147483647) (hp10 : 0 ≤ x1) (hp11 : x1 ≤ 2147483647) : Met l yX7_greatestDivisor wsX7_greatestDivisor rmct_X7_greatestDivisor (zP D cI cZ cJ [] [.int (zi x0), .int (zi x1)]) (k2_QcV (.int (zi (gcdC 64 x0 x1)))) 0 0 (fun _ => False) := by
  refine Met.ofW (cc := cX7_greatestDivisor) (maxL := 6) (ret := (some .int)) (by decide) rfl ?_
  intro p e s m args below meth c s₁ B hml hv
  obtain ⟨rfl, hP, hK⟩ := hv
  have hx := B.exec
  have hb := B.bytes
  have hr := B.returns
  have hts := atoms_spec (ws := wsX7_greatestDivisor) B.pre
  have hown : s.vm.findClass RX7 = some m.cls := findClass_of_methodNamed B.named
  have hlocks := B.notSynchronized
  have hl := lv_entry ([.int (zi x0), .int (zi x1)]) (n := 6) (Nat.le_of_ble_eq_true rfl)
  rw [lg_entry_eq]
  generalize (lg_sl ([.int (zi x0), .int (zi x1)]) ++ List.replicate (6 - (lg_sl ([.int (zi x0), .int (zi x1)])).length) Slot.unset).toArray = ls at hl ⊢
  have hl : lv_has ls 6 [(0, .int (zi x0)), (1, .int (zi x1))] := hl
  show W p l e rmct_X7_greatestDivisor s m ([.int (zi x0), .int (zi x1)] : List Value).toArray below meth c s.heap [] 0 0 (MQ below (k2_QcV (.int (zi (gcdC 64 x0 x1)))) ([.int (zi x0), .int (zi x1)] : List Value).toArray s 0 0 (fun _ => False)) (F0 m 0 ls [])
  refine lv_iload_n hx hb dX7_greatestDivisor_0 rfl (lv_at hl 0 rfl) ?_
  refine lv_istore_n (lv' := [(2, .int (zi x0)), (0, .int (zi x0)), (1, .int (zi x1))]) hx hb dX7_greatestDivisor_1 rfl hl (by decide) rfl (fun ls hl => ?_)
  refine lv_iload_n hx hb dX7_greatestDivisor_2 rfl (lv_at hl 2 rfl) ?_
  refine lv_istore_n (lv' := [(3, .int (zi x1)), (2, .int (zi x0)), (0, .int (zi x0)), (1, .int (zi x1))]) hx hb dX7_greatestDivisor_3 rfl hl (by decide) rfl (fun ls hl => ?_)
  refine zi_iconst hx hb dX7_greatestDivisor_4 ?_
  have K_7 : ∀ (k : Nat) (n : Nat) (hi lo i : Int), (i + (n : Int) = 64) → (0 ≤ i) → (0 ≤ hi ∧ 0 ≤ lo ∧ hi ≤ 2147483647 ∧ lo ≤ 2147483647) → (gcdC n hi lo = gcdC 64 x0 x1) → ((n : Int) < (k : Int)) → ∀ (ls : Array Slot), lv_has ls 6 [(0, .int (zi x0)), (1, .int (zi x1)), (2, .int (zi hi)), (3, .int (zi lo)), (4, .int (zi i))] → W p l e rmct_X7_greatestDivisor s m ([.int (zi x0), .int (zi x1)] : List Value).toArray below meth c s.heap [] 0 0 (MQ below (k2_QcV (.int (zi (gcdC 64 x0 x1)))) ([.int (zi x0), .int (zi x1)] : List Value).toArray s 0 0 (fun _ => False)) (F0 m 7 ls []) := by
    intro k
    induction k with
    | zero => intro n hi lo i h_n h_i h_b h_R hk; exact absurd hk (by omega)
    | succ k ih_7 =>
      intro n hi lo i h_n h_i h_b h_R hk ls hl
      refine lv_iload hx hb dX7_greatestDivisor_7 (lv_at hl 4 rfl) ?_
      refine zi_bipush hx hb dX7_greatestDivisor_9 (by decide) ?_
      refine zi_icmp_ge (tgt := 34) hx hb ⟨by omega, by omega⟩ ⟨by decide, by decide⟩ dX7_greatestDivisor_11 (by decide) (fun c_11 => ?_) (fun c_11 => ?_)
      · obtain rfl : n = 0 := by omega
        refine lv_iload_n hx hb dX7_greatestDivisor_34 rfl (lv_at hl 2 rfl) ?_
        exact zr_i hx hb hr hlocks dX7_greatestDivisor_35 (by exact h_R)
      · obtain ⟨n, rfl⟩ : ∃ n9 : Nat, n = n9 + 1 := ⟨n - 1, by omega⟩
        refine lv_iload_n hx hb dX7_greatestDivisor_14 rfl (lv_at hl 3 rfl) ?_
        refine zi_if_eq (tgt := 34) hx hb ⟨by omega, by omega⟩ dX7_greatestDivisor_15 (by decide) (fun c_15 => ?_) (fun c_15 => ?_)
        · refine lv_iload_n hx hb dX7_greatestDivisor_34 rfl (lv_at hl 2 rfl) ?_
          exact zr_i hx hb hr hlocks dX7_greatestDivisor_35 (by rw [← h_R]; exact (if_pos c_15).symm)
        · refine lv_iload_n hx hb dX7_greatestDivisor_18 rfl (lv_at hl 2 rfl) ?_
          refine lv_iload_n hx hb dX7_greatestDivisor_19 rfl (lv_at hl 3 rfl) ?_
          refine zi_irem hx hb ⟨by omega, by omega⟩ ⟨by omega, by omega⟩ (by omega) (by omega) dX7_greatestDivisor_20 ?_
          have q_1 : 0 ≤ hi % lo := Int.emod_nonneg _ c_15
          have q_2 : hi % lo < lo := Int.emod_lt_of_pos _ (by omega)
          refine zi_top (fun x5_21 ex5_21 => ?_)
          refine lv_istore (lv' := [(5, .int (zi x5_21)), (0, .int (zi x0)), (1, .int (zi x1)), (2, .int (zi hi)), (3, .int (zi lo)), (4, .int (zi i))]) hx hb dX7_greatestDivisor_21 hl (by decide) rfl (fun ls hl => ?_)
          refine lv_iload_n hx hb dX7_greatestDivisor_23 rfl (lv_at hl 4 rfl) ?_
          refine lv_istore_n (lv' := [(2, .int (zi lo)), (5, .int (zi x5_21)), (0, .int (zi x0)), (1, .int (zi x1)), (3, .int (zi lo)), (4, .int (zi i))]) hx hb dX7_greatestDivisor_24 rfl hl (by decide) rfl (fun ls hl => ?_)
          refine lv_iload hx hb dX7_greatestDivisor_25 (lv_at hl 1 rfl) ?_
          refine lv_istore_n (lv' := [(3, .int (zi x5_21)), (2, .int (zi lo)), (5, .int (zi x5_21)), (0, .int (zi x0)), (1, .int (zi x1)), (4, .int (zi i))]) hx hb dX7_greatestDivisor_27 rfl hl (by decide) rfl (fun ls hl => ?_)
          refine zi_iinc (k := 5) (lv' := [(4, .int (zi (i + 1))), (3, .int (zi x5_21)), (2, .int (zi lo)), (5, .int (zi x5_21)), (0, .int (zi x0)), (1, .int (zi x1))]) hx hb dX7_greatestDivisor_28 hl rfl (by decide) rfl (fun ls hl => ?_)
          refine lv_goto (tgt := 7) hx hb dX7_greatestDivisor_31 (by decide) ?_
          exact ih_7 n lo x5_21 (i + 1) (by first | omega | assumption) (by first | omega | assumption) ⟨by omega, by omega, by omega, by omega⟩ (by rw [← h_R, ex5_21]; exact (if_neg c_15).symm) (by omega) _ (lv_sub hl [4, 5, 2, 1, 0] rfl)
  refine lv_istore (lv' := [(4, .int (zi 0)), (3, .int (zi x1)), (2, .int (zi x0)), (0, .int (zi x0)), (1, .int (zi x1))]) hx hb dX7_greatestDivisor_5 hl (by decide) rfl (fun ls hl => ?_)
  exact K_7 65 64 x0 x1 0 (by first | omega | assumption) (by first | omega | assumption) ⟨by omega, by omega, by omega, by omega⟩ rfl (by omega) _ (lv_sub hl [3, 4, 2, 1, 0] rfl)

theorem in_X7_leastAOf_7 : ∀ w ∈ wsX70, w ∈ wsX7_leastAOf := by decide +kernel
theorem lk_X7_leastAOf_10 : Cond.fieldLink RX7 10 "PlanetoidDesk" "sky" "LPlanetoidDesk$Sky;" ∈ wsX7_leastAOf := by decide +kernel
abbrev rmct_X7_leastAOf : Room := { frames := 2, cells := 0, slots := 0, locals := 44 }
set_option maxHeartbeats 4000000 in
set_option maxRecDepth 100000 in
theorem ct_X7_leastAOf (l : Launch) (D : va_G) (cI cZ cJ : ClassId) (ad : Nat → Nat) (S : ZS) (hI : CI S) (x0 x1 : Int) (hx0 : ir x0) (hx1 : ir x1) (hp10 : 0 ≤ x1) (hp11 : x1 ≤ 404) : Met l yX7_leastAOf wsX7_leastAOf rmct_X7_leastAOf (zP D cI cZ cJ (dW cI ad S) [.ref (ad 0), .int (zi x0), .int (zi x1)]) (k2_QcV (.int (zi (laC S x0 x1)))) 0 0 (fun _ => False) := by
  refine Met.ofW (cc := cX7_leastAOf) (maxL := 4) (ret := (some .int)) (by decide) rfl ?_
  intro p e s m args below meth c s₁ B hml hv
  obtain ⟨rfl, hP, hK⟩ := hv
  have hx := B.exec
  have hb := B.bytes
  have hr := B.returns
  have hts := atoms_spec (ws := wsX7_leastAOf) B.pre
  have hown : s.vm.findClass RX7 = some m.cls := findClass_of_methodNamed B.named
  have hlocks := B.notSynchronized
  have hl := lv_entry ([.ref (ad 0), .int (zi x0), .int (zi x1)]) (n := 4) (Nat.le_of_ble_eq_true rfl)
  rw [lg_entry_eq]
  generalize (lg_sl ([.ref (ad 0), .int (zi x0), .int (zi x1)]) ++ List.replicate (4 - (lg_sl ([.ref (ad 0), .int (zi x0), .int (zi x1)])).length) Slot.unset).toArray = ls at hl ⊢
  have hl : lv_has ls 4 [(0, .ref (ad 0)), (1, .int (zi x0)), (2, .int (zi x1))] := hl
  show W p l e rmct_X7_leastAOf s m ([.ref (ad 0), .int (zi x0), .int (zi x1)] : List Value).toArray below meth c s.heap [] 0 0 (MQ below (k2_QcV (.int (zi (laC S x0 x1)))) ([.ref (ad 0), .int (zi x0), .int (zi x1)] : List Value).toArray s 0 0 (fun _ => False)) (F0 m 0 ls [])
  refine lv_aload_n hx hb dX7_leastAOf_0 rfl (lv_at hl 0 rfl) ?_
  refine va_get (D := D) (ci := 7) (v := .ref (ad 1)) (C := RX7) (T := TX7) (N := 6) hx hb hts in_X7_leastAOf_7 hown hK.1 hP 0 rfl rfl 0 (by decide) (hts _ lk_X7_leastAOf_10) (fun _ h9 => h9) rfl dX7_leastAOf_1 ?_
  refine lv_iload_n hx hb dX7_leastAOf_4 rfl (lv_at hl 1 rfl) ?_
  refine zk_r (zc_V (As := [.int (zi x0)]) (rest := []) ⟨hx, hb, hml, hown, hts⟩ (ct_X6_truePlaceOf l D cI cZ cJ ad S hI x0 ⟨by omega, by omega⟩) (cwV 1 hts gX7_leastAOf_X6_truePlaceOf rfl rfl rfl (by decide +kernel) ⟨Nat.le_of_ble_eq_true rfl, Nat.le_of_ble_eq_true rfl⟩) hK hP (q0 := 1) (ci := 6) rfl rfl rfl rfl hl.1 rfl (Nat.le_of_ble_eq_true rfl) dX7_leastAOf_5 ⟨Nat.zero_le _, Nat.zero_le _⟩) ?_
  refine zi_top (fun (r_5 : Int) (er_5 : r_5 = tOf S x0) => ?_)
  have fr_5 : (0 : Int) ≤ r_5 ∧ r_5 ≤ 3599 := by rw [er_5]; exact tOf_b hI x0
  refine lv_aload_n hx hb dX7_leastAOf_8 rfl (lv_at hl 0 rfl) ?_
  refine va_get (D := D) (ci := 7) (v := .ref (ad 1)) (C := RX7) (T := TX7) (N := 6) hx hb hts in_X7_leastAOf_7 hown hK.1 hP 0 rfl rfl 0 (by decide) (hts _ lk_X7_leastAOf_10) (fun _ h9 => h9) rfl dX7_leastAOf_9 ?_
  refine lv_iload_n hx hb dX7_leastAOf_12 rfl (lv_at hl 1 rfl) ?_
  refine zk_r (zc_V (As := [.int (zi x0)]) (rest := [.int (zi r_5)]) ⟨hx, hb, hml, hown, hts⟩ (ct_X6_errorOf l D cI cZ cJ ad S hI x0 ⟨by omega, by omega⟩) (cwV 1 hts gX7_leastAOf_X6_errorOf rfl rfl rfl (by decide +kernel) ⟨Nat.le_of_ble_eq_true rfl, Nat.le_of_ble_eq_true rfl⟩) hK hP (q0 := 1) (ci := 6) rfl rfl rfl rfl hl.1 rfl (Nat.le_of_ble_eq_true rfl) dX7_leastAOf_13 ⟨Nat.zero_le _, Nat.zero_le _⟩) ?_
  refine zi_top (fun (r_13 : Int) (er_13 : r_13 = eOf S x0) => ?_)
  have fr_13 : (0 : Int) ≤ r_13 ∧ r_13 ≤ 9 := by rw [er_13]; exact eOf_b hI x0
  refine zi_isub hx hb dX7_leastAOf_16 ?_
  refine lv_iload_n hx hb dX7_leastAOf_17 rfl (lv_at hl 2 rfl) ?_
  refine lv_aload_n hx hb dX7_leastAOf_18 rfl (lv_at hl 0 rfl) ?_
  refine va_get (D := D) (ci := 7) (v := .ref (ad 1)) (C := RX7) (T := TX7) (N := 6) hx hb hts in_X7_leastAOf_7 hown hK.1 hP 0 rfl rfl 0 (by decide) (hts _ lk_X7_leastAOf_10) (fun _ h9 => h9) rfl dX7_leastAOf_19 ?_
  refine lv_iload_n hx hb dX7_leastAOf_22 rfl (lv_at hl 1 rfl) ?_
  refine zk_r (zc_V (As := [.int (zi x0)]) (rest := [.int (zi x1), .int (zi (r_5 - r_13))]) ⟨hx, hb, hml, hown, hts⟩ (ct_X6_nightOf l D cI cZ cJ ad S hI x0 ⟨by omega, by omega⟩) (cwV 1 hts gX7_leastAOf_X6_nightOf rfl rfl rfl (by decide +kernel) ⟨Nat.le_of_ble_eq_true rfl, Nat.le_of_ble_eq_true rfl⟩) hK hP (q0 := 1) (ci := 6) rfl rfl rfl rfl hl.1 rfl (Nat.le_of_ble_eq_true rfl) dX7_leastAOf_23 ⟨Nat.zero_le _, Nat.zero_le _⟩) ?_
  refine zi_top (fun (r_23 : Int) (er_23 : r_23 = nOf S x0) => ?_)
  have fr_23 : (0 : Int) ≤ r_23 ∧ r_23 ≤ 999 := by rw [er_23]; exact nOf_b hI x0
  refine zk_r (zc_S (As := [.int (zi x1), .int (zi r_23)]) (rest := [.int (zi (r_5 - r_13))]) ⟨hx, hb, hml, hown, hts⟩ (ct_X7_drift l D cI cZ cJ x1 r_23 ⟨by omega, by omega⟩ ⟨by omega, by omega⟩ (by omega) (by omega) (by omega) (by omega)) (va_cwS 2 hts gX7_leastAOf_X7_drift rfl rfl rfl (by decide +kernel) ⟨Nat.le_of_ble_eq_true rfl, Nat.le_of_ble_eq_true rfl⟩) hK va_P_nil rfl hl.1 rfl (Nat.le_of_ble_eq_true rfl) dX7_leastAOf_26 ⟨Nat.zero_le _, Nat.zero_le _⟩) ?_
  refine zi_top (fun (r_26 : Int) (er_26 : r_26 = dC x1 r_23) => ?_)
  have fr_26 : (-1036962 : Int) ≤ r_26 ∧ r_26 ≤ 1036962 := by rw [er_26]; exact dC_b (by omega) (by omega) (by omega) (by omega)
  refine zi_isub hx hb dX7_leastAOf_29 ?_
  refine zi_top (fun x3_30 ex3_30 => ?_)
  refine lv_istore_n (lv' := [(3, .int (zi x3_30)), (0, .ref (ad 0)), (1, .int (zi x0)), (2, .int (zi x1))]) hx hb dX7_leastAOf_30 rfl hl (by decide) rfl (fun ls hl => ?_)
  refine lv_iload_n hx hb dX7_leastAOf_31 rfl (lv_at hl 0 rfl) ?_
  refine zi_sipush hx hb dX7_leastAOf_32 (by decide) ?_
  refine zk_r (zc_S (As := [.int (zi x3_30), .int (zi 3600)]) (rest := []) ⟨hx, hb, hml, hown, hts⟩ (ct_J9_floorMod_7cf53 l D cI cZ cJ x3_30 3600 ⟨by omega, by omega⟩ ⟨by decide, by decide⟩ (by omega)) (va_cwS 2 hts gX7_leastAOf_J9_floorMod_7cf53 rfl rfl rfl (by decide +kernel) ⟨Nat.le_of_ble_eq_true rfl, Nat.le_of_ble_eq_true rfl⟩) hK va_P_nil rfl hl.1 rfl (Nat.le_of_ble_eq_true rfl) dX7_leastAOf_35 ⟨Nat.zero_le _, Nat.zero_le _⟩) ?_
  refine zi_top (fun (r_35 : Int) (er_35 : r_35 = x3_30 % 3600) => ?_)
  have fr_35 : (0 : Int) ≤ r_35 := by rw [er_35]; exact Int.emod_nonneg _ (by omega)
  have fr_351 : r_35 < 3600 := by rw [er_35]; exact Int.emod_lt_of_pos _ (by omega)
  exact zr_i hx hb hr hlocks dX7_leastAOf_38 (by subst_vars; rfl)

theorem in_X7_lightRange_7 : ∀ w ∈ wsX70, w ∈ wsX7_lightRange := by decide +kernel
theorem lk_X7_lightRange_26 : Cond.fieldLink RX7 26 "PlanetoidDesk" "looks" "LPlanetoidDesk$Looks;" ∈ wsX7_lightRange := by decide +kernel
theorem in_X7_lightRange_2 : ∀ w ∈ wsX20, w ∈ wsX7_lightRange := by decide +kernel
theorem ml_max_X7_lightRange : Cond.methodLink RX7 293 Lib.Math.max.name ∈ wsX7_lightRange := by decide +kernel
theorem st_max_X7_lightRange : Cond.static Lib.Math.max.name ∈ wsX7_lightRange := by decide +kernel
theorem in_math_X7_lightRange : Cond.initialized "java/lang/Math" ∈ wsX7_lightRange := by decide +kernel
theorem co_max_X7_lightRange : Cond.code Lib.Math.max.name Lib.Math.max.code 2 (some .int) ∈ wsX7_lightRange := by decide +kernel
theorem lk_X7_lightRange_10 : Cond.fieldLink RX7 10 "PlanetoidDesk" "sky" "LPlanetoidDesk$Sky;" ∈ wsX7_lightRange := by decide +kernel
theorem ml_min_X7_lightRange : Cond.methodLink RX7 288 Lib.Math.min.name ∈ wsX7_lightRange := by decide +kernel
theorem st_min_X7_lightRange : Cond.static Lib.Math.min.name ∈ wsX7_lightRange := by decide +kernel
theorem co_min_X7_lightRange : Cond.code Lib.Math.min.name Lib.Math.min.code 2 (some .int) ∈ wsX7_lightRange := by decide +kernel
abbrev rmct_X7_lightRange : Room := { frames := 2, cells := 0, slots := 0, locals := 42 }
set_option maxHeartbeats 4000000 in
set_option maxRecDepth 100000 in
theorem ct_X7_lightRange (l : Launch) (D : va_G) (cI cZ cJ : ClassId) (ad : Nat → Nat) (S : ZS) (hI : CI S) (x0 x1 : Int) (hx0 : ir x0) (hx1 : ir x1) (hp00 : 2 ≤ x0) (hp01 : x0 ≤ 20) : Met l yX7_lightRange wsX7_lightRange rmct_X7_lightRange (zP D cI cZ cJ (dW cI ad S) [.ref (ad 0), .int (zi x0), .int (zi x1)]) (k2_QcV (.int (zi (lrC S x0 x1)))) 0 0 (fun _ => False) := by
  refine Met.ofW (cc := cX7_lightRange) (maxL := 7) (ret := (some .int)) (by decide) rfl ?_
  intro p e s m args below meth c s₁ B hml hv
  obtain ⟨rfl, hP, hK⟩ := hv
  have hx := B.exec
  have hb := B.bytes
  have hr := B.returns
  have hts := atoms_spec (ws := wsX7_lightRange) B.pre
  have hown : s.vm.findClass RX7 = some m.cls := findClass_of_methodNamed B.named
  have hlocks := B.notSynchronized
  have hl := lv_entry ([.ref (ad 0), .int (zi x0), .int (zi x1)]) (n := 7) (Nat.le_of_ble_eq_true rfl)
  rw [lg_entry_eq]
  generalize (lg_sl ([.ref (ad 0), .int (zi x0), .int (zi x1)]) ++ List.replicate (7 - (lg_sl ([.ref (ad 0), .int (zi x0), .int (zi x1)])).length) Slot.unset).toArray = ls at hl ⊢
  have hl : lv_has ls 7 [(0, .ref (ad 0)), (1, .int (zi x0)), (2, .int (zi x1))] := hl
  show W p l e rmct_X7_lightRange s m ([.ref (ad 0), .int (zi x0), .int (zi x1)] : List Value).toArray below meth c s.heap [] 0 0 (MQ below (k2_QcV (.int (zi (lrC S x0 x1)))) ([.ref (ad 0), .int (zi x0), .int (zi x1)] : List Value).toArray s 0 0 (fun _ => False)) (F0 m 0 ls [])
  have hf0 : (0 : Int) ≤ S 26 0 ∧ S 26 0 ≤ 60 := hI 26 0
  refine zi_bipush hx hb dX7_lightRange_0 (by decide) ?_
  refine lv_istore_n (lv' := [(3, .int (zi 99)), (0, .ref (ad 0)), (1, .int (zi x0)), (2, .int (zi x1))]) hx hb dX7_lightRange_2 rfl hl (by decide) rfl (fun ls hl => ?_)
  refine zi_iconst hx hb dX7_lightRange_3 ?_
  refine lv_istore (lv' := [(4, .int (zi 0)), (3, .int (zi 99)), (0, .ref (ad 0)), (1, .int (zi x0)), (2, .int (zi x1))]) hx hb dX7_lightRange_4 hl (by decide) rfl (fun ls hl => ?_)
  refine zi_iconst hx hb dX7_lightRange_6 ?_
  have K_9 : ∀ (k : Nat) (n : Nat) (lo hi i : Int), (i + (n : Int) = S 26 0) → (0 ≤ i) → (0 ≤ lo ∧ lo ≤ 99 ∧ 0 ≤ hi ∧ hi ≤ 99) → (itr (lrF S x0 x1) n i (lo, hi) = lrA S x0 x1) → ((n : Int) < (k : Int)) → ∀ (ls : Array Slot), lv_has ls 7 [(0, .ref (ad 0)), (1, .int (zi x0)), (2, .int (zi x1)), (3, .int (zi lo)), (4, .int (zi hi)), (5, .int (zi i))] → W p l e rmct_X7_lightRange s m ([.ref (ad 0), .int (zi x0), .int (zi x1)] : List Value).toArray below meth c s.heap [] 0 0 (MQ below (k2_QcV (.int (zi (lrC S x0 x1)))) ([.ref (ad 0), .int (zi x0), .int (zi x1)] : List Value).toArray s 0 0 (fun _ => False)) (F0 m 9 ls []) := by
    intro k
    induction k with
    | zero => intro n lo hi i h_n h_i h_b h_R hk; exact absurd hk (by omega)
    | succ k ih_9 =>
      intro n lo hi i h_n h_i h_b h_R hk ls hl
      refine lv_iload hx hb dX7_lightRange_9 (lv_at hl 5 rfl) ?_
      refine lv_aload_n hx hb dX7_lightRange_11 rfl (lv_at hl 0 rfl) ?_
      refine va_get (D := D) (ci := 7) (v := .ref (ad 3)) (C := RX7) (T := TX7) (N := 6) hx hb hts in_X7_lightRange_7 hown hK.1 hP 0 rfl rfl 2 (by decide) (hts _ lk_X7_lightRange_26) (fun _ h9 => h9) rfl dX7_lightRange_12 ?_
      refine va_getN (D := D) (ci := 2) (v := .int (zi (S 26 0))) (C := RX2) (T := TX2) (N := 2) hx hb hts in_X7_lightRange_2 hown hK.1 hP 3 rfl rfl 1 (by decide) (va_Nw.use rfl (hK.2 _ (List.mem_of_getElem? (i := 3) rfl))) (fun _ h9 => h9) rfl dX7_lightRange_15 ?_
      have f_15 : (0 : Int) ≤ S 26 0 ∧ S 26 0 ≤ 60 := hI 26 0
      refine zi_icmp_ge (tgt := 87) hx hb ⟨by omega, by omega⟩ ⟨by omega, by omega⟩ dX7_lightRange_18 (by decide) (fun c_18 => ?_) (fun c_18 => ?_)
      · obtain rfl : n = 0 := by omega
        refine zi_iconst hx hb dX7_lightRange_87 ?_
        refine lv_iload hx hb dX7_lightRange_88 (lv_at hl 4 rfl) ?_
        refine lv_iload_n hx hb dX7_lightRange_90 rfl (lv_at hl 3 rfl) ?_
        refine zi_isub hx hb dX7_lightRange_91 ?_
        refine zi_mmax hx hb (hml.trans hl.1.symm) hown (hts _ ml_max_X7_lightRange) (hts _ st_max_X7_lightRange) (hts _ in_math_X7_lightRange) (hts _ co_max_X7_lightRange) (Nat.le_of_ble_eq_true rfl) (Nat.le_of_ble_eq_true rfl) (Nat.zero_le _) (Nat.zero_le _) ⟨by decide, by decide⟩ ⟨by omega, by omega⟩ dX7_lightRange_92 ?_
        exact zr_i hx hb hr hlocks dX7_lightRange_95 (by have h9 : (lo, hi) = lrA S x0 x1 := h_R; unfold lrC; rw [← h9])
      · obtain ⟨n, rfl⟩ : ∃ n9 : Nat, n = n9 + 1 := ⟨n - 1, by omega⟩
        refine lv_aload_n hx hb dX7_lightRange_21 rfl (lv_at hl 0 rfl) ?_
        refine va_get (D := D) (ci := 7) (v := .ref (ad 3)) (C := RX7) (T := TX7) (N := 6) hx hb hts in_X7_lightRange_7 hown hK.1 hP 0 rfl rfl 2 (by decide) (hts _ lk_X7_lightRange_26) (fun _ h9 => h9) rfl dX7_lightRange_22 ?_
        refine lv_iload hx hb dX7_lightRange_25 (lv_at hl 5 rfl) ?_
        refine zk_r (zc_V (As := [.int (zi i)]) (rest := []) ⟨hx, hb, hml, hown, hts⟩ (ct_X2_dotAt l D cI cZ cJ ad S hI i ⟨by omega, by omega⟩) (cwV 1 hts gX7_lightRange_X2_dotAt rfl rfl rfl (by decide +kernel) ⟨Nat.le_of_ble_eq_true rfl, Nat.le_of_ble_eq_true rfl⟩) hK hP (q0 := 3) (ci := 2) rfl rfl rfl rfl hl.1 rfl (Nat.le_of_ble_eq_true rfl) dX7_lightRange_27 ⟨Nat.zero_le _, Nat.zero_le _⟩) ?_
        refine zi_top (fun (r_27 : Int) (er_27 : r_27 = rAt 60 (S 12) i) => ?_)
        have fr_27 : (0 : Int) ≤ r_27 ∧ r_27 ≤ 59 := by rw [er_27]; exact CI.at hI 12 60 i ⟨by decide, by decide⟩
        refine lv_istore (lv' := [(6, .int (zi r_27)), (0, .ref (ad 0)), (1, .int (zi x0)), (2, .int (zi x1)), (3, .int (zi lo)), (4, .int (zi hi)), (5, .int (zi i))]) hx hb dX7_lightRange_30 hl (by decide) rfl (fun ls hl => ?_)
        refine lv_iload_n hx hb dX7_lightRange_32 rfl (lv_at hl 2 rfl) ?_
        refine zi_if_le (tgt := 81) hx hb ⟨by omega, by omega⟩ dX7_lightRange_33 (by decide) (fun c_33 => ?_) (fun c_33 => ?_)
        · exact absurd c_33 (by omega)
        · refine lv_aload_n hx hb dX7_lightRange_36 rfl (lv_at hl 1 rfl) ?_
          refine va_get (D := D) (ci := 7) (v := .ref (ad 1)) (C := RX7) (T := TX7) (N := 6) hx hb hts in_X7_lightRange_7 hown hK.1 hP 0 rfl rfl 0 (by decide) (hts _ lk_X7_lightRange_10) (fun _ h9 => h9) rfl dX7_lightRange_37 ?_
          refine lv_iload hx hb dX7_lightRange_40 (lv_at hl 0 rfl) ?_
          refine zk_r (zc_V (As := [.int (zi r_27)]) (rest := []) ⟨hx, hb, hml, hown, hts⟩ (ct_X6_nightOf l D cI cZ cJ ad S hI r_27 ⟨by omega, by omega⟩) (cwV 1 hts gX7_lightRange_X6_nightOf rfl rfl rfl (by decide +kernel) ⟨Nat.le_of_ble_eq_true rfl, Nat.le_of_ble_eq_true rfl⟩) hK hP (q0 := 1) (ci := 6) rfl rfl rfl rfl hl.1 rfl (Nat.le_of_ble_eq_true rfl) dX7_lightRange_42 ⟨Nat.zero_le _, Nat.zero_le _⟩) ?_
          refine zi_top (fun (r_42 : Int) (er_42 : r_42 = nOf S r_27) => ?_)
          have fr_42 : (0 : Int) ≤ r_42 ∧ r_42 ≤ 999 := by rw [er_42]; exact nOf_b hI r_27
          refine lv_iload_n hx hb dX7_lightRange_45 rfl (lv_at hl 2 rfl) ?_
          refine zi_irem hx hb ⟨by omega, by omega⟩ ⟨by omega, by omega⟩ (by omega) (by omega) dX7_lightRange_46 ?_
          have q_1 : 0 ≤ r_42 % x0 := Int.emod_nonneg _ (by omega)
          have q_2 : r_42 % x0 < x0 := Int.emod_lt_of_pos _ (by omega)
          refine lv_iload_n hx hb dX7_lightRange_47 rfl (lv_at hl 3 rfl) ?_
          refine zi_icmp_ne (tgt := 81) hx hb ⟨by omega, by omega⟩ ⟨by omega, by omega⟩ dX7_lightRange_48 (by decide) (fun c_48 => ?_) (fun c_48 => ?_)
          · refine zi_iinc (k := 6) (lv' := [(5, .int (zi (i + 1))), (6, .int (zi r_27)), (0, .ref (ad 0)), (1, .int (zi x0)), (2, .int (zi x1)), (3, .int (zi lo)), (4, .int (zi hi))]) hx hb dX7_lightRange_81 hl rfl (by decide) rfl (fun ls hl => ?_)
            refine lv_goto (tgt := 9) hx hb dX7_lightRange_84 (by decide) ?_
            exact ih_9 n lo hi (i + 1) (by first | omega | assumption) (by first | omega | assumption) ⟨by omega, by omega, by omega, by omega⟩ (by rw [← h_R, itr_s]; congr 1; exact (if_neg (show ¬ nOf S (rAt 60 (S 12) i) % x0 = x1 by rw [← er_27, ← er_42]; exact c_48)).symm) (by omega) _ (lv_sub hl [2, 3, 4, 5, 6, 0] rfl)
          · refine lv_iload_n hx hb dX7_lightRange_51 rfl (lv_at hl 4 rfl) ?_
            refine lv_aload_n hx hb dX7_lightRange_52 rfl (lv_at hl 1 rfl) ?_
            refine va_get (D := D) (ci := 7) (v := .ref (ad 1)) (C := RX7) (T := TX7) (N := 6) hx hb hts in_X7_lightRange_7 hown hK.1 hP 0 rfl rfl 0 (by decide) (hts _ lk_X7_lightRange_10) (fun _ h9 => h9) rfl dX7_lightRange_53 ?_
            refine lv_iload hx hb dX7_lightRange_56 (lv_at hl 0 rfl) ?_
            refine zk_r (zc_V (As := [.int (zi r_27)]) (rest := [.int (zi lo)]) ⟨hx, hb, hml, hown, hts⟩ (ct_X6_lightOf l D cI cZ cJ ad S hI r_27 ⟨by omega, by omega⟩) (cwV 1 hts gX7_lightRange_X6_lightOf rfl rfl rfl (by decide +kernel) ⟨Nat.le_of_ble_eq_true rfl, Nat.le_of_ble_eq_true rfl⟩) hK hP (q0 := 1) (ci := 6) rfl rfl rfl rfl hl.1 rfl (Nat.le_of_ble_eq_true rfl) dX7_lightRange_58 ⟨Nat.zero_le _, Nat.zero_le _⟩) ?_
            refine zi_top (fun (r_58 : Int) (er_58 : r_58 = lOf S r_27) => ?_)
            have fr_58 : (0 : Int) ≤ r_58 ∧ r_58 ≤ 99 := by rw [er_58]; exact lOf_b hI r_27
            refine zi_mmin hx hb (hml.trans hl.1.symm) hown (hts _ ml_min_X7_lightRange) (hts _ st_min_X7_lightRange) (hts _ in_math_X7_lightRange) (hts _ co_min_X7_lightRange) (Nat.le_of_ble_eq_true rfl) (Nat.le_of_ble_eq_true rfl) (Nat.zero_le _) (Nat.zero_le _) ⟨by omega, by omega⟩ ⟨by omega, by omega⟩ dX7_lightRange_61 ?_
            refine zi_top (fun x3_64 ex3_64 => ?_)
            refine lv_istore_n (lv' := [(3, .int (zi x3_64)), (6, .int (zi r_27)), (0, .ref (ad 0)), (1, .int (zi x0)), (2, .int (zi x1)), (4, .int (zi hi)), (5, .int (zi i))]) hx hb dX7_lightRange_64 rfl hl (by decide) rfl (fun ls hl => ?_)
            refine lv_iload hx hb dX7_lightRange_65 (lv_at hl 5 rfl) ?_
            refine lv_aload_n hx hb dX7_lightRange_67 rfl (lv_at hl 2 rfl) ?_
            refine va_get (D := D) (ci := 7) (v := .ref (ad 1)) (C := RX7) (T := TX7) (N := 6) hx hb hts in_X7_lightRange_7 hown hK.1 hP 0 rfl rfl 0 (by decide) (hts _ lk_X7_lightRange_10) (fun _ h9 => h9) rfl dX7_lightRange_68 ?_
            refine lv_iload hx hb dX7_lightRange_71 (lv_at hl 1 rfl) ?_
            refine zk_r (zc_V (As := [.int (zi r_27)]) (rest := [.int (zi hi)]) ⟨hx, hb, hml, hown, hts⟩ (ct_X6_lightOf l D cI cZ cJ ad S hI r_27 ⟨by omega, by omega⟩) (cwV 1 hts gX7_lightRange_X6_lightOf rfl rfl rfl (by decide +kernel) ⟨Nat.le_of_ble_eq_true rfl, Nat.le_of_ble_eq_true rfl⟩) hK hP (q0 := 1) (ci := 6) rfl rfl rfl rfl hl.1 rfl (Nat.le_of_ble_eq_true rfl) dX7_lightRange_73 ⟨Nat.zero_le _, Nat.zero_le _⟩) ?_
            refine zi_top (fun (r_73 : Int) (er_73 : r_73 = lOf S r_27) => ?_)
            have fr_73 : (0 : Int) ≤ r_73 ∧ r_73 ≤ 99 := by rw [er_73]; exact lOf_b hI r_27
            refine zi_mmax hx hb (hml.trans hl.1.symm) hown (hts _ ml_max_X7_lightRange) (hts _ st_max_X7_lightRange) (hts _ in_math_X7_lightRange) (hts _ co_max_X7_lightRange) (Nat.le_of_ble_eq_true rfl) (Nat.le_of_ble_eq_true rfl) (Nat.zero_le _) (Nat.zero_le _) ⟨by omega, by omega⟩ ⟨by omega, by omega⟩ dX7_lightRange_76 ?_
            refine zi_top (fun x4_79 ex4_79 => ?_)
            refine lv_istore (lv' := [(4, .int (zi x4_79)), (3, .int (zi x3_64)), (6, .int (zi r_27)), (0, .ref (ad 0)), (1, .int (zi x0)), (2, .int (zi x1)), (5, .int (zi i))]) hx hb dX7_lightRange_79 hl (by decide) rfl (fun ls hl => ?_)
            refine zi_iinc (k := 6) (lv' := [(5, .int (zi (i + 1))), (4, .int (zi x4_79)), (3, .int (zi x3_64)), (6, .int (zi r_27)), (0, .ref (ad 0)), (1, .int (zi x0)), (2, .int (zi x1))]) hx hb dX7_lightRange_81 hl rfl (by decide) rfl (fun ls hl => ?_)
            refine lv_goto (tgt := 9) hx hb dX7_lightRange_84 (by decide) ?_
            exact ih_9 n x3_64 x4_79 (i + 1) (by first | omega | assumption) (by first | omega | assumption) ⟨by omega, by omega, by omega, by omega⟩ (by rw [← h_R, itr_s]; congr 1; refine Eq.trans ?_ (if_pos (show nOf S (rAt 60 (S 12) i) % x0 = x1 by rw [← er_27, ← er_42]; exact c_48)).symm; rw [ex3_64, ex4_79, er_58, er_73, er_27] <;> rfl) (by omega) _ (lv_sub hl [4, 5, 6, 2, 1, 0] rfl)
  refine lv_istore (lv' := [(5, .int (zi 0)), (4, .int (zi 0)), (3, .int (zi 99)), (0, .ref (ad 0)), (1, .int (zi x0)), (2, .int (zi x1))]) hx hb dX7_lightRange_7 hl (by decide) rfl (fun ls hl => ?_)
  exact K_9 ((S 26 0).toNat + 1) ((S 26 0).toNat) 99 0 0 (by first | omega | assumption) (by first | omega | assumption) ⟨by omega, by omega, by omega, by omega⟩ (by rw [lrA]) (by omega) _ (lv_sub hl [3, 4, 5, 2, 1, 0] rfl)

abbrev rmct_X7_faultOf : Room := { frames := 3, cells := 0, slots := 0, locals := 68 }
set_option maxHeartbeats 4000000 in
set_option maxRecDepth 100000 in
theorem ct_X7_faultOf (l : Launch) (D : va_G) (cI cZ cJ : ClassId) (ad : Nat → Nat) (S : ZS) (hI : CI S) (x0 : Int) (hx0 : ir x0) (hp00 : 2 ≤ x0) (hp01 : x0 ≤ 20) : Met l yX7_faultOf wsX7_faultOf rmct_X7_faultOf (zP D cI cZ cJ (dW cI ad S) [.ref (ad 0), .int (zi x0)]) (k2_QcV (.int (zi (fltC S x0)))) 0 0 (fun _ => False) := by
  refine Met.ofW (cc := cX7_faultOf) (maxL := 4) (ret := (some .int)) (by decide) rfl ?_
  intro p e s m args below meth c s₁ B hml hv
  obtain ⟨rfl, hP, hK⟩ := hv
  have hx := B.exec
  have hb := B.bytes
  have hr := B.returns
  have hts := atoms_spec (ws := wsX7_faultOf) B.pre
  have hown : s.vm.findClass RX7 = some m.cls := findClass_of_methodNamed B.named
  have hlocks := B.notSynchronized
  have hl := lv_entry ([.ref (ad 0), .int (zi x0)]) (n := 4) (Nat.le_of_ble_eq_true rfl)
  rw [lg_entry_eq]
  generalize (lg_sl ([.ref (ad 0), .int (zi x0)]) ++ List.replicate (4 - (lg_sl ([.ref (ad 0), .int (zi x0)])).length) Slot.unset).toArray = ls at hl ⊢
  have hl : lv_has ls 4 [(0, .ref (ad 0)), (1, .int (zi x0))] := hl
  show W p l e rmct_X7_faultOf s m ([.ref (ad 0), .int (zi x0)] : List Value).toArray below meth c s.heap [] 0 0 (MQ below (k2_QcV (.int (zi (fltC S x0)))) ([.ref (ad 0), .int (zi x0)] : List Value).toArray s 0 0 (fun _ => False)) (F0 m 0 ls [])
  refine zi_iconst hx hb dX7_faultOf_0 ?_
  refine lv_istore_n (lv' := [(2, .int (zi 0)), (0, .ref (ad 0)), (1, .int (zi x0))]) hx hb dX7_faultOf_1 rfl hl (by decide) rfl (fun ls hl => ?_)
  refine zi_iconst hx hb dX7_faultOf_2 ?_
  have K_4 : ∀ (k : Nat) (n : Nat) (acc i : Int), (i + (n : Int) = x0) → (0 ≤ i) → (0 ≤ acc ∧ acc ≤ i * 99) → (itr (fun r acc => acc + lrC S x0 r) n i acc = fltC S x0) → ((n : Int) < (k : Int)) → ∀ (ls : Array Slot), lv_has ls 4 [(0, .ref (ad 0)), (1, .int (zi x0)), (2, .int (zi acc)), (3, .int (zi i))] → W p l e rmct_X7_faultOf s m ([.ref (ad 0), .int (zi x0)] : List Value).toArray below meth c s.heap [] 0 0 (MQ below (k2_QcV (.int (zi (fltC S x0)))) ([.ref (ad 0), .int (zi x0)] : List Value).toArray s 0 0 (fun _ => False)) (F0 m 4 ls []) := by
    intro k
    induction k with
    | zero => intro n acc i h_n h_i h_a h_R hk; exact absurd hk (by omega)
    | succ k ih_4 =>
      intro n acc i h_n h_i h_a h_R hk ls hl
      refine lv_iload_n hx hb dX7_faultOf_4 rfl (lv_at hl 3 rfl) ?_
      refine lv_iload_n hx hb dX7_faultOf_5 rfl (lv_at hl 1 rfl) ?_
      refine zi_icmp_ge (tgt := 24) hx hb ⟨by omega, by omega⟩ ⟨by omega, by omega⟩ dX7_faultOf_6 (by decide) (fun c_6 => ?_) (fun c_6 => ?_)
      · obtain rfl : n = 0 := by omega
        refine lv_iload_n hx hb dX7_faultOf_24 rfl (lv_at hl 2 rfl) ?_
        exact zr_i hx hb hr hlocks dX7_faultOf_25 (by exact h_R)
      · obtain ⟨n, rfl⟩ : ∃ n9 : Nat, n = n9 + 1 := ⟨n - 1, by omega⟩
        refine lv_iload_n hx hb dX7_faultOf_9 rfl (lv_at hl 2 rfl) ?_
        refine lv_aload_n hx hb dX7_faultOf_10 rfl (lv_at hl 0 rfl) ?_
        refine lv_iload_n hx hb dX7_faultOf_11 rfl (lv_at hl 1 rfl) ?_
        refine lv_iload_n hx hb dX7_faultOf_12 rfl (lv_at hl 3 rfl) ?_
        refine zk_r (zc_V (As := [.int (zi x0), .int (zi i)]) (rest := [.int (zi acc)]) ⟨hx, hb, hml, hown, hts⟩ (ct_X7_lightRange l D cI cZ cJ ad S hI x0 i ⟨by omega, by omega⟩ ⟨by omega, by omega⟩ (by omega) (by omega)) (cwV 2 hts gX7_faultOf_X7_lightRange rfl rfl rfl (by decide +kernel) ⟨Nat.le_of_ble_eq_true rfl, Nat.le_of_ble_eq_true rfl⟩) hK hP (q0 := 0) (ci := 7) rfl rfl rfl rfl hl.1 rfl (Nat.le_of_ble_eq_true rfl) dX7_faultOf_13 ⟨Nat.zero_le _, Nat.zero_le _⟩) ?_
        refine zi_top (fun (r_13 : Int) (er_13 : r_13 = lrC S x0 i) => ?_)
        have fr_13 : (0 : Int) ≤ r_13 ∧ r_13 ≤ 99 := by rw [er_13]; exact lrC_b hI _ _
        refine zi_iadd hx hb dX7_faultOf_16 ?_
        refine zi_top (fun x2_17 ex2_17 => ?_)
        refine lv_istore_n (lv' := [(2, .int (zi x2_17)), (0, .ref (ad 0)), (1, .int (zi x0)), (3, .int (zi i))]) hx hb dX7_faultOf_17 rfl hl (by decide) rfl (fun ls hl => ?_)
        refine zi_iinc (k := 3) (lv' := [(3, .int (zi (i + 1))), (2, .int (zi x2_17)), (0, .ref (ad 0)), (1, .int (zi x0))]) hx hb dX7_faultOf_18 hl rfl (by decide) rfl (fun ls hl => ?_)
        refine lv_goto (tgt := 4) hx hb dX7_faultOf_21 (by decide) ?_
        exact ih_4 n x2_17 (i + 1) (by first | omega | assumption) (by first | omega | assumption) ⟨by omega, by omega⟩ (by rw [← h_R, itr_s, ex2_17, er_13]) (by omega) _ (lv_sub hl [2, 3, 1, 0] rfl)
  refine lv_istore_n (lv' := [(3, .int (zi 0)), (2, .int (zi 0)), (0, .ref (ad 0)), (1, .int (zi x0))]) hx hb dX7_faultOf_3 rfl hl (by decide) rfl (fun ls hl => ?_)
  exact K_4 (x0.toNat + 1) x0.toNat 0 0 (by first | omega | assumption) (by first | omega | assumption) ⟨by omega, by omega⟩ (by rw [fltC]) (by omega) _ (lv_sub hl [2, 3, 1, 0] rfl)
