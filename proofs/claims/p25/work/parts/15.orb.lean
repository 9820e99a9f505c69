/-! Orbits: what each method does, as a program over the numbers -/
def behC (S : ZS) (k p : Int) : Int := (p - rAt 405 (S 13) k) % 3600
def shW (w b o : Int) : Int := if w = 3600 then o else if b < w then min (w - b) o else max 0 (min w (o - (3600 - b)))
def stC (n p e k : Int) : Int := (p - e - dC k n) % 3600
theorem shW_b {w b o : Int} (h0 : 0 ≤ w) (h1 : w ≤ 3600) (h2 : 0 ≤ b) (h3 : b ≤ 3599) (h4 : 0 ≤ o) (h5 : o ≤ 3600) : 0 ≤ shW w b o ∧ shW w b o ≤ 3600 := by
  unfold shW; split
  · omega
  · split <;> omega
def knW (n p e k : Int) (T : ZS) : Int := shW (rAt 405 (T 14) k) (behC T k (stC n p e k)) (2 * e + 1)
def knStep (n p e k : Int) (T : ZS) : ZS := if rAt 405 (T 14) k = 3600 ∨ behC T k (stC n p e k) < rAt 405 (T 14) k then su (su T 14 (rPut 405 (T 14) k (knW n p e k T))) 13 (rPut 405 (T 13) k (stC n p e k)) else su T 14 (rPut 405 (T 14) k (knW n p e k T))
def knAll (n p e : Int) (T : ZS) : ZS := itr (knStep n p e) 405 0 T
def takeAll (S : ZS) : ZS := su (su S 13 (rFill 405 (S 13) 0)) 14 (rFill 405 (S 14) 3600)
def cntO (S : ZS) : Int := itr (fun k acc => acc + rAt 405 (S 14) k) 405 0 0
theorem sum_b {g : Int → Int} {B : Int} (hg : ∀ k, 0 ≤ g k ∧ g k ≤ B) : ∀ (n : Nat) (j a : Int), a ≤ itr (fun k acc => acc + g k) n j a ∧ itr (fun k acc => acc + g k) n j a ≤ a + n * B := by
  intro n
  induction n with
  | zero => intro j a; rw [itr_0]; omega
  | succ n ih =>
    intro j a
    rw [itr_s]
    have h := ih (j + 1) (a + g j)
    have h2 := hg j
    have e : ((n + 1 : Nat) : Int) * B = n * B + B := by rw [Int.natCast_add, Int.add_mul]; omega
    omega
theorem cntO_b {S : ZS} (h : CI S) : (0 : Int) ≤ cntO S ∧ cntO S ≤ 1458000 := by
  have := sum_b (g := rAt 405 (S 14)) (B := 3600) (fun k => CI.at h 14 405 k ⟨by decide, by decide⟩) 405 0 0
  unfold cntO; omega
def fstB (p : Int → Prop) [DecidablePred p] : Nat → Int → Prop
  | 0, _ => False
  | n + 1, j => if p j then True else fstB p n (j + 1)
def hnP (S : ZS) (n p e k : Int) : Prop := 0 < shW (rAt 405 (S 14) k) (behC S k (stC n p e k)) (2 * e + 1)
/-- some of n from j on has p -/
def anyI (p : Int → Prop) : Nat → Int → Prop
  | 0, _ => False
  | n + 1, j => p j ∨ anyI p n (j + 1)
def tlStep (f st : Int) (T : ZS) : ZS := su T 15 (rPut 3600 (T 15) ((f + st) % 3600) (rAt 3600 (T 15) ((f + st) % 3600) + 1))
def tlRow (n k : Int) (T : ZS) : ZS := itr (tlStep (rAt 405 (T 13) k + dC k n)) (rAt 405 (T 14) k).toNat 0 T
def tlAll (n : Int) (S : ZS) : ZS := itr (tlRow n) 405 0 (su S 15 (rFill 3600 (S 15) 0))
theorem tl_0 {S S5 : ZS} (e : su S 15 (rFill 3600 (S 15) 0) = S5) : ∀ q : Int, 0 ≤ q → q < 3600 → S5 15 q ≤ 3600 * 0 := by
  intro q h0 h1
  rw [← e, su_s, rFill, if_pos ⟨h0, h1⟩]; decide
theorem tl_r {g : Int → Int} {B p : Int} (h : ∀ q : Int, 0 ≤ q → q < 3600 → g q ≤ B) (h0 : 0 ≤ p) (h1 : p < 3600) : rAt 3600 g p ≤ B := by
  rw [rAt_in h0 h1]; exact h p h0 h1
theorem tl_s {T : ZS} {i st p r : Int} (h : ∀ q : Int, 0 ≤ q → q < 3600 → T 15 q ≤ 3600 * i + st) (hr : r ≤ 3600 * i + st) : ∀ q : Int, 0 ≤ q → q < 3600 → su T 15 (rPut 3600 (T 15) p (r + 1)) 15 q ≤ 3600 * i + (st + 1) := by
  intro q h0 h1
  have h2 := h q h0 h1
  rw [su_s, rPut]
  split
  · by_cases hq : q = p
    · subst hq; rw [up_s]; omega
    · rw [up_n _ _ hq]; omega
  · omega
theorem tl_x {T : ZS} {i st : Int} (h : ∀ q : Int, 0 ≤ q → q < 3600 → T 15 q ≤ 3600 * i + st) (hs : st ≤ 3600) : ∀ q : Int, 0 ≤ q → q < 3600 → T 15 q ≤ 3600 * (i + 1) := by
  intro q h0 h1
  have h2 := h q h0 h1
  omega
/-- the place of the rank-th (from 0) of the j with p, within n from j; d without one -/
def nthC (p : Int → Prop) [DecidablePred p] (d : Int) : Nat → Int → Int → Int
  | 0, _, _ => d
  | n + 1, j, r => if p j then (if r = 0 then j else nthC p d n (j + 1) (r - 1)) else nthC p d n (j + 1) r
theorem nth_b (p : Int → Prop) [DecidablePred p] (d : Int) : ∀ (n : Nat) (j r : Int), nthC p d n j r = d ∨ (j ≤ nthC p d n j r ∧ nthC p d n j r < j + n) := by
  intro n
  induction n with
  | zero => intro j r; exact Or.inl rfl
  | succ n ih =>
    intro j r
    unfold nthC
    split
    · split
      · right; omega
      · rcases ih (j + 1) (r - 1) with h | h
        · exact Or.inl h
        · right; omega
    · rcases ih (j + 1) r with h | h
      · exact Or.inl h
      · right; omega
def withA (S : ZS) (a r : Int) : Int := nthC (fun k => behC S k a < rAt 405 (S 14) k) 0 405 0 r
theorem withA_b (S : ZS) (a r : Int) : (0 : Int) ≤ withA S a r ∧ withA S a r ≤ 404 := by
  unfold withA
  rcases nth_b (fun k => behC S k a < rAt 405 (S 14) k) 0 405 0 r with h | h <;> omega
/-- over the tallies: the orbit with the rank r -/
def oatC (S : ZS) : Nat → Int → Int → Int
  | 0, _, _ => 0
  | n + 1, a, r => if r < rAt 3600 (S 15) a then a * 405 + withA S a r else oatC S n (a + 1) (r - rAt 3600 (S 15) a)
theorem oat_b (S : ZS) : ∀ (n : Nat) (a r : Int), 0 ≤ a → a + n = 3600 → 0 ≤ oatC S n a r ∧ oatC S n a r ≤ 1457999 := by
  intro n
  induction n with
  | zero => intro a r _ _; unfold oatC; omega
  | succ n ih =>
    intro a r h0 h1
    unfold oatC
    have := withA_b S a r
    split
    · omega
    · exact ih (a + 1) _ (by omega) (by omega)
def spreadN (S : ZS) : Int := itr (fun p acc => if 0 < rAt 3600 (S 15) p then acc + 1 else acc) 3600 0 0
def placeN (S : ZS) (r : Int) : Int := nthC (fun p => 0 < rAt 3600 (S 15) p) (-1) 3600 0 r
theorem in_X3_behind_3 : ∀ w ∈ wsX30, w ∈ wsX3_behind := by decide +kernel
theorem lk_X3_behind_14 : Cond.fieldLink RX3 14 "PlanetoidDesk$Orbits" "starts" "LPlanetoidDesk$Row;" ∈ wsX3_behind := by decide +kernel
abbrev rmct_X3_behind : Room := { frames := 1, cells := 0, slots := 0, locals := 22 }
set_option maxHeartbeats 4000000 in
set_option maxRecDepth 100000 in
theorem ct_X3_behind (l : Launch) (D : va_G) (cI cZ cJ : ClassId) (ad : Nat → Nat) (S : ZS) (hI : CI S) (x0 x1 : Int) (hx0 : ir x0) (hx1 : ir x1) (hp10 : 0 ≤ x1) (hp11 : x1 ≤ 3599) : Met l yX3_behind wsX3_behind rmct_X3_behind (zP D cI cZ cJ (dW cI ad S) [.ref (ad 4), .int (zi x0), .int (zi x1)]) (k2_QcV (.int (zi (behC S x0 x1)))) 0 0 (fun _ => False) := by
  refine Met.ofW (cc := cX3_behind) (maxL := 3) (ret := (some .int)) (by decide) rfl ?_
  intro p e s m args below meth c s₁ B hml hv
  obtain ⟨rfl, hP, hK⟩ := hv
  have hx := B.exec
  have hb := B.bytes
  have hr := B.returns
  have hts := atoms_spec (ws := wsX3_behind) B.pre
  have hown : s.vm.findClass RX3 = some m.cls := findClass_of_methodNamed B.named
  have hlocks := B.notSynchronized
  have hl := lv_entry ([.ref (ad 4), .int (zi x0), .int (zi x1)]) (n := 3) (Nat.le_of_ble_eq_true rfl)
  rw [lg_entry_eq]
  generalize (lg_sl ([.ref (ad 4), .int (zi x0), .int (zi x1)]) ++ List.replicate (3 - (lg_sl ([.ref (ad 4), .int (zi x0), .int (zi x1)])).length) Slot.unset).toArray = ls at hl ⊢
  have hl : lv_has ls 3 [(0, .ref (ad 4)), (1, .int (zi x0)), (2, .int (zi x1))] := hl
  show W p l e rmct_X3_behind s m ([.ref (ad 4), .int (zi x0), .int (zi x1)] : List Value).toArray below meth c s.heap [] 0 0 (MQ below (k2_QcV (.int (zi (behC S x0 x1)))) ([.ref (ad 4), .int (zi x0), .int (zi x1)] : List Value).toArray s 0 0 (fun _ => False)) (F0 m 0 ls [])
  refine lv_iload_n hx hb dX3_behind_0 rfl (lv_at hl 2 rfl) ?_
  refine lv_aload_n hx hb dX3_behind_1 rfl (lv_at hl 0 rfl) ?_
  refine va_get (D := D) (ci := 3) (v := .ref (ad 20)) (C := RX3) (T := TX3) (N := 3) hx hb hts in_X3_behind_3 hown hK.1 hP 4 rfl rfl 0 (by decide) (hts _ lk_X3_behind_14) (fun _ h9 => h9) rfl dX3_behind_2 ?_
  refine lv_iload_n hx hb dX3_behind_5 rfl (lv_at hl 1 rfl) ?_
  refine zk_r (zc_V (As := [.int (zi x0)]) (rest := [.int (zi x1)]) ⟨hx, hb, hml, hown, hts⟩ (ct_X5_at l D cI cZ cJ (dW cI ad S) (ad 20) (ad 40) 20 40 405 (S 13) x0 rfl rfl (by decide) ⟨by omega, by omega⟩) (cwV 1 hts gX3_behind_X5_at rfl rfl rfl (by decide +kernel) ⟨Nat.le_of_ble_eq_true rfl, Nat.le_of_ble_eq_true rfl⟩) hK hP (q0 := 20) (ci := 5) rfl rfl rfl rfl hl.1 rfl (Nat.le_of_ble_eq_true rfl) dX3_behind_6 ⟨Nat.zero_le _, Nat.zero_le _⟩) ?_
  refine zi_top (fun (r_6 : Int) (er_6 : r_6 = rAt 405 (S 13) x0) => ?_)
  have fr_6 : (0 : Int) ≤ r_6 ∧ r_6 ≤ 3599 := by rw [er_6]; exact CI.at hI 13 405 x0 ⟨by decide, by decide⟩
  refine zi_isub hx hb dX3_behind_9 ?_
  refine zi_sipush hx hb dX3_behind_10 (by decide) ?_
  refine zk_r (zc_S (As := [.int (zi (x1 - r_6)), .int (zi 3600)]) (rest := []) ⟨hx, hb, hml, hown, hts⟩ (ct_J9_floorMod_7cf53 l D cI cZ cJ (x1 - r_6) 3600 ⟨by omega, by omega⟩ ⟨by decide, by decide⟩ (by omega)) (va_cwS 2 hts gX3_behind_J9_floorMod_7cf53 rfl rfl rfl (by decide +kernel) ⟨Nat.le_of_ble_eq_true rfl, Nat.le_of_ble_eq_true rfl⟩) hK va_P_nil rfl hl.1 rfl (Nat.le_of_ble_eq_true rfl) dX3_behind_13 ⟨Nat.zero_le _, Nat.zero_le _⟩) ?_
  refine zi_top (fun (r_13 : Int) (er_13 : r_13 = (x1 - r_6) % 3600) => ?_)
  have fr_13 : (0 : Int) ≤ r_13 := by rw [er_13]; exact Int.emod_nonneg _ (by omega)
  have fr_131 : r_13 < 3600 := by rw [er_13]; exact Int.emod_lt_of_pos _ (by omega)
  exact zr_i hx hb hr hlocks dX3_behind_16 (by subst_vars; rfl)

theorem ml_min_X3_sharedWidth : Cond.methodLink RX3 53 Lib.Math.min.name ∈ wsX3_sharedWidth := by decide +kernel
theorem st_min_X3_sharedWidth : Cond.static Lib.Math.min.name ∈ wsX3_sharedWidth := by decide +kernel
theorem in_math_X3_sharedWidth : Cond.initialized "java/lang/Math" ∈ wsX3_sharedWidth := by decide +kernel
theorem co_min_X3_sharedWidth : Cond.code Lib.Math.min.name Lib.Math.min.code 2 (some .int) ∈ wsX3_sharedWidth := by decide +kernel
theorem ml_max_X3_sharedWidth : Cond.methodLink RX3 56 Lib.Math.max.name ∈ wsX3_sharedWidth := by decide +kernel
theorem st_max_X3_sharedWidth : Cond.static Lib.Math.max.name ∈ wsX3_sharedWidth := by decide +kernel
theorem co_max_X3_sharedWidth : Cond.code Lib.Math.max.name Lib.Math.max.code 2 (some .int) ∈ wsX3_sharedWidth := by decide +kernel
abbrev rmct_X3_sharedWidth : Room := { frames := 1, cells := 0, slots := 0, locals := 14 }
set_option maxHeartbeats 4000000 in
set_option maxRecDepth 100000 in
theorem ct_X3_sharedWidth (l : Launch) (D : va_G) (cI cZ cJ : ClassId) (x0 x1 x2 : Int) (hx0 : ir x0) (hx1 : ir x1) (hx2 : ir x2) (hp00 : 0 ≤ x0) (hp01 : x0 ≤ 3600) (hp10 : 0 ≤ x1) (hp11 : x1 ≤ 3599) (hp20 : 0 ≤ x2) (hp21 : x2 ≤ 3600) : Met l yX3_sharedWidth wsX3_sharedWidth rmct_X3_sharedWidth (zP D cI cZ cJ [] [.int (zi x0), .int (zi x1), .int (zi x2)]) (k2_QcV (.int (zi (shW x0 x1 x2)))) 0 0 (fun _ => False) := by
  refine Met.ofW (cc := cX3_sharedWidth) (maxL := 4) (ret := (some .int)) (by decide) rfl ?_
  intro p e s m args below meth c s₁ B hml hv
  obtain ⟨rfl, hP, hK⟩ := hv
  have hx := B.exec
  have hb := B.bytes
  have hr := B.returns
  have hts := atoms_spec (ws := wsX3_sharedWidth) B.pre
  have hown : s.vm.findClass RX3 = some m.cls := findClass_of_methodNamed B.named
  have hlocks := B.notSynchronized
  have hl := lv_entry ([.int (zi x0), .int (zi x1), .int (zi x2)]) (n := 4) (Nat.le_of_ble_eq_true rfl)
  rw [lg_entry_eq]
  generalize (lg_sl ([.int (zi x0), .int (zi x1), .int (zi x2)]) ++ List.replicate (4 - (lg_sl ([.int (zi x0), .int (zi x1), .int (zi x2)])).length) Slot.unset).toArray = ls at hl ⊢
  have hl : lv_has ls 4 [(0, .int (zi x0)), (1, .int (zi x1)), (2, .int (zi x2))] := hl
  show W p l e rmct_X3_sharedWidth s m ([.int (zi x0), .int (zi x1), .int (zi x2)] : List Value).toArray below meth c s.heap [] 0 0 (MQ below (k2_QcV (.int (zi (shW x0 x1 x2)))) ([.int (zi x0), .int (zi x1), .int (zi x2)] : List Value).toArray s 0 0 (fun _ => False)) (F0 m 0 ls [])
  refine lv_iload_n hx hb dX3_sharedWidth_0 rfl (lv_at hl 0 rfl) ?_
  refine zi_sipush hx hb dX3_sharedWidth_1 (by decide) ?_
  refine zi_icmp_ne (tgt := 9) hx hb ⟨by omega, by omega⟩ ⟨by decide, by decide⟩ dX3_sharedWidth_4 (by decide) (fun c_4 => ?_) (fun c_4 => ?_)
  · refine lv_iload_n hx hb dX3_sharedWidth_9 rfl (lv_at hl 1 rfl) ?_
    refine lv_iload_n hx hb dX3_sharedWidth_10 rfl (lv_at hl 0 rfl) ?_
    refine zi_icmp_ge (tgt := 22) hx hb ⟨by omega, by omega⟩ ⟨by omega, by omega⟩ dX3_sharedWidth_11 (by decide) (fun c_11 => ?_) (fun c_11 => ?_)
    · refine zi_sipush hx hb dX3_sharedWidth_22 (by decide) ?_
      refine lv_iload_n hx hb dX3_sharedWidth_25 rfl (lv_at hl 1 rfl) ?_
      refine zi_isub hx hb dX3_sharedWidth_26 ?_
      refine zi_top (fun x3_27 ex3_27 => ?_)
      refine lv_istore_n (lv' := [(3, .int (zi x3_27)), (0, .int (zi x0)), (1, .int (zi x1)), (2, .int (zi x2))]) hx hb dX3_sharedWidth_27 rfl hl (by decide) rfl (fun ls hl => ?_)
      refine zi_iconst hx hb dX3_sharedWidth_28 ?_
      refine lv_iload_n hx hb dX3_sharedWidth_29 rfl (lv_at hl 1 rfl) ?_
      refine lv_iload_n hx hb dX3_sharedWidth_30 rfl (lv_at hl 3 rfl) ?_
      refine lv_iload_n hx hb dX3_sharedWidth_31 rfl (lv_at hl 0 rfl) ?_
      refine zi_isub hx hb dX3_sharedWidth_32 ?_
      refine zi_mmin hx hb (hml.trans hl.1.symm) hown (hts _ ml_min_X3_sharedWidth) (hts _ st_min_X3_sharedWidth) (hts _ in_math_X3_sharedWidth) (hts _ co_min_X3_sharedWidth) (Nat.le_of_ble_eq_true rfl) (Nat.le_of_ble_eq_true rfl) (Nat.zero_le _) (Nat.zero_le _) ⟨by omega, by omega⟩ ⟨by omega, by omega⟩ dX3_sharedWidth_33 ?_
      refine zi_mmax hx hb (hml.trans hl.1.symm) hown (hts _ ml_max_X3_sharedWidth) (hts _ st_max_X3_sharedWidth) (hts _ in_math_X3_sharedWidth) (hts _ co_max_X3_sharedWidth) (Nat.le_of_ble_eq_true rfl) (Nat.le_of_ble_eq_true rfl) (Nat.zero_le _) (Nat.zero_le _) ⟨by decide, by decide⟩ ⟨by omega, by omega⟩ dX3_sharedWidth_36 ?_
      exact zr_i hx hb hr hlocks dX3_sharedWidth_39 (by subst_vars; unfold shW; first | rw [if_pos (by omega)] | rw [if_neg (by omega), if_pos (by omega)] | rw [if_neg (by omega), if_neg (by omega)])
    · refine lv_iload_n hx hb dX3_sharedWidth_14 rfl (lv_at hl 0 rfl) ?_
      refine lv_iload_n hx hb dX3_sharedWidth_15 rfl (lv_at hl 1 rfl) ?_
      refine zi_isub hx hb dX3_sharedWidth_16 ?_
      refine lv_iload_n hx hb dX3_sharedWidth_17 rfl (lv_at hl 2 rfl) ?_
      refine zi_mmin hx hb (hml.trans hl.1.symm) hown (hts _ ml_min_X3_sharedWidth) (hts _ st_min_X3_sharedWidth) (hts _ in_math_X3_sharedWidth) (hts _ co_min_X3_sharedWidth) (Nat.le_of_ble_eq_true rfl) (Nat.le_of_ble_eq_true rfl) (Nat.zero_le _) (Nat.zero_le _) ⟨by omega, by omega⟩ ⟨by omega, by omega⟩ dX3_sharedWidth_18 ?_
      exact zr_i hx hb hr hlocks dX3_sharedWidth_21 (by subst_vars; unfold shW; first | rw [if_pos (by omega)] | rw [if_neg (by omega), if_pos (by omega)] | rw [if_neg (by omega), if_neg (by omega)])
  · refine lv_iload_n hx hb dX3_sharedWidth_7 rfl (lv_at hl 2 rfl) ?_
    exact zr_i hx hb hr hlocks dX3_sharedWidth_8 (by subst_vars; unfold shW; first | rw [if_pos (by omega)] | rw [if_neg (by omega), if_pos (by omega)] | rw [if_neg (by omega), if_neg (by omega)])

theorem in_X3_takeAll_3 : ∀ w ∈ wsX30, w ∈ wsX3_takeAll := by decide +kernel
theorem lk_X3_takeAll_14 : Cond.fieldLink RX3 14 "PlanetoidDesk$Orbits" "starts" "LPlanetoidDesk$Row;" ∈ wsX3_takeAll := by decide +kernel
theorem lk_X3_takeAll_20 : Cond.fieldLink RX3 20 "PlanetoidDesk$Orbits" "widths" "LPlanetoidDesk$Row;" ∈ wsX3_takeAll := by decide +kernel
abbrev rmct_X3_takeAll : Room := { frames := 1, cells := 0, slots := 0, locals := 22 }
set_option maxHeartbeats 4000000 in
set_option maxRecDepth 100000 in
theorem ct_X3_takeAll (l : Launch) (D : va_G) (cI cZ cJ : ClassId) (ad : Nat → Nat) (S : ZS) (hI : CI S) (hdis : dDis ad)   : Met l yX3_takeAll wsX3_takeAll rmct_X3_takeAll (zP D cI cZ cJ (dW cI ad S) [.ref (ad 4)]) (zWv D (dW cI ad) (dA ad) (fun T => T = takeAll S ∧ CI T)) 0 0 (dA ad) := by
  refine Met.ofW (cc := cX3_takeAll) (maxL := 1) (ret := none) (by decide) rfl ?_
  intro p e s m args below meth c s₁ B hml hv
  obtain ⟨rfl, hP, hK⟩ := hv
  have hx := B.exec
  have hb := B.bytes
  have hr := B.returns
  have hts := atoms_spec (ws := wsX3_takeAll) B.pre
  have hown : s.vm.findClass RX3 = some m.cls := findClass_of_methodNamed B.named
  have hlocks := B.notSynchronized
  have hl := lv_entry ([.ref (ad 4)]) (n := 1) (Nat.le_of_ble_eq_true rfl)
  rw [lg_entry_eq]
  generalize (lg_sl ([.ref (ad 4)]) ++ List.replicate (1 - (lg_sl ([.ref (ad 4)])).length) Slot.unset).toArray = ls at hl ⊢
  have hl : lv_has ls 1 [(0, .ref (ad 4))] := hl
  have hS : va_S (dA ad) s.heap s.heap [] := va_S.rf
  show W p l e rmct_X3_takeAll s m ([.ref (ad 4)] : List Value).toArray below meth c s.heap [] 0 0 (MQ below (zWv D (dW cI ad) (dA ad) (fun T => T = takeAll S ∧ CI T)) ([.ref (ad 4)] : List Value).toArray s 0 0 (dA ad)) (F0 m 0 ls [])
  refine lv_aload_n hx hb dX3_takeAll_0 rfl (lv_at hl 0 rfl) ?_
  refine va_get (D := D) (ci := 3) (v := .ref (ad 20)) (C := RX3) (T := TX3) (N := 3) hx hb hts in_X3_takeAll_3 hown hK.1 hP 4 rfl rfl 0 (by decide) (hts _ lk_X3_takeAll_14) (fun _ h9 => h9) rfl dX3_takeAll_1 ?_
  refine zi_iconst hx hb dX3_takeAll_4 ?_
  refine va_callv (zc_V (As := [.int (zi 0)]) (rest := []) ⟨hx, hb, hml, hown, hts⟩ (ct_X5_fill l D cI cZ cJ (dW cI ad S) (dA ad) (ad 20) (ad 40) 20 40 405 (S 13) 0 rfl (Nat.le_of_ble_eq_true rfl) (by decide) (fun g9 => dW_D hdis (su S 13 g9)) (by decide)) (cwV 1 hts gX3_takeAll_X5_fill rfl rfl rfl (by decide +kernel) ⟨Nat.le_of_ble_eq_true rfl, Nat.le_of_ble_eq_true rfl⟩) hK hP (q0 := 20) (ci := 5) rfl rfl rfl rfl hl.1 rfl (Nat.le_of_ble_eq_true rfl) dX3_takeAll_5 ⟨Nat.zero_le _, Nat.zero_le _⟩) hS (fun _ _ h => h) (fun _ h => h) (fun u t H locs ht _ hu hQ _ _ hS => ?_)
  have hP : va_P D vwCl (dW cI ad (su S 13 (rFill 405 (S 13) 0))) H := by rw [hu] at hQ; rw [← ht]; exact hQ
  have hI_5 : CI (su S 13 (rFill 405 (S 13) 0)) := CI.rfill hI 13 405 0 (show (0 : Int) ≤ 0 ∧ 0 ≤ 3599 from ⟨by omega, by omega⟩)
  generalize eS_5 : (su S 13 (rFill 405 (S 13) 0)) = S_5 at hP hI_5
  refine lv_aload_n hx hb dX3_takeAll_8 rfl (lv_at hl 0 rfl) ?_
  refine va_get (D := D) (ci := 3) (v := .ref (ad 21)) (C := RX3) (T := TX3) (N := 3) hx hb hts in_X3_takeAll_3 hown hK.1 hP 4 rfl rfl 1 (by decide) (hts _ lk_X3_takeAll_20) (fun _ h9 => h9) rfl dX3_takeAll_9 ?_
  refine zi_sipush hx hb dX3_takeAll_12 (by decide) ?_
  refine va_callv (zc_V (As := [.int (zi 3600)]) (rest := []) ⟨hx, hb, hml, hown, hts⟩ (ct_X5_fill l D cI cZ cJ (dW cI ad S_5) (dA ad) (ad 21) (ad 41) 21 41 405 (S_5 14) 3600 rfl (Nat.le_of_ble_eq_true rfl) (by decide) (fun g9 => dW_D hdis (su S_5 14 g9)) (by decide)) (cwV 1 hts gX3_takeAll_X5_fill rfl rfl rfl (by decide +kernel) ⟨Nat.le_of_ble_eq_true rfl, Nat.le_of_ble_eq_true rfl⟩) hK hP (q0 := 21) (ci := 5) rfl rfl rfl rfl hl.1 rfl (Nat.le_of_ble_eq_true rfl) dX3_takeAll_15 ⟨Nat.zero_le _, Nat.zero_le _⟩) hS (fun _ _ h => h) (fun _ h => h) (fun u t H locs ht _ hu hQ _ _ hS => ?_)
  have hP : va_P D vwCl (dW cI ad (su S_5 14 (rFill 405 (S_5 14) 3600))) H := by rw [hu] at hQ; rw [← ht]; exact hQ
  have hI_15 : CI (su S_5 14 (rFill 405 (S_5 14) 3600)) := CI.rfill hI_5 14 405 3600 (show (0 : Int) ≤ 3600 ∧ 3600 ≤ 3600 from ⟨by omega, by omega⟩)
  generalize eS_15 : (su S_5 14 (rFill 405 (S_5 14) 3600)) = S_15 at hP hI_15
  exact zr_wv (T := S_15) hx hb hr hlocks dX3_takeAll_18 hP hS (by exact ⟨by subst_vars; rfl, hI_15⟩)

theorem in_X3_startOf_3 : ∀ w ∈ wsX30, w ∈ wsX3_startOf := by decide +kernel
theorem lk_X3_startOf_14 : Cond.fieldLink RX3 14 "PlanetoidDesk$Orbits" "starts" "LPlanetoidDesk$Row;" ∈ wsX3_startOf := by decide +kernel
abbrev rmct_X3_startOf : Room := { frames := 1, cells := 0, slots := 0, locals := 21 }
set_option maxHeartbeats 4000000 in
set_option maxRecDepth 100000 in
theorem ct_X3_startOf (l : Launch) (D : va_G) (cI cZ cJ : ClassId) (ad : Nat → Nat) (S : ZS) (hI : CI S) (x0 : Int) (hx0 : ir x0)  : Met l yX3_startOf wsX3_startOf rmct_X3_startOf (zP D cI cZ cJ (dW cI ad S) [.ref (ad 4), .int (zi x0)]) (k2_QcV (.int (zi (rAt 405 (S 13) x0)))) 0 0 (fun _ => False) := by
  refine Met.ofW (cc := cX3_startOf) (maxL := 2) (ret := (some .int)) (by decide) rfl ?_
  intro p e s m args below meth c s₁ B hml hv
  obtain ⟨rfl, hP, hK⟩ := hv
  have hx := B.exec
  have hb := B.bytes
  have hr := B.returns
  have hts := atoms_spec (ws := wsX3_startOf) B.pre
  have hown : s.vm.findClass RX3 = some m.cls := findClass_of_methodNamed B.named
  have hlocks := B.notSynchronized
  have hl := lv_entry ([.ref (ad 4), .int (zi x0)]) (n := 2) (Nat.le_of_ble_eq_true rfl)
  rw [lg_entry_eq]
  generalize (lg_sl ([.ref (ad 4), .int (zi x0)]) ++ List.replicate (2 - (lg_sl ([.ref (ad 4), .int (zi x0)])).length) Slot.unset).toArray = ls at hl ⊢
  have hl : lv_has ls 2 [(0, .ref (ad 4)), (1, .int (zi x0))] := hl
  show W p l e rmct_X3_startOf s m ([.ref (ad 4), .int (zi x0)] : List Value).toArray below meth c s.heap [] 0 0 (MQ below (k2_QcV (.int (zi (rAt 405 (S 13) x0)))) ([.ref (ad 4), .int (zi x0)] : List Value).toArray s 0 0 (fun _ => False)) (F0 m 0 ls [])
  refine lv_aload_n hx hb dX3_startOf_0 rfl (lv_at hl 0 rfl) ?_
  refine va_get (D := D) (ci := 3) (v := .ref (ad 20)) (C := RX3) (T := TX3) (N := 3) hx hb hts in_X3_startOf_3 hown hK.1 hP 4 rfl rfl 0 (by decide) (hts _ lk_X3_startOf_14) (fun _ h9 => h9) rfl dX3_startOf_1 ?_
  refine lv_iload_n hx hb dX3_startOf_4 rfl (lv_at hl 1 rfl) ?_
  refine zk_r (zc_V (As := [.int (zi x0)]) (rest := []) ⟨hx, hb, hml, hown, hts⟩ (ct_X5_at l D cI cZ cJ (dW cI ad S) (ad 20) (ad 40) 20 40 405 (S 13) x0 rfl rfl (by decide) ⟨by omega, by omega⟩) (cwV 1 hts gX3_startOf_X5_at rfl rfl rfl (by decide +kernel) ⟨Nat.le_of_ble_eq_true rfl, Nat.le_of_ble_eq_true rfl⟩) hK hP (q0 := 20) (ci := 5) rfl rfl rfl rfl hl.1 rfl (Nat.le_of_ble_eq_true rfl) dX3_startOf_5 ⟨Nat.zero_le _, Nat.zero_le _⟩) ?_
  refine zi_top (fun (r_5 : Int) (er_5 : r_5 = rAt 405 (S 13) x0) => ?_)
  have fr_5 : (0 : Int) ≤ r_5 ∧ r_5 ≤ 3599 := by rw [er_5]; exact CI.at hI 13 405 x0 ⟨by decide, by decide⟩
  exact zr_i hx hb hr hlocks dX3_startOf_8 (by subst_vars; rfl)

theorem in_X3_widthOf_3 : ∀ w ∈ wsX30, w ∈ wsX3_widthOf := by decide +kernel
theorem lk_X3_widthOf_20 : Cond.fieldLink RX3 20 "PlanetoidDesk$Orbits" "widths" "LPlanetoidDesk$Row;" ∈ wsX3_widthOf := by decide +kernel
abbrev rmct_X3_widthOf : Room := { frames := 1, cells := 0, slots := 0, locals := 21 }
set_option maxHeartbeats 4000000 in
set_option maxRecDepth 100000 in
theorem ct_X3_widthOf (l : Launch) (D : va_G) (cI cZ cJ : ClassId) (ad : Nat → Nat) (S : ZS) (hI : CI S) (x0 : Int) (hx0 : ir x0)  : Met l yX3_widthOf wsX3_widthOf rmct_X3_widthOf (zP D cI cZ cJ (dW cI ad S) [.ref (ad 4), .int (zi x0)]) (k2_QcV (.int (zi (rAt 405 (S 14) x0)))) 0 0 (fun _ => False) := by
  refine Met.ofW (cc := cX3_widthOf) (maxL := 2) (ret := (some .int)) (by decide) rfl ?_
  intro p e s m args below meth c s₁ B hml hv
  obtain ⟨rfl, hP, hK⟩ := hv
  have hx := B.exec
  have hb := B.bytes
  have hr := B.returns
  have hts := atoms_spec (ws := wsX3_widthOf) B.pre
  have hown : s.vm.findClass RX3 = some m.cls := findClass_of_methodNamed B.named
  have hlocks := B.notSynchronized
  have hl := lv_entry ([.ref (ad 4), .int (zi x0)]) (n := 2) (Nat.le_of_ble_eq_true rfl)
  rw [lg_entry_eq]
  generalize (lg_sl ([.ref (ad 4), .int (zi x0)]) ++ List.replicate (2 - (lg_sl ([.ref (ad 4), .int (zi x0)])).length) Slot.unset).toArray = ls at hl ⊢
  have hl : lv_has ls 2 [(0, .ref (ad 4)), (1, .int (zi x0))] := hl
  show W p l e rmct_X3_widthOf s m ([.ref (ad 4), .int (zi x0)] : List Value).toArray below meth c s.heap [] 0 0 (MQ below (k2_QcV (.int (zi (rAt 405 (S 14) x0)))) ([.ref (ad 4), .int (zi x0)] : List Value).toArray s 0 0 (fun _ => False)) (F0 m 0 ls [])
  refine lv_aload_n hx hb dX3_widthOf_0 rfl (lv_at hl 0 rfl) ?_
  refine va_get (D := D) (ci := 3) (v := .ref (ad 21)) (C := RX3) (T := TX3) (N := 3) hx hb hts in_X3_widthOf_3 hown hK.1 hP 4 rfl rfl 1 (by decide) (hts _ lk_X3_widthOf_20) (fun _ h9 => h9) rfl dX3_widthOf_1 ?_
  refine lv_iload_n hx hb dX3_widthOf_4 rfl (lv_at hl 1 rfl) ?_
  refine zk_r (zc_V (As := [.int (zi x0)]) (rest := []) ⟨hx, hb, hml, hown, hts⟩ (ct_X5_at l D cI cZ cJ (dW cI ad S) (ad 21) (ad 41) 21 41 405 (S 14) x0 rfl rfl (by decide) ⟨by omega, by omega⟩) (cwV 1 hts gX3_widthOf_X5_at rfl rfl rfl (by decide +kernel) ⟨Nat.le_of_ble_eq_true rfl, Nat.le_of_ble_eq_true rfl⟩) hK hP (q0 := 21) (ci := 5) rfl rfl rfl rfl hl.1 rfl (Nat.le_of_ble_eq_true rfl) dX3_widthOf_5 ⟨Nat.zero_le _, Nat.zero_le _⟩) ?_
  refine zi_top (fun (r_5 : Int) (er_5 : r_5 = rAt 405 (S 14) x0) => ?_)
  have fr_5 : (0 : Int) ≤ r_5 ∧ r_5 ≤ 3600 := by rw [er_5]; exact CI.at hI 14 405 x0 ⟨by decide, by decide⟩
  exact zr_i hx hb hr hlocks dX3_widthOf_8 (by subst_vars; rfl)

theorem in_X3_countOrbits_3 : ∀ w ∈ wsX30, w ∈ wsX3_countOrbits := by decide +kernel
theorem lk_X3_countOrbits_20 : Cond.fieldLink RX3 20 "PlanetoidDesk$Orbits" "widths" "LPlanetoidDesk$Row;" ∈ wsX3_countOrbits := by decide +kernel
abbrev rmct_X3_countOrbits : Room := { frames := 1, cells := 0, slots := 0, locals := 21 }
set_option maxHeartbeats 4000000 in
set_option maxRecDepth 100000 in
theorem ct_X3_countOrbits (l : Launch) (D : va_G) (cI cZ cJ : ClassId) (ad : Nat → Nat) (S : ZS) (hI : CI S)   : Met l yX3_countOrbits wsX3_countOrbits rmct_X3_countOrbits (zP D cI cZ cJ (dW cI ad S) [.ref (ad 4)]) (k2_QcV (.int (zi (cntO S)))) 0 0 (fun _ => False) := by
  refine Met.ofW (cc := cX3_countOrbits) (maxL := 3) (ret := (some .int)) (by decide) rfl ?_
  intro p e s m args below meth c s₁ B hml hv
  obtain ⟨rfl, hP, hK⟩ := hv
  have hx := B.exec
  have hb := B.bytes
  have hr := B.returns
  have hts := atoms_spec (ws := wsX3_countOrbits) B.pre
  have hown : s.vm.findClass RX3 = some m.cls := findClass_of_methodNamed B.named
  have hlocks := B.notSynchronized
  have hl := lv_entry ([.ref (ad 4)]) (n := 3) (Nat.le_of_ble_eq_true rfl)
  rw [lg_entry_eq]
  generalize (lg_sl ([.ref (ad 4)]) ++ List.replicate (3 - (lg_sl ([.ref (ad 4)])).length) Slot.unset).toArray = ls at hl ⊢
  have hl : lv_has ls 3 [(0, .ref (ad 4))] := hl
  show W p l e rmct_X3_countOrbits s m ([.ref (ad 4)] : List Value).toArray below meth c s.heap [] 0 0 (MQ below (k2_QcV (.int (zi (cntO S)))) ([.ref (ad 4)] : List Value).toArray s 0 0 (fun _ => False)) (F0 m 0 ls [])
  refine zi_iconst hx hb dX3_countOrbits_0 ?_
  refine lv_istore_n (lv' := [(1, .int (zi 0)), (0, .ref (ad 4))]) hx hb dX3_countOrbits_1 rfl hl (by decide) rfl (fun ls hl => ?_)
  refine zi_iconst hx hb dX3_countOrbits_2 ?_
  have K_4 : ∀ (k : Nat) (n : Nat) (acc i : Int), (i + (n : Int) = 405) → (0 ≤ i) → (itr (fun k acc => acc + rAt 405 (S 14) k) n i acc = cntO S) → (0 ≤ acc ∧ acc ≤ i * 3600) → ((n : Int) < (k : Int)) → ∀ (ls : Array Slot), lv_has ls 3 [(0, .ref (ad 4)), (1, .int (zi acc)), (2, .int (zi i))] → W p l e rmct_X3_countOrbits s m ([.ref (ad 4)] : List Value).toArray below meth c s.heap [] 0 0 (MQ below (k2_QcV (.int (zi (cntO S)))) ([.ref (ad 4)] : List Value).toArray s 0 0 (fun _ => False)) (F0 m 4 ls []) := by
    intro k
    induction k with
    | zero => intro n acc i h_n h_i h_R h_a hk; exact absurd hk (by omega)
    | succ k ih_4 =>
      intro n acc i h_n h_i h_R h_a hk ls hl
      refine lv_iload_n hx hb dX3_countOrbits_4 rfl (lv_at hl 2 rfl) ?_
      refine zi_sipush hx hb dX3_countOrbits_5 (by decide) ?_
      refine zi_icmp_ge (tgt := 28) hx hb ⟨by omega, by omega⟩ ⟨by decide, by decide⟩ dX3_countOrbits_8 (by decide) (fun c_8 => ?_) (fun c_8 => ?_)
      · obtain rfl : n = 0 := by omega
        refine lv_iload_n hx hb dX3_countOrbits_28 rfl (lv_at hl 1 rfl) ?_
        exact zr_i hx hb hr hlocks dX3_countOrbits_29 (by exact h_R)
      · obtain ⟨n, rfl⟩ : ∃ n9 : Nat, n = n9 + 1 := ⟨n - 1, by omega⟩
        refine lv_iload_n hx hb dX3_countOrbits_11 rfl (lv_at hl 1 rfl) ?_
        refine lv_aload_n hx hb dX3_countOrbits_12 rfl (lv_at hl 0 rfl) ?_
        refine va_get (D := D) (ci := 3) (v := .ref (ad 21)) (C := RX3) (T := TX3) (N := 3) hx hb hts in_X3_countOrbits_3 hown hK.1 hP 4 rfl rfl 1 (by decide) (hts _ lk_X3_countOrbits_20) (fun _ h9 => h9) rfl dX3_countOrbits_13 ?_
        refine lv_iload_n hx hb dX3_countOrbits_16 rfl (lv_at hl 2 rfl) ?_
        refine zk_r (zc_V (As := [.int (zi i)]) (rest := [.int (zi acc)]) ⟨hx, hb, hml, hown, hts⟩ (ct_X5_at l D cI cZ cJ (dW cI ad S) (ad 21) (ad 41) 21 41 405 (S 14) i rfl rfl (by decide) ⟨by omega, by omega⟩) (cwV 1 hts gX3_countOrbits_X5_at rfl rfl rfl (by decide +kernel) ⟨Nat.le_of_ble_eq_true rfl, Nat.le_of_ble_eq_true rfl⟩) hK hP (q0 := 21) (ci := 5) rfl rfl rfl rfl hl.1 rfl (Nat.le_of_ble_eq_true rfl) dX3_countOrbits_17 ⟨Nat.zero_le _, Nat.zero_le _⟩) ?_
        refine zi_top (fun (r_17 : Int) (er_17 : r_17 = rAt 405 (S 14) i) => ?_)
        have fr_17 : (0 : Int) ≤ r_17 ∧ r_17 ≤ 3600 := by rw [er_17]; exact CI.at hI 14 405 i ⟨by decide, by decide⟩
        refine zi_iadd hx hb dX3_countOrbits_20 ?_
        refine zi_top (fun x1_21 ex1_21 => ?_)
        refine lv_istore_n (lv' := [(1, .int (zi x1_21)), (0, .ref (ad 4)), (2, .int (zi i))]) hx hb dX3_countOrbits_21 rfl hl (by decide) rfl (fun ls hl => ?_)
        refine zi_iinc (k := 2) (lv' := [(2, .int (zi (i + 1))), (1, .int (zi x1_21)), (0, .ref (ad 4))]) hx hb dX3_countOrbits_22 hl rfl (by decide) rfl (fun ls hl => ?_)
        refine lv_goto (tgt := 4) hx hb dX3_countOrbits_25 (by decide) ?_
        exact ih_4 n x1_21 (i + 1) (by first | omega | assumption) (by first | omega | assumption) (by rw [← h_R, itr_s, ex1_21, er_17]) ⟨by omega, by omega⟩ (by omega) _ (lv_sub hl [2, 1, 0] rfl)
  refine lv_istore_n (lv' := [(2, .int (zi 0)), (1, .int (zi 0)), (0, .ref (ad 4))]) hx hb dX3_countOrbits_3 rfl hl (by decide) rfl (fun ls hl => ?_)
  exact K_4 (405 + 1) 405 0 0 (by first | omega | assumption) (by first | omega | assumption) rfl ⟨by omega, by omega⟩ (by omega) _ (lv_sub hl [2, 1, 0] rfl)

theorem ini_X7_drift_X3_keepNear : Cond.initialized RX7 ∈ wsX3_keepNear := by decide +kernel
theorem sta_X7_drift_X3_keepNear : Cond.static yX7_drift ∈ wsX3_keepNear := by decide +kernel
theorem in_X3_keepNear_3 : ∀ w ∈ wsX30, w ∈ wsX3_keepNear := by decide +kernel
theorem lk_X3_keepNear_20 : Cond.fieldLink RX3 20 "PlanetoidDesk$Orbits" "widths" "LPlanetoidDesk$Row;" ∈ wsX3_keepNear := by decide +kernel
theorem lk_X3_keepNear_14 : Cond.fieldLink RX3 14 "PlanetoidDesk$Orbits" "starts" "LPlanetoidDesk$Row;" ∈ wsX3_keepNear := by decide +kernel
abbrev rmct_X3_keepNear : Room := { frames := 2, cells := 0, slots := 0, locals := 44 }
set_option maxHeartbeats 4000000 in
set_option maxRecDepth 100000 in
theorem ct_X3_keepNear (l : Launch) (D : va_G) (cI cZ cJ : ClassId) (ad : Nat → Nat) (S : ZS) (hI : CI S) (hdis : dDis ad) (x0 x1 x2 : Int) (hx0 : ir x0) (hx1 : ir x1) (hx2 : ir x2) (hp00 : 0 ≤ x0) (hp01 : x0 ≤ 999) (hp10 : 0 ≤ x1) (hp11 : x1 ≤ 3599) (hp20 : 0 ≤ x2) (hp21 : x2 ≤ 9) : Met l yX3_keepNear wsX3_keepNear rmct_X3_keepNear (zP D cI cZ cJ (dW cI ad S) [.ref (ad 4), .int (zi x0), .int (zi x1), .int (zi x2)]) (zWv D (dW cI ad) (dA ad) (fun T => T = knAll x0 x1 x2 S ∧ CI T)) 0 0 (dA ad) := by
  refine Met.ofW (cc := cX3_keepNear) (maxL := 9) (ret := none) (by decide) rfl ?_
  intro p e s m args below meth c s₁ B hml hv
  obtain ⟨rfl, hP, hK⟩ := hv
  have hx := B.exec
  have hb := B.bytes
  have hr := B.returns
  have hts := atoms_spec (ws := wsX3_keepNear) B.pre
  have hown : s.vm.findClass RX3 = some m.cls := findClass_of_methodNamed B.named
  have hlocks := B.notSynchronized
  have hl := lv_entry ([.ref (ad 4), .int (zi x0), .int (zi x1), .int (zi x2)]) (n := 9) (Nat.le_of_ble_eq_true rfl)
  rw [lg_entry_eq]
  generalize (lg_sl ([.ref (ad 4), .int (zi x0), .int (zi x1), .int (zi x2)]) ++ List.replicate (9 - (lg_sl ([.ref (ad 4), .int (zi x0), .int (zi x1), .int (zi x2)])).length) Slot.unset).toArray = ls at hl ⊢
  have hl : lv_has ls 9 [(0, .ref (ad 4)), (1, .int (zi x0)), (2, .int (zi x1)), (3, .int (zi x2))] := hl
  have hS : va_S (dA ad) s.heap s.heap [] := va_S.rf
  show W p l e rmct_X3_keepNear s m ([.ref (ad 4), .int (zi x0), .int (zi x1), .int (zi x2)] : List Value).toArray below meth c s.heap [] 0 0 (MQ below (zWv D (dW cI ad) (dA ad) (fun T => T = knAll x0 x1 x2 S ∧ CI T)) ([.ref (ad 4), .int (zi x0), .int (zi x1), .int (zi x2)] : List Value).toArray s 0 0 (dA ad)) (F0 m 0 ls [])
  refine zi_iconst hx hb dX3_keepNear_0 ?_
  refine lv_iload_n hx hb dX3_keepNear_1 rfl (lv_at hl 3 rfl) ?_
  refine zi_imul hx hb dX3_keepNear_2 ?_
  refine zi_iconst hx hb dX3_keepNear_3 ?_
  refine zi_iadd hx hb dX3_keepNear_4 ?_
  refine zi_top (fun x4_5 ex4_5 => ?_)
  refine lv_istore (lv' := [(4, .int (zi x4_5)), (0, .ref (ad 4)), (1, .int (zi x0)), (2, .int (zi x1)), (3, .int (zi x2))]) hx hb dX3_keepNear_5 hl (by decide) rfl (fun ls hl => ?_)
  refine zi_iconst hx hb dX3_keepNear_7 ?_
  have K_10 : ∀ (k : Nat) (n : Nat) (i : Int) (T : ZS), (i + (n : Int) = 405) → (0 ≤ i) → (itr (knStep x0 x1 x2) n i T = knAll x0 x1 x2 S) → ((n : Int) < (k : Int)) → CI T → ∀ (H : Heap) (locs : List Loc), va_P D vwCl (dW cI ad T) H → va_S (dA ad) s.heap H locs → ∀ (ls : Array Slot), lv_has ls 9 [(0, .ref (ad 4)), (1, .int (zi x0)), (2, .int (zi x1)), (3, .int (zi x2)), (4, .int (zi x4_5)), (5, .int (zi i))] → W p l e rmct_X3_keepNear s m ([.ref (ad 4), .int (zi x0), .int (zi x1), .int (zi x2)] : List Value).toArray below meth c H locs 0 0 (MQ below (zWv D (dW cI ad) (dA ad) (fun T => T = knAll x0 x1 x2 S ∧ CI T)) ([.ref (ad 4), .int (zi x0), .int (zi x1), .int (zi x2)] : List Value).toArray s 0 0 (dA ad)) (F0 m 10 ls []) := by
    intro k
    induction k with
    | zero => intro n i T h_n h_i h_R hk hIT; exact absurd hk (by omega)
    | succ k ih_10 =>
      intro n i T h_n h_i h_R hk hIT H locs hP hS ls hl
      have ex4 : x4_5 = 2 * x2 + 1 := ex4_5
      refine lv_iload hx hb dX3_keepNear_10 (lv_at hl 5 rfl) ?_
      refine zi_sipush hx hb dX3_keepNear_12 (by decide) ?_
      refine zi_icmp_ge (tgt := 107) hx hb ⟨by omega, by omega⟩ ⟨by decide, by decide⟩ dX3_keepNear_15 (by decide) (fun c_15 => ?_) (fun c_15 => ?_)
      · obtain rfl : n = 0 := by omega
        exact zr_wv (T := T) hx hb hr hlocks dX3_keepNear_107 hP hS (by exact ⟨h_R, hIT⟩)
      · obtain ⟨n, rfl⟩ : ∃ n9 : Nat, n = n9 + 1 := ⟨n - 1, by omega⟩
        refine lv_iload_n hx hb dX3_keepNear_18 rfl (lv_at hl 2 rfl) ?_
        refine lv_iload_n hx hb dX3_keepNear_19 rfl (lv_at hl 3 rfl) ?_
        refine zi_isub hx hb dX3_keepNear_20 ?_
        refine lv_iload hx hb dX3_keepNear_21 (lv_at hl 5 rfl) ?_
        refine lv_iload_n hx hb dX3_keepNear_23 rfl (lv_at hl 1 rfl) ?_
        refine zk_r (zc_N (As := [.int (zi i), .int (zi x0)]) (rest := [.int (zi (x1 - x2))]) ⟨hx, hb, hml, hown, hts⟩ (ct_X7_drift l D cI cZ cJ i x0 ⟨by omega, by omega⟩ ⟨by omega, by omega⟩ (by omega) (by omega) (by omega) (by omega)) ⟨va_cnB 2 hts gX3_keepNear_X7_drift_n29 rfl rfl rfl (hK.2 _ (List.mem_of_getElem? (i := 13) rfl)) (hts _ ini_X7_drift_X3_keepNear) (by decide +kernel) ⟨Nat.le_of_ble_eq_true rfl, Nat.le_of_ble_eq_true rfl⟩, hts _ sta_X7_drift_X3_keepNear, trivial⟩ hK va_P_nil rfl hl.1 rfl (Nat.le_of_ble_eq_true rfl) dX3_keepNear_24 ⟨Nat.zero_le _, Nat.zero_le _⟩) ?_
        refine zi_top (fun (r_24 : Int) (er_24 : r_24 = dC i x0) => ?_)
        have fr_24 : (-1036962 : Int) ≤ r_24 ∧ r_24 ≤ 1036962 := by rw [er_24]; exact dC_b (by omega) (by omega) (by omega) (by omega)
        refine zi_isub hx hb dX3_keepNear_27 ?_
        refine zi_sipush hx hb dX3_keepNear_28 (by decide) ?_
        refine zk_r (zc_S (As := [.int (zi ((x1 - x2) - r_24)), .int (zi 3600)]) (rest := []) ⟨hx, hb, hml, hown, hts⟩ (ct_J9_floorMod_7cf53 l D cI cZ cJ ((x1 - x2) - r_24) 3600 ⟨by omega, by omega⟩ ⟨by decide, by decide⟩ (by omega)) (va_cwS 2 hts gX3_keepNear_J9_floorMod_7cf53 rfl rfl rfl (by decide +kernel) ⟨Nat.le_of_ble_eq_true rfl, Nat.le_of_ble_eq_true rfl⟩) hK va_P_nil rfl hl.1 rfl (Nat.le_of_ble_eq_true rfl) dX3_keepNear_31 ⟨Nat.zero_le _, Nat.zero_le _⟩) ?_
        refine zi_top (fun (r_31 : Int) (er_31 : r_31 = ((x1 - x2) - r_24) % 3600) => ?_)
        have fr_31 : (0 : Int) ≤ r_31 := by rw [er_31]; exact Int.emod_nonneg _ (by omega)
        have fr_311 : r_31 < 3600 := by rw [er_31]; exact Int.emod_lt_of_pos _ (by omega)
        refine lv_istore (lv' := [(6, .int (zi r_31)), (0, .ref (ad 4)), (1, .int (zi x0)), (2, .int (zi x1)), (3, .int (zi x2)), (4, .int (zi x4_5)), (5, .int (zi i))]) hx hb dX3_keepNear_34 hl (by decide) rfl (fun ls hl => ?_)
        refine lv_aload_n hx hb dX3_keepNear_36 rfl (lv_at hl 1 rfl) ?_
        refine va_get (D := D) (ci := 3) (v := .ref (ad 21)) (C := RX3) (T := TX3) (N := 3) hx hb hts in_X3_keepNear_3 hown hK.1 hP 4 rfl rfl 1 (by decide) (hts _ lk_X3_keepNear_20) (fun _ h9 => h9) rfl dX3_keepNear_37 ?_
        refine lv_iload hx hb dX3_keepNear_40 (lv_at hl 6 rfl) ?_
        refine zk_r (zc_V (As := [.int (zi i)]) (rest := []) ⟨hx, hb, hml, hown, hts⟩ (ct_X5_at l D cI cZ cJ (dW cI ad T) (ad 21) (ad 41) 21 41 405 (T 14) i rfl rfl (by decide) ⟨by omega, by omega⟩) (cwV 1 hts gX3_keepNear_X5_at rfl rfl rfl (by decide +kernel) ⟨Nat.le_of_ble_eq_true rfl, Nat.le_of_ble_eq_true rfl⟩) hK hP (q0 := 21) (ci := 5) rfl rfl rfl rfl hl.1 rfl (Nat.le_of_ble_eq_true rfl) dX3_keepNear_42 ⟨Nat.zero_le _, Nat.zero_le _⟩) ?_
        refine zi_top (fun (r_42 : Int) (er_42 : r_42 = rAt 405 (T 14) i) => ?_)
        have fr_42 : (0 : Int) ≤ r_42 ∧ r_42 ≤ 3600 := by rw [er_42]; exact CI.at hIT 14 405 i ⟨by decide, by decide⟩
        refine lv_istore (lv' := [(7, .int (zi r_42)), (6, .int (zi r_31)), (0, .ref (ad 4)), (1, .int (zi x0)), (2, .int (zi x1)), (3, .int (zi x2)), (4, .int (zi x4_5)), (5, .int (zi i))]) hx hb dX3_keepNear_45 hl (by decide) rfl (fun ls hl => ?_)
        refine lv_aload_n hx hb dX3_keepNear_47 rfl (lv_at hl 2 rfl) ?_
        refine lv_iload hx hb dX3_keepNear_48 (lv_at hl 7 rfl) ?_
        refine lv_iload hx hb dX3_keepNear_50 (lv_at hl 1 rfl) ?_
        refine zk_r (zc_V (As := [.int (zi i), .int (zi r_31)]) (rest := []) ⟨hx, hb, hml, hown, hts⟩ (ct_X3_behind l D cI cZ cJ ad T hIT i r_31 ⟨by omega, by omega⟩ ⟨by omega, by omega⟩ (by omega) (by omega)) (cwV 2 hts gX3_keepNear_X3_behind rfl rfl rfl (by decide +kernel) ⟨Nat.le_of_ble_eq_true rfl, Nat.le_of_ble_eq_true rfl⟩) hK hP (q0 := 4) (ci := 3) rfl rfl rfl rfl hl.1 rfl (Nat.le_of_ble_eq_true rfl) dX3_keepNear_52 ⟨Nat.zero_le _, Nat.zero_le _⟩) ?_
        refine zi_top (fun (r_52 : Int) (er_52 : r_52 = behC T i r_31) => ?_)
        have fr_52 : (0 : Int) ≤ r_52 ∧ r_52 ≤ 3599 := by rw [er_52]; exact (by unfold behC; omega)
        refine lv_istore (lv' := [(8, .int (zi r_52)), (7, .int (zi r_42)), (6, .int (zi r_31)), (0, .ref (ad 4)), (1, .int (zi x0)), (2, .int (zi x1)), (3, .int (zi x2)), (4, .int (zi x4_5)), (5, .int (zi i))]) hx hb dX3_keepNear_55 hl (by decide) rfl (fun ls hl => ?_)
        refine lv_aload_n hx hb dX3_keepNear_57 rfl (lv_at hl 3 rfl) ?_
        refine va_get (D := D) (ci := 3) (v := .ref (ad 21)) (C := RX3) (T := TX3) (N := 3) hx hb hts in_X3_keepNear_3 hown hK.1 hP 4 rfl rfl 1 (by decide) (hts _ lk_X3_keepNear_20) (fun _ h9 => h9) rfl dX3_keepNear_58 ?_
        refine lv_iload hx hb dX3_keepNear_61 (lv_at hl 8 rfl) ?_
        refine lv_iload hx hb dX3_keepNear_63 (lv_at hl 1 rfl) ?_
        refine lv_iload hx hb dX3_keepNear_65 (lv_at hl 0 rfl) ?_
        refine lv_iload hx hb dX3_keepNear_67 (lv_at hl 7 rfl) ?_
        refine zk_r (zc_S (As := [.int (zi r_42), .int (zi r_52), .int (zi x4_5)]) (rest := [.int (zi i), .ref (ad 21)]) ⟨hx, hb, hml, hown, hts⟩ (ct_X3_sharedWidth l D cI cZ cJ r_42 r_52 x4_5 ⟨by omega, by omega⟩ ⟨by omega, by omega⟩ ⟨by omega, by omega⟩ (by omega) (by omega) (by omega) (by omega) (by omega) (by omega)) (va_cwS 3 hts gX3_keepNear_X3_sharedWidth rfl rfl rfl (by decide +kernel) ⟨Nat.le_of_ble_eq_true rfl, Nat.le_of_ble_eq_true rfl⟩) hK va_P_nil rfl hl.1 rfl (Nat.le_of_ble_eq_true rfl) dX3_keepNear_69 ⟨Nat.zero_le _, Nat.zero_le _⟩) ?_
        refine zi_top (fun (r_69 : Int) (er_69 : r_69 = shW r_42 r_52 x4_5) => ?_)
        have fr_69 : (0 : Int) ≤ r_69 ∧ r_69 ≤ 3600 := by rw [er_69]; exact shW_b (by omega) (by omega) (by omega) (by omega) (by omega) (by omega)
        refine va_callv (zc_V (As := [.int (zi i), .int (zi r_69)]) (rest := []) ⟨hx, hb, hml, hown, hts⟩ (ct_X5_put l D cI cZ cJ (dW cI ad T) (dA ad) (ad 21) (ad 41) 21 41 405 (T 14) i r_69 rfl (Nat.le_of_ble_eq_true rfl) (by decide) (fun g9 => dW_D hdis (su T 14 g9)) (by decide) ⟨by omega, by omega⟩) (cwV 2 hts gX3_keepNear_X5_put rfl rfl rfl (by decide +kernel) ⟨Nat.le_of_ble_eq_true rfl, Nat.le_of_ble_eq_true rfl⟩) hK hP (q0 := 21) (ci := 5) rfl rfl rfl rfl hl.1 rfl (Nat.le_of_ble_eq_true rfl) dX3_keepNear_72 ⟨Nat.zero_le _, Nat.zero_le _⟩) hS (fun _ _ h => h) (fun _ h => h) (fun u t H locs ht _ hu hQ _ _ hS => ?_)
        have hP : va_P D vwCl (dW cI ad (su T 14 (rPut 405 (T 14) i r_69))) H := by rw [hu] at hQ; rw [← ht]; exact hQ
        have hI_72 : CI (su T 14 (rPut 405 (T 14) i r_69)) := CI.rput hIT 14 405 i r_69 (show (0 : Int) ≤ r_69 ∧ r_69 ≤ 3600 from ⟨by omega, by omega⟩)
        generalize eS_72 : (su T 14 (rPut 405 (T 14) i r_69)) = S_72 at hP hI_72
        refine lv_iload hx hb dX3_keepNear_75 (lv_at hl 1 rfl) ?_
        refine zi_sipush hx hb dX3_keepNear_77 (by decide) ?_
        refine zi_icmp_eq (tgt := 90) hx hb ⟨by omega, by omega⟩ ⟨by decide, by decide⟩ dX3_keepNear_80 (by decide) (fun c_80 => ?_) (fun c_80 => ?_)
        · refine lv_aload_n hx hb dX3_keepNear_90 rfl (lv_at hl 3 rfl) ?_
          refine va_get (D := D) (ci := 3) (v := .ref (ad 20)) (C := RX3) (T := TX3) (N := 3) hx hb hts in_X3_keepNear_3 hown hK.1 hP 4 rfl rfl 0 (by decide) (hts _ lk_X3_keepNear_14) (fun _ h9 => h9) rfl dX3_keepNear_91 ?_
          refine lv_iload hx hb dX3_keepNear_94 (lv_at hl 8 rfl) ?_
          refine lv_iload hx hb dX3_keepNear_96 (lv_at hl 2 rfl) ?_
          refine va_callv (zc_V (As := [.int (zi i), .int (zi r_31)]) (rest := []) ⟨hx, hb, hml, hown, hts⟩ (ct_X5_put l D cI cZ cJ (dW cI ad S_72) (dA ad) (ad 20) (ad 40) 20 40 405 (S_72 13) i r_31 rfl (Nat.le_of_ble_eq_true rfl) (by decide) (fun g9 => dW_D hdis (su S_72 13 g9)) (by decide) ⟨by omega, by omega⟩) (cwV 2 hts gX3_keepNear_X5_put rfl rfl rfl (by decide +kernel) ⟨Nat.le_of_ble_eq_true rfl, Nat.le_of_ble_eq_true rfl⟩) hK hP (q0 := 20) (ci := 5) rfl rfl rfl rfl hl.1 rfl (Nat.le_of_ble_eq_true rfl) dX3_keepNear_98 ⟨Nat.zero_le _, Nat.zero_le _⟩) hS (fun _ _ h => h) (fun _ h => h) (fun u t H locs ht _ hu hQ _ _ hS => ?_)
          have hP : va_P D vwCl (dW cI ad (su S_72 13 (rPut 405 (S_72 13) i r_31))) H := by rw [hu] at hQ; rw [← ht]; exact hQ
          have hI_98 : CI (su S_72 13 (rPut 405 (S_72 13) i r_31)) := CI.rput hI_72 13 405 i r_31 (show (0 : Int) ≤ r_31 ∧ r_31 ≤ 3599 from ⟨by omega, by omega⟩)
          generalize eS_98 : (su S_72 13 (rPut 405 (S_72 13) i r_31)) = S_98 at hP hI_98
          refine zi_iinc (k := 8) (lv' := [(5, .int (zi (i + 1))), (8, .int (zi r_52)), (7, .int (zi r_42)), (6, .int (zi r_31)), (0, .ref (ad 4)), (1, .int (zi x0)), (2, .int (zi x1)), (3, .int (zi x2)), (4, .int (zi x4_5))]) hx hb dX3_keepNear_101 hl rfl (by decide) rfl (fun ls hl => ?_)
          refine lv_goto (tgt := 10) hx hb dX3_keepNear_104 (by decide) ?_
          exact ih_10 n (i + 1) S_98 (by first | omega | assumption) (by first | omega | assumption) (by rw [← h_R, itr_s]; congr 1; unfold knStep; subst_vars; first | exact (if_pos (Or.inl c_80)).symm | exact (if_pos (Or.inr (Int.not_le.mp c_87))).symm | exact (if_neg (fun h9 => h9.elim c_80 (fun h9 => absurd c_87 (Int.not_le.mpr h9)))).symm) (by omega) hI_98 _ _ hP hS _ (lv_sub hl [4, 5, 6, 7, 8, 0] rfl)
        · refine lv_iload hx hb dX3_keepNear_83 (lv_at hl 0 rfl) ?_
          refine lv_iload hx hb dX3_keepNear_85 (lv_at hl 1 rfl) ?_
          refine zi_icmp_ge (tgt := 101) hx hb ⟨by omega, by omega⟩ ⟨by omega, by omega⟩ dX3_keepNear_87 (by decide) (fun c_87 => ?_) (fun c_87 => ?_)
          · refine zi_iinc (k := 8) (lv' := [(5, .int (zi (i + 1))), (8, .int (zi r_52)), (7, .int (zi r_42)), (6, .int (zi r_31)), (0, .ref (ad 4)), (1, .int (zi x0)), (2, .int (zi x1)), (3, .int (zi x2)), (4, .int (zi x4_5))]) hx hb dX3_keepNear_101 hl rfl (by decide) rfl (fun ls hl => ?_)
            refine lv_goto (tgt := 10) hx hb dX3_keepNear_104 (by decide) ?_
            exact ih_10 n (i + 1) S_72 (by first | omega | assumption) (by first | omega | assumption) (by rw [← h_R, itr_s]; congr 1; unfold knStep; subst_vars; first | exact (if_pos (Or.inl c_80)).symm | exact (if_pos (Or.inr (Int.not_le.mp c_87))).symm | exact (if_neg (fun h9 => h9.elim c_80 (fun h9 => absurd c_87 (Int.not_le.mpr h9)))).symm) (by omega) hI_72 _ _ hP hS _ (lv_sub hl [4, 5, 6, 7, 8, 0] rfl)
          · refine lv_aload_n hx hb dX3_keepNear_90 rfl (lv_at hl 3 rfl) ?_
            refine va_get (D := D) (ci := 3) (v := .ref (ad 20)) (C := RX3) (T := TX3) (N := 3) hx hb hts in_X3_keepNear_3 hown hK.1 hP 4 rfl rfl 0 (by decide) (hts _ lk_X3_keepNear_14) (fun _ h9 => h9) rfl dX3_keepNear_91 ?_
            refine lv_iload hx hb dX3_keepNear_94 (lv_at hl 8 rfl) ?_
            refine lv_iload hx hb dX3_keepNear_96 (lv_at hl 2 rfl) ?_
            refine va_callv (zc_V (As := [.int (zi i), .int (zi r_31)]) (rest := []) ⟨hx, hb, hml, hown, hts⟩ (ct_X5_put l D cI cZ cJ (dW cI ad S_72) (dA ad) (ad 20) (ad 40) 20 40 405 (S_72 13) i r_31 rfl (Nat.le_of_ble_eq_true rfl) (by decide) (fun g9 => dW_D hdis (su S_72 13 g9)) (by decide) ⟨by omega, by omega⟩) (cwV 2 hts gX3_keepNear_X5_put rfl rfl rfl (by decide +kernel) ⟨Nat.le_of_ble_eq_true rfl, Nat.le_of_ble_eq_true rfl⟩) hK hP (q0 := 20) (ci := 5) rfl rfl rfl rfl hl.1 rfl (Nat.le_of_ble_eq_true rfl) dX3_keepNear_98 ⟨Nat.zero_le _, Nat.zero_le _⟩) hS (fun _ _ h => h) (fun _ h => h) (fun u t H locs ht _ hu hQ _ _ hS => ?_)
            have hP : va_P D vwCl (dW cI ad (su S_72 13 (rPut 405 (S_72 13) i r_31))) H := by rw [hu] at hQ; rw [← ht]; exact hQ
            have hI_98 : CI (su S_72 13 (rPut 405 (S_72 13) i r_31)) := CI.rput hI_72 13 405 i r_31 (show (0 : Int) ≤ r_31 ∧ r_31 ≤ 3599 from ⟨by omega, by omega⟩)
            generalize eS_98 : (su S_72 13 (rPut 405 (S_72 13) i r_31)) = S_98 at hP hI_98
            refine zi_iinc (k := 8) (lv' := [(5, .int (zi (i + 1))), (8, .int (zi r_52)), (7, .int (zi r_42)), (6, .int (zi r_31)), (0, .ref (ad 4)), (1, .int (zi x0)), (2, .int (zi x1)), (3, .int (zi x2)), (4, .int (zi x4_5))]) hx hb dX3_keepNear_101 hl rfl (by decide) rfl (fun ls hl => ?_)
            refine lv_goto (tgt := 10) hx hb dX3_keepNear_104 (by decide) ?_
            exact ih_10 n (i + 1) S_98 (by first | omega | assumption) (by first | omega | assumption) (by rw [← h_R, itr_s]; congr 1; unfold knStep; subst_vars; first | exact (if_pos (Or.inl c_80)).symm | exact (if_pos (Or.inr (Int.not_le.mp c_87))).symm | exact (if_neg (fun h9 => h9.elim c_80 (fun h9 => absurd c_87 (Int.not_le.mpr h9)))).symm) (by omega) hI_98 _ _ hP hS _ (lv_sub hl [4, 5, 6, 7, 8, 0] rfl)
  refine lv_istore (lv' := [(5, .int (zi 0)), (4, .int (zi x4_5)), (0, .ref (ad 4)), (1, .int (zi x0)), (2, .int (zi x1)), (3, .int (zi x2))]) hx hb dX3_keepNear_8 hl (by decide) rfl (fun ls hl => ?_)
  exact K_10 (405 + 1) 405 0 S (by first | omega | assumption) (by first | omega | assumption) (by subst_vars; rfl) (by omega) hI _ _ hP hS _ (lv_sub hl [2, 3, 4, 5, 1, 0] rfl)

theorem ini_X7_drift_X3_hasNear : Cond.initialized RX7 ∈ wsX3_hasNear := by decide +kernel
theorem sta_X7_drift_X3_hasNear : Cond.static yX7_drift ∈ wsX3_hasNear := by decide +kernel
theorem in_X3_hasNear_3 : ∀ w ∈ wsX30, w ∈ wsX3_hasNear := by decide +kernel
theorem lk_X3_hasNear_20 : Cond.fieldLink RX3 20 "PlanetoidDesk$Orbits" "widths" "LPlanetoidDesk$Row;" ∈ wsX3_hasNear := by decide +kernel
abbrev rmct_X3_hasNear : Room := { frames := 2, cells := 0, slots := 0, locals := 44 }
set_option maxHeartbeats 4000000 in
set_option maxRecDepth 100000 in
theorem ct_X3_hasNear (l : Launch) (D : va_G) (cI cZ cJ : ClassId) (ad : Nat → Nat) (S : ZS) (hI : CI S) (x0 x1 x2 : Int) (hx0 : ir x0) (hx1 : ir x1) (hx2 : ir x2) (hp00 : 0 ≤ x0) (hp01 : x0 ≤ 999) (hp10 : 0 ≤ x1) (hp11 : x1 ≤ 3599) (hp20 : 0 ≤ x2) (hp21 : x2 ≤ 9) : Met l yX3_hasNear wsX3_hasNear rmct_X3_hasNear (zP D cI cZ cJ (dW cI ad S) [.ref (ad 4), .int (zi x0), .int (zi x1), .int (zi x2)]) (k2_QcV (.int (zi (b2 (anyI (hnP S x0 x1 x2) 405 0))))) 0 0 (fun _ => False) := by
  refine Met.ofW (cc := cX3_hasNear) (maxL := 7) (ret := (some .boolean)) (by decide) rfl ?_
  intro p e s m args below meth c s₁ B hml hv
  obtain ⟨rfl, hP, hK⟩ := hv
  have hx := B.exec
  have hb := B.bytes
  have hr := B.returns
  have hts := atoms_spec (ws := wsX3_hasNear) B.pre
  have hown : s.vm.findClass RX3 = some m.cls := findClass_of_methodNamed B.named
  have hlocks := B.notSynchronized
  have hl := lv_entry ([.ref (ad 4), .int (zi x0), .int (zi x1), .int (zi x2)]) (n := 7) (Nat.le_of_ble_eq_true rfl)
  rw [lg_entry_eq]
  generalize (lg_sl ([.ref (ad 4), .int (zi x0), .int (zi x1), .int (zi x2)]) ++ List.replicate (7 - (lg_sl ([.ref (ad 4), .int (zi x0), .int (zi x1), .int (zi x2)])).length) Slot.unset).toArray = ls at hl ⊢
  have hl : lv_has ls 7 [(0, .ref (ad 4)), (1, .int (zi x0)), (2, .int (zi x1)), (3, .int (zi x2))] := hl
  show W p l e rmct_X3_hasNear s m ([.ref (ad 4), .int (zi x0), .int (zi x1), .int (zi x2)] : List Value).toArray below meth c s.heap [] 0 0 (MQ below (k2_QcV (.int (zi (b2 (anyI (hnP S x0 x1 x2) 405 0))))) ([.ref (ad 4), .int (zi x0), .int (zi x1), .int (zi x2)] : List Value).toArray s 0 0 (fun _ => False)) (F0 m 0 ls [])
  refine zi_iconst hx hb dX3_hasNear_0 ?_
  refine lv_iload_n hx hb dX3_hasNear_1 rfl (lv_at hl 3 rfl) ?_
  refine zi_imul hx hb dX3_hasNear_2 ?_
  refine zi_iconst hx hb dX3_hasNear_3 ?_
  refine zi_iadd hx hb dX3_hasNear_4 ?_
  refine zi_top (fun x4_5 ex4_5 => ?_)
  refine lv_istore (lv' := [(4, .int (zi x4_5)), (0, .ref (ad 4)), (1, .int (zi x0)), (2, .int (zi x1)), (3, .int (zi x2))]) hx hb dX3_hasNear_5 hl (by decide) rfl (fun ls hl => ?_)
  refine zi_iconst hx hb dX3_hasNear_7 ?_
  have K_10 : ∀ (k : Nat) (n : Nat) (i : Int), (i + (n : Int) = 405) → (0 ≤ i) → (b2 (anyI (hnP S x0 x1 x2) n i) = b2 (anyI (hnP S x0 x1 x2) 405 0)) → ((n : Int) < (k : Int)) → ∀ (ls : Array Slot), lv_has ls 7 [(0, .ref (ad 4)), (1, .int (zi x0)), (2, .int (zi x1)), (3, .int (zi x2)), (4, .int (zi x4_5)), (5, .int (zi i))] → W p l e rmct_X3_hasNear s m ([.ref (ad 4), .int (zi x0), .int (zi x1), .int (zi x2)] : List Value).toArray below meth c s.heap [] 0 0 (MQ below (k2_QcV (.int (zi (b2 (anyI (hnP S x0 x1 x2) 405 0))))) ([.ref (ad 4), .int (zi x0), .int (zi x1), .int (zi x2)] : List Value).toArray s 0 0 (fun _ => False)) (F0 m 10 ls []) := by
    intro k
    induction k with
    | zero => intro n i h_n h_i h_R hk; exact absurd hk (by omega)
    | succ k ih_10 =>
      intro n i h_n h_i h_R hk ls hl
      refine lv_iload hx hb dX3_hasNear_10 (lv_at hl 5 rfl) ?_
      refine zi_sipush hx hb dX3_hasNear_12 (by decide) ?_
      refine zi_icmp_ge (tgt := 69) hx hb ⟨by omega, by omega⟩ ⟨by decide, by decide⟩ dX3_hasNear_15 (by decide) (fun c_15 => ?_) (fun c_15 => ?_)
      · obtain rfl : n = 0 := by omega
        refine zi_iconst hx hb dX3_hasNear_69 ?_
        exact zr_z hx hb hr hlocks dX3_hasNear_70 (Or.inl rfl) (by rw [← h_R]; exact (b2_f (fun h9 => h9)).symm)
      · obtain ⟨n, rfl⟩ : ∃ n9 : Nat, n = n9 + 1 := ⟨n - 1, by omega⟩
        refine lv_iload_n hx hb dX3_hasNear_18 rfl (lv_at hl 2 rfl) ?_
        refine lv_iload_n hx hb dX3_hasNear_19 rfl (lv_at hl 3 rfl) ?_
        refine zi_isub hx hb dX3_hasNear_20 ?_
        refine lv_iload hx hb dX3_hasNear_21 (lv_at hl 5 rfl) ?_
        refine lv_iload_n hx hb dX3_hasNear_23 rfl (lv_at hl 1 rfl) ?_
        refine zk_r (zc_N (As := [.int (zi i), .int (zi x0)]) (rest := [.int (zi (x1 - x2))]) ⟨hx, hb, hml, hown, hts⟩ (ct_X7_drift l D cI cZ cJ i x0 ⟨by omega, by omega⟩ ⟨by omega, by omega⟩ (by omega) (by omega) (by omega) (by omega)) ⟨va_cnB 2 hts gX3_hasNear_X7_drift_n29 rfl rfl rfl (hK.2 _ (List.mem_of_getElem? (i := 13) rfl)) (hts _ ini_X7_drift_X3_hasNear) (by decide +kernel) ⟨Nat.le_of_ble_eq_true rfl, Nat.le_of_ble_eq_true rfl⟩, hts _ sta_X7_drift_X3_hasNear, trivial⟩ hK va_P_nil rfl hl.1 rfl (Nat.le_of_ble_eq_true rfl) dX3_hasNear_24 ⟨Nat.zero_le _, Nat.zero_le _⟩) ?_
        refine zi_top (fun (r_24 : Int) (er_24 : r_24 = dC i x0) => ?_)
        have fr_24 : (-1036962 : Int) ≤ r_24 ∧ r_24 ≤ 1036962 := by rw [er_24]; exact dC_b (by omega) (by omega) (by omega) (by omega)
        refine zi_isub hx hb dX3_hasNear_27 ?_
        refine zi_sipush hx hb dX3_hasNear_28 (by decide) ?_
        refine zk_r (zc_S (As := [.int (zi ((x1 - x2) - r_24)), .int (zi 3600)]) (rest := []) ⟨hx, hb, hml, hown, hts⟩ (ct_J9_floorMod_7cf53 l D cI cZ cJ ((x1 - x2) - r_24) 3600 ⟨by omega, by omega⟩ ⟨by decide, by decide⟩ (by omega)) (va_cwS 2 hts gX3_hasNear_J9_floorMod_7cf53 rfl rfl rfl (by decide +kernel) ⟨Nat.le_of_ble_eq_true rfl, Nat.le_of_ble_eq_true rfl⟩) hK va_P_nil rfl hl.1 rfl (Nat.le_of_ble_eq_true rfl) dX3_hasNear_31 ⟨Nat.zero_le _, Nat.zero_le _⟩) ?_
        refine zi_top (fun (r_31 : Int) (er_31 : r_31 = ((x1 - x2) - r_24) % 3600) => ?_)
        have fr_31 : (0 : Int) ≤ r_31 := by rw [er_31]; exact Int.emod_nonneg _ (by omega)
        have fr_311 : r_31 < 3600 := by rw [er_31]; exact Int.emod_lt_of_pos _ (by omega)
        refine lv_istore (lv' := [(6, .int (zi r_31)), (0, .ref (ad 4)), (1, .int (zi x0)), (2, .int (zi x1)), (3, .int (zi x2)), (4, .int (zi x4_5)), (5, .int (zi i))]) hx hb dX3_hasNear_34 hl (by decide) rfl (fun ls hl => ?_)
        refine lv_aload_n hx hb dX3_hasNear_36 rfl (lv_at hl 1 rfl) ?_
        refine va_get (D := D) (ci := 3) (v := .ref (ad 21)) (C := RX3) (T := TX3) (N := 3) hx hb hts in_X3_hasNear_3 hown hK.1 hP 4 rfl rfl 1 (by decide) (hts _ lk_X3_hasNear_20) (fun _ h9 => h9) rfl dX3_hasNear_37 ?_
        refine lv_iload hx hb dX3_hasNear_40 (lv_at hl 6 rfl) ?_
        refine zk_r (zc_V (As := [.int (zi i)]) (rest := []) ⟨hx, hb, hml, hown, hts⟩ (ct_X5_at l D cI cZ cJ (dW cI ad S) (ad 21) (ad 41) 21 41 405 (S 14) i rfl rfl (by decide) ⟨by omega, by omega⟩) (cwV 1 hts gX3_hasNear_X5_at rfl rfl rfl (by decide +kernel) ⟨Nat.le_of_ble_eq_true rfl, Nat.le_of_ble_eq_true rfl⟩) hK hP (q0 := 21) (ci := 5) rfl rfl rfl rfl hl.1 rfl (Nat.le_of_ble_eq_true rfl) dX3_hasNear_42 ⟨Nat.zero_le _, Nat.zero_le _⟩) ?_
        refine zi_top (fun (r_42 : Int) (er_42 : r_42 = rAt 405 (S 14) i) => ?_)
        have fr_42 : (0 : Int) ≤ r_42 ∧ r_42 ≤ 3600 := by rw [er_42]; exact CI.at hI 14 405 i ⟨by decide, by decide⟩
        refine lv_aload_n hx hb dX3_hasNear_45 rfl (lv_at hl 1 rfl) ?_
        refine lv_iload hx hb dX3_hasNear_46 (lv_at hl 6 rfl) ?_
        refine lv_iload hx hb dX3_hasNear_48 (lv_at hl 0 rfl) ?_
        refine zk_r (zc_V (As := [.int (zi i), .int (zi r_31)]) (rest := [.int (zi r_42)]) ⟨hx, hb, hml, hown, hts⟩ (ct_X3_behind l D cI cZ cJ ad S hI i r_31 ⟨by omega, by omega⟩ ⟨by omega, by omega⟩ (by omega) (by omega)) (cwV 2 hts gX3_hasNear_X3_behind rfl rfl rfl (by decide +kernel) ⟨Nat.le_of_ble_eq_true rfl, Nat.le_of_ble_eq_true rfl⟩) hK hP (q0 := 4) (ci := 3) rfl rfl rfl rfl hl.1 rfl (Nat.le_of_ble_eq_true rfl) dX3_hasNear_50 ⟨Nat.zero_le _, Nat.zero_le _⟩) ?_
        refine zi_top (fun (r_50 : Int) (er_50 : r_50 = behC S i r_31) => ?_)
        have fr_50 : (0 : Int) ≤ r_50 ∧ r_50 ≤ 3599 := by rw [er_50]; exact (by unfold behC; omega)
        refine lv_iload hx hb dX3_hasNear_53 (lv_at hl 5 rfl) ?_
        refine zk_r (zc_S (As := [.int (zi r_42), .int (zi r_50), .int (zi x4_5)]) (rest := []) ⟨hx, hb, hml, hown, hts⟩ (ct_X3_sharedWidth l D cI cZ cJ r_42 r_50 x4_5 ⟨by omega, by omega⟩ ⟨by omega, by omega⟩ ⟨by omega, by omega⟩ (by omega) (by omega) (by omega) (by omega) (by omega) (by omega)) (va_cwS 3 hts gX3_hasNear_X3_sharedWidth rfl rfl rfl (by decide +kernel) ⟨Nat.le_of_ble_eq_true rfl, Nat.le_of_ble_eq_true rfl⟩) hK va_P_nil rfl hl.1 rfl (Nat.le_of_ble_eq_true rfl) dX3_hasNear_55 ⟨Nat.zero_le _, Nat.zero_le _⟩) ?_
        refine zi_top (fun (r_55 : Int) (er_55 : r_55 = shW r_42 r_50 x4_5) => ?_)
        have fr_55 : (0 : Int) ≤ r_55 ∧ r_55 ≤ 3600 := by rw [er_55]; exact shW_b (by omega) (by omega) (by omega) (by omega) (by omega) (by omega)
        refine zi_if_le (tgt := 63) hx hb ⟨by omega, by omega⟩ dX3_hasNear_58 (by decide) (fun c_58 => ?_) (fun c_58 => ?_)
        · refine zi_iinc (k := 6) (lv' := [(5, .int (zi (i + 1))), (6, .int (zi r_31)), (0, .ref (ad 4)), (1, .int (zi x0)), (2, .int (zi x1)), (3, .int (zi x2)), (4, .int (zi x4_5))]) hx hb dX3_hasNear_63 hl rfl (by decide) rfl (fun ls hl => ?_)
          refine lv_goto (tgt := 10) hx hb dX3_hasNear_66 (by decide) ?_
          exact ih_10 n (i + 1) (by first | omega | assumption) (by first | omega | assumption) (by rw [← h_R]; exact congrArg b2 (propext ⟨fun h9 => Or.inr h9, fun h9 => h9.resolve_left (by unfold hnP; subst_vars; exact Int.not_lt.mpr c_58)⟩)) (by omega) _ (lv_sub hl [2, 3, 4, 5, 6, 0] rfl)
        · refine zi_iconst hx hb dX3_hasNear_61 ?_
          exact zr_z hx hb hr hlocks dX3_hasNear_62 (Or.inr rfl) (by rw [← h_R]; exact (b2_t (Or.inl (by unfold hnP; subst_vars; exact Int.not_le.mp c_58))).symm)
  refine lv_istore (lv' := [(5, .int (zi 0)), (4, .int (zi x4_5)), (0, .ref (ad 4)), (1, .int (zi x0)), (2, .int (zi x1)), (3, .int (zi x2))]) hx hb dX3_hasNear_8 hl (by decide) rfl (fun ls hl => ?_)
  exact K_10 406 405 0 (by first | omega | assumption) (by first | omega | assumption) rfl (by omega) _ (lv_sub hl [2, 3, 4, 5, 1, 0] rfl)

theorem in_X3_tallyPlaces_3 : ∀ w ∈ wsX30, w ∈ wsX3_tallyPlaces := by decide +kernel
theorem lk_X3_tallyPlaces_23 : Cond.fieldLink RX3 23 "PlanetoidDesk$Orbits" "tallies" "LPlanetoidDesk$Row;" ∈ wsX3_tallyPlaces := by decide +kernel
theorem lk_X3_tallyPlaces_14 : Cond.fieldLink RX3 14 "PlanetoidDesk$Orbits" "starts" "LPlanetoidDesk$Row;" ∈ wsX3_tallyPlaces := by decide +kernel
theorem ini_X7_drift_X3_tallyPlaces : Cond.initialized RX7 ∈ wsX3_tallyPlaces := by decide +kernel
theorem sta_X7_drift_X3_tallyPlaces : Cond.static yX7_drift ∈ wsX3_tallyPlaces := by decide +kernel
theorem lk_X3_tallyPlaces_20 : Cond.fieldLink RX3 20 "PlanetoidDesk$Orbits" "widths" "LPlanetoidDesk$Row;" ∈ wsX3_tallyPlaces := by decide +kernel
abbrev rmct_X3_tallyPlaces : Room := { frames := 2, cells := 0, slots := 0, locals := 41 }
set_option maxHeartbeats 4000000 in
set_option maxRecDepth 100000 in
theorem ct_X3_tallyPlaces (l : Launch) (D : va_G) (cI cZ cJ : ClassId) (ad : Nat → Nat) (S : ZS) (hI : CI S) (hdis : dDis ad) (x0 : Int) (hx0 : ir x0) (hp00 : 0 ≤ x0) (hp01 : x0 ≤ 999) : Met l yX3_tallyPlaces wsX3_tallyPlaces rmct_X3_tallyPlaces (zP D cI cZ cJ (dW cI ad S) [.ref (ad 4), .int (zi x0)]) (zWv D (dW cI ad) (dA ad) (fun T => T = tlAll x0 S ∧ CI T)) 0 0 (dA ad) := by
  refine Met.ofW (cc := cX3_tallyPlaces) (maxL := 6) (ret := none) (by decide) rfl ?_
  intro p e s m args below meth c s₁ B hml hv
  obtain ⟨rfl, hP, hK⟩ := hv
  have hx := B.exec
  have hb := B.bytes
  have hr := B.returns
  have hts := atoms_spec (ws := wsX3_tallyPlaces) B.pre
  have hown : s.vm.findClass RX3 = some m.cls := findClass_of_methodNamed B.named
  have hlocks := B.notSynchronized
  have hl := lv_entry ([.ref (ad 4), .int (zi x0)]) (n := 6) (Nat.le_of_ble_eq_true rfl)
  rw [lg_entry_eq]
  generalize (lg_sl ([.ref (ad 4), .int (zi x0)]) ++ List.replicate (6 - (lg_sl ([.ref (ad 4), .int (zi x0)])).length) Slot.unset).toArray = ls at hl ⊢
  have hl : lv_has ls 6 [(0, .ref (ad 4)), (1, .int (zi x0))] := hl
  have hS : va_S (dA ad) s.heap s.heap [] := va_S.rf
  show W p l e rmct_X3_tallyPlaces s m ([.ref (ad 4), .int (zi x0)] : List Value).toArray below meth c s.heap [] 0 0 (MQ below (zWv D (dW cI ad) (dA ad) (fun T => T = tlAll x0 S ∧ CI T)) ([.ref (ad 4), .int (zi x0)] : List Value).toArray s 0 0 (dA ad)) (F0 m 0 ls [])
  refine lv_aload_n hx hb dX3_tallyPlaces_0 rfl (lv_at hl 0 rfl) ?_
  refine va_get (D := D) (ci := 3) (v := .ref (ad 22)) (C := RX3) (T := TX3) (N := 3) hx hb hts in_X3_tallyPlaces_3 hown hK.1 hP 4 rfl rfl 2 (by decide) (hts _ lk_X3_tallyPlaces_23) (fun _ h9 => h9) rfl dX3_tallyPlaces_1 ?_
  refine zi_iconst hx hb dX3_tallyPlaces_4 ?_
  refine va_callv (zc_V (As := [.int (zi 0)]) (rest := []) ⟨hx, hb, hml, hown, hts⟩ (ct_X5_fill l D cI cZ cJ (dW cI ad S) (dA ad) (ad 22) (ad 42) 22 42 3600 (S 15) 0 rfl (Nat.le_of_ble_eq_true rfl) (by decide) (fun g9 => dW_D hdis (su S 15 g9)) (by decide)) (cwV 1 hts gX3_tallyPlaces_X5_fill rfl rfl rfl (by decide +kernel) ⟨Nat.le_of_ble_eq_true rfl, Nat.le_of_ble_eq_true rfl⟩) hK hP (q0 := 22) (ci := 5) rfl rfl rfl rfl hl.1 rfl (Nat.le_of_ble_eq_true rfl) dX3_tallyPlaces_5 ⟨Nat.zero_le _, Nat.zero_le _⟩) hS (fun _ _ h => h) (fun _ h => h) (fun u t H locs ht _ hu hQ _ _ hS => ?_)
  have hP : va_P D vwCl (dW cI ad (su S 15 (rFill 3600 (S 15) 0))) H := by rw [hu] at hQ; rw [← ht]; exact hQ
  have hI_5 : CI (su S 15 (rFill 3600 (S 15) 0)) := CI.rfill hI 15 3600 0 (show (0 : Int) ≤ 0 ∧ 0 ≤ 1458000 from ⟨by omega, by omega⟩)
  generalize eS_5 : (su S 15 (rFill 3600 (S 15) 0)) = S_5 at hP hI_5
  refine zi_iconst hx hb dX3_tallyPlaces_8 ?_
  have K_10 : ∀ (k : Nat) (n : Nat) (i : Int) (T : ZS), (i + (n : Int) = 405) → (0 ≤ i) → (itr (tlRow x0) n i T = tlAll x0 S) → (∀ q, 0 ≤ q → q < 3600 → T 15 q ≤ 3600 * i) → ((n : Int) < (k : Int)) → CI T → ∀ (H : Heap) (locs : List Loc), va_P D vwCl (dW cI ad T) H → va_S (dA ad) s.heap H locs → ∀ (ls : Array Slot), lv_has ls 6 [(0, .ref (ad 4)), (1, .int (zi x0)), (2, .int (zi i))] → W p l e rmct_X3_tallyPlaces s m ([.ref (ad 4), .int (zi x0)] : List Value).toArray below meth c H locs 0 0 (MQ below (zWv D (dW cI ad) (dA ad) (fun T => T = tlAll x0 S ∧ CI T)) ([.ref (ad 4), .int (zi x0)] : List Value).toArray s 0 0 (dA ad)) (F0 m 10 ls []) := by
    intro k
    induction k with
    | zero => intro n i T h_n h_i h_R h_b hk hIT; exact absurd hk (by omega)
    | succ k ih_10 =>
      intro n i T h_n h_i h_R h_b hk hIT H locs hP hS ls hl
      refine lv_iload_n hx hb dX3_tallyPlaces_10 rfl (lv_at hl 2 rfl) ?_
      refine zi_sipush hx hb dX3_tallyPlaces_11 (by decide) ?_
      refine zi_icmp_ge (tgt := 92) hx hb ⟨by omega, by omega⟩ ⟨by decide, by decide⟩ dX3_tallyPlaces_14 (by decide) (fun c_14 => ?_) (fun c_14 => ?_)
      · obtain rfl : n = 0 := by omega
        exact zr_wv (T := T) hx hb hr hlocks dX3_tallyPlaces_92 hP hS (by exact ⟨h_R, hIT⟩)
      · obtain ⟨n, rfl⟩ : ∃ n9 : Nat, n = n9 + 1 := ⟨n - 1, by omega⟩
        have fr_w : (0 : Int) ≤ rAt 405 (T 14) i ∧ rAt 405 (T 14) i ≤ 3600 := CI.at hIT 14 405 i ⟨by decide, by decide⟩
        refine lv_aload_n hx hb dX3_tallyPlaces_17 rfl (lv_at hl 0 rfl) ?_
        refine va_get (D := D) (ci := 3) (v := .ref (ad 20)) (C := RX3) (T := TX3) (N := 3) hx hb hts in_X3_tallyPlaces_3 hown hK.1 hP 4 rfl rfl 0 (by decide) (hts _ lk_X3_tallyPlaces_14) (fun _ h9 => h9) rfl dX3_tallyPlaces_18 ?_
        refine lv_iload_n hx hb dX3_tallyPlaces_21 rfl (lv_at hl 2 rfl) ?_
        refine zk_r (zc_V (As := [.int (zi i)]) (rest := []) ⟨hx, hb, hml, hown, hts⟩ (ct_X5_at l D cI cZ cJ (dW cI ad T) (ad 20) (ad 40) 20 40 405 (T 13) i rfl rfl (by decide) ⟨by omega, by omega⟩) (cwV 1 hts gX3_tallyPlaces_X5_at rfl rfl rfl (by decide +kernel) ⟨Nat.le_of_ble_eq_true rfl, Nat.le_of_ble_eq_true rfl⟩) hK hP (q0 := 20) (ci := 5) rfl rfl rfl rfl hl.1 rfl (Nat.le_of_ble_eq_true rfl) dX3_tallyPlaces_22 ⟨Nat.zero_le _, Nat.zero_le _⟩) ?_
        refine zi_top (fun (r_22 : Int) (er_22 : r_22 = rAt 405 (T 13) i) => ?_)
        have fr_22 : (0 : Int) ≤ r_22 ∧ r_22 ≤ 3599 := by rw [er_22]; exact CI.at hIT 13 405 i ⟨by decide, by decide⟩
        refine lv_iload_n hx hb dX3_tallyPlaces_25 rfl (lv_at hl 2 rfl) ?_
        refine lv_iload_n hx hb dX3_tallyPlaces_26 rfl (lv_at hl 1 rfl) ?_
        refine zk_r (zc_N (As := [.int (zi i), .int (zi x0)]) (rest := [.int (zi r_22)]) ⟨hx, hb, hml, hown, hts⟩ (ct_X7_drift l D cI cZ cJ i x0 ⟨by omega, by omega⟩ ⟨by omega, by omega⟩ (by omega) (by omega) (by omega) (by omega)) ⟨va_cnB 2 hts gX3_tallyPlaces_X7_drift_n29 rfl rfl rfl (hK.2 _ (List.mem_of_getElem? (i := 13) rfl)) (hts _ ini_X7_drift_X3_tallyPlaces) (by decide +kernel) ⟨Nat.le_of_ble_eq_true rfl, Nat.le_of_ble_eq_true rfl⟩, hts _ sta_X7_drift_X3_tallyPlaces, trivial⟩ hK va_P_nil rfl hl.1 rfl (Nat.le_of_ble_eq_true rfl) dX3_tallyPlaces_27 ⟨Nat.zero_le _, Nat.zero_le _⟩) ?_
        refine zi_top (fun (r_27 : Int) (er_27 : r_27 = dC i x0) => ?_)
        have fr_27 : (-1036962 : Int) ≤ r_27 ∧ r_27 ≤ 1036962 := by rw [er_27]; exact dC_b (by omega) (by omega) (by omega) (by omega)
        refine zi_iadd hx hb dX3_tallyPlaces_30 ?_
        refine zi_top (fun x3_31 ex3_31 => ?_)
        refine lv_istore_n (lv' := [(3, .int (zi x3_31)), (0, .ref (ad 4)), (1, .int (zi x0)), (2, .int (zi i))]) hx hb dX3_tallyPlaces_31 rfl hl (by decide) rfl (fun ls hl => ?_)
        refine zi_iconst hx hb dX3_tallyPlaces_32 ?_
        have K_35 : ∀ (k : Nat) (m9 : Nat) (st : Int) (T2 : ZS), (st + (m9 : Int) = rAt 405 (T 14) i) → (0 ≤ st) → (itr (tlStep x3_31) m9 st T2 = tlRow x0 i T) → (T2 14 = T 14) → (∀ q, 0 ≤ q → q < 3600 → T2 15 q ≤ 3600 * i + st) → ((m9 : Int) < (k : Int)) → CI T2 → ∀ (H : Heap) (locs : List Loc), va_P D vwCl (dW cI ad T2) H → va_S (dA ad) s.heap H locs → ∀ (ls : Array Slot), lv_has ls 6 [(0, .ref (ad 4)), (1, .int (zi x0)), (2, .int (zi i)), (3, .int (zi x3_31)), (4, .int (zi st))] → W p l e rmct_X3_tallyPlaces s m ([.ref (ad 4), .int (zi x0)] : List Value).toArray below meth c H locs 0 0 (MQ below (zWv D (dW cI ad) (dA ad) (fun T => T = tlAll x0 S ∧ CI T)) ([.ref (ad 4), .int (zi x0)] : List Value).toArray s 0 0 (dA ad)) (F0 m 35 ls []) := by
          intro k
          induction k with
          | zero => intro m9 st T2 g_n g_i g_R g_w g_b hk hIT2; exact absurd hk (by omega)
          | succ k ih_35 =>
            intro m9 st T2 g_n g_i g_R g_w g_b hk hIT2 H locs hP hS ls hl
            refine lv_iload hx hb dX3_tallyPlaces_35 (lv_at hl 4 rfl) ?_
            refine lv_aload_n hx hb dX3_tallyPlaces_37 rfl (lv_at hl 0 rfl) ?_
            refine va_get (D := D) (ci := 3) (v := .ref (ad 21)) (C := RX3) (T := TX3) (N := 3) hx hb hts in_X3_tallyPlaces_3 hown hK.1 hP 4 rfl rfl 1 (by decide) (hts _ lk_X3_tallyPlaces_20) (fun _ h9 => h9) rfl dX3_tallyPlaces_38 ?_
            refine lv_iload_n hx hb dX3_tallyPlaces_41 rfl (lv_at hl 2 rfl) ?_
            refine zk_r (zc_V (As := [.int (zi i)]) (rest := [.int (zi st)]) ⟨hx, hb, hml, hown, hts⟩ (ct_X5_at l D cI cZ cJ (dW cI ad T2) (ad 21) (ad 41) 21 41 405 (T2 14) i rfl rfl (by decide) ⟨by omega, by omega⟩) (cwV 1 hts gX3_tallyPlaces_X5_at rfl rfl rfl (by decide +kernel) ⟨Nat.le_of_ble_eq_true rfl, Nat.le_of_ble_eq_true rfl⟩) hK hP (q0 := 21) (ci := 5) rfl rfl rfl rfl hl.1 rfl (Nat.le_of_ble_eq_true rfl) dX3_tallyPlaces_42 ⟨Nat.zero_le _, Nat.zero_le _⟩) ?_
            refine zi_top (fun (r_42 : Int) (er_42 : r_42 = rAt 405 (T2 14) i) => ?_)
            have fr_42 : (0 : Int) ≤ r_42 ∧ r_42 ≤ 3600 := by rw [er_42]; exact CI.at hIT2 14 405 i ⟨by decide, by decide⟩
            refine zi_icmp_ge (tgt := 86) hx hb ⟨by omega, by omega⟩ ⟨by omega, by omega⟩ dX3_tallyPlaces_45 (by decide) (fun c_45 => ?_) (fun c_45 => ?_)
            · rw [er_42, g_w] at c_45
              obtain rfl : m9 = 0 := by omega
              have h_R2 : T2 = tlRow x0 i T := g_R
              refine zi_iinc (k := 2) (lv' := [(2, .int (zi (i + 1))), (0, .ref (ad 4)), (1, .int (zi x0)), (3, .int (zi x3_31)), (4, .int (zi st))]) hx hb dX3_tallyPlaces_86 hl rfl (by decide) rfl (fun ls hl => ?_)
              refine lv_goto (tgt := 10) hx hb dX3_tallyPlaces_89 (by decide) ?_
              exact ih_10 n (i + 1) T2 (by first | omega | assumption) (by first | omega | assumption) (by rw [← h_R, itr_s, ← h_R2]) (by first | exact tl_0 eS_5 | exact tl_x g_b (by omega)) (by omega) hIT2 _ _ hP hS _ (lv_sub hl [1, 2, 0] rfl)
            · rw [er_42, g_w] at c_45
              obtain ⟨m9, rfl⟩ : ∃ n9 : Nat, m9 = n9 + 1 := ⟨m9 - 1, by omega⟩
              refine lv_iload_n hx hb dX3_tallyPlaces_48 rfl (lv_at hl 3 rfl) ?_
              refine lv_iload hx hb dX3_tallyPlaces_49 (lv_at hl 4 rfl) ?_
              refine zi_iadd hx hb dX3_tallyPlaces_51 ?_
              refine zi_sipush hx hb dX3_tallyPlaces_52 (by decide) ?_
              refine zk_r (zc_S (As := [.int (zi (x3_31 + st)), .int (zi 3600)]) (rest := []) ⟨hx, hb, hml, hown, hts⟩ (ct_J9_floorMod_7cf53 l D cI cZ cJ (x3_31 + st) 3600 ⟨by omega, by omega⟩ ⟨by decide, by decide⟩ (by omega)) (va_cwS 2 hts gX3_tallyPlaces_J9_floorMod_7cf53 rfl rfl rfl (by decide +kernel) ⟨Nat.le_of_ble_eq_true rfl, Nat.le_of_ble_eq_true rfl⟩) hK va_P_nil rfl hl.1 rfl (Nat.le_of_ble_eq_true rfl) dX3_tallyPlaces_55 ⟨Nat.zero_le _, Nat.zero_le _⟩) ?_
              refine zi_top (fun (r_55 : Int) (er_55 : r_55 = (x3_31 + st) % 3600) => ?_)
              have fr_55 : (0 : Int) ≤ r_55 := by rw [er_55]; exact Int.emod_nonneg _ (by omega)
              have fr_551 : r_55 < 3600 := by rw [er_55]; exact Int.emod_lt_of_pos _ (by omega)
              refine lv_istore (lv' := [(5, .int (zi r_55)), (0, .ref (ad 4)), (1, .int (zi x0)), (2, .int (zi i)), (3, .int (zi x3_31)), (4, .int (zi st))]) hx hb dX3_tallyPlaces_58 hl (by decide) rfl (fun ls hl => ?_)
              refine lv_aload_n hx hb dX3_tallyPlaces_60 rfl (lv_at hl 1 rfl) ?_
              refine va_get (D := D) (ci := 3) (v := .ref (ad 22)) (C := RX3) (T := TX3) (N := 3) hx hb hts in_X3_tallyPlaces_3 hown hK.1 hP 4 rfl rfl 2 (by decide) (hts _ lk_X3_tallyPlaces_23) (fun _ h9 => h9) rfl dX3_tallyPlaces_61 ?_
              refine lv_iload hx hb dX3_tallyPlaces_64 (lv_at hl 0 rfl) ?_
              refine lv_aload_n hx hb dX3_tallyPlaces_66 rfl (lv_at hl 1 rfl) ?_
              refine va_get (D := D) (ci := 3) (v := .ref (ad 22)) (C := RX3) (T := TX3) (N := 3) hx hb hts in_X3_tallyPlaces_3 hown hK.1 hP 4 rfl rfl 2 (by decide) (hts _ lk_X3_tallyPlaces_23) (fun _ h9 => h9) rfl dX3_tallyPlaces_67 ?_
              refine lv_iload hx hb dX3_tallyPlaces_70 (lv_at hl 0 rfl) ?_
              refine zk_r (zc_V (As := [.int (zi r_55)]) (rest := [.int (zi r_55), .ref (ad 22)]) ⟨hx, hb, hml, hown, hts⟩ (ct_X5_at l D cI cZ cJ (dW cI ad T2) (ad 22) (ad 42) 22 42 3600 (T2 15) r_55 rfl rfl (by decide) ⟨by omega, by omega⟩) (cwV 1 hts gX3_tallyPlaces_X5_at rfl rfl rfl (by decide +kernel) ⟨Nat.le_of_ble_eq_true rfl, Nat.le_of_ble_eq_true rfl⟩) hK hP (q0 := 22) (ci := 5) rfl rfl rfl rfl hl.1 rfl (Nat.le_of_ble_eq_true rfl) dX3_tallyPlaces_72 ⟨Nat.zero_le _, Nat.zero_le _⟩) ?_
              refine zi_top (fun (r_72 : Int) (er_72 : r_72 = rAt 3600 (T2 15) r_55) => ?_)
              have fr_72 : (0 : Int) ≤ r_72 ∧ r_72 ≤ 1458000 := by rw [er_72]; exact CI.at hIT2 15 3600 r_55 ⟨by decide, by decide⟩
              refine zi_iconst hx hb dX3_tallyPlaces_75 ?_
              refine zi_iadd hx hb dX3_tallyPlaces_76 ?_
              have q_77 : r_72 ≤ 3600 * i + st := by rw [er_72]; exact tl_r g_b (by omega) (by omega)
              refine va_callv (zc_V (As := [.int (zi r_55), .int (zi (r_72 + 1))]) (rest := []) ⟨hx, hb, hml, hown, hts⟩ (ct_X5_put l D cI cZ cJ (dW cI ad T2) (dA ad) (ad 22) (ad 42) 22 42 3600 (T2 15) r_55 (r_72 + 1) rfl (Nat.le_of_ble_eq_true rfl) (by decide) (fun g9 => dW_D hdis (su T2 15 g9)) (by decide) ⟨by omega, by omega⟩) (cwV 2 hts gX3_tallyPlaces_X5_put rfl rfl rfl (by decide +kernel) ⟨Nat.le_of_ble_eq_true rfl, Nat.le_of_ble_eq_true rfl⟩) hK hP (q0 := 22) (ci := 5) rfl rfl rfl rfl hl.1 rfl (Nat.le_of_ble_eq_true rfl) dX3_tallyPlaces_77 ⟨Nat.zero_le _, Nat.zero_le _⟩) hS (fun _ _ h => h) (fun _ h => h) (fun u t H locs ht _ hu hQ _ _ hS => ?_)
              have hP : va_P D vwCl (dW cI ad (su T2 15 (rPut 3600 (T2 15) r_55 (r_72 + 1)))) H := by rw [hu] at hQ; rw [← ht]; exact hQ
              have hI_77 : CI (su T2 15 (rPut 3600 (T2 15) r_55 (r_72 + 1))) := CI.rput hIT2 15 3600 r_55 (r_72 + 1) (show (0 : Int) ≤ (r_72 + 1) ∧ (r_72 + 1) ≤ 1458000 from ⟨by omega, by omega⟩)
              generalize eS_77 : (su T2 15 (rPut 3600 (T2 15) r_55 (r_72 + 1))) = S_77 at hP hI_77
              refine zi_iinc (k := 5) (lv' := [(4, .int (zi (st + 1))), (5, .int (zi r_55)), (0, .ref (ad 4)), (1, .int (zi x0)), (2, .int (zi i)), (3, .int (zi x3_31))]) hx hb dX3_tallyPlaces_80 hl rfl (by decide) rfl (fun ls hl => ?_)
              refine lv_goto (tgt := 35) hx hb dX3_tallyPlaces_83 (by decide) ?_
              exact ih_35 m9 (st + 1) S_77 (by first | omega | assumption) (by first | omega | assumption) (by rw [← g_R, itr_s]; congr 1; rw [← eS_77, er_72, er_55]; rfl) (by rw [← eS_77]; exact g_w) (by rw [← eS_77]; exact tl_s g_b q_77) (by omega) hI_77 _ _ hP hS _ (lv_sub hl [2, 3, 4, 5, 0] rfl)
        refine lv_istore (lv' := [(4, .int (zi 0)), (3, .int (zi x3_31)), (0, .ref (ad 4)), (1, .int (zi x0)), (2, .int (zi i))]) hx hb dX3_tallyPlaces_33 hl (by decide) rfl (fun ls hl => ?_)
        exact K_35 ((rAt 405 (T 14) i).toNat + 1) ((rAt 405 (T 14) i).toNat) 0 T (by first | omega | assumption) (by first | omega | assumption) (by rw [tlRow, ex3_31, er_22, er_27]) rfl (fun q h0 h1 => by have := h_b q h0 h1; omega) (by omega) hIT _ _ hP hS _ (lv_sub hl [2, 3, 4, 1, 0] rfl)
  refine lv_istore_n (lv' := [(2, .int (zi 0)), (0, .ref (ad 4)), (1, .int (zi x0))]) hx hb dX3_tallyPlaces_9 rfl hl (by decide) rfl (fun ls hl => ?_)
  exact K_10 (405 + 1) 405 0 S_5 (by first | omega | assumption) (by first | omega | assumption) (by rw [tlAll, eS_5]) (by first | exact tl_0 eS_5 | exact tl_x g_b (by omega)) (by omega) hI_5 _ _ hP hS _ (lv_sub hl [1, 2, 0] rfl)
