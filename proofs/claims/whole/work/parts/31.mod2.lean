/-! the reference, second part -/
theorem any_end {P : Int → Prop} {d i R : Int} (h : (d = 1 ∧ 1 = R) ∨ (d = 0 ∧ b2 (anyI P 0 i) = R)) : d = R := by
  rcases h with ⟨h1, h2⟩ | ⟨h1, h2⟩
  · omega
  · rw [b2_f (show ¬ anyI P 0 i from fun h => h)] at h2; omega
theorem any_keep {P : Int → Prop} {n : Nat} {d i R : Int} (h : (d = 1 ∧ 1 = R) ∨ (d = 0 ∧ b2 (anyI P n i) = R)) (hd : ¬ d = 0) : ((1 : Int) = 1 ∧ 1 = R) ∨ ((1 : Int) = 0 ∧ b2 (anyI P (n - 1) (i + 1)) = R) := Or.inl ⟨rfl, h.elim (fun h => h.2) (fun h => absurd h.1 hd)⟩
theorem any_1 {P : Int → Prop} {n : Nat} {d i R : Int} {A : Prop} (h : (d = 1 ∧ 1 = R) ∨ (d = 0 ∧ b2 (anyI P (n + 1) i) = R)) (hp : P i) : ((1 : Int) = 1 ∧ 1 = R) ∨ A := Or.inl ⟨rfl, h.elim (fun h => h.2) (fun h => by rw [← h.2, b2_t (show anyI P (n + 1) i from Or.inl hp)])⟩
theorem any_d {P : Int → Prop} {n : Nat} {d i R : Int} {A : Prop} (h : (d = 1 ∧ 1 = R) ∨ (d = 0 ∧ b2 (anyI P n i) = R)) (hd : ¬ d = 0) : ((1 : Int) = 1 ∧ 1 = R) ∨ A := Or.inl ⟨rfl, h.elim (fun h => h.2) (fun h => absurd h.1 hd)⟩
theorem any_0 {P : Int → Prop} {n : Nat} {d i R : Int} {A : Prop} (h : (d = 1 ∧ 1 = R) ∨ (d = 0 ∧ b2 (anyI P (n + 1) i) = R)) (hd : d = 0) (hp : ¬ P i) : A ∨ ((0 : Int) = 0 ∧ b2 (anyI P n (i + 1)) = R) := Or.inr ⟨rfl, h.elim (fun h => by omega) (fun h => by rw [← h.2]; exact congrArg b2 (propext ⟨Or.inr, fun h9 => h9.resolve_left hp⟩))⟩
theorem any_s {P : Int → Prop} {n : Nat} {d i R : Int} (h : (d = 1 ∧ 1 = R) ∨ (d = 0 ∧ b2 (anyI P n i) = R)) (hd : ¬ d = 0) : d = R := h.elim (fun h => h.1.trans h.2) (fun h => absurd h.1 hd)
def ownM (S : ZS) (b : Int) : Int := itr (fun j acc => if S 10 j = b then acc + 1 else acc) (S 6 0).toNat 0 0
def joinM (S : ZS) (b : Int) : Int := itr (fun j acc => if S 12 j = b then acc + 1 else acc) (S 11 0).toNat 0 0
def lateG (S : ZS) (h j la : Int) : Int := if S 12 j = h ∧ (la = -1 ∨ S 13 la < S 13 j) then j else la
def lateM (S : ZS) (h : Int) : Int := itr (lateG S h) (S 11 0).toNat 0 (-1)
theorem lateM_b {S : ZS} (h : MI S) (x : Int) : (-1 : Int) ≤ lateM S x ∧ lateM S x ≤ 19 := by
  have hc : (0 : Int) ≤ S 11 0 ∧ S 11 0 ≤ 20 := h 11 0
  have h2 := itr_inv (f := lateG S x) (P := fun j la => 0 ≤ j ∧ -1 ≤ la ∧ la < j) (fun j la ⟨h0, h1, h2⟩ => by
    unfold lateG; split <;> omega) (S 11 0).toNat 0 (-1) (by omega)
  unfold lateM
  omega
def firstM (G : ZS) : Int := itr (fun i f => if nM G (G 20 i) < nM G f then G 20 i else f) (G 19 0 - 1).toNat 1 (G 20 0)
theorem firstM_b {G : ZS} (h : MI G) : (0 : Int) ≤ firstM G ∧ firstM G ≤ 59 := by
  have hc := itr_inv (f := fun i f => if nM G (G 20 i) < nM G f then G 20 i else f) (P := fun _ f => (0 : Int) ≤ f ∧ f ≤ 59) (fun j s hs => by
    show (0 : Int) ≤ ite _ _ _ ∧ ite _ _ _ ≤ 59
    split
    · exact h 20 j
    · exact hs) (G 19 0 - 1).toNat 1 (G 20 0) (h 20 0)
  exact hc
theorem nM_sm {S T : ZS} (h : SM S T) (x : Int) : nM T x = nM S x := by unfold nM; rw [h 5 rfl, h 7 rfl]
def strQ (S : ZS) (b o f1 f2 : Int) : Prop := (0 < S 14 b + S 14 o ∧ 0 < S 14 b) ∨ (¬ 0 < S 14 b + S 14 o ∧ (nM S f1 < nM S f2 ∨ (nM S f1 = nM S f2 ∧ f1 < f2)))
noncomputable def strM (S : ZS) (b o : Int) : Int := cif (strQ S b o (firstM (laysM b S)) (firstM (laysM o (laysM b S)))) b o
def addK (M : ZS) (d : Int) : ZS := su (su M 20 (up (M 20) (M 19 0) d)) 19 (fun _ => M 19 0 + 1)
theorem addK_n {M : ZS} {d : Int} {r : Nat} (h1 : r ≠ 20) (h2 : r ≠ 19) : addK M d r = M r := by unfold addK; rw [su_n _ _ h2, su_n _ _ h1]
theorem SM_ad {S : ZS} {d : Int} : SM S (addK S d) := fun _ hk => addK_n (scm_ne hk rfl) (scm_ne hk rfl)
/-- how many looks are laid -/
theorem laysA_c {b : Int} {M : ZS} : ∀ (n : Nat) (i : Int) (T : ZS), 0 ≤ i → T 10 = M 10 → T 12 = M 12 → itr (laF b) n i T 19 0 = T 19 0 + (cnt (fun k => lookM M k b) (i + n).toNat - cnt (fun k => lookM M k b) i.toNat) := by
  intro n
  induction n with
  | zero => intro i T _ _ _; rw [itr_0, show i + ((0 : Nat) : Int) = i by omega]; omega
  | succ n ih =>
    intro i T h0 h1 h2
    have e10 : laF b i T 10 = M 10 := by rw [laF_n (by decide) (by decide)]; exact h1
    have e12 : laF b i T 12 = M 12 := by rw [laF_n (by decide) (by decide)]; exact h2
    have e19 : laF b i T 19 0 = T 19 0 + b2 (lookM M i b) := by
      unfold laF
      by_cases h : lookM T i b
      · rw [cif_t h, b2_t ((lookM_c h1 h2 i b).mp h)]; rfl
      · rw [cif_f h, b2_f (fun h9 => h ((lookM_c h1 h2 i b).mpr h9))]; omega
    rw [itr_s, ih (i + 1) _ (by omega) e10 e12, e19, cnt_S _ h0, show i + ((n + 1 : Nat) : Int) = i + 1 + (n : Int) by omega]
    omega
theorem laysM_c {b : Int} {S : ZS} (h : MI S) : laysM b S 19 0 = cnt (fun k => lookM S k b) (S 6 0).toNat := by
  have h1 : (0 : Int) ≤ S 6 0 ∧ S 6 0 ≤ 60 := h 6 0
  unfold laysM laysA
  rw [laysA_c (M := S) (b := b) _ 0 (su S 19 (fun _ => 0)) (by omega) rfl rfl]
  show 0 + (cnt _ (0 + ((S 6 0).toNat : Int)).toNat - cnt _ 0) = _
  have e : (0 + ((S 6 0).toNat : Int)).toNat = (S 6 0).toNat := by omega
  rw [e]
  show 0 + (cnt _ _ - 0) = _
  omega
noncomputable def clP (S : ZS) (b d : Int) : Prop := S 10 d = -1 ∧ S 12 b = -1 ∧ ¬ onP (laysM b S) (S 7 d) (laysM b S 19 0) ∧ 0 < findM (addK (laysM b S) d) 21 0
noncomputable def clT (S : ZS) (b d : Int) : ZS := cif (S 10 d = -1 ∧ S 12 b = -1) (cif (onP (laysM b S) (S 7 d) (laysM b S 19 0)) (laysM b S) (findM (addK (laysM b S) d))) S
theorem SM_cl {S : ZS} {b d : Int} : SM S (clT S b d) := by
  unfold clT
  by_cases h : S 10 d = -1 ∧ S 12 b = -1
  · rw [cif_t h]
    by_cases h2 : onP (laysM b S) (S 7 d) (laysM b S 19 0)
    · rw [cif_t h2]; exact SM_la
    · rw [cif_f h2]; exact SM_la.tr (SM_ad.tr SM_fd)
  · rw [cif_f h]; exact SM.rf
theorem accM_sm {S T : ZS} (h : SM S T) (ha : accM S) : accM T := by
  intro k h1 h2 h3
  rw [h 6 rfl] at h2; rw [h 10 rfl] at h3; rw [h 10 rfl, h 12 rfl]
  exact ha k h1 h2 h3
noncomputable def caF (b k : Int) (q : ZS × Int) : ZS × Int := (clT q.1 b k, q.2 + b2 (clP q.1 b k))
noncomputable def caM (S : ZS) (b : Int) : ZS × Int := itr (caF b) (S 6 0).toNat 0 (S, 0)
noncomputable def cjL (S : ZS) (b o : Int) : ZS := laysA o (laysM b S)
noncomputable def mayP (S : ZS) (b o : Int) : Prop := ¬ anyI (fun k => ¬ ¬ onP (cjL S b o) (cjL S b o 7 (cjL S b o 20 k)) (laysM b S 19 0)) (cjL S b o 19 0 - laysM b S 19 0).toNat (laysM b S 19 0)
noncomputable def cjP (S : ZS) (b o : Int) : Prop := (b ≠ o ∧ S 12 b = -1 ∧ S 12 o = -1 ∧ ¬ (0 < S 14 b ∧ 0 < S 14 o)) ∧ mayP S b o ∧ 0 < findM (cjL S b o) 21 0
theorem SM_laA {b : Int} {S : ZS} : SM S (laysA b S) := fun _ hk => laysA_n (scm_ne hk rfl) (scm_ne hk rfl)
theorem fit_0 {P : Int → Prop} {n : Nat} {d i R : Int} {A : Prop} (h : (d = 1 ∧ b2 (¬ anyI P n i) = R) ∨ (d = 0 ∧ 0 = R)) (hd : d = 0) : A ∨ ((0 : Int) = 0 ∧ 0 = R) := Or.inr ⟨rfl, h.elim (fun h => by omega) (fun h => h.2)⟩
theorem in_X8_ownOf_8 : ∀ w ∈ wsX80, w ∈ wsX8_ownOf := by decide +kernel
theorem lk_X8_ownOf_92 : Cond.fieldLink RX8 92 "PlanetoidDeskModel" "dots" "I" ∈ wsX8_ownOf := by decide +kernel
theorem lk_X8_ownOf_31 : Cond.fieldLink RX8 31 "PlanetoidDeskModel" "own" "[I" ∈ wsX8_ownOf := by decide +kernel
abbrev rmct_X8_ownOf : Room := { frames := 0, cells := 0, slots := 0, locals := 0 }
set_option maxHeartbeats 4000000 in
set_option maxRecDepth 100000 in
theorem ct_X8_ownOf (l : Launch) (D : va_G) (cI cZ cJ : ClassId) (bd : Nat → Nat) (S : ZS) (hI : MI S) (x0 : Int) (hx0 : ir x0)  : Met l yX8_ownOf wsX8_ownOf rmct_X8_ownOf (zP D cI cZ cJ (mW cI cZ bd S) [.ref (bd 0), .int (zi x0)]) (k2_QcV (.int (zi (ownM S x0)))) 0 0 (fun _ => False) := by
  refine Met.ofW (cc := cX8_ownOf) (maxL := 4) (ret := (some .int)) (by decide) rfl ?_
  intro p e s m args below meth c s₁ B hml hv
  obtain ⟨rfl, hP, hK⟩ := hv
  have hx := B.exec
  have hb := B.bytes
  have hr := B.returns
  have hts := atoms_spec (ws := wsX8_ownOf) B.pre
  have hown : s.vm.findClass RX8 = some m.cls := findClass_of_methodNamed B.named
  have hlocks := B.notSynchronized
  have hl := lv_entry ([.ref (bd 0), .int (zi x0)]) (n := 4) (Nat.le_of_ble_eq_true rfl)
  rw [lg_entry_eq]
  generalize (lg_sl ([.ref (bd 0), .int (zi x0)]) ++ List.replicate (4 - (lg_sl ([.ref (bd 0), .int (zi x0)])).length) Slot.unset).toArray = ls at hl ⊢
  have hl : lv_has ls 4 [(0, .ref (bd 0)), (1, .int (zi x0))] := hl
  show W p l e rmct_X8_ownOf s m ([.ref (bd 0), .int (zi x0)] : List Value).toArray below meth c s.heap [] 0 0 (MQ below (k2_QcV (.int (zi (ownM S x0)))) ([.ref (bd 0), .int (zi x0)] : List Value).toArray s 0 0 (fun _ => False)) (F0 m 0 ls [])
  have hd0 : (0 : Int) ≤ S 6 0 ∧ S 6 0 ≤ 60 := hI 6 0
  refine zi_iconst hx hb dX8_ownOf_0 ?_
  refine lv_istore_n (lv' := [(2, .int (zi 0)), (0, .ref (bd 0)), (1, .int (zi x0))]) hx hb dX8_ownOf_1 rfl hl (by decide) rfl (fun ls hl => ?_)
  refine zi_iconst hx hb dX8_ownOf_2 ?_
  have K_4 : ∀ (k : Nat) (n : Nat) (acc i : Int), (i + (n : Int) = S 6 0) → (0 ≤ i) → (itr (fun j acc => if S 10 j = x0 then acc + 1 else acc) n i acc = ownM S x0) → (0 ≤ acc ∧ acc ≤ i) → ((n : Int) < (k : Int)) → ∀ (ls : Array Slot), lv_has ls 4 [(0, .ref (bd 0)), (1, .int (zi x0)), (2, .int (zi acc)), (3, .int (zi i))] → W p l e rmct_X8_ownOf s m ([.ref (bd 0), .int (zi x0)] : List Value).toArray below meth c s.heap [] 0 0 (MQ below (k2_QcV (.int (zi (ownM S x0)))) ([.ref (bd 0), .int (zi x0)] : List Value).toArray s 0 0 (fun _ => False)) (F0 m 4 ls []) := by
    intro k
    induction k with
    | zero => intro n acc i h_n h_i h_R h_a hk; exact absurd hk (by omega)
    | succ k ih_4 =>
      intro n acc i h_n h_i h_R h_a hk ls hl
      refine lv_iload_n hx hb dX8_ownOf_4 rfl (lv_at hl 3 rfl) ?_
      refine lv_aload_n hx hb dX8_ownOf_5 rfl (lv_at hl 0 rfl) ?_
      refine va_get (D := D) (ci := 8) (v := .int (zi (S 6 0))) (C := RX8) (T := TX8) (N := 32) hx hb hts in_X8_ownOf_8 hown hK.1 hP 0 rfl rfl 6 (by decide) (hts _ lk_X8_ownOf_92) (fun _ h9 => h9) rfl dX8_ownOf_6 ?_
      have f_6 : (0 : Int) ≤ S 6 0 ∧ S 6 0 ≤ 60 := hI 6 0
      refine zi_icmp_ge (tgt := 36) hx hb ⟨by omega, by omega⟩ ⟨by omega, by omega⟩ dX8_ownOf_9 (by decide) (fun c_9 => ?_) (fun c_9 => ?_)
      · obtain rfl : n = 0 := by omega
        refine lv_iload_n hx hb dX8_ownOf_36 rfl (lv_at hl 2 rfl) ?_
        exact zr_i hx hb hr hlocks dX8_ownOf_37 (by exact h_R)
      · obtain ⟨n, rfl⟩ : ∃ n9 : Nat, n = n9 + 1 := ⟨n - 1, by omega⟩
        refine lv_iload_n hx hb dX8_ownOf_12 rfl (lv_at hl 2 rfl) ?_
        refine lv_aload_n hx hb dX8_ownOf_13 rfl (lv_at hl 0 rfl) ?_
        refine va_get (D := D) (ci := 8) (v := .ref (bd 11)) (C := RX8) (T := TX8) (N := 32) hx hb hts in_X8_ownOf_8 hown hK.1 hP 0 rfl rfl 10 (by decide) (hts _ lk_X8_ownOf_31) (fun _ h9 => h9) rfl dX8_ownOf_14 ?_
        refine lv_iload_n hx hb dX8_ownOf_17 rfl (lv_at hl 3 rfl) ?_
        refine zi_iald hx hb hK.1 hP 8 0 rfl rfl (by omega) (by omega) (by decide) dX8_ownOf_18 ?_
        have f_18 : (-1 : Int) ≤ S 10 i ∧ S 10 i ≤ 19 := hI 10 i
        refine lv_iload_n hx hb dX8_ownOf_19 rfl (lv_at hl 1 rfl) ?_
        refine zi_icmp_ne (tgt := 27) hx hb ⟨by omega, by omega⟩ ⟨by omega, by omega⟩ dX8_ownOf_20 (by decide) (fun c_20 => ?_) (fun c_20 => ?_)
        · refine zi_iconst hx hb dX8_ownOf_27 ?_
          refine zi_iadd hx hb dX8_ownOf_28 ?_
          refine zi_top (fun x2_29 ex2_29 => ?_)
          refine lv_istore_n (lv' := [(2, .int (zi x2_29)), (0, .ref (bd 0)), (1, .int (zi x0)), (3, .int (zi i))]) hx hb dX8_ownOf_29 rfl hl (by decide) rfl (fun ls hl => ?_)
          refine zi_iinc (k := 3) (lv' := [(3, .int (zi (i + 1))), (2, .int (zi x2_29)), (0, .ref (bd 0)), (1, .int (zi x0))]) hx hb dX8_ownOf_30 hl rfl (by decide) rfl (fun ls hl => ?_)
          refine lv_goto (tgt := 4) hx hb dX8_ownOf_33 (by decide) ?_
          exact ih_4 n x2_29 (i + 1) (by first | omega | assumption) (by first | omega | assumption) (by rw [ex2_29, Int.add_zero]; exact itr_if_f (p := fun j => S 10 j = x0) h_R c_20) ⟨by omega, by omega⟩ (by omega) _ (lv_sub hl [2, 3, 1, 0] rfl)
        · refine zi_iconst hx hb dX8_ownOf_23 ?_
          refine lv_goto (tgt := 28) hx hb dX8_ownOf_24 (by decide) ?_
          refine zi_iadd hx hb dX8_ownOf_28 ?_
          refine zi_top (fun x2_29 ex2_29 => ?_)
          refine lv_istore_n (lv' := [(2, .int (zi x2_29)), (0, .ref (bd 0)), (1, .int (zi x0)), (3, .int (zi i))]) hx hb dX8_ownOf_29 rfl hl (by decide) rfl (fun ls hl => ?_)
          refine zi_iinc (k := 3) (lv' := [(3, .int (zi (i + 1))), (2, .int (zi x2_29)), (0, .ref (bd 0)), (1, .int (zi x0))]) hx hb dX8_ownOf_30 hl rfl (by decide) rfl (fun ls hl => ?_)
          refine lv_goto (tgt := 4) hx hb dX8_ownOf_33 (by decide) ?_
          exact ih_4 n x2_29 (i + 1) (by first | omega | assumption) (by first | omega | assumption) (by rw [ex2_29]; exact itr_if_t (p := fun j => S 10 j = x0) h_R c_20) ⟨by omega, by omega⟩ (by omega) _ (lv_sub hl [2, 3, 1, 0] rfl)
  refine lv_istore_n (lv' := [(3, .int (zi 0)), (2, .int (zi 0)), (0, .ref (bd 0)), (1, .int (zi x0))]) hx hb dX8_ownOf_3 rfl hl (by decide) rfl (fun ls hl => ?_)
  exact K_4 ((S 6 0).toNat + 1) ((S 6 0).toNat) 0 0 (by first | omega | assumption) (by first | omega | assumption) rfl ⟨by omega, by omega⟩ (by omega) _ (lv_sub hl [2, 3, 1, 0] rfl)

theorem in_X8_joinedTo_8 : ∀ w ∈ wsX80, w ∈ wsX8_joinedTo := by decide +kernel
theorem lk_X8_joinedTo_95 : Cond.fieldLink RX8 95 "PlanetoidDeskModel" "bodies" "I" ∈ wsX8_joinedTo := by decide +kernel
theorem lk_X8_joinedTo_34 : Cond.fieldLink RX8 34 "PlanetoidDeskModel" "above" "[I" ∈ wsX8_joinedTo := by decide +kernel
abbrev rmct_X8_joinedTo : Room := { frames := 0, cells := 0, slots := 0, locals := 0 }
set_option maxHeartbeats 4000000 in
set_option maxRecDepth 100000 in
theorem ct_X8_joinedTo (l : Launch) (D : va_G) (cI cZ cJ : ClassId) (bd : Nat → Nat) (S : ZS) (hI : MI S) (x0 : Int) (hx0 : ir x0)  : Met l yX8_joinedTo wsX8_joinedTo rmct_X8_joinedTo (zP D cI cZ cJ (mW cI cZ bd S) [.ref (bd 0), .int (zi x0)]) (k2_QcV (.int (zi (joinM S x0)))) 0 0 (fun _ => False) := by
  refine Met.ofW (cc := cX8_joinedTo) (maxL := 4) (ret := (some .int)) (by decide) rfl ?_
  intro p e s m args below meth c s₁ B hml hv
  obtain ⟨rfl, hP, hK⟩ := hv
  have hx := B.exec
  have hb := B.bytes
  have hr := B.returns
  have hts := atoms_spec (ws := wsX8_joinedTo) B.pre
  have hown : s.vm.findClass RX8 = some m.cls := findClass_of_methodNamed B.named
  have hlocks := B.notSynchronized
  have hl := lv_entry ([.ref (bd 0), .int (zi x0)]) (n := 4) (Nat.le_of_ble_eq_true rfl)
  rw [lg_entry_eq]
  generalize (lg_sl ([.ref (bd 0), .int (zi x0)]) ++ List.replicate (4 - (lg_sl ([.ref (bd 0), .int (zi x0)])).length) Slot.unset).toArray = ls at hl ⊢
  have hl : lv_has ls 4 [(0, .ref (bd 0)), (1, .int (zi x0))] := hl
  show W p l e rmct_X8_joinedTo s m ([.ref (bd 0), .int (zi x0)] : List Value).toArray below meth c s.heap [] 0 0 (MQ below (k2_QcV (.int (zi (joinM S x0)))) ([.ref (bd 0), .int (zi x0)] : List Value).toArray s 0 0 (fun _ => False)) (F0 m 0 ls [])
  have hc0 : (0 : Int) ≤ S 11 0 ∧ S 11 0 ≤ 20 := hI 11 0
  refine zi_iconst hx hb dX8_joinedTo_0 ?_
  refine lv_istore_n (lv' := [(2, .int (zi 0)), (0, .ref (bd 0)), (1, .int (zi x0))]) hx hb dX8_joinedTo_1 rfl hl (by decide) rfl (fun ls hl => ?_)
  refine zi_iconst hx hb dX8_joinedTo_2 ?_
  have K_4 : ∀ (k : Nat) (n : Nat) (acc i : Int), (i + (n : Int) = S 11 0) → (0 ≤ i) → (itr (fun j acc => if S 12 j = x0 then acc + 1 else acc) n i acc = joinM S x0) → (0 ≤ acc ∧ acc ≤ i) → ((n : Int) < (k : Int)) → ∀ (ls : Array Slot), lv_has ls 4 [(0, .ref (bd 0)), (1, .int (zi x0)), (2, .int (zi acc)), (3, .int (zi i))] → W p l e rmct_X8_joinedTo s m ([.ref (bd 0), .int (zi x0)] : List Value).toArray below meth c s.heap [] 0 0 (MQ below (k2_QcV (.int (zi (joinM S x0)))) ([.ref (bd 0), .int (zi x0)] : List Value).toArray s 0 0 (fun _ => False)) (F0 m 4 ls []) := by
    intro k
    induction k with
    | zero => intro n acc i h_n h_i h_R h_a hk; exact absurd hk (by omega)
    | succ k ih_4 =>
      intro n acc i h_n h_i h_R h_a hk ls hl
      refine lv_iload_n hx hb dX8_joinedTo_4 rfl (lv_at hl 3 rfl) ?_
      refine lv_aload_n hx hb dX8_joinedTo_5 rfl (lv_at hl 0 rfl) ?_
      refine va_get (D := D) (ci := 8) (v := .int (zi (S 11 0))) (C := RX8) (T := TX8) (N := 32) hx hb hts in_X8_joinedTo_8 hown hK.1 hP 0 rfl rfl 11 (by decide) (hts _ lk_X8_joinedTo_95) (fun _ h9 => h9) rfl dX8_joinedTo_6 ?_
      have f_6 : (0 : Int) ≤ S 11 0 ∧ S 11 0 ≤ 20 := hI 11 0
      refine zi_icmp_ge (tgt := 36) hx hb ⟨by omega, by omega⟩ ⟨by omega, by omega⟩ dX8_joinedTo_9 (by decide) (fun c_9 => ?_) (fun c_9 => ?_)
      · obtain rfl : n = 0 := by omega
        refine lv_iload_n hx hb dX8_joinedTo_36 rfl (lv_at hl 2 rfl) ?_
        exact zr_i hx hb hr hlocks dX8_joinedTo_37 (by exact h_R)
      · obtain ⟨n, rfl⟩ : ∃ n9 : Nat, n = n9 + 1 := ⟨n - 1, by omega⟩
        refine lv_iload_n hx hb dX8_joinedTo_12 rfl (lv_at hl 2 rfl) ?_
        refine lv_aload_n hx hb dX8_joinedTo_13 rfl (lv_at hl 0 rfl) ?_
        refine va_get (D := D) (ci := 8) (v := .ref (bd 13)) (C := RX8) (T := TX8) (N := 32) hx hb hts in_X8_joinedTo_8 hown hK.1 hP 0 rfl rfl 12 (by decide) (hts _ lk_X8_joinedTo_34) (fun _ h9 => h9) rfl dX8_joinedTo_14 ?_
        refine lv_iload_n hx hb dX8_joinedTo_17 rfl (lv_at hl 3 rfl) ?_
        refine zi_iald hx hb hK.1 hP 9 0 rfl rfl (by omega) (by omega) (by decide) dX8_joinedTo_18 ?_
        have f_18 : (-1 : Int) ≤ S 12 i ∧ S 12 i ≤ 19 := hI 12 i
        refine lv_iload_n hx hb dX8_joinedTo_19 rfl (lv_at hl 1 rfl) ?_
        refine zi_icmp_ne (tgt := 27) hx hb ⟨by omega, by omega⟩ ⟨by omega, by omega⟩ dX8_joinedTo_20 (by decide) (fun c_20 => ?_) (fun c_20 => ?_)
        · refine zi_iconst hx hb dX8_joinedTo_27 ?_
          refine zi_iadd hx hb dX8_joinedTo_28 ?_
          refine zi_top (fun x2_29 ex2_29 => ?_)
          refine lv_istore_n (lv' := [(2, .int (zi x2_29)), (0, .ref (bd 0)), (1, .int (zi x0)), (3, .int (zi i))]) hx hb dX8_joinedTo_29 rfl hl (by decide) rfl (fun ls hl => ?_)
          refine zi_iinc (k := 3) (lv' := [(3, .int (zi (i + 1))), (2, .int (zi x2_29)), (0, .ref (bd 0)), (1, .int (zi x0))]) hx hb dX8_joinedTo_30 hl rfl (by decide) rfl (fun ls hl => ?_)
          refine lv_goto (tgt := 4) hx hb dX8_joinedTo_33 (by decide) ?_
          exact ih_4 n x2_29 (i + 1) (by first | omega | assumption) (by first | omega | assumption) (by rw [ex2_29, Int.add_zero]; exact itr_if_f (p := fun j => S 12 j = x0) h_R c_20) ⟨by omega, by omega⟩ (by omega) _ (lv_sub hl [2, 3, 1, 0] rfl)
        · refine zi_iconst hx hb dX8_joinedTo_23 ?_
          refine lv_goto (tgt := 28) hx hb dX8_joinedTo_24 (by decide) ?_
          refine zi_iadd hx hb dX8_joinedTo_28 ?_
          refine zi_top (fun x2_29 ex2_29 => ?_)
          refine lv_istore_n (lv' := [(2, .int (zi x2_29)), (0, .ref (bd 0)), (1, .int (zi x0)), (3, .int (zi i))]) hx hb dX8_joinedTo_29 rfl hl (by decide) rfl (fun ls hl => ?_)
          refine zi_iinc (k := 3) (lv' := [(3, .int (zi (i + 1))), (2, .int (zi x2_29)), (0, .ref (bd 0)), (1, .int (zi x0))]) hx hb dX8_joinedTo_30 hl rfl (by decide) rfl (fun ls hl => ?_)
          refine lv_goto (tgt := 4) hx hb dX8_joinedTo_33 (by decide) ?_
          exact ih_4 n x2_29 (i + 1) (by first | omega | assumption) (by first | omega | assumption) (by rw [ex2_29]; exact itr_if_t (p := fun j => S 12 j = x0) h_R c_20) ⟨by omega, by omega⟩ (by omega) _ (lv_sub hl [2, 3, 1, 0] rfl)
  refine lv_istore_n (lv' := [(3, .int (zi 0)), (2, .int (zi 0)), (0, .ref (bd 0)), (1, .int (zi x0))]) hx hb dX8_joinedTo_3 rfl hl (by decide) rfl (fun ls hl => ?_)
  exact K_4 ((S 11 0).toNat + 1) ((S 11 0).toNat) 0 0 (by first | omega | assumption) (by first | omega | assumption) rfl ⟨by omega, by omega⟩ (by omega) _ (lv_sub hl [2, 3, 1, 0] rfl)

theorem in_X8_latest_8 : ∀ w ∈ wsX80, w ∈ wsX8_latest := by decide +kernel
theorem lk_X8_latest_95 : Cond.fieldLink RX8 95 "PlanetoidDeskModel" "bodies" "I" ∈ wsX8_latest := by decide +kernel
theorem lk_X8_latest_34 : Cond.fieldLink RX8 34 "PlanetoidDeskModel" "above" "[I" ∈ wsX8_latest := by decide +kernel
theorem lk_X8_latest_37 : Cond.fieldLink RX8 37 "PlanetoidDeskModel" "joinedAt" "[I" ∈ wsX8_latest := by decide +kernel
abbrev rmct_X8_latest : Room := { frames := 0, cells := 0, slots := 0, locals := 0 }
set_option maxHeartbeats 4000000 in
set_option maxRecDepth 100000 in
theorem ct_X8_latest (l : Launch) (D : va_G) (cI cZ cJ : ClassId) (bd : Nat → Nat) (S : ZS) (hI : MI S) (x0 : Int) (hx0 : ir x0)  : Met l yX8_latest wsX8_latest rmct_X8_latest (zP D cI cZ cJ (mW cI cZ bd S) [.ref (bd 0), .int (zi x0)]) (k2_QcV (.int (zi (lateM S x0)))) 0 0 (fun _ => False) := by
  refine Met.ofW (cc := cX8_latest) (maxL := 4) (ret := (some .int)) (by decide) rfl ?_
  intro p e s m args below meth c s₁ B hml hv
  obtain ⟨rfl, hP, hK⟩ := hv
  have hx := B.exec
  have hb := B.bytes
  have hr := B.returns
  have hts := atoms_spec (ws := wsX8_latest) B.pre
  have hown : s.vm.findClass RX8 = some m.cls := findClass_of_methodNamed B.named
  have hlocks := B.notSynchronized
  have hl := lv_entry ([.ref (bd 0), .int (zi x0)]) (n := 4) (Nat.le_of_ble_eq_true rfl)
  rw [lg_entry_eq]
  generalize (lg_sl ([.ref (bd 0), .int (zi x0)]) ++ List.replicate (4 - (lg_sl ([.ref (bd 0), .int (zi x0)])).length) Slot.unset).toArray = ls at hl ⊢
  have hl : lv_has ls 4 [(0, .ref (bd 0)), (1, .int (zi x0))] := hl
  show W p l e rmct_X8_latest s m ([.ref (bd 0), .int (zi x0)] : List Value).toArray below meth c s.heap [] 0 0 (MQ below (k2_QcV (.int (zi (lateM S x0)))) ([.ref (bd 0), .int (zi x0)] : List Value).toArray s 0 0 (fun _ => False)) (F0 m 0 ls [])
  have hc0 : (0 : Int) ≤ S 11 0 ∧ S 11 0 ≤ 20 := hI 11 0
  refine zi_iconst hx hb dX8_latest_0 ?_
  refine lv_istore_n (lv' := [(2, .int (zi (-1))), (0, .ref (bd 0)), (1, .int (zi x0))]) hx hb dX8_latest_1 rfl hl (by decide) rfl (fun ls hl => ?_)
  refine zi_iconst hx hb dX8_latest_2 ?_
  have K_4 : ∀ (k : Nat) (n : Nat) (acc i : Int), (i + (n : Int) = S 11 0) → (0 ≤ i) → (itr (lateG S x0) n i acc = lateM S x0) → (-1 ≤ acc ∧ acc ≤ i) → ((n : Int) < (k : Int)) → ∀ (ls : Array Slot), lv_has ls 4 [(0, .ref (bd 0)), (1, .int (zi x0)), (2, .int (zi acc)), (3, .int (zi i))] → W p l e rmct_X8_latest s m ([.ref (bd 0), .int (zi x0)] : List Value).toArray below meth c s.heap [] 0 0 (MQ below (k2_QcV (.int (zi (lateM S x0)))) ([.ref (bd 0), .int (zi x0)] : List Value).toArray s 0 0 (fun _ => False)) (F0 m 4 ls []) := by
    intro k
    induction k with
    | zero => intro n acc i h_n h_i h_R h_a hk; exact absurd hk (by omega)
    | succ k ih_4 =>
      intro n acc i h_n h_i h_R h_a hk ls hl
      refine lv_iload_n hx hb dX8_latest_4 rfl (lv_at hl 3 rfl) ?_
      refine lv_aload_n hx hb dX8_latest_5 rfl (lv_at hl 0 rfl) ?_
      refine va_get (D := D) (ci := 8) (v := .int (zi (S 11 0))) (C := RX8) (T := TX8) (N := 32) hx hb hts in_X8_latest_8 hown hK.1 hP 0 rfl rfl 11 (by decide) (hts _ lk_X8_latest_95) (fun _ h9 => h9) rfl dX8_latest_6 ?_
      have f_6 : (0 : Int) ≤ S 11 0 ∧ S 11 0 ≤ 20 := hI 11 0
      refine zi_icmp_ge (tgt := 54) hx hb ⟨by omega, by omega⟩ ⟨by omega, by omega⟩ dX8_latest_9 (by decide) (fun c_9 => ?_) (fun c_9 => ?_)
      · obtain rfl : n = 0 := by omega
        refine lv_iload_n hx hb dX8_latest_54 rfl (lv_at hl 2 rfl) ?_
        exact zr_i hx hb hr hlocks dX8_latest_55 (by exact h_R)
      · obtain ⟨n, rfl⟩ : ∃ n9 : Nat, n = n9 + 1 := ⟨n - 1, by omega⟩
        refine lv_aload_n hx hb dX8_latest_12 rfl (lv_at hl 0 rfl) ?_
        refine va_get (D := D) (ci := 8) (v := .ref (bd 13)) (C := RX8) (T := TX8) (N := 32) hx hb hts in_X8_latest_8 hown hK.1 hP 0 rfl rfl 12 (by decide) (hts _ lk_X8_latest_34) (fun _ h9 => h9) rfl dX8_latest_13 ?_
        refine lv_iload_n hx hb dX8_latest_16 rfl (lv_at hl 3 rfl) ?_
        refine zi_iald hx hb hK.1 hP 9 0 rfl rfl (by omega) (by omega) (by decide) dX8_latest_17 ?_
        have f_17 : (-1 : Int) ≤ S 12 i ∧ S 12 i ≤ 19 := hI 12 i
        refine lv_iload_n hx hb dX8_latest_18 rfl (lv_at hl 1 rfl) ?_
        refine zi_icmp_ne (tgt := 46) hx hb ⟨by omega, by omega⟩ ⟨by omega, by omega⟩ dX8_latest_19 (by decide) (fun c_19 => ?_) (fun c_19 => ?_)
        · refine lv_iload_n hx hb dX8_latest_46 rfl (lv_at hl 2 rfl) ?_
          refine lv_istore_n (lv' := [(2, .int (zi acc)), (0, .ref (bd 0)), (1, .int (zi x0)), (3, .int (zi i))]) hx hb dX8_latest_47 rfl hl (by decide) rfl (fun ls hl => ?_)
          refine zi_iinc (k := 3) (lv' := [(3, .int (zi (i + 1))), (2, .int (zi acc)), (0, .ref (bd 0)), (1, .int (zi x0))]) hx hb dX8_latest_48 hl rfl (by decide) rfl (fun ls hl => ?_)
          refine lv_goto (tgt := 4) hx hb dX8_latest_51 (by decide) ?_
          exact ih_4 n acc (i + 1) (by first | omega | assumption) (by first | omega | assumption) (by rw [← h_R, itr_s]; congr 1; exact (if_neg (fun h9 => c_19 h9.1)).symm) ⟨by omega, by omega⟩ (by omega) _ (lv_sub hl [2, 3, 1, 0] rfl)
        · refine lv_iload_n hx hb dX8_latest_22 rfl (lv_at hl 2 rfl) ?_
          refine zi_iconst hx hb dX8_latest_23 ?_
          refine zi_icmp_eq (tgt := 42) hx hb ⟨by omega, by omega⟩ ⟨by decide, by decide⟩ dX8_latest_24 (by decide) (fun c_24 => ?_) (fun c_24 => ?_)
          · refine lv_iload_n hx hb dX8_latest_42 rfl (lv_at hl 3 rfl) ?_
            refine lv_goto (tgt := 47) hx hb dX8_latest_43 (by decide) ?_
            refine lv_istore_n (lv' := [(2, .int (zi i)), (0, .ref (bd 0)), (1, .int (zi x0)), (3, .int (zi i))]) hx hb dX8_latest_47 rfl hl (by decide) rfl (fun ls hl => ?_)
            refine zi_iinc (k := 3) (lv' := [(3, .int (zi (i + 1))), (2, .int (zi i)), (0, .ref (bd 0)), (1, .int (zi x0))]) hx hb dX8_latest_48 hl rfl (by decide) rfl (fun ls hl => ?_)
            refine lv_goto (tgt := 4) hx hb dX8_latest_51 (by decide) ?_
            exact ih_4 n i (i + 1) (by first | omega | assumption) (by first | omega | assumption) (by rw [← h_R, itr_s]; congr 1; exact (if_pos ⟨c_19, Or.inl c_24⟩).symm) ⟨by omega, by omega⟩ (by omega) _ (lv_sub hl [2, 3, 1, 0] rfl)
          · refine lv_aload_n hx hb dX8_latest_27 rfl (lv_at hl 0 rfl) ?_
            refine va_get (D := D) (ci := 8) (v := .ref (bd 14)) (C := RX8) (T := TX8) (N := 32) hx hb hts in_X8_latest_8 hown hK.1 hP 0 rfl rfl 13 (by decide) (hts _ lk_X8_latest_37) (fun _ h9 => h9) rfl dX8_latest_28 ?_
            refine lv_iload_n hx hb dX8_latest_31 rfl (lv_at hl 3 rfl) ?_
            refine zi_iald hx hb hK.1 hP 10 0 rfl rfl (by omega) (by omega) (by decide) dX8_latest_32 ?_
            have f_32 : (0 : Int) ≤ S 13 i ∧ S 13 i ≤ 100000 := hI 13 i
            refine lv_aload_n hx hb dX8_latest_33 rfl (lv_at hl 0 rfl) ?_
            refine va_get (D := D) (ci := 8) (v := .ref (bd 14)) (C := RX8) (T := TX8) (N := 32) hx hb hts in_X8_latest_8 hown hK.1 hP 0 rfl rfl 13 (by decide) (hts _ lk_X8_latest_37) (fun _ h9 => h9) rfl dX8_latest_34 ?_
            refine lv_iload_n hx hb dX8_latest_37 rfl (lv_at hl 2 rfl) ?_
            refine zi_iald hx hb hK.1 hP 10 0 rfl rfl (by omega) (by omega) (by decide) dX8_latest_38 ?_
            have f_38 : (0 : Int) ≤ S 13 acc ∧ S 13 acc ≤ 100000 := hI 13 acc
            refine zi_icmp_le (tgt := 46) hx hb ⟨by omega, by omega⟩ ⟨by omega, by omega⟩ dX8_latest_39 (by decide) (fun c_39 => ?_) (fun c_39 => ?_)
            · refine lv_iload_n hx hb dX8_latest_46 rfl (lv_at hl 2 rfl) ?_
              refine lv_istore_n (lv' := [(2, .int (zi acc)), (0, .ref (bd 0)), (1, .int (zi x0)), (3, .int (zi i))]) hx hb dX8_latest_47 rfl hl (by decide) rfl (fun ls hl => ?_)
              refine zi_iinc (k := 3) (lv' := [(3, .int (zi (i + 1))), (2, .int (zi acc)), (0, .ref (bd 0)), (1, .int (zi x0))]) hx hb dX8_latest_48 hl rfl (by decide) rfl (fun ls hl => ?_)
              refine lv_goto (tgt := 4) hx hb dX8_latest_51 (by decide) ?_
              exact ih_4 n acc (i + 1) (by first | omega | assumption) (by first | omega | assumption) (by rw [← h_R, itr_s]; congr 1; exact (if_neg (fun h9 => h9.2.elim c_24 (fun h8 => absurd h8 (Int.not_lt.mpr c_39)))).symm) ⟨by omega, by omega⟩ (by omega) _ (lv_sub hl [2, 3, 1, 0] rfl)
            · refine lv_iload_n hx hb dX8_latest_42 rfl (lv_at hl 3 rfl) ?_
              refine lv_goto (tgt := 47) hx hb dX8_latest_43 (by decide) ?_
              refine lv_istore_n (lv' := [(2, .int (zi i)), (0, .ref (bd 0)), (1, .int (zi x0)), (3, .int (zi i))]) hx hb dX8_latest_47 rfl hl (by decide) rfl (fun ls hl => ?_)
              refine zi_iinc (k := 3) (lv' := [(3, .int (zi (i + 1))), (2, .int (zi i)), (0, .ref (bd 0)), (1, .int (zi x0))]) hx hb dX8_latest_48 hl rfl (by decide) rfl (fun ls hl => ?_)
              refine lv_goto (tgt := 4) hx hb dX8_latest_51 (by decide) ?_
              exact ih_4 n i (i + 1) (by first | omega | assumption) (by first | omega | assumption) (by rw [← h_R, itr_s]; congr 1; exact (if_pos ⟨c_19, Or.inr (Int.not_le.mp c_39)⟩).symm) ⟨by omega, by omega⟩ (by omega) _ (lv_sub hl [2, 3, 1, 0] rfl)
  refine lv_istore_n (lv' := [(3, .int (zi 0)), (2, .int (zi (-1))), (0, .ref (bd 0)), (1, .int (zi x0))]) hx hb dX8_latest_3 rfl hl (by decide) rfl (fun ls hl => ?_)
  exact K_4 ((S 11 0).toNat + 1) ((S 11 0).toNat) (-1) 0 (by first | omega | assumption) (by first | omega | assumption) rfl ⟨by omega, by omega⟩ (by omega) _ (lv_sub hl [2, 3, 1, 0] rfl)

theorem in_X8_isOnPlate_8 : ∀ w ∈ wsX80, w ∈ wsX8_isOnPlate := by decide +kernel
theorem lk_X8_isOnPlate_22 : Cond.fieldLink RX8 22 "PlanetoidDeskModel" "plateOf" "[I" ∈ wsX8_isOnPlate := by decide +kernel
theorem lk_X8_isOnPlate_49 : Cond.fieldLink RX8 49 "PlanetoidDeskModel" "look" "[I" ∈ wsX8_isOnPlate := by decide +kernel
abbrev rmct_X8_isOnPlate : Room := { frames := 0, cells := 0, slots := 0, locals := 0 }
set_option maxHeartbeats 4000000 in
set_option maxRecDepth 100000 in
theorem ct_X8_isOnPlate (l : Launch) (D : va_G) (cI cZ cJ : ClassId) (bd : Nat → Nat) (S : ZS) (hI : MI S) (x0 x1 : Int) (hx0 : ir x0) (hx1 : ir x1) (hp10 : 0 ≤ x1) (hp11 : x1 ≤ 60) : Met l yX8_isOnPlate wsX8_isOnPlate rmct_X8_isOnPlate (zP D cI cZ cJ (mW cI cZ bd S) [.ref (bd 0), .int (zi x0), .int (zi x1)]) (k2_QcV (.int (zi (b2 (onP S x0 x1))))) 0 0 (fun _ => False) := by
  refine Met.ofW (cc := cX8_isOnPlate) (maxL := 5) (ret := (some .boolean)) (by decide) rfl ?_
  intro p e s m args below meth c s₁ B hml hv
  obtain ⟨rfl, hP, hK⟩ := hv
  have hx := B.exec
  have hb := B.bytes
  have hr := B.returns
  have hts := atoms_spec (ws := wsX8_isOnPlate) B.pre
  have hown : s.vm.findClass RX8 = some m.cls := findClass_of_methodNamed B.named
  have hlocks := B.notSynchronized
  have hl := lv_entry ([.ref (bd 0), .int (zi x0), .int (zi x1)]) (n := 5) (Nat.le_of_ble_eq_true rfl)
  rw [lg_entry_eq]
  generalize (lg_sl ([.ref (bd 0), .int (zi x0), .int (zi x1)]) ++ List.replicate (5 - (lg_sl ([.ref (bd 0), .int (zi x0), .int (zi x1)])).length) Slot.unset).toArray = ls at hl ⊢
  have hl : lv_has ls 5 [(0, .ref (bd 0)), (1, .int (zi x0)), (2, .int (zi x1))] := hl
  show W p l e rmct_X8_isOnPlate s m ([.ref (bd 0), .int (zi x0), .int (zi x1)] : List Value).toArray below meth c s.heap [] 0 0 (MQ below (k2_QcV (.int (zi (b2 (onP S x0 x1))))) ([.ref (bd 0), .int (zi x0), .int (zi x1)] : List Value).toArray s 0 0 (fun _ => False)) (F0 m 0 ls [])
  refine zi_iconst hx hb dX8_isOnPlate_0 ?_
  refine lv_istore_n (lv' := [(3, .int (zi 0)), (0, .ref (bd 0)), (1, .int (zi x0)), (2, .int (zi x1))]) hx hb dX8_isOnPlate_1 rfl hl (by decide) rfl (fun ls hl => ?_)
  refine zi_iconst hx hb dX8_isOnPlate_2 ?_
  have K_5 : ∀ (k : Nat) (n : Nat) (is9 i : Int), (i + (n : Int) = x1) → (0 ≤ i) → (0 ≤ is9 ∧ is9 ≤ 1) → ((is9 = 1 ∧ 1 = b2 (onP S x0 x1)) ∨ (is9 = 0 ∧ b2 (anyI (fun k => S 7 (S 20 k) = x0) n i) = b2 (onP S x0 x1))) → ((n : Int) < (k : Int)) → ∀ (ls : Array Slot), lv_has ls 5 [(0, .ref (bd 0)), (1, .int (zi x0)), (2, .int (zi x1)), (3, .int (zi is9)), (4, .int (zi i))] → W p l e rmct_X8_isOnPlate s m ([.ref (bd 0), .int (zi x0), .int (zi x1)] : List Value).toArray below meth c s.heap [] 0 0 (MQ below (k2_QcV (.int (zi (b2 (onP S x0 x1))))) ([.ref (bd 0), .int (zi x0), .int (zi x1)] : List Value).toArray s 0 0 (fun _ => False)) (F0 m 5 ls []) := by
    intro k
    induction k with
    | zero => intro n is9 i h_n h_i h_b h_R hk; exact absurd hk (by omega)
    | succ k ih_5 =>
      intro n is9 i h_n h_i h_b h_R hk ls hl
      refine lv_iload hx hb dX8_isOnPlate_5 (lv_at hl 4 rfl) ?_
      refine lv_iload_n hx hb dX8_isOnPlate_7 rfl (lv_at hl 2 rfl) ?_
      refine zi_icmp_ge (tgt := 43) hx hb ⟨by omega, by omega⟩ ⟨by omega, by omega⟩ dX8_isOnPlate_8 (by decide) (fun c_8 => ?_) (fun c_8 => ?_)
      · obtain rfl : n = 0 := by omega
        refine lv_iload_n hx hb dX8_isOnPlate_43 rfl (lv_at hl 3 rfl) ?_
        exact zr_z hx hb hr hlocks dX8_isOnPlate_44 (by first | assumption | omega) (by exact any_end h_R)
      · obtain ⟨n, rfl⟩ : ∃ n9 : Nat, n = n9 + 1 := ⟨n - 1, by omega⟩
        refine lv_iload_n hx hb dX8_isOnPlate_11 rfl (lv_at hl 3 rfl) ?_
        refine zi_if_ne (tgt := 31) hx hb ⟨by omega, by omega⟩ dX8_isOnPlate_12 (by decide) (fun c_12 => ?_) (fun c_12 => ?_)
        · refine zi_iconst hx hb dX8_isOnPlate_31 ?_
          refine lv_goto (tgt := 36) hx hb dX8_isOnPlate_32 (by decide) ?_
          refine lv_istore_n (lv' := [(3, .int (zi 1)), (0, .ref (bd 0)), (1, .int (zi x0)), (2, .int (zi x1)), (4, .int (zi i))]) hx hb dX8_isOnPlate_36 rfl hl (by decide) rfl (fun ls hl => ?_)
          refine zi_iinc (k := 4) (lv' := [(4, .int (zi (i + 1))), (3, .int (zi 1)), (0, .ref (bd 0)), (1, .int (zi x0)), (2, .int (zi x1))]) hx hb dX8_isOnPlate_37 hl rfl (by decide) rfl (fun ls hl => ?_)
          refine lv_goto (tgt := 5) hx hb dX8_isOnPlate_40 (by decide) ?_
          exact ih_5 n 1 (i + 1) (by first | omega | assumption) (by first | omega | assumption) ⟨by decide, by decide⟩ (any_d h_R c_12) (by omega) _ (lv_sub hl [2, 3, 4, 1, 0] rfl)
        · refine lv_aload_n hx hb dX8_isOnPlate_15 rfl (lv_at hl 0 rfl) ?_
          refine va_get (D := D) (ci := 8) (v := .ref (bd 8)) (C := RX8) (T := TX8) (N := 32) hx hb hts in_X8_isOnPlate_8 hown hK.1 hP 0 rfl rfl 7 (by decide) (hts _ lk_X8_isOnPlate_22) (fun _ h9 => h9) rfl dX8_isOnPlate_16 ?_
          refine lv_aload_n hx hb dX8_isOnPlate_19 rfl (lv_at hl 0 rfl) ?_
          refine va_get (D := D) (ci := 8) (v := .ref (bd 21)) (C := RX8) (T := TX8) (N := 32) hx hb hts in_X8_isOnPlate_8 hown hK.1 hP 0 rfl rfl 20 (by decide) (hts _ lk_X8_isOnPlate_49) (fun _ h9 => h9) rfl dX8_isOnPlate_20 ?_
          refine lv_iload hx hb dX8_isOnPlate_23 (lv_at hl 4 rfl) ?_
          refine zi_iald hx hb hK.1 hP 14 0 rfl rfl (by omega) (by omega) (by decide) dX8_isOnPlate_25 ?_
          have f_25 : (0 : Int) ≤ S 20 i ∧ S 20 i ≤ 59 := hI 20 i
          refine zi_iald hx hb hK.1 hP 5 0 rfl rfl (by omega) (by omega) (by decide) dX8_isOnPlate_26 ?_
          have f_26 : (0 : Int) ≤ S 7 (S 20 i) ∧ S 7 (S 20 i) ≤ 29 := hI 7 (S 20 i)
          refine lv_iload_n hx hb dX8_isOnPlate_27 rfl (lv_at hl 1 rfl) ?_
          refine zi_icmp_ne (tgt := 35) hx hb ⟨by omega, by omega⟩ ⟨by omega, by omega⟩ dX8_isOnPlate_28 (by decide) (fun c_28 => ?_) (fun c_28 => ?_)
          · refine zi_iconst hx hb dX8_isOnPlate_35 ?_
            refine lv_istore_n (lv' := [(3, .int (zi 0)), (0, .ref (bd 0)), (1, .int (zi x0)), (2, .int (zi x1)), (4, .int (zi i))]) hx hb dX8_isOnPlate_36 rfl hl (by decide) rfl (fun ls hl => ?_)
            refine zi_iinc (k := 4) (lv' := [(4, .int (zi (i + 1))), (3, .int (zi 0)), (0, .ref (bd 0)), (1, .int (zi x0)), (2, .int (zi x1))]) hx hb dX8_isOnPlate_37 hl rfl (by decide) rfl (fun ls hl => ?_)
            refine lv_goto (tgt := 5) hx hb dX8_isOnPlate_40 (by decide) ?_
            exact ih_5 n 0 (i + 1) (by first | omega | assumption) (by first | omega | assumption) ⟨by decide, by decide⟩ (any_0 h_R (by omega) c_28) (by omega) _ (lv_sub hl [2, 3, 4, 1, 0] rfl)
          · refine zi_iconst hx hb dX8_isOnPlate_31 ?_
            refine lv_goto (tgt := 36) hx hb dX8_isOnPlate_32 (by decide) ?_
            refine lv_istore_n (lv' := [(3, .int (zi 1)), (0, .ref (bd 0)), (1, .int (zi x0)), (2, .int (zi x1)), (4, .int (zi i))]) hx hb dX8_isOnPlate_36 rfl hl (by decide) rfl (fun ls hl => ?_)
            refine zi_iinc (k := 4) (lv' := [(4, .int (zi (i + 1))), (3, .int (zi 1)), (0, .ref (bd 0)), (1, .int (zi x0)), (2, .int (zi x1))]) hx hb dX8_isOnPlate_37 hl rfl (by decide) rfl (fun ls hl => ?_)
            refine lv_goto (tgt := 5) hx hb dX8_isOnPlate_40 (by decide) ?_
            exact ih_5 n 1 (i + 1) (by first | omega | assumption) (by first | omega | assumption) ⟨by decide, by decide⟩ (any_1 h_R c_28) (by omega) _ (lv_sub hl [2, 3, 4, 1, 0] rfl)
  refine lv_istore (lv' := [(4, .int (zi 0)), (3, .int (zi 0)), (0, .ref (bd 0)), (1, .int (zi x0)), (2, .int (zi x1))]) hx hb dX8_isOnPlate_3 hl (by decide) rfl (fun ls hl => ?_)
  exact K_5 (x1.toNat + 1) x1.toNat 0 0 (by first | omega | assumption) (by first | omega | assumption) ⟨by decide, by decide⟩ (Or.inr ⟨rfl, by rw [onP]⟩) (by omega) _ (lv_sub hl [2, 3, 4, 1, 0] rfl)

theorem in_X8_firstOf_8 : ∀ w ∈ wsX80, w ∈ wsX8_firstOf := by decide +kernel
theorem lk_X8_firstOf_49 : Cond.fieldLink RX8 49 "PlanetoidDeskModel" "look" "[I" ∈ wsX8_firstOf := by decide +kernel
theorem lk_X8_firstOf_127 : Cond.fieldLink RX8 127 "PlanetoidDeskModel" "looks" "I" ∈ wsX8_firstOf := by decide +kernel
abbrev rmct_X8_firstOf : Room := { frames := 3, cells := 0, slots := 0, locals := 66 }
set_option maxHeartbeats 4000000 in
set_option maxRecDepth 100000 in
theorem ct_X8_firstOf (l : Launch) (D : va_G) (cI cZ cJ : ClassId) (bd : Nat → Nat) (S : ZS) (hI : MI S) (hdis : mDis bd) (x0 : Int) (hx0 : ir x0) (hp00 : 0 ≤ x0) (hp01 : x0 ≤ 19) (hac : accM S) : Met l yX8_firstOf wsX8_firstOf rmct_X8_firstOf (zP D cI cZ cJ (mW cI cZ bd S) [.ref (bd 0), .int (zi x0)]) (zWi D (mW cI cZ bd) (mA bd) (fun r T => r = firstM (laysM x0 S) ∧ T = laysM x0 S ∧ MI T)) 0 0 (mA bd) := by
  refine Met.ofW (cc := cX8_firstOf) (maxL := 4) (ret := (some .int)) (by decide) rfl ?_
  intro p e s m args below meth c s₁ B hml hv
  obtain ⟨rfl, hP, hK⟩ := hv
  have hx := B.exec
  have hb := B.bytes
  have hr := B.returns
  have hts := atoms_spec (ws := wsX8_firstOf) B.pre
  have hown : s.vm.findClass RX8 = some m.cls := findClass_of_methodNamed B.named
  have hlocks := B.notSynchronized
  have hl := lv_entry ([.ref (bd 0), .int (zi x0)]) (n := 4) (Nat.le_of_ble_eq_true rfl)
  rw [lg_entry_eq]
  generalize (lg_sl ([.ref (bd 0), .int (zi x0)]) ++ List.replicate (4 - (lg_sl ([.ref (bd 0), .int (zi x0)])).length) Slot.unset).toArray = ls at hl ⊢
  have hl : lv_has ls 4 [(0, .ref (bd 0)), (1, .int (zi x0))] := hl
  have hS : va_S (mA bd) s.heap s.heap [] := va_S.rf
  show W p l e rmct_X8_firstOf s m ([.ref (bd 0), .int (zi x0)] : List Value).toArray below meth c s.heap [] 0 0 (MQ below (zWi D (mW cI cZ bd) (mA bd) (fun r T => r = firstM (laysM x0 S) ∧ T = laysM x0 S ∧ MI T)) ([.ref (bd 0), .int (zi x0)] : List Value).toArray s 0 0 (mA bd)) (F0 m 0 ls [])
  refine lv_aload_n hx hb dX8_firstOf_0 rfl (lv_at hl 0 rfl) ?_
  refine lv_iload_n hx hb dX8_firstOf_1 rfl (lv_at hl 1 rfl) ?_
  refine zk_wv (zc_V (As := [.int (zi x0)]) (rest := []) ⟨hx, hb, hml, hown, hts⟩ (ct_X8_lays l D cI cZ cJ bd S hI hdis x0 ⟨by omega, by omega⟩ (by omega) (by omega) hac) (cwV 1 hts gX8_firstOf_X8_lays rfl rfl rfl (by decide +kernel) ⟨Nat.le_of_ble_eq_true rfl, Nat.le_of_ble_eq_true rfl⟩) hK hP (q0 := 0) (ci := 8) rfl rfl rfl rfl hl.1 rfl (Nat.le_of_ble_eq_true rfl) dX8_firstOf_2 ⟨Nat.zero_le _, Nat.zero_le _⟩) hS (fun S_2 H locs hp_2 hP hS => ?_)
  obtain ⟨e9, hI_2⟩ := hp_2
  have eS_2 := e9.symm; clear e9
  have fk_19 : (0 : Int) ≤ S_2 19 0 ∧ S_2 19 0 ≤ 60 := hI_2 19 0
  refine lv_aload_n hx hb dX8_firstOf_5 rfl (lv_at hl 0 rfl) ?_
  refine va_get (D := D) (ci := 8) (v := .ref (bd 21)) (C := RX8) (T := TX8) (N := 32) hx hb hts in_X8_firstOf_8 hown hK.1 hP 0 rfl rfl 20 (by decide) (hts _ lk_X8_firstOf_49) (fun _ h9 => h9) rfl dX8_firstOf_6 ?_
  refine zi_iconst hx hb dX8_firstOf_9 ?_
  refine zi_iald hx hb hK.1 hP 14 0 rfl rfl (by omega) (by omega) (by decide) dX8_firstOf_10 ?_
  have f_10 : (0 : Int) ≤ S_2 20 0 ∧ S_2 20 0 ≤ 59 := hI_2 20 0
  refine zi_top (fun x2_11 ex2_11 => ?_)
  refine lv_istore_n (lv' := [(2, .int (zi x2_11)), (0, .ref (bd 0)), (1, .int (zi x0))]) hx hb dX8_firstOf_11 rfl hl (by decide) rfl (fun ls hl => ?_)
  refine zi_iconst hx hb dX8_firstOf_12 ?_
  have K_14 : ∀ (k : Nat) (n : Nat) (f i : Int), ((i + (n : Int) = S_2 19 0 ∨ (n = 0 ∧ S_2 19 0 ≤ i))) → (1 ≤ i ∧ i ≤ 61) → (0 ≤ f ∧ f ≤ 59) → (itr (fun i f => if nM S_2 (S_2 20 i) < nM S_2 f then S_2 20 i else f) n i f = firstM S_2) → ((n : Int) < (k : Int)) → ∀ (ls : Array Slot), lv_has ls 4 [(0, .ref (bd 0)), (1, .int (zi x0)), (2, .int (zi f)), (3, .int (zi i))] → W p l e rmct_X8_firstOf s m ([.ref (bd 0), .int (zi x0)] : List Value).toArray below meth c H locs 0 0 (MQ below (zWi D (mW cI cZ bd) (mA bd) (fun r T => r = firstM (laysM x0 S) ∧ T = laysM x0 S ∧ MI T)) ([.ref (bd 0), .int (zi x0)] : List Value).toArray s 0 0 (mA bd)) (F0 m 14 ls []) := by
    intro k
    induction k with
    | zero => intro n f i h_n h_i h_f h_R hk; exact absurd hk (by omega)
    | succ k ih_14 =>
      intro n f i h_n h_i h_f h_R hk ls hl
      refine lv_iload_n hx hb dX8_firstOf_14 rfl (lv_at hl 3 rfl) ?_
      refine lv_aload_n hx hb dX8_firstOf_15 rfl (lv_at hl 0 rfl) ?_
      refine va_get (D := D) (ci := 8) (v := .int (zi (S_2 19 0))) (C := RX8) (T := TX8) (N := 32) hx hb hts in_X8_firstOf_8 hown hK.1 hP 0 rfl rfl 19 (by decide) (hts _ lk_X8_firstOf_127) (fun _ h9 => h9) rfl dX8_firstOf_16 ?_
      have f_16 : (0 : Int) ≤ S_2 19 0 ∧ S_2 19 0 ≤ 60 := hI_2 19 0
      refine zi_icmp_ge (tgt := 57) hx hb ⟨by omega, by omega⟩ ⟨by omega, by omega⟩ dX8_firstOf_19 (by decide) (fun c_19 => ?_) (fun c_19 => ?_)
      · obtain rfl : n = 0 := by omega
        refine lv_iload_n hx hb dX8_firstOf_57 rfl (lv_at hl 2 rfl) ?_
        exact zr_wi (T := S_2) hx hb hr hlocks dX8_firstOf_58 hP hS (by exact ⟨by rw [eS_2, ← h_R]; rfl, eS_2.symm, hI_2⟩)
      · obtain ⟨n, rfl⟩ : ∃ n9 : Nat, n = n9 + 1 := ⟨n - 1, by omega⟩
        refine lv_aload_n hx hb dX8_firstOf_22 rfl (lv_at hl 0 rfl) ?_
        refine lv_aload_n hx hb dX8_firstOf_23 rfl (lv_at hl 0 rfl) ?_
        refine va_get (D := D) (ci := 8) (v := .ref (bd 21)) (C := RX8) (T := TX8) (N := 32) hx hb hts in_X8_firstOf_8 hown hK.1 hP 0 rfl rfl 20 (by decide) (hts _ lk_X8_firstOf_49) (fun _ h9 => h9) rfl dX8_firstOf_24 ?_
        refine lv_iload_n hx hb dX8_firstOf_27 rfl (lv_at hl 3 rfl) ?_
        refine zi_iald hx hb hK.1 hP 14 0 rfl rfl (by omega) (by omega) (by decide) dX8_firstOf_28 ?_
        have f_28 : (0 : Int) ≤ S_2 20 i ∧ S_2 20 i ≤ 59 := hI_2 20 i
        refine zk_r (zc_V (As := [.int (zi (S_2 20 i))]) (rest := []) ⟨hx, hb, hml, hown, hts⟩ (ct_X8_nightOf l D cI cZ cJ bd S_2 hI_2 (S_2 20 i) ⟨by omega, by omega⟩ (by omega) (by omega)) (cwV 1 hts gX8_firstOf_X8_nightOf rfl rfl rfl (by decide +kernel) ⟨Nat.le_of_ble_eq_true rfl, Nat.le_of_ble_eq_true rfl⟩) hK hP (q0 := 0) (ci := 8) rfl rfl rfl rfl hl.1 rfl (Nat.le_of_ble_eq_true rfl) dX8_firstOf_29 ⟨Nat.zero_le _, Nat.zero_le _⟩) ?_
        refine zi_top (fun (r_29 : Int) (er_29 : r_29 = nM S_2 (S_2 20 i)) => ?_)
        have fr_29 : (0 : Int) ≤ r_29 ∧ r_29 ≤ 999 := by rw [er_29]; exact nM_b hI_2 _
        refine lv_aload_n hx hb dX8_firstOf_32 rfl (lv_at hl 0 rfl) ?_
        refine lv_iload_n hx hb dX8_firstOf_33 rfl (lv_at hl 2 rfl) ?_
        refine zk_r (zc_V (As := [.int (zi f)]) (rest := [.int (zi r_29)]) ⟨hx, hb, hml, hown, hts⟩ (ct_X8_nightOf l D cI cZ cJ bd S_2 hI_2 f ⟨by omega, by omega⟩ (by omega) (by omega)) (cwV 1 hts gX8_firstOf_X8_nightOf rfl rfl rfl (by decide +kernel) ⟨Nat.le_of_ble_eq_true rfl, Nat.le_of_ble_eq_true rfl⟩) hK hP (q0 := 0) (ci := 8) rfl rfl rfl rfl hl.1 rfl (Nat.le_of_ble_eq_true rfl) dX8_firstOf_34 ⟨Nat.zero_le _, Nat.zero_le _⟩) ?_
        refine zi_top (fun (r_34 : Int) (er_34 : r_34 = nM S_2 f) => ?_)
        have fr_34 : (0 : Int) ≤ r_34 ∧ r_34 ≤ 999 := by rw [er_34]; exact nM_b hI_2 _
        refine zi_icmp_ge (tgt := 49) hx hb ⟨by omega, by omega⟩ ⟨by omega, by omega⟩ dX8_firstOf_37 (by decide) (fun c_37 => ?_) (fun c_37 => ?_)
        · refine lv_iload_n hx hb dX8_firstOf_49 rfl (lv_at hl 2 rfl) ?_
          refine lv_istore_n (lv' := [(2, .int (zi f)), (0, .ref (bd 0)), (1, .int (zi x0)), (3, .int (zi i))]) hx hb dX8_firstOf_50 rfl hl (by decide) rfl (fun ls hl => ?_)
          refine zi_iinc (k := 3) (lv' := [(3, .int (zi (i + 1))), (2, .int (zi f)), (0, .ref (bd 0)), (1, .int (zi x0))]) hx hb dX8_firstOf_51 hl rfl (by decide) rfl (fun ls hl => ?_)
          refine lv_goto (tgt := 14) hx hb dX8_firstOf_54 (by decide) ?_
          exact ih_14 n f (i + 1) (by first | omega | assumption) ⟨by omega, by omega⟩ (by omega) (by rw [← h_R, itr_s, if_neg (show ¬ nM S_2 (S_2 20 i) < nM S_2 f by rw [← er_29, ← er_34]; omega)]) (by omega) _ (lv_sub hl [2, 3, 1, 0] rfl)
        · refine lv_aload_n hx hb dX8_firstOf_40 rfl (lv_at hl 0 rfl) ?_
          refine va_get (D := D) (ci := 8) (v := .ref (bd 21)) (C := RX8) (T := TX8) (N := 32) hx hb hts in_X8_firstOf_8 hown hK.1 hP 0 rfl rfl 20 (by decide) (hts _ lk_X8_firstOf_49) (fun _ h9 => h9) rfl dX8_firstOf_41 ?_
          refine lv_iload_n hx hb dX8_firstOf_44 rfl (lv_at hl 3 rfl) ?_
          refine zi_iald hx hb hK.1 hP 14 0 rfl rfl (by omega) (by omega) (by decide) dX8_firstOf_45 ?_
          have f_45 : (0 : Int) ≤ S_2 20 i ∧ S_2 20 i ≤ 59 := hI_2 20 i
          refine lv_goto (tgt := 50) hx hb dX8_firstOf_46 (by decide) ?_
          refine zi_top (fun x2_50 ex2_50 => ?_)
          refine lv_istore_n (lv' := [(2, .int (zi x2_50)), (0, .ref (bd 0)), (1, .int (zi x0)), (3, .int (zi i))]) hx hb dX8_firstOf_50 rfl hl (by decide) rfl (fun ls hl => ?_)
          refine zi_iinc (k := 3) (lv' := [(3, .int (zi (i + 1))), (2, .int (zi x2_50)), (0, .ref (bd 0)), (1, .int (zi x0))]) hx hb dX8_firstOf_51 hl rfl (by decide) rfl (fun ls hl => ?_)
          refine lv_goto (tgt := 14) hx hb dX8_firstOf_54 (by decide) ?_
          exact ih_14 n x2_50 (i + 1) (by first | omega | assumption) ⟨by omega, by omega⟩ (by omega) (by rw [← h_R, itr_s, if_pos (show nM S_2 (S_2 20 i) < nM S_2 f by rw [← er_29, ← er_34]; omega), ex2_50]) (by omega) _ (lv_sub hl [2, 3, 1, 0] rfl)
  refine lv_istore_n (lv' := [(3, .int (zi 1)), (2, .int (zi x2_11)), (0, .ref (bd 0)), (1, .int (zi x0))]) hx hb dX8_firstOf_13 rfl hl (by decide) rfl (fun ls hl => ?_)
  exact K_14 ((S_2 19 0 - 1).toNat + 1) ((S_2 19 0 - 1).toNat) x2_11 1 (by first | omega | assumption) ⟨by omega, by omega⟩ (by omega) (by rw [firstM, ex2_11]) (by omega) _ (lv_sub hl [2, 3, 1, 0] rfl)

theorem in_X8_looksOf_8 : ∀ w ∈ wsX80, w ∈ wsX8_looksOf := by decide +kernel
theorem lk_X8_looksOf_127 : Cond.fieldLink RX8 127 "PlanetoidDeskModel" "looks" "I" ∈ wsX8_looksOf := by decide +kernel
abbrev rmct_X8_looksOf : Room := { frames := 3, cells := 0, slots := 0, locals := 66 }
set_option maxHeartbeats 4000000 in
set_option maxRecDepth 100000 in
theorem ct_X8_looksOf (l : Launch) (D : va_G) (cI cZ cJ : ClassId) (bd : Nat → Nat) (S : ZS) (hI : MI S) (hdis : mDis bd) (x0 : Int) (hx0 : ir x0) (hp00 : 0 ≤ x0) (hp01 : x0 ≤ 19) (hac : accM S) : Met l yX8_looksOf wsX8_looksOf rmct_X8_looksOf (zP D cI cZ cJ (mW cI cZ bd S) [.ref (bd 0), .int (zi x0)]) (zWi D (mW cI cZ bd) (mA bd) (fun r T => r = laysM x0 S 19 0 ∧ T = laysM x0 S ∧ MI T)) 0 0 (mA bd) := by
  refine Met.ofW (cc := cX8_looksOf) (maxL := 2) (ret := (some .int)) (by decide) rfl ?_
  intro p e s m args below meth c s₁ B hml hv
  obtain ⟨rfl, hP, hK⟩ := hv
  have hx := B.exec
  have hb := B.bytes
  have hr := B.returns
  have hts := atoms_spec (ws := wsX8_looksOf) B.pre
  have hown : s.vm.findClass RX8 = some m.cls := findClass_of_methodNamed B.named
  have hlocks := B.notSynchronized
  have hl := lv_entry ([.ref (bd 0), .int (zi x0)]) (n := 2) (Nat.le_of_ble_eq_true rfl)
  rw [lg_entry_eq]
  generalize (lg_sl ([.ref (bd 0), .int (zi x0)]) ++ List.replicate (2 - (lg_sl ([.ref (bd 0), .int (zi x0)])).length) Slot.unset).toArray = ls at hl ⊢
  have hl : lv_has ls 2 [(0, .ref (bd 0)), (1, .int (zi x0))] := hl
  have hS : va_S (mA bd) s.heap s.heap [] := va_S.rf
  show W p l e rmct_X8_looksOf s m ([.ref (bd 0), .int (zi x0)] : List Value).toArray below meth c s.heap [] 0 0 (MQ below (zWi D (mW cI cZ bd) (mA bd) (fun r T => r = laysM x0 S 19 0 ∧ T = laysM x0 S ∧ MI T)) ([.ref (bd 0), .int (zi x0)] : List Value).toArray s 0 0 (mA bd)) (F0 m 0 ls [])
  refine lv_aload_n hx hb dX8_looksOf_0 rfl (lv_at hl 0 rfl) ?_
  refine lv_iload_n hx hb dX8_looksOf_1 rfl (lv_at hl 1 rfl) ?_
  refine zk_wv (zc_V (As := [.int (zi x0)]) (rest := []) ⟨hx, hb, hml, hown, hts⟩ (ct_X8_lays l D cI cZ cJ bd S hI hdis x0 ⟨by omega, by omega⟩ (by omega) (by omega) hac) (cwV 1 hts gX8_looksOf_X8_lays rfl rfl rfl (by decide +kernel) ⟨Nat.le_of_ble_eq_true rfl, Nat.le_of_ble_eq_true rfl⟩) hK hP (q0 := 0) (ci := 8) rfl rfl rfl rfl hl.1 rfl (Nat.le_of_ble_eq_true rfl) dX8_looksOf_2 ⟨Nat.zero_le _, Nat.zero_le _⟩) hS (fun S_2 H locs hp_2 hP hS => ?_)
  obtain ⟨e9, hI_2⟩ := hp_2
  have eS_2 := e9.symm; clear e9
  refine lv_aload_n hx hb dX8_looksOf_5 rfl (lv_at hl 0 rfl) ?_
  refine va_get (D := D) (ci := 8) (v := .int (zi (S_2 19 0))) (C := RX8) (T := TX8) (N := 32) hx hb hts in_X8_looksOf_8 hown hK.1 hP 0 rfl rfl 19 (by decide) (hts _ lk_X8_looksOf_127) (fun _ h9 => h9) rfl dX8_looksOf_6 ?_
  have f_6 : (0 : Int) ≤ S_2 19 0 ∧ S_2 19 0 ≤ 60 := hI_2 19 0
  exact zr_wi (T := S_2) hx hb hr hlocks dX8_looksOf_9 hP hS (by exact ⟨by rw [eS_2], eS_2.symm, hI_2⟩)

theorem in_X8_orbitsOf_8 : ∀ w ∈ wsX80, w ∈ wsX8_orbitsOf := by decide +kernel
theorem lk_X8_orbitsOf_145 : Cond.fieldLink RX8 145 "PlanetoidDeskModel" "found" "I" ∈ wsX8_orbitsOf := by decide +kernel
abbrev rmct_X8_orbitsOf : Room := { frames := 4, cells := 0, slots := 0, locals := 94 }
set_option maxHeartbeats 4000000 in
set_option maxRecDepth 100000 in
theorem ct_X8_orbitsOf (l : Launch) (D : va_G) (cI cZ cJ : ClassId) (bd : Nat → Nat) (S : ZS) (hI : MI S) (hdis : mDis bd) (x0 : Int) (hx0 : ir x0) (hp00 : 0 ≤ x0) (hp01 : x0 ≤ 19) (hac : accM S) : Met l yX8_orbitsOf wsX8_orbitsOf rmct_X8_orbitsOf (zP D cI cZ cJ (mW cI cZ bd S) [.ref (bd 0), .int (zi x0)]) (zWi D (mW cI cZ bd) (mA bd) (fun r T => r = findM (laysM x0 S) 21 0 ∧ T = findM (laysM x0 S) ∧ MI T)) 0 0 (mA bd) := by
  refine Met.ofW (cc := cX8_orbitsOf) (maxL := 2) (ret := (some .int)) (by decide) rfl ?_
  intro p e s m args below meth c s₁ B hml hv
  obtain ⟨rfl, hP, hK⟩ := hv
  have hx := B.exec
  have hb := B.bytes
  have hr := B.returns
  have hts := atoms_spec (ws := wsX8_orbitsOf) B.pre
  have hown : s.vm.findClass RX8 = some m.cls := findClass_of_methodNamed B.named
  have hlocks := B.notSynchronized
  have hl := lv_entry ([.ref (bd 0), .int (zi x0)]) (n := 2) (Nat.le_of_ble_eq_true rfl)
  rw [lg_entry_eq]
  generalize (lg_sl ([.ref (bd 0), .int (zi x0)]) ++ List.replicate (2 - (lg_sl ([.ref (bd 0), .int (zi x0)])).length) Slot.unset).toArray = ls at hl ⊢
  have hl : lv_has ls 2 [(0, .ref (bd 0)), (1, .int (zi x0))] := hl
  have hS : va_S (mA bd) s.heap s.heap [] := va_S.rf
  show W p l e rmct_X8_orbitsOf s m ([.ref (bd 0), .int (zi x0)] : List Value).toArray below meth c s.heap [] 0 0 (MQ below (zWi D (mW cI cZ bd) (mA bd) (fun r T => r = findM (laysM x0 S) 21 0 ∧ T = findM (laysM x0 S) ∧ MI T)) ([.ref (bd 0), .int (zi x0)] : List Value).toArray s 0 0 (mA bd)) (F0 m 0 ls [])
  refine lv_aload_n hx hb dX8_orbitsOf_0 rfl (lv_at hl 0 rfl) ?_
  refine lv_iload_n hx hb dX8_orbitsOf_1 rfl (lv_at hl 1 rfl) ?_
  refine zk_wv (zc_V (As := [.int (zi x0)]) (rest := []) ⟨hx, hb, hml, hown, hts⟩ (ct_X8_lays l D cI cZ cJ bd S hI hdis x0 ⟨by omega, by omega⟩ (by omega) (by omega) hac) (cwV 1 hts gX8_orbitsOf_X8_lays rfl rfl rfl (by decide +kernel) ⟨Nat.le_of_ble_eq_true rfl, Nat.le_of_ble_eq_true rfl⟩) hK hP (q0 := 0) (ci := 8) rfl rfl rfl rfl hl.1 rfl (Nat.le_of_ble_eq_true rfl) dX8_orbitsOf_2 ⟨Nat.zero_le _, Nat.zero_le _⟩) hS (fun S_2 H locs hp_2 hP hS => ?_)
  obtain ⟨e9, hI_2⟩ := hp_2
  have eS_2 := e9.symm; clear e9
  refine lv_aload_n hx hb dX8_orbitsOf_5 rfl (lv_at hl 0 rfl) ?_
  refine zk_wv (zc_V (As := []) (rest := []) ⟨hx, hb, hml, hown, hts⟩ (ct_X8_finds l D cI cZ cJ bd S_2 hI_2 hdis  ) (cwV 0 hts gX8_orbitsOf_X8_finds rfl rfl rfl (by decide +kernel) ⟨Nat.le_of_ble_eq_true rfl, Nat.le_of_ble_eq_true rfl⟩) hK hP (q0 := 0) (ci := 8) rfl rfl rfl rfl hl.1 rfl (Nat.le_of_ble_eq_true rfl) dX8_orbitsOf_6 ⟨Nat.zero_le _, Nat.zero_le _⟩) hS (fun S_6 H locs hp_6 hP hS => ?_)
  obtain ⟨e9, hI_6⟩ := hp_6
  have eS_6 := e9.symm; clear e9
  refine lv_aload_n hx hb dX8_orbitsOf_9 rfl (lv_at hl 0 rfl) ?_
  refine va_get (D := D) (ci := 8) (v := .int (zi (S_6 21 0))) (C := RX8) (T := TX8) (N := 32) hx hb hts in_X8_orbitsOf_8 hown hK.1 hP 0 rfl rfl 21 (by decide) (hts _ lk_X8_orbitsOf_145) (fun _ h9 => h9) rfl dX8_orbitsOf_10 ?_
  have f_10 : (0 : Int) ≤ S_6 21 0 ∧ S_6 21 0 ≤ 7695 := hI_6 21 0
  exact zr_wi (T := S_6) hx hb hr hlocks dX8_orbitsOf_13 hP hS (by exact ⟨by rw [eS_2, eS_6], by rw [eS_2, eS_6], hI_6⟩)

theorem in_X8_canLink_8 : ∀ w ∈ wsX80, w ∈ wsX8_canLink := by decide +kernel
theorem lk_X8_canLink_31 : Cond.fieldLink RX8 31 "PlanetoidDeskModel" "own" "[I" ∈ wsX8_canLink := by decide +kernel
theorem lk_X8_canLink_34 : Cond.fieldLink RX8 34 "PlanetoidDeskModel" "above" "[I" ∈ wsX8_canLink := by decide +kernel
theorem lk_X8_canLink_22 : Cond.fieldLink RX8 22 "PlanetoidDeskModel" "plateOf" "[I" ∈ wsX8_canLink := by decide +kernel
theorem lk_X8_canLink_127 : Cond.fieldLink RX8 127 "PlanetoidDeskModel" "looks" "I" ∈ wsX8_canLink := by decide +kernel
theorem lk_X8_canLink_49 : Cond.fieldLink RX8 49 "PlanetoidDeskModel" "look" "[I" ∈ wsX8_canLink := by decide +kernel
abbrev rmct_X8_canLink : Room := { frames := 5, cells := 0, slots := 0, locals := 114 }
set_option maxHeartbeats 4000000 in
set_option maxRecDepth 100000 in
theorem ct_X8_canLink (l : Launch) (D : va_G) (cI cZ cJ : ClassId) (bd : Nat → Nat) (S : ZS) (hI : MI S) (hdis : mDis bd) (x0 x1 : Int) (hx0 : ir x0) (hx1 : ir x1) (hp00 : 0 ≤ x0) (hp01 : x0 ≤ 19) (hp10 : 0 ≤ x1) (hp11 : x1 < S 6 0) (hac : accM S) : Met l yX8_canLink wsX8_canLink rmct_X8_canLink (zP D cI cZ cJ (mW cI cZ bd S) [.ref (bd 0), .int (zi x0), .int (zi x1)]) (zWi D (mW cI cZ bd) (mA bd) (fun r T => r = b2 (clP S x0 x1) ∧ T = clT S x0 x1 ∧ MI T)) 0 0 (mA bd) := by
  refine Met.ofW (cc := cX8_canLink) (maxL := 3) (ret := (some .boolean)) (by decide) rfl ?_
  intro p e s m args below meth c s₁ B hml hv
  obtain ⟨rfl, hP, hK⟩ := hv
  have hx := B.exec
  have hb := B.bytes
  have hr := B.returns
  have hts := atoms_spec (ws := wsX8_canLink) B.pre
  have hown : s.vm.findClass RX8 = some m.cls := findClass_of_methodNamed B.named
  have hlocks := B.notSynchronized
  have hl := lv_entry ([.ref (bd 0), .int (zi x0), .int (zi x1)]) (n := 3) (Nat.le_of_ble_eq_true rfl)
  rw [lg_entry_eq]
  generalize (lg_sl ([.ref (bd 0), .int (zi x0), .int (zi x1)]) ++ List.replicate (3 - (lg_sl ([.ref (bd 0), .int (zi x0), .int (zi x1)])).length) Slot.unset).toArray = ls at hl ⊢
  have hl : lv_has ls 3 [(0, .ref (bd 0)), (1, .int (zi x0)), (2, .int (zi x1))] := hl
  have hS : va_S (mA bd) s.heap s.heap [] := va_S.rf
  show W p l e rmct_X8_canLink s m ([.ref (bd 0), .int (zi x0), .int (zi x1)] : List Value).toArray below meth c s.heap [] 0 0 (MQ below (zWi D (mW cI cZ bd) (mA bd) (fun r T => r = b2 (clP S x0 x1) ∧ T = clT S x0 x1 ∧ MI T)) ([.ref (bd 0), .int (zi x0), .int (zi x1)] : List Value).toArray s 0 0 (mA bd)) (F0 m 0 ls [])
  have hd0 : (0 : Int) ≤ S 6 0 ∧ S 6 0 ≤ 60 := hI 6 0
  refine lv_aload_n hx hb dX8_canLink_0 rfl (lv_at hl 0 rfl) ?_
  refine va_get (D := D) (ci := 8) (v := .ref (bd 11)) (C := RX8) (T := TX8) (N := 32) hx hb hts in_X8_canLink_8 hown hK.1 hP 0 rfl rfl 10 (by decide) (hts _ lk_X8_canLink_31) (fun _ h9 => h9) rfl dX8_canLink_1 ?_
  refine lv_iload_n hx hb dX8_canLink_4 rfl (lv_at hl 2 rfl) ?_
  refine zi_iald hx hb hK.1 hP 8 0 rfl rfl (by omega) (by omega) (by decide) dX8_canLink_5 ?_
  have f_5 : (-1 : Int) ≤ S 10 x1 ∧ S 10 x1 ≤ 19 := hI 10 x1
  refine zi_iconst hx hb dX8_canLink_6 ?_
  refine zi_icmp_ne (tgt := 20) hx hb ⟨by omega, by omega⟩ ⟨by decide, by decide⟩ dX8_canLink_7 (by decide) (fun c_7 => ?_) (fun c_7 => ?_)
  · refine zi_iconst hx hb dX8_canLink_20 ?_
    exact zr_wz (T := S) hx hb hr hlocks dX8_canLink_21 (Or.inl rfl) hP hS (by exact ⟨(b2_f (fun h9 => c_7 h9.1)).symm, (cif_f (fun h9 => c_7 h9.1)).symm, hI⟩)
  · refine lv_aload_n hx hb dX8_canLink_10 rfl (lv_at hl 0 rfl) ?_
    refine va_get (D := D) (ci := 8) (v := .ref (bd 13)) (C := RX8) (T := TX8) (N := 32) hx hb hts in_X8_canLink_8 hown hK.1 hP 0 rfl rfl 12 (by decide) (hts _ lk_X8_canLink_34) (fun _ h9 => h9) rfl dX8_canLink_11 ?_
    refine lv_iload_n hx hb dX8_canLink_14 rfl (lv_at hl 1 rfl) ?_
    refine zi_iald hx hb hK.1 hP 9 0 rfl rfl (by omega) (by omega) (by decide) dX8_canLink_15 ?_
    have f_15 : (-1 : Int) ≤ S 12 x0 ∧ S 12 x0 ≤ 19 := hI 12 x0
    refine zi_iconst hx hb dX8_canLink_16 ?_
    refine zi_icmp_eq (tgt := 22) hx hb ⟨by omega, by omega⟩ ⟨by decide, by decide⟩ dX8_canLink_17 (by decide) (fun c_17 => ?_) (fun c_17 => ?_)
    · have hcl : S 10 x1 = -1 ∧ S 12 x0 = -1 := ⟨c_7, c_17⟩
      refine lv_aload_n hx hb dX8_canLink_22 rfl (lv_at hl 0 rfl) ?_
      refine lv_iload_n hx hb dX8_canLink_23 rfl (lv_at hl 1 rfl) ?_
      refine zk_wv (zc_V (As := [.int (zi x0)]) (rest := []) ⟨hx, hb, hml, hown, hts⟩ (ct_X8_lays l D cI cZ cJ bd S hI hdis x0 ⟨by omega, by omega⟩ (by omega) (by omega) hac) (cwV 1 hts gX8_canLink_X8_lays rfl rfl rfl (by decide +kernel) ⟨Nat.le_of_ble_eq_true rfl, Nat.le_of_ble_eq_true rfl⟩) hK hP (q0 := 0) (ci := 8) rfl rfl rfl rfl hl.1 rfl (Nat.le_of_ble_eq_true rfl) dX8_canLink_24 ⟨Nat.zero_le _, Nat.zero_le _⟩) hS (fun S_24 H locs hp_24 hP hS => ?_)
      obtain ⟨e9, hI_24⟩ := hp_24
      have eS_24 := e9.symm; clear e9
      refine lv_aload_n hx hb dX8_canLink_27 rfl (lv_at hl 0 rfl) ?_
      refine lv_aload_n hx hb dX8_canLink_28 rfl (lv_at hl 0 rfl) ?_
      refine va_get (D := D) (ci := 8) (v := .ref (bd 8)) (C := RX8) (T := TX8) (N := 32) hx hb hts in_X8_canLink_8 hown hK.1 hP 0 rfl rfl 7 (by decide) (hts _ lk_X8_canLink_22) (fun _ h9 => h9) rfl dX8_canLink_29 ?_
      refine lv_iload_n hx hb dX8_canLink_32 rfl (lv_at hl 2 rfl) ?_
      refine zi_iald hx hb hK.1 hP 5 0 rfl rfl (by omega) (by omega) (by decide) dX8_canLink_33 ?_
      have f_33 : (0 : Int) ≤ S_24 7 x1 ∧ S_24 7 x1 ≤ 29 := hI_24 7 x1
      refine lv_aload_n hx hb dX8_canLink_34 rfl (lv_at hl 0 rfl) ?_
      refine va_get (D := D) (ci := 8) (v := .int (zi (S_24 19 0))) (C := RX8) (T := TX8) (N := 32) hx hb hts in_X8_canLink_8 hown hK.1 hP 0 rfl rfl 19 (by decide) (hts _ lk_X8_canLink_127) (fun _ h9 => h9) rfl dX8_canLink_35 ?_
      have f_35 : (0 : Int) ≤ S_24 19 0 ∧ S_24 19 0 ≤ 60 := hI_24 19 0
      refine zk_r (zc_V (As := [.int (zi (S_24 7 x1)), .int (zi (S_24 19 0))]) (rest := []) ⟨hx, hb, hml, hown, hts⟩ (ct_X8_isOnPlate l D cI cZ cJ bd S_24 hI_24 (S_24 7 x1) (S_24 19 0) ⟨by omega, by omega⟩ ⟨by omega, by omega⟩ (by omega) (by omega)) (cwV 2 hts gX8_canLink_X8_isOnPlate rfl rfl rfl (by decide +kernel) ⟨Nat.le_of_ble_eq_true rfl, Nat.le_of_ble_eq_true rfl⟩) hK hP (q0 := 0) (ci := 8) rfl rfl rfl rfl hl.1 rfl (Nat.le_of_ble_eq_true rfl) dX8_canLink_38 ⟨Nat.zero_le _, Nat.zero_le _⟩) ?_
      refine zi_top (fun (r_38 : Int) (er_38 : r_38 = b2 (onP S_24 (S_24 7 x1) (S_24 19 0))) => ?_)
      have fr_38 : (0 : Int) ≤ r_38 ∧ r_38 ≤ 1 := by rw [er_38]; exact b2_b
      refine zi_if_eq (tgt := 46) hx hb ⟨by omega, by omega⟩ dX8_canLink_41 (by decide) (fun c_41 => ?_) (fun c_41 => ?_)
      · have hq1 : S_24 19 0 ≤ 59 := by
          rw [← eS_24, laysM_c hI]
          have h9 := cnt_no (fun k => lookM S k x0) (m := x1.toNat) (n := (S 6 0).toNat) (by omega) (by rw [Int.toNat_of_nonneg hp10]; exact fun h => h.1 c_7)
          omega
        refine lv_aload_n hx hb dX8_canLink_46 rfl (lv_at hl 0 rfl) ?_
        refine va_get (D := D) (ci := 8) (v := .ref (bd 21)) (C := RX8) (T := TX8) (N := 32) hx hb hts in_X8_canLink_8 hown hK.1 hP 0 rfl rfl 20 (by decide) (hts _ lk_X8_canLink_49) (fun _ h9 => h9) rfl dX8_canLink_47 ?_
        refine lv_aload_n hx hb dX8_canLink_50 rfl (lv_at hl 0 rfl) ?_
        refine va_get (D := D) (ci := 8) (v := .int (zi (S_24 19 0))) (C := RX8) (T := TX8) (N := 32) hx hb hts in_X8_canLink_8 hown hK.1 hP 0 rfl rfl 19 (by decide) (hts _ lk_X8_canLink_127) (fun _ h9 => h9) rfl dX8_canLink_51 ?_
        have f_51 : (0 : Int) ≤ S_24 19 0 ∧ S_24 19 0 ≤ 60 := hI_24 19 0
        refine lv_iload_n hx hb dX8_canLink_54 rfl (lv_at hl 2 rfl) ?_
        refine zi_iast hx hb hK.1 hP (mW_D hdis _) hS 14 0 rfl rfl (by omega) (by omega) (by decide) dX8_canLink_55 (fun H locs hP hS => ?_)
        have hP : va_P D vwCl (mW cI cZ bd (su S_24 20 (up (S_24 20) (S_24 19 0) x1))) H := hP
        have hI_55 : MI (su S_24 20 (up (S_24 20) (S_24 19 0) x1)) := MI.up hI_24 20 (S_24 19 0) x1 (show (0 : Int) ≤ x1 ∧ x1 ≤ 59 from ⟨by omega, by omega⟩)
        generalize eS_55 : su S_24 20 (up (S_24 20) (S_24 19 0) x1) = S_55 at hP hI_55
        refine lv_aload_n hx hb dX8_canLink_56 rfl (lv_at hl 0 rfl) ?_
        refine lv_dup hx hb dX8_canLink_57 rfl ?_
        refine va_get (D := D) (ci := 8) (v := .int (zi (S_55 19 0))) (C := RX8) (T := TX8) (N := 32) hx hb hts in_X8_canLink_8 hown hK.1 hP 0 rfl rfl 19 (by decide) (hts _ lk_X8_canLink_127) (fun _ h9 => h9) rfl dX8_canLink_58 ?_
        refine zi_is (S_24 19 0) (by rw [← eS_55] <;> rfl) ?_
        have f_58 : (0 : Int) ≤ S_24 19 0 ∧ S_24 19 0 ≤ 60 := hI_24 19 0
        refine zi_iconst hx hb dX8_canLink_61 ?_
        refine zi_iadd hx hb dX8_canLink_62 ?_
        refine va_put (D := D) (ci := 8) (v := .int (zi ((S_24 19 0) + 1))) (ty := .int) (C := RX8) (T := TX8) (N := 32) hx hb hts in_X8_canLink_8 tyX8 tyX8_ok nmX8 hown hK.1 hP (mW_D hdis _) hS 0 rfl rfl 19 (by decide) (hts _ lk_X8_canLink_127) (fun _ h9 => h9) rfl (by decide +kernel) rfl rfl (Nat.le_of_ble_eq_true rfl) dX8_canLink_63 (fun H locs hP _ hS => ?_)
        have hP : va_P D vwCl (mW cI cZ bd (su S_55 19 (fun _ => (S_24 19 0) + 1))) H := hP
        have hI_63 : MI (su S_55 19 (fun _ => (S_24 19 0) + 1)) := MI.upc hI_55 19 ((S_24 19 0) + 1) (show (0 : Int) ≤ ((S_24 19 0) + 1) ∧ ((S_24 19 0) + 1) ≤ 60 from ⟨by omega, by omega⟩)
        generalize eS_63 : su S_55 19 (fun _ => (S_24 19 0) + 1) = S_63 at hP hI_63
        refine lv_aload_n hx hb dX8_canLink_66 rfl (lv_at hl 0 rfl) ?_
        refine zk_wi (zc_V (As := []) (rest := []) ⟨hx, hb, hml, hown, hts⟩ (ct_X8_hasOrbit l D cI cZ cJ bd S_63 hI_63 hdis  ) (cwV 0 hts gX8_canLink_X8_hasOrbit rfl rfl rfl (by decide +kernel) ⟨Nat.le_of_ble_eq_true rfl, Nat.le_of_ble_eq_true rfl⟩) hK hP (q0 := 0) (ci := 8) rfl rfl rfl rfl hl.1 rfl (Nat.le_of_ble_eq_true rfl) dX8_canLink_67 ⟨Nat.zero_le _, Nat.zero_le _⟩) hS (fun r_67 S_67 H locs hp_67 hP hS => ?_)
        obtain ⟨er_67, e9, hI_67⟩ := hp_67
        have eS_67 := e9.symm; clear e9
        have fr_67 : (0 : Int) ≤ r_67 ∧ r_67 ≤ 1 := by rw [er_67]; exact b2_b
        exact zr_wz (T := S_67) hx hb hr hlocks dX8_canLink_70 (by first | assumption | omega) hP hS (by
            have hon : ¬ onP (laysM x0 S) (S 7 x1) (laysM x0 S 19 0) := by have h9 := b2_0 er_38 c_41; rw [← eS_24] at h9; rw [laysM_n (r := 7) (by decide) (by decide)] at h9; exact h9
            have hst : addK (laysM x0 S) x1 = S_63 := by rw [← eS_63, ← eS_55, eS_24]; rfl
            exact ⟨by rw [er_67, ← hst]; exact b2_iff ⟨fun h9 => ⟨hcl.1, hcl.2, hon, h9⟩, fun h9 => h9.2.2.2⟩, by rw [clT, cif_t hcl, cif_f hon, hst, eS_67], hI_67⟩)
      · refine zi_iconst hx hb dX8_canLink_44 ?_
        exact zr_wz (T := S_24) hx hb hr hlocks dX8_canLink_45 (Or.inl rfl) hP hS (by
            have hon : onP (laysM x0 S) (S 7 x1) (laysM x0 S 19 0) := by have h9 := b2_1 er_38 c_41; rw [← eS_24] at h9; rw [laysM_n (r := 7) (by decide) (by decide)] at h9; exact h9
            exact ⟨(b2_f (fun h9 => h9.2.2.1 hon)).symm, by rw [clT, cif_t hcl, cif_t hon, eS_24], hI_24⟩)
    · refine zi_iconst hx hb dX8_canLink_20 ?_
      exact zr_wz (T := S) hx hb hr hlocks dX8_canLink_21 (Or.inl rfl) hP hS (by exact ⟨(b2_f (fun h9 => c_17 h9.2.1)).symm, (cif_f (fun h9 => c_17 h9.2)).symm, hI⟩)

