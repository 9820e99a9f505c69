/-! the reference: as programs over its numbers (field k is row k) -/
noncomputable def cnt (p : Int → Prop) : Nat → Int
  | 0 => 0
  | n + 1 => cnt p n + b2 (p n)
theorem cnt_0n (p : Int → Prop) (n : Nat) : 0 ≤ cnt p n ∧ cnt p n ≤ n := by
  induction n with
  | zero => exact ⟨Int.le_refl 0, Int.le_refl 0⟩
  | succ n ih =>
    have h := b2_b (P := p n)
    unfold cnt; omega
theorem cnt_mono (p : Int → Prop) {m n : Nat} (h : m ≤ n) : cnt p m ≤ cnt p n := by
  induction n with
  | zero => obtain rfl : m = 0 := by omega
            exact Int.le_refl _
  | succ n ih =>
    rcases Nat.lt_or_ge m (n + 1) with h1 | h1
    · have h2 := ih (by omega)
      have h3 := b2_b (P := p n)
      show cnt p m ≤ cnt p n + b2 (p n)
      omega
    · obtain rfl : m = n + 1 := by omega
      exact Int.le_refl _
theorem cnt_lt (p : Int → Prop) {m n : Nat} (h : m < n) (hp : p m) : cnt p m + 1 ≤ cnt p n := by
  have h1 := cnt_mono p (m := m + 1) (n := n) h
  have h2 : cnt p (m + 1) = cnt p m + 1 := by
    show cnt p m + b2 (p m) = _
    rw [b2_t hp]
  omega
theorem cnt_no (p : Int → Prop) {m n : Nat} (h : m < n) (hp : ¬ p m) : cnt p n ≤ n - 1 := by
  induction n with
  | zero => exact absurd h (by omega)
  | succ n ih =>
    have h3 := b2_b (P := p n)
    rcases Nat.lt_or_ge m n with h1 | h1
    · have h2 := ih h1
      show cnt p n + b2 (p n) ≤ _
      omega
    · obtain rfl : m = n := by omega
      have h2 := (cnt_0n p m).2
      show cnt p m + b2 (p m) ≤ _
      rw [b2_f hp]; omega
def anc (g : Int → Int) : Nat → Int → Int
  | 0, x => x
  | n + 1, x => if x = -1 then -1 else anc g n (g x)
theorem climb_s {g : Int → Int} {n : Nat} {h b : Int} (e : h = -1 ∨ h = b) : climb g n h b = h := by
  cases n with
  | zero => rfl
  | succ n => exact if_pos e
theorem anc_pos {g : Int → Int} {n : Nat} {x : Int} (h : anc g n x = -1) (hx : ¬ x = -1) : ∃ m : Nat, n = m + 1 := by
  cases n with
  | zero => exact absurd h hx
  | succ n => exact ⟨n, rfl⟩
def nM (M : ZS) (d : Int) : Int := M 5 (M 7 d)
def eM (M : ZS) (d : Int) : Int := M 2 (M 4 (M 7 d))
def tM (M : ZS) (d : Int) : Int := (M 8 d + M 0 (M 8 d / 400)) % 3600
theorem nM_b {M : ZS} (h : MI M) (x : Int) : (0 : Int) ≤ nM M x ∧ nM M x ≤ 999 := h 5 _
theorem eM_b {M : ZS} (h : MI M) (x : Int) : (0 : Int) ≤ eM M x ∧ eM M x ≤ 9 := h 2 _
theorem tM_b (M : ZS) (x : Int) : (0 : Int) ≤ tM M x ∧ tM M x ≤ 3599 := by unfold tM; omega
theorem cnt_S (p : Int → Prop) {i : Int} (h : 0 ≤ i) : cnt p (i + 1).toNat = cnt p i.toNat + b2 (p i) := by
  have e : (i + 1).toNat = i.toNat + 1 := by omega
  rw [e]
  show cnt p i.toNat + b2 (p (i.toNat : Int)) = _
  rw [Int.toNat_of_nonneg h]
theorem cnt_ltI (p : Int → Prop) {i N : Int} (h0 : 0 ≤ i) (h : i < N) (hp : p i) : cnt p i.toNat + 1 ≤ cnt p N.toNat := cnt_lt p (by omega) (by rw [Int.toNat_of_nonneg h0]; exact hp)
def mvM (b c t : Int) : Int := b * t + c * (t * (t - 1) / 2)
theorem mvM_b {b c t : Int} (h0 : -40 ≤ b) (h1 : b ≤ 40) (g0 : -2 ≤ c) (g1 : c ≤ 2) (h2 : 0 ≤ t) (h3 : t ≤ 999) : -1036962 ≤ mvM b c t ∧ mvM b c t ≤ 1036962 := by
  have a1 := mul_b (b := b) (B := 40) (t := t) (T := 999) (by omega) (by omega) h2 h3
  have a2 := sq_b h2 h3
  have a3 := mul_b (b := c) (B := 2) (t := t * (t - 1) / 2) (T := 498501) (by omega) (by omega) (by omega) (by omega)
  unfold mvM
  constructor <;> omega
def apM (x y : Int) : Int := if 1800 < max (x - y) (-(x - y)) then 3600 - max (x - y) (-(x - y)) else max (x - y) (-(x - y))
theorem apM_b {x y : Int} (h0 : 0 ≤ x) (h1 : x ≤ 3599) (h2 : 0 ≤ y) (h3 : y ≤ 3599) : 0 ≤ apM x y ∧ apM x y ≤ 1800 := by unfold apM; split <;> omega
def lookM (M : ZS) (k b : Int) : Prop := M 10 k ≠ -1 ∧ climb (M 12) 20 (M 10 k) b = b
/-- each own dot's body has an end above it -/
def accM (M : ZS) : Prop := ∀ k : Int, 0 ≤ k → k < M 6 0 → M 10 k ≠ -1 → anc (M 12) 20 (M 10 k) = -1
noncomputable def laF (b k : Int) (M : ZS) : ZS := cif (lookM M k b) (su (su M 20 (up (M 20) (M 19 0) k)) 19 (fun _ => M 19 0 + 1)) M
noncomputable def laysA (b : Int) (M : ZS) : ZS := itr (laF b) (M 6 0).toNat 0 M
noncomputable def laysM (b : Int) (M : ZS) : ZS := laysA b (su M 19 (fun _ => 0))
theorem laF_n {b k : Int} {M : ZS} {r : Nat} (h1 : r ≠ 20) (h2 : r ≠ 19) : laF b k M r = M r := by
  unfold laF
  by_cases h : lookM M k b
  · rw [cif_t h, su_n _ _ h2, su_n _ _ h1]
  · rw [cif_f h]
theorem laysA_n {b : Int} {M : ZS} {r : Nat} (h1 : r ≠ 20) (h2 : r ≠ 19) : laysA b M r = M r := itr_keep (fun _ _ => laF_n h1 h2) _ _ _
theorem laysM_n {b : Int} {M : ZS} {r : Nat} (h1 : r ≠ 20) (h2 : r ≠ 19) : laysM b M r = M r := by
  unfold laysM; rw [laysA_n h1 h2, su_n _ _ h2]
theorem lookM_c {M T : ZS} (h1 : T 10 = M 10) (h2 : T 12 = M 12) (k b : Int) : lookM T k b ↔ lookM M k b := by unfold lookM; rw [h1, h2]
theorem accM_su {S : ZS} {q : Nat} {g : Int → Int} (h : accM S) (h1 : (6 : Nat) ≠ q) (h2 : (10 : Nat) ≠ q) (h3 : (12 : Nat) ≠ q) : accM (su S q g) := by
  intro k h4 h5 h6
  rw [su_n _ _ h1] at h5; rw [su_n _ _ h2] at h6; rw [su_n _ _ h2, su_n _ _ h3]
  exact h k h4 h5 h6
theorem lk_0 {S : ZS} (h : MI S) (b : Int) : su S 19 (fun _ => 0) 19 0 + cnt (fun k => lookM (su S 19 (fun _ => 0)) k b) (su S 19 (fun _ => 0) 6 0).toNat ≤ 60 := by
  have h1 : (0 : Int) ≤ S 6 0 ∧ S 6 0 ≤ 60 := h 6 0
  have h2 := (cnt_0n (fun k => lookM (su S 19 (fun _ => 0)) k b) (su S 19 (fun _ => 0) 6 0).toNat).2
  have e1 : su S 19 (fun _ => 0) 19 0 = 0 := rfl
  have e2 : su S 19 (fun _ => 0) 6 0 = S 6 0 := rfl
  rw [e1]; rw [e2] at h2 ⊢
  omega
theorem fit_end {P : Int → Prop} {d i R : Int} (h : (d = 1 ∧ b2 (¬ anyI P 0 i) = R) ∨ (d = 0 ∧ 0 = R)) : d = R := by
  rcases h with ⟨h1, h2⟩ | ⟨h1, h2⟩
  · rw [b2_t (show ¬ anyI P 0 i from fun h => h)] at h2; omega
  · omega
theorem fit_step {p : Int → Prop} {n : Nat} {d dd i R : Int} (h : (d = 1 ∧ b2 (¬ anyI (fun k => ¬ p k) (n + 1) i) = R) ∨ (d = 0 ∧ 0 = R)) (hd : ¬ d = 0) (e : dd = b2 (p i)) : (dd = 1 ∧ b2 (¬ anyI (fun k => ¬ p k) n (i + 1)) = R) ∨ (dd = 0 ∧ 0 = R) := by
  have h2 : b2 (¬ anyI (fun k => ¬ p k) (n + 1) i) = R := h.elim (fun h => h.2) (fun h => absurd h.1 hd)
  by_cases hp : p i
  · rw [b2_t hp] at e
    exact Or.inl ⟨e, by rw [← h2]; exact congrArg b2 (propext ⟨fun h3 h4 => h4.elim (fun h5 => h5 hp) h3, fun h3 h4 => h3 (Or.inr h4)⟩)⟩
  · rw [b2_f hp] at e
    exact Or.inr ⟨e, by rw [← h2, b2_f (fun h3 => h3 (Or.inl hp))]⟩
def nearP (M : ZS) (a b c k : Int) : Prop := apM ((a + mvM b c (nM M (M 20 k))) % 3600) (tM M (M 20 k)) ≤ eM M (M 20 k)
def fitP (M : ZS) (a b c : Int) : Prop := ¬ anyI (fun k => ¬ nearP M a b c k) (M 19 0).toNat 0
def midM (M : ZS) (bc : Int) : Int := (tM M (M 20 0) - mvM (bC bc) (cC bc) (nM M (M 20 0))) % 3600
noncomputable def fdIn (bc mid e : Int) (M : ZS) : ZS := cif (fitP M ((mid + e) % 3600) (bC bc) (cC bc)) (su (su M 22 (up (M 22) (M 21 0) (405 * ((mid + e) % 3600) + bc))) 21 (fun _ => M 21 0 + 1)) M
noncomputable def fdOut (w bc : Int) (M : ZS) : ZS := itr (fdIn bc (midM M bc)) (2 * w + 1).toNat (-w) M
noncomputable def findM (M : ZS) : ZS := itr (fdOut (eM M (M 20 0))) 405 0 (su M 21 (fun _ => 0))
theorem fdIn_n {bc mid e : Int} {M : ZS} {r : Nat} (h1 : r ≠ 22) (h2 : r ≠ 21) : fdIn bc mid e M r = M r := by
  unfold fdIn
  by_cases h : fitP M ((mid + e) % 3600) (bC bc) (cC bc)
  · rw [cif_t h, su_n _ _ h2, su_n _ _ h1]
  · rw [cif_f h]
theorem fdOut_n {w bc : Int} {M : ZS} {r : Nat} (h1 : r ≠ 22) (h2 : r ≠ 21) : fdOut w bc M r = M r := itr_keep (fun _ _ => fdIn_n h1 h2) _ _ _
theorem findM_n {M : ZS} {r : Nat} (h1 : r ≠ 22) (h2 : r ≠ 21) : findM M r = M r := by
  unfold findM
  rw [itr_keep (k := r) (fun _ _ => fdOut_n h1 h2) _ _ _, su_n _ _ h2]
/-- the reference's scratch -/
def scm (k : Nat) : Bool := (19 ≤ k && k ≤ 30)
def SM (S T : ZS) : Prop := ∀ k : Nat, scm k = false → T k = S k
theorem SM.rf {S : ZS} : SM S S := fun _ _ => rfl
theorem SM.tr {S T U : ZS} (h : SM S T) (h2 : SM T U) : SM S U := fun k hk => (h2 k hk).trans (h k hk)
theorem scm_ne {k q : Nat} (h : scm k = false) (hq : scm q = true) : k ≠ q := fun e => by rw [e, hq] at h; cases h
theorem SM_su {S : ZS} {q : Nat} {g : Int → Int} (hq : scm q = true) : SM S (su S q g) := fun _ hk => su_n _ _ (scm_ne hk hq)
theorem SM_la {b : Int} {S : ZS} : SM S (laysM b S) := fun _ hk => laysM_n (scm_ne hk rfl) (scm_ne hk rfl)
theorem SM_fd {S : ZS} : SM S (findM S) := fun _ hk => findM_n (scm_ne hk rfl) (scm_ne hk rfl)
def onP (M : ZS) (p n : Int) : Prop := anyI (fun k => M 7 (M 20 k) = p) n.toNat 0
theorem b2_iff {P Q : Prop} (h : P ↔ Q) : b2 P = b2 Q := congrArg b2 (propext h)
abbrev rmct_X8_isIn : Room := { frames := 0, cells := 0, slots := 0, locals := 0 }
set_option maxHeartbeats 4000000 in
set_option maxRecDepth 100000 in
theorem ct_X8_isIn (l : Launch) (D : va_G) (cI cZ cJ : ClassId) (x0 x1 x2 : Int) (hx0 : ir x0) (hx1 : ir x1) (hx2 : ir x2)  : Met l yX8_isIn wsX8_isIn rmct_X8_isIn (zP D cI cZ cJ [] [.int (zi x0), .int (zi x1), .int (zi x2)]) (k2_QcV (.int (zi (b2 (x1 ≤ x0 ∧ x0 ≤ x2))))) 0 0 (fun _ => False) := by
  refine Met.ofW (cc := cX8_isIn) (maxL := 3) (ret := (some .boolean)) (by decide) rfl ?_
  intro p e s m args below meth c s₁ B hml hv
  obtain ⟨rfl, hP, hK⟩ := hv
  have hx := B.exec
  have hb := B.bytes
  have hr := B.returns
  have hts := atoms_spec (ws := wsX8_isIn) B.pre
  have hown : s.vm.findClass RX8 = some m.cls := findClass_of_methodNamed B.named
  have hlocks := B.notSynchronized
  have hl := lv_entry ([.int (zi x0), .int (zi x1), .int (zi x2)]) (n := 3) (Nat.le_of_ble_eq_true rfl)
  rw [lg_entry_eq]
  generalize (lg_sl ([.int (zi x0), .int (zi x1), .int (zi x2)]) ++ List.replicate (3 - (lg_sl ([.int (zi x0), .int (zi x1), .int (zi x2)])).length) Slot.unset).toArray = ls at hl ⊢
  have hl : lv_has ls 3 [(0, .int (zi x0)), (1, .int (zi x1)), (2, .int (zi x2))] := hl
  show W p l e rmct_X8_isIn s m ([.int (zi x0), .int (zi x1), .int (zi x2)] : List Value).toArray below meth c s.heap [] 0 0 (MQ below (k2_QcV (.int (zi (b2 (x1 ≤ x0 ∧ x0 ≤ x2))))) ([.int (zi x0), .int (zi x1), .int (zi x2)] : List Value).toArray s 0 0 (fun _ => False)) (F0 m 0 ls [])
  refine lv_iload_n hx hb dX8_isIn_0 rfl (lv_at hl 0 rfl) ?_
  refine lv_iload_n hx hb dX8_isIn_1 rfl (lv_at hl 1 rfl) ?_
  refine zi_icmp_lt (tgt := 14) hx hb ⟨by omega, by omega⟩ ⟨by omega, by omega⟩ dX8_isIn_2 (by decide) (fun c_2 => ?_) (fun c_2 => ?_)
  · refine zi_iconst hx hb dX8_isIn_14 ?_
    exact zr_z hx hb hr hlocks dX8_isIn_15 (Or.inl rfl) (by first | exact (b2_t (by omega)).symm | exact (b2_f (by omega)).symm)
  · refine lv_iload_n hx hb dX8_isIn_5 rfl (lv_at hl 0 rfl) ?_
    refine lv_iload_n hx hb dX8_isIn_6 rfl (lv_at hl 2 rfl) ?_
    refine zi_icmp_gt (tgt := 14) hx hb ⟨by omega, by omega⟩ ⟨by omega, by omega⟩ dX8_isIn_7 (by decide) (fun c_7 => ?_) (fun c_7 => ?_)
    · refine zi_iconst hx hb dX8_isIn_14 ?_
      exact zr_z hx hb hr hlocks dX8_isIn_15 (Or.inl rfl) (by first | exact (b2_t (by omega)).symm | exact (b2_f (by omega)).symm)
    · refine zi_iconst hx hb dX8_isIn_10 ?_
      refine lv_goto (tgt := 15) hx hb dX8_isIn_11 (by decide) ?_
      exact zr_z hx hb hr hlocks dX8_isIn_15 (Or.inr rfl) (by first | exact (b2_t (by omega)).symm | exact (b2_f (by omega)).symm)

abbrev rmct_X8_size : Room := { frames := 0, cells := 0, slots := 0, locals := 0 }
set_option maxHeartbeats 4000000 in
set_option maxRecDepth 100000 in
theorem ct_X8_size (l : Launch) (D : va_G) (cI cZ cJ : ClassId) (x0 : Int) (hx0 : ir x0) (hp00 : -2000000000 ≤ x0) (hp01 : x0 ≤ 2000000000) : Met l yX8_size wsX8_size rmct_X8_size (zP D cI cZ cJ [] [.int (zi x0)]) (k2_QcV (.int (zi (max x0 (-x0))))) 0 0 (fun _ => False) := by
  refine Met.ofW (cc := cX8_size) (maxL := 1) (ret := (some .int)) (by decide) rfl ?_
  intro p e s m args below meth c s₁ B hml hv
  obtain ⟨rfl, hP, hK⟩ := hv
  have hx := B.exec
  have hb := B.bytes
  have hr := B.returns
  have hts := atoms_spec (ws := wsX8_size) B.pre
  have hown : s.vm.findClass RX8 = some m.cls := findClass_of_methodNamed B.named
  have hlocks := B.notSynchronized
  have hl := lv_entry ([.int (zi x0)]) (n := 1) (Nat.le_of_ble_eq_true rfl)
  rw [lg_entry_eq]
  generalize (lg_sl ([.int (zi x0)]) ++ List.replicate (1 - (lg_sl ([.int (zi x0)])).length) Slot.unset).toArray = ls at hl ⊢
  have hl : lv_has ls 1 [(0, .int (zi x0))] := hl
  show W p l e rmct_X8_size s m ([.int (zi x0)] : List Value).toArray below meth c s.heap [] 0 0 (MQ below (k2_QcV (.int (zi (max x0 (-x0))))) ([.int (zi x0)] : List Value).toArray s 0 0 (fun _ => False)) (F0 m 0 ls [])
  refine lv_iload_n hx hb dX8_size_0 rfl (lv_at hl 0 rfl) ?_
  refine zi_if_ge (tgt := 9) hx hb ⟨by omega, by omega⟩ dX8_size_1 (by decide) (fun c_1 => ?_) (fun c_1 => ?_)
  · refine lv_iload_n hx hb dX8_size_9 rfl (lv_at hl 0 rfl) ?_
    exact zr_i hx hb hr hlocks dX8_size_10 (by omega)
  · refine lv_iload_n hx hb dX8_size_4 rfl (lv_at hl 0 rfl) ?_
    refine zi_ineg hx hb dX8_size_5 ?_
    refine lv_goto (tgt := 10) hx hb dX8_size_6 (by decide) ?_
    exact zr_i hx hb hr hlocks dX8_size_10 (by omega)

abbrev rmct_X8_round : Room := { frames := 0, cells := 0, slots := 0, locals := 0 }
set_option maxHeartbeats 4000000 in
set_option maxRecDepth 100000 in
theorem ct_X8_round (l : Launch) (D : va_G) (cI cZ cJ : ClassId) (x0 : Int) (hx0 : ir x0)  : Met l yX8_round wsX8_round rmct_X8_round (zP D cI cZ cJ [] [.int (zi x0)]) (k2_QcV (.int (zi (x0 % 3600)))) 0 0 (fun _ => False) := by
  refine Met.ofW (cc := cX8_round) (maxL := 2) (ret := (some .int)) (by decide) rfl ?_
  intro p e s m args below meth c s₁ B hml hv
  obtain ⟨rfl, hP, hK⟩ := hv
  have hx := B.exec
  have hb := B.bytes
  have hr := B.returns
  have hts := atoms_spec (ws := wsX8_round) B.pre
  have hown : s.vm.findClass RX8 = some m.cls := findClass_of_methodNamed B.named
  have hlocks := B.notSynchronized
  have hl := lv_entry ([.int (zi x0)]) (n := 2) (Nat.le_of_ble_eq_true rfl)
  rw [lg_entry_eq]
  generalize (lg_sl ([.int (zi x0)]) ++ List.replicate (2 - (lg_sl ([.int (zi x0)])).length) Slot.unset).toArray = ls at hl ⊢
  have hl : lv_has ls 2 [(0, .int (zi x0))] := hl
  show W p l e rmct_X8_round s m ([.int (zi x0)] : List Value).toArray below meth c s.heap [] 0 0 (MQ below (k2_QcV (.int (zi (x0 % 3600)))) ([.int (zi x0)] : List Value).toArray s 0 0 (fun _ => False)) (F0 m 0 ls [])
  refine lv_iload_n hx hb dX8_round_0 rfl (lv_at hl 0 rfl) ?_
  refine zi_sipush hx hb dX8_round_1 (by decide) ?_
  have q_4 := tm_b (x := x0) (y := 3600) (by decide)
  refine zi_iremT hx hb ⟨by omega, by omega⟩ ⟨by omega, by omega⟩ (by omega) dX8_round_4 ?_
  refine zi_top (fun x1_5 ex1_5 => ?_)
  refine lv_istore_n (lv' := [(1, .int (zi x1_5)), (0, .int (zi x0))]) hx hb dX8_round_5 rfl hl (by decide) rfl (fun ls hl => ?_)
  refine lv_iload_n hx hb dX8_round_6 rfl (lv_at hl 0 rfl) ?_
  refine zi_if_ge (tgt := 18) hx hb ⟨by omega, by omega⟩ dX8_round_7 (by decide) (fun c_7 => ?_) (fun c_7 => ?_)
  · refine lv_iload_n hx hb dX8_round_18 rfl (lv_at hl 0 rfl) ?_
    exact zr_i hx hb hr hlocks dX8_round_19 (by rw [ex1_5]; first | (by_cases h0 : 0 ≤ x0; exact fm_a h0; exact fm_b (by omega) (by have := fm_t (x := x0) (y := 3600) (by omega); omega)))
  · refine lv_iload_n hx hb dX8_round_10 rfl (lv_at hl 0 rfl) ?_
    refine zi_sipush hx hb dX8_round_11 (by decide) ?_
    refine zi_iadd hx hb dX8_round_14 ?_
    refine lv_goto (tgt := 19) hx hb dX8_round_15 (by decide) ?_
    exact zr_i hx hb hr hlocks dX8_round_19 (by rw [ex1_5]; exact fm_c (by decide) (by by_cases h0 : 0 ≤ x0; (have := fm_a (y := 3600) h0; omega); omega) (by rw [← ex1_5]; omega))

abbrev rmct_X8_apart : Room := { frames := 1, cells := 0, slots := 0, locals := 20 }
set_option maxHeartbeats 4000000 in
set_option maxRecDepth 100000 in
theorem ct_X8_apart (l : Launch) (D : va_G) (cI cZ cJ : ClassId) (x0 x1 : Int) (hx0 : ir x0) (hx1 : ir x1) (hp00 : 0 ≤ x0) (hp01 : x0 ≤ 3599) (hp10 : 0 ≤ x1) (hp11 : x1 ≤ 3599) : Met l yX8_apart wsX8_apart rmct_X8_apart (zP D cI cZ cJ [] [.int (zi x0), .int (zi x1)]) (k2_QcV (.int (zi (apM x0 x1)))) 0 0 (fun _ => False) := by
  refine Met.ofW (cc := cX8_apart) (maxL := 3) (ret := (some .int)) (by decide) rfl ?_
  intro p e s m args below meth c s₁ B hml hv
  obtain ⟨rfl, hP, hK⟩ := hv
  have hx := B.exec
  have hb := B.bytes
  have hr := B.returns
  have hts := atoms_spec (ws := wsX8_apart) B.pre
  have hown : s.vm.findClass RX8 = some m.cls := findClass_of_methodNamed B.named
  have hlocks := B.notSynchronized
  have hl := lv_entry ([.int (zi x0), .int (zi x1)]) (n := 3) (Nat.le_of_ble_eq_true rfl)
  rw [lg_entry_eq]
  generalize (lg_sl ([.int (zi x0), .int (zi x1)]) ++ List.replicate (3 - (lg_sl ([.int (zi x0), .int (zi x1)])).length) Slot.unset).toArray = ls at hl ⊢
  have hl : lv_has ls 3 [(0, .int (zi x0)), (1, .int (zi x1))] := hl
  show W p l e rmct_X8_apart s m ([.int (zi x0), .int (zi x1)] : List Value).toArray below meth c s.heap [] 0 0 (MQ below (k2_QcV (.int (zi (apM x0 x1)))) ([.int (zi x0), .int (zi x1)] : List Value).toArray s 0 0 (fun _ => False)) (F0 m 0 ls [])
  refine lv_iload_n hx hb dX8_apart_0 rfl (lv_at hl 0 rfl) ?_
  refine lv_iload_n hx hb dX8_apart_1 rfl (lv_at hl 1 rfl) ?_
  refine zi_isub hx hb dX8_apart_2 ?_
  refine zk_r (zc_S (As := [.int (zi (x0 - x1))]) (rest := []) ⟨hx, hb, hml, hown, hts⟩ (ct_X8_size l D cI cZ cJ (x0 - x1) ⟨by omega, by omega⟩ (by omega) (by omega)) (va_cwS 1 hts gX8_apart_X8_size rfl rfl rfl (by decide +kernel) ⟨Nat.le_of_ble_eq_true rfl, Nat.le_of_ble_eq_true rfl⟩) hK va_P_nil rfl hl.1 rfl (Nat.le_of_ble_eq_true rfl) dX8_apart_3 ⟨Nat.zero_le _, Nat.zero_le _⟩) ?_
  refine zi_top (fun (r_3 : Int) (er_3 : r_3 = max (x0 - x1) (-(x0 - x1))) => ?_)
  refine lv_istore_n (lv' := [(2, .int (zi r_3)), (0, .int (zi x0)), (1, .int (zi x1))]) hx hb dX8_apart_6 rfl hl (by decide) rfl (fun ls hl => ?_)
  refine lv_iload_n hx hb dX8_apart_7 rfl (lv_at hl 0 rfl) ?_
  refine zi_sipush hx hb dX8_apart_8 (by decide) ?_
  refine zi_icmp_le (tgt := 22) hx hb ⟨by omega, by omega⟩ ⟨by decide, by decide⟩ dX8_apart_11 (by decide) (fun c_11 => ?_) (fun c_11 => ?_)
  · refine lv_iload_n hx hb dX8_apart_22 rfl (lv_at hl 0 rfl) ?_
    exact zr_i hx hb hr hlocks dX8_apart_23 (by subst_vars; unfold apM; first | rw [if_pos (by omega)] | rw [if_neg (by omega)])
  · refine zi_sipush hx hb dX8_apart_14 (by decide) ?_
    refine lv_iload_n hx hb dX8_apart_17 rfl (lv_at hl 0 rfl) ?_
    refine zi_isub hx hb dX8_apart_18 ?_
    refine lv_goto (tgt := 23) hx hb dX8_apart_19 (by decide) ?_
    exact zr_i hx hb hr hlocks dX8_apart_23 (by subst_vars; unfold apM; first | rw [if_pos (by omega)] | rw [if_neg (by omega)])

abbrev rmct_X8_isNight : Room := { frames := 1, cells := 0, slots := 0, locals := 22 }
set_option maxHeartbeats 4000000 in
set_option maxRecDepth 100000 in
theorem ct_X8_isNight (l : Launch) (D : va_G) (cI cZ cJ : ClassId) (x0 : Int) (hx0 : ir x0)  : Met l yX8_isNight wsX8_isNight rmct_X8_isNight (zP D cI cZ cJ [] [.int (zi x0)]) (k2_QcV (.int (zi (b2 (0 ≤ x0 ∧ x0 ≤ 999))))) 0 0 (fun _ => False) := by
  refine Met.ofW (cc := cX8_isNight) (maxL := 1) (ret := (some .boolean)) (by decide) rfl ?_
  intro p e s m args below meth c s₁ B hml hv
  obtain ⟨rfl, hP, hK⟩ := hv
  have hx := B.exec
  have hb := B.bytes
  have hr := B.returns
  have hts := atoms_spec (ws := wsX8_isNight) B.pre
  have hown : s.vm.findClass RX8 = some m.cls := findClass_of_methodNamed B.named
  have hlocks := B.notSynchronized
  have hl := lv_entry ([.int (zi x0)]) (n := 1) (Nat.le_of_ble_eq_true rfl)
  rw [lg_entry_eq]
  generalize (lg_sl ([.int (zi x0)]) ++ List.replicate (1 - (lg_sl ([.int (zi x0)])).length) Slot.unset).toArray = ls at hl ⊢
  have hl : lv_has ls 1 [(0, .int (zi x0))] := hl
  show W p l e rmct_X8_isNight s m ([.int (zi x0)] : List Value).toArray below meth c s.heap [] 0 0 (MQ below (k2_QcV (.int (zi (b2 (0 ≤ x0 ∧ x0 ≤ 999))))) ([.int (zi x0)] : List Value).toArray s 0 0 (fun _ => False)) (F0 m 0 ls [])
  refine lv_iload_n hx hb dX8_isNight_0 rfl (lv_at hl 0 rfl) ?_
  refine zi_iconst hx hb dX8_isNight_1 ?_
  refine zi_sipush hx hb dX8_isNight_2 (by decide) ?_
  refine zk_r (zc_S (As := [.int (zi x0), .int (zi 0), .int (zi 999)]) (rest := []) ⟨hx, hb, hml, hown, hts⟩ (ct_X8_isIn l D cI cZ cJ x0 0 999 ⟨by omega, by omega⟩ ⟨by decide, by decide⟩ ⟨by decide, by decide⟩) (va_cwS 3 hts gX8_isNight_X8_isIn rfl rfl rfl (by decide +kernel) ⟨Nat.le_of_ble_eq_true rfl, Nat.le_of_ble_eq_true rfl⟩) hK va_P_nil rfl hl.1 rfl (Nat.le_of_ble_eq_true rfl) dX8_isNight_5 ⟨Nat.zero_le _, Nat.zero_le _⟩) ?_
  refine zi_top (fun (r_5 : Int) (er_5 : r_5 = b2 (0 ≤ x0 ∧ x0 ≤ 999)) => ?_)
  have fr_5 : (0 : Int) ≤ r_5 ∧ r_5 ≤ 1 := by rw [er_5]; exact b2_b
  exact zr_z hx hb hr hlocks dX8_isNight_8 (by first | assumption | omega) (by exact er_5)

theorem in_X8_isDot_8 : ∀ w ∈ wsX80, w ∈ wsX8_isDot := by decide +kernel
theorem lk_X8_isDot_92 : Cond.fieldLink RX8 92 "PlanetoidDeskModel" "dots" "I" ∈ wsX8_isDot := by decide +kernel
abbrev rmct_X8_isDot : Room := { frames := 1, cells := 0, slots := 0, locals := 22 }
set_option maxHeartbeats 4000000 in
set_option maxRecDepth 100000 in
theorem ct_X8_isDot (l : Launch) (D : va_G) (cI cZ cJ : ClassId) (bd : Nat → Nat) (S : ZS) (hI : MI S) (x0 : Int) (hx0 : ir x0)  : Met l yX8_isDot wsX8_isDot rmct_X8_isDot (zP D cI cZ cJ (mW cI cZ bd S) [.ref (bd 0), .int (zi x0)]) (k2_QcV (.int (zi (b2 (0 ≤ x0 ∧ x0 < S 6 0))))) 0 0 (fun _ => False) := by
  refine Met.ofW (cc := cX8_isDot) (maxL := 2) (ret := (some .boolean)) (by decide) rfl ?_
  intro p e s m args below meth c s₁ B hml hv
  obtain ⟨rfl, hP, hK⟩ := hv
  have hx := B.exec
  have hb := B.bytes
  have hr := B.returns
  have hts := atoms_spec (ws := wsX8_isDot) B.pre
  have hown : s.vm.findClass RX8 = some m.cls := findClass_of_methodNamed B.named
  have hlocks := B.notSynchronized
  have hl := lv_entry ([.ref (bd 0), .int (zi x0)]) (n := 2) (Nat.le_of_ble_eq_true rfl)
  rw [lg_entry_eq]
  generalize (lg_sl ([.ref (bd 0), .int (zi x0)]) ++ List.replicate (2 - (lg_sl ([.ref (bd 0), .int (zi x0)])).length) Slot.unset).toArray = ls at hl ⊢
  have hl : lv_has ls 2 [(0, .ref (bd 0)), (1, .int (zi x0))] := hl
  show W p l e rmct_X8_isDot s m ([.ref (bd 0), .int (zi x0)] : List Value).toArray below meth c s.heap [] 0 0 (MQ below (k2_QcV (.int (zi (b2 (0 ≤ x0 ∧ x0 < S 6 0))))) ([.ref (bd 0), .int (zi x0)] : List Value).toArray s 0 0 (fun _ => False)) (F0 m 0 ls [])
  refine lv_iload_n hx hb dX8_isDot_0 rfl (lv_at hl 1 rfl) ?_
  refine zi_iconst hx hb dX8_isDot_1 ?_
  refine lv_aload_n hx hb dX8_isDot_2 rfl (lv_at hl 0 rfl) ?_
  refine va_get (D := D) (ci := 8) (v := .int (zi (S 6 0))) (C := RX8) (T := TX8) (N := 32) hx hb hts in_X8_isDot_8 hown hK.1 hP 0 rfl rfl 6 (by decide) (hts _ lk_X8_isDot_92) (fun _ h9 => h9) rfl dX8_isDot_3 ?_
  have f_3 : (0 : Int) ≤ S 6 0 ∧ S 6 0 ≤ 60 := hI 6 0
  refine zi_iconst hx hb dX8_isDot_6 ?_
  refine zi_isub hx hb dX8_isDot_7 ?_
  refine zk_r (zc_S (As := [.int (zi x0), .int (zi 0), .int (zi ((S 6 0) - 1))]) (rest := []) ⟨hx, hb, hml, hown, hts⟩ (ct_X8_isIn l D cI cZ cJ x0 0 ((S 6 0) - 1) ⟨by omega, by omega⟩ ⟨by decide, by decide⟩ ⟨by omega, by omega⟩) (va_cwS 3 hts gX8_isDot_X8_isIn rfl rfl rfl (by decide +kernel) ⟨Nat.le_of_ble_eq_true rfl, Nat.le_of_ble_eq_true rfl⟩) hK va_P_nil rfl hl.1 rfl (Nat.le_of_ble_eq_true rfl) dX8_isDot_8 ⟨Nat.zero_le _, Nat.zero_le _⟩) ?_
  refine zi_top (fun (r_8 : Int) (er_8 : r_8 = b2 (0 ≤ x0 ∧ x0 ≤ ((S 6 0) - 1))) => ?_)
  have fr_8 : (0 : Int) ≤ r_8 ∧ r_8 ≤ 1 := by rw [er_8]; exact b2_b
  exact zr_z hx hb hr hlocks dX8_isDot_11 (by first | assumption | omega) (by rw [er_8]; exact b2_iff ⟨fun h => ⟨h.1, by omega⟩, fun h => ⟨h.1, by omega⟩⟩)

theorem in_X8_isBody_8 : ∀ w ∈ wsX80, w ∈ wsX8_isBody := by decide +kernel
theorem lk_X8_isBody_95 : Cond.fieldLink RX8 95 "PlanetoidDeskModel" "bodies" "I" ∈ wsX8_isBody := by decide +kernel
abbrev rmct_X8_isBody : Room := { frames := 1, cells := 0, slots := 0, locals := 22 }
set_option maxHeartbeats 4000000 in
set_option maxRecDepth 100000 in
theorem ct_X8_isBody (l : Launch) (D : va_G) (cI cZ cJ : ClassId) (bd : Nat → Nat) (S : ZS) (hI : MI S) (x0 : Int) (hx0 : ir x0)  : Met l yX8_isBody wsX8_isBody rmct_X8_isBody (zP D cI cZ cJ (mW cI cZ bd S) [.ref (bd 0), .int (zi x0)]) (k2_QcV (.int (zi (b2 (0 ≤ x0 ∧ x0 < S 11 0))))) 0 0 (fun _ => False) := by
  refine Met.ofW (cc := cX8_isBody) (maxL := 2) (ret := (some .boolean)) (by decide) rfl ?_
  intro p e s m args below meth c s₁ B hml hv
  obtain ⟨rfl, hP, hK⟩ := hv
  have hx := B.exec
  have hb := B.bytes
  have hr := B.returns
  have hts := atoms_spec (ws := wsX8_isBody) B.pre
  have hown : s.vm.findClass RX8 = some m.cls := findClass_of_methodNamed B.named
  have hlocks := B.notSynchronized
  have hl := lv_entry ([.ref (bd 0), .int (zi x0)]) (n := 2) (Nat.le_of_ble_eq_true rfl)
  rw [lg_entry_eq]
  generalize (lg_sl ([.ref (bd 0), .int (zi x0)]) ++ List.replicate (2 - (lg_sl ([.ref (bd 0), .int (zi x0)])).length) Slot.unset).toArray = ls at hl ⊢
  have hl : lv_has ls 2 [(0, .ref (bd 0)), (1, .int (zi x0))] := hl
  show W p l e rmct_X8_isBody s m ([.ref (bd 0), .int (zi x0)] : List Value).toArray below meth c s.heap [] 0 0 (MQ below (k2_QcV (.int (zi (b2 (0 ≤ x0 ∧ x0 < S 11 0))))) ([.ref (bd 0), .int (zi x0)] : List Value).toArray s 0 0 (fun _ => False)) (F0 m 0 ls [])
  refine lv_iload_n hx hb dX8_isBody_0 rfl (lv_at hl 1 rfl) ?_
  refine zi_iconst hx hb dX8_isBody_1 ?_
  refine lv_aload_n hx hb dX8_isBody_2 rfl (lv_at hl 0 rfl) ?_
  refine va_get (D := D) (ci := 8) (v := .int (zi (S 11 0))) (C := RX8) (T := TX8) (N := 32) hx hb hts in_X8_isBody_8 hown hK.1 hP 0 rfl rfl 11 (by decide) (hts _ lk_X8_isBody_95) (fun _ h9 => h9) rfl dX8_isBody_3 ?_
  have f_3 : (0 : Int) ≤ S 11 0 ∧ S 11 0 ≤ 20 := hI 11 0
  refine zi_iconst hx hb dX8_isBody_6 ?_
  refine zi_isub hx hb dX8_isBody_7 ?_
  refine zk_r (zc_S (As := [.int (zi x0), .int (zi 0), .int (zi ((S 11 0) - 1))]) (rest := []) ⟨hx, hb, hml, hown, hts⟩ (ct_X8_isIn l D cI cZ cJ x0 0 ((S 11 0) - 1) ⟨by omega, by omega⟩ ⟨by decide, by decide⟩ ⟨by omega, by omega⟩) (va_cwS 3 hts gX8_isBody_X8_isIn rfl rfl rfl (by decide +kernel) ⟨Nat.le_of_ble_eq_true rfl, Nat.le_of_ble_eq_true rfl⟩) hK va_P_nil rfl hl.1 rfl (Nat.le_of_ble_eq_true rfl) dX8_isBody_8 ⟨Nat.zero_le _, Nat.zero_le _⟩) ?_
  refine zi_top (fun (r_8 : Int) (er_8 : r_8 = b2 (0 ≤ x0 ∧ x0 ≤ ((S 11 0) - 1))) => ?_)
  have fr_8 : (0 : Int) ≤ r_8 ∧ r_8 ≤ 1 := by rw [er_8]; exact b2_b
  exact zr_z hx hb hr hlocks dX8_isBody_11 (by first | assumption | omega) (by rw [er_8]; exact b2_iff ⟨fun h => ⟨h.1, by omega⟩, fun h => ⟨h.1, by omega⟩⟩)

abbrev rmct_X8_moves : Room := { frames := 0, cells := 0, slots := 0, locals := 0 }
set_option maxHeartbeats 4000000 in
set_option maxRecDepth 100000 in
theorem ct_X8_moves (l : Launch) (D : va_G) (cI cZ cJ : ClassId) (x0 x1 x2 : Int) (hx0 : ir x0) (hx1 : ir x1) (hx2 : ir x2) (hp00 : -40 ≤ x0) (hp01 : x0 ≤ 40) (hp10 : -2 ≤ x1) (hp11 : x1 ≤ 2) (hp20 : 0 ≤ x2) (hp21 : x2 ≤ 999) : Met l yX8_moves wsX8_moves rmct_X8_moves (zP D cI cZ cJ [] [.int (zi x0), .int (zi x1), .int (zi x2)]) (k2_QcV (.int (zi (mvM x0 x1 x2)))) 0 0 (fun _ => False) := by
  refine Met.ofW (cc := cX8_moves) (maxL := 3) (ret := (some .int)) (by decide) rfl ?_
  intro p e s m args below meth c s₁ B hml hv
  obtain ⟨rfl, hP, hK⟩ := hv
  have hx := B.exec
  have hb := B.bytes
  have hr := B.returns
  have hts := atoms_spec (ws := wsX8_moves) B.pre
  have hown : s.vm.findClass RX8 = some m.cls := findClass_of_methodNamed B.named
  have hlocks := B.notSynchronized
  have hl := lv_entry ([.int (zi x0), .int (zi x1), .int (zi x2)]) (n := 3) (Nat.le_of_ble_eq_true rfl)
  rw [lg_entry_eq]
  generalize (lg_sl ([.int (zi x0), .int (zi x1), .int (zi x2)]) ++ List.replicate (3 - (lg_sl ([.int (zi x0), .int (zi x1), .int (zi x2)])).length) Slot.unset).toArray = ls at hl ⊢
  have hl : lv_has ls 3 [(0, .int (zi x0)), (1, .int (zi x1)), (2, .int (zi x2))] := hl
  show W p l e rmct_X8_moves s m ([.int (zi x0), .int (zi x1), .int (zi x2)] : List Value).toArray below meth c s.heap [] 0 0 (MQ below (k2_QcV (.int (zi (mvM x0 x1 x2)))) ([.int (zi x0), .int (zi x1), .int (zi x2)] : List Value).toArray s 0 0 (fun _ => False)) (F0 m 0 ls [])
  refine lv_iload_n hx hb dX8_moves_0 rfl (lv_at hl 0 rfl) ?_
  refine lv_iload_n hx hb dX8_moves_1 rfl (lv_at hl 2 rfl) ?_
  refine zi_imul hx hb dX8_moves_2 ?_
  refine lv_iload_n hx hb dX8_moves_3 rfl (lv_at hl 1 rfl) ?_
  refine lv_iload_n hx hb dX8_moves_4 rfl (lv_at hl 2 rfl) ?_
  refine lv_iload_n hx hb dX8_moves_5 rfl (lv_at hl 2 rfl) ?_
  refine zi_iconst hx hb dX8_moves_6 ?_
  refine zi_isub hx hb dX8_moves_7 ?_
  have q_1 := sq_b hp20 hp21
  refine zi_imul hx hb dX8_moves_8 ?_
  refine zi_iconst hx hb dX8_moves_9 ?_
  refine zi_idiv hx hb ⟨by omega, by omega⟩ ⟨by omega, by omega⟩ (by omega) (by omega) dX8_moves_10 ?_
  refine zi_imul hx hb dX8_moves_11 ?_
  refine zi_iadd hx hb dX8_moves_12 ?_
  exact zr_i hx hb hr hlocks dX8_moves_13 (by rfl)

theorem in_X8_nightOf_8 : ∀ w ∈ wsX80, w ∈ wsX8_nightOf := by decide +kernel
theorem lk_X8_nightOf_19 : Cond.fieldLink RX8 19 "PlanetoidDeskModel" "night" "[I" ∈ wsX8_nightOf := by decide +kernel
theorem lk_X8_nightOf_22 : Cond.fieldLink RX8 22 "PlanetoidDeskModel" "plateOf" "[I" ∈ wsX8_nightOf := by decide +kernel
abbrev rmct_X8_nightOf : Room := { frames := 0, cells := 0, slots := 0, locals := 0 }
set_option maxHeartbeats 4000000 in
set_option maxRecDepth 100000 in
theorem ct_X8_nightOf (l : Launch) (D : va_G) (cI cZ cJ : ClassId) (bd : Nat → Nat) (S : ZS) (hI : MI S) (x0 : Int) (hx0 : ir x0) (hp00 : 0 ≤ x0) (hp01 : x0 ≤ 59) : Met l yX8_nightOf wsX8_nightOf rmct_X8_nightOf (zP D cI cZ cJ (mW cI cZ bd S) [.ref (bd 0), .int (zi x0)]) (k2_QcV (.int (zi (nM S x0)))) 0 0 (fun _ => False) := by
  refine Met.ofW (cc := cX8_nightOf) (maxL := 2) (ret := (some .int)) (by decide) rfl ?_
  intro p e s m args below meth c s₁ B hml hv
  obtain ⟨rfl, hP, hK⟩ := hv
  have hx := B.exec
  have hb := B.bytes
  have hr := B.returns
  have hts := atoms_spec (ws := wsX8_nightOf) B.pre
  have hown : s.vm.findClass RX8 = some m.cls := findClass_of_methodNamed B.named
  have hlocks := B.notSynchronized
  have hl := lv_entry ([.ref (bd 0), .int (zi x0)]) (n := 2) (Nat.le_of_ble_eq_true rfl)
  rw [lg_entry_eq]
  generalize (lg_sl ([.ref (bd 0), .int (zi x0)]) ++ List.replicate (2 - (lg_sl ([.ref (bd 0), .int (zi x0)])).length) Slot.unset).toArray = ls at hl ⊢
  have hl : lv_has ls 2 [(0, .ref (bd 0)), (1, .int (zi x0))] := hl
  show W p l e rmct_X8_nightOf s m ([.ref (bd 0), .int (zi x0)] : List Value).toArray below meth c s.heap [] 0 0 (MQ below (k2_QcV (.int (zi (nM S x0)))) ([.ref (bd 0), .int (zi x0)] : List Value).toArray s 0 0 (fun _ => False)) (F0 m 0 ls [])
  refine lv_aload_n hx hb dX8_nightOf_0 rfl (lv_at hl 0 rfl) ?_
  refine va_get (D := D) (ci := 8) (v := .ref (bd 6)) (C := RX8) (T := TX8) (N := 32) hx hb hts in_X8_nightOf_8 hown hK.1 hP 0 rfl rfl 5 (by decide) (hts _ lk_X8_nightOf_19) (fun _ h9 => h9) rfl dX8_nightOf_1 ?_
  refine lv_aload_n hx hb dX8_nightOf_4 rfl (lv_at hl 0 rfl) ?_
  refine va_get (D := D) (ci := 8) (v := .ref (bd 8)) (C := RX8) (T := TX8) (N := 32) hx hb hts in_X8_nightOf_8 hown hK.1 hP 0 rfl rfl 7 (by decide) (hts _ lk_X8_nightOf_22) (fun _ h9 => h9) rfl dX8_nightOf_5 ?_
  refine lv_iload_n hx hb dX8_nightOf_8 rfl (lv_at hl 1 rfl) ?_
  refine zi_iald hx hb hK.1 hP 5 0 rfl rfl (by omega) (by omega) (by decide) dX8_nightOf_9 ?_
  have f_9 : (0 : Int) ≤ S 7 x0 ∧ S 7 x0 ≤ 29 := hI 7 x0
  refine zi_iald hx hb hK.1 hP 4 0 rfl rfl (by omega) (by omega) (by decide) dX8_nightOf_10 ?_
  have f_10 : (0 : Int) ≤ S 5 (S 7 x0) ∧ S 5 (S 7 x0) ≤ 999 := hI 5 (S 7 x0)
  exact zr_i hx hb hr hlocks dX8_nightOf_11 (by rfl)

theorem in_X8_errorOf_8 : ∀ w ∈ wsX80, w ∈ wsX8_errorOf := by decide +kernel
theorem lk_X8_errorOf_13 : Cond.fieldLink RX8 13 "PlanetoidDeskModel" "error" "[I" ∈ wsX8_errorOf := by decide +kernel
theorem lk_X8_errorOf_16 : Cond.fieldLink RX8 16 "PlanetoidDeskModel" "seat" "[I" ∈ wsX8_errorOf := by decide +kernel
theorem lk_X8_errorOf_22 : Cond.fieldLink RX8 22 "PlanetoidDeskModel" "plateOf" "[I" ∈ wsX8_errorOf := by decide +kernel
abbrev rmct_X8_errorOf : Room := { frames := 0, cells := 0, slots := 0, locals := 0 }
set_option maxHeartbeats 4000000 in
set_option maxRecDepth 100000 in
theorem ct_X8_errorOf (l : Launch) (D : va_G) (cI cZ cJ : ClassId) (bd : Nat → Nat) (S : ZS) (hI : MI S) (x0 : Int) (hx0 : ir x0) (hp00 : 0 ≤ x0) (hp01 : x0 ≤ 59) : Met l yX8_errorOf wsX8_errorOf rmct_X8_errorOf (zP D cI cZ cJ (mW cI cZ bd S) [.ref (bd 0), .int (zi x0)]) (k2_QcV (.int (zi (eM S x0)))) 0 0 (fun _ => False) := by
  refine Met.ofW (cc := cX8_errorOf) (maxL := 2) (ret := (some .int)) (by decide) rfl ?_
  intro p e s m args below meth c s₁ B hml hv
  obtain ⟨rfl, hP, hK⟩ := hv
  have hx := B.exec
  have hb := B.bytes
  have hr := B.returns
  have hts := atoms_spec (ws := wsX8_errorOf) B.pre
  have hown : s.vm.findClass RX8 = some m.cls := findClass_of_methodNamed B.named
  have hlocks := B.notSynchronized
  have hl := lv_entry ([.ref (bd 0), .int (zi x0)]) (n := 2) (Nat.le_of_ble_eq_true rfl)
  rw [lg_entry_eq]
  generalize (lg_sl ([.ref (bd 0), .int (zi x0)]) ++ List.replicate (2 - (lg_sl ([.ref (bd 0), .int (zi x0)])).length) Slot.unset).toArray = ls at hl ⊢
  have hl : lv_has ls 2 [(0, .ref (bd 0)), (1, .int (zi x0))] := hl
  show W p l e rmct_X8_errorOf s m ([.ref (bd 0), .int (zi x0)] : List Value).toArray below meth c s.heap [] 0 0 (MQ below (k2_QcV (.int (zi (eM S x0)))) ([.ref (bd 0), .int (zi x0)] : List Value).toArray s 0 0 (fun _ => False)) (F0 m 0 ls [])
  refine lv_aload_n hx hb dX8_errorOf_0 rfl (lv_at hl 0 rfl) ?_
  refine va_get (D := D) (ci := 8) (v := .ref (bd 3)) (C := RX8) (T := TX8) (N := 32) hx hb hts in_X8_errorOf_8 hown hK.1 hP 0 rfl rfl 2 (by decide) (hts _ lk_X8_errorOf_13) (fun _ h9 => h9) rfl dX8_errorOf_1 ?_
  refine lv_aload_n hx hb dX8_errorOf_4 rfl (lv_at hl 0 rfl) ?_
  refine va_get (D := D) (ci := 8) (v := .ref (bd 5)) (C := RX8) (T := TX8) (N := 32) hx hb hts in_X8_errorOf_8 hown hK.1 hP 0 rfl rfl 4 (by decide) (hts _ lk_X8_errorOf_16) (fun _ h9 => h9) rfl dX8_errorOf_5 ?_
  refine lv_aload_n hx hb dX8_errorOf_8 rfl (lv_at hl 0 rfl) ?_
  refine va_get (D := D) (ci := 8) (v := .ref (bd 8)) (C := RX8) (T := TX8) (N := 32) hx hb hts in_X8_errorOf_8 hown hK.1 hP 0 rfl rfl 7 (by decide) (hts _ lk_X8_errorOf_22) (fun _ h9 => h9) rfl dX8_errorOf_9 ?_
  refine lv_iload_n hx hb dX8_errorOf_12 rfl (lv_at hl 1 rfl) ?_
  refine zi_iald hx hb hK.1 hP 5 0 rfl rfl (by omega) (by omega) (by decide) dX8_errorOf_13 ?_
  have f_13 : (0 : Int) ≤ S 7 x0 ∧ S 7 x0 ≤ 29 := hI 7 x0
  refine zi_iald hx hb hK.1 hP 3 0 rfl rfl (by omega) (by omega) (by decide) dX8_errorOf_14 ?_
  have f_14 : (0 : Int) ≤ S 4 (S 7 x0) ∧ S 4 (S 7 x0) ≤ 5 := hI 4 (S 7 x0)
  refine zi_iald hx hb hK.1 hP 2 0 rfl rfl (by omega) (by omega) (by decide) dX8_errorOf_15 ?_
  have f_15 : (0 : Int) ≤ S 2 (S 4 (S 7 x0)) ∧ S 2 (S 4 (S 7 x0)) ≤ 9 := hI 2 (S 4 (S 7 x0))
  exact zr_i hx hb hr hlocks dX8_errorOf_16 (by rfl)

theorem in_X8_trueOf_8 : ∀ w ∈ wsX80, w ∈ wsX8_trueOf := by decide +kernel
theorem lk_X8_trueOf_25 : Cond.fieldLink RX8 25 "PlanetoidDeskModel" "measured" "[I" ∈ wsX8_trueOf := by decide +kernel
theorem lk_X8_trueOf_7 : Cond.fieldLink RX8 7 "PlanetoidDeskModel" "shift" "[I" ∈ wsX8_trueOf := by decide +kernel
abbrev rmct_X8_trueOf : Room := { frames := 1, cells := 0, slots := 0, locals := 21 }
set_option maxHeartbeats 4000000 in
set_option maxRecDepth 100000 in
theorem ct_X8_trueOf (l : Launch) (D : va_G) (cI cZ cJ : ClassId) (bd : Nat → Nat) (S : ZS) (hI : MI S) (x0 : Int) (hx0 : ir x0) (hp00 : 0 ≤ x0) (hp01 : x0 ≤ 59) : Met l yX8_trueOf wsX8_trueOf rmct_X8_trueOf (zP D cI cZ cJ (mW cI cZ bd S) [.ref (bd 0), .int (zi x0)]) (k2_QcV (.int (zi (tM S x0)))) 0 0 (fun _ => False) := by
  refine Met.ofW (cc := cX8_trueOf) (maxL := 2) (ret := (some .int)) (by decide) rfl ?_
  intro p e s m args below meth c s₁ B hml hv
  obtain ⟨rfl, hP, hK⟩ := hv
  have hx := B.exec
  have hb := B.bytes
  have hr := B.returns
  have hts := atoms_spec (ws := wsX8_trueOf) B.pre
  have hown : s.vm.findClass RX8 = some m.cls := findClass_of_methodNamed B.named
  have hlocks := B.notSynchronized
  have hl := lv_entry ([.ref (bd 0), .int (zi x0)]) (n := 2) (Nat.le_of_ble_eq_true rfl)
  rw [lg_entry_eq]
  generalize (lg_sl ([.ref (bd 0), .int (zi x0)]) ++ List.replicate (2 - (lg_sl ([.ref (bd 0), .int (zi x0)])).length) Slot.unset).toArray = ls at hl ⊢
  have hl : lv_has ls 2 [(0, .ref (bd 0)), (1, .int (zi x0))] := hl
  show W p l e rmct_X8_trueOf s m ([.ref (bd 0), .int (zi x0)] : List Value).toArray below meth c s.heap [] 0 0 (MQ below (k2_QcV (.int (zi (tM S x0)))) ([.ref (bd 0), .int (zi x0)] : List Value).toArray s 0 0 (fun _ => False)) (F0 m 0 ls [])
  refine lv_aload_n hx hb dX8_trueOf_0 rfl (lv_at hl 0 rfl) ?_
  refine va_get (D := D) (ci := 8) (v := .ref (bd 9)) (C := RX8) (T := TX8) (N := 32) hx hb hts in_X8_trueOf_8 hown hK.1 hP 0 rfl rfl 8 (by decide) (hts _ lk_X8_trueOf_25) (fun _ h9 => h9) rfl dX8_trueOf_1 ?_
  refine lv_iload_n hx hb dX8_trueOf_4 rfl (lv_at hl 1 rfl) ?_
  refine zi_iald hx hb hK.1 hP 6 0 rfl rfl (by omega) (by omega) (by decide) dX8_trueOf_5 ?_
  have f_5 : (0 : Int) ≤ S 8 x0 ∧ S 8 x0 ≤ 3599 := hI 8 x0
  refine lv_aload_n hx hb dX8_trueOf_6 rfl (lv_at hl 0 rfl) ?_
  refine va_get (D := D) (ci := 8) (v := .ref (bd 1)) (C := RX8) (T := TX8) (N := 32) hx hb hts in_X8_trueOf_8 hown hK.1 hP 0 rfl rfl 0 (by decide) (hts _ lk_X8_trueOf_7) (fun _ h9 => h9) rfl dX8_trueOf_7 ?_
  refine lv_aload_n hx hb dX8_trueOf_10 rfl (lv_at hl 0 rfl) ?_
  refine va_get (D := D) (ci := 8) (v := .ref (bd 9)) (C := RX8) (T := TX8) (N := 32) hx hb hts in_X8_trueOf_8 hown hK.1 hP 0 rfl rfl 8 (by decide) (hts _ lk_X8_trueOf_25) (fun _ h9 => h9) rfl dX8_trueOf_11 ?_
  refine lv_iload_n hx hb dX8_trueOf_14 rfl (lv_at hl 1 rfl) ?_
  refine zi_iald hx hb hK.1 hP 6 0 rfl rfl (by omega) (by omega) (by decide) dX8_trueOf_15 ?_
  have f_15 : (0 : Int) ≤ S 8 x0 ∧ S 8 x0 ≤ 3599 := hI 8 x0
  refine zi_sipush hx hb dX8_trueOf_16 (by decide) ?_
  refine zi_idiv hx hb ⟨by omega, by omega⟩ ⟨by omega, by omega⟩ (by omega) (by omega) dX8_trueOf_19 ?_
  refine zi_iald hx hb hK.1 hP 1 0 rfl rfl (by omega) (by omega) (by decide) dX8_trueOf_20 ?_
  have f_20 : (-9 : Int) ≤ S 0 ((S 8 x0) / 400) ∧ S 0 ((S 8 x0) / 400) ≤ 9 := hI 0 ((S 8 x0) / 400)
  refine zi_iadd hx hb dX8_trueOf_21 ?_
  refine zk_r (zc_S (As := [.int (zi ((S 8 x0) + (S 0 ((S 8 x0) / 400))))]) (rest := []) ⟨hx, hb, hml, hown, hts⟩ (ct_X8_round l D cI cZ cJ ((S 8 x0) + (S 0 ((S 8 x0) / 400))) ⟨by omega, by omega⟩) (va_cwS 1 hts gX8_trueOf_X8_round rfl rfl rfl (by decide +kernel) ⟨Nat.le_of_ble_eq_true rfl, Nat.le_of_ble_eq_true rfl⟩) hK va_P_nil rfl hl.1 rfl (Nat.le_of_ble_eq_true rfl) dX8_trueOf_22 ⟨Nat.zero_le _, Nat.zero_le _⟩) ?_
  refine zi_top (fun (r_22 : Int) (er_22 : r_22 = ((S 8 x0) + (S 0 ((S 8 x0) / 400))) % 3600) => ?_)
  have fr_22 : (0 : Int) ≤ r_22 ∧ r_22 ≤ 3599 := by rw [er_22]; exact (by omega)
  exact zr_i hx hb hr hlocks dX8_trueOf_25 (by subst_vars; rfl)

theorem in_X8_isBelow_8 : ∀ w ∈ wsX80, w ∈ wsX8_isBelow := by decide +kernel
theorem lk_X8_isBelow_34 : Cond.fieldLink RX8 34 "PlanetoidDeskModel" "above" "[I" ∈ wsX8_isBelow := by decide +kernel
abbrev rmct_X8_isBelow : Room := { frames := 0, cells := 0, slots := 0, locals := 0 }
set_option maxHeartbeats 4000000 in
set_option maxRecDepth 100000 in
theorem ct_X8_isBelow (l : Launch) (D : va_G) (cI cZ cJ : ClassId) (bd : Nat → Nat) (S : ZS) (hI : MI S) (x0 x1 : Int) (hx0 : ir x0) (hx1 : ir x1) (hp00 : -1 ≤ x0) (hp01 : x0 ≤ 19) (hac : anc (S 12) 20 x0 = -1) : Met l yX8_isBelow wsX8_isBelow rmct_X8_isBelow (zP D cI cZ cJ (mW cI cZ bd S) [.ref (bd 0), .int (zi x0), .int (zi x1)]) (k2_QcV (.int (zi (b2 (climb (S 12) 20 x0 x1 = x1))))) 0 0 (fun _ => False) := by
  refine Met.ofW (cc := cX8_isBelow) (maxL := 4) (ret := (some .boolean)) (by decide) rfl ?_
  intro p e s m args below meth c s₁ B hml hv
  obtain ⟨rfl, hP, hK⟩ := hv
  have hx := B.exec
  have hb := B.bytes
  have hr := B.returns
  have hts := atoms_spec (ws := wsX8_isBelow) B.pre
  have hown : s.vm.findClass RX8 = some m.cls := findClass_of_methodNamed B.named
  have hlocks := B.notSynchronized
  have hl := lv_entry ([.ref (bd 0), .int (zi x0), .int (zi x1)]) (n := 4) (Nat.le_of_ble_eq_true rfl)
  rw [lg_entry_eq]
  generalize (lg_sl ([.ref (bd 0), .int (zi x0), .int (zi x1)]) ++ List.replicate (4 - (lg_sl ([.ref (bd 0), .int (zi x0), .int (zi x1)])).length) Slot.unset).toArray = ls at hl ⊢
  have hl : lv_has ls 4 [(0, .ref (bd 0)), (1, .int (zi x0)), (2, .int (zi x1))] := hl
  show W p l e rmct_X8_isBelow s m ([.ref (bd 0), .int (zi x0), .int (zi x1)] : List Value).toArray below meth c s.heap [] 0 0 (MQ below (k2_QcV (.int (zi (b2 (climb (S 12) 20 x0 x1 = x1))))) ([.ref (bd 0), .int (zi x0), .int (zi x1)] : List Value).toArray s 0 0 (fun _ => False)) (F0 m 0 ls [])
  refine lv_iload_n hx hb dX8_isBelow_0 rfl (lv_at hl 1 rfl) ?_
  have K_2 : ∀ (k : Nat) (n : Nat) (at9 : Int), (-1 ≤ at9 ∧ at9 ≤ 19) → (anc (S 12) n at9 = -1) → (climb (S 12) n at9 x1 = climb (S 12) 20 x0 x1) → ((n : Int) < (k : Int)) → ∀ (ls : Array Slot), lv_has ls 4 [(0, .ref (bd 0)), (1, .int (zi x0)), (2, .int (zi x1)), (3, .int (zi at9))] → W p l e rmct_X8_isBelow s m ([.ref (bd 0), .int (zi x0), .int (zi x1)] : List Value).toArray below meth c s.heap [] 0 0 (MQ below (k2_QcV (.int (zi (b2 (climb (S 12) 20 x0 x1 = x1))))) ([.ref (bd 0), .int (zi x0), .int (zi x1)] : List Value).toArray s 0 0 (fun _ => False)) (F0 m 2 ls []) := by
    intro k
    induction k with
    | zero => intro n at9 h_b h_a h_R hk; exact absurd hk (by omega)
    | succ k ih_2 =>
      intro n at9 h_b h_a h_R hk ls hl
      refine lv_iload_n hx hb dX8_isBelow_2 rfl (lv_at hl 3 rfl) ?_
      refine zi_iconst hx hb dX8_isBelow_3 ?_
      refine zi_icmp_eq (tgt := 22) hx hb ⟨by omega, by omega⟩ ⟨by decide, by decide⟩ dX8_isBelow_4 (by decide) (fun c_4 => ?_) (fun c_4 => ?_)
      · have hE : at9 = climb (S 12) 20 x0 x1 := by rw [← h_R, climb_s (Or.inl c_4)]
        refine lv_iload_n hx hb dX8_isBelow_22 rfl (lv_at hl 3 rfl) ?_
        refine lv_iload_n hx hb dX8_isBelow_23 rfl (lv_at hl 2 rfl) ?_
        refine zi_icmp_ne (tgt := 31) hx hb ⟨by omega, by omega⟩ ⟨by omega, by omega⟩ dX8_isBelow_24 (by decide) (fun c_24 => ?_) (fun c_24 => ?_)
        · refine zi_iconst hx hb dX8_isBelow_31 ?_
          exact zr_z hx hb hr hlocks dX8_isBelow_32 (Or.inl rfl) (by rw [← hE]; first | exact (b2_t (by omega)).symm | exact (b2_f (by omega)).symm)
        · refine zi_iconst hx hb dX8_isBelow_27 ?_
          refine lv_goto (tgt := 32) hx hb dX8_isBelow_28 (by decide) ?_
          exact zr_z hx hb hr hlocks dX8_isBelow_32 (Or.inr rfl) (by rw [← hE]; first | exact (b2_t (by omega)).symm | exact (b2_f (by omega)).symm)
      · refine lv_iload_n hx hb dX8_isBelow_7 rfl (lv_at hl 3 rfl) ?_
        refine lv_iload_n hx hb dX8_isBelow_8 rfl (lv_at hl 2 rfl) ?_
        refine zi_icmp_eq (tgt := 22) hx hb ⟨by omega, by omega⟩ ⟨by omega, by omega⟩ dX8_isBelow_9 (by decide) (fun c_9 => ?_) (fun c_9 => ?_)
        · have hE : at9 = climb (S 12) 20 x0 x1 := by rw [← h_R, climb_s (Or.inr c_9)]
          refine lv_iload_n hx hb dX8_isBelow_22 rfl (lv_at hl 3 rfl) ?_
          refine lv_iload_n hx hb dX8_isBelow_23 rfl (lv_at hl 2 rfl) ?_
          refine zi_icmp_ne (tgt := 31) hx hb ⟨by omega, by omega⟩ ⟨by omega, by omega⟩ dX8_isBelow_24 (by decide) (fun c_24 => ?_) (fun c_24 => ?_)
          · refine zi_iconst hx hb dX8_isBelow_31 ?_
            exact zr_z hx hb hr hlocks dX8_isBelow_32 (Or.inl rfl) (by rw [← hE]; first | exact (b2_t (by omega)).symm | exact (b2_f (by omega)).symm)
          · refine zi_iconst hx hb dX8_isBelow_27 ?_
            refine lv_goto (tgt := 32) hx hb dX8_isBelow_28 (by decide) ?_
            exact zr_z hx hb hr hlocks dX8_isBelow_32 (Or.inr rfl) (by rw [← hE]; first | exact (b2_t (by omega)).symm | exact (b2_f (by omega)).symm)
        · obtain ⟨n, rfl⟩ := anc_pos h_a c_4
          refine lv_aload_n hx hb dX8_isBelow_12 rfl (lv_at hl 0 rfl) ?_
          refine va_get (D := D) (ci := 8) (v := .ref (bd 13)) (C := RX8) (T := TX8) (N := 32) hx hb hts in_X8_isBelow_8 hown hK.1 hP 0 rfl rfl 12 (by decide) (hts _ lk_X8_isBelow_34) (fun _ h9 => h9) rfl dX8_isBelow_13 ?_
          refine lv_iload_n hx hb dX8_isBelow_16 rfl (lv_at hl 3 rfl) ?_
          refine zi_iald hx hb hK.1 hP 9 0 rfl rfl (by omega) (by omega) (by decide) dX8_isBelow_17 ?_
          have f_17 : (-1 : Int) ≤ S 12 at9 ∧ S 12 at9 ≤ 19 := hI 12 at9
          refine zi_top (fun x3_18 ex3_18 => ?_)
          refine lv_istore_n (lv' := [(3, .int (zi x3_18)), (0, .ref (bd 0)), (1, .int (zi x0)), (2, .int (zi x1))]) hx hb dX8_isBelow_18 rfl hl (by decide) rfl (fun ls hl => ?_)
          refine lv_goto (tgt := 2) hx hb dX8_isBelow_19 (by decide) ?_
          exact ih_2 n x3_18 (by first | omega | assumption) (by rw [ex3_18]; exact (if_neg c_4).symm.trans h_a) (by rw [← h_R, ex3_18]; exact (if_neg (fun h9 => h9.elim c_4 c_9)).symm) (by omega) _ (lv_sub hl [1, 2, 3, 0] rfl)
  refine lv_istore_n (lv' := [(3, .int (zi x0)), (0, .ref (bd 0)), (1, .int (zi x0)), (2, .int (zi x1))]) hx hb dX8_isBelow_1 rfl hl (by decide) rfl (fun ls hl => ?_)
  exact K_2 21 20 x0 (by first | omega | assumption) hac rfl (by omega) _ (lv_sub hl [1, 2, 3, 0] rfl)

theorem lk_X8_can_80 : Cond.fieldLink RX8 80 "PlanetoidDeskModel" "thrown" "I" ∈ wsX8_can := by decide +kernel
theorem in_X8_can_8 : ∀ w ∈ wsX80, w ∈ wsX8_can := by decide +kernel
abbrev rmct_X8_can : Room := { frames := 0, cells := 0, slots := 0, locals := 0 }
set_option maxHeartbeats 4000000 in
set_option maxRecDepth 100000 in
theorem ct_X8_can (l : Launch) (D : va_G) (cI cZ cJ : ClassId) (bd : Nat → Nat) (S : ZS) (hI : MI S) (hdis : mDis bd) (x0 : Int) (hx0 : ir x0) (hp00 : 0 ≤ x0) (hp01 : x0 ≤ 3) : Met l yX8_can wsX8_can rmct_X8_can (zP D cI cZ cJ (mW cI cZ bd S) [.ref (bd 0), .int (zi x0)]) (zWi D (mW cI cZ bd) (mA bd) (fun r T => r = b2 (x0 = 0) ∧ T = su S 31 (fun _ => x0) ∧ MI T)) 0 0 (mA bd) := by
  refine Met.ofW (cc := cX8_can) (maxL := 2) (ret := (some .boolean)) (by decide) rfl ?_
  intro p e s m args below meth c s₁ B hml hv
  obtain ⟨rfl, hP, hK⟩ := hv
  have hx := B.exec
  have hb := B.bytes
  have hr := B.returns
  have hts := atoms_spec (ws := wsX8_can) B.pre
  have hown : s.vm.findClass RX8 = some m.cls := findClass_of_methodNamed B.named
  have hlocks := B.notSynchronized
  have hl := lv_entry ([.ref (bd 0), .int (zi x0)]) (n := 2) (Nat.le_of_ble_eq_true rfl)
  rw [lg_entry_eq]
  generalize (lg_sl ([.ref (bd 0), .int (zi x0)]) ++ List.replicate (2 - (lg_sl ([.ref (bd 0), .int (zi x0)])).length) Slot.unset).toArray = ls at hl ⊢
  have hl : lv_has ls 2 [(0, .ref (bd 0)), (1, .int (zi x0))] := hl
  have hS : va_S (mA bd) s.heap s.heap [] := va_S.rf
  show W p l e rmct_X8_can s m ([.ref (bd 0), .int (zi x0)] : List Value).toArray below meth c s.heap [] 0 0 (MQ below (zWi D (mW cI cZ bd) (mA bd) (fun r T => r = b2 (x0 = 0) ∧ T = su S 31 (fun _ => x0) ∧ MI T)) ([.ref (bd 0), .int (zi x0)] : List Value).toArray s 0 0 (mA bd)) (F0 m 0 ls [])
  refine lv_aload_n hx hb dX8_can_0 rfl (lv_at hl 0 rfl) ?_
  refine lv_iload_n hx hb dX8_can_1 rfl (lv_at hl 1 rfl) ?_
  refine va_put (D := D) (ci := 8) (v := .int (zi x0)) (ty := .int) (C := RX8) (T := TX8) (N := 32) hx hb hts in_X8_can_8 tyX8 tyX8_ok nmX8 hown hK.1 hP (mW_D hdis _) hS 0 rfl rfl 31 (by decide) (hts _ lk_X8_can_80) (fun _ h9 => h9) rfl (by decide +kernel) rfl rfl (Nat.le_of_ble_eq_true rfl) dX8_can_2 (fun H locs hP _ hS => ?_)
  have hP : va_P D vwCl (mW cI cZ bd (su S 31 (fun _ => x0))) H := hP
  have hI_2 : MI (su S 31 (fun _ => x0)) := MI.upc hI 31 x0 (show (0 : Int) ≤ x0 ∧ x0 ≤ 3 from ⟨by omega, by omega⟩)
  generalize eS_2 : su S 31 (fun _ => x0) = S_2 at hP hI_2
  refine lv_iload_n hx hb dX8_can_5 rfl (lv_at hl 1 rfl) ?_
  refine zi_if_ne (tgt := 13) hx hb ⟨by omega, by omega⟩ dX8_can_6 (by decide) (fun c_6 => ?_) (fun c_6 => ?_)
  · refine zi_iconst hx hb dX8_can_13 ?_
    exact zr_wz (T := S_2) hx hb hr hlocks dX8_can_14 (Or.inl rfl) hP hS (by exact ⟨by first | exact (b2_t (by omega)).symm | exact (b2_f (by omega)).symm, by rw [← eS_2], hI_2⟩)
  · refine zi_iconst hx hb dX8_can_9 ?_
    refine lv_goto (tgt := 14) hx hb dX8_can_10 (by decide) ?_
    exact zr_wz (T := S_2) hx hb hr hlocks dX8_can_14 (Or.inr rfl) hP hS (by exact ⟨by first | exact (b2_t (by omega)).symm | exact (b2_f (by omega)).symm, by rw [← eS_2], hI_2⟩)

theorem in_X8_laysAlso_8 : ∀ w ∈ wsX80, w ∈ wsX8_laysAlso := by decide +kernel
theorem lk_X8_laysAlso_92 : Cond.fieldLink RX8 92 "PlanetoidDeskModel" "dots" "I" ∈ wsX8_laysAlso := by decide +kernel
theorem lk_X8_laysAlso_31 : Cond.fieldLink RX8 31 "PlanetoidDeskModel" "own" "[I" ∈ wsX8_laysAlso := by decide +kernel
theorem lk_X8_laysAlso_49 : Cond.fieldLink RX8 49 "PlanetoidDeskModel" "look" "[I" ∈ wsX8_laysAlso := by decide +kernel
theorem lk_X8_laysAlso_127 : Cond.fieldLink RX8 127 "PlanetoidDeskModel" "looks" "I" ∈ wsX8_laysAlso := by decide +kernel
abbrev rmct_X8_laysAlso : Room := { frames := 1, cells := 0, slots := 0, locals := 23 }
set_option maxHeartbeats 4000000 in
set_option maxRecDepth 100000 in
theorem ct_X8_laysAlso (l : Launch) (D : va_G) (cI cZ cJ : ClassId) (bd : Nat → Nat) (S : ZS) (hI : MI S) (hdis : mDis bd) (x0 : Int) (hx0 : ir x0) (hp00 : 0 ≤ x0) (hp01 : x0 ≤ 19) (hac : accM S) (hlk : S 19 0 + cnt (fun k => lookM S k x0) (S 6 0).toNat ≤ 60) : Met l yX8_laysAlso wsX8_laysAlso rmct_X8_laysAlso (zP D cI cZ cJ (mW cI cZ bd S) [.ref (bd 0), .int (zi x0)]) (zWv D (mW cI cZ bd) (mA bd) (fun T => T = laysA x0 S ∧ MI T)) 0 0 (mA bd) := by
  refine Met.ofW (cc := cX8_laysAlso) (maxL := 3) (ret := none) (by decide) rfl ?_
  intro p e s m args below meth c s₁ B hml hv
  obtain ⟨rfl, hP, hK⟩ := hv
  have hx := B.exec
  have hb := B.bytes
  have hr := B.returns
  have hts := atoms_spec (ws := wsX8_laysAlso) B.pre
  have hown : s.vm.findClass RX8 = some m.cls := findClass_of_methodNamed B.named
  have hlocks := B.notSynchronized
  have hl := lv_entry ([.ref (bd 0), .int (zi x0)]) (n := 3) (Nat.le_of_ble_eq_true rfl)
  rw [lg_entry_eq]
  generalize (lg_sl ([.ref (bd 0), .int (zi x0)]) ++ List.replicate (3 - (lg_sl ([.ref (bd 0), .int (zi x0)])).length) Slot.unset).toArray = ls at hl ⊢
  have hl : lv_has ls 3 [(0, .ref (bd 0)), (1, .int (zi x0))] := hl
  have hS : va_S (mA bd) s.heap s.heap [] := va_S.rf
  show W p l e rmct_X8_laysAlso s m ([.ref (bd 0), .int (zi x0)] : List Value).toArray below meth c s.heap [] 0 0 (MQ below (zWv D (mW cI cZ bd) (mA bd) (fun T => T = laysA x0 S ∧ MI T)) ([.ref (bd 0), .int (zi x0)] : List Value).toArray s 0 0 (mA bd)) (F0 m 0 ls [])
  have hd0 : (0 : Int) ≤ S 6 0 ∧ S 6 0 ≤ 60 := hI 6 0
  refine zi_iconst hx hb dX8_laysAlso_0 ?_
  have K_2 : ∀ (k : Nat) (n : Nat) (i : Int) (T : ZS), (i + (n : Int) = S 6 0) → (0 ≤ i) → (itr (laF x0) n i T = laysA x0 S) → (T 6 = S 6 ∧ T 10 = S 10 ∧ T 12 = S 12) → (T 19 0 = S 19 0 + cnt (fun k => lookM S k x0) i.toNat) → ((n : Int) < (k : Int)) → MI T → ∀ (H : Heap) (locs : List Loc), va_P D vwCl (mW cI cZ bd T) H → va_S (mA bd) s.heap H locs → ∀ (ls : Array Slot), lv_has ls 3 [(0, .ref (bd 0)), (1, .int (zi x0)), (2, .int (zi i))] → W p l e rmct_X8_laysAlso s m ([.ref (bd 0), .int (zi x0)] : List Value).toArray below meth c H locs 0 0 (MQ below (zWv D (mW cI cZ bd) (mA bd) (fun T => T = laysA x0 S ∧ MI T)) ([.ref (bd 0), .int (zi x0)] : List Value).toArray s 0 0 (mA bd)) (F0 m 2 ls []) := by
    intro k
    induction k with
    | zero => intro n i T h_n h_i h_R h_d h_c hk hIT; exact absurd hk (by omega)
    | succ k ih_2 =>
      intro n i T h_n h_i h_R h_d h_c hk hIT H locs hP hS ls hl
      refine lv_iload_n hx hb dX8_laysAlso_2 rfl (lv_at hl 2 rfl) ?_
      refine lv_aload_n hx hb dX8_laysAlso_3 rfl (lv_at hl 0 rfl) ?_
      refine va_get (D := D) (ci := 8) (v := .int (zi (T 6 0))) (C := RX8) (T := TX8) (N := 32) hx hb hts in_X8_laysAlso_8 hown hK.1 hP 0 rfl rfl 6 (by decide) (hts _ lk_X8_laysAlso_92) (fun _ h9 => h9) rfl dX8_laysAlso_4 ?_
      have f_4 : (0 : Int) ≤ T 6 0 ∧ T 6 0 ≤ 60 := hIT 6 0
      have hd6 : T 6 0 = S 6 0 := by rw [h_d.1]
      refine zi_icmp_ge (tgt := 60) hx hb ⟨by omega, by omega⟩ ⟨by omega, by omega⟩ dX8_laysAlso_7 (by decide) (fun c_7 => ?_) (fun c_7 => ?_)
      · obtain rfl : n = 0 := by omega
        exact zr_wv (T := T) hx hb hr hlocks dX8_laysAlso_60 hP hS (by exact ⟨h_R, hIT⟩)
      · obtain ⟨n, rfl⟩ : ∃ n9 : Nat, n = n9 + 1 := ⟨n - 1, by omega⟩
        refine lv_aload_n hx hb dX8_laysAlso_10 rfl (lv_at hl 0 rfl) ?_
        refine va_get (D := D) (ci := 8) (v := .ref (bd 11)) (C := RX8) (T := TX8) (N := 32) hx hb hts in_X8_laysAlso_8 hown hK.1 hP 0 rfl rfl 10 (by decide) (hts _ lk_X8_laysAlso_31) (fun _ h9 => h9) rfl dX8_laysAlso_11 ?_
        refine lv_iload_n hx hb dX8_laysAlso_14 rfl (lv_at hl 2 rfl) ?_
        refine zi_iald hx hb hK.1 hP 8 0 rfl rfl (by omega) (by omega) (by decide) dX8_laysAlso_15 ?_
        have f_15 : (-1 : Int) ≤ T 10 i ∧ T 10 i ≤ 19 := hIT 10 i
        refine zi_iconst hx hb dX8_laysAlso_16 ?_
        refine zi_icmp_eq (tgt := 54) hx hb ⟨by omega, by omega⟩ ⟨by decide, by decide⟩ dX8_laysAlso_17 (by decide) (fun c_17 => ?_) (fun c_17 => ?_)
        · refine zi_iinc (k := 2) (lv' := [(2, .int (zi (i + 1))), (0, .ref (bd 0)), (1, .int (zi x0))]) hx hb dX8_laysAlso_54 hl rfl (by decide) rfl (fun ls hl => ?_)
          refine lv_goto (tgt := 2) hx hb dX8_laysAlso_57 (by decide) ?_
          exact ih_2 n (i + 1) T (by first | omega | assumption) (by first | omega | assumption) (by rw [← h_R, itr_s]; congr 1; exact (cif_f (fun h9 => h9.1 c_17)).symm) h_d (by rw [cnt_S _ h_i, b2_f (fun h9 => ((lookM_c h_d.2.1 h_d.2.2 i x0).mpr h9).1 c_17)]; omega) (by omega) hIT _ _ hP hS _ (lv_sub hl [1, 2, 0] rfl)
        · have hanc : anc (T 12) 20 (T 10 i) = -1 := by rw [h_d.2.2, h_d.2.1]; exact hac i h_i (by omega) (by rw [← h_d.2.1]; exact c_17)
          refine lv_aload_n hx hb dX8_laysAlso_20 rfl (lv_at hl 0 rfl) ?_
          refine lv_aload_n hx hb dX8_laysAlso_21 rfl (lv_at hl 0 rfl) ?_
          refine va_get (D := D) (ci := 8) (v := .ref (bd 11)) (C := RX8) (T := TX8) (N := 32) hx hb hts in_X8_laysAlso_8 hown hK.1 hP 0 rfl rfl 10 (by decide) (hts _ lk_X8_laysAlso_31) (fun _ h9 => h9) rfl dX8_laysAlso_22 ?_
          refine lv_iload_n hx hb dX8_laysAlso_25 rfl (lv_at hl 2 rfl) ?_
          refine zi_iald hx hb hK.1 hP 8 0 rfl rfl (by omega) (by omega) (by decide) dX8_laysAlso_26 ?_
          have f_26 : (-1 : Int) ≤ T 10 i ∧ T 10 i ≤ 19 := hIT 10 i
          refine lv_iload_n hx hb dX8_laysAlso_27 rfl (lv_at hl 1 rfl) ?_
          refine zk_r (zc_V (As := [.int (zi (T 10 i)), .int (zi x0)]) (rest := []) ⟨hx, hb, hml, hown, hts⟩ (ct_X8_isBelow l D cI cZ cJ bd T hIT (T 10 i) x0 ⟨by omega, by omega⟩ ⟨by omega, by omega⟩ (by omega) (by omega) (by assumption)) (cwV 2 hts gX8_laysAlso_X8_isBelow rfl rfl rfl (by decide +kernel) ⟨Nat.le_of_ble_eq_true rfl, Nat.le_of_ble_eq_true rfl⟩) hK hP (q0 := 0) (ci := 8) rfl rfl rfl rfl hl.1 rfl (Nat.le_of_ble_eq_true rfl) dX8_laysAlso_28 ⟨Nat.zero_le _, Nat.zero_le _⟩) ?_
          refine zi_top (fun (r_28 : Int) (er_28 : r_28 = b2 (climb (T 12) 20 (T 10 i) x0 = x0)) => ?_)
          have fr_28 : (0 : Int) ≤ r_28 ∧ r_28 ≤ 1 := by rw [er_28]; exact b2_b
          refine zi_if_eq (tgt := 54) hx hb ⟨by omega, by omega⟩ dX8_laysAlso_31 (by decide) (fun c_31 => ?_) (fun c_31 => ?_)
          · refine zi_iinc (k := 2) (lv' := [(2, .int (zi (i + 1))), (0, .ref (bd 0)), (1, .int (zi x0))]) hx hb dX8_laysAlso_54 hl rfl (by decide) rfl (fun ls hl => ?_)
            refine lv_goto (tgt := 2) hx hb dX8_laysAlso_57 (by decide) ?_
            exact ih_2 n (i + 1) T (by first | omega | assumption) (by first | omega | assumption) (by rw [← h_R, itr_s]; congr 1; exact (cif_f (fun h9 => b2_0 er_28 c_31 h9.2)).symm) h_d (by rw [cnt_S _ h_i, b2_f (fun h9 => b2_0 er_28 c_31 ((lookM_c h_d.2.1 h_d.2.2 i x0).mpr h9).2)]; omega) (by omega) hIT _ _ hP hS _ (lv_sub hl [1, 2, 0] rfl)
          · have hl8 : lookM T i x0 := ⟨c_17, b2_1 er_28 c_31⟩
            have hl9 : lookM S i x0 := (lookM_c h_d.2.1 h_d.2.2 i x0).mp hl8
            have hq9 := cnt_ltI (fun k => lookM S k x0) h_i (show i < S 6 0 by omega) hl9
            refine lv_aload_n hx hb dX8_laysAlso_34 rfl (lv_at hl 0 rfl) ?_
            refine va_get (D := D) (ci := 8) (v := .ref (bd 21)) (C := RX8) (T := TX8) (N := 32) hx hb hts in_X8_laysAlso_8 hown hK.1 hP 0 rfl rfl 20 (by decide) (hts _ lk_X8_laysAlso_49) (fun _ h9 => h9) rfl dX8_laysAlso_35 ?_
            refine lv_aload_n hx hb dX8_laysAlso_38 rfl (lv_at hl 0 rfl) ?_
            refine va_get (D := D) (ci := 8) (v := .int (zi (T 19 0))) (C := RX8) (T := TX8) (N := 32) hx hb hts in_X8_laysAlso_8 hown hK.1 hP 0 rfl rfl 19 (by decide) (hts _ lk_X8_laysAlso_127) (fun _ h9 => h9) rfl dX8_laysAlso_39 ?_
            have f_39 : (0 : Int) ≤ T 19 0 ∧ T 19 0 ≤ 60 := hIT 19 0
            refine lv_iload_n hx hb dX8_laysAlso_42 rfl (lv_at hl 2 rfl) ?_
            refine zi_iast hx hb hK.1 hP (mW_D hdis _) hS 14 0 rfl rfl (by omega) (by omega) (by decide) dX8_laysAlso_43 (fun H locs hP hS => ?_)
            have hP : va_P D vwCl (mW cI cZ bd (su T 20 (up (T 20) (T 19 0) i))) H := hP
            have hI_43 : MI (su T 20 (up (T 20) (T 19 0) i)) := MI.up hIT 20 (T 19 0) i (show (0 : Int) ≤ i ∧ i ≤ 59 from ⟨by omega, by omega⟩)
            generalize eS_43 : su T 20 (up (T 20) (T 19 0) i) = S_43 at hP hI_43
            refine lv_aload_n hx hb dX8_laysAlso_44 rfl (lv_at hl 0 rfl) ?_
            refine lv_dup hx hb dX8_laysAlso_45 rfl ?_
            refine va_get (D := D) (ci := 8) (v := .int (zi (S_43 19 0))) (C := RX8) (T := TX8) (N := 32) hx hb hts in_X8_laysAlso_8 hown hK.1 hP 0 rfl rfl 19 (by decide) (hts _ lk_X8_laysAlso_127) (fun _ h9 => h9) rfl dX8_laysAlso_46 ?_
            refine zi_is (T 19 0) (by rw [← eS_43] <;> rfl) ?_
            have f_46 : (0 : Int) ≤ T 19 0 ∧ T 19 0 ≤ 60 := hIT 19 0
            refine zi_iconst hx hb dX8_laysAlso_49 ?_
            refine zi_iadd hx hb dX8_laysAlso_50 ?_
            refine va_put (D := D) (ci := 8) (v := .int (zi ((T 19 0) + 1))) (ty := .int) (C := RX8) (T := TX8) (N := 32) hx hb hts in_X8_laysAlso_8 tyX8 tyX8_ok nmX8 hown hK.1 hP (mW_D hdis _) hS 0 rfl rfl 19 (by decide) (hts _ lk_X8_laysAlso_127) (fun _ h9 => h9) rfl (by decide +kernel) rfl rfl (Nat.le_of_ble_eq_true rfl) dX8_laysAlso_51 (fun H locs hP _ hS => ?_)
            have hP : va_P D vwCl (mW cI cZ bd (su S_43 19 (fun _ => (T 19 0) + 1))) H := hP
            have hI_51 : MI (su S_43 19 (fun _ => (T 19 0) + 1)) := MI.upc hI_43 19 ((T 19 0) + 1) (show (0 : Int) ≤ ((T 19 0) + 1) ∧ ((T 19 0) + 1) ≤ 60 from ⟨by omega, by omega⟩)
            generalize eS_51 : su S_43 19 (fun _ => (T 19 0) + 1) = S_51 at hP hI_51
            refine zi_iinc (k := 2) (lv' := [(2, .int (zi (i + 1))), (0, .ref (bd 0)), (1, .int (zi x0))]) hx hb dX8_laysAlso_54 hl rfl (by decide) rfl (fun ls hl => ?_)
            refine lv_goto (tgt := 2) hx hb dX8_laysAlso_57 (by decide) ?_
            exact ih_2 n (i + 1) S_51 (by first | omega | assumption) (by first | omega | assumption) (by rw [← h_R, itr_s]; congr 1; refine Eq.trans ?_ (cif_t hl8).symm; rw [← eS_51, ← eS_43]) (by rw [← eS_51, ← eS_43]; exact h_d) (by rw [cnt_S _ h_i, b2_t hl9, ← eS_51]; show T 19 0 + 1 = _; omega) (by omega) hI_51 _ _ hP hS _ (lv_sub hl [1, 2, 0] rfl)
  refine lv_istore_n (lv' := [(2, .int (zi 0)), (0, .ref (bd 0)), (1, .int (zi x0))]) hx hb dX8_laysAlso_1 rfl hl (by decide) rfl (fun ls hl => ?_)
  exact K_2 ((S 6 0).toNat + 1) ((S 6 0).toNat) 0 S (by first | omega | assumption) (by first | omega | assumption) (by rw [laysA]) ⟨rfl, rfl, rfl⟩ (Int.add_zero _).symm (by omega) hI _ _ hP hS _ (lv_sub hl [1, 2, 0] rfl)

theorem lk_X8_lays_127 : Cond.fieldLink RX8 127 "PlanetoidDeskModel" "looks" "I" ∈ wsX8_lays := by decide +kernel
theorem in_X8_lays_8 : ∀ w ∈ wsX80, w ∈ wsX8_lays := by decide +kernel
abbrev rmct_X8_lays : Room := { frames := 2, cells := 0, slots := 0, locals := 45 }
set_option maxHeartbeats 4000000 in
set_option maxRecDepth 100000 in
theorem ct_X8_lays (l : Launch) (D : va_G) (cI cZ cJ : ClassId) (bd : Nat → Nat) (S : ZS) (hI : MI S) (hdis : mDis bd) (x0 : Int) (hx0 : ir x0) (hp00 : 0 ≤ x0) (hp01 : x0 ≤ 19) (hac : accM S) : Met l yX8_lays wsX8_lays rmct_X8_lays (zP D cI cZ cJ (mW cI cZ bd S) [.ref (bd 0), .int (zi x0)]) (zWv D (mW cI cZ bd) (mA bd) (fun T => T = laysM x0 S ∧ MI T)) 0 0 (mA bd) := by
  refine Met.ofW (cc := cX8_lays) (maxL := 2) (ret := none) (by decide) rfl ?_
  intro p e s m args below meth c s₁ B hml hv
  obtain ⟨rfl, hP, hK⟩ := hv
  have hx := B.exec
  have hb := B.bytes
  have hr := B.returns
  have hts := atoms_spec (ws := wsX8_lays) B.pre
  have hown : s.vm.findClass RX8 = some m.cls := findClass_of_methodNamed B.named
  have hlocks := B.notSynchronized
  have hl := lv_entry ([.ref (bd 0), .int (zi x0)]) (n := 2) (Nat.le_of_ble_eq_true rfl)
  rw [lg_entry_eq]
  generalize (lg_sl ([.ref (bd 0), .int (zi x0)]) ++ List.replicate (2 - (lg_sl ([.ref (bd 0), .int (zi x0)])).length) Slot.unset).toArray = ls at hl ⊢
  have hl : lv_has ls 2 [(0, .ref (bd 0)), (1, .int (zi x0))] := hl
  have hS : va_S (mA bd) s.heap s.heap [] := va_S.rf
  show W p l e rmct_X8_lays s m ([.ref (bd 0), .int (zi x0)] : List Value).toArray below meth c s.heap [] 0 0 (MQ below (zWv D (mW cI cZ bd) (mA bd) (fun T => T = laysM x0 S ∧ MI T)) ([.ref (bd 0), .int (zi x0)] : List Value).toArray s 0 0 (mA bd)) (F0 m 0 ls [])
  refine lv_aload_n hx hb dX8_lays_0 rfl (lv_at hl 0 rfl) ?_
  refine zi_iconst hx hb dX8_lays_1 ?_
  refine va_put (D := D) (ci := 8) (v := .int (zi 0)) (ty := .int) (C := RX8) (T := TX8) (N := 32) hx hb hts in_X8_lays_8 tyX8 tyX8_ok nmX8 hown hK.1 hP (mW_D hdis _) hS 0 rfl rfl 19 (by decide) (hts _ lk_X8_lays_127) (fun _ h9 => h9) rfl (by decide +kernel) rfl rfl (Nat.le_of_ble_eq_true rfl) dX8_lays_2 (fun H locs hP _ hS => ?_)
  have hP : va_P D vwCl (mW cI cZ bd (su S 19 (fun _ => 0))) H := hP
  have hI_2 : MI (su S 19 (fun _ => 0)) := MI.upc hI 19 0 (show (0 : Int) ≤ 0 ∧ 0 ≤ 60 from ⟨by omega, by omega⟩)
  generalize eS_2 : su S 19 (fun _ => 0) = S_2 at hP hI_2
  refine lv_aload_n hx hb dX8_lays_5 rfl (lv_at hl 0 rfl) ?_
  refine lv_iload_n hx hb dX8_lays_6 rfl (lv_at hl 1 rfl) ?_
  refine zk_wv (zc_V (As := [.int (zi x0)]) (rest := []) ⟨hx, hb, hml, hown, hts⟩ (ct_X8_laysAlso l D cI cZ cJ bd S_2 hI_2 hdis x0 ⟨by omega, by omega⟩ (by omega) (by omega) (by rw [← eS_2]; exact accM_su hac (by decide) (by decide) (by decide)) (by rw [← eS_2]; exact lk_0 hI x0)) (cwV 1 hts gX8_lays_X8_laysAlso rfl rfl rfl (by decide +kernel) ⟨Nat.le_of_ble_eq_true rfl, Nat.le_of_ble_eq_true rfl⟩) hK hP (q0 := 0) (ci := 8) rfl rfl rfl rfl hl.1 rfl (Nat.le_of_ble_eq_true rfl) dX8_lays_7 ⟨Nat.zero_le _, Nat.zero_le _⟩) hS (fun S_7 H locs hp_7 hP hS => ?_)
  obtain ⟨e9, hI_7⟩ := hp_7
  have eS_7 := e9.symm; clear e9
  exact zr_wv (T := S_7) hx hb hr hlocks dX8_lays_10 hP hS (by exact ⟨by rw [← eS_7, ← eS_2]; rfl, hI_7⟩)

theorem in_X8_fits_8 : ∀ w ∈ wsX80, w ∈ wsX8_fits := by decide +kernel
theorem lk_X8_fits_127 : Cond.fieldLink RX8 127 "PlanetoidDeskModel" "looks" "I" ∈ wsX8_fits := by decide +kernel
theorem lk_X8_fits_49 : Cond.fieldLink RX8 49 "PlanetoidDeskModel" "look" "[I" ∈ wsX8_fits := by decide +kernel
abbrev rmct_X8_fits : Room := { frames := 2, cells := 0, slots := 0, locals := 42 }
set_option maxHeartbeats 4000000 in
set_option maxRecDepth 100000 in
theorem ct_X8_fits (l : Launch) (D : va_G) (cI cZ cJ : ClassId) (bd : Nat → Nat) (S : ZS) (hI : MI S) (x0 x1 x2 : Int) (hx0 : ir x0) (hx1 : ir x1) (hx2 : ir x2) (hp00 : 0 ≤ x0) (hp01 : x0 ≤ 3599) (hp10 : -40 ≤ x1) (hp11 : x1 ≤ 40) (hp20 : -2 ≤ x2) (hp21 : x2 ≤ 2) : Met l yX8_fits wsX8_fits rmct_X8_fits (zP D cI cZ cJ (mW cI cZ bd S) [.ref (bd 0), .int (zi x0), .int (zi x1), .int (zi x2)]) (k2_QcV (.int (zi (b2 (fitP S x0 x1 x2))))) 0 0 (fun _ => False) := by
  refine Met.ofW (cc := cX8_fits) (maxL := 6) (ret := (some .boolean)) (by decide) rfl ?_
  intro p e s m args below meth c s₁ B hml hv
  obtain ⟨rfl, hP, hK⟩ := hv
  have hx := B.exec
  have hb := B.bytes
  have hr := B.returns
  have hts := atoms_spec (ws := wsX8_fits) B.pre
  have hown : s.vm.findClass RX8 = some m.cls := findClass_of_methodNamed B.named
  have hlocks := B.notSynchronized
  have hl := lv_entry ([.ref (bd 0), .int (zi x0), .int (zi x1), .int (zi x2)]) (n := 6) (Nat.le_of_ble_eq_true rfl)
  rw [lg_entry_eq]
  generalize (lg_sl ([.ref (bd 0), .int (zi x0), .int (zi x1), .int (zi x2)]) ++ List.replicate (6 - (lg_sl ([.ref (bd 0), .int (zi x0), .int (zi x1), .int (zi x2)])).length) Slot.unset).toArray = ls at hl ⊢
  have hl : lv_has ls 6 [(0, .ref (bd 0)), (1, .int (zi x0)), (2, .int (zi x1)), (3, .int (zi x2))] := hl
  show W p l e rmct_X8_fits s m ([.ref (bd 0), .int (zi x0), .int (zi x1), .int (zi x2)] : List Value).toArray below meth c s.heap [] 0 0 (MQ below (k2_QcV (.int (zi (b2 (fitP S x0 x1 x2))))) ([.ref (bd 0), .int (zi x0), .int (zi x1), .int (zi x2)] : List Value).toArray s 0 0 (fun _ => False)) (F0 m 0 ls [])
  have hd0 : (0 : Int) ≤ S 19 0 ∧ S 19 0 ≤ 60 := hI 19 0
  refine zi_iconst hx hb dX8_fits_0 ?_
  refine lv_istore (lv' := [(4, .int (zi 1)), (0, .ref (bd 0)), (1, .int (zi x0)), (2, .int (zi x1)), (3, .int (zi x2))]) hx hb dX8_fits_1 hl (by decide) rfl (fun ls hl => ?_)
  refine zi_iconst hx hb dX8_fits_3 ?_
  have K_6 : ∀ (k : Nat) (n : Nat) (do9 i : Int), (i + (n : Int) = S 19 0) → (0 ≤ i) → (0 ≤ do9 ∧ do9 ≤ 1) → ((do9 = 1 ∧ b2 (¬ anyI (fun k => ¬ nearP S x0 x1 x2 k) n i) = b2 (fitP S x0 x1 x2)) ∨ (do9 = 0 ∧ 0 = b2 (fitP S x0 x1 x2))) → ((n : Int) < (k : Int)) → ∀ (ls : Array Slot), lv_has ls 6 [(0, .ref (bd 0)), (1, .int (zi x0)), (2, .int (zi x1)), (3, .int (zi x2)), (4, .int (zi do9)), (5, .int (zi i))] → W p l e rmct_X8_fits s m ([.ref (bd 0), .int (zi x0), .int (zi x1), .int (zi x2)] : List Value).toArray below meth c s.heap [] 0 0 (MQ below (k2_QcV (.int (zi (b2 (fitP S x0 x1 x2))))) ([.ref (bd 0), .int (zi x0), .int (zi x1), .int (zi x2)] : List Value).toArray s 0 0 (fun _ => False)) (F0 m 6 ls []) := by
    intro k
    induction k with
    | zero => intro n do9 i h_n h_i h_b h_R hk; exact absurd hk (by omega)
    | succ k ih_6 =>
      intro n do9 i h_n h_i h_b h_R hk ls hl
      refine lv_iload hx hb dX8_fits_6 (lv_at hl 5 rfl) ?_
      refine lv_aload_n hx hb dX8_fits_8 rfl (lv_at hl 0 rfl) ?_
      refine va_get (D := D) (ci := 8) (v := .int (zi (S 19 0))) (C := RX8) (T := TX8) (N := 32) hx hb hts in_X8_fits_8 hown hK.1 hP 0 rfl rfl 19 (by decide) (hts _ lk_X8_fits_127) (fun _ h9 => h9) rfl dX8_fits_9 ?_
      have f_9 : (0 : Int) ≤ S 19 0 ∧ S 19 0 ≤ 60 := hI 19 0
      refine zi_icmp_ge (tgt := 82) hx hb ⟨by omega, by omega⟩ ⟨by omega, by omega⟩ dX8_fits_12 (by decide) (fun c_12 => ?_) (fun c_12 => ?_)
      · obtain rfl : n = 0 := by omega
        refine lv_iload hx hb dX8_fits_82 (lv_at hl 4 rfl) ?_
        exact zr_z hx hb hr hlocks dX8_fits_84 (by first | assumption | omega) (by exact fit_end h_R)
      · obtain ⟨n, rfl⟩ : ∃ n9 : Nat, n = n9 + 1 := ⟨n - 1, by omega⟩
        refine lv_iload hx hb dX8_fits_15 (lv_at hl 4 rfl) ?_
        refine zi_if_eq (tgt := 82) hx hb ⟨by omega, by omega⟩ dX8_fits_17 (by decide) (fun c_17 => ?_) (fun c_17 => ?_)
        · refine lv_iload hx hb dX8_fits_82 (lv_at hl 4 rfl) ?_
          exact zr_z hx hb hr hlocks dX8_fits_84 (by first | assumption | omega) (by exact h_R.elim (fun h => absurd h.1 (by omega)) (fun h => h.1.trans h.2))
        · refine lv_iload_n hx hb dX8_fits_20 rfl (lv_at hl 1 rfl) ?_
          refine lv_iload_n hx hb dX8_fits_21 rfl (lv_at hl 2 rfl) ?_
          refine lv_iload_n hx hb dX8_fits_22 rfl (lv_at hl 3 rfl) ?_
          refine lv_aload_n hx hb dX8_fits_23 rfl (lv_at hl 0 rfl) ?_
          refine lv_aload_n hx hb dX8_fits_24 rfl (lv_at hl 0 rfl) ?_
          refine va_get (D := D) (ci := 8) (v := .ref (bd 21)) (C := RX8) (T := TX8) (N := 32) hx hb hts in_X8_fits_8 hown hK.1 hP 0 rfl rfl 20 (by decide) (hts _ lk_X8_fits_49) (fun _ h9 => h9) rfl dX8_fits_25 ?_
          refine lv_iload hx hb dX8_fits_28 (lv_at hl 5 rfl) ?_
          refine zi_iald hx hb hK.1 hP 14 0 rfl rfl (by omega) (by omega) (by decide) dX8_fits_30 ?_
          have f_30 : (0 : Int) ≤ S 20 i ∧ S 20 i ≤ 59 := hI 20 i
          refine zk_r (zc_V (As := [.int (zi (S 20 i))]) (rest := [.int (zi x2), .int (zi x1), .int (zi x0)]) ⟨hx, hb, hml, hown, hts⟩ (ct_X8_nightOf l D cI cZ cJ bd S hI (S 20 i) ⟨by omega, by omega⟩ (by omega) (by omega)) (cwV 1 hts gX8_fits_X8_nightOf rfl rfl rfl (by decide +kernel) ⟨Nat.le_of_ble_eq_true rfl, Nat.le_of_ble_eq_true rfl⟩) hK hP (q0 := 0) (ci := 8) rfl rfl rfl rfl hl.1 rfl (Nat.le_of_ble_eq_true rfl) dX8_fits_31 ⟨Nat.zero_le _, Nat.zero_le _⟩) ?_
          refine zi_top (fun (r_31 : Int) (er_31 : r_31 = nM S (S 20 i)) => ?_)
          have fr_31 : (0 : Int) ≤ r_31 ∧ r_31 ≤ 999 := by rw [er_31]; exact nM_b hI _
          refine zk_r (zc_S (As := [.int (zi x1), .int (zi x2), .int (zi r_31)]) (rest := [.int (zi x0)]) ⟨hx, hb, hml, hown, hts⟩ (ct_X8_moves l D cI cZ cJ x1 x2 r_31 ⟨by omega, by omega⟩ ⟨by omega, by omega⟩ ⟨by omega, by omega⟩ (by omega) (by omega) (by omega) (by omega) (by omega) (by omega)) (va_cwS 3 hts gX8_fits_X8_moves rfl rfl rfl (by decide +kernel) ⟨Nat.le_of_ble_eq_true rfl, Nat.le_of_ble_eq_true rfl⟩) hK va_P_nil rfl hl.1 rfl (Nat.le_of_ble_eq_true rfl) dX8_fits_34 ⟨Nat.zero_le _, Nat.zero_le _⟩) ?_
          refine zi_top (fun (r_34 : Int) (er_34 : r_34 = mvM x1 x2 r_31) => ?_)
          have fr_34 : (-1036962 : Int) ≤ r_34 ∧ r_34 ≤ 1036962 := by rw [er_34]; exact mvM_b (by omega) (by omega) (by omega) (by omega) (by omega) (by omega)
          refine zi_iadd hx hb dX8_fits_37 ?_
          refine zk_r (zc_S (As := [.int (zi (x0 + r_34))]) (rest := []) ⟨hx, hb, hml, hown, hts⟩ (ct_X8_round l D cI cZ cJ (x0 + r_34) ⟨by omega, by omega⟩) (va_cwS 1 hts gX8_fits_X8_round rfl rfl rfl (by decide +kernel) ⟨Nat.le_of_ble_eq_true rfl, Nat.le_of_ble_eq_true rfl⟩) hK va_P_nil rfl hl.1 rfl (Nat.le_of_ble_eq_true rfl) dX8_fits_38 ⟨Nat.zero_le _, Nat.zero_le _⟩) ?_
          refine zi_top (fun (r_38 : Int) (er_38 : r_38 = (x0 + r_34) % 3600) => ?_)
          have fr_38 : (0 : Int) ≤ r_38 ∧ r_38 ≤ 3599 := by rw [er_38]; exact (by omega)
          refine lv_aload_n hx hb dX8_fits_41 rfl (lv_at hl 0 rfl) ?_
          refine lv_aload_n hx hb dX8_fits_42 rfl (lv_at hl 0 rfl) ?_
          refine va_get (D := D) (ci := 8) (v := .ref (bd 21)) (C := RX8) (T := TX8) (N := 32) hx hb hts in_X8_fits_8 hown hK.1 hP 0 rfl rfl 20 (by decide) (hts _ lk_X8_fits_49) (fun _ h9 => h9) rfl dX8_fits_43 ?_
          refine lv_iload hx hb dX8_fits_46 (lv_at hl 5 rfl) ?_
          refine zi_iald hx hb hK.1 hP 14 0 rfl rfl (by omega) (by omega) (by decide) dX8_fits_48 ?_
          have f_48 : (0 : Int) ≤ S 20 i ∧ S 20 i ≤ 59 := hI 20 i
          refine zk_r (zc_V (As := [.int (zi (S 20 i))]) (rest := [.int (zi r_38)]) ⟨hx, hb, hml, hown, hts⟩ (ct_X8_trueOf l D cI cZ cJ bd S hI (S 20 i) ⟨by omega, by omega⟩ (by omega) (by omega)) (cwV 1 hts gX8_fits_X8_trueOf rfl rfl rfl (by decide +kernel) ⟨Nat.le_of_ble_eq_true rfl, Nat.le_of_ble_eq_true rfl⟩) hK hP (q0 := 0) (ci := 8) rfl rfl rfl rfl hl.1 rfl (Nat.le_of_ble_eq_true rfl) dX8_fits_49 ⟨Nat.zero_le _, Nat.zero_le _⟩) ?_
          refine zi_top (fun (r_49 : Int) (er_49 : r_49 = tM S (S 20 i)) => ?_)
          have fr_49 : (0 : Int) ≤ r_49 ∧ r_49 ≤ 3599 := by rw [er_49]; exact tM_b _ _
          refine zk_r (zc_S (As := [.int (zi r_38), .int (zi r_49)]) (rest := []) ⟨hx, hb, hml, hown, hts⟩ (ct_X8_apart l D cI cZ cJ r_38 r_49 ⟨by omega, by omega⟩ ⟨by omega, by omega⟩ (by omega) (by omega) (by omega) (by omega)) (va_cwS 2 hts gX8_fits_X8_apart rfl rfl rfl (by decide +kernel) ⟨Nat.le_of_ble_eq_true rfl, Nat.le_of_ble_eq_true rfl⟩) hK va_P_nil rfl hl.1 rfl (Nat.le_of_ble_eq_true rfl) dX8_fits_52 ⟨Nat.zero_le _, Nat.zero_le _⟩) ?_
          refine zi_top (fun (r_52 : Int) (er_52 : r_52 = apM r_38 r_49) => ?_)
          have fr_52 : (0 : Int) ≤ r_52 ∧ r_52 ≤ 1800 := by rw [er_52]; exact apM_b (by omega) (by omega) (by omega) (by omega)
          refine lv_aload_n hx hb dX8_fits_55 rfl (lv_at hl 0 rfl) ?_
          refine lv_aload_n hx hb dX8_fits_56 rfl (lv_at hl 0 rfl) ?_
          refine va_get (D := D) (ci := 8) (v := .ref (bd 21)) (C := RX8) (T := TX8) (N := 32) hx hb hts in_X8_fits_8 hown hK.1 hP 0 rfl rfl 20 (by decide) (hts _ lk_X8_fits_49) (fun _ h9 => h9) rfl dX8_fits_57 ?_
          refine lv_iload hx hb dX8_fits_60 (lv_at hl 5 rfl) ?_
          refine zi_iald hx hb hK.1 hP 14 0 rfl rfl (by omega) (by omega) (by decide) dX8_fits_62 ?_
          have f_62 : (0 : Int) ≤ S 20 i ∧ S 20 i ≤ 59 := hI 20 i
          refine zk_r (zc_V (As := [.int (zi (S 20 i))]) (rest := [.int (zi r_52)]) ⟨hx, hb, hml, hown, hts⟩ (ct_X8_errorOf l D cI cZ cJ bd S hI (S 20 i) ⟨by omega, by omega⟩ (by omega) (by omega)) (cwV 1 hts gX8_fits_X8_errorOf rfl rfl rfl (by decide +kernel) ⟨Nat.le_of_ble_eq_true rfl, Nat.le_of_ble_eq_true rfl⟩) hK hP (q0 := 0) (ci := 8) rfl rfl rfl rfl hl.1 rfl (Nat.le_of_ble_eq_true rfl) dX8_fits_63 ⟨Nat.zero_le _, Nat.zero_le _⟩) ?_
          refine zi_top (fun (r_63 : Int) (er_63 : r_63 = eM S (S 20 i)) => ?_)
          have fr_63 : (0 : Int) ≤ r_63 ∧ r_63 ≤ 9 := by rw [er_63]; exact eM_b hI _
          have K_74 : ∀ (dd : Int), (dd = b2 (nearP S x0 x1 x2 i)) → ∀ (ls : Array Slot), lv_has ls 6 [(0, .ref (bd 0)), (1, .int (zi x0)), (2, .int (zi x1)), (3, .int (zi x2)), (5, .int (zi i))] → W p l e rmct_X8_fits s m ([.ref (bd 0), .int (zi x0), .int (zi x1), .int (zi x2)] : List Value).toArray below meth c s.heap [] 0 0 (MQ below (k2_QcV (.int (zi (b2 (fitP S x0 x1 x2))))) ([.ref (bd 0), .int (zi x0), .int (zi x1), .int (zi x2)] : List Value).toArray s 0 0 (fun _ => False)) (F0 m 74 ls [.int (zi dd)]) := by
            intro dd h_dd ls hl
            have h_db : 0 ≤ dd ∧ dd ≤ 1 := by rw [h_dd]; exact b2_b
            refine lv_istore (lv' := [(4, .int (zi dd)), (0, .ref (bd 0)), (1, .int (zi x0)), (2, .int (zi x1)), (3, .int (zi x2)), (5, .int (zi i))]) hx hb dX8_fits_74 hl (by decide) rfl (fun ls hl => ?_)
            refine zi_iinc (k := 5) (lv' := [(5, .int (zi (i + 1))), (4, .int (zi dd)), (0, .ref (bd 0)), (1, .int (zi x0)), (2, .int (zi x1)), (3, .int (zi x2))]) hx hb dX8_fits_76 hl rfl (by decide) rfl (fun ls hl => ?_)
            refine lv_goto (tgt := 6) hx hb dX8_fits_79 (by decide) ?_
            exact ih_6 n dd (i + 1) (by first | omega | assumption) (by first | omega | assumption) h_db (fit_step h_R c_17 h_dd) (by omega) _ (lv_sub hl [2, 3, 4, 5, 1, 0] rfl)
          refine zi_icmp_gt (tgt := 73) hx hb ⟨by omega, by omega⟩ ⟨by omega, by omega⟩ dX8_fits_66 (by decide) (fun c_66 => ?_) (fun c_66 => ?_)
          · refine zi_iconst hx hb dX8_fits_73 ?_
            exact K_74 0 (b2_f (by unfold nearP; rw [← er_31, ← er_34, ← er_38, ← er_49, ← er_52, ← er_63]; omega)).symm _ (lv_sub hl [0, 1, 2, 3, 5] rfl)
          · refine zi_iconst hx hb dX8_fits_69 ?_
            refine lv_goto (tgt := 74) hx hb dX8_fits_70 (by decide) ?_
            exact K_74 1 (b2_t (by unfold nearP; rw [← er_31, ← er_34, ← er_38, ← er_49, ← er_52, ← er_63]; omega)).symm _ (lv_sub hl [0, 1, 2, 3, 5] rfl)
  refine lv_istore (lv' := [(5, .int (zi 0)), (4, .int (zi 1)), (0, .ref (bd 0)), (1, .int (zi x0)), (2, .int (zi x1)), (3, .int (zi x2))]) hx hb dX8_fits_4 hl (by decide) rfl (fun ls hl => ?_)
  exact K_6 ((S 19 0).toNat + 1) ((S 19 0).toNat) 1 0 (by first | omega | assumption) (by first | omega | assumption) ⟨by decide, by decide⟩ (Or.inl ⟨rfl, by rw [fitP]⟩) (by omega) _ (lv_sub hl [2, 3, 4, 5, 1, 0] rfl)

theorem lk_X8_finds_145 : Cond.fieldLink RX8 145 "PlanetoidDeskModel" "found" "I" ∈ wsX8_finds := by decide +kernel
theorem in_X8_finds_8 : ∀ w ∈ wsX80, w ∈ wsX8_finds := by decide +kernel
theorem lk_X8_finds_49 : Cond.fieldLink RX8 49 "PlanetoidDeskModel" "look" "[I" ∈ wsX8_finds := by decide +kernel
theorem lk_X8_finds_52 : Cond.fieldLink RX8 52 "PlanetoidDeskModel" "key" "[I" ∈ wsX8_finds := by decide +kernel
abbrev rmct_X8_finds : Room := { frames := 3, cells := 0, slots := 0, locals := 67 }
set_option maxHeartbeats 4000000 in
set_option maxRecDepth 100000 in
theorem ct_X8_finds (l : Launch) (D : va_G) (cI cZ cJ : ClassId) (bd : Nat → Nat) (S : ZS) (hI : MI S) (hdis : mDis bd)   : Met l yX8_finds wsX8_finds rmct_X8_finds (zP D cI cZ cJ (mW cI cZ bd S) [.ref (bd 0)]) (zWv D (mW cI cZ bd) (mA bd) (fun T => T = findM S ∧ MI T)) 0 0 (mA bd) := by
  refine Met.ofW (cc := cX8_finds) (maxL := 8) (ret := none) (by decide) rfl ?_
  intro p e s m args below meth c s₁ B hml hv
  obtain ⟨rfl, hP, hK⟩ := hv
  have hx := B.exec
  have hb := B.bytes
  have hr := B.returns
  have hts := atoms_spec (ws := wsX8_finds) B.pre
  have hown : s.vm.findClass RX8 = some m.cls := findClass_of_methodNamed B.named
  have hlocks := B.notSynchronized
  have hl := lv_entry ([.ref (bd 0)]) (n := 8) (Nat.le_of_ble_eq_true rfl)
  rw [lg_entry_eq]
  generalize (lg_sl ([.ref (bd 0)]) ++ List.replicate (8 - (lg_sl ([.ref (bd 0)])).length) Slot.unset).toArray = ls at hl ⊢
  have hl : lv_has ls 8 [(0, .ref (bd 0))] := hl
  have hS : va_S (mA bd) s.heap s.heap [] := va_S.rf
  show W p l e rmct_X8_finds s m ([.ref (bd 0)] : List Value).toArray below meth c s.heap [] 0 0 (MQ below (zWv D (mW cI cZ bd) (mA bd) (fun T => T = findM S ∧ MI T)) ([.ref (bd 0)] : List Value).toArray s 0 0 (mA bd)) (F0 m 0 ls [])
  refine lv_aload_n hx hb dX8_finds_0 rfl (lv_at hl 0 rfl) ?_
  refine zi_iconst hx hb dX8_finds_1 ?_
  refine va_put (D := D) (ci := 8) (v := .int (zi 0)) (ty := .int) (C := RX8) (T := TX8) (N := 32) hx hb hts in_X8_finds_8 tyX8 tyX8_ok nmX8 hown hK.1 hP (mW_D hdis _) hS 0 rfl rfl 21 (by decide) (hts _ lk_X8_finds_145) (fun _ h9 => h9) rfl (by decide +kernel) rfl rfl (Nat.le_of_ble_eq_true rfl) dX8_finds_2 (fun H locs hP _ hS => ?_)
  have hP : va_P D vwCl (mW cI cZ bd (su S 21 (fun _ => 0))) H := hP
  have hI_2 : MI (su S 21 (fun _ => 0)) := MI.upc hI 21 0 (show (0 : Int) ≤ 0 ∧ 0 ≤ 7695 from ⟨by omega, by omega⟩)
  generalize eS_2 : su S 21 (fun _ => 0) = S_2 at hP hI_2
  refine lv_aload_n hx hb dX8_finds_5 rfl (lv_at hl 0 rfl) ?_
  refine lv_aload_n hx hb dX8_finds_6 rfl (lv_at hl 0 rfl) ?_
  refine va_get (D := D) (ci := 8) (v := .ref (bd 21)) (C := RX8) (T := TX8) (N := 32) hx hb hts in_X8_finds_8 hown hK.1 hP 0 rfl rfl 20 (by decide) (hts _ lk_X8_finds_49) (fun _ h9 => h9) rfl dX8_finds_7 ?_
  refine zi_iconst hx hb dX8_finds_10 ?_
  refine zi_iald hx hb hK.1 hP 14 0 rfl rfl (by omega) (by omega) (by decide) dX8_finds_11 ?_
  have f_11 : (0 : Int) ≤ S_2 20 0 ∧ S_2 20 0 ≤ 59 := hI_2 20 0
  refine zk_r (zc_V (As := [.int (zi (S_2 20 0))]) (rest := []) ⟨hx, hb, hml, hown, hts⟩ (ct_X8_errorOf l D cI cZ cJ bd S_2 hI_2 (S_2 20 0) ⟨by omega, by omega⟩ (by omega) (by omega)) (cwV 1 hts gX8_finds_X8_errorOf rfl rfl rfl (by decide +kernel) ⟨Nat.le_of_ble_eq_true rfl, Nat.le_of_ble_eq_true rfl⟩) hK hP (q0 := 0) (ci := 8) rfl rfl rfl rfl hl.1 rfl (Nat.le_of_ble_eq_true rfl) dX8_finds_12 ⟨Nat.zero_le _, Nat.zero_le _⟩) ?_
  refine zi_top (fun (r_12 : Int) (er_12 : r_12 = eM S_2 (S_2 20 0)) => ?_)
  have fr_12 : (0 : Int) ≤ r_12 ∧ r_12 ≤ 9 := by rw [er_12]; exact eM_b hI_2 _
  refine lv_istore_n (lv' := [(1, .int (zi r_12)), (0, .ref (bd 0))]) hx hb dX8_finds_15 rfl hl (by decide) rfl (fun ls hl => ?_)
  refine zi_iconst hx hb dX8_finds_16 ?_
  have K_18 : ∀ (k : Nat) (n : Nat) (bc : Int) (T : ZS), (bc + (n : Int) = 405) → (0 ≤ bc) → (itr (fdOut r_12) n bc T = findM S) → (T 21 0 ≤ 19 * bc) → ((n : Int) < (k : Int)) → MI T → ∀ (H : Heap) (locs : List Loc), va_P D vwCl (mW cI cZ bd T) H → va_S (mA bd) s.heap H locs → ∀ (ls : Array Slot), lv_has ls 8 [(0, .ref (bd 0)), (1, .int (zi r_12)), (2, .int (zi bc))] → W p l e rmct_X8_finds s m ([.ref (bd 0)] : List Value).toArray below meth c H locs 0 0 (MQ below (zWv D (mW cI cZ bd) (mA bd) (fun T => T = findM S ∧ MI T)) ([.ref (bd 0)] : List Value).toArray s 0 0 (mA bd)) (F0 m 18 ls []) := by
    intro k
    induction k with
    | zero => intro n bc T h_n h_i h_R h_c hk hIT; exact absurd hk (by omega)
    | succ k ih_18 =>
      intro n bc T h_n h_i h_R h_c hk hIT H locs hP hS ls hl
      refine lv_iload_n hx hb dX8_finds_18 rfl (lv_at hl 2 rfl) ?_
      refine zi_sipush hx hb dX8_finds_19 (by decide) ?_
      refine zi_icmp_ge (tgt := 142) hx hb ⟨by omega, by omega⟩ ⟨by decide, by decide⟩ dX8_finds_22 (by decide) (fun c_22 => ?_) (fun c_22 => ?_)
      · obtain rfl : n = 0 := by omega
        exact zr_wv (T := T) hx hb hr hlocks dX8_finds_142 hP hS (by exact ⟨h_R, hIT⟩)
      · obtain ⟨n, rfl⟩ : ∃ n9 : Nat, n = n9 + 1 := ⟨n - 1, by omega⟩
        refine lv_iload_n hx hb dX8_finds_25 rfl (lv_at hl 2 rfl) ?_
        refine zi_iconst hx hb dX8_finds_26 ?_
        refine zi_idiv hx hb ⟨by omega, by omega⟩ ⟨by omega, by omega⟩ (by omega) (by omega) dX8_finds_27 ?_
        refine zi_bipush hx hb dX8_finds_28 (by decide) ?_
        refine zi_isub hx hb dX8_finds_30 ?_
        refine zi_top (fun x3_31 ex3_31 => ?_)
        refine lv_istore_n (lv' := [(3, .int (zi x3_31)), (0, .ref (bd 0)), (1, .int (zi r_12)), (2, .int (zi bc))]) hx hb dX8_finds_31 rfl hl (by decide) rfl (fun ls hl => ?_)
        refine lv_iload_n hx hb dX8_finds_32 rfl (lv_at hl 3 rfl) ?_
        refine zi_iconst hx hb dX8_finds_33 ?_
        refine zi_irem hx hb ⟨by omega, by omega⟩ ⟨by omega, by omega⟩ (by omega) (by omega) dX8_finds_34 ?_
        refine zi_iconst hx hb dX8_finds_35 ?_
        refine zi_isub hx hb dX8_finds_36 ?_
        refine zi_top (fun x4_37 ex4_37 => ?_)
        refine lv_istore (lv' := [(4, .int (zi x4_37)), (3, .int (zi x3_31)), (0, .ref (bd 0)), (1, .int (zi r_12)), (2, .int (zi bc))]) hx hb dX8_finds_37 hl (by decide) rfl (fun ls hl => ?_)
        refine lv_aload_n hx hb dX8_finds_39 rfl (lv_at hl 2 rfl) ?_
        refine lv_aload_n hx hb dX8_finds_40 rfl (lv_at hl 2 rfl) ?_
        refine va_get (D := D) (ci := 8) (v := .ref (bd 21)) (C := RX8) (T := TX8) (N := 32) hx hb hts in_X8_finds_8 hown hK.1 hP 0 rfl rfl 20 (by decide) (hts _ lk_X8_finds_49) (fun _ h9 => h9) rfl dX8_finds_41 ?_
        refine zi_iconst hx hb dX8_finds_44 ?_
        refine zi_iald hx hb hK.1 hP 14 0 rfl rfl (by omega) (by omega) (by decide) dX8_finds_45 ?_
        have f_45 : (0 : Int) ≤ T 20 0 ∧ T 20 0 ≤ 59 := hIT 20 0
        refine zk_r (zc_V (As := [.int (zi (T 20 0))]) (rest := []) ⟨hx, hb, hml, hown, hts⟩ (ct_X8_trueOf l D cI cZ cJ bd T hIT (T 20 0) ⟨by omega, by omega⟩ (by omega) (by omega)) (cwV 1 hts gX8_finds_X8_trueOf rfl rfl rfl (by decide +kernel) ⟨Nat.le_of_ble_eq_true rfl, Nat.le_of_ble_eq_true rfl⟩) hK hP (q0 := 0) (ci := 8) rfl rfl rfl rfl hl.1 rfl (Nat.le_of_ble_eq_true rfl) dX8_finds_46 ⟨Nat.zero_le _, Nat.zero_le _⟩) ?_
        refine zi_top (fun (r_46 : Int) (er_46 : r_46 = tM T (T 20 0)) => ?_)
        have fr_46 : (0 : Int) ≤ r_46 ∧ r_46 ≤ 3599 := by rw [er_46]; exact tM_b _ _
        refine lv_iload_n hx hb dX8_finds_49 rfl (lv_at hl 1 rfl) ?_
        refine lv_iload hx hb dX8_finds_50 (lv_at hl 0 rfl) ?_
        refine lv_aload_n hx hb dX8_finds_52 rfl (lv_at hl 2 rfl) ?_
        refine lv_aload_n hx hb dX8_finds_53 rfl (lv_at hl 2 rfl) ?_
        refine va_get (D := D) (ci := 8) (v := .ref (bd 21)) (C := RX8) (T := TX8) (N := 32) hx hb hts in_X8_finds_8 hown hK.1 hP 0 rfl rfl 20 (by decide) (hts _ lk_X8_finds_49) (fun _ h9 => h9) rfl dX8_finds_54 ?_
        refine zi_iconst hx hb dX8_finds_57 ?_
        refine zi_iald hx hb hK.1 hP 14 0 rfl rfl (by omega) (by omega) (by decide) dX8_finds_58 ?_
        have f_58 : (0 : Int) ≤ T 20 0 ∧ T 20 0 ≤ 59 := hIT 20 0
        refine zk_r (zc_V (As := [.int (zi (T 20 0))]) (rest := [.int (zi x4_37), .int (zi x3_31), .int (zi r_46)]) ⟨hx, hb, hml, hown, hts⟩ (ct_X8_nightOf l D cI cZ cJ bd T hIT (T 20 0) ⟨by omega, by omega⟩ (by omega) (by omega)) (cwV 1 hts gX8_finds_X8_nightOf rfl rfl rfl (by decide +kernel) ⟨Nat.le_of_ble_eq_true rfl, Nat.le_of_ble_eq_true rfl⟩) hK hP (q0 := 0) (ci := 8) rfl rfl rfl rfl hl.1 rfl (Nat.le_of_ble_eq_true rfl) dX8_finds_59 ⟨Nat.zero_le _, Nat.zero_le _⟩) ?_
        refine zi_top (fun (r_59 : Int) (er_59 : r_59 = nM T (T 20 0)) => ?_)
        have fr_59 : (0 : Int) ≤ r_59 ∧ r_59 ≤ 999 := by rw [er_59]; exact nM_b hIT _
        refine zk_r (zc_S (As := [.int (zi x3_31), .int (zi x4_37), .int (zi r_59)]) (rest := [.int (zi r_46)]) ⟨hx, hb, hml, hown, hts⟩ (ct_X8_moves l D cI cZ cJ x3_31 x4_37 r_59 ⟨by omega, by omega⟩ ⟨by omega, by omega⟩ ⟨by omega, by omega⟩ (by omega) (by omega) (by omega) (by omega) (by omega) (by omega)) (va_cwS 3 hts gX8_finds_X8_moves rfl rfl rfl (by decide +kernel) ⟨Nat.le_of_ble_eq_true rfl, Nat.le_of_ble_eq_true rfl⟩) hK va_P_nil rfl hl.1 rfl (Nat.le_of_ble_eq_true rfl) dX8_finds_62 ⟨Nat.zero_le _, Nat.zero_le _⟩) ?_
        refine zi_top (fun (r_62 : Int) (er_62 : r_62 = mvM x3_31 x4_37 r_59) => ?_)
        have fr_62 : (-1036962 : Int) ≤ r_62 ∧ r_62 ≤ 1036962 := by rw [er_62]; exact mvM_b (by omega) (by omega) (by omega) (by omega) (by omega) (by omega)
        refine zi_isub hx hb dX8_finds_65 ?_
        refine zk_r (zc_S (As := [.int (zi (r_46 - r_62))]) (rest := []) ⟨hx, hb, hml, hown, hts⟩ (ct_X8_round l D cI cZ cJ (r_46 - r_62) ⟨by omega, by omega⟩) (va_cwS 1 hts gX8_finds_X8_round rfl rfl rfl (by decide +kernel) ⟨Nat.le_of_ble_eq_true rfl, Nat.le_of_ble_eq_true rfl⟩) hK va_P_nil rfl hl.1 rfl (Nat.le_of_ble_eq_true rfl) dX8_finds_66 ⟨Nat.zero_le _, Nat.zero_le _⟩) ?_
        refine zi_top (fun (r_66 : Int) (er_66 : r_66 = (r_46 - r_62) % 3600) => ?_)
        have fr_66 : (0 : Int) ≤ r_66 ∧ r_66 ≤ 3599 := by rw [er_66]; exact (by omega)
        refine lv_istore (lv' := [(5, .int (zi r_66)), (4, .int (zi x4_37)), (3, .int (zi x3_31)), (0, .ref (bd 0)), (1, .int (zi r_12)), (2, .int (zi bc))]) hx hb dX8_finds_69 hl (by decide) rfl (fun ls hl => ?_)
        refine lv_iload_n hx hb dX8_finds_71 rfl (lv_at hl 4 rfl) ?_
        refine zi_ineg hx hb dX8_finds_72 ?_
        have K_75 : ∀ (k : Nat) (m9 : Nat) (e9 : Int) (T2 : ZS), (e9 + (m9 : Int) = r_12 + 1) → (-r_12 ≤ e9) → (itr (fdIn bc r_66) m9 e9 T2 = fdOut r_12 bc T) → (T2 21 0 ≤ 19 * bc + (e9 + r_12)) → ((m9 : Int) < (k : Int)) → MI T2 → ∀ (H : Heap) (locs : List Loc), va_P D vwCl (mW cI cZ bd T2) H → va_S (mA bd) s.heap H locs → ∀ (ls : Array Slot), lv_has ls 8 [(0, .ref (bd 0)), (1, .int (zi r_12)), (2, .int (zi bc)), (3, .int (zi x3_31)), (4, .int (zi x4_37)), (5, .int (zi r_66)), (6, .int (zi e9))] → W p l e rmct_X8_finds s m ([.ref (bd 0)] : List Value).toArray below meth c H locs 0 0 (MQ below (zWv D (mW cI cZ bd) (mA bd) (fun T => T = findM S ∧ MI T)) ([.ref (bd 0)] : List Value).toArray s 0 0 (mA bd)) (F0 m 75 ls []) := by
          intro k
          induction k with
          | zero => intro m9 e9 T2 g_n g_i g_R g_c hk hIT2; exact absurd hk (by omega)
          | succ k ih_75 =>
            intro m9 e9 T2 g_n g_i g_R g_c hk hIT2 H locs hP hS ls hl
            refine lv_iload hx hb dX8_finds_75 (lv_at hl 6 rfl) ?_
            refine lv_iload_n hx hb dX8_finds_77 rfl (lv_at hl 1 rfl) ?_
            refine zi_icmp_gt (tgt := 136) hx hb ⟨by omega, by omega⟩ ⟨by omega, by omega⟩ dX8_finds_78 (by decide) (fun c_78 => ?_) (fun c_78 => ?_)
            · obtain rfl : m9 = 0 := by omega
              have h_R2 : T2 = fdOut r_12 bc T := g_R
              refine zi_iinc (k := 2) (lv' := [(2, .int (zi (bc + 1))), (0, .ref (bd 0)), (1, .int (zi r_12)), (3, .int (zi x3_31)), (4, .int (zi x4_37)), (5, .int (zi r_66)), (6, .int (zi e9))]) hx hb dX8_finds_136 hl rfl (by decide) rfl (fun ls hl => ?_)
              refine lv_goto (tgt := 18) hx hb dX8_finds_139 (by decide) ?_
              exact ih_18 n (bc + 1) T2 (by first | omega | assumption) (by first | omega | assumption) (by rw [← h_R, itr_s, ← h_R2]) (by omega) (by omega) hIT2 _ _ hP hS _ (lv_sub hl [1, 2, 0] rfl)
            · obtain ⟨m9, rfl⟩ : ∃ n9 : Nat, m9 = n9 + 1 := ⟨m9 - 1, by omega⟩
              refine lv_iload hx hb dX8_finds_81 (lv_at hl 5 rfl) ?_
              refine lv_iload hx hb dX8_finds_83 (lv_at hl 6 rfl) ?_
              refine zi_iadd hx hb dX8_finds_85 ?_
              refine zk_r (zc_S (As := [.int (zi (r_66 + e9))]) (rest := []) ⟨hx, hb, hml, hown, hts⟩ (ct_X8_round l D cI cZ cJ (r_66 + e9) ⟨by omega, by omega⟩) (va_cwS 1 hts gX8_finds_X8_round rfl rfl rfl (by decide +kernel) ⟨Nat.le_of_ble_eq_true rfl, Nat.le_of_ble_eq_true rfl⟩) hK va_P_nil rfl hl.1 rfl (Nat.le_of_ble_eq_true rfl) dX8_finds_86 ⟨Nat.zero_le _, Nat.zero_le _⟩) ?_
              refine zi_top (fun (r_86 : Int) (er_86 : r_86 = (r_66 + e9) % 3600) => ?_)
              have fr_86 : (0 : Int) ≤ r_86 ∧ r_86 ≤ 3599 := by rw [er_86]; exact (by omega)
              refine lv_istore (lv' := [(7, .int (zi r_86)), (0, .ref (bd 0)), (1, .int (zi r_12)), (2, .int (zi bc)), (3, .int (zi x3_31)), (4, .int (zi x4_37)), (5, .int (zi r_66)), (6, .int (zi e9))]) hx hb dX8_finds_89 hl (by decide) rfl (fun ls hl => ?_)
              refine lv_aload_n hx hb dX8_finds_91 rfl (lv_at hl 1 rfl) ?_
              refine lv_iload hx hb dX8_finds_92 (lv_at hl 0 rfl) ?_
              refine lv_iload_n hx hb dX8_finds_94 rfl (lv_at hl 4 rfl) ?_
              refine lv_iload hx hb dX8_finds_95 (lv_at hl 5 rfl) ?_
              refine zk_r (zc_V (As := [.int (zi r_86), .int (zi x3_31), .int (zi x4_37)]) (rest := []) ⟨hx, hb, hml, hown, hts⟩ (ct_X8_fits l D cI cZ cJ bd T2 hIT2 r_86 x3_31 x4_37 ⟨by omega, by omega⟩ ⟨by omega, by omega⟩ ⟨by omega, by omega⟩ (by omega) (by omega) (by omega) (by omega) (by omega) (by omega)) (cwV 3 hts gX8_finds_X8_fits rfl rfl rfl (by decide +kernel) ⟨Nat.le_of_ble_eq_true rfl, Nat.le_of_ble_eq_true rfl⟩) hK hP (q0 := 0) (ci := 8) rfl rfl rfl rfl hl.1 rfl (Nat.le_of_ble_eq_true rfl) dX8_finds_97 ⟨Nat.zero_le _, Nat.zero_le _⟩) ?_
              refine zi_top (fun (r_97 : Int) (er_97 : r_97 = b2 (fitP T2 r_86 x3_31 x4_37)) => ?_)
              have fr_97 : (0 : Int) ≤ r_97 ∧ r_97 ≤ 1 := by rw [er_97]; exact b2_b
              refine zi_if_eq (tgt := 130) hx hb ⟨by omega, by omega⟩ dX8_finds_100 (by decide) (fun c_100 => ?_) (fun c_100 => ?_)
              · refine zi_iinc (k := 7) (lv' := [(6, .int (zi (e9 + 1))), (7, .int (zi r_86)), (0, .ref (bd 0)), (1, .int (zi r_12)), (2, .int (zi bc)), (3, .int (zi x3_31)), (4, .int (zi x4_37)), (5, .int (zi r_66))]) hx hb dX8_finds_130 hl rfl (by decide) rfl (fun ls hl => ?_)
                refine lv_goto (tgt := 75) hx hb dX8_finds_133 (by decide) ?_
                exact ih_75 m9 (e9 + 1) T2 (by first | omega | assumption) (by first | omega | assumption) (by rw [← g_R, itr_s]; congr 1; exact (cif_f (by have h9 := b2_0 er_97 c_100; rw [er_86, ex3_31, ex4_37] at h9; exact h9)).symm) (by omega) (by omega) hIT2 _ _ hP hS _ (lv_sub hl [2, 3, 4, 5, 6, 7, 0] rfl)
              · refine lv_aload_n hx hb dX8_finds_103 rfl (lv_at hl 1 rfl) ?_
                refine va_get (D := D) (ci := 8) (v := .ref (bd 23)) (C := RX8) (T := TX8) (N := 32) hx hb hts in_X8_finds_8 hown hK.1 hP 0 rfl rfl 22 (by decide) (hts _ lk_X8_finds_52) (fun _ h9 => h9) rfl dX8_finds_104 ?_
                refine lv_aload_n hx hb dX8_finds_107 rfl (lv_at hl 1 rfl) ?_
                refine va_get (D := D) (ci := 8) (v := .int (zi (T2 21 0))) (C := RX8) (T := TX8) (N := 32) hx hb hts in_X8_finds_8 hown hK.1 hP 0 rfl rfl 21 (by decide) (hts _ lk_X8_finds_145) (fun _ h9 => h9) rfl dX8_finds_108 ?_
                have f_108 : (0 : Int) ≤ T2 21 0 ∧ T2 21 0 ≤ 7695 := hIT2 21 0
                refine zi_sipush hx hb dX8_finds_111 (by decide) ?_
                refine lv_iload hx hb dX8_finds_114 (lv_at hl 0 rfl) ?_
                refine zi_imul hx hb dX8_finds_116 ?_
                refine lv_iload_n hx hb dX8_finds_117 rfl (lv_at hl 3 rfl) ?_
                refine zi_iadd hx hb dX8_finds_118 ?_
                refine zi_iast hx hb hK.1 hP (mW_D hdis _) hS 15 0 rfl rfl (by omega) (by omega) (by decide) dX8_finds_119 (fun H locs hP hS => ?_)
                have hP : va_P D vwCl (mW cI cZ bd (su T2 22 (up (T2 22) (T2 21 0) ((405 * r_86) + bc)))) H := hP
                have hI_119 : MI (su T2 22 (up (T2 22) (T2 21 0) ((405 * r_86) + bc))) := MI.up hIT2 22 (T2 21 0) ((405 * r_86) + bc) (show (0 : Int) ≤ ((405 * r_86) + bc) ∧ ((405 * r_86) + bc) ≤ 1457999 from ⟨by omega, by omega⟩)
                generalize eS_119 : su T2 22 (up (T2 22) (T2 21 0) ((405 * r_86) + bc)) = S_119 at hP hI_119
                refine lv_aload_n hx hb dX8_finds_120 rfl (lv_at hl 1 rfl) ?_
                refine lv_dup hx hb dX8_finds_121 rfl ?_
                refine va_get (D := D) (ci := 8) (v := .int (zi (S_119 21 0))) (C := RX8) (T := TX8) (N := 32) hx hb hts in_X8_finds_8 hown hK.1 hP 0 rfl rfl 21 (by decide) (hts _ lk_X8_finds_145) (fun _ h9 => h9) rfl dX8_finds_122 ?_
                refine zi_is (T2 21 0) (by rw [← eS_119] <;> rfl) ?_
                have f_122 : (0 : Int) ≤ T2 21 0 ∧ T2 21 0 ≤ 7695 := hIT2 21 0
                refine zi_iconst hx hb dX8_finds_125 ?_
                refine zi_iadd hx hb dX8_finds_126 ?_
                refine va_put (D := D) (ci := 8) (v := .int (zi ((T2 21 0) + 1))) (ty := .int) (C := RX8) (T := TX8) (N := 32) hx hb hts in_X8_finds_8 tyX8 tyX8_ok nmX8 hown hK.1 hP (mW_D hdis _) hS 0 rfl rfl 21 (by decide) (hts _ lk_X8_finds_145) (fun _ h9 => h9) rfl (by decide +kernel) rfl rfl (Nat.le_of_ble_eq_true rfl) dX8_finds_127 (fun H locs hP _ hS => ?_)
                have hP : va_P D vwCl (mW cI cZ bd (su S_119 21 (fun _ => (T2 21 0) + 1))) H := hP
                have hI_127 : MI (su S_119 21 (fun _ => (T2 21 0) + 1)) := MI.upc hI_119 21 ((T2 21 0) + 1) (show (0 : Int) ≤ ((T2 21 0) + 1) ∧ ((T2 21 0) + 1) ≤ 7695 from ⟨by omega, by omega⟩)
                generalize eS_127 : su S_119 21 (fun _ => (T2 21 0) + 1) = S_127 at hP hI_127
                refine zi_iinc (k := 7) (lv' := [(6, .int (zi (e9 + 1))), (7, .int (zi r_86)), (0, .ref (bd 0)), (1, .int (zi r_12)), (2, .int (zi bc)), (3, .int (zi x3_31)), (4, .int (zi x4_37)), (5, .int (zi r_66))]) hx hb dX8_finds_130 hl rfl (by decide) rfl (fun ls hl => ?_)
                refine lv_goto (tgt := 75) hx hb dX8_finds_133 (by decide) ?_
                exact ih_75 m9 (e9 + 1) S_127 (by first | omega | assumption) (by first | omega | assumption) (by rw [← g_R, itr_s]; congr 1; refine Eq.trans ?_ (cif_t (by have h9 := b2_1 er_97 c_100; rw [er_86, ex3_31, ex4_37] at h9; exact h9)).symm; rw [← eS_127, ← eS_119, er_86]) (by rw [← eS_127]; show T2 21 0 + 1 ≤ _; omega) (by omega) hI_127 _ _ hP hS _ (lv_sub hl [2, 3, 4, 5, 6, 7, 0] rfl)
        refine zi_top (fun x6_73 ex6_73 => ?_)
        refine lv_istore (lv' := [(6, .int (zi x6_73)), (5, .int (zi r_66)), (4, .int (zi x4_37)), (3, .int (zi x3_31)), (0, .ref (bd 0)), (1, .int (zi r_12)), (2, .int (zi bc))]) hx hb dX8_finds_73 hl (by decide) rfl (fun ls hl => ?_)
        exact K_75 ((2 * r_12 + 1).toNat + 1) ((2 * r_12 + 1).toNat) x6_73 T (by first | omega | assumption) (by first | omega | assumption) (by rw [fdOut, midM, ex6_73, er_66, er_62, er_59, er_46, ex3_31, ex4_37] <;> rfl) (by first | omega | assumption) (by omega) hIT _ _ hP hS _ (lv_sub hl [4, 5, 6, 3, 2, 1, 0] rfl)
  refine lv_istore_n (lv' := [(2, .int (zi 0)), (1, .int (zi r_12)), (0, .ref (bd 0))]) hx hb dX8_finds_17 rfl hl (by decide) rfl (fun ls hl => ?_)
  exact K_18 406 405 0 S_2 (by first | omega | assumption) (by first | omega | assumption) (by rw [findM, er_12, ← eS_2] <;> rfl) (by rw [← eS_2]; exact Int.le_refl 0) (by omega) hI_2 _ _ hP hS _ (lv_sub hl [2, 1, 0] rfl)

theorem in_X8_hasOrbit_8 : ∀ w ∈ wsX80, w ∈ wsX8_hasOrbit := by decide +kernel
theorem lk_X8_hasOrbit_145 : Cond.fieldLink RX8 145 "PlanetoidDeskModel" "found" "I" ∈ wsX8_hasOrbit := by decide +kernel
abbrev rmct_X8_hasOrbit : Room := { frames := 4, cells := 0, slots := 0, locals := 94 }
set_option maxHeartbeats 4000000 in
set_option maxRecDepth 100000 in
theorem ct_X8_hasOrbit (l : Launch) (D : va_G) (cI cZ cJ : ClassId) (bd : Nat → Nat) (S : ZS) (hI : MI S) (hdis : mDis bd)   : Met l yX8_hasOrbit wsX8_hasOrbit rmct_X8_hasOrbit (zP D cI cZ cJ (mW cI cZ bd S) [.ref (bd 0)]) (zWi D (mW cI cZ bd) (mA bd) (fun r T => r = b2 (0 < findM S 21 0) ∧ T = findM S ∧ MI T)) 0 0 (mA bd) := by
  refine Met.ofW (cc := cX8_hasOrbit) (maxL := 1) (ret := (some .boolean)) (by decide) rfl ?_
  intro p e s m args below meth c s₁ B hml hv
  obtain ⟨rfl, hP, hK⟩ := hv
  have hx := B.exec
  have hb := B.bytes
  have hr := B.returns
  have hts := atoms_spec (ws := wsX8_hasOrbit) B.pre
  have hown : s.vm.findClass RX8 = some m.cls := findClass_of_methodNamed B.named
  have hlocks := B.notSynchronized
  have hl := lv_entry ([.ref (bd 0)]) (n := 1) (Nat.le_of_ble_eq_true rfl)
  rw [lg_entry_eq]
  generalize (lg_sl ([.ref (bd 0)]) ++ List.replicate (1 - (lg_sl ([.ref (bd 0)])).length) Slot.unset).toArray = ls at hl ⊢
  have hl : lv_has ls 1 [(0, .ref (bd 0))] := hl
  have hS : va_S (mA bd) s.heap s.heap [] := va_S.rf
  show W p l e rmct_X8_hasOrbit s m ([.ref (bd 0)] : List Value).toArray below meth c s.heap [] 0 0 (MQ below (zWi D (mW cI cZ bd) (mA bd) (fun r T => r = b2 (0 < findM S 21 0) ∧ T = findM S ∧ MI T)) ([.ref (bd 0)] : List Value).toArray s 0 0 (mA bd)) (F0 m 0 ls [])
  refine lv_aload_n hx hb dX8_hasOrbit_0 rfl (lv_at hl 0 rfl) ?_
  refine zk_wv (zc_V (As := []) (rest := []) ⟨hx, hb, hml, hown, hts⟩ (ct_X8_finds l D cI cZ cJ bd S hI hdis  ) (cwV 0 hts gX8_hasOrbit_X8_finds rfl rfl rfl (by decide +kernel) ⟨Nat.le_of_ble_eq_true rfl, Nat.le_of_ble_eq_true rfl⟩) hK hP (q0 := 0) (ci := 8) rfl rfl rfl rfl hl.1 rfl (Nat.le_of_ble_eq_true rfl) dX8_hasOrbit_1 ⟨Nat.zero_le _, Nat.zero_le _⟩) hS (fun S_1 H locs hp_1 hP hS => ?_)
  obtain ⟨e9, hI_1⟩ := hp_1
  have eS_1 := e9.symm; clear e9
  refine lv_aload_n hx hb dX8_hasOrbit_4 rfl (lv_at hl 0 rfl) ?_
  refine va_get (D := D) (ci := 8) (v := .int (zi (S_1 21 0))) (C := RX8) (T := TX8) (N := 32) hx hb hts in_X8_hasOrbit_8 hown hK.1 hP 0 rfl rfl 21 (by decide) (hts _ lk_X8_hasOrbit_145) (fun _ h9 => h9) rfl dX8_hasOrbit_5 ?_
  have f_5 : (0 : Int) ≤ S_1 21 0 ∧ S_1 21 0 ≤ 7695 := hI_1 21 0
  refine zi_if_le (tgt := 15) hx hb ⟨by omega, by omega⟩ dX8_hasOrbit_8 (by decide) (fun c_8 => ?_) (fun c_8 => ?_)
  · refine zi_iconst hx hb dX8_hasOrbit_15 ?_
    exact zr_wz (T := S_1) hx hb hr hlocks dX8_hasOrbit_16 (Or.inl rfl) hP hS (by exact ⟨by rw [eS_1]; first | exact (b2_t (by omega)).symm | exact (b2_f (by omega)).symm, eS_1.symm, hI_1⟩)
  · refine zi_iconst hx hb dX8_hasOrbit_11 ?_
    refine lv_goto (tgt := 16) hx hb dX8_hasOrbit_12 (by decide) ?_
    exact zr_wz (T := S_1) hx hb hr hlocks dX8_hasOrbit_16 (Or.inr rfl) hP hS (by exact ⟨by rw [eS_1]; first | exact (b2_t (by omega)).symm | exact (b2_f (by omega)).symm, eS_1.symm, hI_1⟩)

