/-! the reference: as programs over its numbers (field k is row k) -/
noncomputable def cnt (p : Int → Prop) : Nat → Int
  | 0 => 0
  | n + 1 => cnt p n + b2 (p n)
theorem cnt_0n (p : Int → Prop) (n : Nat) : 0 ≤ cnt p n ∧ cnt p n ≤ n := by
  induction n with
  | zero => exact ⟨Int.le_refl 0, Int.le_refl 0⟩
  | succ n ih =>
    have h := b2_b (P := p n)
    unfold cnt; omega
theorem cnt_mono (p : Int → Prop) {m n : Nat} (h : m ≤ n) : cnt p m ≤ cnt p n := by
  induction n with
  | zero => obtain rfl : m = 0 := by omega
            exact Int.le_refl _
  | succ n ih =>
    rcases Nat.lt_or_ge m (n + 1) with h1 | h1
    · have h2 := ih (by omega)
      have h3 := b2_b (P := p n)
      show cnt p m ≤ cnt p n + b2 (p n)
      omega
    · obtain rfl : m = n + 1 := by omega
      exact Int.le_refl _
theorem cnt_lt (p : Int → Prop) {m n : Nat} (h : m < n) (hp : p m) : cnt p m + 1 ≤ cnt p n := by
  have h1 := cnt_mono p (m := m + 1) (n := n) h
  have h2 : cnt p (m + 1) = cnt p m + 1 := by
    show cnt p m + b2 (p m) = _
    rw [b2_t hp]
  omega
theorem cnt_no (p : Int → Prop) {m n : Nat} (h : m < n) (hp : ¬ p m) : cnt p n ≤ n - 1 := by
  induction n with
  | zero => exact absurd h (by omega)
  | succ n ih =>
    have h3 := b2_b (P := p n)
    rcases Nat.lt_or_ge m n with h1 | h1
    · have h2 := ih h1
      show cnt p n + b2 (p n) ≤ _
      omega
    · obtain rfl : m = n := by omega
      have h2 := (cnt_0n p m).2
      show cnt p m + b2 (p m) ≤ _
      rw [b2_f hp]; omega
def anc (g : Int → Int) : Nat → Int → Int
  | 0, x => x
  | n + 1, x => if x = -1 then -1 else anc g n (g x)
theorem climb_s {g : Int → Int} {n : Nat} {h b : Int} (e : h = -1 ∨ h = b) : climb g n h b = h := by
  cases n with
  | zero => rfl
  | succ n => exact if_pos e
def nM (M : ZS) (d : Int) : Int := M 5 (M 7 d)
def eM (M : ZS) (d : Int) : Int := M 2 (M 4 (M 7 d))
def tM (M : ZS) (d : Int) : Int := (M 8 d + M 0 (M 8 d / 400)) % 3600
theorem tM_b (M : ZS) (x : Int) : (0 : Int) ≤ tM M x ∧ tM M x ≤ 3599 := by unfold tM; omega
theorem cnt_ltI (p : Int → Prop) {i N : Int} (h0 : 0 ≤ i) (h : i < N) (hp : p i) : cnt p i.toNat + 1 ≤ cnt p N.toNat := cnt_lt p (by omega) (by rw [Int.toNat_of_nonneg h0]; exact hp)
def mvM (b c t : Int) : Int := b * t + c * (t * (t - 1) / 2)
def apM (x y : Int) : Int := if 1800 < max (x - y) (-(x - y)) then 3600 - max (x - y) (-(x - y)) else max (x - y) (-(x - y))
def lookM (M : ZS) (k b : Int) : Prop := M 10 k ≠ -1 ∧ climb (M 12) 20 (M 10 k) b = b
/-- each own dot's body has an end above it -/
def accM (M : ZS) : Prop := ∀ k : Int, 0 ≤ k → k < M 6 0 → M 10 k ≠ -1 → anc (M 12) 20 (M 10 k) = -1
noncomputable def laF (b k : Int) (M : ZS) : ZS := cif (lookM M k b) (su (su M 20 (up (M 20) (M 19 0) k)) 19 (fun _ => M 19 0 + 1)) M
noncomputable def laysA (b : Int) (M : ZS) : ZS := itr (laF b) (M 6 0).toNat 0 M
noncomputable def laysM (b : Int) (M : ZS) : ZS := laysA b (su M 19 (fun _ => 0))
theorem laF_n {b k : Int} {M : ZS} {r : Nat} (h1 : r ≠ 20) (h2 : r ≠ 19) : laF b k M r = M r := by
  unfold laF
  by_cases h : lookM M k b
  · rw [cif_t h, su_n _ _ h2, su_n _ _ h1]
  · rw [cif_f h]
theorem laysA_n {b : Int} {M : ZS} {r : Nat} (h1 : r ≠ 20) (h2 : r ≠ 19) : laysA b M r = M r := itr_keep (fun _ _ => laF_n h1 h2) _ _ _
theorem laysM_n {b : Int} {M : ZS} {r : Nat} (h1 : r ≠ 20) (h2 : r ≠ 19) : laysM b M r = M r := by
  unfold laysM; rw [laysA_n h1 h2, su_n _ _ h2]
def nearP (M : ZS) (a b c k : Int) : Prop := apM ((a + mvM b c (nM M (M 20 k))) % 3600) (tM M (M 20 k)) ≤ eM M (M 20 k)
def fitP (M : ZS) (a b c : Int) : Prop := ¬ anyI (fun k => ¬ nearP M a b c k) (M 19 0).toNat 0
def midM (M : ZS) (bc : Int) : Int := (tM M (M 20 0) - mvM (bC bc) (cC bc) (nM M (M 20 0))) % 3600
noncomputable def fdIn (bc mid e : Int) (M : ZS) : ZS := cif (fitP M ((mid + e) % 3600) (bC bc) (cC bc)) (su (su M 22 (up (M 22) (M 21 0) (405 * ((mid + e) % 3600) + bc))) 21 (fun _ => M 21 0 + 1)) M
noncomputable def fdOut (w bc : Int) (M : ZS) : ZS := itr (fdIn bc (midM M bc)) (2 * w + 1).toNat (-w) M
noncomputable def findM (M : ZS) : ZS := itr (fdOut (eM M (M 20 0))) 405 0 (su M 21 (fun _ => 0))
theorem fdIn_n {bc mid e : Int} {M : ZS} {r : Nat} (h1 : r ≠ 22) (h2 : r ≠ 21) : fdIn bc mid e M r = M r := by
  unfold fdIn
  by_cases h : fitP M ((mid + e) % 3600) (bC bc) (cC bc)
  · rw [cif_t h, su_n _ _ h2, su_n _ _ h1]
  · rw [cif_f h]
theorem fdOut_n {w bc : Int} {M : ZS} {r : Nat} (h1 : r ≠ 22) (h2 : r ≠ 21) : fdOut w bc M r = M r := itr_keep (fun _ _ => fdIn_n h1 h2) _ _ _
theorem findM_n {M : ZS} {r : Nat} (h1 : r ≠ 22) (h2 : r ≠ 21) : findM M r = M r := by
  unfold findM
  rw [itr_keep (k := r) (fun _ _ => fdOut_n h1 h2) _ _ _, su_n _ _ h2]
/-- the reference's scratch -/
def scm (k : Nat) : Bool := (19 ≤ k && k ≤ 30)
def SM (S T : ZS) : Prop := ∀ k : Nat, scm k = false → T k = S k
theorem SM.rf {S : ZS} : SM S S := fun _ _ => rfl
theorem SM.tr {S T U : ZS} (h : SM S T) (h2 : SM T U) : SM S U := fun k hk => (h2 k hk).trans (h k hk)
theorem scm_ne {k q : Nat} (h : scm k = false) (hq : scm q = true) : k ≠ q := fun e => by rw [e, hq] at h; cases h
theorem SM_su {S : ZS} {q : Nat} {g : Int → Int} (hq : scm q = true) : SM S (su S q g) := fun _ hk => su_n _ _ (scm_ne hk hq)
theorem SM_la {b : Int} {S : ZS} : SM S (laysM b S) := fun _ hk => laysM_n (scm_ne hk rfl) (scm_ne hk rfl)
theorem SM_fd {S : ZS} : SM S (findM S) := fun _ hk => findM_n (scm_ne hk rfl) (scm_ne hk rfl)
def onP (M : ZS) (p n : Int) : Prop := anyI (fun k => M 7 (M 20 k) = p) n.toNat 0
theorem b2_iff {P Q : Prop} (h : P ↔ Q) : b2 P = b2 Q := congrArg b2 (propext h)
