def cLo : Nat → Int := fun k => match k with | 0 => 0 | 1 => 0 | 2 => 0 | 3 => 0 | 4 => 0 | 5 => 0 | 6 => -9 | 7 => -1 | 8 => -1 | 9 => 0 | 10 => -1 | 11 => 0 | 12 => 0 | 13 => 0 | 14 => 0 | 15 => 0 | 16 => -1 | 17 => -1 | 18 => -1 | 19 => -1 | 20 => 0 | 21 => 0 | 22 => 0 | 23 => 0 | 24 => 0 | 25 => 0 | 26 => 0 | 27 => 0 | 28 => 0 | _ => 0
def cHi : Nat → Int := fun k => match k with | 0 => 9 | 1 => 5 | 2 => 999 | 3 => 29 | 4 => 3599 | 5 => 99 | 6 => 9 | 7 => 19 | 8 => 19 | 9 => 100000 | 10 => 20 | 11 => 404 | 12 => 59 | 13 => 3599 | 14 => 3600 | 15 => 1458000 | 16 => 404 | 17 => 404 | 18 => 3599 | 19 => 20 | 20 => 6 | 21 => 30 | 22 => 60 | 23 => 20 | 24 => 100000 | 25 => 20 | 26 => 60 | 27 => 1458000 | 28 => 1458000 | _ => 0
def mLo : Nat → Int := fun k => match k with | 0 => -9 | 1 => 0 | 2 => 0 | 3 => 0 | 4 => 0 | 5 => 0 | 6 => 0 | 7 => 0 | 8 => 0 | 9 => 0 | 10 => -1 | 11 => 0 | 12 => -1 | 13 => 0 | 14 => 0 | 15 => -40 | 16 => -2 | 17 => 0 | 18 => 0 | 19 => 0 | 20 => 0 | 21 => 0 | 22 => 0 | 23 => 0 | 24 => -1 | 25 => -1 | 26 => 0 | 27 => 0 | 28 => 0 | 29 => 0 | 30 => -1 | 31 => 0 | _ => 0
def mHi : Nat → Int := fun k => match k with | 0 => 9 | 1 => 6 | 2 => 9 | 3 => 30 | 4 => 5 | 5 => 999 | 6 => 60 | 7 => 29 | 8 => 3599 | 9 => 99 | 10 => 19 | 11 => 20 | 12 => 19 | 13 => 100000 | 14 => 20 | 15 => 40 | 16 => 2 | 17 => 100000 | 18 => 20 | 19 => 60 | 20 => 59 | 21 => 7695 | 22 => 1457999 | 23 => 7695 | 24 => 7694 | 25 => 7694 | 26 => 12963599 | 27 => 1 | 28 => 100 | 29 => 99 | 30 => 19 | 31 => 3 | _ => 0
/-- every cell of each row is within the row's bounds -/
def CI (S : ZS) : Prop := ∀ (k : Nat) (j : Int), cLo k ≤ S k j ∧ S k j ≤ cHi k
theorem CI.put {S : ZS} (h : CI S) (k : Nat) {g : Int → Int} (hg : ∀ j, cLo k ≤ g j ∧ g j ≤ cHi k) : CI (su S k g) := by
  intro q j
  by_cases hq : q = k
  · subst hq; rw [su_s]; exact hg j
  · rw [su_n _ _ hq]; exact h q j
theorem CI.up {S : ZS} (h : CI S) (k : Nat) (x v : Int) (hv : cLo k ≤ v ∧ v ≤ cHi k) : CI (su S k (up (S k) x v)) := h.put k (fun j => by
  by_cases hj : j = x
  · subst hj; rw [up_s]; exact hv
  · rw [up_n _ _ hj]; exact h k j)
theorem CI.upc {S : ZS} (h : CI S) (k : Nat) (v : Int) (hv : cLo k ≤ v ∧ v ≤ cHi k) : CI (su S k (fun _ => v)) := h.put k (fun _ => hv)
/-- every cell of each row is within the row's bounds -/
def MI (S : ZS) : Prop := ∀ (k : Nat) (j : Int), mLo k ≤ S k j ∧ S k j ≤ mHi k
theorem MI.put {S : ZS} (h : MI S) (k : Nat) {g : Int → Int} (hg : ∀ j, mLo k ≤ g j ∧ g j ≤ mHi k) : MI (su S k g) := by
  intro q j
  by_cases hq : q = k
  · subst hq; rw [su_s]; exact hg j
  · rw [su_n _ _ hq]; exact h q j
theorem MI.up {S : ZS} (h : MI S) (k : Nat) (x v : Int) (hv : mLo k ≤ v ∧ v ≤ mHi k) : MI (su S k (up (S k) x v)) := h.put k (fun j => by
  by_cases hj : j = x
  · subst hj; rw [up_s]; exact hv
  · rw [up_n _ _ hj]; exact h k j)
theorem MI.upc {S : ZS} (h : MI S) (k : Nat) (v : Int) (hv : mLo k ≤ v ∧ v ≤ mHi k) : MI (su S k (fun _ => v)) := h.put k (fun _ => hv)
theorem CI.at {S : ZS} (h : CI S) (k : Nat) (n x : Int) (h0 : cLo k ≤ 0 ∧ 0 ≤ cHi k) : cLo k ≤ rAt n (S k) x ∧ rAt n (S k) x ≤ cHi k := by
  unfold rAt; split
  · exact h k x
  · exact h0
theorem CI.rput {S : ZS} (h : CI S) (k : Nat) (n x v : Int) (hv : cLo k ≤ v ∧ v ≤ cHi k) : CI (su S k (rPut n (S k) x v)) := by
  unfold rPut; split
  · exact h.up k x v hv
  · exact h.put k (h k)
def rFill (n : Int) (g : Int → Int) (v : Int) : Int → Int := fun j => if 0 ≤ j ∧ j < n then v else g j
theorem CI.rfill {S : ZS} (h : CI S) (k : Nat) (n v : Int) (hv : cLo k ≤ v ∧ v ≤ cHi k) : CI (su S k (rFill n (S k) v)) := h.put k (fun j => by
  unfold rFill; split
  · exact hv
  · exact h k j)
theorem zi_nat (n : Nat) : Int32.ofNat n = zi (n : Int) := by
  unfold zi; exact (Int32.ofInt_eq_ofNat).symm
theorem su_su (S : ZS) (k : Nat) (g g' : Int → Int) : su (su S k g) k g' = su S k g' := by
  funext j
  by_cases h : j = k
  · subst h; rw [su_s, su_s]
  · rw [su_n _ _ h, su_n _ _ h, su_n _ _ h]
/-- a world with the cells of one array named -/
def rW (ws : va_W) (j b : Nat) (cI : ClassId) (n : Nat) (g : Int → Int) : va_W := ws.set j (b, .inl (cI, n, .inl (zf g)))
theorem rW_o {ws : va_W} {i j b n : Nat} {cI : ClassId} {g : Int → Int} {q : Nat × va_E} (hi : ws[i]? = some q) (h : i ≠ j) : (rW ws j b cI n g)[i]? = some q := by
  rw [rW, List.getElem?_set_ne (Ne.symm h)]; exact hi
theorem rW_a {ws : va_W} {j b n : Nat} {cI : ClassId} {g : Int → Int} (h : j < ws.length) : (rW ws j b cI n g)[j]? = some (b, .inl (cI, n, .inl (zf g))) := by
  rw [rW, List.getElem?_set_self h]
theorem rW_s {ws : va_W} {j b n : Nat} {cI : ClassId} {g g' : Int → Int} : (rW ws j b cI n g).set j (b, .inl (cI, n, .inl (zf g'))) = rW ws j b cI n g' := by
  rw [rW, rW, List.set_set]
/-- a loop over j, n times: the state s by f -/
def itr {σ : Type} (f : Int → σ → σ) : Nat → Int → σ → σ
  | 0, _, s => s
  | n + 1, j, s => itr f n (j + 1) (f j s)
theorem itr_s {σ : Type} (f : Int → σ → σ) (n : Nat) (j : Int) (s : σ) : itr f (n + 1) j s = itr f n (j + 1) (f j s) := rfl
theorem itr_0 {σ : Type} (f : Int → σ → σ) (j : Int) (s : σ) : itr f 0 j s = s := rfl
theorem itr_inv {σ : Type} {f : Int → σ → σ} (P : Int → σ → Prop) (hs : ∀ (j : Int) (s : σ), P j s → P (j + 1) (f j s)) : ∀ (n : Nat) (j : Int) (s : σ), P j s → P (j + n) (itr f n j s) := by
  intro n
  induction n with
  | zero =>
    intro j s h
    rw [itr_0, show j + ((0 : Nat) : Int) = j by omega]
    exact h
  | succ n ih =>
    intro j s h
    have h1 := ih (j + 1) (f j s) (hs j s h)
    rw [itr_s]
    have e : j + ((n + 1 : Nat) : Int) = j + 1 + (n : Int) := by omega
    rw [e]; exact h1
