def cLo : Nat → Int := fun k => match k with | 0 => 0 | 1 => 0 | 2 => 0 | 3 => 0 | 4 => 0 | 5 => 0 | 6 => -9 | 7 => -1 | 8 => -1 | 9 => 0 | 10 => -1 | 11 => 0 | 12 => 0 | 13 => 0 | 14 => 0 | 15 => 0 | 16 => -1 | 17 => -1 | 18 => -1 | 19 => -1 | 20 => 0 | 21 => 0 | 22 => 0 | 23 => 0 | 24 => 0 | 25 => 0 | 26 => 0 | 27 => 0 | 28 => 0 | _ => 0
def cHi : Nat → Int := fun k => match k with | 0 => 9 | 1 => 5 | 2 => 999 | 3 => 29 | 4 => 3599 | 5 => 99 | 6 => 9 | 7 => 19 | 8 => 19 | 9 => 100000 | 10 => 20 | 11 => 404 | 12 => 59 | 13 => 3599 | 14 => 3600 | 15 => 1458000 | 16 => 404 | 17 => 404 | 18 => 3599 | 19 => 20 | 20 => 6 | 21 => 30 | 22 => 60 | 23 => 20 | 24 => 100000 | 25 => 20 | 26 => 60 | 27 => 27702000 | 28 => 27702000 | _ => 0
def mLo : Nat → Int := fun k => match k with | 0 => -9 | 1 => 0 | 2 => 0 | 3 => 0 | 4 => 0 | 5 => 0 | 6 => 0 | 7 => 0 | 8 => 0 | 9 => 0 | 10 => -1 | 11 => 0 | 12 => -1 | 13 => 0 | 14 => 0 | 15 => -40 | 16 => -2 | 17 => 0 | 18 => 0 | 19 => 0 | 20 => 0 | 21 => 0 | 22 => 0 | 23 => 0 | 24 => -1 | 25 => -1 | 26 => 0 | 27 => 0 | 28 => 0 | 29 => 0 | 30 => -1 | 31 => 0 | _ => 0
def mHi : Nat → Int := fun k => match k with | 0 => 9 | 1 => 6 | 2 => 9 | 3 => 30 | 4 => 5 | 5 => 999 | 6 => 60 | 7 => 29 | 8 => 3599 | 9 => 99 | 10 => 19 | 11 => 20 | 12 => 19 | 13 => 100000 | 14 => 20 | 15 => 40 | 16 => 2 | 17 => 100000 | 18 => 20 | 19 => 60 | 20 => 59 | 21 => 7695 | 22 => 1457999 | 23 => 7695 | 24 => 7694 | 25 => 7694 | 26 => 12963599 | 27 => 1 | 28 => 100 | 29 => 99 | 30 => 19 | 31 => 3 | _ => 0
/-- every cell of each row is within the row's bounds -/
def CI (S : ZS) : Prop := ∀ (k : Nat) (j : Int), cLo k ≤ S k j ∧ S k j ≤ cHi k
theorem CI.put {S : ZS} (h : CI S) (k : Nat) {g : Int → Int} (hg : ∀ j, cLo k ≤ g j ∧ g j ≤ cHi k) : CI (su S k g) := by
  intro q j
  by_cases hq : q = k
  · subst hq; rw [su_s]; exact hg j
  · rw [su_n _ _ hq]; exact h q j
theorem CI.up {S : ZS} (h : CI S) (k : Nat) (x v : Int) (hv : cLo k ≤ v ∧ v ≤ cHi k) : CI (su S k (up (S k) x v)) := h.put k (fun j => by
  by_cases hj : j = x
  · subst hj; rw [up_s]; exact hv
  · rw [up_n _ _ hj]; exact h k j)
theorem CI.upc {S : ZS} (h : CI S) (k : Nat) (v : Int) (hv : cLo k ≤ v ∧ v ≤ cHi k) : CI (su S k (fun _ => v)) := h.put k (fun _ => hv)
/-- every cell of each row is within the row's bounds -/
def MI (S : ZS) : Prop := ∀ (k : Nat) (j : Int), mLo k ≤ S k j ∧ S k j ≤ mHi k
theorem MI.put {S : ZS} (h : MI S) (k : Nat) {g : Int → Int} (hg : ∀ j, mLo k ≤ g j ∧ g j ≤ mHi k) : MI (su S k g) := by
  intro q j
  by_cases hq : q = k
  · subst hq; rw [su_s]; exact hg j
  · rw [su_n _ _ hq]; exact h q j
theorem MI.up {S : ZS} (h : MI S) (k : Nat) (x v : Int) (hv : mLo k ≤ v ∧ v ≤ mHi k) : MI (su S k (up (S k) x v)) := h.put k (fun j => by
  by_cases hj : j = x
  · subst hj; rw [up_s]; exact hv
  · rw [up_n _ _ hj]; exact h k j)
theorem MI.upc {S : ZS} (h : MI S) (k : Nat) (v : Int) (hv : mLo k ≤ v ∧ v ≤ mHi k) : MI (su S k (fun _ => v)) := h.put k (fun _ => hv)
theorem CI.at {S : ZS} (h : CI S) (k : Nat) (n x : Int) (h0 : cLo k ≤ 0 ∧ 0 ≤ cHi k) : cLo k ≤ rAt n (S k) x ∧ rAt n (S k) x ≤ cHi k := by
  unfold rAt; split
  · exact h k x
  · exact h0
theorem CI.rput {S : ZS} (h : CI S) (k : Nat) (n x v : Int) (hv : cLo k ≤ v ∧ v ≤ cHi k) : CI (su S k (rPut n (S k) x v)) := by
  unfold rPut; split
  · exact h.up k x v hv
  · exact h.put k (h k)
def rFill (n : Int) (g : Int → Int) (v : Int) : Int → Int := fun j => if 0 ≤ j ∧ j < n then v else g j
theorem CI.rfill {S : ZS} (h : CI S) (k : Nat) (n v : Int) (hv : cLo k ≤ v ∧ v ≤ cHi k) : CI (su S k (rFill n (S k) v)) := h.put k (fun j => by
  unfold rFill; split
  · exact hv
  · exact h k j)
theorem zi_nat (n : Nat) : Int32.ofNat n = zi (n : Int) := by
  unfold zi; exact (Int32.ofInt_eq_ofNat).symm
theorem su_su (S : ZS) (k : Nat) (g g' : Int → Int) : su (su S k g) k g' = su S k g' := by
  funext j
  by_cases h : j = k
  · subst h; rw [su_s, su_s]
  · rw [su_n _ _ h, su_n _ _ h, su_n _ _ h]
/-- a world with the cells of one array named -/
def rW (ws : va_W) (j b : Nat) (cI : ClassId) (n : Nat) (g : Int → Int) : va_W := ws.set j (b, .inl (cI, n, .inl (zf g)))
theorem rW_o {ws : va_W} {i j b n : Nat} {cI : ClassId} {g : Int → Int} {q : Nat × va_E} (hi : ws[i]? = some q) (h : i ≠ j) : (rW ws j b cI n g)[i]? = some q := by
  rw [rW, List.getElem?_set_ne (Ne.symm h)]; exact hi
theorem rW_a {ws : va_W} {j b n : Nat} {cI : ClassId} {g : Int → Int} (h : j < ws.length) : (rW ws j b cI n g)[j]? = some (b, .inl (cI, n, .inl (zf g))) := by
  rw [rW, List.getElem?_set_self h]
theorem rW_s {ws : va_W} {j b n : Nat} {cI : ClassId} {g g' : Int → Int} : (rW ws j b cI n g).set j (b, .inl (cI, n, .inl (zf g'))) = rW ws j b cI n g' := by
  rw [rW, rW, List.set_set]
/-- a loop over j, n times: the state s by f -/
def itr {σ : Type} (f : Int → σ → σ) : Nat → Int → σ → σ
  | 0, _, s => s
  | n + 1, j, s => itr f n (j + 1) (f j s)
theorem itr_s {σ : Type} (f : Int → σ → σ) (n : Nat) (j : Int) (s : σ) : itr f (n + 1) j s = itr f n (j + 1) (f j s) := rfl
theorem itr_0 {σ : Type} (f : Int → σ → σ) (j : Int) (s : σ) : itr f 0 j s = s := rfl
theorem itr_inv {σ : Type} {f : Int → σ → σ} (P : Int → σ → Prop) (hs : ∀ (j : Int) (s : σ), P j s → P (j + 1) (f j s)) : ∀ (n : Nat) (j : Int) (s : σ), P j s → P (j + n) (itr f n j s) := by
  intro n
  induction n with
  | zero =>
    intro j s h
    rw [itr_0, show j + ((0 : Nat) : Int) = j by omega]
    exact h
  | succ n ih =>
    intro j s h
    have h1 := ih (j + 1) (f j s) (hs j s h)
    rw [itr_s]
    have e : j + ((n + 1 : Nat) : Int) = j + 1 + (n : Int) := by omega
    rw [e]; exact h1
theorem va_P_nil {D : va_G} {cl : List vw_C} {H : Heap} : va_P D cl [] H := fun k q h => by simp at h
def bC (k : Int) : Int := k / 5 - 40
def cC (k : Int) : Int := k % 5 - 2
/-- how far an orbit of the course k is from its a in the night t -/
def dC (k t : Int) : Int := bC k * t + cC k * (t * (t - 1) / 2)
theorem sq_b {t : Int} (h0 : 0 ≤ t) (h1 : t ≤ 999) : 0 ≤ t * (t - 1) ∧ t * (t - 1) ≤ 997002 := by
  obtain ⟨n, rfl⟩ := Int.eq_ofNat_of_zero_le h0
  cases n with
  | zero => decide
  | succ n =>
    have e : ((n + 1 : Nat) : Int) * (((n + 1 : Nat) : Int) - 1) = (((n + 1) * n : Nat) : Int) := by
      rw [Int.natCast_mul]; congr 1; omega
    rw [e]
    have h2 : (n + 1) * n ≤ 999 * 998 := Nat.mul_le_mul (by omega) (by omega)
    omega
theorem mul_b {b B t T : Int} (h1 : -B ≤ b) (h2 : b ≤ B) (h3 : 0 ≤ t) (h4 : t ≤ T) : -(B * T) ≤ b * t ∧ b * t ≤ B * T := by
  have hB : 0 ≤ B := by omega
  have q1 : b * t ≤ B * t := Int.mul_le_mul_of_nonneg_right h2 h3
  have q2 : B * t ≤ B * T := Int.mul_le_mul_of_nonneg_left h4 hB
  have q3 : -B * t ≤ b * t := Int.mul_le_mul_of_nonneg_right h1 h3
  rw [Int.neg_mul] at q3
  constructor <;> omega
theorem dC_b {k t : Int} (h0 : 0 ≤ k) (h1 : k ≤ 404) (h2 : 0 ≤ t) (h3 : t ≤ 999) : -1036962 ≤ dC k t ∧ dC k t ≤ 1036962 := by
  have a1 := mul_b (b := bC k) (B := 40) (t := t) (T := 999) (by unfold bC; omega) (by unfold bC; omega) h2 h3
  have a2 := sq_b h2 h3
  have a3 := mul_b (b := cC k) (B := 2) (t := t * (t - 1) / 2) (T := 498501) (by unfold cC; omega) (by unfold cC; omega) (by omega) (by omega)
  unfold dC
  constructor <;> omega
def pOf (S : ZS) (x : Int) : Int := rAt 60 (S 3) x
def oOf (S : ZS) (x : Int) : Int := rAt 30 (S 1) (pOf S x)
def eOf (S : ZS) (x : Int) : Int := rAt 6 (S 0) (oOf S x)
def nOf (S : ZS) (x : Int) : Int := rAt 30 (S 2) (pOf S x)
def lOf (S : ZS) (x : Int) : Int := rAt 60 (S 5) x
def tOf (S : ZS) (x : Int) : Int := (rAt 60 (S 4) x + rAt 9 (S 6) (rAt 60 (S 4) x / 400)) % 3600
theorem pOf_b {S : ZS} (h : CI S) (x : Int) : (0 : Int) ≤ pOf S x ∧ pOf S x ≤ 29 := CI.at h 3 60 x ⟨by decide, by decide⟩
theorem oOf_b {S : ZS} (h : CI S) (x : Int) : (0 : Int) ≤ oOf S x ∧ oOf S x ≤ 5 := CI.at h 1 30 _ ⟨by decide, by decide⟩
theorem eOf_b {S : ZS} (h : CI S) (x : Int) : (0 : Int) ≤ eOf S x ∧ eOf S x ≤ 9 := CI.at h 0 6 _ ⟨by decide, by decide⟩
theorem nOf_b {S : ZS} (h : CI S) (x : Int) : (0 : Int) ≤ nOf S x ∧ nOf S x ≤ 999 := CI.at h 2 30 _ ⟨by decide, by decide⟩
theorem lOf_b {S : ZS} (h : CI S) (x : Int) : (0 : Int) ≤ lOf S x ∧ lOf S x ≤ 99 := CI.at h 5 60 _ ⟨by decide, by decide⟩
theorem tOf_b {S : ZS} (_ : CI S) (x : Int) : (0 : Int) ≤ tOf S x ∧ tOf S x ≤ 3599 := by unfold tOf; omega
theorem fm_a {x y : Int} (h : 0 ≤ x) : x.tmod y = x % y := Int.tmod_eq_emod_of_nonneg h
theorem fm_t {x y : Int} (h : x < 0) : x.tmod y = -((-x) % y) := by
  have e : x.tmod y = -((-x).tmod y) := by rw [Int.neg_tmod, Int.neg_neg]
  rw [e, Int.tmod_eq_emod_of_nonneg (by omega)]
theorem fm_b {x y : Int} (h : x < 0) (h2 : x.tmod y = 0) : x.tmod y = x % y := by
  rw [h2]
  rw [fm_t h] at h2
  have h3 : (-x) % y = 0 := by omega
  have h4 : y ∣ x := Int.dvd_neg.mp (Int.dvd_of_emod_eq_zero h3)
  exact (Int.emod_eq_zero_of_dvd h4).symm
theorem fm_c {x y : Int} (h1 : 0 < y) (h : x < 0) (h2 : ¬ x.tmod y = 0) : x.tmod y + y = x % y := by
  rw [fm_t h] at h2 ⊢
  have h3 : 0 ≤ (-x) % y := Int.emod_nonneg _ (by omega)
  have h4 : (-x) % y < y := Int.emod_lt_of_pos _ h1
  have h5 := Int.mul_ediv_add_emod (-x) y
  have h8 : (-x) % y ≠ 0 := fun h9 => h2 (by rw [h9]; rfl)
  clear h2
  generalize hr : (-x) % y = r at *
  generalize hq : (-x) / y = q at *
  have h6 : x = (y - r) + y * (-q - 1) := by
    rw [Int.mul_sub, Int.mul_neg, Int.mul_one]; omega
  have h7 : x % y = y - r := by
    rw [h6, Int.add_mul_emod_self_left, Int.emod_eq_of_lt (by omega) (by omega)]
  omega
theorem tm_b {x y : Int} (h1 : 0 < y) : -y < x.tmod y ∧ x.tmod y < y := by
  by_cases h : 0 ≤ x
  · rw [fm_a h]
    have h3 : 0 ≤ x % y := Int.emod_nonneg _ (by omega)
    have h4 : x % y < y := Int.emod_lt_of_pos _ h1
    omega
  · rw [fm_t (by omega)]
    have h3 : 0 ≤ (-x) % y := Int.emod_nonneg _ (by omega)
    have h4 : (-x) % y < y := Int.emod_lt_of_pos _ h1
    omega
/-- up the hosts, at most n steps, till none or the body b -/
def climb (g : Int → Int) : Nat → Int → Int → Int
  | 0, h, _ => h
  | n + 1, h, b => if h = -1 ∨ h = b then h else climb g n (g h) b
def lookC (S : ZS) (d b : Int) : Prop := climb (rAt 20 (S 8)) 20 (rAt 60 (S 7) d) b = b
def ownN (S : ZS) (b : Int) : Int := itr (fun j acc => if rAt 60 (S 7) j = b then acc + 1 else acc) 60 0 0
def joinN (S : ZS) (h : Int) : Int := itr (fun j acc => if rAt 20 (S 8) j = h then acc + 1 else acc) (S 23 0).toNat 0 0
def lateF (S : ZS) (h j la : Int) : Int := if rAt 20 (S 8) j = h ∧ (la = -1 ∨ rAt 20 (S 9) la < rAt 20 (S 9) j) then j else la
def lateN (S : ZS) (h : Int) : Int := itr (lateF S h) (S 23 0).toNat 0 (-1)
/-- the first j from j on, within n, with p; -1 without one -/
def fstC (p : Int → Prop) [DecidablePred p] : Nat → Int → Int
  | 0, _ => -1
  | n + 1, j => if p j then j else fstC p n (j + 1)
def withC (S : ZS) (k : Int) : Int := fstC (fun j => rAt 20 (S 10) j = k) (S 23 0).toNat 0
theorem itr_if_t {p : Int → Prop} [DecidablePred p] {n : Nat} {j a R : Int} (h : itr (fun j acc => if p j then acc + 1 else acc) (n + 1) j a = R) (hp : p j) : itr (fun j acc => if p j then acc + 1 else acc) n (j + 1) (a + 1) = R := by
  rw [← h, itr_s, if_pos hp]
theorem itr_if_f {p : Int → Prop} [DecidablePred p] {n : Nat} {j a R : Int} (h : itr (fun j acc => if p j then acc + 1 else acc) (n + 1) j a = R) (hp : ¬ p j) : itr (fun j acc => if p j then acc + 1 else acc) n (j + 1) a = R := by
  rw [← h, itr_s, if_neg hp]
theorem fst_b (p : Int → Prop) [DecidablePred p] : ∀ (n : Nat) (j : Int), 0 ≤ j → fstC p n j = -1 ∨ (j ≤ fstC p n j ∧ fstC p n j < j + n ∧ p (fstC p n j)) := by
  intro n
  induction n with
  | zero => intro j _; exact Or.inl rfl
  | succ n ih =>
    intro j hj
    unfold fstC
    by_cases hp : p j
    · rw [if_pos hp]; exact Or.inr ⟨by omega, by omega, hp⟩
    · rw [if_neg hp]
      rcases ih (j + 1) (by omega) with h | ⟨h1, h2, h3⟩
      · exact Or.inl h
      · exact Or.inr ⟨by omega, by omega, h3⟩
theorem withC_b {S : ZS} (h : CI S) (k : Int) : (-1 : Int) ≤ withC S k ∧ withC S k ≤ 19 := by
  have hc : (0 : Int) ≤ S 23 0 ∧ S 23 0 ≤ 20 := h 23 0
  unfold withC
  rcases fst_b (fun j => rAt 20 (S 10) j = k) (S 23 0).toNat 0 (by omega) with e | ⟨h1, h2, -⟩
  · rw [e]; decide
  · omega
theorem lateN_b {S : ZS} (h : CI S) (x : Int) : (-1 : Int) ≤ lateN S x ∧ lateN S x ≤ 19 := by
  have hc : (0 : Int) ≤ S 23 0 ∧ S 23 0 ≤ 20 := h 23 0
  have h2 := itr_inv (f := lateF S x) (P := fun j la => 0 ≤ j ∧ -1 ≤ la ∧ la < j) (fun j la ⟨h0, h1, h2⟩ => by
    unfold lateF; split <;> omega) (S 23 0).toNat 0 (-1) (by omega)
  unfold lateN
  omega
/-- counting: between its start and its start and n -/
theorem cnt_b (p : Int → Prop) [DecidablePred p] : ∀ (n : Nat) (j a : Int), a ≤ itr (fun j acc => if p j then acc + 1 else acc) n j a ∧ itr (fun j acc => if p j then acc + 1 else acc) n j a ≤ a + n := by
  intro n
  induction n with
  | zero => intro j a; rw [itr_0]; omega
  | succ n ih =>
    intro j a
    rw [itr_s]
    have h := ih (j + 1) (if p j then a + 1 else a)
    split at h <;> rename_i hp <;> simp only [hp, if_true, if_false] <;> omega
/-- greatest divisor by remainders, as far as steps allow -/
def gcdC : Nat → Int → Int → Int
  | 0, high, _ => high
  | n + 1, high, low => if low = 0 then high else gcdC n low (high % low)
