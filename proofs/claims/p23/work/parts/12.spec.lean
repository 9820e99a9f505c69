def mLo : Nat → Int := fun k => match k with | 0 => -9 | 1 => 0 | 2 => 0 | 3 => 0 | 4 => 0 | 5 => 0 | 6 => 0 | 7 => 0 | 8 => 0 | 9 => 0 | 10 => -1 | 11 => 0 | 12 => -1 | 13 => 0 | 14 => 0 | 15 => -40 | 16 => -2 | 17 => 0 | 18 => 0 | 19 => 0 | 20 => 0 | 21 => 0 | 22 => 0 | 23 => 0 | 24 => -1 | 25 => -1 | 26 => 0 | 27 => 0 | 28 => 0 | 29 => 0 | 30 => -1 | 31 => 0 | _ => 0
def mHi : Nat → Int := fun k => match k with | 0 => 9 | 1 => 6 | 2 => 9 | 3 => 30 | 4 => 5 | 5 => 999 | 6 => 60 | 7 => 29 | 8 => 3599 | 9 => 99 | 10 => 19 | 11 => 20 | 12 => 19 | 13 => 100000 | 14 => 20 | 15 => 40 | 16 => 2 | 17 => 100000 | 18 => 20 | 19 => 60 | 20 => 59 | 21 => 7695 | 22 => 1457999 | 23 => 7695 | 24 => 7694 | 25 => 7694 | 26 => 12963599 | 27 => 1 | 28 => 100 | 29 => 99 | 30 => 19 | 31 => 3 | _ => 0
/-- every cell of each row is within the row's bounds -/
def MI (S : ZS) : Prop := ∀ (k : Nat) (j : Int), mLo k ≤ S k j ∧ S k j ≤ mHi k
def rFill (n : Int) (g : Int → Int) (v : Int) : Int → Int := fun j => if 0 ≤ j ∧ j < n then v else g j
theorem zi_nat (n : Nat) : Int32.ofNat n = zi (n : Int) := by
  unfold zi; exact (Int32.ofInt_eq_ofNat).symm
/-- a world with the cells of one array named -/
def rW (ws : va_W) (j b : Nat) (cI : ClassId) (n : Nat) (g : Int → Int) : va_W := ws.set j (b, .inl (cI, n, .inl (zf g)))
theorem rW_o {ws : va_W} {i j b n : Nat} {cI : ClassId} {g : Int → Int} {q : Nat × va_E} (hi : ws[i]? = some q) (h : i ≠ j) : (rW ws j b cI n g)[i]? = some q := by
  rw [rW, List.getElem?_set_ne (Ne.symm h)]; exact hi
theorem rW_a {ws : va_W} {j b n : Nat} {cI : ClassId} {g : Int → Int} (h : j < ws.length) : (rW ws j b cI n g)[j]? = some (b, .inl (cI, n, .inl (zf g))) := by
  rw [rW, List.getElem?_set_self h]
theorem rW_s {ws : va_W} {j b n : Nat} {cI : ClassId} {g g' : Int → Int} : (rW ws j b cI n g).set j (b, .inl (cI, n, .inl (zf g'))) = rW ws j b cI n g' := by
  rw [rW, rW, List.set_set]
