/-! the reference, fourth part -/
def hdF (k : Int) (T : ZS) : ZS := su T 24 (up (T 24) k (-1))
def secM (n k f : Int) (T : ZS) : Int := if n = 1 then 0 else plM (T 22 k) (f + 1)
def thiM (n k f : Int) (T : ZS) : Int := if 3 ≤ n then plM (T 22 k) (f + 2) else 0
def wayM (f n k : Int) (T : ZS) : Int := 3600 * secM n k f T + thiM n k f T
noncomputable def chR (T : ZS) (w : Int) : Nat → Int → Int → Int
  | 0, _, s => s
  | m + 1, j, s => if j = -1 then s else chR T w m (T 25 j) (b2 (¬ s = 0 ∨ T 26 j = w))
noncomputable def senM (f n k : Int) (T : ZS) : Int := chR T (wayM f n k T) (k.toNat + 1) (T 24 (plM (T 22 k) f)) 0
noncomputable def cmM (f n k : Int) (T : ZS) : Int := b2 (senM f n k T = 0 ∧ isNP (T 22 k) f n)
noncomputable def paT (f n k : Int) (T : ZS) : ZS := su (su T 26 (up (T 26) k (wayM f n k T))) 27 (up (T 27) k (cmM f n k T))
noncomputable def paU (f n k : Int) (T : ZS) : ZS := su (su (paT f n k T) 25 (up (T 25) k (T 24 (plM (T 22 k) f)))) 24 (up (T 24) (plM (T 22 k) f) k)
noncomputable def paF (f n k : Int) (q : ZS × Int) : ZS × Int := if senM f n k q.1 = 0 then (paU f n k q.1, q.2 + 1) else (paT f n k q.1, q.2)
def hdA (S : ZS) : ZS := itr hdF 3600 0 S
noncomputable def paM (f n : Int) (S : ZS) : ZS × Int := itr (paF f n) (S 21 0).toNat 0 (hdA S, 0)
theorem hd_n {n : Nat} {j : Int} {S : ZS} {r : Nat} (h : r ≠ 24) : itr hdF n j S r = S r := itr_keep (fun _ _ => su_n _ _ h) _ _ _
theorem hdA_n {S : ZS} {r : Nat} (h : r ≠ 24) : hdA S r = S r := by unfold hdA; exact hd_n h
noncomputable def chS (b f n : Int) (S : ZS) : ZS × Int := if findM (laysM b S) 21 0 = 0 then (findM (laysM b S), 0) else paM f n (findM (laysM b S))
def nearM (T : ZS) : Int := itr (fun k acc => if ¬ T 27 k = 0 then acc + 1 else acc) (T 21 0).toNat 0 0
def byM (al ne : Int) : Int := if al = 0 then 1 else gcdC (ne.toNat + 1) al ne
theorem gcd_p : ∀ (n : Nat) (a b : Int), 0 < a → 0 ≤ b → b < n → 0 < gcdC n a b := by
  intro n
  induction n with
  | zero => intro a b _ h1 h2; omega
  | succ n ih =>
    intro a b h0 h1 h2
    unfold gcdC; split
    · exact h0
    · rename_i hb
      have q1 : 0 ≤ a % b := Int.emod_nonneg _ hb
      have q2 : a % b < b := Int.emod_lt_of_pos _ (by omega)
      exact ih b (a % b) (by omega) q1 (by omega)
noncomputable def chM (b f n w : Int) (S : ZS) : Int := if w = 0 then nearM (chS b f n S).1 / byM (chS b f n S).2 (nearM (chS b f n S).1) else (chS b f n S).2 / byM (chS b f n S).2 (nearM (chS b f n S).1)
def rcF (k : Int) (T : ZS) : ZS := su T 30 (up (T 30) k (if 0 < T 14 k then k else -1))
noncomputable def rcG (m c : Int) (T : ZS) : ZS := su T 30 (up (T 30) (c / T 11 0) (cif (akM T (c / T 11 0) (c % T 11 0) m ∧ T 14 (T 30 (c % T 11 0)) < T 14 (T 30 (c / T 11 0))) (T 30 (c % T 11 0)) (T 30 (c / T 11 0))))
noncomputable def rcO (m : Int) (_ : Int) (T : ZS) : ZS := itr (rcG m) (T 11 0 * T 11 0).toNat 0 T
noncomputable def rcM (m : Int) (S : ZS) : ZS := itr (rcO m) (S 11 0).toNat 0 (itr rcF (S 11 0).toNat 0 S)
theorem sq_pos {c B : Int} (h0 : 0 ≤ c) (hB : 0 ≤ B) (h : c < B * B) : 0 < B ∧ c / B < B ∧ 0 ≤ c / B ∧ 0 ≤ c % B ∧ c % B < B := by
  have h1 : 0 < B := by
    rcases Int.lt_or_eq_of_le hB with h2 | h2
    · exact h2
    · subst h2; omega
  exact ⟨h1, Int.ediv_lt_of_lt_mul h1 h, Int.ediv_nonneg h0 hB, Int.emod_nonneg _ (by omega), Int.emod_lt_of_pos _ h1⟩
theorem sq_le {B : Int} (h0 : 0 ≤ B) (h1 : B ≤ 20) : 0 ≤ B * B ∧ B * B ≤ 400 := ⟨Int.mul_nonneg h0 h0, Int.mul_le_mul h1 h1 h0 (by decide)⟩
def lsF (L : ZS) (p r k a : Int) : Int := if nM L (L 20 k) % p = r ∧ L 9 (L 20 k) < a then L 9 (L 20 k) else a
def msF (L : ZS) (p r k a : Int) : Int := if nM L (L 20 k) % p = r ∧ a < L 9 (L 20 k) then L 9 (L 20 k) else a
def lsA (L : ZS) (p r : Int) (n : Nat) : Int := itr (lsF L p r) n 0 100
def msA (L : ZS) (p r : Int) (n : Nat) : Int := itr (msF L p r) n 0 0
def flR (L : ZS) (p r : Int) : Int := if lsA L p r (L 19 0).toNat < 100 then msA L p r (L 19 0).toNat - lsA L p r (L 19 0).toNat else 0
def flM (L : ZS) (p : Int) : Int := itr (fun r acc => acc + flR L p r) p.toNat 0 0
theorem itr_l {σ : Type} (f : Int → σ → σ) : ∀ (n : Nat) (j : Int) (s : σ), itr f (n + 1) j s = f (j + n) (itr f n j s) := by
  intro n
  induction n with
  | zero => intro j s; show f j s = f (j + ((0 : Nat) : Int)) s; rw [show j + ((0 : Nat) : Int) = j by omega]
  | succ n ih => intro j s; rw [itr_s, ih, itr_s, show j + ((n + 1 : Nat) : Int) = j + 1 + (n : Int) by omega]
theorem itr_li {σ : Type} (f : Int → σ → σ) {i : Int} (h : 0 ≤ i) (s : σ) : itr f (i + 1).toNat 0 s = f i (itr f i.toNat 0 s) := by
  rw [show (i + 1).toNat = i.toNat + 1 by omega, itr_l, Int.toNat_of_nonneg h, Int.zero_add]
def tuF (L : ZS) (p b : Int) : Int := if flM L p < flM L b then p else b
def tuB (L : ZS) : Int := itr (tuF L) 18 3 2
noncomputable def tuM (S : ZS) (b w : Int) : Int := if laysM b S 19 0 < 4 then -1 else if w = 0 then tuB (laysM b S) else flM (laysM b S) (tuB (laysM b S))
