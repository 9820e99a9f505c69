/-! what the law's arrays tell of the numbers M -/
def LD (n : Int) (L M : ZS) : Prop := ∀ k : Int, 0 ≤ k → k < n → L 0 k = 10800000 * (M 10 k + 1) + 108000 * M 9 k + 3600 * M 7 k + M 8 k ∧ 0 ≤ M 7 k ∧ M 7 k < 14
def LPl (n : Int) (L M : ZS) : Prop := ∀ k : Int, 0 ≤ k → k < n → L 1 k = 10 * M 5 k + M 2 (M 4 k)
def LZ (L M : ZS) : Prop := ∀ k : Int, 0 ≤ k → k < 9 → L 2 k = M 0 k
def LU (L M : ZS) : Prop := ∀ j : Int, 0 ≤ j → j < 12 → L 3 (5 * j) = M 12 j + 1 ∧ M 12 j < 12 ∧ L 3 (5 * j + 2) = M 14 j ∧ (M 12 j ≠ -1 → L 3 (5 * j + 1) = M 13 j + 1) ∧ (0 < M 14 j → L 3 (5 * j + 3) = M 15 j ∧ L 3 (5 * j + 4) = M 16 j)
def LB (L : ZS) : Prop := ∀ j : Int, 0 ≤ j → j < 64 → -200000 ≤ L 3 j ∧ L 3 j ≤ 200000
def LC (L M : ZS) : Prop := L 4 2 = 40 ∧ L 4 3 = M 11 0 ∧ L 4 4 = M 17 0 ∧ L 4 5 = M 18 0
def LR (L M : ZS) : Prop := M 6 0 = 40 ∧ M 11 0 ≤ 12 ∧ LC L M ∧ LD 40 L M ∧ LPl 14 L M ∧ LZ L M ∧ LU L M ∧ LB L
/-- arrays, numbers, no circles -/
def GL (L M : ZS) : Prop := LR L M ∧ MB M ∧ Inv M
theorem GL.d {L M : ZS} (h : GL L M) {k : Int} (h0 : 0 ≤ k) (h1 : k < 40) : L 0 k = 10800000 * (M 10 k + 1) + 108000 * M 9 k + 3600 * M 7 k + M 8 k ∧ -1 ≤ M 10 k ∧ M 10 k < 12 ∧ 0 ≤ M 9 k ∧ M 9 k ≤ 99 ∧ 0 ≤ M 7 k ∧ M 7 k < 14 ∧ 0 ≤ M 8 k ∧ M 8 k ≤ 3599 := by
  obtain ⟨⟨a1, a2, -, a4, -⟩, hM, hI⟩ := h
  obtain ⟨b1, b2, b3⟩ := a4 k h0 h1
  have c1 : (-1 : Int) ≤ M 10 k ∧ M 10 k ≤ 19 := hM 10 k
  have c2 : (0 : Int) ≤ M 9 k ∧ M 9 k ≤ 99 := hM 9 k
  have c3 : (0 : Int) ≤ M 8 k ∧ M 8 k ≤ 3599 := hM 8 k
  have c4 := hI.ownB k h0 (by omega)
  exact ⟨b1, c1.1, by omega, c2.1, c2.2, b2, b3, c3.1, c3.2⟩
theorem GL.p {L M : ZS} (h : GL L M) {k : Int} (h0 : 0 ≤ k) (h1 : k < 14) : L 1 k = 10 * M 5 k + M 2 (M 4 k) ∧ 0 ≤ M 5 k ∧ M 5 k ≤ 999 ∧ 0 ≤ M 2 (M 4 k) ∧ M 2 (M 4 k) ≤ 9 := by
  obtain ⟨⟨-, -, -, -, a4, -⟩, hM, hI⟩ := h
  have c1 : (0 : Int) ≤ M 5 k ∧ M 5 k ≤ 999 := hM 5 k
  have c2 : (0 : Int) ≤ M 2 (M 4 k) ∧ M 2 (M 4 k) ≤ 9 := hM 2 _
  exact ⟨a4 k h0 h1, c1.1, c1.2, c2.1, c2.2⟩
theorem GL.z {L M : ZS} (h : GL L M) {k : Int} (h0 : 0 ≤ k) (h1 : k < 9) : L 2 k = M 0 k ∧ -9 ≤ M 0 k ∧ M 0 k ≤ 9 := by
  obtain ⟨⟨-, -, -, -, -, a4, -⟩, hM, hI⟩ := h
  have c1 : (-9 : Int) ≤ M 0 k ∧ M 0 k ≤ 9 := hM 0 k
  exact ⟨a4 k h0 h1, c1.1, c1.2⟩
theorem GL.u {L M : ZS} (h : GL L M) {j : Int} (h0 : 0 ≤ j) (h1 : j < 12) : L 3 (5 * j) = M 12 j + 1 ∧ -1 ≤ M 12 j ∧ M 12 j < 12 := by
  obtain ⟨⟨-, -, -, -, -, -, a4, -⟩, hM, hI⟩ := h
  have c1 : (-1 : Int) ≤ M 12 j ∧ M 12 j ≤ 19 := hM 12 j
  exact ⟨(a4 j h0 h1).1, c1.1, (a4 j h0 h1).2.1⟩
theorem GL.un {L M : ZS} (h : GL L M) {j : Int} (h0 : 0 ≤ j) (h1 : j < 12) : L 3 (5 * j + 2) = M 14 j ∧ 0 ≤ M 14 j ∧ M 14 j ≤ 20 := by
  obtain ⟨⟨-, -, -, -, -, -, a4, -⟩, hM, hI⟩ := h
  have c1 : (0 : Int) ≤ M 14 j ∧ M 14 j ≤ 20 := hM 14 j
  exact ⟨(a4 j h0 h1).2.2.1, c1.1, c1.2⟩
theorem GL.ut {L M : ZS} (h : GL L M) {j : Int} (h0 : 0 ≤ j) (h1 : j < 12) (h2 : M 12 j ≠ -1) : L 3 (5 * j + 1) = M 13 j + 1 ∧ 0 ≤ M 13 j ∧ M 13 j ≤ 100000 := by
  obtain ⟨⟨-, -, -, -, -, -, a4, -⟩, hM, hI⟩ := h
  have c1 : (0 : Int) ≤ M 13 j ∧ M 13 j ≤ 100000 := hM 13 j
  exact ⟨(a4 j h0 h1).2.2.2.1 h2, c1.1, c1.2⟩
theorem GL.up {L M : ZS} (h : GL L M) {j : Int} (h0 : 0 ≤ j) (h1 : j < 12) (h2 : 0 < M 14 j) : L 3 (5 * j + 3) = M 15 j ∧ L 3 (5 * j + 4) = M 16 j ∧ -40 ≤ M 15 j ∧ M 15 j ≤ 40 ∧ -2 ≤ M 16 j ∧ M 16 j ≤ 2 := by
  obtain ⟨⟨-, -, -, -, -, -, a4, -⟩, hM, hI⟩ := h
  have c1 : (-40 : Int) ≤ M 15 j ∧ M 15 j ≤ 40 := hM 15 j
  have c2 : (-2 : Int) ≤ M 16 j ∧ M 16 j ≤ 2 := hM 16 j
  obtain ⟨d1, d2⟩ := (a4 j h0 h1).2.2.2.2 h2
  exact ⟨d1, d2, c1.1, c1.2, c2.1, c2.2⟩
theorem GL.b {L M : ZS} (h : GL L M) {j : Int} (h0 : 0 ≤ j) (h1 : j < 64) : -200000 ≤ L 3 j ∧ L 3 j ≤ 200000 := h.1.2.2.2.2.2.2.2 j h0 h1
theorem GL.c {L M : ZS} (h : GL L M) : L 4 2 = 40 ∧ L 4 3 = M 11 0 ∧ L 4 4 = M 17 0 ∧ L 4 5 = M 18 0 ∧ M 6 0 = 40 ∧ 0 ≤ M 11 0 ∧ M 11 0 ≤ 12 ∧ 0 ≤ M 17 0 ∧ M 17 0 ≤ 100000 ∧ 0 ≤ M 18 0 ∧ M 18 0 ≤ 20 := by
  obtain ⟨⟨a1, a2, ⟨b1, b2, b3, b4⟩, -⟩, hM, hI⟩ := h
  have c1 : (0 : Int) ≤ M 11 0 ∧ M 11 0 ≤ 20 := hM 11 0
  have c2 : (0 : Int) ≤ M 17 0 ∧ M 17 0 ≤ 100000 := hM 17 0
  have c3 : (0 : Int) ≤ M 18 0 ∧ M 18 0 ≤ 20 := hM 18 0
  exact ⟨b1, b2, b3, b4, a1, c1.1, a2, c2.1, c2.2, c3.1, c3.2⟩
theorem tm36 {x : Int} (h : -1000000000 ≤ x ∧ x ≤ 1000000000) : (x.tmod 3600 + 3600) % 3600 = x % 3600 := by
  by_cases h0 : 0 ≤ x
  · rw [fm_a h0]; omega
  · have h1 := fm_t (x := x) (y := 3600) (by omega)
    have h2 : 0 ≤ (-x) % 3600 := Int.emod_nonneg _ (by decide)
    have h3 : (-x) % 3600 < 3600 := Int.emod_lt_of_pos _ (by decide)
    rw [h1]
    omega
/-- how many looks the body b has, counted as the law does -/
noncomputable def lkN (M : ZS) (b : Int) : Int := itr (fun k acc => acc + b2 (lookM M k b)) 40 0 0
noncomputable def fsF (M : ZS) (b k f : Int) : Int := cif (lookM M k b ∧ (f < 0 ∨ nM M k < nM M f)) k f
noncomputable def fsN (M : ZS) (b : Int) : Int := itr (fsF M b) 40 0 (-1)
theorem fsN_b {M : ZS} {b : Int} : ∀ (n : Nat) (j f : Int), 0 ≤ j → -1 ≤ f → f < j → -1 ≤ itr (fsF M b) n j f ∧ itr (fsF M b) n j f < j + n := by
  intro n
  induction n with
  | zero => intro j f h0 h1 h2; rw [itr_0]; omega
  | succ n ih =>
    intro j f h0 h1 h2
    rw [itr_s]
    by_cases h : lookM M j b ∧ (f < 0 ∨ nM M j < nM M f)
    · have e : fsF M b j f = j := cif_t h
      rw [e]
      have := ih (j + 1) j (by omega) (by omega) (by omega)
      omega
    · have e : fsF M b j f = f := cif_f h
      rw [e]
      have := ih (j + 1) f (by omega) (by omega) (by omega)
      omega
def shN (M : ZS) (b o : Int) : Prop := anyI (fun j => M 7 (j / 40) = M 7 (j % 40) ∧ lookM M (j / 40) b ∧ lookM M (j % 40) o) 1600 0
theorem sh_step {P : Int → Prop} {R : Prop} {n : Nat} {j d v : Int} (h : (d = 1 ∧ R) ∨ (d = 0 ∧ (anyI P (n + 1) j ↔ R))) (hv : (v = 1 ∧ (d = 1 ∨ P j)) ∨ (v = 0 ∧ d = 0 ∧ ¬ P j)) : (v = 1 ∧ R) ∨ (v = 0 ∧ (anyI P n (j + 1) ↔ R)) := by
  rcases hv with ⟨h1, h2 | h2⟩ | ⟨h1, h2, h3⟩
  · rcases h with h | h
    · exact Or.inl ⟨h1, h.2⟩
    · exact absurd h.1 (by omega)
  · rcases h with h | h
    · exact Or.inl ⟨h1, h.2⟩
    · exact Or.inl ⟨h1, h.2.mp (Or.inl h2)⟩
  · rcases h with h | h
    · exact absurd h.1 (by omega)
    · exact Or.inr ⟨h1, ⟨fun h9 => h.2.mp (Or.inr h9), fun h9 => (h.2.mpr h9).elim (fun h8 => absurd h8 h3) id⟩⟩
theorem sh_end {P : Int → Prop} {R : Prop} {j d : Int} (h : (d = 1 ∧ R) ∨ (d = 0 ∧ (anyI P 0 j ↔ R))) : d = b2 R := by
  rcases h with h | h
  · rw [b2_t h.2]; exact h.1
  · rw [b2_f (fun h9 => (h.2.mpr h9).elim)]; exact h.1
theorem anc_pos {g : Int → Int} {n : Nat} {x : Int} (h : anc g n x = -1) (hx : ¬ x = -1) : ∃ m : Nat, n = m + 1 := by
  cases n with
  | zero => exact absurd h hx
  | succ n => exact ⟨n, rfl⟩
theorem fit_end {P : Int → Prop} {d i R : Int} (h : (d = 1 ∧ b2 (¬ anyI P 0 i) = R) ∨ (d = 0 ∧ 0 = R)) : d = R := by
  rcases h with ⟨h1, h2⟩ | ⟨h1, h2⟩
  · rw [b2_t (show ¬ anyI P 0 i from fun h => h)] at h2; omega
  · omega
theorem fit_step {p : Int → Prop} {n : Nat} {d dd i R : Int} (h : (d = 1 ∧ b2 (¬ anyI (fun k => ¬ p k) (n + 1) i) = R) ∨ (d = 0 ∧ 0 = R)) (hd : ¬ d = 0) (e : dd = b2 (p i)) : (dd = 1 ∧ b2 (¬ anyI (fun k => ¬ p k) n (i + 1)) = R) ∨ (dd = 0 ∧ 0 = R) := by
  have h2 : b2 (¬ anyI (fun k => ¬ p k) (n + 1) i) = R := h.elim (fun h => h.2) (fun h => absurd h.1 hd)
  by_cases hp : p i
  · rw [b2_t hp] at e
    exact Or.inl ⟨e, by rw [← h2]; exact congrArg b2 (propext ⟨fun h3 h4 => h4.elim (fun h5 => h5 hp) h3, fun h3 h4 => h3 (Or.inr h4)⟩)⟩
  · rw [b2_f hp] at e
    exact Or.inr ⟨e, by rw [← h2, b2_f (fun h3 => h3 (Or.inl hp))]⟩
theorem GL.nb {L M : ZS} (h : GL L M) (x : Int) : (0 : Int) ≤ nM M x ∧ nM M x ≤ 999 := h.2.1 5 _
theorem GL.eb {L M : ZS} (h : GL L M) (x : Int) : (0 : Int) ≤ eM M x ∧ eM M x ≤ 9 := h.2.1 2 _
theorem GL.lb {L M : ZS} (h : GL L M) (x : Int) : (0 : Int) ≤ M 9 x ∧ M 9 x ≤ 99 := h.2.1 9 _
theorem GL.ob {L M : ZS} (h : GL L M) {k : Int} (h0 : 0 ≤ k) (h1 : k < 40) : -1 ≤ M 10 k ∧ M 10 k < 12 := ⟨(GL.d h h0 h1).2.1, (GL.d h h0 h1).2.2.1⟩
theorem GL.pb {L M : ZS} (h : GL L M) {k : Int} (h0 : 0 ≤ k) (h1 : k < 40) : 0 ≤ M 7 k ∧ M 7 k < 14 := ⟨(GL.d h h0 h1).2.2.2.2.2.1, (GL.d h h0 h1).2.2.2.2.2.2.1⟩
theorem mvM_b {b c t : Int} (h0 : -40 ≤ b) (h1 : b ≤ 40) (g0 : -2 ≤ c) (g1 : c ≤ 2) (h2 : 0 ≤ t) (h3 : t ≤ 999) : -1036962 ≤ mvM b c t ∧ mvM b c t ≤ 1036962 := by
  have a1 := mul_b (b := b) (B := 40) (t := t) (T := 999) (by omega) (by omega) h2 h3
  have a2 := sq_b h2 h3
  have a3 := mul_b (b := c) (B := 2) (t := t * (t - 1) / 2) (T := 498501) (by omega) (by omega) (by omega) (by omega)
  unfold mvM
  constructor <;> omega
