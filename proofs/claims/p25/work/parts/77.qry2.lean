/-! where the desk's calls can't throw; more of what they answer -/
theorem cntu (p : Int → Prop) : ∀ n : Nat, cnt p n ≤ n := by
  intro n
  induction n with
  | zero => exact Int.le_refl _
  | succ n ih =>
    have h3 := b2_b (P := p n)
    show cnt p n + b2 (p n) ≤ _
    omega
theorem cntn (p : Int → Prop) {m n : Nat} (h : m < n) (hp : ¬ p m) : cnt p n ≤ n - 1 := by
  induction n with
  | zero => exact absurd h (by omega)
  | succ n ih =>
    have h3 := b2_b (P := p n)
    rcases Nat.lt_or_ge m n with h1 | h1
    · have h2 := ih h1
      show cnt p n + b2 (p n) ≤ _
      omega
    · obtain rfl : m = n := by omega
      have h2 := cntu p m
      show cnt p m + b2 (p m) ≤ _
      rw [b2_f hp]; omega
theorem hw_of {S M : ZS} (h : DK S M) {b : Int} : 0 ≤ b → b < S 23 0 → ∀ k, rAt 405 (findO b S 14) k ≤ 19 := by
  intro h0 h1 k
  by_cases hk : 0 ≤ k ∧ k < 405
  · have e := h.arc h0 k hk.1 hk.2
    have e2 : rAt 405 (findO b S 14) k = (Ak M b k).2 := congrArg (fun q => q.2) e
    rw [e2]
    exact Ak_19 h.B h.2.2.2 h0 (by have := h.n; omega) k
  · unfold rAt; rw [if_neg hk]; decide
theorem hnn_of {S M : ZS} (h : DK S M) {b : Int} : 0 ≤ b → b < S 23 0 → numP S b → S 25 0 < 20 := by
  intro h0 h1 h2
  have hn := h.n
  have h3 := ((number_iff h.B h.2.2.1 h.2.2.2 h0 (by omega)).mp h2).2.1
  have h4 := cntn (fun i => 0 < M 14 i) (m := b.toNat) (n := 20) (by omega) (by rw [Int.toNat_of_nonneg h0]; exact h3)
  have h5 := h.2.2.2.numC
  omega
theorem nox_orbits {S M : ZS} (h : DK S M) {b : Int} (h0 : 0 ≤ b) (h1 : b < M 11 0) : ∀ E T, ¬ pxx_orbits S b E T := by
  intro E T hx
  have hn := h.n
  unfold pxx_orbits at hx
  obtain ⟨⟨h2, -⟩, -⟩ := hx
  omega
theorem nox_anew {S M : ZS} (h : DK S M) {b : Int} (h0 : 0 ≤ b) (h1 : b < M 11 0) : ∀ E T, ¬ pxx_orbitsAnew S b E T := by
  intro E T hx
  have hn := h.n
  unfold pxx_orbitsAnew at hx
  obtain ⟨⟨h2, -⟩, -⟩ := hx
  omega
theorem nox_spread {S M : ZS} (h : DK S M) {b t : Int} (h0 : 0 ≤ b) (h1 : b < M 11 0) (ht : 0 ≤ t ∧ t ≤ 999) : ∀ E T, ¬ pxx_spread S b t E T := by
  intro E T hx
  have hn := h.n
  unfold pxx_spread at hx
  rcases hx.1 with ⟨h2, -⟩ | ⟨-, h2, -⟩ <;> omega
theorem nox_where {S M : ZS} (h : DK S M) {b t k : Int} (h0 : 0 ≤ b) (h1 : b < M 11 0) (ht : 0 ≤ t ∧ t ≤ 999) (hk : 0 ≤ k) : ∀ E T, ¬ pxx_where S b t k E T := by
  intro E T hx
  have hn := h.n
  unfold pxx_where at hx
  rcases hx.1 with ⟨h2, -⟩ | ⟨-, h2, -⟩ | ⟨-, -, h2, -⟩ <;> omega
theorem nox_orbit {S M : ZS} (h : DK S M) {b k w : Int} (h0 : 0 ≤ b) (h1 : b < M 11 0) (hk : 0 ≤ k ∧ k < (kE M b).length) (hw : 0 ≤ w ∧ w ≤ 2) : ∀ E T, ¬ pxx_orbit S b k w E T := by
  intro E T hx
  have hn := h.n
  have hc := h.cnt h0 h1
  unfold pxx_orbit at hx
  rcases hx.1 with ⟨h2, -⟩ | ⟨-, h2, -⟩ | ⟨-, -, h2, -⟩ <;> omega
theorem nox_ofBody {S M : ZS} (h : DK S M) {b w : Int} (h0 : 0 ≤ b) (h1 : b < M 11 0) (hw : 0 ≤ w ∧ w ≤ 6) : ∀ E T, ¬ pxx_ofBody S b w E T := by
  intro E T hx
  have hn := h.n
  unfold pxx_ofBody at hx
  rcases hx.1 with ⟨h2, -⟩ | ⟨-, h2, -⟩ <;> omega
theorem nox_ofDot {S M : ZS} (h : DK S M) {d : Int} (h0 : 0 ≤ d) (h1 : d < M 6 0) : ∀ E T, ¬ pxx_ofDot S d 3 E T := by
  intro E T hx
  have hn := h.n
  unfold pxx_ofDot at hx
  rcases hx.1 with ⟨h2, -⟩ | ⟨-, h2, -⟩ <;> omega
theorem nox_chance {S M : ZS} (h : DK S M) {b f n w : Int} (h0 : 0 ≤ b) (h1 : b < M 11 0) (hf : 0 ≤ f ∧ f ≤ 999) (hn9 : 1 ≤ n ∧ n ≤ 60) (hl : 0 ≤ f + n - 1 ∧ f + n - 1 ≤ 999) : ∀ E T, ¬ pxx_chance S b f n w E T := by
  intro E T hx
  have hn := h.n
  unfold pxx_chance at hx
  rcases hx.1 with ⟨h2, -⟩ | ⟨-, h2, -⟩ | ⟨-, -, h2, -⟩ | ⟨-, -, -, h2, -⟩ <;> omega
theorem nox_families {S : ZS} {d : Int} (hd : 0 ≤ d ∧ d ≤ 90) : ∀ E T, ¬ pxx_families S d E T := by
  intro E T hx
  unfold pxx_families at hx
  obtain ⟨⟨h2, -⟩, -⟩ := hx
  omega
theorem nox_family {S M : ZS} (h : DK S M) {b d : Int} (h0 : 0 ≤ b) (h1 : b < M 11 0) (hd : 0 ≤ d ∧ d ≤ 90) : ∀ E T, ¬ pxx_family S b d E T := by
  intro E T hx
  have hn := h.n
  unfold pxx_family at hx
  rcases hx.1 with ⟨h2, -⟩ | ⟨-, h2, -⟩ <;> omega
theorem nox_turn {S M : ZS} (h : DK S M) {b w : Int} (h0 : 0 ≤ b) (h1 : b < M 11 0) : ∀ E T, ¬ pxx_turn S b w E T := by
  intro E T hx
  have hn := h.n
  unfold pxx_turn at hx
  obtain ⟨⟨h2, -⟩, -⟩ := hx
  omega
theorem q_turn {S M T : ZS} {r b w : Int} (h : DK S M) (h0 : 0 ≤ b) (h1 : b < M 11 0) (hp : pst_turn S b w r T) : r = tuM M b w ∧ DK T M := by
  unfold pst_turn at hp
  obtain ⟨_, hr, hT, hC⟩ := hp
  exact ⟨hr.trans (turn_eq h.B h.2.2.1 h.2.2.2 h0), h.sc (by rw [hT]; exact SC_ga) hC⟩
theorem q_family {S M T : ZS} {r b d : Int} (h : DK S M) (h0 : 0 ≤ b) (h1 : b < M 11 0) (hp : pst_family S b d r T) : r = rcM d M 30 b ∧ DK T M := by
  unfold pst_family at hp
  obtain ⟨_, _, hr, hs, hC⟩ := hp
  exact ⟨hr.trans (family_eq h.B h.2.2.1 h.2.2.2 h0 h1), h.sc hs hC⟩
theorem q_families {S M T : ZS} {r d : Int} (h : DK S M) (hd : 0 ≤ d ∧ d ≤ 90) (hp : pst_families S d r T) : r = itr (fun k acc => if rcM d M 30 k = k then acc + 1 else acc) (M 11 0).toNat 0 0 ∧ DK T M := by
  unfold pst_families at hp
  obtain ⟨_, hr, hT, hC⟩ := hp
  exact ⟨hr.trans (families_eq h.B h.2.2.1 h.2.2.2), h.sc (by rw [hT]; exact SC_ff) hC⟩
theorem q_chance {S M T : ZS} {r b f n w : Int} (h : DK S M) (h0 : 0 ≤ b) (h1 : b < M 11 0) (hn : 1 ≤ n) (hp : pst_chance S b f n w r T) : (r = chC w (cpAll f n (findO b S)) ∧ r = chM b f n w M ∧ cpAll f n (findO b S) 28 0 ≤ 27702000) ∧ DK T M := by
  unfold pst_chance at hp
  obtain ⟨_, _, _, _, hr, hT, hC⟩ := hp
  have hb : cpAll f n (findO b S) 28 0 ≤ 27702000 := by rw [← hT]; exact (hC 28 0).2
  exact ⟨⟨hr, hr.trans (chance_eq h.B h.2.2.1 h.2.2.2 h0 h1 hn hb), hb⟩, h.sc (by rw [hT]; exact SC_fo.tr SC_cp) hC⟩
