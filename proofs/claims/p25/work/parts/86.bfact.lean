theorem q_ofB0 {S M T : ZS} {r b : Int} (h : DK S M) (h0 : 0 ≤ b) (h1 : b < M 11 0) (hp : pst_ofBody S b 0 r T) : r = ((lkM M b).length : Int) ∧ DK T M := q_ofBody h h0 h1 hp
theorem q_ofB1 {S M T : ZS} {r b : Int} (h : DK S M) (h0 : 0 ≤ b) (h1 : b < M 11 0) (hp : pst_ofBody S b 1 r T) : r = ownM M b ∧ DK T M := by
  have h9 := q_ofBody h h0 h1 hp
  rw [if_neg (by decide), if_pos rfl] at h9
  exact h9
theorem q_ofB2 {S M T : ZS} {r b : Int} (h : DK S M) (h0 : 0 ≤ b) (h1 : b < M 11 0) (hp : pst_ofBody S b 2 r T) : r = M 12 b ∧ DK T M := by
  have h9 := q_ofBody h h0 h1 hp
  rw [if_neg (by decide), if_neg (by decide), if_pos rfl] at h9
  exact h9
theorem q_ofB4 {S M T : ZS} {r b : Int} (h : DK S M) (h0 : 0 ≤ b) (h1 : b < M 11 0) (hp : pst_ofBody S b 4 r T) : r = firstM (laysM b M) ∧ DK T M := by
  have h9 := q_ofBody h h0 h1 hp
  rw [if_neg (by decide), if_neg (by decide), if_neg (by decide), if_neg (by decide), if_pos rfl] at h9
  exact h9
theorem q_ofB5 {S M T : ZS} {r b : Int} (h : DK S M) (h0 : 0 ≤ b) (h1 : b < M 11 0) (hp : pst_ofBody S b 5 r T) : r = (if 0 < M 14 b then M 14 b else -1) ∧ DK T M := by
  have h9 := q_ofBody h h0 h1 hp
  rw [if_neg (by decide), if_neg (by decide), if_neg (by decide), if_neg (by decide), if_neg (by decide), if_pos rfl] at h9
  exact h9
theorem q_ofB6 {S M T : ZS} {r b : Int} (h : DK S M) (h0 : 0 ≤ b) (h1 : b < M 11 0) (hp : pst_ofBody S b 6 r T) : r = joinM M b ∧ DK T M := by
  have h9 := q_ofBody h h0 h1 hp
  rw [if_neg (by decide), if_neg (by decide), if_neg (by decide), if_neg (by decide), if_neg (by decide), if_neg (by decide)] at h9
  exact h9
theorem orv0 (y : Int) : orvC 0 y = y / 405 := rfl
theorem orv1 (y : Int) : orvC 1 y = bC (y % 405) := rfl
theorem orv2 (y : Int) : orvC 2 y = cC (y % 405) := rfl
theorem fl_congr {p q : Int → Prop} {n : Nat} {j : Int} (h : ∀ x : Int, j ≤ x → x < j + n → (p x ↔ q x)) : fl p n j = fl q n j := by
  induction n generalizing j with
  | zero => rfl
  | succ n ih =>
    have e := ih (j := j + 1) (fun x a b => h x (by omega) (by omega))
    by_cases c : p j
    · rw [fl_t c, fl_t ((h j (by omega) (by omega)).mp c), e]
    · rw [fl_f c, fl_f (fun h9 => c ((h j (by omega) (by omega)).mpr h9)), e]
theorem oL_self {L M : ZS} (h : GL L M) (b : Int) : oL M b (-1) (-1) = lkM M b := by
  rw [GL.lk h]
  exact fl_congr (fun k k0 k1 => ⟨fun h9 => h9.elim id (fun h8 => h8.elim (fun h7 => absurd h7.1 (by decide)) (fun h7 => absurd h7 (by omega))), Or.inl⟩)
theorem or_self {L M : ZS} (h : GL L M) {b : Int} (h0 : 0 ≤ b) (h1 : b < M 11 0) : 1 ≤ (oG M b (-1) (-1)).2 ∧ orN M b (-1) (-1) = (kE M b).length := by
  have hne := lkM_ne h.2.2 h0 h1
  have hl : 1 ≤ (oL M b (-1) (-1)).length := by
    rw [oL_self h]
    cases hk : lkM M b with
    | nil => exact absurd hk hne
    | cons x l => rw [List.length_cons]; omega
  have hG := (oG_has (M := M) (b := b) (o := -1) (d := -1)).1
  refine ⟨by omega, ?_⟩
  rw [orN_len (E9.of h.2.1) hl, oL_self h]
  rfl
theorem q_ask6n {S M T L L9 : ZS} {r b n : Int} (h : DK S M) (h0 : 0 ≤ b) (h1 : b < M 11 0) (hn : n = (kE M b).length) (hp : L9 = L ∧ (pst_orbit S b n 0 r T ∨ (r = -70007 ∧ pxx_orbit S b n 0 xIOB T) ∨ (r = -70008 ∧ pxx_orbit S b n 0 xISE T))) : r = -70007 ∧ L9 = L ∧ DK T M := by
  obtain ⟨hL, hp⟩ := hp
  have hc := h.cnt h0 h1
  rcases hp with hp | ⟨hr, hp⟩ | ⟨hr, hp⟩
  · unfold pst_orbit at hp
    obtain ⟨_, h2, _⟩ := hp
    omega
  · unfold pxx_orbit at hp
    exact ⟨hr, hL, h.sc hp.2.1 hp.2.2⟩
  · unfold pxx_orbit at hp
    rcases hp.1 with ⟨-, e⟩ | ⟨-, -, e⟩ | ⟨-, -, -, e⟩ <;> exact absurd e (by decide)
