/-! the class's numbers and the reference's: how they belong together -/
def Rel (S M : ZS) : Prop := (S 20 0 = M 1 0) ∧ (S 21 0 = M 3 0) ∧ (S 22 0 = M 6 0) ∧ (S 23 0 = M 11 0) ∧ (S 24 0 = M 17 0) ∧ (S 25 0 = M 18 0) ∧ (∀ j : Int, 0 ≤ j → j < 6 → S 0 j = M 2 j) ∧ (∀ j : Int, 0 ≤ j → j < 30 → S 1 j = M 4 j) ∧ (∀ j : Int, 0 ≤ j → j < 30 → S 2 j = M 5 j) ∧ (∀ j : Int, 0 ≤ j → j < 60 → S 3 j = M 7 j) ∧ (∀ j : Int, 0 ≤ j → j < 60 → S 4 j = M 8 j) ∧ (∀ j : Int, 0 ≤ j → j < 60 → S 5 j = M 9 j) ∧ (∀ j : Int, 0 ≤ j → j < 9 → S 6 j = M 0 j) ∧ (∀ j : Int, 0 ≤ j → j < M 6 0 → S 7 j = M 10 j) ∧ (∀ j : Int, M 6 0 ≤ j → j < 60 → S 7 j = -1) ∧ (∀ j : Int, 0 ≤ j → j < M 11 0 → S 8 j = M 12 j) ∧ (∀ j : Int, M 11 0 ≤ j → j < 20 → S 8 j = -1) ∧ (∀ j : Int, 0 ≤ j → j < M 11 0 → M 12 j ≠ -1 → S 9 j = M 13 j + 1) ∧ (∀ j : Int, 0 ≤ j → j < 20 → S 10 j = if 0 < M 14 j then M 14 j else -1) ∧ (∀ j : Int, 0 ≤ j → j < 20 → 0 < M 14 j → M 15 j = bC (S 11 j) ∧ M 16 j = cC (S 11 j))
theorem Rel.nO {S M : ZS} (h : Rel S M) : S 20 0 = M 1 0 := h.1
theorem Rel.nP {S M : ZS} (h : Rel S M) : S 21 0 = M 3 0 := h.2.1
theorem Rel.nD {S M : ZS} (h : Rel S M) : S 22 0 = M 6 0 := h.2.2.1
theorem Rel.nB {S M : ZS} (h : Rel S M) : S 23 0 = M 11 0 := h.2.2.2.1
theorem Rel.nJ {S M : ZS} (h : Rel S M) : S 24 0 = M 17 0 := h.2.2.2.2.1
theorem Rel.nN {S M : ZS} (h : Rel S M) : S 25 0 = M 18 0 := h.2.2.2.2.2.1
theorem Rel.err {S M : ZS} (h : Rel S M) : ∀ j : Int, 0 ≤ j → j < 6 → S 0 j = M 2 j := h.2.2.2.2.2.2.1
theorem Rel.seat {S M : ZS} (h : Rel S M) : ∀ j : Int, 0 ≤ j → j < 30 → S 1 j = M 4 j := h.2.2.2.2.2.2.2.1
theorem Rel.night {S M : ZS} (h : Rel S M) : ∀ j : Int, 0 ≤ j → j < 30 → S 2 j = M 5 j := h.2.2.2.2.2.2.2.2.1
theorem Rel.plate {S M : ZS} (h : Rel S M) : ∀ j : Int, 0 ≤ j → j < 60 → S 3 j = M 7 j := h.2.2.2.2.2.2.2.2.2.1
theorem Rel.place {S M : ZS} (h : Rel S M) : ∀ j : Int, 0 ≤ j → j < 60 → S 4 j = M 8 j := h.2.2.2.2.2.2.2.2.2.2.1
theorem Rel.light {S M : ZS} (h : Rel S M) : ∀ j : Int, 0 ≤ j → j < 60 → S 5 j = M 9 j := h.2.2.2.2.2.2.2.2.2.2.2.1
theorem Rel.shift {S M : ZS} (h : Rel S M) : ∀ j : Int, 0 ≤ j → j < 9 → S 6 j = M 0 j := h.2.2.2.2.2.2.2.2.2.2.2.2.1
theorem Rel.own {S M : ZS} (h : Rel S M) : ∀ j : Int, 0 ≤ j → j < M 6 0 → S 7 j = M 10 j := h.2.2.2.2.2.2.2.2.2.2.2.2.2.1
theorem Rel.own0 {S M : ZS} (h : Rel S M) : ∀ j : Int, M 6 0 ≤ j → j < 60 → S 7 j = -1 := h.2.2.2.2.2.2.2.2.2.2.2.2.2.2.1
theorem Rel.host {S M : ZS} (h : Rel S M) : ∀ j : Int, 0 ≤ j → j < M 11 0 → S 8 j = M 12 j := h.2.2.2.2.2.2.2.2.2.2.2.2.2.2.2.1
theorem Rel.host0 {S M : ZS} (h : Rel S M) : ∀ j : Int, M 11 0 ≤ j → j < 20 → S 8 j = -1 := h.2.2.2.2.2.2.2.2.2.2.2.2.2.2.2.2.1
theorem Rel.time {S M : ZS} (h : Rel S M) : ∀ j : Int, 0 ≤ j → j < M 11 0 → M 12 j ≠ -1 → S 9 j = M 13 j + 1 := h.2.2.2.2.2.2.2.2.2.2.2.2.2.2.2.2.2.1
theorem Rel.num {S M : ZS} (h : Rel S M) : ∀ j : Int, 0 ≤ j → j < 20 → S 10 j = if 0 < M 14 j then M 14 j else -1 := h.2.2.2.2.2.2.2.2.2.2.2.2.2.2.2.2.2.2.1
theorem Rel.prop {S M : ZS} (h : Rel S M) : ∀ j : Int, 0 ≤ j → j < 20 → 0 < M 14 j → M 15 j = bC (S 11 j) ∧ M 16 j = cC (S 11 j) := h.2.2.2.2.2.2.2.2.2.2.2.2.2.2.2.2.2.2.2
/-- what holds of the reference's numbers at all times -/
def Inv (M : ZS) : Prop := (∀ j : Int, 0 ≤ j → j < M 6 0 → M 10 j < M 11 0) ∧ (∀ j : Int, 0 ≤ j → j < M 11 0 → M 12 j < M 11 0) ∧ (∀ j : Int, 0 ≤ j → j < M 11 0 → M 12 j ≠ -1 → M 13 j < M 17 0) ∧ (∀ j : Int, 0 ≤ j → j < M 11 0 → M 12 j ≠ -1 → M 12 (M 12 j) ≠ -1 → M 13 j < M 13 (M 12 j)) ∧ (∀ b : Int, 0 ≤ b → b < M 11 0 → ∃ d : Int, 0 ≤ d ∧ d < M 6 0 ∧ M 10 d = b) ∧ (∀ j : Int, M 11 0 ≤ j → j < 20 → M 14 j = 0) ∧ (∀ j : Int, 0 ≤ j → j < 20 → M 14 j ≤ M 18 0) ∧ (∀ i j : Int, 0 ≤ i → i < 20 → 0 ≤ j → j < 20 → 0 < M 14 i → M 14 i = M 14 j → i = j) ∧ (M 18 0 = cnt (fun i => 0 < M 14 i) 20)
theorem Inv.ownB {M : ZS} (h : Inv M) : ∀ j : Int, 0 ≤ j → j < M 6 0 → M 10 j < M 11 0 := h.1
theorem Inv.hostB {M : ZS} (h : Inv M) : ∀ j : Int, 0 ≤ j → j < M 11 0 → M 12 j < M 11 0 := h.2.1
theorem Inv.timB {M : ZS} (h : Inv M) : ∀ j : Int, 0 ≤ j → j < M 11 0 → M 12 j ≠ -1 → M 13 j < M 17 0 := h.2.2.1
theorem Inv.tim {M : ZS} (h : Inv M) : ∀ j : Int, 0 ≤ j → j < M 11 0 → M 12 j ≠ -1 → M 12 (M 12 j) ≠ -1 → M 13 j < M 13 (M 12 j) := h.2.2.2.1
theorem Inv.has {M : ZS} (h : Inv M) : ∀ b : Int, 0 ≤ b → b < M 11 0 → ∃ d : Int, 0 ≤ d ∧ d < M 6 0 ∧ M 10 d = b := h.2.2.2.2.1
theorem Inv.num0 {M : ZS} (h : Inv M) : ∀ j : Int, M 11 0 ≤ j → j < 20 → M 14 j = 0 := h.2.2.2.2.2.1
theorem Inv.num1 {M : ZS} (h : Inv M) : ∀ j : Int, 0 ≤ j → j < 20 → M 14 j ≤ M 18 0 := h.2.2.2.2.2.2.1
theorem Inv.numI {M : ZS} (h : Inv M) : ∀ i j : Int, 0 ≤ i → i < 20 → 0 ≤ j → j < 20 → 0 < M 14 i → M 14 i = M 14 j → i = j := h.2.2.2.2.2.2.2.1
theorem Inv.numC {M : ZS} (h : Inv M) : M 18 0 = cnt (fun i => 0 < M 14 i) 20 := h.2.2.2.2.2.2.2.2
theorem Rel.sc {S T M : ZS} (h : Rel S M) (e : SC S T) : Rel T M := by
  unfold Rel at *
  obtain ⟨a1, a2, a3, a4, a5, a6, a7, a8, a9, a10, a11, a12, a13, a14, a15, a16, a17, a18, a19, a20⟩ := h
  refine ⟨?_, ?_, ?_, ?_, ?_, ?_, ?_, ?_, ?_, ?_, ?_, ?_, ?_, ?_, ?_, ?_, ?_, ?_, ?_, ?_⟩ <;> (try rw [e 0 rfl]) <;> (try rw [e 1 rfl]) <;> (try rw [e 2 rfl]) <;> (try rw [e 3 rfl]) <;> (try rw [e 4 rfl]) <;> (try rw [e 5 rfl]) <;> (try rw [e 6 rfl]) <;> (try rw [e 7 rfl]) <;> (try rw [e 8 rfl]) <;> (try rw [e 9 rfl]) <;> (try rw [e 10 rfl]) <;> (try rw [e 11 rfl]) <;> (try rw [e 20 rfl]) <;> (try rw [e 21 rfl]) <;> (try rw [e 22 rfl]) <;> (try rw [e 23 rfl]) <;> (try rw [e 24 rfl]) <;> (try rw [e 25 rfl]) <;> assumption
theorem Rel.sm {S T M : ZS} (h : Rel S M) (e : ∀ q : Nat, q ≤ 18 → T q = M q) : Rel S T := by
  have E := fun q (hq : q ≤ 18) => e q hq
  unfold Rel at *
  obtain ⟨a1, a2, a3, a4, a5, a6, a7, a8, a9, a10, a11, a12, a13, a14, a15, a16, a17, a18, a19, a20⟩ := h
  refine ⟨?_, ?_, ?_, ?_, ?_, ?_, ?_, ?_, ?_, ?_, ?_, ?_, ?_, ?_, ?_, ?_, ?_, ?_, ?_, ?_⟩ <;> (try rw [E 0 (by decide)]) <;> (try rw [E 1 (by decide)]) <;> (try rw [E 2 (by decide)]) <;> (try rw [E 3 (by decide)]) <;> (try rw [E 4 (by decide)]) <;> (try rw [E 5 (by decide)]) <;> (try rw [E 6 (by decide)]) <;> (try rw [E 7 (by decide)]) <;> (try rw [E 8 (by decide)]) <;> (try rw [E 9 (by decide)]) <;> (try rw [E 10 (by decide)]) <;> (try rw [E 11 (by decide)]) <;> (try rw [E 12 (by decide)]) <;> (try rw [E 13 (by decide)]) <;> (try rw [E 14 (by decide)]) <;> (try rw [E 15 (by decide)]) <;> (try rw [E 16 (by decide)]) <;> (try rw [E 17 (by decide)]) <;> (try rw [E 18 (by decide)]) <;> assumption
theorem Inv.sm {T M : ZS} (h : Inv M) (e : ∀ q : Nat, q ≤ 18 → T q = M q) : Inv T := by
  have E := fun q (hq : q ≤ 18) => e q hq
  unfold Inv at *
  obtain ⟨a1, a2, a3, a4, a5, a6, a7, a8, a9⟩ := h
  refine ⟨?_, ?_, ?_, ?_, ?_, ?_, ?_, ?_, ?_⟩ <;> (try rw [E 6 (by decide)]) <;> (try rw [E 10 (by decide)]) <;> (try rw [E 11 (by decide)]) <;> (try rw [E 12 (by decide)]) <;> (try rw [E 13 (by decide)]) <;> (try rw [E 14 (by decide)]) <;> (try rw [E 17 (by decide)]) <;> (try rw [E 18 (by decide)]) <;> assumption
/-! no circles -/
theorem anc_m1 {g : Int → Int} : ∀ n : Nat, anc g n (-1) = -1 := by
  intro n
  cases n with
  | zero => rfl
  | succ n => exact if_pos rfl
theorem cnt_le {p q : Int → Prop} {n : Nat} (h : ∀ i : Int, 0 ≤ i → i < n → p i → q i) : cnt p n ≤ cnt q n := by
  induction n with
  | zero => exact Int.le_refl 0
  | succ n ih =>
    have h1 := ih (fun i a b => h i a (by omega))
    show cnt p n + b2 (p n) ≤ cnt q n + b2 (q n)
    have h2 : b2 (p n) ≤ b2 (q n) := by
      by_cases hp : p n
      · rw [b2_t hp, b2_t (h n (by omega) (by omega) hp)]; omega
      · rw [b2_f hp]; exact b2_b.1
    omega
theorem cnt_lt2 {p q : Int → Prop} {n : Nat} (h : ∀ i : Int, 0 ≤ i → i < n → p i → q i) {x : Int} (h0 : 0 ≤ x) (h1 : x < n) (hq : q x) (hp : ¬ p x) : cnt p n + 1 ≤ cnt q n := by
  induction n with
  | zero => exact absurd h1 (by omega)
  | succ n ih =>
    show cnt p n + b2 (p n) + 1 ≤ cnt q n + b2 (q n)
    by_cases hx : x = n
    · subst hx
      rw [b2_f hp, b2_t hq]
      have := cnt_le (n := n) (fun i a b => h i a (by omega))
      omega
    · have h3 := ih (fun i a b => h i a (by omega)) (by omega)
      have h2 : b2 (p n) ≤ b2 (q n) := by
        by_cases hp : p n
        · rw [b2_t hp, b2_t (h n (by omega) (by omega) hp)]; omega
        · rw [b2_f hp]; exact b2_b.1
      omega
def hoP (M : ZS) (b y : Int) : Prop := y < M 11 0 ∧ M 12 y ≠ -1 ∧ M 13 b ≤ M 13 y
theorem acyc_k {M : ZS} (hM : MB M) (h : Inv M) : ∀ (k : Nat) (b : Int), 0 ≤ b → b < M 11 0 → cnt (hoP M b) 20 ≤ k → (M 12 b = -1 → 1 ≤ k) → anc (M 12) (k + 1) b = -1 := by
  have hB : (0 : Int) ≤ M 11 0 ∧ M 11 0 ≤ 20 := hM 11 0
  intro k
  induction k with
  | zero =>
    intro b h0 h1 h2 h3
    have h4 : M 12 b ≠ -1 := fun e => absurd (h3 e) (by decide)
    have h5 := cnt_ltI (hoP M b) h0 (show b < 20 by omega) ⟨h1, h4, Int.le_refl _⟩
    have h6 := cnt_0n (hoP M b) b.toNat
    have e : (20 : Int).toNat = 20 := rfl
    rw [e] at h5
    omega
  | succ k ih =>
    intro b h0 h1 h2 h3
    show (if b = -1 then -1 else anc (M 12) (k + 1) (M 12 b)) = -1
    rw [if_neg (by omega)]
    by_cases c : M 12 b = -1
    · rw [c, anc_m1]
    · have c1 := h.hostB b h0 h1
      have c2 : (-1 : Int) ≤ M 12 b ∧ M 12 b ≤ 19 := hM 12 b
      by_cases c3 : M 12 (M 12 b) = -1
      · show (if M 12 b = -1 then -1 else anc (M 12) k (M 12 (M 12 b))) = -1
        rw [if_neg c, c3, anc_m1]
      · have c4 := h.tim b h0 h1 c c3
        refine ih (M 12 b) (by omega) c1 ?_ (fun e => absurd e c3)
        have c5 := cnt_lt2 (p := hoP M (M 12 b)) (q := hoP M b) (n := 20) (fun i a1 a2 a3 => ⟨a3.1, a3.2.1, by have := a3.2.2; omega⟩) h0 (by omega) ⟨h1, c, Int.le_refl _⟩ (fun h9 => by have := h9.2.2; omega)
        omega
theorem acyc_root {M : ZS} (hM : MB M) (h : Inv M) : ∀ (k : Nat) (b : Int), 0 ≤ b → b < M 11 0 → anc (M 12) k b = -1 → ∃ r : Int, 0 ≤ r ∧ r < M 11 0 ∧ M 12 r = -1 := by
  intro k
  induction k with
  | zero => intro b h0 _ h2; exact absurd h2 (by show ¬ b = -1; omega)
  | succ k ih =>
    intro b h0 h1 h2
    have h2 : (if b = -1 then -1 else anc (M 12) k (M 12 b)) = -1 := h2
    rw [if_neg (by omega)] at h2
    by_cases c : M 12 b = -1
    · exact ⟨b, h0, h1, c⟩
    · have c1 := h.hostB b h0 h1
      have c2 : (-1 : Int) ≤ M 12 b ∧ M 12 b ≤ 19 := hM 12 b
      exact ih (M 12 b) (by omega) c1 h2
theorem Inv.acyc {M : ZS} (hM : MB M) (h : Inv M) {b : Int} (h0 : 0 ≤ b) (h1 : b < M 11 0) : anc (M 12) 20 b = -1 := by
  have hB : (0 : Int) ≤ M 11 0 ∧ M 11 0 ≤ 20 := hM 11 0
  have c1 := cnt_0n (hoP M b) 20
  have c2 := acyc_k hM h 20 b h0 h1 (by omega) (fun _ => by decide)
  obtain ⟨r, r0, r1, r2⟩ := acyc_root hM h 21 b h0 h1 c2
  have c3 := cnt_no (hoP M b) (m := r.toNat) (n := 20) (by omega) (by rw [Int.toNat_of_nonneg r0]; exact fun h9 => h9.2.1 r2)
  exact acyc_k hM h 19 b h0 h1 (by omega) (fun _ => by decide)
theorem Inv.acc {M : ZS} (hM : MB M) (h : Inv M) : accM M := by
  intro k h0 h1 h2
  have h3 : (-1 : Int) ≤ M 10 k ∧ M 10 k ≤ 19 := hM 10 k
  exact h.acyc hM (by omega) (h.ownB k h0 h1)
/-! looks, dates: alike -/
theorem climb_c {f g : Int → Int} {B b : Int} (hfg : ∀ x : Int, 0 ≤ x → x < B → f x = g x ∧ -1 ≤ g x ∧ g x < B) : ∀ (n : Nat) (h : Int), -1 ≤ h → h < B → climb f n h b = climb g n h b := by
  intro n
  induction n with
  | zero => intro h _ _; rfl
  | succ n ih =>
    intro h h0 h1
    show (if h = -1 ∨ h = b then h else climb f n (f h) b) = (if h = -1 ∨ h = b then h else climb g n (g h) b)
    by_cases c : h = -1 ∨ h = b
    · rw [if_pos c, if_pos c]
    · rw [if_neg c, if_neg c]
      have := hfg h (by omega) h1
      rw [this.1]
      exact ih _ this.2.1 this.2.2
theorem host_at {S M : ZS} (hM : MB M) (h : Rel S M) (hi : Inv M) {x : Int} (h0 : 0 ≤ x) (h1 : x < M 11 0) : rAt 20 (S 8) x = M 12 x ∧ -1 ≤ M 12 x ∧ M 12 x < M 11 0 := by
  have hB : (0 : Int) ≤ M 11 0 ∧ M 11 0 ≤ 20 := hM 11 0
  have h3 : (-1 : Int) ≤ M 12 x ∧ M 12 x ≤ 19 := hM 12 x
  rw [rAt_in h0 (by omega), h.host x h0 h1]
  exact ⟨rfl, h3.1, hi.hostB x h0 h1⟩
theorem own_at {S M : ZS} (hM : MB M) (h : Rel S M) {d : Int} (h0 : 0 ≤ d) (h1 : d < M 6 0) : rAt 60 (S 7) d = M 10 d := by
  have hB : (0 : Int) ≤ M 6 0 ∧ M 6 0 ≤ 60 := hM 6 0
  rw [rAt_in h0 (by omega), h.own d h0 h1]
theorem look_iff {S M : ZS} (hM : MB M) (h : Rel S M) (hi : Inv M) {d b : Int} (h0 : 0 ≤ d) (h1 : d < M 6 0) (hb : 0 ≤ b) : climb (rAt 20 (S 8)) 20 (rAt 60 (S 7) d) b = b ↔ (M 10 d ≠ -1 ∧ climb (M 12) 20 (M 10 d) b = b) := by
  have h3 : (-1 : Int) ≤ M 10 d ∧ M 10 d ≤ 19 := hM 10 d
  rw [own_at hM h h0 h1, climb_c (fun x a1 a2 => host_at hM h hi a1 a2) 20 _ h3.1 (hi.ownB d h0 h1)]
  constructor
  · intro h9
    refine ⟨fun e => ?_, h9⟩
    rw [e, climb_s (Or.inl rfl)] at h9
    omega
  · exact fun h9 => h9.2
theorem lk_eq {S M : ZS} (hM : MB M) (h : Rel S M) (hi : Inv M) {b : Int} (hb : 0 ≤ b) : lkC S b = lkM M b := by
  unfold lkC lkM
  rw [h.nD]
  refine List.filter_congr (fun d hd => ?_)
  have hd := rg_mem.mp hd
  exact decide_eq_decide.mpr (look_iff hM h hi (by omega) (by omega) hb)
theorem dat_eq {S M : ZS} (hM : MB M) (h : Rel S M) {d : Int} (h0 : 0 ≤ d) (h1 : d < 60) : datC S d = datM M d := by
  have p0 : (0 : Int) ≤ M 7 d ∧ M 7 d ≤ 29 := hM 7 d
  have p1 : (0 : Int) ≤ M 4 (M 7 d) ∧ M 4 (M 7 d) ≤ 5 := hM 4 _
  have p2 : (0 : Int) ≤ M 8 d ∧ M 8 d ≤ 3599 := hM 8 d
  have e1 : pOf S d = M 7 d := by unfold pOf; rw [rAt_in h0 h1, h.plate d h0 h1]
  have e2 : oOf S d = M 4 (M 7 d) := by unfold oOf; rw [e1, rAt_in p0.1 (by omega), h.seat _ p0.1 (by omega)]
  have e3 : nOf S d = nM M d := by unfold nOf nM; rw [e1, rAt_in p0.1 (by omega), h.night _ p0.1 (by omega)]
  have e4 : eOf S d = eM M d := by unfold eOf eM; rw [e2, rAt_in p1.1 (by omega), h.err _ p1.1 (by omega)]
  have e5 : tOf S d = tM M d := by unfold tOf tM; rw [rAt_in h0 h1, h.place d h0 h1, rAt_in (by omega) (by omega), h.shift _ (by omega) (by omega)]
  unfold datC datM; rw [e3, e4, e5]
theorem dats_eq {S M : ZS} (hM : MB M) (h : Rel S M) {l : List Int} (hl : ∀ d ∈ l, 0 ≤ d ∧ d < 60) : l.map (datC S) = l.map (datM M) := List.map_congr_left (fun d hd => dat_eq hM h (hl d hd).1 (hl d hd).2)
theorem lkM_b {M : ZS} (hM : MB M) {b : Int} : ∀ d ∈ lkM M b, 0 ≤ d ∧ d < 60 := fun d hd => by
  have hB : (0 : Int) ≤ M 6 0 ∧ M 6 0 ≤ 60 := hM 6 0
  have := lkM_mem.mp hd
  exact ⟨this.1, by omega⟩
theorem lkM_ne {M : ZS} (hi : Inv M) {b : Int} (h0 : 0 ≤ b) (h1 : b < M 11 0) : lkM M b ≠ [] := by
  obtain ⟨d, d0, d1, d2⟩ := hi.has b h0 h1
  have hd : d ∈ lkM M b := lkM_mem.mpr ⟨d0, d1, by rw [d2]; omega, by rw [d2]; exact climb_s (Or.inr rfl)⟩
  exact fun e => by rw [e] at hd; cases hd
/-- the dates of a body's looks -/
def dts (M : ZS) (b : Int) : List (Int × Int × Int) := (lkM M b).map (datM M)
def Ak (M : ZS) (b : Int) : Int → Int × Int := fun k => arcL k (dts M b)
theorem dts_ok {M : ZS} (hM : MB M) (b : Int) : ∀ d ∈ dts M b, okD d := fun d hd => by
  obtain ⟨x, _, rfl⟩ := List.mem_map.mp hd
  exact datM_ok (E9.of hM) x
theorem find_arc {S M : ZS} (hM : MB M) (h : Rel S M) (hi : Inv M) {b k : Int} (hb : 0 ≤ b) (g0 : 0 ≤ k) (g1 : k < 405) : arcC (findO b S) k = Ak M b k := by
  rw [findO_arc (by rw [h.nD]; exact (hM 6 0).2) g0 g1, lk_eq hM h hi hb, dats_eq hM h (lkM_b hM)]; rfl
theorem dLooks_lays {M : ZS} {b : Int} : dLooks (laysM b M) = dts M b := by
  rw [dLooks_has laysM_has, datM_sm SM_la]; rfl
