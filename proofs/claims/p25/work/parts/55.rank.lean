/-! the orbit at a rank: by halves, or by the tallies -/
def below (l : List Int) (y : Int) : Int := l.countP (fun x => decide (x < y))
theorem below_mono (l : List Int) {u v : Int} (h : u ≤ v) : below l u ≤ below l v := by
  unfold below
  have := List.countP_mono_left (l := l) (p := fun x => decide (x < u)) (q := fun x => decide (x < v)) (fun x _ hx => decide_eq_true (by have := of_decide_eq_true hx; omega))
  omega
theorem below_add (l : List Int) {u v : Int} (h : u ≤ v) : below l v = below l u + (l.countP (fun x => decide (u ≤ x ∧ x < v)) : Int) := by
  unfold below
  induction l with
  | nil => simp
  | cons x l ih =>
    rw [List.countP_cons, List.countP_cons, List.countP_cons]
    by_cases c1 : x < u
    · rw [if_pos (decide_eq_true (show x < v by omega)), if_pos (decide_eq_true c1), if_neg (fun h9 => by have := of_decide_eq_true h9; omega)]; omega
    · by_cases c2 : x < v
      · rw [if_pos (decide_eq_true c2), if_neg (fun h9 => c1 (of_decide_eq_true h9)), if_pos (decide_eq_true (show u ≤ x ∧ x < v by omega))]; omega
      · rw [if_neg (fun h9 => c2 (of_decide_eq_true h9)), if_neg (fun h9 => c1 (of_decide_eq_true h9)), if_neg (fun h9 => c2 (of_decide_eq_true h9).2)]; omega
theorem below_0 {l : List Int} {y : Int} (h : ∀ x ∈ l, y ≤ x) : below l y = 0 := by
  unfold below
  have : l.countP (fun x => decide (x < y)) = 0 := List.countP_eq_zero.mpr (fun x hx h9 => by have := h x hx; have := of_decide_eq_true h9; omega)
  omega
theorem below_all {l : List Int} {y : Int} (h : ∀ x ∈ l, x < y) : below l y = l.length := by
  unfold below
  have : l.countP (fun x => decide (x < y)) = l.length := List.countP_eq_length.mpr (fun x hx => decide_eq_true (h x hx))
  omega
theorem cle_below {T : ZS} {l : List Int} (h : hasR 22 21 T l) (x : Int) : cle T x = below l (x + 1) := by
  unfold cle
  rw [h.1, Int.toNat_natCast]
  have h3 := itr_list (fun (acc : Int) y => if y ≤ x then acc + 1 else acc) (fun k => T 22 k) l 0 0 (fun i hi => by rw [Int.zero_add]; exact h.2 i hi)
  rw [h3]
  have h4 : ∀ (l : List Int) (a : Int), l.foldl (fun (acc : Int) y => if y ≤ x then acc + 1 else acc) a = a + below l (x + 1) := by
    intro l
    unfold below
    induction l with
    | nil => intro a; simp
    | cons y l ih =>
      intro a
      rw [List.foldl_cons, ih, List.countP_cons]
      by_cases c : y ≤ x
      · rw [if_pos c, if_pos (decide_eq_true (show y < x + 1 by omega))]; omega
      · rw [if_neg c, if_neg (fun h9 => by have := of_decide_eq_true h9; omega)]; omega
  rw [h4]; omega
theorem kaR_spec {T : ZS} {l : List Int} (hl : hasR 22 21 T l) {r y : Int} (hy : below l y ≤ r) (hy2 : r < below l (y + 1)) : ∀ (n : Nat) (low high : Int), low ≤ y → y ≤ high → high - low < 2 ^ n → kaR T r n low high = y := by
  intro n
  induction n with
  | zero =>
    intro low high h1 h2 h3
    have h3 : high - low < 1 := h3
    show low = y
    omega
  | succ n ih =>
    intro low high h1 h2 h3
    show (if low < high then (if r < cle T ((low + high) / 2) then kaR T r n low ((low + high) / 2) else kaR T r n ((low + high) / 2 + 1) high) else low) = y
    have e : (2 : Int) ^ (n + 1) = 2 * 2 ^ n := by rw [Int.pow_succ]; omega
    rw [e] at h3
    by_cases c : low < high
    · rw [if_pos c, cle_below hl]
      by_cases c2 : r < below l ((low + high) / 2 + 1)
      · rw [if_pos c2]
        refine ih _ _ h1 ?_ (by omega)
        rcases Int.lt_or_le ((low + high) / 2) y with h9 | h9
        · have := below_mono l (show (low + high) / 2 + 1 ≤ y by omega)
          omega
        · exact h9
      · rw [if_neg c2]
        refine ih _ _ ?_ h2 (by omega)
        rcases Int.lt_or_le ((low + high) / 2) y with h9 | h9
        · omega
        · have := below_mono l (show y + 1 ≤ (low + high) / 2 + 1 by omega)
          omega
    · rw [if_neg c]; omega
/-! how often a key stands in the list: once, or not -/
theorem cp_rg {s a : Int} (h0 : 0 ≤ a) (h1 : a < 3600) : ∀ (n : Nat) (j : Int), 0 ≤ j → j + n ≤ 3600 → (rg n j).countP (fun i => decide ((s + i) % 3600 = a)) = if j ≤ (a - s) % 3600 ∧ (a - s) % 3600 < j + n then 1 else 0 := by
  intro n
  induction n with
  | zero => intro j _ _; rw [if_neg (by omega)]; rfl
  | succ n ih =>
    intro j g0 g1
    rw [rg, List.countP_cons, ih (j + 1) (by omega) (by omega)]
    by_cases c : (s + j) % 3600 = a
    · rw [if_pos (decide_eq_true c), if_neg (by omega), if_pos (by omega)]
    · rw [if_neg (fun h9 => c (of_decide_eq_true h9))]
      by_cases c2 : j + 1 ≤ (a - s) % 3600 ∧ (a - s) % 3600 < j + 1 + n
      · rw [if_pos c2, if_pos (by omega)]
      · rw [if_neg c2, if_neg (by omega)]
theorem cp_flat {α : Type} {h : Int → List α} {p : α → Bool} {k : Int} : ∀ (n : Nat) (j : Int), (∀ i : Int, j ≤ i → i < j + n → i ≠ k → (h i).countP p = 0) → ((rg n j).flatMap h).countP p = if j ≤ k ∧ k < j + n then (h k).countP p else 0 := by
  intro n
  induction n with
  | zero => intro j _; rw [if_neg (by omega)]; rfl
  | succ n ih =>
    intro j hz
    rw [rg, List.flatMap_cons, List.countP_append, ih (j + 1) (fun i a b c => hz i (by omega) (by omega) c)]
    by_cases c : j = k
    · subst c
      rw [if_neg (by omega), if_pos (by omega)]; omega
    · rw [hz j (by omega) (by omega) c]
      by_cases c2 : j + 1 ≤ k ∧ k < j + 1 + n
      · rw [if_pos c2, if_pos (by omega)]; omega
      · rw [if_neg c2, if_neg (by omega)]
theorem cp_ens {A : Int → Int × Int} (hA : ∀ k : Int, okA (A k)) {a k : Int} (h0 : 0 ≤ a) (h1 : a < 3600) (g0 : 0 ≤ k) (g1 : k < 405) : (ens A).countP (fun x => decide (x = 405 * a + k)) = if (a - (A k).1) % 3600 < (A k).2 then 1 else 0 := by
  unfold ens
  rw [cp_flat (k := k) 405 0 (fun i a1 a2 a3 => List.countP_eq_zero.mpr (fun x hx h9 => by
    have h9 := of_decide_eq_true h9
    unfold ens1 at hx
    obtain ⟨j, _, rfl⟩ := List.mem_map.mp hx
    omega)), if_pos ⟨g0, by omega⟩]
  unfold ens1
  rw [List.countP_map]
  have hk := hA k
  unfold okA at hk
  have e : (fun x => decide (x = 405 * a + k)) ∘ (fun j => 405 * (((A k).1 + j) % 3600) + k) = fun j => decide (((A k).1 + j) % 3600 = a) := by
    funext j
    show decide (405 * (((A k).1 + j) % 3600) + k = 405 * a + k) = decide (((A k).1 + j) % 3600 = a)
    exact decide_eq_decide.mpr (by omega)
  rw [e, cp_rg h0 h1 _ 0 (by decide) (by omega)]
  by_cases c : (a - (A k).1) % 3600 < (A k).2
  · rw [if_pos c, if_pos (by omega)]
  · rw [if_neg c, if_neg (by omega)]
theorem ens_b {A : Int → Int × Int} : ∀ x ∈ ens A, 0 ≤ x ∧ x < 1458000 := fun x hx => by
  obtain ⟨k, j, h1, h2, h3, h4, rfl⟩ := ens_mem.mp hx
  omega
theorem below_1 {A : Int → Int × Int} (hA : ∀ k : Int, okA (A k)) {a k : Int} (h0 : 0 ≤ a) (h1 : a < 3600) (g0 : 0 ≤ k) (g1 : k < 405) : below (ens A) (405 * a + k + 1) = below (ens A) (405 * a + k) + if (a - (A k).1) % 3600 < (A k).2 then 1 else 0 := by
  rw [below_add (ens A) (show 405 * a + k ≤ 405 * a + k + 1 by omega), List.countP_congr (q := fun x => decide (x = 405 * a + k)) (fun x _ => by rw [decide_eq_true_iff, decide_eq_true_iff]; omega), cp_ens hA h0 h1 g0 g1]
  split <;> rfl
theorem often_0 {A : Int → Int × Int} {a : Int} (h0 : 0 ≤ a) (h1 : a < 3600) : below (ens A) (405 * (a + 1)) = below (ens A) (405 * a) + often (ens A) 0 a := by
  rw [below_add (ens A) (show 405 * a ≤ 405 * (a + 1) by omega)]
  unfold often
  rw [List.countP_congr (q := fun x => decide (plM x 0 = a)) (fun x hx => by
    obtain ⟨k, j, c1, c2, c3, c4, rfl⟩ := ens_mem.mp hx
    rw [decide_eq_true_iff, decide_eq_true_iff, plM_key (by omega) (by omega) c1 c2]
    have e : dC k 0 = 0 := by unfold dC; rw [Int.mul_zero, Int.zero_mul, show (0 : Int) / 2 = 0 by decide, Int.mul_zero]; rfl
    rw [e]; omega)]
theorem nth_spec {A : Int → Int × Int} (hA : ∀ k : Int, okA (A k)) {p : Int → Prop} [DecidablePred p] {a : Int} (h0 : 0 ≤ a) (h1 : a < 3600) (hp : ∀ k : Int, 0 ≤ k → k < 405 → (p k ↔ (a - (A k).1) % 3600 < (A k).2)) : ∀ (n : Nat) (j r : Int), 0 ≤ j → j + n = 405 → 0 ≤ r → r + below (ens A) (405 * a + j) < below (ens A) (405 * (a + 1)) → 0 ≤ nthC p 0 n j r ∧ nthC p 0 n j r < 405 ∧ below (ens A) (405 * a + nthC p 0 n j r) = r + below (ens A) (405 * a + j) ∧ below (ens A) (405 * a + nthC p 0 n j r + 1) = r + below (ens A) (405 * a + j) + 1 := by
  intro n
  induction n with
  | zero =>
    intro j r g0 g1 g2 g3
    rw [show 405 * a + j = 405 * (a + 1) by omega] at g3
    omega
  | succ n ih =>
    intro j r g0 g1 g2 g3
    have e : nthC p 0 (n + 1) j r = if p j then (if r = 0 then j else nthC p 0 n (j + 1) (r - 1)) else nthC p 0 n (j + 1) r := rfl
    have h9 := below_1 hA h0 h1 g0 (show j < 405 by omega)
    rw [e]
    by_cases c : p j
    · rw [if_pos ((hp j g0 (by omega)).mp c)] at h9
      rw [if_pos c]
      by_cases c2 : r = 0
      · rw [if_pos c2]
        exact ⟨g0, by omega, by omega, by omega⟩
      · rw [if_neg c2]
        have := ih (j + 1) (r - 1) (by omega) (by omega) (by omega) (by rw [← Int.add_assoc]; omega)
        rw [← Int.add_assoc] at this
        exact ⟨this.1, this.2.1, by omega, by omega⟩
    · rw [if_neg (fun h8 => c ((hp j g0 (by omega)).mpr h8))] at h9
      rw [if_neg c]
      have := ih (j + 1) r (by omega) (by omega) g2 (by rw [← Int.add_assoc]; omega)
      rw [← Int.add_assoc] at this
      exact ⟨this.1, this.2.1, by omega, by omega⟩
theorem oat_spec {T : ZS} {A : Int → Int × Int} (hA : ∀ k : Int, okA (A k)) (hT : ∀ k : Int, 0 ≤ k → k < 405 → arcC T k = A k) (h15 : ∀ p : Int, 0 ≤ p → p < 3600 → rAt 3600 (T 15) p = often (ens A) 0 p) : ∀ (n : Nat) (a r : Int), 0 ≤ a → a + n = 3600 → 0 ≤ r → r + below (ens A) (405 * a) < (ens A).length → 0 ≤ oatC T n a r ∧ oatC T n a r ≤ 1457999 ∧ below (ens A) (oatC T n a r) = r + below (ens A) (405 * a) ∧ below (ens A) (oatC T n a r + 1) = r + below (ens A) (405 * a) + 1 := by
  intro n
  induction n with
  | zero =>
    intro a r g0 g1 g2 g3
    have := below_all (l := ens A) (y := 405 * a) (fun x hx => by have := ens_b x hx; omega)
    omega
  | succ n ih =>
    intro a r g0 g1 g2 g3
    have e : oatC T (n + 1) a r = if r < rAt 3600 (T 15) a then a * 405 + withA T a r else oatC T n (a + 1) (r - rAt 3600 (T 15) a) := rfl
    rw [e, h15 a g0 (by omega)]
    have h9 := often_0 (A := A) g0 (show a < 3600 by omega)
    by_cases c : r < often (ens A) 0 a
    · rw [if_pos c]
      have h8 := nth_spec hA (p := fun k => behC T k a < rAt 405 (T 14) k) g0 (show a < 3600 by omega) (fun k k0 k1 => by
        have h7 := hT k k0 k1
        unfold behC
        rw [← h7]; exact Iff.rfl) 405 0 r (by decide) (by decide) g2 (by rw [Int.add_zero]; omega)
      unfold withA
      rw [Int.add_zero] at h8
      rw [Int.mul_comm a 405]
      exact ⟨by omega, by omega, h8.2.2⟩
    · rw [if_neg c]
      have := ih (a + 1) (r - often (ens A) 0 a) (by omega) (by omega) (by omega) (by omega)
      exact ⟨this.1, this.2.1, by omega, by omega⟩
theorem tlAll_arc {n k : Int} {S : ZS} : arcC (tlAll n S) k = arcC S k := by
  have h : ∀ q : Nat, q ≠ 15 → tlAll n S q = S q := fun q hq => by
    rw [tlAll, itr_keep (fun j s => by rw [tlRow]; exact itr_keep (fun j2 s2 => by rw [tlStep]; exact su_n _ _ hq) _ _ _)]
    exact su_n _ _ hq
  unfold arcC
  rw [h 13 (by decide), h 14 (by decide)]
theorem orbit_eq {S M T : ZS} (hM : MB M) (h : Rel S M) (hi : Inv M) {b r : Int} (h0 : 0 ≤ b) (h1 : b < M 11 0) (hT : hasR 22 21 T (kE M b)) (r0 : 0 ≤ r) (r1 : r < (kE M b).length) : kaR T r 21 0 1457999 = oatC (tlAll 0 (findO b S)) 3600 0 r := by
  have hA : ∀ k : Int, okA (Ak M b k) := Ak_ok hM b
  have hz : below (ens (Ak M b)) (405 * 0) = 0 := below_0 (fun x hx => by have := ens_b x hx; omega)
  have h2 := oat_spec (T := tlAll 0 (findO b S)) hA (fun k a c => by rw [tlAll_arc]; exact find_arc hM h hi h0 a c) (fun p a c => tlAll_at (fun k a c => find_arc hM h hi h0 a c) a c) 3600 0 r (by decide) (by decide) r0 (by rw [hz]; unfold kE at r1; omega)
  rw [hz] at h2
  exact kaR_spec hT (y := oatC (tlAll 0 (findO b S)) 3600 0 r) (by unfold kE; omega) (by unfold kE; omega) 21 0 1457999 (by omega) (by omega) (by decide)
