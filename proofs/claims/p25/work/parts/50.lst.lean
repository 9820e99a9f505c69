/-! the mathematics: lists behind loops -/
def rg : Nat → Int → List Int
  | 0, _ => []
  | n + 1, j => j :: rg n (j + 1)
theorem rg_mem : ∀ {n : Nat} {j x : Int}, x ∈ rg n j ↔ j ≤ x ∧ x < j + n := by
  intro n
  induction n with
  | zero => intro j x; simp only [rg, List.not_mem_nil, false_iff]; omega
  | succ n ih => intro j x; simp only [rg, List.mem_cons, ih]; omega
theorem rg_len : ∀ {n : Nat} {j : Int}, (rg n j).length = n := by
  intro n
  induction n with
  | zero => intro j; rfl
  | succ n ih => intro j; simp only [rg, List.length_cons, ih]
theorem rg_get : ∀ {n : Nat} {j : Int} (i : Nat) (h : i < (rg n j).length), (rg n j)[i] = j + i := by
  intro n
  induction n with
  | zero => intro j i h; exact absurd h (by simp [rg])
  | succ n ih =>
    intro j i h
    cases i with
    | zero => simp [rg]
    | succ i =>
      simp only [rg, List.getElem_cons_succ]
      rw [ih]; omega
theorem rg_nodup : ∀ {n : Nat} {j : Int}, (rg n j).Nodup := by
  intro n
  induction n with
  | zero => intro j; exact List.nodup_nil
  | succ n ih => intro j; simp only [rg, List.nodup_cons, rg_mem]; exact ⟨by omega, ih⟩
theorem rg_map {α : Type} {F G : Int → α} : ∀ (n : Nat) (a b : Int), (∀ i : Int, 0 ≤ i → i < n → F (a + i) = G (b + i)) → (rg n a).map F = (rg n b).map G := by
  intro n
  induction n with
  | zero => intro a b _; rfl
  | succ n ih =>
    intro a b h
    simp only [rg, List.map_cons]
    have h0 := h 0 (by omega) (by omega)
    simp only [Int.add_zero] at h0
    rw [h0, ih (a + 1) (b + 1) (fun i h1 h2 => by rw [Int.add_assoc, Int.add_assoc]; exact h (1 + i) (by omega) (by omega))]
theorem itr_rg {σ : Type} (f : Int → σ → σ) : ∀ (n : Nat) (j : Int) (s : σ), itr f n j s = (rg n j).foldl (fun s i => f i s) s := by
  intro n
  induction n with
  | zero => intro j s; rfl
  | succ n ih => intro j s; rw [itr_s, ih]; rfl
theorem itr_add {σ : Type} (f : Int → σ → σ) (n : Nat) : ∀ (m : Nat) (j : Int) (s : σ), itr f (m + n) j s = itr f n (j + m) (itr f m j s) := by
  intro m
  induction m with
  | zero => intro j s; rw [Nat.zero_add, itr_0, show j + ((0 : Nat) : Int) = j by omega]
  | succ m ih => intro j s; rw [Nat.add_right_comm, itr_s, ih, itr_s, show j + ((m + 1 : Nat) : Int) = j + 1 + (m : Int) by omega]
/-- a loop with what holds in it, its bounds known -/
theorem itr1 {σ : Type} {f : Int → σ → σ} (P : Int → σ → Prop) : ∀ (n : Nat) (j : Int) (s : σ), (∀ (i : Int) (s : σ), j ≤ i → i < j + n → P i s → P (i + 1) (f i s)) → P j s → P (j + n) (itr f n j s) := by
  intro n
  induction n with
  | zero => intro j s _ h; rw [itr_0, show j + ((0 : Nat) : Int) = j by omega]; exact h
  | succ n ih =>
    intro j s hs h
    rw [itr_s, show j + ((n + 1 : Nat) : Int) = j + 1 + (n : Int) by omega]
    exact ih (j + 1) (f j s) (fun i t h1 h2 => hs i t (by omega) (by omega)) (hs j s (by omega) (by omega) h)
theorem itr2 {σ τ : Type} {f : Int → σ → σ} {g : Int → τ → τ} (P : Int → σ → τ → Prop) : ∀ (n : Nat) (j : Int) (s : σ) (t : τ), (∀ (i : Int) (s : σ) (t : τ), j ≤ i → i < j + n → P i s t → P (i + 1) (f i s) (g i t)) → P j s t → P (j + n) (itr f n j s) (itr g n j t) := by
  intro n
  induction n with
  | zero => intro j s t _ h; rw [itr_0, itr_0, show j + ((0 : Nat) : Int) = j by omega]; exact h
  | succ n ih =>
    intro j s t hs h
    rw [itr_s, itr_s, show j + ((n + 1 : Nat) : Int) = j + 1 + (n : Int) by omega]
    exact ih (j + 1) (f j s) (g j t) (fun i s t h1 h2 => hs i s t (by omega) (by omega)) (hs j s t (by omega) (by omega) h)
/-- of n rounds those from x on, w many, do g, the others nothing -/
theorem itr_seg {σ : Type} {f g : Int → σ → σ} (Q : σ → Prop) (hQ : ∀ i s, Q s → Q (g i s)) {n x w : Nat} {j : Int} (h : x + w ≤ n) (h1 : ∀ i s, Q s → j + x ≤ i → i < j + x + w → f i s = g i s) (h0 : ∀ i s, Q s → j ≤ i → i < j + n → (i < j + x ∨ j + x + w ≤ i) → f i s = s) {s : σ} (hs : Q s) : itr f n j s = itr g w (j + x) s := by
  obtain ⟨r, rfl⟩ : ∃ r, n = x + w + r := ⟨n - (x + w), by omega⟩
  rw [itr_add, itr_add]
  have e1 : itr f x j s = s := itr1 (fun _ t => t = s) x j s (fun i t a b e => by rw [e]; exact h0 i s hs a (by omega) (Or.inl b)) rfl
  have e2 := itr2 (f := f) (g := g) (fun _ t u => t = u ∧ Q u) w (j + x) s s (fun i t u a b e => ⟨by rw [e.1]; exact h1 i u e.2 a b, hQ i u e.2⟩) ⟨rfl, hs⟩
  rw [e1, e2.1]
  have e3 : itr f r (j + (x + w : Nat)) (itr g w (j + x) s) = itr g w (j + x) s := itr1 (fun _ t => t = itr g w (j + x) s) r _ _ (fun i t a b e => by rw [e]; exact h0 i _ e2.2 (by omega) (by omega) (Or.inr (by omega))) rfl
  exact e3
/-- a loop whose rounds are lists' folds -/
theorem itr_flat {σ α : Type} {f : Int → σ → σ} {a : σ → α → σ} {h : Int → List α} (Q : σ → Prop) (hQ : ∀ s x, Q s → Q (a s x)) : ∀ (n : Nat) (j : Int) (s : σ), (∀ k s, Q s → j ≤ k → k < j + n → f k s = (h k).foldl a s) → Q s → itr f n j s = ((rg n j).flatMap h).foldl a s := by
  have hF : ∀ (l : List α) (s : σ), Q s → Q (l.foldl a s) := by
    intro l
    induction l with
    | nil => intro s hs; exact hs
    | cons x l ih => intro s hs; exact ih _ (hQ s x hs)
  intro n
  induction n with
  | zero => intro j s _ _; rfl
  | succ n ih =>
    intro j s hf hs
    rw [itr_s, hf j s hs (by omega) (by omega), ih (j + 1) _ (fun k s h1 h2 h3 => hf k s h1 (by omega) (by omega)) (hF _ _ hs)]
    simp only [rg, List.flatMap_cons, List.foldl_append]
theorem itr_map {σ α : Type} (a : σ → α → σ) (x : Int → α) : ∀ (n : Nat) (j : Int) (s : σ), itr (fun i s => a s (x i)) n j s = ((rg n j).map x).foldl a s := by
  intro n
  induction n with
  | zero => intro j s; rfl
  | succ n ih => intro j s; rw [itr_s, ih]; rfl
/-- a loop over a row that holds a list -/
theorem itr_list {σ α : Type} (a : σ → α → σ) (c : Int → α) : ∀ (l : List α) (j : Int) (s : σ), (∀ (i : Nat) (h : i < l.length), c (j + i) = l[i]) → itr (fun i s => a s (c i)) l.length j s = l.foldl a s := by
  intro l
  induction l with
  | nil => intro j s _; rfl
  | cons x l ih =>
    intro j s h
    have h0 := h 0 (by simp)
    simp only [List.getElem_cons_zero] at h0
    rw [List.length_cons, itr_s, List.foldl_cons, ih (j + 1) _ (fun i hi => by
      have := h (i + 1) (by simp; omega)
      simp only [List.getElem_cons_succ] at this
      rw [← this]; congr 1; omega)]
    rw [show c j = x by rw [← h0]; congr 1; omega]
theorem any_iff {p : Int → Prop} : ∀ {n : Nat} {j : Int}, anyI p n j ↔ ∃ i : Int, j ≤ i ∧ i < j + n ∧ p i := by
  intro n
  induction n with
  | zero => intro j; exact ⟨fun h => h.elim, fun ⟨i, h1, h2, _⟩ => absurd h1 (by omega)⟩
  | succ n ih =>
    intro j
    constructor
    · rintro (h | h)
      · exact ⟨j, by omega, by omega, h⟩
      · obtain ⟨i, h1, h2, h3⟩ := ih.mp h
        exact ⟨i, by omega, by omega, h3⟩
    · rintro ⟨i, h1, h2, h3⟩
      rcases Int.lt_or_eq_of_le h1 with h4 | h4
      · exact Or.inr (ih.mpr ⟨i, by omega, by omega, h3⟩)
      · exact Or.inl (by rw [h4]; exact h3)
/-! arcs of places -/
def arcS (k : Int) (q : Int × Int) (d : Int × Int × Int) : Int × Int := (if q.2 = 3600 ∨ (stC d.1 d.2.1 d.2.2 k - q.1) % 3600 < q.2 then stC d.1 d.2.1 d.2.2 k else q.1, shW q.2 ((stC d.1 d.2.1 d.2.2 k - q.1) % 3600) (2 * d.2.2 + 1))
def arcL (k : Int) (L : List (Int × Int × Int)) : Int × Int := L.foldl (arcS k) (0, 3600)
def inA (q : Int × Int) (a : Int) : Prop := (a - q.1) % 3600 < q.2
def nearD (k a : Int) (d : Int × Int × Int) : Prop := (a - stC d.1 d.2.1 d.2.2 k) % 3600 < 2 * d.2.2 + 1
def okD (d : Int × Int × Int) : Prop := 0 ≤ d.2.1 ∧ d.2.1 ≤ 3599 ∧ 0 ≤ d.2.2 ∧ d.2.2 ≤ 9
def okA (q : Int × Int) : Prop := 0 ≤ q.1 ∧ q.1 < 3600 ∧ 0 ≤ q.2 ∧ (q.2 = 3600 ∨ q.2 ≤ 19)
theorem arcS_ok {k : Int} {q : Int × Int} {d : Int × Int × Int} (hq : okA q) (hd : okD d) : okA (arcS k q d) ∧ (arcS k q d).2 ≤ 19 ∧ ∀ a, (inA (arcS k q d) a ↔ inA q a ∧ nearD k a d) := by
  obtain ⟨s, w⟩ := q
  obtain ⟨n, p, e⟩ := d
  unfold okA okD at *
  simp only at hq hd
  have h1 : 0 ≤ stC n p e k ∧ stC n p e k < 3600 := by unfold stC; omega
  unfold arcS inA nearD
  simp only
  generalize stC n p e k = st at *
  unfold shW
  by_cases c1 : w = 3600
  · simp only [c1, true_or, if_true]
    refine ⟨by omega, by omega, fun a => by omega⟩
  · by_cases c2 : (st - s) % 3600 < w
    · simp only [c1, c2, or_true, if_true, if_false]
      refine ⟨by omega, by omega, fun a => by omega⟩
    · simp only [c1, c2, or_false, if_false]
      refine ⟨by omega, by omega, fun a => by omega⟩
theorem arcL_ok' {k : Int} : ∀ (L : List (Int × Int × Int)) (q : Int × Int), (∀ d ∈ L, okD d) → okA q → okA (L.foldl (arcS k) q) ∧ (L ≠ [] ∨ q.2 ≤ 19 → (L.foldl (arcS k) q).2 ≤ 19) ∧ ∀ a, (inA (L.foldl (arcS k) q) a ↔ inA q a ∧ ∀ d ∈ L, nearD k a d) := by
  intro L
  induction L with
  | nil => intro q _ hq; exact ⟨hq, fun h => h.elim (fun h => absurd rfl h) id, fun a => ⟨fun h => ⟨h, fun d hd => nomatch hd⟩, fun h => h.1⟩⟩
  | cons d L ih =>
    intro q hd hq
    have h1 := arcS_ok (k := k) hq (hd d (List.mem_cons_self))
    obtain ⟨h2, h3, h4⟩ := ih (arcS k q d) (fun d' h => hd d' (List.mem_cons_of_mem _ h)) h1.1
    rw [List.foldl_cons]
    refine ⟨h2, fun _ => h3 (Or.inr h1.2.1), fun a => ?_⟩
    rw [h4 a, h1.2.2 a]
    constructor
    · rintro ⟨⟨a1, a2⟩, a3⟩
      exact ⟨a1, fun d' h => (List.mem_cons.mp h).elim (fun e => e ▸ a2) (a3 d')⟩
    · rintro ⟨a1, a2⟩
      exact ⟨⟨a1, a2 d List.mem_cons_self⟩, fun d' h => a2 d' (List.mem_cons_of_mem _ h)⟩
theorem arcL_ok {k : Int} {L : List (Int × Int × Int)} (hd : ∀ d ∈ L, okD d) : okA (arcL k L) ∧ (L ≠ [] → (arcL k L).2 ≤ 19) ∧ ∀ a, (inA (arcL k L) a ↔ ∀ d ∈ L, nearD k a d) := by
  obtain ⟨h1, h2, h3⟩ := arcL_ok' (k := k) L (0, 3600) hd (by unfold okA; decide)
  refine ⟨h1, fun h => h2 (Or.inl h), fun a => ?_⟩
  unfold arcL
  rw [h3 a]
  exact ⟨fun h => h.2, fun h => ⟨by unfold inA; simp only; omega, h⟩⟩
