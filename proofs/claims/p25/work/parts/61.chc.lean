/-! chances: what the class counts -/
def lnk (g : Int → Int) : Int → List Int → Prop
  | j, [] => j = -1
  | j, x :: L => j = x ∧ x ≠ -1 ∧ lnk g (g x) L
theorem lnk_c {g h : Int → Int} : ∀ (L : List Int) (j : Int), (∀ x ∈ L, h x = g x) → lnk g j L → lnk h j L := by
  intro L
  induction L with
  | nil => intro j _ h1; exact h1
  | cons x L ih =>
    intro j hx h1
    refine ⟨h1.1, h1.2.1, ?_⟩
    rw [hx x List.mem_cons_self]
    exact ih _ (fun y hy => hx y (List.mem_cons_of_mem _ hy)) h1.2.2
def nuP (l : List Int) (f n c : Int) : Prop := ∃ x ∈ l, phi f n x = c ∧ isNP x f n
noncomputable def nuB (l : List Int) (f n c : Int) : Bool := @decide (nuP l f n c) (Classical.propDecidable _)
theorem nuB_iff {l : List Int} {f n c : Int} : nuB l f n c = true ↔ nuP l f n c := @decide_eq_true_iff (nuP l f n c) (Classical.propDecidable _)
theorem nuB_key {l : List Int} {f n x : Int} (hn : 1 ≤ n) (hl : ∀ y ∈ l, kyP y) (hx : x ∈ l) : nuB l f n (phi f n x) = true ↔ isNP x f n := by
  rw [nuB_iff]
  constructor
  · rintro ⟨y, hy, e, h⟩; exact (near_phi hn (hl y hy) (hl x hx) e).mp h
  · intro h; exact ⟨x, hx, rfl, h⟩
/-- while the group g is counted: V the codes counted, Pr the keys seen -/
def CS (l : List Int) (f n g : Int) (T : ZS) (V Pr : List Int) : Prop := T 27 0 = V.length ∧ T 28 0 = (V.filter (nuB l f n)).length ∧ V.Nodup ∧ (∀ c, c ∈ V ↔ ∃ x ∈ Pr, phi f n x = c) ∧ (∀ p : Int, 0 ≤ p → p < 3600 → (T 18 p = g ↔ 3600 * g + p ∈ V)) ∧ (∀ p : Int, 0 ≤ p → p < 3600 → T 18 p ≤ g) ∧ ∀ c ∈ V, c < 3600 * (g + 1)
theorem ccStep_CS {l : List Int} {f n g fi st x : Int} {bs : Int64} {T : ZS} {V Pr : List Int} (hn : 1 ≤ n) (hl : ∀ y ∈ l, kyP y) (hx : x ∈ l) (hp : phi f n x = 3600 * g + (fi + st) % 3600) (hb : nbit bs st = b2 (isNP x f n)) (h : CS l f n g T V Pr) : ∃ V', CS l f n g (ccStep bs fi g st T) V' (x :: Pr) := by
  obtain ⟨h1, h2, h3, h4, h5, h6, h7⟩ := h
  have p0 : 0 ≤ (fi + st) % 3600 := by omega
  have p1 : (fi + st) % 3600 < 3600 := by omega
  unfold ccStep
  rw [rAt_in p0 p1]
  by_cases c : T 18 ((fi + st) % 3600) = g
  · rw [if_pos c]
    have hv := (h5 _ p0 p1).mp c
    refine ⟨V, h1, h2, h3, fun c9 => ?_, h5, h6, h7⟩
    rw [h4]
    constructor
    · rintro ⟨y, hy, e⟩; exact ⟨y, List.mem_cons_of_mem _ hy, e⟩
    · rintro ⟨y, hy, e⟩
      rcases List.mem_cons.mp hy with rfl | hy
      · rw [← e, hp]; exact (h4 _).mp hv
      · exact ⟨y, hy, e⟩
  · rw [if_neg c]
    have hv : ¬ 3600 * g + (fi + st) % 3600 ∈ V := fun h9 => c ((h5 _ p0 p1).mpr h9)
    unfold ccPut
    have e18 : ∀ q, su (su (su T 18 (rPut 3600 (T 18) ((fi + st) % 3600) g)) 27 (fun _ => T 27 0 + 1)) 28 (fun _ => T 28 0 + nbit bs st) 18 q = up (T 18) ((fi + st) % 3600) g q := fun q => by
      rw [su_n _ _ (by decide), su_n _ _ (by decide), su_s, rPut_in p0 p1]
    refine ⟨(3600 * g + (fi + st) % 3600) :: V, ?_, ?_, List.nodup_cons.mpr ⟨hv, h3⟩, fun c9 => ?_, fun p q0 q1 => ?_, fun p q0 q1 => ?_, fun c9 hc => ?_⟩
    · rw [su_n _ _ (by decide), su_s, h1, List.length_cons]; omega
    · rw [su_s, h2, List.filter_cons, hb, ← hp]
      by_cases c2 : isNP x f n
      · rw [b2_t c2, if_pos ((nuB_key hn hl hx).mpr c2), List.length_cons]; omega
      · rw [b2_f c2, if_neg (fun h9 => c2 ((nuB_key hn hl hx).mp h9))]; omega
    · rw [List.mem_cons, h4]
      constructor
      · rintro (e | ⟨y, hy, e⟩)
        · exact ⟨x, List.mem_cons_self, by rw [hp, e]⟩
        · exact ⟨y, List.mem_cons_of_mem _ hy, e⟩
      · rintro ⟨y, hy, e⟩
        rcases List.mem_cons.mp hy with rfl | hy
        · exact Or.inl (by rw [← e, hp])
        · exact Or.inr ⟨y, hy, e⟩
    · rw [e18, List.mem_cons]
      by_cases c2 : p = (fi + st) % 3600
      · subst c2; rw [up_s]; exact ⟨fun _ => Or.inl rfl, fun _ => rfl⟩
      · rw [up_n _ _ c2, h5 p q0 q1]
        exact ⟨Or.inr, fun h9 => h9.elim (fun e => absurd e (by omega)) id⟩
    · rw [e18]
      by_cases c2 : p = (fi + st) % 3600
      · subst c2; rw [up_s]; omega
      · rw [up_n _ _ c2]; exact h6 p q0 q1
    · rcases List.mem_cons.mp hc with rfl | hc
      · omega
      · exact h7 c9 hc
theorem ccAll_CS {A : Int → Int × Int} (hA : ∀ k : Int, okA (A k)) {f n g k : Int} {T : ZS} {V Pr : List Int} (hn : 1 ≤ n) (k0 : 0 ≤ k) (k1 : k < 405) (h19 : (A k).2 ≤ 19) (hT : arcC T k = A k) (hg : gOf k f n = g) (h : CS (ens A) f n g T V Pr) : ∃ V' Pr', CS (ens A) f n g (ccAll k g f n T) V' Pr' ∧ ∀ y, y ∈ Pr' ↔ y ∈ ens1 k (A k) ∨ y ∈ Pr := by
  have e1 : rAt 405 (T 13) k = (A k).1 := by rw [← hT]; rfl
  have e2 : rAt 405 (T 14) k = (A k).2 := by rw [← hT]; rfl
  have ok := hA k
  unfold okA at ok
  unfold ccAll
  rw [e1, e2]
  have h9 := itr1 (f := ccStep (nbC k (A k).1 f n) ((A k).1 + dC k f) g) (fun st T' => ∃ V' Pr', CS (ens A) f n g T' V' Pr' ∧ ∀ y, y ∈ Pr' ↔ (∃ j : Int, 0 ≤ j ∧ j < st ∧ y = 405 * (((A k).1 + j) % 3600) + k) ∨ y ∈ Pr) (A k).2.toNat 0 T (fun st T' a0 a1 e => by
    obtain ⟨V', Pr', e3, e4⟩ := e
    have hx : 405 * (((A k).1 + st) % 3600) + k ∈ ens A := ens_mem.mpr ⟨k, st, k0, k1, a0, by omega, rfl⟩
    have hb : nbit (nbC k (A k).1 f n) st = b2 (isNP (405 * (((A k).1 + st) % 3600) + k) f n) := by
      rw [nbit_eq a0 (by omega)]
      have h8 := near_bit (k := k) (a := (A k).1) (f := f) (n := n) (by omega) ok.1 ok.2.1 k0 k1 (st := st.toNat) (by omega)
      rw [Int.toNat_of_nonneg a0] at h8
      by_cases c : isNP (405 * (((A k).1 + st) % 3600) + k) f n
      · rw [b2_t c, if_pos (h8.mpr c)]
      · rw [b2_f c, if_neg (fun h7 => c (h8.mp h7))]
    have hp : phi f n (405 * (((A k).1 + st) % 3600) + k) = 3600 * g + ((A k).1 + dC k f + st) % 3600 := by
      unfold phi
      rw [plM_key (by omega) (by omega) k0 k1, show (405 * (((A k).1 + st) % 3600) + k) % 405 = k by omega, hg]
      omega
    obtain ⟨V2, h7⟩ := ccStep_CS hn (fun y hy => ens_b y hy) hx hp hb e3
    refine ⟨V2, _, h7, fun y => ?_⟩
    rw [List.mem_cons, e4]
    constructor
    · rintro (rfl | ⟨j, b0, b1, rfl⟩ | h6)
      · exact Or.inl ⟨st, a0, by omega, rfl⟩
      · exact Or.inl ⟨j, b0, by omega, rfl⟩
      · exact Or.inr h6
    · rintro (⟨j, b0, b1, rfl⟩ | h6)
      · by_cases c : j = st
        · subst c; exact Or.inl rfl
        · exact Or.inr (Or.inl ⟨j, b0, by omega, rfl⟩)
      · exact Or.inr (Or.inr h6)) ⟨V, Pr, h, fun y => ⟨Or.inr, fun h8 => h8.elim (fun ⟨j, b0, b1, _⟩ => absurd b1 (by omega)) id⟩⟩
  obtain ⟨V', Pr', h8, h7⟩ := h9
  refine ⟨V', Pr', h8, fun y => ?_⟩
  rw [h7]
  refine or_congr_left ?_
  unfold ens1
  rw [List.mem_map]
  constructor
  · rintro ⟨j, b0, b1, rfl⟩; exact ⟨j, rg_mem.mpr ⟨b0, by omega⟩, rfl⟩
  · rintro ⟨j, hj, rfl⟩
    have hj := rg_mem.mp hj
    exact ⟨j, hj.1, by omega, rfl⟩
/-- the rows that tell the orbits and the groups -/
def gRow (T U : ZS) : Prop := U 13 = T 13 ∧ U 14 = T 14 ∧ U 16 = T 16 ∧ U 17 = T 17
theorem cpIn_CS {A : Int → Int × Int} (hA : ∀ k : Int, okA (A k)) (h19 : ∀ k : Int, 0 ≤ k → k < 405 → (A k).2 ≤ 19) {f n g : Int} (hn : 1 ≤ n) : ∀ (L : List Int) (m : Nat) (j : Int) (T : ZS) (V Pr : List Int), L.length ≤ m → (∀ k ∈ L, 0 ≤ k ∧ k < 405 ∧ gOf k f n = g) → (∀ k : Int, 0 ≤ k → k < 405 → arcC T k = A k) → lnk (rAt 405 (T 17)) j L → CS (ens A) f n g T V Pr → ∃ V' Pr', CS (ens A) f n g (cpIn f n g m j T) V' Pr' ∧ ∀ y, y ∈ Pr' ↔ (∃ k ∈ L, y ∈ ens1 k (A k)) ∨ y ∈ Pr := by
  intro L
  induction L with
  | nil =>
    intro m j T V Pr _ _ _ hk h
    have hk : j = -1 := hk
    subst hk
    have e : cpIn f n g m (-1) T = T := by
      cases m with
      | zero => rfl
      | succ m => exact if_pos rfl
    rw [e]
    exact ⟨V, Pr, h, fun y => ⟨Or.inr, fun h9 => h9.elim (fun ⟨k, hk, _⟩ => by cases hk) id⟩⟩
  | cons x L ih =>
    intro m j T V Pr hm hL hT hk h
    obtain ⟨rfl, hk1, hk2⟩ := hk
    obtain ⟨m, rfl⟩ : ∃ q, m = q + 1 := ⟨m - 1, by rw [List.length_cons] at hm; omega⟩
    have hx := hL j List.mem_cons_self
    have e : cpIn f n g (m + 1) j T = cpIn f n g m (rAt 405 (T 17) j) (cpOne f n g j T) := if_neg hk1
    rw [e]
    have h1 : ∃ V' Pr', CS (ens A) f n g (cpOne f n g j T) V' Pr' ∧ ∀ y, y ∈ Pr' ↔ y ∈ ens1 j (A j) ∨ y ∈ Pr := by
      have e2 : rAt 405 (T 14) j = (A j).2 := by rw [← hT j hx.1 hx.2.1]; rfl
      unfold cpOne
      rw [e2]
      by_cases c : 0 < (A j).2
      · rw [if_pos c]
        exact ccAll_CS hA hn hx.1 hx.2.1 (h19 j hx.1 hx.2.1) (hT j hx.1 hx.2.1) hx.2.2 h
      · rw [if_neg c]
        refine ⟨V, Pr, h, fun y => ⟨Or.inr, fun h9 => h9.elim (fun h8 => ?_) id⟩⟩
        unfold ens1 at h8
        obtain ⟨i, hi, _⟩ := List.mem_map.mp h8
        have := rg_mem.mp hi
        omega
    obtain ⟨V1, Pr1, h2, h3⟩ := h1
    have hr : ∀ q : Nat, q = 13 ∨ q = 14 ∨ q = 17 → cpOne f n g j T q = T q := fun q hq => cpOne_n (by omega) (by omega) (by omega)
    obtain ⟨V2, Pr2, h4, h5⟩ := ih m (rAt 405 (T 17) j) (cpOne f n g j T) V1 Pr1 (by rw [List.length_cons] at hm; omega) (fun k hk => hL k (List.mem_cons_of_mem _ hk)) (fun k a b => by
      rw [← hT k a b]; unfold arcC; rw [hr 13 (Or.inl rfl), hr 14 (Or.inr (Or.inl rfl))]) (by rw [hr 17 (Or.inr (Or.inr rfl))]; exact hk2) h2
    refine ⟨V2, Pr2, h4, fun y => ?_⟩
    rw [h5, h3]
    constructor
    · rintro (⟨k, hk, hy⟩ | hy | hy)
      · exact Or.inl ⟨k, List.mem_cons_of_mem _ hk, hy⟩
      · exact Or.inl ⟨j, List.mem_cons_self, hy⟩
      · exact Or.inr hy
    · rintro (⟨k, hk, hy⟩ | hy)
      · rcases List.mem_cons.mp hk with rfl | hk
        · exact Or.inr (Or.inl hy)
        · exact Or.inl ⟨k, hk, hy⟩
      · exact Or.inr (Or.inr hy)
/-- the groups -/
def grp (f n : Int) (T : ZS) (L : Int → List Int) (k : Int) : Prop := ∀ g : Int, 0 ≤ g → g < 3600 → lnk (rAt 405 (T 17)) (rAt 3600 (T 16) g) (L g) ∧ (∀ x, x ∈ L g ↔ 0 ≤ x ∧ x < k ∧ gOf x f n = g) ∧ ((L g).length : Int) ≤ k
theorem mg_grp {f n : Int} {S : ZS} : ∃ L, grp f n (mgAll f n S) L 405 := by
  unfold mgAll
  have h := itr1 (f := mgStep f n) (fun k T => ∃ L, grp f n T L k) 405 0 (su S 16 (rFill 3600 (S 16) (-1))) (fun k T a0 a1 e => by
    obtain ⟨L, e⟩ := e
    have gb := gOf_b (f := f) (n := n) a0 (show k ≤ 404 by omega)
    refine ⟨fun g => if g = gOf k f n then k :: L g else L g, fun g g0 g1 => ?_⟩
    have h9 := e g g0 g1
    have e17 : mgStep f n k T 17 = rPut 405 (T 17) k (rAt 3600 (T 16) (gOf k f n)) := by
      unfold mgStep; rw [su_n _ _ (by decide), su_s]
    have e16 : mgStep f n k T 16 = rPut 3600 (T 16) (gOf k f n) k := by
      unfold mgStep; rw [su_s, su_n _ _ (by decide)]
    have h17 : ∀ x, 0 ≤ x → x < 405 → rAt 405 (mgStep f n k T 17) x = if x = k then rAt 3600 (T 16) (gOf k f n) else rAt 405 (T 17) x := fun x b0 b1 => by
      rw [e17, rAt_put a0 (by omega) b0 b1]
    have h16 : rAt 3600 (mgStep f n k T 16) g = if g = gOf k f n then k else rAt 3600 (T 16) g := by
      rw [e16, rAt_put gb.1 (by omega) g0 g1]
    have hk : lnk (rAt 405 (mgStep f n k T 17)) (rAt 3600 (T 16) g) (L g) := lnk_c (L g) _ (fun x hx => by
      have := (h9.2.1 x).mp hx
      rw [h17 x this.1 (by omega), if_neg (by omega)]) h9.1
    rw [h16]
    show lnk _ _ (if g = gOf k f n then k :: L g else L g) ∧ (∀ x, x ∈ (if g = gOf k f n then k :: L g else L g) ↔ _) ∧ ((if g = gOf k f n then k :: L g else L g).length : Int) ≤ k + 1
    by_cases c : g = gOf k f n
    · rw [if_pos c, if_pos c]
      refine ⟨⟨rfl, by omega, ?_⟩, fun x => ?_, ?_⟩
      · rw [h17 k a0 (by omega), if_pos rfl, ← c]; exact hk
      · rw [List.mem_cons, h9.2.1]
        constructor
        · rintro (rfl | ⟨b0, b1, b2⟩)
          · exact ⟨a0, by omega, c.symm⟩
          · exact ⟨b0, by omega, b2⟩
        · rintro ⟨b0, b1, b2⟩
          by_cases c2 : x = k
          · exact Or.inl c2
          · exact Or.inr ⟨b0, by omega, b2⟩
      · rw [List.length_cons]; omega
    · rw [if_neg c, if_neg c]
      refine ⟨hk, fun x => ?_, by omega⟩
      rw [h9.2.1]
      constructor
      · rintro ⟨b0, b1, b2⟩; exact ⟨b0, by omega, b2⟩
      · rintro ⟨b0, b1, b2⟩
        by_cases c2 : x = k
        · subst c2; exact absurd b2.symm c
        · exact ⟨b0, by omega, b2⟩) ⟨fun _ => [], fun g g0 g1 => ⟨by
      show rAt 3600 (su S 16 (rFill 3600 (S 16) (-1)) 16) g = -1
      rw [su_s, rAt_in g0 g1]; unfold rFill; rw [if_pos ⟨g0, g1⟩], fun x => ⟨fun h9 => (by cases h9), fun h9 => absurd h9.2.1 (by omega)⟩, by simp⟩⟩
  exact h
theorem cp_spec {A : Int → Int × Int} (hA : ∀ k : Int, okA (A k)) (h19 : ∀ k : Int, 0 ≤ k → k < 405 → (A k).2 ≤ 19) {f n : Int} (hn : 1 ≤ n) {S : ZS} (hS : ∀ k : Int, 0 ≤ k → k < 405 → arcC S k = A k) : ∃ V : List Int, V.Nodup ∧ (∀ c, c ∈ V ↔ ∃ x ∈ ens A, phi f n x = c) ∧ cpAll f n S 27 0 = V.length ∧ cpAll f n S 28 0 = (V.filter (nuB (ens A) f n)).length := by
  unfold cpAll
  obtain ⟨T0, hT0⟩ : ∃ T0, T0 = su (su (su S 27 (fun _ => 0)) 28 (fun _ => 0)) 18 (rFill 3600 (S 18) (-1)) := ⟨_, rfl⟩
  rw [← hT0]
  obtain ⟨L, hL⟩ := mg_grp (f := f) (n := n) (S := T0)
  have r13 : ∀ k : Int, 0 ≤ k → k < 405 → arcC (mgAll f n T0) k = A k := fun k a b => by
    rw [← hS k a b]; unfold arcC
    rw [mgAll_n (by decide) (by decide), mgAll_n (by decide) (by decide), hT0, su_n _ _ (by decide), su_n _ _ (by decide), su_n _ _ (by decide), su_n _ _ (by decide), su_n _ _ (by decide), su_n _ _ (by decide)]
  have h := itr1 (f := cpOut f n) (fun g T => (∀ q : Nat, q ≠ 18 → q ≠ 27 → q ≠ 28 → T q = mgAll f n T0 q) ∧ ∃ V Pr : List Int, T 27 0 = V.length ∧ T 28 0 = (V.filter (nuB (ens A) f n)).length ∧ V.Nodup ∧ (∀ c, c ∈ V ↔ ∃ x ∈ Pr, phi f n x = c) ∧ (∀ p : Int, 0 ≤ p → p < 3600 → T 18 p < g) ∧ (∀ c ∈ V, c < 3600 * g) ∧ ∀ y, y ∈ Pr ↔ ∃ k : Int, 0 ≤ k ∧ k < 405 ∧ gOf k f n < g ∧ y ∈ ens1 k (A k)) 3600 0 (mgAll f n T0) (fun g T g0 g1 e => by
    obtain ⟨hr, V, Pr, v1, v2, v3, v4, v5, v6, v7⟩ := e
    have hg := hL g g0 (by omega)
    have hcs : CS (ens A) f n g T V Pr := ⟨v1, v2, v3, v4, fun p p0 p1 => ⟨fun h9 => absurd h9 (by have := v5 p p0 p1; omega), fun h9 => absurd (v6 _ h9) (by omega)⟩, fun p p0 p1 => by have := v5 p p0 p1; omega, fun c hc => by have := v6 c hc; omega⟩
    obtain ⟨V', Pr', w1, w2⟩ := cpIn_CS hA h19 hn (L g) 405 (rAt 3600 (T 16) g) T V Pr (by have := hg.2.2; omega) (fun k hk => by have := (hg.2.1 k).mp hk; exact ⟨this.1, by omega, this.2.2⟩) (fun k a b => by
      rw [← r13 k a b]; unfold arcC; rw [hr 13 (by decide) (by decide) (by decide), hr 14 (by decide) (by decide) (by decide)]) (by rw [hr 17 (by decide) (by decide) (by decide), hr 16 (by decide) (by decide) (by decide)]; exact hg.1) hcs
    refine ⟨fun q q1 q2 q3 => ?_, V', Pr', w1.1, w1.2.1, w1.2.2.1, w1.2.2.2.1, fun p p0 p1 => ?_, fun c hc => w1.2.2.2.2.2.2 c hc, fun y => ?_⟩
    · unfold cpOut; rw [cpIn_n q1 q2 q3, hr q q1 q2 q3]
    · have := w1.2.2.2.2.2.1 p p0 p1
      unfold cpOut; omega
    · rw [w2, v7]
      constructor
      · rintro (⟨k, hk, hy⟩ | ⟨k, k0, k1, k2, hy⟩)
        · have := (hg.2.1 k).mp hk
          exact ⟨k, this.1, by omega, by omega, hy⟩
        · exact ⟨k, k0, k1, by omega, hy⟩
      · rintro ⟨k, k0, k1, k2, hy⟩
        by_cases c : gOf k f n = g
        · exact Or.inl ⟨k, (hg.2.1 k).mpr ⟨k0, by omega, c⟩, hy⟩
        · exact Or.inr ⟨k, k0, k1, by omega, hy⟩) ⟨fun _ _ _ _ => rfl, [], [], by
      rw [mgAll_n (by decide) (by decide), hT0, su_n _ _ (by decide), su_n _ _ (by decide), su_s]; rfl, by
      rw [mgAll_n (by decide) (by decide), hT0, su_n _ _ (by decide), su_s]; rfl, List.nodup_nil, fun c => ⟨fun h9 => (by cases h9), fun ⟨x, hx, _⟩ => (by cases hx)⟩, fun p p0 p1 => by
      rw [mgAll_n (by decide) (by decide), hT0, su_s]; unfold rFill; rw [if_pos ⟨p0, p1⟩]; decide, fun c hc => (by cases hc), fun y => ⟨fun h9 => (by cases h9), fun ⟨k, k0, k1, k2, _⟩ => absurd k2 (by have := gOf_b (f := f) (n := n) k0 (show k ≤ 404 by omega); omega)⟩⟩
  obtain ⟨_, V, Pr, v1, v2, v3, v4, _, _, v7⟩ := h
  refine ⟨V, v3, fun c => ?_, v1, v2⟩
  rw [v4]
  have e : ∀ y, y ∈ Pr ↔ y ∈ ens A := fun y => by
    rw [v7]
    unfold ens
    rw [List.mem_flatMap]
    constructor
    · rintro ⟨k, k0, k1, _, hy⟩; exact ⟨k, rg_mem.mpr ⟨k0, by omega⟩, hy⟩
    · rintro ⟨k, hk, hy⟩
      have hk := rg_mem.mp hk
      have := gOf_b (f := f) (n := n) hk.1 (show k ≤ 404 by omega)
      exact ⟨k, hk.1, by omega, by omega, hy⟩
  constructor
  · rintro ⟨x, hx, h9⟩; exact ⟨x, (e x).mp hx, h9⟩
  · rintro ⟨x, hx, h9⟩; exact ⟨x, (e x).mpr hx, h9⟩
