/-! when a number may be given: the law's words -/
theorem itr_fold {σ : Type} {f : Int → σ → σ} {a : σ → Int → σ} : ∀ (l : List Int) (j : Int) (s : σ), (∀ (i : Nat) (h : i < l.length) (s : σ), f (j + i) s = a s l[i]) → itr f l.length j s = l.foldl a s := by
  intro l
  induction l with
  | nil => intro j s _; rfl
  | cons x l ih =>
    intro j s h
    have e0 := h 0 (Nat.zero_lt_succ _) s
    rw [show j + ((0 : Nat) : Int) = j by omega] at e0
    rw [List.length_cons, itr_s, e0, List.foldl_cons]
    refine ih (j + 1) _ (fun i hi s => ?_)
    have e := h (i + 1) (by rw [List.length_cons]; omega) s
    rw [show j + 1 + (i : Int) = j + ((i + 1 : Nat) : Int) by omega]
    exact e
def LNG (M : ZS) (b : Int) : Prop := ∃ x ∈ lkM M b, ∃ y ∈ lkM M b, ∃ z ∈ lkM M b, nM M x + 30 ≤ nM M y ∧ nM M x < nM M z ∧ nM M z < nM M y
def mmG (M : ZS) (q : Int × Int) (d : Int) : Int × Int := (min q.1 (nM M d), max q.2 (nM M d))
theorem mm_list {M : ZS} : ∀ (l : List Int) (q : Int × Int), (∀ d ∈ l, (l.foldl (mmG M) q).1 ≤ nM M d ∧ nM M d ≤ (l.foldl (mmG M) q).2) ∧ (l.foldl (mmG M) q).1 ≤ q.1 ∧ q.2 ≤ (l.foldl (mmG M) q).2 ∧ ((l.foldl (mmG M) q).1 = q.1 ∨ ∃ d ∈ l, nM M d = (l.foldl (mmG M) q).1) ∧ ((l.foldl (mmG M) q).2 = q.2 ∨ ∃ d ∈ l, nM M d = (l.foldl (mmG M) q).2) := by
  intro l
  induction l with
  | nil => intro q; exact ⟨fun d hd => absurd hd List.not_mem_nil, Int.le_refl _, Int.le_refl _, Or.inl rfl, Or.inl rfl⟩
  | cons x l ih =>
    intro q
    obtain ⟨h1, h2, h3, h4, h5⟩ := ih (mmG M q x)
    rw [List.foldl_cons]
    have e1 : (mmG M q x).1 ≤ q.1 ∧ (mmG M q x).1 ≤ nM M x ∧ ((mmG M q x).1 = q.1 ∨ (mmG M q x).1 = nM M x) := by
      show min q.1 (nM M x) ≤ q.1 ∧ min q.1 (nM M x) ≤ nM M x ∧ (min q.1 (nM M x) = q.1 ∨ min q.1 (nM M x) = nM M x)
      omega
    have e2 : q.2 ≤ (mmG M q x).2 ∧ nM M x ≤ (mmG M q x).2 ∧ ((mmG M q x).2 = q.2 ∨ (mmG M q x).2 = nM M x) := by
      show q.2 ≤ max q.2 (nM M x) ∧ nM M x ≤ max q.2 (nM M x) ∧ (max q.2 (nM M x) = q.2 ∨ max q.2 (nM M x) = nM M x)
      omega
    clear ih
    generalize mmG M q x = qq at *
    generalize l.foldl (mmG M) qq = r at *
    refine ⟨fun d hd => ?_, by omega, by omega, ?_, ?_⟩
    · rcases List.mem_cons.mp hd with rfl | hd
      · omega
      · exact h1 d hd
    · rcases h4 with h4 | ⟨d, hd, e⟩
      · rcases e1.2.2 with c | c
        · exact Or.inl (by omega)
        · exact Or.inr ⟨x, List.mem_cons_self, by omega⟩
      · exact Or.inr ⟨d, List.mem_cons_of_mem _ hd, e⟩
    · rcases h5 with h5 | ⟨d, hd, e⟩
      · rcases e2.2.2 with c | c
        · exact Or.inl (by omega)
        · exact Or.inr ⟨x, List.mem_cons_self, by omega⟩
      · exact Or.inr ⟨d, List.mem_cons_of_mem _ hd, e⟩
noncomputable def tdG (M : ZS) (lo hi t d : Int) : Int := b2 (¬ t = 0 ∨ (¬ nM M d = lo ∧ ¬ nM M d = hi))
theorem td_list {M : ZS} {lo hi : Int} : ∀ (l : List Int) (t : Int), ¬ l.foldl (tdG M lo hi) t = 0 ↔ (¬ t = 0 ∨ ∃ d ∈ l, ¬ nM M d = lo ∧ ¬ nM M d = hi) := by
  intro l
  induction l with
  | nil => intro t; exact ⟨Or.inl, fun h => h.elim id (fun ⟨d, hd, _⟩ => absurd hd List.not_mem_nil)⟩
  | cons x l ih =>
    intro t
    rw [List.foldl_cons, ih]
    have h8 : ∀ P : Prop, ¬ b2 P = 0 ↔ P := fun P => by
      by_cases hp : P
      · rw [b2_t hp]; exact ⟨fun _ => hp, fun _ => by decide⟩
      · rw [b2_f hp]; exact ⟨fun h7 => absurd rfl h7, fun h7 => absurd h7 hp⟩
    unfold tdG
    rw [h8]
    constructor
    · rintro ((a | a) | ⟨d, hd, e⟩)
      · exact Or.inl a
      · exact Or.inr ⟨x, List.mem_cons_self, a⟩
      · exact Or.inr ⟨d, List.mem_cons_of_mem _ hd, e⟩
    · rintro (a | ⟨d, hd, e⟩)
      · exact Or.inl (Or.inl a)
      · rcases List.mem_cons.mp hd with rfl | hd
        · exact Or.inl (Or.inr e)
        · exact Or.inr ⟨d, hd, e⟩
theorem long_law {S M L : ZS} (h : DK S M) (hG : GL L M) {b : Int} (h0 : 0 ≤ b) (h1 : b < M 11 0) : longP (gatherL b S) ↔ LNG M b := by
  have hS : S 22 0 ≤ 60 := by have := h.n; omega
  have hg := gatherL_has (b := b) hS
  have hl := lk_eq h.B h.2.2.1 h.2.2.2 h0
  have hat := fun i hi => gatherL_at (b := b) hS i hi
  rw [hl] at hg hat
  have hR : Rel (gatherL b S) M := h.2.2.1.sc SC_ga
  have hlen := lkC_len hS b
  rw [hl] at hlen
  have hne := lkM_ne h.2.2.2 h0 h1
  obtain ⟨d0, hd0⟩ := List.exists_mem_of_ne_nil _ hne
  have ht : ∀ (i : Nat) (hi : i < (lkM M b).length), nOf (gatherL b S) (rAt 60 (gatherL b S 12) (0 + i)) = nM M (lkM M b)[i] := fun i hi => by
    have e3 := lkM_b h.B _ (List.getElem_mem (l := lkM M b) (n := i) hi)
    rw [Int.zero_add, hat i hi]
    exact nOf_eq h.B hR e3.1 e3.2
  have e1 : lgA (gatherL b S) = (lkM M b).foldl (mmG M) (1000, 0) := by
    unfold lgA
    rw [hg.1, Int.toNat_natCast]
    exact itr_fold _ 0 _ (fun i hi s => by unfold lgF mmG; rw [ht i hi])
  have e2 : ∀ lo hi9, itr (thF (gatherL b S) lo hi9) (gatherL b S 26 0).toNat 0 0 = (lkM M b).foldl (tdG M lo hi9) 0 := fun lo hi9 => by
    rw [hg.1, Int.toNat_natCast]
    exact itr_fold _ 0 _ (fun i hi s => by unfold thF thP tdG; rw [ht i hi])
  obtain ⟨m1, m2, m3, m4, m5⟩ := mm_list (M := M) (lkM M b) (1000, 0)
  unfold longP thA
  rw [e2, e1, td_list]
  generalize (lkM M b).foldl (mmG M) (1000, 0) = q at *
  have n0 := GL.nb hG d0
  have k0 := m1 d0 hd0
  constructor
  · rintro ⟨a | ⟨z, hz, z1, z2⟩, a2⟩
    · exact absurd rfl a
    · have kz := m1 z hz
      rcases m4 with m4 | ⟨x, hx, ex⟩
      · have m4 : q.1 = 1000 := m4
        omega
      · rcases m5 with m5 | ⟨y, hy, ey⟩
        · have m5 : q.2 = 0 := m5
          have nz := GL.nb hG z
          omega
        · exact ⟨x, hx, y, hy, z, hz, by omega, by omega, by omega⟩
  · rintro ⟨x, hx, y, hy, z, hz, a1, a2, a3⟩
    have kx := m1 x hx
    have ky := m1 y hy
    exact ⟨Or.inr ⟨z, hz, by omega, by omega⟩, by omega⟩
theorem cn_law {S M L : ZS} (h : DK S M) (hG : GL L M) {b : Int} (h0 : 0 ≤ b) (h1 : b < M 11 0) : cnP M b ↔ (M 12 b = -1 ∧ M 14 b = 0 ∧ LNG M b ∧ orN M b (-1) (-1) = 1) := by
  have hl := long_iff h.B h.2.2.1 h.2.2.2 h0 h1
  rw [long_law h hG h0 h1] at hl
  have hk := (find_keys h.B h.2.2.2 h0 h1).1
  have hu := GL.un hG h0 (by have := GL.c hG; omega)
  rw [(or_self hG h0 h1).2, ← hk]
  unfold cnP
  constructor
  · rintro ⟨a1, a2, a3, a4, a5, a6⟩
    exact ⟨a1, by omega, hl.mpr ⟨a3, a4⟩, a6⟩
  · rintro ⟨a1, a2, a3, a4⟩
    have := hl.mp a3
    exact ⟨a1, by omega, this.1, this.2, by omega, a4⟩
def nlI (M : ZS) (b i lo hi : Int) : Prop := (∀ k : Int, 0 ≤ k → k < i → lookM M k b → lo ≤ nM M k ∧ nM M k ≤ hi) ∧ ((lo = 1000 ∧ hi = -1) ∨ ((0 ≤ lo ∧ lo ≤ 999 ∧ 0 ≤ hi ∧ hi ≤ 999) ∧ (∃ k : Int, 0 ≤ k ∧ k < i ∧ lookM M k b ∧ nM M k = lo) ∧ ∃ k : Int, 0 ≤ k ∧ k < i ∧ lookM M k b ∧ nM M k = hi))
theorem nl_no {M : ZS} {b i lo hi : Int} (h : nlI M b i lo hi) (hk : ¬ lookM M i b) : nlI M b (i + 1) lo hi := by
  obtain ⟨h1, h2⟩ := h
  refine ⟨fun k k0 k1 hl => ?_, ?_⟩
  · by_cases c : k = i
    · subst c; exact absurd hl hk
    · exact h1 k k0 (by omega) hl
  · rcases h2 with h2 | ⟨h2, ⟨x, a1, a2, a3⟩, y, c1, c2, c3⟩
    · exact Or.inl h2
    · exact Or.inr ⟨h2, ⟨x, a1, by omega, a3⟩, y, c1, by omega, c3⟩
theorem nl_yes {M : ZS} {b i lo hi lo' hi' : Int} (h : nlI M b i lo hi) (h0 : 0 ≤ i) (hk : lookM M i b) (hn : 0 ≤ nM M i ∧ nM M i ≤ 999) (e1 : lo' = if nM M i < lo then nM M i else lo) (e2 : hi' = if hi < nM M i then nM M i else hi) : nlI M b (i + 1) lo' hi' := by
  subst e1 e2
  obtain ⟨h1, h2⟩ := h
  refine ⟨fun k k0 k1 hl => ?_, Or.inr ⟨?_, ?_, ?_⟩⟩
  · by_cases c : k = i
    · subst c; constructor <;> split <;> omega
    · have := h1 k k0 (by omega) hl
      constructor <;> split <;> omega
  · rcases h2 with h2 | ⟨h2, -⟩
    · refine ⟨?_, ?_, ?_, ?_⟩ <;> split <;> omega
    · refine ⟨?_, ?_, ?_, ?_⟩ <;> split <;> omega
  · by_cases c : nM M i < lo
    · exact ⟨i, h0, by omega, hk, by rw [if_pos c]⟩
    · rw [if_neg c]
      rcases h2 with h2 | ⟨-, ⟨x, a1, a2, a3⟩, -⟩
      · omega
      · exact ⟨x, a1, by omega, a3⟩
  · by_cases c : hi < nM M i
    · exact ⟨i, h0, by omega, hk, by rw [if_pos c]⟩
    · rw [if_neg c]
      rcases h2 with h2 | ⟨-, -, ⟨x, a1, a2, a3⟩⟩
      · omega
      · exact ⟨x, a1, by omega, a3⟩
def tdI (M : ZS) (b lo hi i t : Int) : Prop := (t = -1 ∧ ∀ k : Int, 0 ≤ k → k < i → lookM M k b → ¬ (lo < nM M k ∧ nM M k < hi)) ∨ (0 ≤ t ∧ t < 40 ∧ lookM M t b ∧ lo < nM M t ∧ nM M t < hi)
theorem td_no {M : ZS} {b lo hi i t : Int} (h : tdI M b lo hi i t) (hk : ¬ (lookM M i b ∧ lo < nM M i ∧ nM M i < hi)) : tdI M b lo hi (i + 1) t := by
  rcases h with ⟨h1, h2⟩ | h
  · refine Or.inl ⟨h1, fun k k0 k1 hl hn => ?_⟩
    by_cases c : k = i
    · subst c; exact hk ⟨hl, hn⟩
    · exact h2 k k0 (by omega) hl hn
  · exact Or.inr h
theorem num_law {L M : ZS} (hG : GL L M) {b lo hi t : Int} (hl : nlI M b 40 lo hi) (ht : tdI M b lo hi 40 t) : (0 ≤ t ∧ 30 ≤ hi - lo) ↔ LNG M b := by
  obtain ⟨h1, h2⟩ := hl
  constructor
  · rintro ⟨t0, t1⟩
    rcases ht with ht | ⟨-, t4, t5, t6, t7⟩
    · omega
    · rcases h2 with h2 | ⟨-, ⟨x, a1, a2, a3, a4⟩, y, c1, c2, c3, c4⟩
      · omega
      · exact ⟨x, (GL.lkm hG).mpr ⟨⟨a1, a2⟩, a3⟩, y, (GL.lkm hG).mpr ⟨⟨c1, c2⟩, c3⟩, t, (GL.lkm hG).mpr ⟨⟨t0, t4⟩, t5⟩, by omega, by omega, by omega⟩
  · rintro ⟨x, hx, y, hy, z, hz, a1, a2, a3⟩
    have hx := (GL.lkm hG).mp hx
    have hy := (GL.lkm hG).mp hy
    have hz := (GL.lkm hG).mp hz
    have kx := h1 x hx.1.1 hx.1.2 hx.2
    have ky := h1 y hy.1.1 hy.1.2 hy.2
    refine ⟨?_, by omega⟩
    rcases ht with ⟨-, t2⟩ | ⟨t0, -⟩
    · exact absurd ⟨by omega, by omega⟩ (t2 z hz.1.1 hz.1.2 hz.2)
    · exact t0
