/-! chances: what the reference counts -/
theorem chR_spec {T : ZS} {w : Int} : ∀ (L : List Int) (m : Nat) (j s : Int), lnk (T 25) j L → L.length ≤ m → (¬ chR T w m j s = 0 ↔ (¬ s = 0 ∨ ∃ x ∈ L, T 26 x = w)) := by
  intro L
  induction L with
  | nil =>
    intro m j s h _
    have h : j = -1 := h
    subst h
    rw [ch_e]
    exact ⟨Or.inl, fun h9 => h9.elim id (fun ⟨x, hx, _⟩ => by cases hx)⟩
  | cons x L ih =>
    intro m j s h hm
    obtain ⟨rfl, h1, h2⟩ := h
    obtain ⟨m, rfl⟩ : ∃ q, m = q + 1 := ⟨m - 1, by rw [List.length_cons] at hm; omega⟩
    have e : chR T w (m + 1) j s = chR T w m (T 25 j) (b2 (¬ s = 0 ∨ T 26 j = w)) := by
      show (if j = -1 then s else chR T w m (T 25 j) (b2 (¬ s = 0 ∨ T 26 j = w))) = _
      rw [if_neg h1]
    have hb : ¬ b2 (¬ s = 0 ∨ T 26 j = w) = 0 ↔ (¬ s = 0 ∨ T 26 j = w) := by
      by_cases hp : ¬ s = 0 ∨ T 26 j = w
      · rw [b2_t hp]; exact ⟨fun _ => hp, fun _ => by decide⟩
      · rw [b2_f hp]; exact ⟨fun h7 => absurd rfl h7, fun h7 => absurd h7 hp⟩
    rw [e, ih m (T 25 j) _ h2 (by rw [List.length_cons] at hm; omega), hb]
    constructor
    · rintro ((h9 | h9) | ⟨y, hy, h9⟩)
      · exact Or.inl h9
      · exact Or.inr ⟨j, List.mem_cons_self, h9⟩
      · exact Or.inr ⟨y, List.mem_cons_of_mem _ hy, h9⟩
    · rintro (h9 | ⟨y, hy, h9⟩)
      · exact Or.inl (Or.inl h9)
      · rcases List.mem_cons.mp hy with rfl | hy
        · exact Or.inl (Or.inr h9)
        · exact Or.inr ⟨y, hy, h9⟩
/-- how many of the first i come near, as told in row 27 -/
def nrN (g : Int → Int) (i : Int) : Int := itr (fun k acc => if ¬ g k = 0 then acc + 1 else acc) i.toNat 0 0
theorem nrN_c {g h : Int → Int} {i : Int} (e : ∀ k : Int, 0 ≤ k → k < i → g k = h k) : nrN g i = nrN h i := itr_eq _ _ _ (fun k s a b => by
  show (if ¬ g k = 0 then s + 1 else s) = (if ¬ h k = 0 then s + 1 else s)
  rw [e k a (by omega)])
theorem nrN_s {g : Int → Int} {i : Int} (h : 0 ≤ i) : nrN g (i + 1) = if ¬ g i = 0 then nrN g i + 1 else nrN g i := by unfold nrN; exact itr_li _ h _
/-- after i keys -/
def PS (l : List Int) (f n i : Int) (T0 T : ZS) (c : Int) (V : List Int) (L : Int → List Int) : Prop := T 21 = T0 21 ∧ T 22 = T0 22 ∧ V.Nodup ∧ c = V.length ∧ nrN (T 27) i = (V.filter (nuB l f n)).length ∧ (∀ v, v ∈ V ↔ ∃ j : Int, 0 ≤ j ∧ j < i ∧ phi f n (T0 22 j) = v) ∧ (∀ j : Int, 0 ≤ j → j < i → T 26 j = wayX f n (T0 22 j)) ∧ (∀ p : Int, 0 ≤ p → p < 3600 → lnk (T 25) (T 24 p) (L p) ∧ ((L p).length : Int) ≤ i ∧ ∀ x ∈ L p, 0 ≤ x ∧ x < i ∧ plM (T0 22 x) f = p) ∧ ∀ j : Int, 0 ≤ j → j < i → ∃ x ∈ L (plM (T0 22 j) f), wayX f n (T0 22 x) = wayX f n (T0 22 j)
theorem paF_PS {l : List Int} {f n i : Int} {T0 T : ZS} {c : Int} {V : List Int} {L : Int → List Int} (hn : 1 ≤ n) (hl : ∀ y ∈ l, kyP y) (i0 : 0 ≤ i) (hin : ∀ j : Int, 0 ≤ j → j ≤ i → T0 22 j ∈ l) (h : PS l f n i T0 T c V L) : ∃ V' L', PS l f n (i + 1) T0 (paF f n i (T, c)).1 (paF f n i (T, c)).2 V' L' := by
  obtain ⟨h1, h2, h3, h4, h5, h6, h7, h8, h9⟩ := h
  have hx := hin i i0 (Int.le_refl _)
  have hk := fun j a b => hl _ (hin j a b)
  have pb := pl_b (T0 22 i) f
  have ew : wayM f n i T = wayX f n (T0 22 i) := by unfold wayM secM thiM wayX; rw [h2]
  have hq := h8 _ pb.1 pb.2
  have hs : ¬ senM f n i T = 0 ↔ phi f n (T0 22 i) ∈ V := by
    unfold senM
    rw [h2, chR_spec (L (plM (T0 22 i) f)) (i.toNat + 1) _ 0 hq.1 (by omega), ew, h6]
    constructor
    · rintro (h | ⟨x, hx1, hx2⟩)
      · exact absurd rfl h
      · have hx3 := hq.2.2 x hx1
        rw [h7 x hx3.1 hx3.2.1] at hx2
        exact ⟨x, hx3.1, hx3.2.1, (phi_iff hn (hk x hx3.1 (by omega)) (hk i i0 (Int.le_refl _))).mpr ⟨hx3.2.2, hx2⟩⟩
    · rintro ⟨j, j0, j1, e⟩
      have e1 := (phi_iff hn (hk j j0 (by omega)) (hk i i0 (Int.le_refl _))).mp e
      obtain ⟨x, hx1, hx2⟩ := h9 j j0 j1
      rw [e1.1] at hx1
      have hx3 := hq.2.2 x hx1
      exact Or.inr ⟨x, hx1, by rw [h7 x hx3.1 hx3.2.1, hx2, e1.2]⟩
  have t27 : nrN (up (T 27) i (cmM f n i T)) (i + 1) = if ¬ cmM f n i T = 0 then nrN (T 27) i + 1 else nrN (T 27) i := by
    rw [nrN_s i0, up_s, nrN_c (g := up (T 27) i (cmM f n i T)) (h := T 27) (fun k a b => up_n _ _ (by omega))]
  unfold paF
  by_cases c1 : senM f n i T = 0
  · -- a new one
    have hv : ¬ phi f n (T0 22 i) ∈ V := fun h => (hs.mpr h) c1
    have e1 : (if senM f n i (T, c).1 = 0 then (paU f n i (T, c).1, (T, c).2 + 1) else (paT f n i (T, c).1, (T, c).2)) = (paU f n i T, c + 1) := if_pos c1
    rw [e1]
    have e24 : paU f n i T 24 = up (T 24) (plM (T 22 i) f) i := by unfold paU; rw [su_s]
    have e25 : paU f n i T 25 = up (T 25) i (T 24 (plM (T 22 i) f)) := by unfold paU; rw [su_n _ _ (by decide), su_s]
    have e26 : paU f n i T 26 = up (T 26) i (wayM f n i T) := by unfold paU paT; rw [su_n _ _ (by decide), su_n _ _ (by decide), su_n _ _ (by decide), su_s]
    have e27 : paU f n i T 27 = up (T 27) i (cmM f n i T) := by unfold paU paT; rw [su_n _ _ (by decide), su_n _ _ (by decide), su_s]
    have eo : ∀ q : Nat, q = 21 ∨ q = 22 → paU f n i T q = T q := fun q hq => by unfold paU paT; rw [su_n _ _ (by omega), su_n _ _ (by omega), su_n _ _ (by omega), su_n _ _ (by omega)]
    have hcm : ¬ cmM f n i T = 0 ↔ isNP (T0 22 i) f n := by
      unfold cmM
      rw [h2]
      by_cases hp : senM f n i T = 0 ∧ isNP (T0 22 i) f n
      · rw [b2_t hp]; exact ⟨fun _ => hp.2, fun _ => by decide⟩
      · rw [b2_f hp]; exact ⟨fun h7 => absurd rfl h7, fun h7 => absurd ⟨c1, h7⟩ hp⟩
    refine ⟨phi f n (T0 22 i) :: V, fun p => if p = plM (T0 22 i) f then i :: L p else L p, ?_, ?_, List.nodup_cons.mpr ⟨hv, h3⟩, ?_, ?_, fun v => ?_, fun j j0 j1 => ?_, fun p p0 p1 => ?_, fun j j0 j1 => ?_⟩
    · show paU f n i T 21 = _
      rw [eo 21 (Or.inl rfl), h1]
    · show paU f n i T 22 = _
      rw [eo 22 (Or.inr rfl), h2]
    · show c + 1 = _
      rw [List.length_cons, h4]; omega
    · show nrN (paU f n i T 27) (i + 1) = _
      rw [e27, t27, List.filter_cons]
      by_cases c2 : isNP (T0 22 i) f n
      · rw [if_pos (hcm.mpr c2), if_pos ((nuB_key hn hl hx).mpr c2), List.length_cons, h5]; omega
      · rw [if_neg (fun h => c2 (hcm.mp h)), if_neg (fun h => c2 ((nuB_key hn hl hx).mp h)), h5]
    · rw [List.mem_cons, h6]
      constructor
      · rintro (rfl | ⟨j, j0, j1, e⟩)
        · exact ⟨i, i0, by omega, rfl⟩
        · exact ⟨j, j0, by omega, e⟩
      · rintro ⟨j, j0, j1, e⟩
        by_cases c2 : j = i
        · subst c2; exact Or.inl e.symm
        · exact Or.inr ⟨j, j0, by omega, e⟩
    · show paU f n i T 26 j = _
      rw [e26]
      by_cases c2 : j = i
      · subst c2; rw [up_s, ew]
      · rw [up_n _ _ c2]; exact h7 j j0 (by omega)
    · show lnk (paU f n i T 25) (paU f n i T 24 p) (if p = plM (T0 22 i) f then i :: L p else L p) ∧ ((if p = plM (T0 22 i) f then i :: L p else L p).length : Int) ≤ i + 1 ∧ ∀ x ∈ (if p = plM (T0 22 i) f then i :: L p else L p), _
      have h8p := h8 p p0 p1
      rw [e24, e25, h2]
      have hlk : lnk (up (T 25) i (T 24 (plM (T0 22 i) f))) (T 24 p) (L p) := lnk_c (L p) _ (fun x hx => up_n _ _ (by have := h8p.2.2 x hx; omega)) h8p.1
      by_cases c2 : p = plM (T0 22 i) f
      · rw [if_pos c2]
        refine ⟨⟨by rw [c2, up_s], by omega, ?_⟩, by rw [List.length_cons]; omega, fun x hx => ?_⟩
        · rw [up_s, ← c2]
          rw [← c2] at hlk
          exact hlk
        · rcases List.mem_cons.mp hx with rfl | hx
          · exact ⟨i0, by omega, c2.symm⟩
          · have := h8p.2.2 x hx
            exact ⟨this.1, by omega, this.2.2⟩
      · rw [if_neg c2, up_n _ _ c2]
        exact ⟨hlk, by omega, fun x hx => by have := h8p.2.2 x hx; exact ⟨this.1, by omega, this.2.2⟩⟩
    · show ∃ x ∈ (if plM (T0 22 j) f = plM (T0 22 i) f then i :: L (plM (T0 22 j) f) else L (plM (T0 22 j) f)), _
      by_cases c2 : j = i
      · subst c2
        rw [if_pos rfl]
        exact ⟨j, List.mem_cons_self, rfl⟩
      · obtain ⟨x, hx1, hx2⟩ := h9 j j0 (by omega)
        refine ⟨x, ?_, hx2⟩
        split
        · exact List.mem_cons_of_mem _ hx1
        · exact hx1
  · -- seen before
    have hv : phi f n (T0 22 i) ∈ V := hs.mp c1
    have e1 : (if senM f n i (T, c).1 = 0 then (paU f n i (T, c).1, (T, c).2 + 1) else (paT f n i (T, c).1, (T, c).2)) = (paT f n i T, c) := if_neg c1
    rw [e1]
    have e26 : paT f n i T 26 = up (T 26) i (wayM f n i T) := by unfold paT; rw [su_n _ _ (by decide), su_s]
    have e27 : paT f n i T 27 = up (T 27) i (cmM f n i T) := by unfold paT; rw [su_s]
    have eo : ∀ q : Nat, q = 21 ∨ q = 22 ∨ q = 24 ∨ q = 25 → paT f n i T q = T q := fun q hq => by unfold paT; rw [su_n _ _ (by omega), su_n _ _ (by omega)]
    have hcm : cmM f n i T = 0 := by unfold cmM; exact b2_f (fun h => c1 h.1)
    refine ⟨V, L, ?_, ?_, h3, ?_, ?_, fun v => ?_, fun j j0 j1 => ?_, fun p p0 p1 => ?_, fun j j0 j1 => ?_⟩
    · show paT f n i T 21 = _
      rw [eo 21 (Or.inl rfl), h1]
    · show paT f n i T 22 = _
      rw [eo 22 (Or.inr (Or.inl rfl)), h2]
    · exact h4
    · show nrN (paT f n i T 27) (i + 1) = _
      rw [e27, t27, if_neg (fun h => h hcm), h5]
    · rw [h6]
      constructor
      · rintro ⟨j, j0, j1, e⟩; exact ⟨j, j0, by omega, e⟩
      · rintro ⟨j, j0, j1, e⟩
        by_cases c2 : j = i
        · subst c2; rw [← e]; exact (h6 _).mp hv
        · exact ⟨j, j0, by omega, e⟩
    · show paT f n i T 26 j = _
      rw [e26]
      by_cases c2 : j = i
      · subst c2; rw [up_s, ew]
      · rw [up_n _ _ c2]; exact h7 j j0 (by omega)
    · show lnk (paT f n i T 25) (paT f n i T 24 p) (L p) ∧ _
      have h8p := h8 p p0 p1
      rw [eo 25 (Or.inr (Or.inr (Or.inr rfl))), eo 24 (Or.inr (Or.inr (Or.inl rfl)))]
      exact ⟨h8p.1, by omega, fun x hx => by have := h8p.2.2 x hx; exact ⟨this.1, by omega, this.2.2⟩⟩
    · by_cases c2 : j = i
      · subst c2
        obtain ⟨j', a0, a1, e⟩ := (h6 _).mp hv
        have e2 := (phi_iff hn (hk j' a0 (by omega)) (hk j i0 (Int.le_refl _))).mp e
        obtain ⟨x, hx1, hx2⟩ := h9 j' a0 a1
        exact ⟨x, by rw [← e2.1]; exact hx1, by rw [hx2, e2.2]⟩
      · exact h9 j j0 (by omega)
theorem pa_spec {l : List Int} {f n : Int} {T0 : ZS} (hn : 1 ≤ n) (hl : ∀ y ∈ l, kyP y) (hT : hasR 22 21 T0 l) : ∃ V : List Int, V.Nodup ∧ (∀ v, v ∈ V ↔ ∃ x ∈ l, phi f n x = v) ∧ (paM f n T0).2 = V.length ∧ nearM (paM f n T0).1 = (V.filter (nuB l f n)).length := by
  have hk : ∀ j : Int, 0 ≤ j → j < l.length → T0 22 j ∈ l := fun j a b => by
    obtain ⟨m, rfl⟩ := Int.eq_ofNat_of_zero_le a
    rw [hT.2 m (by omega)]
    exact List.getElem_mem _
  have hz : PS l f n 0 T0 (hdA T0) 0 [] (fun _ => []) := by
    refine ⟨hdA_n (by decide), hdA_n (by decide), List.nodup_nil, by simp, ?_, fun v => ⟨fun h9 => (by cases h9), fun ⟨j, j0, j1, _⟩ => absurd j1 (by omega)⟩, fun j j0 j1 => absurd j1 (by omega), fun p p0 p1 => ⟨?_, by simp, fun x hx => (by cases hx)⟩, fun j j0 j1 => absurd j1 (by omega)⟩
    · unfold nrN
      rw [show (0 : Int).toNat = 0 from rfl, itr_0]; simp
    · have h9 := itr1 (f := hdF) (fun i s => p < i → s 24 p = -1) 3600 0 T0 (fun i s a b hs c => by
        unfold hdF
        rw [su_s]
        by_cases e : p = i
        · rw [e, up_s]
        · rw [up_n _ _ e]; exact hs (by omega)) (fun h9 => absurd h9 (by omega))
      unfold hdA lnk
      exact h9 (by omega)
  have h := itr1 (f := paF f n) (fun i q => ∃ V L, PS l f n i T0 q.1 q.2 V L) l.length 0 (hdA T0, 0) (fun i q a b e => by
    obtain ⟨T, c⟩ := q
    obtain ⟨V, L, e⟩ := e
    exact paF_PS hn hl a (fun j j0 j1 => hk j j0 (by omega)) e) (by dsimp only; exact ⟨[], fun _ => [], hz⟩)
  have e0 : paM f n T0 = itr (paF f n) l.length 0 (hdA T0, 0) := by unfold paM; rw [hT.1, Int.toNat_natCast]
  rw [← e0, Int.zero_add] at h
  obtain ⟨V, L, h1, h2, h3, h4, h5, h6, _⟩ := h
  refine ⟨V, h3, fun v => ?_, h4, ?_⟩
  · rw [h6]
    constructor
    · rintro ⟨j, j0, j1, e⟩; exact ⟨_, hk j j0 j1, e⟩
    · rintro ⟨x, hx, e⟩
      obtain ⟨j, hj, rfl⟩ := List.getElem_of_mem hx
      exact ⟨j, by omega, by omega, by rw [hT.2 j hj]; exact e⟩
  · unfold nearM
    rw [h1, hT.1]
    exact h5
/-! the divisor: steps enough -/
theorem gcd_z9 {a : Int} : ∀ m : Nat, gcdC m a 0 = a := by
  intro m
  cases m with
  | zero => rfl
  | succ m => exact if_pos rfl
theorem gcd_s {m : Nat} {a b : Int} (h : ¬ b = 0) : gcdC (m + 1) a b = gcdC m b (a % b) := if_neg h
theorem gcd_1 : ∀ (m : Nat) (a b : Int) (e : Nat), 0 ≤ b → b < m → gcdC (m + e) a b = gcdC m a b := by
  intro m
  induction m with
  | zero => intro a b e h0 h1; omega
  | succ m ih =>
    intro a b e h0 h1
    by_cases c : b = 0
    · subst c; rw [gcd_z9, gcd_z9]
    · rw [Nat.add_right_comm, gcd_s c, gcd_s c]
      have q1 : 0 ≤ a % b := Int.emod_nonneg _ c
      have q2 : a % b < b := Int.emod_lt_of_pos _ (by omega)
      exact ih b (a % b) e q1 (by omega)
theorem gcd_2 : ∀ (k m : Nat) (a b : Int) (e : Nat), 0 ≤ b → b < 2 ^ k → 2 * k ≤ m → gcdC (m + e) a b = gcdC m a b := by
  intro k
  induction k with
  | zero =>
    intro m a b e h0 h1 _
    have h1 : b < 1 := h1
    obtain rfl : b = 0 := by omega
    rw [gcd_z9, gcd_z9]
  | succ k ih =>
    intro m a b e h0 h1 hm
    obtain ⟨m, rfl⟩ : ∃ q, m = q + 1 + 1 := ⟨m - 2, by omega⟩
    have e2 : (2 : Int) ^ (k + 1) = 2 * 2 ^ k := by rw [Int.pow_succ]; omega
    rw [e2] at h1
    by_cases c : b = 0
    · subst c; rw [gcd_z9, gcd_z9]
    · rw [show m + 1 + 1 + e = m + e + 1 + 1 by omega, gcd_s c, gcd_s c]
      have q1 : 0 ≤ a % b := Int.emod_nonneg _ c
      have q2 : a % b < b := Int.emod_lt_of_pos _ (by omega)
      generalize a % b = r at *
      by_cases c2 : r = 0
      · subst c2; rw [gcd_z9, gcd_z9]
      · rw [gcd_s c2, gcd_s c2]
        have q3 : 0 ≤ b % r := Int.emod_nonneg _ c2
        have q4 : b % r < r := Int.emod_lt_of_pos _ (by omega)
        have q5 := Int.mul_ediv_add_emod b r
        have q6 : 1 ≤ b / r := by
          rw [Int.le_ediv_iff_mul_le (by omega)]; omega
        have q7 : r * 1 ≤ r * (b / r) := Int.mul_le_mul_of_nonneg_left q6 (by omega)
        exact ih m r (b % r) e q3 (by omega) (by omega)
theorem div_eq {N C w : Int} (h0 : 0 ≤ N) (h1 : N ≤ C) (h2 : N ≤ 27702000) : (if gcdC 64 N C = 0 then 0 else (if w = 0 then N else C) / gcdC 64 N C) = (if w = 0 then N / byM C N else C / byM C N) := by
  have hsw : ∀ d : Int, (if w = 0 then N else C) / d = if w = 0 then N / d else C / d := fun d => by split <;> rfl
  rw [hsw]
  unfold byM
  by_cases c : C = 0
  · subst c
    obtain rfl : N = 0 := by omega
    rw [gcd_z9, if_pos rfl, if_pos rfl]
    split <;> rfl
  · rw [if_neg c, gcd_s (m := 63) c]
    by_cases c2 : N = C
    · subst c2
      rw [Int.emod_self, gcd_z9, if_neg c, gcd_s c, Int.emod_self, gcd_z9]
    · rw [Int.emod_eq_of_lt h0 (by omega)]
      have e1 := gcd_2 31 63 C N (N.toNat + 1) h0 (by omega) (by decide)
      have e2 := gcd_1 (N.toNat + 1) C N 63 h0 (by omega)
      rw [Nat.add_comm] at e2
      rw [← e1, e2]
      have hp := gcd_p (N.toNat + 1) C N (by omega) h0 (by omega)
      rw [if_neg (by omega)]
theorem chance_eq {S M : ZS} (hM : MB M) (h : Rel S M) (hi : Inv M) {b f n w : Int} (h0 : 0 ≤ b) (h1 : b < M 11 0) (hn : 1 ≤ n) (hb : cpAll f n (findO b S) 28 0 ≤ 27702000) : chC w (cpAll f n (findO b S)) = chM b f n w M := by
  obtain ⟨V, v1, v2, v3, v4⟩ := cp_spec (A := Ak M b) (Ak_ok hM b) (fun k _ _ => Ak_19 hM hi h0 h1 k) (f := f) hn (fun k a c => find_arc hM h hi h0 a c)
  have hl : ∀ y ∈ kE M b, kyP y := fun y hy => ens_b y hy
  have hK := find_keys hM hi h0 h1
  have hU : ∃ U : List Int, U.Nodup ∧ (∀ v, v ∈ U ↔ ∃ x ∈ kE M b, phi f n x = v) ∧ (chS b f n M).2 = U.length ∧ nearM (chS b f n M).1 = (U.filter (nuB (kE M b) f n)).length := by
    unfold chS
    by_cases c : findM (laysM b M) 21 0 = 0
    · rw [if_pos c]
      have hz : kE M b = [] := List.length_eq_zero_iff.mp (by have := hK.1; omega)
      rw [hz]
      refine ⟨[], List.nodup_nil, fun v => ⟨fun h9 => (by cases h9), fun ⟨x, hx, _⟩ => (by cases hx)⟩, by simp, ?_⟩
      dsimp only
      unfold nearM
      rw [c, show (0 : Int).toNat = 0 from rfl, itr_0]; simp
    · rw [if_neg c]
      exact pa_spec hn hl hK
  obtain ⟨U, u1, u2, u3, u4⟩ := hU
  have hm : ∀ v, v ∈ V ↔ v ∈ U := fun v => by rw [v2, u2]; rfl
  have e1 : V.length = U.length := Nat.le_antisymm (nodup_le v1 (fun x hx => (hm x).mp hx)) (nodup_le u1 (fun x hx => (hm x).mpr hx))
  have e2 : (V.filter (nuB (kE M b) f n)).length = (U.filter (nuB (kE M b) f n)).length := Nat.le_antisymm (nodup_le (v1.filter _) (fun x hx => List.mem_filter.mpr ⟨(hm x).mp (List.mem_filter.mp hx).1, (List.mem_filter.mp hx).2⟩)) (nodup_le (u1.filter _) (fun x hx => List.mem_filter.mpr ⟨(hm x).mpr (List.mem_filter.mp hx).1, (List.mem_filter.mp hx).2⟩))
  have e3 : (V.filter (nuB (kE M b) f n)).length ≤ V.length := List.length_filter_le _ _
  unfold chC chM
  rw [u3, u4, ← e1, ← e2]
  have v4 : cpAll f n (findO b S) 28 0 = (V.filter (nuB (kE M b) f n)).length := v4
  rw [v3, v4]
  rw [v4] at hb
  exact div_eq (by omega) (by omega) hb
