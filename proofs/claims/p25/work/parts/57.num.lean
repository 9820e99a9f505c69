/-! numbers of things, the latest, candidates, numbers given -/
theorem looks_eq {S M : ZS} (hM : MB M) (h : Rel S M) (hi : Inv M) {b : Int} (h0 : 0 ≤ b) : gatherL b S 26 0 = laysM b M 19 0 := by
  have hS : S 22 0 ≤ 60 := by rw [h.nD]; exact dots_60 hM
  rw [(gatherL_has (b := b) hS).1, (laysM_has (b := b) (M := M)).1, lk_eq hM h hi h0]
theorem itr_eq {σ : Type} {f g : Int → σ → σ} (n : Nat) (j : Int) (s : σ) (h : ∀ (i : Int) (s : σ), j ≤ i → i < j + n → f i s = g i s) : itr f n j s = itr g n j s := itr2 (f := f) (g := g) (fun _ s t => s = t) n j s s (fun i s t a b e => by rw [e]; exact h i t a b) rfl
theorem own_eq {S M : ZS} (hM : MB M) (h : Rel S M) {b : Int} (h0 : 0 ≤ b) : ownN S b = ownM M b := by
  have hB := dots_60 hM
  have hB0 : 0 ≤ M 6 0 := (hM 6 0).1
  unfold ownN ownM
  have e : (60 : Nat) = (M 6 0).toNat + (60 - (M 6 0).toNat) := by omega
  rw [e, itr_add, itr_eq (f := fun j (acc : Int) => if rAt 60 (S 7) j = b then acc + 1 else acc) (g := fun j (acc : Int) => if M 10 j = b then acc + 1 else acc) (M 6 0).toNat 0 0 (fun i s a c => by
    show (if rAt 60 (S 7) i = b then s + 1 else s) = (if M 10 i = b then s + 1 else s)
    rw [own_at hM h a (by omega)])]
  generalize itr (fun j (acc : Int) => if M 10 j = b then acc + 1 else acc) (M 6 0).toNat 0 0 = x
  have h9 := itr1 (f := fun j (acc : Int) => if rAt 60 (S 7) j = b then acc + 1 else acc) (fun _ s => s = x) (60 - (M 6 0).toNat) (0 + ((M 6 0).toNat : Int)) x (fun i s a c e => by
    show (if rAt 60 (S 7) i = b then s + 1 else s) = x
    rw [rAt_in (by omega) (by omega), h.own0 i (by omega) (by omega), if_neg (by omega)]; exact e) rfl
  exact h9
theorem joined_eq {S M : ZS} (hM : MB M) (h : Rel S M) (hi : Inv M) {b : Int} : joinN S b = joinM M b := by
  unfold joinN joinM
  rw [h.nB]
  exact itr_eq _ _ _ (fun i s a c => by
    show (if rAt 20 (S 8) i = b then s + 1 else s) = (if M 12 i = b then s + 1 else s)
    rw [(host_at hM h hi a (by omega)).1])
theorem late_eq {S M : ZS} (hM : MB M) (h : Rel S M) (hi : Inv M) {b : Int} (h0 : 0 ≤ b) : lateN S b = lateM M b ∧ (lateM M b = -1 ∨ (0 ≤ lateM M b ∧ lateM M b < M 11 0 ∧ M 12 (lateM M b) = b)) := by
  have hB : (0 : Int) ≤ M 11 0 ∧ M 11 0 ≤ 20 := hM 11 0
  unfold lateN lateM
  rw [h.nB]
  have h9 := itr2 (f := lateF S b) (g := lateG M b) (fun _ s t => s = t ∧ (t = -1 ∨ (0 ≤ t ∧ t < M 11 0 ∧ M 12 t = b))) (M 11 0).toNat 0 (-1) (-1) (fun i s t a c e => by
    obtain ⟨rfl, e⟩ := e
    have hi1 := (host_at hM h hi a (show i < M 11 0 by omega)).1
    have e1 : (rAt 20 (S 8) i = b ∧ (s = -1 ∨ rAt 20 (S 9) s < rAt 20 (S 9) i)) ↔ (M 12 i = b ∧ (s = -1 ∨ M 13 s < M 13 i)) := by
      rw [hi1]
      refine and_congr_right (fun c1 => ?_)
      rcases e with e | ⟨e1, e2, e3⟩
      · exact ⟨fun _ => Or.inl e, fun _ => Or.inl e⟩
      · rw [rAt_in e1 (by omega), rAt_in a (by omega), h.time s e1 e2 (by omega), h.time i a (by omega) (by omega)]
        omega
    unfold lateF lateG
    by_cases c2 : M 12 i = b ∧ (s = -1 ∨ M 13 s < M 13 i)
    · rw [if_pos c2, if_pos (e1.mpr c2)]
      exact ⟨rfl, Or.inr ⟨a, by omega, c2.1⟩⟩
    · rw [if_neg c2, if_neg (fun h9 => c2 (e1.mp h9))]
      exact ⟨rfl, e⟩) ⟨rfl, Or.inl rfl⟩
  exact h9
theorem cand_eq {S M : ZS} (hM : MB M) (h : Rel S M) (hi : Inv M) {b : Int} (h0 : 0 ≤ b) (h1 : b < M 11 0) : itr (fun k acc => acc + b2 (takeP (findO b S) b k)) (S 22 0).toNat 0 0 = (caM M b).2 := by
  unfold caM
  rw [h.nD]
  have h9 := itr2 (f := fun k acc => acc + b2 (takeP (findO b S) b k)) (g := caF b) (fun _ s t => s = t.2 ∧ SM M t.1) (M 6 0).toNat 0 0 (M, 0) (fun i s t a c e => by
    obtain ⟨rfl, e⟩ := e
    have e18 := SM.le e
    have h8 := take_iff (hM.sm e18) (h.sm e18) (hi.sm e18) h0 (by rw [e18 11 (by decide)]; exact h1) a (by rw [e18 6 (by decide)]; omega) (b := b) (d := i)
    refine ⟨?_, ?_⟩
    · show t.2 + b2 (takeP (findO b S) b i) = t.2 + b2 (clP t.1 b i)
      rw [b2_iff h8]
    · exact e.tr SM_cl) ⟨rfl, SM.rf⟩
  exact h9.1
/-! unlike things counted -/
theorem nodup_le : ∀ {l1 l2 : List Int}, l1.Nodup → (∀ x ∈ l1, x ∈ l2) → l1.length ≤ l2.length := by
  intro l1
  induction l1 with
  | nil => intro l2 _ _; simp
  | cons x l1 ih =>
    intro l2 hn hs
    have hn := List.nodup_cons.mp hn
    have hx := hs x List.mem_cons_self
    have h2 := ih (l2 := l2.erase x) hn.2 (fun y hy => (List.mem_erase_of_ne (fun e => hn.1 (by rw [← e]; exact hy))).mpr (hs y (List.mem_cons_of_mem _ hy)))
    rw [List.length_erase_of_mem hx] at h2
    have := List.length_pos_of_mem hx
    rw [List.length_cons]; omega
noncomputable def nt (M : ZS) (b i : Int) : Int := nM M (laysM b M 20 i)
theorem long_iff {S M : ZS} (hM : MB M) (h : Rel S M) (hi : Inv M) {b : Int} (h0 : 0 ≤ b) (h1 : b < M 11 0) : longP (gatherL b S) ↔ (2 < (cnA (laysM b M)).2.2 ∧ 29 < (cnA (laysM b M)).2.1 - (cnA (laysM b M)).1) := by
  have hS : S 22 0 ≤ 60 := by rw [h.nD]; exact dots_60 hM
  have hG := gatherL_has (b := b) hS
  have hL := laysM_has (b := b) (M := M)
  have hl := lk_eq hM h hi h0
  have hat := fun i hi => gatherL_at (b := b) hS i hi
  have hlen := lkC_len hS b
  rw [hl] at hG hat hlen
  have hp := List.length_pos_iff.mpr (lkM_ne hi h0 h1)
  have hR : Rel (gatherL b S) M := h.sc SC_ga
  obtain ⟨n, hn⟩ : ∃ n : Nat, n = (lkM M b).length := ⟨_, rfl⟩
  have ht : ∀ i : Int, 0 ≤ i → i < n → nOf (gatherL b S) (rAt 60 (gatherL b S 12) i) = nt M b i ∧ nM (laysM b M) (laysM b M 20 i) = nt M b i ∧ 0 ≤ nt M b i ∧ nt M b i ≤ 999 := fun i a0 a1 => by
    obtain ⟨j, rfl⟩ := Int.eq_ofNat_of_zero_le a0
    have e1 := hat j (by omega)
    have e2 := hL.2 j (by omega)
    have e3 := lkM_b hM _ (List.getElem_mem (l := lkM M b) (n := j) (by omega))
    unfold nt
    rw [e1, e2, nOf_eq hM hR e3.1 e3.2, nM_sm SM_la]
    exact ⟨rfl, rfl, hM 5 _⟩
  generalize nt M b = t at ht
  have hcn : cnA (laysM b M) = itr (cnG (laysM b M)) n 0 (1000, 0, 0) := by unfold cnA; rw [hL.1, Int.toNat_natCast, ← hn]
  have hlg : lgA (gatherL b S) = itr (lgF (gatherL b S)) n 0 (1000, 0) := by unfold lgA; rw [hG.1, Int.toNat_natCast, ← hn]
  -- lowest and highest
  have k1 := itr2 (f := lgF (gatherL b S)) (g := cnG (laysM b M)) (fun _ q r => q.1 = r.1 ∧ q.2 = r.2.1) n 0 (1000, 0) (1000, 0, 0) (fun i q r a c e => by
    obtain ⟨q1, q2⟩ := q
    obtain ⟨r1, r2, r3⟩ := r
    have h9 := ht i a (by omega)
    simp only at e
    obtain ⟨rfl, rfl⟩ := e
    unfold lgF cnG cnF
    rw [h9.1, h9.2.1]
    refine ⟨?_, ?_⟩
    · show min q1 (t i) = if t i < q1 then t i else q1
      split <;> omega
    · show max q2 (t i) = if q2 < t i then t i else q2
      split <;> omega) ⟨rfl, rfl⟩
  rw [← hlg, ← hcn] at k1
  have k2 := itr1 (f := lgF (gatherL b S)) (fun i q => (∀ j : Int, 0 ≤ j → j < i → q.1 ≤ t j ∧ t j ≤ q.2) ∧ ((q.1 = 1000 ∧ q.2 = 0 ∧ i = 0) ∨ (0 < i ∧ (∃ j : Int, 0 ≤ j ∧ j < i ∧ t j = q.1) ∧ ((q.2 = 0 ∧ ∀ j : Int, 0 ≤ j → j < i → t j = 0) ∨ ∃ j : Int, 0 ≤ j ∧ j < i ∧ t j = q.2)))) n 0 (1000, 0) (fun i q a c e => by
    obtain ⟨q1, q2⟩ := q
    have h9 := ht i a (by omega)
    unfold lgF
    rw [h9.1]
    simp only at e ⊢
    obtain ⟨e1, e2⟩ := e
    refine ⟨fun j b0 b1 => ?_, Or.inr ⟨by omega, ?_, ?_⟩⟩
    · by_cases c1 : j = i
      · subst c1; omega
      · have := e1 j b0 (by omega); omega
    · rcases e2 with ⟨d1, d2, d3⟩ | ⟨d0, ⟨j, d1, d2, d3⟩, _⟩
      · exact ⟨i, a, by omega, by omega⟩
      · by_cases c1 : t i ≤ q1
        · exact ⟨i, a, by omega, by omega⟩
        · exact ⟨j, d1, by omega, by omega⟩
    · rcases e2 with ⟨d1, d2, d3⟩ | ⟨d0, _, ⟨d2, d3⟩ | ⟨j, d1, d2, d3⟩⟩
      · exact Or.inr ⟨i, a, by omega, by omega⟩
      · exact Or.inr ⟨i, a, by omega, by omega⟩
      · by_cases c1 : q2 ≤ t i
        · exact Or.inr ⟨i, a, by omega, by omega⟩
        · exact Or.inr ⟨j, d1, by omega, by omega⟩) ⟨fun j a c => absurd c (by omega), Or.inl ⟨rfl, rfl, rfl⟩⟩
  rw [← hlg, Int.zero_add] at k2
  obtain ⟨k3, k4⟩ := k2
  have k5 : ∃ j : Int, 0 ≤ j ∧ j < n ∧ t j = (lgA (gatherL b S)).1 := k4.elim (fun h9 => absurd h9.2.2 (by omega)) (fun h9 => h9.2.1)
  have k6 : ∃ j : Int, 0 ≤ j ∧ j < n ∧ t j = (lgA (gatherL b S)).2 := k4.elim (fun h9 => absurd h9.2.2 (by omega)) (fun h9 => h9.2.2.elim (fun h8 => ⟨0, by decide, by omega, by rw [h8.1]; exact h8.2 0 (by decide) (by omega)⟩) id)
  -- a third one
  have k7 : ¬ thA (gatherL b S) = 0 ↔ ∃ j : Int, 0 ≤ j ∧ j < n ∧ ¬ t j = (lgA (gatherL b S)).1 ∧ ¬ t j = (lgA (gatherL b S)).2 := by
    have h9 := itr1 (f := thF (gatherL b S) (lgA (gatherL b S)).1 (lgA (gatherL b S)).2) (fun i (x : Int) => ¬ x = 0 ↔ ∃ j : Int, 0 ≤ j ∧ j < i ∧ ¬ t j = (lgA (gatherL b S)).1 ∧ ¬ t j = (lgA (gatherL b S)).2) n 0 0 (fun i x a c e => by
      have h9 := ht i a (by omega)
      unfold thF thP
      rw [h9.1, e]
      have h8 : ∀ P : Prop, ¬ b2 P = 0 ↔ P := fun P => by
        by_cases hp : P
        · rw [b2_t hp]; exact ⟨fun _ => hp, fun _ => by decide⟩
        · rw [b2_f hp]; exact ⟨fun h7 => absurd rfl h7, fun h7 => absurd h7 hp⟩
      rw [h8]
      constructor
      · rintro (⟨j, d1, d2, d3⟩ | d3)
        · exact ⟨j, d1, by omega, d3⟩
        · exact ⟨i, a, by omega, d3⟩
      · rintro ⟨j, d1, d2, d3⟩
        by_cases c1 : j = i
        · subst c1; exact Or.inr d3
        · exact Or.inl ⟨j, d1, by omega, d3⟩) ⟨fun h7 => absurd rfl h7, fun ⟨j, a, c, _⟩ => absurd c (by omega)⟩
    rw [Int.zero_add] at h9
    unfold thA
    rw [hG.1, Int.toNat_natCast, ← hn]
    exact h9
  -- the unlike nights
  have k8 := itr1 (f := cnG (laysM b M)) (fun i q => ∃ A : List Int, A.Nodup ∧ q.2.2 = A.length ∧ ∀ x : Int, x ∈ A ↔ ∃ j : Int, 0 ≤ j ∧ j < i ∧ t j = x) n 0 (1000, 0, 0) (fun i q a c e => by
    obtain ⟨A, a1, a2, a3⟩ := e
    have h9 := ht i a (by omega)
    have hs : seenM (laysM b M) i ↔ t i ∈ A := by
      unfold seenM
      rw [any_iff, a3]
      constructor
      · rintro ⟨j, d1, d2, d3⟩
        rw [(ht j d1 (by omega)).2.1, h9.2.1] at d3
        exact ⟨j, d1, by omega, d3⟩
      · rintro ⟨j, d1, d2, d3⟩
        exact ⟨j, d1, by omega, by rw [(ht j d1 (by omega)).2.1, h9.2.1]; exact d3⟩
    unfold cnG
    by_cases c1 : t i ∈ A
    · refine ⟨A, a1, ?_, fun x => ?_⟩
      · show q.2.2 + (1 - b2 (seenM (laysM b M) i)) = _
        rw [b2_t (hs.mpr c1)]; omega
      · rw [a3]
        constructor
        · rintro ⟨j, d1, d2, d3⟩; exact ⟨j, d1, by omega, d3⟩
        · rintro ⟨j, d1, d2, d3⟩
          by_cases c2 : j = i
          · subst c2; rw [← d3]; exact (a3 _).mp c1
          · exact ⟨j, d1, by omega, d3⟩
    · refine ⟨t i :: A, List.nodup_cons.mpr ⟨c1, a1⟩, ?_, fun x => ?_⟩
      · show q.2.2 + (1 - b2 (seenM (laysM b M) i)) = _
        rw [b2_f (fun h7 => c1 (hs.mp h7)), List.length_cons]; omega
      · rw [List.mem_cons, a3]
        constructor
        · rintro (d | ⟨j, d1, d2, d3⟩)
          · exact ⟨i, a, by omega, d.symm⟩
          · exact ⟨j, d1, by omega, d3⟩
        · rintro ⟨j, d1, d2, d3⟩
          by_cases c2 : j = i
          · subst c2; exact Or.inl d3.symm
          · exact Or.inr ⟨j, d1, by omega, d3⟩) ⟨[], List.nodup_nil, rfl, fun x => ⟨fun h7 => (by cases h7), fun ⟨j, a, c, _⟩ => absurd c (by omega)⟩⟩
  rw [← hcn, Int.zero_add] at k8
  obtain ⟨A, a1, a2, a3⟩ := k8
  unfold longP
  rw [k7, ← k1.1, ← k1.2, a2]
  generalize (lgA (gatherL b S)).1 = lo at *
  generalize (lgA (gatherL b S)).2 = hi9 at *
  have m1 : lo ∈ A := (a3 _).mpr k5
  have m2 : hi9 ∈ A := (a3 _).mpr k6
  constructor
  · rintro ⟨⟨j, d1, d2, d3, d4⟩, d5⟩
    have m3 : t j ∈ A := (a3 _).mpr ⟨j, d1, d2, rfl⟩
    have h9 := nodup_le (l1 := [lo, hi9, t j]) (l2 := A) (by simp; omega) (fun x hx => by
      simp at hx
      rcases hx with rfl | rfl | rfl
      · exact m1
      · exact m2
      · exact m3)
    simp at h9
    omega
  · rintro ⟨d1, d2⟩
    refine ⟨?_, by omega⟩
    refine Classical.byContradiction (fun hno => ?_)
    have h9 := nodup_le (l1 := A) (l2 := [lo, hi9]) a1 (fun x hx => by
      obtain ⟨j, b1, b2, b3⟩ := (a3 x).mp hx
      by_cases c1 : x = lo
      · simp [c1]
      · by_cases c2 : x = hi9
        · simp [c2]
        · exact absurd ⟨j, b1, b2, by rw [b3]; exact c1, by rw [b3]; exact c2⟩ hno)
    simp at h9
    omega
theorem number_iff {S M : ZS} (hM : MB M) (h : Rel S M) (hi : Inv M) {b : Int} (h0 : 0 ≤ b) (h1 : b < M 11 0) : numP S b ↔ cnP M b := by
  have hB : (0 : Int) ≤ M 11 0 ∧ M 11 0 ≤ 20 := hM 11 0
  unfold numP cnP
  rw [(host_at hM h hi h0 h1).1, (num_iff hM h h0 (by omega)).2, long_iff hM h hi h0 h1, cnt_eq hM (h.sc SC_ga) hi h0 h1]
  constructor
  · rintro ⟨a1, a2, ⟨a3, a4⟩, a5⟩; exact ⟨a1, a2, a3, a4, by omega, a5⟩
  · rintro ⟨a1, a2, a3, a4, a5, a6⟩; exact ⟨a1, a2, ⟨a3, a4⟩, a6⟩
theorem number_key {S M : ZS} (hM : MB M) (h : Rel S M) (hi : Inv M) {b : Int} (h0 : 0 ≤ b) (h1 : b < M 11 0) (hc : findM (laysM b M) 21 0 = 1) : oatC (tlAll 0 (findO b S)) 3600 0 0 = findM (laysM b M) 22 0 := by
  have hK := find_keys hM hi h0 h1
  have hlen : (kE M b).length = 1 := by have := hK.1; omega
  have h9 := orbit_eq hM h hi h0 h1 hK (r := 0) (by decide) (by omega)
  rw [← h9]
  have e0 := hK.2 0 (by omega)
  have hl : kE M b = [findM (laysM b M) 22 0] := by
    obtain ⟨x, hx⟩ := List.length_eq_one_iff.mp hlen
    simp only [hx] at e0
    rw [hx]
    simp at e0
    rw [e0]
  have hb := ens_b (findM (laysM b M) 22 0) (by show _ ∈ kE M b; rw [hl]; exact List.mem_singleton.mpr rfl)
  refine kaR_spec hK (r := 0) (y := findM (laysM b M) 22 0) ?_ ?_ 21 0 1457999 hb.1 (by omega) (by decide)
  · rw [hl]; unfold below; rw [List.countP_cons, if_neg (fun h7 => absurd (of_decide_eq_true h7) (by omega))]; simp
  · rw [hl]; unfold below; rw [List.countP_cons, if_pos (decide_eq_true (by omega))]; simp
