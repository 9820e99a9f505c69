/-! turning light -/
theorem itr_pair {σ τ : Type} (f : Int → σ → σ) (g : Int → τ → τ) : ∀ (n : Nat) (j : Int) (a : σ) (b : τ), itr (fun i (x : σ × τ) => (f i x.1, g i x.2)) n j (a, b) = (itr f n j a, itr g n j b) := by
  intro n
  induction n with
  | zero => intro j a b; rfl
  | succ n ih => intro j a b; rw [itr_s, itr_s, itr_s]; exact ih (j + 1) (f j a) (g j b)
theorem lr_eq {S M : ZS} (hM : MB M) (h : Rel S M) (hi : Inv M) {b p r : Int} (h0 : 0 ≤ b) : lrC (gatherL b S) p r = flR (laysM b M) p r := by
  have hS : S 22 0 ≤ 60 := by rw [h.nD]; exact dots_60 hM
  have hG := gatherL_has (b := b) hS
  have hL := laysM_has (b := b) (M := M)
  have hl := lk_eq hM h hi h0
  have hat := fun i hi => gatherL_at (b := b) hS i hi
  rw [hl] at hG hat
  have hR : Rel (gatherL b S) M := h.sc SC_ga
  obtain ⟨n, hn⟩ : ∃ n : Nat, n = (lkM M b).length := ⟨_, rfl⟩
  have ht : ∀ i : Int, 0 ≤ i → i < n → nOf (gatherL b S) (rAt 60 (gatherL b S 12) i) = nM (laysM b M) (laysM b M 20 i) ∧ lOf (gatherL b S) (rAt 60 (gatherL b S 12) i) = laysM b M 9 (laysM b M 20 i) ∧ 0 ≤ laysM b M 9 (laysM b M 20 i) ∧ laysM b M 9 (laysM b M 20 i) ≤ 99 := fun i a0 a1 => by
    obtain ⟨j, rfl⟩ := Int.eq_ofNat_of_zero_le a0
    have e1 := hat j (by omega)
    have e2 := hL.2 j (by omega)
    have e3 := lkM_b hM _ (List.getElem_mem (l := lkM M b) (n := j) (by omega))
    have e4 : laysM b M 9 = M 9 := laysM_n (by decide) (by decide)
    rw [e1, e2, nOf_eq hM hR e3.1 e3.2, nM_sm SM_la, e4]
    unfold lOf
    rw [rAt_in e3.1 e3.2, hR.light _ e3.1 e3.2]
    exact ⟨rfl, rfl, hM 9 _⟩
  have k := itr2 (f := lrF (gatherL b S) p r) (g := fun i (x : Int × Int) => (lsF (laysM b M) p r i x.1, msF (laysM b M) p r i x.2)) (fun _ q x => (q = (99, 0) ∧ x = (100, 0)) ∨ (q = x ∧ x.1 ≤ x.2 ∧ 0 ≤ x.1 ∧ x.1 ≤ 99)) n 0 (99, 0) (100, 0) (fun i q x a c e => by
    have h9 := ht i a (by omega)
    obtain ⟨q1, q2⟩ := q
    obtain ⟨x1, x2⟩ := x
    unfold lrF lsF msF
    rw [h9.1, h9.2.1]
    by_cases c1 : nM (laysM b M) (laysM b M 20 i) % p = r
    · rw [if_pos c1]
      simp only [c1, true_and]
      generalize laysM b M 9 (laysM b M 20 i) = l at *
      right
      simp only [Prod.mk.injEq] at e ⊢
      rcases e with ⟨⟨rfl, rfl⟩, rfl, rfl⟩ | ⟨⟨rfl, rfl⟩, e1, e2, e3⟩
      · refine ⟨⟨?_, ?_⟩, ?_, ?_, ?_⟩ <;> repeat' split
        all_goals omega
      · refine ⟨⟨?_, ?_⟩, ?_, ?_, ?_⟩ <;> repeat' split
        all_goals omega
    · rw [if_neg c1]
      simp only [c1, false_and, if_false]
      exact e) (Or.inl ⟨rfl, rfl⟩)
  rw [itr_pair] at k
  have e1 : lrA (gatherL b S) p r = itr (lrF (gatherL b S) p r) n 0 (99, 0) := by unfold lrA; rw [hG.1, Int.toNat_natCast, ← hn]
  have e2 : lsA (laysM b M) p r (laysM b M 19 0).toNat = itr (lsF (laysM b M) p r) n 0 100 := by unfold lsA; rw [hL.1, Int.toNat_natCast, ← hn]
  have e3 : msA (laysM b M) p r (laysM b M 19 0).toNat = itr (msF (laysM b M) p r) n 0 0 := by unfold msA; rw [hL.1, Int.toNat_natCast, ← hn]
  rw [← e1, ← e2, ← e3] at k
  unfold lrC flR
  generalize lrA (gatherL b S) p r = q at *
  generalize lsA (laysM b M) p r (laysM b M 19 0).toNat = x1 at *
  generalize msA (laysM b M) p r (laysM b M 19 0).toNat = x2 at *
  obtain ⟨q1, q2⟩ := q
  simp only [Prod.mk.injEq] at k ⊢
  rcases k with ⟨⟨rfl, rfl⟩, rfl, rfl⟩ | ⟨⟨rfl, rfl⟩, k1, k2, k3⟩
  · decide
  · rw [if_pos (by omega)]; omega
theorem flt_eq {S M : ZS} (hM : MB M) (h : Rel S M) (hi : Inv M) {b p : Int} (h0 : 0 ≤ b) : fltC (gatherL b S) p = flM (laysM b M) p := by
  unfold fltC flM
  exact itr_eq _ _ _ (fun i s _ _ => by
    show s + lrC (gatherL b S) p i = s + flR (laysM b M) p i
    rw [lr_eq hM h hi h0])
theorem turn_eq {S M : ZS} (hM : MB M) (h : Rel S M) (hi : Inv M) {b w : Int} (h0 : 0 ≤ b) : tuC (gatherL b S) w = tuM M b w := by
  have e1 : tuBC (gatherL b S) = tuB (laysM b M) := by
    unfold tuBC tuB
    exact itr_eq _ _ _ (fun i s _ _ => by unfold tuFC tuF; rw [flt_eq hM h hi h0, flt_eq hM h hi h0])
  unfold tuC tuM
  rw [looks_eq hM h hi h0, e1, flt_eq hM h hi h0]
