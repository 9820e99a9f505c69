/-! each call: together they go on -/
theorem cnt_one {p q : Int → Prop} {x : Int} {n : Nat} (h : ∀ i : Int, 0 ≤ i → i < n → i ≠ x → (p i ↔ q i)) (hp : ¬ p x) (hq : q x) (h0 : 0 ≤ x) (h1 : x < n) : cnt q n = cnt p n + 1 := by
  have key : ∀ m : Nat, m ≤ n → cnt q m = cnt p m + if x < m then 1 else 0 := by
    intro m
    induction m with
    | zero => intro _; rw [if_neg (by omega)]; rfl
    | succ m ih =>
      intro hm
      have h2 := ih (by omega)
      show cnt q m + b2 (q m) = cnt p m + b2 (p m) + _
      by_cases c : (m : Int) = x
      · subst c
        rw [b2_t hq, b2_f hp, h2, if_neg (by omega), if_pos (by omega)]
      · rw [b2_iff (h m (by omega) (by omega) c), h2]
        by_cases c2 : x < m
        · rw [if_pos c2, if_pos (by omega)]; omega
        · rw [if_neg c2, if_neg (by omega)]; omega
  rw [key n (Nat.le_refl _), if_pos h1]
theorem cnt_cg {p q : Int → Prop} {n : Nat} (h : ∀ i : Int, 0 ≤ i → i < n → (p i ↔ q i)) : cnt p n = cnt q n := by
  have h1 := cnt_le (n := n) (fun i a b => (h i a b).mp)
  have h2 := cnt_le (n := n) (fun i a b => (h i a b).mpr)
  omega
theorem ownM_1 {M : ZS} {b d : Int} (h0 : 0 ≤ d) (h1 : d < M 6 0) (h2 : M 10 d = b) : 1 ≤ ownM M b := by
  have h := itr1 (f := fun j (acc : Int) => if M 10 j = b then acc + 1 else acc) (fun i s => 0 ≤ s ∧ (d < i → 1 ≤ s)) (M 6 0).toNat 0 0 (fun i s a c e => by
    show 0 ≤ (if M 10 i = b then s + 1 else s) ∧ (d < i + 1 → 1 ≤ if M 10 i = b then s + 1 else s)
    by_cases c1 : M 10 i = b
    · rw [if_pos c1]; omega
    · rw [if_neg c1]
      refine ⟨e.1, fun h9 => ?_⟩
      by_cases c2 : d = i
      · subst c2; exact absurd h2 c1
      · exact e.2 (by omega)) ⟨Int.le_refl _, fun h9 => absurd h9 (by omega)⟩
  exact h.2 (by omega)
theorem ownM_2 {M : ZS} {b x : Int} (h : 2 ≤ ownM M b) : ∃ d : Int, 0 ≤ d ∧ d < M 6 0 ∧ M 10 d = b ∧ d ≠ x := by
  refine Classical.byContradiction (fun hno => ?_)
  have h9 := itr1 (f := fun j (acc : Int) => if M 10 j = b then acc + 1 else acc) (fun i s => s ≤ if x < i then 1 else 0) (M 6 0).toNat 0 0 (fun i s a c e => by
    show (if M 10 i = b then s + 1 else s) ≤ _
    by_cases c1 : M 10 i = b
    · have c2 : i = x := Classical.byContradiction (fun c3 => hno ⟨i, a, by omega, c1, c3⟩)
      rw [if_pos c1]
      rw [if_neg (by omega)] at e
      rw [if_pos (by omega)]; omega
    · rw [if_neg c1]
      by_cases c2 : x < i
      · rw [if_pos c2] at e; rw [if_pos (by omega)]; exact e
      · rw [if_neg c2] at e
        split <;> omega) (by split <;> omega)
  have h8 : ownM M b ≤ if x < 0 + ((M 6 0).toNat : Int) then 1 else 0 := h9
  split at h8 <;> omega
theorem rel_observatory {S M : ZS} {x0 : Int} (hC : CI S) (hM : MI M) (hR : Rel S M) (hI : Inv M) (h6 : S 20 0 < 6) : Rel (su (su S 0 (rPut 6 (S 0) (S 20 0) x0)) 20 (fun _ => S 20 0 + 1)) (su (su (su M 31 (fun _ => 0)) 2 (up ((su M 31 (fun _ => 0)) 2) ((su M 31 (fun _ => 0)) 1 0) x0)) 1 (fun _ => (su M 31 (fun _ => 0)) 1 0 + 1)) ∧ Inv (su (su (su M 31 (fun _ => 0)) 2 (up ((su M 31 (fun _ => 0)) 2) ((su M 31 (fun _ => 0)) 1 0) x0)) 1 (fun _ => (su M 31 (fun _ => 0)) 1 0 + 1)) := by
  unfold Rel Inv at *
  obtain ⟨nO, nP, nD, nB, nJ, nN, err, seat, night, plate, place, light, shift, own, own0, host, host0, time, num, prop⟩ := hR
  obtain ⟨ownB, hostB, timB, tim, has, num0, num1, numI, numC⟩ := hI
  have hB : (0 : Int) ≤ M 11 0 ∧ M 11 0 ≤ 20 := hM 11 0
  have hD : (0 : Int) ≤ M 6 0 ∧ M 6 0 ≤ 60 := hM 6 0
  have h20 : (0 : Int) ≤ S 20 0 ∧ S 20 0 ≤ 6 := hC 20 0
  refine ⟨⟨?_, nP, nD, nB, nJ, nN, ?_, seat, night, plate, place, light, shift, own, own0, host, host0, time, num, prop⟩, ownB, hostB, timB, tim, has, num0, num1, numI, numC⟩
  · show S 20 0 + 1 = M 1 0 + 1
    rw [nO]
  · intro j j0 j1
    show rPut 6 (S 0) (S 20 0) (x0) j = up (M 2) (M 1 0) (x0) j
    rw [rPut_in (by omega) (by omega)]
    rw [nO]
    by_cases c : j = M 1 0
    · rw [c, up_s, up_s]
    · rw [up_n _ _ c, up_n _ _ c]; exact err j j0 j1
theorem rel_plate {S M : ZS} {x0 x1 : Int} (hC : CI S) (hM : MI M) (hR : Rel S M) (hI : Inv M) (h6 : S 21 0 < 30) : Rel (su (su (su S 1 (rPut 30 (S 1) (S 21 0) x0)) 2 (rPut 30 (S 2) (S 21 0) x1)) 21 (fun _ => S 21 0 + 1)) (su (su (su (su M 31 (fun _ => 0)) 4 (up ((su M 31 (fun _ => 0)) 4) ((su M 31 (fun _ => 0)) 3 0) x0)) 5 (up ((su M 31 (fun _ => 0)) 5) ((su M 31 (fun _ => 0)) 3 0) x1)) 3 (fun _ => (su M 31 (fun _ => 0)) 3 0 + 1)) ∧ Inv (su (su (su (su M 31 (fun _ => 0)) 4 (up ((su M 31 (fun _ => 0)) 4) ((su M 31 (fun _ => 0)) 3 0) x0)) 5 (up ((su M 31 (fun _ => 0)) 5) ((su M 31 (fun _ => 0)) 3 0) x1)) 3 (fun _ => (su M 31 (fun _ => 0)) 3 0 + 1)) := by
  unfold Rel Inv at *
  obtain ⟨nO, nP, nD, nB, nJ, nN, err, seat, night, plate, place, light, shift, own, own0, host, host0, time, num, prop⟩ := hR
  obtain ⟨ownB, hostB, timB, tim, has, num0, num1, numI, numC⟩ := hI
  have hB : (0 : Int) ≤ M 11 0 ∧ M 11 0 ≤ 20 := hM 11 0
  have hD : (0 : Int) ≤ M 6 0 ∧ M 6 0 ≤ 60 := hM 6 0
  have h20 : (0 : Int) ≤ S 21 0 ∧ S 21 0 ≤ 30 := hC 21 0
  refine ⟨⟨nO, ?_, nD, nB, nJ, nN, err, ?_, ?_, plate, place, light, shift, own, own0, host, host0, time, num, prop⟩, ownB, hostB, timB, tim, has, num0, num1, numI, numC⟩
  · show S 21 0 + 1 = M 3 0 + 1
    rw [nP]
  · intro j j0 j1
    show rPut 30 (S 1) (S 21 0) (x0) j = up (M 4) (M 3 0) (x0) j
    rw [rPut_in (by omega) (by omega)]
    rw [nP]
    by_cases c : j = M 3 0
    · rw [c, up_s, up_s]
    · rw [up_n _ _ c, up_n _ _ c]; exact seat j j0 j1
  · intro j j0 j1
    show rPut 30 (S 2) (S 21 0) (x1) j = up (M 5) (M 3 0) (x1) j
    rw [rPut_in (by omega) (by omega)]
    rw [nP]
    by_cases c : j = M 3 0
    · rw [c, up_s, up_s]
    · rw [up_n _ _ c, up_n _ _ c]; exact night j j0 j1
theorem rel_dot {S M : ZS} {x0 x1 x2 : Int} (hC : CI S) (hM : MI M) (hR : Rel S M) (hI : Inv M) (h6 : S 22 0 < 60) : Rel (su (su (su (su S 3 (rPut 60 (S 3) (S 22 0) x0)) 4 (rPut 60 (S 4) (S 22 0) x1)) 5 (rPut 60 (S 5) (S 22 0) x2)) 22 (fun _ => S 22 0 + 1)) (su (su (su (su (su (su M 31 (fun _ => 0)) 7 (up ((su M 31 (fun _ => 0)) 7) ((su M 31 (fun _ => 0)) 6 0) x0)) 8 (up ((su M 31 (fun _ => 0)) 8) ((su M 31 (fun _ => 0)) 6 0) x1)) 9 (up ((su M 31 (fun _ => 0)) 9) ((su M 31 (fun _ => 0)) 6 0) x2)) 10 (up ((su M 31 (fun _ => 0)) 10) ((su M 31 (fun _ => 0)) 6 0) (-1))) 6 (fun _ => (su M 31 (fun _ => 0)) 6 0 + 1)) ∧ Inv (su (su (su (su (su (su M 31 (fun _ => 0)) 7 (up ((su M 31 (fun _ => 0)) 7) ((su M 31 (fun _ => 0)) 6 0) x0)) 8 (up ((su M 31 (fun _ => 0)) 8) ((su M 31 (fun _ => 0)) 6 0) x1)) 9 (up ((su M 31 (fun _ => 0)) 9) ((su M 31 (fun _ => 0)) 6 0) x2)) 10 (up ((su M 31 (fun _ => 0)) 10) ((su M 31 (fun _ => 0)) 6 0) (-1))) 6 (fun _ => (su M 31 (fun _ => 0)) 6 0 + 1)) := by
  unfold Rel Inv at *
  obtain ⟨nO, nP, nD, nB, nJ, nN, err, seat, night, plate, place, light, shift, own, own0, host, host0, time, num, prop⟩ := hR
  obtain ⟨ownB, hostB, timB, tim, has, num0, num1, numI, numC⟩ := hI
  have hB : (0 : Int) ≤ M 11 0 ∧ M 11 0 ≤ 20 := hM 11 0
  have hD : (0 : Int) ≤ M 6 0 ∧ M 6 0 ≤ 60 := hM 6 0
  have h20 : (0 : Int) ≤ S 22 0 ∧ S 22 0 ≤ 60 := hC 22 0
  refine ⟨⟨nO, nP, ?_, nB, nJ, nN, err, seat, night, ?_, ?_, ?_, shift, ?_, ?_, host, host0, time, num, prop⟩, ?_, hostB, timB, tim, ?_, num0, num1, numI, numC⟩
  · show S 22 0 + 1 = M 6 0 + 1
    rw [nD]
  · intro j j0 j1
    show rPut 60 (S 3) (S 22 0) (x0) j = up (M 7) (M 6 0) (x0) j
    rw [rPut_in (by omega) (by omega)]
    rw [nD]
    by_cases c : j = M 6 0
    · rw [c, up_s, up_s]
    · rw [up_n _ _ c, up_n _ _ c]; exact plate j j0 j1
  · intro j j0 j1
    show rPut 60 (S 4) (S 22 0) (x1) j = up (M 8) (M 6 0) (x1) j
    rw [rPut_in (by omega) (by omega)]
    rw [nD]
    by_cases c : j = M 6 0
    · rw [c, up_s, up_s]
    · rw [up_n _ _ c, up_n _ _ c]; exact place j j0 j1
  · intro j j0 j1
    show rPut 60 (S 5) (S 22 0) (x2) j = up (M 9) (M 6 0) (x2) j
    rw [rPut_in (by omega) (by omega)]
    rw [nD]
    by_cases c : j = M 6 0
    · rw [c, up_s, up_s]
    · rw [up_n _ _ c, up_n _ _ c]; exact light j j0 j1
  · intro j j0 j1
    have j1 : j < M 6 0 + 1 := j1
    show S 7 j = up (M 10) (M 6 0) (-1) j
    by_cases c : j = M 6 0
    · rw [c, up_s]; exact own0 _ (Int.le_refl _) (by omega)
    · rw [up_n _ _ c]; exact own j j0 (by omega)
  · intro j j0 j1
    have j0 : M 6 0 + 1 ≤ j := j0
    exact own0 j (by omega) j1
  · intro j j0 j1
    have j1 : j < M 6 0 + 1 := j1
    show up (M 10) (M 6 0) (-1) j < M 11 0
    by_cases c : j = M 6 0
    · rw [c, up_s]; omega
    · rw [up_n _ _ c]; exact ownB j j0 (by omega)
  · intro b b0 b1
    obtain ⟨d, d0, d1, d2⟩ := has b b0 b1
    exact ⟨d, d0, by show d < M 6 0 + 1; omega, by show up (M 10) (M 6 0) (-1) d = b; rw [up_n _ _ (by omega)]; exact d2⟩
theorem rel_shift {S M : ZS} {x0 x1 : Int} (hM : MI M) (hR : Rel S M) (hI : Inv M) (h0 : 0 ≤ x0) (h1 : x0 < 9) : Rel (su S 6 (rPut 9 (S 6) x0 x1)) (su (su M 31 (fun _ => 0)) 0 (up ((su M 31 (fun _ => 0)) 0) x0 x1)) ∧ Inv (su (su M 31 (fun _ => 0)) 0 (up ((su M 31 (fun _ => 0)) 0) x0 x1)) := by
  unfold Rel Inv at *
  obtain ⟨nO, nP, nD, nB, nJ, nN, err, seat, night, plate, place, light, shift, own, own0, host, host0, time, num, prop⟩ := hR
  obtain ⟨ownB, hostB, timB, tim, has, num0, num1, numI, numC⟩ := hI
  have hB : (0 : Int) ≤ M 11 0 ∧ M 11 0 ≤ 20 := hM 11 0
  have hD : (0 : Int) ≤ M 6 0 ∧ M 6 0 ≤ 60 := hM 6 0
  refine ⟨⟨nO, nP, nD, nB, nJ, nN, err, seat, night, plate, place, light, ?_, own, own0, host, host0, time, num, prop⟩, ownB, hostB, timB, tim, has, num0, num1, numI, numC⟩
  · intro j j0 j1
    show rPut 9 (S 6) (x0) (x1) j = up (M 0) (x0) (x1) j
    rw [rPut_in (by omega) (by omega)]
    by_cases c : j = x0
    · rw [c, up_s, up_s]
    · rw [up_n _ _ c, up_n _ _ c]; exact shift j j0 j1
theorem rel_body {S M : ZS} {x0 : Int} (hM : MI M) (hR : Rel S M) (hI : Inv M) (h0 : 0 ≤ x0) (h1 : x0 < M 6 0) (h2 : M 10 x0 = -1) (h3 : M 11 0 < 20) : Rel (su (su S 7 (rPut 60 (S 7) x0 (S 23 0))) 23 (fun _ => S 23 0 + 1)) (su (su (su (su M 31 (fun _ => 0)) 10 (up ((su M 31 (fun _ => 0)) 10) x0 ((su M 31 (fun _ => 0)) 11 0))) 12 (up ((su M 31 (fun _ => 0)) 12) ((su M 31 (fun _ => 0)) 11 0) (-1))) 11 (fun _ => (su M 31 (fun _ => 0)) 11 0 + 1)) ∧ Inv (su (su (su (su M 31 (fun _ => 0)) 10 (up ((su M 31 (fun _ => 0)) 10) x0 ((su M 31 (fun _ => 0)) 11 0))) 12 (up ((su M 31 (fun _ => 0)) 12) ((su M 31 (fun _ => 0)) 11 0) (-1))) 11 (fun _ => (su M 31 (fun _ => 0)) 11 0 + 1)) := by
  unfold Rel Inv at *
  obtain ⟨nO, nP, nD, nB, nJ, nN, err, seat, night, plate, place, light, shift, own, own0, host, host0, time, num, prop⟩ := hR
  obtain ⟨ownB, hostB, timB, tim, has, num0, num1, numI, numC⟩ := hI
  have hB : (0 : Int) ≤ M 11 0 ∧ M 11 0 ≤ 20 := hM 11 0
  have hD : (0 : Int) ≤ M 6 0 ∧ M 6 0 ≤ 60 := hM 6 0
  refine ⟨⟨nO, nP, nD, ?_, nJ, nN, err, seat, night, plate, place, light, shift, ?_, ?_, ?_, ?_, ?_, num, prop⟩, ?_, ?_, ?_, ?_, ?_, ?_, num1, numI, numC⟩
  · show S 23 0 + 1 = M 11 0 + 1
    rw [nB]
  · intro j j0 j1
    have j1 : j < M 6 0 := j1
    show rPut 60 (S 7) x0 (S 23 0) j = up (M 10) x0 (M 11 0) j
    rw [rPut_in h0 (by omega), nB]
    by_cases c : j = x0
    · rw [c, up_s, up_s]
    · rw [up_n _ _ c, up_n _ _ c]; exact own j j0 j1
  · intro j j0 j1
    have j0 : M 6 0 ≤ j := j0
    show rPut 60 (S 7) x0 (S 23 0) j = -1
    rw [rPut_in h0 (by omega), up_n _ _ (by omega)]; exact own0 j j0 j1
  · intro j j0 j1
    have j1 : j < M 11 0 + 1 := j1
    show S 8 j = up (M 12) (M 11 0) (-1) j
    by_cases c : j = M 11 0
    · rw [c, up_s]; exact host0 _ (Int.le_refl _) (by omega)
    · rw [up_n _ _ c]; exact host j j0 (by omega)
  · intro j j0 j1
    have j0 : M 11 0 + 1 ≤ j := j0
    exact host0 j (by omega) j1
  · intro j j0 j1 j2
    have j1 : j < M 11 0 + 1 := j1
    have j2 : up (M 12) (M 11 0) (-1) j ≠ -1 := j2
    by_cases c : j = M 11 0
    · rw [c, up_s] at j2; exact absurd rfl j2
    · rw [up_n _ _ c] at j2; exact time j j0 (by omega) j2
  · intro j j0 j1
    have j1 : j < M 6 0 := j1
    show up (M 10) x0 (M 11 0) j < M 11 0 + 1
    by_cases c : j = x0
    · rw [c, up_s]; omega
    · rw [up_n _ _ c]; have := ownB j j0 j1; omega
  · intro j j0 j1
    have j1 : j < M 11 0 + 1 := j1
    show up (M 12) (M 11 0) (-1) j < M 11 0 + 1
    by_cases c : j = M 11 0
    · rw [c, up_s]; omega
    · rw [up_n _ _ c]; have := hostB j j0 (by omega); omega
  · intro j j0 j1 j2
    have j1 : j < M 11 0 + 1 := j1
    have j2 : up (M 12) (M 11 0) (-1) j ≠ -1 := j2
    by_cases c : j = M 11 0
    · rw [c, up_s] at j2; exact absurd rfl j2
    · rw [up_n _ _ c] at j2; exact timB j j0 (by omega) j2
  · intro j j0 j1 j2 j3
    have j1 : j < M 11 0 + 1 := j1
    have j2 : up (M 12) (M 11 0) (-1) j ≠ -1 := j2
    have j3 : up (M 12) (M 11 0) (-1) (up (M 12) (M 11 0) (-1) j) ≠ -1 := j3
    show M 13 j < M 13 (up (M 12) (M 11 0) (-1) j)
    by_cases c : j = M 11 0
    · rw [c, up_s] at j2; exact absurd rfl j2
    · rw [up_n _ _ c] at j2 j3 ⊢
      have := hostB j j0 (by omega)
      rw [up_n _ _ (by omega)] at j3
      exact tim j j0 (by omega) j2 j3
  · intro b b0 b1
    have b1 : b < M 11 0 + 1 := b1
    by_cases c : b = M 11 0
    · exact ⟨x0, h0, h1, by show up (M 10) x0 (M 11 0) x0 = b; rw [up_s, c]⟩
    · obtain ⟨d, d0, d1, d2⟩ := has b b0 (by omega)
      exact ⟨d, d0, d1, by show up (M 10) x0 (M 11 0) d = b; rw [up_n _ _ (fun e => by rw [e, h2] at d2; omega)]; exact d2⟩
  · intro j j0 j1
    have j0 : M 11 0 + 1 ≤ j := j0
    exact num0 j (by omega) j1
theorem rel_link {S M : ZS} {x0 x1 : Int} (hM : MI M) (hR : Rel S M) (hI : Inv M) (h0 : 0 ≤ x1) (h1 : x1 < M 6 0) (h2 : M 10 x1 = -1) (g0 : 0 ≤ x0) (g1 : x0 < M 11 0) : Rel (su S 7 (rPut 60 (S 7) x1 x0)) (su (su M 31 (fun _ => 0)) 10 (up ((su M 31 (fun _ => 0)) 10) x1 x0)) ∧ Inv (su (su M 31 (fun _ => 0)) 10 (up ((su M 31 (fun _ => 0)) 10) x1 x0)) := by
  unfold Rel Inv at *
  obtain ⟨nO, nP, nD, nB, nJ, nN, err, seat, night, plate, place, light, shift, own, own0, host, host0, time, num, prop⟩ := hR
  obtain ⟨ownB, hostB, timB, tim, has, num0, num1, numI, numC⟩ := hI
  have hB : (0 : Int) ≤ M 11 0 ∧ M 11 0 ≤ 20 := hM 11 0
  have hD : (0 : Int) ≤ M 6 0 ∧ M 6 0 ≤ 60 := hM 6 0
  refine ⟨⟨nO, nP, nD, nB, nJ, nN, err, seat, night, plate, place, light, shift, ?_, ?_, host, host0, time, num, prop⟩, ?_, hostB, timB, tim, ?_, num0, num1, numI, numC⟩
  · intro j j0 j1
    have j1 : j < M 6 0 := j1
    show rPut 60 (S 7) x1 (x0) j = up (M 10) x1 (x0) j
    rw [rPut_in h0 (by omega)]
    by_cases c : j = x1
    · rw [c, up_s, up_s]
    · rw [up_n _ _ c, up_n _ _ c]; exact own j j0 j1
  · intro j j0 j1
    have j0 : M 6 0 ≤ j := j0
    show rPut 60 (S 7) x1 (x0) j = -1
    rw [rPut_in h0 (by omega), up_n _ _ (by omega)]; exact own0 j j0 j1
  · intro j j0 j1
    have j1 : j < M 6 0 := j1
    show up (M 10) x1 x0 j < M 11 0
    by_cases c : j = x1
    · rw [c, up_s]; exact g1
    · rw [up_n _ _ c]; exact ownB j j0 j1
  · intro b b0 b1
    obtain ⟨d, d0, d1, d2⟩ := has b b0 b1
    have b0 : 0 ≤ b := b0
    exact ⟨d, d0, d1, by show up (M 10) x1 x0 d = b; rw [up_n _ _ (fun e => by rw [e, h2] at d2; omega)]; exact d2⟩
theorem rel_unlink {S M : ZS} {x0 x1 : Int} (hM : MI M) (hR : Rel S M) (hI : Inv M) (h0 : 0 ≤ x1) (h1 : x1 < M 6 0) (h2 : M 10 x1 = x0) (g0 : 2 ≤ ownM M x0) : Rel (su S 7 (rPut 60 (S 7) x1 (-1))) (su (su M 31 (fun _ => 0)) 10 (up ((su M 31 (fun _ => 0)) 10) x1 (-1))) ∧ Inv (su (su M 31 (fun _ => 0)) 10 (up ((su M 31 (fun _ => 0)) 10) x1 (-1))) := by
  unfold Rel Inv at *
  obtain ⟨nO, nP, nD, nB, nJ, nN, err, seat, night, plate, place, light, shift, own, own0, host, host0, time, num, prop⟩ := hR
  obtain ⟨ownB, hostB, timB, tim, has, num0, num1, numI, numC⟩ := hI
  have hB : (0 : Int) ≤ M 11 0 ∧ M 11 0 ≤ 20 := hM 11 0
  have hD : (0 : Int) ≤ M 6 0 ∧ M 6 0 ≤ 60 := hM 6 0
  refine ⟨⟨nO, nP, nD, nB, nJ, nN, err, seat, night, plate, place, light, shift, ?_, ?_, host, host0, time, num, prop⟩, ?_, hostB, timB, tim, ?_, num0, num1, numI, numC⟩
  · intro j j0 j1
    have j1 : j < M 6 0 := j1
    show rPut 60 (S 7) x1 (-1) j = up (M 10) x1 (-1) j
    rw [rPut_in h0 (by omega)]
    by_cases c : j = x1
    · rw [c, up_s, up_s]
    · rw [up_n _ _ c, up_n _ _ c]; exact own j j0 j1
  · intro j j0 j1
    have j0 : M 6 0 ≤ j := j0
    show rPut 60 (S 7) x1 (-1) j = -1
    rw [rPut_in h0 (by omega), up_n _ _ (by omega)]; exact own0 j j0 j1
  · intro j j0 j1
    have j1 : j < M 6 0 := j1
    show up (M 10) x1 (-1) j < M 11 0
    by_cases c : j = x1
    · rw [c, up_s]; omega
    · rw [up_n _ _ c]; exact ownB j j0 j1
  · intro b b0 b1
    by_cases c : b = x0
    · subst c
      obtain ⟨d, d0, d1, d2, d3⟩ := ownM_2 (x := x1) g0
      exact ⟨d, d0, d1, by show up (M 10) x1 (-1) d = b; rw [up_n _ _ d3]; exact d2⟩
    · obtain ⟨d, d0, d1, d2⟩ := has b b0 b1
      exact ⟨d, d0, d1, by show up (M 10) x1 (-1) d = b; rw [up_n _ _ (fun e => by rw [e, h2] at d2; exact c d2.symm)]; exact d2⟩
theorem rel_part {S M : ZS} {x0 : Int} (hM : MI M) (hR : Rel S M) (hI : Inv M) {la : Int} (h0 : 0 ≤ la) (h1 : la < M 11 0) : Rel (su S 8 (rPut 20 (S 8) la (-1))) (su (su M 31 (fun _ => 0)) 12 (up ((su M 31 (fun _ => 0)) 12) la (-1))) ∧ Inv (su (su M 31 (fun _ => 0)) 12 (up ((su M 31 (fun _ => 0)) 12) la (-1))) := by
  unfold Rel Inv at *
  obtain ⟨nO, nP, nD, nB, nJ, nN, err, seat, night, plate, place, light, shift, own, own0, host, host0, time, num, prop⟩ := hR
  obtain ⟨ownB, hostB, timB, tim, has, num0, num1, numI, numC⟩ := hI
  have hB : (0 : Int) ≤ M 11 0 ∧ M 11 0 ≤ 20 := hM 11 0
  have hD : (0 : Int) ≤ M 6 0 ∧ M 6 0 ≤ 60 := hM 6 0
  refine ⟨⟨nO, nP, nD, nB, nJ, nN, err, seat, night, plate, place, light, shift, own, own0, ?_, ?_, ?_, num, prop⟩, ownB, ?_, ?_, ?_, has, num0, num1, numI, numC⟩
  · intro j j0 j1
    have j1 : j < M 11 0 := j1
    show rPut 20 (S 8) la (-1) j = up (M 12) la (-1) j
    rw [rPut_in h0 (by omega)]
    by_cases c : j = la
    · rw [c, up_s, up_s]
    · rw [up_n _ _ c, up_n _ _ c]; exact host j j0 j1
  · intro j j0 j1
    have j0 : M 11 0 ≤ j := j0
    show rPut 20 (S 8) la (-1) j = -1
    rw [rPut_in h0 (by omega), up_n _ _ (by omega)]; exact host0 j j0 j1
  · intro j j0 j1 j2
    have j1 : j < M 11 0 := j1
    have j2 : up (M 12) la (-1) j ≠ -1 := j2
    by_cases c : j = la
    · rw [c, up_s] at j2; exact absurd rfl j2
    · rw [up_n _ _ c] at j2; exact time j j0 j1 j2
  · intro j j0 j1
    have j1 : j < M 11 0 := j1
    show up (M 12) la (-1) j < M 11 0
    by_cases c : j = la
    · rw [c, up_s]; omega
    · rw [up_n _ _ c]; exact hostB j j0 j1
  · intro j j0 j1 j2
    have j1 : j < M 11 0 := j1
    have j2 : up (M 12) la (-1) j ≠ -1 := j2
    by_cases c : j = la
    · rw [c, up_s] at j2; exact absurd rfl j2
    · rw [up_n _ _ c] at j2; exact timB j j0 j1 j2
  · intro j j0 j1 j2 j3
    have j1 : j < M 11 0 := j1
    have j2 : up (M 12) la (-1) j ≠ -1 := j2
    have j3 : up (M 12) la (-1) (up (M 12) la (-1) j) ≠ -1 := j3
    show M 13 j < M 13 (up (M 12) la (-1) j)
    by_cases c : j = la
    · rw [c, up_s] at j2; exact absurd rfl j2
    · rw [up_n _ _ c] at j2 j3 ⊢
      by_cases c2 : M 12 j = la
      · rw [c2, up_s] at j3; exact absurd rfl j3
      · rw [up_n _ _ c2] at j3; exact tim j j0 j1 j2 j3
theorem rel_join3 {S M : ZS} {x0 x1 : Int} (hM : MI M) (hR : Rel S M) (hI : Inv M) {r j9 : Int} (r0 : 0 ≤ r) (r1 : r < M 11 0) (w0 : 0 ≤ j9) (w1 : j9 < M 11 0) (hne : r ≠ j9) (hr : M 12 r = -1) : Rel (su (su (su S 8 (rPut 20 (S 8) j9 r)) 24 (fun _ => S 24 0 + 1)) 9 (rPut 20 (S 9) j9 (S 24 0 + 1))) (su (su (su M 12 (up (M 12) j9 r)) 13 (up (M 13) j9 (M 17 0))) 17 (fun _ => M 17 0 + 1)) ∧ Inv (su (su (su M 12 (up (M 12) j9 r)) 13 (up (M 13) j9 (M 17 0))) 17 (fun _ => M 17 0 + 1)) := by
  unfold Rel Inv at *
  obtain ⟨nO, nP, nD, nB, nJ, nN, err, seat, night, plate, place, light, shift, own, own0, host, host0, time, num, prop⟩ := hR
  obtain ⟨ownB, hostB, timB, tim, has, num0, num1, numI, numC⟩ := hI
  have hB : (0 : Int) ≤ M 11 0 ∧ M 11 0 ≤ 20 := hM 11 0
  have hD : (0 : Int) ≤ M 6 0 ∧ M 6 0 ≤ 60 := hM 6 0
  refine ⟨⟨nO, nP, nD, nB, ?_, nN, err, seat, night, plate, place, light, shift, own, own0, ?_, ?_, ?_, num, prop⟩, ownB, ?_, ?_, ?_, has, num0, num1, numI, numC⟩
  · show S 24 0 + 1 = M 17 0 + 1
    rw [nJ]
  · intro j j0 j1
    have j1 : j < M 11 0 := j1
    show rPut 20 (S 8) j9 r j = up (M 12) j9 r j
    rw [rPut_in w0 (by omega)]
    by_cases c : j = j9
    · rw [c, up_s, up_s]
    · rw [up_n _ _ c, up_n _ _ c]; exact host j j0 j1
  · intro j j0 j1
    have j0 : M 11 0 ≤ j := j0
    show rPut 20 (S 8) j9 r j = -1
    rw [rPut_in w0 (by omega), up_n _ _ (by omega)]; exact host0 j j0 j1
  · intro j j0 j1 j2
    have j1 : j < M 11 0 := j1
    have j2 : up (M 12) j9 r j ≠ -1 := j2
    show rPut 20 (S 9) j9 (S 24 0 + 1) j = up (M 13) j9 (M 17 0) j + 1
    rw [rPut_in w0 (by omega), nJ]
    by_cases c : j = j9
    · rw [c, up_s, up_s]
    · rw [up_n _ _ c] at j2
      rw [up_n _ _ c, up_n _ _ c]; exact time j j0 j1 j2
  · intro j j0 j1
    have j1 : j < M 11 0 := j1
    show up (M 12) j9 r j < M 11 0
    by_cases c : j = j9
    · rw [c, up_s]; exact r1
    · rw [up_n _ _ c]; exact hostB j j0 j1
  · intro j j0 j1 j2
    have j1 : j < M 11 0 := j1
    have j2 : up (M 12) j9 r j ≠ -1 := j2
    show up (M 13) j9 (M 17 0) j < M 17 0 + 1
    by_cases c : j = j9
    · rw [c, up_s]; omega
    · rw [up_n _ _ c] at j2 ⊢; have := timB j j0 j1 j2; omega
  · intro j j0 j1 j2 j3
    have j1 : j < M 11 0 := j1
    have j2 : up (M 12) j9 r j ≠ -1 := j2
    have j3 : up (M 12) j9 r (up (M 12) j9 r j) ≠ -1 := j3
    show up (M 13) j9 (M 17 0) j < up (M 13) j9 (M 17 0) (up (M 12) j9 r j)
    by_cases c : j = j9
    · rw [c, up_s, up_n _ _ hne] at j3; exact absurd hr j3
    · rw [up_n _ _ c] at j2 j3 ⊢
      rw [up_n _ _ c]
      by_cases c2 : M 12 j = j9
      · rw [c2, up_s]; exact timB j j0 j1 j2
      · rw [up_n _ _ c2] at j3 ⊢; exact tim j j0 j1 j2 j3
theorem rel_number3 {S M : ZS} {x0 : Int} (hM : MI M) (hR : Rel S M) (hI : Inv M) {y : Int} (h0 : 0 ≤ x0) (h1 : x0 < M 11 0) (h2 : ¬ 0 < M 14 x0) : Rel (su (su (su S 25 (fun _ => S 25 0 + 1)) 10 (rPut 20 (S 10) x0 (S 25 0 + 1))) 11 (rPut 20 (S 11) x0 (y % 405))) (su (su (su (su (su M 31 (fun _ => 0)) 18 (fun _ => (su M 31 (fun _ => 0)) 18 0 + 1)) 14 (up ((su M 31 (fun _ => 0)) 14) x0 ((su M 31 (fun _ => 0)) 18 0 + 1))) 15 (up ((su M 31 (fun _ => 0)) 15) x0 (y % 405 / 5 - 40))) 16 (up ((su M 31 (fun _ => 0)) 16) x0 (y % 5 - 2))) ∧ Inv (su (su (su (su (su M 31 (fun _ => 0)) 18 (fun _ => (su M 31 (fun _ => 0)) 18 0 + 1)) 14 (up ((su M 31 (fun _ => 0)) 14) x0 ((su M 31 (fun _ => 0)) 18 0 + 1))) 15 (up ((su M 31 (fun _ => 0)) 15) x0 (y % 405 / 5 - 40))) 16 (up ((su M 31 (fun _ => 0)) 16) x0 (y % 5 - 2))) := by
  unfold Rel Inv at *
  obtain ⟨nO, nP, nD, nB, nJ, nN, err, seat, night, plate, place, light, shift, own, own0, host, host0, time, num, prop⟩ := hR
  obtain ⟨ownB, hostB, timB, tim, has, num0, num1, numI, numC⟩ := hI
  have hB : (0 : Int) ≤ M 11 0 ∧ M 11 0 ≤ 20 := hM 11 0
  have hD : (0 : Int) ≤ M 6 0 ∧ M 6 0 ≤ 60 := hM 6 0
  have h18 : (0 : Int) ≤ M 18 0 ∧ M 18 0 ≤ 20 := hM 18 0
  refine ⟨⟨nO, nP, nD, nB, nJ, ?_, err, seat, night, plate, place, light, shift, own, own0, host, host0, time, ?_, ?_⟩, ownB, hostB, timB, tim, has, ?_, ?_, ?_, ?_⟩
  · show S 25 0 + 1 = M 18 0 + 1
    rw [nN]
  · intro j j0 j1
    show rPut 20 (S 10) x0 (S 25 0 + 1) j = if 0 < up (M 14) x0 (M 18 0 + 1) j then up (M 14) x0 (M 18 0 + 1) j else -1
    rw [rPut_in h0 (by omega), nN]
    by_cases c : j = x0
    · rw [c, up_s, up_s, if_pos (by omega)]
    · rw [up_n _ _ c, up_n _ _ c]; exact num j j0 j1
  · intro j j0 j1 j2
    have j2 : 0 < up (M 14) x0 (M 18 0 + 1) j := j2
    show up (M 15) x0 (y % 405 / 5 - 40) j = bC (rPut 20 (S 11) x0 (y % 405) j) ∧ up (M 16) x0 (y % 5 - 2) j = cC (rPut 20 (S 11) x0 (y % 405) j)
    rw [rPut_in h0 (by omega)]
    by_cases c : j = x0
    · rw [c, up_s, up_s, up_s]; unfold bC cC; omega
    · rw [up_n _ _ c] at j2
      rw [up_n _ _ c, up_n _ _ c, up_n _ _ c]; exact prop j j0 j1 j2
  · intro j j0 j1
    have j0 : M 11 0 ≤ j := j0
    show up (M 14) x0 (M 18 0 + 1) j = 0
    rw [up_n _ _ (by omega)]; exact num0 j j0 j1
  · intro j j0 j1
    show up (M 14) x0 (M 18 0 + 1) j ≤ M 18 0 + 1
    by_cases c : j = x0
    · rw [c, up_s]; omega
    · rw [up_n _ _ c]; have := num1 j j0 j1; omega
  · intro i j i0 i1 j0 j1 i2 i3
    have i2 : 0 < up (M 14) x0 (M 18 0 + 1) i := i2
    have i3 : up (M 14) x0 (M 18 0 + 1) i = up (M 14) x0 (M 18 0 + 1) j := i3
    by_cases c : i = x0
    · by_cases c2 : j = x0
      · rw [c, c2]
      · rw [c, up_s, up_n _ _ c2] at i3; have := num1 j j0 j1; omega
    · by_cases c2 : j = x0
      · rw [c2, up_s, up_n _ _ c] at i3; have := num1 i i0 i1; omega
      · rw [up_n _ _ c] at i2 i3
        rw [up_n _ _ c2] at i3
        exact numI i j i0 i1 j0 j1 i2 i3
  · show M 18 0 + 1 = cnt (fun i => 0 < up (M 14) x0 (M 18 0 + 1) i) 20
    rw [cnt_one (p := fun i => 0 < M 14 i) (q := fun i => 0 < up (M 14) x0 (M 18 0 + 1) i) (x := x0) (fun i a b c => by rw [up_n _ _ c]) h2 (by rw [up_s]; omega) h0 (by omega), ← numC]
