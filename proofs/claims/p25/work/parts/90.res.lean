/-! what asks tells, by the numbers M; when links, joins and numbers may -/
theorem ask_body {S M T L L9 : ZS} {r d : Int} (h : DK S M) (hG : GL L M) (hN : NX M) (d0 : 0 ≤ d) (d1 : d < 40) (hc : M 11 0 < 12) (hp : L9 = L ∧ (pst_body S d r T ∨ (r = -70007 ∧ pxx_body S d xIOB T) ∨ (r = -70008 ∧ pxx_body S d xISE T))) : L9 = L ∧ ((M 10 d = -1 ∧ r = M 11 0 ∧ DK T (mBody M d) ∧ GL (su (su L 0 (up (L 0) d (L 0 d + 10800000 * (M 11 0 + 1)))) 4 (up (L 4) 3 (M 11 0 + 1))) (mBody M d) ∧ NX (mBody M d)) ∨ (¬ M 10 d = -1 ∧ r = -70008 ∧ DK T M)) := by
  obtain ⟨hL, hp⟩ := hp
  refine ⟨hL, ?_⟩
  have q0 := GL.c hG
  have hn := h.n
  have ho := own_at h.B h.2.2.1 (d := d) d0 (by omega)
  rcases hp with hp | ⟨hr, hp⟩ | ⟨hr, hp⟩
  · have hp2 := hp
    unfold pst_body at hp2
    have hd : M 10 d = -1 := by rw [← ho]; exact hp2.2.1
    exact Or.inl ⟨hd, body_step h hG hN d0 d1 hd hc hp⟩
  · unfold pxx_body at hp
    rcases hp.1 with ⟨e, -⟩ | ⟨-, -, e⟩ | ⟨-, -, -, e⟩
    · omega
    · exact absurd e (by decide)
    · exact absurd e (by decide)
  · unfold pxx_body at hp
    refine Or.inr ⟨fun hd => ?_, hr, h.sc hp.2.1 hp.2.2⟩
    rcases hp.1 with ⟨-, e⟩ | ⟨-, e, -⟩ | ⟨-, -, e, -⟩
    · exact absurd e (by decide)
    · exact e (by rw [ho]; exact hd)
    · omega
theorem ask_link {S M T L L9 : ZS} {r b d : Int} (h : DK S M) (hG : GL L M) (hN : NX M) (h0 : 0 ≤ b) (h1 : b < M 11 0) (d0 : 0 ≤ d) (d1 : d < 40) (hp : L9 = L ∧ (pst_link S b d r T ∨ (r = -70007 ∧ pxx_link S b d xIOB T) ∨ (r = -70008 ∧ pxx_link S b d xISE T))) : L9 = L ∧ ((clP M b d ∧ r = lkN M b + 1 ∧ DK T (mLink M b d) ∧ GL (su L 0 (up (L 0) d (L 0 d + 10800000 * (b + 1)))) (mLink M b d) ∧ NX (mLink M b d)) ∨ (¬ clP M b d ∧ r = -70008 ∧ DK T M)) := by
  obtain ⟨hL, hp⟩ := hp
  refine ⟨hL, ?_⟩
  have q0 := GL.c hG
  have hn := h.n
  have ht := take_iff h.B h.2.2.1 h.2.2.2 h0 h1 d0 (show d < M 6 0 by omega)
  rcases hp with hp | ⟨hr, hp⟩ | ⟨hr, hp⟩
  · have hp2 := hp
    unfold pst_link at hp2
    have hc : clP M b d := ht.mp hp2.2.2.1
    exact Or.inl ⟨hc, link_step h hG hN h0 h1 d0 d1 hc hp⟩
  · unfold pxx_link at hp
    rcases hp.1 with ⟨e, -⟩ | ⟨-, e, -⟩ | ⟨-, -, -, e⟩
    · omega
    · omega
    · exact absurd e (by decide)
  · unfold pxx_link at hp
    refine Or.inr ⟨fun hc => ?_, hr, h.sc hp.2.1 hp.2.2⟩
    rcases hp.1 with ⟨-, e⟩ | ⟨-, -, e⟩ | ⟨-, -, e, -⟩
    · exact absurd e (by decide)
    · exact absurd e (by decide)
    · exact e (ht.mpr hc)
theorem ask_unlink {S M T L L9 : ZS} {r b d : Int} (h : DK S M) (hG : GL L M) (hN : NX M) (h0 : 0 ≤ b) (h1 : b < M 11 0) (d0 : 0 ≤ d) (d1 : d < 40) (hp : L9 = L ∧ (pst_unlink S b d r T ∨ (r = -70007 ∧ pxx_unlink S b d xIOB T) ∨ (r = -70008 ∧ pxx_unlink S b d xISE T))) : L9 = L ∧ (((M 10 d = b ∧ 2 ≤ ownM M b) ∧ r = ownM M b - 1 ∧ DK T (mLink M (-1) d) ∧ GL (su L 0 (up (L 0) d (L 0 d - 10800000 * (b + 1)))) (mLink M (-1) d) ∧ NX (mLink M (-1) d)) ∨ (¬ (M 10 d = b ∧ 2 ≤ ownM M b) ∧ r = -70008 ∧ DK T M)) := by
  obtain ⟨hL, hp⟩ := hp
  refine ⟨hL, ?_⟩
  have q0 := GL.c hG
  have hn := h.n
  have ho := own_at h.B h.2.2.1 (d := d) d0 (by omega)
  have hw := own_eq h.B h.2.2.1 h0
  rcases hp with hp | ⟨hr, hp⟩ | ⟨hr, hp⟩
  · have hp2 := hp
    unfold pst_unlink at hp2
    have hc := hp2.2.2.1
    rw [ho, hw] at hc
    exact Or.inl ⟨⟨hc.1, by omega⟩, unlink_step h hG hN h0 h1 d0 d1 hc.1 (by omega) hp⟩
  · unfold pxx_unlink at hp
    rcases hp.1 with ⟨e, -⟩ | ⟨-, e, -⟩ | ⟨-, -, -, e⟩
    · omega
    · omega
    · exact absurd e (by decide)
  · unfold pxx_unlink at hp
    refine Or.inr ⟨fun hc => ?_, hr, h.sc hp.2.1 hp.2.2⟩
    rcases hp.1 with ⟨-, e⟩ | ⟨-, -, e⟩ | ⟨-, -, e, -⟩
    · exact absurd e (by decide)
    · exact absurd e (by decide)
    · exact e ⟨by rw [ho]; exact hc.1, by rw [hw]; omega⟩
theorem ask_part {S M T L L9 : ZS} {r b i : Int} (h : DK S M) (hG : GL L M) (hN : NX M) (h0 : 0 ≤ b) (h1 : b < M 11 0) (hi : i = lateM M b) (hp : L9 = L ∧ (pst_part S b r T ∨ (r = -70007 ∧ pxx_part S b xIOB T) ∨ (r = -70008 ∧ pxx_part S b xISE T))) : L9 = L ∧ ((0 ≤ i ∧ r = i ∧ i < M 11 0 ∧ DK T (mPart M i) ∧ GL (su L 3 (up (L 3) (5 * i) 0)) (mPart M i) ∧ NX (mPart M i)) ∨ (i = -1 ∧ r = -70008 ∧ DK T M)) := by
  obtain ⟨hL, hp⟩ := hp
  refine ⟨hL, ?_⟩
  have hn := h.n
  obtain ⟨le, lb⟩ := late_eq h.B h.2.2.1 h.2.2.2 h0
  rw [← hi] at le lb
  rcases hp with hp | ⟨hr, hp⟩ | ⟨hr, hp⟩
  · have hp2 := hp
    unfold pst_part at hp2
    have hc := hp2.2.1
    rw [le] at hc
    have i0 : 0 ≤ i := by rcases lb with h9 | h9; exact absurd h9 hc; exact h9.1
    exact Or.inl ⟨i0, part_step h hG hN h0 h1 hi i0 hp⟩
  · unfold pxx_part at hp
    rcases hp.1 with ⟨e, -⟩ | ⟨-, -, e⟩
    · omega
    · exact absurd e (by decide)
  · unfold pxx_part at hp
    refine Or.inr ⟨?_, hr, h.sc hp.2.1 hp.2.2⟩
    rcases hp.1 with ⟨-, e⟩ | ⟨-, e, -⟩
    · exact absurd e (by decide)
    · rw [le] at e
      exact Classical.byContradiction (fun h9 => e h9)
theorem strM_eq {L M : ZS} (hG : GL L M) {b o : Int} (h0 : 0 ≤ b) (h1 : b < M 11 0) (g0 : 0 ≤ o) (g1 : o < M 11 0) : strM M b o = cif (strQ M b o (fsN M b) (fsN M o)) b o := by
  have e1 := (fsN_first hG h0 h1).1
  have e2 : firstM (laysM o (laysM b M)) = fsN M o := by
    rw [(fsN_first hG g0 g1).1]
    have hne := lkM_ne hG.2.2 g0 g1
    have el : lkM (laysM b M) o = lkM M o := lkM_sm SM_la o
    have en : ∀ x, nM (laysM b M) x = nM M x := fun x => by
      unfold nM
      rw [laysM_n (r := 5) (by decide) (by decide), laysM_n (r := 7) (by decide) (by decide)]
    cases hl : lkM M o with
    | nil => exact absurd hl hne
    | cons d l =>
      rw [firstM_fold hl, firstM_fold (el.trans hl)]
      simp only [en]
  unfold strM
  rw [← e1, e2]
theorem ask_join {S M T L L9 : ZS} {r b o : Int} (h : DK S M) (hG : GL L M) (hN : NX M) (h0 : 0 ≤ b) (h1 : b < M 11 0) (g0 : 0 ≤ o) (g1 : o < M 11 0) (hj : M 17 0 < 100000) (hp : L9 = L ∧ (pst_join S b o r T ∨ (r = -70007 ∧ pxx_join S b o xIOB T) ∨ (r = -70008 ∧ pxx_join S b o xISE T))) : L9 = L ∧ ((cjP M b o ∧ r = cif (strQ M b o (fsN M b) (fsN M o)) b o ∧ ∀ w t : Int, r = t → ((t = b ∧ w = o) ∨ (t = o ∧ w = b)) → DK T (mJoin M w t) ∧ GL (su (su (su L 4 (up (L 4) 4 (M 17 0 + 1))) 3 (up (L 3) (5 * w) (t + 1))) 3 (up (up (L 3) (5 * w) (t + 1)) (5 * w + 1) (M 17 0 + 1))) (mJoin M w t) ∧ NX (mJoin M w t)) ∨ (¬ cjP M b o ∧ r = -70008 ∧ DK T M)) := by
  obtain ⟨hL, hp⟩ := hp
  refine ⟨hL, ?_⟩
  have hn := h.n
  have ht := join_iff h.B h.2.2.1 h.2.2.2 h0 h1 g0 g1
  rcases hp with hp | ⟨hr, hp⟩ | ⟨hr, hp⟩
  · unfold pst_join at hp
    obtain ⟨_, _, hc, ⟨Q, q1, q2, q3, q4⟩, hCT⟩ := hp
    have hc := ht.mp hc
    have hQR : Rel Q M := h.2.2.1.sc q1
    have hs := strong_eq h.B hQR h.2.2.2 h0 h1 g0 g1
    rw [strM_eq hG h0 h1 g0 g1] at hs
    refine Or.inl ⟨hc, q3.trans hs, fun w t e htw => ?_⟩
    subst e
    have hne := hc.1.1
    have z0 : M 12 b = -1 := hc.1.2.1
    have z1 : M 12 o = -1 := hc.1.2.2.1
    have hw : (if r = b then o else b) = w := by
      rcases htw with ⟨e1, e2⟩ | ⟨e1, e2⟩
      · rw [if_pos e1, e2]
      · rw [if_neg (fun h9 => hne (by rw [← h9, e1])), e2]
    unfold jnC at q4
    rw [hw] at q4
    rcases htw with ⟨e1, e2⟩ | ⟨e1, e2⟩
    · exact join_step hCT h.2.1 hQR h.2.2.2 hG hN (by omega) (by omega) (by omega) (by omega) (by rw [e1, e2]; exact hne) (by rw [e1]; exact z0) hj q4
    · exact join_step hCT h.2.1 hQR h.2.2.2 hG hN (by omega) (by omega) (by omega) (by omega) (by rw [e1, e2]; exact fun e => hne e.symm) (by rw [e1]; exact z1) hj q4
  · unfold pxx_join at hp
    rcases hp.1 with ⟨e, -⟩ | ⟨-, e, -⟩ | ⟨-, -, -, e⟩
    · omega
    · omega
    · exact absurd e (by decide)
  · unfold pxx_join at hp
    refine Or.inr ⟨fun hc => ?_, hr, h.sc hp.2.1 hp.2.2⟩
    rcases hp.1 with ⟨-, e⟩ | ⟨-, -, e⟩ | ⟨-, -, e, -⟩
    · exact absurd e (by decide)
    · exact absurd e (by decide)
    · exact e (ht.mpr hc)
theorem ask_number {S M T L L9 : ZS} {r b : Int} (h : DK S M) (hG : GL L M) (hN : NX M) (h0 : 0 ≤ b) (h1 : b < M 11 0) (hp : L9 = L ∧ (pst_number S b r T ∨ (r = -70007 ∧ pxx_number S b xIOB T) ∨ (r = -70008 ∧ pxx_number S b xISE T))) : L9 = L ∧ ((cnP M b ∧ r = M 18 0 + 1 ∧ ∃ y : Int, y ∈ kE M b ∧ DK T (mNum M b y) ∧ NX (mNum M b y) ∧ ∀ v3 v4 : Int, v3 = y % 405 / 5 - 40 → v4 = y % 5 - 2 → GL (su (su (su (su L 4 (up (L 4) 5 (M 18 0 + 1))) 3 (up (L 3) (5 * b + 2) (M 18 0 + 1))) 3 (up (up (L 3) (5 * b + 2) (M 18 0 + 1)) (5 * b + 3) v3)) 3 (up (up (up (L 3) (5 * b + 2) (M 18 0 + 1)) (5 * b + 3) v3) (5 * b + 4) v4)) (mNum M b y)) ∨ (¬ cnP M b ∧ r = -70008 ∧ DK T M)) := by
  obtain ⟨hL, hp⟩ := hp
  refine ⟨hL, ?_⟩
  have hn := h.n
  have ht := number_iff h.B h.2.2.1 h.2.2.2 h0 h1
  rcases hp with hp | ⟨hr, hp⟩ | ⟨hr, hp⟩
  · unfold pst_number at hp
    obtain ⟨_, hc, hr, hs, hCT⟩ := hp
    have h20 := hnn_of h h0 (by omega) hc
    have hc := ht.mp hc
    have hg : Rel (gatherL b S) M := h.2.2.1.sc SC_ga
    have hk := find_keys h.B h.2.2.2 h0 h1
    have hy := number_key h.B hg h.2.2.2 h0 h1 hc.2.2.2.2.2
    have hlen : (kE M b).length = 1 := by have := hk.1; have := hc.2.2.2.2.2; omega
    have hk0 := hk.2 0 (by omega)
    have hmem : findM (laysM b M) 22 0 ∈ kE M b := by
      have e : findM (laysM b M) 22 0 = (kE M b)[0] := hk0
      rw [e]
      exact List.getElem_mem _
    have hb9 := ens_b _ hmem
    rw [hy] at hs
    obtain ⟨a1, a2, a3⟩ := num_step h hG hN h0 h1 hc.2.1 hb9 (by omega) hCT hs
    exact Or.inl ⟨hc, by rw [hr]; omega, _, hmem, a1, a2, a3⟩
  · unfold pxx_number at hp
    rcases hp.1 with ⟨e, -⟩ | ⟨-, -, e⟩
    · omega
    · exact absurd e (by decide)
  · unfold pxx_number at hp
    refine Or.inr ⟨fun hc => ?_, hr, h.sc hp.2.1 hp.2.2⟩
    rcases hp.1 with ⟨-, e⟩ | ⟨-, e, -⟩
    · exact absurd e (by decide)
    · exact e (ht.mpr hc)
/-! when a dot may be linked, bodies joined, a number given: the law's words -/
theorem arc_ex {k : Int} {L : List (Int × Int × Int)} (hd : ∀ d ∈ L, okD d) : 0 < (arcL k L).2 ↔ ∃ a : Int, ∀ d ∈ L, nearD k a d := by
  obtain ⟨⟨q1, q2, q3, q4⟩, -, q6⟩ := arcL_ok (k := k) hd
  constructor
  · intro h
    exact ⟨(arcL k L).1, (q6 _).mp (by unfold inA; rw [Int.sub_self]; exact h)⟩
  · rintro ⟨a, ha⟩
    have h := (q6 a).mpr ha
    unfold inA at h
    have := Int.emod_nonneg (a - (arcL k L).1) (show (3600 : Int) ≠ 0 by decide)
    omega
theorem ens_ex {M : ZS} (hE : E9 M) {l1 l2 : List Int} (h : ∀ x, x ∈ l1 ↔ x ∈ l2) : 0 < ((ens (fun k => arcL k (l1.map (datM M)))).length : Int) ↔ 0 < ((ens (fun k => arcL k (l2.map (datM M)))).length : Int) := by
  have hok : ∀ l : List Int, ∀ d ∈ l.map (datM M), okD d := fun l d hd => by
    obtain ⟨x, _, rfl⟩ := List.mem_map.mp hd
    exact datM_ok hE x
  have key : ∀ k : Int, 0 < (arcL k (l1.map (datM M))).2 ↔ 0 < (arcL k (l2.map (datM M))).2 := fun k => by
    rw [arc_ex (hok l1), arc_ex (hok l2)]
    constructor
    · rintro ⟨a, ha⟩
      exact ⟨a, fun d hd => by obtain ⟨x, hx, rfl⟩ := List.mem_map.mp hd; exact ha _ (List.mem_map_of_mem ((h x).mpr hx))⟩
    · rintro ⟨a, ha⟩
      exact ⟨a, fun d hd => by obtain ⟨x, hx, rfl⟩ := List.mem_map.mp hd; exact ha _ (List.mem_map_of_mem ((h x).mp hx))⟩
  rw [ens_pos, ens_pos]
  constructor
  · rintro ⟨k, a, c, d⟩; exact ⟨k, a, c, (key k).mp d⟩
  · rintro ⟨k, a, c, d⟩; exact ⟨k, a, c, (key k).mpr d⟩
theorem oL_mem {M : ZS} {b o d x : Int} : x ∈ oL M b o d ↔ (0 ≤ x ∧ x < 40) ∧ oPr M b o d x := by
  unfold oL
  rw [fl_mem]
  constructor
  · rintro ⟨⟨a, c⟩, e⟩; exact ⟨⟨a, by omega⟩, e⟩
  · rintro ⟨⟨a, c⟩, e⟩; exact ⟨⟨a, by omega⟩, e⟩
theorem oG_1 {M : ZS} {b o d x : Int} (h : x ∈ oL M b o d) : 1 ≤ (oG M b o d).2 ∧ 1 ≤ (oL M b o d).length := by
  have h1 := (oG_has (M := M) (b := b) (o := o) (d := d)).1
  have := List.length_pos_of_mem h
  omega
theorem GL.lkm {L M : ZS} (h : GL L M) {b x : Int} : x ∈ lkM M b ↔ (0 ≤ x ∧ x < 40) ∧ lookM M x b := by
  have q0 := GL.c h
  rw [lkM_mem]
  constructor
  · rintro ⟨a, c, e⟩; exact ⟨⟨a, by omega⟩, e⟩
  · rintro ⟨⟨a, c⟩, e⟩; exact ⟨a, by omega, e⟩
theorem cl_law {L M : ZS} (hG : GL L M) {b d : Int} (d0 : 0 ≤ d) (d1 : d < 40) : clP M b d ↔ (M 10 d = -1 ∧ M 12 b = -1 ∧ (∀ k : Int, 0 ≤ k → k < 40 → lookM M k b → ¬ M 7 k = M 7 d) ∧ 0 < orN M b (-1) d) := by
  have hE := E9.of hG.2.1
  have hmem : d ∈ oL M b (-1) d := oL_mem.mpr ⟨⟨d0, d1⟩, Or.inr (Or.inr rfl)⟩
  have e1 := orN_len hE (oG_1 hmem).2
  have h20 := laysM_has (b := b) (M := M)
  have e7 : laysM b M 7 = M 7 := laysM_n (by decide) (by decide)
  have hon : onP (laysM b M) (M 7 d) (laysM b M 19 0) ↔ ∃ k ∈ lkM M b, M 7 k = M 7 d := by
    have h9 := onP_iff (T := laysM b M) (l := lkM M b) (l2 := []) (by rw [List.append_nil]; exact h20) (M 7 d)
    rw [h20.1, h9, e7]
  have hf := find_has hE (SM_la.tr (show SM (laysM b M) (addK (laysM b M) d) from fun k hk => by unfold addK; rw [su_n _ _ (scm_ne hk rfl), su_n _ _ (scm_ne hk rfl)])) (addK_has h20 d) (by simp)
  have e2 : findM (addK (laysM b M) d) 21 0 = (ens (fun k => arcL k ((lkM M b ++ [d]).map (datM M)))).length := hf.1
  have e3 := ens_ex hE (l1 := oL M b (-1) d) (l2 := lkM M b ++ [d]) (fun x => by
    rw [oL_mem, List.mem_append, GL.lkm hG, List.mem_singleton]
    unfold oPr
    constructor
    · rintro ⟨a, c | c | c⟩
      · exact Or.inl ⟨a, c⟩
      · exact absurd c.1 (by decide)
      · exact Or.inr c
    · rintro (⟨a, c⟩ | rfl)
      · exact ⟨a, Or.inl c⟩
      · exact ⟨⟨d0, d1⟩, Or.inr (Or.inr rfl)⟩)
  unfold clP
  rw [hon, e2, e1, ← e3]
  constructor
  · rintro ⟨a1, a2, a3, a4⟩
    exact ⟨a1, a2, fun k k0 k1 hk he => a3 ⟨k, (GL.lkm hG).mpr ⟨⟨k0, k1⟩, hk⟩, he⟩, a4⟩
  · rintro ⟨a1, a2, a3, a4⟩
    exact ⟨a1, a2, fun ⟨k, hk, he⟩ => a3 k ((GL.lkm hG).mp hk).1.1 ((GL.lkm hG).mp hk).1.2 ((GL.lkm hG).mp hk).2 he, a4⟩
theorem sh_law {S L M : ZS} (h : DK S M) (hG : GL L M) {b o : Int} (h0 : 0 ≤ b) (g0 : 0 ≤ o) : mayP M b o ↔ ¬ shN M b o := by
  have q0 := GL.c hG
  rw [may_iff h.B h.2.2.1 h.2.2.2 h0 g0]
  refine not_congr ?_
  unfold shareP shN
  rw [any_iff, any_iff]
  have hn := h.n
  have hbd : ∀ x, x ∈ lkM M b → 0 ≤ x ∧ x < 40 := fun x hx => ((GL.lkm hG).mp hx).1
  constructor
  · rintro ⟨d, a1, a2, a3, a4⟩
    have d40 : d < 40 := by omega
    have hd : lookM M d b := (look_iff h.B h.2.2.1 h.2.2.2 a1 (by omega) h0).mp a3
    obtain ⟨e, he, hp⟩ := (seen_iff h.B h.2.2.1 h.2.2.2 g0).mp a4
    rw [pOf_at h.B h.2.2.1 a1 (by omega)] at hp
    have hm := (GL.lkm hG).mp he
    refine ⟨d * 40 + e, by omega, by omega, ?_⟩
    rw [show (d * 40 + e) / 40 = d by omega, show (d * 40 + e) % 40 = e by omega]
    exact ⟨hp.symm, hd, hm.2⟩
  · rintro ⟨j, a1, a2, a3, a4, a5⟩
    have b1 : 0 ≤ j / 40 ∧ j / 40 < 40 := by omega
    have b2' : 0 ≤ j % 40 ∧ j % 40 < 40 := by omega
    refine ⟨j / 40, b1.1, by omega, (look_iff h.B h.2.2.1 h.2.2.2 b1.1 (by omega) h0).mpr a4, (seen_iff h.B h.2.2.1 h.2.2.2 g0).mpr ⟨j % 40, (GL.lkm hG).mpr ⟨b2', a5⟩, ?_⟩⟩
    rw [pOf_at h.B h.2.2.1 b1.1 (by omega)]
    exact a3.symm
theorem cj_law {S L M : ZS} (h : DK S M) (hG : GL L M) {b o : Int} (h0 : 0 ≤ b) (h1 : b < M 11 0) (g0 : 0 ≤ o) (g1 : o < M 11 0) : cjP M b o ↔ (b ≠ o ∧ M 12 b = -1 ∧ M 12 o = -1 ∧ ¬ (0 < M 14 b ∧ 0 < M 14 o) ∧ ¬ shN M b o ∧ 0 < orN M b o (-1)) := by
  have hE := E9.of hG.2.1
  have hne := lkM_ne hG.2.2 h0 h1
  obtain ⟨d, hd⟩ := List.exists_mem_of_ne_nil _ hne
  have hd9 := (GL.lkm hG).mp hd
  have hmem : d ∈ oL M b o (-1) := oL_mem.mpr ⟨hd9.1, Or.inl hd9.2⟩
  have e1 := orN_len hE (oG_1 hmem).2
  have hf := find_has hE (show SM M (cjL M b o) from fun k hk => by unfold cjL; rw [laysA_n (scm_ne hk rfl) (scm_ne hk rfl), laysM_n (scm_ne hk rfl) (scm_ne hk rfl)]) (cj_has (M := M) (b := b) (o := o)) (by simp [hne])
  have e2 : findM (cjL M b o) 21 0 = (ens (fun k => arcL k ((lkM M b ++ lkM M o).map (datM M)))).length := hf.1
  have e3 := ens_ex hE (l1 := oL M b o (-1)) (l2 := lkM M b ++ lkM M o) (fun x => by
    rw [oL_mem, List.mem_append, GL.lkm hG, GL.lkm hG]
    unfold oPr
    constructor
    · rintro ⟨a, c | c | c⟩
      · exact Or.inl ⟨a, c⟩
      · exact Or.inr ⟨a, c.2⟩
      · omega
    · rintro (⟨a, c⟩ | ⟨a, c⟩)
      · exact ⟨a, Or.inl c⟩
      · exact ⟨a, Or.inr (Or.inl ⟨g0, c⟩)⟩)
  unfold cjP
  rw [sh_law h hG h0 g0, e2, e1, ← e3]
  constructor
  · rintro ⟨⟨a1, a2, a3, a4⟩, a5, a6⟩; exact ⟨a1, a2, a3, a4, a5, a6⟩
  · rintro ⟨a1, a2, a3, a4, a5, a6⟩; exact ⟨⟨a1, a2, a3, a4⟩, a5, a6⟩
theorem str_law {M : ZS} {b o f1 f2 : Int} (hb : 0 ≤ M 14 b) (ho : 0 ≤ M 14 o) (hn : ¬ (0 < M 14 b ∧ 0 < M 14 o)) : strQ M b o f1 f2 ↔ (0 < M 14 b ∨ (M 14 o = 0 ∧ (nM M f1 < nM M f2 ∨ (nM M f1 = nM M f2 ∧ f1 < f2)))) := by
  unfold strQ
  omega
