/-! link and join: may they -/
theorem pOf_at {S M : ZS} (hM : MB M) (h : Rel S M) {d : Int} (h0 : 0 ≤ d) (h1 : d < 60) : pOf S d = M 7 d := by unfold pOf; rw [rAt_in h0 h1, h.plate d h0 h1]
theorem dots_60 {M : ZS} (hM : MB M) : M 6 0 ≤ 60 := (hM 6 0).2
theorem seen_iff {S M : ZS} (hM : MB M) (h : Rel S M) (hi : Inv M) {b p : Int} (hb : 0 ≤ b) : seenP S b p ↔ ∃ d ∈ lkM M b, M 7 d = p := by
  have hB := dots_60 hM
  unfold seenP
  rw [any_iff, h.nD]
  constructor
  · rintro ⟨d, h0, h1, h2, h3⟩
    have h4 : d ∈ lkC S b := lkC_mem.mpr ⟨h0, by rw [h.nD]; omega, h3⟩
    rw [lk_eq hM h hi hb] at h4
    exact ⟨d, h4, by rw [← pOf_at hM h h0 (by omega)]; exact h2⟩
  · rintro ⟨d, hd, h2⟩
    have h3 := lkM_b hM d hd
    rw [← lk_eq hM h hi hb] at hd
    have h4 := lkC_mem.mp hd
    rw [h.nD] at h4
    exact ⟨d, h4.1, by omega, by rw [pOf_at hM h h3.1 h3.2]; exact h2, h4.2.2⟩
theorem onP_iff {T : ZS} {l l2 : List Int} (h : hasR 20 19 T (l ++ l2)) (p : Int) : onP T p l.length ↔ ∃ d ∈ l, T 7 d = p := by
  unfold onP
  rw [any_iff, Int.toNat_natCast]
  constructor
  · rintro ⟨i, h0, h1, h2⟩
    obtain ⟨n, rfl⟩ := Int.eq_ofNat_of_zero_le h0
    have hn : n < l.length := by omega
    have h3 := h.2 n (by rw [List.length_append]; omega)
    rw [List.getElem_append_left hn] at h3
    rw [h3] at h2
    exact ⟨l[n], List.getElem_mem hn, h2⟩
  · rintro ⟨d, hd, h2⟩
    obtain ⟨n, hn, rfl⟩ := List.getElem_of_mem hd
    have h3 := h.2 n (by rw [List.length_append]; omega)
    rw [List.getElem_append_left hn] at h3
    exact ⟨n, by omega, by omega, by rw [h3]; exact h2⟩
theorem ens_pos {A : Int → Int × Int} : 0 < ((ens A).length : Int) ↔ ∃ k : Int, 0 ≤ k ∧ k < 405 ∧ 0 < (A k).2 := by
  constructor
  · intro h
    have h1 : 0 < (ens A).length := by omega
    obtain ⟨k, j, a1, a2, a3, a4, _⟩ := ens_mem.mp (List.getElem_mem h1)
    exact ⟨k, a1, a2, by omega⟩
  · rintro ⟨k, h0, h1, h2⟩
    have h3 : 405 * (((A k).1 + 0) % 3600) + k ∈ ens A := ens_mem.mpr ⟨k, 0, h0, h1, by decide, h2, rfl⟩
    have := List.length_pos_of_mem h3
    omega
theorem find_has {M T : ZS} {l : List Int} (hE : E9 M) (e : SM M T) (hT : hasR 20 19 T l) (hl : l ≠ []) : hasR 22 21 (findM T) (ens (fun k => arcL k (l.map (datM M)))) := by
  have h1 := List.length_pos_iff.mpr hl
  have h := findM_has (hE.sm e) (by rw [hT.1]; omega)
  rw [dLooks_has hT, datM_sm e] at h
  exact h
theorem take_iff {S M : ZS} (hM : MB M) (h : Rel S M) (hi : Inv M) {b d : Int} (h0 : 0 ≤ b) (h1 : b < M 11 0) (d0 : 0 ≤ d) (d1 : d < M 6 0) : takeP (findO b S) b d ↔ clP M b d := by
  have hB := dots_60 hM
  have hR : Rel (findO b S) M := h.sc SC_fo
  have hL := laysM_has (b := b) (M := M)
  unfold takeP clP
  rw [own_at hM hR d0 d1, (host_at hM hR hi h0 h1).1, seen_iff hM hR hi h0, pOf_at hM hR d0 (by omega)]
  have e1 : onP (laysM b M) (M 7 d) (laysM b M 19 0) ↔ ∃ x ∈ lkM M b, M 7 x = M 7 d := by
    rw [hL.1, onP_iff (l2 := []) (by rw [List.append_nil]; exact hL), laysM_n (by decide) (by decide)]
  have e2 : 0 < findM (addK (laysM b M) d) 21 0 ↔ anyI (hnP (findO b S) (nOf (findO b S) d) (tOf (findO b S) d) (eOf (findO b S) d)) 405 0 := by
    rw [(find_has (E9.of hM) (SM_la.tr SM_ad) (addK_has hL d) (by simp)).1, ens_pos, any_iff]
    have e3 : ∀ k : Int, 0 ≤ k → k < 405 → (0 < (arcL k ((lkM M b ++ [d]).map (datM M))).2 ↔ hnP (findO b S) (nOf (findO b S) d) (tOf (findO b S) d) (eOf (findO b S) d) k) := fun k g0 g1 => by
      have e4 : arcL k ((lkM M b ++ [d]).map (datM M)) = arcS k (arcC (findO b S) k) (datC (findO b S) d) := by
        rw [find_arc hM h hi h0 g0 g1, dat_eq hM hR d0 (by omega), List.map_append]
        unfold arcL Ak
        rw [List.foldl_append]; rfl
      rw [e4]
      unfold hnP arcS arcC behC datC
      exact Iff.rfl
    constructor
    · rintro ⟨k, g0, g1, g2⟩; exact ⟨k, g0, by omega, (e3 k g0 g1).mp g2⟩
    · rintro ⟨k, g0, g1, g2⟩; exact ⟨k, g0, by omega, (e3 k g0 (by omega)).mpr g2⟩
  rw [e1, e2]
theorem num_iff {S M : ZS} (hM : MB M) (h : Rel S M) {b : Int} (h0 : 0 ≤ b) (h1 : b < 20) : rAt 20 (S 10) b = (if 0 < M 14 b then M 14 b else -1) ∧ (rAt 20 (S 10) b = -1 ↔ ¬ 0 < M 14 b) := by
  rw [rAt_in h0 h1, h.num b h0 h1]
  refine ⟨rfl, ?_⟩
  by_cases c : 0 < M 14 b
  · rw [if_pos c]; exact ⟨fun h9 => by omega, fun h9 => absurd c h9⟩
  · rw [if_neg c]; exact ⟨fun _ => c, fun _ => rfl⟩
theorem cj_has {M : ZS} {b o : Int} : hasR 20 19 (cjL M b o) (lkM M b ++ lkM M o) := by
  unfold cjL
  exact laysA_has SM_la laysM_has
theorem may_iff {S M : ZS} (hM : MB M) (h : Rel S M) (hi : Inv M) {b o : Int} (h0 : 0 ≤ b) (g0 : 0 ≤ o) : mayP M b o ↔ ¬ shareP S b o := by
  have hB := dots_60 hM
  have hJ := cj_has (M := M) (b := b) (o := o)
  have hL := laysM_has (b := b) (M := M)
  have e7 : cjL M b o 7 = M 7 := by unfold cjL; rw [laysA_n (by decide) (by decide), laysM_n (by decide) (by decide)]
  have e1 : shareP S b o ↔ ∃ d ∈ lkM M b, ∃ x ∈ lkM M o, M 7 x = M 7 d := by
    unfold shareP
    rw [any_iff, h.nD]
    constructor
    · rintro ⟨d, a0, a1, a2, a3⟩
      have a4 : d ∈ lkC S b := lkC_mem.mpr ⟨a0, by rw [h.nD]; omega, a2⟩
      rw [lk_eq hM h hi h0] at a4
      rw [seen_iff hM h hi g0, pOf_at hM h a0 (by omega)] at a3
      exact ⟨d, a4, a3⟩
    · rintro ⟨d, hd, hx⟩
      have a3 := lkM_b hM d hd
      have a5 := (lkM_mem.mp hd)
      rw [← lk_eq hM h hi h0] at hd
      have a4 := lkC_mem.mp hd
      exact ⟨d, a4.1, by omega, a4.2.2, by rw [seen_iff hM h hi g0, pOf_at hM h a3.1 a3.2]; exact hx⟩
  rw [e1]
  unfold mayP
  rw [any_iff, hL.1, hJ.1, e7]
  refine not_congr ?_
  constructor
  · rintro ⟨i, a0, a1, a2⟩
    obtain ⟨n, rfl⟩ := Int.eq_ofNat_of_zero_le (show 0 ≤ i by omega)
    rw [List.length_append] at a1
    have a3 := hJ.2 n (by rw [List.length_append]; omega)
    rw [List.getElem_append_right (by omega)] at a3
    have a2 := Classical.not_not.mp a2
    rw [onP_iff hJ, e7, a3] at a2
    obtain ⟨d, hd, e⟩ := a2
    exact ⟨d, hd, _, List.getElem_mem _, e.symm⟩
  · rintro ⟨d, hd, x, hx, e⟩
    obtain ⟨n, hn, rfl⟩ := List.getElem_of_mem hx
    have a3 := hJ.2 (n + (lkM M b).length) (by rw [List.length_append]; omega)
    rw [List.getElem_append_right (by omega)] at a3
    refine ⟨((n + (lkM M b).length : Nat) : Int), by omega, by rw [List.length_append]; omega, ?_⟩
    intro h9
    apply h9
    rw [onP_iff hJ, e7, a3]
    refine ⟨d, hd, ?_⟩
    rw [← e]; congr 2; omega
theorem join_iff {S M : ZS} (hM : MB M) (h : Rel S M) (hi : Inv M) {b o : Int} (h0 : 0 ≤ b) (h1 : b < M 11 0) (g0 : 0 ≤ o) (g1 : o < M 11 0) : joinP S b o ↔ cjP M b o := by
  have hB : (0 : Int) ≤ M 11 0 ∧ M 11 0 ≤ 20 := hM 11 0
  have hS : S 22 0 ≤ 60 := by rw [h.nD]; exact dots_60 hM
  unfold joinP cjP preJ
  rw [(host_at hM h hi h0 h1).1, (host_at hM h hi g0 g1).1, may_iff hM h hi h0 g0]
  have e1 : (rAt 20 (S 10) b ≠ -1 ∧ rAt 20 (S 10) o ≠ -1) ↔ (0 < M 14 b ∧ 0 < M 14 o) := by
    rw [Ne, Ne, (num_iff hM h h0 (by omega)).2, (num_iff hM h g0 (by omega)).2, Classical.not_not, Classical.not_not]
  have e2 : cntO (keepF o (findO b S)) = findM (cjL M b o) 21 0 := by
    have hd : ∀ d ∈ (lkM M b ++ lkM M o).map (datM M), okD d := fun d hd => by
      obtain ⟨x, _, rfl⟩ := List.mem_map.mp hd
      exact datM_ok (E9.of hM) x
    have hsm : SM M (cjL M b o) := by unfold cjL; exact SM_la.tr SM_laA
    rw [(find_has (E9.of hM) hsm cj_has (fun e => lkM_ne hi h0 h1 (List.append_eq_nil_iff.mp e).1)).1]
    refine cntO_len (fun k a c => ?_) (fun k _ _ => (arcL_ok hd).1.2.2.1)
    rw [keepF_arc (by rw [SC_fo 22 rfl]; exact hS) a c, find_arc hM h hi h0 a c, lkC_sc SC_fo, datC_sc SC_fo, lk_eq hM h hi g0, dats_eq hM h (lkM_b hM), List.map_append]
    unfold arcL Ak
    rw [List.foldl_append]; rfl
  rw [e1, e2]
  constructor
  · rintro ⟨⟨a1, a2, a3, a4, a5⟩, a6⟩; exact ⟨⟨a1, a2, a3, a4⟩, a5, a6⟩
  · rintro ⟨⟨a1, a2, a3, a4⟩, a5, a6⟩; exact ⟨⟨a1, a2, a3, a4, a5⟩, a6⟩
theorem nOf_eq {S M : ZS} (hM : MB M) (h : Rel S M) {d : Int} (h0 : 0 ≤ d) (h1 : d < 60) : nOf S d = nM M d := congrArg (fun q => q.1) (dat_eq hM h h0 h1)
/-- the first look -/
theorem first_eq {S M : ZS} (hM : MB M) (h : Rel S M) (hi : Inv M) {b : Int} (h0 : 0 ≤ b) (h1 : b < M 11 0) : firstL (gatherL b S) = firstM (laysM b M) ∧ 0 ≤ firstM (laysM b M) ∧ firstM (laysM b M) < 60 := by
  have hS : S 22 0 ≤ 60 := by rw [h.nD]; exact dots_60 hM
  have hG := gatherL_has (b := b) hS
  have hL := laysM_has (b := b) (M := M)
  have hl := lk_eq hM h hi h0
  have hat := fun i hi => gatherL_at (b := b) hS i hi
  have hlen := lkC_len hS b
  rw [hl] at hG hat hlen
  have hp := List.length_pos_iff.mpr (lkM_ne hi h0 h1)
  have hR : Rel (gatherL b S) M := h.sc SC_ga
  have hat2 : ∀ i : Int, 0 ≤ i → i < (lkM M b).length → rAt 60 (gatherL b S 12) i = laysM b M 20 i ∧ 0 ≤ laysM b M 20 i ∧ laysM b M 20 i < 60 := fun i a0 a1 => by
    obtain ⟨n, rfl⟩ := Int.eq_ofNat_of_zero_le a0
    have e1 := hat n (by omega)
    have e2 := hL.2 n (by omega)
    rw [e1, e2]
    exact ⟨rfl, lkM_b hM _ (List.getElem_mem _)⟩
  unfold firstL firstM
  rw [hG.1, hL.1]
  have h9 := itr2 (f := fun i f => if nOf (gatherL b S) (rAt 60 (gatherL b S 12) i) < nOf (gatherL b S) f then rAt 60 (gatherL b S 12) i else f) (g := fun i f => if nM (laysM b M) (laysM b M 20 i) < nM (laysM b M) f then laysM b M 20 i else f) (fun _ s t => s = t ∧ 0 ≤ t ∧ t < 60) (((lkM M b).length : Int) - 1).toNat 1 (rAt 60 (gatherL b S 12) 0) (laysM b M 20 0) (fun i s t a0 a1 e => by
    obtain ⟨rfl, e0, e1⟩ := e
    have h8 := hat2 i (by omega) (by omega)
    show (if nOf (gatherL b S) (rAt 60 (gatherL b S 12) i) < nOf (gatherL b S) s then rAt 60 (gatherL b S 12) i else s) = (if nM (laysM b M) (laysM b M 20 i) < nM (laysM b M) s then laysM b M 20 i else s) ∧ _
    rw [h8.1, nOf_eq hM hR h8.2.1 h8.2.2, nOf_eq hM hR e0 e1, nM_sm SM_la, nM_sm SM_la]
    refine ⟨rfl, ?_⟩
    split
    · exact h8.2
    · exact ⟨e0, e1⟩) (hat2 0 (by decide) (by omega))
  exact h9
theorem strong_eq {S M : ZS} (hM : MB M) (h : Rel S M) (hi : Inv M) {b o : Int} (h0 : 0 ≤ b) (h1 : b < M 11 0) (g0 : 0 ≤ o) (g1 : o < M 11 0) : cif (strongP S b o) b o = strM M b o := by
  have hB : (0 : Int) ≤ M 11 0 ∧ M 11 0 ≤ 20 := hM 11 0
  have n1 : (0 : Int) ≤ M 14 b ∧ M 14 b ≤ 20 := hM 14 b
  have n2 : (0 : Int) ≤ M 14 o ∧ M 14 o ≤ 20 := hM 14 o
  have f1 := first_eq hM h hi h0 h1
  have hR : Rel (gatherL b S) (laysM b M) := (h.sc SC_ga).sm (fun q hq => laysM_n (by omega) (by omega))
  have e18 : ∀ q : Nat, q ≤ 18 → laysM b M q = M q := fun q hq => laysM_n (by omega) (by omega)
  have f2 := first_eq (hM.sm e18) hR (hi.sm e18) g0 (by rw [e18 11 (by decide)]; exact g1)
  unfold strM strongP strP strQ
  rw [f1.1, f2.1, nOf_eq hM h f1.2.1 f1.2.2, nOf_eq hM h f2.2.1 f2.2.2]
  have e1 := (num_iff hM h h0 (show b < 20 by omega)).2
  have e2 := (num_iff hM h g0 (show o < 20 by omega)).2
  congr 1
  refine propext ?_
  rw [Ne, e1, e2]
  omega
