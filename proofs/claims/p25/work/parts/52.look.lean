/-! the looks of a body, as lists -/
def lkC (S : ZS) (b : Int) : List Int := (rg (S 22 0).toNat 0).filter (fun d => decide (climb (rAt 20 (S 8)) 20 (rAt 60 (S 7) d) b = b))
def lkM (M : ZS) (b : Int) : List Int := (rg (M 6 0).toNat 0).filter (fun d => decide (M 10 d ≠ -1 ∧ climb (M 12) 20 (M 10 d) b = b))
theorem lkC_mem {S : ZS} {b d : Int} : d ∈ lkC S b ↔ 0 ≤ d ∧ d < S 22 0 ∧ lookC S d b := by
  unfold lkC lookC
  rw [List.mem_filter, rg_mem, decide_eq_true_iff]
  constructor
  · rintro ⟨⟨h1, h2⟩, h3⟩; exact ⟨h1, by omega, h3⟩
  · rintro ⟨h1, h2, h3⟩; exact ⟨⟨h1, by omega⟩, h3⟩
theorem lkM_mem {M : ZS} {b d : Int} : d ∈ lkM M b ↔ 0 ≤ d ∧ d < M 6 0 ∧ lookM M d b := by
  unfold lkM lookM
  rw [List.mem_filter, rg_mem, decide_eq_true_iff]
  constructor
  · rintro ⟨⟨h1, h2⟩, h3⟩; exact ⟨h1, by omega, h3⟩
  · rintro ⟨h1, h2, h3⟩; exact ⟨⟨h1, by omega⟩, h3⟩
theorem lkC_sc {S T : ZS} (h : SC S T) (b : Int) : lkC T b = lkC S b := by unfold lkC; rw [h 22 rfl, h 8 rfl, h 7 rfl]
theorem lkM_sm {S T : ZS} (h : SM S T) (b : Int) : lkM T b = lkM S b := by unfold lkM; rw [h 6 rfl, h 10 rfl, h 12 rfl]
theorem datC_sc {S T : ZS} (h : SC S T) : datC T = datC S := by
  funext d; unfold datC nOf tOf eOf oOf pOf
  rw [h 0 rfl, h 1 rfl, h 2 rfl, h 3 rfl, h 4 rfl, h 6 rfl]
theorem datM_sm {S T : ZS} (h : SM S T) : datM T = datM S := by
  funext d; unfold datM nM tM eM
  rw [h 0 rfl, h 2 rfl, h 4 rfl, h 5 rfl, h 7 rfl, h 8 rfl]
theorem lkC_len {S : ZS} (h : S 22 0 ≤ 60) (b : Int) : (lkC S b).length ≤ 60 := by
  have h2 := List.length_filter_le (fun d => decide (climb (rAt 20 (S 8)) 20 (rAt 60 (S 7) d) b = b)) (rg (S 22 0).toNat 0)
  rw [rg_len] at h2
  unfold lkC; omega
theorem laysA_fold {b : Int} {M T : ZS} (h : SM M T) : laysA b T = (lkM M b).foldl (pushR 20 19) T := by
  unfold laysA lkM
  rw [h 6 rfl]
  refine itr_filter (a := pushR 20 19) (fun s => SM M s) (fun s x hs => hs.tr (fun q hq => pushR_n (scm_ne hq rfl) (scm_ne hq rfl))) _ 0 T (fun k s hs _ _ => ?_) h
  unfold laF lookM
  rw [hs 10 rfl, hs 12 rfl]
  by_cases c : M 10 k ≠ -1 ∧ climb (M 12) 20 (M 10 k) b = b
  · rw [cif_t c, if_pos (decide_eq_true c)]; rfl
  · rw [cif_f c, if_neg (fun h9 => c (of_decide_eq_true h9))]
theorem laysM_has {b : Int} {M : ZS} : hasR 20 19 (laysM b M) (lkM M b) := by
  unfold laysM
  rw [laysA_fold (M := M) (SM_su rfl)]
  exact hasR_fold0 (by decide) _ (by rw [su_s])
theorem laysA_has {b : Int} {M T : ZS} {l : List Int} (h : SM M T) (hl : hasR 20 19 T l) : hasR 20 19 (laysA b T) (l ++ lkM M b) := by
  rw [laysA_fold h]
  exact hasR_fold (by decide) _ _ _ hl
theorem addK_has {T : ZS} {l : List Int} (hl : hasR 20 19 T l) (d : Int) : hasR 20 19 (addK T d) (l ++ [d]) := hasR_push (by decide) hl d
theorem dLooks_has {T : ZS} {l : List Int} (h : hasR 20 19 T l) : dLooks T = l.map (datM T) := by
  unfold dLooks
  rw [h.1, Int.toNat_natCast]
  exact rg_list (datM T) l (T 20) 0 (fun i hi => by rw [Int.zero_add]; exact h.2 i hi)
/-! the class's looks and arcs -/
theorem addL_push {T : ZS} {d : Int} (h : 0 ≤ T 26 0 ∧ T 26 0 < 60) : addL T d = pushR 12 26 T d := by
  unfold addL pushR
  rw [rPut_in h.1 h.2]
theorem foldL_has : ∀ (l2 l : List Int) (T : ZS), hasR 12 26 T l → l.length + l2.length ≤ 60 → hasR 12 26 (l2.foldl addL T) (l ++ l2) := by
  intro l2
  induction l2 with
  | nil => intro l T h _; rw [List.append_nil]; exact h
  | cons x l2 ih =>
    intro l T h hb
    rw [List.length_cons] at hb
    have h1 := ih (l ++ [x]) (addL T x) (by rw [addL_push ⟨by rw [h.1]; omega, by rw [h.1]; omega⟩]; exact hasR_push (by decide) h x) (by rw [List.length_append, List.length_singleton]; omega)
    rw [List.append_assoc] at h1
    exact h1
theorem gatherL_fold {b : Int} {S : ZS} : gatherL b S = (lkC S b).foldl addL (su S 26 (fun _ => 0)) := by
  unfold gatherL lkC
  refine itr_filter (a := addL) (fun s => ∀ q : Nat, q ≠ 12 → q ≠ 26 → s q = S q) (fun s x hs q h1 h2 => by rw [addL_n h1 h2, hs q h1 h2]) _ 0 _ (fun k s hs _ _ => ?_) (fun q h1 h2 => su_n _ _ h2)
  unfold gaStep lookC
  rw [hs 8 (by decide) (by decide), hs 7 (by decide) (by decide)]
  by_cases c : climb (rAt 20 (S 8)) 20 (rAt 60 (S 7) k) b = b
  · rw [cif_t c, if_pos (decide_eq_true c)]
  · rw [cif_f c, if_neg (fun h9 => c (of_decide_eq_true h9))]
theorem gatherL_has {b : Int} {S : ZS} (hI : S 22 0 ≤ 60) : hasR 12 26 (gatherL b S) (lkC S b) := by
  rw [gatherL_fold]
  have h := foldL_has (lkC S b) [] (su S 26 (fun _ => 0)) (hasR_0 (by rw [su_s])) (by rw [List.length_nil, Nat.zero_add]; exact lkC_len hI b)
  rw [List.nil_append] at h
  exact h
theorem gatherL_at {b : Int} {S : ZS} (hI : S 22 0 ≤ 60) (i : Nat) (h : i < (lkC S b).length) : rAt 60 (gatherL b S 12) i = (lkC S b)[i] := by
  have := lkC_len hI b
  rw [rAt_in (by omega) (by omega)]
  exact (gatherL_has hI).2 i h
def arcC (T : ZS) (k : Int) : Int × Int := (rAt 405 (T 13) k, rAt 405 (T 14) k)
theorem rAt_put {n : Int} {g : Int → Int} {x v y : Int} (h0 : 0 ≤ x) (h1 : x < n) (g0 : 0 ≤ y) (g1 : y < n) : rAt n (rPut n g x v) y = if y = x then v else rAt n g y := by
  rw [rPut_in h0 h1, rAt_in g0 g1, rAt_in g0 g1]; rfl
theorem knStep_arc {n p e i k : Int} {T : ZS} (h0 : 0 ≤ i) (h1 : i < 405) (g0 : 0 ≤ k) (g1 : k < 405) : arcC (knStep n p e i T) k = if k = i then arcS k (arcC T k) (n, p, e) else arcC T k := by
  unfold knStep arcC arcS knW behC
  by_cases c : k = i
  · subst c
    rw [if_pos rfl]
    split
    · rename_i c2
      simp only [c2, if_true]
      rw [su_s, su_n _ _ (by decide), su_s, rAt_put h0 h1 g0 g1, rAt_put h0 h1 g0 g1, if_pos rfl, if_pos rfl]
    · rename_i c2
      simp only [c2, if_false]
      rw [su_s, su_n _ _ (by decide), rAt_put h0 h1 g0 g1, if_pos rfl]
  · rw [if_neg c]
    split
    · rw [su_s, su_n _ _ (by decide), su_s, rAt_put h0 h1 g0 g1, rAt_put h0 h1 g0 g1, if_neg c, if_neg c]
    · rw [su_s, su_n _ _ (by decide), rAt_put h0 h1 g0 g1, if_neg c]
theorem knAll_arc {n p e k : Int} {T : ZS} (g0 : 0 ≤ k) (g1 : k < 405) : arcC (knAll n p e T) k = arcS k (arcC T k) (n, p, e) := by
  unfold knAll
  have h := itr1 (f := knStep n p e) (fun i s => arcC s k = if k < i then arcS k (arcC T k) (n, p, e) else arcC T k) 405 0 T (fun i s h0 h1 hs => by
    rw [knStep_arc h0 (by omega) g0 g1]
    by_cases c : k = i
    · subst c
      rw [if_pos rfl, if_pos (by omega), hs, if_neg (by omega)]
    · rw [if_neg c, hs]
      by_cases c2 : k < i
      · rw [if_pos c2, if_pos (by omega)]
      · rw [if_neg c2, if_neg (by omega)]) (if_neg (by omega)).symm
  rw [h, if_pos (by omega)]
theorem foldK_arc {k : Int} (g0 : 0 ≤ k) (g1 : k < 405) (F : Int → Int × Int × Int) : ∀ (l : List Int) (T : ZS), arcC (l.foldl (fun T d => knAll (F d).1 (F d).2.1 (F d).2.2 T) T) k = (l.map F).foldl (arcS k) (arcC T k) := by
  intro l
  induction l with
  | nil => intro T; rfl
  | cons d l ih => intro T; rw [List.foldl_cons, ih, List.map_cons, List.foldl_cons, knAll_arc g0 g1]
theorem keepF_arc {b k : Int} {S : ZS} (hI : S 22 0 ≤ 60) (g0 : 0 ≤ k) (g1 : k < 405) : arcC (keepF b S) k = ((lkC S b).map (datC S)).foldl (arcS k) (arcC S k) := by
  have e1 : keepF b S = (lkC S b).foldl (fun T d => knAll (datC S d).1 (datC S d).2.1 (datC S d).2.2 T) (gatherL b S) := by
    unfold keepF
    have hG := gatherL_has (b := b) hI
    have hsc : ∀ s : ZS, (∀ q : Nat, q ≠ 13 → q ≠ 14 → s q = gatherL b S q) → datC s = datC S := fun s hs => by
      have h9 : ∀ q : Nat, q ≠ 13 → q ≠ 14 → q ≠ 12 → q ≠ 26 → s q = S q := fun q a1 a2 a3 a4 => by rw [hs q a1 a2, gatherL_n a3 a4]
      funext d; unfold datC nOf tOf eOf oOf pOf
      rw [h9 0 (by decide) (by decide) (by decide) (by decide), h9 1 (by decide) (by decide) (by decide) (by decide), h9 2 (by decide) (by decide) (by decide) (by decide), h9 3 (by decide) (by decide) (by decide) (by decide), h9 4 (by decide) (by decide) (by decide) (by decide), h9 6 (by decide) (by decide) (by decide) (by decide)]
    rw [hG.1, Int.toNat_natCast, ← itr_list (fun T d => knAll (datC S d).1 (datC S d).2.1 (datC S d).2.2 T) (fun i => rAt 60 (gatherL b S 12) i) (lkC S b) 0 (gatherL b S) (fun i hi => by rw [Int.zero_add]; exact gatherL_at hI i hi)]
    have h2 := itr2 (f := kfStep) (g := fun i s => knAll (datC S (rAt 60 (gatherL b S 12) i)).1 (datC S (rAt 60 (gatherL b S 12) i)).2.1 (datC S (rAt 60 (gatherL b S 12) i)).2.2 s) (fun _ s t => s = t ∧ ∀ q : Nat, q ≠ 13 → q ≠ 14 → s q = gatherL b S q) (lkC S b).length 0 (gatherL b S) (gatherL b S) (fun i s t _ _ hs => by
      obtain ⟨rfl, hs⟩ := hs
      have e9 := hsc s hs
      refine ⟨?_, fun q h1 h2 => ?_⟩
      · unfold kfStep
        rw [hs 12 (by decide) (by decide), ← e9]; rfl
      · unfold kfStep
        rw [knAll_n h1 h2, hs q h1 h2]) ⟨rfl, fun _ _ _ => rfl⟩
    exact h2.1
  rw [e1, foldK_arc g0 g1]
  unfold arcC
  rw [gatherL_n (by decide) (by decide), gatherL_n (by decide) (by decide)]
theorem SC_ta {S : ZS} : SC S (takeAll S) := fun _ hk => takeAll_n (scr_ne hk rfl) (scr_ne hk rfl)
theorem findO_arc {b k : Int} {S : ZS} (hI : S 22 0 ≤ 60) (g0 : 0 ≤ k) (g1 : k < 405) : arcC (findO b S) k = arcL k ((lkC S b).map (datC S)) := by
  unfold findO
  rw [keepF_arc (by rw [SC_ta 22 rfl]; exact hI) g0 g1, lkC_sc SC_ta, datC_sc SC_ta]
  unfold arcL
  congr 1
  unfold arcC takeAll
  rw [su_n _ _ (show (13 : Nat) ≠ 14 by decide), su_s, su_s, rAt_in g0 g1, rAt_in g0 g1]
  unfold rFill
  rw [if_pos ⟨g0, g1⟩, if_pos ⟨g0, g1⟩]
