/-! what is found: the same keys -/
theorem plM_key {a k t : Int} (h0 : 0 ≤ a) (h1 : a < 3600) (g0 : 0 ≤ k) (g1 : k < 405) : plM (405 * a + k) t = (a + dC k t) % 3600 := by
  have e1 : (405 * a + k) / 405 = a := by omega
  have e2 : (405 * a + k) % 405 = k := by omega
  have e3 : (405 * a + k) % 5 = k % 5 := by omega
  unfold plM
  rw [e1, e2, e3]; rfl
theorem ens_mem {A : Int → Int × Int} {x : Int} : x ∈ ens A ↔ ∃ k j : Int, 0 ≤ k ∧ k < 405 ∧ 0 ≤ j ∧ j < (A k).2 ∧ x = 405 * (((A k).1 + j) % 3600) + k := by
  unfold ens ens1
  rw [List.mem_flatMap]
  constructor
  · rintro ⟨k, hk, hx⟩
    obtain ⟨j, hj, rfl⟩ := List.mem_map.mp hx
    have hk := rg_mem.mp hk
    have hj := rg_mem.mp hj
    exact ⟨k, j, by omega, by omega, by omega, by omega, rfl⟩
  · rintro ⟨k, j, h1, h2, h3, h4, rfl⟩
    exact ⟨k, rg_mem.mpr ⟨h1, by omega⟩, List.mem_map.mpr ⟨j, rg_mem.mpr ⟨h3, by omega⟩, rfl⟩⟩
theorem ens_cong {A B : Int → Int × Int} (h : ∀ k : Int, 0 ≤ k → k < 405 → A k = B k) : ens A = ens B := by
  have h2 : (rg 405 0).map (fun k => ens1 k (A k)) = (rg 405 0).map (fun k => ens1 k (B k)) := List.map_congr_left (fun k hk => by rw [h k (rg_mem.mp hk).1 (by have := (rg_mem.mp hk).2; omega)])
  unfold ens
  rw [List.flatMap_def, List.flatMap_def, h2]
theorem sum_len {A : Int → Int × Int} (hA : ∀ k : Int, 0 ≤ k → k < 405 → 0 ≤ (A k).2) : ∀ (n : Nat) (j a : Int), 0 ≤ j → j + n ≤ 405 → itr (fun k acc => acc + (A k).2) n j a = a + (((rg n j).flatMap (fun k => ens1 k (A k))).length : Int) := by
  intro n
  induction n with
  | zero => intro j a _ _; rw [itr_0]; simp [rg]
  | succ n ih =>
    intro j a h0 h1
    rw [itr_s, ih (j + 1) _ (by omega) (by omega), rg, List.flatMap_cons, List.length_append]
    have e : ((ens1 j (A j)).length : Int) = (A j).2 := by
      unfold ens1
      rw [List.length_map, rg_len]
      exact Int.toNat_of_nonneg (hA j h0 (by omega))
    omega
theorem cntO_len {T : ZS} {A : Int → Int × Int} (hA : ∀ k : Int, 0 ≤ k → k < 405 → arcC T k = A k) (h0 : ∀ k : Int, 0 ≤ k → k < 405 → 0 ≤ (A k).2) : cntO T = (ens A).length := by
  have e : cntO T = itr (fun k acc => acc + (A k).2) 405 0 0 := by
    unfold cntO
    have h2 := itr2 (f := fun k acc => acc + rAt 405 (T 14) k) (g := fun k acc => acc + (A k).2) (fun _ s t => s = t) 405 0 0 0 (fun i s t a b e => by
      show s + rAt 405 (T 14) i = t + (A i).2
      rw [e, ← hA i a (by omega)]; rfl) rfl
    exact h2
  rw [e, sum_len h0 405 0 0 (by decide) (by decide)]
  unfold ens
  omega
def bump (r : Nat) (T : ZS) (p : Int) : ZS := su T r (up (T r) p (T r p + 1))
theorem bump_n {r q : Nat} {T : ZS} {p : Int} (h : q ≠ r) : bump r T p q = T q := su_n _ _ h
theorem foldB_n {r q : Nat} (h : q ≠ r) {α : Type} (g : α → Int) : ∀ (l : List α) (T : ZS), l.foldl (fun T x => bump r T (g x)) T q = T q := by
  intro l
  induction l with
  | nil => intro T; rfl
  | cons x l ih => intro T; rw [List.foldl_cons, ih, bump_n h]
theorem foldB_at {r : Nat} {α : Type} (g : α → Int) (p : Int) : ∀ (l : List α) (T : ZS), l.foldl (fun T x => bump r T (g x)) T r p = T r p + (l.countP (fun x => decide (g x = p)) : Int) := by
  intro l
  induction l with
  | nil => intro T; simp
  | cons x l ih =>
    intro T
    rw [List.foldl_cons, ih, List.countP_cons]
    unfold bump
    rw [su_s]
    by_cases c : g x = p
    · rw [c, up_s, if_pos (decide_eq_true rfl)]; omega
    · rw [up_n _ _ (fun e => c e.symm), if_neg (fun h9 => c (of_decide_eq_true h9))]; omega
theorem tl_bump {f st : Int} {T : ZS} : tlStep f st T = bump 15 T ((f + st) % 3600) := by
  unfold tlStep bump
  rw [rPut_in (by omega) (by omega), rAt_in (by omega) (by omega)]
theorem tlAll_fold {n : Int} {S : ZS} {A : Int → Int × Int} (hA : ∀ k : Int, 0 ≤ k → k < 405 → arcC S k = A k) : tlAll n S = (ens A).foldl (fun T x => bump 15 T (plM x n)) (su S 15 (rFill 3600 (S 15) 0)) := by
  unfold tlAll ens
  refine itr_flat (f := tlRow n) (a := fun T x => bump 15 T (plM x n)) (h := fun k => ens1 k (A k)) (fun s => s 13 = S 13 ∧ s 14 = S 14) (fun s x hs => ⟨by rw [bump_n (by decide)]; exact hs.1, by rw [bump_n (by decide)]; exact hs.2⟩) 405 0 _ (fun k s hs h0 h1 => ?_) ⟨su_n _ _ (by decide), su_n _ _ (by decide)⟩
  unfold tlRow ens1
  have e1 : rAt 405 (s 13) k = (A k).1 := by rw [hs.1, ← hA k h0 (by omega)]; rfl
  have e2 : rAt 405 (s 14) k = (A k).2 := by rw [hs.2, ← hA k h0 (by omega)]; rfl
  rw [e1, e2]
  have h3 := itr2 (f := tlStep ((A k).1 + dC k n)) (g := fun j T => bump 15 T (plM (405 * (((A k).1 + j) % 3600) + k) n)) (fun _ s t => s = t) (A k).2.toNat 0 s s (fun i s t _ _ e => by
    show tlStep _ i s = bump 15 t _
    rw [e, tl_bump, plM_key (by omega) (by omega) h0 (by omega)]
    congr 1; omega) rfl
  have h4 := itr_map (fun T x => bump 15 T (plM x n)) (fun j => 405 * (((A k).1 + j) % 3600) + k) (A k).2.toNat 0 s
  exact h3.trans h4
/-- how many of the keys are at a place -/
def often (l : List Int) (n p : Int) : Int := l.countP (fun x => decide (plM x n = p))
theorem tlAll_at {n p : Int} {S : ZS} {A : Int → Int × Int} (hA : ∀ k : Int, 0 ≤ k → k < 405 → arcC S k = A k) (h0 : 0 ≤ p) (h1 : p < 3600) : rAt 3600 (tlAll n S 15) p = often (ens A) n p := by
  rw [rAt_in h0 h1, tlAll_fold hA, foldB_at]
  rw [su_s]
  unfold rFill often
  rw [if_pos ⟨h0, h1⟩]; omega
theorem spM_at {b t p : Int} {M : ZS} {l : List Int} (hl : hasR 22 21 (spB b M) l) (h0 : spB b M 23 p = 0) : spM b t M 23 p = often l t p := by
  unfold spM
  rw [hl.1, Int.toNat_natCast]
  have h2 := itr2 (f := spF t) (g := fun k T => bump 23 T (plM (spB b M 22 k) t)) (fun _ s u => s = u ∧ s 22 = spB b M 22) l.length 0 (spB b M) (spB b M) (fun i s u _ _ e => by
    obtain ⟨rfl, e⟩ := e
    refine ⟨?_, ?_⟩
    · unfold spF bump; rw [e]
    · unfold spF; rw [su_n _ _ (by decide), e]) ⟨rfl, rfl⟩
  rw [h2.1]
  have h3 := itr_list (fun T x => bump 23 T (plM x t)) (fun k => spB b M 22 k) l 0 (spB b M) (fun i hi => by rw [Int.zero_add]; exact hl.2 i hi)
  rw [h3, foldB_at, h0]
  unfold often; omega
theorem zr_at {M : ZS} {p : Int} (h0 : 0 ≤ p) (h1 : p < 3600) : itr zrF 3600 0 M 23 p = 0 := by
  have h := itr1 (f := zrF) (fun i s => p < i → s 23 p = 0) 3600 0 M (fun i s a b hs c => by
    unfold zrF
    rw [su_s]
    by_cases e : p = i
    · rw [e, up_s]
    · rw [up_n _ _ e]; exact hs (by omega)) (fun h9 => absurd h9 (by omega))
  exact h (by omega)
theorem zrf_n {M : ZS} {q : Nat} (h : q ≠ 23) : itr zrF 3600 0 M q = M q := itr_keep (fun _ _ => su_n _ _ h) _ _ _
theorem SM_zr {M : ZS} : SM M (itr zrF 3600 0 M) := fun _ hk => zrf_n (scm_ne hk rfl)
/-- the keys of a body's orbits -/
def kE (M : ZS) (b : Int) : List Int := ens (Ak M b)
theorem Ak_ok {M : ZS} (hM : MB M) (b k : Int) : okA (Ak M b k) := (arcL_ok (dts_ok hM b)).1
theorem Ak_19 {M : ZS} (hM : MB M) (hi : Inv M) {b : Int} (h0 : 0 ≤ b) (h1 : b < M 11 0) (k : Int) : (Ak M b k).2 ≤ 19 := (arcL_ok (dts_ok hM b)).2.1 (fun e => lkM_ne hi h0 h1 (by unfold dts at e; exact List.map_eq_nil_iff.mp e))
theorem lays_1 {M : ZS} (hi : Inv M) {b : Int} (h0 : 0 ≤ b) (h1 : b < M 11 0) : 1 ≤ laysM b M 19 0 := by
  have h2 := (laysM_has (b := b) (M := M)).1
  have h3 := List.length_pos_iff.mpr (lkM_ne hi h0 h1)
  omega
theorem find_keys {M : ZS} (hM : MB M) (hi : Inv M) {b : Int} (h0 : 0 ≤ b) (h1 : b < M 11 0) : hasR 22 21 (findM (laysM b M)) (kE M b) := by
  have h := findM_has ((E9.of hM).sm (SM_la (b := b))) (lays_1 hi h0 h1)
  rw [dLooks_lays] at h
  exact h
theorem cnt_eq {S M : ZS} (hM : MB M) (h : Rel S M) (hi : Inv M) {b : Int} (h0 : 0 ≤ b) (h1 : b < M 11 0) : cntO (findO b S) = findM (laysM b M) 21 0 := by
  rw [cntO_len (fun k a c => find_arc hM h hi h0 a c) (fun k _ _ => (Ak_ok hM b k).2.2.1), (find_keys hM hi h0 h1).1]; rfl
theorem spB_keys {M : ZS} (hM : MB M) (hi : Inv M) {b : Int} (h0 : 0 ≤ b) (h1 : b < M 11 0) : hasR 22 21 (spB b M) (kE M b) := by
  unfold spB
  have e1 : ∀ q : Nat, q ≤ 18 → itr zrF 3600 0 M q = M q := fun q hq => zrf_n (by omega)
  have h9 : lkM (itr zrF 3600 0 M) b = lkM M b := lkM_sm SM_zr b
  have h8 : dts (itr zrF 3600 0 M) b = dts M b := by unfold dts; rw [h9, datM_sm SM_zr]
  have h7 : 1 ≤ laysM b (itr zrF 3600 0 M) 19 0 := by
    have h2 := (laysM_has (b := b) (M := itr zrF 3600 0 M)).1
    have h3 := List.length_pos_iff.mpr (lkM_ne hi h0 h1)
    rw [h9] at h2
    omega
  have h := findM_has ((E9.of hM).sm (SM_zr.tr (SM_la (b := b)))) h7
  rw [dLooks_lays, h8] at h
  exact h
theorem spM_tl {S M : ZS} (hM : MB M) (h : Rel S M) (hi : Inv M) {b n p : Int} (h0 : 0 ≤ b) (h1 : b < M 11 0) (p0 : 0 ≤ p) (p1 : p < 3600) : rAt 3600 (tlAll n (findO b S) 15) p = spM b n M 23 p := by
  rw [tlAll_at (fun k a c => find_arc hM h hi h0 a c) p0 p1, spM_at (spB_keys hM hi h0 h1) (by
    unfold spB
    rw [findM_n (by decide) (by decide), laysM_n (by decide) (by decide)]
    exact zr_at p0 p1)]
  rfl
theorem spread_eq {S M : ZS} (hM : MB M) (h : Rel S M) (hi : Inv M) {b n : Int} (h0 : 0 ≤ b) (h1 : b < M 11 0) : spreadN (tlAll n (findO b S)) = sprM (spM b n M) := by
  unfold spreadN sprM
  have h2 := itr2 (f := fun p acc => if 0 < rAt 3600 (tlAll n (findO b S) 15) p then acc + 1 else acc) (g := fun p acc => if 0 < spM b n M 23 p then acc + 1 else acc) (fun _ (s t : Int) => s = t) 3600 0 0 0 (fun i s t a c e => by
    show (if 0 < rAt 3600 (tlAll n (findO b S) 15) i then s + 1 else s) = (if 0 < spM b n M 23 i then t + 1 else t)
    rw [e, spM_tl hM h hi h0 h1 a (by omega)]) rfl
  exact h2
theorem nthC_c {p q : Int → Prop} [DecidablePred p] [DecidablePred q] {d : Int} : ∀ (n : Nat) (j r : Int), (∀ i : Int, j ≤ i → i < j + n → (p i ↔ q i)) → nthC p d n j r = nthC q d n j r := by
  intro n
  induction n with
  | zero => intro j r _; rfl
  | succ n ih =>
    intro j r h
    have h0 := h j (by omega) (by omega)
    show (if p j then (if r = 0 then j else nthC p d n (j + 1) (r - 1)) else nthC p d n (j + 1) r) = (if q j then (if r = 0 then j else nthC q d n (j + 1) (r - 1)) else nthC q d n (j + 1) r)
    rw [ih (j + 1) (r - 1) (fun i a b => h i (by omega) (by omega)), ih (j + 1) r (fun i a b => h i (by omega) (by omega))]
    by_cases c : p j
    · rw [if_pos c, if_pos (h0.mp c)]
    · rw [if_neg c, if_neg (fun h9 => c (h0.mpr h9))]
theorem place_eq {S M : ZS} (hM : MB M) (h : Rel S M) (hi : Inv M) {b n r : Int} (h0 : 0 ≤ b) (h1 : b < M 11 0) : placeN (tlAll n (findO b S)) r = plcM (spM b n M) r := by
  unfold placeN plcM
  exact nthC_c 3600 0 r (fun i a c => by rw [spM_tl hM h hi h0 h1 a (by omega)])
