theorem near_iff {M : ZS} {k a j : Int} (h0 : 0 ≤ eM M (M 20 j) ∧ eM M (M 20 j) ≤ 9) : nearP M a (bC k) (cC k) j ↔ nearD k a (nM M (M 20 j), tM M (M 20 j), eM M (M 20 j)) := by
  unfold nearP nearD stC
  simp only
  have h1 := tM_b M (M 20 j)
  have h2 : mvM (bC k) (cC k) (nM M (M 20 j)) = dC k (nM M (M 20 j)) := rfl
  rw [h2]
  generalize dC k (nM M (M 20 j)) = D
  generalize tM M (M 20 j) = t at *
  generalize eM M (M 20 j) = e at *
  unfold apM
  split <;> omega
def datC (S : ZS) (d : Int) : Int × Int × Int := (nOf S d, tOf S d, eOf S d)
def datM (M : ZS) (d : Int) : Int × Int × Int := (nM M d, tM M d, eM M d)
def E9 (M : ZS) : Prop := ∀ x : Int, 0 ≤ M 2 x ∧ M 2 x ≤ 9
/-- the rows of the reference that are not its scratch are within their bounds -/
def MB (M : ZS) : Prop := ∀ (k : Fin 19) (j : Int), mLo k.val ≤ M k.val j ∧ M k.val j ≤ mHi k.val
theorem MB.of {M : ZS} (h : MI M) : MB M := fun k j => h k.val j
theorem MB.sm {T M : ZS} (h : MB M) (e : ∀ q : Nat, q ≤ 18 → T q = M q) : MB T := fun k j => by rw [e k.val (by omega)]; exact h k j
theorem SM.le {T M : ZS} (e : SM M T) : ∀ q : Nat, q ≤ 18 → T q = M q := fun q hq => e q (by
  unfold scm
  rw [decide_eq_false (show ¬ 19 ≤ q by omega)]; rfl)
theorem E9.of {M : ZS} (h : MB M) : E9 M := fun x => h 2 x
theorem E9.sm {M T : ZS} (h : E9 M) (e : SM M T) : E9 T := fun x => by rw [e 2 rfl]; exact h x
theorem datM_ok {M : ZS} (h : E9 M) (d : Int) : okD (datM M d) := ⟨(tM_b M d).1, (tM_b M d).2, (h _).1, (h _).2⟩
theorem datC_ok {S : ZS} (h : CI S) (d : Int) : okD (datC S d) := ⟨(tOf_b h d).1, (tOf_b h d).2, (eOf_b h d).1, (eOf_b h d).2⟩
/-! a row that is filled from its front: its number stands in c -/
def pushR (r c : Nat) (T : ZS) (x : Int) : ZS := su (su T r (up (T r) (T c 0) x)) c (fun _ => T c 0 + 1)
def hasR (r c : Nat) (T : ZS) (l : List Int) : Prop := T c 0 = l.length ∧ ∀ (i : Nat) (h : i < l.length), T r i = l[i]
theorem pushR_n {r c q : Nat} {T : ZS} {x : Int} (h1 : q ≠ r) (h2 : q ≠ c) : pushR r c T x q = T q := by unfold pushR; rw [su_n _ _ h2, su_n _ _ h1]
theorem foldP_n {r c q : Nat} (h1 : q ≠ r) (h2 : q ≠ c) : ∀ (l : List Int) (T : ZS), l.foldl (pushR r c) T q = T q := by
  intro l
  induction l with
  | nil => intro T; rfl
  | cons x l ih => intro T; rw [List.foldl_cons, ih, pushR_n h1 h2]
theorem hasR_push {r c : Nat} (hrc : r ≠ c) {T : ZS} {l : List Int} (h : hasR r c T l) (x : Int) : hasR r c (pushR r c T x) (l ++ [x]) := by
  unfold pushR
  refine ⟨?_, fun i hi => ?_⟩
  · rw [su_s, List.length_append, h.1]; simp
  · rw [su_n _ _ hrc, su_s]
    rw [List.length_append, List.length_singleton] at hi
    by_cases hx : i = l.length
    · subst hx
      rw [h.1, up_s]; simp
    · rw [up_n _ _ (by rw [h.1]; omega), h.2 i (by omega), List.getElem_append_left (by omega)]
theorem hasR_fold {r c : Nat} (hrc : r ≠ c) : ∀ (l2 l : List Int) (T : ZS), hasR r c T l → hasR r c (l2.foldl (pushR r c) T) (l ++ l2) := by
  intro l2
  induction l2 with
  | nil => intro l T h; rw [List.append_nil]; exact h
  | cons x l2 ih =>
    intro l T h
    have := ih (l ++ [x]) (pushR r c T x) (hasR_push hrc h x)
    rw [List.append_assoc] at this
    exact this
theorem hasR_0 {r c : Nat} {T : ZS} (h : T c 0 = 0) : hasR r c T [] := ⟨h, fun i hi => absurd hi (by simp)⟩
theorem rg_list {α : Type} (F : Int → α) : ∀ (l : List Int) (c : Int → Int) (j : Int), (∀ (i : Nat) (h : i < l.length), c (j + i) = l[i]) → (rg l.length j).map (fun i => F (c i)) = l.map F := by
  intro l
  induction l with
  | nil => intro c j _; rfl
  | cons x l ih =>
    intro c j h
    have h0 := h 0 (by simp)
    simp only [List.getElem_cons_zero] at h0
    rw [List.length_cons, rg, List.map_cons, List.map_cons, ih c (j + 1) (fun i hi => by
      have := h (i + 1) (by simp; omega)
      simp only [List.getElem_cons_succ] at this
      rw [← this]; congr 1; omega), show c j = x by rw [← h0]; congr 1; omega]
theorem itr_filter {σ : Type} {f : Int → σ → σ} {a : σ → Int → σ} {p : Int → Bool} (Q : σ → Prop) (hQ : ∀ s x, Q s → Q (a s x)) : ∀ (n : Nat) (j : Int) (s : σ), (∀ k s, Q s → j ≤ k → k < j + n → f k s = if p k = true then a s k else s) → Q s → itr f n j s = ((rg n j).filter p).foldl a s := by
  intro n
  induction n with
  | zero => intro j s _ _; rfl
  | succ n ih =>
    intro j s hf hs
    rw [itr_s, hf j s hs (by omega) (by omega), rg, List.filter_cons]
    by_cases hp : p j = true
    · rw [if_pos hp, if_pos hp, List.foldl_cons]
      exact ih (j + 1) _ (fun k s h1 h2 h3 => hf k s h1 (by omega) (by omega)) (hQ _ _ hs)
    · rw [if_neg hp, if_neg hp]
      exact ih (j + 1) _ (fun k s h1 h2 h3 => hf k s h1 (by omega) (by omega)) hs
/-! the keys of the orbits, in the order of courses, then along the arcs -/
def ens1 (k : Int) (q : Int × Int) : List Int := (rg q.2.toNat 0).map (fun j => 405 * ((q.1 + j) % 3600) + k)
def ens (A : Int → Int × Int) : List Int := (rg 405 0).flatMap (fun k => ens1 k (A k))
def dLooks (M : ZS) : List (Int × Int × Int) := (rg (M 19 0).toNat 0).map (fun j => datM M (M 20 j))
theorem fitP_iff {M : ZS} (hI : E9 M) {a k : Int} : fitP M a (bC k) (cC k) ↔ ∀ d ∈ dLooks M, nearD k a d := by
  unfold fitP
  rw [any_iff]
  constructor
  · intro h d hd
    obtain ⟨j, hj, rfl⟩ := List.mem_map.mp hd
    have hj := rg_mem.mp hj
    by_cases hp : nearP M a (bC k) (cC k) j
    · exact (near_iff (hI _)).mp hp
    · exact absurd ⟨j, hj.1, hj.2, hp⟩ h
  · rintro h ⟨j, h1, h2, h3⟩
    exact h3 ((near_iff (hI _)).mpr (h _ (List.mem_map.mpr ⟨j, rg_mem.mpr ⟨h1, h2⟩, rfl⟩)))
theorem fitP_c {M T : ZS} (h : ∀ r : Nat, r ≠ 22 → r ≠ 21 → T r = M r) (a b c : Int) : fitP T a b c ↔ fitP M a b c := by
  have e : ∀ j, nearP T a b c j = nearP M a b c j := fun j => by
    unfold nearP nM tM eM
    rw [h 0 (by decide) (by decide), h 2 (by decide) (by decide), h 4 (by decide) (by decide), h 5 (by decide) (by decide), h 7 (by decide) (by decide), h 8 (by decide) (by decide), h 20 (by decide) (by decide)]
  unfold fitP
  rw [h 19 (by decide) (by decide)]
  simp only [e]
theorem fdOut_ens {M T : ZS} (hI : E9 M) (hn : 1 ≤ M 19 0) (h : ∀ r : Nat, r ≠ 22 → r ≠ 21 → T r = M r) (k : Int) : fdOut (eM M (M 20 0)) k T = (ens1 k (arcL k (dLooks M))).foldl (pushR 22 21) T := by
  have hd : ∀ d ∈ dLooks M, okD d := fun d hd => by
    obtain ⟨j, _, rfl⟩ := List.mem_map.mp hd
    exact datM_ok hI _
  have hd0 : datM M (M 20 0) ∈ dLooks M := List.mem_map.mpr ⟨0, rg_mem.mpr ⟨by omega, by omega⟩, rfl⟩
  obtain ⟨hA, hw, hin⟩ := arcL_ok (k := k) hd
  have hw := hw (fun e => by rw [e] at hd0; cases hd0)
  have e1 : midM T k = (tM M (M 20 0) - dC k (nM M (M 20 0))) % 3600 := by
    unfold midM nM tM
    rw [h 0 (by decide) (by decide), h 5 (by decide) (by decide), h 7 (by decide) (by decide), h 8 (by decide) (by decide), h 20 (by decide) (by decide)]
    rfl
  have hfit : ∀ (s : ZS) (a : Int), (∀ r : Nat, r ≠ 22 → r ≠ 21 → s r = M r) → (fitP s a (bC k) (cC k) ↔ inA (arcL k (dLooks M)) a) := fun s a hs => by
    rw [fitP_c hs, fitP_iff hI, hin]
  have hwb : 0 ≤ eM M (M 20 0) ∧ eM M (M 20 0) ≤ 9 := hI _
  have hn0 : ∀ a, inA (arcL k (dLooks M)) a → (a - (tM M (M 20 0) - eM M (M 20 0) - dC k (nM M (M 20 0)))) % 3600 < 2 * eM M (M 20 0) + 1 := fun a ha => by
    have h9 := (hin a).mp ha _ hd0
    unfold nearD datM stC at h9
    simp only at h9
    omega
  unfold fdOut
  rw [e1]
  generalize arcL k (dLooks M) = q at *
  obtain ⟨s0, wd⟩ := q
  unfold inA okA at *
  simp only at *
  have ht := tM_b M (M 20 0)
  generalize eM M (M 20 0) = w at *
  generalize tM M (M 20 0) = t at *
  generalize dC k (nM M (M 20 0)) = D at *
  have hQ : ∀ (i : Int) (s : ZS), (∀ r : Nat, r ≠ 22 → r ≠ 21 → s r = M r) → ∀ r : Nat, r ≠ 22 → r ≠ 21 → (fun e T => pushR 22 21 T (405 * (((t - D) % 3600 + e) % 3600) + k)) i s r = M r := fun i s hs r h1 h2 => by
    show pushR 22 21 s _ r = M r
    rw [pushR_n h1 h2, hs r h1 h2]
  have hfin : ∀ (x : Nat) (hx : x + wd.toNat ≤ (2 * w + 1).toNat) (hiff : ∀ i : Int, -w ≤ i → i ≤ w → ((((t - D) % 3600 + i) % 3600 - s0) % 3600 < wd ↔ -w + x ≤ i ∧ i < -w + x + wd)) (heq : 0 < wd → ∀ i : Int, ((t - D) % 3600 + (-w + x + i)) % 3600 = (s0 + i) % 3600), itr (fdIn k ((t - D) % 3600)) (2 * w + 1).toNat (-w) T = (ens1 k (s0, wd)).foldl (pushR 22 21) T := fun x hx hiff heq => by
    rw [itr_seg (g := fun e T => pushR 22 21 T (405 * (((t - D) % 3600 + e) % 3600) + k)) (fun s => ∀ r : Nat, r ≠ 22 → r ≠ 21 → s r = M r) hQ hx (fun i s hs a b => ?_) (fun i s hs a b c => ?_) h]
    · rw [itr_map (pushR 22 21) (fun e => 405 * (((t - D) % 3600 + e) % 3600) + k)]
      unfold ens1
      congr 1
      simp only
      refine rg_map _ _ _ (fun i h1 h2 => ?_)
      rw [heq (by omega) i, Int.zero_add]
    · unfold fdIn
      exact cif_t ((hfit s _ hs).mpr ((hiff i (by omega) (by omega)).mpr ⟨a, by omega⟩))
    · unfold fdIn
      exact cif_f (fun h9 => by
        have h8 := (hiff i (by omega) (by omega)).mp ((hfit s _ hs).mp h9)
        omega)
  by_cases c : wd = 0
  · subst c
    exact hfin 0 (by omega) (fun i h1 h2 => by omega) (fun h9 => absurd h9 (by decide))
  · have a1 := hn0 s0 (by omega)
    have a2 := hn0 (s0 + wd - 1) (by omega)
    have b0 : 0 ≤ (s0 - (t - w - D)) % 3600 := by omega
    refine hfin ((s0 - (t - w - D)) % 3600).toNat (by omega) (fun i h1 h2 => ?_) (fun _ i => ?_)
    · rw [Int.toNat_of_nonneg b0]; omega
    · rw [Int.toNat_of_nonneg b0]; omega
theorem findM_ens {M : ZS} (hI : E9 M) (hn : 1 ≤ M 19 0) : findM M = (ens (fun k => arcL k (dLooks M))).foldl (pushR 22 21) (su M 21 (fun _ => 0)) := by
  unfold findM ens
  exact itr_flat (f := fdOut (eM M (M 20 0))) (a := pushR 22 21) (h := fun k => ens1 k (arcL k (dLooks M))) (fun s => ∀ r : Nat, r ≠ 22 → r ≠ 21 → s r = M r) (fun s x hs r h1 h2 => by rw [pushR_n h1 h2, hs r h1 h2]) 405 0 _ (fun k s hs _ _ => fdOut_ens hI hn hs k) (fun r h1 h2 => su_n _ _ h2)
theorem hasR_fold0 {r c : Nat} (hrc : r ≠ c) (l : List Int) {T : ZS} (h : T c 0 = 0) : hasR r c (l.foldl (pushR r c) T) l := by
  have h1 := hasR_fold hrc l [] T (hasR_0 h)
  rw [List.nil_append] at h1
  exact h1
theorem findM_has {M : ZS} (hI : E9 M) (hn : 1 ≤ M 19 0) : hasR 22 21 (findM M) (ens (fun k => arcL k (dLooks M))) := by
  rw [findM_ens hI hn]
  exact hasR_fold0 (by decide) _ (by rw [su_s])
