/-! families and light, as the law asks for them -/
theorem con_tr2 {M : ZS} {m x y z : Int} (h1 : con M m y x) (h2 : con M m z y) : con M m z x := fun C c0 hs => h1 C (h2 C c0 hs) hs
theorem con_1 {M : ZS} {m x y : Int} (h : akR M m x y) : con M m x y := fun _ c0 hs => hs _ _ c0 h
theorem con_mono {M : ZS} {m m' x y : Int} (hm : m ≤ m') (h : con M m y x) : con M m' y x := fun C c0 hs => h C c0 (fun a b ca hab => hs a b ca ⟨hab.1, hab.2.1, hab.2.2.1, hab.2.2.2.1, Int.le_trans hab.2.2.2.2 hm⟩)
theorem num_eq {M : ZS} (hM : MB M) (hi : Inv M) {x y : Int} (hx : nmP M x) (hy : nmP M y) (e : M 14 x = M 14 y) : x = y := by
  have h11 : (0 : Int) ≤ M 11 0 ∧ M 11 0 ≤ 20 := hM 11 0
  obtain ⟨a1, a2, a3⟩ := hx
  obtain ⟨b1, b2, b3⟩ := hy
  exact hi.numI x y a1 (by omega) b1 (by omega) a3 e
theorem fm_no {M : ZS} (hM : MB M) (d : Int) {k : Int} (h0 : 0 ≤ k) (h1 : k < M 11 0) (h2 : M 14 k = 0) : rcM d M 30 k = -1 := (mod_fam hM d).1.2.2 k h0 h1 (by omega)
theorem fm_yes {M : ZS} (hM : MB M) (hi : Inv M) (d : Int) {k : Int} (hk : nmP M k) : nmP M (rcM d M 30 k) ∧ M 14 (rcM d M 30 k) ≤ M 14 k ∧ rcM d M 30 (rcM d M 30 k) = rcM d M 30 k := by
  obtain ⟨⟨-, r2, -⟩, lo⟩ := mod_fam hM d
  obtain ⟨w1, w2⟩ := r2 k hk
  obtain ⟨u1, u2⟩ := r2 _ w1
  refine ⟨w1, lo k k hk hk con_rf, num_eq hM hi u1 w1 ?_⟩
  have a := lo k _ hk u1 (con_tr2 w2 u2)
  have b := lo _ _ w1 w1 con_rf
  omega
theorem fm_akin {M : ZS} (hM : MB M) (hi : Inv M) (d : Int) {x y : Int} (hx : nmP M x) (hy : nmP M y) (ha : akM M x y d) : rcM d M 30 x = rcM d M 30 y := by
  obtain ⟨⟨-, r2, -⟩, lo⟩ := mod_fam hM d
  have hR : akR M d x y := ⟨hx, hy, ha⟩
  obtain ⟨w1, w2⟩ := r2 x hx
  obtain ⟨u1, u2⟩ := r2 y hy
  refine num_eq hM hi w1 u1 ?_
  have a := lo x _ hx u1 (con_tr2 (con_1 (ak_sym hR)) u2)
  have b := lo y _ hy w1 (con_tr2 (con_1 hR) w2)
  omega
theorem fm_mono {M : ZS} (hM : MB M) (hi : Inv M) {d k : Int} (h0 : 0 ≤ k) (h1 : k < M 11 0) (h : rcM d M 30 k = k) : rcM (d - 1) M 30 k = k := by
  by_cases hk : 0 < M 14 k
  · have hn : nmP M k := ⟨h0, h1, hk⟩
    obtain ⟨⟨-, r2, -⟩, lo⟩ := mod_fam hM d
    obtain ⟨⟨-, s2, -⟩, mo⟩ := mod_fam hM (d - 1)
    obtain ⟨u1, u2⟩ := s2 k hn
    refine num_eq hM hi u1 hn ?_
    have a := lo k _ hn u1 (con_mono (by omega) u2)
    rw [h] at a
    have b := mo k k hn hn con_rf
    omega
  · have h9 : (0 : Int) ≤ M 14 k ∧ M 14 k ≤ 20 := hM 14 k
    have := fm_no hM d h0 h1 (by omega)
    omega
theorem itr_le {p q : Int → Prop} [DecidablePred p] [DecidablePred q] : ∀ (n : Nat) (j a b : Int), a ≤ b → (∀ k : Int, j ≤ k → k < j + n → p k → q k) → itr (fun k acc => if p k then acc + 1 else acc) n j a ≤ itr (fun k acc => if q k then acc + 1 else acc) n j b := by
  intro n
  induction n with
  | zero => intro j a b h _; exact h
  | succ n ih =>
    intro j a b h hpq
    rw [itr_s, itr_s]
    refine ih (j + 1) _ _ ?_ (fun k k0 k1 => hpq k (by omega) (by omega))
    by_cases hp : p j
    · rw [if_pos hp, if_pos (hpq j (by omega) (by omega) hp)]; omega
    · rw [if_neg hp]; split <;> omega
/-- the families by a measure, counted -/
noncomputable def fcN (M : ZS) (d : Int) : Int := itr (fun k acc => if rcM d M 30 k = k then acc + 1 else acc) (M 11 0).toNat 0 0
theorem fc_mono {M : ZS} (hM : MB M) (hi : Inv M) (d : Int) : fcN M d ≤ fcN M (d - 1) := by
  have h11 : (0 : Int) ≤ M 11 0 ∧ M 11 0 ≤ 20 := hM 11 0
  exact itr_le _ _ _ _ (Int.le_refl 0) (fun k k0 k1 h => fm_mono hM hi k0 (by omega) h)
/-! light -/
noncomputable def tlF (M : ZS) (b p r k : Int) (q : Int × Int) : Int × Int := cif (lookM M k b ∧ nM M k % p = r) (if M 9 k < q.1 then M 9 k else q.1, if q.2 < M 9 k then M 9 k else q.2) q
noncomputable def tlQ (M : ZS) (b p r : Int) : Int × Int := itr (tlF M b p r) 40 0 (100, -1)
def tlV (q : Int × Int) : Int := if q.2 < 0 then 0 else q.2 - q.1
noncomputable def tlT (M : ZS) (b p : Int) : Int := itr (fun r acc => acc + tlV (tlQ M b p r)) p.toNat 0 0
noncomputable def tlB (M : ZS) (b p : Int) (q : Int × Int) : Int × Int := (if q.2 < 0 ∨ tlT M b p < q.2 then p else q.1, if q.2 < 0 ∨ tlT M b p < q.2 then tlT M b p else q.2)
noncomputable def tlG (M : ZS) (p r : Int) (q : Int × Int) (k : Int) : Int × Int := if nM M k % p = r then (if M 9 k < q.1 then M 9 k else q.1, if q.2 < M 9 k then M 9 k else q.2) else q
theorem tl_fl {M : ZS} {b p r : Int} : ∀ (n : Nat) (j : Int) (q : Int × Int), itr (tlF M b p r) n j q = (fl (fun k => lookM M k b) n j).foldl (tlG M p r) q := by
  intro n
  induction n with
  | zero => intro j q; rfl
  | succ n ih =>
    intro j q
    rw [itr_s, ih]
    by_cases h : lookM M j b
    · rw [fl_t (p := fun k => lookM M k b) h, List.foldl_cons]
      congr 1
      unfold tlF tlG
      by_cases h2 : nM M j % p = r
      · rw [cif_t ⟨h, h2⟩, if_pos h2]
      · rw [cif_f (fun h9 => h2 h9.2), if_neg h2]
    · rw [fl_f (p := fun k => lookM M k b) h]
      congr 1
      exact cif_f (fun h9 => h h9.1)
def lsG (M : ZS) (p r a d : Int) : Int := if nM M d % p = r ∧ M 9 d < a then M 9 d else a
def msG (M : ZS) (p r a d : Int) : Int := if nM M d % p = r ∧ a < M 9 d then M 9 d else a
def tlP (q : Int × Int) (a m : Int) : Prop := q.1 = a ∧ ((q.2 = -1 ∧ m = 0 ∧ a = 100) ∨ (0 ≤ q.2 ∧ q.2 = m ∧ a < 100 ∧ a ≤ m))
theorem tl_step {M : ZS} (hM : MB M) {p r d : Int} {q : Int × Int} {a m : Int} (h : tlP q a m) : tlP (tlG M p r q d) (lsG M p r a d) (msG M p r m d) := by
  have h9 : (0 : Int) ≤ M 9 d ∧ M 9 d ≤ 99 := hM 9 d
  obtain ⟨h1, h2⟩ := h
  unfold tlG lsG msG tlP
  by_cases hc : nM M d % p = r
  · rw [if_pos hc]
    simp only [hc, true_and]
    split <;> split <;> split <;> split <;> omega
  · rw [if_neg hc]
    simp only [hc, false_and, if_false]
    omega
theorem tl_list {M : ZS} (hM : MB M) {p r : Int} : ∀ (l : List Int) (q : Int × Int) (a m : Int), tlP q a m → tlP (l.foldl (tlG M p r) q) (l.foldl (lsG M p r) a) (l.foldl (msG M p r) m) := by
  intro l
  induction l with
  | nil => intro q a m h; exact h
  | cons d l ih => intro q a m h; exact ih _ _ _ (tl_step hM h)
theorem ls_list {M : ZS} {b p r : Int} : lsA (laysM b M) p r (laysM b M 19 0).toNat = (lkM M b).foldl (lsG M p r) 100 ∧ msA (laysM b M) p r (laysM b M 19 0).toNat = (lkM M b).foldl (msG M p r) 0 := by
  obtain ⟨h1, h2⟩ := laysM_has (b := b) (M := M)
  have en : ∀ x, nM (laysM b M) x = nM M x := fun x => by
    unfold nM
    rw [laysM_n (r := 5) (by decide) (by decide), laysM_n (r := 7) (by decide) (by decide)]
  have e9 : laysM b M 9 = M 9 := laysM_n (by decide) (by decide)
  have e1 : (laysM b M 19 0).toNat = (lkM M b).length := by rw [h1]; omega
  have h3 : ∀ (i : Nat) (h : i < (lkM M b).length), laysM b M 20 (0 + i) = (lkM M b)[i] := fun i h => by rw [Int.zero_add]; exact h2 i h
  constructor
  · unfold lsA lsF
    rw [e1]
    simp only [en, e9]
    exact itr_list (lsG M p r) (laysM b M 20) (lkM M b) 0 100 h3
  · unfold msA msF
    rw [e1]
    simp only [en, e9]
    exact itr_list (msG M p r) (laysM b M 20) (lkM M b) 0 0 h3
theorem tlV_eq {L M : ZS} (h : GL L M) {b p r : Int} : tlV (tlQ M b p r) = flR (laysM b M) p r ∧ 0 ≤ flR (laysM b M) p r := by
  have e : tlQ M b p r = (lkM M b).foldl (tlG M p r) (100, -1) := by
    unfold tlQ
    rw [tl_fl, GL.lk h]
  have hP := tl_list h.2.1 (p := p) (r := r) (lkM M b) (100, -1) 100 0 ⟨rfl, Or.inl ⟨rfl, rfl, rfl⟩⟩
  unfold flR
  rw [ls_list.1, ls_list.2, e]
  generalize (lkM M b).foldl (tlG M p r) (100, -1) = q at *
  generalize (lkM M b).foldl (lsG M p r) 100 = a at *
  generalize (lkM M b).foldl (msG M p r) 0 = m at *
  obtain ⟨h1, h2⟩ := hP
  unfold tlV
  rcases h2 with h2 | h2
  · rw [if_pos (by omega), if_neg (by omega)]; exact ⟨rfl, Int.le_refl 0⟩
  · rw [if_neg (by omega), if_pos (by omega)]; omega
theorem itr_nn {g : Int → Int} : ∀ (n : Nat) (j a : Int), 0 ≤ a → (∀ r, 0 ≤ g r) → 0 ≤ itr (fun r acc => acc + g r) n j a := by
  intro n
  induction n with
  | zero => intro j a h _; exact h
  | succ n ih => intro j a h hg; rw [itr_s]; exact ih _ _ (by have := hg j; omega) hg
theorem tlT_eq {L M : ZS} (h : GL L M) {b p : Int} : tlT M b p = flM (laysM b M) p ∧ 0 ≤ flM (laysM b M) p := by
  unfold tlT flM
  exact ⟨itr_eq _ _ _ (fun r s _ _ => by rw [(tlV_eq h).1]), itr_nn _ _ _ (Int.le_refl 0) (fun r => (tlV_eq h).2)⟩
theorem tlB_all {L M : ZS} (h : GL L M) {b : Int} : itr (tlB M b) 19 2 (-1, -1) = (tuB (laysM b M), flM (laysM b M) (tuB (laysM b M))) := by
  have e1 : tlB M b 2 (-1, -1) = (2, flM (laysM b M) 2) := by
    unfold tlB
    rw [if_pos (Or.inl (by decide)), if_pos (Or.inl (by decide)), (tlT_eq h).1]
  have key : ∀ (n : Nat) (j c : Int), itr (tlB M b) n j (c, flM (laysM b M) c) = (itr (tuF (laysM b M)) n j c, flM (laysM b M) (itr (tuF (laysM b M)) n j c)) := by
    intro n
    induction n with
    | zero => intro j c; rfl
    | succ n ih =>
      intro j c
      rw [itr_s, itr_s, ← ih]
      congr 1
      unfold tlB tuF
      rw [(tlT_eq h (p := j)).1]
      have hc := (tlT_eq h (b := b) (p := c)).2
      by_cases c9 : flM (laysM b M) j < flM (laysM b M) c
      · rw [if_pos (Or.inr c9), if_pos (Or.inr c9), if_pos c9]
      · rw [if_neg (fun h9 => h9.elim (fun h8 => absurd hc (Int.not_le.mpr h8)) c9), if_neg (fun h9 => h9.elim (fun h8 => absurd hc (Int.not_le.mpr h8)) c9), if_neg c9]
  rw [show (19 : Nat) = 18 + 1 from rfl, itr_s, e1]
  exact key 18 3 2
theorem turn_law {L M : ZS} (h : GL L M) (b : Int) : tuM M b 0 = (if 3 < lkN M b then (itr (tlB M b) 19 2 (-1, -1)).1 else -1) ∧ tuM M b 1 = (if 3 < lkN M b then (itr (tlB M b) 19 2 (-1, -1)).2 else -1) := by
  rw [lkN_len h, tlB_all h]
  unfold tuM
  rw [(laysM_has (b := b) (M := M)).1]
  generalize tuB (laysM b M) = B
  generalize flM (laysM b M) B = F
  by_cases c : 3 < ((lkM M b).length : Int)
  · rw [if_neg (show ¬ ((lkM M b).length : Int) < 4 by omega), if_pos c, if_pos c, if_pos rfl, if_neg (show ¬ ((lkM M b).length : Int) < 4 by omega), if_neg (show ¬ (1 : Int) = 0 by decide)]
    exact ⟨rfl, rfl⟩
  · rw [if_pos (show ((lkM M b).length : Int) < 4 by omega), if_neg c, if_neg c, if_pos (show ((lkM M b).length : Int) < 4 by omega)]
    exact ⟨rfl, rfl⟩
