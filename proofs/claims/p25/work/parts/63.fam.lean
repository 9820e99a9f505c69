/-! families: the lowest number that is come to -/
def nmP (M : ZS) (x : Int) : Prop := 0 ≤ x ∧ x < M 11 0 ∧ 0 < M 14 x
def akR (M : ZS) (m x y : Int) : Prop := nmP M x ∧ nmP M y ∧ akM M x y m
/-- the body y and x are joined by a chain of those akin -/
def con (M : ZS) (m y x : Int) : Prop := ∀ C : Int → Prop, C y → (∀ a b, C a → akR M m a b → C b) → C x
theorem con_rf {M : ZS} {m x : Int} : con M m x x := fun _ h _ => h
theorem con_tr {M : ZS} {m x y z : Int} (h : con M m x y) (h2 : akR M m y z) : con M m x z := fun C h0 hs => hs y z (h C h0 hs) h2
theorem ak_sym {M : ZS} {m x y : Int} (h : akR M m x y) : akR M m y x := by
  obtain ⟨h1, h2, h3, h4, h5⟩ := h
  exact ⟨h2, h1, h4, h3, by omega⟩
def OKv (M : ZS) (m : Int) (v : Int → Int) : Prop := ∀ x, nmP M x → ∃ y, nmP M y ∧ con M m y x ∧ v x = M 14 y
/-- a round in which each one takes the value of each that is akin, if that is lower -/
def RND (M : ZS) (m : Int) (v v' : Int → Int) : Prop := (∀ x, nmP M x → v' x ≤ v x) ∧ (∀ x z, akR M m x z → v' x ≤ v z) ∧ (OKv M m v → OKv M m v')
theorem con_num {M : ZS} {m y x : Int} (hy : nmP M y) (h : con M m y x) : nmP M x := h (fun x => nmP M x) hy (fun _ _ _ h2 => h2.2.1)
theorem fam_fix {M : ZS} (hM : MB M) {m : Int} {V : Nat → Int → Int} (hr : ∀ r : Nat, (r : Int) < M 11 0 → RND M m (V r) (V (r + 1))) (h0 : ∀ x, nmP M x → V 0 x = M 14 x) : OKv M m (V (M 11 0).toNat) ∧ ∀ x y, nmP M y → con M m y x → V (M 11 0).toNat x ≤ M 14 y := by
  have hB : (0 : Int) ≤ M 11 0 ∧ M 11 0 ≤ 20 := hM 11 0
  have hok : ∀ r : Nat, (r : Int) ≤ M 11 0 → OKv M m (V r) := by
    intro r
    induction r with
    | zero => intro _ x hx; exact ⟨x, hx, con_rf, h0 x hx⟩
    | succ r ih => intro h; exact (hr r (by omega)).2.2 (ih (by omega))
  have hmono : ∀ (e r : Nat) (x : Int), nmP M x → ((r + e : Nat) : Int) ≤ M 11 0 → V (r + e) x ≤ V r x := by
    intro e
    induction e with
    | zero => intro r x _ _; exact Int.le_refl _
    | succ e ih =>
      intro r x hx h
      have h1 := ih r x hx (by omega)
      have h2 := (hr (r + e) (by omega)).1 x hx
      rw [show r + (e + 1) = r + e + 1 by omega]
      omega
  refine ⟨hok _ (by omega), fun x y hy hc => ?_⟩
  have hx := con_num hy hc
  -- those with so low a value
  have key : ∀ r : Nat, (r : Int) ≤ M 11 0 → (∃ q : Nat, q ≤ r ∧ ∀ a b, (nmP M a ∧ V q a ≤ M 14 y) → akR M m a b → (nmP M b ∧ V q b ≤ M 14 y)) ∨ ((r : Int) + 1 ≤ cnt (fun a => nmP M a ∧ V r a ≤ M 14 y) (M 11 0).toNat) := by
    intro r
    induction r with
    | zero =>
      intro _
      right
      have h1 := cnt_lt2 (p := fun _ => False) (q := fun a => nmP M a ∧ V 0 a ≤ M 14 y) (n := (M 11 0).toNat) (fun _ _ _ h => h.elim) hy.1 (by have := hy.2.1; omega) ⟨hy, by rw [h0 y hy]; exact Int.le_refl _⟩ (fun h => h)
      have h2 := (cnt_0n (fun _ => False) (M 11 0).toNat).1
      omega
    | succ r ih =>
      intro h
      rcases ih (by omega) with ⟨q, q0, q1⟩ | h1
      · exact Or.inl ⟨q, by omega, q1⟩
      · by_cases c : ∀ a b, (nmP M a ∧ V r a ≤ M 14 y) → akR M m a b → (nmP M b ∧ V r b ≤ M 14 y)
        · exact Or.inl ⟨r, by omega, c⟩
        · right
          have h9 : ∃ a b, (nmP M a ∧ V r a ≤ M 14 y) ∧ akR M m a b ∧ ¬ (nmP M b ∧ V r b ≤ M 14 y) := by
            refine Classical.byContradiction (fun hno => c (fun a b h2 h3 => Classical.byContradiction (fun h4 => hno ⟨a, b, h2, h3, h4⟩)))
          obtain ⟨a, b, a1, a2, a3⟩ := h9
          have hb := a2.2.1
          have h2 := hr r (by omega)
          have h3 := cnt_lt2 (p := fun a => nmP M a ∧ V r a ≤ M 14 y) (q := fun a => nmP M a ∧ V (r + 1) a ≤ M 14 y) (n := (M 11 0).toNat) (fun i _ _ hi => ⟨hi.1, by have := h2.1 i hi.1; omega⟩) hb.1 (by have := hb.2.1; omega) ⟨hb, by have := h2.2.1 b a (ak_sym a2); omega⟩ a3
          omega
  rcases key (M 11 0).toNat (by omega) with ⟨q, q0, q1⟩ | h9
  · have h1 := hc (fun a => nmP M a ∧ V q a ≤ M 14 y) ⟨hy, by
      have := hmono q 0 y hy (by omega)
      rw [Nat.zero_add, h0 y hy] at this
      exact this⟩ q1
    have h2 := hmono ((M 11 0).toNat - q) q x hx (by omega)
    rw [show q + ((M 11 0).toNat - q) = (M 11 0).toNat by omega] at h2
    omega
  · have h1 := (cnt_0n (fun a => nmP M a ∧ V (M 11 0).toNat a ≤ M 14 y) (M 11 0).toNat).2
    omega
/-! the class's rounds -/
theorem akP_iff {S M : ZS} (hM : MB M) (h : Rel S M) {T : ZS} (e10 : T 10 = S 10) (e11 : T 11 = S 11) {o t m : Int} (o0 : 0 ≤ o) (o1 : o < M 11 0) (t0 : 0 ≤ t) (t1 : t < M 11 0) : akP T o t m ↔ akR M m o t := by
  have hB : (0 : Int) ≤ M 11 0 ∧ M 11 0 ≤ 20 := hM 11 0
  have n1 := (num_iff hM h o0 (show o < 20 by omega)).2
  have n2 := (num_iff hM h t0 (show t < 20 by omega)).2
  unfold akP akR nmP akM
  rw [e10, e11, n1, n2, Classical.not_not, Classical.not_not, rAt_in o0 (by omega), rAt_in t0 (by omega)]
  constructor
  · rintro ⟨a, b, c⟩
    have p1 := h.prop o o0 (by omega) a
    have p2 := h.prop t t0 (by omega) b
    rw [p1.1, p1.2, p2.1, p2.2]
    exact ⟨⟨o0, o1, a⟩, ⟨t0, t1, b⟩, a, b, c⟩
  · rintro ⟨⟨_, _, a⟩, ⟨_, _, b⟩, _, _, c⟩
    have p1 := h.prop o o0 (by omega) a
    have p2 := h.prop t t0 (by omega) b
    rw [p1.1, p1.2, p2.1, p2.2] at c
    exact ⟨a, b, c⟩
def lowV (T : ZS) (x : Int) : Int := rAt 20 (T 19) x
theorem slPut_v {o j x : Int} {T : ZS} (o0 : 0 ≤ o) (o1 : o < 20) (j0 : 0 ≤ j) (j1 : j < 20) (x0 : 0 ≤ x) (x1 : x < 20) : lowV (slPut o j T) x = if x = j ∨ x = o then min (lowV T o) (lowV T j) else lowV T x := by
  unfold lowV slPut
  rw [su_s, rAt_put j0 j1 x0 x1, su_s, rAt_put o0 o1 x0 x1]
  by_cases c1 : x = j
  · rw [if_pos c1, if_pos (Or.inl c1)]
  · by_cases c2 : x = o
    · rw [if_neg c1, if_pos c2, if_pos (Or.inr c2)]
    · rw [if_neg c1, if_neg c2, if_neg (fun h => h.elim c1 c2)]
/-- within a round, from T0: what was done for the pairs in K -/
def rdP (M : ZS) (m : Int) (v0 v : Int → Int) (K : Int → Int → Prop) : Prop := (∀ x, nmP M x → v x ≤ v0 x) ∧ (OKv M m v0 → OKv M m v) ∧ ∀ o j, K o j → akR M m o j → v o ≤ v0 j ∧ v j ≤ v0 o
theorem rdP_id {M : ZS} {m : Int} {v : Int → Int} : rdP M m v v (fun _ _ => False) := ⟨fun _ _ => Int.le_refl _, fun h => h, fun _ _ h => h.elim⟩
theorem rdP_K {M : ZS} {m : Int} {v0 v : Int → Int} {K K' : Int → Int → Prop} (h : rdP M m v0 v K) (e : ∀ o j, K' o j → K o j) : rdP M m v0 v K' := ⟨h.1, h.2.1, fun o j hk => h.2.2 o j (e o j hk)⟩
theorem rdP_step {S M : ZS} (hM : MB M) (h : Rel S M) {m o j : Int} {T : ZS} {v0 : Int → Int} {K : Int → Int → Prop} (e10 : T 10 = S 10) (e11 : T 11 = S 11) (o0 : 0 ≤ o) (o1 : o < M 11 0) (j0 : 0 ≤ j) (j1 : j < M 11 0) (hp : rdP M m v0 (lowV T) K) : rdP M m v0 (lowV (slIn m o j T)) (fun a b => K a b ∨ (a = o ∧ b = j)) := by
  have hB : (0 : Int) ≤ M 11 0 ∧ M 11 0 ≤ 20 := hM 11 0
  unfold slIn
  by_cases c : akP T o j m
  · rw [cif_t c]
    have hk := (akP_iff hM h e10 e11 o0 o1 j0 j1).mp c
    have hv : ∀ x, nmP M x → lowV (slPut o j T) x = if x = j ∨ x = o then min (lowV T o) (lowV T j) else lowV T x := fun x hx => slPut_v o0 (by omega) j0 (by omega) hx.1 (by have := hx.2.1; omega)
    have hle : ∀ x, nmP M x → lowV (slPut o j T) x ≤ lowV T x := fun x hx => by
      rw [hv x hx]
      split
      · rename_i c2
        rcases c2 with rfl | rfl <;> omega
      · exact Int.le_refl _
    refine ⟨fun x hx => by have := hle x hx; have := hp.1 x hx; omega, fun hok x hx => ?_, fun a b hab hak => ?_⟩
    · have h1 := hp.2.1 hok
      obtain ⟨y1, a1, a2, a3⟩ := h1 o hk.1
      obtain ⟨y2, b1, b2, b3⟩ := h1 j hk.2.1
      rw [hv x hx]
      split
      · rename_i c2
        by_cases c3 : lowV T o ≤ lowV T j
        · rw [Int.min_eq_left c3]
          refine ⟨y1, a1, ?_, a3⟩
          rcases c2 with rfl | rfl
          · exact con_tr a2 hk
          · exact a2
        · rw [Int.min_eq_right (by omega)]
          refine ⟨y2, b1, ?_, b3⟩
          rcases c2 with rfl | rfl
          · exact b2
          · exact con_tr b2 (ak_sym hk)
      · exact h1 x hx
    · rcases hab with hab | ⟨rfl, rfl⟩
      · have h1 := hp.2.2 a b hab hak
        have h2 := hle a hak.1
        have h3 := hle b hak.2.1
        omega
      · rw [hv a hak.1, hv b hak.2.1, if_pos (Or.inr rfl), if_pos (Or.inl rfl)]
        have h1 := hp.1 a hak.1
        have h2 := hp.1 b hak.2.1
        omega
  · rw [cif_f c]
    refine ⟨hp.1, hp.2.1, fun a b hab hak => ?_⟩
    rcases hab with hab | ⟨rfl, rfl⟩
    · exact hp.2.2 a b hab hak
    · exact absurd ((akP_iff hM h e10 e11 o0 o1 j0 j1).mpr hak) c
theorem sl_keep {m : Int} {T : ZS} {q : Nat} (hq : q ≠ 19) (o j : Int) : slIn m o j T q = T q := by
  unfold slIn
  by_cases c : akP T o j m
  · rw [cif_t c]; unfold slPut; rw [su_n _ _ hq, su_n _ _ hq]
  · rw [cif_f c]
theorem slAll_rnd {S M : ZS} (hM : MB M) (h : Rel S M) {m : Int} {T : ZS} (eT : ∀ q : Nat, q ≠ 19 → T q = S q) : RND M m (lowV T) (lowV (slAll m T)) ∧ ∀ q : Nat, q ≠ 19 → slAll m T q = S q := by
  have hB : (0 : Int) ≤ M 11 0 ∧ M 11 0 ≤ 20 := hM 11 0
  have e23 : T 23 0 = M 11 0 := by rw [eT 23 (by decide)]; exact h.nB
  unfold slAll
  rw [e23]
  have h9 := itr1 (f := slOut m) (fun o U => (∀ q : Nat, q ≠ 19 → U q = S q) ∧ rdP M m (lowV T) (lowV U) (fun a b => 0 ≤ b ∧ b < a ∧ a < o)) (M 11 0).toNat 0 T (fun o U o0 o1 e => by
    have h8 := itr1 (f := slIn m o) (fun j W => (∀ q : Nat, q ≠ 19 → W q = S q) ∧ rdP M m (lowV T) (lowV W) (fun a b => (0 ≤ b ∧ b < a ∧ a < o) ∨ (a = o ∧ 0 ≤ b ∧ b < j))) o.toNat 0 U (fun j W j0 j1 e2 => by
      refine ⟨fun q hq => by rw [sl_keep hq, e2.1 q hq], ?_⟩
      exact rdP_K (rdP_step hM h (e2.1 10 (by decide)) (e2.1 11 (by decide)) o0 (by omega) j0 (by omega) e2.2) (fun a b hk => by
        rcases hk with hk | ⟨rfl, b0, b1⟩
        · exact Or.inl (Or.inl hk)
        · by_cases c : b = j
          · exact Or.inr ⟨rfl, c⟩
          · exact Or.inl (Or.inr ⟨rfl, b0, by omega⟩))) ⟨e.1, rdP_K e.2 (fun a b hk => hk.elim id (fun h7 => absurd h7.2.2 (by omega)))⟩
    exact ⟨h8.1, rdP_K h8.2 (fun a b hk => by
      by_cases c : a = o
      · exact Or.inr ⟨c, hk.1, by omega⟩
      · exact Or.inl ⟨hk.1, hk.2.1, by omega⟩)⟩) ⟨eT, rdP_K rdP_id (fun a b hk => absurd hk.2.2 (by omega))⟩
  refine ⟨⟨h9.2.1, fun x z hk => ?_, h9.2.2.1⟩, h9.1⟩
  have hx := hk.1
  have hz := hk.2.1
  unfold nmP at hx hz
  by_cases c1 : z < x
  · exact (h9.2.2.2 x z ⟨hz.1, c1, by omega⟩ hk).1
  · by_cases c2 : x < z
    · exact (h9.2.2.2 z x ⟨hx.1, c2, by omega⟩ (ak_sym hk)).2
    · obtain rfl : x = z := by omega
      exact h9.2.1 x hk.1
theorem itr_0l {σ : Type} (f : Int → σ → σ) (n : Nat) (s : σ) : itr f (n + 1) 0 s = f n (itr f n 0 s) := by rw [itr_l, Int.zero_add]
theorem cls_fam {S M : ZS} (hM : MB M) (h : Rel S M) (m : Int) : OKv M m (lowV (ffAll m S)) ∧ ∀ x y, nmP M y → con M m y x → lowV (ffAll m S) x ≤ M 14 y := by
  have hB : (0 : Int) ≤ M 11 0 ∧ M 11 0 ≤ 20 := hM 11 0
  have hA := itr1 (f := ffIn) (fun k T => (∀ q : Nat, q ≠ 19 → T q = S q) ∧ ∀ x : Int, 0 ≤ x → x < k → rAt 20 (T 19) x = rAt 20 (S 10) x) (M 11 0).toNat 0 S (fun k T k0 k1 e => by
    unfold ffIn
    refine ⟨fun q hq => by rw [su_n _ _ hq, e.1 q hq], fun x x0 x1 => ?_⟩
    rw [su_s, rAt_put k0 (by omega) x0 (by omega), e.1 10 (by decide)]
    split
    · rename_i c; rw [c]
    · exact e.2 x x0 (by omega)) ⟨fun _ _ => rfl, fun x x0 x1 => absurd x1 (by omega)⟩
  have eA : ffA S = itr ffIn (M 11 0).toNat 0 S := by unfold ffA; rw [h.nB]
  rw [← eA] at hA
  have hkeep : ∀ r : Nat, ∀ q : Nat, q ≠ 19 → itr (fun _ T => slAll m T) r 0 (ffA S) q = S q := by
    intro r
    induction r with
    | zero => exact hA.1
    | succ r ih => intro q hq; rw [itr_0l]; exact (slAll_rnd hM h ih).2 q hq
  have h9 := fam_fix hM (m := m) (V := fun r => lowV (itr (fun _ T => slAll m T) r 0 (ffA S))) (fun r _ => by
    show RND M m (lowV (itr (fun _ T => slAll m T) r 0 (ffA S))) (lowV (itr (fun _ T => slAll m T) (r + 1) 0 (ffA S)))
    rw [itr_0l]
    exact (slAll_rnd hM h (hkeep r)).1) (fun x hx => by
    have hx' := hx
    unfold nmP at hx'
    show rAt 20 (ffA S 19) x = M 14 x
    rw [hA.2 x hx'.1 (by omega), (num_iff hM h hx'.1 (by omega)).1, if_pos hx'.2.2])
  have e : ffAll m S = itr (fun _ T => slAll m T) (M 11 0).toNat 0 (ffA S) := by unfold ffAll; rw [h.nB]
  rw [e]; exact h9
/-! the reference's rounds -/
def rchP (M : ZS) (m : Int) (T : ZS) : Prop := (∀ q : Nat, q ≠ 30 → T q = M q) ∧ (∀ x, nmP M x → nmP M (T 30 x) ∧ con M m (T 30 x) x) ∧ ∀ x : Int, 0 ≤ x → x < M 11 0 → ¬ 0 < M 14 x → T 30 x = -1
theorem rcG_step {M : ZS} {m c : Int} {T : ZS} {v0 : Int → Int} {K : Int → Int → Prop} (k0 : 0 ≤ c / M 11 0) (k1 : c / M 11 0 < M 11 0) (j0 : 0 ≤ c % M 11 0) (j1 : c % M 11 0 < M 11 0) (hT : rchP M m T) (hle : ∀ x, nmP M x → M 14 (T 30 x) ≤ v0 x) (hK : ∀ o j, K o j → akR M m o j → M 14 (T 30 o) ≤ v0 j) : rchP M m (rcG m c T) ∧ (∀ x, nmP M x → M 14 (rcG m c T 30 x) ≤ v0 x) ∧ ∀ o j, (K o j ∨ (o = c / M 11 0 ∧ j = c % M 11 0)) → akR M m o j → M 14 (rcG m c T 30 o) ≤ v0 j := by
  have e11 := hT.1 11 (by decide)
  have e14 := hT.1 14 (by decide)
  have hak : akM T (c / M 11 0) (c % M 11 0) m ↔ akR M m (c / M 11 0) (c % M 11 0) := by
    unfold akR nmP akM
    rw [e14, hT.1 15 (by decide), hT.1 16 (by decide)]
    exact ⟨fun h => ⟨⟨k0, k1, h.1⟩, ⟨j0, j1, h.2.1⟩, h⟩, fun h => h.2.2⟩
  have e30 : ∀ x, rcG m c T 30 x = if x = c / M 11 0 then cif (akM T (c / M 11 0) (c % M 11 0) m ∧ M 14 (T 30 (c % M 11 0)) < M 14 (T 30 (c / M 11 0))) (T 30 (c % M 11 0)) (T 30 (c / M 11 0)) else T 30 x := fun x => by
    unfold rcG; rw [su_s, e11, e14]; rfl
  have eo : ∀ q : Nat, q ≠ 30 → rcG m c T q = M q := fun q hq => by unfold rcG; rw [su_n _ _ hq, hT.1 q hq]
  generalize c / M 11 0 = k at *
  generalize c % M 11 0 = j at *
  by_cases c1 : akM T k j m ∧ M 14 (T 30 j) < M 14 (T 30 k)
  · rw [cif_t c1] at e30
    have hr := hak.mp c1.1
    have hj := hT.2.1 j hr.2.1
    have hk1 := hle k hr.1
    have hj1 := hle j hr.2.1
    refine ⟨⟨eo, fun x hx => ?_, fun x x0 x1 x2 => ?_⟩, fun x hx => ?_, fun o j' hoj ho => ?_⟩
    · rw [e30]
      split
      · rename_i c2; subst c2; exact ⟨hj.1, con_tr hj.2 (ak_sym hr)⟩
      · exact hT.2.1 x hx
    · rw [e30, if_neg (fun c2 => by subst c2; exact x2 hr.1.2.2)]
      exact hT.2.2 x x0 x1 x2
    · rw [e30]
      split
      · rename_i c2; subst c2; omega
      · exact hle x hx
    · rw [e30]
      split
      · rename_i c2; subst c2
        rcases hoj with h1 | ⟨_, rfl⟩
        · have := hK _ _ h1 ho; omega
        · exact hj1
      · rename_i c2
        rcases hoj with h1 | ⟨h1, _⟩
        · exact hK _ _ h1 ho
        · exact absurd h1 c2
  · rw [cif_f c1] at e30
    have e31 : ∀ x, rcG m c T 30 x = T 30 x := fun x => by
      rw [e30]; split
      · rename_i c2; rw [c2]
      · rfl
    refine ⟨⟨eo, fun x hx => by rw [e31]; exact hT.2.1 x hx, fun x x0 x1 x2 => by rw [e31]; exact hT.2.2 x x0 x1 x2⟩, fun x hx => by rw [e31]; exact hle x hx, fun o j' hoj ho => ?_⟩
    rw [e31]
    rcases hoj with h1 | ⟨rfl, rfl⟩
    · exact hK _ _ h1 ho
    · have h2 : ¬ M 14 (T 30 j') < M 14 (T 30 o) := fun h3 => c1 ⟨hak.mpr ho, h3⟩
      have := hle j' ho.2.1
      omega
theorem rcO_rnd {M : ZS} (hM : MB M) {m r : Int} {T : ZS} (hT : rchP M m T) : rchP M m (rcO m r T) ∧ RND M m (fun x => M 14 (T 30 x)) (fun x => M 14 (rcO m r T 30 x)) := by
  have hB : (0 : Int) ≤ M 11 0 ∧ M 11 0 ≤ 20 := hM 11 0
  have hs := sq_le hB.1 hB.2
  unfold rcO
  rw [hT.1 11 (by decide)]
  have h9 := itr1 (f := rcG m) (fun c U => rchP M m U ∧ (∀ x, nmP M x → M 14 (U 30 x) ≤ M 14 (T 30 x)) ∧ ∀ o j, (∃ c' : Int, 0 ≤ c' ∧ c' < c ∧ o = c' / M 11 0 ∧ j = c' % M 11 0) → akR M m o j → M 14 (U 30 o) ≤ M 14 (T 30 j)) (M 11 0 * M 11 0).toNat 0 T (fun c U c0 c1 e => by
    have q := sq_pos c0 hB.1 (show c < M 11 0 * M 11 0 by omega)
    have h8 := rcG_step q.2.2.1 q.2.1 q.2.2.2.1 q.2.2.2.2 e.1 (v0 := fun x => M 14 (T 30 x)) e.2.1 e.2.2
    refine ⟨h8.1, h8.2.1, fun o j hoj => h8.2.2 o j ?_⟩
    obtain ⟨c', d0, d1, d2, d3⟩ := hoj
    by_cases c2 : c' = c
    · subst c2; exact Or.inr ⟨d2, d3⟩
    · exact Or.inl ⟨c', d0, by omega, d2, d3⟩) ⟨hT, fun _ _ => Int.le_refl _, fun o j ⟨c', d0, d1, _⟩ => absurd d1 (by omega)⟩
  refine ⟨h9.1, h9.2.1, fun x z hk => h9.2.2 x z ?_ hk, fun _ x hx => ?_⟩
  · have hx := hk.1
    have hz := hk.2.1
    unfold nmP at hx hz
    refine ⟨z + x * M 11 0, ?_, ?_, ?_, ?_⟩
    · have := Int.mul_nonneg hx.1 hB.1
      omega
    · have h1 : (x + 1) * M 11 0 ≤ M 11 0 * M 11 0 := Int.mul_le_mul_of_nonneg_right (by omega) hB.1
      rw [Int.add_mul] at h1
      omega
    · rw [Int.add_mul_ediv_right _ _ (by omega), Int.ediv_eq_zero_of_lt hz.1 hz.2.1, Int.zero_add]
    · rw [Int.add_mul_emod_self_right, Int.emod_eq_of_lt hz.1 hz.2.1]
  · have h1 := h9.1.2.1 x hx
    exact ⟨_, h1.1, h1.2, rfl⟩
theorem mod_fam {M : ZS} (hM : MB M) (m : Int) : rchP M m (rcM m M) ∧ ∀ x y, nmP M x → nmP M y → con M m y x → M 14 (rcM m M 30 x) ≤ M 14 y := by
  have hB : (0 : Int) ≤ M 11 0 ∧ M 11 0 ≤ 20 := hM 11 0
  have hA := itr1 (f := rcF) (fun k T => (∀ q : Nat, q ≠ 30 → T q = M q) ∧ ∀ x : Int, 0 ≤ x → x < k → T 30 x = if 0 < M 14 x then x else -1) (M 11 0).toNat 0 M (fun k T k0 k1 e => by
    unfold rcF
    refine ⟨fun q hq => by rw [su_n _ _ hq, e.1 q hq], fun x x0 x1 => ?_⟩
    rw [su_s, e.1 14 (by decide)]
    by_cases c : x = k
    · subst c; rw [up_s]
    · rw [up_n _ _ c]; exact e.2 x x0 (by omega)) ⟨fun _ _ => rfl, fun x x0 x1 => absurd x1 (by omega)⟩
  have hR0 : rchP M m (itr rcF (M 11 0).toNat 0 M) := ⟨hA.1, fun x hx => by
    have e : itr rcF (M 11 0).toNat 0 M 30 x = x := by
      have hx' := hx
      unfold nmP at hx'
      rw [hA.2 x hx'.1 (by omega), if_pos hx'.2.2]
    rw [e]; exact ⟨hx, con_rf⟩, fun x x0 x1 x2 => by rw [hA.2 x x0 (by omega), if_neg x2]⟩
  have hkeep : ∀ r : Nat, rchP M m (itr (rcO m) r 0 (itr rcF (M 11 0).toNat 0 M)) := by
    intro r
    induction r with
    | zero => exact hR0
    | succ r ih => rw [itr_0l]; exact (rcO_rnd hM ih).1
  have h9 := fam_fix hM (m := m) (V := fun r x => M 14 (itr (rcO m) r 0 (itr rcF (M 11 0).toNat 0 M) 30 x)) (fun r _ => by
    show RND M m (fun x => M 14 (itr (rcO m) r 0 (itr rcF (M 11 0).toNat 0 M) 30 x)) (fun x => M 14 (itr (rcO m) (r + 1) 0 (itr rcF (M 11 0).toNat 0 M) 30 x))
    rw [itr_0l]
    exact (rcO_rnd hM (hkeep r)).2) (fun x hx => by
    show M 14 (itr rcF (M 11 0).toNat 0 M 30 x) = M 14 x
    have hx' := hx
    unfold nmP at hx'
    rw [hA.2 x hx'.1 (by omega), if_pos hx'.2.2])
  unfold rcM
  exact ⟨hkeep _, fun x y _ hy hc => h9.2 x y hy hc⟩
/-- the lowest number of a family, both ways -/
theorem fam_eq {S M : ZS} (hM : MB M) (h : Rel S M) {m x : Int} (hx : nmP M x) : lowV (ffAll m S) x = M 14 (rcM m M 30 x) ∧ nmP M (rcM m M 30 x) := by
  obtain ⟨a1, a2⟩ := cls_fam hM h m
  obtain ⟨b1, b2⟩ := mod_fam hM m
  obtain ⟨y, y1, y2, y3⟩ := a1 x hx
  have hr := b1.2.1 x hx
  refine ⟨?_, hr.1⟩
  have h1 := a2 x _ hr.1 hr.2
  have h2 := b2 x y hx y1 y2
  omega
theorem ff_keep {m : Int} {S : ZS} {q : Nat} (hq : q ≠ 19) : ffAll m S q = S q := ffAll_n hq
theorem fst_u {p : Int → Prop} [DecidablePred p] {y : Int} (hy : p y) : ∀ (n : Nat) (j : Int), j ≤ y → y < j + n → (∀ i : Int, j ≤ i → i < j + n → p i → i = y) → fstC p n j = y := by
  intro n
  induction n with
  | zero => intro j h0 h1 _; omega
  | succ n ih =>
    intro j h0 h1 hu
    show (if p j then j else fstC p n (j + 1)) = y
    by_cases c : p j
    · rw [if_pos c]; exact hu j (by omega) (by omega) c
    · rw [if_neg c]
      have : j ≠ y := fun e => c (by rw [e]; exact hy)
      exact ih (j + 1) (by omega) (by omega) (fun i a b => hu i (by omega) (by omega))
theorem family_eq {S M : ZS} (hM : MB M) (h : Rel S M) (hi : Inv M) {b m : Int} (h0 : 0 ≤ b) (h1 : b < M 11 0) : (if rAt 20 (S 10) b = -1 then -1 else withC (ffAll m S) (rAt 20 (ffAll m S 19) b)) = rcM m M 30 b := by
  have hB : (0 : Int) ≤ M 11 0 ∧ M 11 0 ≤ 20 := hM 11 0
  have hn := (num_iff hM h h0 (show b < 20 by omega)).2
  by_cases c : 0 < M 14 b
  · rw [if_neg (fun h9 => (hn.mp h9) c)]
    have hx : nmP M b := ⟨h0, h1, c⟩
    obtain ⟨e1, e2⟩ := fam_eq hM h (m := m) hx
    have e2' := e2
    unfold nmP at e2'
    unfold withC
    rw [ff_keep (q := 10) (by decide), ff_keep (q := 23) (by decide), h.nB]
    have e3 : rAt 20 (ffAll m S 19) b = M 14 (rcM m M 30 b) := e1
    rw [e3]
    refine fst_u ?_ _ _ (by omega) (by omega) (fun i a1 a2 a3 => ?_)
    · rw [(num_iff hM h e2'.1 (by omega)).1, if_pos e2'.2.2]
    · rw [(num_iff hM h a1 (by omega)).1] at a3
      split at a3
      · rename_i c2
        exact hi.numI i _ a1 (by omega) e2'.1 (by omega) c2 a3
      · omega
  · rw [if_pos (hn.mpr c)]
    exact ((mod_fam hM m).1.2.2 b h0 h1 c).symm
theorem families_eq {S M : ZS} (hM : MB M) (h : Rel S M) (hi : Inv M) {m : Int} : itr (fun k acc => acc + b2 (¬ rAt 20 (ffAll m S 10) k = -1 ∧ rAt 20 (ffAll m S 10) k = rAt 20 (ffAll m S 19) k)) (S 23 0).toNat 0 0 = itr (fun k acc => if rcM m M 30 k = k then acc + 1 else acc) (M 11 0).toNat 0 0 := by
  have hB : (0 : Int) ≤ M 11 0 ∧ M 11 0 ≤ 20 := hM 11 0
  rw [h.nB]
  refine itr_eq _ _ _ (fun k s k0 k1 => ?_)
  show s + b2 (¬ rAt 20 (ffAll m S 10) k = -1 ∧ rAt 20 (ffAll m S 10) k = rAt 20 (ffAll m S 19) k) = if rcM m M 30 k = k then s + 1 else s
  rw [ff_keep (by decide)]
  have hn := num_iff hM h k0 (show k < 20 by omega)
  by_cases c : 0 < M 14 k
  · have hx : nmP M k := ⟨k0, by omega, c⟩
    obtain ⟨e1, e2⟩ := fam_eq hM h (m := m) hx
    have e2' := e2
    unfold nmP at e2'
    have e3 : rAt 20 (ffAll m S 19) k = M 14 (rcM m M 30 k) := e1
    rw [e3]
    by_cases c2 : rcM m M 30 k = k
    · rw [if_pos c2, b2_t ⟨fun h9 => (hn.2.mp h9) c, by rw [hn.1, if_pos c, c2]⟩]
    · rw [if_neg c2, b2_f (fun h9 => ?_), Int.add_zero]
      have h8 := h9.2
      rw [hn.1, if_pos c] at h8
      exact c2 (hi.numI k _ k0 (by omega) e2'.1 (by omega) c h8).symm
  · have e4 := (mod_fam hM m).1.2.2 k k0 (by omega) c
    rw [b2_f (fun h9 => h9.1 (hn.2.mpr c)), if_neg (by rw [e4]; omega), Int.add_zero]
