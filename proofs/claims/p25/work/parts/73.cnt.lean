/-! the law's counts, told by lists -/
noncomputable def fl (p : Int → Prop) (n : Nat) (j : Int) : List Int := (rg n j).filter (fun k => @decide (p k) (Classical.propDecidable _))
theorem fl_0 {p : Int → Prop} {j : Int} : fl p 0 j = [] := rfl
theorem fl_t {p : Int → Prop} {n : Nat} {j : Int} (h : p j) : fl p (n + 1) j = j :: fl p n (j + 1) := by
  unfold fl
  rw [rg, List.filter_cons_of_pos (p := fun k => @decide (p k) (Classical.propDecidable _)) (@decide_eq_true _ (Classical.propDecidable _) h)]
theorem fl_f {p : Int → Prop} {n : Nat} {j : Int} (h : ¬ p j) : fl p (n + 1) j = fl p n (j + 1) := by
  unfold fl
  rw [rg, List.filter_cons_of_neg (by rw [@decide_eq_false _ (Classical.propDecidable _) h]; exact Bool.false_ne_true)]
theorem fl_mem {p : Int → Prop} {n : Nat} {j x : Int} : x ∈ fl p n j ↔ (j ≤ x ∧ x < j + n) ∧ p x := by
  unfold fl
  rw [List.mem_filter, rg_mem]
  exact and_congr_right (fun _ => @decide_eq_true_iff _ (Classical.propDecidable _))
theorem fl_len (p : Int → Prop) (n : Nat) (j : Int) : (fl p n j).length ≤ n := by
  have h := List.length_filter_le (fun k => @decide (p k) (Classical.propDecidable _)) (rg n j)
  rw [rg_len] at h
  exact h
theorem cnt_fl {p : Int → Prop} : ∀ (n : Nat) (j a : Int), itr (fun k acc => acc + b2 (p k)) n j a = a + ((fl p n j).length : Int) := by
  intro n
  induction n with
  | zero => intro j a; rw [itr_0, fl_0]; simp
  | succ n ih =>
    intro j a
    rw [itr_s, ih]
    by_cases h : p j
    · rw [fl_t h, b2_t h, List.length_cons]; omega
    · rw [fl_f h, b2_f h]; omega
theorem lkM_fl {M : ZS} {b : Int} : lkM M b = fl (fun k => lookM M k b) (M 6 0).toNat 0 := by
  unfold lkM fl
  congr 1
  funext d
  exact decide_eq_decide.mpr Iff.rfl
theorem GL.lk {L M : ZS} (h : GL L M) (b : Int) : lkM M b = fl (fun k => lookM M k b) 40 0 := by
  rw [lkM_fl, (GL.c h).2.2.2.2.1]; rfl
theorem lkN_len {L M : ZS} (h : GL L M) (b : Int) : lkN M b = (lkM M b).length := by
  unfold lkN
  rw [cnt_fl, GL.lk h, Int.zero_add]
/-- the earlier look of two -/
noncomputable def fsG (M : ZS) (f d : Int) : Int := cif (f < 0 ∨ nM M d < nM M f) d f
theorem fs_fl {M : ZS} {b : Int} : ∀ (n : Nat) (j f : Int), itr (fsF M b) n j f = (fl (fun k => lookM M k b) n j).foldl (fsG M) f := by
  intro n
  induction n with
  | zero => intro j f; rfl
  | succ n ih =>
    intro j f
    rw [itr_s, ih]
    by_cases h : lookM M j b
    · rw [fl_t (p := fun k => lookM M k b) h, List.foldl_cons]
      congr 1
      by_cases h2 : f < 0 ∨ nM M j < nM M f
      · exact (cif_t ⟨h, h2⟩).trans (cif_t h2).symm
      · exact (cif_f (fun h9 => h2 h9.2)).trans (cif_f h2).symm
    · rw [fl_f (p := fun k => lookM M k b) h]
      congr 1
      exact cif_f (fun h9 => h h9.1)
theorem fs_tl {M : ZS} : ∀ (l : List Int) (f : Int), 0 ≤ f → (∀ d ∈ l, 0 ≤ d) → l.foldl (fsG M) f = l.foldl (fun f d => if nM M d < nM M f then d else f) f := by
  intro l
  induction l with
  | nil => intro f _ _; rfl
  | cons d l ih =>
    intro f hf hl
    rw [List.foldl_cons, List.foldl_cons]
    have hd := hl d List.mem_cons_self
    have hl2 : ∀ x ∈ l, 0 ≤ x := fun x hx => hl x (List.mem_cons_of_mem _ hx)
    by_cases h : nM M d < nM M f
    · rw [show fsG M f d = d from cif_t (Or.inr h), if_pos h]
      exact ih d hd hl2
    · rw [show fsG M f d = f from cif_f (fun h9 => h9.elim (by omega) h), if_neg h]
      exact ih f hf hl2
theorem firstM_fold {M : ZS} {b d : Int} {l : List Int} (h : lkM M b = d :: l) : firstM (laysM b M) = l.foldl (fun f d => if nM M d < nM M f then d else f) d := by
  obtain ⟨h1, h2⟩ := laysM_has (b := b) (M := M)
  rw [h] at h1 h2
  have e0 : laysM b M 20 0 = d := h2 0 (Nat.zero_lt_succ _)
  have en : ∀ x, nM (laysM b M) x = nM M x := fun x => by
    unfold nM
    rw [laysM_n (r := 5) (by decide) (by decide), laysM_n (r := 7) (by decide) (by decide)]
  have e1 : (laysM b M 19 0 - 1).toNat = l.length := by rw [h1, List.length_cons]; omega
  unfold firstM
  rw [e1, e0]
  simp only [en]
  exact itr_list (fun f x => if nM M x < nM M f then x else f) (laysM b M 20) l 1 d (fun i hi => by
    have h3 := h2 (i + 1) (by rw [List.length_cons]; omega)
    rw [show ((1 : Int) + (i : Int)) = ((i + 1 : Nat) : Int) by omega]
    exact h3)
theorem fsN_first {L M : ZS} (h : GL L M) {b : Int} (h0 : 0 ≤ b) (h1 : b < M 11 0) : fsN M b = firstM (laysM b M) ∧ fsN M b ∈ lkM M b := by
  have hne := lkM_ne h.2.2 h0 h1
  have e : fsN M b = (lkM M b).foldl (fsG M) (-1) := by
    unfold fsN
    rw [fs_fl, GL.lk h]
  cases hl : lkM M b with
  | nil => exact absurd hl hne
  | cons d l =>
    have hb : ∀ x ∈ lkM M b, 0 ≤ x := fun x hx => (lkM_b h.2.1 x hx).1
    rw [hl] at e hb
    rw [List.foldl_cons, show fsG M (-1) d = d from cif_t (Or.inl (by decide)), fs_tl l d (hb d List.mem_cons_self) (fun x hx => hb x (List.mem_cons_of_mem _ hx))] at e
    refine ⟨e.trans (firstM_fold hl).symm, ?_⟩
    rw [e]
    have key : ∀ (l : List Int) (f : Int), l.foldl (fun f d => if nM M d < nM M f then d else f) f ∈ f :: l := by
      intro l
      induction l with
      | nil => intro f; exact List.mem_cons_self
      | cons x l ih =>
        intro f
        rw [List.foldl_cons]
        rcases List.mem_cons.mp (ih (if nM M x < nM M f then x else f)) with h9 | h9
        · rw [h9]
          split
          · exact List.mem_cons_of_mem _ List.mem_cons_self
          · exact List.mem_cons_self
        · exact List.mem_cons_of_mem _ (List.mem_cons_of_mem _ h9)
    exact key l d
/-! the law's count of orbits -/
def oH (M : ZS) (q : ZS × Int) (l : List Int) : Prop := q.2 = l.length ∧ ∀ (i : Nat) (h : i < l.length), q.1 0 i = nM M l[i] ∧ q.1 1 i = tM M l[i] ∧ q.1 2 i = eM M l[i]
noncomputable def oStep (M : ZS) (q : ZS × Int) (k : Int) : ZS × Int := (oPut q.1 q.2 (nM M k) (tM M k) (eM M k), q.2 + 1)
theorem oH_push {M : ZS} {q : ZS × Int} {l : List Int} (h : oH M q l) (k : Int) : oH M (oStep M q k) (l ++ [k]) := by
  obtain ⟨h1, h2⟩ := h
  refine ⟨by rw [List.length_append]; show q.2 + 1 = _; simp only [List.length_cons, List.length_nil]; omega, fun i hi => ?_⟩
  show oPut q.1 q.2 (nM M k) (tM M k) (eM M k) 0 (i : Int) = _ ∧ oPut q.1 q.2 (nM M k) (tM M k) (eM M k) 1 (i : Int) = _ ∧ oPut q.1 q.2 (nM M k) (tM M k) (eM M k) 2 (i : Int) = _
  rw [oPut_0, oPut_1, oPut_2]
  by_cases hl : i < l.length
  · have hne : (i : Int) ≠ q.2 := by omega
    rw [up_n _ _ hne, up_n _ _ hne, up_n _ _ hne, List.getElem_append_left hl]
    exact h2 i hl
  · have hi2 : i = l.length := by rw [List.length_append] at hi; simp only [List.length_cons, List.length_nil] at hi; omega
    subst hi2
    have he : ((l.length : Nat) : Int) = q.2 := h1.symm
    rw [he, up_s, up_s, up_s]
    simp
theorem oG_fold {M : ZS} {b o d : Int} : ∀ (n : Nat) (j : Int) (q : ZS × Int), itr (oF M b o d) n j q = (fl (oPr M b o d) n j).foldl (oStep M) q := by
  intro n
  induction n with
  | zero => intro j q; rfl
  | succ n ih =>
    intro j q
    rw [itr_s, ih]
    by_cases h : oPr M b o d j
    · rw [fl_t (p := oPr M b o d) h, List.foldl_cons]
      congr 1
      exact cif_t h
    · rw [fl_f (p := oPr M b o d) h]
      congr 1
      exact cif_f h
theorem oH_fold {M : ZS} : ∀ (l2 l : List Int) (q : ZS × Int), oH M q l → oH M (l2.foldl (oStep M) q) (l ++ l2) := by
  intro l2
  induction l2 with
  | nil => intro l q h; rw [List.append_nil]; exact h
  | cons k l2 ih =>
    intro l q h
    rw [List.foldl_cons, show l ++ k :: l2 = (l ++ [k]) ++ l2 by simp]
    exact ih _ _ (oH_push h k)
/-- the dots that the law's count takes -/
noncomputable def oL (M : ZS) (b o d : Int) : List Int := fl (oPr M b o d) 40 0
theorem oG_has {M : ZS} {b o d : Int} : oH M (oG M b o d) (oL M b o d) := by
  unfold oG
  rw [oG_fold]
  have h := oH_fold (M := M) (oL M b o d) [] (fun _ _ => 0, 0) ⟨rfl, fun i hi => absurd hi (by simp)⟩
  rw [List.nil_append] at h
  exact h
theorem apM_near {k a t p e : Int} (h1 : 0 ≤ p ∧ p ≤ 3599) (h0 : 0 ≤ e ∧ e ≤ 9) : apM ((a + mvM (bC k) (cC k) t) % 3600) p ≤ e ↔ nearD k a (t, p, e) := by
  unfold nearD stC
  simp only
  have h2 : mvM (bC k) (cC k) t = dC k t := rfl
  rw [h2]
  generalize dC k t = D
  unfold apM
  split <;> omega
/-- the course that the law's number bc means -/
def kBC (bc : Int) : Int := 5 * (bc % 81) + bc / 81
theorem kBC_b {bc : Int} (h0 : 0 ≤ bc) (h1 : bc < 405) : 0 ≤ kBC bc ∧ kBC bc < 405 ∧ bC (kBC bc) = bc % 81 - 40 ∧ cC (kBC bc) = bc / 81 - 2 := by
  unfold kBC bC cC
  omega
theorem near_mod {k a a' : Int} (d : Int × Int × Int) (h : a % 3600 = a' % 3600) : nearD k a d ↔ nearD k a' d := by
  unfold nearD
  have : (a - stC d.1 d.2.1 d.2.2 k) % 3600 = (a' - stC d.1 d.2.1 d.2.2 k) % 3600 := by omega
  rw [this]
theorem oFt_iff {M g : ZS} {n : Int} {l : List Int} (hE : E9 M) (hg : oH M (g, n) l) {bc e : Int} (h0 : 0 ≤ bc) (h1 : bc < 405) (hl : 1 ≤ l.length) (he : -(g 2 0) ≤ e ∧ e ≤ g 2 0) : oFt g n bc (oFr g bc + e) ↔ ∀ d ∈ l, nearD (kBC bc) (oFr g bc + e) (datM M d) := by
  obtain ⟨k0, k1, kb, kc⟩ := kBC_b h0 h1
  obtain ⟨g1, g2⟩ := hg
  have g1 : n = l.length := g1
  have key : ∀ (i : Nat) (h : i < l.length), oNr g bc (oFr g bc + e) i ↔ nearD (kBC bc) (oFr g bc + e) (datM M l[i]) := fun i h => by
    obtain ⟨a1, a2, a3⟩ := g2 i h
    have a1 : g 0 i = nM M l[i] := a1
    have a2 : g 1 i = tM M l[i] := a2
    have a3 : g 2 i = eM M l[i] := a3
    unfold oNr
    rw [a1, a2, a3, ← kb, ← kc]
    exact apM_near (tM_b M _) (hE _)
  have f0 : oNr g bc (oFr g bc + e) ((0 : Nat) : Int) := by
    obtain ⟨a1, a2, a3⟩ := g2 0 hl
    have a2 : g 1 0 = tM M l[0] := a2
    have a3 : g 2 0 = eM M l[0] := a3
    have b1 := tM_b M l[0]
    have b2 : 0 ≤ eM M l[0] ∧ eM M l[0] ≤ 9 := hE _
    unfold oNr oFr
    show apM ((g 1 0 - (0 + mvM (bc % 81 - 40) (bc / 81 - 2) (g 0 0)) % 3600 + e + mvM (bc % 81 - 40) (bc / 81 - 2) (g 0 0)) % 3600) (g 1 0) ≤ g 2 0
    generalize mvM (bc % 81 - 40) (bc / 81 - 2) (g 0 0) = D
    unfold apM
    split <;> omega
  unfold oFt
  rw [any_iff]
  constructor
  · intro h d hd
    obtain ⟨i, hi, rfl⟩ := List.getElem_of_mem hd
    refine (key i hi).mp ?_
    by_cases hi0 : i = 0
    · subst hi0; exact f0
    · refine Classical.byContradiction (fun hn => h ⟨i, by omega, by omega, hn⟩)
  · rintro h ⟨i, h2, h3, h4⟩
    obtain ⟨j, rfl⟩ := Int.eq_ofNat_of_zero_le (show 0 ≤ i by omega)
    have hj : j < l.length := by omega
    exact h4 ((key j hj).mpr (h _ (List.getElem_mem hj)))
theorem cnt_iv {u v : Int} (huv : u ≤ v) : ∀ (n : Nat) (j a : Int), itr (fun i acc => acc + b2 (u ≤ i ∧ i < v)) n j a = a + max 0 (min v (j + n) - max u j) := by
  intro n
  induction n with
  | zero => intro j a; rw [itr_0]; omega
  | succ n ih =>
    intro j a
    rw [itr_s, ih]
    by_cases h : u ≤ j ∧ j < v
    · rw [b2_t h]; omega
    · rw [b2_f h]; omega
theorem itr_sh {σ : Type} (f : Int → σ → σ) (c : Int) : ∀ (n : Nat) (j : Int) (s : σ), itr f n (j + c) s = itr (fun i s => f (i + c) s) n j s := by
  intro n
  induction n with
  | zero => intro j s; rfl
  | succ n ih =>
    intro j s
    rw [itr_s, itr_s, ← ih, show j + c + 1 = j + 1 + c by omega]
/-- of one b and c -/
theorem oOut_arc {M g : ZS} {n : Int} {l : List Int} (hE : E9 M) (hg : oH M (g, n) l) {bc acc : Int} (h0 : 0 ≤ bc) (h1 : bc < 405) (hl : 1 ≤ l.length) : oOut g n bc acc = acc + (arcL (kBC bc) (l.map (datM M))).2 := by
  have hok : ∀ d ∈ l.map (datM M), okD d := fun d hd => by
    obtain ⟨x, _, rfl⟩ := List.mem_map.mp hd
    exact datM_ok hE x
  obtain ⟨⟨q1, q2, q3, q4⟩, q5, q6⟩ := arcL_ok (k := kBC bc) hok
  have hne : l.map (datM M) ≠ [] := fun e => by
    rw [List.map_eq_nil_iff] at e
    subst e
    exact absurd hl (by decide)
  have w19 := q5 hne
  obtain ⟨a1, a2, a3⟩ := hg.2 0 hl
  have a1 : g 0 0 = nM M l[0] := a1
  have a2 : g 1 0 = tM M l[0] := a2
  have a3 : g 2 0 = eM M l[0] := a3
  have b2' : 0 ≤ eM M l[0] ∧ eM M l[0] ≤ 9 := hE _
  obtain ⟨k0, k1, kb, kc⟩ := kBC_b h0 h1
  have hfr : oFr g bc % 3600 = (tM M l[0] - dC (kBC bc) (nM M l[0])) % 3600 := by
    unfold oFr
    rw [a1, a2, ← kb, ← kc]
    show (tM M l[0] - (0 + dC (kBC bc) (nM M l[0])) % 3600) % 3600 = _
    omega
  generalize hq : arcL (kBC bc) (l.map (datM M)) = q at *
  have hfit : ∀ e : Int, -(g 2 0) ≤ e → e ≤ g 2 0 → (oFt g n bc (oFr g bc + e) ↔ inA q (oFr g bc + e)) := fun e e0 e1 => by
    rw [oFt_iff hE hg h0 h1 hl ⟨e0, e1⟩, q6]
    exact ⟨fun h d hd => by
      obtain ⟨x, hx, rfl⟩ := List.mem_map.mp hd
      exact h x hx, fun h d hd => h _ (List.mem_map_of_mem hd)⟩
  have hin : ∀ a : Int, inA q a → nearD (kBC bc) a (datM M l[0]) := fun a ha => (q6 a).mp ha _ (List.mem_map_of_mem (List.getElem_mem hl))
  have hnear : ∀ a : Int, nearD (kBC bc) a (datM M l[0]) ↔ (a - (oFr g bc - g 2 0)) % 3600 < 2 * g 2 0 + 1 := fun a => by
    unfold nearD stC datM
    simp only
    rw [a3]
    generalize dC (kBC bc) (nM M l[0]) = D at *
    generalize oFr g bc = F at *
    omega
  unfold oOut
  have e1 : itr (oIn g n bc) (2 * g 2 0 + 1).toNat (-(g 2 0)) acc = itr (fun i acc => acc + b2 (inA q (oFr g bc - g 2 0 + i))) (2 * g 2 0 + 1).toNat 0 acc := by
    have e2 : -(g 2 0) = 0 + -(g 2 0) := by omega
    rw [e2, itr_sh]
    refine itr_eq _ _ _ (fun i s i0 i1 => ?_)
    unfold oIn
    rw [b2_iff (hfit (i + -(g 2 0)) (by omega) (by omega)), show oFr g bc + (i + -(g 2 0)) = oFr g bc - g 2 0 + i by omega]
  rw [e1]
  clear e1 hfit
  by_cases hz : q.2 = 0
  · rw [hz]
    have e3 : itr (fun i acc => acc + b2 (inA q (oFr g bc - g 2 0 + i))) (2 * g 2 0 + 1).toNat 0 acc = itr (fun i acc => acc + b2 ((0 : Int) ≤ i ∧ i < 0)) (2 * g 2 0 + 1).toNat 0 acc := itr_eq _ _ _ (fun i s i0 i1 => by
      rw [b2_f (fun h => by unfold inA at h; omega), b2_f (by omega)])
    rw [e3, cnt_iv (by decide)]
    omega
  · have hs : inA q q.1 := by unfold inA; omega
    have hs2 : inA q (q.1 + q.2 - 1) := by unfold inA; omega
    have n1 := (hnear _).mp (hin _ hs)
    have n2 := (hnear _).mp (hin _ hs2)
    have hd : ∃ δ : Int, δ = (q.1 - (oFr g bc - g 2 0)) % 3600 := ⟨_, rfl⟩
    obtain ⟨δ, hδ⟩ := hd
    have d1 : 0 ≤ δ ∧ δ + q.2 ≤ 2 * g 2 0 + 1 := by
      rw [← hδ] at n1
      generalize oFr g bc = F at *
      omega
    have e3 : itr (fun i acc => acc + b2 (inA q (oFr g bc - g 2 0 + i))) (2 * g 2 0 + 1).toNat 0 acc = itr (fun i acc => acc + b2 (δ ≤ i ∧ i < δ + q.2)) (2 * g 2 0 + 1).toNat 0 acc := itr_eq _ _ _ (fun i s i0 i1 => by
      rw [b2_iff (show inA q (oFr g bc - g 2 0 + i) ↔ (δ ≤ i ∧ i < δ + q.2) by
        unfold inA
        generalize oFr g bc = F at *
        omega)])
    rw [e3, cnt_iv (by omega)]
    omega
/-- sums -/
def sm (f : Int → Int) (n : Nat) (j : Int) : Int := itr (fun k acc => acc + f k) n j 0
theorem sm_a (f : Int → Int) : ∀ (n : Nat) (j a : Int), itr (fun k acc => acc + f k) n j a = a + sm f n j := by
  intro n
  induction n with
  | zero => intro j a; unfold sm; rw [itr_0, itr_0]; omega
  | succ n ih =>
    intro j a
    unfold sm
    rw [itr_s, itr_s, ih, ih (j + 1) (0 + f j)]
    omega
theorem sm_s (f : Int → Int) (n : Nat) (j : Int) : sm f (n + 1) j = f j + sm f n (j + 1) := by
  unfold sm
  rw [itr_s, sm_a]
  unfold sm
  omega
theorem sm_0 (f : Int → Int) (j : Int) : sm f 0 j = 0 := rfl
theorem sm_c {f g : Int → Int} : ∀ (n : Nat) (j : Int), (∀ k : Int, j ≤ k → k < j + n → f k = g k) → sm f n j = sm g n j := by
  intro n
  induction n with
  | zero => intro j _; rfl
  | succ n ih =>
    intro j h
    rw [sm_s, sm_s, h j (by omega) (by omega), ih (j + 1) (fun k a b => h k (by omega) (by omega))]
theorem sm_p (f g : Int → Int) : ∀ (n : Nat) (j : Int), sm (fun k => f k + g k) n j = sm f n j + sm g n j := by
  intro n
  induction n with
  | zero => intro j; rfl
  | succ n ih => intro j; rw [sm_s, sm_s, sm_s, ih]; omega
theorem sm_z : ∀ (n : Nat) (j : Int), sm (fun _ => 0) n j = 0 := by
  intro n
  induction n with
  | zero => intro j; rfl
  | succ n ih => intro j; rw [sm_s, ih]; rfl
theorem sm_x (F : Int → Int → Int) (b : Nat) (v : Int) : ∀ (n : Nat) (j : Int), sm (fun i => sm (fun k => F i k) b v) n j = sm (fun k => sm (fun i => F i k) n j) b v := by
  intro n
  induction n with
  | zero => intro j; rw [sm_0]; exact (sm_z b v).symm
  | succ n ih =>
    intro j
    rw [sm_s, ih, ← sm_p]
    exact sm_c _ _ (fun k _ _ => (sm_s (fun i => F i k) n j).symm)
theorem sm_add (f : Int → Int) (n : Nat) : ∀ (m : Nat) (j : Int), sm f (m + n) j = sm f m j + sm f n (j + m) := by
  intro m
  induction m with
  | zero => intro j; rw [sm_0]; simp
  | succ m ih =>
    intro j
    rw [show m + 1 + n = (m + n) + 1 by omega, sm_s, sm_s, ih, show j + 1 + (m : Int) = j + ((m + 1 : Nat) : Int) by omega]
    omega
theorem sm_mul (f : Int → Int) (b : Nat) : ∀ (a : Nat) (j : Int), sm f (a * b) (j * b) = sm (fun i => sm (fun k => f (i * b + k)) b 0) a j := by
  intro a
  induction a with
  | zero => intro j; rw [Nat.zero_mul]; rfl
  | succ a ih =>
    intro j
    rw [show (a + 1) * b = b + a * b by rw [Nat.add_mul, Nat.one_mul, Nat.add_comm], sm_add, sm_s]
    have e : j * (b : Int) + (b : Int) = (j + 1) * (b : Int) := by rw [Int.add_mul, Int.one_mul]
    rw [e, ih (j + 1)]
    congr 1
    unfold sm
    have h := itr_sh (fun k acc => acc + f k) (j * (b : Int)) b 0 0
    rw [Int.zero_add] at h
    rw [h]
    exact itr_eq _ _ _ (fun i s _ _ => by rw [Int.add_comm i])
theorem sm_bc (W : Int → Int) : sm (fun bc => W (kBC bc)) 405 0 = sm W 405 0 := by
  have e1 := sm_mul (fun bc => W (kBC bc)) 81 5 0
  have e2 := sm_mul W 5 81 0
  rw [Int.zero_mul] at e1 e2
  rw [show (405 : Nat) = 5 * 81 from rfl, e1, sm_c (g := fun i => sm (fun k => W (5 * k + i)) 81 0) 5 0 (fun i i0 i1 => sm_c 81 0 (fun k k0 k1 => by
    unfold kBC
    have a1 : (i * ((81 : Nat) : Int) + k) % 81 = k := by omega
    have a2 : (i * ((81 : Nat) : Int) + k) / 81 = i := by omega
    rw [a1, a2])), sm_x (fun i k => W (5 * k + i)) 81 0 5 0, show (5 * 81 : Nat) = 81 * 5 from rfl, e2]
  exact sm_c 81 0 (fun k _ _ => sm_c 5 0 (fun i _ _ => by rw [Int.mul_comm 5 k]; rfl))
theorem oCnt_len {M g : ZS} {n : Int} {l : List Int} (hE : E9 M) (hg : oH M (g, n) l) (hl : 1 ≤ l.length) : oCnt g n = (ens (fun k => arcL k (l.map (datM M)))).length := by
  have hok : ∀ d ∈ l.map (datM M), okD d := fun d hd => by
    obtain ⟨x, _, rfl⟩ := List.mem_map.mp hd
    exact datM_ok hE x
  have e1 : oCnt g n = sm (fun bc => (arcL (kBC bc) (l.map (datM M))).2) 405 0 := by
    unfold oCnt sm
    exact itr_eq _ _ _ (fun i s i0 i1 => oOut_arc hE hg i0 (by omega) hl)
  rw [e1, sm_bc (fun k => (arcL k (l.map (datM M))).2)]
  have h := sum_len (A := fun k => arcL k (l.map (datM M))) (fun k _ _ => (arcL_ok hok).1.2.2.1) 405 0 0 (by decide) (by decide)
  unfold sm
  rw [h, Int.zero_add]
  rfl
theorem orN_len {M : ZS} (hE : E9 M) {b o d : Int} (hl : 1 ≤ (oL M b o d).length) : orN M b o d = (ens (fun k => arcL k ((oL M b o d).map (datM M)))).length := oCnt_len hE oG_has hl
