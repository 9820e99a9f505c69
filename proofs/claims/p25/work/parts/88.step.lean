/-! the law's steps: what changes, told by the numbers M -/
theorem vP_app {D : va_G} {cl : List vw_C} {a b : va_W} {H : Heap} (ha : va_P D cl a H) (hb : va_P D cl b H) : va_P D cl (a ++ b) H := fun k q hk => by
  rcases Nat.lt_or_ge k a.length with h | h
  · rw [List.getElem?_append_left h] at hk; exact ha k q hk
  · rw [List.getElem?_append_right h] at hk; exact hb _ q hk
theorem vP_fst {D : va_G} {cl : List vw_C} {a b : va_W} {H : Heap} (h : va_P D cl (a ++ b) H) : va_P D cl a H := fun k q hk => h k q (by rw [List.getElem?_append_left (List.getElem?_eq_some_iff.mp hk).1]; exact hk)
theorem vP_snd {D : va_G} {cl : List vw_C} {a b : va_W} {H : Heap} (h : va_P D cl (a ++ b) H) : va_P D cl b H := fun k q hk => h (a.length + k) q (by rw [List.getElem?_append_right (Nat.le_add_right _ _), Nat.add_sub_cancel_left]; exact hk)
theorem bW_D {cI : ClassId} {ad ld : Nat → Nat} (h : bDis ad ld) (S L : ZS) : va_D (bA ad ld) (dW cI ad S ++ lW cI ld L) := by
  have h1 := dW_Db (cI := cI) h S
  have h2 := lW_Db (cI := cI) h L
  refine ⟨fun i j p q hi hj e => ?_, fun k q hk => ?_⟩
  · rcases Nat.lt_or_ge i (dW cI ad S).length with a | a <;> rcases Nat.lt_or_ge j (dW cI ad S).length with c | c
    · rw [List.getElem?_append_left a] at hi; rw [List.getElem?_append_left c] at hj
      exact h1.1 i j p q hi hj e
    · rw [List.getElem?_append_left a] at hi; rw [List.getElem?_append_right c] at hj
      obtain ⟨x, hx, ex⟩ := (dW_D h.1 S).2 i p hi
      obtain ⟨y, hy, ey⟩ := (lW_D h.2.1 L).2 _ q hj
      exact absurd (ex.symm.trans (e.trans ey)) (h.2.2 x y hx hy)
    · rw [List.getElem?_append_right a] at hi; rw [List.getElem?_append_left c] at hj
      obtain ⟨x, hx, ex⟩ := (dW_D h.1 S).2 j q hj
      obtain ⟨y, hy, ey⟩ := (lW_D h.2.1 L).2 _ p hi
      exact absurd (ex.symm.trans (e.symm.trans ey)) (h.2.2 x y hx hy)
    · rw [List.getElem?_append_right a] at hi; rw [List.getElem?_append_right c] at hj
      have := h2.1 _ _ p q hi hj e
      omega
  · rcases Nat.lt_or_ge k (dW cI ad S).length with a | a
    · rw [List.getElem?_append_left a] at hk; exact h1.2 k q hk
    · rw [List.getElem?_append_right a] at hk; exact h2.2 _ q hk
/-- a write into one of the law's arrays -/
theorem zb_iast {p : Program} {l : Launch} {e : Env} {R : Room} {s : State} {m : MethodId} {args : Array Value} {below : List Frame} {meth : Method} {c : Code} {H H0 : Heap} {locs : List Loc} {cells slots : Nat} {Q : State → Prop} {cc : ByteArray} {pc : Nat} {ls : Array Slot} {rest : List Value} {D : va_G} {cI cZ cJ : ClassId} {ad ld : Nat → Nat} {S L : ZS} {A : Nat → Prop} (hexec : p.tables.exec = Jvm.exec) (hb : c.code = cc) (hK : KK D cI cZ cJ s) (hdis : bDis ad ld) (hA : ∀ q, bA ad ld q → A q) (hP : va_P D vwCl (dW cI ad S) H) (hL : va_P D vwCl (lW cI ld L) H) (hS : va_S A H0 H locs) (k : Nat) {n : Nat} (ha : (lW cI ld L)[k]? = some (ld k, .inl (cI, n, .inl (zf (L k))))) (hset : ∀ g : Int → Int, (lW cI ld L).set k (ld k, .inl (cI, n, .inl (zf g))) = lW cI ld (su L k g)) {x v : Int} (h0 : 0 ≤ x) (h1 : x < n) (hn : n < 2147483648) (hdg : decode cc pc = .ok (.iastore, 1)) (kk : ∀ (H1 : Heap) (locs1 : List Loc), va_P D vwCl (dW cI ad S) H1 → va_P D vwCl (lW cI ld (su L k (up (L k) x v))) H1 → va_S A H0 H1 locs1 → W p l e R s m args below meth c H1 locs1 cells slots Q (F0 m (pc + 1) ls rest)) : W p l e R s m args below meth c H locs cells slots Q (F0 m pc ls (.int (zi v) :: .int (zi x) :: .ref (ld k) :: rest)) := by
  have hlen : (dW cI ad S).length = 47 := rfl
  refine zi_iast hexec hb hK.1 (vP_app hP hL) ((bW_D hdis S L).up9 hA) hS (47 + k) 0 (by rw [List.getElem?_append_right (by rw [hlen]; omega), hlen, Nat.add_sub_cancel_left]; exact ha) rfl h0 h1 hn hdg (fun H1 locs1 k1 k3 => ?_)
  rw [List.set_append_right _ _ (by rw [hlen]; omega), hlen, Nat.add_sub_cancel_left, hset] at k1
  exact kk H1 locs1 (vP_fst k1) (vP_snd k1) k3
theorem su_same {L : ZS} {k : Nat} {x : Int} : su L k (up (L k) x (L k x + 0)) = L := by
  funext j
  by_cases h : j = k
  · subst h
    rw [su_s]
    funext i
    by_cases h2 : i = x
    · subst h2; rw [up_s, Int.add_zero]
    · rw [up_n _ _ h2]
  · rw [su_n _ _ h]
theorem s31_1 {M : ZS} {z a1 : Int → Int} {c1 : Nat} : ∀ q : Nat, q ≤ 18 → su M c1 a1 q = su (su M 31 z) c1 a1 q := by
  intro q hq
  show (if q = c1 then a1 else M q) = (if q = c1 then a1 else if q = 31 then z else M q)
  rw [if_neg (show ¬ q = 31 by omega)]
theorem s31_3 {M : ZS} {z a1 a2 a3 : Int → Int} {c1 c2 c3 : Nat} : ∀ q : Nat, q ≤ 18 → su (su (su M c1 a1) c2 a2) c3 a3 q = su (su (su (su M 31 z) c1 a1) c2 a2) c3 a3 q := by
  intro q hq
  show (if q = c3 then a3 else if q = c2 then a2 else if q = c1 then a1 else M q) = (if q = c3 then a3 else if q = c2 then a2 else if q = c1 then a1 else if q = 31 then z else M q)
  rw [if_neg (show ¬ q = 31 by omega)]
theorem s31_4 {M : ZS} {z a1 a2 a3 a4 : Int → Int} {c1 c2 c3 c4 : Nat} : ∀ q : Nat, q ≤ 18 → su (su (su (su M c1 a1) c2 a2) c3 a3) c4 a4 q = su (su (su (su (su M 31 z) c1 a1) c2 a2) c3 a3) c4 a4 q := by
  intro q hq
  show (if q = c4 then a4 else if q = c3 then a3 else if q = c2 then a2 else if q = c1 then a1 else M q) = (if q = c4 then a4 else if q = c3 then a3 else if q = c2 then a2 else if q = c1 then a1 else if q = 31 then z else M q)
  rw [if_neg (show ¬ q = 31 by omega)]
/-- bodies that are not yet made stand free -/
def NX (M : ZS) : Prop := ∀ j : Int, M 11 0 ≤ j → j < 12 → M 12 j = -1
def mBody (M : ZS) (d : Int) : ZS := su (su (su M 10 (up (M 10) d (M 11 0))) 12 (up (M 12) (M 11 0) (-1))) 11 (fun _ => M 11 0 + 1)
def mLink (M : ZS) (b d : Int) : ZS := su M 10 (up (M 10) d b)
def mPart (M : ZS) (i : Int) : ZS := su M 12 (up (M 12) i (-1))
def mJoin (M : ZS) (w t : Int) : ZS := su (su (su M 12 (up (M 12) w t)) 13 (up (M 13) w (M 17 0))) 17 (fun _ => M 17 0 + 1)
def mNum (M : ZS) (b y : Int) : ZS := su (su (su (su M 18 (fun _ => M 18 0 + 1)) 14 (up (M 14) b (M 18 0 + 1))) 15 (up (M 15) b (y % 405 / 5 - 40))) 16 (up (M 16) b (y % 5 - 2))
def mShift (M : ZS) (z v : Int) : ZS := su M 0 (up (M 0) z v)
theorem up_at {g : Int → Int} {x v j : Int} : up g x v j = if j = x then v else g j := rfl
theorem body_step {S M T L : ZS} {d r : Int} (h : DK S M) (hG : GL L M) (hN : NX M) (d0 : 0 ≤ d) (d1 : d < 40) (hd : M 10 d = -1) (hc : M 11 0 < 12) (hp : pst_body S d r T) : r = M 11 0 ∧ DK T (mBody M d) ∧ GL (su (su L 0 (up (L 0) d (L 0 d + 10800000 * (M 11 0 + 1)))) 4 (up (L 4) 3 (M 11 0 + 1))) (mBody M d) ∧ NX (mBody M d) := by
  obtain ⟨hC, hM, hR, hI⟩ := h
  have q0 := GL.c hG
  unfold pst_body at hp
  obtain ⟨_, _, _, hr, hT, hCT⟩ := hp
  have q := rel_body (x0 := d) hM hR hI d0 (by omega) hd (by omega)
  have hM' : MI (mBody M d) := MI.upc (MI.up (MI.up hM 10 d (M 11 0) (show (-1 : Int) ≤ M 11 0 ∧ M 11 0 ≤ 19 from ⟨by omega, by omega⟩)) 12 (M 11 0) (-1) (show (-1 : Int) ≤ -1 ∧ (-1 : Int) ≤ 19 from ⟨by decide, by decide⟩)) 11 (M 11 0 + 1) (show (0 : Int) ≤ M 11 0 + 1 ∧ M 11 0 + 1 ≤ 20 from ⟨by omega, by omega⟩)
  have hR' : Rel T (mBody M d) := by rw [hT]; exact q.1.sm s31_3
  have hI' : Inv (mBody M d) := q.2.sm s31_3
  refine ⟨by rw [hr]; exact hR.nB, ⟨hCT, hM', hR', hI'⟩, ⟨⟨q0.2.2.2.2.1, show M 11 0 + 1 ≤ 12 by omega, ⟨?_, ?_, ?_, ?_⟩, ?_, ?_, ?_, ?_, ?_⟩, MB.of hM', hI'⟩, ?_⟩
  · show up (L 4) 3 (M 11 0 + 1) 2 = 40
    rw [up_n _ _ (by decide)]; exact q0.1
  · show up (L 4) 3 (M 11 0 + 1) 3 = M 11 0 + 1
    exact up_s _ _ _
  · show up (L 4) 3 (M 11 0 + 1) 4 = M 17 0
    rw [up_n _ _ (by decide)]; exact q0.2.2.1
  · show up (L 4) 3 (M 11 0 + 1) 5 = M 18 0
    rw [up_n _ _ (by decide)]; exact q0.2.2.2.1
  · intro k k0 k1
    have q1 := GL.d hG k0 k1
    show up (L 0) d (L 0 d + 10800000 * (M 11 0 + 1)) k = 10800000 * (up (M 10) d (M 11 0) k + 1) + 108000 * M 9 k + 3600 * M 7 k + M 8 k ∧ 0 ≤ M 7 k ∧ M 7 k < 14
    rw [up_at, up_at]
    by_cases hk : k = d
    · subst hk
      rw [if_pos rfl, if_pos rfl]
      omega
    · rw [if_neg hk, if_neg hk]
      omega
  · exact hG.1.2.2.2.2.1
  · exact hG.1.2.2.2.2.2.1
  · intro j j0 j1
    obtain ⟨u1, u2, u3, u4, u5⟩ := hG.1.2.2.2.2.2.2.1 j j0 j1
    show L 3 (5 * j) = up (M 12) (M 11 0) (-1) j + 1 ∧ up (M 12) (M 11 0) (-1) j < 12 ∧ L 3 (5 * j + 2) = M 14 j ∧ (up (M 12) (M 11 0) (-1) j ≠ -1 → L 3 (5 * j + 1) = M 13 j + 1) ∧ (0 < M 14 j → L 3 (5 * j + 3) = M 15 j ∧ L 3 (5 * j + 4) = M 16 j)
    rw [up_at]
    by_cases hk : j = M 11 0
    · rw [if_pos hk]
      have := hN j (by omega) j1
      exact ⟨by omega, by decide, u3, fun h9 => absurd rfl h9, u5⟩
    · rw [if_neg hk]
      exact ⟨u1, u2, u3, u4, u5⟩
  · exact hG.1.2.2.2.2.2.2.2
  · intro j j0 j1
    have j0 : M 11 0 + 1 ≤ j := j0
    show up (M 12) (M 11 0) (-1) j = -1
    rw [up_n _ _ (by omega)]
    exact hN j (by omega) j1
/-- lists that differ by one -/
theorem fl_one {p q : Int → Prop} {x : Int} : ∀ (n : Nat) (j : Int), j ≤ x → x < j + n → (∀ i : Int, j ≤ i → i < j + n → i ≠ x → (p i ↔ q i)) → ¬ p x → q x → (fl q n j).length = (fl p n j).length + 1 := by
  intro n
  induction n with
  | zero => intro j h0 h1; exact absurd h1 (by omega)
  | succ n ih =>
    intro j h0 h1 hpq hp hq
    by_cases hj : j = x
    · subst hj
      rw [fl_t hq, fl_f hp, List.length_cons, fl_congr (p := q) (q := p) (fun i a b => (hpq i (by omega) (by omega) (by omega)).symm)]
    · have e := ih (j + 1) (by omega) (by omega) (fun i a b c => hpq i (by omega) (by omega) c) hp hq
      by_cases c : p j
      · rw [fl_t c, fl_t ((hpq j (by omega) (by omega) hj).mp c), List.length_cons, List.length_cons, e]
      · rw [fl_f c, fl_f (fun h9 => c ((hpq j (by omega) (by omega) hj).mpr h9)), e]
theorem link_step {S M T L : ZS} {b d r : Int} (h : DK S M) (hG : GL L M) (hN : NX M) (h0 : 0 ≤ b) (h1 : b < M 11 0) (d0 : 0 ≤ d) (d1 : d < 40) (hcl : clP M b d) (hp : pst_link S b d r T) : r = lkN M b + 1 ∧ DK T (mLink M b d) ∧ GL (su L 0 (up (L 0) d (L 0 d + 10800000 * (b + 1)))) (mLink M b d) ∧ NX (mLink M b d) := by
  obtain ⟨hC, hM, hR, hI⟩ := h
  have q0 := GL.c hG
  have hd : M 10 d = -1 := hcl.1
  unfold pst_link at hp
  obtain ⟨_, _, _, hr, hT, hCT⟩ := hp
  have hF : Rel (findO b S) M := hR.sc SC_fo
  have q := rel_link (x0 := b) (x1 := d) hM hF hI d0 (by omega) hd h0 h1
  have hM' : MI (mLink M b d) := MI.up hM 10 d b (show (-1 : Int) ≤ b ∧ b ≤ 19 from ⟨by omega, by omega⟩)
  have hR1 : Rel (su (findO b S) 7 (rPut 60 (findO b S 7) d b)) (mLink M b d) := q.1.sm s31_1
  have hI' : Inv (mLink M b d) := q.2.sm s31_1
  have hR' : Rel T (mLink M b d) := by rw [hT]; exact hR1.sc SC_ga
  have hG' : GL (su L 0 (up (L 0) d (L 0 d + 10800000 * (b + 1)))) (mLink M b d) := by
    refine ⟨⟨q0.2.2.2.2.1, hG.1.2.1, hG.1.2.2.1, fun k k0 k1 => ?_, hG.1.2.2.2.2⟩, MB.of hM', hI'⟩
    have q1 := GL.d hG k0 k1
    show up (L 0) d (L 0 d + 10800000 * (b + 1)) k = 10800000 * (up (M 10) d b k + 1) + 108000 * M 9 k + 3600 * M 7 k + M 8 k ∧ 0 ≤ M 7 k ∧ M 7 k < 14
    rw [up_at, up_at]
    by_cases hk : k = d
    · subst hk
      rw [if_pos rfl, if_pos rfl]
      omega
    · rw [if_neg hk, if_neg hk]
      omega
  refine ⟨?_, ⟨hCT, hM', hR', hI'⟩, hG', hN⟩
  rw [hr, looks_eq (MB.of hM') hR1 hI' h0, (laysM_has (b := b) (M := mLink M b d)).1, lkN_len hG, GL.lk hG', GL.lk hG]
  have e9 := fl_one (p := fun k => lookM M k b) (q := fun k => lookM (mLink M b d) k b) (x := d) 40 0 d0 (by omega) (fun i _ _ hi => by
    show (M 10 i ≠ -1 ∧ climb (M 12) 20 (M 10 i) b = b) ↔ (up (M 10) d b i ≠ -1 ∧ climb (M 12) 20 (up (M 10) d b i) b = b)
    rw [up_n _ _ hi]) (fun h9 => h9.1 hd) ⟨by
    show up (M 10) d b d ≠ -1
    rw [up_s]; omega, by
    show climb (M 12) 20 (up (M 10) d b d) b = b
    rw [up_s]; exact climb_s (Or.inr rfl)⟩
  rw [e9]
  omega
theorem unlink_step {S M T L : ZS} {b d r : Int} (h : DK S M) (hG : GL L M) (hN : NX M) (h0 : 0 ≤ b) (h1 : b < M 11 0) (d0 : 0 ≤ d) (d1 : d < 40) (hd : M 10 d = b) (h2 : 2 ≤ ownM M b) (hp : pst_unlink S b d r T) : r = ownM M b - 1 ∧ DK T (mLink M (-1) d) ∧ GL (su L 0 (up (L 0) d (L 0 d - 10800000 * (b + 1)))) (mLink M (-1) d) ∧ NX (mLink M (-1) d) := by
  obtain ⟨hC, hM, hR, hI⟩ := h
  have q0 := GL.c hG
  unfold pst_unlink at hp
  obtain ⟨_, _, _, hr, hT, hCT⟩ := hp
  have q := rel_unlink (x0 := b) (x1 := d) hM hR hI d0 (by omega) hd h2
  have hM' : MI (mLink M (-1) d) := MI.up hM 10 d (-1) (show (-1 : Int) ≤ -1 ∧ (-1 : Int) ≤ 19 from ⟨by decide, by decide⟩)
  have hR1 : Rel (su S 7 (rPut 60 (S 7) d (-1))) (mLink M (-1) d) := q.1.sm s31_1
  have hI' : Inv (mLink M (-1) d) := q.2.sm s31_1
  have hR' : Rel T (mLink M (-1) d) := by rw [hT]; exact hR1
  refine ⟨?_, ⟨hCT, hM', hR', hI'⟩, ⟨⟨q0.2.2.2.2.1, hG.1.2.1, hG.1.2.2.1, fun k k0 k1 => ?_, hG.1.2.2.2.2⟩, MB.of hM', hI'⟩, hN⟩
  · rw [hr, own_eq (MB.of hM') hR1 h0]
    have key : ∀ (n : Nat) (j a c : Int), (j ≤ d ∧ a = c ∨ d < j ∧ a = c + 1) → (j ≤ d → d < j + n) → itr (fun i acc => if M 10 i = b then acc + 1 else acc) n j a = itr (fun i acc => if up (M 10) d (-1) i = b then acc + 1 else acc) n j c + 1 := by
      intro n
      induction n with
      | zero => intro j a c h9 h8; rw [itr_0, itr_0]; rcases h9 with h9 | h9; exact absurd (h8 h9.1) (by omega); omega
      | succ n ih =>
        intro j a c h9 h8
        rw [itr_s, itr_s]
        refine ih (j + 1) _ _ ?_ (fun h7 => by have := h8 (by omega); omega)
        by_cases hj : j = d
        · subst hj
          rw [up_s, if_pos hd, if_neg (by omega)]
          right; rcases h9 with h9 | h9 <;> omega
        · rw [up_n _ _ hj]
          rcases h9 with h9 | h9
          · left; refine ⟨by omega, ?_⟩; rw [h9.2]
          · right; refine ⟨by omega, ?_⟩; rw [h9.2]; split <;> omega
    have e := key (M 6 0).toNat 0 0 0 (Or.inl ⟨d0, rfl⟩) (fun _ => by omega)
    have e1 : ownM M b = itr (fun i acc => if M 10 i = b then acc + 1 else acc) (M 6 0).toNat 0 0 := rfl
    have e2 : ownM (mLink M (-1) d) b = itr (fun i acc => if up (M 10) d (-1) i = b then acc + 1 else acc) (M 6 0).toNat 0 0 := rfl
    rw [e1, e2, e]
    omega
  · have q1 := GL.d hG k0 k1
    show up (L 0) d (L 0 d - 10800000 * (b + 1)) k = 10800000 * (up (M 10) d (-1) k + 1) + 108000 * M 9 k + 3600 * M 7 k + M 8 k ∧ 0 ≤ M 7 k ∧ M 7 k < 14
    rw [up_at, up_at]
    by_cases hk : k = d
    · subst hk
      rw [if_pos rfl, if_pos rfl]
      omega
    · rw [if_neg hk, if_neg hk]
      omega
theorem GL_60 {L M : ZS} {v : Int} (hG : GL L M) (hv : v = 0) : GL (su L 3 (up (L 3) (5 * 12) v)) M := by
  subst hv
  refine ⟨⟨hG.1.1, hG.1.2.1, hG.1.2.2.1, hG.1.2.2.2.1, hG.1.2.2.2.2.1, hG.1.2.2.2.2.2.1, fun j j0 j1 => ?_, fun j j0 j1 => ?_⟩, hG.2⟩
  · show up (L 3) (5 * 12) 0 (5 * j) = M 12 j + 1 ∧ M 12 j < 12 ∧ up (L 3) (5 * 12) 0 (5 * j + 2) = M 14 j ∧ (M 12 j ≠ -1 → up (L 3) (5 * 12) 0 (5 * j + 1) = M 13 j + 1) ∧ (0 < M 14 j → up (L 3) (5 * 12) 0 (5 * j + 3) = M 15 j ∧ up (L 3) (5 * 12) 0 (5 * j + 4) = M 16 j)
    rw [up_n _ _ (by omega), up_n _ _ (by omega), up_n _ _ (by omega), up_n _ _ (by omega), up_n _ _ (by omega)]
    exact hG.1.2.2.2.2.2.2.1 j j0 j1
  · show -200000 ≤ up (L 3) (5 * 12) 0 j ∧ up (L 3) (5 * 12) 0 j ≤ 200000
    have := GL.b hG j0 j1
    rw [up_at]
    split <;> omega
theorem part_step {S M T L : ZS} {b i r : Int} (h : DK S M) (hG : GL L M) (hN : NX M) (h0 : 0 ≤ b) (h1 : b < M 11 0) (hi : i = lateM M b) (hi0 : 0 ≤ i) (hp : pst_part S b r T) : r = i ∧ i < M 11 0 ∧ DK T (mPart M i) ∧ GL (su L 3 (up (L 3) (5 * i) 0)) (mPart M i) ∧ NX (mPart M i) := by
  obtain ⟨hC, hM, hR, hI⟩ := h
  have q0 := GL.c hG
  unfold pst_part at hp
  obtain ⟨_, _, hr, hT, hCT⟩ := hp
  obtain ⟨le, lb⟩ := late_eq (MB.of hM) hR hI h0
  rw [le, ← hi] at hr hT
  rw [← hi] at lb
  have hi1 : i < M 11 0 := by rcases lb with h9 | h9; omega; exact h9.2.1
  have q := rel_part (x0 := b) (la := i) hM hR hI hi0 hi1
  have hM' : MI (mPart M i) := MI.up hM 12 i (-1) (show (-1 : Int) ≤ -1 ∧ (-1 : Int) ≤ 19 from ⟨by decide, by decide⟩)
  have hR' : Rel T (mPart M i) := by rw [hT]; exact q.1.sm s31_1
  have hI' : Inv (mPart M i) := q.2.sm s31_1
  refine ⟨hr, hi1, ⟨hCT, hM', hR', hI'⟩, ⟨⟨hG.1.1, hG.1.2.1, hG.1.2.2.1, hG.1.2.2.2.1, hG.1.2.2.2.2.1, hG.1.2.2.2.2.2.1, fun j j0 j1 => ?_, fun j j0 j1 => ?_⟩, MB.of hM', hI'⟩, fun j j0 j1 => ?_⟩
  · obtain ⟨u1, u2, u3, u4, u5⟩ := hG.1.2.2.2.2.2.2.1 j j0 j1
    show up (L 3) (5 * i) 0 (5 * j) = up (M 12) i (-1) j + 1 ∧ up (M 12) i (-1) j < 12 ∧ up (L 3) (5 * i) 0 (5 * j + 2) = M 14 j ∧ (up (M 12) i (-1) j ≠ -1 → up (L 3) (5 * i) 0 (5 * j + 1) = M 13 j + 1) ∧ (0 < M 14 j → up (L 3) (5 * i) 0 (5 * j + 3) = M 15 j ∧ up (L 3) (5 * i) 0 (5 * j + 4) = M 16 j)
    rw [up_n (j := 5 * j + 2) _ _ (by omega), up_n (j := 5 * j + 1) _ _ (by omega), up_n (j := 5 * j + 3) _ _ (by omega), up_n (j := 5 * j + 4) _ _ (by omega), up_at, up_at]
    by_cases hj : j = i
    · subst hj
      rw [if_pos rfl, if_pos rfl]
      exact ⟨by decide, by decide, u3, fun h9 => absurd rfl h9, u5⟩
    · rw [if_neg hj, if_neg (by omega)]
      exact ⟨u1, u2, u3, u4, u5⟩
  · show -200000 ≤ up (L 3) (5 * i) 0 j ∧ up (L 3) (5 * i) 0 j ≤ 200000
    have := GL.b hG j0 j1
    rw [up_at]
    split <;> omega
  · show up (M 12) i (-1) j = -1
    have j0 : M 11 0 ≤ j := j0
    rw [up_n _ _ (by omega)]
    exact hN j j0 j1
theorem join_step {S M T L : ZS} {w t : Int} (hC : CI T) (hM : MI M) (hR : Rel S M) (hI : Inv M) (hG : GL L M) (hN : NX M) (t0 : 0 ≤ t) (t1 : t < M 11 0) (w0 : 0 ≤ w) (w1 : w < M 11 0) (hne : t ≠ w) (ht : M 12 t = -1) (hj : M 17 0 < 100000) (hT : SC (su (su (su S 8 (rPut 20 (S 8) w t)) 24 (fun _ => S 24 0 + 1)) 9 (rPut 20 (S 9) w (S 24 0 + 1))) T) : DK T (mJoin M w t) ∧ GL (su (su (su L 4 (up (L 4) 4 (M 17 0 + 1))) 3 (up (L 3) (5 * w) (t + 1))) 3 (up (up (L 3) (5 * w) (t + 1)) (5 * w + 1) (M 17 0 + 1))) (mJoin M w t) ∧ NX (mJoin M w t) := by
  have q0 := GL.c hG
  have q := rel_join3 (x0 := w) (x1 := t) (r := t) (j9 := w) hM hR hI t0 t1 w0 w1 hne ht
  have hM' : MI (mJoin M w t) := MI.upc (MI.up (MI.up hM 12 w t (show (-1 : Int) ≤ t ∧ t ≤ 19 from ⟨by omega, by omega⟩)) 13 w (M 17 0) (show (0 : Int) ≤ M 17 0 ∧ M 17 0 ≤ 100000 from ⟨by omega, by omega⟩)) 17 (M 17 0 + 1) (show (0 : Int) ≤ M 17 0 + 1 ∧ M 17 0 + 1 ≤ 100000 from ⟨by omega, by omega⟩)
  have hR' : Rel T (mJoin M w t) := q.1.sc hT
  have hI' : Inv (mJoin M w t) := q.2
  refine ⟨⟨hC, hM', hR', hI'⟩, ⟨⟨hG.1.1, hG.1.2.1, ⟨?_, ?_, ?_, ?_⟩, hG.1.2.2.2.1, hG.1.2.2.2.2.1, hG.1.2.2.2.2.2.1, fun j j0 j1 => ?_, fun j j0 j1 => ?_⟩, MB.of hM', hI'⟩, fun j j0 j1 => ?_⟩
  · show up (L 4) 4 (M 17 0 + 1) 2 = 40
    rw [up_n _ _ (by decide)]; exact q0.1
  · show up (L 4) 4 (M 17 0 + 1) 3 = M 11 0
    rw [up_n _ _ (by decide)]; exact q0.2.1
  · show up (L 4) 4 (M 17 0 + 1) 4 = M 17 0 + 1
    exact up_s _ _ _
  · show up (L 4) 4 (M 17 0 + 1) 5 = M 18 0
    rw [up_n _ _ (by decide)]; exact q0.2.2.2.1
  · obtain ⟨u1, u2, u3, u4, u5⟩ := hG.1.2.2.2.2.2.2.1 j j0 j1
    show up (up (L 3) (5 * w) (t + 1)) (5 * w + 1) (M 17 0 + 1) (5 * j) = up (M 12) w t j + 1 ∧ up (M 12) w t j < 12 ∧ up (up (L 3) (5 * w) (t + 1)) (5 * w + 1) (M 17 0 + 1) (5 * j + 2) = M 14 j ∧ (up (M 12) w t j ≠ -1 → up (up (L 3) (5 * w) (t + 1)) (5 * w + 1) (M 17 0 + 1) (5 * j + 1) = up (M 13) w (M 17 0) j + 1) ∧ (0 < M 14 j → up (up (L 3) (5 * w) (t + 1)) (5 * w + 1) (M 17 0 + 1) (5 * j + 3) = M 15 j ∧ up (up (L 3) (5 * w) (t + 1)) (5 * w + 1) (M 17 0 + 1) (5 * j + 4) = M 16 j)
    rw [up_n (j := 5 * j) _ _ (by omega), up_n (j := 5 * j + 2) _ _ (by omega), up_n (j := 5 * j + 2) _ _ (by omega), up_n (j := 5 * j + 3) _ _ (by omega), up_n (j := 5 * j + 3) _ _ (by omega), up_n (j := 5 * j + 4) _ _ (by omega), up_n (j := 5 * j + 4) _ _ (by omega)]
    by_cases hj : j = w
    · subst hj
      rw [up_s, up_s, up_s, up_s]
      exact ⟨rfl, by omega, u3, fun _ => rfl, u5⟩
    · rw [up_n (x := 5 * w) (j := 5 * j) _ _ (by omega), up_n (x := w) (j := j) _ _ hj, up_n (x := w) (j := j) _ _ hj, up_n (j := 5 * j + 1) _ _ (by omega), up_n (j := 5 * j + 1) _ _ (by omega)]
      exact ⟨u1, u2, u3, u4, u5⟩
  · show -200000 ≤ up (up (L 3) (5 * w) (t + 1)) (5 * w + 1) (M 17 0 + 1) j ∧ up (up (L 3) (5 * w) (t + 1)) (5 * w + 1) (M 17 0 + 1) j ≤ 200000
    have := GL.b hG j0 j1
    rw [up_at, up_at]
    split
    · omega
    · split <;> omega
  · show up (M 12) w t j = -1
    have j0 : M 11 0 ≤ j := j0
    rw [up_n _ _ (by omega)]
    exact hN j j0 j1
theorem shift_step {S M T L : ZS} {z v r : Int} (h : DK S M) (hG : GL L M) (hN : NX M) (z0 : 0 ≤ z) (z1 : z < 9) (hv : -9 ≤ v ∧ v ≤ 9) (hp : pst_shift S z v r T) : r = M 0 z ∧ DK T (mShift M z v) ∧ GL (su L 2 (up (L 2) z v)) (mShift M z v) ∧ NX (mShift M z v) := by
  obtain ⟨hC, hM, hR, hI⟩ := h
  unfold pst_shift at hp
  obtain ⟨_, _, hr, hT, hCT⟩ := hp
  have q := rel_shift (x0 := z) (x1 := v) hM hR hI z0 z1
  have hM' : MI (mShift M z v) := MI.up hM 0 z v (show (-9 : Int) ≤ v ∧ v ≤ 9 from hv)
  have hR' : Rel T (mShift M z v) := by rw [hT]; exact q.1.sm s31_1
  have hI' : Inv (mShift M z v) := q.2.sm s31_1
  refine ⟨?_, ⟨hCT, hM', hR', hI'⟩, ⟨⟨hG.1.1, hG.1.2.1, hG.1.2.2.1, hG.1.2.2.2.1, hG.1.2.2.2.2.1, fun k k0 k1 => ?_, hG.1.2.2.2.2.2.2⟩, MB.of hM', hI'⟩, hN⟩
  · rw [hr, rAt_in z0 z1]
    exact hR.shift z z0 z1
  · show up (L 2) z v k = up (M 0) z v k
    have := GL.z hG k0 k1
    rw [up_at, up_at, this.1]
theorem num_step {S M T L : ZS} {b y : Int} (h : DK S M) (hG : GL L M) (hN : NX M) (h0 : 0 ≤ b) (h1 : b < M 11 0) (h2 : ¬ 0 < M 14 b) (hy : 0 ≤ y ∧ y < 1458000) (h18 : M 18 0 < 20) (hC : CI T) (hT : SC (su (su (su S 25 (fun _ => S 25 0 + 1)) 10 (rPut 20 (S 10) b (S 25 0 + 1))) 11 (rPut 20 (S 11) b (y % 405))) T) : DK T (mNum M b y) ∧ NX (mNum M b y) ∧ ∀ v3 v4 : Int, v3 = y % 405 / 5 - 40 → v4 = y % 5 - 2 → GL (su (su (su (su L 4 (up (L 4) 5 (M 18 0 + 1))) 3 (up (L 3) (5 * b + 2) (M 18 0 + 1))) 3 (up (up (L 3) (5 * b + 2) (M 18 0 + 1)) (5 * b + 3) v3)) 3 (up (up (up (L 3) (5 * b + 2) (M 18 0 + 1)) (5 * b + 3) v3) (5 * b + 4) v4)) (mNum M b y) := by
  obtain ⟨hC0, hM, hR, hI⟩ := h
  have q0 := GL.c hG
  have q := rel_number3 (x0 := b) (y := y) hM hR hI h0 h1 h2
  have hM' : MI (mNum M b y) := MI.up (MI.up (MI.up (MI.upc hM 18 (M 18 0 + 1) (show (0 : Int) ≤ M 18 0 + 1 ∧ M 18 0 + 1 ≤ 20 from ⟨by omega, by omega⟩)) 14 b (M 18 0 + 1) (show (0 : Int) ≤ M 18 0 + 1 ∧ M 18 0 + 1 ≤ 20 from ⟨by omega, by omega⟩)) 15 b (y % 405 / 5 - 40) (show (-40 : Int) ≤ y % 405 / 5 - 40 ∧ y % 405 / 5 - 40 ≤ 40 from ⟨by omega, by omega⟩)) 16 b (y % 5 - 2) (show (-2 : Int) ≤ y % 5 - 2 ∧ y % 5 - 2 ≤ 2 from ⟨by omega, by omega⟩)
  have hR' : Rel T (mNum M b y) := (q.1.sm s31_4).sc hT
  have hI' : Inv (mNum M b y) := q.2.sm s31_4
  refine ⟨⟨hC, hM', hR', hI'⟩, hN, fun v3 v4 e3 e4 => ⟨⟨hG.1.1, hG.1.2.1, ⟨?_, ?_, ?_, ?_⟩, hG.1.2.2.2.1, hG.1.2.2.2.2.1, hG.1.2.2.2.2.2.1, fun j j0 j1 => ?_, fun j j0 j1 => ?_⟩, MB.of hM', hI'⟩⟩
  · show up (L 4) 5 (M 18 0 + 1) 2 = 40
    rw [up_n _ _ (by decide)]; exact q0.1
  · show up (L 4) 5 (M 18 0 + 1) 3 = M 11 0
    rw [up_n _ _ (by decide)]; exact q0.2.1
  · show up (L 4) 5 (M 18 0 + 1) 4 = M 17 0
    rw [up_n _ _ (by decide)]; exact q0.2.2.1
  · show up (L 4) 5 (M 18 0 + 1) 5 = M 18 0 + 1
    exact up_s _ _ _
  · obtain ⟨u1, u2, u3, u4, u5⟩ := hG.1.2.2.2.2.2.2.1 j j0 j1
    show up (up (up (L 3) (5 * b + 2) (M 18 0 + 1)) (5 * b + 3) v3) (5 * b + 4) v4 (5 * j) = M 12 j + 1 ∧ M 12 j < 12 ∧ up (up (up (L 3) (5 * b + 2) (M 18 0 + 1)) (5 * b + 3) v3) (5 * b + 4) v4 (5 * j + 2) = up (M 14) b (M 18 0 + 1) j ∧ (M 12 j ≠ -1 → up (up (up (L 3) (5 * b + 2) (M 18 0 + 1)) (5 * b + 3) v3) (5 * b + 4) v4 (5 * j + 1) = M 13 j + 1) ∧ (0 < up (M 14) b (M 18 0 + 1) j → up (up (up (L 3) (5 * b + 2) (M 18 0 + 1)) (5 * b + 3) v3) (5 * b + 4) v4 (5 * j + 3) = up (M 15) b (y % 405 / 5 - 40) j ∧ up (up (up (L 3) (5 * b + 2) (M 18 0 + 1)) (5 * b + 3) v3) (5 * b + 4) v4 (5 * j + 4) = up (M 16) b (y % 5 - 2) j)
    simp only [up_at]
    by_cases hj : j = b
    · subst hj
      rw [if_neg (show ¬ 5 * j = 5 * j + 4 by omega), if_neg (show ¬ 5 * j = 5 * j + 3 by omega), if_neg (show ¬ 5 * j = 5 * j + 2 by omega), if_neg (show ¬ 5 * j + 2 = 5 * j + 4 by omega), if_neg (show ¬ 5 * j + 2 = 5 * j + 3 by omega), if_neg (show ¬ 5 * j + 1 = 5 * j + 4 by omega), if_neg (show ¬ 5 * j + 1 = 5 * j + 3 by omega), if_neg (show ¬ 5 * j + 1 = 5 * j + 2 by omega), if_neg (show ¬ 5 * j + 3 = 5 * j + 4 by omega)]
      simp only [if_true]
      exact ⟨u1, u2, trivial, u4, fun _ => ⟨e3, e4⟩⟩
    · simp only [if_neg hj]
      rw [if_neg (show ¬ 5 * j = 5 * b + 4 by omega), if_neg (show ¬ 5 * j = 5 * b + 3 by omega), if_neg (show ¬ 5 * j = 5 * b + 2 by omega), if_neg (show ¬ 5 * j + 2 = 5 * b + 4 by omega), if_neg (show ¬ 5 * j + 2 = 5 * b + 3 by omega), if_neg (show ¬ 5 * j + 2 = 5 * b + 2 by omega), if_neg (show ¬ 5 * j + 1 = 5 * b + 4 by omega), if_neg (show ¬ 5 * j + 1 = 5 * b + 3 by omega), if_neg (show ¬ 5 * j + 1 = 5 * b + 2 by omega), if_neg (show ¬ 5 * j + 3 = 5 * b + 4 by omega), if_neg (show ¬ 5 * j + 3 = 5 * b + 3 by omega), if_neg (show ¬ 5 * j + 3 = 5 * b + 2 by omega), if_neg (show ¬ 5 * j + 4 = 5 * b + 4 by omega), if_neg (show ¬ 5 * j + 4 = 5 * b + 3 by omega), if_neg (show ¬ 5 * j + 4 = 5 * b + 2 by omega)]
      exact ⟨u1, u2, u3, u4, u5⟩
  · show -200000 ≤ up (up (up (L 3) (5 * b + 2) (M 18 0 + 1)) (5 * b + 3) v3) (5 * b + 4) v4 j ∧ up (up (up (L 3) (5 * b + 2) (M 18 0 + 1)) (5 * b + 3) v3) (5 * b + 4) v4 j ≤ 200000
    have := GL.b hG j0 j1
    simp only [up_at]
    split
    · omega
    · split
      · omega
      · split <;> omega
