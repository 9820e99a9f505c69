/-! what the desk's calls answer, told by the numbers M -/
def DK (S M : ZS) : Prop := CI S ∧ MI M ∧ Rel S M ∧ Inv M
theorem DK.sc {S T M : ZS} (h : DK S M) (hs : SC S T) (hc : CI T) : DK T M := ⟨hc, h.2.1, h.2.2.1.sc hs, h.2.2.2⟩
theorem DK.B {S M : ZS} (h : DK S M) : MB M := MB.of h.2.1
theorem DK.n {S M : ZS} (h : DK S M) : S 20 0 = M 1 0 ∧ S 21 0 = M 3 0 ∧ S 22 0 = M 6 0 ∧ S 23 0 = M 11 0 ∧ S 24 0 = M 17 0 ∧ S 25 0 = M 18 0 ∧ (0 ≤ M 11 0 ∧ M 11 0 ≤ 20) ∧ (0 ≤ M 6 0 ∧ M 6 0 ≤ 60) ∧ (0 ≤ M 3 0 ∧ M 3 0 ≤ 30) ∧ 0 ≤ M 1 0 ∧ M 1 0 ≤ 6 := by
  obtain ⟨hC, hM, hR, hI⟩ := h
  have b1 : (0 : Int) ≤ M 1 0 ∧ M 1 0 ≤ 6 := hM 1 0
  have b3 : (0 : Int) ≤ M 3 0 ∧ M 3 0 ≤ 30 := hM 3 0
  have b6 : (0 : Int) ≤ M 6 0 ∧ M 6 0 ≤ 60 := hM 6 0
  have b11 : (0 : Int) ≤ M 11 0 ∧ M 11 0 ≤ 20 := hM 11 0
  exact ⟨hR.nO, hR.nP, hR.nD, hR.nB, hR.nJ, hR.nN, b11, b6, b3, b1.1, b1.2⟩
theorem DK.cnt {S M : ZS} (h : DK S M) {b : Int} (h0 : 0 ≤ b) (h1 : b < M 11 0) : cntO (findO b S) = (kE M b).length := by
  rw [cnt_eq h.B h.2.2.1 h.2.2.2 h0 h1]
  exact (find_keys h.B h.2.2.2 h0 h1).1
theorem DK.arc {S M : ZS} (h : DK S M) {b : Int} (h0 : 0 ≤ b) : ∀ k : Int, 0 ≤ k → k < 405 → arcC (findO b S) k = Ak M b k := fun _ k0 k1 => find_arc h.B h.2.2.1 h.2.2.2 h0 k0 k1
theorem DK.sp {S M : ZS} (h : DK S M) {b t p : Int} (h0 : 0 ≤ b) (p0 : 0 ≤ p) (p1 : p < 3600) : rAt 3600 (tlAll t (findO b S) 15) p = often (kE M b) t p := tlAll_at (h.arc h0) p0 p1
/-- the places of a body in a night, counted; the one of a rank -/
def spN (l : List Int) (t : Int) : Int := itr (fun p acc => if 0 < often l t p then acc + 1 else acc) 3600 0 0
def whN (l : List Int) (t r : Int) : Int := nthC (fun p => 0 < often l t p) (-1) 3600 0 r
/-- the key of rank r -/
def rkP (l : List Int) (r y : Int) : Prop := below l y ≤ r ∧ r < below l (y + 1)
theorem rkP_u {l : List Int} {r y z : Int} (h : rkP l r y) (h2 : rkP l r z) : y = z := by
  rcases Int.lt_trichotomy y z with h3 | h3 | h3
  · have := below_mono l (show y + 1 ≤ z by omega)
    have := h.2; have := h2.1
    omega
  · exact h3
  · have := below_mono l (show z + 1 ≤ y by omega)
    have := h2.2; have := h.1
    omega
theorem q_orbits {S M T : ZS} {r b : Int} (h : DK S M) (h0 : 0 ≤ b) (h1 : b < M 11 0) (hp : pst_orbits S b r T) : r = (kE M b).length ∧ DK T M := by
  unfold pst_orbits at hp
  obtain ⟨_, hr, hT, hC⟩ := hp
  exact ⟨hr.trans (h.cnt h0 h1), h.sc (by rw [hT]; exact SC_fo) hC⟩
theorem q_anew {S M T : ZS} {r b : Int} (h : DK S M) (h0 : 0 ≤ b) (h1 : b < M 11 0) (hp : pst_orbitsAnew S b r T) : r = (kE M b).length ∧ DK T M := by
  unfold pst_orbitsAnew at hp
  obtain ⟨_, hr, hT, hC⟩ := hp
  refine ⟨hr.trans ?_, h.sc (by rw [hT]; exact SC_ga) hC⟩
  rw [anew_eq h.B h.2.2.1 h.2.2.2 h0 h1]
  exact (find_keys h.B h.2.2.2 h0 h1).1
theorem q_spread {S M T : ZS} {r b t : Int} (h : DK S M) (h0 : 0 ≤ b) (h1 : b < M 11 0) (hp : pst_spread S b t r T) : r = spN (kE M b) t ∧ DK T M := by
  unfold pst_spread at hp
  obtain ⟨_, _, hr, hT, hC⟩ := hp
  refine ⟨hr.trans ?_, h.sc (by rw [hT]; exact SC_fo.tr SC_tl) hC⟩
  unfold spreadN spN
  exact itr_eq _ _ _ (fun p s p0 p1 => by rw [h.sp h0 p0 (by omega)])
theorem q_where {S M T : ZS} {r b t k : Int} (h : DK S M) (h0 : 0 ≤ b) (h1 : b < M 11 0) (hp : pst_where S b t k r T) : r = whN (kE M b) t k ∧ DK T M := by
  unfold pst_where at hp
  obtain ⟨_, _, _, hr, hT, hC⟩ := hp
  refine ⟨hr.trans ?_, h.sc (by rw [hT]; exact SC_fo.tr SC_tl) hC⟩
  unfold placeN whN
  exact nthC_c _ _ _ (fun p p0 p1 => by rw [h.sp h0 p0 (by omega)])
theorem q_orbit {S M T : ZS} {r b k w : Int} (h : DK S M) (h0 : 0 ≤ b) (h1 : b < M 11 0) (hp : pst_orbit S b k w r T) : (∃ y : Int, 0 ≤ y ∧ y < 1458000 ∧ rkP (kE M b) k y ∧ r = orvC w y) ∧ DK T M := by
  unfold pst_orbit at hp
  obtain ⟨_, h2, _, hr, hT, hC⟩ := hp
  rw [h.cnt h0 h1] at h2
  refine ⟨?_, h.sc (by rw [hT]; exact SC_fo.tr SC_tl) hC⟩
  have hA : ∀ k : Int, okA (Ak M b k) := fun k => Ak_ok h.B b k
  have hT2 : ∀ k : Int, 0 ≤ k → k < 405 → arcC (tlAll 0 (findO b S)) k = Ak M b k := fun k k0 k1 => by rw [tlAll_arc]; exact h.arc h0 k k0 k1
  have e0 : below (kE M b) (405 * 0) = 0 := below_0 (fun x hx => (ens_b x hx).1)
  have e := oat_spec hA hT2 (fun p p0 p1 => h.sp h0 p0 p1) 3600 0 k (by decide) (by decide) h2.1 (by
    show k + below (kE M b) (405 * 0) < ((kE M b).length : Int)
    rw [e0]
    omega)
  obtain ⟨a1, a2, a3, a4⟩ := e
  have a3 : below (kE M b) (oatC (tlAll 0 (findO b S)) 3600 0 k) = k + below (kE M b) (405 * 0) := a3
  have a4 : below (kE M b) (oatC (tlAll 0 (findO b S)) 3600 0 k + 1) = k + below (kE M b) (405 * 0) + 1 := a4
  exact ⟨_, a1, by omega, ⟨by rw [a3, e0]; omega, by rw [a4, e0]; omega⟩, hr⟩
theorem q_ofBody {S M T : ZS} {r b w : Int} (h : DK S M) (h0 : 0 ≤ b) (h1 : b < M 11 0) (hp : pst_ofBody S b w r T) : r = (if w = 0 then ((lkM M b).length : Int) else if w = 1 then ownM M b else if w = 2 then M 12 b else if w = 3 then r else if w = 4 then firstM (laysM b M) else if w = 5 then (if 0 < M 14 b then M 14 b else -1) else joinM M b) ∧ DK T M := by
  unfold pst_ofBody at hp
  obtain ⟨_, _, hr, hs, hC⟩ := hp
  refine ⟨?_, h.sc hs hC⟩
  obtain ⟨hC0, hM, hR, hI⟩ := h
  have hB := MB.of hM
  have hb := (show (0 : Int) ≤ M 11 0 ∧ M 11 0 ≤ 20 from hM 11 0)
  have e0 := looks_eq hB hR hI h0
  have f1 := first_eq hB hR hI h0 h1
  rw [e0, (laysM_has (b := b) (M := M)).1, own_eq hB hR h0, (host_at hB hR hI h0 h1).1, f1.1, (num_iff hB hR h0 (by omega)).1, joined_eq hB hR hI] at hr
  by_cases w3 : w = 3
  · subst w3; rfl
  · rw [if_neg w3] at hr
    rw [if_neg w3]
    exact hr
theorem q_ofDot {S M T : ZS} {r d : Int} (h : DK S M) (h0 : 0 ≤ d) (h1 : d < M 6 0) (hp : pst_ofDot S d 3 r T) : r = M 10 d ∧ DK T M := by
  unfold pst_ofDot at hp
  obtain ⟨_, _, hr, hT, hC⟩ := hp
  refine ⟨hr.trans ?_, h.sc (by rw [hT]; exact SC.rf) hC⟩
  rw [if_neg (by decide), if_neg (by decide), if_neg (by decide)]
  exact own_at h.B h.2.2.1 h0 h1
