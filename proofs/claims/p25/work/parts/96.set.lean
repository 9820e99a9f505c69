/-! the script's start: observatories, plates, dots -/
def mObs (M : ZS) (x : Int) : ZS := su (su M 2 (up (M 2) (M 1 0) x)) 1 (fun _ => M 1 0 + 1)
def mPl (M : ZS) (x n : Int) : ZS := su (su (su M 4 (up (M 4) (M 3 0) x)) 5 (up (M 5) (M 3 0) n)) 3 (fun _ => M 3 0 + 1)
def mDt (M : ZS) (x t v : Int) : ZS := su (su (su (su (su M 7 (up (M 7) (M 6 0) x)) 8 (up (M 8) (M 6 0) t)) 9 (up (M 9) (M 6 0) v)) 10 (up (M 10) (M 6 0) (-1))) 6 (fun _ => M 6 0 + 1)
theorem s31_2 {M : ZS} {z a1 a2 : Int → Int} {c1 c2 : Nat} : ∀ q : Nat, q ≤ 18 → su (su M c1 a1) c2 a2 q = su (su (su M 31 z) c1 a1) c2 a2 q := by
  intro q hq
  show (if q = c2 then a2 else if q = c1 then a1 else M q) = (if q = c2 then a2 else if q = c1 then a1 else if q = 31 then z else M q)
  rw [if_neg (show ¬ q = 31 by omega)]
theorem s31_5 {M : ZS} {z a1 a2 a3 a4 a5 : Int → Int} {c1 c2 c3 c4 c5 : Nat} : ∀ q : Nat, q ≤ 18 → su (su (su (su (su M c1 a1) c2 a2) c3 a3) c4 a4) c5 a5 q = su (su (su (su (su (su M 31 z) c1 a1) c2 a2) c3 a3) c4 a4) c5 a5 q := by
  intro q hq
  show (if q = c5 then a5 else if q = c4 then a4 else if q = c3 then a3 else if q = c2 then a2 else if q = c1 then a1 else M q) = (if q = c5 then a5 else if q = c4 then a4 else if q = c3 then a3 else if q = c2 then a2 else if q = c1 then a1 else if q = 31 then z else M q)
  rw [if_neg (show ¬ q = 31 by omega)]
theorem obs_step {S M T : ZS} {x r : Int} (h : DK S M) (hx : 0 ≤ x ∧ x ≤ 9) (hp : pst_observatory S x r T) : r = M 1 0 ∧ DK T (mObs M x) := by
  obtain ⟨hC, hM, hR, hI⟩ := h
  unfold pst_observatory at hp
  obtain ⟨_, h6, hr, hT, hCT⟩ := hp
  have q := rel_observatory (x0 := x) hC hM hR hI h6
  have n1 : S 20 0 = M 1 0 := hR.nO
  have m1 : (0 : Int) ≤ M 1 0 := (hM 1 0).1
  have hM' : MI (mObs M x) := MI.upc (MI.up hM 2 (M 1 0) x (show (0 : Int) ≤ x ∧ x ≤ 9 from hx)) 1 (M 1 0 + 1) (show (0 : Int) ≤ M 1 0 + 1 ∧ M 1 0 + 1 ≤ 6 from ⟨by omega, by omega⟩)
  exact ⟨hr.trans n1, hCT, hM', by rw [hT]; exact q.1.sm s31_2, q.2.sm s31_2⟩
theorem plate_step {S M T : ZS} {x n r : Int} (h : DK S M) (hp : pst_plate S x n r T) : r = M 3 0 ∧ DK T (mPl M x n) := by
  obtain ⟨hC, hM, hR, hI⟩ := h
  unfold pst_plate at hp
  obtain ⟨hx, hn, h6, hr, hT, hCT⟩ := hp
  have q := rel_plate (x0 := x) (x1 := n) hC hM hR hI h6
  have n0 : S 20 0 = M 1 0 := hR.nO
  have n1 : S 21 0 = M 3 0 := hR.nP
  have m1 : (0 : Int) ≤ M 3 0 := (hM 3 0).1
  have m0 : M 1 0 ≤ 6 := (hM 1 0).2
  have hM' : MI (mPl M x n) := MI.upc (MI.up (MI.up hM 4 (M 3 0) x (show (0 : Int) ≤ x ∧ x ≤ 5 from ⟨by omega, by omega⟩)) 5 (M 3 0) n (show (0 : Int) ≤ n ∧ n ≤ 999 from hn)) 3 (M 3 0 + 1) (show (0 : Int) ≤ M 3 0 + 1 ∧ M 3 0 + 1 ≤ 30 from ⟨by omega, by omega⟩)
  exact ⟨hr.trans n1, hCT, hM', by rw [hT]; exact q.1.sm s31_3, q.2.sm s31_3⟩
theorem dot_step {S M T : ZS} {x t v r : Int} (h : DK S M) (hp : pst_dot S x t v r T) : r = M 6 0 ∧ DK T (mDt M x t v) := by
  obtain ⟨hC, hM, hR, hI⟩ := h
  unfold pst_dot at hp
  obtain ⟨hx, ht, hv, h6, hr, hT, hCT⟩ := hp
  have q := rel_dot (x0 := x) (x1 := t) (x2 := v) hC hM hR hI h6
  have n0 : S 21 0 = M 3 0 := hR.nP
  have n1 : S 22 0 = M 6 0 := hR.nD
  have m1 : (0 : Int) ≤ M 6 0 := (hM 6 0).1
  have m0 : M 3 0 ≤ 30 := (hM 3 0).2
  have hM' : MI (mDt M x t v) := MI.upc (MI.up (MI.up (MI.up (MI.up hM 7 (M 6 0) x (show (0 : Int) ≤ x ∧ x ≤ 29 from ⟨by omega, by omega⟩)) 8 (M 6 0) t (show (0 : Int) ≤ t ∧ t ≤ 3599 from ht)) 9 (M 6 0) v (show (0 : Int) ≤ v ∧ v ≤ 99 from hv)) 10 (M 6 0) (-1) (show (-1 : Int) ≤ -1 ∧ (-1 : Int) ≤ 19 from ⟨by decide, by decide⟩)) 6 (M 6 0 + 1) (show (0 : Int) ≤ M 6 0 + 1 ∧ M 6 0 + 1 ≤ 60 from ⟨by omega, by omega⟩)
  exact ⟨hr.trans n1, hCT, hM', by rw [hT]; exact q.1.sm s31_5, q.2.sm s31_5⟩
theorem nox_obs {S M : ZS} (h : DK S M) {x : Int} (hx : 0 ≤ x ∧ x ≤ 9) (h6 : M 1 0 < 6) : ∀ E T, ¬ pxx_observatory S x E T := fun E T hp => by
  unfold pxx_observatory at hp
  have n1 := h.n
  rcases hp.1 with ⟨h1, -⟩ | ⟨-, h1, -⟩
  · exact h1 hx
  · exact h1 (by omega)
theorem nox_plate {S M : ZS} (h : DK S M) {x n : Int} (hx : 0 ≤ x ∧ x < M 1 0) (hn : 0 ≤ n ∧ n ≤ 999) (h6 : M 3 0 < 30) : ∀ E T, ¬ pxx_plate S x n E T := fun E T hp => by
  unfold pxx_plate at hp
  have n1 := h.n
  rcases hp.1 with ⟨h1, -⟩ | ⟨-, h1, -⟩ | ⟨-, -, h1, -⟩
  · exact h1 ⟨by omega, by omega⟩
  · exact h1 hn
  · exact h1 (by omega)
theorem nox_dot {S M : ZS} (h : DK S M) {x t v : Int} (hx : 0 ≤ x ∧ x < M 3 0) (ht : 0 ≤ t ∧ t ≤ 3599) (hv : 0 ≤ v ∧ v ≤ 99) (h6 : M 6 0 < 60) : ∀ E T, ¬ pxx_dot S x t v E T := fun E T hp => by
  unfold pxx_dot at hp
  have n1 := h.n
  rcases hp.1 with ⟨h1, -⟩ | ⟨-, h1, -⟩ | ⟨-, -, h1, -⟩ | ⟨-, -, -, h1, -⟩
  · exact h1 ⟨by omega, by omega⟩
  · exact h1 ht
  · exact h1 hv
  · exact h1 (by omega)
theorem nox_shift {S : ZS} {z v : Int} (hz : 0 ≤ z ∧ z < 9) (hv : -9 ≤ v ∧ v ≤ 9) : ∀ E T, ¬ pxx_shift S z v E T := fun E T hp => by
  unfold pxx_shift at hp
  rcases hp.1 with ⟨h1, -⟩ | ⟨-, h1, -⟩
  · exact h1 hz
  · exact h1 hv
/-- nothing yet but observatories, plates and dots -/
def SU (no np nd : Int) (M : ZS) : Prop := M 1 0 = no ∧ M 3 0 = np ∧ M 6 0 = nd ∧ M 11 0 = 0 ∧ M 17 0 = 0 ∧ M 18 0 = 0 ∧ (∀ j : Int, M 0 j = 0) ∧ (∀ j : Int, M 10 j = -1) ∧ (∀ j : Int, M 12 j = -1) ∧ ∀ j : Int, M 14 j = 0
theorem SU.obs {no np nd x : Int} {M : ZS} (h : SU no np nd M) : SU (no + 1) np nd (mObs M x) := ⟨by show M 1 0 + 1 = no + 1; rw [h.1], h.2⟩
theorem SU.pl {no np nd x n : Int} {M : ZS} (h : SU no np nd M) : SU no (np + 1) nd (mPl M x n) := ⟨h.1, by show M 3 0 + 1 = np + 1; rw [h.2.1], h.2.2⟩
theorem SU.dt {no np nd x t v : Int} {M : ZS} (h : SU no np nd M) : SU no np (nd + 1) (mDt M x t v) := ⟨h.1, h.2.1, by show M 6 0 + 1 = nd + 1; rw [h.2.2.1], h.2.2.2.1, h.2.2.2.2.1, h.2.2.2.2.2.1, h.2.2.2.2.2.2.1, fun j => by
  show up (M 10) (M 6 0) (-1) j = -1
  rw [up_at]
  split
  · rfl
  · exact h.2.2.2.2.2.2.2.1 j, h.2.2.2.2.2.2.2.2⟩
def LE3 (n : Int) (e : Int → Int) (M : ZS) : Prop := ∀ k : Int, 0 ≤ k → k < n → e k = M 2 k ∧ 0 ≤ e k ∧ e k ≤ 2
theorem LE3.obs {no np nd r : Int} {M : ZS} {e : Int → Int} (h : LE3 no e M) (hs : SU no np nd M) (hr : 0 ≤ r ∧ r < 3) : LE3 (no + 1) (up e no r) (mObs M r) := fun k k0 k1 => by
  show up e no r k = up (M 2) (M 1 0) r k ∧ 0 ≤ up e no r k ∧ up e no r k ≤ 2
  rw [hs.1, up_at, up_at]
  split
  · exact ⟨rfl, by omega, by omega⟩
  · exact h k k0 (by omega)
theorem LE3.pl {n x m : Int} {M : ZS} {e : Int → Int} (h : LE3 n e M) : LE3 n e (mPl M x m) := h
theorem LPl.pl {no np nd x n v : Int} {M L : ZS} (h : LPl np L M) (hs : SU no np nd M) (hv : v = 10 * n + M 2 x) : LPl (np + 1) (su L 1 (up (L 1) np v)) (mPl M x n) := fun k k0 k1 => by
  show up (L 1) np v k = 10 * up (M 5) (M 3 0) n k + M 2 (up (M 4) (M 3 0) x k)
  rw [hs.2.1, up_at, up_at, up_at]
  by_cases c : k = np
  · rw [if_pos c, if_pos c, if_pos c]; exact hv
  · rw [if_neg c, if_neg c, if_neg c]; exact h k k0 (by omega)
theorem LD.dt {no np nd x t w v : Int} {M L : ZS} (h : LD nd L M) (hs : SU no np nd M) (hx : 0 ≤ x ∧ x < 14) (hv : v = 3600 * x + t + 108000 * w) : LD (nd + 1) (su L 0 (up (L 0) nd v)) (mDt M x t w) := fun k k0 k1 => by
  show up (L 0) nd v k = 10800000 * (up (M 10) (M 6 0) (-1) k + 1) + 108000 * up (M 9) (M 6 0) w k + 3600 * up (M 7) (M 6 0) x k + up (M 8) (M 6 0) t k ∧ 0 ≤ up (M 7) (M 6 0) x k ∧ up (M 7) (M 6 0) x k < 14
  rw [hs.2.2.1, up_at, up_at, up_at, up_at, up_at]
  by_cases c : k = nd
  · simp only [if_pos c]; omega
  · simp only [if_neg c]; exact h k k0 (by omega)
theorem LPl.dt {n x t w : Int} {g : Int → Int} {M L : ZS} (h : LPl n L M) : LPl n (su L 0 g) (mDt M x t w) := h
/-- the arrays stand, at the start's end -/
theorem GL_init {S L M : ZS} {no np : Int} (h : DK S M) (hs : SU no np 40 M) (hp : LPl 14 L M) (hd : LD 40 L M) (h2 : ∀ j : Int, L 2 j = 0) (h3 : ∀ j : Int, L 3 j = 0) (h42 : L 4 2 = 40) (h43 : L 4 3 = 0) (h44 : L 4 4 = 0) (h45 : L 4 5 = 0) : GL L M ∧ NX M := by
  obtain ⟨s1, s2, s3, s4, s5, s6, s7, s8, s9, s10⟩ := hs
  refine ⟨⟨⟨s3, by omega, ⟨h42, by omega, by omega, by omega⟩, hd, hp, fun k _ _ => by rw [h2, s7], fun j _ _ => ⟨by rw [h3, s9]; rfl, by rw [s9]; decide, by rw [h3, s10], fun h9 => absurd (s9 j) h9, fun h9 => by have := s10 j; omega⟩, fun j _ _ => by rw [h3]; exact ⟨by decide, by decide⟩⟩, MB.of h.2.1, h.2.2.2⟩, fun j _ _ => s9 j⟩
def S00 : ZS := su (su (su (fun _ _ => 0) 7 (rFill 60 (fun _ => 0) (-1))) 8 (rFill 20 (fun _ => 0) (-1))) 10 (rFill 20 (fun _ => 0) (-1))
def M00 : ZS := su (su (fun _ _ => 0) 10 (fun _ => -1)) 12 (fun _ => -1)
theorem SU_00 : SU 0 0 0 M00 := ⟨rfl, rfl, rfl, rfl, rfl, rfl, fun _ => rfl, fun _ => rfl, fun _ => rfl, fun _ => rfl⟩
theorem DK_00 : DK S00 M00 := by
  have c0 : ∀ k : Nat, cLo k ≤ 0 ∧ 0 ≤ cHi k := fun k => by unfold cLo cHi; constructor <;> split <;> decide
  have m0 : ∀ k : Nat, mLo k ≤ 0 ∧ 0 ≤ mHi k := fun k => by unfold mLo mHi; constructor <;> split <;> decide
  refine ⟨fun k j => ?_, fun k j => ?_, ?_, ?_⟩
  · have hf : ∀ n : Int, -1 ≤ rFill n (fun _ => 0) (-1) j ∧ rFill n (fun _ => 0) (-1) j ≤ 0 := fun n => by
      unfold rFill
      split
      · exact ⟨by decide, by decide⟩
      · exact ⟨show (-1 : Int) ≤ 0 by decide, show (0 : Int) ≤ 0 by decide⟩
    have e : S00 k = if k = 10 then rFill 20 (fun _ => 0) (-1) else if k = 8 then rFill 20 (fun _ => 0) (-1) else if k = 7 then rFill 60 (fun _ => 0) (-1) else fun _ => 0 := rfl
    rw [e]
    by_cases k1 : k = 10
    · rw [if_pos k1, k1]; exact ⟨(hf 20).1, Int.le_trans (hf 20).2 (by decide)⟩
    · rw [if_neg k1]
      by_cases k2 : k = 8
      · rw [if_pos k2, k2]; exact ⟨(hf 20).1, Int.le_trans (hf 20).2 (by decide)⟩
      · rw [if_neg k2]
        by_cases k3 : k = 7
        · rw [if_pos k3, k3]; exact ⟨(hf 60).1, Int.le_trans (hf 60).2 (by decide)⟩
        · rw [if_neg k3]; exact c0 k
  · have e : M00 k = if k = 12 then fun _ => -1 else if k = 10 then fun _ => -1 else fun _ => 0 := rfl
    rw [e]
    by_cases k1 : k = 12
    · rw [if_pos k1, k1]; exact ⟨by decide, by decide⟩
    · rw [if_neg k1]
      by_cases k2 : k = 10
      · rw [if_pos k2, k2]; exact ⟨by decide, by decide⟩
      · rw [if_neg k2]; exact m0 k
  · have n0 : ∀ j : Int, 0 ≤ j → ¬ j < 0 := fun j h => by omega
    refine ⟨rfl, rfl, rfl, rfl, rfl, rfl, fun _ _ _ => rfl, fun _ _ _ => rfl, fun _ _ _ => rfl, fun _ _ _ => rfl, fun _ _ _ => rfl, fun _ _ _ => rfl, fun _ _ _ => rfl, fun j h0 h1 => absurd h1 (n0 j h0), fun j h0 h1 => if_pos ⟨h0, h1⟩, fun j h0 h1 => absurd h1 (n0 j h0), fun j h0 h1 => if_pos ⟨h0, h1⟩, fun j h0 h1 => absurd h1 (n0 j h0), fun j h0 h1 => ?_, fun j _ _ h => absurd (show (0 : Int) < 0 from h) (by decide)⟩
    exact (show S00 10 j = -1 from if_pos ⟨h0, h1⟩).trans (if_neg (show ¬ (0 : Int) < 0 by decide)).symm
  · have n0 : ∀ j : Int, 0 ≤ j → ¬ j < 0 := fun j h => by omega
    refine ⟨fun j h0 h1 => absurd h1 (n0 j h0), fun j h0 h1 => absurd h1 (n0 j h0), fun j h0 h1 => absurd h1 (n0 j h0), fun j h0 h1 => absurd h1 (n0 j h0), fun j h0 h1 => absurd h1 (n0 j h0), fun _ _ _ => rfl, fun _ _ _ => Int.le_refl 0, fun i j _ _ _ _ h => absurd (show (0 : Int) < 0 from h) (by decide), ?_⟩
    have key : ∀ n : Nat, cnt (fun i => 0 < M00 14 i) n = 0 := by
      intro n
      induction n with
      | zero => rfl
      | succ n ih =>
        have e : b2 (0 < M00 14 (n : Int)) = 0 := b2_f (show ¬ (0 : Int) < 0 by decide)
        rw [cnt, ih, e]
        rfl
    exact (key 20).symm
/-! draw: a place of the script, or of its own -/
theorem and31 (v : Int32) : 0 ≤ (v &&& zi 2147483647).toInt ∧ (v &&& zi 2147483647).toInt ≤ 2147483647 := by
  have h0 : (zi 2147483647).toBitVec.msb = false := by decide
  have h : (v &&& zi 2147483647).toBitVec.msb = false := by rw [Int32.toBitVec_and, BitVec.msb_and, h0, Bool.and_false]
  rw [BitVec.msb_eq_toInt] at h
  have h1 : ¬ (v &&& zi 2147483647).toBitVec.toInt < 0 := of_decide_eq_false h
  have h2 := (ir_of (v &&& zi 2147483647)).2
  have h3 : (v &&& zi 2147483647).toInt = (v &&& zi 2147483647).toBitVec.toInt := rfl
  omega
theorem ci7_L_draw : Cond.constant RL 7 936110033 ∈ wsL_draw := by decide +kernel
theorem ci8_L_draw : Cond.constant RL 8 799650283 ∈ wsL_draw := by decide +kernel
theorem ci9_L_draw : Cond.constant RL 9 2147483647 ∈ wsL_draw := by decide +kernel
abbrev rmct_L_draw : Room := { frames := 0, cells := 0, slots := 0, locals := 0 }
set_option maxHeartbeats 4000000 in
set_option maxRecDepth 100000 in
theorem ct_L_draw (l : Launch) (b L : Nat) (xs : Nat → Int32) (hLL : L ≤ 260) (x0 x1 : Int) (hx0 : ir x0) (hx1 : ir x1) (hp0 : 0 ≤ x0) (hp1 : 0 < x1) : Met l yL_draw wsL_draw rmct_L_draw (va_Pc [.ref b, .int (zi x0), .int (zi x1)] (fun U => va_X b L xs U U.heap ∧ b < U.heap.size)) (zNi (fun r => 0 ≤ r ∧ r < x1)) 0 0 (fun _ => False) := by
  refine Met.ofW (cc := cL_draw) (maxL := 4) (ret := (some .int)) (by decide) rfl ?_
  intro p e s m args below meth c s₁ B hml hv
  obtain ⟨rfl, hX, hbl⟩ := hv
  have hx := B.exec
  have hb := B.bytes
  have hr := B.returns
  have hts := atoms_spec (ws := wsL_draw) B.pre
  have hown : s.vm.findClass RL = some m.cls := findClass_of_methodNamed B.named
  have hlocks := B.notSynchronized
  have hl := lv_entry ([.ref b, .int (zi x0), .int (zi x1)]) (n := 4) (Nat.le_of_ble_eq_true rfl)
  rw [lg_entry_eq]
  generalize (lg_sl ([.ref b, .int (zi x0), .int (zi x1)]) ++ List.replicate (4 - (lg_sl ([.ref b, .int (zi x0), .int (zi x1)])).length) Slot.unset).toArray = ls at hl ⊢
  have hl : lv_has ls 4 [(0, .ref b), (1, .int (zi x0)), (2, .int (zi x1))] := hl
  have hS : va_S (fun q : Nat => s.heap.size ≤ q) s.heap s.heap [] := va_S.rf
  have hbA : ¬ (fun q : Nat => s.heap.size ≤ q) b := Nat.not_le.mpr hbl
  have K_23 : ∀ (v : Int32) (ls : Array Slot), lv_has ls 4 [(0, .ref b), (1, .int (zi x0)), (2, .int (zi x1))] → W p l e rmct_L_draw s m ([.ref b, .int (zi x0), .int (zi x1)] : List Value).toArray below meth c s.heap [] 0 0 (MQ below (zNi (fun r => 0 ≤ r ∧ r < x1)) ([.ref b, .int (zi x0), .int (zi x1)] : List Value).toArray s 0 0 (fun _ => False)) (F0 m 23 ls [.int v]) := by
    intro v ls hl
    refine lv_istore_n (lv' := [(3, .int v), (0, .ref b), (1, .int (zi x0)), (2, .int (zi x1))]) hx hb dL_draw_23 rfl hl (by decide) rfl (fun ls hl => ?_)
    refine lv_iload_n hx hb dL_draw_24 rfl (lv_at hl 0 rfl) ?_
    refine lv_ldc (v := zi 2147483647) hx hb hown (hts _ ci9_L_draw) dL_draw_25 ?_
    refine lv_iand hx hb dL_draw_27 ?_
    refine zi_raw ?_
    refine zi_top (fun y ey => ?_)
    have hy := and31 v
    rw [← ey] at hy
    refine lv_iload_n hx hb dL_draw_28 rfl (lv_at hl 3 rfl) ?_
    refine zi_irem hx hb ⟨by omega, by omega⟩ hx1 (by omega) (by omega) dL_draw_29 ?_
    exact zr_N (x := y % x1) hx hb hr hlocks dL_draw_30 hS ⟨Int.emod_nonneg _ (by omega), Int.emod_lt_of_pos _ hp1⟩
  show W p l e rmct_L_draw s m ([.ref b, .int (zi x0), .int (zi x1)] : List Value).toArray below meth c s.heap [] 0 0 (MQ below (zNi (fun r => 0 ≤ r ∧ r < x1)) ([.ref b, .int (zi x0), .int (zi x1)] : List Value).toArray s 0 0 (fun _ => False)) (F0 m 0 ls [])
  refine lv_iload_n hx hb dL_draw_0 rfl (lv_at hl 1 rfl) ?_
  refine lv_aload_n hx hb dL_draw_1 rfl (lv_at hl 0 rfl) ?_
  refine va_slen hx hb hX hbl hbA hS dL_draw_2 ?_
  rw [zi_nat]
  refine zi_icmp_ge (tgt := 12) hx hb hx0 ⟨by omega, by omega⟩ dL_draw_3 (by decide) (fun c_3 => ?_) (fun c_3 => ?_)
  · refine lv_ldc (v := zi 936110033) hx hb hown (hts _ ci7_L_draw) dL_draw_12 ?_
    refine lv_iload_n hx hb dL_draw_14 rfl (lv_at hl 1 rfl) ?_
    refine zi_sipush hx hb dL_draw_15 (by decide) ?_
    refine zi_iadd hx hb dL_draw_18 ?_
    refine zi_imul hx hb dL_draw_19 ?_
    refine lv_ldc (v := zi 799650283) hx hb hown (hts _ ci8_L_draw) dL_draw_20 ?_
    refine zi_iadd hx hb dL_draw_22 ?_
    exact K_23 _ _ hl
  · refine lv_aload_n hx hb dL_draw_6 rfl (lv_at hl 0 rfl) ?_
    refine lv_iload_n hx hb dL_draw_7 rfl (lv_at hl 1 rfl) ?_
    refine va_sld hx hb hX hbl hbA hS (i := zi x0) (vp_in_iff.mpr (by rw [zi_toInt hx0]; exact ⟨by omega, by omega⟩)) dL_draw_8 ?_
    refine lv_goto (tgt := 23) hx hb dL_draw_9 (by decide) ?_
    exact K_23 _ _ hl
theorem LPl_b {M L : ZS} {n k : Int} (hM : MI M) (h : LPl n L M) (k0 : 0 ≤ k) (k1 : k < n) : L 1 k = 10 * M 5 k + M 2 (M 4 k) ∧ 0 ≤ M 5 k ∧ M 5 k ≤ 999 ∧ 0 ≤ M 2 (M 4 k) ∧ M 2 (M 4 k) ≤ 9 := ⟨h k k0 k1, (hM 5 k).1, (hM 5 k).2, (hM 2 _).1, (hM 2 _).2⟩
def ZL (L : ZS) : Prop := (∀ j : Int, L 2 j = 0) ∧ (∀ j : Int, L 3 j = 0) ∧ L 4 3 = 0 ∧ L 4 4 = 0 ∧ L 4 5 = 0
theorem ownM_b {M : ZS} {b : Int} (hM : 0 ≤ M 6 0) : 0 ≤ ownM M b ∧ ownM M b ≤ M 6 0 := by
  have key : ∀ (n : Nat) (j acc : Int), acc ≤ itr (fun j acc => if M 10 j = b then acc + 1 else acc) n j acc ∧ itr (fun j acc => if M 10 j = b then acc + 1 else acc) n j acc ≤ acc + n := by
    intro n
    induction n with
    | zero => intro j acc; exact ⟨Int.le_refl _, Int.le_of_eq (Int.add_zero acc).symm⟩
    | succ n ih =>
      intro j acc
      rw [itr_s]
      obtain ⟨h1, h2⟩ := ih (j + 1) (if M 10 j = b then acc + 1 else acc)
      generalize itr (fun j acc => if M 10 j = b then acc + 1 else acc) n (j + 1) (if M 10 j = b then acc + 1 else acc) = y at h1 h2 ⊢
      split at h1 <;> split at h2 <;> (constructor <;> omega)
  have h := key (M 6 0).toNat 0 0
  unfold ownM
  omega
