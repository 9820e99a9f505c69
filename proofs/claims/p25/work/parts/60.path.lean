/-! chances: paths, each told by its group and its first place -/
theorem dC_1 (k f : Int) : dC k (f + 1) - dC k f = bC k + cC k * f := by
  unfold dC
  have e : (f + 1) * (f + 1 - 1) = f * (f - 1) + f * 2 := by
    rw [Int.mul_sub f f 1, Int.add_sub_cancel, Int.add_mul]; omega
  rw [e, Int.add_mul_ediv_right _ _ (by decide), Int.mul_add, Int.mul_add]
  omega
theorem crs {k k' : Int} (h0 : 0 ≤ k) (h1 : k < 405) (g0 : 0 ≤ k') (g1 : k' < 405) (hc : cC k = cC k') (hb : bC k = bC k') : k = k' := by
  unfold bC cC at *
  omega
/-- two courses that go alike in three nights are one -/
theorem crs3 {k k' f : Int} (h0 : 0 ≤ k) (h1 : k < 405) (g0 : 0 ≤ k') (g1 : k' < 405) (e1 : (dC k (f + 1) - dC k f - (dC k' (f + 1) - dC k' f)) % 3600 = 0) (e2 : (dC k (f + 2) - dC k (f + 1) - (dC k' (f + 2) - dC k' (f + 1))) % 3600 = 0) : k = k' := by
  have a1 := dC_1 k f
  have a2 := dC_1 k' f
  have a3 := dC_1 k (f + 1)
  have a4 := dC_1 k' (f + 1)
  have e9 : f + 1 + 1 = f + 2 := by omega
  rw [e9, Int.mul_add] at a3 a4
  have hc : cC k = cC k' := by
    have : (cC k - cC k') % 3600 = 0 := by omega
    unfold cC at *
    omega
  rw [hc] at a1 a3
  refine crs h0 h1 g0 g1 hc ?_
  have : (bC k - bC k') % 3600 = 0 := by omega
  unfold bC at *
  omega
/-- a path's code -/
def phi (f n x : Int) : Int := 3600 * gOf (x % 405) f n + plM x f
def kyP (x : Int) : Prop := 0 ≤ x ∧ x < 1458000
theorem ky_a {x : Int} (h : kyP x) : ∃ a k : Int, x = 405 * a + k ∧ 0 ≤ a ∧ a < 3600 ∧ 0 ≤ k ∧ k < 405 ∧ x % 405 = k ∧ ∀ t, plM x t = (a + dC k t) % 3600 := by
  unfold kyP at h
  refine ⟨x / 405, x % 405, by omega, by omega, by omega, by omega, by omega, rfl, fun t => ?_⟩
  have := plM_key (a := x / 405) (k := x % 405) (t := t) (by omega) (by omega) (by omega) (by omega)
  rw [show 405 * (x / 405) + x % 405 = x by omega] at this
  exact this
theorem pl_b (x t : Int) : 0 ≤ plM x t ∧ plM x t < 3600 := by unfold plM; omega
def wayX (f n x : Int) : Int := 3600 * (if n = 1 then 0 else plM x (f + 1)) + (if 3 ≤ n then plM x (f + 2) else 0)
theorem phi_iff {f n x y : Int} (hn : 1 ≤ n) (hx : kyP x) (hy : kyP y) : phi f n x = phi f n y ↔ (plM x f = plM y f ∧ wayX f n x = wayX f n y) := by
  obtain ⟨a, k, rfl, a0, a1, k0, k1, ek, ep⟩ := ky_a hx
  obtain ⟨a', k', rfl, a0', a1', k0', k1', ek', ep'⟩ := ky_a hy
  have b1 := pl_b (405 * a + k)
  have b2 := pl_b (405 * a' + k')
  unfold phi wayX
  rw [ek, ek']
  by_cases c1 : n = 1
  · subst c1
    rw [if_pos rfl, if_pos rfl, if_neg (by decide), if_neg (by decide)]
    have e1 : gOf k f 1 = 0 := by unfold gOf; rw [if_pos (by decide), show f + 1 - 1 = f by omega]; omega
    have e2 : gOf k' f 1 = 0 := by unfold gOf; rw [if_pos (by decide), show f + 1 - 1 = f by omega]; omega
    rw [e1, e2]
    constructor
    · intro h; exact ⟨by omega, rfl⟩
    · rintro ⟨h, _⟩; rw [h]
  · rw [if_neg c1, if_neg c1]
    by_cases c2 : n = 2
    · subst c2
      rw [if_neg (by decide), if_neg (by decide)]
      have e1 : gOf k f 2 = (dC k (f + 1) - dC k f) % 3600 := by unfold gOf; rw [if_pos (by decide), show f + 2 - 1 = f + 1 by omega]
      have e2 : gOf k' f 2 = (dC k' (f + 1) - dC k' f) % 3600 := by unfold gOf; rw [if_pos (by decide), show f + 2 - 1 = f + 1 by omega]
      rw [e1, e2, ep, ep', ep, ep']
      generalize dC k (f + 1) = d1
      generalize dC k f = d0
      generalize dC k' (f + 1) = d1'
      generalize dC k' f = d0'
      omega
    · rw [if_pos (by omega), if_pos (by omega)]
      have e1 : gOf k f n = k := by unfold gOf; rw [if_neg (by omega)]
      have e2 : gOf k' f n = k' := by unfold gOf; rw [if_neg (by omega)]
      rw [e1, e2]
      constructor
      · intro h
        have := b1 f
        have := b2 f
        have hk : k = k' := by omega
        subst hk
        have hp : plM (405 * a + k) f = plM (405 * a' + k) f := by omega
        have ha : a = a' := by rw [ep, ep'] at hp; omega
        subst ha
        exact ⟨rfl, rfl⟩
      · rintro ⟨h, h2⟩
        have := b1 (f + 1)
        have := b2 (f + 1)
        have := b1 (f + 2)
        have := b2 (f + 2)
        have p1 : plM (405 * a + k) (f + 1) = plM (405 * a' + k') (f + 1) := by omega
        have p2 : plM (405 * a + k) (f + 2) = plM (405 * a' + k') (f + 2) := by omega
        rw [ep, ep'] at p1 p2
        have h9 := h
        rw [ep, ep'] at h9
        have hk : k = k' := crs3 (f := f) k0 k1 k0' k1' (by omega) (by omega)
        omega
/-- near comings are alike on one path -/
theorem near_phi {f n x y : Int} (hn : 1 ≤ n) (hx : kyP x) (hy : kyP y) (h : phi f n x = phi f n y) : isNP x f n ↔ isNP y f n := by
  have h2 := (phi_iff hn hx hy).mp h
  have e : ∀ t : Int, f ≤ t → t < f + n → plM x t = plM y t := by
    intro t t0 t1
    by_cases c1 : t = f
    · rw [c1]; exact h2.1
    · by_cases c2 : n = 2
      · obtain rfl : t = f + 1 := by omega
        have h3 := h2.2
        unfold wayX at h3
        rw [if_neg (by omega), if_neg (by omega), if_neg (by omega), if_neg (by omega)] at h3
        omega
      · have e0 : x = y := by
          obtain ⟨a, k, rfl, a0, a1, k0, k1, ek, ep⟩ := ky_a hx
          obtain ⟨a', k', rfl, a0', a1', k0', k1', ek', ep'⟩ := ky_a hy
          have b1 := pl_b (405 * a + k) f
          have b2 := pl_b (405 * a' + k') f
          unfold phi at h
          rw [ek, ek'] at h
          have e1 : gOf k f n = k := by unfold gOf; rw [if_neg (by omega)]
          have e2 : gOf k' f n = k' := by unfold gOf; rw [if_neg (by omega)]
          rw [e1, e2] at h
          have hk : k = k' := by omega
          subst hk
          have hp : plM (405 * a + k) f = plM (405 * a' + k) f := by omega
          have ha : a = a' := by rw [ep, ep'] at hp; omega
          rw [ha]
        rw [e0]
  unfold isNP
  rw [any_iff, any_iff]
  constructor
  · rintro ⟨t, t0, t1, t2⟩; exact ⟨t, t0, t1, by rw [← e t t0 (by omega)]; exact t2⟩
  · rintro ⟨t, t0, t1, t2⟩; exact ⟨t, t0, t1, by rw [e t t0 (by omega)]; exact t2⟩
/-! the bits of the near comings -/
theorem bit_or {v u : Int64} {i : Nat} : bitAt (v ||| u) i = (bitAt v i || bitAt u i) := by unfold bitAt; rw [Int64.toBitVec_or, BitVec.getLsbD_or]
theorem bit_1 : ∀ i : Fin 64, bitAt 1 i.val = decide (i.val = 0) := by decide +kernel
theorem sh_st : ∀ st : Fin 19, (((zi (st.val : Int)).toInt64 &&& 63).toBitVec.smod 64#64) = BitVec.ofNat 64 st.val := by decide +kernel
theorem nbit_eq {v : Int64} {st : Int} (h0 : 0 ≤ st) (h1 : st < 19) : nbit v st = if bitAt v st.toNat = true then 1 else 0 := by
  obtain ⟨n, rfl⟩ := Int.eq_ofNat_of_zero_le h0
  have hb : bitAt (v >>> ((zi (n : Int)).toInt64 &&& 63)) 0 = bitAt v n := by
    have e : ((zi (n : Int)).toInt64 &&& 63).toBitVec.smod 64 = BitVec.ofNat 64 n := sh_st ⟨n, by omega⟩
    unfold bitAt
    rw [Int64.toBitVec_shiftRight, e, BitVec.sshiftRight_eq', BitVec.getLsbD_sshiftRight, BitVec.toNat_ofNat, Nat.mod_eq_of_lt (by show n < _; omega)]
    simp
    omega
  unfold nbit
  rw [Int.toNat_natCast]
  by_cases c : bitAt v n = true
  · rw [if_pos c]
    have e : (v >>> ((zi (n : Int)).toInt64 &&& 63)) &&& 1 = 1 := bit_ext (fun i hi => by
      rw [bit_and, bit_1 ⟨i, hi⟩]
      show (_ && decide (i = 0)) = decide (i = 0)
      by_cases c2 : i = 0
      · subst c2; rw [hb, c]; rfl
      · rw [decide_eq_false c2, Bool.and_false])
    rw [e]; decide
  · rw [if_neg c]
    have e : (v >>> ((zi (n : Int)).toInt64 &&& 63)) &&& 1 = 0 := bit_ext (fun i hi => by
      rw [bit_and, bit_1 ⟨i, hi⟩, bit_0 ⟨i, hi⟩]
      show (_ && decide (i = 0)) = false
      by_cases c2 : i = 0
      · subst c2; rw [hb]; rw [Bool.eq_false_iff.mpr c]; rfl
      · rw [decide_eq_false c2, Bool.and_false])
    rw [e]; decide
theorem near_bit {k a f n : Int} (hn : 0 ≤ n) (a0 : 0 ≤ a) (a1 : a < 3600) (k0 : 0 ≤ k) (k1 : k < 405) {st : Nat} (hs : st < 19) : bitAt (nbC k a f n) st = true ↔ isNP (405 * ((a + st) % 3600) + k) f n := by
  have h := itr1 (f := nbF k a) (fun t v => bitAt v st = true ↔ ∃ u : Int, f ≤ u ∧ u < t ∧ apM (plM (405 * ((a + st) % 3600) + k) u) (10 * u % 3600) ≤ 2) n.toNat f 0 (fun t v b0 b1 e => by
    unfold nbF
    rw [bit_or, Bool.or_eq_true, e, bool_iff (stretch_bit (by omega) (by omega) (by decide) (by decide) hs)]
    have e1 : ((st : Int) - (10 * t - 2 - dC k t - a) % 3600) % 3600 < 5 ↔ apM (plM (405 * ((a + st) % 3600) + k) t) (10 * t % 3600) ≤ 2 := by
      rw [plM_key (by omega) (by omega) k0 k1]
      generalize dC k t = D
      unfold apM
      split <;> omega
    rw [e1]
    constructor
    · rintro (⟨u, c0, c1, c2⟩ | c2)
      · exact ⟨u, c0, by omega, c2⟩
      · exact ⟨t, b0, by omega, c2⟩
    · rintro ⟨u, c0, c1, c2⟩
      by_cases c3 : u = t
      · subst c3; exact Or.inr c2
      · exact Or.inl ⟨u, c0, by omega, c2⟩) ⟨fun h9 => (by rw [bit_0 ⟨st, by omega⟩] at h9; cases h9), fun ⟨u, c0, c1, _⟩ => absurd c1 (by omega)⟩
  unfold nbC isNP
  rw [h, any_iff]
