/-! orbits anew: bits -/
def bitAt (v : Int64) (i : Nat) : Bool := v.toBitVec.getLsbD i
theorem bits_l : ∀ (w : Fin 20) (b : Fin 19) (i : Fin 64), bitAt (bits (w.val : Int) <<< ((zi (b.val : Int)).toInt64 &&& 63)) i.val = decide (b.val ≤ i.val ∧ i.val < b.val + w.val) := by decide +kernel
theorem bits_r : ∀ (w : Fin 20) (a : Fin 20) (i : Fin 64), bitAt (bits (w.val : Int) >>> ((zi (a.val : Int)).toInt64 &&& 63)) i.val = decide (i.val + a.val < w.val) := by decide +kernel
theorem bits_c : ∀ (w : Fin 20) (b : Fin 19), bcC (bits (w.val : Int) <<< ((zi (b.val : Int)).toInt64 &&& 63)) = (w.val : Int) := by decide +kernel
theorem bit_ext {v u : Int64} (h : ∀ i : Nat, i < 64 → bitAt v i = bitAt u i) : v = u := Int64.toBitVec_inj.mp (BitVec.eq_of_getLsbD_eq (fun i hi => h i hi))
theorem bit_and {v u : Int64} {i : Nat} : bitAt (v &&& u) i = (bitAt v i && bitAt u i) := by unfold bitAt; rw [Int64.toBitVec_and, BitVec.getLsbD_and]
theorem bit_m1 : ∀ i : Fin 64, bitAt (-1) i.val = true := by decide +kernel
theorem bit_l {w b : Int} (h0 : 0 ≤ w) (h1 : w < 20) (g0 : 0 ≤ b) (g1 : b < 19) {i : Nat} (hi : i < 64) : bitAt (bits w <<< ((zi b).toInt64 &&& 63)) i = decide (b ≤ i ∧ i < b + w) := by
  obtain ⟨w, rfl⟩ := Int.eq_ofNat_of_zero_le h0
  obtain ⟨b, rfl⟩ := Int.eq_ofNat_of_zero_le g0
  rw [bits_l ⟨w, by omega⟩ ⟨b, by omega⟩ ⟨i, hi⟩]
  exact decide_eq_decide.mpr (by show b ≤ i ∧ i < b + w ↔ _; omega)
theorem bit_r {w a : Int} (h0 : 0 ≤ w) (h1 : w < 20) (g0 : 0 ≤ a) (g1 : a < 20) {i : Nat} (hi : i < 64) : bitAt (bits w >>> ((zi a).toInt64 &&& 63)) i = decide (i + a < w) := by
  obtain ⟨w, rfl⟩ := Int.eq_ofNat_of_zero_le h0
  obtain ⟨a, rfl⟩ := Int.eq_ofNat_of_zero_le g0
  rw [bits_r ⟨w, by omega⟩ ⟨a, by omega⟩ ⟨i, hi⟩]
  exact decide_eq_decide.mpr (by show i + a < w ↔ _; omega)
theorem bit_0 : ∀ i : Fin 64, bitAt 0 i.val = false := by decide +kernel
theorem stretch_bit {b w : Int} (hb : 0 ≤ b) (hb2 : b < 3600) (hw : 0 ≤ w) (hw2 : w ≤ 19) {i : Nat} (hi : i < 19) : bitAt (stretchC b w) i = decide (((i : Int) - b) % 3600 < w) := by
  unfold stretchC
  by_cases c : b < 19
  · rw [if_pos c, bit_l hw (by omega) hb c (by omega)]
    exact decide_eq_decide.mpr (by omega)
  · rw [if_neg c]
    by_cases c2 : 3600 - b < w
    · rw [if_pos c2, bit_r hw (by omega) (by omega) (by omega) (by omega)]
      exact decide_eq_decide.mpr (by omega)
    · rw [if_neg c2, bit_0 ⟨i, by omega⟩]
      exact (decide_eq_false (by omega)).symm
theorem stretch_z {w : Int} (hw : 0 ≤ w) (hw2 : w ≤ 19) {i : Nat} (hi : i < 64) : bitAt (stretchC 0 w) i = decide ((i : Int) < w) := by
  unfold stretchC
  rw [if_pos (by decide), bit_l hw (by omega) (by decide) (by decide) hi]
  exact decide_eq_decide.mpr (by omega)
theorem bool_iff {p : Bool} {P : Prop} [Decidable P] (h : p = decide P) : p = true ↔ P := by rw [h]; exact decide_eq_true_iff
theorem cpl_eq {S M : ZS} (hM : MB M) (h : Rel S M) (hi : Inv M) {b : Int} (h0 : 0 ≤ b) (h1 : b < M 11 0) (k : Int) : cplC (gatherL b S) k = (Ak M b k).2 := by
  have hS : S 22 0 ≤ 60 := by rw [h.nD]; exact dots_60 hM
  have hG := gatherL_has (b := b) hS
  have hl := lk_eq hM h hi h0
  have hat := fun i hi => gatherL_at (b := b) hS i hi
  rw [hl] at hG hat
  have hp := List.length_pos_iff.mpr (lkM_ne hi h0 h1)
  have hR : Rel (gatherL b S) M := h.sc SC_ga
  obtain ⟨n, hn⟩ : ∃ n : Nat, n = (lkM M b).length := ⟨_, rfl⟩
  -- the looks by their dates
  obtain ⟨D, hD⟩ : ∃ D : Int → Int × Int × Int, D = fun i => datM M (rAt 60 (gatherL b S 12) i) := ⟨_, rfl⟩
  have hDm : ∀ d, d ∈ dts M b ↔ ∃ i : Int, 0 ≤ i ∧ i < n ∧ d = D i := fun d => by
    unfold dts
    rw [List.mem_map]
    constructor
    · rintro ⟨x, hx, rfl⟩
      obtain ⟨j, hj, rfl⟩ := List.getElem_of_mem hx
      exact ⟨j, by omega, by omega, by rw [hD]; show _ = datM M _; rw [hat j hj]⟩
    · rintro ⟨i, a0, a1, rfl⟩
      obtain ⟨j, rfl⟩ := Int.eq_ofNat_of_zero_le a0
      exact ⟨(lkM M b)[j]'(by omega), List.getElem_mem (by omega), by rw [hD]; show _ = datM M _; rw [hat j (by omega)]⟩
  have hok : ∀ i, okD (D i) := fun i => by rw [hD]; exact datM_ok (E9.of hM) _
  have hla : ∀ i : Int, 0 ≤ i → i < n → laC (gatherL b S) (rAt 60 (gatherL b S 12) i) k = stC (D i).1 (D i).2.1 (D i).2.2 k ∧ eOf (gatherL b S) (rAt 60 (gatherL b S 12) i) = (D i).2.2 := fun i a0 a1 => by
    obtain ⟨j, rfl⟩ := Int.eq_ofNat_of_zero_le a0
    have e3 := lkM_b hM _ (List.getElem_mem (l := lkM M b) (n := j) (by omega))
    have e4 := dat_eq hM hR e3.1 e3.2
    rw [hD]
    show laC _ _ k = stC (datM M _).1 (datM M _).2.1 (datM M _).2.2 k ∧ _ = (datM M _).2.2
    rw [hat j (by omega), ← e4]
    exact ⟨rfl, rfl⟩
  obtain ⟨hA, h19, hin⟩ := arcL_ok (k := k) (dts_ok hM b)
  have h19 := h19 (fun e => lkM_ne hi h0 h1 (by unfold dts at e; exact List.map_eq_nil_iff.mp e))
  have hall : ∀ a, inA (arcL k (dts M b)) a ↔ ∀ i : Int, 0 ≤ i → i < n → nearD k a (D i) := fun a => by
    rw [hin]
    constructor
    · exact fun h9 i a0 a1 => h9 _ ((hDm _).mpr ⟨i, a0, a1, rfl⟩)
    · rintro h9 d hd
      obtain ⟨i, a0, a1, rfl⟩ := (hDm d).mp hd
      exact h9 i a0 a1
  show cplC (gatherL b S) k = (arcL k (dts M b)).2
  generalize arcL k (dts M b) = q at *
  have st : ∀ i, 0 ≤ stC (D i).1 (D i).2.1 (D i).2.2 k ∧ stC (D i).1 (D i).2.1 (D i).2.2 k < 3600 := fun i => by unfold stC; omega
  have o0 := hok 0
  unfold okD at o0
  have hb := itr1 (f := leftF (gatherL b S) k) (fun m left => (m = 0 ∧ left = -1) ∨ (1 ≤ m ∧ ∀ i : Nat, i < 64 → (bitAt left i = true ↔ ((i : Int) < 2 * (D 0).2.2 + 1 ∧ ∀ j : Int, 0 ≤ j → j < m → nearD k (stC (D 0).1 (D 0).2.1 (D 0).2.2 k + i) (D j))))) n 0 (-1) (fun m left a c e => by
    right
    refine ⟨by omega, fun i hi => ?_⟩
    have hm := hla m a (by omega)
    have hz := hla 0 (by decide) (by omega)
    have om := hok m
    unfold okD at om
    have sm := st m
    have s0 := st 0
    unfold leftF
    rw [hm.1, hm.2, hz.1, bit_and, Bool.and_eq_true]
    rcases e with ⟨rfl, rfl⟩ | ⟨e0, e1⟩
    · rw [show (stC (D 0).1 (D 0).2.1 (D 0).2.2 k - stC (D 0).1 (D 0).2.1 (D 0).2.2 k) % 3600 = 0 by omega, bool_iff (stretch_z (by omega) (by omega) hi), bit_m1 ⟨i, hi⟩]
      constructor
      · rintro ⟨_, h9⟩
        refine ⟨h9, fun j b0 b1 => ?_⟩
        obtain rfl : j = 0 := by omega
        unfold nearD; omega
      · exact fun h9 => ⟨rfl, h9.1⟩
    · rw [e1 i hi]
      constructor
      · rintro ⟨⟨h9, h8⟩, h7⟩
        rw [bool_iff (stretch_bit (by omega) (by omega) (by omega) (by omega) (by omega))] at h7
        refine ⟨h9, fun j b0 b1 => ?_⟩
        by_cases c1 : j = m
        · subst c1; unfold nearD; omega
        · exact h8 j b0 (by omega)
      · rintro ⟨h9, h8⟩
        refine ⟨⟨h9, fun j b0 b1 => h8 j b0 (by omega)⟩, ?_⟩
        rw [bool_iff (stretch_bit (by omega) (by omega) (by omega) (by omega) (by omega))]
        have h7 := h8 m a (by omega)
        unfold nearD at h7
        omega) (Or.inl ⟨rfl, rfl⟩)
  have hb := hb.elim (fun h9 => absurd h9.1 (by omega)) (fun h9 => h9.2)
  have e9 : leftC (gatherL b S) k = itr (leftF (gatherL b S) k) n 0 (-1) := by unfold leftC; rw [hG.1, Int.toNat_natCast, ← hn]
  rw [← e9] at hb
  unfold cplC
  have s0 := st 0
  have hn0 : ∀ a, inA q a → (a - stC (D 0).1 (D 0).2.1 (D 0).2.2 k) % 3600 < 2 * (D 0).2.2 + 1 := fun a ha => (hall a).mp ha 0 (by decide) (by omega)
  have hbit : ∀ i : Nat, i < 64 → (bitAt (leftC (gatherL b S) k) i = true ↔ ((i : Int) < 2 * (D 0).2.2 + 1 ∧ inA q (stC (D 0).1 (D 0).2.1 (D 0).2.2 k + i))) := fun i hi => by
    rw [hb i hi, hall, Int.zero_add]
  generalize stC (D 0).1 (D 0).2.1 (D 0).2.2 k = st0 at *
  generalize (D 0).2.2 = e0 at *
  obtain ⟨s, wd⟩ := q
  unfold inA okA at *
  simp only at *
  have fin : ∀ x0 : Int, 0 ≤ x0 → x0 < 19 → (∀ i : Nat, i < 64 → (((i : Int) < 2 * e0 + 1 ∧ (st0 + i - s) % 3600 < wd) ↔ (x0 ≤ i ∧ i < x0 + wd))) → bcC (leftC (gatherL b S) k) = wd := fun x0 a0 a1 hh => by
    have e8 : leftC (gatherL b S) k = bits wd <<< ((zi x0).toInt64 &&& 63) := bit_ext (fun i hi => by
      rw [bit_l hA.2.2.1 (by omega) a0 a1 hi]
      have h7 := (hbit i hi).trans (hh i hi)
      by_cases c : x0 ≤ i ∧ i < x0 + wd
      · rw [h7.mpr c, decide_eq_true c]
      · rw [decide_eq_false c]
        exact Bool.eq_false_iff.mpr (fun h6 => c (h7.mp h6)))
    rw [e8]
    obtain ⟨w, rfl⟩ := Int.eq_ofNat_of_zero_le hA.2.2.1
    obtain ⟨x, rfl⟩ := Int.eq_ofNat_of_zero_le a0
    exact bits_c ⟨w, by omega⟩ ⟨x, by omega⟩
  by_cases c : wd = 0
  · exact fin 0 (by decide) (by decide) (fun i hi => by omega)
  · have a1 := hn0 s (by omega)
    have a2 := hn0 (s + wd - 1) (by omega)
    exact fin ((s - st0) % 3600) (by omega) (by omega) (fun i hi => by omega)
theorem anew_eq {S M : ZS} (hM : MB M) (h : Rel S M) (hi : Inv M) {b : Int} (h0 : 0 ≤ b) (h1 : b < M 11 0) : itr (fun k acc => acc + cplC (gatherL b S) k) 405 0 0 = findM (laysM b M) 21 0 := by
  rw [(find_keys hM hi h0 h1).1, itr_eq (f := fun k acc => acc + cplC (gatherL b S) k) (g := fun k acc => acc + (Ak M b k).2) 405 0 0 (fun i s _ _ => by
    show s + cplC (gatherL b S) i = s + (Ak M b i).2
    rw [cpl_eq hM h hi h0 h1 i]), sum_len (fun k _ _ => (Ak_ok hM b k).2.2.1) 405 0 0 (by decide) (by decide)]
  unfold kE ens
  omega
