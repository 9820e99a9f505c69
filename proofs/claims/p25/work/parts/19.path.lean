/-! bits and paths: as programs -/
def lush (x : Int64) (y : Int) : Int64 := (x.toUInt64 >>> ((zi y).toInt64.toUInt64 &&& Int64.toUInt64 63)).toInt64
def bc1 (x : Int64) : Int64 := x - (lush x 1 &&& 6148914691236517205)
def bc2 (x : Int64) : Int64 := (x &&& 3689348814741910323) + (lush x 2 &&& 3689348814741910323)
def bc3 (x : Int64) : Int64 := (x + lush x 4) &&& 1085102592571150095
def bc4 (x : Int64) : Int64 := x + lush x 8
def bc5 (x : Int64) : Int64 := x + lush x 16
def bc6 (x : Int64) : Int64 := x + lush x 32
def bcC (x : Int64) : Int := (zi ((bc6 (bc5 (bc4 (bc3 (bc2 (bc1 x)))))).toInt32.toInt) &&& zi 127).toInt
def bits (w : Int) : Int64 := ((1 : Int64) <<< ((zi w).toInt64 &&& 63)) - 1
def stretchC (b w : Int) : Int64 := if b < 19 then bits w <<< ((zi b).toInt64 &&& 63) else if 3600 - b < w then bits w >>> ((zi (3600 - b)).toInt64 &&& 63) else 0
def leftF (G : ZS) (k i : Int) (left : Int64) : Int64 := left &&& stretchC ((laC G (rAt 60 (G 12) i) k - laC G (rAt 60 (G 12) 0) k) % 3600) (2 * eOf G (rAt 60 (G 12) i) + 1)
def leftC (G : ZS) (k : Int) : Int64 := itr (leftF G k) (G 26 0).toNat 0 (-1)
def cplC (G : ZS) (k : Int) : Int := bcC (leftC G k)
def gOf (k f n : Int) : Int := if n ≤ 2 then (dC k (f + n - 1) - dC k f) % 3600 else k
theorem gOf_b {k f n : Int} (h0 : 0 ≤ k) (h1 : k ≤ 404) : 0 ≤ gOf k f n ∧ gOf k f n ≤ 3599 := by
  unfold gOf; split <;> omega
def nbF (k a t : Int) (bs : Int64) : Int64 := bs ||| stretchC ((10 * t - 2 - dC k t - a) % 3600) 5
def nbC (k a f n : Int) : Int64 := itr (nbF k a) n.toNat f 0
def nbit (bs : Int64) (st : Int) : Int := ((bs >>> ((zi st).toInt64 &&& 63)) &&& 1).toInt32.toInt
theorem and1_b (x : Int64) : 0 ≤ (x &&& 1).toInt32.toInt ∧ (x &&& 1).toInt32.toInt ≤ 1 := by
  have h : (x &&& 1).toInt32 = 0 ∨ (x &&& 1).toInt32 = 1 := by
    have h2 : (x &&& 1).toBitVec = 0#64 ∨ (x &&& 1).toBitVec = 1#64 := by
      have e : (x &&& 1).toBitVec = x.toBitVec &&& 1#64 := rfl
      rw [e]
      by_cases hb : x.toBitVec.getLsbD 0 = true
      · right
        apply BitVec.eq_of_getLsbD_eq
        intro i hi
        rw [BitVec.getLsbD_and]
        by_cases h0 : i = 0
        · subst h0; rw [hb]; rfl
        · have : (1#64).getLsbD i = false := by rw [BitVec.getLsbD_one]; simp [h0]
          rw [this, Bool.and_false]
      · left
        apply BitVec.eq_of_getLsbD_eq
        intro i hi
        rw [BitVec.getLsbD_and]
        by_cases h0 : i = 0
        · subst h0
          have : x.toBitVec.getLsbD 0 = false := by simpa using hb
          rw [this]; rfl
        · have : (1#64).getLsbD i = false := by rw [BitVec.getLsbD_one]; simp [h0]
          rw [this, Bool.and_false]; simp
    rcases h2 with h2 | h2
    · left
      have : x &&& 1 = 0 := Int64.toBitVec_inj.mp h2
      rw [this]; rfl
    · right
      have : x &&& 1 = 1 := Int64.toBitVec_inj.mp h2
      rw [this]; rfl
  rcases h with h | h <;> rw [h] <;> decide
theorem nbit_b (bs : Int64) (st : Int) : 0 ≤ nbit bs st ∧ nbit bs st ≤ 1 := and1_b _
def mgStep (f n k : Int) (T : ZS) : ZS := su (su T 17 (rPut 405 (T 17) k (rAt 3600 (T 16) (gOf k f n)))) 16 (rPut 3600 (su T 17 (rPut 405 (T 17) k (rAt 3600 (T 16) (gOf k f n))) 16) (gOf k f n) k)
def mgAll (f n : Int) (S : ZS) : ZS := itr (mgStep f n) 405 0 (su S 16 (rFill 3600 (S 16) (-1)))
theorem mgAll_n {f n : Int} {S : ZS} {k : Nat} (h1 : k ≠ 16) (h2 : k ≠ 17) : mgAll f n S k = S k := by
  unfold mgAll
  rw [itr_keep (k := k) (fun j s => by unfold mgStep; rw [su_n _ _ h1, su_n _ _ h2]) _ _ _, su_n _ _ h1]
def ccPut (bs : Int64) (p g st : Int) (T : ZS) : ZS := su (su (su T 18 (rPut 3600 (T 18) p g)) 27 (fun _ => T 27 0 + 1)) 28 (fun _ => T 28 0 + nbit bs st)
def ccStep (bs : Int64) (fi g st : Int) (T : ZS) : ZS := if rAt 3600 (T 18) ((fi + st) % 3600) = g then T else ccPut bs ((fi + st) % 3600) g st T
def ccAll (k g f n : Int) (T : ZS) : ZS := itr (ccStep (nbC k (rAt 405 (T 13) k) f n) (rAt 405 (T 13) k + dC k f) g) (rAt 405 (T 14) k).toNat 0 T
theorem ccStep_n {bs : Int64} {fi g st : Int} {T : ZS} {k : Nat} (h1 : k ≠ 18) (h2 : k ≠ 27) (h3 : k ≠ 28) : ccStep bs fi g st T k = T k := by
  unfold ccStep; split
  · rfl
  · unfold ccPut; rw [su_n _ _ h3, su_n _ _ h2, su_n _ _ h1]
theorem ccAll_n {q g f n : Int} {T : ZS} {k : Nat} (h1 : k ≠ 18) (h2 : k ≠ 27) (h3 : k ≠ 28) : ccAll q g f n T k = T k := itr_keep (fun _ _ => ccStep_n h1 h2 h3) _ _ _
def cpOne (f n g k : Int) (T : ZS) : ZS := if 0 < rAt 405 (T 14) k then ccAll k g f n T else T
theorem cpOne_n {q g f n : Int} {T : ZS} {k : Nat} (h1 : k ≠ 18) (h2 : k ≠ 27) (h3 : k ≠ 28) : cpOne f n g q T k = T k := by
  unfold cpOne; split
  · exact ccAll_n h1 h2 h3
  · rfl
def cpIn (f n g : Int) : Nat → Int → ZS → ZS
  | 0, _, T => T
  | m + 1, k, T => if k = -1 then T else cpIn f n g m (rAt 405 (T 17) k) (cpOne f n g k T)
theorem cpIn_n {f n g : Int} {k : Nat} (h1 : k ≠ 18) (h2 : k ≠ 27) (h3 : k ≠ 28) : ∀ (m : Nat) (q : Int) (T : ZS), cpIn f n g m q T k = T k := by
  intro m
  induction m with
  | zero => intro q T; rfl
  | succ m ih =>
    intro q T
    unfold cpIn; split
    · rfl
    · rw [ih, cpOne_n h1 h2 h3]
def cpOut (f n g : Int) (T : ZS) : ZS := cpIn f n g 405 (rAt 3600 (T 16) g) T
def cpAll (f n : Int) (S : ZS) : ZS := itr (cpOut f n) 3600 0 (mgAll f n (su (su (su S 27 (fun _ => 0)) 28 (fun _ => 0)) 18 (rFill 3600 (S 18) (-1))))
theorem cpAll_n {f n : Int} {S : ZS} {k : Nat} (h1 : k ≠ 18) (h2 : k ≠ 27) (h3 : k ≠ 28) (h4 : k ≠ 16) (h5 : k ≠ 17) : cpAll f n S k = S k := by
  unfold cpAll
  rw [itr_keep (f := cpOut f n) (k := k) (fun j s => cpIn_n h1 h2 h3 _ _ _) _ _ _, mgAll_n h4 h5, su_n _ _ h1, su_n _ _ h3, su_n _ _ h2]
theorem ccAll_c {q g f n : Int} {T : ZS} : ccAll q g f n T 27 0 ≤ T 27 0 + (rAt 405 (T 14) q).toNat ∧ ccAll q g f n T 28 0 ≤ T 28 0 + (rAt 405 (T 14) q).toNat := by
  have h := itr_inv (f := ccStep (nbC q (rAt 405 (T 13) q) f n) (rAt 405 (T 13) q + dC q f) g) (P := fun j s => s 27 0 ≤ T 27 0 + j ∧ s 28 0 ≤ T 28 0 + j) (fun j s hs => by
    have hs : s 27 0 ≤ T 27 0 + j ∧ s 28 0 ≤ T 28 0 + j := hs
    show ccStep _ _ g j s 27 0 ≤ T 27 0 + (j + 1) ∧ ccStep _ _ g j s 28 0 ≤ T 28 0 + (j + 1)
    unfold ccStep; split
    · omega
    · have hb := nbit_b (nbC q (rAt 405 (T 13) q) f n) j
      show s 27 0 + 1 ≤ _ ∧ s 28 0 + nbit (nbC q (rAt 405 (T 13) q) f n) j ≤ _
      omega) (rAt 405 (T 14) q).toNat 0 T ⟨by omega, by omega⟩
  unfold ccAll
  have h : (itr _ _ 0 T) 27 0 ≤ T 27 0 + (0 + _) ∧ (itr _ _ 0 T) 28 0 ≤ T 28 0 + (0 + _) := h
  constructor <;> omega
theorem SC_cp {f n : Int} {S : ZS} : SC S (cpAll f n S) := fun _ hk => cpAll_n (scr_ne hk rfl) (scr_ne hk rfl) (scr_ne hk rfl) (scr_ne hk rfl) (scr_ne hk rfl)
theorem cl314_J13_bitCount_95d88 : Cond.constantLong RJ13 314 (6148914691236517205) ∈ wsJ13_bitCount_95d88 := by decide +kernel
theorem cl316_J13_bitCount_95d88 : Cond.constantLong RJ13 316 (3689348814741910323) ∈ wsJ13_bitCount_95d88 := by decide +kernel
theorem cl318_J13_bitCount_95d88 : Cond.constantLong RJ13 318 (1085102592571150095) ∈ wsJ13_bitCount_95d88 := by decide +kernel
abbrev rmct_J13_bitCount_95d88 : Room := { frames := 0, cells := 0, slots := 0, locals := 0 }
set_option maxHeartbeats 4000000 in
set_option maxRecDepth 100000 in
theorem ct_J13_bitCount_95d88 (l : Launch) (D : va_G) (cI cZ cJ : ClassId) (w0 : Int64) : Met l yJ13_bitCount_95d88 wsJ13_bitCount_95d88 rmct_J13_bitCount_95d88 (zP D cI cZ cJ [] [.long w0]) (k2_QcV (.int (zi (bcC w0)))) 0 0 (fun _ => False) := by
  refine va_MetF (cc := cJ13_bitCount_95d88) (maxL := 2) (ret := (some .int)) (by decide +kernel) rfl ?_
  intro p e s m args below meth c s₁ B hml hv
  obtain ⟨rfl, hP, hK⟩ := hv
  have hx := B.exec
  have hb := B.bytes
  have hr := B.returns
  have hts := atoms_spec (ws := wsJ13_bitCount_95d88) B.pre
  have hown : s.vm.findClass RJ13 = some m.cls := findClass_of_methodNamed B.named
  have hlocks := B.notSynchronized
  have hl := lv_entry ([.long w0]) (n := 2) (Nat.le_of_ble_eq_true rfl)
  rw [lg_entry_eq]
  generalize (lg_sl ([.long w0]) ++ List.replicate (2 - (lg_sl ([.long w0])).length) Slot.unset).toArray = ls at hl ⊢
  have hl : lv_has ls 2 [(0, .long w0)] := hl
  show W p l e rmct_J13_bitCount_95d88 s m ([.long w0] : List Value).toArray below meth c s.heap [] 0 0 (MQ below (k2_QcV (.int (zi (bcC w0)))) ([.long w0] : List Value).toArray s 0 0 (fun _ => False)) (F0 m 0 ls [])
  refine lv_lload_n hx hb dJ13_bitCount_95d88_0 rfl (lv_at hl 0 rfl) ?_
  refine lv_lload_n hx hb dJ13_bitCount_95d88_1 rfl (lv_at hl 0 rfl) ?_
  refine zi_iconst hx hb dJ13_bitCount_95d88_2 ?_
  refine lv_lushr (v := (w0.toUInt64 >>> ((zi 1).toInt64.toUInt64 &&& Int64.toUInt64 63)).toInt64) hx hb dJ13_bitCount_95d88_3 rfl ?_
  refine lv_ldc2 (v := 6148914691236517205) hx hb hown (hts _ cl314_J13_bitCount_95d88) dJ13_bitCount_95d88_4 ?_
  refine lv_land hx hb dJ13_bitCount_95d88_7 ?_
  refine lv_lsub hx hb dJ13_bitCount_95d88_8 ?_
  refine lv_topl (fun x0_9 ex0_9 => ?_)
  refine lv_lstore_n (lv' := [(0, .long x0_9)]) hx hb dJ13_bitCount_95d88_9 rfl hl (by decide) rfl (fun ls hl => ?_)
  refine lv_lload_n hx hb dJ13_bitCount_95d88_10 rfl (lv_at hl 0 rfl) ?_
  refine lv_ldc2 (v := 3689348814741910323) hx hb hown (hts _ cl316_J13_bitCount_95d88) dJ13_bitCount_95d88_11 ?_
  refine lv_land hx hb dJ13_bitCount_95d88_14 ?_
  refine lv_lload_n hx hb dJ13_bitCount_95d88_15 rfl (lv_at hl 0 rfl) ?_
  refine zi_iconst hx hb dJ13_bitCount_95d88_16 ?_
  refine lv_lushr (v := (x0_9.toUInt64 >>> ((zi 2).toInt64.toUInt64 &&& Int64.toUInt64 63)).toInt64) hx hb dJ13_bitCount_95d88_17 rfl ?_
  refine lv_ldc2 (v := 3689348814741910323) hx hb hown (hts _ cl316_J13_bitCount_95d88) dJ13_bitCount_95d88_18 ?_
  refine lv_land hx hb dJ13_bitCount_95d88_21 ?_
  refine lv_ladd hx hb dJ13_bitCount_95d88_22 ?_
  refine lv_topl (fun x0_23 ex0_23 => ?_)
  refine lv_lstore_n (lv' := [(0, .long x0_23)]) hx hb dJ13_bitCount_95d88_23 rfl hl (by decide) rfl (fun ls hl => ?_)
  refine lv_lload_n hx hb dJ13_bitCount_95d88_24 rfl (lv_at hl 0 rfl) ?_
  refine lv_lload_n hx hb dJ13_bitCount_95d88_25 rfl (lv_at hl 0 rfl) ?_
  refine zi_iconst hx hb dJ13_bitCount_95d88_26 ?_
  refine lv_lushr (v := (x0_23.toUInt64 >>> ((zi 4).toInt64.toUInt64 &&& Int64.toUInt64 63)).toInt64) hx hb dJ13_bitCount_95d88_27 rfl ?_
  refine lv_ladd hx hb dJ13_bitCount_95d88_28 ?_
  refine lv_ldc2 (v := 1085102592571150095) hx hb hown (hts _ cl318_J13_bitCount_95d88) dJ13_bitCount_95d88_29 ?_
  refine lv_land hx hb dJ13_bitCount_95d88_32 ?_
  refine lv_topl (fun x0_33 ex0_33 => ?_)
  refine lv_lstore_n (lv' := [(0, .long x0_33)]) hx hb dJ13_bitCount_95d88_33 rfl hl (by decide) rfl (fun ls hl => ?_)
  refine lv_lload_n hx hb dJ13_bitCount_95d88_34 rfl (lv_at hl 0 rfl) ?_
  refine lv_lload_n hx hb dJ13_bitCount_95d88_35 rfl (lv_at hl 0 rfl) ?_
  refine zi_bipush hx hb dJ13_bitCount_95d88_36 (by decide) ?_
  refine lv_lushr (v := (x0_33.toUInt64 >>> ((zi 8).toInt64.toUInt64 &&& Int64.toUInt64 63)).toInt64) hx hb dJ13_bitCount_95d88_38 rfl ?_
  refine lv_ladd hx hb dJ13_bitCount_95d88_39 ?_
  refine lv_topl (fun x0_40 ex0_40 => ?_)
  refine lv_lstore_n (lv' := [(0, .long x0_40)]) hx hb dJ13_bitCount_95d88_40 rfl hl (by decide) rfl (fun ls hl => ?_)
  refine lv_lload_n hx hb dJ13_bitCount_95d88_41 rfl (lv_at hl 0 rfl) ?_
  refine lv_lload_n hx hb dJ13_bitCount_95d88_42 rfl (lv_at hl 0 rfl) ?_
  refine zi_bipush hx hb dJ13_bitCount_95d88_43 (by decide) ?_
  refine lv_lushr (v := (x0_40.toUInt64 >>> ((zi 16).toInt64.toUInt64 &&& Int64.toUInt64 63)).toInt64) hx hb dJ13_bitCount_95d88_45 rfl ?_
  refine lv_ladd hx hb dJ13_bitCount_95d88_46 ?_
  refine lv_topl (fun x0_47 ex0_47 => ?_)
  refine lv_lstore_n (lv' := [(0, .long x0_47)]) hx hb dJ13_bitCount_95d88_47 rfl hl (by decide) rfl (fun ls hl => ?_)
  refine lv_lload_n hx hb dJ13_bitCount_95d88_48 rfl (lv_at hl 0 rfl) ?_
  refine lv_lload_n hx hb dJ13_bitCount_95d88_49 rfl (lv_at hl 0 rfl) ?_
  refine zi_bipush hx hb dJ13_bitCount_95d88_50 (by decide) ?_
  refine lv_lushr (v := (x0_47.toUInt64 >>> ((zi 32).toInt64.toUInt64 &&& Int64.toUInt64 63)).toInt64) hx hb dJ13_bitCount_95d88_52 rfl ?_
  refine lv_ladd hx hb dJ13_bitCount_95d88_53 ?_
  refine lv_topl (fun x0_54 ex0_54 => ?_)
  refine lv_lstore_n (lv' := [(0, .long x0_54)]) hx hb dJ13_bitCount_95d88_54 rfl hl (by decide) rfl (fun ls hl => ?_)
  refine lv_lload_n hx hb dJ13_bitCount_95d88_55 rfl (lv_at hl 0 rfl) ?_
  refine lv_l2i (v := zi (x0_54.toInt32.toInt)) hx hb dJ13_bitCount_95d88_56 (zi_of _) ?_
  refine zi_bipush hx hb dJ13_bitCount_95d88_57 (by decide) ?_
  refine lv_iand hx hb dJ13_bitCount_95d88_59 ?_
  refine zi_raw ?_
  exact zr_i hx hb hr hlocks dJ13_bitCount_95d88_60 (by subst_vars; rfl)

abbrev rmct_X7_stretch : Room := { frames := 0, cells := 0, slots := 0, locals := 0 }
set_option maxHeartbeats 4000000 in
set_option maxRecDepth 100000 in
theorem ct_X7_stretch (l : Launch) (D : va_G) (cI cZ cJ : ClassId) (x0 x1 : Int) (hx0 : ir x0) (hx1 : ir x1) (hp00 : 0 ≤ x0) (hp01 : x0 ≤ 3599) (hp10 : 1 ≤ x1) (hp11 : x1 ≤ 19) : Met l yX7_stretch wsX7_stretch rmct_X7_stretch (zP D cI cZ cJ [] [.int (zi x0), .int (zi x1)]) (k2_QcV (.long (stretchC x0 x1))) 0 0 (fun _ => False) := by
  refine Met.ofW (cc := cX7_stretch) (maxL := 5) (ret := (some .long)) (by decide) rfl ?_
  intro p e s m args below meth c s₁ B hml hv
  obtain ⟨rfl, hP, hK⟩ := hv
  have hx := B.exec
  have hb := B.bytes
  have hr := B.returns
  have hts := atoms_spec (ws := wsX7_stretch) B.pre
  have hown : s.vm.findClass RX7 = some m.cls := findClass_of_methodNamed B.named
  have hlocks := B.notSynchronized
  have hl := lv_entry ([.int (zi x0), .int (zi x1)]) (n := 5) (Nat.le_of_ble_eq_true rfl)
  rw [lg_entry_eq]
  generalize (lg_sl ([.int (zi x0), .int (zi x1)]) ++ List.replicate (5 - (lg_sl ([.int (zi x0), .int (zi x1)])).length) Slot.unset).toArray = ls at hl ⊢
  have hl : lv_has ls 5 [(0, .int (zi x0)), (1, .int (zi x1))] := hl
  show W p l e rmct_X7_stretch s m ([.int (zi x0), .int (zi x1)] : List Value).toArray below meth c s.heap [] 0 0 (MQ below (k2_QcV (.long (stretchC x0 x1))) ([.int (zi x0), .int (zi x1)] : List Value).toArray s 0 0 (fun _ => False)) (F0 m 0 ls [])
  refine lv_lconst (v := 1) hx hb dX7_stretch_0 (by decide) ?_
  refine lv_iload_n hx hb dX7_stretch_1 rfl (lv_at hl 1 rfl) ?_
  refine lv_lshl (v := ((1 : Int64) <<< ((zi x1).toInt64 &&& 63))) hx hb dX7_stretch_2 rfl ?_
  refine lv_lconst (v := 1) hx hb dX7_stretch_3 (by decide) ?_
  refine lv_lsub hx hb dX7_stretch_4 ?_
  refine lv_topl (fun x2_5 ex2_5 => ?_)
  refine lv_lstore_n (lv' := [(2, .long x2_5), (0, .int (zi x0)), (1, .int (zi x1))]) hx hb dX7_stretch_5 rfl hl (by decide) rfl (fun ls hl => ?_)
  refine zi_sipush hx hb dX7_stretch_6 (by decide) ?_
  refine lv_iload_n hx hb dX7_stretch_9 rfl (lv_at hl 1 rfl) ?_
  refine zi_isub hx hb dX7_stretch_10 ?_
  refine zi_top (fun x4_11 ex4_11 => ?_)
  refine lv_istore (lv' := [(4, .int (zi x4_11)), (2, .long x2_5), (0, .int (zi x0)), (1, .int (zi x1))]) hx hb dX7_stretch_11 hl (by decide) rfl (fun ls hl => ?_)
  refine lv_iload_n hx hb dX7_stretch_13 rfl (lv_at hl 2 rfl) ?_
  refine zi_bipush hx hb dX7_stretch_14 (by decide) ?_
  refine zi_icmp_ge (tgt := 23) hx hb ⟨by omega, by omega⟩ ⟨by decide, by decide⟩ dX7_stretch_16 (by decide) (fun c_16 => ?_) (fun c_16 => ?_)
  · refine lv_iload hx hb dX7_stretch_23 (lv_at hl 0 rfl) ?_
    refine lv_iload_n hx hb dX7_stretch_25 rfl (lv_at hl 3 rfl) ?_
    refine zi_icmp_ge (tgt := 36) hx hb ⟨by omega, by omega⟩ ⟨by omega, by omega⟩ dX7_stretch_26 (by decide) (fun c_26 => ?_) (fun c_26 => ?_)
    · refine lv_lconst (v := 0) hx hb dX7_stretch_36 (by decide) ?_
      exact zr_l hx hb hr hlocks dX7_stretch_37 (by subst_vars; exact ((if_neg (by omega)).trans (if_neg (by omega))).symm)
    · refine lv_lload_n hx hb dX7_stretch_29 rfl (lv_at hl 1 rfl) ?_
      refine lv_iload hx hb dX7_stretch_30 (lv_at hl 0 rfl) ?_
      refine lv_lshr (v := (x2_5 >>> ((zi x4_11).toInt64 &&& 63))) hx hb dX7_stretch_32 rfl ?_
      refine lv_goto (tgt := 37) hx hb dX7_stretch_33 (by decide) ?_
      exact zr_l hx hb hr hlocks dX7_stretch_37 (by subst_vars; exact ((if_neg (by omega)).trans (if_pos (by omega))).symm)
  · refine lv_lload_n hx hb dX7_stretch_19 rfl (lv_at hl 1 rfl) ?_
    refine lv_iload_n hx hb dX7_stretch_20 rfl (lv_at hl 2 rfl) ?_
    refine lv_lshl (v := (x2_5 <<< ((zi x0).toInt64 &&& 63))) hx hb dX7_stretch_21 rfl ?_
    exact zr_l hx hb hr hlocks dX7_stretch_22 (by subst_vars; exact (if_pos (Int.not_le.mp c_16)).symm)

theorem in_X7_countPlacesLeft_7 : ∀ w ∈ wsX70, w ∈ wsX7_countPlacesLeft := by decide +kernel
theorem lk_X7_countPlacesLeft_26 : Cond.fieldLink RX7 26 "PlanetoidDesk" "looks" "LPlanetoidDesk$Looks;" ∈ wsX7_countPlacesLeft := by decide +kernel
theorem cl299_X7_countPlacesLeft : Cond.constantLong RX7 299 (-1) ∈ wsX7_countPlacesLeft := by decide +kernel
theorem in_X7_countPlacesLeft_2 : ∀ w ∈ wsX20, w ∈ wsX7_countPlacesLeft := by decide +kernel
theorem lk_X7_countPlacesLeft_10 : Cond.fieldLink RX7 10 "PlanetoidDesk" "sky" "LPlanetoidDesk$Sky;" ∈ wsX7_countPlacesLeft := by decide +kernel
abbrev rmct_X7_countPlacesLeft : Room := { frames := 3, cells := 0, slots := 0, locals := 67 }
set_option maxHeartbeats 4000000 in
set_option maxRecDepth 100000 in
theorem ct_X7_countPlacesLeft (l : Launch) (D : va_G) (cI cZ cJ : ClassId) (ad : Nat → Nat) (S : ZS) (hI : CI S) (x0 : Int) (hx0 : ir x0) (hp00 : 0 ≤ x0) (hp01 : x0 ≤ 404) : Met l yX7_countPlacesLeft wsX7_countPlacesLeft rmct_X7_countPlacesLeft (zP D cI cZ cJ (dW cI ad S) [.ref (ad 0), .int (zi x0)]) (k2_QcV (.int (zi (cplC S x0)))) 0 0 (fun _ => False) := by
  refine Met.ofW (cc := cX7_countPlacesLeft) (maxL := 8) (ret := (some .int)) (by decide) rfl ?_
  intro p e s m args below meth c s₁ B hml hv
  obtain ⟨rfl, hP, hK⟩ := hv
  have hx := B.exec
  have hb := B.bytes
  have hr := B.returns
  have hts := atoms_spec (ws := wsX7_countPlacesLeft) B.pre
  have hown : s.vm.findClass RX7 = some m.cls := findClass_of_methodNamed B.named
  have hlocks := B.notSynchronized
  have hl := lv_entry ([.ref (ad 0), .int (zi x0)]) (n := 8) (Nat.le_of_ble_eq_true rfl)
  rw [lg_entry_eq]
  generalize (lg_sl ([.ref (ad 0), .int (zi x0)]) ++ List.replicate (8 - (lg_sl ([.ref (ad 0), .int (zi x0)])).length) Slot.unset).toArray = ls at hl ⊢
  have hl : lv_has ls 8 [(0, .ref (ad 0)), (1, .int (zi x0))] := hl
  show W p l e rmct_X7_countPlacesLeft s m ([.ref (ad 0), .int (zi x0)] : List Value).toArray below meth c s.heap [] 0 0 (MQ below (k2_QcV (.int (zi (cplC S x0)))) ([.ref (ad 0), .int (zi x0)] : List Value).toArray s 0 0 (fun _ => False)) (F0 m 0 ls [])
  have hf0 : (0 : Int) ≤ S 26 0 ∧ S 26 0 ≤ 60 := hI 26 0
  refine lv_aload_n hx hb dX7_countPlacesLeft_0 rfl (lv_at hl 0 rfl) ?_
  refine lv_aload_n hx hb dX7_countPlacesLeft_1 rfl (lv_at hl 0 rfl) ?_
  refine va_get (D := D) (ci := 7) (v := .ref (ad 3)) (C := RX7) (T := TX7) (N := 6) hx hb hts in_X7_countPlacesLeft_7 hown hK.1 hP 0 rfl rfl 2 (by decide) (hts _ lk_X7_countPlacesLeft_26) (fun _ h9 => h9) rfl dX7_countPlacesLeft_2 ?_
  refine zi_iconst hx hb dX7_countPlacesLeft_5 ?_
  refine zk_r (zc_V (As := [.int (zi 0)]) (rest := [.ref (ad 0)]) ⟨hx, hb, hml, hown, hts⟩ (ct_X2_dotAt l D cI cZ cJ ad S hI 0 ⟨by decide, by decide⟩) (cwV 1 hts gX7_countPlacesLeft_X2_dotAt rfl rfl rfl (by decide +kernel) ⟨Nat.le_of_ble_eq_true rfl, Nat.le_of_ble_eq_true rfl⟩) hK hP (q0 := 3) (ci := 2) rfl rfl rfl rfl hl.1 rfl (Nat.le_of_ble_eq_true rfl) dX7_countPlacesLeft_6 ⟨Nat.zero_le _, Nat.zero_le _⟩) ?_
  refine zi_top (fun (r_6 : Int) (er_6 : r_6 = rAt 60 (S 12) 0) => ?_)
  have fr_6 : (0 : Int) ≤ r_6 ∧ r_6 ≤ 59 := by rw [er_6]; exact CI.at hI 12 60 0 ⟨by decide, by decide⟩
  refine lv_iload_n hx hb dX7_countPlacesLeft_9 rfl (lv_at hl 1 rfl) ?_
  refine zk_r (zc_V (As := [.int (zi r_6), .int (zi x0)]) (rest := []) ⟨hx, hb, hml, hown, hts⟩ (ct_X7_leastAOf l D cI cZ cJ ad S hI r_6 x0 ⟨by omega, by omega⟩ ⟨by omega, by omega⟩ (by omega) (by omega)) (cwV 2 hts gX7_countPlacesLeft_X7_leastAOf rfl rfl rfl (by decide +kernel) ⟨Nat.le_of_ble_eq_true rfl, Nat.le_of_ble_eq_true rfl⟩) hK hP (q0 := 0) (ci := 7) rfl rfl rfl rfl hl.1 rfl (Nat.le_of_ble_eq_true rfl) dX7_countPlacesLeft_10 ⟨Nat.zero_le _, Nat.zero_le _⟩) ?_
  refine zi_top (fun (r_10 : Int) (er_10 : r_10 = laC S r_6 x0) => ?_)
  have fr_10 : (0 : Int) ≤ r_10 ∧ r_10 ≤ 3599 := by rw [er_10]; exact (by unfold laC; omega)
  refine lv_istore_n (lv' := [(2, .int (zi r_10)), (0, .ref (ad 0)), (1, .int (zi x0))]) hx hb dX7_countPlacesLeft_13 rfl hl (by decide) rfl (fun ls hl => ?_)
  refine lv_ldc2 (v := (-1)) hx hb hown (hts _ cl299_X7_countPlacesLeft) dX7_countPlacesLeft_14 ?_
  refine lv_topl (fun x3_17 ex3_17 => ?_)
  refine lv_lstore_n (lv' := [(3, .long x3_17), (2, .int (zi r_10)), (0, .ref (ad 0)), (1, .int (zi x0))]) hx hb dX7_countPlacesLeft_17 rfl hl (by decide) rfl (fun ls hl => ?_)
  refine zi_iconst hx hb dX7_countPlacesLeft_18 ?_
  have K_21 : ∀ (k : Nat) (n : Nat) (i : Int) (lf : Int64), (i + (n : Int) = S 26 0) → (0 ≤ i) → (itr (leftF S x0) n i lf = leftC S x0) → ((n : Int) < (k : Int)) → ∀ (ls : Array Slot), lv_has ls 8 [(0, .ref (ad 0)), (1, .int (zi x0)), (2, .int (zi r_10)), (5, .int (zi i)), (3, .long lf)] → W p l e rmct_X7_countPlacesLeft s m ([.ref (ad 0), .int (zi x0)] : List Value).toArray below meth c s.heap [] 0 0 (MQ below (k2_QcV (.int (zi (cplC S x0)))) ([.ref (ad 0), .int (zi x0)] : List Value).toArray s 0 0 (fun _ => False)) (F0 m 21 ls []) := by
    intro k
    induction k with
    | zero => intro n i lf h_n h_i h_R hk; exact absurd hk (by omega)
    | succ k ih_21 =>
      intro n i lf h_n h_i h_R hk ls hl
      refine lv_iload hx hb dX7_countPlacesLeft_21 (lv_at hl 3 rfl) ?_
      refine lv_aload_n hx hb dX7_countPlacesLeft_23 rfl (lv_at hl 0 rfl) ?_
      refine va_get (D := D) (ci := 7) (v := .ref (ad 3)) (C := RX7) (T := TX7) (N := 6) hx hb hts in_X7_countPlacesLeft_7 hown hK.1 hP 0 rfl rfl 2 (by decide) (hts _ lk_X7_countPlacesLeft_26) (fun _ h9 => h9) rfl dX7_countPlacesLeft_24 ?_
      refine va_getN (D := D) (ci := 2) (v := .int (zi (S 26 0))) (C := RX2) (T := TX2) (N := 2) hx hb hts in_X7_countPlacesLeft_2 hown hK.1 hP 3 rfl rfl 1 (by decide) (va_Nw.use rfl (hK.2 _ (List.mem_of_getElem? (i := 3) rfl))) (fun _ h9 => h9) rfl dX7_countPlacesLeft_27 ?_
      have f_27 : (0 : Int) ≤ S 26 0 ∧ S 26 0 ≤ 60 := hI 26 0
      refine zi_icmp_ge (tgt := 88) hx hb ⟨by omega, by omega⟩ ⟨by omega, by omega⟩ dX7_countPlacesLeft_30 (by decide) (fun c_30 => ?_) (fun c_30 => ?_)
      · obtain rfl : n = 0 := by omega
        refine lv_lload_n hx hb dX7_countPlacesLeft_88 rfl (lv_at hl 4 rfl) ?_
        refine zk_r (zc_S (As := [.long lf]) (rest := []) ⟨hx, hb, hml, hown, hts⟩ (ct_J13_bitCount_95d88 l D cI cZ cJ lf) (va_cwS 1 hts gX7_countPlacesLeft_J13_bitCount_95d88 rfl rfl rfl (by decide +kernel) ⟨Nat.le_of_ble_eq_true rfl, Nat.le_of_ble_eq_true rfl⟩) hK va_P_nil rfl hl.1 rfl (Nat.le_of_ble_eq_true rfl) dX7_countPlacesLeft_89 ⟨Nat.zero_le _, Nat.zero_le _⟩) ?_
        refine zi_top (fun (r_89 : Int) (er_89 : r_89 = bcC lf) => ?_)
        exact zr_i hx hb hr hlocks dX7_countPlacesLeft_92 (by rw [er_89, cplC, ← h_R] <;> rfl)
      · obtain ⟨n, rfl⟩ : ∃ n9 : Nat, n = n9 + 1 := ⟨n - 1, by omega⟩
        refine lv_aload_n hx hb dX7_countPlacesLeft_33 rfl (lv_at hl 0 rfl) ?_
        refine va_get (D := D) (ci := 7) (v := .ref (ad 3)) (C := RX7) (T := TX7) (N := 6) hx hb hts in_X7_countPlacesLeft_7 hown hK.1 hP 0 rfl rfl 2 (by decide) (hts _ lk_X7_countPlacesLeft_26) (fun _ h9 => h9) rfl dX7_countPlacesLeft_34 ?_
        refine lv_iload hx hb dX7_countPlacesLeft_37 (lv_at hl 3 rfl) ?_
        refine zk_r (zc_V (As := [.int (zi i)]) (rest := []) ⟨hx, hb, hml, hown, hts⟩ (ct_X2_dotAt l D cI cZ cJ ad S hI i ⟨by omega, by omega⟩) (cwV 1 hts gX7_countPlacesLeft_X2_dotAt rfl rfl rfl (by decide +kernel) ⟨Nat.le_of_ble_eq_true rfl, Nat.le_of_ble_eq_true rfl⟩) hK hP (q0 := 3) (ci := 2) rfl rfl rfl rfl hl.1 rfl (Nat.le_of_ble_eq_true rfl) dX7_countPlacesLeft_39 ⟨Nat.zero_le _, Nat.zero_le _⟩) ?_
        refine zi_top (fun (r_39 : Int) (er_39 : r_39 = rAt 60 (S 12) i) => ?_)
        have fr_39 : (0 : Int) ≤ r_39 ∧ r_39 ≤ 59 := by rw [er_39]; exact CI.at hI 12 60 i ⟨by decide, by decide⟩
        refine lv_istore (lv' := [(6, .int (zi r_39)), (0, .ref (ad 0)), (1, .int (zi x0)), (2, .int (zi r_10)), (5, .int (zi i)), (3, .long lf)]) hx hb dX7_countPlacesLeft_42 hl (by decide) rfl (fun ls hl => ?_)
        refine lv_aload_n hx hb dX7_countPlacesLeft_44 rfl (lv_at hl 1 rfl) ?_
        refine lv_iload hx hb dX7_countPlacesLeft_45 (lv_at hl 0 rfl) ?_
        refine lv_iload_n hx hb dX7_countPlacesLeft_47 rfl (lv_at hl 2 rfl) ?_
        refine zk_r (zc_V (As := [.int (zi r_39), .int (zi x0)]) (rest := []) ⟨hx, hb, hml, hown, hts⟩ (ct_X7_leastAOf l D cI cZ cJ ad S hI r_39 x0 ⟨by omega, by omega⟩ ⟨by omega, by omega⟩ (by omega) (by omega)) (cwV 2 hts gX7_countPlacesLeft_X7_leastAOf rfl rfl rfl (by decide +kernel) ⟨Nat.le_of_ble_eq_true rfl, Nat.le_of_ble_eq_true rfl⟩) hK hP (q0 := 0) (ci := 7) rfl rfl rfl rfl hl.1 rfl (Nat.le_of_ble_eq_true rfl) dX7_countPlacesLeft_48 ⟨Nat.zero_le _, Nat.zero_le _⟩) ?_
        refine zi_top (fun (r_48 : Int) (er_48 : r_48 = laC S r_39 x0) => ?_)
        have fr_48 : (0 : Int) ≤ r_48 ∧ r_48 ≤ 3599 := by rw [er_48]; exact (by unfold laC; omega)
        refine lv_iload_n hx hb dX7_countPlacesLeft_51 rfl (lv_at hl 3 rfl) ?_
        refine zi_isub hx hb dX7_countPlacesLeft_52 ?_
        refine zi_sipush hx hb dX7_countPlacesLeft_53 (by decide) ?_
        refine zk_r (zc_S (As := [.int (zi (r_48 - r_10)), .int (zi 3600)]) (rest := []) ⟨hx, hb, hml, hown, hts⟩ (ct_J9_floorMod_7cf53 l D cI cZ cJ (r_48 - r_10) 3600 ⟨by omega, by omega⟩ ⟨by decide, by decide⟩ (by omega)) (va_cwS 2 hts gX7_countPlacesLeft_J9_floorMod_7cf53 rfl rfl rfl (by decide +kernel) ⟨Nat.le_of_ble_eq_true rfl, Nat.le_of_ble_eq_true rfl⟩) hK va_P_nil rfl hl.1 rfl (Nat.le_of_ble_eq_true rfl) dX7_countPlacesLeft_56 ⟨Nat.zero_le _, Nat.zero_le _⟩) ?_
        refine zi_top (fun (r_56 : Int) (er_56 : r_56 = (r_48 - r_10) % 3600) => ?_)
        have fr_56 : (0 : Int) ≤ r_56 := by rw [er_56]; exact Int.emod_nonneg _ (by omega)
        have fr_561 : r_56 < 3600 := by rw [er_56]; exact Int.emod_lt_of_pos _ (by omega)
        refine lv_istore (lv' := [(7, .int (zi r_56)), (6, .int (zi r_39)), (0, .ref (ad 0)), (1, .int (zi x0)), (2, .int (zi r_10)), (5, .int (zi i)), (3, .long lf)]) hx hb dX7_countPlacesLeft_59 hl (by decide) rfl (fun ls hl => ?_)
        refine lv_lload_n hx hb dX7_countPlacesLeft_61 rfl (lv_at hl 6 rfl) ?_
        refine lv_iload hx hb dX7_countPlacesLeft_62 (lv_at hl 0 rfl) ?_
        refine zi_iconst hx hb dX7_countPlacesLeft_64 ?_
        refine lv_aload_n hx hb dX7_countPlacesLeft_65 rfl (lv_at hl 2 rfl) ?_
        refine va_get (D := D) (ci := 7) (v := .ref (ad 1)) (C := RX7) (T := TX7) (N := 6) hx hb hts in_X7_countPlacesLeft_7 hown hK.1 hP 0 rfl rfl 0 (by decide) (hts _ lk_X7_countPlacesLeft_10) (fun _ h9 => h9) rfl dX7_countPlacesLeft_66 ?_
        refine lv_iload hx hb dX7_countPlacesLeft_69 (lv_at hl 1 rfl) ?_
        refine zk_r (zc_V (As := [.int (zi r_39)]) (rest := [.int (zi 2), .int (zi r_56), .long lf]) ⟨hx, hb, hml, hown, hts⟩ (ct_X6_errorOf l D cI cZ cJ ad S hI r_39 ⟨by omega, by omega⟩) (cwV 1 hts gX7_countPlacesLeft_X6_errorOf rfl rfl rfl (by decide +kernel) ⟨Nat.le_of_ble_eq_true rfl, Nat.le_of_ble_eq_true rfl⟩) hK hP (q0 := 1) (ci := 6) rfl rfl rfl rfl hl.1 rfl (Nat.le_of_ble_eq_true rfl) dX7_countPlacesLeft_71 ⟨Nat.zero_le _, Nat.zero_le _⟩) ?_
        refine zi_top (fun (r_71 : Int) (er_71 : r_71 = eOf S r_39) => ?_)
        have fr_71 : (0 : Int) ≤ r_71 ∧ r_71 ≤ 9 := by rw [er_71]; exact eOf_b hI r_39
        refine zi_imul hx hb dX7_countPlacesLeft_74 ?_
        refine zi_iconst hx hb dX7_countPlacesLeft_75 ?_
        refine zi_iadd hx hb dX7_countPlacesLeft_76 ?_
        refine zk_r (zc_S (As := [.int (zi r_56), .int (zi ((2 * r_71) + 1))]) (rest := [.long lf]) ⟨hx, hb, hml, hown, hts⟩ (ct_X7_stretch l D cI cZ cJ r_56 ((2 * r_71) + 1) ⟨by omega, by omega⟩ ⟨by omega, by omega⟩ (by omega) (by omega) (by omega) (by omega)) (va_cwS 2 hts gX7_countPlacesLeft_X7_stretch rfl rfl rfl (by decide +kernel) ⟨Nat.le_of_ble_eq_true rfl, Nat.le_of_ble_eq_true rfl⟩) hK va_P_nil rfl hl.1 rfl (Nat.le_of_ble_eq_true rfl) dX7_countPlacesLeft_77 ⟨Nat.zero_le _, Nat.zero_le _⟩) ?_
        refine lv_topl (fun (r_77 : Int64) (er_77 : r_77 = stretchC r_56 ((2 * r_71) + 1)) => ?_)
        refine lv_land hx hb dX7_countPlacesLeft_80 ?_
        refine lv_topl (fun x3_81 ex3_81 => ?_)
        refine lv_lstore_n (lv' := [(3, .long x3_81), (7, .int (zi r_56)), (6, .int (zi r_39)), (0, .ref (ad 0)), (1, .int (zi x0)), (2, .int (zi r_10)), (5, .int (zi i))]) hx hb dX7_countPlacesLeft_81 rfl hl (by decide) rfl (fun ls hl => ?_)
        refine zi_iinc (k := 6) (lv' := [(5, .int (zi (i + 1))), (3, .long x3_81), (7, .int (zi r_56)), (6, .int (zi r_39)), (0, .ref (ad 0)), (1, .int (zi x0)), (2, .int (zi r_10))]) hx hb dX7_countPlacesLeft_82 hl rfl (by decide) rfl (fun ls hl => ?_)
        refine lv_goto (tgt := 21) hx hb dX7_countPlacesLeft_85 (by decide) ?_
        exact ih_21 n (i + 1) x3_81 (by first | omega | assumption) (by first | omega | assumption) (by rw [← h_R, itr_s]; congr 1; rw [ex3_81, er_77, er_56, er_71, er_48, er_39, er_10, er_6]; rfl) (by omega) _ (lv_sub hl [4, 5, 6, 0, 1] rfl)
  refine lv_istore (lv' := [(5, .int (zi 0)), (3, .long x3_17), (2, .int (zi r_10)), (0, .ref (ad 0)), (1, .int (zi x0))]) hx hb dX7_countPlacesLeft_19 hl (by decide) rfl (fun ls hl => ?_)
  exact K_21 ((S 26 0).toNat + 1) ((S 26 0).toNat) 0 x3_17 (by first | omega | assumption) (by first | omega | assumption) (by rw [leftC, ex3_17]) (by omega) _ (lv_sub hl [3, 4, 2, 0, 1] rfl)

theorem ini_X7_drift_X4_groupOf : Cond.initialized RX7 ∈ wsX4_groupOf := by decide +kernel
theorem sta_X7_drift_X4_groupOf : Cond.static yX7_drift ∈ wsX4_groupOf := by decide +kernel
abbrev rmct_X4_groupOf : Room := { frames := 2, cells := 0, slots := 0, locals := 41 }
set_option maxHeartbeats 4000000 in
set_option maxRecDepth 100000 in
theorem ct_X4_groupOf (l : Launch) (D : va_G) (cI cZ cJ : ClassId) (x0 x1 x2 : Int) (hx0 : ir x0) (hx1 : ir x1) (hx2 : ir x2) (hp00 : 0 ≤ x0) (hp01 : x0 ≤ 404) (hp10 : 0 ≤ x1) (hp11 : x1 ≤ 999) (hp20 : 1 ≤ x2) (hp21 : x2 ≤ 60) (hs : x1 + x2 ≤ 1000) : Met l yX4_groupOf wsX4_groupOf rmct_X4_groupOf (zP D cI cZ cJ [] [.int (zi x0), .int (zi x1), .int (zi x2)]) (k2_QcV (.int (zi (gOf x0 x1 x2)))) 0 0 (fun _ => False) := by
  refine Met.ofW (cc := cX4_groupOf) (maxL := 3) (ret := (some .int)) (by decide) rfl ?_
  intro p e s m args below meth c s₁ B hml hv
  obtain ⟨rfl, hP, hK⟩ := hv
  have hx := B.exec
  have hb := B.bytes
  have hr := B.returns
  have hts := atoms_spec (ws := wsX4_groupOf) B.pre
  have hown : s.vm.findClass RX4 = some m.cls := findClass_of_methodNamed B.named
  have hlocks := B.notSynchronized
  have hl := lv_entry ([.int (zi x0), .int (zi x1), .int (zi x2)]) (n := 3) (Nat.le_of_ble_eq_true rfl)
  rw [lg_entry_eq]
  generalize (lg_sl ([.int (zi x0), .int (zi x1), .int (zi x2)]) ++ List.replicate (3 - (lg_sl ([.int (zi x0), .int (zi x1), .int (zi x2)])).length) Slot.unset).toArray = ls at hl ⊢
  have hl : lv_has ls 3 [(0, .int (zi x0)), (1, .int (zi x1)), (2, .int (zi x2))] := hl
  show W p l e rmct_X4_groupOf s m ([.int (zi x0), .int (zi x1), .int (zi x2)] : List Value).toArray below meth c s.heap [] 0 0 (MQ below (k2_QcV (.int (zi (gOf x0 x1 x2)))) ([.int (zi x0), .int (zi x1), .int (zi x2)] : List Value).toArray s 0 0 (fun _ => False)) (F0 m 0 ls [])
  refine lv_iload_n hx hb dX4_groupOf_0 rfl (lv_at hl 2 rfl) ?_
  refine zi_iconst hx hb dX4_groupOf_1 ?_
  refine zi_icmp_le (tgt := 7) hx hb ⟨by omega, by omega⟩ ⟨by decide, by decide⟩ dX4_groupOf_2 (by decide) (fun c_2 => ?_) (fun c_2 => ?_)
  · refine lv_iload_n hx hb dX4_groupOf_7 rfl (lv_at hl 0 rfl) ?_
    refine lv_iload_n hx hb dX4_groupOf_8 rfl (lv_at hl 1 rfl) ?_
    refine lv_iload_n hx hb dX4_groupOf_9 rfl (lv_at hl 2 rfl) ?_
    refine zi_iadd hx hb dX4_groupOf_10 ?_
    refine zi_iconst hx hb dX4_groupOf_11 ?_
    refine zi_isub hx hb dX4_groupOf_12 ?_
    refine zk_r (zc_N (As := [.int (zi x0), .int (zi ((x1 + x2) - 1))]) (rest := []) ⟨hx, hb, hml, hown, hts⟩ (ct_X7_drift l D cI cZ cJ x0 ((x1 + x2) - 1) ⟨by omega, by omega⟩ ⟨by omega, by omega⟩ (by omega) (by omega) (by omega) (by omega)) ⟨va_cnB 2 hts gX4_groupOf_X7_drift_n60 rfl rfl rfl (hK.2 _ (List.mem_of_getElem? (i := 14) rfl)) (hts _ ini_X7_drift_X4_groupOf) (by decide +kernel) ⟨Nat.le_of_ble_eq_true rfl, Nat.le_of_ble_eq_true rfl⟩, hts _ sta_X7_drift_X4_groupOf, trivial⟩ hK va_P_nil rfl hl.1 rfl (Nat.le_of_ble_eq_true rfl) dX4_groupOf_13 ⟨Nat.zero_le _, Nat.zero_le _⟩) ?_
    refine zi_top (fun (r_13 : Int) (er_13 : r_13 = dC x0 ((x1 + x2) - 1)) => ?_)
    have fr_13 : (-1036962 : Int) ≤ r_13 ∧ r_13 ≤ 1036962 := by rw [er_13]; exact dC_b (by omega) (by omega) (by omega) (by omega)
    refine lv_iload_n hx hb dX4_groupOf_16 rfl (lv_at hl 0 rfl) ?_
    refine lv_iload_n hx hb dX4_groupOf_17 rfl (lv_at hl 1 rfl) ?_
    refine zk_r (zc_N (As := [.int (zi x0), .int (zi x1)]) (rest := [.int (zi r_13)]) ⟨hx, hb, hml, hown, hts⟩ (ct_X7_drift l D cI cZ cJ x0 x1 ⟨by omega, by omega⟩ ⟨by omega, by omega⟩ (by omega) (by omega) (by omega) (by omega)) ⟨va_cnB 2 hts gX4_groupOf_X7_drift_n60 rfl rfl rfl (hK.2 _ (List.mem_of_getElem? (i := 14) rfl)) (hts _ ini_X7_drift_X4_groupOf) (by decide +kernel) ⟨Nat.le_of_ble_eq_true rfl, Nat.le_of_ble_eq_true rfl⟩, hts _ sta_X7_drift_X4_groupOf, trivial⟩ hK va_P_nil rfl hl.1 rfl (Nat.le_of_ble_eq_true rfl) dX4_groupOf_18 ⟨Nat.zero_le _, Nat.zero_le _⟩) ?_
    refine zi_top (fun (r_18 : Int) (er_18 : r_18 = dC x0 x1) => ?_)
    have fr_18 : (-1036962 : Int) ≤ r_18 ∧ r_18 ≤ 1036962 := by rw [er_18]; exact dC_b (by omega) (by omega) (by omega) (by omega)
    refine zi_isub hx hb dX4_groupOf_21 ?_
    refine zi_sipush hx hb dX4_groupOf_22 (by decide) ?_
    refine zk_r (zc_S (As := [.int (zi (r_13 - r_18)), .int (zi 3600)]) (rest := []) ⟨hx, hb, hml, hown, hts⟩ (ct_J9_floorMod_7cf53 l D cI cZ cJ (r_13 - r_18) 3600 ⟨by omega, by omega⟩ ⟨by decide, by decide⟩ (by omega)) (va_cwS 2 hts gX4_groupOf_J9_floorMod_7cf53 rfl rfl rfl (by decide +kernel) ⟨Nat.le_of_ble_eq_true rfl, Nat.le_of_ble_eq_true rfl⟩) hK va_P_nil rfl hl.1 rfl (Nat.le_of_ble_eq_true rfl) dX4_groupOf_25 ⟨Nat.zero_le _, Nat.zero_le _⟩) ?_
    refine zi_top (fun (r_25 : Int) (er_25 : r_25 = (r_13 - r_18) % 3600) => ?_)
    have fr_25 : (0 : Int) ≤ r_25 := by rw [er_25]; exact Int.emod_nonneg _ (by omega)
    have fr_251 : r_25 < 3600 := by rw [er_25]; exact Int.emod_lt_of_pos _ (by omega)
    exact zr_i hx hb hr hlocks dX4_groupOf_28 (by subst_vars; exact (if_pos (by omega)).symm)
  · refine lv_iload_n hx hb dX4_groupOf_5 rfl (lv_at hl 0 rfl) ?_
    exact zr_i hx hb hr hlocks dX4_groupOf_6 (by exact (if_neg (by omega)).symm)

theorem ini_X7_drift_X4_nearBitsOf : Cond.initialized RX7 ∈ wsX4_nearBitsOf := by decide +kernel
theorem sta_X7_drift_X4_nearBitsOf : Cond.static yX7_drift ∈ wsX4_nearBitsOf := by decide +kernel
theorem ini_X7_stretch_X4_nearBitsOf : Cond.initialized RX7 ∈ wsX4_nearBitsOf := by decide +kernel
theorem sta_X7_stretch_X4_nearBitsOf : Cond.static yX7_stretch ∈ wsX4_nearBitsOf := by decide +kernel
abbrev rmct_X4_nearBitsOf : Room := { frames := 2, cells := 0, slots := 0, locals := 41 }
set_option maxHeartbeats 4000000 in
set_option maxRecDepth 100000 in
theorem ct_X4_nearBitsOf (l : Launch) (D : va_G) (cI cZ cJ : ClassId) (x0 x1 x2 x3 : Int) (hx0 : ir x0) (hx1 : ir x1) (hx2 : ir x2) (hx3 : ir x3) (hp00 : 0 ≤ x0) (hp01 : x0 ≤ 404) (hp10 : 0 ≤ x1) (hp11 : x1 ≤ 3599) (hp20 : 0 ≤ x2) (hp21 : x2 ≤ 999) (hp30 : 1 ≤ x3) (hp31 : x3 ≤ 60) (hs : x2 + x3 ≤ 1000) : Met l yX4_nearBitsOf wsX4_nearBitsOf rmct_X4_nearBitsOf (zP D cI cZ cJ [] [.int (zi x0), .int (zi x1), .int (zi x2), .int (zi x3)]) (k2_QcV (.long (nbC x0 x1 x2 x3))) 0 0 (fun _ => False) := by
  refine Met.ofW (cc := cX4_nearBitsOf) (maxL := 9) (ret := (some .long)) (by decide) rfl ?_
  intro p e s m args below meth c s₁ B hml hv
  obtain ⟨rfl, hP, hK⟩ := hv
  have hx := B.exec
  have hb := B.bytes
  have hr := B.returns
  have hts := atoms_spec (ws := wsX4_nearBitsOf) B.pre
  have hown : s.vm.findClass RX4 = some m.cls := findClass_of_methodNamed B.named
  have hlocks := B.notSynchronized
  have hl := lv_entry ([.int (zi x0), .int (zi x1), .int (zi x2), .int (zi x3)]) (n := 9) (Nat.le_of_ble_eq_true rfl)
  rw [lg_entry_eq]
  generalize (lg_sl ([.int (zi x0), .int (zi x1), .int (zi x2), .int (zi x3)]) ++ List.replicate (9 - (lg_sl ([.int (zi x0), .int (zi x1), .int (zi x2), .int (zi x3)])).length) Slot.unset).toArray = ls at hl ⊢
  have hl : lv_has ls 9 [(0, .int (zi x0)), (1, .int (zi x1)), (2, .int (zi x2)), (3, .int (zi x3))] := hl
  show W p l e rmct_X4_nearBitsOf s m ([.int (zi x0), .int (zi x1), .int (zi x2), .int (zi x3)] : List Value).toArray below meth c s.heap [] 0 0 (MQ below (k2_QcV (.long (nbC x0 x1 x2 x3))) ([.int (zi x0), .int (zi x1), .int (zi x2), .int (zi x3)] : List Value).toArray s 0 0 (fun _ => False)) (F0 m 0 ls [])
  refine lv_lconst (v := 0) hx hb dX4_nearBitsOf_0 (by decide) ?_
  refine lv_topl (fun x4_1 ex4_1 => ?_)
  refine lv_lstore (lv' := [(4, .long x4_1), (0, .int (zi x0)), (1, .int (zi x1)), (2, .int (zi x2)), (3, .int (zi x3))]) hx hb dX4_nearBitsOf_1 hl (by decide) rfl (fun ls hl => ?_)
  refine lv_iload_n hx hb dX4_nearBitsOf_3 rfl (lv_at hl 3 rfl) ?_
  have K_6 : ∀ (k : Nat) (n : Nat) (i : Int) (lf : Int64), (i + (n : Int) = x2 + x3) → (x2 ≤ i) → (itr (nbF x0 x1) n i lf = nbC x0 x1 x2 x3) → ((n : Int) < (k : Int)) → ∀ (ls : Array Slot), lv_has ls 9 [(0, .int (zi x0)), (1, .int (zi x1)), (2, .int (zi x2)), (3, .int (zi x3)), (6, .int (zi i)), (4, .long lf)] → W p l e rmct_X4_nearBitsOf s m ([.int (zi x0), .int (zi x1), .int (zi x2), .int (zi x3)] : List Value).toArray below meth c s.heap [] 0 0 (MQ below (k2_QcV (.long (nbC x0 x1 x2 x3))) ([.int (zi x0), .int (zi x1), .int (zi x2), .int (zi x3)] : List Value).toArray s 0 0 (fun _ => False)) (F0 m 6 ls []) := by
    intro k
    induction k with
    | zero => intro n i lf h_n h_i h_R hk; exact absurd hk (by omega)
    | succ k ih_6 =>
      intro n i lf h_n h_i h_R hk ls hl
      refine lv_iload hx hb dX4_nearBitsOf_6 (lv_at hl 4 rfl) ?_
      refine lv_iload_n hx hb dX4_nearBitsOf_8 rfl (lv_at hl 2 rfl) ?_
      refine lv_iload_n hx hb dX4_nearBitsOf_9 rfl (lv_at hl 3 rfl) ?_
      refine zi_iadd hx hb dX4_nearBitsOf_10 ?_
      refine zi_icmp_ge (tgt := 59) hx hb ⟨by omega, by omega⟩ ⟨by omega, by omega⟩ dX4_nearBitsOf_11 (by decide) (fun c_11 => ?_) (fun c_11 => ?_)
      · obtain rfl : n = 0 := by omega
        refine lv_lload hx hb dX4_nearBitsOf_59 (lv_at hl 5 rfl) ?_
        exact zr_l hx hb hr hlocks dX4_nearBitsOf_61 (by exact h_R)
      · obtain ⟨n, rfl⟩ : ∃ n9 : Nat, n = n9 + 1 := ⟨n - 1, by omega⟩
        refine zi_bipush hx hb dX4_nearBitsOf_14 (by decide) ?_
        refine lv_iload hx hb dX4_nearBitsOf_16 (lv_at hl 4 rfl) ?_
        refine zi_imul hx hb dX4_nearBitsOf_18 ?_
        refine zi_iconst hx hb dX4_nearBitsOf_19 ?_
        refine zi_isub hx hb dX4_nearBitsOf_20 ?_
        refine lv_iload_n hx hb dX4_nearBitsOf_21 rfl (lv_at hl 0 rfl) ?_
        refine lv_iload hx hb dX4_nearBitsOf_22 (lv_at hl 4 rfl) ?_
        refine zk_r (zc_N (As := [.int (zi x0), .int (zi i)]) (rest := [.int (zi ((10 * i) - 2))]) ⟨hx, hb, hml, hown, hts⟩ (ct_X7_drift l D cI cZ cJ x0 i ⟨by omega, by omega⟩ ⟨by omega, by omega⟩ (by omega) (by omega) (by omega) (by omega)) ⟨va_cnB 2 hts gX4_nearBitsOf_X7_drift_n60 rfl rfl rfl (hK.2 _ (List.mem_of_getElem? (i := 14) rfl)) (hts _ ini_X7_drift_X4_nearBitsOf) (by decide +kernel) ⟨Nat.le_of_ble_eq_true rfl, Nat.le_of_ble_eq_true rfl⟩, hts _ sta_X7_drift_X4_nearBitsOf, trivial⟩ hK va_P_nil rfl hl.1 rfl (Nat.le_of_ble_eq_true rfl) dX4_nearBitsOf_24 ⟨Nat.zero_le _, Nat.zero_le _⟩) ?_
        refine zi_top (fun (r_24 : Int) (er_24 : r_24 = dC x0 i) => ?_)
        have fr_24 : (-1036962 : Int) ≤ r_24 ∧ r_24 ≤ 1036962 := by rw [er_24]; exact dC_b (by omega) (by omega) (by omega) (by omega)
        refine zi_isub hx hb dX4_nearBitsOf_27 ?_
        refine zi_top (fun x7_28 ex7_28 => ?_)
        refine lv_istore (lv' := [(7, .int (zi x7_28)), (0, .int (zi x0)), (1, .int (zi x1)), (2, .int (zi x2)), (3, .int (zi x3)), (6, .int (zi i)), (4, .long lf)]) hx hb dX4_nearBitsOf_28 hl (by decide) rfl (fun ls hl => ?_)
        refine lv_iload hx hb dX4_nearBitsOf_30 (lv_at hl 0 rfl) ?_
        refine lv_iload_n hx hb dX4_nearBitsOf_32 rfl (lv_at hl 2 rfl) ?_
        refine zi_isub hx hb dX4_nearBitsOf_33 ?_
        refine zi_sipush hx hb dX4_nearBitsOf_34 (by decide) ?_
        refine zk_r (zc_S (As := [.int (zi (x7_28 - x1)), .int (zi 3600)]) (rest := []) ⟨hx, hb, hml, hown, hts⟩ (ct_J9_floorMod_7cf53 l D cI cZ cJ (x7_28 - x1) 3600 ⟨by omega, by omega⟩ ⟨by decide, by decide⟩ (by omega)) (va_cwS 2 hts gX4_nearBitsOf_J9_floorMod_7cf53 rfl rfl rfl (by decide +kernel) ⟨Nat.le_of_ble_eq_true rfl, Nat.le_of_ble_eq_true rfl⟩) hK va_P_nil rfl hl.1 rfl (Nat.le_of_ble_eq_true rfl) dX4_nearBitsOf_37 ⟨Nat.zero_le _, Nat.zero_le _⟩) ?_
        refine zi_top (fun (r_37 : Int) (er_37 : r_37 = (x7_28 - x1) % 3600) => ?_)
        have fr_37 : (0 : Int) ≤ r_37 := by rw [er_37]; exact Int.emod_nonneg _ (by omega)
        have fr_371 : r_37 < 3600 := by rw [er_37]; exact Int.emod_lt_of_pos _ (by omega)
        refine lv_istore (lv' := [(8, .int (zi r_37)), (7, .int (zi x7_28)), (0, .int (zi x0)), (1, .int (zi x1)), (2, .int (zi x2)), (3, .int (zi x3)), (6, .int (zi i)), (4, .long lf)]) hx hb dX4_nearBitsOf_40 hl (by decide) rfl (fun ls hl => ?_)
        refine lv_lload hx hb dX4_nearBitsOf_42 (lv_at hl 7 rfl) ?_
        refine lv_iload hx hb dX4_nearBitsOf_44 (lv_at hl 0 rfl) ?_
        refine zi_iconst hx hb dX4_nearBitsOf_46 ?_
        refine zk_r (zc_N (As := [.int (zi r_37), .int (zi 5)]) (rest := [.long lf]) ⟨hx, hb, hml, hown, hts⟩ (ct_X7_stretch l D cI cZ cJ r_37 5 ⟨by omega, by omega⟩ ⟨by decide, by decide⟩ (by omega) (by omega) (by omega) (by omega)) ⟨va_cnB 2 hts gX4_nearBitsOf_X7_stretch_n76 rfl rfl rfl (hK.2 _ (List.mem_of_getElem? (i := 15) rfl)) (hts _ ini_X7_stretch_X4_nearBitsOf) (by decide +kernel) ⟨Nat.le_of_ble_eq_true rfl, Nat.le_of_ble_eq_true rfl⟩, hts _ sta_X7_stretch_X4_nearBitsOf, trivial⟩ hK va_P_nil rfl hl.1 rfl (Nat.le_of_ble_eq_true rfl) dX4_nearBitsOf_47 ⟨Nat.zero_le _, Nat.zero_le _⟩) ?_
        refine lv_topl (fun (r_47 : Int64) (er_47 : r_47 = stretchC r_37 5) => ?_)
        refine lv_lor hx hb dX4_nearBitsOf_50 ?_
        refine lv_topl (fun x4_51 ex4_51 => ?_)
        refine lv_lstore (lv' := [(4, .long x4_51), (8, .int (zi r_37)), (7, .int (zi x7_28)), (0, .int (zi x0)), (1, .int (zi x1)), (2, .int (zi x2)), (3, .int (zi x3)), (6, .int (zi i))]) hx hb dX4_nearBitsOf_51 hl (by decide) rfl (fun ls hl => ?_)
        refine zi_iinc (k := 7) (lv' := [(6, .int (zi (i + 1))), (4, .long x4_51), (8, .int (zi r_37)), (7, .int (zi x7_28)), (0, .int (zi x0)), (1, .int (zi x1)), (2, .int (zi x2)), (3, .int (zi x3))]) hx hb dX4_nearBitsOf_53 hl rfl (by decide) rfl (fun ls hl => ?_)
        refine lv_goto (tgt := 6) hx hb dX4_nearBitsOf_56 (by decide) ?_
        exact ih_6 n (i + 1) x4_51 (by first | omega | assumption) (by first | omega | assumption) (by rw [← h_R, itr_s]; congr 1; rw [ex4_51, er_47, er_37, ex7_28, er_24]; rfl) (by omega) _ (lv_sub hl [4, 5, 6, 7, 0, 1] rfl)
  refine lv_istore (lv' := [(6, .int (zi x2)), (4, .long x4_1), (0, .int (zi x0)), (1, .int (zi x1)), (2, .int (zi x2)), (3, .int (zi x3))]) hx hb dX4_nearBitsOf_4 hl (by decide) rfl (fun ls hl => ?_)
  exact K_6 (x3.toNat + 1) x3.toNat x2 x4_1 (by first | omega | assumption) (by first | omega | assumption) (by rw [nbC, ex4_1]) (by omega) _ (lv_sub hl [2, 3, 4, 5, 0, 1] rfl)

theorem in_X4_makeGroups_4 : ∀ w ∈ wsX40, w ∈ wsX4_makeGroups := by decide +kernel
theorem lk_X4_makeGroups_14 : Cond.fieldLink RX4 14 "PlanetoidDesk$Paths" "groupHeads" "LPlanetoidDesk$Row;" ∈ wsX4_makeGroups := by decide +kernel
theorem lk_X4_makeGroups_20 : Cond.fieldLink RX4 20 "PlanetoidDesk$Paths" "nextInGroup" "LPlanetoidDesk$Row;" ∈ wsX4_makeGroups := by decide +kernel
abbrev rmct_X4_makeGroups : Room := { frames := 3, cells := 0, slots := 0, locals := 63 }
set_option maxHeartbeats 4000000 in
set_option maxRecDepth 100000 in
theorem ct_X4_makeGroups (l : Launch) (D : va_G) (cI cZ cJ : ClassId) (ad : Nat → Nat) (S : ZS) (hI : CI S) (hdis : dDis ad) (x0 x1 : Int) (hx0 : ir x0) (hx1 : ir x1) (hp00 : 0 ≤ x0) (hp01 : x0 ≤ 999) (hp10 : 1 ≤ x1) (hp11 : x1 ≤ 60) (hs : x0 + x1 ≤ 1000) : Met l yX4_makeGroups wsX4_makeGroups rmct_X4_makeGroups (zP D cI cZ cJ (dW cI ad S) [.ref (ad 5), .int (zi x0), .int (zi x1)]) (zWv D (dW cI ad) (dA ad) (fun T => T = mgAll x0 x1 S ∧ CI T)) 0 0 (dA ad) := by
  refine Met.ofW (cc := cX4_makeGroups) (maxL := 5) (ret := none) (by decide) rfl ?_
  intro p e s m args below meth c s₁ B hml hv
  obtain ⟨rfl, hP, hK⟩ := hv
  have hx := B.exec
  have hb := B.bytes
  have hr := B.returns
  have hts := atoms_spec (ws := wsX4_makeGroups) B.pre
  have hown : s.vm.findClass RX4 = some m.cls := findClass_of_methodNamed B.named
  have hlocks := B.notSynchronized
  have hl := lv_entry ([.ref (ad 5), .int (zi x0), .int (zi x1)]) (n := 5) (Nat.le_of_ble_eq_true rfl)
  rw [lg_entry_eq]
  generalize (lg_sl ([.ref (ad 5), .int (zi x0), .int (zi x1)]) ++ List.replicate (5 - (lg_sl ([.ref (ad 5), .int (zi x0), .int (zi x1)])).length) Slot.unset).toArray = ls at hl ⊢
  have hl : lv_has ls 5 [(0, .ref (ad 5)), (1, .int (zi x0)), (2, .int (zi x1))] := hl
  have hS : va_S (dA ad) s.heap s.heap [] := va_S.rf
  show W p l e rmct_X4_makeGroups s m ([.ref (ad 5), .int (zi x0), .int (zi x1)] : List Value).toArray below meth c s.heap [] 0 0 (MQ below (zWv D (dW cI ad) (dA ad) (fun T => T = mgAll x0 x1 S ∧ CI T)) ([.ref (ad 5), .int (zi x0), .int (zi x1)] : List Value).toArray s 0 0 (dA ad)) (F0 m 0 ls [])
  refine lv_aload_n hx hb dX4_makeGroups_0 rfl (lv_at hl 0 rfl) ?_
  refine va_get (D := D) (ci := 4) (v := .ref (ad 23)) (C := RX4) (T := TX4) (N := 5) hx hb hts in_X4_makeGroups_4 hown hK.1 hP 5 rfl rfl 0 (by decide) (hts _ lk_X4_makeGroups_14) (fun _ h9 => h9) rfl dX4_makeGroups_1 ?_
  refine zi_iconst hx hb dX4_makeGroups_4 ?_
  refine va_callv (zc_V (As := [.int (zi (-1))]) (rest := []) ⟨hx, hb, hml, hown, hts⟩ (ct_X5_fill l D cI cZ cJ (dW cI ad S) (dA ad) (ad 23) (ad 43) 23 43 3600 (S 16) (-1) rfl (Nat.le_of_ble_eq_true rfl) (by decide) (fun g9 => dW_D hdis (su S 16 g9)) (by decide)) (cwV 1 hts gX4_makeGroups_X5_fill rfl rfl rfl (by decide +kernel) ⟨Nat.le_of_ble_eq_true rfl, Nat.le_of_ble_eq_true rfl⟩) hK hP (q0 := 23) (ci := 5) rfl rfl rfl rfl hl.1 rfl (Nat.le_of_ble_eq_true rfl) dX4_makeGroups_5 ⟨Nat.zero_le _, Nat.zero_le _⟩) hS (fun _ _ h => h) (fun _ h => h) (fun u t H locs ht _ hu hQ _ _ hS => ?_)
  have hP : va_P D vwCl (dW cI ad (su S 16 (rFill 3600 (S 16) (-1)))) H := by rw [hu] at hQ; rw [← ht]; exact hQ
  have hI_5 : CI (su S 16 (rFill 3600 (S 16) (-1))) := CI.rfill hI 16 3600 (-1) (show (-1 : Int) ≤ (-1) ∧ (-1) ≤ 404 from ⟨by omega, by omega⟩)
  generalize eS_5 : (su S 16 (rFill 3600 (S 16) (-1))) = S_5 at hP hI_5
  refine zi_iconst hx hb dX4_makeGroups_8 ?_
  have K_10 : ∀ (k : Nat) (n : Nat) (i : Int) (T : ZS), (i + (n : Int) = 405) → (0 ≤ i) → (itr (mgStep x0 x1) n i T = mgAll x0 x1 S) → ((n : Int) < (k : Int)) → CI T → ∀ (H : Heap) (locs : List Loc), va_P D vwCl (dW cI ad T) H → va_S (dA ad) s.heap H locs → ∀ (ls : Array Slot), lv_has ls 5 [(0, .ref (ad 5)), (1, .int (zi x0)), (2, .int (zi x1)), (3, .int (zi i))] → W p l e rmct_X4_makeGroups s m ([.ref (ad 5), .int (zi x0), .int (zi x1)] : List Value).toArray below meth c H locs 0 0 (MQ below (zWv D (dW cI ad) (dA ad) (fun T => T = mgAll x0 x1 S ∧ CI T)) ([.ref (ad 5), .int (zi x0), .int (zi x1)] : List Value).toArray s 0 0 (dA ad)) (F0 m 10 ls []) := by
    intro k
    induction k with
    | zero => intro n i T h_n h_i h_R hk hIT; exact absurd hk (by omega)
    | succ k ih_10 =>
      intro n i T h_n h_i h_R hk hIT H locs hP hS ls hl
      refine lv_iload_n hx hb dX4_makeGroups_10 rfl (lv_at hl 3 rfl) ?_
      refine zi_sipush hx hb dX4_makeGroups_11 (by decide) ?_
      refine zi_icmp_ge (tgt := 58) hx hb ⟨by omega, by omega⟩ ⟨by decide, by decide⟩ dX4_makeGroups_14 (by decide) (fun c_14 => ?_) (fun c_14 => ?_)
      · obtain rfl : n = 0 := by omega
        exact zr_wv (T := T) hx hb hr hlocks dX4_makeGroups_58 hP hS (by exact ⟨h_R, hIT⟩)
      · obtain ⟨n, rfl⟩ : ∃ n9 : Nat, n = n9 + 1 := ⟨n - 1, by omega⟩
        refine lv_iload_n hx hb dX4_makeGroups_17 rfl (lv_at hl 3 rfl) ?_
        refine lv_iload_n hx hb dX4_makeGroups_18 rfl (lv_at hl 1 rfl) ?_
        refine lv_iload_n hx hb dX4_makeGroups_19 rfl (lv_at hl 2 rfl) ?_
        refine zk_r (zc_S (As := [.int (zi i), .int (zi x0), .int (zi x1)]) (rest := []) ⟨hx, hb, hml, hown, hts⟩ (ct_X4_groupOf l D cI cZ cJ i x0 x1 ⟨by omega, by omega⟩ ⟨by omega, by omega⟩ ⟨by omega, by omega⟩ (by omega) (by omega) (by omega) (by omega) (by omega) (by omega) (by omega)) (va_cwS 3 hts gX4_makeGroups_X4_groupOf rfl rfl rfl (by decide +kernel) ⟨Nat.le_of_ble_eq_true rfl, Nat.le_of_ble_eq_true rfl⟩) hK va_P_nil rfl hl.1 rfl (Nat.le_of_ble_eq_true rfl) dX4_makeGroups_20 ⟨Nat.zero_le _, Nat.zero_le _⟩) ?_
        refine zi_top (fun (r_20 : Int) (er_20 : r_20 = gOf i x0 x1) => ?_)
        have fr_20 : (0 : Int) ≤ r_20 ∧ r_20 ≤ 3599 := by rw [er_20]; exact gOf_b (by omega) (by omega)
        refine lv_istore (lv' := [(4, .int (zi r_20)), (0, .ref (ad 5)), (1, .int (zi x0)), (2, .int (zi x1)), (3, .int (zi i))]) hx hb dX4_makeGroups_23 hl (by decide) rfl (fun ls hl => ?_)
        refine lv_aload_n hx hb dX4_makeGroups_25 rfl (lv_at hl 1 rfl) ?_
        refine va_get (D := D) (ci := 4) (v := .ref (ad 24)) (C := RX4) (T := TX4) (N := 5) hx hb hts in_X4_makeGroups_4 hown hK.1 hP 5 rfl rfl 1 (by decide) (hts _ lk_X4_makeGroups_20) (fun _ h9 => h9) rfl dX4_makeGroups_26 ?_
        refine lv_iload_n hx hb dX4_makeGroups_29 rfl (lv_at hl 4 rfl) ?_
        refine lv_aload_n hx hb dX4_makeGroups_30 rfl (lv_at hl 1 rfl) ?_
        refine va_get (D := D) (ci := 4) (v := .ref (ad 23)) (C := RX4) (T := TX4) (N := 5) hx hb hts in_X4_makeGroups_4 hown hK.1 hP 5 rfl rfl 0 (by decide) (hts _ lk_X4_makeGroups_14) (fun _ h9 => h9) rfl dX4_makeGroups_31 ?_
        refine lv_iload hx hb dX4_makeGroups_34 (lv_at hl 0 rfl) ?_
        refine zk_r (zc_V (As := [.int (zi r_20)]) (rest := [.int (zi i), .ref (ad 24)]) ⟨hx, hb, hml, hown, hts⟩ (ct_X5_at l D cI cZ cJ (dW cI ad T) (ad 23) (ad 43) 23 43 3600 (T 16) r_20 rfl rfl (by decide) ⟨by omega, by omega⟩) (cwV 1 hts gX4_makeGroups_X5_at rfl rfl rfl (by decide +kernel) ⟨Nat.le_of_ble_eq_true rfl, Nat.le_of_ble_eq_true rfl⟩) hK hP (q0 := 23) (ci := 5) rfl rfl rfl rfl hl.1 rfl (Nat.le_of_ble_eq_true rfl) dX4_makeGroups_36 ⟨Nat.zero_le _, Nat.zero_le _⟩) ?_
        refine zi_top (fun (r_36 : Int) (er_36 : r_36 = rAt 3600 (T 16) r_20) => ?_)
        have fr_36 : (-1 : Int) ≤ r_36 ∧ r_36 ≤ 404 := by rw [er_36]; exact CI.at hIT 16 3600 r_20 ⟨by decide, by decide⟩
        refine va_callv (zc_V (As := [.int (zi i), .int (zi r_36)]) (rest := []) ⟨hx, hb, hml, hown, hts⟩ (ct_X5_put l D cI cZ cJ (dW cI ad T) (dA ad) (ad 24) (ad 44) 24 44 405 (T 17) i r_36 rfl (Nat.le_of_ble_eq_true rfl) (by decide) (fun g9 => dW_D hdis (su T 17 g9)) (by decide) ⟨by omega, by omega⟩) (cwV 2 hts gX4_makeGroups_X5_put rfl rfl rfl (by decide +kernel) ⟨Nat.le_of_ble_eq_true rfl, Nat.le_of_ble_eq_true rfl⟩) hK hP (q0 := 24) (ci := 5) rfl rfl rfl rfl hl.1 rfl (Nat.le_of_ble_eq_true rfl) dX4_makeGroups_39 ⟨Nat.zero_le _, Nat.zero_le _⟩) hS (fun _ _ h => h) (fun _ h => h) (fun u t H locs ht _ hu hQ _ _ hS => ?_)
        have hP : va_P D vwCl (dW cI ad (su T 17 (rPut 405 (T 17) i r_36))) H := by rw [hu] at hQ; rw [← ht]; exact hQ
        have hI_39 : CI (su T 17 (rPut 405 (T 17) i r_36)) := CI.rput hIT 17 405 i r_36 (show (-1 : Int) ≤ r_36 ∧ r_36 ≤ 404 from ⟨by omega, by omega⟩)
        generalize eS_39 : (su T 17 (rPut 405 (T 17) i r_36)) = S_39 at hP hI_39
        refine lv_aload_n hx hb dX4_makeGroups_42 rfl (lv_at hl 1 rfl) ?_
        refine va_get (D := D) (ci := 4) (v := .ref (ad 23)) (C := RX4) (T := TX4) (N := 5) hx hb hts in_X4_makeGroups_4 hown hK.1 hP 5 rfl rfl 0 (by decide) (hts _ lk_X4_makeGroups_14) (fun _ h9 => h9) rfl dX4_makeGroups_43 ?_
        refine lv_iload hx hb dX4_makeGroups_46 (lv_at hl 0 rfl) ?_
        refine lv_iload_n hx hb dX4_makeGroups_48 rfl (lv_at hl 4 rfl) ?_
        refine va_callv (zc_V (As := [.int (zi r_20), .int (zi i)]) (rest := []) ⟨hx, hb, hml, hown, hts⟩ (ct_X5_put l D cI cZ cJ (dW cI ad S_39) (dA ad) (ad 23) (ad 43) 23 43 3600 (S_39 16) r_20 i rfl (Nat.le_of_ble_eq_true rfl) (by decide) (fun g9 => dW_D hdis (su S_39 16 g9)) (by decide) ⟨by omega, by omega⟩) (cwV 2 hts gX4_makeGroups_X5_put rfl rfl rfl (by decide +kernel) ⟨Nat.le_of_ble_eq_true rfl, Nat.le_of_ble_eq_true rfl⟩) hK hP (q0 := 23) (ci := 5) rfl rfl rfl rfl hl.1 rfl (Nat.le_of_ble_eq_true rfl) dX4_makeGroups_49 ⟨Nat.zero_le _, Nat.zero_le _⟩) hS (fun _ _ h => h) (fun _ h => h) (fun u t H locs ht _ hu hQ _ _ hS => ?_)
        have hP : va_P D vwCl (dW cI ad (su S_39 16 (rPut 3600 (S_39 16) r_20 i))) H := by rw [hu] at hQ; rw [← ht]; exact hQ
        have hI_49 : CI (su S_39 16 (rPut 3600 (S_39 16) r_20 i)) := CI.rput hI_39 16 3600 r_20 i (show (-1 : Int) ≤ i ∧ i ≤ 404 from ⟨by omega, by omega⟩)
        generalize eS_49 : (su S_39 16 (rPut 3600 (S_39 16) r_20 i)) = S_49 at hP hI_49
        refine zi_iinc (k := 4) (lv' := [(3, .int (zi (i + 1))), (4, .int (zi r_20)), (0, .ref (ad 5)), (1, .int (zi x0)), (2, .int (zi x1))]) hx hb dX4_makeGroups_52 hl rfl (by decide) rfl (fun ls hl => ?_)
        refine lv_goto (tgt := 10) hx hb dX4_makeGroups_55 (by decide) ?_
        exact ih_10 n (i + 1) S_49 (by first | omega | assumption) (by first | omega | assumption) (by rw [← h_R, itr_s]; congr 1; rw [← eS_49, ← eS_39, er_36, er_20]; rfl) (by omega) hI_49 _ _ hP hS _ (lv_sub hl [2, 3, 4, 0] rfl)
  refine lv_istore_n (lv' := [(3, .int (zi 0)), (0, .ref (ad 5)), (1, .int (zi x0)), (2, .int (zi x1))]) hx hb dX4_makeGroups_9 rfl hl (by decide) rfl (fun ls hl => ?_)
  exact K_10 (405 + 1) 405 0 S_5 (by first | omega | assumption) (by first | omega | assumption) (by rw [mgAll, eS_5]) (by omega) hI_5 _ _ hP hS _ (lv_sub hl [1, 2, 3, 0] rfl)

theorem ini_X7_drift_X4_countCourse : Cond.initialized RX7 ∈ wsX4_countCourse := by decide +kernel
theorem sta_X7_drift_X4_countCourse : Cond.static yX7_drift ∈ wsX4_countCourse := by decide +kernel
theorem in_X4_countCourse_4 : ∀ w ∈ wsX40, w ∈ wsX4_countCourse := by decide +kernel
theorem lk_X4_countCourse_23 : Cond.fieldLink RX4 23 "PlanetoidDesk$Paths" "lastGroupAt" "LPlanetoidDesk$Row;" ∈ wsX4_countCourse := by decide +kernel
theorem lk_X4_countCourse_26 : Cond.fieldLink RX4 26 "PlanetoidDesk$Paths" "all" "I" ∈ wsX4_countCourse := by decide +kernel
theorem lk_X4_countCourse_30 : Cond.fieldLink RX4 30 "PlanetoidDesk$Paths" "near" "I" ∈ wsX4_countCourse := by decide +kernel
abbrev rmct_X4_countCourse : Room := { frames := 3, cells := 0, slots := 0, locals := 69 }
set_option maxHeartbeats 4000000 in
set_option maxRecDepth 100000 in
theorem ct_X4_countCourse (l : Launch) (D : va_G) (cI cZ cJ : ClassId) (ad : Nat → Nat) (S : ZS) (hI : CI S) (hdis : dDis ad) (x0 x1 x2 x3 : Int) (hx0 : ir x0) (hx1 : ir x1) (hx2 : ir x2) (hx3 : ir x3) (hp00 : 0 ≤ x0) (hp01 : x0 ≤ 404) (hp10 : 0 ≤ x1) (hp11 : x1 ≤ 3599) (hp20 : 0 ≤ x2) (hp21 : x2 ≤ 999) (hp30 : 1 ≤ x3) (hp31 : x3 ≤ 60) (hs : x2 + x3 ≤ 1000) (hw : rAt 405 (S 14) x0 ≤ 19) (hal : S 27 0 ≤ 27701981 ∧ S 28 0 ≤ 27701981) : Met l yX4_countCourse wsX4_countCourse rmct_X4_countCourse (zP D cI cZ cJ (dW cI ad S) [.ref (ad 5), .ref (ad 4), .int (zi x0), .int (zi x1), .int (zi x2), .int (zi x3)]) (zWv D (dW cI ad) (dA ad) (fun T => T = ccAll x0 x1 x2 x3 S ∧ CI T)) 0 0 (dA ad) := by
  refine Met.ofW (cc := cX4_countCourse) (maxL := 11) (ret := none) (by decide) rfl ?_
  intro p e s m args below meth c s₁ B hml hv
  obtain ⟨rfl, hP, hK⟩ := hv
  have hx := B.exec
  have hb := B.bytes
  have hr := B.returns
  have hts := atoms_spec (ws := wsX4_countCourse) B.pre
  have hown : s.vm.findClass RX4 = some m.cls := findClass_of_methodNamed B.named
  have hlocks := B.notSynchronized
  have hl := lv_entry ([.ref (ad 5), .ref (ad 4), .int (zi x0), .int (zi x1), .int (zi x2), .int (zi x3)]) (n := 11) (Nat.le_of_ble_eq_true rfl)
  rw [lg_entry_eq]
  generalize (lg_sl ([.ref (ad 5), .ref (ad 4), .int (zi x0), .int (zi x1), .int (zi x2), .int (zi x3)]) ++ List.replicate (11 - (lg_sl ([.ref (ad 5), .ref (ad 4), .int (zi x0), .int (zi x1), .int (zi x2), .int (zi x3)])).length) Slot.unset).toArray = ls at hl ⊢
  have hl : lv_has ls 11 [(0, .ref (ad 5)), (1, .ref (ad 4)), (2, .int (zi x0)), (3, .int (zi x1)), (4, .int (zi x2)), (5, .int (zi x3))] := hl
  have hS : va_S (dA ad) s.heap s.heap [] := va_S.rf
  show W p l e rmct_X4_countCourse s m ([.ref (ad 5), .ref (ad 4), .int (zi x0), .int (zi x1), .int (zi x2), .int (zi x3)] : List Value).toArray below meth c s.heap [] 0 0 (MQ below (zWv D (dW cI ad) (dA ad) (fun T => T = ccAll x0 x1 x2 x3 S ∧ CI T)) ([.ref (ad 5), .ref (ad 4), .int (zi x0), .int (zi x1), .int (zi x2), .int (zi x3)] : List Value).toArray s 0 0 (dA ad)) (F0 m 0 ls [])
  have fr_w : (0 : Int) ≤ rAt 405 (S 14) x0 ∧ rAt 405 (S 14) x0 ≤ 3600 := CI.at hI 14 405 x0 ⟨by decide, by decide⟩
  refine lv_iload_n hx hb dX4_countCourse_0 rfl (lv_at hl 2 rfl) ?_
  refine lv_aload_n hx hb dX4_countCourse_1 rfl (lv_at hl 1 rfl) ?_
  refine lv_iload_n hx hb dX4_countCourse_2 rfl (lv_at hl 2 rfl) ?_
  refine zk_r (zc_V (As := [.int (zi x0)]) (rest := [.int (zi x0)]) ⟨hx, hb, hml, hown, hts⟩ (ct_X3_startOf l D cI cZ cJ ad S hI x0 ⟨by omega, by omega⟩) (cwV 1 hts gX4_countCourse_X3_startOf rfl rfl rfl (by decide +kernel) ⟨Nat.le_of_ble_eq_true rfl, Nat.le_of_ble_eq_true rfl⟩) hK hP (q0 := 4) (ci := 3) rfl rfl rfl rfl hl.1 rfl (Nat.le_of_ble_eq_true rfl) dX4_countCourse_3 ⟨Nat.zero_le _, Nat.zero_le _⟩) ?_
  refine zi_top (fun (r_3 : Int) (er_3 : r_3 = rAt 405 (S 13) x0) => ?_)
  have fr_3 : (0 : Int) ≤ r_3 ∧ r_3 ≤ 3599 := by rw [er_3]; exact CI.at hI 13 405 x0 ⟨by decide, by decide⟩
  refine lv_iload hx hb dX4_countCourse_6 (lv_at hl 4 rfl) ?_
  refine lv_iload hx hb dX4_countCourse_8 (lv_at hl 5 rfl) ?_
  refine zk_r (zc_S (As := [.int (zi x0), .int (zi r_3), .int (zi x2), .int (zi x3)]) (rest := []) ⟨hx, hb, hml, hown, hts⟩ (ct_X4_nearBitsOf l D cI cZ cJ x0 r_3 x2 x3 ⟨by omega, by omega⟩ ⟨by omega, by omega⟩ ⟨by omega, by omega⟩ ⟨by omega, by omega⟩ (by omega) (by omega) (by omega) (by omega) (by omega) (by omega) (by omega) (by omega) (by omega)) (va_cwS 4 hts gX4_countCourse_X4_nearBitsOf rfl rfl rfl (by decide +kernel) ⟨Nat.le_of_ble_eq_true rfl, Nat.le_of_ble_eq_true rfl⟩) hK va_P_nil rfl hl.1 rfl (Nat.le_of_ble_eq_true rfl) dX4_countCourse_10 ⟨Nat.zero_le _, Nat.zero_le _⟩) ?_
  refine lv_topl (fun (r_10 : Int64) (er_10 : r_10 = nbC x0 r_3 x2 x3) => ?_)
  refine lv_lstore (lv' := [(6, .long r_10), (0, .ref (ad 5)), (1, .ref (ad 4)), (2, .int (zi x0)), (3, .int (zi x1)), (4, .int (zi x2)), (5, .int (zi x3))]) hx hb dX4_countCourse_13 hl (by decide) rfl (fun ls hl => ?_)
  refine lv_aload_n hx hb dX4_countCourse_15 rfl (lv_at hl 2 rfl) ?_
  refine lv_iload_n hx hb dX4_countCourse_16 rfl (lv_at hl 3 rfl) ?_
  refine zk_r (zc_V (As := [.int (zi x0)]) (rest := []) ⟨hx, hb, hml, hown, hts⟩ (ct_X3_startOf l D cI cZ cJ ad S hI x0 ⟨by omega, by omega⟩) (cwV 1 hts gX4_countCourse_X3_startOf rfl rfl rfl (by decide +kernel) ⟨Nat.le_of_ble_eq_true rfl, Nat.le_of_ble_eq_true rfl⟩) hK hP (q0 := 4) (ci := 3) rfl rfl rfl rfl hl.1 rfl (Nat.le_of_ble_eq_true rfl) dX4_countCourse_17 ⟨Nat.zero_le _, Nat.zero_le _⟩) ?_
  refine zi_top (fun (r_17 : Int) (er_17 : r_17 = rAt 405 (S 13) x0) => ?_)
  have fr_17 : (0 : Int) ≤ r_17 ∧ r_17 ≤ 3599 := by rw [er_17]; exact CI.at hI 13 405 x0 ⟨by decide, by decide⟩
  refine lv_iload_n hx hb dX4_countCourse_20 rfl (lv_at hl 3 rfl) ?_
  refine lv_iload hx hb dX4_countCourse_21 (lv_at hl 5 rfl) ?_
  refine zk_r (zc_N (As := [.int (zi x0), .int (zi x2)]) (rest := [.int (zi r_17)]) ⟨hx, hb, hml, hown, hts⟩ (ct_X7_drift l D cI cZ cJ x0 x2 ⟨by omega, by omega⟩ ⟨by omega, by omega⟩ (by omega) (by omega) (by omega) (by omega)) ⟨va_cnB 2 hts gX4_countCourse_X7_drift_n60 rfl rfl rfl (hK.2 _ (List.mem_of_getElem? (i := 14) rfl)) (hts _ ini_X7_drift_X4_countCourse) (by decide +kernel) ⟨Nat.le_of_ble_eq_true rfl, Nat.le_of_ble_eq_true rfl⟩, hts _ sta_X7_drift_X4_countCourse, trivial⟩ hK va_P_nil rfl hl.1 rfl (Nat.le_of_ble_eq_true rfl) dX4_countCourse_23 ⟨Nat.zero_le _, Nat.zero_le _⟩) ?_
  refine zi_top (fun (r_23 : Int) (er_23 : r_23 = dC x0 x2) => ?_)
  have fr_23 : (-1036962 : Int) ≤ r_23 ∧ r_23 ≤ 1036962 := by rw [er_23]; exact dC_b (by omega) (by omega) (by omega) (by omega)
  refine zi_iadd hx hb dX4_countCourse_26 ?_
  refine zi_top (fun x8_27 ex8_27 => ?_)
  refine lv_istore (lv' := [(8, .int (zi x8_27)), (6, .long r_10), (0, .ref (ad 5)), (1, .ref (ad 4)), (2, .int (zi x0)), (3, .int (zi x1)), (4, .int (zi x2)), (5, .int (zi x3))]) hx hb dX4_countCourse_27 hl (by decide) rfl (fun ls hl => ?_)
  refine zi_iconst hx hb dX4_countCourse_29 ?_
  have K_32 : ∀ (k : Nat) (n : Nat) (i : Int) (T : ZS), (i + (n : Int) = rAt 405 (S 14) x0) → (0 ≤ i) → (itr (ccStep r_10 x8_27 x1) n i T = ccAll x0 x1 x2 x3 S) → (T 14 = S 14) → (T 27 0 ≤ S 27 0 + i ∧ T 28 0 ≤ S 28 0 + i) → ((n : Int) < (k : Int)) → CI T → ∀ (H : Heap) (locs : List Loc), va_P D vwCl (dW cI ad T) H → va_S (dA ad) s.heap H locs → ∀ (ls : Array Slot), lv_has ls 11 [(0, .ref (ad 5)), (1, .ref (ad 4)), (2, .int (zi x0)), (3, .int (zi x1)), (4, .int (zi x2)), (5, .int (zi x3)), (6, .long r_10), (8, .int (zi x8_27)), (9, .int (zi i))] → W p l e rmct_X4_countCourse s m ([.ref (ad 5), .ref (ad 4), .int (zi x0), .int (zi x1), .int (zi x2), .int (zi x3)] : List Value).toArray below meth c H locs 0 0 (MQ below (zWv D (dW cI ad) (dA ad) (fun T => T = ccAll x0 x1 x2 x3 S ∧ CI T)) ([.ref (ad 5), .ref (ad 4), .int (zi x0), .int (zi x1), .int (zi x2), .int (zi x3)] : List Value).toArray s 0 0 (dA ad)) (F0 m 32 ls []) := by
    intro k
    induction k with
    | zero => intro n i T h_n h_i h_R h_d h_c hk hIT; exact absurd hk (by omega)
    | succ k ih_32 =>
      intro n i T h_n h_i h_R h_d h_c hk hIT H locs hP hS ls hl
      refine lv_iload hx hb dX4_countCourse_32 (lv_at hl 8 rfl) ?_
      refine lv_aload_n hx hb dX4_countCourse_34 rfl (lv_at hl 1 rfl) ?_
      refine lv_iload_n hx hb dX4_countCourse_35 rfl (lv_at hl 2 rfl) ?_
      refine zk_r (zc_V (As := [.int (zi x0)]) (rest := [.int (zi i)]) ⟨hx, hb, hml, hown, hts⟩ (ct_X3_widthOf l D cI cZ cJ ad T hIT x0 ⟨by omega, by omega⟩) (cwV 1 hts gX4_countCourse_X3_widthOf rfl rfl rfl (by decide +kernel) ⟨Nat.le_of_ble_eq_true rfl, Nat.le_of_ble_eq_true rfl⟩) hK hP (q0 := 4) (ci := 3) rfl rfl rfl rfl hl.1 rfl (Nat.le_of_ble_eq_true rfl) dX4_countCourse_36 ⟨Nat.zero_le _, Nat.zero_le _⟩) ?_
      refine zi_top (fun (r_36 : Int) (er_36 : r_36 = rAt 405 (T 14) x0) => ?_)
      have fr_36 : (0 : Int) ≤ r_36 ∧ r_36 ≤ 3600 := by rw [er_36]; exact CI.at hIT 14 405 x0 ⟨by decide, by decide⟩
      refine zi_icmp_ge (tgt := 111) hx hb ⟨by omega, by omega⟩ ⟨by omega, by omega⟩ dX4_countCourse_39 (by decide) (fun c_39 => ?_) (fun c_39 => ?_)
      · rw [er_36, h_d] at c_39
        obtain rfl : n = 0 := by omega
        exact zr_wv (T := T) hx hb hr hlocks dX4_countCourse_111 hP hS (by exact ⟨h_R, hIT⟩)
      · rw [er_36, h_d] at c_39
        obtain ⟨n, rfl⟩ : ∃ n9 : Nat, n = n9 + 1 := ⟨n - 1, by omega⟩
        refine lv_iload hx hb dX4_countCourse_42 (lv_at hl 7 rfl) ?_
        refine lv_iload hx hb dX4_countCourse_44 (lv_at hl 8 rfl) ?_
        refine zi_iadd hx hb dX4_countCourse_46 ?_
        refine zi_sipush hx hb dX4_countCourse_47 (by decide) ?_
        refine zk_r (zc_S (As := [.int (zi (x8_27 + i)), .int (zi 3600)]) (rest := []) ⟨hx, hb, hml, hown, hts⟩ (ct_J9_floorMod_7cf53 l D cI cZ cJ (x8_27 + i) 3600 ⟨by omega, by omega⟩ ⟨by decide, by decide⟩ (by omega)) (va_cwS 2 hts gX4_countCourse_J9_floorMod_7cf53 rfl rfl rfl (by decide +kernel) ⟨Nat.le_of_ble_eq_true rfl, Nat.le_of_ble_eq_true rfl⟩) hK va_P_nil rfl hl.1 rfl (Nat.le_of_ble_eq_true rfl) dX4_countCourse_50 ⟨Nat.zero_le _, Nat.zero_le _⟩) ?_
        refine zi_top (fun (r_50 : Int) (er_50 : r_50 = (x8_27 + i) % 3600) => ?_)
        have fr_50 : (0 : Int) ≤ r_50 := by rw [er_50]; exact Int.emod_nonneg _ (by omega)
        have fr_501 : r_50 < 3600 := by rw [er_50]; exact Int.emod_lt_of_pos _ (by omega)
        refine lv_istore (lv' := [(10, .int (zi r_50)), (0, .ref (ad 5)), (1, .ref (ad 4)), (2, .int (zi x0)), (3, .int (zi x1)), (4, .int (zi x2)), (5, .int (zi x3)), (6, .long r_10), (8, .int (zi x8_27)), (9, .int (zi i))]) hx hb dX4_countCourse_53 hl (by decide) rfl (fun ls hl => ?_)
        refine lv_aload_n hx hb dX4_countCourse_55 rfl (lv_at hl 1 rfl) ?_
        refine va_get (D := D) (ci := 4) (v := .ref (ad 25)) (C := RX4) (T := TX4) (N := 5) hx hb hts in_X4_countCourse_4 hown hK.1 hP 5 rfl rfl 2 (by decide) (hts _ lk_X4_countCourse_23) (fun _ h9 => h9) rfl dX4_countCourse_56 ?_
        refine lv_iload hx hb dX4_countCourse_59 (lv_at hl 0 rfl) ?_
        refine zk_r (zc_V (As := [.int (zi r_50)]) (rest := []) ⟨hx, hb, hml, hown, hts⟩ (ct_X5_at l D cI cZ cJ (dW cI ad T) (ad 25) (ad 45) 25 45 3600 (T 18) r_50 rfl rfl (by decide) ⟨by omega, by omega⟩) (cwV 1 hts gX4_countCourse_X5_at rfl rfl rfl (by decide +kernel) ⟨Nat.le_of_ble_eq_true rfl, Nat.le_of_ble_eq_true rfl⟩) hK hP (q0 := 25) (ci := 5) rfl rfl rfl rfl hl.1 rfl (Nat.le_of_ble_eq_true rfl) dX4_countCourse_61 ⟨Nat.zero_le _, Nat.zero_le _⟩) ?_
        refine zi_top (fun (r_61 : Int) (er_61 : r_61 = rAt 3600 (T 18) r_50) => ?_)
        have fr_61 : (-1 : Int) ≤ r_61 ∧ r_61 ≤ 3599 := by rw [er_61]; exact CI.at hIT 18 3600 r_50 ⟨by decide, by decide⟩
        refine lv_iload_n hx hb dX4_countCourse_64 rfl (lv_at hl 4 rfl) ?_
        refine zi_icmp_eq (tgt := 105) hx hb ⟨by omega, by omega⟩ ⟨by omega, by omega⟩ dX4_countCourse_65 (by decide) (fun c_65 => ?_) (fun c_65 => ?_)
        · refine zi_iinc (k := 9) (lv' := [(9, .int (zi (i + 1))), (10, .int (zi r_50)), (0, .ref (ad 5)), (1, .ref (ad 4)), (2, .int (zi x0)), (3, .int (zi x1)), (4, .int (zi x2)), (5, .int (zi x3)), (6, .long r_10), (8, .int (zi x8_27))]) hx hb dX4_countCourse_105 hl rfl (by decide) rfl (fun ls hl => ?_)
          refine lv_goto (tgt := 32) hx hb dX4_countCourse_108 (by decide) ?_
          exact ih_32 n (i + 1) T (by first | omega | assumption) (by first | omega | assumption) (by rw [← h_R, itr_s]; congr 1; exact (if_pos (show rAt 3600 (T 18) ((x8_27 + i) % 3600) = x1 by rw [← er_50, ← er_61]; exact c_65)).symm) h_d ⟨by omega, by omega⟩ (by omega) hIT _ _ hP hS _ (lv_sub hl [2, 3, 4, 5, 6, 7, 8, 9, 0] rfl)
        · refine lv_aload_n hx hb dX4_countCourse_68 rfl (lv_at hl 1 rfl) ?_
          refine va_get (D := D) (ci := 4) (v := .ref (ad 25)) (C := RX4) (T := TX4) (N := 5) hx hb hts in_X4_countCourse_4 hown hK.1 hP 5 rfl rfl 2 (by decide) (hts _ lk_X4_countCourse_23) (fun _ h9 => h9) rfl dX4_countCourse_69 ?_
          refine lv_iload hx hb dX4_countCourse_72 (lv_at hl 0 rfl) ?_
          refine lv_iload_n hx hb dX4_countCourse_74 rfl (lv_at hl 4 rfl) ?_
          refine va_callv (zc_V (As := [.int (zi r_50), .int (zi x1)]) (rest := []) ⟨hx, hb, hml, hown, hts⟩ (ct_X5_put l D cI cZ cJ (dW cI ad T) (dA ad) (ad 25) (ad 45) 25 45 3600 (T 18) r_50 x1 rfl (Nat.le_of_ble_eq_true rfl) (by decide) (fun g9 => dW_D hdis (su T 18 g9)) (by decide) ⟨by omega, by omega⟩) (cwV 2 hts gX4_countCourse_X5_put rfl rfl rfl (by decide +kernel) ⟨Nat.le_of_ble_eq_true rfl, Nat.le_of_ble_eq_true rfl⟩) hK hP (q0 := 25) (ci := 5) rfl rfl rfl rfl hl.1 rfl (Nat.le_of_ble_eq_true rfl) dX4_countCourse_75 ⟨Nat.zero_le _, Nat.zero_le _⟩) hS (fun _ _ h => h) (fun _ h => h) (fun u t H locs ht _ hu hQ _ _ hS => ?_)
          have hP : va_P D vwCl (dW cI ad (su T 18 (rPut 3600 (T 18) r_50 x1))) H := by rw [hu] at hQ; rw [← ht]; exact hQ
          have hI_75 : CI (su T 18 (rPut 3600 (T 18) r_50 x1)) := CI.rput hIT 18 3600 r_50 x1 (show (-1 : Int) ≤ x1 ∧ x1 ≤ 3599 from ⟨by omega, by omega⟩)
          generalize eS_75 : (su T 18 (rPut 3600 (T 18) r_50 x1)) = S_75 at hP hI_75
          refine lv_aload_n hx hb dX4_countCourse_78 rfl (lv_at hl 1 rfl) ?_
          refine lv_dup hx hb dX4_countCourse_79 rfl ?_
          refine va_get (D := D) (ci := 4) (v := .int (zi (S_75 27 0))) (C := RX4) (T := TX4) (N := 5) hx hb hts in_X4_countCourse_4 hown hK.1 hP 5 rfl rfl 3 (by decide) (hts _ lk_X4_countCourse_26) (fun _ h9 => h9) rfl dX4_countCourse_80 ?_
          refine zi_is (T 27 0) (by rw [← eS_75] <;> rfl) ?_
          have f_80 : (0 : Int) ≤ T 27 0 ∧ T 27 0 ≤ 27702000 := hIT 27 0
          refine zi_iconst hx hb dX4_countCourse_83 ?_
          refine zi_iadd hx hb dX4_countCourse_84 ?_
          refine va_put (D := D) (ci := 4) (v := .int (zi ((T 27 0) + 1))) (ty := .int) (C := RX4) (T := TX4) (N := 5) hx hb hts in_X4_countCourse_4 tyX4 tyX4_ok nmX4 hown hK.1 hP (dW_D hdis _) hS 5 rfl rfl 3 (by decide) (hts _ lk_X4_countCourse_26) (fun _ h9 => h9) rfl (by decide +kernel) rfl rfl (Nat.le_of_ble_eq_true rfl) dX4_countCourse_85 (fun H locs hP _ hS => ?_)
          have hP : va_P D vwCl (dW cI ad (su S_75 27 (fun _ => (T 27 0) + 1))) H := hP
          have hI_85 : CI (su S_75 27 (fun _ => (T 27 0) + 1)) := CI.upc hI_75 27 ((T 27 0) + 1) (show (0 : Int) ≤ ((T 27 0) + 1) ∧ ((T 27 0) + 1) ≤ 27702000 from ⟨by omega, by omega⟩)
          generalize eS_85 : su S_75 27 (fun _ => (T 27 0) + 1) = S_85 at hP hI_85
          refine lv_aload_n hx hb dX4_countCourse_88 rfl (lv_at hl 1 rfl) ?_
          refine lv_dup hx hb dX4_countCourse_89 rfl ?_
          refine va_get (D := D) (ci := 4) (v := .int (zi (S_85 28 0))) (C := RX4) (T := TX4) (N := 5) hx hb hts in_X4_countCourse_4 hown hK.1 hP 5 rfl rfl 4 (by decide) (hts _ lk_X4_countCourse_30) (fun _ h9 => h9) rfl dX4_countCourse_90 ?_
          refine zi_is (T 28 0) (by rw [← eS_85, ← eS_75] <;> rfl) ?_
          have f_90 : (0 : Int) ≤ T 28 0 ∧ T 28 0 ≤ 27702000 := hIT 28 0
          refine lv_lload hx hb dX4_countCourse_93 (lv_at hl 7 rfl) ?_
          refine lv_iload hx hb dX4_countCourse_95 (lv_at hl 9 rfl) ?_
          refine lv_lshr (v := (r_10 >>> ((zi i).toInt64 &&& 63))) hx hb dX4_countCourse_97 rfl ?_
          refine lv_lconst (v := 1) hx hb dX4_countCourse_98 (by decide) ?_
          refine lv_land hx hb dX4_countCourse_99 ?_
          refine lv_l2i (v := zi (((r_10 >>> ((zi i).toInt64 &&& 63)) &&& (1 : Int64)).toInt32.toInt)) hx hb dX4_countCourse_100 (zi_of _) ?_
          refine zi_iadd hx hb dX4_countCourse_101 ?_
          have q_b := and1_b (r_10 >>> ((zi i).toInt64 &&& 63))
          refine va_put (D := D) (ci := 4) (v := .int (zi ((T 28 0) + (((r_10 >>> ((zi i).toInt64 &&& 63)) &&& (1 : Int64)).toInt32.toInt)))) (ty := .int) (C := RX4) (T := TX4) (N := 5) hx hb hts in_X4_countCourse_4 tyX4 tyX4_ok nmX4 hown hK.1 hP (dW_D hdis _) hS 5 rfl rfl 4 (by decide) (hts _ lk_X4_countCourse_30) (fun _ h9 => h9) rfl (by decide +kernel) rfl rfl (Nat.le_of_ble_eq_true rfl) dX4_countCourse_102 (fun H locs hP _ hS => ?_)
          have hP : va_P D vwCl (dW cI ad (su S_85 28 (fun _ => (T 28 0) + (((r_10 >>> ((zi i).toInt64 &&& 63)) &&& (1 : Int64)).toInt32.toInt)))) H := hP
          have hI_102 : CI (su S_85 28 (fun _ => (T 28 0) + (((r_10 >>> ((zi i).toInt64 &&& 63)) &&& (1 : Int64)).toInt32.toInt))) := CI.upc hI_85 28 ((T 28 0) + (((r_10 >>> ((zi i).toInt64 &&& 63)) &&& (1 : Int64)).toInt32.toInt)) (show (0 : Int) ≤ ((T 28 0) + (((r_10 >>> ((zi i).toInt64 &&& 63)) &&& (1 : Int64)).toInt32.toInt)) ∧ ((T 28 0) + (((r_10 >>> ((zi i).toInt64 &&& 63)) &&& (1 : Int64)).toInt32.toInt)) ≤ 27702000 from ⟨by omega, by omega⟩)
          generalize eS_102 : su S_85 28 (fun _ => (T 28 0) + (((r_10 >>> ((zi i).toInt64 &&& 63)) &&& (1 : Int64)).toInt32.toInt)) = S_102 at hP hI_102
          refine zi_iinc (k := 9) (lv' := [(9, .int (zi (i + 1))), (10, .int (zi r_50)), (0, .ref (ad 5)), (1, .ref (ad 4)), (2, .int (zi x0)), (3, .int (zi x1)), (4, .int (zi x2)), (5, .int (zi x3)), (6, .long r_10), (8, .int (zi x8_27))]) hx hb dX4_countCourse_105 hl rfl (by decide) rfl (fun ls hl => ?_)
          refine lv_goto (tgt := 32) hx hb dX4_countCourse_108 (by decide) ?_
          exact ih_32 n (i + 1) S_102 (by first | omega | assumption) (by first | omega | assumption) (by rw [← h_R, itr_s]; congr 1; refine Eq.trans ?_ (if_neg (show ¬ rAt 3600 (T 18) ((x8_27 + i) % 3600) = x1 by rw [← er_50, ← er_61]; exact c_65)).symm; rw [← eS_102, ← eS_85, ← eS_75, er_50]; rfl) (by rw [← eS_102, ← eS_85, ← eS_75]; exact h_d) (by rw [← eS_102, ← eS_85, ← eS_75]; exact ⟨by show T 27 0 + 1 ≤ _; omega, by show T 28 0 + nbit r_10 i ≤ _; have := nbit_b r_10 i; omega⟩) (by omega) hI_102 _ _ hP hS _ (lv_sub hl [2, 3, 4, 5, 6, 7, 8, 9, 0] rfl)
  refine lv_istore (lv' := [(9, .int (zi 0)), (8, .int (zi x8_27)), (6, .long r_10), (0, .ref (ad 5)), (1, .ref (ad 4)), (2, .int (zi x0)), (3, .int (zi x1)), (4, .int (zi x2)), (5, .int (zi x3))]) hx hb dX4_countCourse_30 hl (by decide) rfl (fun ls hl => ?_)
  exact K_32 ((rAt 405 (S 14) x0).toNat + 1) ((rAt 405 (S 14) x0).toNat) 0 S (by first | omega | assumption) (by first | omega | assumption) (by rw [ccAll, er_10, er_3, ex8_27, er_17, er_23]) rfl ⟨by omega, by omega⟩ (by omega) hI _ _ hP hS _ (lv_sub hl [3, 4, 5, 6, 7, 8, 2, 1, 0] rfl)

theorem lk_X4_countPaths_26 : Cond.fieldLink RX4 26 "PlanetoidDesk$Paths" "all" "I" ∈ wsX4_countPaths := by decide +kernel
theorem in_X4_countPaths_4 : ∀ w ∈ wsX40, w ∈ wsX4_countPaths := by decide +kernel
theorem lk_X4_countPaths_30 : Cond.fieldLink RX4 30 "PlanetoidDesk$Paths" "near" "I" ∈ wsX4_countPaths := by decide +kernel
theorem lk_X4_countPaths_23 : Cond.fieldLink RX4 23 "PlanetoidDesk$Paths" "lastGroupAt" "LPlanetoidDesk$Row;" ∈ wsX4_countPaths := by decide +kernel
theorem lk_X4_countPaths_14 : Cond.fieldLink RX4 14 "PlanetoidDesk$Paths" "groupHeads" "LPlanetoidDesk$Row;" ∈ wsX4_countPaths := by decide +kernel
theorem lk_X4_countPaths_20 : Cond.fieldLink RX4 20 "PlanetoidDesk$Paths" "nextInGroup" "LPlanetoidDesk$Row;" ∈ wsX4_countPaths := by decide +kernel
abbrev rmct_X4_countPaths : Room := { frames := 4, cells := 0, slots := 0, locals := 99 }
set_option maxHeartbeats 4000000 in
set_option maxRecDepth 100000 in
theorem ct_X4_countPaths (l : Launch) (D : va_G) (cI cZ cJ : ClassId) (ad : Nat → Nat) (S : ZS) (hI : CI S) (hdis : dDis ad) (x0 x1 : Int) (hx0 : ir x0) (hx1 : ir x1) (hp00 : 0 ≤ x0) (hp01 : x0 ≤ 999) (hp10 : 1 ≤ x1) (hp11 : x1 ≤ 60) (hs : x0 + x1 ≤ 1000) (hw : ∀ k, rAt 405 (S 14) k ≤ 19) : Met l yX4_countPaths wsX4_countPaths rmct_X4_countPaths (zP D cI cZ cJ (dW cI ad S) [.ref (ad 5), .ref (ad 4), .int (zi x0), .int (zi x1)]) (zWv D (dW cI ad) (dA ad) (fun T => T = cpAll x0 x1 S ∧ CI T)) 0 0 (dA ad) := by
  refine Met.ofW (cc := cX4_countPaths) (maxL := 7) (ret := none) (by decide) rfl ?_
  intro p e s m args below meth c s₁ B hml hv
  obtain ⟨rfl, hP, hK⟩ := hv
  have hx := B.exec
  have hb := B.bytes
  have hr := B.returns
  have hts := atoms_spec (ws := wsX4_countPaths) B.pre
  have hown : s.vm.findClass RX4 = some m.cls := findClass_of_methodNamed B.named
  have hlocks := B.notSynchronized
  have hl := lv_entry ([.ref (ad 5), .ref (ad 4), .int (zi x0), .int (zi x1)]) (n := 7) (Nat.le_of_ble_eq_true rfl)
  rw [lg_entry_eq]
  generalize (lg_sl ([.ref (ad 5), .ref (ad 4), .int (zi x0), .int (zi x1)]) ++ List.replicate (7 - (lg_sl ([.ref (ad 5), .ref (ad 4), .int (zi x0), .int (zi x1)])).length) Slot.unset).toArray = ls at hl ⊢
  have hl : lv_has ls 7 [(0, .ref (ad 5)), (1, .ref (ad 4)), (2, .int (zi x0)), (3, .int (zi x1))] := hl
  have hS : va_S (dA ad) s.heap s.heap [] := va_S.rf
  show W p l e rmct_X4_countPaths s m ([.ref (ad 5), .ref (ad 4), .int (zi x0), .int (zi x1)] : List Value).toArray below meth c s.heap [] 0 0 (MQ below (zWv D (dW cI ad) (dA ad) (fun T => T = cpAll x0 x1 S ∧ CI T)) ([.ref (ad 5), .ref (ad 4), .int (zi x0), .int (zi x1)] : List Value).toArray s 0 0 (dA ad)) (F0 m 0 ls [])
  refine lv_aload_n hx hb dX4_countPaths_0 rfl (lv_at hl 0 rfl) ?_
  refine zi_iconst hx hb dX4_countPaths_1 ?_
  refine va_put (D := D) (ci := 4) (v := .int (zi 0)) (ty := .int) (C := RX4) (T := TX4) (N := 5) hx hb hts in_X4_countPaths_4 tyX4 tyX4_ok nmX4 hown hK.1 hP (dW_D hdis _) hS 5 rfl rfl 3 (by decide) (hts _ lk_X4_countPaths_26) (fun _ h9 => h9) rfl (by decide +kernel) rfl rfl (Nat.le_of_ble_eq_true rfl) dX4_countPaths_2 (fun H locs hP _ hS => ?_)
  have hP : va_P D vwCl (dW cI ad (su S 27 (fun _ => 0))) H := hP
  have hI_2 : CI (su S 27 (fun _ => 0)) := CI.upc hI 27 0 (show (0 : Int) ≤ 0 ∧ 0 ≤ 27702000 from ⟨by omega, by omega⟩)
  generalize eS_2 : su S 27 (fun _ => 0) = S_2 at hP hI_2
  refine lv_aload_n hx hb dX4_countPaths_5 rfl (lv_at hl 0 rfl) ?_
  refine zi_iconst hx hb dX4_countPaths_6 ?_
  refine va_put (D := D) (ci := 4) (v := .int (zi 0)) (ty := .int) (C := RX4) (T := TX4) (N := 5) hx hb hts in_X4_countPaths_4 tyX4 tyX4_ok nmX4 hown hK.1 hP (dW_D hdis _) hS 5 rfl rfl 4 (by decide) (hts _ lk_X4_countPaths_30) (fun _ h9 => h9) rfl (by decide +kernel) rfl rfl (Nat.le_of_ble_eq_true rfl) dX4_countPaths_7 (fun H locs hP _ hS => ?_)
  have hP : va_P D vwCl (dW cI ad (su S_2 28 (fun _ => 0))) H := hP
  have hI_7 : CI (su S_2 28 (fun _ => 0)) := CI.upc hI_2 28 0 (show (0 : Int) ≤ 0 ∧ 0 ≤ 27702000 from ⟨by omega, by omega⟩)
  generalize eS_7 : su S_2 28 (fun _ => 0) = S_7 at hP hI_7
  refine lv_aload_n hx hb dX4_countPaths_10 rfl (lv_at hl 0 rfl) ?_
  refine va_get (D := D) (ci := 4) (v := .ref (ad 25)) (C := RX4) (T := TX4) (N := 5) hx hb hts in_X4_countPaths_4 hown hK.1 hP 5 rfl rfl 2 (by decide) (hts _ lk_X4_countPaths_23) (fun _ h9 => h9) rfl dX4_countPaths_11 ?_
  refine zi_iconst hx hb dX4_countPaths_14 ?_
  refine va_callv (zc_V (As := [.int (zi (-1))]) (rest := []) ⟨hx, hb, hml, hown, hts⟩ (ct_X5_fill l D cI cZ cJ (dW cI ad S_7) (dA ad) (ad 25) (ad 45) 25 45 3600 (S_7 18) (-1) rfl (Nat.le_of_ble_eq_true rfl) (by decide) (fun g9 => dW_D hdis (su S_7 18 g9)) (by decide)) (cwV 1 hts gX4_countPaths_X5_fill rfl rfl rfl (by decide +kernel) ⟨Nat.le_of_ble_eq_true rfl, Nat.le_of_ble_eq_true rfl⟩) hK hP (q0 := 25) (ci := 5) rfl rfl rfl rfl hl.1 rfl (Nat.le_of_ble_eq_true rfl) dX4_countPaths_15 ⟨Nat.zero_le _, Nat.zero_le _⟩) hS (fun _ _ h => h) (fun _ h => h) (fun u t H locs ht _ hu hQ _ _ hS => ?_)
  have hP : va_P D vwCl (dW cI ad (su S_7 18 (rFill 3600 (S_7 18) (-1)))) H := by rw [hu] at hQ; rw [← ht]; exact hQ
  have hI_15 : CI (su S_7 18 (rFill 3600 (S_7 18) (-1))) := CI.rfill hI_7 18 3600 (-1) (show (-1 : Int) ≤ (-1) ∧ (-1) ≤ 3599 from ⟨by omega, by omega⟩)
  generalize eS_15 : (su S_7 18 (rFill 3600 (S_7 18) (-1))) = S_15 at hP hI_15
  refine lv_aload_n hx hb dX4_countPaths_18 rfl (lv_at hl 0 rfl) ?_
  refine lv_iload_n hx hb dX4_countPaths_19 rfl (lv_at hl 2 rfl) ?_
  refine lv_iload_n hx hb dX4_countPaths_20 rfl (lv_at hl 3 rfl) ?_
  refine zk_wv (zc_V (As := [.int (zi x0), .int (zi x1)]) (rest := []) ⟨hx, hb, hml, hown, hts⟩ (ct_X4_makeGroups l D cI cZ cJ ad S_15 hI_15 hdis x0 x1 ⟨by omega, by omega⟩ ⟨by omega, by omega⟩ (by omega) (by omega) (by omega) (by omega) (by omega)) (cwV 2 hts gX4_countPaths_X4_makeGroups rfl rfl rfl (by decide +kernel) ⟨Nat.le_of_ble_eq_true rfl, Nat.le_of_ble_eq_true rfl⟩) hK hP (q0 := 5) (ci := 4) rfl rfl rfl rfl hl.1 rfl (Nat.le_of_ble_eq_true rfl) dX4_countPaths_21 ⟨Nat.zero_le _, Nat.zero_le _⟩) hS (fun S_21 H locs hp_21 hP hS => ?_)
  obtain ⟨e9, hI_21⟩ := hp_21
  have eS_21 := e9.symm; clear e9
  refine zi_iconst hx hb dX4_countPaths_24 ?_
  have K_27 : ∀ (k : Nat) (n : Nat) (i : Int) (T : ZS), (i + (n : Int) = 3600) → (0 ≤ i) → (itr (cpOut x0 x1) n i T = cpAll x0 x1 S) → (T 14 = S 14) → (T 27 0 ≤ 7695 * i ∧ T 28 0 ≤ 7695 * i) → ((n : Int) < (k : Int)) → CI T → ∀ (H : Heap) (locs : List Loc), va_P D vwCl (dW cI ad T) H → va_S (dA ad) s.heap H locs → ∀ (ls : Array Slot), lv_has ls 7 [(0, .ref (ad 5)), (1, .ref (ad 4)), (2, .int (zi x0)), (3, .int (zi x1)), (4, .int (zi i))] → W p l e rmct_X4_countPaths s m ([.ref (ad 5), .ref (ad 4), .int (zi x0), .int (zi x1)] : List Value).toArray below meth c H locs 0 0 (MQ below (zWv D (dW cI ad) (dA ad) (fun T => T = cpAll x0 x1 S ∧ CI T)) ([.ref (ad 5), .ref (ad 4), .int (zi x0), .int (zi x1)] : List Value).toArray s 0 0 (dA ad)) (F0 m 27 ls []) := by
    intro k
    induction k with
    | zero => intro n i T h_n h_i h_R h_d h_c hk hIT; exact absurd hk (by omega)
    | succ k ih_27 =>
      intro n i T h_n h_i h_R h_d h_c hk hIT H locs hP hS ls hl
      refine lv_iload hx hb dX4_countPaths_27 (lv_at hl 4 rfl) ?_
      refine zi_sipush hx hb dX4_countPaths_29 (by decide) ?_
      refine zi_icmp_ge (tgt := 106) hx hb ⟨by omega, by omega⟩ ⟨by decide, by decide⟩ dX4_countPaths_32 (by decide) (fun c_32 => ?_) (fun c_32 => ?_)
      · obtain rfl : n = 0 := by omega
        exact zr_wv (T := T) hx hb hr hlocks dX4_countPaths_106 hP hS (by exact ⟨h_R, hIT⟩)
      · obtain ⟨n, rfl⟩ : ∃ n9 : Nat, n = n9 + 1 := ⟨n - 1, by omega⟩
        refine lv_aload_n hx hb dX4_countPaths_35 rfl (lv_at hl 0 rfl) ?_
        refine va_get (D := D) (ci := 4) (v := .ref (ad 23)) (C := RX4) (T := TX4) (N := 5) hx hb hts in_X4_countPaths_4 hown hK.1 hP 5 rfl rfl 0 (by decide) (hts _ lk_X4_countPaths_14) (fun _ h9 => h9) rfl dX4_countPaths_36 ?_
        refine lv_iload hx hb dX4_countPaths_39 (lv_at hl 4 rfl) ?_
        refine zk_r (zc_V (As := [.int (zi i)]) (rest := []) ⟨hx, hb, hml, hown, hts⟩ (ct_X5_at l D cI cZ cJ (dW cI ad T) (ad 23) (ad 43) 23 43 3600 (T 16) i rfl rfl (by decide) ⟨by omega, by omega⟩) (cwV 1 hts gX4_countPaths_X5_at rfl rfl rfl (by decide +kernel) ⟨Nat.le_of_ble_eq_true rfl, Nat.le_of_ble_eq_true rfl⟩) hK hP (q0 := 23) (ci := 5) rfl rfl rfl rfl hl.1 rfl (Nat.le_of_ble_eq_true rfl) dX4_countPaths_41 ⟨Nat.zero_le _, Nat.zero_le _⟩) ?_
        refine zi_top (fun (r_41 : Int) (er_41 : r_41 = rAt 3600 (T 16) i) => ?_)
        have fr_41 : (-1 : Int) ≤ r_41 ∧ r_41 ≤ 404 := by rw [er_41]; exact CI.at hIT 16 3600 i ⟨by decide, by decide⟩
        refine lv_istore (lv' := [(5, .int (zi r_41)), (0, .ref (ad 5)), (1, .ref (ad 4)), (2, .int (zi x0)), (3, .int (zi x1)), (4, .int (zi i))]) hx hb dX4_countPaths_44 hl (by decide) rfl (fun ls hl => ?_)
        refine zi_iconst hx hb dX4_countPaths_46 ?_
        have K_49 : ∀ (k : Nat) (m9 : Nat) (co st : Int) (T2 : ZS), (st + (m9 : Int) = 405) → (0 ≤ st) → (-1 ≤ co ∧ co ≤ 404) → (cpIn x0 x1 i m9 co T2 = cpOut x0 x1 i T) → (T2 14 = S 14) → (T2 27 0 ≤ 7695 * i + 19 * st ∧ T2 28 0 ≤ 7695 * i + 19 * st) → ((m9 : Int) < (k : Int)) → CI T2 → ∀ (H : Heap) (locs : List Loc), va_P D vwCl (dW cI ad T2) H → va_S (dA ad) s.heap H locs → ∀ (ls : Array Slot), lv_has ls 7 [(0, .ref (ad 5)), (1, .ref (ad 4)), (2, .int (zi x0)), (3, .int (zi x1)), (4, .int (zi i)), (5, .int (zi co)), (6, .int (zi st))] → W p l e rmct_X4_countPaths s m ([.ref (ad 5), .ref (ad 4), .int (zi x0), .int (zi x1)] : List Value).toArray below meth c H locs 0 0 (MQ below (zWv D (dW cI ad) (dA ad) (fun T => T = cpAll x0 x1 S ∧ CI T)) ([.ref (ad 5), .ref (ad 4), .int (zi x0), .int (zi x1)] : List Value).toArray s 0 0 (dA ad)) (F0 m 49 ls []) := by
          intro k
          induction k with
          | zero => intro m9 co st T2 g_n g_i g_b g_R g_d g_c hk hIT2; exact absurd hk (by omega)
          | succ k ih_49 =>
            intro m9 co st T2 g_n g_i g_b g_R g_d g_c hk hIT2 H locs hP hS ls hl
            refine lv_iload hx hb dX4_countPaths_49 (lv_at hl 6 rfl) ?_
            refine zi_sipush hx hb dX4_countPaths_51 (by decide) ?_
            refine zi_icmp_ge (tgt := 100) hx hb ⟨by omega, by omega⟩ ⟨by decide, by decide⟩ dX4_countPaths_54 (by decide) (fun c_54 => ?_) (fun c_54 => ?_)
            · obtain rfl : m9 = 0 := by omega
              have h_R2 : T2 = cpOut x0 x1 i T := g_R
              refine zi_iinc (k := 4) (lv' := [(4, .int (zi (i + 1))), (0, .ref (ad 5)), (1, .ref (ad 4)), (2, .int (zi x0)), (3, .int (zi x1)), (5, .int (zi co)), (6, .int (zi st))]) hx hb dX4_countPaths_100 hl rfl (by decide) rfl (fun ls hl => ?_)
              refine lv_goto (tgt := 27) hx hb dX4_countPaths_103 (by decide) ?_
              exact ih_27 n (i + 1) T2 (by first | omega | assumption) (by first | omega | assumption) (by rw [← h_R, itr_s, ← h_R2]) g_d ⟨by omega, by omega⟩ (by omega) hIT2 _ _ hP hS _ (lv_sub hl [1, 2, 3, 4, 0] rfl)
            · obtain ⟨m9, rfl⟩ : ∃ n9 : Nat, m9 = n9 + 1 := ⟨m9 - 1, by omega⟩
              refine lv_iload hx hb dX4_countPaths_57 (lv_at hl 5 rfl) ?_
              refine zi_iconst hx hb dX4_countPaths_59 ?_
              refine zi_icmp_eq (tgt := 100) hx hb ⟨by omega, by omega⟩ ⟨by decide, by decide⟩ dX4_countPaths_60 (by decide) (fun c_60 => ?_) (fun c_60 => ?_)
              · have h_R2 : T2 = cpOut x0 x1 i T := by rw [← g_R]; exact (if_pos c_60).symm
                refine zi_iinc (k := 4) (lv' := [(4, .int (zi (i + 1))), (0, .ref (ad 5)), (1, .ref (ad 4)), (2, .int (zi x0)), (3, .int (zi x1)), (5, .int (zi co)), (6, .int (zi st))]) hx hb dX4_countPaths_100 hl rfl (by decide) rfl (fun ls hl => ?_)
                refine lv_goto (tgt := 27) hx hb dX4_countPaths_103 (by decide) ?_
                exact ih_27 n (i + 1) T2 (by first | omega | assumption) (by first | omega | assumption) (by rw [← h_R, itr_s, ← h_R2]) g_d ⟨by omega, by omega⟩ (by omega) hIT2 _ _ hP hS _ (lv_sub hl [1, 2, 3, 4, 0] rfl)
              · have hw9 : (0 : Int) ≤ rAt 405 (T2 14) co ∧ rAt 405 (T2 14) co ≤ 19 := ⟨(CI.at hIT2 14 405 co ⟨by decide, by decide⟩).1, by rw [g_d]; exact hw co⟩
                refine lv_aload_n hx hb dX4_countPaths_63 rfl (lv_at hl 1 rfl) ?_
                refine lv_iload hx hb dX4_countPaths_64 (lv_at hl 5 rfl) ?_
                refine zk_r (zc_V (As := [.int (zi co)]) (rest := []) ⟨hx, hb, hml, hown, hts⟩ (ct_X3_widthOf l D cI cZ cJ ad T2 hIT2 co ⟨by omega, by omega⟩) (cwV 1 hts gX4_countPaths_X3_widthOf rfl rfl rfl (by decide +kernel) ⟨Nat.le_of_ble_eq_true rfl, Nat.le_of_ble_eq_true rfl⟩) hK hP (q0 := 4) (ci := 3) rfl rfl rfl rfl hl.1 rfl (Nat.le_of_ble_eq_true rfl) dX4_countPaths_66 ⟨Nat.zero_le _, Nat.zero_le _⟩) ?_
                refine zi_top (fun (r_66 : Int) (er_66 : r_66 = rAt 405 (T2 14) co) => ?_)
                have fr_66 : (0 : Int) ≤ r_66 ∧ r_66 ≤ 3600 := by rw [er_66]; exact CI.at hIT2 14 405 co ⟨by decide, by decide⟩
                refine zi_if_le (tgt := 83) hx hb ⟨by omega, by omega⟩ dX4_countPaths_69 (by decide) (fun c_69 => ?_) (fun c_69 => ?_)
                · refine lv_aload_n hx hb dX4_countPaths_83 rfl (lv_at hl 0 rfl) ?_
                  refine va_get (D := D) (ci := 4) (v := .ref (ad 24)) (C := RX4) (T := TX4) (N := 5) hx hb hts in_X4_countPaths_4 hown hK.1 hP 5 rfl rfl 1 (by decide) (hts _ lk_X4_countPaths_20) (fun _ h9 => h9) rfl dX4_countPaths_84 ?_
                  refine lv_iload hx hb dX4_countPaths_87 (lv_at hl 5 rfl) ?_
                  refine zk_r (zc_V (As := [.int (zi co)]) (rest := []) ⟨hx, hb, hml, hown, hts⟩ (ct_X5_at l D cI cZ cJ (dW cI ad T2) (ad 24) (ad 44) 24 44 405 (T2 17) co rfl rfl (by decide) ⟨by omega, by omega⟩) (cwV 1 hts gX4_countPaths_X5_at rfl rfl rfl (by decide +kernel) ⟨Nat.le_of_ble_eq_true rfl, Nat.le_of_ble_eq_true rfl⟩) hK hP (q0 := 24) (ci := 5) rfl rfl rfl rfl hl.1 rfl (Nat.le_of_ble_eq_true rfl) dX4_countPaths_89 ⟨Nat.zero_le _, Nat.zero_le _⟩) ?_
                  refine zi_top (fun (r_89 : Int) (er_89 : r_89 = rAt 405 (T2 17) co) => ?_)
                  have fr_89 : (-1 : Int) ≤ r_89 ∧ r_89 ≤ 404 := by rw [er_89]; exact CI.at hIT2 17 405 co ⟨by decide, by decide⟩
                  refine lv_istore (lv' := [(5, .int (zi r_89)), (0, .ref (ad 5)), (1, .ref (ad 4)), (2, .int (zi x0)), (3, .int (zi x1)), (4, .int (zi i)), (6, .int (zi st))]) hx hb dX4_countPaths_92 hl (by decide) rfl (fun ls hl => ?_)
                  refine zi_iinc (k := 6) (lv' := [(6, .int (zi (st + 1))), (5, .int (zi r_89)), (0, .ref (ad 5)), (1, .ref (ad 4)), (2, .int (zi x0)), (3, .int (zi x1)), (4, .int (zi i))]) hx hb dX4_countPaths_94 hl rfl (by decide) rfl (fun ls hl => ?_)
                  refine lv_goto (tgt := 49) hx hb dX4_countPaths_97 (by decide) ?_
                  exact ih_49 m9 r_89 (st + 1) T2 (by first | omega | assumption) (by first | omega | assumption) ⟨by omega, by omega⟩ (by rw [← g_R, er_89]; refine Eq.trans ?_ (if_neg c_60).symm; rw [cpOne, if_neg (by rw [← er_66]; omega)]) g_d ⟨by omega, by omega⟩ (by omega) hIT2 _ _ hP hS _ (lv_sub hl [2, 3, 4, 5, 6, 1, 0] rfl)
                · refine lv_aload_n hx hb dX4_countPaths_72 rfl (lv_at hl 0 rfl) ?_
                  refine lv_aload_n hx hb dX4_countPaths_73 rfl (lv_at hl 1 rfl) ?_
                  refine lv_iload hx hb dX4_countPaths_74 (lv_at hl 5 rfl) ?_
                  refine lv_iload hx hb dX4_countPaths_76 (lv_at hl 4 rfl) ?_
                  refine lv_iload_n hx hb dX4_countPaths_78 rfl (lv_at hl 2 rfl) ?_
                  refine lv_iload_n hx hb dX4_countPaths_79 rfl (lv_at hl 3 rfl) ?_
                  refine zk_wv (zc_V (As := [.ref (ad 4), .int (zi co), .int (zi i), .int (zi x0), .int (zi x1)]) (rest := []) ⟨hx, hb, hml, hown, hts⟩ (ct_X4_countCourse l D cI cZ cJ ad T2 hIT2 hdis co i x0 x1 ⟨by omega, by omega⟩ ⟨by omega, by omega⟩ ⟨by omega, by omega⟩ ⟨by omega, by omega⟩ (by omega) (by omega) (by omega) (by omega) (by omega) (by omega) (by omega) (by omega) (by omega) (by omega) ⟨by omega, by omega⟩) (cwV 5 hts gX4_countPaths_X4_countCourse rfl rfl rfl (by decide +kernel) ⟨Nat.le_of_ble_eq_true rfl, Nat.le_of_ble_eq_true rfl⟩) hK hP (q0 := 5) (ci := 4) rfl rfl rfl rfl hl.1 rfl (Nat.le_of_ble_eq_true rfl) dX4_countPaths_80 ⟨Nat.zero_le _, Nat.zero_le _⟩) hS (fun S_80 H locs hp_80 hP hS => ?_)
                  obtain ⟨e9, hI_80⟩ := hp_80
                  have eS_80 := e9.symm; clear e9
                  refine lv_aload_n hx hb dX4_countPaths_83 rfl (lv_at hl 0 rfl) ?_
                  refine va_get (D := D) (ci := 4) (v := .ref (ad 24)) (C := RX4) (T := TX4) (N := 5) hx hb hts in_X4_countPaths_4 hown hK.1 hP 5 rfl rfl 1 (by decide) (hts _ lk_X4_countPaths_20) (fun _ h9 => h9) rfl dX4_countPaths_84 ?_
                  refine lv_iload hx hb dX4_countPaths_87 (lv_at hl 5 rfl) ?_
                  refine zk_r (zc_V (As := [.int (zi co)]) (rest := []) ⟨hx, hb, hml, hown, hts⟩ (ct_X5_at l D cI cZ cJ (dW cI ad S_80) (ad 24) (ad 44) 24 44 405 (S_80 17) co rfl rfl (by decide) ⟨by omega, by omega⟩) (cwV 1 hts gX4_countPaths_X5_at rfl rfl rfl (by decide +kernel) ⟨Nat.le_of_ble_eq_true rfl, Nat.le_of_ble_eq_true rfl⟩) hK hP (q0 := 24) (ci := 5) rfl rfl rfl rfl hl.1 rfl (Nat.le_of_ble_eq_true rfl) dX4_countPaths_89 ⟨Nat.zero_le _, Nat.zero_le _⟩) ?_
                  refine zi_top (fun (r_89 : Int) (er_89 : r_89 = rAt 405 (S_80 17) co) => ?_)
                  have fr_89 : (-1 : Int) ≤ r_89 ∧ r_89 ≤ 404 := by rw [er_89]; exact CI.at hI_80 17 405 co ⟨by decide, by decide⟩
                  refine lv_istore (lv' := [(5, .int (zi r_89)), (0, .ref (ad 5)), (1, .ref (ad 4)), (2, .int (zi x0)), (3, .int (zi x1)), (4, .int (zi i)), (6, .int (zi st))]) hx hb dX4_countPaths_92 hl (by decide) rfl (fun ls hl => ?_)
                  refine zi_iinc (k := 6) (lv' := [(6, .int (zi (st + 1))), (5, .int (zi r_89)), (0, .ref (ad 5)), (1, .ref (ad 4)), (2, .int (zi x0)), (3, .int (zi x1)), (4, .int (zi i))]) hx hb dX4_countPaths_94 hl rfl (by decide) rfl (fun ls hl => ?_)
                  refine lv_goto (tgt := 49) hx hb dX4_countPaths_97 (by decide) ?_
                  exact ih_49 m9 r_89 (st + 1) S_80 (by first | omega | assumption) (by first | omega | assumption) ⟨by omega, by omega⟩ (have e17 : S_80 17 = T2 17 := (by rw [← eS_80, ccAll_n (by decide) (by decide) (by decide)]); by rw [← g_R, er_89, e17]; refine Eq.trans ?_ (if_neg c_60).symm; rw [cpOne, if_pos (by rw [← er_66]; omega), eS_80]) (by rw [← eS_80, ccAll_n (by decide) (by decide) (by decide)]; exact g_d) (have h9 := ccAll_c (q := co) (g := i) (f := x0) (n := x1) (T := T2); by rw [eS_80] at h9; exact ⟨by omega, by omega⟩) (by omega) hI_80 _ _ hP hS _ (lv_sub hl [2, 3, 4, 5, 6, 1, 0] rfl)
        refine lv_istore (lv' := [(6, .int (zi 0)), (5, .int (zi r_41)), (0, .ref (ad 5)), (1, .ref (ad 4)), (2, .int (zi x0)), (3, .int (zi x1)), (4, .int (zi i))]) hx hb dX4_countPaths_47 hl (by decide) rfl (fun ls hl => ?_)
        exact K_49 406 405 r_41 0 T (by first | omega | assumption) (by first | omega | assumption) ⟨by omega, by omega⟩ (by rw [cpOut, er_41]) h_d ⟨by omega, by omega⟩ (by omega) hIT _ _ hP hS _ (lv_sub hl [2, 3, 4, 5, 6, 1, 0] rfl)
  refine lv_istore (lv' := [(4, .int (zi 0)), (0, .ref (ad 5)), (1, .ref (ad 4)), (2, .int (zi x0)), (3, .int (zi x1))]) hx hb dX4_countPaths_25 hl (by decide) rfl (fun ls hl => ?_)
  exact K_27 3601 3600 0 S_21 (by first | omega | assumption) (by first | omega | assumption) (by rw [cpAll, ← eS_21, ← eS_15, ← eS_7, ← eS_2] <;> rfl) (by rw [← eS_21, mgAll_n (by decide) (by decide), ← eS_15, ← eS_7, ← eS_2] <;> rfl) (have e27 : S_21 27 0 = 0 := (by rw [← eS_21, mgAll_n (by decide) (by decide), ← eS_15, ← eS_7, ← eS_2] <;> rfl); have e28 : S_21 28 0 = 0 := (by rw [← eS_21, mgAll_n (by decide) (by decide), ← eS_15, ← eS_7, ← eS_2] <;> rfl); by omega) (by omega) hI_21 _ _ hP hS _ (lv_sub hl [1, 2, 3, 4, 0] rfl)
