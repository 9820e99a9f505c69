/-! the reference, fifth part: paths, chances -/
theorem ch_e {T : ZS} {w : Int} {m : Nat} {s : Int} : chR T w m (-1) s = s := by
  cases m with
  | zero => rfl
  | succ m => exact if_pos rfl
theorem pa_1 {T U : ZS} {i : Int} {lk : Int → Prop} (h : ∀ q : Int, lk q → 0 ≤ q ∧ q < i ∧ (T 25 q = -1 ∨ (lk (T 25 q) ∧ T 25 q < q))) (e : U 25 = T 25) : ∀ q : Int, lk q → 0 ≤ q ∧ q < i + 1 ∧ (U 25 q = -1 ∨ (lk (U 25 q) ∧ U 25 q < q)) := by
  intro q hq
  have h1 := h q hq
  rw [e]
  exact ⟨h1.1, by omega, h1.2.2⟩
theorem pa_2 {T U : ZS} {i v : Int} {lk : Int → Prop} (h : ∀ q : Int, lk q → 0 ≤ q ∧ q < i ∧ (T 25 q = -1 ∨ (lk (T 25 q) ∧ T 25 q < q))) (hv : v = -1 ∨ lk v) (e : U 25 = up (T 25) i v) (hi : 0 ≤ i := by omega) : ∀ q : Int, (lk q ∨ q = i) → 0 ≤ q ∧ q < i + 1 ∧ (U 25 q = -1 ∨ ((lk (U 25 q) ∨ U 25 q = i) ∧ U 25 q < q)) := by
  intro q hq
  rw [e]
  rcases hq with hq | hq
  · have h1 := h q hq
    rw [up_n _ _ (by omega)]
    exact ⟨h1.1, by omega, h1.2.2.imp id (fun h2 => ⟨Or.inl h2.1, h2.2⟩)⟩
  · subst hq
    rw [up_s]
    exact ⟨hi, by omega, hv.imp id (fun h2 => ⟨Or.inl h2, (h v h2).2.1⟩)⟩
theorem in_X8_paths_8 : ∀ w ∈ wsX80, w ∈ wsX8_paths := by decide +kernel
theorem lk_X8_paths_145 : Cond.fieldLink RX8 145 "PlanetoidDeskModel" "found" "I" ∈ wsX8_paths := by decide +kernel
theorem lk_X8_paths_52 : Cond.fieldLink RX8 52 "PlanetoidDeskModel" "key" "[I" ∈ wsX8_paths := by decide +kernel
theorem lk_X8_paths_58 : Cond.fieldLink RX8 58 "PlanetoidDeskModel" "head" "[I" ∈ wsX8_paths := by decide +kernel
theorem lk_X8_paths_64 : Cond.fieldLink RX8 64 "PlanetoidDeskModel" "way" "[I" ∈ wsX8_paths := by decide +kernel
theorem lk_X8_paths_67 : Cond.fieldLink RX8 67 "PlanetoidDeskModel" "comes" "[Z" ∈ wsX8_paths := by decide +kernel
theorem lk_X8_paths_61 : Cond.fieldLink RX8 61 "PlanetoidDeskModel" "next" "[I" ∈ wsX8_paths := by decide +kernel
abbrev rmct_X8_paths : Room := { frames := 3, cells := 0, slots := 0, locals := 69 }
set_option maxHeartbeats 4000000 in
set_option maxRecDepth 100000 in
theorem ct_X8_paths (l : Launch) (D : va_G) (cI cZ cJ : ClassId) (bd : Nat → Nat) (S : ZS) (hI : MI S) (hdis : mDis bd) (x0 x1 : Int) (hx0 : ir x0) (hx1 : ir x1) (hp00 : 0 ≤ x0) (hp01 : x0 ≤ 999) (hp10 : 1 ≤ x1) (hp11 : x1 ≤ 60) (hs : x0 + x1 ≤ 1000) : Met l yX8_paths wsX8_paths rmct_X8_paths (zP D cI cZ cJ (mW cI cZ bd S) [.ref (bd 0), .int (zi x0), .int (zi x1)]) (zWi D (mW cI cZ bd) (mA bd) (fun r T => ((T, r) = paM x0 x1 S ∧ 0 ≤ r ∧ r ≤ 7695) ∧ MI T)) 0 0 (mA bd) := by
  refine Met.ofW (cc := cX8_paths) (maxL := 10) (ret := (some .int)) (by decide) rfl ?_
  intro p e s m args below meth c s₁ B hml hv
  obtain ⟨rfl, hP, hK⟩ := hv
  have hx := B.exec
  have hb := B.bytes
  have hr := B.returns
  have hts := atoms_spec (ws := wsX8_paths) B.pre
  have hown : s.vm.findClass RX8 = some m.cls := findClass_of_methodNamed B.named
  have hlocks := B.notSynchronized
  have hl := lv_entry ([.ref (bd 0), .int (zi x0), .int (zi x1)]) (n := 10) (Nat.le_of_ble_eq_true rfl)
  rw [lg_entry_eq]
  generalize (lg_sl ([.ref (bd 0), .int (zi x0), .int (zi x1)]) ++ List.replicate (10 - (lg_sl ([.ref (bd 0), .int (zi x0), .int (zi x1)])).length) Slot.unset).toArray = ls at hl ⊢
  have hl : lv_has ls 10 [(0, .ref (bd 0)), (1, .int (zi x0)), (2, .int (zi x1))] := hl
  have hS : va_S (mA bd) s.heap s.heap [] := va_S.rf
  show W p l e rmct_X8_paths s m ([.ref (bd 0), .int (zi x0), .int (zi x1)] : List Value).toArray below meth c s.heap [] 0 0 (MQ below (zWi D (mW cI cZ bd) (mA bd) (fun r T => ((T, r) = paM x0 x1 S ∧ 0 ≤ r ∧ r ≤ 7695) ∧ MI T)) ([.ref (bd 0), .int (zi x0), .int (zi x1)] : List Value).toArray s 0 0 (mA bd)) (F0 m 0 ls [])
  have hf0 : (0 : Int) ≤ S 21 0 ∧ S 21 0 ≤ 7695 := hI 21 0
  refine zi_iconst hx hb dX8_paths_0 ?_
  refine lv_istore_n (lv' := [(3, .int (zi 0)), (0, .ref (bd 0)), (1, .int (zi x0)), (2, .int (zi x1))]) hx hb dX8_paths_1 rfl hl (by decide) rfl (fun ls hl => ?_)
  refine zi_iconst hx hb dX8_paths_2 ?_
  have K_5 : ∀ (k : Nat) (n : Nat) (i : Int) (T : ZS), (i + (n : Int) = 3600) → (0 ≤ i) → (itr hdF n i T = hdA S) → (T 21 0 = S 21 0) → (∀ q : Int, 0 ≤ q → q < i → T 24 q = -1) → ((n : Int) < (k : Int)) → MI T → ∀ (H : Heap) (locs : List Loc), va_P D vwCl (mW cI cZ bd T) H → va_S (mA bd) s.heap H locs → ∀ (ls : Array Slot), lv_has ls 10 [(0, .ref (bd 0)), (1, .int (zi x0)), (2, .int (zi x1)), (3, .int (zi 0)), (4, .int (zi i))] → W p l e rmct_X8_paths s m ([.ref (bd 0), .int (zi x0), .int (zi x1)] : List Value).toArray below meth c H locs 0 0 (MQ below (zWi D (mW cI cZ bd) (mA bd) (fun r T => ((T, r) = paM x0 x1 S ∧ 0 ≤ r ∧ r ≤ 7695) ∧ MI T)) ([.ref (bd 0), .int (zi x0), .int (zi x1)] : List Value).toArray s 0 0 (mA bd)) (F0 m 5 ls []) := by
    intro k
    induction k with
    | zero => intro n i T h_n h_i h_Z h_f h_z hk hIT; exact absurd hk (by omega)
    | succ k ih_5 =>
      intro n i T h_n h_i h_Z h_f h_z hk hIT H locs hP hS ls hl
      refine lv_iload hx hb dX8_paths_5 (lv_at hl 4 rfl) ?_
      refine zi_sipush hx hb dX8_paths_7 (by decide) ?_
      refine zi_icmp_ge (tgt := 27) hx hb ⟨by omega, by omega⟩ ⟨by decide, by decide⟩ dX8_paths_10 (by decide) (fun c_10 => ?_) (fun c_10 => ?_)
      · obtain rfl : n = 0 := by omega
        have h_Z2 : T = hdA S := h_Z
        refine zi_iconst hx hb dX8_paths_27 ?_
        have K_30 : ∀ (k : Nat) (n : Nat) (lk : Int → Prop) (al i : Int) (T : ZS), (i + (n : Int) = S 21 0) → (0 ≤ i) → (0 ≤ al ∧ al ≤ i) → (itr (paF x0 x1) n i (T, al) = paM x0 x1 S) → (T 21 0 = S 21 0) → (∀ q : Int, lk q → 0 ≤ q ∧ q < i ∧ (T 25 q = -1 ∨ (lk (T 25 q) ∧ T 25 q < q))) → (∀ q : Int, 0 ≤ q → q < 3600 → T 24 q = -1 ∨ lk (T 24 q)) → ((n : Int) < (k : Int)) → MI T → ∀ (H : Heap) (locs : List Loc), va_P D vwCl (mW cI cZ bd T) H → va_S (mA bd) s.heap H locs → ∀ (ls : Array Slot), lv_has ls 10 [(0, .ref (bd 0)), (1, .int (zi x0)), (2, .int (zi x1)), (3, .int (zi al)), (4, .int (zi i))] → W p l e rmct_X8_paths s m ([.ref (bd 0), .int (zi x0), .int (zi x1)] : List Value).toArray below meth c H locs 0 0 (MQ below (zWi D (mW cI cZ bd) (mA bd) (fun r T => ((T, r) = paM x0 x1 S ∧ 0 ≤ r ∧ r ≤ 7695) ∧ MI T)) ([.ref (bd 0), .int (zi x0), .int (zi x1)] : List Value).toArray s 0 0 (mA bd)) (F0 m 30 ls []) := by
          intro k
          induction k with
          | zero => intro n lk al i T h_n h_i h_a h_R h_f h_c h_h hk hIT; exact absurd hk (by omega)
          | succ k ih_30 =>
            intro n lk al i T h_n h_i h_a h_R h_f h_c h_h hk hIT H locs hP hS ls hl
            refine lv_iload hx hb dX8_paths_30 (lv_at hl 4 rfl) ?_
            refine lv_aload_n hx hb dX8_paths_32 rfl (lv_at hl 0 rfl) ?_
            refine va_get (D := D) (ci := 8) (v := .int (zi (T 21 0))) (C := RX8) (T := TX8) (N := 32) hx hb hts in_X8_paths_8 hown hK.1 hP 0 rfl rfl 21 (by decide) (hts _ lk_X8_paths_145) (fun _ h9 => h9) rfl dX8_paths_33 ?_
            have f_33 : (0 : Int) ≤ T 21 0 ∧ T 21 0 ≤ 7695 := hIT 21 0
            refine zi_icmp_ge (tgt := 250) hx hb ⟨by omega, by omega⟩ ⟨by omega, by omega⟩ dX8_paths_36 (by decide) (fun c_36 => ?_) (fun c_36 => ?_)
            · obtain rfl : n = 0 := by omega
              refine lv_iload_n hx hb dX8_paths_250 rfl (lv_at hl 3 rfl) ?_
              exact zr_wi (T := T) hx hb hr hlocks dX8_paths_251 hP hS (by exact ⟨⟨h_R, by omega, by omega⟩, hIT⟩)
            · obtain ⟨n, rfl⟩ : ∃ n9 : Nat, n = n9 + 1 := ⟨n - 1, by omega⟩
              refine lv_aload_n hx hb dX8_paths_39 rfl (lv_at hl 0 rfl) ?_
              refine lv_aload_n hx hb dX8_paths_40 rfl (lv_at hl 0 rfl) ?_
              refine va_get (D := D) (ci := 8) (v := .ref (bd 23)) (C := RX8) (T := TX8) (N := 32) hx hb hts in_X8_paths_8 hown hK.1 hP 0 rfl rfl 22 (by decide) (hts _ lk_X8_paths_52) (fun _ h9 => h9) rfl dX8_paths_41 ?_
              refine lv_iload hx hb dX8_paths_44 (lv_at hl 4 rfl) ?_
              refine zi_iald hx hb hK.1 hP 15 0 rfl rfl (by omega) (by omega) (by decide) dX8_paths_46 ?_
              have f_46 : (0 : Int) ≤ T 22 i ∧ T 22 i ≤ 1457999 := hIT 22 i
              refine lv_iload_n hx hb dX8_paths_47 rfl (lv_at hl 1 rfl) ?_
              refine zk_r (zc_V (As := [.int (zi (T 22 i)), .int (zi x0)]) (rest := []) ⟨hx, hb, hml, hown, hts⟩ (ct_X8_placeBy l D cI cZ cJ bd T hIT (T 22 i) x0 ⟨by omega, by omega⟩ ⟨by omega, by omega⟩ (by omega) (by omega) (by omega) (by omega)) (cwV 2 hts gX8_paths_X8_placeBy rfl rfl rfl (by decide +kernel) ⟨Nat.le_of_ble_eq_true rfl, Nat.le_of_ble_eq_true rfl⟩) hK hP (q0 := 0) (ci := 8) rfl rfl rfl rfl hl.1 rfl (Nat.le_of_ble_eq_true rfl) dX8_paths_48 ⟨Nat.zero_le _, Nat.zero_le _⟩) ?_
              refine zi_top (fun (r_48 : Int) (er_48 : r_48 = plM (T 22 i) x0) => ?_)
              have fr_48 : (0 : Int) ≤ r_48 ∧ r_48 ≤ 3599 := by rw [er_48]; exact (by unfold plM; omega)
              refine lv_istore (lv' := [(5, .int (zi r_48)), (0, .ref (bd 0)), (1, .int (zi x0)), (2, .int (zi x1)), (3, .int (zi al)), (4, .int (zi i))]) hx hb dX8_paths_51 hl (by decide) rfl (fun ls hl => ?_)
              refine lv_iload_n hx hb dX8_paths_53 rfl (lv_at hl 3 rfl) ?_
              refine zi_iconst hx hb dX8_paths_54 ?_
              have K_76 : ∀ (se9 : Int), (se9 = secM x1 i x0 T) → ∀ (ls : Array Slot), lv_has ls 10 [(0, .ref (bd 0)), (1, .int (zi x0)), (2, .int (zi x1)), (3, .int (zi al)), (4, .int (zi i)), (5, .int (zi r_48))] → W p l e rmct_X8_paths s m ([.ref (bd 0), .int (zi x0), .int (zi x1)] : List Value).toArray below meth c H locs 0 0 (MQ below (zWi D (mW cI cZ bd) (mA bd) (fun r T => ((T, r) = paM x0 x1 S ∧ 0 ≤ r ∧ r ≤ 7695) ∧ MI T)) ([.ref (bd 0), .int (zi x0), .int (zi x1)] : List Value).toArray s 0 0 (mA bd)) (F0 m 76 ls [.int (zi se9)]) := by
                intro se9 h_se ls hl
                have h_s1 : 0 ≤ se9 ∧ se9 ≤ 3599 := by rw [h_se]; unfold secM plM; split <;> omega
                refine lv_istore (lv' := [(6, .int (zi se9)), (0, .ref (bd 0)), (1, .int (zi x0)), (2, .int (zi x1)), (3, .int (zi al)), (4, .int (zi i)), (5, .int (zi r_48))]) hx hb dX8_paths_76 hl (by decide) rfl (fun ls hl => ?_)
                refine lv_iload_n hx hb dX8_paths_78 rfl (lv_at hl 3 rfl) ?_
                refine zi_iconst hx hb dX8_paths_79 ?_
                have K_101 : ∀ (th9 : Int), (th9 = thiM x1 i x0 T) → ∀ (ls : Array Slot), lv_has ls 10 [(0, .ref (bd 0)), (1, .int (zi x0)), (2, .int (zi x1)), (3, .int (zi al)), (4, .int (zi i)), (5, .int (zi r_48)), (6, .int (zi se9))] → W p l e rmct_X8_paths s m ([.ref (bd 0), .int (zi x0), .int (zi x1)] : List Value).toArray below meth c H locs 0 0 (MQ below (zWi D (mW cI cZ bd) (mA bd) (fun r T => ((T, r) = paM x0 x1 S ∧ 0 ≤ r ∧ r ≤ 7695) ∧ MI T)) ([.ref (bd 0), .int (zi x0), .int (zi x1)] : List Value).toArray s 0 0 (mA bd)) (F0 m 101 ls [.int (zi th9)]) := by
                  intro th9 h_th ls hl
                  have h_t1 : 0 ≤ th9 ∧ th9 ≤ 3599 := by rw [h_th]; unfold thiM plM; split <;> omega
                  have h_w : 3600 * se9 + th9 = wayM x0 x1 i T := by rw [h_se, h_th]; rfl
                  refine lv_istore (lv' := [(7, .int (zi th9)), (0, .ref (bd 0)), (1, .int (zi x0)), (2, .int (zi x1)), (3, .int (zi al)), (4, .int (zi i)), (5, .int (zi r_48)), (6, .int (zi se9))]) hx hb dX8_paths_101 hl (by decide) rfl (fun ls hl => ?_)
                  refine zi_iconst hx hb dX8_paths_103 ?_
                  refine lv_istore (lv' := [(8, .int (zi 0)), (7, .int (zi th9)), (0, .ref (bd 0)), (1, .int (zi x0)), (2, .int (zi x1)), (3, .int (zi al)), (4, .int (zi i)), (5, .int (zi r_48)), (6, .int (zi se9))]) hx hb dX8_paths_104 hl (by decide) rfl (fun ls hl => ?_)
                  refine lv_aload_n hx hb dX8_paths_106 rfl (lv_at hl 2 rfl) ?_
                  refine va_get (D := D) (ci := 8) (v := .ref (bd 25)) (C := RX8) (T := TX8) (N := 32) hx hb hts in_X8_paths_8 hown hK.1 hP 0 rfl rfl 24 (by decide) (hts _ lk_X8_paths_58) (fun _ h9 => h9) rfl dX8_paths_107 ?_
                  refine lv_iload hx hb dX8_paths_110 (lv_at hl 7 rfl) ?_
                  refine zi_iald hx hb hK.1 hP 17 0 rfl rfl (by omega) (by omega) (by decide) dX8_paths_112 ?_
                  have f_112 : (-1 : Int) ≤ T 24 r_48 ∧ T 24 r_48 ≤ 7694 := hIT 24 r_48
                  have K_115 : ∀ (k : Nat) (m9 : Nat) (sn j9 : Int), (0 ≤ sn ∧ sn ≤ 1) → (j9 = -1 ∨ lk j9) → (j9 < (m9 : Int)) → (chR T (3600 * se9 + th9) m9 j9 sn = senM x0 x1 i T) → ((m9 : Int) < (k : Int)) → ∀ (ls : Array Slot), lv_has ls 10 [(0, .ref (bd 0)), (1, .int (zi x0)), (2, .int (zi x1)), (3, .int (zi al)), (4, .int (zi i)), (5, .int (zi r_48)), (6, .int (zi se9)), (7, .int (zi th9)), (8, .int (zi sn)), (9, .int (zi j9))] → W p l e rmct_X8_paths s m ([.ref (bd 0), .int (zi x0), .int (zi x1)] : List Value).toArray below meth c H locs 0 0 (MQ below (zWi D (mW cI cZ bd) (mA bd) (fun r T => ((T, r) = paM x0 x1 S ∧ 0 ≤ r ∧ r ≤ 7695) ∧ MI T)) ([.ref (bd 0), .int (zi x0), .int (zi x1)] : List Value).toArray s 0 0 (mA bd)) (F0 m 115 ls []) := by
                    intro k
                    induction k with
                    | zero => intro m9 sn j9 g_b g_j g_m g_R hk; exact absurd hk (by omega)
                    | succ k ih_115 =>
                      intro m9 sn j9 g_b g_j g_m g_R hk ls hl
                      have g_jb : -1 ≤ j9 ∧ j9 < i := by
                        rcases g_j with h9 | h9
                        · omega
                        · have h8 := h_c j9 h9; omega
                      refine lv_iload hx hb dX8_paths_115 (lv_at hl 9 rfl) ?_
                      refine zi_iconst hx hb dX8_paths_117 ?_
                      refine zi_icmp_eq (tgt := 164) hx hb ⟨by omega, by omega⟩ ⟨by decide, by decide⟩ dX8_paths_118 (by decide) (fun c_118 => ?_) (fun c_118 => ?_)
                      · have h_sn : sn = senM x0 x1 i T := by rw [← g_R, c_118]; exact ch_e.symm
                        refine lv_aload_n hx hb dX8_paths_164 rfl (lv_at hl 0 rfl) ?_
                        refine va_get (D := D) (ci := 8) (v := .ref (bd 27)) (C := RX8) (T := TX8) (N := 32) hx hb hts in_X8_paths_8 hown hK.1 hP 0 rfl rfl 26 (by decide) (hts _ lk_X8_paths_64) (fun _ h9 => h9) rfl dX8_paths_165 ?_
                        refine lv_iload hx hb dX8_paths_168 (lv_at hl 4 rfl) ?_
                        refine zi_sipush hx hb dX8_paths_170 (by decide) ?_
                        refine lv_iload hx hb dX8_paths_173 (lv_at hl 6 rfl) ?_
                        refine zi_imul hx hb dX8_paths_175 ?_
                        refine lv_iload hx hb dX8_paths_176 (lv_at hl 7 rfl) ?_
                        refine zi_iadd hx hb dX8_paths_178 ?_
                        refine zi_iast hx hb hK.1 hP (mW_D hdis _) hS 19 0 rfl rfl (by omega) (by omega) (by decide) dX8_paths_179 (fun H locs hP hS => ?_)
                        have hP : va_P D vwCl (mW cI cZ bd (su T 26 (up (T 26) i ((3600 * se9) + th9)))) H := hP
                        have hI_179 : MI (su T 26 (up (T 26) i ((3600 * se9) + th9))) := MI.up hIT 26 i ((3600 * se9) + th9) (show (0 : Int) ≤ ((3600 * se9) + th9) ∧ ((3600 * se9) + th9) ≤ 12963599 from ⟨by omega, by omega⟩)
                        generalize eS_179 : su T 26 (up (T 26) i ((3600 * se9) + th9)) = S_179 at hP hI_179
                        refine lv_aload_n hx hb dX8_paths_180 rfl (lv_at hl 0 rfl) ?_
                        refine va_get (D := D) (ci := 8) (v := .ref (bd 28)) (C := RX8) (T := TX8) (N := 32) hx hb hts in_X8_paths_8 hown hK.1 hP 0 rfl rfl 27 (by decide) (hts _ lk_X8_paths_67) (fun _ h9 => h9) rfl dX8_paths_181 ?_
                        refine lv_iload hx hb dX8_paths_184 (lv_at hl 4 rfl) ?_
                        refine lv_iload hx hb dX8_paths_186 (lv_at hl 8 rfl) ?_
                        have K_212 : ∀ (cm : Int), (cm = cmM x0 x1 i T) → ∀ (ls : Array Slot), lv_has ls 10 [(0, .ref (bd 0)), (1, .int (zi x0)), (2, .int (zi x1)), (3, .int (zi al)), (4, .int (zi i)), (5, .int (zi r_48)), (6, .int (zi se9)), (7, .int (zi th9)), (8, .int (zi sn))] → W p l e rmct_X8_paths s m ([.ref (bd 0), .int (zi x0), .int (zi x1)] : List Value).toArray below meth c H locs 0 0 (MQ below (zWi D (mW cI cZ bd) (mA bd) (fun r T => ((T, r) = paM x0 x1 S ∧ 0 ≤ r ∧ r ≤ 7695) ∧ MI T)) ([.ref (bd 0), .int (zi x0), .int (zi x1)] : List Value).toArray s 0 0 (mA bd)) (F0 m 212 ls [.int (zi cm), .int (zi i), .ref (bd 28)]) := by
                          intro cm h_cm ls hl
                          have h_cb : 0 ≤ cm ∧ cm ≤ 1 := by rw [h_cm]; exact b2_b
                          refine zi_bast hx hb hK.1 hP (mW_D hdis _) hS 20 1 rfl rfl (by omega) (by omega) (by decide) (by omega) dX8_paths_212 (fun H locs hP hS => ?_)
                          have hP : va_P D vwCl (mW cI cZ bd (su S_179 27 (up (S_179 27) i cm))) H := hP
                          have hI_212 : MI (su S_179 27 (up (S_179 27) i cm)) := MI.up hI_179 27 i cm (show (0 : Int) ≤ cm ∧ cm ≤ 1 from ⟨by omega, by omega⟩)
                          generalize eS_212 : su S_179 27 (up (S_179 27) i cm) = S_212 at hP hI_212
                          refine lv_iload hx hb dX8_paths_213 (lv_at hl 8 rfl) ?_
                          refine zi_if_ne (tgt := 244) hx hb ⟨by omega, by omega⟩ dX8_paths_215 (by decide) (fun c_215 => ?_) (fun c_215 => ?_)
                          · refine zi_iinc (k := 4) (lv' := [(4, .int (zi (i + 1))), (0, .ref (bd 0)), (1, .int (zi x0)), (2, .int (zi x1)), (3, .int (zi al)), (5, .int (zi r_48)), (6, .int (zi se9)), (7, .int (zi th9)), (8, .int (zi sn))]) hx hb dX8_paths_244 hl rfl (by decide) rfl (fun ls hl => ?_)
                            refine lv_goto (tgt := 30) hx hb dX8_paths_247 (by decide) ?_
                            exact ih_30 n lk al (i + 1) S_212 (by first | omega | assumption) (by first | omega | assumption) ⟨by omega, by omega⟩ (by rw [← h_R, itr_s]; congr 1; rw [paF]; refine Eq.trans ?_ (if_neg (show ¬ senM x0 x1 i T = 0 by rw [← h_sn]; exact c_215)).symm; rw [paT, ← h_w, ← h_cm, ← eS_212, ← eS_179] <;> rfl) (by rw [← eS_212, ← eS_179]; exact h_f) (pa_1 h_c (by rw [← eS_212, ← eS_179]; rfl)) (fun q h0 h1 => by rw [← eS_212, ← eS_179]; exact h_h q h0 h1) (by omega) hI_212 _ _ hP hS _ (lv_sub hl [1, 2, 3, 4, 0] rfl)
                          · refine lv_aload_n hx hb dX8_paths_218 rfl (lv_at hl 0 rfl) ?_
                            refine va_get (D := D) (ci := 8) (v := .ref (bd 26)) (C := RX8) (T := TX8) (N := 32) hx hb hts in_X8_paths_8 hown hK.1 hP 0 rfl rfl 25 (by decide) (hts _ lk_X8_paths_61) (fun _ h9 => h9) rfl dX8_paths_219 ?_
                            refine lv_iload hx hb dX8_paths_222 (lv_at hl 4 rfl) ?_
                            refine lv_aload_n hx hb dX8_paths_224 rfl (lv_at hl 0 rfl) ?_
                            refine va_get (D := D) (ci := 8) (v := .ref (bd 25)) (C := RX8) (T := TX8) (N := 32) hx hb hts in_X8_paths_8 hown hK.1 hP 0 rfl rfl 24 (by decide) (hts _ lk_X8_paths_58) (fun _ h9 => h9) rfl dX8_paths_225 ?_
                            refine lv_iload hx hb dX8_paths_228 (lv_at hl 5 rfl) ?_
                            refine zi_iald hx hb hK.1 hP 17 0 rfl rfl (by omega) (by omega) (by decide) dX8_paths_230 ?_
                            have f_230 : (-1 : Int) ≤ S_212 24 r_48 ∧ S_212 24 r_48 ≤ 7694 := hI_212 24 r_48
                            refine zi_iast hx hb hK.1 hP (mW_D hdis _) hS 18 0 rfl rfl (by omega) (by omega) (by decide) dX8_paths_231 (fun H locs hP hS => ?_)
                            have hP : va_P D vwCl (mW cI cZ bd (su S_212 25 (up (S_212 25) i (S_212 24 r_48)))) H := hP
                            have hI_231 : MI (su S_212 25 (up (S_212 25) i (S_212 24 r_48))) := MI.up hI_212 25 i (S_212 24 r_48) (show (-1 : Int) ≤ (S_212 24 r_48) ∧ (S_212 24 r_48) ≤ 7694 from ⟨by omega, by omega⟩)
                            generalize eS_231 : su S_212 25 (up (S_212 25) i (S_212 24 r_48)) = S_231 at hP hI_231
                            refine lv_aload_n hx hb dX8_paths_232 rfl (lv_at hl 0 rfl) ?_
                            refine va_get (D := D) (ci := 8) (v := .ref (bd 25)) (C := RX8) (T := TX8) (N := 32) hx hb hts in_X8_paths_8 hown hK.1 hP 0 rfl rfl 24 (by decide) (hts _ lk_X8_paths_58) (fun _ h9 => h9) rfl dX8_paths_233 ?_
                            refine lv_iload hx hb dX8_paths_236 (lv_at hl 5 rfl) ?_
                            refine lv_iload hx hb dX8_paths_238 (lv_at hl 4 rfl) ?_
                            refine zi_iast hx hb hK.1 hP (mW_D hdis _) hS 17 0 rfl rfl (by omega) (by omega) (by decide) dX8_paths_240 (fun H locs hP hS => ?_)
                            have hP : va_P D vwCl (mW cI cZ bd (su S_231 24 (up (S_231 24) r_48 i))) H := hP
                            have hI_240 : MI (su S_231 24 (up (S_231 24) r_48 i)) := MI.up hI_231 24 r_48 i (show (-1 : Int) ≤ i ∧ i ≤ 7694 from ⟨by omega, by omega⟩)
                            generalize eS_240 : su S_231 24 (up (S_231 24) r_48 i) = S_240 at hP hI_240
                            refine zi_iinc (k := 3) (lv' := [(3, .int (zi (al + 1))), (0, .ref (bd 0)), (1, .int (zi x0)), (2, .int (zi x1)), (4, .int (zi i)), (5, .int (zi r_48)), (6, .int (zi se9)), (7, .int (zi th9)), (8, .int (zi sn))]) hx hb dX8_paths_241 hl rfl (by decide) rfl (fun ls hl => ?_)
                            refine zi_iinc (k := 4) (lv' := [(4, .int (zi (i + 1))), (3, .int (zi (al + 1))), (0, .ref (bd 0)), (1, .int (zi x0)), (2, .int (zi x1)), (5, .int (zi r_48)), (6, .int (zi se9)), (7, .int (zi th9)), (8, .int (zi sn))]) hx hb dX8_paths_244 hl rfl (by decide) rfl (fun ls hl => ?_)
                            refine lv_goto (tgt := 30) hx hb dX8_paths_247 (by decide) ?_
                            exact ih_30 n (fun q => lk q ∨ q = i) (al + 1) (i + 1) S_240 (by first | omega | assumption) (by first | omega | assumption) ⟨by omega, by omega⟩ (by rw [← h_R, itr_s]; congr 1; rw [paF]; refine Eq.trans ?_ (if_pos (show senM x0 x1 i T = 0 by rw [← h_sn]; exact c_215)).symm; rw [paU, paT, ← h_w, ← h_cm, ← er_48, ← eS_240, ← eS_231, ← eS_212, ← eS_179] <;> rfl) (by rw [← eS_240, ← eS_231, ← eS_212, ← eS_179]; exact h_f) (pa_2 h_c (h_h r_48 (by omega) (by omega)) (by rw [← eS_240, ← eS_231, ← eS_212, ← eS_179] <;> rfl)) (fun q h0 h1 => by rw [← eS_240, su_s, ← eS_231, ← eS_212, ← eS_179]; by_cases hq : q = r_48; (subst hq; rw [up_s]; exact Or.inr (Or.inr rfl)); (rw [up_n _ _ hq]; exact (h_h q h0 h1).imp id Or.inl)) (by omega) hI_240 _ _ hP hS _ (lv_sub hl [2, 3, 4, 1, 0] rfl)
                        refine zi_if_ne (tgt := 211) hx hb ⟨by omega, by omega⟩ dX8_paths_188 (by decide) (fun c_188 => ?_) (fun c_188 => ?_)
                        · refine zi_iconst hx hb dX8_paths_211 ?_
                          exact K_212 0 (b2_f (fun h9 => c_188 (h_sn.trans h9.1))).symm _ (lv_sub hl [0, 1, 2, 3, 4, 5, 6, 7, 8] rfl)
                        · refine lv_aload_n hx hb dX8_paths_191 rfl (lv_at hl 0 rfl) ?_
                          refine lv_aload_n hx hb dX8_paths_192 rfl (lv_at hl 0 rfl) ?_
                          refine va_get (D := D) (ci := 8) (v := .ref (bd 23)) (C := RX8) (T := TX8) (N := 32) hx hb hts in_X8_paths_8 hown hK.1 hP 0 rfl rfl 22 (by decide) (hts _ lk_X8_paths_52) (fun _ h9 => h9) rfl dX8_paths_193 ?_
                          refine lv_iload hx hb dX8_paths_196 (lv_at hl 4 rfl) ?_
                          refine zi_iald hx hb hK.1 hP 15 0 rfl rfl (by omega) (by omega) (by decide) dX8_paths_198 ?_
                          have f_198 : (0 : Int) ≤ S_179 22 i ∧ S_179 22 i ≤ 1457999 := hI_179 22 i
                          refine lv_iload_n hx hb dX8_paths_199 rfl (lv_at hl 1 rfl) ?_
                          refine lv_iload_n hx hb dX8_paths_200 rfl (lv_at hl 2 rfl) ?_
                          refine zk_r (zc_V (As := [.int (zi (S_179 22 i)), .int (zi x0), .int (zi x1)]) (rest := [.int (zi i), .ref (bd 28)]) ⟨hx, hb, hml, hown, hts⟩ (ct_X8_isNear l D cI cZ cJ bd S_179 hI_179 (S_179 22 i) x0 x1 ⟨by omega, by omega⟩ ⟨by omega, by omega⟩ ⟨by omega, by omega⟩ (by omega) (by omega) (by omega) (by omega) (by omega) (by omega) (by omega)) (cwV 3 hts gX8_paths_X8_isNear rfl rfl rfl (by decide +kernel) ⟨Nat.le_of_ble_eq_true rfl, Nat.le_of_ble_eq_true rfl⟩) hK hP (q0 := 0) (ci := 8) rfl rfl rfl rfl hl.1 rfl (Nat.le_of_ble_eq_true rfl) dX8_paths_201 ⟨Nat.zero_le _, Nat.zero_le _⟩) ?_
                          refine zi_top (fun (r_201 : Int) (er_201 : r_201 = b2 (isNP (S_179 22 i) x0 x1)) => ?_)
                          have fr_201 : (0 : Int) ≤ r_201 ∧ r_201 ≤ 1 := by rw [er_201]; exact b2_b
                          have e_201 : r_201 = b2 (isNP (T 22 i) x0 x1) := by rw [er_201, ← eS_179] <;> rfl
                          refine zi_if_eq (tgt := 211) hx hb ⟨by omega, by omega⟩ dX8_paths_204 (by decide) (fun c_204 => ?_) (fun c_204 => ?_)
                          · refine zi_iconst hx hb dX8_paths_211 ?_
                            exact K_212 0 (b2_f (fun h9 => b2_0 e_201 c_204 h9.2)).symm _ (lv_sub hl [0, 1, 2, 3, 4, 5, 6, 7, 8] rfl)
                          · refine zi_iconst hx hb dX8_paths_207 ?_
                            refine lv_goto (tgt := 212) hx hb dX8_paths_208 (by decide) ?_
                            exact K_212 1 (b2_t ⟨h_sn.symm.trans c_188, b2_1 e_201 c_204⟩).symm _ (lv_sub hl [0, 1, 2, 3, 4, 5, 6, 7, 8] rfl)
                      · obtain ⟨m9, rfl⟩ : ∃ n9 : Nat, m9 = n9 + 1 := ⟨m9 - 1, by omega⟩
                        refine lv_iload hx hb dX8_paths_121 (lv_at hl 8 rfl) ?_
                        have K_150 : ∀ (ns : Int), (ns = b2 (¬ sn = 0 ∨ T 26 j9 = 3600 * se9 + th9)) → ∀ (ls : Array Slot), lv_has ls 10 [(0, .ref (bd 0)), (1, .int (zi x0)), (2, .int (zi x1)), (3, .int (zi al)), (4, .int (zi i)), (5, .int (zi r_48)), (6, .int (zi se9)), (7, .int (zi th9)), (9, .int (zi j9))] → W p l e rmct_X8_paths s m ([.ref (bd 0), .int (zi x0), .int (zi x1)] : List Value).toArray below meth c H locs 0 0 (MQ below (zWi D (mW cI cZ bd) (mA bd) (fun r T => ((T, r) = paM x0 x1 S ∧ 0 ≤ r ∧ r ≤ 7695) ∧ MI T)) ([.ref (bd 0), .int (zi x0), .int (zi x1)] : List Value).toArray s 0 0 (mA bd)) (F0 m 150 ls [.int (zi ns)]) := by
                          intro ns h_ns ls hl
                          have h_nb : 0 ≤ ns ∧ ns ≤ 1 := by rw [h_ns]; exact b2_b
                          refine lv_istore (lv' := [(8, .int (zi ns)), (0, .ref (bd 0)), (1, .int (zi x0)), (2, .int (zi x1)), (3, .int (zi al)), (4, .int (zi i)), (5, .int (zi r_48)), (6, .int (zi se9)), (7, .int (zi th9)), (9, .int (zi j9))]) hx hb dX8_paths_150 hl (by decide) rfl (fun ls hl => ?_)
                          refine lv_aload_n hx hb dX8_paths_152 rfl (lv_at hl 1 rfl) ?_
                          refine va_get (D := D) (ci := 8) (v := .ref (bd 26)) (C := RX8) (T := TX8) (N := 32) hx hb hts in_X8_paths_8 hown hK.1 hP 0 rfl rfl 25 (by decide) (hts _ lk_X8_paths_61) (fun _ h9 => h9) rfl dX8_paths_153 ?_
                          refine lv_iload hx hb dX8_paths_156 (lv_at hl 9 rfl) ?_
                          refine zi_iald hx hb hK.1 hP 18 0 rfl rfl (by omega) (by omega) (by decide) dX8_paths_158 ?_
                          have f_158 : (-1 : Int) ≤ T 25 j9 ∧ T 25 j9 ≤ 7694 := hIT 25 j9
                          refine zi_top (fun x9_159 ex9_159 => ?_)
                          refine lv_istore (lv' := [(9, .int (zi x9_159)), (8, .int (zi ns)), (0, .ref (bd 0)), (1, .int (zi x0)), (2, .int (zi x1)), (3, .int (zi al)), (4, .int (zi i)), (5, .int (zi r_48)), (6, .int (zi se9)), (7, .int (zi th9))]) hx hb dX8_paths_159 hl (by decide) rfl (fun ls hl => ?_)
                          refine lv_goto (tgt := 115) hx hb dX8_paths_161 (by decide) ?_
                          exact ih_115 m9 ns x9_159 h_nb (by rw [ex9_159]; exact (h_c j9 (g_j.resolve_left c_118)).2.2.imp id And.left) (by rw [ex9_159]; rcases (h_c j9 (g_j.resolve_left c_118)).2.2 with h9 | h9 <;> omega) (by rw [← g_R, h_ns, ex9_159]; exact (if_neg c_118).symm) (by omega) _ (lv_sub hl [2, 3, 4, 5, 6, 7, 8, 9, 1, 0] rfl)
                        refine zi_if_ne (tgt := 145) hx hb ⟨by omega, by omega⟩ dX8_paths_123 (by decide) (fun c_123 => ?_) (fun c_123 => ?_)
                        · refine zi_iconst hx hb dX8_paths_145 ?_
                          refine lv_goto (tgt := 150) hx hb dX8_paths_146 (by decide) ?_
                          exact K_150 1 (b2_t (Or.inl c_123)).symm _ (lv_sub hl [0, 1, 2, 3, 4, 5, 6, 7, 9] rfl)
                        · refine lv_aload_n hx hb dX8_paths_126 rfl (lv_at hl 0 rfl) ?_
                          refine va_get (D := D) (ci := 8) (v := .ref (bd 27)) (C := RX8) (T := TX8) (N := 32) hx hb hts in_X8_paths_8 hown hK.1 hP 0 rfl rfl 26 (by decide) (hts _ lk_X8_paths_64) (fun _ h9 => h9) rfl dX8_paths_127 ?_
                          refine lv_iload hx hb dX8_paths_130 (lv_at hl 9 rfl) ?_
                          refine zi_iald hx hb hK.1 hP 19 0 rfl rfl (by omega) (by omega) (by decide) dX8_paths_132 ?_
                          have f_132 : (0 : Int) ≤ T 26 j9 ∧ T 26 j9 ≤ 12963599 := hIT 26 j9
                          refine zi_sipush hx hb dX8_paths_133 (by decide) ?_
                          refine lv_iload hx hb dX8_paths_136 (lv_at hl 6 rfl) ?_
                          refine zi_imul hx hb dX8_paths_138 ?_
                          refine lv_iload hx hb dX8_paths_139 (lv_at hl 7 rfl) ?_
                          refine zi_iadd hx hb dX8_paths_141 ?_
                          refine zi_icmp_ne (tgt := 149) hx hb ⟨by omega, by omega⟩ ⟨by omega, by omega⟩ dX8_paths_142 (by decide) (fun c_142 => ?_) (fun c_142 => ?_)
                          · refine zi_iconst hx hb dX8_paths_149 ?_
                            exact K_150 0 (b2_f (fun h9 => h9.elim (fun h8 => h8 c_123) c_142)).symm _ (lv_sub hl [0, 1, 2, 3, 4, 5, 6, 7, 9] rfl)
                          · refine zi_iconst hx hb dX8_paths_145 ?_
                            refine lv_goto (tgt := 150) hx hb dX8_paths_146 (by decide) ?_
                            exact K_150 1 (b2_t (Or.inr c_142)).symm _ (lv_sub hl [0, 1, 2, 3, 4, 5, 6, 7, 9] rfl)
                  refine zi_top (fun x9_113 ex9_113 => ?_)
                  refine lv_istore (lv' := [(9, .int (zi x9_113)), (8, .int (zi 0)), (7, .int (zi th9)), (0, .ref (bd 0)), (1, .int (zi x0)), (2, .int (zi x1)), (3, .int (zi al)), (4, .int (zi i)), (5, .int (zi r_48)), (6, .int (zi se9))]) hx hb dX8_paths_113 hl (by decide) rfl (fun ls hl => ?_)
                  exact K_115 (i.toNat + 2) (i.toNat + 1) 0 x9_113 ⟨by decide, by decide⟩ (by rw [ex9_113]; exact h_h r_48 (by omega) (by omega)) (by rw [ex9_113]; rcases h_h r_48 (by omega) (by omega) with h9 | h9; omega; have h8 := h_c _ h9; omega) (by rw [senM, h_w, ex9_113, er_48]) (by omega) _ (lv_sub hl [3, 4, 5, 6, 7, 8, 9, 2, 1, 0] rfl)
                refine zi_icmp_ge (tgt := 87) hx hb ⟨by omega, by omega⟩ ⟨by decide, by decide⟩ dX8_paths_80 (by decide) (fun c_80 => ?_) (fun c_80 => ?_)
                · refine lv_aload_n hx hb dX8_paths_87 rfl (lv_at hl 1 rfl) ?_
                  refine lv_aload_n hx hb dX8_paths_88 rfl (lv_at hl 1 rfl) ?_
                  refine va_get (D := D) (ci := 8) (v := .ref (bd 23)) (C := RX8) (T := TX8) (N := 32) hx hb hts in_X8_paths_8 hown hK.1 hP 0 rfl rfl 22 (by decide) (hts _ lk_X8_paths_52) (fun _ h9 => h9) rfl dX8_paths_89 ?_
                  refine lv_iload hx hb dX8_paths_92 (lv_at hl 5 rfl) ?_
                  refine zi_iald hx hb hK.1 hP 15 0 rfl rfl (by omega) (by omega) (by decide) dX8_paths_94 ?_
                  have f_94 : (0 : Int) ≤ T 22 i ∧ T 22 i ≤ 1457999 := hIT 22 i
                  refine lv_iload_n hx hb dX8_paths_95 rfl (lv_at hl 2 rfl) ?_
                  refine zi_iconst hx hb dX8_paths_96 ?_
                  refine zi_iadd hx hb dX8_paths_97 ?_
                  refine zk_r (zc_V (As := [.int (zi (T 22 i)), .int (zi (x0 + 2))]) (rest := []) ⟨hx, hb, hml, hown, hts⟩ (ct_X8_placeBy l D cI cZ cJ bd T hIT (T 22 i) (x0 + 2) ⟨by omega, by omega⟩ ⟨by omega, by omega⟩ (by omega) (by omega) (by omega) (by omega)) (cwV 2 hts gX8_paths_X8_placeBy rfl rfl rfl (by decide +kernel) ⟨Nat.le_of_ble_eq_true rfl, Nat.le_of_ble_eq_true rfl⟩) hK hP (q0 := 0) (ci := 8) rfl rfl rfl rfl hl.1 rfl (Nat.le_of_ble_eq_true rfl) dX8_paths_98 ⟨Nat.zero_le _, Nat.zero_le _⟩) ?_
                  refine zi_top (fun (r_98 : Int) (er_98 : r_98 = plM (T 22 i) (x0 + 2)) => ?_)
                  have fr_98 : (0 : Int) ≤ r_98 ∧ r_98 ≤ 3599 := by rw [er_98]; exact (by unfold plM; omega)
                  exact K_101 r_98 (by rw [er_98]; exact (if_pos c_80).symm) _ (lv_sub hl [1, 2, 3, 4, 5, 6, 0] rfl)
                · refine zi_iconst hx hb dX8_paths_83 ?_
                  refine lv_goto (tgt := 101) hx hb dX8_paths_84 (by decide) ?_
                  exact K_101 0 (if_neg c_80).symm _ (lv_sub hl [1, 2, 3, 4, 5, 6, 0] rfl)
              refine zi_icmp_ne (tgt := 62) hx hb ⟨by omega, by omega⟩ ⟨by decide, by decide⟩ dX8_paths_55 (by decide) (fun c_55 => ?_) (fun c_55 => ?_)
              · refine lv_aload_n hx hb dX8_paths_62 rfl (lv_at hl 1 rfl) ?_
                refine lv_aload_n hx hb dX8_paths_63 rfl (lv_at hl 1 rfl) ?_
                refine va_get (D := D) (ci := 8) (v := .ref (bd 23)) (C := RX8) (T := TX8) (N := 32) hx hb hts in_X8_paths_8 hown hK.1 hP 0 rfl rfl 22 (by decide) (hts _ lk_X8_paths_52) (fun _ h9 => h9) rfl dX8_paths_64 ?_
                refine lv_iload hx hb dX8_paths_67 (lv_at hl 5 rfl) ?_
                refine zi_iald hx hb hK.1 hP 15 0 rfl rfl (by omega) (by omega) (by decide) dX8_paths_69 ?_
                have f_69 : (0 : Int) ≤ T 22 i ∧ T 22 i ≤ 1457999 := hIT 22 i
                refine lv_iload_n hx hb dX8_paths_70 rfl (lv_at hl 2 rfl) ?_
                refine zi_iconst hx hb dX8_paths_71 ?_
                refine zi_iadd hx hb dX8_paths_72 ?_
                refine zk_r (zc_V (As := [.int (zi (T 22 i)), .int (zi (x0 + 1))]) (rest := []) ⟨hx, hb, hml, hown, hts⟩ (ct_X8_placeBy l D cI cZ cJ bd T hIT (T 22 i) (x0 + 1) ⟨by omega, by omega⟩ ⟨by omega, by omega⟩ (by omega) (by omega) (by omega) (by omega)) (cwV 2 hts gX8_paths_X8_placeBy rfl rfl rfl (by decide +kernel) ⟨Nat.le_of_ble_eq_true rfl, Nat.le_of_ble_eq_true rfl⟩) hK hP (q0 := 0) (ci := 8) rfl rfl rfl rfl hl.1 rfl (Nat.le_of_ble_eq_true rfl) dX8_paths_73 ⟨Nat.zero_le _, Nat.zero_le _⟩) ?_
                refine zi_top (fun (r_73 : Int) (er_73 : r_73 = plM (T 22 i) (x0 + 1)) => ?_)
                have fr_73 : (0 : Int) ≤ r_73 ∧ r_73 ≤ 3599 := by rw [er_73]; exact (by unfold plM; omega)
                exact K_76 r_73 (by rw [er_73]; exact (if_neg c_55).symm) _ (lv_sub hl [1, 2, 3, 4, 5, 0] rfl)
              · refine zi_iconst hx hb dX8_paths_58 ?_
                refine lv_goto (tgt := 76) hx hb dX8_paths_59 (by decide) ?_
                exact K_76 0 (if_pos c_55).symm _ (lv_sub hl [1, 2, 3, 4, 5, 0] rfl)
        refine lv_istore (lv' := [(4, .int (zi 0)), (0, .ref (bd 0)), (1, .int (zi x0)), (2, .int (zi x1)), (3, .int (zi 0))]) hx hb dX8_paths_28 hl (by decide) rfl (fun ls hl => ?_)
        exact K_30 ((S 21 0).toNat + 1) ((S 21 0).toNat) (fun _ => False) 0 0 T (by first | omega | assumption) (by first | omega | assumption) ⟨by omega, by omega⟩ (by rw [paM, ← h_Z]; rfl) h_f (fun q h0 => absurd h0 id) (fun q h0 h1 => Or.inl (h_z q h0 (by omega))) (by omega) hIT _ _ hP hS _ (lv_sub hl [1, 2, 3, 4, 0] rfl)
      · obtain ⟨n, rfl⟩ : ∃ n9 : Nat, n = n9 + 1 := ⟨n - 1, by omega⟩
        refine lv_aload_n hx hb dX8_paths_13 rfl (lv_at hl 0 rfl) ?_
        refine va_get (D := D) (ci := 8) (v := .ref (bd 25)) (C := RX8) (T := TX8) (N := 32) hx hb hts in_X8_paths_8 hown hK.1 hP 0 rfl rfl 24 (by decide) (hts _ lk_X8_paths_58) (fun _ h9 => h9) rfl dX8_paths_14 ?_
        refine lv_iload hx hb dX8_paths_17 (lv_at hl 4 rfl) ?_
        refine zi_iconst hx hb dX8_paths_19 ?_
        refine zi_iast hx hb hK.1 hP (mW_D hdis _) hS 17 0 rfl rfl (by omega) (by omega) (by decide) dX8_paths_20 (fun H locs hP hS => ?_)
        have hP : va_P D vwCl (mW cI cZ bd (su T 24 (up (T 24) i (-1)))) H := hP
        have hI_20 : MI (su T 24 (up (T 24) i (-1))) := MI.up hIT 24 i (-1) (show (-1 : Int) ≤ (-1) ∧ (-1) ≤ 7694 from ⟨by omega, by omega⟩)
        generalize eS_20 : su T 24 (up (T 24) i (-1)) = S_20 at hP hI_20
        refine zi_iinc (k := 4) (lv' := [(4, .int (zi (i + 1))), (0, .ref (bd 0)), (1, .int (zi x0)), (2, .int (zi x1)), (3, .int (zi 0))]) hx hb dX8_paths_21 hl rfl (by decide) rfl (fun ls hl => ?_)
        refine lv_goto (tgt := 5) hx hb dX8_paths_24 (by decide) ?_
        exact ih_5 n (i + 1) S_20 (by first | omega | assumption) (by first | omega | assumption) (by rw [← h_Z, itr_s, ← eS_20]; rfl) (by rw [← eS_20]; exact h_f) (fun q h0 h1 => by rw [← eS_20, su_s]; by_cases hq : q = i; (subst hq; exact up_s _ _ _); (rw [up_n _ _ hq]; exact h_z q h0 (by omega))) (by omega) hI_20 _ _ hP hS _ (lv_sub hl [1, 2, 3, 4, 0] rfl)
  refine lv_istore (lv' := [(4, .int (zi 0)), (3, .int (zi 0)), (0, .ref (bd 0)), (1, .int (zi x0)), (2, .int (zi x1))]) hx hb dX8_paths_3 hl (by decide) rfl (fun ls hl => ?_)
  exact K_5 3601 3600 0 S (by first | omega | assumption) (by first | omega | assumption) (by rw [hdA]) rfl (fun q h0 h1 => absurd h1 (by omega)) (by omega) hI _ _ hP hS _ (lv_sub hl [2, 3, 4, 1, 0] rfl)

theorem in_X8_chanceOf_8 : ∀ w ∈ wsX80, w ∈ wsX8_chanceOf := by decide +kernel
theorem lk_X8_chanceOf_145 : Cond.fieldLink RX8 145 "PlanetoidDeskModel" "found" "I" ∈ wsX8_chanceOf := by decide +kernel
theorem lk_X8_chanceOf_67 : Cond.fieldLink RX8 67 "PlanetoidDeskModel" "comes" "[Z" ∈ wsX8_chanceOf := by decide +kernel
abbrev rmct_X8_chanceOf : Room := { frames := 5, cells := 0, slots := 0, locals := 115 }
set_option maxHeartbeats 4000000 in
set_option maxRecDepth 100000 in
theorem ct_X8_chanceOf (l : Launch) (D : va_G) (cI cZ cJ : ClassId) (bd : Nat → Nat) (S : ZS) (hI : MI S) (hdis : mDis bd) (x0 x1 x2 x3 : Int) (hx0 : ir x0) (hx1 : ir x1) (hx2 : ir x2) (hx3 : ir x3) (hp00 : 0 ≤ x0) (hp01 : x0 ≤ 19) (hp10 : 0 ≤ x1) (hp11 : x1 ≤ 999) (hp20 : 1 ≤ x2) (hp21 : x2 ≤ 60) (hs : x1 + x2 ≤ 1000) (hw3 : x3 = 0 ∨ x3 = 1) (hac : accM S) : Met l yX8_chanceOf wsX8_chanceOf rmct_X8_chanceOf (zP D cI cZ cJ (mW cI cZ bd S) [.ref (bd 0), .int (zi x0), .int (zi x1), .int (zi x2), .int (zi x3)]) (zWi D (mW cI cZ bd) (mA bd) (fun r T => r = chM x0 x1 x2 x3 S ∧ T = (chS x0 x1 x2 S).1 ∧ MI T)) 0 0 (mA bd) := by
  refine Met.ofW (cc := cX8_chanceOf) (maxL := 8) (ret := (some .int)) (by decide) rfl ?_
  intro p e s m args below meth c s₁ B hml hv
  obtain ⟨rfl, hP, hK⟩ := hv
  have hx := B.exec
  have hb := B.bytes
  have hr := B.returns
  have hts := atoms_spec (ws := wsX8_chanceOf) B.pre
  have hown : s.vm.findClass RX8 = some m.cls := findClass_of_methodNamed B.named
  have hlocks := B.notSynchronized
  have hl := lv_entry ([.ref (bd 0), .int (zi x0), .int (zi x1), .int (zi x2), .int (zi x3)]) (n := 8) (Nat.le_of_ble_eq_true rfl)
  rw [lg_entry_eq]
  generalize (lg_sl ([.ref (bd 0), .int (zi x0), .int (zi x1), .int (zi x2), .int (zi x3)]) ++ List.replicate (8 - (lg_sl ([.ref (bd 0), .int (zi x0), .int (zi x1), .int (zi x2), .int (zi x3)])).length) Slot.unset).toArray = ls at hl ⊢
  have hl : lv_has ls 8 [(0, .ref (bd 0)), (1, .int (zi x0)), (2, .int (zi x1)), (3, .int (zi x2)), (4, .int (zi x3))] := hl
  have hS : va_S (mA bd) s.heap s.heap [] := va_S.rf
  show W p l e rmct_X8_chanceOf s m ([.ref (bd 0), .int (zi x0), .int (zi x1), .int (zi x2), .int (zi x3)] : List Value).toArray below meth c s.heap [] 0 0 (MQ below (zWi D (mW cI cZ bd) (mA bd) (fun r T => r = chM x0 x1 x2 x3 S ∧ T = (chS x0 x1 x2 S).1 ∧ MI T)) ([.ref (bd 0), .int (zi x0), .int (zi x1), .int (zi x2), .int (zi x3)] : List Value).toArray s 0 0 (mA bd)) (F0 m 0 ls [])
  refine lv_aload_n hx hb dX8_chanceOf_0 rfl (lv_at hl 0 rfl) ?_
  refine lv_iload_n hx hb dX8_chanceOf_1 rfl (lv_at hl 1 rfl) ?_
  refine zk_wi (zc_V (As := [.int (zi x0)]) (rest := []) ⟨hx, hb, hml, hown, hts⟩ (ct_X8_orbitsOf l D cI cZ cJ bd S hI hdis x0 ⟨by omega, by omega⟩ (by omega) (by omega) hac) (cwV 1 hts gX8_chanceOf_X8_orbitsOf rfl rfl rfl (by decide +kernel) ⟨Nat.le_of_ble_eq_true rfl, Nat.le_of_ble_eq_true rfl⟩) hK hP (q0 := 0) (ci := 8) rfl rfl rfl rfl hl.1 rfl (Nat.le_of_ble_eq_true rfl) dX8_chanceOf_2 ⟨Nat.zero_le _, Nat.zero_le _⟩) hS (fun r_2 S_2 H locs hp_2 hP hS => ?_)
  obtain ⟨er_2, e9, hI_2⟩ := hp_2
  have eS_2 := e9.symm; clear e9
  have fr_2 : (0 : Int) ≤ r_2 ∧ r_2 ≤ 7695 := by rw [er_2, eS_2]; exact hI_2 21 0
  have K_18 : ∀ (al : Int) (T : ZS), ((T, al) = chS x0 x1 x2 S) → (0 ≤ al ∧ al ≤ 7695) → MI T → ∀ (H : Heap) (locs : List Loc), va_P D vwCl (mW cI cZ bd T) H → va_S (mA bd) s.heap H locs → ∀ (ls : Array Slot), lv_has ls 8 [(0, .ref (bd 0)), (1, .int (zi x0)), (2, .int (zi x1)), (3, .int (zi x2)), (4, .int (zi x3))] → W p l e rmct_X8_chanceOf s m ([.ref (bd 0), .int (zi x0), .int (zi x1), .int (zi x2), .int (zi x3)] : List Value).toArray below meth c H locs 0 0 (MQ below (zWi D (mW cI cZ bd) (mA bd) (fun r T => r = chM x0 x1 x2 x3 S ∧ T = (chS x0 x1 x2 S).1 ∧ MI T)) ([.ref (bd 0), .int (zi x0), .int (zi x1), .int (zi x2), .int (zi x3)] : List Value).toArray s 0 0 (mA bd)) (F0 m 18 ls [.int (zi al)]) := by
    intro al T h_C h_a hIT H locs hP hS ls hl
    refine lv_istore (lv' := [(5, .int (zi al)), (0, .ref (bd 0)), (1, .int (zi x0)), (2, .int (zi x1)), (3, .int (zi x2)), (4, .int (zi x3))]) hx hb dX8_chanceOf_18 hl (by decide) rfl (fun ls hl => ?_)
    have f_T0 : (0 : Int) ≤ T 21 0 ∧ T 21 0 ≤ 7695 := hIT 21 0
    refine zi_iconst hx hb dX8_chanceOf_20 ?_
    refine lv_istore (lv' := [(6, .int (zi 0)), (5, .int (zi al)), (0, .ref (bd 0)), (1, .int (zi x0)), (2, .int (zi x1)), (3, .int (zi x2)), (4, .int (zi x3))]) hx hb dX8_chanceOf_21 hl (by decide) rfl (fun ls hl => ?_)
    refine zi_iconst hx hb dX8_chanceOf_23 ?_
    have K_26 : ∀ (k : Nat) (n : Nat) (ne i : Int), (i + (n : Int) = T 21 0) → (0 ≤ i) → (0 ≤ ne ∧ ne ≤ i) → (itr (fun k acc => if ¬ T 27 k = 0 then acc + 1 else acc) n i ne = nearM T) → ((n : Int) < (k : Int)) → ∀ (ls : Array Slot), lv_has ls 8 [(0, .ref (bd 0)), (1, .int (zi x0)), (2, .int (zi x1)), (3, .int (zi x2)), (4, .int (zi x3)), (5, .int (zi al)), (6, .int (zi ne)), (7, .int (zi i))] → W p l e rmct_X8_chanceOf s m ([.ref (bd 0), .int (zi x0), .int (zi x1), .int (zi x2), .int (zi x3)] : List Value).toArray below meth c H locs 0 0 (MQ below (zWi D (mW cI cZ bd) (mA bd) (fun r T => r = chM x0 x1 x2 x3 S ∧ T = (chS x0 x1 x2 S).1 ∧ MI T)) ([.ref (bd 0), .int (zi x0), .int (zi x1), .int (zi x2), .int (zi x3)] : List Value).toArray s 0 0 (mA bd)) (F0 m 26 ls []) := by
      intro k
      induction k with
      | zero => intro n ne i h_n h_i h_b h_R hk; exact absurd hk (by omega)
      | succ k ih_26 =>
        intro n ne i h_n h_i h_b h_R hk ls hl
        have f_T : (0 : Int) ≤ T 21 0 ∧ T 21 0 ≤ 7695 := hIT 21 0
        refine lv_iload hx hb dX8_chanceOf_26 (lv_at hl 7 rfl) ?_
        refine lv_aload_n hx hb dX8_chanceOf_28 rfl (lv_at hl 0 rfl) ?_
        refine va_get (D := D) (ci := 8) (v := .int (zi (T 21 0))) (C := RX8) (T := TX8) (N := 32) hx hb hts in_X8_chanceOf_8 hown hK.1 hP 0 rfl rfl 21 (by decide) (hts _ lk_X8_chanceOf_145) (fun _ h9 => h9) rfl dX8_chanceOf_29 ?_
        have f_29 : (0 : Int) ≤ T 21 0 ∧ T 21 0 ≤ 7695 := hIT 21 0
        refine zi_icmp_ge (tgt := 61) hx hb ⟨by omega, by omega⟩ ⟨by omega, by omega⟩ dX8_chanceOf_32 (by decide) (fun c_32 => ?_) (fun c_32 => ?_)
        · obtain rfl : n = 0 := by omega
          have h_ne : ne = nearM T := h_R
          refine lv_iload hx hb dX8_chanceOf_61 (lv_at hl 5 rfl) ?_
          have K_77 : ∀ (by9 : Int), (by9 = byM al ne) → (1 ≤ by9 ∧ by9 ≤ 2147483647) → ∀ (ls : Array Slot), lv_has ls 8 [(0, .ref (bd 0)), (1, .int (zi x0)), (2, .int (zi x1)), (3, .int (zi x2)), (4, .int (zi x3)), (5, .int (zi al)), (6, .int (zi ne))] → W p l e rmct_X8_chanceOf s m ([.ref (bd 0), .int (zi x0), .int (zi x1), .int (zi x2), .int (zi x3)] : List Value).toArray below meth c H locs 0 0 (MQ below (zWi D (mW cI cZ bd) (mA bd) (fun r T => r = chM x0 x1 x2 x3 S ∧ T = (chS x0 x1 x2 S).1 ∧ MI T)) ([.ref (bd 0), .int (zi x0), .int (zi x1), .int (zi x2), .int (zi x3)] : List Value).toArray s 0 0 (mA bd)) (F0 m 77 ls [.int (zi by9)]) := by
            intro by9 h_by h_b1 ls hl
            have q_a : 0 ≤ al / by9 := Int.ediv_nonneg (by omega) (by omega)
            refine lv_istore (lv' := [(7, .int (zi by9)), (0, .ref (bd 0)), (1, .int (zi x0)), (2, .int (zi x1)), (3, .int (zi x2)), (4, .int (zi x3)), (5, .int (zi al)), (6, .int (zi ne))]) hx hb dX8_chanceOf_77 hl (by decide) rfl (fun ls hl => ?_)
            refine lv_iload hx hb dX8_chanceOf_79 (lv_at hl 5 rfl) ?_
            refine zi_if_eq (tgt := 92) hx hb ⟨by omega, by omega⟩ dX8_chanceOf_81 (by decide) (fun c_81 => ?_) (fun c_81 => ?_)
            · refine lv_iload hx hb dX8_chanceOf_92 (lv_at hl 7 rfl) ?_
              refine lv_iload hx hb dX8_chanceOf_94 (lv_at hl 0 rfl) ?_
              refine zi_idiv hx hb ⟨by omega, by omega⟩ ⟨by omega, by omega⟩ (by omega) (by omega) dX8_chanceOf_96 ?_
              exact zr_wi (T := T) hx hb hr hlocks dX8_chanceOf_97 hP hS (by exact ⟨by rw [chM, if_pos c_81, ← h_C, h_by, h_ne], by rw [← h_C], hIT⟩)
            · refine lv_iload hx hb dX8_chanceOf_84 (lv_at hl 6 rfl) ?_
              refine lv_iload hx hb dX8_chanceOf_86 (lv_at hl 0 rfl) ?_
              refine zi_idiv hx hb ⟨by omega, by omega⟩ ⟨by omega, by omega⟩ (by omega) (by omega) dX8_chanceOf_88 ?_
              refine lv_goto (tgt := 97) hx hb dX8_chanceOf_89 (by decide) ?_
              exact zr_wi (T := T) hx hb hr hlocks dX8_chanceOf_97 hP hS (by exact ⟨by rw [chM, if_neg c_81, ← h_C, h_by, h_ne], by rw [← h_C], hIT⟩)
          refine zi_if_ne (tgt := 70) hx hb ⟨by omega, by omega⟩ dX8_chanceOf_63 (by decide) (fun c_63 => ?_) (fun c_63 => ?_)
          · refine lv_iload hx hb dX8_chanceOf_70 (lv_at hl 5 rfl) ?_
            refine lv_iload hx hb dX8_chanceOf_72 (lv_at hl 6 rfl) ?_
            refine zk_r (zc_S (As := [.int (zi al), .int (zi ne)]) (rest := []) ⟨hx, hb, hml, hown, hts⟩ (ct_X8_common l D cI cZ cJ al ne ⟨by omega, by omega⟩ ⟨by omega, by omega⟩ (by omega) (by omega) (by omega) (by omega)) (va_cwS 2 hts gX8_chanceOf_X8_common rfl rfl rfl (by decide +kernel) ⟨Nat.le_of_ble_eq_true rfl, Nat.le_of_ble_eq_true rfl⟩) hK va_P_nil rfl hl.1 rfl (Nat.le_of_ble_eq_true rfl) dX8_chanceOf_74 ⟨Nat.zero_le _, Nat.zero_le _⟩) ?_
            refine zi_top (fun (r_74 : Int) (er_74 : r_74 = gcdC (ne.toNat + 1) al ne) => ?_)
            have fr_74 : (0 : Int) ≤ r_74 ∧ r_74 ≤ 2147483647 := by rw [er_74]; exact gcd_b _ _ _ (by omega) (by omega) (by omega) (by omega)
            exact K_77 r_74 (by rw [er_74]; exact (if_neg c_63).symm) (by have h9 := gcd_p (ne.toNat + 1) al ne (by omega) (by omega) (by omega); rw [← er_74] at h9; omega) _ (lv_sub hl [0, 1, 2, 3, 4, 5, 6] rfl)
          · refine zi_iconst hx hb dX8_chanceOf_66 ?_
            refine lv_goto (tgt := 77) hx hb dX8_chanceOf_67 (by decide) ?_
            exact K_77 1 (if_pos c_63).symm ⟨by decide, by decide⟩ _ (lv_sub hl [0, 1, 2, 3, 4, 5, 6] rfl)
        · obtain ⟨n, rfl⟩ : ∃ n9 : Nat, n = n9 + 1 := ⟨n - 1, by omega⟩
          refine lv_iload hx hb dX8_chanceOf_35 (lv_at hl 6 rfl) ?_
          refine lv_aload_n hx hb dX8_chanceOf_37 rfl (lv_at hl 0 rfl) ?_
          refine va_get (D := D) (ci := 8) (v := .ref (bd 28)) (C := RX8) (T := TX8) (N := 32) hx hb hts in_X8_chanceOf_8 hown hK.1 hP 0 rfl rfl 27 (by decide) (hts _ lk_X8_chanceOf_67) (fun _ h9 => h9) rfl dX8_chanceOf_38 ?_
          refine lv_iload hx hb dX8_chanceOf_41 (lv_at hl 7 rfl) ?_
          refine zi_bald hx hb hK.1 hP 20 1 rfl rfl (by omega) (by omega) (by decide) dX8_chanceOf_43 ?_
          have f_43 : (0 : Int) ≤ T 27 i ∧ T 27 i ≤ 1 := hIT 27 i
          refine zi_if_eq (tgt := 51) hx hb ⟨by omega, by omega⟩ dX8_chanceOf_44 (by decide) (fun c_44 => ?_) (fun c_44 => ?_)
          · refine zi_iconst hx hb dX8_chanceOf_51 ?_
            refine zi_iadd hx hb dX8_chanceOf_52 ?_
            refine zi_top (fun x6_53 ex6_53 => ?_)
            refine lv_istore (lv' := [(6, .int (zi x6_53)), (0, .ref (bd 0)), (1, .int (zi x0)), (2, .int (zi x1)), (3, .int (zi x2)), (4, .int (zi x3)), (5, .int (zi al)), (7, .int (zi i))]) hx hb dX8_chanceOf_53 hl (by decide) rfl (fun ls hl => ?_)
            refine zi_iinc (k := 7) (lv' := [(7, .int (zi (i + 1))), (6, .int (zi x6_53)), (0, .ref (bd 0)), (1, .int (zi x0)), (2, .int (zi x1)), (3, .int (zi x2)), (4, .int (zi x3)), (5, .int (zi al))]) hx hb dX8_chanceOf_55 hl rfl (by decide) rfl (fun ls hl => ?_)
            refine lv_goto (tgt := 26) hx hb dX8_chanceOf_58 (by decide) ?_
            exact ih_26 n x6_53 (i + 1) (by first | omega | assumption) (by first | omega | assumption) ⟨by omega, by omega⟩ (by rw [ex6_53, Int.add_zero]; exact itr_if_f (p := fun k => ¬ T 27 k = 0) h_R (fun h9 => h9 c_44)) (by omega) _ (lv_sub hl [2, 3, 4, 5, 6, 7, 1, 0] rfl)
          · refine zi_iconst hx hb dX8_chanceOf_47 ?_
            refine lv_goto (tgt := 52) hx hb dX8_chanceOf_48 (by decide) ?_
            refine zi_iadd hx hb dX8_chanceOf_52 ?_
            refine zi_top (fun x6_53 ex6_53 => ?_)
            refine lv_istore (lv' := [(6, .int (zi x6_53)), (0, .ref (bd 0)), (1, .int (zi x0)), (2, .int (zi x1)), (3, .int (zi x2)), (4, .int (zi x3)), (5, .int (zi al)), (7, .int (zi i))]) hx hb dX8_chanceOf_53 hl (by decide) rfl (fun ls hl => ?_)
            refine zi_iinc (k := 7) (lv' := [(7, .int (zi (i + 1))), (6, .int (zi x6_53)), (0, .ref (bd 0)), (1, .int (zi x0)), (2, .int (zi x1)), (3, .int (zi x2)), (4, .int (zi x3)), (5, .int (zi al))]) hx hb dX8_chanceOf_55 hl rfl (by decide) rfl (fun ls hl => ?_)
            refine lv_goto (tgt := 26) hx hb dX8_chanceOf_58 (by decide) ?_
            exact ih_26 n x6_53 (i + 1) (by first | omega | assumption) (by first | omega | assumption) ⟨by omega, by omega⟩ (by rw [ex6_53]; exact itr_if_t (p := fun k => ¬ T 27 k = 0) h_R c_44) (by omega) _ (lv_sub hl [2, 3, 4, 5, 6, 7, 1, 0] rfl)
    refine lv_istore (lv' := [(7, .int (zi 0)), (6, .int (zi 0)), (5, .int (zi al)), (0, .ref (bd 0)), (1, .int (zi x0)), (2, .int (zi x1)), (3, .int (zi x2)), (4, .int (zi x3))]) hx hb dX8_chanceOf_24 hl (by decide) rfl (fun ls hl => ?_)
    exact K_26 ((T 21 0).toNat + 1) ((T 21 0).toNat) 0 0 (by first | omega | assumption) (by first | omega | assumption) ⟨by decide, by decide⟩ (by rw [nearM]) (by omega) _ (lv_sub hl [3, 4, 5, 6, 7, 2, 1, 0] rfl)
  refine zi_if_ne (tgt := 12) hx hb ⟨by omega, by omega⟩ dX8_chanceOf_5 (by decide) (fun c_5 => ?_) (fun c_5 => ?_)
  · refine lv_aload_n hx hb dX8_chanceOf_12 rfl (lv_at hl 0 rfl) ?_
    refine lv_iload_n hx hb dX8_chanceOf_13 rfl (lv_at hl 2 rfl) ?_
    refine lv_iload_n hx hb dX8_chanceOf_14 rfl (lv_at hl 3 rfl) ?_
    refine zk_wi (zc_V (As := [.int (zi x1), .int (zi x2)]) (rest := []) ⟨hx, hb, hml, hown, hts⟩ (ct_X8_paths l D cI cZ cJ bd S_2 hI_2 hdis x1 x2 ⟨by omega, by omega⟩ ⟨by omega, by omega⟩ (by omega) (by omega) (by omega) (by omega) (by omega)) (cwV 2 hts gX8_chanceOf_X8_paths rfl rfl rfl (by decide +kernel) ⟨Nat.le_of_ble_eq_true rfl, Nat.le_of_ble_eq_true rfl⟩) hK hP (q0 := 0) (ci := 8) rfl rfl rfl rfl hl.1 rfl (Nat.le_of_ble_eq_true rfl) dX8_chanceOf_15 ⟨Nat.zero_le _, Nat.zero_le _⟩) hS (fun r_15 S_15 H locs hp_15 hP hS => ?_)
    obtain ⟨er_15, hI_15⟩ := hp_15
    exact K_18 r_15 S_15 (by rw [chS, if_neg (fun h9 => c_5 (er_2.trans h9)), eS_2]; exact er_15.1) er_15.2 hI_15 _ _ hP hS _ (lv_sub hl [0, 1, 2, 3, 4] rfl)
  · refine zi_iconst hx hb dX8_chanceOf_8 ?_
    refine lv_goto (tgt := 18) hx hb dX8_chanceOf_9 (by decide) ?_
    exact K_18 0 S_2 (by rw [chS, if_pos (er_2.symm.trans c_5), eS_2]) ⟨by decide, by decide⟩ hI_2 _ _ hP hS _ (lv_sub hl [0, 1, 2, 3, 4] rfl)

