theorem in_X5_fill_5 : ∀ w ∈ wsX50, w ∈ wsX5_fill := by decide +kernel
theorem lk_X5_fill_7 : Cond.fieldLink RX5 7 "PlanetoidDesk$Row" "cells" "[I" ∈ wsX5_fill := by decide +kernel
abbrev rmct_X5_fill : Room := { frames := 0, cells := 0, slots := 0, locals := 0 }
set_option maxHeartbeats 4000000 in
set_option maxRecDepth 100000 in
theorem ct_X5_fill (l : Launch) (D : va_G) (cI cZ cJ : ClassId) (ws : va_W) (A : Nat → Prop) (h b i j n : Nat) (g : Int → Int) (v : Int) (hi : ws[i]? = some (h, .inr (5, [.ref b]))) (hj : j < ws.length) (hij : i ≠ j) (hD : ∀ g, va_D A (rW ws j b cI n g)) (hn : n < 2147483648) : Met l yX5_fill wsX5_fill rmct_X5_fill (zP D cI cZ cJ (rW ws j b cI n g) [.ref h, .int (zi v)]) (va_Qv (S := Int → Int) (fun g9 => g9 = rFill n g v) (fun g9 t => va_P D vwCl (rW ws j b cI n g9) t.heap) A) 0 0 A := by
  refine Met.ofW (cc := cX5_fill) (maxL := 3) (ret := none) (by decide) rfl ?_
  intro p e s m args below meth c s₁ B hml hv
  obtain ⟨rfl, hP, hK⟩ := hv
  have hx := B.exec
  have hb := B.bytes
  have hr := B.returns
  have hts := atoms_spec (ws := wsX5_fill) B.pre
  have hown : s.vm.findClass RX5 = some m.cls := findClass_of_methodNamed B.named
  have hlocks := B.notSynchronized
  have hl := lv_entry ([.ref h, .int (zi v)]) (n := 3) (Nat.le_of_ble_eq_true rfl)
  rw [lg_entry_eq]
  generalize (lg_sl ([.ref h, .int (zi v)]) ++ List.replicate (3 - (lg_sl ([.ref h, .int (zi v)])).length) Slot.unset).toArray = ls at hl ⊢
  have hl : lv_has ls 3 [(0, .ref h), (1, .int (zi v))] := hl
  have hS : va_S A s.heap s.heap [] := va_S.rf
  have K : ∀ (k : Nat) (i2 : Int) (g9 : Int → Int), 0 ≤ i2 → i2 ≤ (n : Int) → (g9 = fun q => if 0 ≤ q ∧ q < i2 then v else g q) → ((n : Int) - i2 < (k : Int)) → ∀ (H : Heap) (locs : List Loc), va_P D vwCl (rW ws j b cI n g9) H → va_S A s.heap H locs → ∀ (ls : Array Slot), lv_has ls 3 [(0, .ref h), (1, .int (zi v)), (2, .int (zi i2))] → W p l e rmct_X5_fill s m ([.ref h, .int (zi v)] : List Value).toArray below meth c H locs 0 0 (MQ below (va_Qv (S := Int → Int) (fun g9 => g9 = rFill n g v) (fun g9 t => va_P D vwCl (rW ws j b cI n g9) t.heap) A) ([.ref h, .int (zi v)] : List Value).toArray s 0 0 A) (F0 m 2 ls []) := by
    intro k
    induction k with
    | zero => intro i2 g9 h0 h1 hg hk; exact absurd hk (by omega)
    | succ k ih =>
      intro i2 g9 h0 h1 hg hk H locs hP hS ls hl
      refine lv_iload_n hx hb dX5_fill_2 rfl (lv_at hl 2 rfl) ?_
      refine lv_aload_n hx hb dX5_fill_3 rfl (lv_at hl 0 rfl) ?_
      refine va_get (D := D) (ci := 5) (v := .ref b) (C := RX5) (T := TX5) (N := 1) hx hb hts in_X5_fill_5 hown hK.1 hP i (rW_o hi hij) rfl 0 (by decide) (hts _ lk_X5_fill_7) (fun _ h9 => h9) rfl dX5_fill_4 ?_
      refine va_alen hx hb hK.1 hP j 0 (rW_a hj) rfl (v := zi n) (zi_nat n) dX5_fill_7 ?_
      refine zi_icmp_ge (tgt := 24) hx hb ⟨by omega, by omega⟩ ⟨by omega, by omega⟩ dX5_fill_8 (by decide) (fun c_8 => ?_) (fun c_8 => ?_)
      · have e2 : g9 = rFill n g v := by
          have e3 : i2 = (n : Int) := by omega
          rw [hg, e3]; rfl
        exact W.vret hx hb hr (fun t ht _ => ⟨⟨_, rfl, rfl, by show va_P D vwCl (rW ws j b cI n (rFill n g v)) t.heap; rw [ht, ← e2]; exact hP⟩, hS.F ht⟩) hS.2.2 dX5_fill_24 hlocks
      · refine lv_aload_n hx hb dX5_fill_11 rfl (lv_at hl 0 rfl) ?_
        refine va_get (D := D) (ci := 5) (v := .ref b) (C := RX5) (T := TX5) (N := 1) hx hb hts in_X5_fill_5 hown hK.1 hP i (rW_o hi hij) rfl 0 (by decide) (hts _ lk_X5_fill_7) (fun _ h9 => h9) rfl dX5_fill_12 ?_
        refine lv_iload_n hx hb dX5_fill_15 rfl (lv_at hl 2 rfl) ?_
        refine lv_iload_n hx hb dX5_fill_16 rfl (lv_at hl 1 rfl) ?_
        refine zi_iast hx hb hK.1 hP (hD g9) hS j 0 (rW_a hj) rfl (by omega) (by omega) hn dX5_fill_17 (fun H locs hP hS => ?_)
        rw [rW_s] at hP
        refine zi_iinc (k := 2) (lv' := [(2, .int (zi (i2 + 1))), (0, .ref h), (1, .int (zi v))]) hx hb dX5_fill_18 hl rfl (by decide) rfl (fun ls hl => ?_)
        refine lv_goto (tgt := 2) hx hb dX5_fill_21 (by decide) ?_
        exact ih (i2 + 1) (up g9 i2 v) (by omega) (by omega) (by
          funext q
          rw [hg]
          by_cases hq : q = i2
          · subst hq; rw [up_s, if_pos ⟨h0, by omega⟩]
          · rw [up_n _ _ hq]
            by_cases h3 : 0 ≤ q ∧ q < i2
            · rw [if_pos h3, if_pos ⟨h3.1, by omega⟩]
            · rw [if_neg h3, if_neg (by omega)]) (by omega) H locs hP hS ls (lv_sub hl [1, 2, 0] rfl)
  show W p l e rmct_X5_fill s m ([.ref h, .int (zi v)] : List Value).toArray below meth c s.heap [] 0 0 (MQ below (va_Qv (S := Int → Int) (fun g9 => g9 = rFill n g v) (fun g9 t => va_P D vwCl (rW ws j b cI n g9) t.heap) A) ([.ref h, .int (zi v)] : List Value).toArray s 0 0 A) (F0 m 0 ls [])
  refine zi_iconst hx hb dX5_fill_0 ?_
  refine lv_istore_n (lv' := [(2, .int (zi 0)), (0, .ref h), (1, .int (zi v))]) hx hb dX5_fill_1 rfl hl (by decide) rfl (fun ls hl => ?_)
  exact K (n + 1) 0 g (by omega) (by omega) (by funext q; rw [if_neg (by omega)]) (by omega) _ _ hP hS ls (lv_sub hl [1, 2, 0] rfl)


