/-! the reference, fourth part -/
theorem cn_step {G : ZS} {k lo hi ni a b c : Int} (ha : a = if nM G (G 20 k) < lo then nM G (G 20 k) else lo) (hb : b = if hi < nM G (G 20 k) then nM G (G 20 k) else hi) (hc : c = ni + (1 - b2 (seenM G k))) : (a, b, c) = cnG G k (lo, hi, ni) := by
  subst ha; subst hb; subst hc; rfl
def hdF (k : Int) (T : ZS) : ZS := su T 24 (up (T 24) k (-1))
def secM (n k f : Int) (T : ZS) : Int := if n = 1 then 0 else plM (T 22 k) (f + 1)
def thiM (n k f : Int) (T : ZS) : Int := if 3 ≤ n then plM (T 22 k) (f + 2) else 0
def wayM (f n k : Int) (T : ZS) : Int := 3600 * secM n k f T + thiM n k f T
noncomputable def chR (T : ZS) (w : Int) : Nat → Int → Int → Int
  | 0, _, s => s
  | m + 1, j, s => if j = -1 then s else chR T w m (T 25 j) (b2 (¬ s = 0 ∨ T 26 j = w))
noncomputable def senM (f n k : Int) (T : ZS) : Int := chR T (wayM f n k T) (k.toNat + 1) (T 24 (plM (T 22 k) f)) 0
noncomputable def cmM (f n k : Int) (T : ZS) : Int := b2 (senM f n k T = 0 ∧ isNP (T 22 k) f n)
noncomputable def paT (f n k : Int) (T : ZS) : ZS := su (su T 26 (up (T 26) k (wayM f n k T))) 27 (up (T 27) k (cmM f n k T))
noncomputable def paU (f n k : Int) (T : ZS) : ZS := su (su (paT f n k T) 25 (up (T 25) k (T 24 (plM (T 22 k) f)))) 24 (up (T 24) (plM (T 22 k) f) k)
noncomputable def paF (f n k : Int) (q : ZS × Int) : ZS × Int := if senM f n k q.1 = 0 then (paU f n k q.1, q.2 + 1) else (paT f n k q.1, q.2)
def hdA (S : ZS) : ZS := itr hdF 3600 0 S
noncomputable def paM (f n : Int) (S : ZS) : ZS × Int := itr (paF f n) (S 21 0).toNat 0 (hdA S, 0)
theorem hd_n {n : Nat} {j : Int} {S : ZS} {r : Nat} (h : r ≠ 24) : itr hdF n j S r = S r := itr_keep (fun _ _ => su_n _ _ h) _ _ _
theorem hdA_n {S : ZS} {r : Nat} (h : r ≠ 24) : hdA S r = S r := by unfold hdA; exact hd_n h
theorem SM_hd {S : ZS} : SM S (hdA S) := fun _ hk => hdA_n (scm_ne hk rfl)
theorem SM_pa {f n : Int} {S : ZS} : SM S (paM f n S).1 := by
  have h := itr_inv (f := paF f n) (P := fun _ q => SM S q.1) (fun j q hq => by
    have hq : SM S q.1 := hq
    show SM S (paF f n j q).1
    unfold paF; split
    · exact hq.tr ((SM_su rfl).tr ((SM_su rfl).tr ((SM_su rfl).tr (SM_su rfl))))
    · exact hq.tr ((SM_su rfl).tr (SM_su rfl))) (S 21 0).toNat 0 (hdA S, 0) (by dsimp only; exact SM_hd)
  exact h
noncomputable def chS (b f n : Int) (S : ZS) : ZS × Int := if findM (laysM b S) 21 0 = 0 then (findM (laysM b S), 0) else paM f n (findM (laysM b S))
def nearM (T : ZS) : Int := itr (fun k acc => if ¬ T 27 k = 0 then acc + 1 else acc) (T 21 0).toNat 0 0
def byM (al ne : Int) : Int := if al = 0 then 1 else gcdC (ne.toNat + 1) al ne
theorem gcd_p : ∀ (n : Nat) (a b : Int), 0 < a → 0 ≤ b → b < n → 0 < gcdC n a b := by
  intro n
  induction n with
  | zero => intro a b _ h1 h2; omega
  | succ n ih =>
    intro a b h0 h1 h2
    unfold gcdC; split
    · exact h0
    · rename_i hb
      have q1 : 0 ≤ a % b := Int.emod_nonneg _ hb
      have q2 : a % b < b := Int.emod_lt_of_pos _ (by omega)
      exact ih b (a % b) (by omega) q1 (by omega)
noncomputable def chM (b f n w : Int) (S : ZS) : Int := if w = 0 then nearM (chS b f n S).1 / byM (chS b f n S).2 (nearM (chS b f n S).1) else (chS b f n S).2 / byM (chS b f n S).2 (nearM (chS b f n S).1)
theorem SM_ch {b f n : Int} {S : ZS} : SM S (chS b f n S).1 := by
  unfold chS; split
  · dsimp only; exact SM_la.tr SM_fd
  · exact SM_la.tr (SM_fd.tr SM_pa)
def rcF (k : Int) (T : ZS) : ZS := su T 30 (up (T 30) k (if 0 < T 14 k then k else -1))
noncomputable def rcG (m c : Int) (T : ZS) : ZS := su T 30 (up (T 30) (c / T 11 0) (cif (akM T (c / T 11 0) (c % T 11 0) m ∧ T 14 (T 30 (c % T 11 0)) < T 14 (T 30 (c / T 11 0))) (T 30 (c % T 11 0)) (T 30 (c / T 11 0))))
noncomputable def rcO (m : Int) (_ : Int) (T : ZS) : ZS := itr (rcG m) (T 11 0 * T 11 0).toNat 0 T
noncomputable def rcM (m : Int) (S : ZS) : ZS := itr (rcO m) (S 11 0).toNat 0 (itr rcF (S 11 0).toNat 0 S)
theorem rc_n {m : Int} {S : ZS} {r : Nat} (h : r ≠ 30) : rcM m S r = S r := by
  unfold rcM
  rw [itr_keep (f := rcO m) (k := r) (fun _ _ => itr_keep (fun _ _ => su_n _ _ h) _ _ _) _ _ _, itr_keep (f := rcF) (k := r) (fun _ _ => su_n _ _ h) _ _ _]
theorem SM_rc {m : Int} {S : ZS} : SM S (rcM m S) := fun _ hk => rc_n (scm_ne hk rfl)
theorem sq_pos {c B : Int} (h0 : 0 ≤ c) (hB : 0 ≤ B) (h : c < B * B) : 0 < B ∧ c / B < B ∧ 0 ≤ c / B ∧ 0 ≤ c % B ∧ c % B < B := by
  have h1 : 0 < B := by
    rcases Int.lt_or_eq_of_le hB with h2 | h2
    · exact h2
    · subst h2; omega
  exact ⟨h1, Int.ediv_lt_of_lt_mul h1 h, Int.ediv_nonneg h0 hB, Int.emod_nonneg _ (by omega), Int.emod_lt_of_pos _ h1⟩
theorem sq_le {B : Int} (h0 : 0 ≤ B) (h1 : B ≤ 20) : 0 ≤ B * B ∧ B * B ≤ 400 := ⟨Int.mul_nonneg h0 h0, Int.mul_le_mul h1 h1 h0 (by decide)⟩
def lsF (L : ZS) (p r k a : Int) : Int := if nM L (L 20 k) % p = r ∧ L 9 (L 20 k) < a then L 9 (L 20 k) else a
def msF (L : ZS) (p r k a : Int) : Int := if nM L (L 20 k) % p = r ∧ a < L 9 (L 20 k) then L 9 (L 20 k) else a
def lsA (L : ZS) (p r : Int) (n : Nat) : Int := itr (lsF L p r) n 0 100
def msA (L : ZS) (p r : Int) (n : Nat) : Int := itr (msF L p r) n 0 0
def flR (L : ZS) (p r : Int) : Int := if lsA L p r (L 19 0).toNat < 100 then msA L p r (L 19 0).toNat - lsA L p r (L 19 0).toNat else 0
def flM (L : ZS) (p : Int) : Int := itr (fun r acc => acc + flR L p r) p.toNat 0 0
theorem itr_l {σ : Type} (f : Int → σ → σ) : ∀ (n : Nat) (j : Int) (s : σ), itr f (n + 1) j s = f (j + n) (itr f n j s) := by
  intro n
  induction n with
  | zero => intro j s; show f j s = f (j + ((0 : Nat) : Int)) s; rw [show j + ((0 : Nat) : Int) = j by omega]
  | succ n ih => intro j s; rw [itr_s, ih, itr_s, show j + ((n + 1 : Nat) : Int) = j + 1 + (n : Int) by omega]
theorem itr_li {σ : Type} (f : Int → σ → σ) {i : Int} (h : 0 ≤ i) (s : σ) : itr f (i + 1).toNat 0 s = f i (itr f i.toNat 0 s) := by
  rw [show (i + 1).toNat = i.toNat + 1 by omega, itr_l, Int.toNat_of_nonneg h, Int.zero_add]
theorem itr_cg {σ : Type} {f g : Int → σ → σ} (h : f = g) (n : Nat) (j : Int) (s : σ) : itr f n j s = itr g n j s := by rw [h]
theorem fl_c {S T : ZS} (h5 : T 5 = S 5) (h7 : T 7 = S 7) (h9 : T 9 = S 9) (h19 : T 19 = S 19) (h20 : T 20 = S 20) (p : Int) : flM T p = flM S p := by
  have e1 : ∀ r k a, lsF T p r k a = lsF S p r k a := fun r k a => by unfold lsF nM; rw [h5, h7, h9, h20]
  have e2 : ∀ r k a, msF T p r k a = msF S p r k a := fun r k a => by unfold msF nM; rw [h5, h7, h9, h20]
  have e3 : ∀ r n, lsA T p r n = lsA S p r n := fun r n => by unfold lsA; exact itr_cg (funext fun k => funext fun a => e1 r k a) _ _ _
  have e4 : ∀ r n, msA T p r n = msA S p r n := fun r n => by unfold msA; exact itr_cg (funext fun k => funext fun a => e2 r k a) _ _ _
  unfold flM
  exact itr_cg (funext fun r => funext fun acc => by unfold flR; rw [h19, e3, e4]) _ _ _
def tuF (L : ZS) (p b : Int) : Int := if flM L p < flM L b then p else b
def tuB (L : ZS) : Int := itr (tuF L) 18 3 2
noncomputable def tuM (S : ZS) (b w : Int) : Int := if laysM b S 19 0 < 4 then -1 else if w = 0 then tuB (laysM b S) else flM (laysM b S) (tuB (laysM b S))
theorem in_X8_canNumber_8 : ∀ w ∈ wsX80, w ∈ wsX8_canNumber := by decide +kernel
theorem lk_X8_canNumber_34 : Cond.fieldLink RX8 34 "PlanetoidDeskModel" "above" "[I" ∈ wsX8_canNumber := by decide +kernel
theorem lk_X8_canNumber_40 : Cond.fieldLink RX8 40 "PlanetoidDeskModel" "numberOf" "[I" ∈ wsX8_canNumber := by decide +kernel
theorem lk_X8_canNumber_127 : Cond.fieldLink RX8 127 "PlanetoidDeskModel" "looks" "I" ∈ wsX8_canNumber := by decide +kernel
theorem lk_X8_canNumber_145 : Cond.fieldLink RX8 145 "PlanetoidDeskModel" "found" "I" ∈ wsX8_canNumber := by decide +kernel
theorem lk_X8_canNumber_49 : Cond.fieldLink RX8 49 "PlanetoidDeskModel" "look" "[I" ∈ wsX8_canNumber := by decide +kernel
abbrev rmct_X8_canNumber : Room := { frames := 5, cells := 0, slots := 0, locals := 114 }
set_option maxHeartbeats 4000000 in
set_option maxRecDepth 100000 in
theorem ct_X8_canNumber (l : Launch) (D : va_G) (cI cZ cJ : ClassId) (bd : Nat → Nat) (S : ZS) (hI : MI S) (hdis : mDis bd) (x0 : Int) (hx0 : ir x0) (hp00 : 0 ≤ x0) (hp01 : x0 ≤ 19) (hac : accM S) : Met l yX8_canNumber wsX8_canNumber rmct_X8_canNumber (zP D cI cZ cJ (mW cI cZ bd S) [.ref (bd 0), .int (zi x0)]) (zWi D (mW cI cZ bd) (mA bd) (fun r T => r = b2 (cnP S x0) ∧ (¬ r = 0 → T = findM (laysM x0 S)) ∧ SM S T ∧ MI T)) 0 0 (mA bd) := by
  refine Met.ofW (cc := cX8_canNumber) (maxL := 9) (ret := (some .boolean)) (by decide) rfl ?_
  intro p e s m args below meth c s₁ B hml hv
  obtain ⟨rfl, hP, hK⟩ := hv
  have hx := B.exec
  have hb := B.bytes
  have hr := B.returns
  have hts := atoms_spec (ws := wsX8_canNumber) B.pre
  have hown : s.vm.findClass RX8 = some m.cls := findClass_of_methodNamed B.named
  have hlocks := B.notSynchronized
  have hl := lv_entry ([.ref (bd 0), .int (zi x0)]) (n := 9) (Nat.le_of_ble_eq_true rfl)
  rw [lg_entry_eq]
  generalize (lg_sl ([.ref (bd 0), .int (zi x0)]) ++ List.replicate (9 - (lg_sl ([.ref (bd 0), .int (zi x0)])).length) Slot.unset).toArray = ls at hl ⊢
  have hl : lv_has ls 9 [(0, .ref (bd 0)), (1, .int (zi x0))] := hl
  have hS : va_S (mA bd) s.heap s.heap [] := va_S.rf
  show W p l e rmct_X8_canNumber s m ([.ref (bd 0), .int (zi x0)] : List Value).toArray below meth c s.heap [] 0 0 (MQ below (zWi D (mW cI cZ bd) (mA bd) (fun r T => r = b2 (cnP S x0) ∧ (¬ r = 0 → T = findM (laysM x0 S)) ∧ SM S T ∧ MI T)) ([.ref (bd 0), .int (zi x0)] : List Value).toArray s 0 0 (mA bd)) (F0 m 0 ls [])
  refine lv_aload_n hx hb dX8_canNumber_0 rfl (lv_at hl 0 rfl) ?_
  refine va_get (D := D) (ci := 8) (v := .ref (bd 13)) (C := RX8) (T := TX8) (N := 32) hx hb hts in_X8_canNumber_8 hown hK.1 hP 0 rfl rfl 12 (by decide) (hts _ lk_X8_canNumber_34) (fun _ h9 => h9) rfl dX8_canNumber_1 ?_
  refine lv_iload_n hx hb dX8_canNumber_4 rfl (lv_at hl 1 rfl) ?_
  refine zi_iald hx hb hK.1 hP 9 0 rfl rfl (by omega) (by omega) (by decide) dX8_canNumber_5 ?_
  have f_5 : (-1 : Int) ≤ S 12 x0 ∧ S 12 x0 ≤ 19 := hI 12 x0
  refine zi_iconst hx hb dX8_canNumber_6 ?_
  refine zi_icmp_ne (tgt := 19) hx hb ⟨by omega, by omega⟩ ⟨by decide, by decide⟩ dX8_canNumber_7 (by decide) (fun c_7 => ?_) (fun c_7 => ?_)
  · refine zi_iconst hx hb dX8_canNumber_19 ?_
    exact zr_wz (T := S) hx hb hr hlocks dX8_canNumber_20 (Or.inl rfl) hP hS (by exact ⟨(b2_f (fun h9 => c_7 h9.1)).symm, fun h9 => absurd rfl h9, SM.rf, hI⟩)
  · refine lv_aload_n hx hb dX8_canNumber_10 rfl (lv_at hl 0 rfl) ?_
    refine va_get (D := D) (ci := 8) (v := .ref (bd 15)) (C := RX8) (T := TX8) (N := 32) hx hb hts in_X8_canNumber_8 hown hK.1 hP 0 rfl rfl 14 (by decide) (hts _ lk_X8_canNumber_40) (fun _ h9 => h9) rfl dX8_canNumber_11 ?_
    refine lv_iload_n hx hb dX8_canNumber_14 rfl (lv_at hl 1 rfl) ?_
    refine zi_iald hx hb hK.1 hP 11 0 rfl rfl (by omega) (by omega) (by decide) dX8_canNumber_15 ?_
    have f_15 : (0 : Int) ≤ S 14 x0 ∧ S 14 x0 ≤ 20 := hI 14 x0
    refine zi_if_le (tgt := 21) hx hb ⟨by omega, by omega⟩ dX8_canNumber_16 (by decide) (fun c_16 => ?_) (fun c_16 => ?_)
    · refine lv_aload_n hx hb dX8_canNumber_21 rfl (lv_at hl 0 rfl) ?_
      refine lv_iload_n hx hb dX8_canNumber_22 rfl (lv_at hl 1 rfl) ?_
      refine zk_wv (zc_V (As := [.int (zi x0)]) (rest := []) ⟨hx, hb, hml, hown, hts⟩ (ct_X8_lays l D cI cZ cJ bd S hI hdis x0 ⟨by omega, by omega⟩ (by omega) (by omega) hac) (cwV 1 hts gX8_canNumber_X8_lays rfl rfl rfl (by decide +kernel) ⟨Nat.le_of_ble_eq_true rfl, Nat.le_of_ble_eq_true rfl⟩) hK hP (q0 := 0) (ci := 8) rfl rfl rfl rfl hl.1 rfl (Nat.le_of_ble_eq_true rfl) dX8_canNumber_23 ⟨Nat.zero_le _, Nat.zero_le _⟩) hS (fun S_23 H locs hp_23 hP hS => ?_)
      obtain ⟨e9, hI_23⟩ := hp_23
      have eS_23 := e9.symm; clear e9
      have fk_19 : (0 : Int) ≤ S_23 19 0 ∧ S_23 19 0 ≤ 60 := hI_23 19 0
      refine zi_sipush hx hb dX8_canNumber_26 (by decide) ?_
      refine lv_istore_n (lv' := [(2, .int (zi 1000)), (0, .ref (bd 0)), (1, .int (zi x0))]) hx hb dX8_canNumber_29 rfl hl (by decide) rfl (fun ls hl => ?_)
      refine zi_iconst hx hb dX8_canNumber_30 ?_
      refine lv_istore_n (lv' := [(3, .int (zi 0)), (2, .int (zi 1000)), (0, .ref (bd 0)), (1, .int (zi x0))]) hx hb dX8_canNumber_31 rfl hl (by decide) rfl (fun ls hl => ?_)
      refine zi_iconst hx hb dX8_canNumber_32 ?_
      refine lv_istore (lv' := [(4, .int (zi 0)), (3, .int (zi 0)), (2, .int (zi 1000)), (0, .ref (bd 0)), (1, .int (zi x0))]) hx hb dX8_canNumber_33 hl (by decide) rfl (fun ls hl => ?_)
      refine zi_iconst hx hb dX8_canNumber_35 ?_
      have K_38 : ∀ (k : Nat) (n : Nat) (lo hi ni k9 : Int), (k9 + (n : Int) = S_23 19 0) → (0 ≤ k9) → (0 ≤ lo ∧ lo ≤ 1000 ∧ 0 ≤ hi ∧ hi ≤ 999 ∧ 0 ≤ ni ∧ ni ≤ k9) → (itr (cnG S_23) n k9 (lo, hi, ni) = cnA S_23) → ((n : Int) < (k : Int)) → ∀ (ls : Array Slot), lv_has ls 9 [(0, .ref (bd 0)), (1, .int (zi x0)), (2, .int (zi lo)), (3, .int (zi hi)), (4, .int (zi ni)), (5, .int (zi k9))] → W p l e rmct_X8_canNumber s m ([.ref (bd 0), .int (zi x0)] : List Value).toArray below meth c H locs 0 0 (MQ below (zWi D (mW cI cZ bd) (mA bd) (fun r T => r = b2 (cnP S x0) ∧ (¬ r = 0 → T = findM (laysM x0 S)) ∧ SM S T ∧ MI T)) ([.ref (bd 0), .int (zi x0)] : List Value).toArray s 0 0 (mA bd)) (F0 m 38 ls []) := by
        intro k
        induction k with
        | zero => intro n lo hi ni k9 h_n h_i h_b h_R hk; exact absurd hk (by omega)
        | succ k ih_38 =>
          intro n lo hi ni k9 h_n h_i h_b h_R hk ls hl
          refine lv_iload hx hb dX8_canNumber_38 (lv_at hl 5 rfl) ?_
          refine lv_aload_n hx hb dX8_canNumber_40 rfl (lv_at hl 0 rfl) ?_
          refine va_get (D := D) (ci := 8) (v := .int (zi (S_23 19 0))) (C := RX8) (T := TX8) (N := 32) hx hb hts in_X8_canNumber_8 hown hK.1 hP 0 rfl rfl 19 (by decide) (hts _ lk_X8_canNumber_127) (fun _ h9 => h9) rfl dX8_canNumber_41 ?_
          have f_41 : (0 : Int) ≤ S_23 19 0 ∧ S_23 19 0 ≤ 60 := hI_23 19 0
          refine zi_icmp_ge (tgt := 154) hx hb ⟨by omega, by omega⟩ ⟨by omega, by omega⟩ dX8_canNumber_44 (by decide) (fun c_44 => ?_) (fun c_44 => ?_)
          · obtain rfl : n = 0 := by omega
            have q9 : cnA S_23 = (lo, hi, ni) := h_R.symm
            refine lv_iload hx hb dX8_canNumber_154 (lv_at hl 4 rfl) ?_
            refine zi_iconst hx hb dX8_canNumber_156 ?_
            refine zi_icmp_le (tgt := 187) hx hb ⟨by omega, by omega⟩ ⟨by decide, by decide⟩ dX8_canNumber_157 (by decide) (fun c_157 => ?_) (fun c_157 => ?_)
            · refine zi_iconst hx hb dX8_canNumber_187 ?_
              exact zr_wz (T := S_23) hx hb hr hlocks dX8_canNumber_188 (Or.inl rfl) hP hS (by exact ⟨(b2_f (fun h9 => by have h8 := h9.2.2.1; rw [eS_23, q9] at h8; exact absurd h8 (by show ¬ 2 < ni; omega))).symm, fun h9 => absurd rfl h9, by rw [← eS_23]; exact SM_la, hI_23⟩)
            · refine lv_iload_n hx hb dX8_canNumber_160 rfl (lv_at hl 3 rfl) ?_
              refine lv_iload_n hx hb dX8_canNumber_161 rfl (lv_at hl 2 rfl) ?_
              refine zi_isub hx hb dX8_canNumber_162 ?_
              refine zi_bipush hx hb dX8_canNumber_163 (by decide) ?_
              refine zi_icmp_le (tgt := 187) hx hb ⟨by omega, by omega⟩ ⟨by decide, by decide⟩ dX8_canNumber_165 (by decide) (fun c_165 => ?_) (fun c_165 => ?_)
              · refine zi_iconst hx hb dX8_canNumber_187 ?_
                exact zr_wz (T := S_23) hx hb hr hlocks dX8_canNumber_188 (Or.inl rfl) hP hS (by exact ⟨(b2_f (fun h9 => by have h8 := h9.2.2.2.1; rw [eS_23, q9] at h8; exact absurd h8 (by show ¬ 29 < hi - lo; omega))).symm, fun h9 => absurd rfl h9, by rw [← eS_23]; exact SM_la, hI_23⟩)
              · refine lv_aload_n hx hb dX8_canNumber_168 rfl (lv_at hl 0 rfl) ?_
                refine zk_wi (zc_V (As := []) (rest := []) ⟨hx, hb, hml, hown, hts⟩ (ct_X8_hasOrbit l D cI cZ cJ bd S_23 hI_23 hdis  ) (cwV 0 hts gX8_canNumber_X8_hasOrbit rfl rfl rfl (by decide +kernel) ⟨Nat.le_of_ble_eq_true rfl, Nat.le_of_ble_eq_true rfl⟩) hK hP (q0 := 0) (ci := 8) rfl rfl rfl rfl hl.1 rfl (Nat.le_of_ble_eq_true rfl) dX8_canNumber_169 ⟨Nat.zero_le _, Nat.zero_le _⟩) hS (fun r_169 S_169 H locs hp_169 hP hS => ?_)
                obtain ⟨er_169, e9, hI_169⟩ := hp_169
                have eS_169 := e9.symm; clear e9
                have fr_169 : (0 : Int) ≤ r_169 ∧ r_169 ≤ 1 := by rw [er_169]; exact b2_b
                refine zi_if_eq (tgt := 187) hx hb ⟨by omega, by omega⟩ dX8_canNumber_172 (by decide) (fun c_172 => ?_) (fun c_172 => ?_)
                · refine zi_iconst hx hb dX8_canNumber_187 ?_
                  exact zr_wz (T := S_169) hx hb hr hlocks dX8_canNumber_188 (Or.inl rfl) hP hS (by exact ⟨(b2_f (fun h9 => b2_0 er_169 c_172 (by rw [← eS_23]; exact h9.2.2.2.2.1))).symm, fun h9 => absurd rfl h9, by rw [← eS_169, ← eS_23]; exact SM_la.tr SM_fd, hI_169⟩)
                · refine lv_aload_n hx hb dX8_canNumber_175 rfl (lv_at hl 0 rfl) ?_
                  refine va_get (D := D) (ci := 8) (v := .int (zi (S_169 21 0))) (C := RX8) (T := TX8) (N := 32) hx hb hts in_X8_canNumber_8 hown hK.1 hP 0 rfl rfl 21 (by decide) (hts _ lk_X8_canNumber_145) (fun _ h9 => h9) rfl dX8_canNumber_176 ?_
                  have f_176 : (0 : Int) ≤ S_169 21 0 ∧ S_169 21 0 ≤ 7695 := hI_169 21 0
                  refine zi_iconst hx hb dX8_canNumber_179 ?_
                  refine zi_icmp_ne (tgt := 187) hx hb ⟨by omega, by omega⟩ ⟨by decide, by decide⟩ dX8_canNumber_180 (by decide) (fun c_180 => ?_) (fun c_180 => ?_)
                  · refine zi_iconst hx hb dX8_canNumber_187 ?_
                    exact zr_wz (T := S_169) hx hb hr hlocks dX8_canNumber_188 (Or.inl rfl) hP hS (by exact ⟨(b2_f (fun h9 => c_180 (by rw [← eS_169, ← eS_23]; exact h9.2.2.2.2.2))).symm, fun h9 => absurd rfl h9, by rw [← eS_169, ← eS_23]; exact SM_la.tr SM_fd, hI_169⟩)
                  · refine zi_iconst hx hb dX8_canNumber_183 ?_
                    refine lv_goto (tgt := 188) hx hb dX8_canNumber_184 (by decide) ?_
                    exact zr_wz (T := S_169) hx hb hr hlocks dX8_canNumber_188 (Or.inr rfl) hP hS (by exact ⟨(b2_t ⟨c_7, by omega, by rw [eS_23, q9]; show 2 < ni; omega, by rw [eS_23, q9]; show 29 < hi - lo; omega, by have h8 := b2_1 er_169 c_172; rw [← eS_23] at h8; exact h8, by rw [eS_23, eS_169]; exact c_180⟩).symm, fun _ => by rw [eS_23, eS_169], by rw [← eS_169, ← eS_23]; exact SM_la.tr SM_fd, hI_169⟩)
          · obtain ⟨n, rfl⟩ : ∃ n9 : Nat, n = n9 + 1 := ⟨n - 1, by omega⟩
            refine lv_aload_n hx hb dX8_canNumber_47 rfl (lv_at hl 0 rfl) ?_
            refine lv_aload_n hx hb dX8_canNumber_48 rfl (lv_at hl 0 rfl) ?_
            refine va_get (D := D) (ci := 8) (v := .ref (bd 21)) (C := RX8) (T := TX8) (N := 32) hx hb hts in_X8_canNumber_8 hown hK.1 hP 0 rfl rfl 20 (by decide) (hts _ lk_X8_canNumber_49) (fun _ h9 => h9) rfl dX8_canNumber_49 ?_
            refine lv_iload hx hb dX8_canNumber_52 (lv_at hl 5 rfl) ?_
            refine zi_iald hx hb hK.1 hP 14 0 rfl rfl (by omega) (by omega) (by decide) dX8_canNumber_54 ?_
            have f_54 : (0 : Int) ≤ S_23 20 k9 ∧ S_23 20 k9 ≤ 59 := hI_23 20 k9
            refine zk_r (zc_V (As := [.int (zi (S_23 20 k9))]) (rest := []) ⟨hx, hb, hml, hown, hts⟩ (ct_X8_nightOf l D cI cZ cJ bd S_23 hI_23 (S_23 20 k9) ⟨by omega, by omega⟩ (by omega) (by omega)) (cwV 1 hts gX8_canNumber_X8_nightOf rfl rfl rfl (by decide +kernel) ⟨Nat.le_of_ble_eq_true rfl, Nat.le_of_ble_eq_true rfl⟩) hK hP (q0 := 0) (ci := 8) rfl rfl rfl rfl hl.1 rfl (Nat.le_of_ble_eq_true rfl) dX8_canNumber_55 ⟨Nat.zero_le _, Nat.zero_le _⟩) ?_
            refine zi_top (fun (r_55 : Int) (er_55 : r_55 = nM S_23 (S_23 20 k9)) => ?_)
            have fr_55 : (0 : Int) ≤ r_55 ∧ r_55 ≤ 999 := by rw [er_55]; exact nM_b hI_23 _
            refine lv_istore (lv' := [(6, .int (zi r_55)), (0, .ref (bd 0)), (1, .int (zi x0)), (2, .int (zi lo)), (3, .int (zi hi)), (4, .int (zi ni)), (5, .int (zi k9))]) hx hb dX8_canNumber_58 hl (by decide) rfl (fun ls hl => ?_)
            refine zi_iconst hx hb dX8_canNumber_60 ?_
            refine lv_istore (lv' := [(7, .int (zi 0)), (6, .int (zi r_55)), (0, .ref (bd 0)), (1, .int (zi x0)), (2, .int (zi lo)), (3, .int (zi hi)), (4, .int (zi ni)), (5, .int (zi k9))]) hx hb dX8_canNumber_61 hl (by decide) rfl (fun ls hl => ?_)
            refine zi_iconst hx hb dX8_canNumber_63 ?_
            have K_66 : ∀ (k : Nat) (m9 : Nat) (se j9 : Int), (j9 + (m9 : Int) = k9) → (0 ≤ j9) → (0 ≤ se ∧ se ≤ 1) → ((se = 1 ∧ 1 = b2 (seenM S_23 k9)) ∨ (se = 0 ∧ b2 (anyI (fun j => nM S_23 (S_23 20 j) = nM S_23 (S_23 20 k9)) m9 j9) = b2 (seenM S_23 k9))) → ((m9 : Int) < (k : Int)) → ∀ (ls : Array Slot), lv_has ls 9 [(0, .ref (bd 0)), (1, .int (zi x0)), (2, .int (zi lo)), (3, .int (zi hi)), (4, .int (zi ni)), (5, .int (zi k9)), (6, .int (zi r_55)), (7, .int (zi se)), (8, .int (zi j9))] → W p l e rmct_X8_canNumber s m ([.ref (bd 0), .int (zi x0)] : List Value).toArray below meth c H locs 0 0 (MQ below (zWi D (mW cI cZ bd) (mA bd) (fun r T => r = b2 (cnP S x0) ∧ (¬ r = 0 → T = findM (laysM x0 S)) ∧ SM S T ∧ MI T)) ([.ref (bd 0), .int (zi x0)] : List Value).toArray s 0 0 (mA bd)) (F0 m 66 ls []) := by
              intro k
              induction k with
              | zero => intro m9 se j9 g_n g_i g_b g_R hk; exact absurd hk (by omega)
              | succ k ih_66 =>
                intro m9 se j9 g_n g_i g_b g_R hk ls hl
                refine lv_iload hx hb dX8_canNumber_66 (lv_at hl 8 rfl) ?_
                refine lv_iload hx hb dX8_canNumber_68 (lv_at hl 5 rfl) ?_
                refine zi_icmp_ge (tgt := 107) hx hb ⟨by omega, by omega⟩ ⟨by omega, by omega⟩ dX8_canNumber_70 (by decide) (fun c_70 => ?_) (fun c_70 => ?_)
                · obtain rfl : m9 = 0 := by omega
                  have h_se : se = b2 (seenM S_23 k9) := any_end g_R
                  refine lv_iload hx hb dX8_canNumber_107 (lv_at hl 4 rfl) ?_
                  refine lv_iload hx hb dX8_canNumber_109 (lv_at hl 7 rfl) ?_
                  refine zi_if_eq (tgt := 118) hx hb ⟨by omega, by omega⟩ dX8_canNumber_111 (by decide) (fun c_111 => ?_) (fun c_111 => ?_)
                  · refine zi_iconst hx hb dX8_canNumber_118 ?_
                    refine zi_iadd hx hb dX8_canNumber_119 ?_
                    refine zi_top (fun x4_120 ex4_120 => ?_)
                    refine lv_istore (lv' := [(4, .int (zi x4_120)), (0, .ref (bd 0)), (1, .int (zi x0)), (2, .int (zi lo)), (3, .int (zi hi)), (5, .int (zi k9)), (6, .int (zi r_55)), (7, .int (zi se)), (8, .int (zi j9))]) hx hb dX8_canNumber_120 hl (by decide) rfl (fun ls hl => ?_)
                    refine lv_iload hx hb dX8_canNumber_122 (lv_at hl 6 rfl) ?_
                    refine lv_iload_n hx hb dX8_canNumber_124 rfl (lv_at hl 3 rfl) ?_
                    refine zi_icmp_ge (tgt := 133) hx hb ⟨by omega, by omega⟩ ⟨by omega, by omega⟩ dX8_canNumber_125 (by decide) (fun c_125 => ?_) (fun c_125 => ?_)
                    · refine lv_iload_n hx hb dX8_canNumber_133 rfl (lv_at hl 3 rfl) ?_
                      refine lv_istore_n (lv' := [(2, .int (zi lo)), (4, .int (zi x4_120)), (0, .ref (bd 0)), (1, .int (zi x0)), (3, .int (zi hi)), (5, .int (zi k9)), (6, .int (zi r_55)), (7, .int (zi se)), (8, .int (zi j9))]) hx hb dX8_canNumber_134 rfl hl (by decide) rfl (fun ls hl => ?_)
                      refine lv_iload hx hb dX8_canNumber_135 (lv_at hl 6 rfl) ?_
                      refine lv_iload_n hx hb dX8_canNumber_137 rfl (lv_at hl 4 rfl) ?_
                      refine zi_icmp_le (tgt := 146) hx hb ⟨by omega, by omega⟩ ⟨by omega, by omega⟩ dX8_canNumber_138 (by decide) (fun c_138 => ?_) (fun c_138 => ?_)
                      · refine lv_iload_n hx hb dX8_canNumber_146 rfl (lv_at hl 4 rfl) ?_
                        refine lv_istore_n (lv' := [(3, .int (zi hi)), (2, .int (zi lo)), (4, .int (zi x4_120)), (0, .ref (bd 0)), (1, .int (zi x0)), (5, .int (zi k9)), (6, .int (zi r_55)), (7, .int (zi se)), (8, .int (zi j9))]) hx hb dX8_canNumber_147 rfl hl (by decide) rfl (fun ls hl => ?_)
                        refine zi_iinc (k := 5) (lv' := [(5, .int (zi (k9 + 1))), (3, .int (zi hi)), (2, .int (zi lo)), (4, .int (zi x4_120)), (0, .ref (bd 0)), (1, .int (zi x0)), (6, .int (zi r_55)), (7, .int (zi se)), (8, .int (zi j9))]) hx hb dX8_canNumber_148 hl rfl (by decide) rfl (fun ls hl => ?_)
                        refine lv_goto (tgt := 38) hx hb dX8_canNumber_151 (by decide) ?_
                        exact ih_38 n lo hi x4_120 (k9 + 1) (by first | omega | assumption) (by first | omega | assumption) ⟨by omega, by omega, by omega, by omega, by omega, by omega⟩ (by rw [← h_R, itr_s]; congr 1; exact cn_step (by rw [← er_55]; exact (if_neg (Int.not_lt.mpr c_125)).symm) (by rw [← er_55]; exact (if_neg (Int.not_lt.mpr c_138)).symm) (by rw [ex4_120, ← h_se]; omega)) (by omega) _ (lv_sub hl [4, 5, 2, 1, 3, 0] rfl)
                      · refine lv_iload hx hb dX8_canNumber_141 (lv_at hl 6 rfl) ?_
                        refine lv_goto (tgt := 147) hx hb dX8_canNumber_143 (by decide) ?_
                        refine lv_istore_n (lv' := [(3, .int (zi r_55)), (2, .int (zi lo)), (4, .int (zi x4_120)), (0, .ref (bd 0)), (1, .int (zi x0)), (5, .int (zi k9)), (6, .int (zi r_55)), (7, .int (zi se)), (8, .int (zi j9))]) hx hb dX8_canNumber_147 rfl hl (by decide) rfl (fun ls hl => ?_)
                        refine zi_iinc (k := 5) (lv' := [(5, .int (zi (k9 + 1))), (3, .int (zi r_55)), (2, .int (zi lo)), (4, .int (zi x4_120)), (0, .ref (bd 0)), (1, .int (zi x0)), (6, .int (zi r_55)), (7, .int (zi se)), (8, .int (zi j9))]) hx hb dX8_canNumber_148 hl rfl (by decide) rfl (fun ls hl => ?_)
                        refine lv_goto (tgt := 38) hx hb dX8_canNumber_151 (by decide) ?_
                        exact ih_38 n lo r_55 x4_120 (k9 + 1) (by first | omega | assumption) (by first | omega | assumption) ⟨by omega, by omega, by omega, by omega, by omega, by omega⟩ (by rw [← h_R, itr_s]; congr 1; exact cn_step (by rw [← er_55]; exact (if_neg (Int.not_lt.mpr c_125)).symm) (by rw [← er_55]; exact (if_pos (Int.not_le.mp c_138)).symm) (by rw [ex4_120, ← h_se]; omega)) (by omega) _ (lv_sub hl [4, 5, 2, 1, 3, 0] rfl)
                    · refine lv_iload hx hb dX8_canNumber_128 (lv_at hl 6 rfl) ?_
                      refine lv_goto (tgt := 134) hx hb dX8_canNumber_130 (by decide) ?_
                      refine lv_istore_n (lv' := [(2, .int (zi r_55)), (4, .int (zi x4_120)), (0, .ref (bd 0)), (1, .int (zi x0)), (3, .int (zi hi)), (5, .int (zi k9)), (6, .int (zi r_55)), (7, .int (zi se)), (8, .int (zi j9))]) hx hb dX8_canNumber_134 rfl hl (by decide) rfl (fun ls hl => ?_)
                      refine lv_iload hx hb dX8_canNumber_135 (lv_at hl 6 rfl) ?_
                      refine lv_iload_n hx hb dX8_canNumber_137 rfl (lv_at hl 4 rfl) ?_
                      refine zi_icmp_le (tgt := 146) hx hb ⟨by omega, by omega⟩ ⟨by omega, by omega⟩ dX8_canNumber_138 (by decide) (fun c_138 => ?_) (fun c_138 => ?_)
                      · refine lv_iload_n hx hb dX8_canNumber_146 rfl (lv_at hl 4 rfl) ?_
                        refine lv_istore_n (lv' := [(3, .int (zi hi)), (2, .int (zi r_55)), (4, .int (zi x4_120)), (0, .ref (bd 0)), (1, .int (zi x0)), (5, .int (zi k9)), (6, .int (zi r_55)), (7, .int (zi se)), (8, .int (zi j9))]) hx hb dX8_canNumber_147 rfl hl (by decide) rfl (fun ls hl => ?_)
                        refine zi_iinc (k := 5) (lv' := [(5, .int (zi (k9 + 1))), (3, .int (zi hi)), (2, .int (zi r_55)), (4, .int (zi x4_120)), (0, .ref (bd 0)), (1, .int (zi x0)), (6, .int (zi r_55)), (7, .int (zi se)), (8, .int (zi j9))]) hx hb dX8_canNumber_148 hl rfl (by decide) rfl (fun ls hl => ?_)
                        refine lv_goto (tgt := 38) hx hb dX8_canNumber_151 (by decide) ?_
                        exact ih_38 n r_55 hi x4_120 (k9 + 1) (by first | omega | assumption) (by first | omega | assumption) ⟨by omega, by omega, by omega, by omega, by omega, by omega⟩ (by rw [← h_R, itr_s]; congr 1; exact cn_step (by rw [← er_55]; exact (if_pos (Int.not_le.mp c_125)).symm) (by rw [← er_55]; exact (if_neg (Int.not_lt.mpr c_138)).symm) (by rw [ex4_120, ← h_se]; omega)) (by omega) _ (lv_sub hl [4, 5, 2, 1, 3, 0] rfl)
                      · refine lv_iload hx hb dX8_canNumber_141 (lv_at hl 6 rfl) ?_
                        refine lv_goto (tgt := 147) hx hb dX8_canNumber_143 (by decide) ?_
                        refine lv_istore_n (lv' := [(3, .int (zi r_55)), (2, .int (zi r_55)), (4, .int (zi x4_120)), (0, .ref (bd 0)), (1, .int (zi x0)), (5, .int (zi k9)), (6, .int (zi r_55)), (7, .int (zi se)), (8, .int (zi j9))]) hx hb dX8_canNumber_147 rfl hl (by decide) rfl (fun ls hl => ?_)
                        refine zi_iinc (k := 5) (lv' := [(5, .int (zi (k9 + 1))), (3, .int (zi r_55)), (2, .int (zi r_55)), (4, .int (zi x4_120)), (0, .ref (bd 0)), (1, .int (zi x0)), (6, .int (zi r_55)), (7, .int (zi se)), (8, .int (zi j9))]) hx hb dX8_canNumber_148 hl rfl (by decide) rfl (fun ls hl => ?_)
                        refine lv_goto (tgt := 38) hx hb dX8_canNumber_151 (by decide) ?_
                        exact ih_38 n r_55 r_55 x4_120 (k9 + 1) (by first | omega | assumption) (by first | omega | assumption) ⟨by omega, by omega, by omega, by omega, by omega, by omega⟩ (by rw [← h_R, itr_s]; congr 1; exact cn_step (by rw [← er_55]; exact (if_pos (Int.not_le.mp c_125)).symm) (by rw [← er_55]; exact (if_pos (Int.not_le.mp c_138)).symm) (by rw [ex4_120, ← h_se]; omega)) (by omega) _ (lv_sub hl [4, 5, 2, 1, 3, 0] rfl)
                  · refine zi_iconst hx hb dX8_canNumber_114 ?_
                    refine lv_goto (tgt := 119) hx hb dX8_canNumber_115 (by decide) ?_
                    refine zi_iadd hx hb dX8_canNumber_119 ?_
                    refine zi_top (fun x4_120 ex4_120 => ?_)
                    refine lv_istore (lv' := [(4, .int (zi x4_120)), (0, .ref (bd 0)), (1, .int (zi x0)), (2, .int (zi lo)), (3, .int (zi hi)), (5, .int (zi k9)), (6, .int (zi r_55)), (7, .int (zi se)), (8, .int (zi j9))]) hx hb dX8_canNumber_120 hl (by decide) rfl (fun ls hl => ?_)
                    refine lv_iload hx hb dX8_canNumber_122 (lv_at hl 6 rfl) ?_
                    refine lv_iload_n hx hb dX8_canNumber_124 rfl (lv_at hl 3 rfl) ?_
                    refine zi_icmp_ge (tgt := 133) hx hb ⟨by omega, by omega⟩ ⟨by omega, by omega⟩ dX8_canNumber_125 (by decide) (fun c_125 => ?_) (fun c_125 => ?_)
                    · refine lv_iload_n hx hb dX8_canNumber_133 rfl (lv_at hl 3 rfl) ?_
                      refine lv_istore_n (lv' := [(2, .int (zi lo)), (4, .int (zi x4_120)), (0, .ref (bd 0)), (1, .int (zi x0)), (3, .int (zi hi)), (5, .int (zi k9)), (6, .int (zi r_55)), (7, .int (zi se)), (8, .int (zi j9))]) hx hb dX8_canNumber_134 rfl hl (by decide) rfl (fun ls hl => ?_)
                      refine lv_iload hx hb dX8_canNumber_135 (lv_at hl 6 rfl) ?_
                      refine lv_iload_n hx hb dX8_canNumber_137 rfl (lv_at hl 4 rfl) ?_
                      refine zi_icmp_le (tgt := 146) hx hb ⟨by omega, by omega⟩ ⟨by omega, by omega⟩ dX8_canNumber_138 (by decide) (fun c_138 => ?_) (fun c_138 => ?_)
                      · refine lv_iload_n hx hb dX8_canNumber_146 rfl (lv_at hl 4 rfl) ?_
                        refine lv_istore_n (lv' := [(3, .int (zi hi)), (2, .int (zi lo)), (4, .int (zi x4_120)), (0, .ref (bd 0)), (1, .int (zi x0)), (5, .int (zi k9)), (6, .int (zi r_55)), (7, .int (zi se)), (8, .int (zi j9))]) hx hb dX8_canNumber_147 rfl hl (by decide) rfl (fun ls hl => ?_)
                        refine zi_iinc (k := 5) (lv' := [(5, .int (zi (k9 + 1))), (3, .int (zi hi)), (2, .int (zi lo)), (4, .int (zi x4_120)), (0, .ref (bd 0)), (1, .int (zi x0)), (6, .int (zi r_55)), (7, .int (zi se)), (8, .int (zi j9))]) hx hb dX8_canNumber_148 hl rfl (by decide) rfl (fun ls hl => ?_)
                        refine lv_goto (tgt := 38) hx hb dX8_canNumber_151 (by decide) ?_
                        exact ih_38 n lo hi x4_120 (k9 + 1) (by first | omega | assumption) (by first | omega | assumption) ⟨by omega, by omega, by omega, by omega, by omega, by omega⟩ (by rw [← h_R, itr_s]; congr 1; exact cn_step (by rw [← er_55]; exact (if_neg (Int.not_lt.mpr c_125)).symm) (by rw [← er_55]; exact (if_neg (Int.not_lt.mpr c_138)).symm) (by rw [ex4_120, ← h_se]; omega)) (by omega) _ (lv_sub hl [4, 5, 2, 1, 3, 0] rfl)
                      · refine lv_iload hx hb dX8_canNumber_141 (lv_at hl 6 rfl) ?_
                        refine lv_goto (tgt := 147) hx hb dX8_canNumber_143 (by decide) ?_
                        refine lv_istore_n (lv' := [(3, .int (zi r_55)), (2, .int (zi lo)), (4, .int (zi x4_120)), (0, .ref (bd 0)), (1, .int (zi x0)), (5, .int (zi k9)), (6, .int (zi r_55)), (7, .int (zi se)), (8, .int (zi j9))]) hx hb dX8_canNumber_147 rfl hl (by decide) rfl (fun ls hl => ?_)
                        refine zi_iinc (k := 5) (lv' := [(5, .int (zi (k9 + 1))), (3, .int (zi r_55)), (2, .int (zi lo)), (4, .int (zi x4_120)), (0, .ref (bd 0)), (1, .int (zi x0)), (6, .int (zi r_55)), (7, .int (zi se)), (8, .int (zi j9))]) hx hb dX8_canNumber_148 hl rfl (by decide) rfl (fun ls hl => ?_)
                        refine lv_goto (tgt := 38) hx hb dX8_canNumber_151 (by decide) ?_
                        exact ih_38 n lo r_55 x4_120 (k9 + 1) (by first | omega | assumption) (by first | omega | assumption) ⟨by omega, by omega, by omega, by omega, by omega, by omega⟩ (by rw [← h_R, itr_s]; congr 1; exact cn_step (by rw [← er_55]; exact (if_neg (Int.not_lt.mpr c_125)).symm) (by rw [← er_55]; exact (if_pos (Int.not_le.mp c_138)).symm) (by rw [ex4_120, ← h_se]; omega)) (by omega) _ (lv_sub hl [4, 5, 2, 1, 3, 0] rfl)
                    · refine lv_iload hx hb dX8_canNumber_128 (lv_at hl 6 rfl) ?_
                      refine lv_goto (tgt := 134) hx hb dX8_canNumber_130 (by decide) ?_
                      refine lv_istore_n (lv' := [(2, .int (zi r_55)), (4, .int (zi x4_120)), (0, .ref (bd 0)), (1, .int (zi x0)), (3, .int (zi hi)), (5, .int (zi k9)), (6, .int (zi r_55)), (7, .int (zi se)), (8, .int (zi j9))]) hx hb dX8_canNumber_134 rfl hl (by decide) rfl (fun ls hl => ?_)
                      refine lv_iload hx hb dX8_canNumber_135 (lv_at hl 6 rfl) ?_
                      refine lv_iload_n hx hb dX8_canNumber_137 rfl (lv_at hl 4 rfl) ?_
                      refine zi_icmp_le (tgt := 146) hx hb ⟨by omega, by omega⟩ ⟨by omega, by omega⟩ dX8_canNumber_138 (by decide) (fun c_138 => ?_) (fun c_138 => ?_)
                      · refine lv_iload_n hx hb dX8_canNumber_146 rfl (lv_at hl 4 rfl) ?_
                        refine lv_istore_n (lv' := [(3, .int (zi hi)), (2, .int (zi r_55)), (4, .int (zi x4_120)), (0, .ref (bd 0)), (1, .int (zi x0)), (5, .int (zi k9)), (6, .int (zi r_55)), (7, .int (zi se)), (8, .int (zi j9))]) hx hb dX8_canNumber_147 rfl hl (by decide) rfl (fun ls hl => ?_)
                        refine zi_iinc (k := 5) (lv' := [(5, .int (zi (k9 + 1))), (3, .int (zi hi)), (2, .int (zi r_55)), (4, .int (zi x4_120)), (0, .ref (bd 0)), (1, .int (zi x0)), (6, .int (zi r_55)), (7, .int (zi se)), (8, .int (zi j9))]) hx hb dX8_canNumber_148 hl rfl (by decide) rfl (fun ls hl => ?_)
                        refine lv_goto (tgt := 38) hx hb dX8_canNumber_151 (by decide) ?_
                        exact ih_38 n r_55 hi x4_120 (k9 + 1) (by first | omega | assumption) (by first | omega | assumption) ⟨by omega, by omega, by omega, by omega, by omega, by omega⟩ (by rw [← h_R, itr_s]; congr 1; exact cn_step (by rw [← er_55]; exact (if_pos (Int.not_le.mp c_125)).symm) (by rw [← er_55]; exact (if_neg (Int.not_lt.mpr c_138)).symm) (by rw [ex4_120, ← h_se]; omega)) (by omega) _ (lv_sub hl [4, 5, 2, 1, 3, 0] rfl)
                      · refine lv_iload hx hb dX8_canNumber_141 (lv_at hl 6 rfl) ?_
                        refine lv_goto (tgt := 147) hx hb dX8_canNumber_143 (by decide) ?_
                        refine lv_istore_n (lv' := [(3, .int (zi r_55)), (2, .int (zi r_55)), (4, .int (zi x4_120)), (0, .ref (bd 0)), (1, .int (zi x0)), (5, .int (zi k9)), (6, .int (zi r_55)), (7, .int (zi se)), (8, .int (zi j9))]) hx hb dX8_canNumber_147 rfl hl (by decide) rfl (fun ls hl => ?_)
                        refine zi_iinc (k := 5) (lv' := [(5, .int (zi (k9 + 1))), (3, .int (zi r_55)), (2, .int (zi r_55)), (4, .int (zi x4_120)), (0, .ref (bd 0)), (1, .int (zi x0)), (6, .int (zi r_55)), (7, .int (zi se)), (8, .int (zi j9))]) hx hb dX8_canNumber_148 hl rfl (by decide) rfl (fun ls hl => ?_)
                        refine lv_goto (tgt := 38) hx hb dX8_canNumber_151 (by decide) ?_
                        exact ih_38 n r_55 r_55 x4_120 (k9 + 1) (by first | omega | assumption) (by first | omega | assumption) ⟨by omega, by omega, by omega, by omega, by omega, by omega⟩ (by rw [← h_R, itr_s]; congr 1; exact cn_step (by rw [← er_55]; exact (if_pos (Int.not_le.mp c_125)).symm) (by rw [← er_55]; exact (if_pos (Int.not_le.mp c_138)).symm) (by rw [ex4_120, ← h_se]; omega)) (by omega) _ (lv_sub hl [4, 5, 2, 1, 3, 0] rfl)
                · obtain ⟨m9, rfl⟩ : ∃ n9 : Nat, m9 = n9 + 1 := ⟨m9 - 1, by omega⟩
                  refine lv_iload hx hb dX8_canNumber_73 (lv_at hl 7 rfl) ?_
                  refine zi_if_ne (tgt := 94) hx hb ⟨by omega, by omega⟩ dX8_canNumber_75 (by decide) (fun c_75 => ?_) (fun c_75 => ?_)
                  · refine zi_iconst hx hb dX8_canNumber_94 ?_
                    refine lv_goto (tgt := 99) hx hb dX8_canNumber_95 (by decide) ?_
                    refine lv_istore (lv' := [(7, .int (zi 1)), (0, .ref (bd 0)), (1, .int (zi x0)), (2, .int (zi lo)), (3, .int (zi hi)), (4, .int (zi ni)), (5, .int (zi k9)), (6, .int (zi r_55)), (8, .int (zi j9))]) hx hb dX8_canNumber_99 hl (by decide) rfl (fun ls hl => ?_)
                    refine zi_iinc (k := 8) (lv' := [(8, .int (zi (j9 + 1))), (7, .int (zi 1)), (0, .ref (bd 0)), (1, .int (zi x0)), (2, .int (zi lo)), (3, .int (zi hi)), (4, .int (zi ni)), (5, .int (zi k9)), (6, .int (zi r_55))]) hx hb dX8_canNumber_101 hl rfl (by decide) rfl (fun ls hl => ?_)
                    refine lv_goto (tgt := 66) hx hb dX8_canNumber_104 (by decide) ?_
                    exact ih_66 m9 1 (j9 + 1) (by first | omega | assumption) (by first | omega | assumption) ⟨by decide, by decide⟩ (any_d g_R c_75) (by omega) _ (lv_sub hl [2, 3, 4, 5, 6, 7, 8, 1, 0] rfl)
                  · refine lv_aload_n hx hb dX8_canNumber_78 rfl (lv_at hl 0 rfl) ?_
                    refine lv_aload_n hx hb dX8_canNumber_79 rfl (lv_at hl 0 rfl) ?_
                    refine va_get (D := D) (ci := 8) (v := .ref (bd 21)) (C := RX8) (T := TX8) (N := 32) hx hb hts in_X8_canNumber_8 hown hK.1 hP 0 rfl rfl 20 (by decide) (hts _ lk_X8_canNumber_49) (fun _ h9 => h9) rfl dX8_canNumber_80 ?_
                    refine lv_iload hx hb dX8_canNumber_83 (lv_at hl 8 rfl) ?_
                    refine zi_iald hx hb hK.1 hP 14 0 rfl rfl (by omega) (by omega) (by decide) dX8_canNumber_85 ?_
                    have f_85 : (0 : Int) ≤ S_23 20 j9 ∧ S_23 20 j9 ≤ 59 := hI_23 20 j9
                    refine zk_r (zc_V (As := [.int (zi (S_23 20 j9))]) (rest := []) ⟨hx, hb, hml, hown, hts⟩ (ct_X8_nightOf l D cI cZ cJ bd S_23 hI_23 (S_23 20 j9) ⟨by omega, by omega⟩ (by omega) (by omega)) (cwV 1 hts gX8_canNumber_X8_nightOf rfl rfl rfl (by decide +kernel) ⟨Nat.le_of_ble_eq_true rfl, Nat.le_of_ble_eq_true rfl⟩) hK hP (q0 := 0) (ci := 8) rfl rfl rfl rfl hl.1 rfl (Nat.le_of_ble_eq_true rfl) dX8_canNumber_86 ⟨Nat.zero_le _, Nat.zero_le _⟩) ?_
                    refine zi_top (fun (r_86 : Int) (er_86 : r_86 = nM S_23 (S_23 20 j9)) => ?_)
                    have fr_86 : (0 : Int) ≤ r_86 ∧ r_86 ≤ 999 := by rw [er_86]; exact nM_b hI_23 _
                    refine lv_iload hx hb dX8_canNumber_89 (lv_at hl 6 rfl) ?_
                    refine zi_icmp_ne (tgt := 98) hx hb ⟨by omega, by omega⟩ ⟨by omega, by omega⟩ dX8_canNumber_91 (by decide) (fun c_91 => ?_) (fun c_91 => ?_)
                    · refine zi_iconst hx hb dX8_canNumber_98 ?_
                      refine lv_istore (lv' := [(7, .int (zi 0)), (0, .ref (bd 0)), (1, .int (zi x0)), (2, .int (zi lo)), (3, .int (zi hi)), (4, .int (zi ni)), (5, .int (zi k9)), (6, .int (zi r_55)), (8, .int (zi j9))]) hx hb dX8_canNumber_99 hl (by decide) rfl (fun ls hl => ?_)
                      refine zi_iinc (k := 8) (lv' := [(8, .int (zi (j9 + 1))), (7, .int (zi 0)), (0, .ref (bd 0)), (1, .int (zi x0)), (2, .int (zi lo)), (3, .int (zi hi)), (4, .int (zi ni)), (5, .int (zi k9)), (6, .int (zi r_55))]) hx hb dX8_canNumber_101 hl rfl (by decide) rfl (fun ls hl => ?_)
                      refine lv_goto (tgt := 66) hx hb dX8_canNumber_104 (by decide) ?_
                      exact ih_66 m9 0 (j9 + 1) (by first | omega | assumption) (by first | omega | assumption) ⟨by decide, by decide⟩ (any_0 g_R (by omega) (by rw [← er_86, ← er_55]; exact c_91)) (by omega) _ (lv_sub hl [2, 3, 4, 5, 6, 7, 8, 1, 0] rfl)
                    · refine zi_iconst hx hb dX8_canNumber_94 ?_
                      refine lv_goto (tgt := 99) hx hb dX8_canNumber_95 (by decide) ?_
                      refine lv_istore (lv' := [(7, .int (zi 1)), (0, .ref (bd 0)), (1, .int (zi x0)), (2, .int (zi lo)), (3, .int (zi hi)), (4, .int (zi ni)), (5, .int (zi k9)), (6, .int (zi r_55)), (8, .int (zi j9))]) hx hb dX8_canNumber_99 hl (by decide) rfl (fun ls hl => ?_)
                      refine zi_iinc (k := 8) (lv' := [(8, .int (zi (j9 + 1))), (7, .int (zi 1)), (0, .ref (bd 0)), (1, .int (zi x0)), (2, .int (zi lo)), (3, .int (zi hi)), (4, .int (zi ni)), (5, .int (zi k9)), (6, .int (zi r_55))]) hx hb dX8_canNumber_101 hl rfl (by decide) rfl (fun ls hl => ?_)
                      refine lv_goto (tgt := 66) hx hb dX8_canNumber_104 (by decide) ?_
                      exact ih_66 m9 1 (j9 + 1) (by first | omega | assumption) (by first | omega | assumption) ⟨by decide, by decide⟩ (any_1 g_R (by rw [← er_86, ← er_55]; exact c_91)) (by omega) _ (lv_sub hl [2, 3, 4, 5, 6, 7, 8, 1, 0] rfl)
            refine lv_istore (lv' := [(8, .int (zi 0)), (7, .int (zi 0)), (6, .int (zi r_55)), (0, .ref (bd 0)), (1, .int (zi x0)), (2, .int (zi lo)), (3, .int (zi hi)), (4, .int (zi ni)), (5, .int (zi k9))]) hx hb dX8_canNumber_64 hl (by decide) rfl (fun ls hl => ?_)
            exact K_66 (k9.toNat + 1) k9.toNat 0 0 (by first | omega | assumption) (by first | omega | assumption) ⟨by decide, by decide⟩ (Or.inr ⟨rfl, by rw [seenM]⟩) (by omega) _ (lv_sub hl [3, 4, 5, 6, 7, 8, 2, 1, 0] rfl)
      refine lv_istore (lv' := [(5, .int (zi 0)), (4, .int (zi 0)), (3, .int (zi 0)), (2, .int (zi 1000)), (0, .ref (bd 0)), (1, .int (zi x0))]) hx hb dX8_canNumber_36 hl (by decide) rfl (fun ls hl => ?_)
      exact K_38 ((S_23 19 0).toNat + 1) ((S_23 19 0).toNat) 1000 0 0 0 (by first | omega | assumption) (by first | omega | assumption) ⟨by omega, by omega, by omega, by omega, by omega, by omega⟩ (by rw [cnA]) (by omega) _ (lv_sub hl [4, 5, 3, 2, 1, 0] rfl)
    · refine zi_iconst hx hb dX8_canNumber_19 ?_
      exact zr_wz (T := S) hx hb hr hlocks dX8_canNumber_20 (Or.inl rfl) hP hS (by exact ⟨(b2_f (fun h9 => absurd h9.2.1 (by omega))).symm, fun h9 => absurd rfl h9, SM.rf, hI⟩)

theorem in_X8_reaches_8 : ∀ w ∈ wsX80, w ∈ wsX8_reaches := by decide +kernel
theorem lk_X8_reaches_95 : Cond.fieldLink RX8 95 "PlanetoidDeskModel" "bodies" "I" ∈ wsX8_reaches := by decide +kernel
theorem lk_X8_reaches_77 : Cond.fieldLink RX8 77 "PlanetoidDeskModel" "reached" "[I" ∈ wsX8_reaches := by decide +kernel
theorem lk_X8_reaches_40 : Cond.fieldLink RX8 40 "PlanetoidDeskModel" "numberOf" "[I" ∈ wsX8_reaches := by decide +kernel
abbrev rmct_X8_reaches : Room := { frames := 2, cells := 0, slots := 0, locals := 43 }
set_option maxHeartbeats 4000000 in
set_option maxRecDepth 100000 in
theorem ct_X8_reaches (l : Launch) (D : va_G) (cI cZ cJ : ClassId) (bd : Nat → Nat) (S : ZS) (hI : MI S) (hdis : mDis bd) (x0 : Int) (hx0 : ir x0) (hp00 : 0 ≤ x0) (hp01 : x0 ≤ 90) : Met l yX8_reaches wsX8_reaches rmct_X8_reaches (zP D cI cZ cJ (mW cI cZ bd S) [.ref (bd 0), .int (zi x0)]) (zWv D (mW cI cZ bd) (mA bd) (fun T => T = rcM x0 S ∧ MI T)) 0 0 (mA bd) := by
  refine Met.ofW (cc := cX8_reaches) (maxL := 7) (ret := none) (by decide) rfl ?_
  intro p e s m args below meth c s₁ B hml hv
  obtain ⟨rfl, hP, hK⟩ := hv
  have hx := B.exec
  have hb := B.bytes
  have hr := B.returns
  have hts := atoms_spec (ws := wsX8_reaches) B.pre
  have hown : s.vm.findClass RX8 = some m.cls := findClass_of_methodNamed B.named
  have hlocks := B.notSynchronized
  have hl := lv_entry ([.ref (bd 0), .int (zi x0)]) (n := 7) (Nat.le_of_ble_eq_true rfl)
  rw [lg_entry_eq]
  generalize (lg_sl ([.ref (bd 0), .int (zi x0)]) ++ List.replicate (7 - (lg_sl ([.ref (bd 0), .int (zi x0)])).length) Slot.unset).toArray = ls at hl ⊢
  have hl : lv_has ls 7 [(0, .ref (bd 0)), (1, .int (zi x0))] := hl
  have hS : va_S (mA bd) s.heap s.heap [] := va_S.rf
  show W p l e rmct_X8_reaches s m ([.ref (bd 0), .int (zi x0)] : List Value).toArray below meth c s.heap [] 0 0 (MQ below (zWv D (mW cI cZ bd) (mA bd) (fun T => T = rcM x0 S ∧ MI T)) ([.ref (bd 0), .int (zi x0)] : List Value).toArray s 0 0 (mA bd)) (F0 m 0 ls [])
  have hc0 : (0 : Int) ≤ S 11 0 ∧ S 11 0 ≤ 20 := hI 11 0
  have hsq := sq_le hc0.1 hc0.2
  refine zi_iconst hx hb dX8_reaches_0 ?_
  have K_2 : ∀ (k : Nat) (n : Nat) (i : Int) (T : ZS), (i + (n : Int) = S 11 0) → (0 ≤ i) → (itr rcF n i T = itr rcF (S 11 0).toNat 0 S) → (T 11 = S 11 ∧ T 14 = S 14) → (∀ q : Int, 0 ≤ q → q < i → 0 < S 14 q → 0 ≤ T 30 q) → ((n : Int) < (k : Int)) → MI T → ∀ (H : Heap) (locs : List Loc), va_P D vwCl (mW cI cZ bd T) H → va_S (mA bd) s.heap H locs → ∀ (ls : Array Slot), lv_has ls 7 [(0, .ref (bd 0)), (1, .int (zi x0)), (2, .int (zi i))] → W p l e rmct_X8_reaches s m ([.ref (bd 0), .int (zi x0)] : List Value).toArray below meth c H locs 0 0 (MQ below (zWv D (mW cI cZ bd) (mA bd) (fun T => T = rcM x0 S ∧ MI T)) ([.ref (bd 0), .int (zi x0)] : List Value).toArray s 0 0 (mA bd)) (F0 m 2 ls []) := by
    intro k
    induction k with
    | zero => intro n i T h_n h_i h_Z h_d h_v hk hIT; exact absurd hk (by omega)
    | succ k ih_2 =>
      intro n i T h_n h_i h_Z h_d h_v hk hIT H locs hP hS ls hl
      refine lv_iload_n hx hb dX8_reaches_2 rfl (lv_at hl 2 rfl) ?_
      have hd11 : T 11 0 = S 11 0 := by rw [h_d.1]
      refine lv_aload_n hx hb dX8_reaches_3 rfl (lv_at hl 0 rfl) ?_
      refine va_get (D := D) (ci := 8) (v := .int (zi (T 11 0))) (C := RX8) (T := TX8) (N := 32) hx hb hts in_X8_reaches_8 hown hK.1 hP 0 rfl rfl 11 (by decide) (hts _ lk_X8_reaches_95) (fun _ h9 => h9) rfl dX8_reaches_4 ?_
      have f_4 : (0 : Int) ≤ T 11 0 ∧ T 11 0 ≤ 20 := hIT 11 0
      refine zi_icmp_ge (tgt := 36) hx hb ⟨by omega, by omega⟩ ⟨by omega, by omega⟩ dX8_reaches_7 (by decide) (fun c_7 => ?_) (fun c_7 => ?_)
      · obtain rfl : n = 0 := by omega
        refine zi_iconst hx hb dX8_reaches_36 ?_
        have K_38 : ∀ (k : Nat) (n : Nat) (i : Int) (T2 : ZS), (i + (n : Int) = S 11 0) → (0 ≤ i) → (itr (rcO x0) n i T2 = rcM x0 S) → (T2 11 = S 11 ∧ T2 14 = S 14) → (∀ q : Int, 0 ≤ q → q < S 11 0 → 0 < S 14 q → 0 ≤ T2 30 q) → ((n : Int) < (k : Int)) → MI T2 → ∀ (H : Heap) (locs : List Loc), va_P D vwCl (mW cI cZ bd T2) H → va_S (mA bd) s.heap H locs → ∀ (ls : Array Slot), lv_has ls 7 [(0, .ref (bd 0)), (1, .int (zi x0)), (2, .int (zi i))] → W p l e rmct_X8_reaches s m ([.ref (bd 0), .int (zi x0)] : List Value).toArray below meth c H locs 0 0 (MQ below (zWv D (mW cI cZ bd) (mA bd) (fun T => T = rcM x0 S ∧ MI T)) ([.ref (bd 0), .int (zi x0)] : List Value).toArray s 0 0 (mA bd)) (F0 m 38 ls []) := by
          intro k
          induction k with
          | zero => intro n i T2 h_n h_i h_R h_d h_v hk hIT2; exact absurd hk (by omega)
          | succ k ih_38 =>
            intro n i T2 h_n h_i h_R h_d h_v hk hIT2 H locs hP hS ls hl
            refine lv_iload_n hx hb dX8_reaches_38 rfl (lv_at hl 2 rfl) ?_
            have hd11 : T2 11 0 = S 11 0 := by rw [h_d.1]
            refine lv_aload_n hx hb dX8_reaches_39 rfl (lv_at hl 0 rfl) ?_
            refine va_get (D := D) (ci := 8) (v := .int (zi (T2 11 0))) (C := RX8) (T := TX8) (N := 32) hx hb hts in_X8_reaches_8 hown hK.1 hP 0 rfl rfl 11 (by decide) (hts _ lk_X8_reaches_95) (fun _ h9 => h9) rfl dX8_reaches_40 ?_
            have f_40 : (0 : Int) ≤ T2 11 0 ∧ T2 11 0 ≤ 20 := hIT2 11 0
            refine zi_icmp_ge (tgt := 164) hx hb ⟨by omega, by omega⟩ ⟨by omega, by omega⟩ dX8_reaches_43 (by decide) (fun c_43 => ?_) (fun c_43 => ?_)
            · obtain rfl : n = 0 := by omega
              exact zr_wv (T := T2) hx hb hr hlocks dX8_reaches_164 hP hS (by exact ⟨h_R, hIT2⟩)
            · obtain ⟨n, rfl⟩ : ∃ n9 : Nat, n = n9 + 1 := ⟨n - 1, by omega⟩
              refine zi_iconst hx hb dX8_reaches_46 ?_
              have K_48 : ∀ (k : Nat) (m9 : Nat) (co : Int) (T3 : ZS), (co + (m9 : Int) = S 11 0 * S 11 0) → (0 ≤ co) → (itr (rcG x0) m9 co T3 = rcO x0 i T2) → (T3 11 = S 11 ∧ T3 14 = S 14) → (∀ q : Int, 0 ≤ q → q < S 11 0 → 0 < S 14 q → 0 ≤ T3 30 q) → ((m9 : Int) < (k : Int)) → MI T3 → ∀ (H : Heap) (locs : List Loc), va_P D vwCl (mW cI cZ bd T3) H → va_S (mA bd) s.heap H locs → ∀ (ls : Array Slot), lv_has ls 7 [(0, .ref (bd 0)), (1, .int (zi x0)), (2, .int (zi i)), (3, .int (zi co))] → W p l e rmct_X8_reaches s m ([.ref (bd 0), .int (zi x0)] : List Value).toArray below meth c H locs 0 0 (MQ below (zWv D (mW cI cZ bd) (mA bd) (fun T => T = rcM x0 S ∧ MI T)) ([.ref (bd 0), .int (zi x0)] : List Value).toArray s 0 0 (mA bd)) (F0 m 48 ls []) := by
                intro k
                induction k with
                | zero => intro m9 co T3 g_n g_i g_R g_d g_v hk hIT3; exact absurd hk (by omega)
                | succ k ih_48 =>
                  intro m9 co T3 g_n g_i g_R g_d g_v hk hIT3 H locs hP hS ls hl
                  refine lv_iload_n hx hb dX8_reaches_48 rfl (lv_at hl 3 rfl) ?_
                  have hd11 : T3 11 0 = S 11 0 := by rw [g_d.1]
                  refine lv_aload_n hx hb dX8_reaches_49 rfl (lv_at hl 0 rfl) ?_
                  refine va_get (D := D) (ci := 8) (v := .int (zi (T3 11 0))) (C := RX8) (T := TX8) (N := 32) hx hb hts in_X8_reaches_8 hown hK.1 hP 0 rfl rfl 11 (by decide) (hts _ lk_X8_reaches_95) (fun _ h9 => h9) rfl dX8_reaches_50 ?_
                  have f_50 : (0 : Int) ≤ T3 11 0 ∧ T3 11 0 ≤ 20 := hIT3 11 0
                  refine lv_aload_n hx hb dX8_reaches_53 rfl (lv_at hl 0 rfl) ?_
                  refine va_get (D := D) (ci := 8) (v := .int (zi (T3 11 0))) (C := RX8) (T := TX8) (N := 32) hx hb hts in_X8_reaches_8 hown hK.1 hP 0 rfl rfl 11 (by decide) (hts _ lk_X8_reaches_95) (fun _ h9 => h9) rfl dX8_reaches_54 ?_
                  have f_54 : (0 : Int) ≤ T3 11 0 ∧ T3 11 0 ≤ 20 := hIT3 11 0
                  refine zi_imul hx hb dX8_reaches_57 ?_
                  have hsq3 : 0 ≤ T3 11 0 * T3 11 0 ∧ T3 11 0 * T3 11 0 ≤ 400 := by rw [hd11]; exact hsq
                  refine zi_icmp_ge (tgt := 158) hx hb ⟨by omega, by omega⟩ ⟨by omega, by omega⟩ dX8_reaches_58 (by decide) (fun c_58 => ?_) (fun c_58 => ?_)
                  · rw [hd11] at c_58
                    obtain rfl : m9 = 0 := by omega
                    have h_R2 : T3 = rcO x0 i T2 := g_R
                    refine zi_iinc (k := 2) (lv' := [(2, .int (zi (i + 1))), (0, .ref (bd 0)), (1, .int (zi x0)), (3, .int (zi co))]) hx hb dX8_reaches_158 hl rfl (by decide) rfl (fun ls hl => ?_)
                    refine lv_goto (tgt := 38) hx hb dX8_reaches_161 (by decide) ?_
                    exact ih_38 n (i + 1) T3 (by first | omega | assumption) (by first | omega | assumption) (by rw [← h_R, itr_s, ← h_R2]) g_d g_v (by omega) hIT3 _ _ hP hS _ (lv_sub hl [1, 2, 0] rfl)
                  · rw [hd11] at c_58
                    obtain ⟨m9, rfl⟩ : ∃ n9 : Nat, m9 = n9 + 1 := ⟨m9 - 1, by omega⟩
                    have q_5 := sq_pos g_i hc0.1 (Int.not_le.mp c_58)
                    rw [← hd11] at q_5
                    refine lv_iload_n hx hb dX8_reaches_61 rfl (lv_at hl 3 rfl) ?_
                    refine lv_aload_n hx hb dX8_reaches_62 rfl (lv_at hl 0 rfl) ?_
                    refine va_get (D := D) (ci := 8) (v := .int (zi (T3 11 0))) (C := RX8) (T := TX8) (N := 32) hx hb hts in_X8_reaches_8 hown hK.1 hP 0 rfl rfl 11 (by decide) (hts _ lk_X8_reaches_95) (fun _ h9 => h9) rfl dX8_reaches_63 ?_
                    have f_63 : (0 : Int) ≤ T3 11 0 ∧ T3 11 0 ≤ 20 := hIT3 11 0
                    refine zi_idiv hx hb ⟨by omega, by omega⟩ ⟨by omega, by omega⟩ (by omega) (by omega) dX8_reaches_66 ?_
                    refine zi_top (fun x4_67 ex4_67 => ?_)
                    refine lv_istore (lv' := [(4, .int (zi x4_67)), (0, .ref (bd 0)), (1, .int (zi x0)), (2, .int (zi i)), (3, .int (zi co))]) hx hb dX8_reaches_67 hl (by decide) rfl (fun ls hl => ?_)
                    refine lv_iload_n hx hb dX8_reaches_69 rfl (lv_at hl 4 rfl) ?_
                    refine lv_aload_n hx hb dX8_reaches_70 rfl (lv_at hl 1 rfl) ?_
                    refine va_get (D := D) (ci := 8) (v := .int (zi (T3 11 0))) (C := RX8) (T := TX8) (N := 32) hx hb hts in_X8_reaches_8 hown hK.1 hP 0 rfl rfl 11 (by decide) (hts _ lk_X8_reaches_95) (fun _ h9 => h9) rfl dX8_reaches_71 ?_
                    have f_71 : (0 : Int) ≤ T3 11 0 ∧ T3 11 0 ≤ 20 := hIT3 11 0
                    refine zi_irem hx hb ⟨by omega, by omega⟩ ⟨by omega, by omega⟩ (by omega) (by omega) dX8_reaches_74 ?_
                    refine zi_top (fun x5_75 ex5_75 => ?_)
                    refine lv_istore (lv' := [(5, .int (zi x5_75)), (4, .int (zi x4_67)), (0, .ref (bd 0)), (1, .int (zi x0)), (2, .int (zi i)), (3, .int (zi co))]) hx hb dX8_reaches_75 hl (by decide) rfl (fun ls hl => ?_)
                    have q_6 : x4_67 < S 11 0 ∧ 0 ≤ x4_67 ∧ 0 ≤ x5_75 ∧ x5_75 < S 11 0 := by rw [ex4_67, ex5_75, ← hd11]; exact q_5.2
                    rw [← ex5_75, hd11] at q_5
                    refine lv_aload_n hx hb dX8_reaches_77 rfl (lv_at hl 2 rfl) ?_
                    refine lv_iload hx hb dX8_reaches_78 (lv_at hl 1 rfl) ?_
                    refine lv_iload hx hb dX8_reaches_80 (lv_at hl 0 rfl) ?_
                    refine lv_iload_n hx hb dX8_reaches_82 rfl (lv_at hl 3 rfl) ?_
                    refine zk_r (zc_V (As := [.int (zi x4_67), .int (zi x5_75), .int (zi x0)]) (rest := []) ⟨hx, hb, hml, hown, hts⟩ (ct_X8_areAkin l D cI cZ cJ bd T3 hIT3 x4_67 x5_75 x0 ⟨by omega, by omega⟩ ⟨by omega, by omega⟩ ⟨by omega, by omega⟩ (by omega) (by omega) (by omega) (by omega) (by omega) (by omega)) (cwV 3 hts gX8_reaches_X8_areAkin rfl rfl rfl (by decide +kernel) ⟨Nat.le_of_ble_eq_true rfl, Nat.le_of_ble_eq_true rfl⟩) hK hP (q0 := 0) (ci := 8) rfl rfl rfl rfl hl.1 rfl (Nat.le_of_ble_eq_true rfl) dX8_reaches_83 ⟨Nat.zero_le _, Nat.zero_le _⟩) ?_
                    refine zi_top (fun (r_83 : Int) (er_83 : r_83 = b2 (akM T3 x4_67 x5_75 x0)) => ?_)
                    have fr_83 : (0 : Int) ≤ r_83 ∧ r_83 ≤ 1 := by rw [er_83]; exact b2_b
                    have K_121 : ∀ (lw : Int), (lw = b2 (akM T3 x4_67 x5_75 x0 ∧ T3 14 (T3 30 x5_75) < T3 14 (T3 30 x4_67))) → ∀ (ls : Array Slot), lv_has ls 7 [(0, .ref (bd 0)), (1, .int (zi x0)), (2, .int (zi i)), (3, .int (zi co)), (4, .int (zi x4_67)), (5, .int (zi x5_75))] → W p l e rmct_X8_reaches s m ([.ref (bd 0), .int (zi x0)] : List Value).toArray below meth c H locs 0 0 (MQ below (zWv D (mW cI cZ bd) (mA bd) (fun T => T = rcM x0 S ∧ MI T)) ([.ref (bd 0), .int (zi x0)] : List Value).toArray s 0 0 (mA bd)) (F0 m 121 ls [.int (zi lw)]) := by
                      intro lw h_lw ls hl
                      have h_lb : 0 ≤ lw ∧ lw ≤ 1 := by rw [h_lw]; exact b2_b
                      refine lv_istore (lv' := [(6, .int (zi lw)), (0, .ref (bd 0)), (1, .int (zi x0)), (2, .int (zi i)), (3, .int (zi co)), (4, .int (zi x4_67)), (5, .int (zi x5_75))]) hx hb dX8_reaches_121 hl (by decide) rfl (fun ls hl => ?_)
                      refine lv_aload_n hx hb dX8_reaches_123 rfl (lv_at hl 1 rfl) ?_
                      refine va_get (D := D) (ci := 8) (v := .ref (bd 31)) (C := RX8) (T := TX8) (N := 32) hx hb hts in_X8_reaches_8 hown hK.1 hP 0 rfl rfl 30 (by decide) (hts _ lk_X8_reaches_77) (fun _ h9 => h9) rfl dX8_reaches_124 ?_
                      refine lv_iload hx hb dX8_reaches_127 (lv_at hl 5 rfl) ?_
                      refine lv_iload hx hb dX8_reaches_129 (lv_at hl 0 rfl) ?_
                      refine zi_if_eq (tgt := 144) hx hb ⟨by omega, by omega⟩ dX8_reaches_131 (by decide) (fun c_131 => ?_) (fun c_131 => ?_)
                      · refine lv_aload_n hx hb dX8_reaches_144 rfl (lv_at hl 1 rfl) ?_
                        refine va_get (D := D) (ci := 8) (v := .ref (bd 31)) (C := RX8) (T := TX8) (N := 32) hx hb hts in_X8_reaches_8 hown hK.1 hP 0 rfl rfl 30 (by decide) (hts _ lk_X8_reaches_77) (fun _ h9 => h9) rfl dX8_reaches_145 ?_
                        refine lv_iload hx hb dX8_reaches_148 (lv_at hl 5 rfl) ?_
                        refine zi_iald hx hb hK.1 hP 23 0 rfl rfl (by omega) (by omega) (by decide) dX8_reaches_150 ?_
                        have f_150 : (-1 : Int) ≤ T3 30 x4_67 ∧ T3 30 x4_67 ≤ 19 := hIT3 30 x4_67
                        refine zi_iast hx hb hK.1 hP (mW_D hdis _) hS 23 0 rfl rfl (by omega) (by omega) (by decide) dX8_reaches_151 (fun H locs hP hS => ?_)
                        have hP : va_P D vwCl (mW cI cZ bd (su T3 30 (up (T3 30) x4_67 (T3 30 x4_67)))) H := hP
                        have hI_151 : MI (su T3 30 (up (T3 30) x4_67 (T3 30 x4_67))) := MI.up hIT3 30 x4_67 (T3 30 x4_67) (show (-1 : Int) ≤ (T3 30 x4_67) ∧ (T3 30 x4_67) ≤ 19 from ⟨by omega, by omega⟩)
                        generalize eS_151 : su T3 30 (up (T3 30) x4_67 (T3 30 x4_67)) = S_151 at hP hI_151
                        refine zi_iinc (k := 4) (lv' := [(3, .int (zi (co + 1))), (6, .int (zi lw)), (0, .ref (bd 0)), (1, .int (zi x0)), (2, .int (zi i)), (4, .int (zi x4_67)), (5, .int (zi x5_75))]) hx hb dX8_reaches_152 hl rfl (by decide) rfl (fun ls hl => ?_)
                        refine lv_goto (tgt := 48) hx hb dX8_reaches_155 (by decide) ?_
                        exact ih_48 m9 (co + 1) S_151 (by first | omega | assumption) (by first | omega | assumption) (by rw [← g_R, itr_s, ← eS_151, rcG, cif_f (fun h9 => b2_0 h_lw c_131 (by rw [ex4_67, ex5_75]; exact h9)), ex4_67]) (by rw [← eS_151]; exact g_d) (fun q h0 h1 h2 => by rw [← eS_151, su_s]; by_cases hq : q = x4_67; (subst hq; rw [up_s]; exact g_v _ h0 h1 h2); (rw [up_n _ _ hq]; exact g_v q h0 h1 h2)) (by omega) hI_151 _ _ hP hS _ (lv_sub hl [2, 3, 4, 0] rfl)
                      · refine lv_aload_n hx hb dX8_reaches_134 rfl (lv_at hl 1 rfl) ?_
                        refine va_get (D := D) (ci := 8) (v := .ref (bd 31)) (C := RX8) (T := TX8) (N := 32) hx hb hts in_X8_reaches_8 hown hK.1 hP 0 rfl rfl 30 (by decide) (hts _ lk_X8_reaches_77) (fun _ h9 => h9) rfl dX8_reaches_135 ?_
                        refine lv_iload hx hb dX8_reaches_138 (lv_at hl 6 rfl) ?_
                        refine zi_iald hx hb hK.1 hP 23 0 rfl rfl (by omega) (by omega) (by decide) dX8_reaches_140 ?_
                        have f_140 : (-1 : Int) ≤ T3 30 x5_75 ∧ T3 30 x5_75 ≤ 19 := hIT3 30 x5_75
                        refine lv_goto (tgt := 151) hx hb dX8_reaches_141 (by decide) ?_
                        refine zi_iast hx hb hK.1 hP (mW_D hdis _) hS 23 0 rfl rfl (by omega) (by omega) (by decide) dX8_reaches_151 (fun H locs hP hS => ?_)
                        have hP : va_P D vwCl (mW cI cZ bd (su T3 30 (up (T3 30) x4_67 (T3 30 x5_75)))) H := hP
                        have hI_151 : MI (su T3 30 (up (T3 30) x4_67 (T3 30 x5_75))) := MI.up hIT3 30 x4_67 (T3 30 x5_75) (show (-1 : Int) ≤ (T3 30 x5_75) ∧ (T3 30 x5_75) ≤ 19 from ⟨by omega, by omega⟩)
                        generalize eS_151 : su T3 30 (up (T3 30) x4_67 (T3 30 x5_75)) = S_151 at hP hI_151
                        refine zi_iinc (k := 4) (lv' := [(3, .int (zi (co + 1))), (6, .int (zi lw)), (0, .ref (bd 0)), (1, .int (zi x0)), (2, .int (zi i)), (4, .int (zi x4_67)), (5, .int (zi x5_75))]) hx hb dX8_reaches_152 hl rfl (by decide) rfl (fun ls hl => ?_)
                        refine lv_goto (tgt := 48) hx hb dX8_reaches_155 (by decide) ?_
                        exact ih_48 m9 (co + 1) S_151 (by first | omega | assumption) (by first | omega | assumption) (by rw [← g_R, itr_s, ← eS_151, rcG, cif_t (by have h9 := b2_1 h_lw c_131; rw [ex4_67, ex5_75] at h9; exact h9), ex4_67, ex5_75]) (by rw [← eS_151]; exact g_d) (fun q h0 h1 h2 => by rw [← eS_151, su_s]; by_cases hq : q = x4_67; (rw [hq, up_s]; exact g_v _ q_5.2.2.2.1 q_5.2.2.2.2 (by rw [← g_d.2]; exact (b2_1 h_lw c_131).1.2.1)); (rw [up_n _ _ hq]; exact g_v q h0 h1 h2)) (by omega) hI_151 _ _ hP hS _ (lv_sub hl [2, 3, 4, 0] rfl)
                    refine zi_if_eq (tgt := 120) hx hb ⟨by omega, by omega⟩ dX8_reaches_86 (by decide) (fun c_86 => ?_) (fun c_86 => ?_)
                    · refine zi_iconst hx hb dX8_reaches_120 ?_
                      exact K_121 0 (b2_f (fun h9 => b2_0 er_83 c_86 h9.1)).symm _ (lv_sub hl [2, 3, 4, 5, 1, 0] rfl)
                    · have q_7 := b2_1 er_83 c_86
                      have q_8 : 0 ≤ T3 30 x5_75 := g_v _ (by omega) (by omega) (by rw [← g_d.2]; exact q_7.2.1)
                      have q_9 : 0 ≤ T3 30 x4_67 := g_v _ (by omega) (by omega) (by rw [← g_d.2]; exact q_7.1)
                      refine lv_aload_n hx hb dX8_reaches_89 rfl (lv_at hl 2 rfl) ?_
                      refine va_get (D := D) (ci := 8) (v := .ref (bd 15)) (C := RX8) (T := TX8) (N := 32) hx hb hts in_X8_reaches_8 hown hK.1 hP 0 rfl rfl 14 (by decide) (hts _ lk_X8_reaches_40) (fun _ h9 => h9) rfl dX8_reaches_90 ?_
                      refine lv_aload_n hx hb dX8_reaches_93 rfl (lv_at hl 2 rfl) ?_
                      refine va_get (D := D) (ci := 8) (v := .ref (bd 31)) (C := RX8) (T := TX8) (N := 32) hx hb hts in_X8_reaches_8 hown hK.1 hP 0 rfl rfl 30 (by decide) (hts _ lk_X8_reaches_77) (fun _ h9 => h9) rfl dX8_reaches_94 ?_
                      refine lv_iload hx hb dX8_reaches_97 (lv_at hl 0 rfl) ?_
                      refine zi_iald hx hb hK.1 hP 23 0 rfl rfl (by omega) (by omega) (by decide) dX8_reaches_99 ?_
                      have f_99 : (-1 : Int) ≤ T3 30 x5_75 ∧ T3 30 x5_75 ≤ 19 := hIT3 30 x5_75
                      refine zi_iald hx hb hK.1 hP 11 0 rfl rfl (by omega) (by omega) (by decide) dX8_reaches_100 ?_
                      have f_100 : (0 : Int) ≤ T3 14 (T3 30 x5_75) ∧ T3 14 (T3 30 x5_75) ≤ 20 := hIT3 14 (T3 30 x5_75)
                      refine lv_aload_n hx hb dX8_reaches_101 rfl (lv_at hl 2 rfl) ?_
                      refine va_get (D := D) (ci := 8) (v := .ref (bd 15)) (C := RX8) (T := TX8) (N := 32) hx hb hts in_X8_reaches_8 hown hK.1 hP 0 rfl rfl 14 (by decide) (hts _ lk_X8_reaches_40) (fun _ h9 => h9) rfl dX8_reaches_102 ?_
                      refine lv_aload_n hx hb dX8_reaches_105 rfl (lv_at hl 2 rfl) ?_
                      refine va_get (D := D) (ci := 8) (v := .ref (bd 31)) (C := RX8) (T := TX8) (N := 32) hx hb hts in_X8_reaches_8 hown hK.1 hP 0 rfl rfl 30 (by decide) (hts _ lk_X8_reaches_77) (fun _ h9 => h9) rfl dX8_reaches_106 ?_
                      refine lv_iload hx hb dX8_reaches_109 (lv_at hl 1 rfl) ?_
                      refine zi_iald hx hb hK.1 hP 23 0 rfl rfl (by omega) (by omega) (by decide) dX8_reaches_111 ?_
                      have f_111 : (-1 : Int) ≤ T3 30 x4_67 ∧ T3 30 x4_67 ≤ 19 := hIT3 30 x4_67
                      refine zi_iald hx hb hK.1 hP 11 0 rfl rfl (by omega) (by omega) (by decide) dX8_reaches_112 ?_
                      have f_112 : (0 : Int) ≤ T3 14 (T3 30 x4_67) ∧ T3 14 (T3 30 x4_67) ≤ 20 := hIT3 14 (T3 30 x4_67)
                      refine zi_icmp_ge (tgt := 120) hx hb ⟨by omega, by omega⟩ ⟨by omega, by omega⟩ dX8_reaches_113 (by decide) (fun c_113 => ?_) (fun c_113 => ?_)
                      · refine zi_iconst hx hb dX8_reaches_120 ?_
                        exact K_121 0 (b2_f (fun h9 => absurd h9.2 (Int.not_lt.mpr c_113))).symm _ (lv_sub hl [2, 3, 4, 5, 1, 0] rfl)
                      · refine zi_iconst hx hb dX8_reaches_116 ?_
                        refine lv_goto (tgt := 121) hx hb dX8_reaches_117 (by decide) ?_
                        exact K_121 1 (b2_t ⟨b2_1 er_83 c_86, Int.not_le.mp c_113⟩).symm _ (lv_sub hl [2, 3, 4, 5, 1, 0] rfl)
              refine lv_istore_n (lv' := [(3, .int (zi 0)), (0, .ref (bd 0)), (1, .int (zi x0)), (2, .int (zi i))]) hx hb dX8_reaches_47 rfl hl (by decide) rfl (fun ls hl => ?_)
              exact K_48 ((S 11 0 * S 11 0).toNat + 1) ((S 11 0 * S 11 0).toNat) 0 T2 (by first | omega | assumption) (by first | omega | assumption) (by rw [rcO, h_d.1]) h_d h_v (by omega) hIT2 _ _ hP hS _ (lv_sub hl [1, 2, 3, 0] rfl)
        refine lv_istore_n (lv' := [(2, .int (zi 0)), (0, .ref (bd 0)), (1, .int (zi x0))]) hx hb dX8_reaches_37 rfl hl (by decide) rfl (fun ls hl => ?_)
        exact K_38 ((S 11 0).toNat + 1) ((S 11 0).toNat) 0 T (by first | omega | assumption) (by first | omega | assumption) (by rw [rcM, ← h_Z]; rfl) h_d (fun q h0 h1 h2 => h_v q h0 (by omega) h2) (by omega) hIT _ _ hP hS _ (lv_sub hl [1, 2, 0] rfl)
      · obtain ⟨n, rfl⟩ : ∃ n9 : Nat, n = n9 + 1 := ⟨n - 1, by omega⟩
        refine lv_aload_n hx hb dX8_reaches_10 rfl (lv_at hl 0 rfl) ?_
        refine va_get (D := D) (ci := 8) (v := .ref (bd 31)) (C := RX8) (T := TX8) (N := 32) hx hb hts in_X8_reaches_8 hown hK.1 hP 0 rfl rfl 30 (by decide) (hts _ lk_X8_reaches_77) (fun _ h9 => h9) rfl dX8_reaches_11 ?_
        refine lv_iload_n hx hb dX8_reaches_14 rfl (lv_at hl 2 rfl) ?_
        refine lv_aload_n hx hb dX8_reaches_15 rfl (lv_at hl 0 rfl) ?_
        refine va_get (D := D) (ci := 8) (v := .ref (bd 15)) (C := RX8) (T := TX8) (N := 32) hx hb hts in_X8_reaches_8 hown hK.1 hP 0 rfl rfl 14 (by decide) (hts _ lk_X8_reaches_40) (fun _ h9 => h9) rfl dX8_reaches_16 ?_
        refine lv_iload_n hx hb dX8_reaches_19 rfl (lv_at hl 2 rfl) ?_
        refine zi_iald hx hb hK.1 hP 11 0 rfl rfl (by omega) (by omega) (by decide) dX8_reaches_20 ?_
        have f_20 : (0 : Int) ≤ T 14 i ∧ T 14 i ≤ 20 := hIT 14 i
        refine zi_if_le (tgt := 28) hx hb ⟨by omega, by omega⟩ dX8_reaches_21 (by decide) (fun c_21 => ?_) (fun c_21 => ?_)
        · refine zi_iconst hx hb dX8_reaches_28 ?_
          refine zi_iast hx hb hK.1 hP (mW_D hdis _) hS 23 0 rfl rfl (by omega) (by omega) (by decide) dX8_reaches_29 (fun H locs hP hS => ?_)
          have hP : va_P D vwCl (mW cI cZ bd (su T 30 (up (T 30) i (-1)))) H := hP
          have hI_29 : MI (su T 30 (up (T 30) i (-1))) := MI.up hIT 30 i (-1) (show (-1 : Int) ≤ (-1) ∧ (-1) ≤ 19 from ⟨by omega, by omega⟩)
          generalize eS_29 : su T 30 (up (T 30) i (-1)) = S_29 at hP hI_29
          refine zi_iinc (k := 2) (lv' := [(2, .int (zi (i + 1))), (0, .ref (bd 0)), (1, .int (zi x0))]) hx hb dX8_reaches_30 hl rfl (by decide) rfl (fun ls hl => ?_)
          refine lv_goto (tgt := 2) hx hb dX8_reaches_33 (by decide) ?_
          exact ih_2 n (i + 1) S_29 (by first | omega | assumption) (by first | omega | assumption) (by rw [← h_Z, itr_s, ← eS_29, rcF, if_neg (Int.not_lt.mpr c_21)]) (by rw [← eS_29]; exact h_d) (fun q h0 h1 h2 => by rw [← eS_29, su_s]; by_cases hq : q = i; (subst hq; rw [← h_d.2] at h2; exact absurd h2 (by omega)); (rw [up_n _ _ hq]; exact h_v q h0 (by omega) h2)) (by omega) hI_29 _ _ hP hS _ (lv_sub hl [1, 2, 0] rfl)
        · refine lv_iload_n hx hb dX8_reaches_24 rfl (lv_at hl 2 rfl) ?_
          refine lv_goto (tgt := 29) hx hb dX8_reaches_25 (by decide) ?_
          refine zi_iast hx hb hK.1 hP (mW_D hdis _) hS 23 0 rfl rfl (by omega) (by omega) (by decide) dX8_reaches_29 (fun H locs hP hS => ?_)
          have hP : va_P D vwCl (mW cI cZ bd (su T 30 (up (T 30) i i))) H := hP
          have hI_29 : MI (su T 30 (up (T 30) i i)) := MI.up hIT 30 i i (show (-1 : Int) ≤ i ∧ i ≤ 19 from ⟨by omega, by omega⟩)
          generalize eS_29 : su T 30 (up (T 30) i i) = S_29 at hP hI_29
          refine zi_iinc (k := 2) (lv' := [(2, .int (zi (i + 1))), (0, .ref (bd 0)), (1, .int (zi x0))]) hx hb dX8_reaches_30 hl rfl (by decide) rfl (fun ls hl => ?_)
          refine lv_goto (tgt := 2) hx hb dX8_reaches_33 (by decide) ?_
          exact ih_2 n (i + 1) S_29 (by first | omega | assumption) (by first | omega | assumption) (by rw [← h_Z, itr_s, ← eS_29, rcF, if_pos (Int.not_le.mp c_21)]) (by rw [← eS_29]; exact h_d) (fun q h0 h1 h2 => by rw [← eS_29, su_s]; by_cases hq : q = i; (subst hq; rw [up_s]; exact h0); (rw [up_n _ _ hq]; exact h_v q h0 (by omega) h2)) (by omega) hI_29 _ _ hP hS _ (lv_sub hl [1, 2, 0] rfl)
  refine lv_istore_n (lv' := [(2, .int (zi 0)), (0, .ref (bd 0)), (1, .int (zi x0))]) hx hb dX8_reaches_1 rfl hl (by decide) rfl (fun ls hl => ?_)
  exact K_2 ((S 11 0).toNat + 1) ((S 11 0).toNat) 0 S (by first | omega | assumption) (by first | omega | assumption) rfl ⟨rfl, rfl⟩ (fun q h0 h1 _ => absurd h1 (by omega)) (by omega) hI _ _ hP hS _ (lv_sub hl [1, 2, 0] rfl)

theorem in_X8_familyOf_8 : ∀ w ∈ wsX80, w ∈ wsX8_familyOf := by decide +kernel
theorem lk_X8_familyOf_77 : Cond.fieldLink RX8 77 "PlanetoidDeskModel" "reached" "[I" ∈ wsX8_familyOf := by decide +kernel
abbrev rmct_X8_familyOf : Room := { frames := 3, cells := 0, slots := 0, locals := 69 }
set_option maxHeartbeats 4000000 in
set_option maxRecDepth 100000 in
theorem ct_X8_familyOf (l : Launch) (D : va_G) (cI cZ cJ : ClassId) (bd : Nat → Nat) (S : ZS) (hI : MI S) (hdis : mDis bd) (x0 x1 : Int) (hx0 : ir x0) (hx1 : ir x1) (hp00 : 0 ≤ x0) (hp01 : x0 ≤ 19) (hp10 : 0 ≤ x1) (hp11 : x1 ≤ 90) : Met l yX8_familyOf wsX8_familyOf rmct_X8_familyOf (zP D cI cZ cJ (mW cI cZ bd S) [.ref (bd 0), .int (zi x0), .int (zi x1)]) (zWi D (mW cI cZ bd) (mA bd) (fun r T => r = rcM x1 S 30 x0 ∧ T = rcM x1 S ∧ MI T)) 0 0 (mA bd) := by
  refine Met.ofW (cc := cX8_familyOf) (maxL := 3) (ret := (some .int)) (by decide) rfl ?_
  intro p e s m args below meth c s₁ B hml hv
  obtain ⟨rfl, hP, hK⟩ := hv
  have hx := B.exec
  have hb := B.bytes
  have hr := B.returns
  have hts := atoms_spec (ws := wsX8_familyOf) B.pre
  have hown : s.vm.findClass RX8 = some m.cls := findClass_of_methodNamed B.named
  have hlocks := B.notSynchronized
  have hl := lv_entry ([.ref (bd 0), .int (zi x0), .int (zi x1)]) (n := 3) (Nat.le_of_ble_eq_true rfl)
  rw [lg_entry_eq]
  generalize (lg_sl ([.ref (bd 0), .int (zi x0), .int (zi x1)]) ++ List.replicate (3 - (lg_sl ([.ref (bd 0), .int (zi x0), .int (zi x1)])).length) Slot.unset).toArray = ls at hl ⊢
  have hl : lv_has ls 3 [(0, .ref (bd 0)), (1, .int (zi x0)), (2, .int (zi x1))] := hl
  have hS : va_S (mA bd) s.heap s.heap [] := va_S.rf
  show W p l e rmct_X8_familyOf s m ([.ref (bd 0), .int (zi x0), .int (zi x1)] : List Value).toArray below meth c s.heap [] 0 0 (MQ below (zWi D (mW cI cZ bd) (mA bd) (fun r T => r = rcM x1 S 30 x0 ∧ T = rcM x1 S ∧ MI T)) ([.ref (bd 0), .int (zi x0), .int (zi x1)] : List Value).toArray s 0 0 (mA bd)) (F0 m 0 ls [])
  refine lv_aload_n hx hb dX8_familyOf_0 rfl (lv_at hl 0 rfl) ?_
  refine lv_iload_n hx hb dX8_familyOf_1 rfl (lv_at hl 2 rfl) ?_
  refine zk_wv (zc_V (As := [.int (zi x1)]) (rest := []) ⟨hx, hb, hml, hown, hts⟩ (ct_X8_reaches l D cI cZ cJ bd S hI hdis x1 ⟨by omega, by omega⟩ (by omega) (by omega)) (cwV 1 hts gX8_familyOf_X8_reaches rfl rfl rfl (by decide +kernel) ⟨Nat.le_of_ble_eq_true rfl, Nat.le_of_ble_eq_true rfl⟩) hK hP (q0 := 0) (ci := 8) rfl rfl rfl rfl hl.1 rfl (Nat.le_of_ble_eq_true rfl) dX8_familyOf_2 ⟨Nat.zero_le _, Nat.zero_le _⟩) hS (fun S_2 H locs hp_2 hP hS => ?_)
  obtain ⟨e9, hI_2⟩ := hp_2
  have eS_2 := e9.symm; clear e9
  refine lv_aload_n hx hb dX8_familyOf_5 rfl (lv_at hl 0 rfl) ?_
  refine va_get (D := D) (ci := 8) (v := .ref (bd 31)) (C := RX8) (T := TX8) (N := 32) hx hb hts in_X8_familyOf_8 hown hK.1 hP 0 rfl rfl 30 (by decide) (hts _ lk_X8_familyOf_77) (fun _ h9 => h9) rfl dX8_familyOf_6 ?_
  refine lv_iload_n hx hb dX8_familyOf_9 rfl (lv_at hl 1 rfl) ?_
  refine zi_iald hx hb hK.1 hP 23 0 rfl rfl (by omega) (by omega) (by decide) dX8_familyOf_10 ?_
  have f_10 : (-1 : Int) ≤ S_2 30 x0 ∧ S_2 30 x0 ≤ 19 := hI_2 30 x0
  exact zr_wi (T := S_2) hx hb hr hlocks dX8_familyOf_11 hP hS (by exact ⟨by rw [eS_2], eS_2.symm, hI_2⟩)

theorem fl_step {S T U : ZS} {p k r w : Int} (hk : 0 ≤ k) (hL : ∀ q : Int, 0 ≤ q → q < p → T 28 q = lsA S p q k.toNat ∧ T 29 q = msA S p q k.toNat) (hr : r = w % p) (hw : w = nM S (S 20 k))
    (h1 : (T 9 (T 20 k) < T 28 r ∧ U 28 = up (T 28) r (T 9 (T 20 k))) ∨ (T 28 r ≤ T 9 (T 20 k) ∧ U 28 = up (T 28) r (T 28 r))) (h2 : (T 29 r < T 9 (T 20 k) ∧ U 29 = up (T 29) r (T 9 (T 20 k))) ∨ (T 9 (T 20 k) ≤ T 29 r ∧ U 29 = up (T 29) r (T 29 r))) (hd : ∀ q : Nat, q ≠ 28 → q ≠ 29 → T q = S q) : ∀ q : Int, 0 ≤ q → q < p → U 28 q = lsA S p q (k + 1).toNat ∧ U 29 q = msA S p q (k + 1).toNat := by
  intro q h3 h4
  have hq := hL q h3 h4
  have e1 : lsA S p q (k + 1).toNat = lsF S p q k (lsA S p q k.toNat) := itr_li _ hk _
  have e2 : msA S p q (k + 1).toNat = msF S p q k (msA S p q k.toNat) := itr_li _ hk _
  rw [e1, e2, ← hq.1, ← hq.2, lsF, msF, ← hw, ← hr]
  rw [hd 9 (by decide) (by decide), hd 20 (by decide) (by decide)] at h1 h2
  by_cases hqr : q = r
  · subst hqr
    constructor
    · rcases h1 with ⟨h5, h6⟩ | ⟨h5, h6⟩
      · rw [h6, up_s, if_pos ⟨rfl, h5⟩]
      · rw [h6, up_s, if_neg (fun h9 => absurd h9.2 (by omega))]
    · rcases h2 with ⟨h5, h6⟩ | ⟨h5, h6⟩
      · rw [h6, up_s, if_pos ⟨rfl, h5⟩]
      · rw [h6, up_s, if_neg (fun h9 => absurd h9.2 (by omega))]
  · rw [if_neg (fun h9 => hqr h9.1.symm), if_neg (fun h9 => hqr h9.1.symm)]
    constructor
    · rcases h1 with ⟨_, h6⟩ | ⟨_, h6⟩ <;> rw [h6, up_n _ _ hqr]
    · rcases h2 with ⟨_, h6⟩ | ⟨_, h6⟩ <;> rw [h6, up_n _ _ hqr]
theorem in_X8_fault_8 : ∀ w ∈ wsX80, w ∈ wsX8_fault := by decide +kernel
theorem lk_X8_fault_127 : Cond.fieldLink RX8 127 "PlanetoidDeskModel" "looks" "I" ∈ wsX8_fault := by decide +kernel
theorem lk_X8_fault_71 : Cond.fieldLink RX8 71 "PlanetoidDeskModel" "least" "[I" ∈ wsX8_fault := by decide +kernel
theorem lk_X8_fault_74 : Cond.fieldLink RX8 74 "PlanetoidDeskModel" "most" "[I" ∈ wsX8_fault := by decide +kernel
theorem lk_X8_fault_49 : Cond.fieldLink RX8 49 "PlanetoidDeskModel" "look" "[I" ∈ wsX8_fault := by decide +kernel
theorem lk_X8_fault_28 : Cond.fieldLink RX8 28 "PlanetoidDeskModel" "light" "[I" ∈ wsX8_fault := by decide +kernel
abbrev rmct_X8_fault : Room := { frames := 1, cells := 0, slots := 0, locals := 21 }
set_option maxHeartbeats 4000000 in
set_option maxRecDepth 100000 in
theorem ct_X8_fault (l : Launch) (D : va_G) (cI cZ cJ : ClassId) (bd : Nat → Nat) (S : ZS) (hI : MI S) (hdis : mDis bd) (x0 : Int) (hx0 : ir x0) (hp00 : 2 ≤ x0) (hp01 : x0 ≤ 20) : Met l yX8_fault wsX8_fault rmct_X8_fault (zP D cI cZ cJ (mW cI cZ bd S) [.ref (bd 0), .int (zi x0)]) (zWi D (mW cI cZ bd) (mA bd) (fun r T => r = flM S x0 ∧ (∀ q : Nat, q ≠ 28 → q ≠ 29 → T q = S q) ∧ MI T)) 0 0 (mA bd) := by
  refine Met.ofW (cc := cX8_fault) (maxL := 4) (ret := (some .int)) (by decide) rfl ?_
  intro p e s m args below meth c s₁ B hml hv
  obtain ⟨rfl, hP, hK⟩ := hv
  have hx := B.exec
  have hb := B.bytes
  have hr := B.returns
  have hts := atoms_spec (ws := wsX8_fault) B.pre
  have hown : s.vm.findClass RX8 = some m.cls := findClass_of_methodNamed B.named
  have hlocks := B.notSynchronized
  have hl := lv_entry ([.ref (bd 0), .int (zi x0)]) (n := 4) (Nat.le_of_ble_eq_true rfl)
  rw [lg_entry_eq]
  generalize (lg_sl ([.ref (bd 0), .int (zi x0)]) ++ List.replicate (4 - (lg_sl ([.ref (bd 0), .int (zi x0)])).length) Slot.unset).toArray = ls at hl ⊢
  have hl : lv_has ls 4 [(0, .ref (bd 0)), (1, .int (zi x0))] := hl
  have hS : va_S (mA bd) s.heap s.heap [] := va_S.rf
  show W p l e rmct_X8_fault s m ([.ref (bd 0), .int (zi x0)] : List Value).toArray below meth c s.heap [] 0 0 (MQ below (zWi D (mW cI cZ bd) (mA bd) (fun r T => r = flM S x0 ∧ (∀ q : Nat, q ≠ 28 → q ≠ 29 → T q = S q) ∧ MI T)) ([.ref (bd 0), .int (zi x0)] : List Value).toArray s 0 0 (mA bd)) (F0 m 0 ls [])
  refine zi_iconst hx hb dX8_fault_0 ?_
  have K_2 : ∀ (k : Nat) (n : Nat) (i : Int) (T : ZS), (i + (n : Int) = x0) → (0 ≤ i) → (∀ q : Nat, q ≠ 28 → q ≠ 29 → T q = S q) → (∀ q : Int, 0 ≤ q → q < i → T 28 q = 100 ∧ T 29 q = 0) → ((n : Int) < (k : Int)) → MI T → ∀ (H : Heap) (locs : List Loc), va_P D vwCl (mW cI cZ bd T) H → va_S (mA bd) s.heap H locs → ∀ (ls : Array Slot), lv_has ls 4 [(0, .ref (bd 0)), (1, .int (zi x0)), (2, .int (zi i))] → W p l e rmct_X8_fault s m ([.ref (bd 0), .int (zi x0)] : List Value).toArray below meth c H locs 0 0 (MQ below (zWi D (mW cI cZ bd) (mA bd) (fun r T => r = flM S x0 ∧ (∀ q : Nat, q ≠ 28 → q ≠ 29 → T q = S q) ∧ MI T)) ([.ref (bd 0), .int (zi x0)] : List Value).toArray s 0 0 (mA bd)) (F0 m 2 ls []) := by
    intro k
    induction k with
    | zero => intro n i T h_n h_i h_d h_z hk hIT; exact absurd hk (by omega)
    | succ k ih_2 =>
      intro n i T h_n h_i h_d h_z hk hIT H locs hP hS ls hl
      refine lv_iload_n hx hb dX8_fault_2 rfl (lv_at hl 2 rfl) ?_
      refine lv_iload_n hx hb dX8_fault_3 rfl (lv_at hl 1 rfl) ?_
      refine zi_icmp_ge (tgt := 28) hx hb ⟨by omega, by omega⟩ ⟨by omega, by omega⟩ dX8_fault_4 (by decide) (fun c_4 => ?_) (fun c_4 => ?_)
      · obtain rfl : n = 0 := by omega
        have hb19 : (0 : Int) ≤ S 19 0 ∧ S 19 0 ≤ 60 := hI 19 0
        refine zi_iconst hx hb dX8_fault_28 ?_
        have K_30 : ∀ (k : Nat) (n : Nat) (k9 : Int) (T2 : ZS), (k9 + (n : Int) = S 19 0) → (0 ≤ k9) → (∀ q : Nat, q ≠ 28 → q ≠ 29 → T2 q = S q) → (∀ q : Int, 0 ≤ q → q < x0 → T2 28 q = lsA S x0 q k9.toNat ∧ T2 29 q = msA S x0 q k9.toNat) → ((n : Int) < (k : Int)) → MI T2 → ∀ (H : Heap) (locs : List Loc), va_P D vwCl (mW cI cZ bd T2) H → va_S (mA bd) s.heap H locs → ∀ (ls : Array Slot), lv_has ls 4 [(0, .ref (bd 0)), (1, .int (zi x0)), (2, .int (zi k9))] → W p l e rmct_X8_fault s m ([.ref (bd 0), .int (zi x0)] : List Value).toArray below meth c H locs 0 0 (MQ below (zWi D (mW cI cZ bd) (mA bd) (fun r T => r = flM S x0 ∧ (∀ q : Nat, q ≠ 28 → q ≠ 29 → T q = S q) ∧ MI T)) ([.ref (bd 0), .int (zi x0)] : List Value).toArray s 0 0 (mA bd)) (F0 m 30 ls []) := by
          intro k
          induction k with
          | zero => intro n k9 T2 h_n h_i h_d h_L hk hIT2; exact absurd hk (by omega)
          | succ k ih_30 =>
            intro n k9 T2 h_n h_i h_d h_L hk hIT2 H locs hP hS ls hl
            refine lv_iload_n hx hb dX8_fault_30 rfl (lv_at hl 2 rfl) ?_
            refine lv_aload_n hx hb dX8_fault_31 rfl (lv_at hl 0 rfl) ?_
            have hd19 : T2 19 0 = S 19 0 := by rw [h_d 19 (by decide) (by decide)]
            have hb19 : (0 : Int) ≤ S 19 0 ∧ S 19 0 ≤ 60 := hI 19 0
            refine va_get (D := D) (ci := 8) (v := .int (zi (T2 19 0))) (C := RX8) (T := TX8) (N := 32) hx hb hts in_X8_fault_8 hown hK.1 hP 0 rfl rfl 19 (by decide) (hts _ lk_X8_fault_127) (fun _ h9 => h9) rfl dX8_fault_32 ?_
            have f_32 : (0 : Int) ≤ T2 19 0 ∧ T2 19 0 ≤ 60 := hIT2 19 0
            refine zi_icmp_ge (tgt := 149) hx hb ⟨by omega, by omega⟩ ⟨by omega, by omega⟩ dX8_fault_35 (by decide) (fun c_35 => ?_) (fun c_35 => ?_)
            · obtain rfl : n = 0 := by omega
              have h_LL : ∀ q : Int, 0 ≤ q → q < x0 → T2 28 q = lsA S x0 q (S 19 0).toNat ∧ T2 29 q = msA S x0 q (S 19 0).toNat := by
                have e9 : k9 = S 19 0 := by omega
                rw [← e9]; exact h_L
              refine zi_iconst hx hb dX8_fault_149 ?_
              refine lv_istore_n (lv' := [(2, .int (zi 0)), (0, .ref (bd 0)), (1, .int (zi x0))]) hx hb dX8_fault_150 rfl hl (by decide) rfl (fun ls hl => ?_)
              refine zi_iconst hx hb dX8_fault_151 ?_
              have K_153 : ∀ (k : Nat) (n : Nat) (ac r9 : Int), (r9 + (n : Int) = x0) → (0 ≤ r9) → (itr (fun r acc => acc + flR S x0 r) n r9 ac = flM S x0) → ((n : Int) < (k : Int)) → ∀ (ls : Array Slot), lv_has ls 4 [(0, .ref (bd 0)), (1, .int (zi x0)), (2, .int (zi ac)), (3, .int (zi r9))] → W p l e rmct_X8_fault s m ([.ref (bd 0), .int (zi x0)] : List Value).toArray below meth c H locs 0 0 (MQ below (zWi D (mW cI cZ bd) (mA bd) (fun r T => r = flM S x0 ∧ (∀ q : Nat, q ≠ 28 → q ≠ 29 → T q = S q) ∧ MI T)) ([.ref (bd 0), .int (zi x0)] : List Value).toArray s 0 0 (mA bd)) (F0 m 153 ls []) := by
                intro k
                induction k with
                | zero => intro n ac r9 g_n g_i g_R hk; exact absurd hk (by omega)
                | succ k ih_153 =>
                  intro n ac r9 g_n g_i g_R hk ls hl
                  refine lv_iload_n hx hb dX8_fault_153 rfl (lv_at hl 3 rfl) ?_
                  refine lv_iload_n hx hb dX8_fault_154 rfl (lv_at hl 1 rfl) ?_
                  refine zi_icmp_ge (tgt := 195) hx hb ⟨by omega, by omega⟩ ⟨by omega, by omega⟩ dX8_fault_155 (by decide) (fun c_155 => ?_) (fun c_155 => ?_)
                  · obtain rfl : n = 0 := by omega
                    refine lv_iload_n hx hb dX8_fault_195 rfl (lv_at hl 2 rfl) ?_
                    exact zr_wi (T := T2) hx hb hr hlocks dX8_fault_196 hP hS (by exact ⟨g_R, h_d, hIT2⟩)
                  · obtain ⟨n, rfl⟩ : ∃ n9 : Nat, n = n9 + 1 := ⟨n - 1, by omega⟩
                    refine lv_iload_n hx hb dX8_fault_158 rfl (lv_at hl 2 rfl) ?_
                    refine lv_aload_n hx hb dX8_fault_159 rfl (lv_at hl 0 rfl) ?_
                    refine va_get (D := D) (ci := 8) (v := .ref (bd 29)) (C := RX8) (T := TX8) (N := 32) hx hb hts in_X8_fault_8 hown hK.1 hP 0 rfl rfl 28 (by decide) (hts _ lk_X8_fault_71) (fun _ h9 => h9) rfl dX8_fault_160 ?_
                    refine lv_iload_n hx hb dX8_fault_163 rfl (lv_at hl 3 rfl) ?_
                    refine zi_iald hx hb hK.1 hP 21 0 rfl rfl (by omega) (by omega) (by decide) dX8_fault_164 ?_
                    have f_164 : (0 : Int) ≤ T2 28 r9 ∧ T2 28 r9 ≤ 100 := hIT2 28 r9
                    refine zi_bipush hx hb dX8_fault_165 (by decide) ?_
                    refine zi_icmp_ge (tgt := 186) hx hb ⟨by omega, by omega⟩ ⟨by decide, by decide⟩ dX8_fault_167 (by decide) (fun c_167 => ?_) (fun c_167 => ?_)
                    · refine zi_iconst hx hb dX8_fault_186 ?_
                      refine zi_iadd hx hb dX8_fault_187 ?_
                      refine zi_top (fun x2_188 ex2_188 => ?_)
                      refine lv_istore_n (lv' := [(2, .int (zi x2_188)), (0, .ref (bd 0)), (1, .int (zi x0)), (3, .int (zi r9))]) hx hb dX8_fault_188 rfl hl (by decide) rfl (fun ls hl => ?_)
                      refine zi_iinc (k := 3) (lv' := [(3, .int (zi (r9 + 1))), (2, .int (zi x2_188)), (0, .ref (bd 0)), (1, .int (zi x0))]) hx hb dX8_fault_189 hl rfl (by decide) rfl (fun ls hl => ?_)
                      refine lv_goto (tgt := 153) hx hb dX8_fault_192 (by decide) ?_
                      exact ih_153 n x2_188 (r9 + 1) (by first | omega | assumption) (by first | omega | assumption) (by rw [← g_R, itr_s, ex2_188, flR, if_neg (by rw [← (h_LL r9 g_i (by omega)).1]; omega)]) (by omega) _ (lv_sub hl [2, 3, 1, 0] rfl)
                    · refine lv_aload_n hx hb dX8_fault_170 rfl (lv_at hl 0 rfl) ?_
                      refine va_get (D := D) (ci := 8) (v := .ref (bd 30)) (C := RX8) (T := TX8) (N := 32) hx hb hts in_X8_fault_8 hown hK.1 hP 0 rfl rfl 29 (by decide) (hts _ lk_X8_fault_74) (fun _ h9 => h9) rfl dX8_fault_171 ?_
                      refine lv_iload_n hx hb dX8_fault_174 rfl (lv_at hl 3 rfl) ?_
                      refine zi_iald hx hb hK.1 hP 22 0 rfl rfl (by omega) (by omega) (by decide) dX8_fault_175 ?_
                      have f_175 : (0 : Int) ≤ T2 29 r9 ∧ T2 29 r9 ≤ 99 := hIT2 29 r9
                      refine lv_aload_n hx hb dX8_fault_176 rfl (lv_at hl 0 rfl) ?_
                      refine va_get (D := D) (ci := 8) (v := .ref (bd 29)) (C := RX8) (T := TX8) (N := 32) hx hb hts in_X8_fault_8 hown hK.1 hP 0 rfl rfl 28 (by decide) (hts _ lk_X8_fault_71) (fun _ h9 => h9) rfl dX8_fault_177 ?_
                      refine lv_iload_n hx hb dX8_fault_180 rfl (lv_at hl 3 rfl) ?_
                      refine zi_iald hx hb hK.1 hP 21 0 rfl rfl (by omega) (by omega) (by decide) dX8_fault_181 ?_
                      have f_181 : (0 : Int) ≤ T2 28 r9 ∧ T2 28 r9 ≤ 100 := hIT2 28 r9
                      refine zi_isub hx hb dX8_fault_182 ?_
                      refine lv_goto (tgt := 187) hx hb dX8_fault_183 (by decide) ?_
                      refine zi_iadd hx hb dX8_fault_187 ?_
                      refine zi_top (fun x2_188 ex2_188 => ?_)
                      refine lv_istore_n (lv' := [(2, .int (zi x2_188)), (0, .ref (bd 0)), (1, .int (zi x0)), (3, .int (zi r9))]) hx hb dX8_fault_188 rfl hl (by decide) rfl (fun ls hl => ?_)
                      refine zi_iinc (k := 3) (lv' := [(3, .int (zi (r9 + 1))), (2, .int (zi x2_188)), (0, .ref (bd 0)), (1, .int (zi x0))]) hx hb dX8_fault_189 hl rfl (by decide) rfl (fun ls hl => ?_)
                      refine lv_goto (tgt := 153) hx hb dX8_fault_192 (by decide) ?_
                      exact ih_153 n x2_188 (r9 + 1) (by first | omega | assumption) (by first | omega | assumption) (by rw [← g_R, itr_s, ex2_188, flR, if_pos (by rw [← (h_LL r9 g_i (by omega)).1]; omega), (h_LL r9 g_i (by omega)).1, (h_LL r9 g_i (by omega)).2]) (by omega) _ (lv_sub hl [2, 3, 1, 0] rfl)
              refine lv_istore_n (lv' := [(3, .int (zi 0)), (2, .int (zi 0)), (0, .ref (bd 0)), (1, .int (zi x0))]) hx hb dX8_fault_152 rfl hl (by decide) rfl (fun ls hl => ?_)
              exact K_153 (x0.toNat + 1) x0.toNat 0 0 (by first | omega | assumption) (by first | omega | assumption) (by rw [flM]) (by omega) _ (lv_sub hl [2, 3, 1, 0] rfl)
            · obtain ⟨n, rfl⟩ : ∃ n9 : Nat, n = n9 + 1 := ⟨n - 1, by omega⟩
              refine lv_aload_n hx hb dX8_fault_38 rfl (lv_at hl 0 rfl) ?_
              refine lv_aload_n hx hb dX8_fault_39 rfl (lv_at hl 0 rfl) ?_
              refine va_get (D := D) (ci := 8) (v := .ref (bd 21)) (C := RX8) (T := TX8) (N := 32) hx hb hts in_X8_fault_8 hown hK.1 hP 0 rfl rfl 20 (by decide) (hts _ lk_X8_fault_49) (fun _ h9 => h9) rfl dX8_fault_40 ?_
              refine lv_iload_n hx hb dX8_fault_43 rfl (lv_at hl 2 rfl) ?_
              refine zi_iald hx hb hK.1 hP 14 0 rfl rfl (by omega) (by omega) (by decide) dX8_fault_44 ?_
              have f_44 : (0 : Int) ≤ T2 20 k9 ∧ T2 20 k9 ≤ 59 := hIT2 20 k9
              refine zk_r (zc_V (As := [.int (zi (T2 20 k9))]) (rest := []) ⟨hx, hb, hml, hown, hts⟩ (ct_X8_nightOf l D cI cZ cJ bd T2 hIT2 (T2 20 k9) ⟨by omega, by omega⟩ (by omega) (by omega)) (cwV 1 hts gX8_fault_X8_nightOf rfl rfl rfl (by decide +kernel) ⟨Nat.le_of_ble_eq_true rfl, Nat.le_of_ble_eq_true rfl⟩) hK hP (q0 := 0) (ci := 8) rfl rfl rfl rfl hl.1 rfl (Nat.le_of_ble_eq_true rfl) dX8_fault_45 ⟨Nat.zero_le _, Nat.zero_le _⟩) ?_
              refine zi_top (fun (r_45 : Int) (er_45 : r_45 = nM T2 (T2 20 k9)) => ?_)
              have fr_45 : (0 : Int) ≤ r_45 ∧ r_45 ≤ 999 := by rw [er_45]; exact nM_b hIT2 _
              refine lv_iload_n hx hb dX8_fault_48 rfl (lv_at hl 1 rfl) ?_
              refine zi_irem hx hb ⟨by omega, by omega⟩ ⟨by omega, by omega⟩ (by omega) (by omega) dX8_fault_49 ?_
              have q_1 : 0 ≤ r_45 % x0 := Int.emod_nonneg _ (by omega)
              have q_2 : r_45 % x0 < x0 := Int.emod_lt_of_pos _ (by omega)
              refine zi_top (fun x3_50 ex3_50 => ?_)
              refine lv_istore_n (lv' := [(3, .int (zi x3_50)), (0, .ref (bd 0)), (1, .int (zi x0)), (2, .int (zi k9))]) hx hb dX8_fault_50 rfl hl (by decide) rfl (fun ls hl => ?_)
              have e9n : r_45 = nM S (S 20 k9) := by rw [er_45, nM, nM, h_d 5 (by decide) (by decide), h_d 7 (by decide) (by decide), h_d 20 (by decide) (by decide)]
              refine lv_aload_n hx hb dX8_fault_51 rfl (lv_at hl 1 rfl) ?_
              refine va_get (D := D) (ci := 8) (v := .ref (bd 29)) (C := RX8) (T := TX8) (N := 32) hx hb hts in_X8_fault_8 hown hK.1 hP 0 rfl rfl 28 (by decide) (hts _ lk_X8_fault_71) (fun _ h9 => h9) rfl dX8_fault_52 ?_
              refine lv_iload_n hx hb dX8_fault_55 rfl (lv_at hl 0 rfl) ?_
              refine lv_aload_n hx hb dX8_fault_56 rfl (lv_at hl 1 rfl) ?_
              refine va_get (D := D) (ci := 8) (v := .ref (bd 10)) (C := RX8) (T := TX8) (N := 32) hx hb hts in_X8_fault_8 hown hK.1 hP 0 rfl rfl 9 (by decide) (hts _ lk_X8_fault_28) (fun _ h9 => h9) rfl dX8_fault_57 ?_
              refine lv_aload_n hx hb dX8_fault_60 rfl (lv_at hl 1 rfl) ?_
              refine va_get (D := D) (ci := 8) (v := .ref (bd 21)) (C := RX8) (T := TX8) (N := 32) hx hb hts in_X8_fault_8 hown hK.1 hP 0 rfl rfl 20 (by decide) (hts _ lk_X8_fault_49) (fun _ h9 => h9) rfl dX8_fault_61 ?_
              refine lv_iload_n hx hb dX8_fault_64 rfl (lv_at hl 3 rfl) ?_
              refine zi_iald hx hb hK.1 hP 14 0 rfl rfl (by omega) (by omega) (by decide) dX8_fault_65 ?_
              have f_65 : (0 : Int) ≤ T2 20 k9 ∧ T2 20 k9 ≤ 59 := hIT2 20 k9
              refine zi_iald hx hb hK.1 hP 7 0 rfl rfl (by omega) (by omega) (by decide) dX8_fault_66 ?_
              have f_66 : (0 : Int) ≤ T2 9 (T2 20 k9) ∧ T2 9 (T2 20 k9) ≤ 99 := hIT2 9 (T2 20 k9)
              refine lv_aload_n hx hb dX8_fault_67 rfl (lv_at hl 1 rfl) ?_
              refine va_get (D := D) (ci := 8) (v := .ref (bd 29)) (C := RX8) (T := TX8) (N := 32) hx hb hts in_X8_fault_8 hown hK.1 hP 0 rfl rfl 28 (by decide) (hts _ lk_X8_fault_71) (fun _ h9 => h9) rfl dX8_fault_68 ?_
              refine lv_iload_n hx hb dX8_fault_71 rfl (lv_at hl 0 rfl) ?_
              refine zi_iald hx hb hK.1 hP 21 0 rfl rfl (by omega) (by omega) (by decide) dX8_fault_72 ?_
              have f_72 : (0 : Int) ≤ T2 28 x3_50 ∧ T2 28 x3_50 ≤ 100 := hIT2 28 x3_50
              refine zi_icmp_ge (tgt := 90) hx hb ⟨by omega, by omega⟩ ⟨by omega, by omega⟩ dX8_fault_73 (by decide) (fun c_73 => ?_) (fun c_73 => ?_)
              · refine lv_aload_n hx hb dX8_fault_90 rfl (lv_at hl 1 rfl) ?_
                refine va_get (D := D) (ci := 8) (v := .ref (bd 29)) (C := RX8) (T := TX8) (N := 32) hx hb hts in_X8_fault_8 hown hK.1 hP 0 rfl rfl 28 (by decide) (hts _ lk_X8_fault_71) (fun _ h9 => h9) rfl dX8_fault_91 ?_
                refine lv_iload_n hx hb dX8_fault_94 rfl (lv_at hl 0 rfl) ?_
                refine zi_iald hx hb hK.1 hP 21 0 rfl rfl (by omega) (by omega) (by decide) dX8_fault_95 ?_
                have f_95 : (0 : Int) ≤ T2 28 x3_50 ∧ T2 28 x3_50 ≤ 100 := hIT2 28 x3_50
                refine zi_iast hx hb hK.1 hP (mW_D hdis _) hS 21 0 rfl rfl (by omega) (by omega) (by decide) dX8_fault_96 (fun H locs hP hS => ?_)
                have hP : va_P D vwCl (mW cI cZ bd (su T2 28 (up (T2 28) x3_50 (T2 28 x3_50)))) H := hP
                have hI_96 : MI (su T2 28 (up (T2 28) x3_50 (T2 28 x3_50))) := MI.up hIT2 28 x3_50 (T2 28 x3_50) (show (0 : Int) ≤ (T2 28 x3_50) ∧ (T2 28 x3_50) ≤ 100 from ⟨by omega, by omega⟩)
                generalize eS_96 : su T2 28 (up (T2 28) x3_50 (T2 28 x3_50)) = S_96 at hP hI_96
                refine lv_aload_n hx hb dX8_fault_97 rfl (lv_at hl 1 rfl) ?_
                refine va_get (D := D) (ci := 8) (v := .ref (bd 30)) (C := RX8) (T := TX8) (N := 32) hx hb hts in_X8_fault_8 hown hK.1 hP 0 rfl rfl 29 (by decide) (hts _ lk_X8_fault_74) (fun _ h9 => h9) rfl dX8_fault_98 ?_
                refine lv_iload_n hx hb dX8_fault_101 rfl (lv_at hl 0 rfl) ?_
                refine lv_aload_n hx hb dX8_fault_102 rfl (lv_at hl 1 rfl) ?_
                refine va_get (D := D) (ci := 8) (v := .ref (bd 10)) (C := RX8) (T := TX8) (N := 32) hx hb hts in_X8_fault_8 hown hK.1 hP 0 rfl rfl 9 (by decide) (hts _ lk_X8_fault_28) (fun _ h9 => h9) rfl dX8_fault_103 ?_
                refine lv_aload_n hx hb dX8_fault_106 rfl (lv_at hl 1 rfl) ?_
                refine va_get (D := D) (ci := 8) (v := .ref (bd 21)) (C := RX8) (T := TX8) (N := 32) hx hb hts in_X8_fault_8 hown hK.1 hP 0 rfl rfl 20 (by decide) (hts _ lk_X8_fault_49) (fun _ h9 => h9) rfl dX8_fault_107 ?_
                refine lv_iload_n hx hb dX8_fault_110 rfl (lv_at hl 3 rfl) ?_
                refine zi_iald hx hb hK.1 hP 14 0 rfl rfl (by omega) (by omega) (by decide) dX8_fault_111 ?_
                have f_111 : (0 : Int) ≤ S_96 20 k9 ∧ S_96 20 k9 ≤ 59 := hI_96 20 k9
                refine zi_iald hx hb hK.1 hP 7 0 rfl rfl (by omega) (by omega) (by decide) dX8_fault_112 ?_
                have f_112 : (0 : Int) ≤ S_96 9 (S_96 20 k9) ∧ S_96 9 (S_96 20 k9) ≤ 99 := hI_96 9 (S_96 20 k9)
                refine lv_aload_n hx hb dX8_fault_113 rfl (lv_at hl 1 rfl) ?_
                refine va_get (D := D) (ci := 8) (v := .ref (bd 30)) (C := RX8) (T := TX8) (N := 32) hx hb hts in_X8_fault_8 hown hK.1 hP 0 rfl rfl 29 (by decide) (hts _ lk_X8_fault_74) (fun _ h9 => h9) rfl dX8_fault_114 ?_
                refine lv_iload_n hx hb dX8_fault_117 rfl (lv_at hl 0 rfl) ?_
                refine zi_iald hx hb hK.1 hP 22 0 rfl rfl (by omega) (by omega) (by decide) dX8_fault_118 ?_
                have f_118 : (0 : Int) ≤ S_96 29 x3_50 ∧ S_96 29 x3_50 ≤ 99 := hI_96 29 x3_50
                refine zi_icmp_le (tgt := 136) hx hb ⟨by omega, by omega⟩ ⟨by omega, by omega⟩ dX8_fault_119 (by decide) (fun c_119 => ?_) (fun c_119 => ?_)
                · refine lv_aload_n hx hb dX8_fault_136 rfl (lv_at hl 1 rfl) ?_
                  refine va_get (D := D) (ci := 8) (v := .ref (bd 30)) (C := RX8) (T := TX8) (N := 32) hx hb hts in_X8_fault_8 hown hK.1 hP 0 rfl rfl 29 (by decide) (hts _ lk_X8_fault_74) (fun _ h9 => h9) rfl dX8_fault_137 ?_
                  refine lv_iload_n hx hb dX8_fault_140 rfl (lv_at hl 0 rfl) ?_
                  refine zi_iald hx hb hK.1 hP 22 0 rfl rfl (by omega) (by omega) (by decide) dX8_fault_141 ?_
                  have f_141 : (0 : Int) ≤ S_96 29 x3_50 ∧ S_96 29 x3_50 ≤ 99 := hI_96 29 x3_50
                  refine zi_iast hx hb hK.1 hP (mW_D hdis _) hS 22 0 rfl rfl (by omega) (by omega) (by decide) dX8_fault_142 (fun H locs hP hS => ?_)
                  have hP : va_P D vwCl (mW cI cZ bd (su S_96 29 (up (S_96 29) x3_50 (S_96 29 x3_50)))) H := hP
                  have hI_142 : MI (su S_96 29 (up (S_96 29) x3_50 (S_96 29 x3_50))) := MI.up hI_96 29 x3_50 (S_96 29 x3_50) (show (0 : Int) ≤ (S_96 29 x3_50) ∧ (S_96 29 x3_50) ≤ 99 from ⟨by omega, by omega⟩)
                  generalize eS_142 : su S_96 29 (up (S_96 29) x3_50 (S_96 29 x3_50)) = S_142 at hP hI_142
                  refine zi_iinc (k := 3) (lv' := [(2, .int (zi (k9 + 1))), (3, .int (zi x3_50)), (0, .ref (bd 0)), (1, .int (zi x0))]) hx hb dX8_fault_143 hl rfl (by decide) rfl (fun ls hl => ?_)
                  refine lv_goto (tgt := 30) hx hb dX8_fault_146 (by decide) ?_
                  exact ih_30 n (k9 + 1) S_142 (by first | omega | assumption) (by first | omega | assumption) (fun q h0 h1 => by rw [← eS_142, ← eS_96, su_n _ _ h1, su_n _ _ h0]; exact h_d q h0 h1) (fl_step (T := T2) h_i h_L ex3_50 e9n (by rw [← eS_142, ← eS_96]; exact Or.inr ⟨c_73, rfl⟩) (by rw [← eS_96] at c_119; rw [← eS_142, ← eS_96]; exact Or.inr ⟨c_119, rfl⟩) h_d) (by omega) hI_142 _ _ hP hS _ (lv_sub hl [2, 3, 0] rfl)
                · refine lv_aload_n hx hb dX8_fault_122 rfl (lv_at hl 1 rfl) ?_
                  refine va_get (D := D) (ci := 8) (v := .ref (bd 10)) (C := RX8) (T := TX8) (N := 32) hx hb hts in_X8_fault_8 hown hK.1 hP 0 rfl rfl 9 (by decide) (hts _ lk_X8_fault_28) (fun _ h9 => h9) rfl dX8_fault_123 ?_
                  refine lv_aload_n hx hb dX8_fault_126 rfl (lv_at hl 1 rfl) ?_
                  refine va_get (D := D) (ci := 8) (v := .ref (bd 21)) (C := RX8) (T := TX8) (N := 32) hx hb hts in_X8_fault_8 hown hK.1 hP 0 rfl rfl 20 (by decide) (hts _ lk_X8_fault_49) (fun _ h9 => h9) rfl dX8_fault_127 ?_
                  refine lv_iload_n hx hb dX8_fault_130 rfl (lv_at hl 3 rfl) ?_
                  refine zi_iald hx hb hK.1 hP 14 0 rfl rfl (by omega) (by omega) (by decide) dX8_fault_131 ?_
                  have f_131 : (0 : Int) ≤ S_96 20 k9 ∧ S_96 20 k9 ≤ 59 := hI_96 20 k9
                  refine zi_iald hx hb hK.1 hP 7 0 rfl rfl (by omega) (by omega) (by decide) dX8_fault_132 ?_
                  have f_132 : (0 : Int) ≤ S_96 9 (S_96 20 k9) ∧ S_96 9 (S_96 20 k9) ≤ 99 := hI_96 9 (S_96 20 k9)
                  refine lv_goto (tgt := 142) hx hb dX8_fault_133 (by decide) ?_
                  refine zi_iast hx hb hK.1 hP (mW_D hdis _) hS 22 0 rfl rfl (by omega) (by omega) (by decide) dX8_fault_142 (fun H locs hP hS => ?_)
                  have hP : va_P D vwCl (mW cI cZ bd (su S_96 29 (up (S_96 29) x3_50 (S_96 9 (S_96 20 k9))))) H := hP
                  have hI_142 : MI (su S_96 29 (up (S_96 29) x3_50 (S_96 9 (S_96 20 k9)))) := MI.up hI_96 29 x3_50 (S_96 9 (S_96 20 k9)) (show (0 : Int) ≤ (S_96 9 (S_96 20 k9)) ∧ (S_96 9 (S_96 20 k9)) ≤ 99 from ⟨by omega, by omega⟩)
                  generalize eS_142 : su S_96 29 (up (S_96 29) x3_50 (S_96 9 (S_96 20 k9))) = S_142 at hP hI_142
                  refine zi_iinc (k := 3) (lv' := [(2, .int (zi (k9 + 1))), (3, .int (zi x3_50)), (0, .ref (bd 0)), (1, .int (zi x0))]) hx hb dX8_fault_143 hl rfl (by decide) rfl (fun ls hl => ?_)
                  refine lv_goto (tgt := 30) hx hb dX8_fault_146 (by decide) ?_
                  exact ih_30 n (k9 + 1) S_142 (by first | omega | assumption) (by first | omega | assumption) (fun q h0 h1 => by rw [← eS_142, ← eS_96, su_n _ _ h1, su_n _ _ h0]; exact h_d q h0 h1) (fl_step (T := T2) h_i h_L ex3_50 e9n (by rw [← eS_142, ← eS_96]; exact Or.inr ⟨c_73, rfl⟩) (by rw [← eS_96] at c_119; rw [← eS_142, ← eS_96]; exact Or.inl ⟨Int.not_le.mp c_119, rfl⟩) h_d) (by omega) hI_142 _ _ hP hS _ (lv_sub hl [2, 3, 0] rfl)
              · refine lv_aload_n hx hb dX8_fault_76 rfl (lv_at hl 1 rfl) ?_
                refine va_get (D := D) (ci := 8) (v := .ref (bd 10)) (C := RX8) (T := TX8) (N := 32) hx hb hts in_X8_fault_8 hown hK.1 hP 0 rfl rfl 9 (by decide) (hts _ lk_X8_fault_28) (fun _ h9 => h9) rfl dX8_fault_77 ?_
                refine lv_aload_n hx hb dX8_fault_80 rfl (lv_at hl 1 rfl) ?_
                refine va_get (D := D) (ci := 8) (v := .ref (bd 21)) (C := RX8) (T := TX8) (N := 32) hx hb hts in_X8_fault_8 hown hK.1 hP 0 rfl rfl 20 (by decide) (hts _ lk_X8_fault_49) (fun _ h9 => h9) rfl dX8_fault_81 ?_
                refine lv_iload_n hx hb dX8_fault_84 rfl (lv_at hl 3 rfl) ?_
                refine zi_iald hx hb hK.1 hP 14 0 rfl rfl (by omega) (by omega) (by decide) dX8_fault_85 ?_
                have f_85 : (0 : Int) ≤ T2 20 k9 ∧ T2 20 k9 ≤ 59 := hIT2 20 k9
                refine zi_iald hx hb hK.1 hP 7 0 rfl rfl (by omega) (by omega) (by decide) dX8_fault_86 ?_
                have f_86 : (0 : Int) ≤ T2 9 (T2 20 k9) ∧ T2 9 (T2 20 k9) ≤ 99 := hIT2 9 (T2 20 k9)
                refine lv_goto (tgt := 96) hx hb dX8_fault_87 (by decide) ?_
                refine zi_iast hx hb hK.1 hP (mW_D hdis _) hS 21 0 rfl rfl (by omega) (by omega) (by decide) dX8_fault_96 (fun H locs hP hS => ?_)
                have hP : va_P D vwCl (mW cI cZ bd (su T2 28 (up (T2 28) x3_50 (T2 9 (T2 20 k9))))) H := hP
                have hI_96 : MI (su T2 28 (up (T2 28) x3_50 (T2 9 (T2 20 k9)))) := MI.up hIT2 28 x3_50 (T2 9 (T2 20 k9)) (show (0 : Int) ≤ (T2 9 (T2 20 k9)) ∧ (T2 9 (T2 20 k9)) ≤ 100 from ⟨by omega, by omega⟩)
                generalize eS_96 : su T2 28 (up (T2 28) x3_50 (T2 9 (T2 20 k9))) = S_96 at hP hI_96
                refine lv_aload_n hx hb dX8_fault_97 rfl (lv_at hl 1 rfl) ?_
                refine va_get (D := D) (ci := 8) (v := .ref (bd 30)) (C := RX8) (T := TX8) (N := 32) hx hb hts in_X8_fault_8 hown hK.1 hP 0 rfl rfl 29 (by decide) (hts _ lk_X8_fault_74) (fun _ h9 => h9) rfl dX8_fault_98 ?_
                refine lv_iload_n hx hb dX8_fault_101 rfl (lv_at hl 0 rfl) ?_
                refine lv_aload_n hx hb dX8_fault_102 rfl (lv_at hl 1 rfl) ?_
                refine va_get (D := D) (ci := 8) (v := .ref (bd 10)) (C := RX8) (T := TX8) (N := 32) hx hb hts in_X8_fault_8 hown hK.1 hP 0 rfl rfl 9 (by decide) (hts _ lk_X8_fault_28) (fun _ h9 => h9) rfl dX8_fault_103 ?_
                refine lv_aload_n hx hb dX8_fault_106 rfl (lv_at hl 1 rfl) ?_
                refine va_get (D := D) (ci := 8) (v := .ref (bd 21)) (C := RX8) (T := TX8) (N := 32) hx hb hts in_X8_fault_8 hown hK.1 hP 0 rfl rfl 20 (by decide) (hts _ lk_X8_fault_49) (fun _ h9 => h9) rfl dX8_fault_107 ?_
                refine lv_iload_n hx hb dX8_fault_110 rfl (lv_at hl 3 rfl) ?_
                refine zi_iald hx hb hK.1 hP 14 0 rfl rfl (by omega) (by omega) (by decide) dX8_fault_111 ?_
                have f_111 : (0 : Int) ≤ S_96 20 k9 ∧ S_96 20 k9 ≤ 59 := hI_96 20 k9
                refine zi_iald hx hb hK.1 hP 7 0 rfl rfl (by omega) (by omega) (by decide) dX8_fault_112 ?_
                have f_112 : (0 : Int) ≤ S_96 9 (S_96 20 k9) ∧ S_96 9 (S_96 20 k9) ≤ 99 := hI_96 9 (S_96 20 k9)
                refine lv_aload_n hx hb dX8_fault_113 rfl (lv_at hl 1 rfl) ?_
                refine va_get (D := D) (ci := 8) (v := .ref (bd 30)) (C := RX8) (T := TX8) (N := 32) hx hb hts in_X8_fault_8 hown hK.1 hP 0 rfl rfl 29 (by decide) (hts _ lk_X8_fault_74) (fun _ h9 => h9) rfl dX8_fault_114 ?_
                refine lv_iload_n hx hb dX8_fault_117 rfl (lv_at hl 0 rfl) ?_
                refine zi_iald hx hb hK.1 hP 22 0 rfl rfl (by omega) (by omega) (by decide) dX8_fault_118 ?_
                have f_118 : (0 : Int) ≤ S_96 29 x3_50 ∧ S_96 29 x3_50 ≤ 99 := hI_96 29 x3_50
                refine zi_icmp_le (tgt := 136) hx hb ⟨by omega, by omega⟩ ⟨by omega, by omega⟩ dX8_fault_119 (by decide) (fun c_119 => ?_) (fun c_119 => ?_)
                · refine lv_aload_n hx hb dX8_fault_136 rfl (lv_at hl 1 rfl) ?_
                  refine va_get (D := D) (ci := 8) (v := .ref (bd 30)) (C := RX8) (T := TX8) (N := 32) hx hb hts in_X8_fault_8 hown hK.1 hP 0 rfl rfl 29 (by decide) (hts _ lk_X8_fault_74) (fun _ h9 => h9) rfl dX8_fault_137 ?_
                  refine lv_iload_n hx hb dX8_fault_140 rfl (lv_at hl 0 rfl) ?_
                  refine zi_iald hx hb hK.1 hP 22 0 rfl rfl (by omega) (by omega) (by decide) dX8_fault_141 ?_
                  have f_141 : (0 : Int) ≤ S_96 29 x3_50 ∧ S_96 29 x3_50 ≤ 99 := hI_96 29 x3_50
                  refine zi_iast hx hb hK.1 hP (mW_D hdis _) hS 22 0 rfl rfl (by omega) (by omega) (by decide) dX8_fault_142 (fun H locs hP hS => ?_)
                  have hP : va_P D vwCl (mW cI cZ bd (su S_96 29 (up (S_96 29) x3_50 (S_96 29 x3_50)))) H := hP
                  have hI_142 : MI (su S_96 29 (up (S_96 29) x3_50 (S_96 29 x3_50))) := MI.up hI_96 29 x3_50 (S_96 29 x3_50) (show (0 : Int) ≤ (S_96 29 x3_50) ∧ (S_96 29 x3_50) ≤ 99 from ⟨by omega, by omega⟩)
                  generalize eS_142 : su S_96 29 (up (S_96 29) x3_50 (S_96 29 x3_50)) = S_142 at hP hI_142
                  refine zi_iinc (k := 3) (lv' := [(2, .int (zi (k9 + 1))), (3, .int (zi x3_50)), (0, .ref (bd 0)), (1, .int (zi x0))]) hx hb dX8_fault_143 hl rfl (by decide) rfl (fun ls hl => ?_)
                  refine lv_goto (tgt := 30) hx hb dX8_fault_146 (by decide) ?_
                  exact ih_30 n (k9 + 1) S_142 (by first | omega | assumption) (by first | omega | assumption) (fun q h0 h1 => by rw [← eS_142, ← eS_96, su_n _ _ h1, su_n _ _ h0]; exact h_d q h0 h1) (fl_step (T := T2) h_i h_L ex3_50 e9n (by rw [← eS_142, ← eS_96]; exact Or.inl ⟨Int.not_le.mp c_73, rfl⟩) (by rw [← eS_96] at c_119; rw [← eS_142, ← eS_96]; exact Or.inr ⟨c_119, rfl⟩) h_d) (by omega) hI_142 _ _ hP hS _ (lv_sub hl [2, 3, 0] rfl)
                · refine lv_aload_n hx hb dX8_fault_122 rfl (lv_at hl 1 rfl) ?_
                  refine va_get (D := D) (ci := 8) (v := .ref (bd 10)) (C := RX8) (T := TX8) (N := 32) hx hb hts in_X8_fault_8 hown hK.1 hP 0 rfl rfl 9 (by decide) (hts _ lk_X8_fault_28) (fun _ h9 => h9) rfl dX8_fault_123 ?_
                  refine lv_aload_n hx hb dX8_fault_126 rfl (lv_at hl 1 rfl) ?_
                  refine va_get (D := D) (ci := 8) (v := .ref (bd 21)) (C := RX8) (T := TX8) (N := 32) hx hb hts in_X8_fault_8 hown hK.1 hP 0 rfl rfl 20 (by decide) (hts _ lk_X8_fault_49) (fun _ h9 => h9) rfl dX8_fault_127 ?_
                  refine lv_iload_n hx hb dX8_fault_130 rfl (lv_at hl 3 rfl) ?_
                  refine zi_iald hx hb hK.1 hP 14 0 rfl rfl (by omega) (by omega) (by decide) dX8_fault_131 ?_
                  have f_131 : (0 : Int) ≤ S_96 20 k9 ∧ S_96 20 k9 ≤ 59 := hI_96 20 k9
                  refine zi_iald hx hb hK.1 hP 7 0 rfl rfl (by omega) (by omega) (by decide) dX8_fault_132 ?_
                  have f_132 : (0 : Int) ≤ S_96 9 (S_96 20 k9) ∧ S_96 9 (S_96 20 k9) ≤ 99 := hI_96 9 (S_96 20 k9)
                  refine lv_goto (tgt := 142) hx hb dX8_fault_133 (by decide) ?_
                  refine zi_iast hx hb hK.1 hP (mW_D hdis _) hS 22 0 rfl rfl (by omega) (by omega) (by decide) dX8_fault_142 (fun H locs hP hS => ?_)
                  have hP : va_P D vwCl (mW cI cZ bd (su S_96 29 (up (S_96 29) x3_50 (S_96 9 (S_96 20 k9))))) H := hP
                  have hI_142 : MI (su S_96 29 (up (S_96 29) x3_50 (S_96 9 (S_96 20 k9)))) := MI.up hI_96 29 x3_50 (S_96 9 (S_96 20 k9)) (show (0 : Int) ≤ (S_96 9 (S_96 20 k9)) ∧ (S_96 9 (S_96 20 k9)) ≤ 99 from ⟨by omega, by omega⟩)
                  generalize eS_142 : su S_96 29 (up (S_96 29) x3_50 (S_96 9 (S_96 20 k9))) = S_142 at hP hI_142
                  refine zi_iinc (k := 3) (lv' := [(2, .int (zi (k9 + 1))), (3, .int (zi x3_50)), (0, .ref (bd 0)), (1, .int (zi x0))]) hx hb dX8_fault_143 hl rfl (by decide) rfl (fun ls hl => ?_)
                  refine lv_goto (tgt := 30) hx hb dX8_fault_146 (by decide) ?_
                  exact ih_30 n (k9 + 1) S_142 (by first | omega | assumption) (by first | omega | assumption) (fun q h0 h1 => by rw [← eS_142, ← eS_96, su_n _ _ h1, su_n _ _ h0]; exact h_d q h0 h1) (fl_step (T := T2) h_i h_L ex3_50 e9n (by rw [← eS_142, ← eS_96]; exact Or.inl ⟨Int.not_le.mp c_73, rfl⟩) (by rw [← eS_96] at c_119; rw [← eS_142, ← eS_96]; exact Or.inl ⟨Int.not_le.mp c_119, rfl⟩) h_d) (by omega) hI_142 _ _ hP hS _ (lv_sub hl [2, 3, 0] rfl)
        refine lv_istore_n (lv' := [(2, .int (zi 0)), (0, .ref (bd 0)), (1, .int (zi x0))]) hx hb dX8_fault_29 rfl hl (by decide) rfl (fun ls hl => ?_)
        exact K_30 ((S 19 0).toNat + 1) ((S 19 0).toNat) 0 T (by first | omega | assumption) (by first | omega | assumption) h_d (fun q h0 h1 => h_z q h0 (by omega)) (by omega) hIT _ _ hP hS _ (lv_sub hl [1, 2, 0] rfl)
      · obtain ⟨n, rfl⟩ : ∃ n9 : Nat, n = n9 + 1 := ⟨n - 1, by omega⟩
        refine lv_aload_n hx hb dX8_fault_7 rfl (lv_at hl 0 rfl) ?_
        refine va_get (D := D) (ci := 8) (v := .ref (bd 29)) (C := RX8) (T := TX8) (N := 32) hx hb hts in_X8_fault_8 hown hK.1 hP 0 rfl rfl 28 (by decide) (hts _ lk_X8_fault_71) (fun _ h9 => h9) rfl dX8_fault_8 ?_
        refine lv_iload_n hx hb dX8_fault_11 rfl (lv_at hl 2 rfl) ?_
        refine zi_bipush hx hb dX8_fault_12 (by decide) ?_
        refine zi_iast hx hb hK.1 hP (mW_D hdis _) hS 21 0 rfl rfl (by omega) (by omega) (by decide) dX8_fault_14 (fun H locs hP hS => ?_)
        have hP : va_P D vwCl (mW cI cZ bd (su T 28 (up (T 28) i 100))) H := hP
        have hI_14 : MI (su T 28 (up (T 28) i 100)) := MI.up hIT 28 i 100 (show (0 : Int) ≤ 100 ∧ 100 ≤ 100 from ⟨by omega, by omega⟩)
        generalize eS_14 : su T 28 (up (T 28) i 100) = S_14 at hP hI_14
        refine lv_aload_n hx hb dX8_fault_15 rfl (lv_at hl 0 rfl) ?_
        refine va_get (D := D) (ci := 8) (v := .ref (bd 30)) (C := RX8) (T := TX8) (N := 32) hx hb hts in_X8_fault_8 hown hK.1 hP 0 rfl rfl 29 (by decide) (hts _ lk_X8_fault_74) (fun _ h9 => h9) rfl dX8_fault_16 ?_
        refine lv_iload_n hx hb dX8_fault_19 rfl (lv_at hl 2 rfl) ?_
        refine zi_iconst hx hb dX8_fault_20 ?_
        refine zi_iast hx hb hK.1 hP (mW_D hdis _) hS 22 0 rfl rfl (by omega) (by omega) (by decide) dX8_fault_21 (fun H locs hP hS => ?_)
        have hP : va_P D vwCl (mW cI cZ bd (su S_14 29 (up (S_14 29) i 0))) H := hP
        have hI_21 : MI (su S_14 29 (up (S_14 29) i 0)) := MI.up hI_14 29 i 0 (show (0 : Int) ≤ 0 ∧ 0 ≤ 99 from ⟨by omega, by omega⟩)
        generalize eS_21 : su S_14 29 (up (S_14 29) i 0) = S_21 at hP hI_21
        refine zi_iinc (k := 2) (lv' := [(2, .int (zi (i + 1))), (0, .ref (bd 0)), (1, .int (zi x0))]) hx hb dX8_fault_22 hl rfl (by decide) rfl (fun ls hl => ?_)
        refine lv_goto (tgt := 2) hx hb dX8_fault_25 (by decide) ?_
        exact ih_2 n (i + 1) S_21 (by first | omega | assumption) (by first | omega | assumption) (fun q h0 h1 => by rw [← eS_21, ← eS_14, su_n _ _ h1, su_n _ _ h0]; exact h_d q h0 h1) (fun q h0 h1 => by rw [← eS_21, ← eS_14]; by_cases hq : q = i; (subst hq; exact ⟨up_s _ _ _, up_s _ _ _⟩); exact ⟨(up_n _ _ hq).trans (h_z q h0 (by omega)).1, (up_n _ _ hq).trans (h_z q h0 (by omega)).2⟩) (by omega) hI_21 _ _ hP hS _ (lv_sub hl [1, 2, 0] rfl)
  refine lv_istore_n (lv' := [(2, .int (zi 0)), (0, .ref (bd 0)), (1, .int (zi x0))]) hx hb dX8_fault_1 rfl hl (by decide) rfl (fun ls hl => ?_)
  exact K_2 (x0.toNat + 1) x0.toNat 0 S (by first | omega | assumption) (by first | omega | assumption) (fun _ _ _ => rfl) (fun q h0 h1 => absurd h1 (by omega)) (by omega) hI _ _ hP hS _ (lv_sub hl [1, 2, 0] rfl)

theorem fl_b {L : ZS} (h : MI L) {p : Int} (h0 : 0 ≤ p) (hp : p ≤ 20) : (-2000 : Int) ≤ flM L p ∧ flM L p ≤ 2000 := by
  have hr : ∀ r, 0 ≤ flR L p r + 100 ∧ flR L p r + 100 ≤ 200 := by
    intro r
    have a1 := itr_inv (f := lsF L p r) (P := fun _ a => (0 : Int) ≤ a ∧ a ≤ 100) (fun j a ha => by
      have hb : (0 : Int) ≤ L 9 (L 20 j) ∧ L 9 (L 20 j) ≤ 99 := h 9 _
      have ha : (0 : Int) ≤ a ∧ a ≤ 100 := ha
      show (0 : Int) ≤ lsF L p r j a ∧ lsF L p r j a ≤ 100
      unfold lsF; split <;> omega) (L 19 0).toNat 0 100 ⟨by decide, by decide⟩
    have a2 := itr_inv (f := msF L p r) (P := fun _ a => (0 : Int) ≤ a ∧ a ≤ 100) (fun j a ha => by
      have hb : (0 : Int) ≤ L 9 (L 20 j) ∧ L 9 (L 20 j) ≤ 99 := h 9 _
      have ha : (0 : Int) ≤ a ∧ a ≤ 100 := ha
      show (0 : Int) ≤ msF L p r j a ∧ msF L p r j a ≤ 100
      unfold msF; split <;> omega) (L 19 0).toNat 0 0 ⟨by decide, by decide⟩
    have a1 : (0 : Int) ≤ lsA L p r (L 19 0).toNat ∧ lsA L p r (L 19 0).toNat ≤ 100 := a1
    have a2 : (0 : Int) ≤ msA L p r (L 19 0).toNat ∧ msA L p r (L 19 0).toNat ≤ 100 := a2
    unfold flR; split <;> omega
  have key : ∀ (n : Nat) (j a : Int), a - 100 * n ≤ itr (fun r acc => acc + flR L p r) n j a ∧ itr (fun r acc => acc + flR L p r) n j a ≤ a + 100 * n := by
    intro n
    induction n with
    | zero => intro j a; rw [itr_0]; omega
    | succ n ih =>
      intro j a
      rw [itr_s]
      have h1 := ih (j + 1) (a + flR L p j)
      have h2 := hr j
      omega
  have h1 := key p.toNat 0 0
  unfold flM
  omega
theorem in_X8_turnOf_8 : ∀ w ∈ wsX80, w ∈ wsX8_turnOf := by decide +kernel
theorem lk_X8_turnOf_127 : Cond.fieldLink RX8 127 "PlanetoidDeskModel" "looks" "I" ∈ wsX8_turnOf := by decide +kernel
abbrev rmct_X8_turnOf : Room := { frames := 3, cells := 0, slots := 0, locals := 66 }
set_option maxHeartbeats 4000000 in
set_option maxRecDepth 100000 in
theorem ct_X8_turnOf (l : Launch) (D : va_G) (cI cZ cJ : ClassId) (bd : Nat → Nat) (S : ZS) (hI : MI S) (hdis : mDis bd) (x0 x1 : Int) (hx0 : ir x0) (hx1 : ir x1) (hp00 : 0 ≤ x0) (hp01 : x0 ≤ 19) (hw1 : x1 = 0 ∨ x1 = 1) (hac : accM S) : Met l yX8_turnOf wsX8_turnOf rmct_X8_turnOf (zP D cI cZ cJ (mW cI cZ bd S) [.ref (bd 0), .int (zi x0), .int (zi x1)]) (zWi D (mW cI cZ bd) (mA bd) (fun r T => r = tuM S x0 x1 ∧ SM S T ∧ MI T)) 0 0 (mA bd) := by
  refine Met.ofW (cc := cX8_turnOf) (maxL := 5) (ret := (some .int)) (by decide) rfl ?_
  intro p e s m args below meth c s₁ B hml hv
  obtain ⟨rfl, hP, hK⟩ := hv
  have hx := B.exec
  have hb := B.bytes
  have hr := B.returns
  have hts := atoms_spec (ws := wsX8_turnOf) B.pre
  have hown : s.vm.findClass RX8 = some m.cls := findClass_of_methodNamed B.named
  have hlocks := B.notSynchronized
  have hl := lv_entry ([.ref (bd 0), .int (zi x0), .int (zi x1)]) (n := 5) (Nat.le_of_ble_eq_true rfl)
  rw [lg_entry_eq]
  generalize (lg_sl ([.ref (bd 0), .int (zi x0), .int (zi x1)]) ++ List.replicate (5 - (lg_sl ([.ref (bd 0), .int (zi x0), .int (zi x1)])).length) Slot.unset).toArray = ls at hl ⊢
  have hl : lv_has ls 5 [(0, .ref (bd 0)), (1, .int (zi x0)), (2, .int (zi x1))] := hl
  have hS : va_S (mA bd) s.heap s.heap [] := va_S.rf
  show W p l e rmct_X8_turnOf s m ([.ref (bd 0), .int (zi x0), .int (zi x1)] : List Value).toArray below meth c s.heap [] 0 0 (MQ below (zWi D (mW cI cZ bd) (mA bd) (fun r T => r = tuM S x0 x1 ∧ SM S T ∧ MI T)) ([.ref (bd 0), .int (zi x0), .int (zi x1)] : List Value).toArray s 0 0 (mA bd)) (F0 m 0 ls [])
  refine lv_aload_n hx hb dX8_turnOf_0 rfl (lv_at hl 0 rfl) ?_
  refine lv_iload_n hx hb dX8_turnOf_1 rfl (lv_at hl 1 rfl) ?_
  refine zk_wv (zc_V (As := [.int (zi x0)]) (rest := []) ⟨hx, hb, hml, hown, hts⟩ (ct_X8_lays l D cI cZ cJ bd S hI hdis x0 ⟨by omega, by omega⟩ (by omega) (by omega) hac) (cwV 1 hts gX8_turnOf_X8_lays rfl rfl rfl (by decide +kernel) ⟨Nat.le_of_ble_eq_true rfl, Nat.le_of_ble_eq_true rfl⟩) hK hP (q0 := 0) (ci := 8) rfl rfl rfl rfl hl.1 rfl (Nat.le_of_ble_eq_true rfl) dX8_turnOf_2 ⟨Nat.zero_le _, Nat.zero_le _⟩) hS (fun S_2 H locs hp_2 hP hS => ?_)
  obtain ⟨e9, hI_2⟩ := hp_2
  have eS_2 := e9.symm; clear e9
  refine lv_aload_n hx hb dX8_turnOf_5 rfl (lv_at hl 0 rfl) ?_
  refine va_get (D := D) (ci := 8) (v := .int (zi (S_2 19 0))) (C := RX8) (T := TX8) (N := 32) hx hb hts in_X8_turnOf_8 hown hK.1 hP 0 rfl rfl 19 (by decide) (hts _ lk_X8_turnOf_127) (fun _ h9 => h9) rfl dX8_turnOf_6 ?_
  have f_6 : (0 : Int) ≤ S_2 19 0 ∧ S_2 19 0 ≤ 60 := hI_2 19 0
  refine zi_iconst hx hb dX8_turnOf_9 ?_
  refine zi_icmp_ge (tgt := 15) hx hb ⟨by omega, by omega⟩ ⟨by decide, by decide⟩ dX8_turnOf_10 (by decide) (fun c_10 => ?_) (fun c_10 => ?_)
  · refine zi_iconst hx hb dX8_turnOf_15 ?_
    refine lv_istore_n (lv' := [(3, .int (zi 2)), (0, .ref (bd 0)), (1, .int (zi x0)), (2, .int (zi x1))]) hx hb dX8_turnOf_16 rfl hl (by decide) rfl (fun ls hl => ?_)
    refine zi_iconst hx hb dX8_turnOf_17 ?_
    have K_20 : ∀ (k : Nat) (n : Nat) (be p9 : Int) (T : ZS), (p9 + (n : Int) = 21) → (3 ≤ p9) → (2 ≤ be ∧ be ≤ 20) → (itr (tuF S_2) n p9 be = tuB S_2) → (∀ q : Nat, q ≠ 28 → q ≠ 29 → T q = S_2 q) → ((n : Int) < (k : Int)) → MI T → ∀ (H : Heap) (locs : List Loc), va_P D vwCl (mW cI cZ bd T) H → va_S (mA bd) s.heap H locs → ∀ (ls : Array Slot), lv_has ls 5 [(0, .ref (bd 0)), (1, .int (zi x0)), (2, .int (zi x1)), (3, .int (zi be)), (4, .int (zi p9))] → W p l e rmct_X8_turnOf s m ([.ref (bd 0), .int (zi x0), .int (zi x1)] : List Value).toArray below meth c H locs 0 0 (MQ below (zWi D (mW cI cZ bd) (mA bd) (fun r T => r = tuM S x0 x1 ∧ SM S T ∧ MI T)) ([.ref (bd 0), .int (zi x0), .int (zi x1)] : List Value).toArray s 0 0 (mA bd)) (F0 m 20 ls []) := by
      intro k
      induction k with
      | zero => intro n be p9 T h_n h_i h_b h_R h_d hk hIT; exact absurd hk (by omega)
      | succ k ih_20 =>
        intro n be p9 T h_n h_i h_b h_R h_d hk hIT H locs hP hS ls hl
        refine lv_iload hx hb dX8_turnOf_20 (lv_at hl 4 rfl) ?_
        refine zi_bipush hx hb dX8_turnOf_22 (by decide) ?_
        refine zi_icmp_ge (tgt := 54) hx hb ⟨by omega, by omega⟩ ⟨by decide, by decide⟩ dX8_turnOf_24 (by decide) (fun c_24 => ?_) (fun c_24 => ?_)
        · obtain rfl : n = 0 := by omega
          have h_B : be = tuB S_2 := h_R
          refine lv_iload_n hx hb dX8_turnOf_54 rfl (lv_at hl 2 rfl) ?_
          refine zi_if_eq (tgt := 66) hx hb ⟨by omega, by omega⟩ dX8_turnOf_55 (by decide) (fun c_55 => ?_) (fun c_55 => ?_)
          · refine lv_iload_n hx hb dX8_turnOf_66 rfl (lv_at hl 3 rfl) ?_
            exact zr_wi (T := T) hx hb hr hlocks dX8_turnOf_67 hP hS (by
                have hsT : SM S T := fun q hk => (h_d q (scm_ne hk rfl) (scm_ne hk rfl)).trans (by rw [← eS_2]; exact SM_la q hk)
                exact ⟨by rw [tuM, if_neg (by rw [eS_2]; omega), if_pos c_55, eS_2, ← h_B], hsT, hIT⟩)
          · refine lv_aload_n hx hb dX8_turnOf_58 rfl (lv_at hl 0 rfl) ?_
            refine lv_iload_n hx hb dX8_turnOf_59 rfl (lv_at hl 3 rfl) ?_
            refine zk_wi (zc_V (As := [.int (zi be)]) (rest := []) ⟨hx, hb, hml, hown, hts⟩ (ct_X8_fault l D cI cZ cJ bd T hIT hdis be ⟨by omega, by omega⟩ (by omega) (by omega)) (cwV 1 hts gX8_turnOf_X8_fault rfl rfl rfl (by decide +kernel) ⟨Nat.le_of_ble_eq_true rfl, Nat.le_of_ble_eq_true rfl⟩) hK hP (q0 := 0) (ci := 8) rfl rfl rfl rfl hl.1 rfl (Nat.le_of_ble_eq_true rfl) dX8_turnOf_60 ⟨Nat.zero_le _, Nat.zero_le _⟩) hS (fun r_60 S_60 H locs hp_60 hP hS => ?_)
            obtain ⟨er_60, hsm_60, hI_60⟩ := hp_60
            refine lv_goto (tgt := 67) hx hb dX8_turnOf_63 (by decide) ?_
            exact zr_wi (T := S_60) hx hb hr hlocks dX8_turnOf_67 hP hS (by
                have hsT : SM S T := fun q hk => (h_d q (scm_ne hk rfl) (scm_ne hk rfl)).trans (by rw [← eS_2]; exact SM_la q hk)
                exact ⟨by rw [tuM, if_neg (by rw [eS_2]; omega), if_neg c_55, eS_2, er_60, h_B]; exact fl_c (h_d 5 (by decide) (by decide)) (h_d 7 (by decide) (by decide)) (h_d 9 (by decide) (by decide)) (h_d 19 (by decide) (by decide)) (h_d 20 (by decide) (by decide)) _, fun q hk => (hsm_60 q (scm_ne hk rfl) (scm_ne hk rfl)).trans (hsT q hk), hI_60⟩)
        · obtain ⟨n, rfl⟩ : ∃ n9 : Nat, n = n9 + 1 := ⟨n - 1, by omega⟩
          refine lv_aload_n hx hb dX8_turnOf_27 rfl (lv_at hl 0 rfl) ?_
          refine lv_iload hx hb dX8_turnOf_28 (lv_at hl 4 rfl) ?_
          refine zk_wi (zc_V (As := [.int (zi p9)]) (rest := []) ⟨hx, hb, hml, hown, hts⟩ (ct_X8_fault l D cI cZ cJ bd T hIT hdis p9 ⟨by omega, by omega⟩ (by omega) (by omega)) (cwV 1 hts gX8_turnOf_X8_fault rfl rfl rfl (by decide +kernel) ⟨Nat.le_of_ble_eq_true rfl, Nat.le_of_ble_eq_true rfl⟩) hK hP (q0 := 0) (ci := 8) rfl rfl rfl rfl hl.1 rfl (Nat.le_of_ble_eq_true rfl) dX8_turnOf_30 ⟨Nat.zero_le _, Nat.zero_le _⟩) hS (fun r_30 S_30 H locs hp_30 hP hS => ?_)
          obtain ⟨er_30, hsm_30, hI_30⟩ := hp_30
          refine lv_aload_n hx hb dX8_turnOf_33 rfl (lv_at hl 0 rfl) ?_
          refine lv_iload_n hx hb dX8_turnOf_34 rfl (lv_at hl 3 rfl) ?_
          refine zk_wi (zc_V (As := [.int (zi be)]) (rest := [.int (zi r_30)]) ⟨hx, hb, hml, hown, hts⟩ (ct_X8_fault l D cI cZ cJ bd S_30 hI_30 hdis be ⟨by omega, by omega⟩ (by omega) (by omega)) (cwV 1 hts gX8_turnOf_X8_fault rfl rfl rfl (by decide +kernel) ⟨Nat.le_of_ble_eq_true rfl, Nat.le_of_ble_eq_true rfl⟩) hK hP (q0 := 0) (ci := 8) rfl rfl rfl rfl hl.1 rfl (Nat.le_of_ble_eq_true rfl) dX8_turnOf_35 ⟨Nat.zero_le _, Nat.zero_le _⟩) hS (fun r_35 S_35 H locs hp_35 hP hS => ?_)
          obtain ⟨er_35, hsm_35, hI_35⟩ := hp_35
          have e_30 : r_30 = flM S_2 p9 := er_30.trans (fl_c (h_d 5 (by decide) (by decide)) (h_d 7 (by decide) (by decide)) (h_d 9 (by decide) (by decide)) (h_d 19 (by decide) (by decide)) (h_d 20 (by decide) (by decide)) _)
          have hd2 : ∀ q : Nat, q ≠ 28 → q ≠ 29 → S_30 q = S_2 q := fun q h0 h1 => (hsm_30 q h0 h1).trans (h_d q h0 h1)
          have e_35 : r_35 = flM S_2 be := er_35.trans (fl_c (hd2 5 (by decide) (by decide)) (hd2 7 (by decide) (by decide)) (hd2 9 (by decide) (by decide)) (hd2 19 (by decide) (by decide)) (hd2 20 (by decide) (by decide)) _)
          have fb_30 : (-2000 : Int) ≤ r_30 ∧ r_30 ≤ 2000 := by rw [e_30]; exact fl_b hI_2 (by omega) (by omega)
          have fb_35 : (-2000 : Int) ≤ r_35 ∧ r_35 ≤ 2000 := by rw [e_35]; exact fl_b hI_2 (by omega) (by omega)
          refine zi_icmp_ge (tgt := 46) hx hb ⟨by omega, by omega⟩ ⟨by omega, by omega⟩ dX8_turnOf_38 (by decide) (fun c_38 => ?_) (fun c_38 => ?_)
          · refine lv_iload_n hx hb dX8_turnOf_46 rfl (lv_at hl 3 rfl) ?_
            refine lv_istore_n (lv' := [(3, .int (zi be)), (0, .ref (bd 0)), (1, .int (zi x0)), (2, .int (zi x1)), (4, .int (zi p9))]) hx hb dX8_turnOf_47 rfl hl (by decide) rfl (fun ls hl => ?_)
            refine zi_iinc (k := 4) (lv' := [(4, .int (zi (p9 + 1))), (3, .int (zi be)), (0, .ref (bd 0)), (1, .int (zi x0)), (2, .int (zi x1))]) hx hb dX8_turnOf_48 hl rfl (by decide) rfl (fun ls hl => ?_)
            refine lv_goto (tgt := 20) hx hb dX8_turnOf_51 (by decide) ?_
            exact ih_20 n be (p9 + 1) S_35 (by first | omega | assumption) (by first | omega | assumption) ⟨by omega, by omega⟩ (by rw [← h_R, itr_s, tuF, if_neg (by rw [← e_30, ← e_35]; omega)]) (fun q h0 h1 => (hsm_35 q h0 h1).trans ((hsm_30 q h0 h1).trans (h_d q h0 h1))) (by omega) hI_35 _ _ hP hS _ (lv_sub hl [2, 3, 4, 1, 0] rfl)
          · refine lv_iload hx hb dX8_turnOf_41 (lv_at hl 4 rfl) ?_
            refine lv_goto (tgt := 47) hx hb dX8_turnOf_43 (by decide) ?_
            refine lv_istore_n (lv' := [(3, .int (zi p9)), (0, .ref (bd 0)), (1, .int (zi x0)), (2, .int (zi x1)), (4, .int (zi p9))]) hx hb dX8_turnOf_47 rfl hl (by decide) rfl (fun ls hl => ?_)
            refine zi_iinc (k := 4) (lv' := [(4, .int (zi (p9 + 1))), (3, .int (zi p9)), (0, .ref (bd 0)), (1, .int (zi x0)), (2, .int (zi x1))]) hx hb dX8_turnOf_48 hl rfl (by decide) rfl (fun ls hl => ?_)
            refine lv_goto (tgt := 20) hx hb dX8_turnOf_51 (by decide) ?_
            exact ih_20 n p9 (p9 + 1) S_35 (by first | omega | assumption) (by first | omega | assumption) ⟨by omega, by omega⟩ (by rw [← h_R, itr_s, tuF, if_pos (by rw [← e_30, ← e_35]; omega)]) (fun q h0 h1 => (hsm_35 q h0 h1).trans ((hsm_30 q h0 h1).trans (h_d q h0 h1))) (by omega) hI_35 _ _ hP hS _ (lv_sub hl [2, 3, 4, 1, 0] rfl)
    refine lv_istore (lv' := [(4, .int (zi 3)), (3, .int (zi 2)), (0, .ref (bd 0)), (1, .int (zi x0)), (2, .int (zi x1))]) hx hb dX8_turnOf_18 hl (by decide) rfl (fun ls hl => ?_)
    exact K_20 19 18 2 3 S_2 (by first | omega | assumption) (by first | omega | assumption) ⟨by decide, by decide⟩ (by rw [tuB]) (fun _ _ _ => rfl) (by omega) hI_2 _ _ hP hS _ (lv_sub hl [2, 3, 4, 1, 0] rfl)
  · refine zi_iconst hx hb dX8_turnOf_13 ?_
    exact zr_wi (T := S_2) hx hb hr hlocks dX8_turnOf_14 hP hS (by exact ⟨by rw [tuM, if_pos (by rw [eS_2]; omega)], by rw [← eS_2]; exact SM_la, hI_2⟩)

