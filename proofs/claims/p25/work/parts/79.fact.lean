/-! places and orbits of a body, told by its keys -/
theorem often_pos {l : List Int} {t p : Int} : 0 < often l t p ↔ ∃ x ∈ l, plM x t = p := by
  unfold often
  rw [show (0 < ((l.countP (fun x => decide (plM x t = p)) : Nat) : Int)) ↔ 0 < l.countP (fun x => decide (plM x t = p)) from Int.natCast_pos, List.countP_pos_iff]
  constructor
  · rintro ⟨x, hx, h⟩
    exact ⟨x, hx, of_decide_eq_true h⟩
  · rintro ⟨x, hx, h⟩
    exact ⟨x, hx, decide_eq_true h⟩
/-- the places of keys in a night, in order -/
noncomputable def pl (l : List Int) (t : Int) : List Int := fl (fun p => 0 < often l t p) 3600 0
theorem pl_mem {l : List Int} {t p : Int} : p ∈ pl l t ↔ ∃ x ∈ l, plM x t = p := by
  unfold pl
  rw [fl_mem, often_pos]
  constructor
  · exact fun h => h.2
  · rintro ⟨x, hx, h⟩
    have := pl_b x t
    exact ⟨by omega, x, hx, h⟩
theorem fl_lt {p : Int → Prop} : ∀ (n : Nat) (j : Int), (fl p n j).Pairwise (fun a b => a < b) := by
  intro n
  induction n with
  | zero => intro j; exact List.Pairwise.nil
  | succ n ih =>
    intro j
    by_cases h : p j
    · rw [fl_t h]
      exact List.Pairwise.cons (fun x hx => by have := (fl_mem.mp hx).1; omega) (ih _)
    · rw [fl_f h]; exact ih _
theorem fl_nodup {p : Int → Prop} {n : Nat} {j : Int} : (fl p n j).Nodup := (fl_lt n j).imp (fun h => by omega)
theorem sp_pl {l : List Int} {t : Int} : spN l t = (pl l t).length := by
  have h := cnt_fl (p := fun p => 0 < often l t p) 3600 0 0
  rw [Int.zero_add] at h
  unfold pl
  rw [← h]
  unfold spN
  exact itr_eq _ _ _ (fun i s _ _ => by
    by_cases c : 0 < often l t i
    · rw [if_pos c, b2_t c]
    · rw [if_neg c, b2_f c]; omega)
theorem nth_fl {p : Int → Prop} [DecidablePred p] : ∀ (n : Nat) (j r : Int), 0 ≤ r → nthC p (-1) n j r = if r < (fl p n j).length then (fl p n j).getD r.toNat 0 else -1 := by
  intro n
  induction n with
  | zero => intro j r h0; rw [fl_0]; simp only [List.length_nil]; rw [if_neg (by omega)]; rfl
  | succ n ih =>
    intro j r h0
    unfold nthC
    by_cases h : p j
    · rw [if_pos h, fl_t h, List.length_cons]
      by_cases hr : r = 0
      · subst hr
        rw [if_pos rfl, if_pos (by omega)]
        rfl
      · rw [if_neg hr, ih (j + 1) (r - 1) (by omega)]
        have e : r.toNat = (r - 1).toNat + 1 := by omega
        rw [e, List.getD_cons_succ]
        by_cases hl : r - 1 < ((fl p n (j + 1)).length : Int)
        · rw [if_pos hl, if_pos (by omega)]
        · rw [if_neg hl, if_neg (by omega)]
    · rw [if_neg h, fl_f h]
      exact ih (j + 1) r h0
theorem wh_pl {l : List Int} {t r : Int} (h0 : 0 ≤ r) : whN l t r = if r < (pl l t).length then (pl l t).getD r.toNat 0 else -1 := nth_fl 3600 0 r h0
theorem pl_at {l : List Int} {t r : Int} (h0 : 0 ≤ r) (h1 : r < (pl l t).length) : ∃ h : r.toNat < (pl l t).length, whN l t r = (pl l t)[r.toNat] := by
  have h : r.toNat < (pl l t).length := by omega
  exact ⟨h, by rw [wh_pl h0, if_pos h1, List.getD_eq_getElem?_getD, List.getElem?_eq_getElem h]; rfl⟩
theorem wh_lt {l : List Int} {t r q : Int} (h0 : 0 ≤ r) (h1 : r < q) (h2 : q < (pl l t).length) : whN l t r < whN l t q := by
  obtain ⟨a, ea⟩ := pl_at (l := l) (t := t) h0 (by omega)
  obtain ⟨b, eb⟩ := pl_at (l := l) (t := t) (show 0 ≤ q by omega) h2
  rw [ea, eb]
  exact List.pairwise_iff_getElem.mp (fl_lt 3600 0) r.toNat q.toNat a b (by omega)
theorem wh_end {l : List Int} {t : Int} : whN l t (spN l t) = -1 := by
  rw [sp_pl, wh_pl (by omega), if_neg (by omega)]
theorem wh_rng {l : List Int} {t r : Int} (h0 : 0 ≤ r) : -1 ≤ whN l t r ∧ whN l t r ≤ 3599 := by
  by_cases h1 : r < ((pl l t).length : Int)
  · obtain ⟨a, ea⟩ := pl_at h0 h1
    have := (fl_mem.mp (List.getElem_mem a)).1
    rw [ea]; omega
  · rw [wh_pl h0, if_neg h1]; decide
theorem sp_le {l : List Int} {t : Int} : 0 ≤ spN l t ∧ spN l t ≤ l.length ∧ spN l t ≤ 3600 ∧ (0 < spN l t ↔ 0 < (l.length : Int)) := by
  rw [sp_pl]
  have h1 : (pl l t).length ≤ (l.map (fun x => plM x t)).length := nodup_le fl_nodup (fun p hp => by
    obtain ⟨x, hx, e⟩ := pl_mem.mp hp
    exact List.mem_map.mpr ⟨x, hx, e⟩)
  rw [List.length_map] at h1
  have h2 : (pl l t).length ≤ 3600 := fl_len _ _ _
  refine ⟨by omega, by omega, by omega, fun h => by omega, fun h => ?_⟩
  cases l with
  | nil => exact absurd h (by decide)
  | cons x l =>
    have hm : plM x t ∈ pl (x :: l) t := pl_mem.mpr ⟨x, List.mem_cons_self, rfl⟩
    have := List.length_pos_of_mem hm
    omega
/-- an orbit's place lies between the lowest and the greatest one -/
theorem wh_btw {l : List Int} {t y : Int} (hy : y ∈ l) : whN l t 0 ≤ plM y t ∧ plM y t ≤ whN l t (spN l t - 1) := by
  have hm : plM y t ∈ pl l t := pl_mem.mpr ⟨y, hy, rfl⟩
  obtain ⟨i, hi, e⟩ := List.getElem_of_mem hm
  have e2 : whN l t i = plM y t := by
    obtain ⟨a, ea⟩ := pl_at (l := l) (t := t) (r := i) (by omega) (by omega)
    rw [ea, ← e]; rfl
  rw [sp_pl, ← e2]
  constructor
  · by_cases h : i = 0
    · subst h; exact Int.le_refl _
    · exact Int.le_of_lt (wh_lt (by decide) (by omega) (by omega))
  · by_cases h : (i : Int) = (pl l t).length - 1
    · rw [h]; exact Int.le_refl _
    · exact Int.le_of_lt (wh_lt (by omega) (by omega) (by omega))
theorem rk_mem {l : List Int} {k y : Int} (h : rkP l k y) : y ∈ l := by
  have h1 := below_add l (show y ≤ y + 1 by omega)
  have h2 := h.1
  have h3 := h.2
  have h4 : 0 < l.countP (fun x => decide (y ≤ x ∧ x < y + 1)) := by omega
  obtain ⟨x, hx, hd⟩ := List.countP_pos_iff.mp h4
  have := of_decide_eq_true hd
  obtain rfl : x = y := by omega
  exact hx
theorem rk_lt {A : Int → Int × Int} (hA : ∀ k : Int, okA (A k)) {k y z : Int} (hy : rkP (ens A) (k - 1) y) (hz : rkP (ens A) k z) : y < z := by
  have by0 := ens_b y (rk_mem hy)
  have m1 := below_1 hA (a := y / 405) (k := y % 405) (by omega) (by omega) (by omega) (by omega)
  rw [show 405 * (y / 405) + y % 405 = y by omega] at m1
  rcases Int.lt_trichotomy y z with h | h | h
  · exact h
  · subst h
    have := hy.1
    have := hz.2
    split at m1 <;> omega
  · have := below_mono (ens A) (show z + 1 ≤ y by omega)
    have := hy.1
    have := hz.2
    omega
/-- what a key says: it fits each look, its numbers are within their bounds -/
theorem key_fit {M : ZS} (hM : MB M) {b y : Int} (hy : y ∈ kE M b) : (0 ≤ y / 405 ∧ y / 405 < 3600) ∧ (-40 ≤ bC (y % 405) ∧ bC (y % 405) ≤ 40) ∧ (-2 ≤ cC (y % 405) ∧ cC (y % 405) ≤ 2) ∧ (∀ t, (y / 405 + mvM (bC (y % 405)) (cC (y % 405)) t) % 3600 = plM y t) ∧ (405 * (y / 405) + 5 * bC (y % 405) + cC (y % 405) = y - 202) ∧ ∀ d ∈ lkM M b, apM (plM y (nM M d)) (tM M d) ≤ eM M d := by
  have hb := ens_b y hy
  have hpl : ∀ t, (y / 405 + mvM (bC (y % 405)) (cC (y % 405)) t) % 3600 = plM y t := fun t => by
    have := plM_key (a := y / 405) (k := y % 405) (t := t) (by omega) (by omega) (by omega) (by omega)
    rw [show 405 * (y / 405) + y % 405 = y by omega] at this
    rw [this]; rfl
  refine ⟨by omega, by unfold bC; omega, by unfold cC; omega, hpl, by unfold bC cC; omega, fun d hd => ?_⟩
  obtain ⟨k, j, k0, k1, j0, j1, e⟩ := ens_mem.mp hy
  have hok : ∀ x ∈ dts M b, okD x := dts_ok hM b
  obtain ⟨⟨q1, q2, q3, q4⟩, -, q6⟩ := arcL_ok (k := k) hok
  have hk : y % 405 = k := by omega
  have hin : inA (Ak M b k) (y / 405) := by
    have e2 : y / 405 = ((Ak M b k).1 + j) % 3600 := by omega
    rw [e2]
    have q1 : 0 ≤ (Ak M b k).1 := q1
    have q2 : (Ak M b k).1 < 3600 := q2
    have q4 : (Ak M b k).2 = 3600 ∨ (Ak M b k).2 ≤ 19 := q4
    unfold inA
    omega
  have hn := (q6 (y / 405)).mp hin (datM M d) (List.mem_map_of_mem hd)
  rw [← hpl, hk]
  exact (apM_near (tM_b M d) (E9.of hM _)).mpr hn
/-! chances -/
theorem gcd_nat : ∀ (m : Nat) (x y : Nat), y < m → gcdC m x y = (Nat.gcd x y : Nat) := by
  intro m
  induction m with
  | zero => intro x y h; exact absurd h (by omega)
  | succ m ih =>
    intro x y h
    by_cases hy : y = 0
    · subst hy
      rw [Nat.gcd_zero_right]
      exact gcd_z9 (m + 1)
    · rw [gcd_s (by omega), ← Int.natCast_emod, ih y (x % y) (by have := Nat.mod_lt x (show 0 < y by omega); omega), Nat.gcd_comm y, ← Nat.gcd_rec, Nat.gcd_comm]
theorem gcd_64 {x y : Nat} (h : y < 2 ^ 32) : gcdC 64 x y = (Nat.gcd x y : Nat) := by
  have h1 := gcd_2 32 64 x y (y + 1) (by omega) (by omega) (by decide)
  rw [← h1]
  exact gcd_nat _ x y (by omega)
theorem nodup_c : ∀ {l : List Int}, (∀ x : Int, l.countP (fun y => decide (y = x)) ≤ 1) → l.Nodup := by
  intro l
  induction l with
  | nil => intro _; exact List.nodup_nil
  | cons x l ih =>
    intro h
    refine List.nodup_cons.mpr ⟨fun hx => ?_, ih (fun y => ?_)⟩
    · have h1 := h x
      rw [List.countP_cons_of_pos (p := fun y => decide (y = x)) (decide_eq_true rfl)] at h1
      have h2 : 0 < l.countP (fun y => decide (y = x)) := List.countP_pos_iff.mpr ⟨x, hx, decide_eq_true rfl⟩
      omega
    · have h1 := h y
      have h2 : l.countP (fun z => decide (z = y)) ≤ (x :: l).countP (fun z => decide (z = y)) := List.Sublist.countP_le (List.sublist_cons_self x l)
      omega
theorem ens_nodup {A : Int → Int × Int} (hA : ∀ k : Int, okA (A k)) : (ens A).Nodup := nodup_c (fun x => by
  by_cases h : 0 ≤ x ∧ x < 1458000
  · have h1 := cp_ens hA (a := x / 405) (k := x % 405) (by omega) (by omega) (by omega) (by omega)
    rw [show 405 * (x / 405) + x % 405 = x by omega] at h1
    rw [h1]
    split <;> decide
  · have h1 : (ens A).countP (fun y => decide (y = x)) = 0 := List.countP_eq_zero.mpr (fun y hy hd => h (by
      have := of_decide_eq_true hd
      subst this
      exact ens_b y hy))
    omega)
theorem map_nodup {f : Int → Int} : ∀ {l : List Int}, l.Nodup → (∀ x ∈ l, ∀ y ∈ l, f x = f y → x = y) → (l.map f).Nodup := by
  intro l
  induction l with
  | nil => intro _ _; exact List.nodup_nil
  | cons x l ih =>
    intro h hf
    have h := List.nodup_cons.mp h
    rw [List.map_cons, List.nodup_cons]
    refine ⟨fun hm => ?_, ih h.2 (fun a ha b hb => hf a (List.mem_cons_of_mem _ ha) b (List.mem_cons_of_mem _ hb))⟩
    obtain ⟨y, hy, e⟩ := List.mem_map.mp hm
    exact h.1 (by rw [hf x List.mem_cons_self y (List.mem_cons_of_mem _ hy) e.symm]; exact hy)
theorem ch_all {S M : ZS} (h : DK S M) {b f n : Int} (h0 : 0 ≤ b) (h1 : b < M 11 0) (hn : 1 ≤ n) : ∃ nr al : Nat, nr ≤ al ∧ cpAll f n (findO b S) 28 0 = nr ∧ cpAll f n (findO b S) 27 0 = al ∧ al ≤ (kE M b).length ∧ (0 < (kE M b).length → 0 < al) ∧ (3 ≤ n → al = (kE M b).length) ∧ (n = 1 → (al : Int) = spN (kE M b) f) := by
  have hA : ∀ k : Int, okA (Ak M b k) := fun k => Ak_ok h.B b k
  obtain ⟨V, v1, v2, v3, v4⟩ := cp_spec hA (fun k _ _ => Ak_19 h.B h.2.2.2 h0 h1 k) (f := f) hn (h.arc h0)
  have v2 : ∀ c, c ∈ V ↔ ∃ x ∈ kE M b, phi f n x = c := v2
  refine ⟨_, _, List.length_filter_le _ V, v4, v3, ?_, fun hl => ?_, fun h3 => ?_, fun h3 => ?_⟩
  · have := nodup_le v1 (l2 := (kE M b).map (phi f n)) (fun c hc => by
      obtain ⟨x, hx, e⟩ := (v2 c).mp hc
      exact List.mem_map.mpr ⟨x, hx, e⟩)
    rwa [List.length_map] at this
  · obtain ⟨x, hx⟩ := List.exists_mem_of_length_pos hl
    exact List.length_pos_of_mem ((v2 _).mpr ⟨x, hx, rfl⟩)
  · have a1 := nodup_le v1 (l2 := (kE M b).map (phi f n)) (fun c hc => by
      obtain ⟨x, hx, e⟩ := (v2 c).mp hc
      exact List.mem_map.mpr ⟨x, hx, e⟩)
    have a2 : ((kE M b).map (phi f n)).length ≤ V.length := nodup_le (map_nodup (ens_nodup hA) (fun x hx y hy e => by
      obtain ⟨ax, kx, e1, p1, p2, p3, p4, p5, p6⟩ := ky_a (ens_b x hx)
      obtain ⟨ay, ky, f1, g1, g2, g3, g4, g5, g6⟩ := ky_a (ens_b y hy)
      unfold phi at e
      rw [p5, g5, p6, g6] at e
      unfold gOf at e
      rw [if_neg (by omega), if_neg (by omega)] at e
      have q1 := Int.emod_nonneg (ax + dC kx f) (show (3600 : Int) ≠ 0 by decide)
      have q2 := Int.emod_lt_of_pos (ax + dC kx f) (show (0 : Int) < 3600 by decide)
      have q3 := Int.emod_nonneg (ay + dC ky f) (show (3600 : Int) ≠ 0 by decide)
      have q4 := Int.emod_lt_of_pos (ay + dC ky f) (show (0 : Int) < 3600 by decide)
      have ek : kx = ky := by omega
      subst ek
      omega)) (fun c hc => by
      obtain ⟨x, hx, e⟩ := List.mem_map.mp hc
      exact (v2 c).mpr ⟨x, hx, e⟩)
    rw [List.length_map] at a1 a2
    omega
  · subst h3
    have e : ∀ x ∈ kE M b, phi f 1 x = plM x f := fun x hx => by
      unfold phi gOf
      rw [if_pos (by decide), show f + 1 - 1 = f by omega, Int.sub_self]
      omega
    have a1 := nodup_le v1 (l2 := pl (kE M b) f) (fun c hc => by
      obtain ⟨x, hx, e2⟩ := (v2 c).mp hc
      exact pl_mem.mpr ⟨x, hx, by rw [← e x hx]; exact e2⟩)
    have a2 := nodup_le (l1 := pl (kE M b) f) (l2 := V) fl_nodup (fun c hc => by
      obtain ⟨x, hx, e2⟩ := pl_mem.mp hc
      exact (v2 c).mpr ⟨x, hx, by rw [e x hx]; exact e2⟩)
    rw [sp_pl]
    omega
theorem ch_facts {S M : ZS} (h : DK S M) {b f n : Int} (h0 : 0 ≤ b) (h1 : b < M 11 0) (hn : 1 ≤ n) (hb : cpAll f n (findO b S) 28 0 ≤ 27702000) : ((kE M b).length = 0 → chM b f n 0 M = 0 ∧ chM b f n 1 M = 0) ∧ (0 < (kE M b).length → 0 ≤ chM b f n 0 M ∧ chM b f n 0 M ≤ chM b f n 1 M ∧ 1 ≤ chM b f n 1 M ∧ chM b f n 1 M ≤ (kE M b).length ∧ (0 < chM b f n 0 M ∨ chM b f n 1 M = 1) ∧ (3 ≤ n → ((kE M b).length : Int) % chM b f n 1 M = 0) ∧ (n = 1 → spN (kE M b) f % chM b f n 1 M = 0) ∧ ∀ k : Int, 2 ≤ k → ¬ (chM b f n 0 M % k = 0 ∧ chM b f n 1 M % k = 0)) := by
  obtain ⟨nr, al, a1, a2, a3, a4, a5, a6, a7⟩ := ch_all h h0 h1 hn (f := f)
  have e0 := chance_eq h.B h.2.2.1 h.2.2.2 h0 h1 hn hb (w := 0)
  have e1 := chance_eq h.B h.2.2.1 h.2.2.2 h0 h1 hn hb (w := 1)
  rw [← e0, ← e1]
  unfold chC
  rw [a2, a3]
  have hlen : (kE M b).length ≤ 1458000 := by
    have := nodup_le (ens_nodup (fun k => Ak_ok h.B b k)) (l2 := rg 1458000 0) (fun x hx => rg_mem.mpr (by have := ens_b x hx; omega))
    rw [rg_len] at this
    exact this
  rw [gcd_64 (x := nr) (y := al) (by omega)]
  rw [show (if (0 : Int) = 0 then (nr : Int) else al) = nr from rfl, show (if (1 : Int) = 0 then (nr : Int) else al) = al from rfl]
  constructor
  · intro hl
    obtain rfl : al = 0 := by omega
    obtain rfl : nr = 0 := by omega
    exact ⟨rfl, rfl⟩
  · intro hl
    have hal := a5 hl
    have g0 : 0 < Nat.gcd nr al := Nat.gcd_pos_of_pos_right _ hal
    rw [if_neg (by omega), if_neg (by omega)]
    obtain ⟨u, hu⟩ := Nat.gcd_dvd_left nr al
    obtain ⟨v, hv⟩ := Nat.gcd_dvd_right nr al
    have eu : (nr : Int) / (Nat.gcd nr al : Nat) = u := by
      rw [← Int.natCast_ediv]
      exact congrArg (fun q : Nat => (q : Int)) (Nat.div_eq_of_eq_mul_right g0 hu)
    have ev : (al : Int) / (Nat.gcd nr al : Nat) = v := by
      rw [← Int.natCast_ediv]
      exact congrArg (fun q : Nat => (q : Int)) (Nat.div_eq_of_eq_mul_right g0 hv)
    rw [eu, ev]
    have v1 : 1 ≤ v := by
      rcases Nat.eq_zero_or_pos v with h9 | h9
      · rw [h9, Nat.mul_zero] at hv; omega
      · exact h9
    have uv : u ≤ v := Nat.le_of_mul_le_mul_left (by rw [← hu, ← hv]; exact a1) g0
    have val : v ≤ al := by
      have := Nat.mul_le_mul_right v g0
      rw [← hv] at this
      omega
    have dv : v ∣ al := ⟨Nat.gcd nr al, by rw [Nat.mul_comm]; exact hv⟩
    refine ⟨by omega, by omega, by omega, by omega, ?_, fun h3 => ?_, fun h3 => ?_, fun k hk hd => ?_⟩
    · rcases Nat.eq_zero_or_pos u with h9 | h9
      · right
        rw [h9, Nat.mul_zero] at hu
        have h8 : Nat.gcd nr al = al := by rw [hu]; exact Nat.gcd_zero_left al
        rw [h8] at hv
        have := Nat.eq_of_mul_eq_mul_left hal (show al * v = al * 1 by omega)
        omega
      · left; omega
    · rw [← a6 h3, ← Int.natCast_emod, Nat.mod_eq_zero_of_dvd dv]; rfl
    · rw [← a7 h3, ← Int.natCast_emod, Nat.mod_eq_zero_of_dvd dv]; rfl
    · obtain ⟨k', rfl⟩ := Int.eq_ofNat_of_zero_le (show 0 ≤ k by omega)
      have d1 : k' ∣ u := Int.natCast_dvd_natCast.mp (Int.dvd_of_emod_eq_zero hd.1)
      have d2 : k' ∣ v := Int.natCast_dvd_natCast.mp (Int.dvd_of_emod_eq_zero hd.2)
      have d3 : Nat.gcd nr al * k' ∣ Nat.gcd nr al := by
        refine Nat.dvd_gcd ?_ ?_
        · rw [hu]
          have := Nat.mul_dvd_mul_left (Nat.gcd nr al) d1
          rwa [← hu] at this ⊢
        · rw [hv]
          have := Nat.mul_dvd_mul_left (Nat.gcd nr al) d2
          rwa [← hv] at this ⊢
      have d4 := Nat.le_of_dvd g0 d3
      have d5 := Nat.mul_le_mul_left (Nat.gcd nr al) (show 2 ≤ k' by omega)
      omega
