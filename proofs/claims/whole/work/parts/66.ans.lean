/-! each call: the same answer -/
theorem MB_U {U M' : ZS} (hm : SM U M') (hi : MI M') : MB U := (MB.of hi).sm (fun q hq => (SM.le hm q hq).symm)
theorem oOf_eq {S M : ZS} (hM : MB M) (h : Rel S M) {d : Int} (h0 : 0 ≤ d) (h1 : d < 60) : oOf S d = M 4 (M 7 d) := by
  have p0 : (0 : Int) ≤ M 7 d ∧ M 7 d ≤ 29 := hM 7 d
  unfold oOf; rw [pOf_at hM h h0 h1, rAt_in p0.1 (by omega), h.seat _ p0.1 (by omega)]
theorem step_observatory {S M T M' : ZS} {n k r r' x0 : Int} (hJ : JJ S M n) (hW : wrp_observatory S x0 k r T) (hQ : qst_observatory M x0 r' M') : M' 31 0 = k ∧ (k = 0 → r = r') ∧ JJ T M' (n + 1) := by
  have hJ' := hJ
  obtain ⟨hC, hMI, hR, hI, hn⟩ := hJ'
  have hM := MB.of hMI
  have nO := hR.nO
  have nP := hR.nP
  have nD := hR.nD
  have nB := hR.nB
  have b1 : (0 : Int) ≤ M 1 0 ∧ M 1 0 ≤ 6 := hMI 1 0
  have b3 : (0 : Int) ≤ M 3 0 ∧ M 3 0 ≤ 30 := hMI 3 0
  have b6 : (0 : Int) ≤ M 6 0 ∧ M 6 0 ≤ 60 := hMI 6 0
  have b11 : (0 : Int) ≤ M 11 0 ∧ M 11 0 ≤ 20 := hMI 11 0
  have hRP : Rel S (su M 31 (fun _ => 0)) := hR.sm U_31
  have hIP : Inv (su M 31 (fun _ => 0)) := hI.sm U_31
  have hMP : MB (su M 31 (fun _ => 0)) := hM.sm U_31
  unfold wrp_observatory pst_observatory pxx_observatory at hW
  unfold qst_observatory at hQ
  obtain ⟨hq, hi⟩ := hQ
  rcases hW with ⟨rfl, h⟩ | ⟨rfl, hx, hs, hc⟩ | ⟨rfl, hx, hs, hc⟩
  · obtain ⟨h1, h2, h⟩ := h
    have hK : kM_observatory M x0 = 0 := by unfold kM_observatory; rw [cif_f (by omega), cif_f (by omega)]
    have g := pub_good hq hK
    obtain ⟨hr, hT, hcT⟩ := h
    subst hr
    subst hT
    have q := rel_observatory (x0 := x0) hC hMI hR hI h2
    refine ⟨by rw [g.1 31 rfl]; rfl, fun _ => by rw [g.2]; exact nO, J_to (SC.rf) hcT g.1 hi q.1 q.2 (show M 17 0 ≤ n + 1 by omega)⟩
  · rcases hx with ⟨h1, e⟩ | ⟨h1, h2, e⟩
    · have hK : kM_observatory M x0 = 1 := by unfold kM_observatory; rw [cif_t (by omega)]
      have hb := pub_bad hq (by rw [hK]; decide)
      rw [hK] at hb
      have j := J_same hJ hs hc hb hi
      exact ⟨j.2, fun h9 => absurd h9 (by decide), j.1⟩
    · exact absurd e (by decide)
  · rcases hx with ⟨h1, e⟩ | ⟨h1, h2, e⟩
    · exact absurd e (by decide)
    · have hK : kM_observatory M x0 = 2 := by unfold kM_observatory; rw [cif_f (by omega), cif_t (by omega)]
      have hb := pub_bad hq (by rw [hK]; decide)
      rw [hK] at hb
      have j := J_same hJ hs hc hb hi
      exact ⟨j.2, fun h9 => absurd h9 (by decide), j.1⟩
theorem step_plate {S M T M' : ZS} {n k r r' x0 x1 : Int} (hJ : JJ S M n) (hW : wrp_plate S x0 x1 k r T) (hQ : qst_plate M x0 x1 r' M') : M' 31 0 = k ∧ (k = 0 → r = r') ∧ JJ T M' (n + 1) := by
  have hJ' := hJ
  obtain ⟨hC, hMI, hR, hI, hn⟩ := hJ'
  have hM := MB.of hMI
  have nO := hR.nO
  have nP := hR.nP
  have nD := hR.nD
  have nB := hR.nB
  have b1 : (0 : Int) ≤ M 1 0 ∧ M 1 0 ≤ 6 := hMI 1 0
  have b3 : (0 : Int) ≤ M 3 0 ∧ M 3 0 ≤ 30 := hMI 3 0
  have b6 : (0 : Int) ≤ M 6 0 ∧ M 6 0 ≤ 60 := hMI 6 0
  have b11 : (0 : Int) ≤ M 11 0 ∧ M 11 0 ≤ 20 := hMI 11 0
  have hRP : Rel S (su M 31 (fun _ => 0)) := hR.sm U_31
  have hIP : Inv (su M 31 (fun _ => 0)) := hI.sm U_31
  have hMP : MB (su M 31 (fun _ => 0)) := hM.sm U_31
  unfold wrp_plate pst_plate pxx_plate at hW
  unfold qst_plate at hQ
  obtain ⟨hq, hi⟩ := hQ
  rcases hW with ⟨rfl, h⟩ | ⟨rfl, hx, hs, hc⟩ | ⟨rfl, hx, hs, hc⟩ | ⟨rfl, hx, hs, hc⟩
  · obtain ⟨h1, h2, h3, h⟩ := h
    have hK : kM_plate M x0 x1 = 0 := by unfold kM_plate; rw [cif_f (by omega), cif_f (by omega), cif_f (by omega)]
    have g := pub_good hq hK
    obtain ⟨hr, hT, hcT⟩ := h
    subst hr
    subst hT
    have q := rel_plate (x0 := x0) (x1 := x1) hC hMI hR hI h3
    refine ⟨by rw [g.1 31 rfl]; rfl, fun _ => by rw [g.2]; exact nP, J_to (SC.rf) hcT g.1 hi q.1 q.2 (show M 17 0 ≤ n + 1 by omega)⟩
  · rcases hx with ⟨h1, e⟩ | ⟨h1, h2, e⟩ | ⟨h1, h2, h3, e⟩
    · have hK : kM_plate M x0 x1 = 1 := by unfold kM_plate; rw [cif_t (by omega)]
      have hb := pub_bad hq (by rw [hK]; decide)
      rw [hK] at hb
      have j := J_same hJ hs hc hb hi
      exact ⟨j.2, fun h9 => absurd h9 (by decide), j.1⟩
    · exact absurd e (by decide)
    · exact absurd e (by decide)
  · rcases hx with ⟨h1, e⟩ | ⟨h1, h2, e⟩ | ⟨h1, h2, h3, e⟩
    · exact absurd e (by decide)
    · have hK : kM_plate M x0 x1 = 2 := by unfold kM_plate; rw [cif_f (by omega), cif_t (by omega)]
      have hb := pub_bad hq (by rw [hK]; decide)
      rw [hK] at hb
      have j := J_same hJ hs hc hb hi
      exact ⟨j.2, fun h9 => absurd h9 (by decide), j.1⟩
    · exact absurd e (by decide)
  · rcases hx with ⟨h1, e⟩ | ⟨h1, h2, e⟩ | ⟨h1, h2, h3, e⟩
    · exact absurd e (by decide)
    · exact absurd e (by decide)
    · have hK : kM_plate M x0 x1 = 3 := by unfold kM_plate; rw [cif_f (by omega), cif_f (by omega), cif_t (by omega)]
      have hb := pub_bad hq (by rw [hK]; decide)
      rw [hK] at hb
      have j := J_same hJ hs hc hb hi
      exact ⟨j.2, fun h9 => absurd h9 (by decide), j.1⟩
theorem step_dot {S M T M' : ZS} {n k r r' x0 x1 x2 : Int} (hJ : JJ S M n) (hW : wrp_dot S x0 x1 x2 k r T) (hQ : qst_dot M x0 x1 x2 r' M') : M' 31 0 = k ∧ (k = 0 → r = r') ∧ JJ T M' (n + 1) := by
  have hJ' := hJ
  obtain ⟨hC, hMI, hR, hI, hn⟩ := hJ'
  have hM := MB.of hMI
  have nO := hR.nO
  have nP := hR.nP
  have nD := hR.nD
  have nB := hR.nB
  have b1 : (0 : Int) ≤ M 1 0 ∧ M 1 0 ≤ 6 := hMI 1 0
  have b3 : (0 : Int) ≤ M 3 0 ∧ M 3 0 ≤ 30 := hMI 3 0
  have b6 : (0 : Int) ≤ M 6 0 ∧ M 6 0 ≤ 60 := hMI 6 0
  have b11 : (0 : Int) ≤ M 11 0 ∧ M 11 0 ≤ 20 := hMI 11 0
  have hRP : Rel S (su M 31 (fun _ => 0)) := hR.sm U_31
  have hIP : Inv (su M 31 (fun _ => 0)) := hI.sm U_31
  have hMP : MB (su M 31 (fun _ => 0)) := hM.sm U_31
  unfold wrp_dot pst_dot pxx_dot at hW
  unfold qst_dot at hQ
  obtain ⟨hq, hi⟩ := hQ
  rcases hW with ⟨rfl, h⟩ | ⟨rfl, hx, hs, hc⟩ | ⟨rfl, hx, hs, hc⟩ | ⟨rfl, hx, hs, hc⟩
  · obtain ⟨h1, h2, h3, h4, h⟩ := h
    have hK : kM_dot M x0 x1 x2 = 0 := by unfold kM_dot; rw [cif_f (by omega), cif_f (by omega), cif_f (by omega)]
    have g := pub_good hq hK
    obtain ⟨hr, hT, hcT⟩ := h
    subst hr
    subst hT
    have q := rel_dot (x0 := x0) (x1 := x1) (x2 := x2) hC hMI hR hI h4
    refine ⟨by rw [g.1 31 rfl]; rfl, fun _ => by rw [g.2]; exact nD, J_to (SC.rf) hcT g.1 hi q.1 q.2 (show M 17 0 ≤ n + 1 by omega)⟩
  · rcases hx with ⟨h1, e⟩ | ⟨h1, h2, e⟩ | ⟨h1, h2, h3, e⟩ | ⟨h1, h2, h3, h4, e⟩
    · have hK : kM_dot M x0 x1 x2 = 1 := by unfold kM_dot; rw [cif_t (by omega)]
      have hb := pub_bad hq (by rw [hK]; decide)
      rw [hK] at hb
      have j := J_same hJ hs hc hb hi
      exact ⟨j.2, fun h9 => absurd h9 (by decide), j.1⟩
    · exact absurd e (by decide)
    · exact absurd e (by decide)
    · exact absurd e (by decide)
  · rcases hx with ⟨h1, e⟩ | ⟨h1, h2, e⟩ | ⟨h1, h2, h3, e⟩ | ⟨h1, h2, h3, h4, e⟩
    · exact absurd e (by decide)
    · have hK : kM_dot M x0 x1 x2 = 2 := by unfold kM_dot; rw [cif_f (by omega), cif_t (by omega)]
      have hb := pub_bad hq (by rw [hK]; decide)
      rw [hK] at hb
      have j := J_same hJ hs hc hb hi
      exact ⟨j.2, fun h9 => absurd h9 (by decide), j.1⟩
    · have hK : kM_dot M x0 x1 x2 = 2 := by unfold kM_dot; rw [cif_f (by omega), cif_t (by omega)]
      have hb := pub_bad hq (by rw [hK]; decide)
      rw [hK] at hb
      have j := J_same hJ hs hc hb hi
      exact ⟨j.2, fun h9 => absurd h9 (by decide), j.1⟩
    · exact absurd e (by decide)
  · rcases hx with ⟨h1, e⟩ | ⟨h1, h2, e⟩ | ⟨h1, h2, h3, e⟩ | ⟨h1, h2, h3, h4, e⟩
    · exact absurd e (by decide)
    · exact absurd e (by decide)
    · exact absurd e (by decide)
    · have hK : kM_dot M x0 x1 x2 = 3 := by unfold kM_dot; rw [cif_f (by omega), cif_f (by omega), cif_t (by omega)]
      have hb := pub_bad hq (by rw [hK]; decide)
      rw [hK] at hb
      have j := J_same hJ hs hc hb hi
      exact ⟨j.2, fun h9 => absurd h9 (by decide), j.1⟩
theorem step_shift {S M T M' : ZS} {n k r r' x0 x1 : Int} (hJ : JJ S M n) (hW : wrp_shift S x0 x1 k r T) (hQ : qst_shift M x0 x1 r' M') : M' 31 0 = k ∧ (k = 0 → r = r') ∧ JJ T M' (n + 1) := by
  have hJ' := hJ
  obtain ⟨hC, hMI, hR, hI, hn⟩ := hJ'
  have hM := MB.of hMI
  have nO := hR.nO
  have nP := hR.nP
  have nD := hR.nD
  have nB := hR.nB
  have b1 : (0 : Int) ≤ M 1 0 ∧ M 1 0 ≤ 6 := hMI 1 0
  have b3 : (0 : Int) ≤ M 3 0 ∧ M 3 0 ≤ 30 := hMI 3 0
  have b6 : (0 : Int) ≤ M 6 0 ∧ M 6 0 ≤ 60 := hMI 6 0
  have b11 : (0 : Int) ≤ M 11 0 ∧ M 11 0 ≤ 20 := hMI 11 0
  have hRP : Rel S (su M 31 (fun _ => 0)) := hR.sm U_31
  have hIP : Inv (su M 31 (fun _ => 0)) := hI.sm U_31
  have hMP : MB (su M 31 (fun _ => 0)) := hM.sm U_31
  unfold wrp_shift pst_shift pxx_shift at hW
  unfold qst_shift at hQ
  obtain ⟨hq, hi⟩ := hQ
  rcases hW with ⟨rfl, h⟩ | ⟨rfl, hx, hs, hc⟩ | ⟨rfl, hx, hs, hc⟩
  · obtain ⟨h1, h2, h⟩ := h
    have hK : kM_shift M x0 x1 = 0 := by unfold kM_shift; rw [cif_f (by omega), cif_f (by omega)]
    have g := pub_good hq hK
    obtain ⟨hr, hT, hcT⟩ := h
    subst hr
    subst hT
    have q := rel_shift (x0 := x0) (x1 := x1) hMI hR hI h1.1 h1.2
    refine ⟨by rw [g.1 31 rfl]; rfl, fun _ => by rw [g.2]; rw [rAt_in h1.1 h1.2]; exact hR.shift x0 h1.1 h1.2, J_to (SC.rf) hcT g.1 hi q.1 q.2 (show M 17 0 ≤ n + 1 by omega)⟩
  · rcases hx with ⟨h1, e⟩ | ⟨h1, h2, e⟩
    · have hK : kM_shift M x0 x1 = 1 := by unfold kM_shift; rw [cif_t (by omega)]
      have hb := pub_bad hq (by rw [hK]; decide)
      rw [hK] at hb
      have j := J_same hJ hs hc hb hi
      exact ⟨j.2, fun h9 => absurd h9 (by decide), j.1⟩
    · exact absurd e (by decide)
  · rcases hx with ⟨h1, e⟩ | ⟨h1, h2, e⟩
    · exact absurd e (by decide)
    · have hK : kM_shift M x0 x1 = 2 := by unfold kM_shift; rw [cif_f (by omega), cif_t (by omega)]
      have hb := pub_bad hq (by rw [hK]; decide)
      rw [hK] at hb
      have j := J_same hJ hs hc hb hi
      exact ⟨j.2, fun h9 => absurd h9 (by decide), j.1⟩
theorem step_ofDot {S M T M' : ZS} {n k r r' x0 x1 : Int} (hJ : JJ S M n) (hW : wrp_ofDot S x0 x1 k r T) (hQ : qst_ofDot M x0 x1 r' M') : M' 31 0 = k ∧ (k = 0 → r = r') ∧ JJ T M' (n + 1) := by
  have hJ' := hJ
  obtain ⟨hC, hMI, hR, hI, hn⟩ := hJ'
  have hM := MB.of hMI
  have nO := hR.nO
  have nP := hR.nP
  have nD := hR.nD
  have nB := hR.nB
  have b1 : (0 : Int) ≤ M 1 0 ∧ M 1 0 ≤ 6 := hMI 1 0
  have b3 : (0 : Int) ≤ M 3 0 ∧ M 3 0 ≤ 30 := hMI 3 0
  have b6 : (0 : Int) ≤ M 6 0 ∧ M 6 0 ≤ 60 := hMI 6 0
  have b11 : (0 : Int) ≤ M 11 0 ∧ M 11 0 ≤ 20 := hMI 11 0
  have hRP : Rel S (su M 31 (fun _ => 0)) := hR.sm U_31
  have hIP : Inv (su M 31 (fun _ => 0)) := hI.sm U_31
  have hMP : MB (su M 31 (fun _ => 0)) := hM.sm U_31
  have f7 : 0 ≤ x0 → x0 < M 6 0 → rAt 60 (S 7) x0 = M 10 x0 := fun a b => own_at hM hR a b
  unfold wrp_ofDot pst_ofDot pxx_ofDot at hW
  unfold qst_ofDot at hQ
  obtain ⟨hq, hi⟩ := hQ
  rcases hW with ⟨rfl, h⟩ | ⟨rfl, hx, hs, hc⟩ | ⟨rfl, hx, hs, hc⟩
  · obtain ⟨h1, h2, h⟩ := h
    have hK : kM_ofDot M x0 x1 = 0 := by unfold kM_ofDot; rw [cif_f (by omega), cif_f (by omega)]
    have g := pub_good hq hK
    obtain ⟨hr, hT, hcT⟩ := h
    have hsT : SC S T := by rw [hT]; exact SC.rf
    have j := J_same hJ hsT hcT g.1 hi
    refine ⟨j.2, fun _ => ?_, j.1⟩
    rw [g.2, hr]
    have d0 : 0 ≤ x0 := h1.1
    have d1 : x0 < M 6 0 := by omega
    have e := dat_eq hM hR d0 (show x0 < 60 by omega)
    unfold datC datM at e
    rw [Prod.mk.injEq, Prod.mk.injEq] at e
    unfold lOf
    rw [e.1, e.2.1, f7 d0 d1, rAt_in d0 (by omega), hR.light x0 d0 (by omega)]
  · rcases hx with ⟨h1, e⟩ | ⟨h1, h2, e⟩
    · have hK : kM_ofDot M x0 x1 = 1 := by unfold kM_ofDot; rw [cif_t (by omega)]
      have hb := pub_bad hq (by rw [hK]; decide)
      rw [hK] at hb
      have j := J_same hJ hs hc hb hi
      exact ⟨j.2, fun h9 => absurd h9 (by decide), j.1⟩
    · exact absurd e (by decide)
  · rcases hx with ⟨h1, e⟩ | ⟨h1, h2, e⟩
    · exact absurd e (by decide)
    · have hK : kM_ofDot M x0 x1 = 2 := by unfold kM_ofDot; rw [cif_f (by omega), cif_t (by omega)]
      have hb := pub_bad hq (by rw [hK]; decide)
      rw [hK] at hb
      have j := J_same hJ hs hc hb hi
      exact ⟨j.2, fun h9 => absurd h9 (by decide), j.1⟩
theorem step_body {S M T M' : ZS} {n k r r' x0 : Int} (hJ : JJ S M n) (hW : wrp_body S x0 k r T) (hQ : qst_body M x0 r' M') : M' 31 0 = k ∧ (k = 0 → r = r') ∧ JJ T M' (n + 1) := by
  have hJ' := hJ
  obtain ⟨hC, hMI, hR, hI, hn⟩ := hJ'
  have hM := MB.of hMI
  have nO := hR.nO
  have nP := hR.nP
  have nD := hR.nD
  have nB := hR.nB
  have b1 : (0 : Int) ≤ M 1 0 ∧ M 1 0 ≤ 6 := hMI 1 0
  have b3 : (0 : Int) ≤ M 3 0 ∧ M 3 0 ≤ 30 := hMI 3 0
  have b6 : (0 : Int) ≤ M 6 0 ∧ M 6 0 ≤ 60 := hMI 6 0
  have b11 : (0 : Int) ≤ M 11 0 ∧ M 11 0 ≤ 20 := hMI 11 0
  have hRP : Rel S (su M 31 (fun _ => 0)) := hR.sm U_31
  have hIP : Inv (su M 31 (fun _ => 0)) := hI.sm U_31
  have hMP : MB (su M 31 (fun _ => 0)) := hM.sm U_31
  have f7 : 0 ≤ x0 → x0 < M 6 0 → rAt 60 (S 7) x0 = M 10 x0 := fun a b => own_at hM hR a b
  unfold wrp_body pst_body pxx_body at hW
  unfold qst_body at hQ
  obtain ⟨hq, hi⟩ := hQ
  rcases hW with ⟨rfl, h⟩ | ⟨rfl, hx, hs, hc⟩ | ⟨rfl, hx, hs, hc⟩
  · obtain ⟨h1, h2, h3, h⟩ := h
    have hK : kM_body M x0 = 0 := by unfold kM_body; rw [cif_f (by omega), cif_f (by omega)]
    have g := pub_good hq hK
    obtain ⟨hr, hT, hcT⟩ := h
    subst hr
    subst hT
    have q := rel_body (x0 := x0) hMI hR hI h1.1 (by omega) (by omega) (by omega)
    refine ⟨by rw [g.1 31 rfl]; rfl, fun _ => by rw [g.2]; exact nB, J_to (SC.rf) hcT g.1 hi q.1 q.2 (show M 17 0 ≤ n + 1 by omega)⟩
  · rcases hx with ⟨h1, e⟩ | ⟨h1, h2, e⟩ | ⟨h1, h2, h3, e⟩
    · have hK : kM_body M x0 = 1 := by unfold kM_body; rw [cif_t (by omega)]
      have hb := pub_bad hq (by rw [hK]; decide)
      rw [hK] at hb
      have j := J_same hJ hs hc hb hi
      exact ⟨j.2, fun h9 => absurd h9 (by decide), j.1⟩
    · exact absurd e (by decide)
    · exact absurd e (by decide)
  · rcases hx with ⟨h1, e⟩ | ⟨h1, h2, e⟩ | ⟨h1, h2, h3, e⟩
    · exact absurd e (by decide)
    · have hK : kM_body M x0 = 2 := by unfold kM_body; rw [cif_f (by omega), cif_t (by omega)]
      have hb := pub_bad hq (by rw [hK]; decide)
      rw [hK] at hb
      have j := J_same hJ hs hc hb hi
      exact ⟨j.2, fun h9 => absurd h9 (by decide), j.1⟩
    · have hK : kM_body M x0 = 2 := by unfold kM_body; rw [cif_f (by omega), cif_t (by omega)]
      have hb := pub_bad hq (by rw [hK]; decide)
      rw [hK] at hb
      have j := J_same hJ hs hc hb hi
      exact ⟨j.2, fun h9 => absurd h9 (by decide), j.1⟩
theorem step_ofBody {S M T M' : ZS} {n k r r' x0 x1 : Int} (hJ : JJ S M n) (hW : wrp_ofBody S x0 x1 k r T) (hQ : qst_ofBody M x0 x1 r' M') : M' 31 0 = k ∧ (k = 0 → r = r') ∧ JJ T M' (n + 1) := by
  have hJ' := hJ
  obtain ⟨hC, hMI, hR, hI, hn⟩ := hJ'
  have hM := MB.of hMI
  have nO := hR.nO
  have nP := hR.nP
  have nD := hR.nD
  have nB := hR.nB
  have b1 : (0 : Int) ≤ M 1 0 ∧ M 1 0 ≤ 6 := hMI 1 0
  have b3 : (0 : Int) ≤ M 3 0 ∧ M 3 0 ≤ 30 := hMI 3 0
  have b6 : (0 : Int) ≤ M 6 0 ∧ M 6 0 ≤ 60 := hMI 6 0
  have b11 : (0 : Int) ≤ M 11 0 ∧ M 11 0 ≤ 20 := hMI 11 0
  have hRP : Rel S (su M 31 (fun _ => 0)) := hR.sm U_31
  have hIP : Inv (su M 31 (fun _ => 0)) := hI.sm U_31
  have hMP : MB (su M 31 (fun _ => 0)) := hM.sm U_31
  unfold wrp_ofBody pst_ofBody pxx_ofBody at hW
  unfold qst_ofBody at hQ
  obtain ⟨hq, hi⟩ := hQ
  rcases hW with ⟨rfl, h⟩ | ⟨rfl, hx, hs, hc⟩ | ⟨rfl, hx, hs, hc⟩
  · obtain ⟨h1, h2, h⟩ := h
    have hK : kM_ofBody M x0 x1 = 0 := by unfold kM_ofBody; rw [cif_f (by omega), cif_f (by omega)]
    have g := pub_good hq hK
    obtain ⟨hr, hsT, hcT⟩ := h
    have j := J_same hJ hsT hcT g.1 hi
    refine ⟨j.2, fun _ => ?_, j.1⟩
    rw [g.2, hr]
    have d0 : 0 ≤ x0 := h1.1
    have d1 : x0 < M 11 0 := by omega
    have f1 := first_eq hMP hRP hIP d0 d1
    have hG : Rel (gatherL x0 S) (su M 31 (fun _ => 0)) := hRP.sc SC_ga
    rw [looks_eq hMP hRP hIP d0, own_eq hMP hRP d0, (host_at hM hR hI d0 d1).1, f1.1, oOf_eq hMP hG f1.2.1 f1.2.2, (num_iff hM hR d0 (by omega)).1, joined_eq hMP hRP hIP]
    rfl
  · rcases hx with ⟨h1, e⟩ | ⟨h1, h2, e⟩
    · have hK : kM_ofBody M x0 x1 = 1 := by unfold kM_ofBody; rw [cif_t (by omega)]
      have hb := pub_bad hq (by rw [hK]; decide)
      rw [hK] at hb
      have j := J_same hJ hs hc hb hi
      exact ⟨j.2, fun h9 => absurd h9 (by decide), j.1⟩
    · exact absurd e (by decide)
  · rcases hx with ⟨h1, e⟩ | ⟨h1, h2, e⟩
    · exact absurd e (by decide)
    · have hK : kM_ofBody M x0 x1 = 2 := by unfold kM_ofBody; rw [cif_f (by omega), cif_t (by omega)]
      have hb := pub_bad hq (by rw [hK]; decide)
      rw [hK] at hb
      have j := J_same hJ hs hc hb hi
      exact ⟨j.2, fun h9 => absurd h9 (by decide), j.1⟩
theorem step_orbits {S M T M' : ZS} {n k r r' x0 : Int} (hJ : JJ S M n) (hW : wrp_orbits S x0 k r T) (hQ : qst_orbits M x0 r' M') : M' 31 0 = k ∧ (k = 0 → r = r') ∧ JJ T M' (n + 1) := by
  have hJ' := hJ
  obtain ⟨hC, hMI, hR, hI, hn⟩ := hJ'
  have hM := MB.of hMI
  have nO := hR.nO
  have nP := hR.nP
  have nD := hR.nD
  have nB := hR.nB
  have b1 : (0 : Int) ≤ M 1 0 ∧ M 1 0 ≤ 6 := hMI 1 0
  have b3 : (0 : Int) ≤ M 3 0 ∧ M 3 0 ≤ 30 := hMI 3 0
  have b6 : (0 : Int) ≤ M 6 0 ∧ M 6 0 ≤ 60 := hMI 6 0
  have b11 : (0 : Int) ≤ M 11 0 ∧ M 11 0 ≤ 20 := hMI 11 0
  have hRP : Rel S (su M 31 (fun _ => 0)) := hR.sm U_31
  have hIP : Inv (su M 31 (fun _ => 0)) := hI.sm U_31
  have hMP : MB (su M 31 (fun _ => 0)) := hM.sm U_31
  unfold wrp_orbits pst_orbits pxx_orbits at hW
  unfold qst_orbits at hQ
  obtain ⟨hq, hi⟩ := hQ
  rcases hW with ⟨rfl, h⟩ | ⟨rfl, hx, hs, hc⟩
  · obtain ⟨h1, h⟩ := h
    have hK : kM_orbits M x0 = 0 := by unfold kM_orbits; rw [cif_f (by omega)]
    have g := pub_good hq hK
    obtain ⟨hr, hT, hcT⟩ := h
    have hsT : SC S T := by rw [hT]; exact SC_fo
    have j := J_same hJ hsT hcT g.1 hi
    refine ⟨j.2, fun _ => ?_, j.1⟩
    rw [g.2, hr]
    have d0 : 0 ≤ x0 := h1.1
    have d1 : x0 < M 11 0 := by omega
    exact cnt_eq hMP hRP hIP d0 d1
  · obtain ⟨h1, e⟩ := hx
    have hK : kM_orbits M x0 = 1 := by unfold kM_orbits; rw [cif_t (by omega)]
    have hb := pub_bad hq (by rw [hK]; decide)
    rw [hK] at hb
    have j := J_same hJ hs hc hb hi
    exact ⟨j.2, fun h9 => absurd h9 (by decide), j.1⟩
theorem step_orbitsAnew {S M T M' : ZS} {n k r r' x0 : Int} (hJ : JJ S M n) (hW : wrp_orbitsAnew S x0 k r T) (hQ : qst_orbitsAnew M x0 r' M') : M' 31 0 = k ∧ (k = 0 → r = r') ∧ JJ T M' (n + 1) := by
  have hJ' := hJ
  obtain ⟨hC, hMI, hR, hI, hn⟩ := hJ'
  have hM := MB.of hMI
  have nO := hR.nO
  have nP := hR.nP
  have nD := hR.nD
  have nB := hR.nB
  have b1 : (0 : Int) ≤ M 1 0 ∧ M 1 0 ≤ 6 := hMI 1 0
  have b3 : (0 : Int) ≤ M 3 0 ∧ M 3 0 ≤ 30 := hMI 3 0
  have b6 : (0 : Int) ≤ M 6 0 ∧ M 6 0 ≤ 60 := hMI 6 0
  have b11 : (0 : Int) ≤ M 11 0 ∧ M 11 0 ≤ 20 := hMI 11 0
  have hRP : Rel S (su M 31 (fun _ => 0)) := hR.sm U_31
  have hIP : Inv (su M 31 (fun _ => 0)) := hI.sm U_31
  have hMP : MB (su M 31 (fun _ => 0)) := hM.sm U_31
  unfold wrp_orbitsAnew pst_orbitsAnew pxx_orbitsAnew at hW
  unfold qst_orbitsAnew at hQ
  obtain ⟨hq, hi⟩ := hQ
  rcases hW with ⟨rfl, h⟩ | ⟨rfl, hx, hs, hc⟩
  · obtain ⟨h1, h⟩ := h
    have hK : kM_orbitsAnew M x0 = 0 := by unfold kM_orbitsAnew; rw [cif_f (by omega)]
    have g := pub_good hq hK
    obtain ⟨hr, hT, hcT⟩ := h
    have hsT : SC S T := by rw [hT]; exact SC_ga
    have j := J_same hJ hsT hcT g.1 hi
    refine ⟨j.2, fun _ => ?_, j.1⟩
    rw [g.2, hr]
    have d0 : 0 ≤ x0 := h1.1
    have d1 : x0 < M 11 0 := by omega
    exact anew_eq hMP hRP hIP d0 d1
  · obtain ⟨h1, e⟩ := hx
    have hK : kM_orbitsAnew M x0 = 1 := by unfold kM_orbitsAnew; rw [cif_t (by omega)]
    have hb := pub_bad hq (by rw [hK]; decide)
    rw [hK] at hb
    have j := J_same hJ hs hc hb hi
    exact ⟨j.2, fun h9 => absurd h9 (by decide), j.1⟩
theorem step_orbit {S M T M' : ZS} {n k r r' x0 x1 x2 : Int} (hJ : JJ S M n) (hW : wrp_orbit S x0 x1 x2 k r T) (hQ : qst_orbit M x0 x1 x2 r' M') : M' 31 0 = k ∧ (k = 0 → r = r') ∧ JJ T M' (n + 1) := by
  have hJ' := hJ
  obtain ⟨hC, hMI, hR, hI, hn⟩ := hJ'
  have hM := MB.of hMI
  have nO := hR.nO
  have nP := hR.nP
  have nD := hR.nD
  have nB := hR.nB
  have b1 : (0 : Int) ≤ M 1 0 ∧ M 1 0 ≤ 6 := hMI 1 0
  have b3 : (0 : Int) ≤ M 3 0 ∧ M 3 0 ≤ 30 := hMI 3 0
  have b6 : (0 : Int) ≤ M 6 0 ∧ M 6 0 ≤ 60 := hMI 6 0
  have b11 : (0 : Int) ≤ M 11 0 ∧ M 11 0 ≤ 20 := hMI 11 0
  have hRP : Rel S (su M 31 (fun _ => 0)) := hR.sm U_31
  have hIP : Inv (su M 31 (fun _ => 0)) := hI.sm U_31
  have hMP : MB (su M 31 (fun _ => 0)) := hM.sm U_31
  have fc : 0 ≤ x0 → x0 < M 11 0 → cntO (findO x0 S) = findM (laysM x0 M) 21 0 := fun a b => cnt_eq hM hR hI a b
  unfold wrp_orbit pst_orbit pxx_orbit at hW
  unfold qst_orbit at hQ
  obtain ⟨hq, hi⟩ := hQ
  rcases hW with ⟨rfl, h⟩ | ⟨rfl, hx, hs, hc⟩ | ⟨rfl, hx, hs, hc⟩
  · obtain ⟨h1, h2, h3, h⟩ := h
    have hK : kM_orbit M x0 x1 x2 = 0 := by unfold kM_orbit; rw [cif_f (by omega), cif_f (by omega)]
    have g := pub_good hq hK
    obtain ⟨hr, hT, hcT⟩ := h
    have hsT : SC S T := by rw [hT]; exact (SC_fo.tr SC_tl)
    have j := J_same hJ hsT hcT g.1 hi
    refine ⟨j.2, fun _ => ?_, j.1⟩
    rw [g.2, hr]
    have d0 : 0 ≤ x0 := h1.1
    have d1 : x0 < M 11 0 := by omega
    have hk := find_keys hM hI d0 d1
    have hlen := hk.1
    have hk2 : hasR 22 21 (su (findM (laysM x0 M)) 31 (fun _ => 0)) (kE M x0) := ⟨(congrFun (su_n _ _ (by decide)) 0).trans hk.1, fun i hi => (congrFun (su_n _ _ (by decide)) _).trans (hk.2 i hi)⟩
    have e := orbit_eq hM hR hI d0 d1 (T := su (findM (laysM x0 M)) 31 (fun _ => 0)) hk2 h2.1 (by omega)
    rw [e]
    unfold orvC bC cC
    generalize oatC (tlAll 0 (findO x0 S)) 3600 0 x1 = y
    split
    · rfl
    · split
      · rfl
      · omega
  · rcases hx with ⟨h1, e⟩ | ⟨h1, h2, e⟩ | ⟨h1, h2, h3, e⟩
    · have hK : kM_orbit M x0 x1 x2 = 1 := by unfold kM_orbit; rw [cif_t (by omega)]
      have hb := pub_bad hq (by rw [hK]; decide)
      rw [hK] at hb
      have j := J_same hJ hs hc hb hi
      exact ⟨j.2, fun h9 => absurd h9 (by decide), j.1⟩
    · have hK : kM_orbit M x0 x1 x2 = 1 := by unfold kM_orbit; rw [cif_t (by omega)]
      have hb := pub_bad hq (by rw [hK]; decide)
      rw [hK] at hb
      have j := J_same hJ hs hc hb hi
      exact ⟨j.2, fun h9 => absurd h9 (by decide), j.1⟩
    · exact absurd e (by decide)
  · rcases hx with ⟨h1, e⟩ | ⟨h1, h2, e⟩ | ⟨h1, h2, h3, e⟩
    · exact absurd e (by decide)
    · exact absurd e (by decide)
    · have hK : kM_orbit M x0 x1 x2 = 2 := by unfold kM_orbit; rw [cif_f (by omega), cif_t (by omega)]
      have hb := pub_bad hq (by rw [hK]; decide)
      rw [hK] at hb
      have j := J_same hJ hs hc hb hi
      exact ⟨j.2, fun h9 => absurd h9 (by decide), j.1⟩
theorem step_spread {S M T M' : ZS} {n k r r' x0 x1 : Int} (hJ : JJ S M n) (hW : wrp_spread S x0 x1 k r T) (hQ : qst_spread M x0 x1 r' M') : M' 31 0 = k ∧ (k = 0 → r = r') ∧ JJ T M' (n + 1) := by
  have hJ' := hJ
  obtain ⟨hC, hMI, hR, hI, hn⟩ := hJ'
  have hM := MB.of hMI
  have nO := hR.nO
  have nP := hR.nP
  have nD := hR.nD
  have nB := hR.nB
  have b1 : (0 : Int) ≤ M 1 0 ∧ M 1 0 ≤ 6 := hMI 1 0
  have b3 : (0 : Int) ≤ M 3 0 ∧ M 3 0 ≤ 30 := hMI 3 0
  have b6 : (0 : Int) ≤ M 6 0 ∧ M 6 0 ≤ 60 := hMI 6 0
  have b11 : (0 : Int) ≤ M 11 0 ∧ M 11 0 ≤ 20 := hMI 11 0
  have hRP : Rel S (su M 31 (fun _ => 0)) := hR.sm U_31
  have hIP : Inv (su M 31 (fun _ => 0)) := hI.sm U_31
  have hMP : MB (su M 31 (fun _ => 0)) := hM.sm U_31
  unfold wrp_spread pst_spread pxx_spread at hW
  unfold qst_spread at hQ
  obtain ⟨hq, hi⟩ := hQ
  rcases hW with ⟨rfl, h⟩ | ⟨rfl, hx, hs, hc⟩ | ⟨rfl, hx, hs, hc⟩
  · obtain ⟨h1, h2, h⟩ := h
    have hK : kM_spread M x0 x1 = 0 := by unfold kM_spread; rw [cif_f (by omega), cif_f (by omega)]
    have g := pub_good hq hK
    obtain ⟨hr, hT, hcT⟩ := h
    have hsT : SC S T := by rw [hT]; exact (SC_fo.tr SC_tl)
    have j := J_same hJ hsT hcT g.1 hi
    refine ⟨j.2, fun _ => ?_, j.1⟩
    rw [g.2, hr]
    have d0 : 0 ≤ x0 := h1.1
    have d1 : x0 < M 11 0 := by omega
    exact spread_eq hMP hRP hIP d0 d1
  · rcases hx with ⟨h1, e⟩ | ⟨h1, h2, e⟩
    · have hK : kM_spread M x0 x1 = 1 := by unfold kM_spread; rw [cif_t (by omega)]
      have hb := pub_bad hq (by rw [hK]; decide)
      rw [hK] at hb
      have j := J_same hJ hs hc hb hi
      exact ⟨j.2, fun h9 => absurd h9 (by decide), j.1⟩
    · exact absurd e (by decide)
  · rcases hx with ⟨h1, e⟩ | ⟨h1, h2, e⟩
    · exact absurd e (by decide)
    · have hK : kM_spread M x0 x1 = 2 := by unfold kM_spread; rw [cif_f (by omega), cif_t (by omega)]
      have hb := pub_bad hq (by rw [hK]; decide)
      rw [hK] at hb
      have j := J_same hJ hs hc hb hi
      exact ⟨j.2, fun h9 => absurd h9 (by decide), j.1⟩
theorem step_where {S M T M' : ZS} {n k r r' x0 x1 x2 : Int} (hJ : JJ S M n) (hW : wrp_where S x0 x1 x2 k r T) (hQ : qst_where M x0 x1 x2 r' M') : M' 31 0 = k ∧ (k = 0 → r = r') ∧ JJ T M' (n + 1) := by
  have hJ' := hJ
  obtain ⟨hC, hMI, hR, hI, hn⟩ := hJ'
  have hM := MB.of hMI
  have nO := hR.nO
  have nP := hR.nP
  have nD := hR.nD
  have nB := hR.nB
  have b1 : (0 : Int) ≤ M 1 0 ∧ M 1 0 ≤ 6 := hMI 1 0
  have b3 : (0 : Int) ≤ M 3 0 ∧ M 3 0 ≤ 30 := hMI 3 0
  have b6 : (0 : Int) ≤ M 6 0 ∧ M 6 0 ≤ 60 := hMI 6 0
  have b11 : (0 : Int) ≤ M 11 0 ∧ M 11 0 ≤ 20 := hMI 11 0
  have hRP : Rel S (su M 31 (fun _ => 0)) := hR.sm U_31
  have hIP : Inv (su M 31 (fun _ => 0)) := hI.sm U_31
  have hMP : MB (su M 31 (fun _ => 0)) := hM.sm U_31
  unfold wrp_where pst_where pxx_where at hW
  unfold qst_where at hQ
  obtain ⟨hq, hi⟩ := hQ
  rcases hW with ⟨rfl, h⟩ | ⟨rfl, hx, hs, hc⟩ | ⟨rfl, hx, hs, hc⟩
  · obtain ⟨h1, h2, h3, h⟩ := h
    have hK : kM_where M x0 x1 x2 = 0 := by unfold kM_where; rw [cif_f (by omega), cif_f (by omega)]
    have g := pub_good hq hK
    obtain ⟨hr, hT, hcT⟩ := h
    have hsT : SC S T := by rw [hT]; exact (SC_fo.tr SC_tl)
    have j := J_same hJ hsT hcT g.1 hi
    refine ⟨j.2, fun _ => ?_, j.1⟩
    rw [g.2, hr]
    have d0 : 0 ≤ x0 := h1.1
    have d1 : x0 < M 11 0 := by omega
    exact place_eq hMP hRP hIP d0 d1
  · rcases hx with ⟨h1, e⟩ | ⟨h1, h2, e⟩ | ⟨h1, h2, h3, e⟩
    · have hK : kM_where M x0 x1 x2 = 1 := by unfold kM_where; rw [cif_t (by omega)]
      have hb := pub_bad hq (by rw [hK]; decide)
      rw [hK] at hb
      have j := J_same hJ hs hc hb hi
      exact ⟨j.2, fun h9 => absurd h9 (by decide), j.1⟩
    · exact absurd e (by decide)
    · exact absurd e (by decide)
  · rcases hx with ⟨h1, e⟩ | ⟨h1, h2, e⟩ | ⟨h1, h2, h3, e⟩
    · exact absurd e (by decide)
    · have hK : kM_where M x0 x1 x2 = 2 := by unfold kM_where; rw [cif_f (by omega), cif_t (by omega)]
      have hb := pub_bad hq (by rw [hK]; decide)
      rw [hK] at hb
      have j := J_same hJ hs hc hb hi
      exact ⟨j.2, fun h9 => absurd h9 (by decide), j.1⟩
    · have hK : kM_where M x0 x1 x2 = 2 := by unfold kM_where; rw [cif_f (by omega), cif_t (by omega)]
      have hb := pub_bad hq (by rw [hK]; decide)
      rw [hK] at hb
      have j := J_same hJ hs hc hb hi
      exact ⟨j.2, fun h9 => absurd h9 (by decide), j.1⟩
theorem step_candidates {S M T M' : ZS} {n k r r' x0 : Int} (hJ : JJ S M n) (hW : wrp_candidates S x0 k r T) (hQ : qst_candidates M x0 r' M') : M' 31 0 = k ∧ (k = 0 → r = r') ∧ JJ T M' (n + 1) := by
  have hJ' := hJ
  obtain ⟨hC, hMI, hR, hI, hn⟩ := hJ'
  have hM := MB.of hMI
  have nO := hR.nO
  have nP := hR.nP
  have nD := hR.nD
  have nB := hR.nB
  have b1 : (0 : Int) ≤ M 1 0 ∧ M 1 0 ≤ 6 := hMI 1 0
  have b3 : (0 : Int) ≤ M 3 0 ∧ M 3 0 ≤ 30 := hMI 3 0
  have b6 : (0 : Int) ≤ M 6 0 ∧ M 6 0 ≤ 60 := hMI 6 0
  have b11 : (0 : Int) ≤ M 11 0 ∧ M 11 0 ≤ 20 := hMI 11 0
  have hRP : Rel S (su M 31 (fun _ => 0)) := hR.sm U_31
  have hIP : Inv (su M 31 (fun _ => 0)) := hI.sm U_31
  have hMP : MB (su M 31 (fun _ => 0)) := hM.sm U_31
  unfold wrp_candidates pst_candidates pxx_candidates at hW
  unfold qst_candidates at hQ
  obtain ⟨hq, hi⟩ := hQ
  rcases hW with ⟨rfl, h⟩ | ⟨rfl, hx, hs, hc⟩
  · obtain ⟨h1, h⟩ := h
    have hK : kM_candidates M x0 = 0 := by unfold kM_candidates; rw [cif_f (by omega)]
    have g := pub_good hq hK
    obtain ⟨hr, hT, hcT⟩ := h
    have hsT : SC S T := by rw [hT]; exact SC_fo
    have j := J_same hJ hsT hcT g.1 hi
    refine ⟨j.2, fun _ => ?_, j.1⟩
    rw [g.2, hr]
    have d0 : 0 ≤ x0 := h1.1
    have d1 : x0 < M 11 0 := by omega
    exact cand_eq hMP hRP hIP d0 d1
  · obtain ⟨h1, e⟩ := hx
    have hK : kM_candidates M x0 = 1 := by unfold kM_candidates; rw [cif_t (by omega)]
    have hb := pub_bad hq (by rw [hK]; decide)
    rw [hK] at hb
    have j := J_same hJ hs hc hb hi
    exact ⟨j.2, fun h9 => absurd h9 (by decide), j.1⟩
theorem step_chance {S M T M' : ZS} {n k r r' x0 x1 x2 x3 : Int} (hJ : JJ S M n) (hW : wrp_chance S x0 x1 x2 x3 k r T) (hQ : qst_chance M x0 x1 x2 x3 r' M') : M' 31 0 = k ∧ (k = 0 → r = r') ∧ JJ T M' (n + 1) := by
  have hJ' := hJ
  obtain ⟨hC, hMI, hR, hI, hn⟩ := hJ'
  have hM := MB.of hMI
  have nO := hR.nO
  have nP := hR.nP
  have nD := hR.nD
  have nB := hR.nB
  have b1 : (0 : Int) ≤ M 1 0 ∧ M 1 0 ≤ 6 := hMI 1 0
  have b3 : (0 : Int) ≤ M 3 0 ∧ M 3 0 ≤ 30 := hMI 3 0
  have b6 : (0 : Int) ≤ M 6 0 ∧ M 6 0 ≤ 60 := hMI 6 0
  have b11 : (0 : Int) ≤ M 11 0 ∧ M 11 0 ≤ 20 := hMI 11 0
  have hRP : Rel S (su M 31 (fun _ => 0)) := hR.sm U_31
  have hIP : Inv (su M 31 (fun _ => 0)) := hI.sm U_31
  have hMP : MB (su M 31 (fun _ => 0)) := hM.sm U_31
  unfold wrp_chance pst_chance pxx_chance at hW
  unfold qst_chance at hQ
  obtain ⟨hq, hi⟩ := hQ
  rcases hW with ⟨rfl, h⟩ | ⟨rfl, hx, hs, hc⟩ | ⟨rfl, hx, hs, hc⟩
  · obtain ⟨h1, h2, h3, h4, h⟩ := h
    have hK : kM_chance M x0 x1 x2 x3 = 0 := by unfold kM_chance; rw [cif_f (by omega), cif_f (by omega)]
    have g := pub_good hq hK
    obtain ⟨hr, hT, hcT⟩ := h
    have hsT : SC S T := by rw [hT]; exact (SC_fo.tr SC_cp)
    have j := J_same hJ hsT hcT g.1 hi
    refine ⟨j.2, fun _ => ?_, j.1⟩
    rw [g.2, hr]
    have d0 : 0 ≤ x0 := h1.1
    have d1 : x0 < M 11 0 := by omega
    exact chance_eq hMP hRP hIP d0 d1 h3.1 (by rw [← hT] <;> exact (hcT 28 0).2)
  · rcases hx with ⟨h1, e⟩ | ⟨h1, h2, e⟩ | ⟨h1, h2, h3, e⟩ | ⟨h1, h2, h3, h4, e⟩
    · have hK : kM_chance M x0 x1 x2 x3 = 1 := by unfold kM_chance; rw [cif_t (by omega)]
      have hb := pub_bad hq (by rw [hK]; decide)
      rw [hK] at hb
      have j := J_same hJ hs hc hb hi
      exact ⟨j.2, fun h9 => absurd h9 (by decide), j.1⟩
    · exact absurd e (by decide)
    · exact absurd e (by decide)
    · exact absurd e (by decide)
  · rcases hx with ⟨h1, e⟩ | ⟨h1, h2, e⟩ | ⟨h1, h2, h3, e⟩ | ⟨h1, h2, h3, h4, e⟩
    · exact absurd e (by decide)
    · have hK : kM_chance M x0 x1 x2 x3 = 2 := by unfold kM_chance; rw [cif_f (by omega), cif_t (by omega)]
      have hb := pub_bad hq (by rw [hK]; decide)
      rw [hK] at hb
      have j := J_same hJ hs hc hb hi
      exact ⟨j.2, fun h9 => absurd h9 (by decide), j.1⟩
    · have hK : kM_chance M x0 x1 x2 x3 = 2 := by unfold kM_chance; rw [cif_f (by omega), cif_t (by omega)]
      have hb := pub_bad hq (by rw [hK]; decide)
      rw [hK] at hb
      have j := J_same hJ hs hc hb hi
      exact ⟨j.2, fun h9 => absurd h9 (by decide), j.1⟩
    · have hK : kM_chance M x0 x1 x2 x3 = 2 := by unfold kM_chance; rw [cif_f (by omega), cif_t (by omega)]
      have hb := pub_bad hq (by rw [hK]; decide)
      rw [hK] at hb
      have j := J_same hJ hs hc hb hi
      exact ⟨j.2, fun h9 => absurd h9 (by decide), j.1⟩
theorem step_families {S M T M' : ZS} {n k r r' x0 : Int} (hJ : JJ S M n) (hW : wrp_families S x0 k r T) (hQ : qst_families M x0 r' M') : M' 31 0 = k ∧ (k = 0 → r = r') ∧ JJ T M' (n + 1) := by
  have hJ' := hJ
  obtain ⟨hC, hMI, hR, hI, hn⟩ := hJ'
  have hM := MB.of hMI
  have nO := hR.nO
  have nP := hR.nP
  have nD := hR.nD
  have nB := hR.nB
  have b1 : (0 : Int) ≤ M 1 0 ∧ M 1 0 ≤ 6 := hMI 1 0
  have b3 : (0 : Int) ≤ M 3 0 ∧ M 3 0 ≤ 30 := hMI 3 0
  have b6 : (0 : Int) ≤ M 6 0 ∧ M 6 0 ≤ 60 := hMI 6 0
  have b11 : (0 : Int) ≤ M 11 0 ∧ M 11 0 ≤ 20 := hMI 11 0
  have hRP : Rel S (su M 31 (fun _ => 0)) := hR.sm U_31
  have hIP : Inv (su M 31 (fun _ => 0)) := hI.sm U_31
  have hMP : MB (su M 31 (fun _ => 0)) := hM.sm U_31
  unfold wrp_families pst_families pxx_families at hW
  unfold qst_families at hQ
  obtain ⟨hq, hi⟩ := hQ
  rcases hW with ⟨rfl, h⟩ | ⟨rfl, hx, hs, hc⟩
  · obtain ⟨h1, h⟩ := h
    have hK : kM_families M x0 = 0 := by unfold kM_families; rw [cif_f (by omega)]
    have g := pub_good hq hK
    obtain ⟨hr, hT, hcT⟩ := h
    have hsT : SC S T := by rw [hT]; exact SC_ff
    have j := J_same hJ hsT hcT g.1 hi
    refine ⟨j.2, fun _ => ?_, j.1⟩
    rw [g.2, hr]
    exact families_eq hMP hRP hIP
  · obtain ⟨h1, e⟩ := hx
    have hK : kM_families M x0 = 1 := by unfold kM_families; rw [cif_t (by omega)]
    have hb := pub_bad hq (by rw [hK]; decide)
    rw [hK] at hb
    have j := J_same hJ hs hc hb hi
    exact ⟨j.2, fun h9 => absurd h9 (by decide), j.1⟩
theorem step_family {S M T M' : ZS} {n k r r' x0 x1 : Int} (hJ : JJ S M n) (hW : wrp_family S x0 x1 k r T) (hQ : qst_family M x0 x1 r' M') : M' 31 0 = k ∧ (k = 0 → r = r') ∧ JJ T M' (n + 1) := by
  have hJ' := hJ
  obtain ⟨hC, hMI, hR, hI, hn⟩ := hJ'
  have hM := MB.of hMI
  have nO := hR.nO
  have nP := hR.nP
  have nD := hR.nD
  have nB := hR.nB
  have b1 : (0 : Int) ≤ M 1 0 ∧ M 1 0 ≤ 6 := hMI 1 0
  have b3 : (0 : Int) ≤ M 3 0 ∧ M 3 0 ≤ 30 := hMI 3 0
  have b6 : (0 : Int) ≤ M 6 0 ∧ M 6 0 ≤ 60 := hMI 6 0
  have b11 : (0 : Int) ≤ M 11 0 ∧ M 11 0 ≤ 20 := hMI 11 0
  have hRP : Rel S (su M 31 (fun _ => 0)) := hR.sm U_31
  have hIP : Inv (su M 31 (fun _ => 0)) := hI.sm U_31
  have hMP : MB (su M 31 (fun _ => 0)) := hM.sm U_31
  unfold wrp_family pst_family pxx_family at hW
  unfold qst_family at hQ
  obtain ⟨hq, hi⟩ := hQ
  rcases hW with ⟨rfl, h⟩ | ⟨rfl, hx, hs, hc⟩ | ⟨rfl, hx, hs, hc⟩
  · obtain ⟨h1, h2, h⟩ := h
    have hK : kM_family M x0 x1 = 0 := by unfold kM_family; rw [cif_f (by omega), cif_f (by omega)]
    have g := pub_good hq hK
    obtain ⟨hr, hsT, hcT⟩ := h
    have j := J_same hJ hsT hcT g.1 hi
    refine ⟨j.2, fun _ => ?_, j.1⟩
    rw [g.2, hr]
    have d0 : 0 ≤ x0 := h1.1
    have d1 : x0 < M 11 0 := by omega
    exact family_eq hMP hRP hIP d0 d1
  · rcases hx with ⟨h1, e⟩ | ⟨h1, h2, e⟩
    · have hK : kM_family M x0 x1 = 1 := by unfold kM_family; rw [cif_t (by omega)]
      have hb := pub_bad hq (by rw [hK]; decide)
      rw [hK] at hb
      have j := J_same hJ hs hc hb hi
      exact ⟨j.2, fun h9 => absurd h9 (by decide), j.1⟩
    · exact absurd e (by decide)
  · rcases hx with ⟨h1, e⟩ | ⟨h1, h2, e⟩
    · exact absurd e (by decide)
    · have hK : kM_family M x0 x1 = 2 := by unfold kM_family; rw [cif_f (by omega), cif_t (by omega)]
      have hb := pub_bad hq (by rw [hK]; decide)
      rw [hK] at hb
      have j := J_same hJ hs hc hb hi
      exact ⟨j.2, fun h9 => absurd h9 (by decide), j.1⟩
theorem step_turn {S M T M' : ZS} {n k r r' x0 x1 : Int} (hJ : JJ S M n) (hW : wrp_turn S x0 x1 k r T) (hQ : qst_turn M x0 x1 r' M') : M' 31 0 = k ∧ (k = 0 → r = r') ∧ JJ T M' (n + 1) := by
  have hJ' := hJ
  obtain ⟨hC, hMI, hR, hI, hn⟩ := hJ'
  have hM := MB.of hMI
  have nO := hR.nO
  have nP := hR.nP
  have nD := hR.nD
  have nB := hR.nB
  have b1 : (0 : Int) ≤ M 1 0 ∧ M 1 0 ≤ 6 := hMI 1 0
  have b3 : (0 : Int) ≤ M 3 0 ∧ M 3 0 ≤ 30 := hMI 3 0
  have b6 : (0 : Int) ≤ M 6 0 ∧ M 6 0 ≤ 60 := hMI 6 0
  have b11 : (0 : Int) ≤ M 11 0 ∧ M 11 0 ≤ 20 := hMI 11 0
  have hRP : Rel S (su M 31 (fun _ => 0)) := hR.sm U_31
  have hIP : Inv (su M 31 (fun _ => 0)) := hI.sm U_31
  have hMP : MB (su M 31 (fun _ => 0)) := hM.sm U_31
  unfold wrp_turn pst_turn pxx_turn at hW
  unfold qst_turn at hQ
  obtain ⟨hq, hi⟩ := hQ
  rcases hW with ⟨rfl, h⟩ | ⟨rfl, hx, hs, hc⟩
  · obtain ⟨h1, h⟩ := h
    have hK : kM_turn M x0 x1 = 0 := by unfold kM_turn; rw [cif_f (by omega)]
    have g := pub_good hq hK
    obtain ⟨hr, hT, hcT⟩ := h
    have hsT : SC S T := by rw [hT]; exact SC_ga
    have j := J_same hJ hsT hcT g.1 hi
    refine ⟨j.2, fun _ => ?_, j.1⟩
    rw [g.2, hr]
    have d0 : 0 ≤ x0 := h1.1
    have d1 : x0 < M 11 0 := by omega
    exact turn_eq hMP hRP hIP d0
  · obtain ⟨h1, e⟩ := hx
    have hK : kM_turn M x0 x1 = 1 := by unfold kM_turn; rw [cif_t (by omega)]
    have hb := pub_bad hq (by rw [hK]; decide)
    rw [hK] at hb
    have j := J_same hJ hs hc hb hi
    exact ⟨j.2, fun h9 => absurd h9 (by decide), j.1⟩
theorem step_part {S M T M' : ZS} {n k r r' x0 : Int} (hJ : JJ S M n) (hW : wrp_part S x0 k r T) (hQ : qst_part M x0 r' M') : M' 31 0 = k ∧ (k = 0 → r = r') ∧ JJ T M' (n + 1) := by
  have hJ' := hJ
  obtain ⟨hC, hMI, hR, hI, hn⟩ := hJ'
  have hM := MB.of hMI
  have nO := hR.nO
  have nP := hR.nP
  have nD := hR.nD
  have nB := hR.nB
  have b1 : (0 : Int) ≤ M 1 0 ∧ M 1 0 ≤ 6 := hMI 1 0
  have b3 : (0 : Int) ≤ M 3 0 ∧ M 3 0 ≤ 30 := hMI 3 0
  have b6 : (0 : Int) ≤ M 6 0 ∧ M 6 0 ≤ 60 := hMI 6 0
  have b11 : (0 : Int) ≤ M 11 0 ∧ M 11 0 ≤ 20 := hMI 11 0
  have hRP : Rel S (su M 31 (fun _ => 0)) := hR.sm U_31
  have hIP : Inv (su M 31 (fun _ => 0)) := hI.sm U_31
  have hMP : MB (su M 31 (fun _ => 0)) := hM.sm U_31
  have fl : 0 ≤ x0 → lateN S x0 = lateM M x0 := fun a => (late_eq hM hR hI a).1
  unfold wrp_part pst_part pxx_part at hW
  unfold qst_part at hQ
  obtain ⟨hq, hi⟩ := hQ
  rcases hW with ⟨rfl, h⟩ | ⟨rfl, hx, hs, hc⟩ | ⟨rfl, hx, hs, hc⟩
  · obtain ⟨h1, h2, h⟩ := h
    have hK : kM_part M x0 = 0 := by unfold kM_part; rw [cif_f (by omega), cif_f (by omega)]
    have hl := late_eq hM hR hI h1.1
    have hl2 := hl.2.resolve_left (by omega)
    rw [hl.1] at h
    have g := pub_good hq hK
    obtain ⟨hr, hT, hcT⟩ := h
    subst hr
    subst hT
    have q := rel_part (x0 := x0) (la := lateM M x0) hMI hR hI hl2.1 hl2.2.1
    refine ⟨by rw [g.1 31 rfl]; rfl, fun _ => by rw [g.2], J_to (SC.rf) hcT g.1 hi q.1 q.2 (show M 17 0 ≤ n + 1 by omega)⟩
  · rcases hx with ⟨h1, e⟩ | ⟨h1, h2, e⟩
    · have hK : kM_part M x0 = 1 := by unfold kM_part; rw [cif_t (by omega)]
      have hb := pub_bad hq (by rw [hK]; decide)
      rw [hK] at hb
      have j := J_same hJ hs hc hb hi
      exact ⟨j.2, fun h9 => absurd h9 (by decide), j.1⟩
    · exact absurd e (by decide)
  · rcases hx with ⟨h1, e⟩ | ⟨h1, h2, e⟩
    · exact absurd e (by decide)
    · have hK : kM_part M x0 = 2 := by unfold kM_part; rw [cif_f (by omega), cif_t (by omega)]
      have hb := pub_bad hq (by rw [hK]; decide)
      rw [hK] at hb
      have j := J_same hJ hs hc hb hi
      exact ⟨j.2, fun h9 => absurd h9 (by decide), j.1⟩
theorem step_unlink {S M T M' : ZS} {n k r r' x0 x1 : Int} (hJ : JJ S M n) (hW : wrp_unlink S x0 x1 k r T) (hQ : qst_unlink M x0 x1 r' M') : M' 31 0 = k ∧ (k = 0 → r = r') ∧ JJ T M' (n + 1) := by
  have hJ' := hJ
  obtain ⟨hC, hMI, hR, hI, hn⟩ := hJ'
  have hM := MB.of hMI
  have nO := hR.nO
  have nP := hR.nP
  have nD := hR.nD
  have nB := hR.nB
  have b1 : (0 : Int) ≤ M 1 0 ∧ M 1 0 ≤ 6 := hMI 1 0
  have b3 : (0 : Int) ≤ M 3 0 ∧ M 3 0 ≤ 30 := hMI 3 0
  have b6 : (0 : Int) ≤ M 6 0 ∧ M 6 0 ≤ 60 := hMI 6 0
  have b11 : (0 : Int) ≤ M 11 0 ∧ M 11 0 ≤ 20 := hMI 11 0
  have hRP : Rel S (su M 31 (fun _ => 0)) := hR.sm U_31
  have hIP : Inv (su M 31 (fun _ => 0)) := hI.sm U_31
  have hMP : MB (su M 31 (fun _ => 0)) := hM.sm U_31
  have f7 : 0 ≤ x1 → x1 < M 6 0 → rAt 60 (S 7) x1 = M 10 x1 := fun a b => own_at hM hR a b
  have fn : 0 ≤ x0 → ownN S x0 = ownM M x0 := fun a => own_eq hM hR a
  have f1 : 0 ≤ x1 → x1 < M 6 0 → M 10 x1 = x0 → 1 ≤ ownM M x0 := fun a b c => ownM_1 a b c
  unfold wrp_unlink pst_unlink pxx_unlink at hW
  unfold qst_unlink at hQ
  obtain ⟨hq, hi⟩ := hQ
  rcases hW with ⟨rfl, h⟩ | ⟨rfl, hx, hs, hc⟩ | ⟨rfl, hx, hs, hc⟩
  · obtain ⟨h1, h2, h3, h⟩ := h
    have hK : kM_unlink M x0 x1 = 0 := by unfold kM_unlink; rw [cif_f (by omega), cif_f (by omega)]
    have g := pub_good hq hK
    obtain ⟨hr, hT, hcT⟩ := h
    subst hr
    subst hT
    have q := rel_unlink (x0 := x0) (x1 := x1) hMI hR hI h2.1 (by omega) (by omega) (by omega)
    refine ⟨by rw [g.1 31 rfl]; rfl, fun _ => by rw [g.2]; exact own_eq (MB_U g.1 hi) q.1 h1.1, J_to (SC.rf) hcT g.1 hi q.1 q.2 (show M 17 0 ≤ n + 1 by omega)⟩
  · rcases hx with ⟨h1, e⟩ | ⟨h1, h2, e⟩ | ⟨h1, h2, h3, e⟩
    · have hK : kM_unlink M x0 x1 = 1 := by unfold kM_unlink; rw [cif_t (by omega)]
      have hb := pub_bad hq (by rw [hK]; decide)
      rw [hK] at hb
      have j := J_same hJ hs hc hb hi
      exact ⟨j.2, fun h9 => absurd h9 (by decide), j.1⟩
    · have hK : kM_unlink M x0 x1 = 1 := by unfold kM_unlink; rw [cif_t (by omega)]
      have hb := pub_bad hq (by rw [hK]; decide)
      rw [hK] at hb
      have j := J_same hJ hs hc hb hi
      exact ⟨j.2, fun h9 => absurd h9 (by decide), j.1⟩
    · exact absurd e (by decide)
  · rcases hx with ⟨h1, e⟩ | ⟨h1, h2, e⟩ | ⟨h1, h2, h3, e⟩
    · exact absurd e (by decide)
    · exact absurd e (by decide)
    · have hK : kM_unlink M x0 x1 = 2 := by unfold kM_unlink; rw [cif_f (by omega), cif_t (by omega)]
      have hb := pub_bad hq (by rw [hK]; decide)
      rw [hK] at hb
      have j := J_same hJ hs hc hb hi
      exact ⟨j.2, fun h9 => absurd h9 (by decide), j.1⟩
theorem step_link {S M T M' : ZS} {n k r r' x0 x1 : Int} (hJ : JJ S M n) (hW : wrp_link S x0 x1 k r T) (hQ : qst_link M x0 x1 r' M') : M' 31 0 = k ∧ (k = 0 → r = r') ∧ JJ T M' (n + 1) := by
  have hJ' := hJ
  obtain ⟨hC, hMI, hR, hI, hn⟩ := hJ'
  have hM := MB.of hMI
  have nO := hR.nO
  have nP := hR.nP
  have nD := hR.nD
  have nB := hR.nB
  have b1 : (0 : Int) ≤ M 1 0 ∧ M 1 0 ≤ 6 := hMI 1 0
  have b3 : (0 : Int) ≤ M 3 0 ∧ M 3 0 ≤ 30 := hMI 3 0
  have b6 : (0 : Int) ≤ M 6 0 ∧ M 6 0 ≤ 60 := hMI 6 0
  have b11 : (0 : Int) ≤ M 11 0 ∧ M 11 0 ≤ 20 := hMI 11 0
  have hRP : Rel S (su M 31 (fun _ => 0)) := hR.sm U_31
  have hIP : Inv (su M 31 (fun _ => 0)) := hI.sm U_31
  have hMP : MB (su M 31 (fun _ => 0)) := hM.sm U_31
  have ft : 0 ≤ x0 → x0 < M 11 0 → 0 ≤ x1 → x1 < M 6 0 → (takeP (findO x0 S) x0 x1 ↔ clP M x0 x1) := fun a b c d => take_iff hM hR hI a b c d
  unfold wrp_link pst_link pxx_link at hW
  unfold qst_link at hQ
  obtain ⟨hq, hi⟩ := hQ
  rcases hW with ⟨rfl, h⟩ | ⟨rfl, hx, hs, hc⟩ | ⟨rfl, hx, hs, hc⟩
  · obtain ⟨h1, h2, h3, h⟩ := h
    have hK : kM_link M x0 x1 = 0 := by unfold kM_link; rw [cif_f (by omega), cif_f (not_not_intro ((ft h1.1 (by omega) h2.1 (by omega)).mp h3))]
    have hT := (ft h1.1 (by omega) h2.1 (by omega)).mp h3
    have g := pub_good hq hK
    obtain ⟨hr, hT9, hcT⟩ := h
    subst hr
    subst hT9
    have hF : Rel (findO x0 S) M := hR.sc SC_fo
    have q := rel_link (x0 := x0) (x1 := x1) hMI hF hI h2.1 (by omega) hT.1 h1.1 (by omega)
    refine ⟨by rw [g.1 31 rfl]; rfl, fun _ => ?_, J_to SC_ga hcT g.1 hi q.1 q.2 (show M 17 0 ≤ n + 1 by omega)⟩
    rw [g.2, looks_eq (MB_U g.1 hi) q.1 q.2 h1.1]
    have e1 := laysM_has (b := x0) (M := su (su M 31 (fun _ => 0)) 10 (up ((su M 31 (fun _ => 0)) 10) x1 x0))
    have e2 := laysM_has (b := x0) (M := M')
    have e3 := laysM_has (b := x0) (M := M)
    have e4 := laysM_c (b := x0) hi
    have e5 := laysM_c (b := x0) hMI
    have e6 := lkM_sm g.1 x0
    have e7 : clT M x0 x1 19 0 = laysM x0 M 19 0 + 1 := by
      unfold clT
      rw [cif_t ⟨hT.1, hT.2.1⟩, cif_f hT.2.2.1, findM_n (by decide) (by decide)]
      rfl
    rw [e7, e1.1, ← e6, ← e2.1, e4, e5]
    have e8 : M' 6 0 = M 6 0 := by rw [g.1 6 rfl]; rfl
    have e9 : M' 10 = up (M 10) x1 x0 := by rw [g.1 10 rfl]; rfl
    have e10 : M' 12 = M 12 := by rw [g.1 12 rfl]; rfl
    rw [e8]
    have hh0 : 0 ≤ x0 := h1.1
    refine cnt_one (x := x1) (fun i a b c => ?_) (fun h9 => h9.1 hT.1) ⟨?_, ?_⟩ h2.1 (by omega)
    · unfold lookM
      rw [e9, e10, up_n _ _ c]
    · rw [e9, up_s]; omega
    · rw [e9, e10, up_s]; exact climb_s (Or.inr rfl)
  · rcases hx with ⟨h1, e⟩ | ⟨h1, h2, e⟩ | ⟨h1, h2, h3, e⟩
    · have hK : kM_link M x0 x1 = 1 := by unfold kM_link; rw [cif_t (by omega)]
      have hb := pub_bad hq (by rw [hK]; decide)
      rw [hK] at hb
      have j := J_same hJ hs hc hb hi
      exact ⟨j.2, fun h9 => absurd h9 (by decide), j.1⟩
    · have hK : kM_link M x0 x1 = 1 := by unfold kM_link; rw [cif_t (by omega)]
      have hb := pub_bad hq (by rw [hK]; decide)
      rw [hK] at hb
      have j := J_same hJ hs hc hb hi
      exact ⟨j.2, fun h9 => absurd h9 (by decide), j.1⟩
    · exact absurd e (by decide)
  · rcases hx with ⟨h1, e⟩ | ⟨h1, h2, e⟩ | ⟨h1, h2, h3, e⟩
    · exact absurd e (by decide)
    · exact absurd e (by decide)
    · have hK : kM_link M x0 x1 = 2 := by unfold kM_link; rw [cif_f (by omega), cif_t (fun h9 => h3 ((ft h1.1 (by omega) h2.1 (by omega)).mpr h9))]
      have hb := pub_bad hq (by rw [hK]; decide)
      rw [hK] at hb
      have j := J_same hJ hs hc hb hi
      exact ⟨j.2, fun h9 => absurd h9 (by decide), j.1⟩
theorem step_number {S M T M' : ZS} {n k r r' x0 : Int} (hJ : JJ S M n) (hW : wrp_number S x0 k r T) (hQ : qst_number M x0 r' M') : M' 31 0 = k ∧ (k = 0 → r = r') ∧ JJ T M' (n + 1) := by
  have hJ' := hJ
  obtain ⟨hC, hMI, hR, hI, hn⟩ := hJ'
  have hM := MB.of hMI
  have nO := hR.nO
  have nP := hR.nP
  have nD := hR.nD
  have nB := hR.nB
  have b1 : (0 : Int) ≤ M 1 0 ∧ M 1 0 ≤ 6 := hMI 1 0
  have b3 : (0 : Int) ≤ M 3 0 ∧ M 3 0 ≤ 30 := hMI 3 0
  have b6 : (0 : Int) ≤ M 6 0 ∧ M 6 0 ≤ 60 := hMI 6 0
  have b11 : (0 : Int) ≤ M 11 0 ∧ M 11 0 ≤ 20 := hMI 11 0
  have hRP : Rel S (su M 31 (fun _ => 0)) := hR.sm U_31
  have hIP : Inv (su M 31 (fun _ => 0)) := hI.sm U_31
  have hMP : MB (su M 31 (fun _ => 0)) := hM.sm U_31
  have ft : 0 ≤ x0 → x0 < M 11 0 → (numP S x0 ↔ cnP M x0) := fun a b => number_iff hM hR hI a b
  unfold wrp_number pst_number pxx_number at hW
  unfold qst_number at hQ
  obtain ⟨hq, hi⟩ := hQ
  rcases hW with ⟨rfl, h⟩ | ⟨rfl, hx, hs, hc⟩ | ⟨rfl, hx, hs, hc⟩
  · obtain ⟨h1, h2, h⟩ := h
    have hK : kM_number M x0 = 0 := by unfold kM_number; rw [cif_f (by omega), cif_f (not_not_intro ((ft h1.1 (by omega)).mp h2))]
    have hT := (ft h1.1 (by omega)).mp h2
    have g := pub_good hq hK
    obtain ⟨hr, hsT, hcT⟩ := h
    subst hr
    have hG : Rel (gatherL x0 S) M := hR.sc SC_ga
    have hy := number_key hM hG hI h1.1 (show x0 < M 11 0 by omega) hT.2.2.2.2.2
    rw [hy] at hsT
    have q := rel_number3 (x0 := x0) (y := findM (laysM x0 M) 22 0) hMI hR hI h1.1 (by omega) hT.2.1
    refine ⟨by rw [g.1 31 rfl]; rfl, fun _ => ?_, J_to hsT hcT g.1 hi q.1 q.2 (show M 17 0 ≤ n + 1 by omega)⟩
    rw [g.2, hR.nN]
  · rcases hx with ⟨h1, e⟩ | ⟨h1, h2, e⟩
    · have hK : kM_number M x0 = 1 := by unfold kM_number; rw [cif_t (by omega)]
      have hb := pub_bad hq (by rw [hK]; decide)
      rw [hK] at hb
      have j := J_same hJ hs hc hb hi
      exact ⟨j.2, fun h9 => absurd h9 (by decide), j.1⟩
    · exact absurd e (by decide)
  · rcases hx with ⟨h1, e⟩ | ⟨h1, h2, e⟩
    · exact absurd e (by decide)
    · have hK : kM_number M x0 = 2 := by unfold kM_number; rw [cif_f (by omega), cif_t (fun h9 => h2 ((ft h1.1 (by omega)).mpr h9))]
      have hb := pub_bad hq (by rw [hK]; decide)
      rw [hK] at hb
      have j := J_same hJ hs hc hb hi
      exact ⟨j.2, fun h9 => absurd h9 (by decide), j.1⟩
theorem step_join {S M T M' : ZS} {n k r r' x0 x1 : Int} (hJ : JJ S M n) (hW : wrp_join S x0 x1 k r T) (hQ : qst_join M x0 x1 r' M') : M' 31 0 = k ∧ (k = 0 → r = r') ∧ JJ T M' (n + 1) := by
  have hJ' := hJ
  obtain ⟨hC, hMI, hR, hI, hn⟩ := hJ'
  have hM := MB.of hMI
  have nO := hR.nO
  have nP := hR.nP
  have nD := hR.nD
  have nB := hR.nB
  have b1 : (0 : Int) ≤ M 1 0 ∧ M 1 0 ≤ 6 := hMI 1 0
  have b3 : (0 : Int) ≤ M 3 0 ∧ M 3 0 ≤ 30 := hMI 3 0
  have b6 : (0 : Int) ≤ M 6 0 ∧ M 6 0 ≤ 60 := hMI 6 0
  have b11 : (0 : Int) ≤ M 11 0 ∧ M 11 0 ≤ 20 := hMI 11 0
  have hRP : Rel S (su M 31 (fun _ => 0)) := hR.sm U_31
  have hIP : Inv (su M 31 (fun _ => 0)) := hI.sm U_31
  have hMP : MB (su M 31 (fun _ => 0)) := hM.sm U_31
  have ft : 0 ≤ x0 → x0 < M 11 0 → 0 ≤ x1 → x1 < M 11 0 → (joinP S x0 x1 ↔ cjP M x0 x1) := fun a b c d => join_iff hM hR hI a b c d
  unfold wrp_join pst_join pxx_join at hW
  unfold qst_join at hQ
  obtain ⟨hq, hi⟩ := hQ
  rcases hW with ⟨rfl, h⟩ | ⟨rfl, hx, hs, hc⟩ | ⟨rfl, hx, hs, hc⟩
  · obtain ⟨h1, h2, h3, h⟩ := h
    have hK : kM_join M x0 x1 = 0 := by unfold kM_join; rw [cif_f (by omega), cif_f (not_not_intro ((ft h1.1 (by omega) h2.1 (by omega)).mp h3))]
    have hT := (ft h1.1 (by omega) h2.1 (by omega)).mp h3
    obtain ⟨⟨Q, q1, q2, q3, q4⟩, hcT⟩ := h
    obtain ⟨Q', p1, p2, p3, p4⟩ := hq.2 hK
    have e18 : ∀ q : Nat, q ≤ 18 → Q' q = M q := fun q hq9 => by rw [SM.le p1 q hq9]; exact U_31 q hq9
    have hQR : Rel Q Q' := (hR.sc q1).sm e18
    have hQI : Inv Q' := hI.sm e18
    have e11 : Q' 11 0 = M 11 0 := by rw [e18 11 (by decide)]
    have e12 : Q' 12 = M 12 := e18 12 (by decide)
    have hs := strong_eq (MB.of p2) hQR hQI h1.1 (show x0 < Q' 11 0 by omega) h2.1 (show x1 < Q' 11 0 by omega)
    have er : r = r' := by rw [q3, p3, hs]
    subst er
    have hx : r = x0 ∨ r = x1 := by
      rw [q3]
      by_cases c : strongP Q x0 x1
      · rw [cif_t c]; exact Or.inl rfl
      · rw [cif_f c]; exact Or.inr rfl
    have hne := hT.1.1
    have hw : (r = x0 ∧ (if r = x0 then x1 else x0) = x1) ∨ (r = x1 ∧ (if r = x0 then x1 else x0) = x0) := by
      rcases hx with h9 | h9
      · exact Or.inl ⟨h9, if_pos h9⟩
      · exact Or.inr ⟨h9, if_neg (fun h8 => hne (by rw [← h8, h9]))⟩
    have z0 : M 12 x0 = -1 := hT.1.2.1
    have z1 : M 12 x1 = -1 := hT.1.2.2.1
    have w : 0 ≤ r ∧ r < Q' 11 0 ∧ 0 ≤ (if r = x0 then x1 else x0) ∧ (if r = x0 then x1 else x0) < Q' 11 0 ∧ r ≠ (if r = x0 then x1 else x0) ∧ Q' 12 r = -1 := by
      rcases hw with ⟨a, c⟩ | ⟨a, c⟩
      · rw [c, a, e12]
        exact ⟨h1.1, by omega, h2.1, by omega, hne, z0⟩
      · rw [c, a, e12]
        exact ⟨h2.1, by omega, h1.1, by omega, fun e => hne e.symm, z1⟩
    have q := rel_join3 (x0 := x0) (x1 := x1) (j9 := if r = x0 then x1 else x0) p2 hQR hQI w.1 w.2.1 w.2.2.1 w.2.2.2.1 w.2.2.2.2.1 w.2.2.2.2.2
    have e17 : Q' 17 0 = M 17 0 := by rw [e18 17 (by decide)]
    refine ⟨?_, fun _ => rfl, J_to q4 hcT p4 hi q.1 q.2 (show Q' 17 0 + 1 ≤ n + 1 by omega)⟩
    rw [p4 31 rfl]
    show Q' 31 0 = 0
    rw [p1 31 rfl, su_s]
  · rcases hx with ⟨h1, e⟩ | ⟨h1, h2, e⟩ | ⟨h1, h2, h3, e⟩
    · have hK : kM_join M x0 x1 = 1 := by unfold kM_join; rw [cif_t (by omega)]
      have hb := hq.1 (by rw [hK]; decide)
      rw [hK] at hb
      have j := J_same hJ hs hc hb hi
      exact ⟨j.2, fun h9 => absurd h9 (by decide), j.1⟩
    · have hK : kM_join M x0 x1 = 1 := by unfold kM_join; rw [cif_t (by omega)]
      have hb := hq.1 (by rw [hK]; decide)
      rw [hK] at hb
      have j := J_same hJ hs hc hb hi
      exact ⟨j.2, fun h9 => absurd h9 (by decide), j.1⟩
    · exact absurd e (by decide)
  · rcases hx with ⟨h1, e⟩ | ⟨h1, h2, e⟩ | ⟨h1, h2, h3, e⟩
    · exact absurd e (by decide)
    · exact absurd e (by decide)
    · have hK : kM_join M x0 x1 = 2 := by unfold kM_join; rw [cif_f (by omega), cif_t (fun h9 => h3 ((ft h1.1 (by omega) h2.1 (by omega)).mpr h9))]
      have hb := hq.1 (by rw [hK]; decide)
      rw [hK] at hb
      have j := J_same hJ hs hc hb hi
      exact ⟨j.2, fun h9 => absurd h9 (by decide), j.1⟩
