/-! a desk and the arrays of a script, made -/
def cW (cI : ClassId) (q0 : Nat) (u0 : Nat → Nat) : va_W := [(q0, .inr (7, [.ref (u0 0), .ref (u0 15), .ref (u0 26), .ref (u0 29), .ref (u0 36), .ref (u0 43)])), ((u0 0), .inr (6, [.ref (u0 1), .ref (u0 3), .ref (u0 5), .ref (u0 7), .ref (u0 9), .ref (u0 11), .ref (u0 13), .int (zi 0), .int (zi 0), .int (zi 0)])), ((u0 1), .inr (5, [.ref (u0 2)])), ((u0 2), .inl (cI, 6, .inl (zf (fun _ => 0)))), ((u0 3), .inr (5, [.ref (u0 4)])), ((u0 4), .inl (cI, 30, .inl (zf (fun _ => 0)))), ((u0 5), .inr (5, [.ref (u0 6)])), ((u0 6), .inl (cI, 30, .inl (zf (fun _ => 0)))), ((u0 7), .inr (5, [.ref (u0 8)])), ((u0 8), .inl (cI, 60, .inl (zf (fun _ => 0)))), ((u0 9), .inr (5, [.ref (u0 10)])), ((u0 10), .inl (cI, 60, .inl (zf (fun _ => 0)))), ((u0 11), .inr (5, [.ref (u0 12)])), ((u0 12), .inl (cI, 60, .inl (zf (fun _ => 0)))), ((u0 13), .inr (5, [.ref (u0 14)])), ((u0 14), .inl (cI, 9, .inl (zf (fun _ => 0)))), ((u0 15), .inr (0, [.ref (u0 16), .ref (u0 18), .ref (u0 20), .ref (u0 22), .ref (u0 24), .int (zi 0), .int (zi 0), .int (zi 0)])), ((u0 16), .inr (5, [.ref (u0 17)])), ((u0 17), .inl (cI, 60, .inl (zf (rFill 60 (fun _ => 0) (-1))))), ((u0 18), .inr (5, [.ref (u0 19)])), ((u0 19), .inl (cI, 20, .inl (zf (rFill 20 (fun _ => 0) (-1))))), ((u0 20), .inr (5, [.ref (u0 21)])), ((u0 21), .inl (cI, 20, .inl (zf (fun _ => 0)))), ((u0 22), .inr (5, [.ref (u0 23)])), ((u0 23), .inl (cI, 20, .inl (zf (rFill 20 (fun _ => 0) (-1))))), ((u0 24), .inr (5, [.ref (u0 25)])), ((u0 25), .inl (cI, 20, .inl (zf (fun _ => 0)))), ((u0 26), .inr (2, [.ref (u0 27), .int (zi 0)])), ((u0 27), .inr (5, [.ref (u0 28)])), ((u0 28), .inl (cI, 60, .inl (zf (fun _ => 0)))), ((u0 29), .inr (3, [.ref (u0 30), .ref (u0 32), .ref (u0 34)])), ((u0 30), .inr (5, [.ref (u0 31)])), ((u0 31), .inl (cI, 405, .inl (zf (fun _ => 0)))), ((u0 32), .inr (5, [.ref (u0 33)])), ((u0 33), .inl (cI, 405, .inl (zf (fun _ => 0)))), ((u0 34), .inr (5, [.ref (u0 35)])), ((u0 35), .inl (cI, 3600, .inl (zf (fun _ => 0)))), ((u0 36), .inr (4, [.ref (u0 37), .ref (u0 39), .ref (u0 41), .int (zi 0), .int (zi 0)])), ((u0 37), .inr (5, [.ref (u0 38)])), ((u0 38), .inl (cI, 3600, .inl (zf (fun _ => 0)))), ((u0 39), .inr (5, [.ref (u0 40)])), ((u0 40), .inl (cI, 405, .inl (zf (fun _ => 0)))), ((u0 41), .inr (5, [.ref (u0 42)])), ((u0 42), .inl (cI, 3600, .inl (zf (fun _ => 0)))), ((u0 43), .inr (1, [.ref (u0 44)])), ((u0 44), .inr (5, [.ref (u0 45)])), ((u0 45), .inl (cI, 20, .inl (zf (fun _ => 0))))]
def ar3 (cI : ClassId) (a : Nat) (n : Nat) : Nat × va_E := (a, .inl (cI, n, .inl (zf (fun _ => 0))))
set_option maxHeartbeats 4000000 in
set_option maxRecDepth 100000 in
theorem desk_split {A : Nat → Prop} {D : va_G} {cI : ClassId} {H : Heap} {q0 qd qp qz qu qc qe : Nat} {u0 : Nat → Nat} (hP : va_P D vwCl ((((((cW cI q0 u0 ++ [ar3 cI qd 60]) ++ [ar3 cI qp 30]) ++ [ar3 cI qz 9]) ++ [ar3 cI qu 64]) ++ [ar3 cI qc 6]) ++ [ar3 cI qe 3]) H) (hD : va_D A ((((((cW cI q0 u0 ++ [ar3 cI qd 60]) ++ [ar3 cI qp 30]) ++ [ar3 cI qz 9]) ++ [ar3 cI qu 64]) ++ [ar3 cI qc 6]) ++ [ar3 cI qe 3])) : ∃ ad ld : Nat → Nat, (ad 0 = q0 ∧ ld 0 = qd ∧ ld 1 = qp ∧ ld 2 = qz ∧ ld 3 = qu ∧ ld 4 = qc) ∧ bDis ad ld ∧ (∀ q, bA ad ld q → A q) ∧ A qe ∧ ¬ bA ad ld qe ∧ va_P D vwCl (dW cI ad S00) H ∧ va_P D vwCl (lW cI ld (fun _ _ => 0)) H ∧ va_P D vwCl [(qe, .inl (cI, 3, .inl (zf (fun _ => 0))))] H := by
  obtain ⟨ad, hade⟩ : ∃ ad : Nat → Nat, ad = fun k => ([q0, u0 0, u0 15, u0 26, u0 29, u0 36, u0 43, u0 1, u0 3, u0 5, u0 7, u0 9, u0 11, u0 13, u0 16, u0 18, u0 20, u0 22, u0 24, u0 27, u0 30, u0 32, u0 34, u0 37, u0 39, u0 41, u0 44, u0 2, u0 4, u0 6, u0 8, u0 10, u0 12, u0 14, u0 17, u0 19, u0 21, u0 23, u0 25, u0 28, u0 31, u0 33, u0 35, u0 38, u0 40, u0 42, u0 45] : List Nat).getD k 0 := ⟨_, rfl⟩
  obtain ⟨ld, hlde⟩ : ∃ ld : Nat → Nat, ld = fun k => ([qd, qp, qz, qu, qc] : List Nat).getD k 0 := ⟨_, rfl⟩
  have hP3 : va_P D vwCl ((dW cI ad S00 ++ lW cI ld (fun _ _ => 0)) ++ [(qe, .inl (cI, 3, .inl (zf (fun _ => 0))))]) H := by
    subst hade hlde
    exact hP.sub [0, 1, 16, 27, 30, 37, 44, 2, 4, 6, 8, 10, 12, 14, 17, 19, 21, 23, 25, 28, 31, 33, 35, 38, 40, 42, 45, 3, 5, 7, 9, 11, 13, 15, 18, 20, 22, 24, 26, 29, 32, 34, 36, 39, 41, 43, 46, 47, 48, 49, 50, 51, 52] rfl
  have hD3 : va_D A ((dW cI ad S00 ++ lW cI ld (fun _ _ => 0)) ++ [(qe, .inl (cI, 3, .inl (zf (fun _ => 0))))]) := by
    subst hade hlde
    exact hD.sub [0, 1, 16, 27, 30, 37, 44, 2, 4, 6, 8, 10, 12, 14, 17, 19, 21, 23, 25, 28, 31, 33, 35, 38, 40, 42, 45, 3, 5, 7, 9, 11, 13, 15, 18, 20, 22, 24, 26, 29, 32, 34, 36, 39, 41, 43, 46, 47, 48, 49, 50, 51, 52] (by decide) rfl
  have hw : ((dW cI ad S00 ++ lW cI ld (fun _ _ => 0)) ++ [(qe, .inl (cI, 3, .inl (zf (fun _ => 0))))] : va_W).map Prod.fst = (List.range 47).map ad ++ ((List.range 5).map ld ++ [qe]) := rfl
  have hq0 : ad 0 = q0 ∧ ld 0 = qd ∧ ld 1 = qp ∧ ld 2 = qz ∧ ld 3 = qu ∧ ld 4 = qc := by
    subst hade hlde
    exact ⟨rfl, rfl, rfl, rfl, rfl, rfl⟩
  clear hade hlde
  generalize hws : ((dW cI ad S00 ++ lW cI ld (fun _ _ => 0)) ++ [(qe, .inl (cI, 3, .inl (zf (fun _ => 0))))] : va_W) = ws at hw hD3 hP3
  have key : ∀ (k a : Nat), ((List.range 47).map ad ++ ((List.range 5).map ld ++ [qe]))[k]? = some a → ∃ x, ws[k]? = some (a, x) := fun k a h => by
    rw [← hw, List.getElem?_map] at h
    obtain ⟨q, hq, e2⟩ := Option.map_eq_some_iff.mp h
    exact ⟨q.2, by rw [hq, ← e2]⟩
  have kd : ∀ i, i < 47 → ∃ x, ws[i]? = some (ad i, x) := fun i hi => key i _ (by
    rw [List.getElem?_append_left (by rw [List.length_map, List.length_range]; exact hi), List.getElem?_map, List.getElem?_range hi]; rfl)
  have kl : ∀ j, j < 5 → ∃ x, ws[47 + j]? = some (ld j, x) := fun j hj => key _ _ (by
    rw [List.getElem?_append_right (by rw [List.length_map, List.length_range]; omega), List.length_map, List.length_range, Nat.add_sub_cancel_left, List.getElem?_append_left (by rw [List.length_map, List.length_range]; exact hj), List.getElem?_map, List.getElem?_range hj]; rfl)
  obtain ⟨xe, ke⟩ : ∃ x, ws[52]? = some (qe, x) := key 52 qe (by
    rw [List.getElem?_append_right (by rw [List.length_map, List.length_range]; omega), List.length_map, List.length_range]
    rfl)
  refine ⟨ad, ld, hq0, ⟨fun i j hi hj h => ?_, fun i j hi hj h => ?_, fun i j hi hj h => ?_⟩, ?_, hD3.2 _ _ ke, ?_, ?_⟩
  · obtain ⟨x, hx⟩ := kd i hi
    obtain ⟨y, hy⟩ := kd j hj
    exact hD3.1 i j _ _ hx hy h
  · obtain ⟨x, hx⟩ := kl i hi
    obtain ⟨y, hy⟩ := kl j hj
    have := hD3.1 _ _ _ _ hx hy h
    omega
  · obtain ⟨x, hx⟩ := kd i hi
    obtain ⟨y, hy⟩ := kl j hj
    have := hD3.1 _ _ _ _ hx hy h
    omega
  · rintro q (⟨k, hk, rfl⟩ | ⟨k, hk, rfl⟩)
    · obtain ⟨x, hx⟩ := kd k hk
      exact hD3.2 _ _ hx
    · obtain ⟨x, hx⟩ := kl k hk
      exact hD3.2 _ _ hx
  · rintro (⟨k, hk, h⟩ | ⟨k, hk, h⟩)
    · obtain ⟨x, hx⟩ := kd k hk
      have := hD3.1 _ _ _ _ ke hx h
      omega
    · obtain ⟨x, hx⟩ := kl k hk
      have := hD3.1 _ _ _ _ ke hx h
      omega
  · rw [← hws] at hP3
    exact ⟨vP_fst (vP_fst hP3), vP_snd (vP_fst hP3), vP_snd hP3⟩
section LDESK
variable {p : Program} {l : Launch} {e : Env} {R : Room} {s : State} {m : MethodId} {args : Array Value} {below : List Frame} {meth : Method} {c : Code} {H H0 : Heap} {locs : List Loc} {cells slots : Nat} {Q : State → Prop} {cc : ByteArray} {pc : Nat} {ls : Array Slot} {rest st0 : List Value}
variable {D : va_G} {cI cZ cJ : ClassId} {sa ad ld : Nat → Nat} {S L : ZS} {A : Nat → Prop}
theorem eW_D {qe : Nat} {e9 : Int → Int} (hdis : bDis ad ld) (hA : ∀ q, bA ad ld q → A q) (hqA : A qe) (hqe : ¬ bA ad ld qe) : va_D A ((dW cI ad S ++ lW cI ld L) ++ [(qe, .inl (cI, 3, .inl (zf e9)))]) := by
  have h := bW_D (cI := cI) hdis S L
  refine va_D.app (h.weaken (fun _ q _ hq => hA q.1 hq)) ⟨fun i j p q hp hq _ => ?_, fun k q hk => ?_⟩ (fun i j p q hp hq h9 => ?_)
  · have h1 := (List.getElem?_eq_some_iff.mp hp).1
    have h2 := (List.getElem?_eq_some_iff.mp hq).1
    rw [List.length_singleton] at h1 h2
    omega
  · rw [List.mem_singleton.mp (List.mem_of_getElem? hk)]
    exact hqA
  · rw [List.mem_singleton.mp (List.mem_of_getElem? hq)] at h9
    exact hqe (by have h8 : p.1 = qe := h9; rw [← h8]; exact h.2 i p hp)
/-- a write into the errors -/
theorem ze_iast {qe : Nat} {e9 : Int → Int} (hexec : p.tables.exec = Jvm.exec) (hb : c.code = cc) (hK : KK D cI cZ cJ s) (hdis : bDis ad ld) (hA : ∀ q, bA ad ld q → A q) (hqA : A qe) (hqe : ¬ bA ad ld qe) (hP : va_P D vwCl (dW cI ad S) H) (hL : va_P D vwCl (lW cI ld L) H) (hE : va_P D vwCl [(qe, .inl (cI, 3, .inl (zf e9)))] H) (hS : va_S A H0 H locs) {x v : Int} (h0 : 0 ≤ x) (h1 : x < 3) (hdg : decode cc pc = .ok (.iastore, 1)) (kk : ∀ (H1 : Heap) (locs1 : List Loc), va_P D vwCl (dW cI ad S) H1 → va_P D vwCl (lW cI ld L) H1 → va_P D vwCl [(qe, .inl (cI, 3, .inl (zf (up e9 x v))))] H1 → va_S A H0 H1 locs1 → W p l e R s m args below meth c H1 locs1 cells slots Q (F0 m (pc + 1) ls rest)) : W p l e R s m args below meth c H locs cells slots Q (F0 m pc ls (.int (zi v) :: .int (zi x) :: .ref qe :: rest)) := by
  refine zi_iast hexec hb hK.1 (vP_app (vP_app hP hL) hE) (eW_D hdis hA hqA hqe) hS 52 0 rfl rfl h0 h1 (by decide) hdg (fun H1 locs1 k1 k3 => ?_)
  have k1 : va_P D vwCl ((dW cI ad S ++ lW cI ld L) ++ [(qe, .inl (cI, 3, .inl (zf (up e9 x v))))]) H1 := k1
  exact kk H1 locs1 (vP_fst (vP_fst k1)) (vP_snd (vP_fst k1)) (vP_snd k1) k3
theorem zr_NZ {P : Int → Prop} {x : Int} {mc ms : Nat} (hx : p.tables.exec = Jvm.exec) (hb : c.code = cc) (hr : meth.sig.returnType = some .boolean) (hlocks : meth.locks = false) (hdg : decode cc pc = .ok (.ireturn, 1)) (h01 : x = 0 ∨ x = 1) (hS : va_S (fun q => s.heap.size ≤ q) s.heap H locs) (hm : cells ≤ mc ∧ slots ≤ ms) (hp : P x) : W p l e R s m args below meth c H locs cells slots (MQ below (zNi P) args s mc ms (fun _ => False)) (F0 m pc ls [.int (zi x)]) :=
  fun T9 hT X => (va_forget hS.2.2 (W.zret hx hb hr (by rcases h01 with rfl | rfl <;> decide) (fun t ht _ => ⟨⟨zi x, x, rfl, ⟨rfl, hp⟩, trivial⟩, by rw [ht]; exact hS.1, fun q h1 _ => by rw [ht]; exact hS.2.1 q h1 (Nat.not_le.mpr h1)⟩) (fun q h => absurd h List.not_mem_nil) hdg hlocks) : W p l e R s m args below meth c H locs mc ms (MQ below (zNi P) args s mc ms (fun _ => False)) (F0 m pc ls [.int (zi x)])) T9 hT (stand_widen X hm.1 hm.2)
theorem pX_S {b n : Nat} {xs : Nat → Int32} {As : List Value} (hX : va_X b n xs s s.heap) (hbl : b < s.heap.size) (hS : va_S (fun q => s.heap.size ≤ q) s.heap H locs) : PreS s H (va_Pc As (fun U => va_X b n xs U U.heap ∧ b < U.heap.size)) As :=
  ⟨fun a U g mk h => ⟨h.1, va_X.moved (u := U) (U := U.calling g mk a) (Vm.Alike.refl U.vm) h.2.1, h.2.2⟩, fun U hU hW => ⟨rfl, by rw [hU]; exact (hX.kept (hS.2.1 b hbl (Nat.not_le.mpr hbl))).moved hW.alike, by rw [hU]; exact Nat.lt_of_lt_of_le hbl hS.1⟩⟩
end LDESK
