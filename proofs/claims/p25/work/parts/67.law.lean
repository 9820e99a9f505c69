/-! the law's own arrays (d, p, z, u, c: rows 0 to 4 of L), the numbers M that they tell, and the calls of law methods -/
def lW (cI : ClassId) (a : Nat → Nat) (L : ZS) : va_W := [(a 0, .inl (cI, 60, .inl (zf (L 0)))), (a 1, .inl (cI, 30, .inl (zf (L 1)))), (a 2, .inl (cI, 9, .inl (zf (L 2)))), (a 3, .inl (cI, 64, .inl (zf (L 3)))), (a 4, .inl (cI, 6, .inl (zf (L 4))))]
def lA (a : Nat → Nat) : Nat → Prop := fun q => ∃ k : Nat, k < 5 ∧ q = a k
def lDis (a : Nat → Nat) : Prop := ∀ i j : Nat, i < 5 → j < 5 → a i = a j → i = j
def bA (ad ld : Nat → Nat) : Nat → Prop := fun q => dA ad q ∨ lA ld q
def bDis (ad ld : Nat → Nat) : Prop := dDis ad ∧ lDis ld ∧ ∀ i j : Nat, i < 47 → j < 5 → ad i ≠ ld j
theorem lAd_nd : ∀ i j x : Nat, (List.range 5)[i]? = some x → (List.range 5)[j]? = some x → i = j := by
  intro i j x hi hj
  obtain ⟨h1, h2⟩ := List.getElem?_eq_some_iff.mp hi
  obtain ⟨h3, h4⟩ := List.getElem?_eq_some_iff.mp hj
  rw [List.getElem_range] at h2 h4
  omega
theorem lW_D {cI : ClassId} {a : Nat → Nat} (ha : lDis a) (L : ZS) : va_D (lA a) (lW cI a L) := va_D_of (ad := List.range 5) (f := a) rfl lAd_nd (fun x y hx hy h => ha x y (List.mem_range.mp hx) (List.mem_range.mp hy) h) (fun x hx => ⟨x, List.mem_range.mp hx, rfl⟩)
theorem va_D.up9 {A B : Nat → Prop} {ws : va_W} (h : va_D A ws) (hAB : ∀ q, A q → B q) : va_D B ws := ⟨h.1, fun k q hk => hAB _ (h.2 k q hk)⟩
theorem lW_Db {cI : ClassId} {ad ld : Nat → Nat} (h : bDis ad ld) (L : ZS) : va_D (bA ad ld) (lW cI ld L) := (lW_D h.2.1 L).up9 (fun _ h => Or.inr h)
theorem dW_Db {cI : ClassId} {ad ld : Nat → Nat} (h : bDis ad ld) (S : ZS) : va_D (bA ad ld) (dW cI ad S) := (dW_D h.1 S).up9 (fun _ h => Or.inl h)
theorem lW_nd {cI : ClassId} {ad ld : Nat → Nat} (h : bDis ad ld) {L : ZS} {k : Nat} {q : Nat × va_E} (hq : (lW cI ld L)[k]? = some q) : ¬ dA ad q.1 := by
  obtain ⟨j, hj, e⟩ := (lW_D h.2.1 L).2 k q hq
  rintro ⟨i, hi, e2⟩
  exact h.2.2 i j hi hj (e2.symm.trans e)
theorem dW_nl {cI : ClassId} {ad ld : Nat → Nat} (h : bDis ad ld) {S : ZS} {k : Nat} {q : Nat × va_E} (hq : (dW cI ad S)[k]? = some q) : ¬ lA ld q.1 := by
  obtain ⟨i, hi, e⟩ := (dW_D h.1 S).2 k q hq
  rintro ⟨j, hj, e2⟩
  exact h.2.2 i j hi hj (e.symm.trans e2)
/-- what the catches of the law need of the state -/
def xQ (U : State) : Prop := (Cond.castable xIOB xIOB).before #[] U = true ∧ (Cond.castable xISE xISE).before #[] U = true ∧ va_Nc xISE xIOB U
theorem xQ_w1 : (Cond.castable xIOB xIOB).warmB (Cond.castable xIOB xIOB).codeNames = true := by decide +kernel
theorem xQ_w2 : (Cond.castable xISE xISE).warmB (Cond.castable xISE xISE).codeNames = true := by decide +kernel
theorem xQ_o1 : (Cond.castable xIOB xIOB).onTables = true := by decide +kernel
theorem xQ_o2 : (Cond.castable xISE xISE).onTables = true := by decide +kernel
theorem xQ.warm {s U : State} (hW : s.WarmedH U.vm) (h : xQ s) : xQ U := ⟨va_tabs (u := s.setVm U.vm) xQ_o1 rfl (Cond.pre_warmed hW xQ_w1 h.1), va_tabs (u := s.setVm U.vm) xQ_o2 rfl (Cond.pre_warmed hW xQ_w2 h.2.1), va_Nc.moved hW.alike h.2.2⟩
theorem xQ.same {u U : State} (hv : u.vm = U.vm) (h : xQ u) : xQ U := ⟨va_tabs xQ_o1 hv h.1, va_tabs xQ_o2 hv h.2.1, va_Nc.moved (by rw [hv]; exact Vm.Alike.refl U.vm) h.2.2⟩
theorem xP.narrow {sa : Nat → Nat} {A B : Nat → Prop} {U : State} {H : Heap} (h : xP sa A U H) (hAB : ∀ q, B q → A q) : xP sa B U H := ⟨h.1.narrow hAB, h.2.1.narrow hAB, h.2.2⟩
theorem xP.same {sa : Nat → Nat} {A : Nat → Prop} {u U : State} {H : Heap} (hv : u.vm = U.vm) (h : xP sa A u H) : xP sa A U H := ⟨h.1.moved (by rw [hv]; exact Vm.Alike.refl U.vm), h.2.1.moved (by rw [hv]; exact Vm.Alike.refl U.vm), fun k q hk => vk_R.same hv.symm (h.2.2.1 k q hk), fun w hw => va_tabs (xB_o w hw) hv (h.2.2.2 w hw)⟩
/-- the start of a law method that has the desk -/
def zPb (D : va_G) (cI cZ cJ : ClassId) (sa ad ld : Nat → Nat) (S L : ZS) (av : List Value) : Array Value → State → Prop := va_Pc av (fun U => va_P D vwCl (dW cI ad S) U.heap ∧ va_P D vwCl (lW cI ld L) U.heap ∧ KK D cI cZ cJ U ∧ xP sa (bA ad ld) U U.heap ∧ xQ U)
theorem zPb_blind {D : va_G} {cI cZ cJ : ClassId} {sa ad ld : Nat → Nat} {S L : ZS} {av : List Value} : FrameBlind (zPb D cI cZ cJ sa ad ld S L av) := fun a U g mk h => ⟨h.1, h.2.1, h.2.2.1, KK.same (u := U) (U := U.calling g mk a) rfl h.2.2.2.1, xP.same (u := U) (U := U.calling g mk a) rfl h.2.2.2.2.1, xQ.same (u := U) (U := U.calling g mk a) rfl h.2.2.2.2.2⟩
/-- its end: an int, the desk's new numbers, the arrays' -/
def zWb (D : va_G) (cI : ClassId) (ad ld : Nat → Nat) (post : Int → ZS → ZS → Prop) : Array Value → State → Outcome → State → Prop := va_Qi (S := Int × ZS × ZS) (fun r u => r = zi u.1 ∧ post u.1 u.2.1 u.2.2) (fun u t => va_P D vwCl (dW cI ad u.2.1) t.heap ∧ va_P D vwCl (lW cI ld u.2.2) t.heap) (bA ad ld)
/-- an int answer, new cells, nothing old changed -/
def zNi (P : Int → Prop) : Array Value → State → Outcome → State → Prop := va_Qi (S := Int) (fun r u => r = zi u ∧ P u) (fun _ _ => True) (fun _ => False)
section LCALL
variable {p : Program} {l : Launch} {e : Env} {R : Room} {s : State} {m : MethodId} {args : Array Value} {below : List Frame} {meth : Method} {c : Code} {H H0 : Heap} {locs : List Loc} {cells slots : Nat} {Q : State → Prop} {cc : ByteArray} {pc : Nat} {ls : Array Slot} {rest st0 : List Value}
variable {D : va_G} {cI cZ cJ : ClassId} {As : List Value} {y : MethodName} {ws Ts : List Cond} {rm : Room} {A0 : Addr → Prop} {bytes : ByteArray} {maxL nL n index : Nat} {ret : Option FieldType} {own : String} {sa ad ld : Nat → Nat} {mc ms : Nat} {S0 L0 : ZS}
/-- a static law method, called -/
theorem lc_S {post : Int → ZS → ZS → Prop} (S : CallFix p m c cc nL s args Ts own) (hM : Met l y ws rm (zPb D cI cZ cJ sa ad ld S0 L0 As) (zWb D cI ad ld post) mc ms (bA ad ld)) (cw : CallB R s args own index y bytes maxL ret ws rm mc ms n ∧ (Cond.static y).before args s = true) (hK : KK D cI cZ cJ s) (hX : xP sa A0 s s.heap) (hQ : xQ s) (hA : ∀ q, bA ad ld q → A0 q) (hS : va_S A0 s.heap H locs) (hP : va_P D vwCl (dW cI ad S0) H) (hL : va_P D vwCl (lW cI ld L0) H) (hn : As.length = n) (hsize : ls.size = nL) (hst : st0 = As.reverse ++ rest) (hW : (rest.map fun v => v.category).sum ≤ 8) (hdg : decode cc pc = .ok (.invokestatic index, 3)) (hf : cells + mc ≤ R.cells ∧ slots + ms ≤ R.slots)
    (kk : ∀ (r : Int) (S1 L1 : ZS) (H1 : Heap) (locs1 : List Loc), post r S1 L1 → H.size ≤ H1.size → (∀ q : Nat, q < H.size → ¬ bA ad ld q → H1[q]? = H[q]?) → va_P D vwCl (dW cI ad S1) H1 → va_P D vwCl (lW cI ld L1) H1 → va_S A0 s.heap H1 locs1 → W p l e R s m args below meth c H1 locs1 (cells + mc) (slots + ms) Q (F0 m (pc + 3) ls (.int (zi r) :: rest))) : W p l e R s m args below meth c H locs cells slots Q (F0 m pc ls st0) :=
  va_calli (va_runS (As := As) (rest := rest) S hM cw ⟨zPb_blind, fun U hU hW => ⟨rfl, by rw [hU]; exact hP, by rw [hU]; exact hL, hK.warm hW, (hX.warm hW hS hU).narrow hA, hQ.warm hW⟩⟩ rfl hn hsize hst (lv_room hW) hdg hf) hS (fun q _ h => hA q h) hA
    (fun r u t H1 locs1 ht _ hp hB hz hk hS1 => by rw [hp.1]; exact kk u.1 u.2.1 u.2.2 H1 locs1 hp.2 hz hk (by rw [← ht]; exact hB.1) (by rw [← ht]; exact hB.2) hS1)
/-- a method that makes cells and changes nothing old, called: over a world of its own -/
theorem lc_N {P : Int → Prop} {Pc : Array Value → State → Prop} (S : CallFix p m c cc nL s args Ts own) (hM : Met l y ws rm Pc (zNi P) mc ms (fun _ => False)) (cw : CallB R s args own index y bytes maxL ret ws rm mc ms n ∧ (Cond.static y).before args s = true) (hp : PreS s H Pc As) (hS : va_S A0 s.heap H locs) (hn : As.length = n) (hsize : ls.size = nL) (hst : st0 = As.reverse ++ rest) (hW : (rest.map fun v => v.category).sum ≤ 8) (hdg : decode cc pc = .ok (.invokestatic index, 3)) (hf : cells + mc ≤ R.cells ∧ slots + ms ≤ R.slots)
    (kk : ∀ (r : Int) (H1 : Heap) (locs1 : List Loc), P r → H.size ≤ H1.size → (∀ q : Nat, q < H.size → H1[q]? = H[q]?) → va_S A0 s.heap H1 locs1 → W p l e R s m args below meth c H1 locs1 (cells + mc) (slots + ms) Q (F0 m (pc + 3) ls (.int (zi r) :: rest))) : W p l e R s m args below meth c H locs cells slots Q (F0 m pc ls st0) :=
  va_calli (va_runS (As := As) (rest := rest) S hM cw hp rfl hn hsize hst (lv_room hW) hdg hf) hS (fun _ _ h => h.elim) (fun _ h => h.elim)
    (fun r u t H1 locs1 _ _ hp _ hz hk hS1 => by rw [hp.1]; exact kk u H1 locs1 hp.2 hz (fun q h => hk q h id) hS1)
/-- a public method of the desk, called where it can't throw -/
theorem lc_pub {C : String} {post : Int → ZS → Prop} {px : String → ZS → Prop} (S : CallFix p m c cc nL s args Ts own) (hM : vx_Met l y ws rm (va_Pc (.ref (ad 0) :: As) (fun U => va_P D vwCl (dW cI ad S0) U.heap ∧ KK D cI cZ cJ U ∧ xP sa (dA ad) U U.heap)) (zWi D (dW cI ad) (dA ad) post) (xX D cI ad px) mc ms (dA ad)) (cw : CallW R s args own C index y bytes maxL ret ws rm mc ms n) (hC : C = RX7) (hK : KK D cI cZ cJ s) (hX : xP sa A0 s s.heap) (hdis : bDis ad ld) (hA : ∀ q, bA ad ld q → A0 q) (hS : va_S A0 s.heap H locs) (hP : va_P D vwCl (dW cI ad S0) H) (hL : va_P D vwCl (lW cI ld L0) H) (hno : ∀ E T, ¬ px E T) (hn : As.length = n) (hsize : ls.size = nL) (hst : st0 = As.reverse ++ .ref (ad 0) :: rest) (hW : (rest.map fun v => v.category).sum ≤ 8) (hdg : decode cc pc = .ok (.invokevirtual index, 3)) (hf : cells + mc ≤ R.cells ∧ slots + ms ≤ R.slots)
    (kk : ∀ (r : Int) (T : ZS) (H1 : Heap) (locs1 : List Loc), post r T → H.size ≤ H1.size → (∀ q : Nat, q < H.size → ¬ dA ad q → H1[q]? = H[q]?) → va_P D vwCl (dW cI ad T) H1 → va_P D vwCl (lW cI ld L0) H1 → va_S A0 s.heap H1 locs1 → W p l e R s m args below meth c H1 locs1 (cells + mc) (slots + ms) Q (F0 m (pc + 3) ls (.int (zi r) :: rest))) : W p l e R s m args below meth c H locs cells slots Q (F0 m pc ls st0) := by
  subst hC
  obtain ⟨cell, h1, h2, h3⟩ := va_recv (ci := 7) (q0 := 0) hK.1 hP rfl rfl
  exact vx_calli (A0 := A0) (H0 := s.heap) (vx_runV (As := As) (rest := rest) S hM cw ⟨fun a U g mk h => ⟨h.1, h.2.1, KK.same (u := U) (U := U.calling g mk a) rfl h.2.2.1, xP.same (u := U) (U := U.calling g mk a) rfl h.2.2.2⟩, ⟨cell, h1, h2, h3⟩, fun U hU hW => ⟨rfl, by rw [hU]; exact hP, hK.warm hW, (hX.warm hW hS hU).narrow (fun q h => hA q (Or.inl h))⟩⟩ rfl hn hsize hst (lv_room hW) hdg hf) hS (fun q _ h => hA q (Or.inl h)) (fun q h => hA q (Or.inl h)) (fun q _ h => hA q (Or.inl h))
    (fun E ce q9 u t H1 locs1 ht _ hno9 hE _ hk hS1 hce hcv hcl => absurd hno9 (hno _ _))
    (fun r u t H1 locs1 ht _ hp hB hz hk hS1 => by rw [hp.1]; exact kk u.1 u.2 H1 locs1 hp.2 hz hk (by rw [← ht]; exact hB) (hL.kept (fun k q hq => hk q.1 (vx_lt hL hq) (lW_nd hdis hq))) hS1)
end LCALL
theorem wold {D : va_G} {ws : va_W} {H0 H : Heap} {locs : List Loc} (hL : va_P D vwCl ws H0) (hS : va_S (fun q => H0.size ≤ q) H0 H locs) : va_P D vwCl ws H := hL.kept (fun _ q hq => hS.2.1 q.1 (vx_lt hL hq) (Nat.not_le.mpr (vx_lt hL hq)))
theorem zr_N {p : Program} {l : Launch} {e : Env} {R : Room} {s : State} {m : MethodId} {args : Array Value} {below : List Frame} {meth : Method} {c : Code} {H : Heap} {locs : List Loc} {cells slots : Nat} {cc : ByteArray} {pc : Nat} {ls : Array Slot} {P : Int → Prop} {x : Int} (hx : p.tables.exec = Jvm.exec) (hb : c.code = cc) (hr : meth.sig.returnType = some .int) (hlocks : meth.locks = false) (hdg : decode cc pc = .ok (.ireturn, 1)) (hS : va_S (fun q => s.heap.size ≤ q) s.heap H locs) (hp : P x) : W p l e R s m args below meth c H locs cells slots (MQ below (zNi P) args s cells slots (fun _ => False)) (F0 m pc ls [.int (zi x)]) :=
  va_forget hS.2.2 (W.iret hx hb hr (fun t ht _ => ⟨⟨zi x, x, rfl, ⟨rfl, hp⟩, trivial⟩, by rw [ht]; exact hS.1, fun q h1 _ => by rw [ht]; exact hS.2.1 q h1 (Nat.not_le.mpr h1)⟩) (fun q h => absurd h List.not_mem_nil) hdg hlocks)
/-- three new arrays of 60 -/
def nW (cI : ClassId) (nd : Nat → Nat) (g : ZS) : va_W := [(nd 0, .inl (cI, 60, .inl (zf (g 0)))), (nd 1, .inl (cI, 60, .inl (zf (g 1)))), (nd 2, .inl (cI, 60, .inl (zf (g 2))))]
theorem nW_of {A : Nat → Prop} {D : va_G} {cI : ClassId} {H : Heap} {q0 q1 q2 : Nat} (hP : va_P D vwCl [(q0, .inl (cI, 60, .inl (zf (fun _ => 0)))), (q1, .inl (cI, 60, .inl (zf (fun _ => 0)))), (q2, .inl (cI, 60, .inl (zf (fun _ => 0))))] H) (hD : va_D A [(q0, .inl (cI, 60, .inl (zf (fun _ => 0)))), (q1, .inl (cI, 60, .inl (zf (fun _ => 0)))), (q2, .inl (cI, 60, .inl (zf (fun _ => 0))))]) : ∃ nd : Nat → Nat, nd 0 = q0 ∧ nd 1 = q1 ∧ nd 2 = q2 ∧ (∀ g : ZS, va_D A (nW cI nd g)) ∧ va_P D vwCl (nW cI nd (fun _ _ => 0)) H := by
  refine ⟨fun k => match k with | 0 => q0 | 1 => q1 | _ => q2, rfl, rfl, rfl, fun g => ?_, hP⟩
  have a01 : q0 ≠ q1 := fun e => absurd (hD.1 0 1 _ _ rfl rfl e) (by decide)
  have a02 : q0 ≠ q2 := fun e => absurd (hD.1 0 2 _ _ rfl rfl e) (by decide)
  have a12 : q1 ≠ q2 := fun e => absurd (hD.1 1 2 _ _ rfl rfl e) (by decide)
  refine va_D_of (ad := List.range 3) (f := fun k => match k with | 0 => q0 | 1 => q1 | _ => q2) rfl (fun i j x hi hj => ?_) (fun x y hx hy h => ?_) (fun x hx => ?_)
  · obtain ⟨h1, h2⟩ := List.getElem?_eq_some_iff.mp hi
    obtain ⟨h3, h4⟩ := List.getElem?_eq_some_iff.mp hj
    rw [List.getElem_range] at h2 h4
    omega
  · have hx := List.mem_range.mp hx
    have hy := List.mem_range.mp hy
    rcases (show x = 0 ∨ x = 1 ∨ x = 2 by omega) with rfl | rfl | rfl <;> rcases (show y = 0 ∨ y = 1 ∨ y = 2 by omega) with rfl | rfl | rfl <;> first | rfl | exact absurd h a01 | exact absurd h a02 | exact absurd h a12 | exact absurd h.symm a01 | exact absurd h.symm a02 | exact absurd h.symm a12
  · have hx := List.mem_range.mp hx
    rcases (show x = 0 ∨ x = 1 ∨ x = 2 by omega) with rfl | rfl | rfl
    · exact hD.2 0 _ rfl
    · exact hD.2 1 _ rfl
    · exact hD.2 2 _ rfl
