/-! the ends of law methods that have the desk; a desk's call in a try -/
section LENDS
variable {p : Program} {l : Launch} {e : Env} {R : Room} {s : State} {m : MethodId} {args : Array Value} {below : List Frame} {meth : Method} {c : Code} {H H0 : Heap} {locs : List Loc} {cells slots : Nat} {Q : State → Prop} {cc : ByteArray} {pc : Nat} {ls : Array Slot} {rest st0 : List Value}
variable {D : va_G} {cI cZ cJ : ClassId} {As : List Value} {y : MethodName} {ws Ts : List Cond} {rm : Room} {A0 : Addr → Prop} {bytes : ByteArray} {maxL nL n index : Nat} {ret : Option FieldType} {own : String} {sa ad ld : Nat → Nat} {mc ms : Nat} {S0 L0 S1 L1 : ZS} {x : Int} {post : Int → ZS → ZS → Prop}
theorem lr_w (hx : p.tables.exec = Jvm.exec) (hb : c.code = cc) (hr : meth.sig.returnType = some .int) (hlocks : meth.locks = false) (hdg : decode cc pc = .ok (.ireturn, 1)) (hP : va_P D vwCl (dW cI ad S1) H) (hL : va_P D vwCl (lW cI ld L1) H) (hS : va_S (bA ad ld) s.heap H locs) (hm : cells ≤ mc ∧ slots ≤ ms) (hp : post x S1 L1) : W p l e R s m args below meth c H locs cells slots (MQ below (zWb D cI ad ld post) args s mc ms (bA ad ld)) (F0 m pc ls [.int (zi x)]) :=
  fun T9 hT X => (W.iret hx hb hr (fun t ht _ => ⟨⟨zi x, (x, S1, L1), rfl, ⟨rfl, hp⟩, by rw [ht]; exact hP, by rw [ht]; exact hL⟩, hS.F ht⟩) hS.2.2 hdg hlocks : W p l e R s m args below meth c H locs mc ms (MQ below (zWb D cI ad ld post) args s mc ms (bA ad ld)) (F0 m pc ls [.int (zi x)])) T9 hT (stand_widen X hm.1 hm.2)
theorem lr_wz (hx : p.tables.exec = Jvm.exec) (hb : c.code = cc) (hr : meth.sig.returnType = some .boolean) (hlocks : meth.locks = false) (hdg : decode cc pc = .ok (.ireturn, 1)) (h01 : x = 0 ∨ x = 1) (hP : va_P D vwCl (dW cI ad S1) H) (hL : va_P D vwCl (lW cI ld L1) H) (hS : va_S (bA ad ld) s.heap H locs) (hm : cells ≤ mc ∧ slots ≤ ms) (hp : post x S1 L1) : W p l e R s m args below meth c H locs cells slots (MQ below (zWb D cI ad ld post) args s mc ms (bA ad ld)) (F0 m pc ls [.int (zi x)]) :=
  fun T9 hT X => (W.zret hx hb hr (by rcases h01 with rfl | rfl <;> decide) (fun t ht _ => ⟨⟨zi x, (x, S1, L1), rfl, ⟨rfl, hp⟩, by rw [ht]; exact hP, by rw [ht]; exact hL⟩, hS.F ht⟩) hS.2.2 hdg hlocks : W p l e R s m args below meth c H locs mc ms (MQ below (zWb D cI ad ld post) args s mc ms (bA ad ld)) (F0 m pc ls [.int (zi x)])) T9 hT (stand_widen X hm.1 hm.2)
theorem lw_wd {g : JFrame} {k n : Nat} (h1 : cells ≤ k) (h2 : slots ≤ n) (kk : W p l e R s m args below meth c H locs k n Q g) : W p l e R s m args below meth c H locs cells slots Q g := fun T hT X => kk T hT (stand_widen X h1 h2)
/-- the table of asks -/
def hAsk : List (Nat × Nat × Nat × Nat) := [(0, 87, 88, 36), (0, 87, 93, 39)]
/-- a public method of the desk, called in asks: what it throws is caught there -/
theorem lc_try {C : String} {post : Int → ZS → Prop} {px : String → ZS → Prop} (S : CallFix p m c cc nL s args Ts own) (hM : vx_Met l y ws rm (va_Pc (.ref (ad 0) :: As) (fun U => va_P D vwCl (dW cI ad S0) U.heap ∧ KK D cI cZ cJ U ∧ xP sa (dA ad) U U.heap)) (zWi D (dW cI ad) (dA ad) post) (xX D cI ad px) mc ms (dA ad)) (cw : CallW R s args own C index y bytes maxL ret ws rm mc ms n) (hC : C = RX7) (hK : KK D cI cZ cJ s) (hX : xP sa A0 s s.heap) (hQ : xQ s) (hdis : bDis ad ld) (hA : ∀ q, bA ad ld q → A0 q) (hS : va_S A0 s.heap H locs) (hP : va_P D vwCl (dW cI ad S0) H) (hL : va_P D vwCl (lW cI ld L0) H) (htab : c.exceptionTable.toList = tableOf hAsk) (hpc : pc < 87) (hown : s.vm.findClass own = some m.cls) (hl1 : (Cond.classLink own 36 xIOB).before args s = true) (hl2 : (Cond.classLink own 39 xISE).before args s = true) (hE : ∀ E T, px E T → E = xIOB ∨ E = xISE) (hn : As.length = n) (hsize : ls.size = nL) (hst : st0 = As.reverse ++ .ref (ad 0) :: rest) (hW : (rest.map fun v => v.category).sum ≤ 8) (hdg : decode cc pc = .ok (.invokevirtual index, 3)) (hf : cells + mc ≤ R.cells ∧ slots + ms ≤ R.slots)
    (k1 : ∀ (T : ZS) (q : Nat) (H1 : Heap) (locs1 : List Loc), px xIOB T → va_P D vwCl (dW cI ad T) H1 → va_P D vwCl (lW cI ld L0) H1 → va_S A0 s.heap H1 locs1 → W p l e R s m args below meth c H1 locs1 (cells + mc) (slots + ms) Q (F0 m 88 ls [.ref q]))
    (k2 : ∀ (T : ZS) (q : Nat) (H1 : Heap) (locs1 : List Loc), px xISE T → va_P D vwCl (dW cI ad T) H1 → va_P D vwCl (lW cI ld L0) H1 → va_S A0 s.heap H1 locs1 → W p l e R s m args below meth c H1 locs1 (cells + mc) (slots + ms) Q (F0 m 93 ls [.ref q]))
    (kk : ∀ (r : Int) (T : ZS) (H1 : Heap) (locs1 : List Loc), post r T → va_P D vwCl (dW cI ad T) H1 → va_P D vwCl (lW cI ld L0) H1 → va_S A0 s.heap H1 locs1 → W p l e R s m args below meth c H1 locs1 (cells + mc) (slots + ms) Q (F0 m (pc + 3) ls (.int (zi r) :: rest))) : W p l e R s m args below meth c H locs cells slots Q (F0 m pc ls st0) := by
  subst hC
  obtain ⟨cell, h1, h2, h3⟩ := va_recv (ci := 7) (q0 := 0) hK.1 hP rfl rfl
  have c1 : ∀ x ∈ tableOf hAsk, covers x pc = true := fun x hx => by
    rcases List.mem_cons.mp hx with rfl | hx
    · simp [covers, hpc]
    · rcases List.mem_cons.mp hx with rfl | hx
      · simp [covers, hpc]
      · exact absurd hx List.not_mem_nil
  exact vx_calli (A0 := A0) (H0 := s.heap) (vx_runV (As := As) (rest := rest) S hM cw ⟨fun a U g mk h => ⟨h.1, h.2.1, KK.same (u := U) (U := U.calling g mk a) rfl h.2.2.1, xP.same (u := U) (U := U.calling g mk a) rfl h.2.2.2⟩, ⟨cell, h1, h2, h3⟩, fun U hU hW => ⟨rfl, by rw [hU]; exact hP, hK.warm hW, (hX.warm hW hS hU).narrow (fun q h => hA q (Or.inl h))⟩⟩ rfl hn hsize hst (lv_room hW) hdg hf) hS (fun q _ h => hA q (Or.inl h)) (fun q h => hA q (Or.inl h)) (fun q _ h => hA q (Or.inl h))
    (fun E ce q9 u t H1 locs1 ht _ hno9 hE9 _ hk hS1 hce hcv hcl => by
      obtain ⟨hE9, hPt⟩ := hE9
      have hP1 : va_P D vwCl (dW cI ad u.2) H1 := by rw [← ht]; exact hPt
      have hL1 : va_P D vwCl (lW cI ld L0) H1 := hL.kept (fun k q hq => hk q.1 (vx_lt hL hq) (lW_nd hdis hq))
      rcases hE _ _ hno9 with e1 | e1
      · rw [hE9, e1] at hcl
        exact vx_catch hown [] _ _ htab (fun z hz => absurd hz List.not_mem_nil) (c1 _ List.mem_cons_self) (by decide) hl1 (va_any rfl hQ.1) hce hcv hcl (k1 u.2 q9 H1 locs1 (by rw [← e1]; exact hno9) hP1 hL1 hS1)
      · rw [hE9, e1] at hcl
        exact vx_catch hown [_] _ [] htab (fun z hz => by
          rcases List.mem_cons.mp hz with rfl | hz
          · exact Or.inr ⟨by decide, xIOB, hl1, hQ.2.2⟩
          · exact absurd hz List.not_mem_nil) (c1 _ (List.mem_cons_of_mem _ List.mem_cons_self)) (by decide) hl2 (va_any rfl hQ.2.1) hce hcv hcl (k2 u.2 q9 H1 locs1 (by rw [← e1]; exact hno9) hP1 hL1 hS1))
    (fun r u t H1 locs1 ht _ hp hB hz hk hS1 => by rw [hp.1]; exact kk u.1 u.2 H1 locs1 hp.2 (by rw [← ht]; exact hB) (hL.kept (fun k q hq => hk q.1 (vx_lt hL hq) (lW_nd hdis hq))) hS1)
end LENDS
