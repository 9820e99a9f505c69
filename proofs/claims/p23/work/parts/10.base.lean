/-! Int for machine ints: zi; the worlds of the class (dW) and of the reference (mW); rows over them. -/
def zi (x : Int) : Int32 := Int32.ofInt x
def zf (g : Int → Int) : Nat → Int32 := fun j => zi (g j)
def up (g : Int → Int) (x v : Int) : Int → Int := fun j => if j = x then v else g j
abbrev ZS : Type := Nat → Int → Int
/-- in a machine int's range -/
abbrev ir (x : Int) : Prop := -2147483648 ≤ x ∧ x < 2147483648
theorem zi_add (x y : Int) : zi x + zi y = zi (x + y) := (Int32.ofInt_add x y).symm
theorem zi_sub (x y : Int) : zi x - zi y = zi (x - y) := (Int32.ofInt_sub x y).symm
theorem zi_toInt {x : Int} (h : ir x) : (zi x).toInt = x := Int32.toInt_ofInt_of_le (by have := h.1; omega) (by have := h.2; omega)
theorem zi_lt {x y : Int} (hx : ir x) (hy : ir y) : zi x < zi y ↔ x < y := by rw [Int32.lt_iff_toInt_lt, zi_toInt hx, zi_toInt hy]
theorem zi_le {x y : Int} (hx : ir x) (hy : ir y) : zi x ≤ zi y ↔ x ≤ y := by rw [Int32.le_iff_toInt_le, zi_toInt hx, zi_toInt hy]
theorem zi_cl {x : Int} (h : ir x) : (zi x).toNatClampNeg = x.toNat := Int32.toNatClampNeg_ofInt_of_le (by have := h.1; omega) (by have := h.2; omega)
theorem ir_0 : ir 0 := ⟨by decide, by decide⟩
theorem zf_up (g : Int → Int) {x : Int} (v : Int) (h0 : 0 ≤ x) : zf (up g x v) = upd (zf g) x.toNat (zi v) := by
  funext j
  by_cases h : (j : Int) = x
  · subst h; simp [zf, up, upd]
  · simp only [zf, up, upd, if_neg h]
    rw [if_neg (by omega)]
theorem up_s (g : Int → Int) (x v : Int) : up g x v x = v := if_pos rfl
theorem up_n (g : Int → Int) {x j : Int} (v : Int) (h : j ≠ x) : up g x v j = g j := if_neg h
noncomputable def cif {α : Type} (P : Prop) (a b : α) : α := @ite α P (Classical.propDecidable P) a b
noncomputable def b2 (P : Prop) : Int := cif P 1 0
section ZROWS
variable {p : Program} {l : Launch} {e : Env} {R : Room} {s : State} {m : MethodId} {args : Array Value} {below : List Frame} {meth : Method} {c : Code} {H : Heap} {locs : List Loc} {cells slots : Nat} {Q : State → Prop} {cc : ByteArray} {pc : Nat} {ls : Array Slot} {rest : List Value}
theorem zi_isub (hexec : p.tables.exec = Jvm.exec) (hb : c.code = cc) {x y : Int} (hdg : decode cc pc = .ok (.isub, 1)) (k : W p l e R s m args below meth c H locs cells slots Q (F0 m (pc + 1) ls (.int (zi (x - y)) :: rest))) : W p l e R s m args below meth c H locs cells slots Q (F0 m pc ls (.int (zi y) :: .int (zi x) :: rest)) := lv_isub hexec hb hdg (by rw [zi_sub]; exact k)
theorem zi_iconst (hexec : p.tables.exec = Jvm.exec) (hb : c.code = cc) {n : Int} (hdg : decode cc pc = .ok (.iconst n, 1)) (k : W p l e R s m args below meth c H locs cells slots Q (F0 m (pc + 1) ls (.int (zi n) :: rest))) : W p l e R s m args below meth c H locs cells slots Q (F0 m pc ls rest) := lv_iconst (v := zi n) hexec hb hdg rfl k
theorem zi_bipush (hexec : p.tables.exec = Jvm.exec) (hb : c.code = cc) {n : Int} (hdg : decode cc pc = .ok (.bipush n, 2)) (hn : (Int8.ofInt n).toInt32 = zi n) (k : W p l e R s m args below meth c H locs cells slots Q (F0 m (pc + 2) ls (.int (zi n) :: rest))) : W p l e R s m args below meth c H locs cells slots Q (F0 m pc ls rest) := lv_bipush (v := zi n) hexec hb hdg hn k
theorem zi_sipush (hexec : p.tables.exec = Jvm.exec) (hb : c.code = cc) {n : Int} (hdg : decode cc pc = .ok (.sipush n, 3)) (hn : (Int16.ofInt n).toInt32 = zi n) (k : W p l e R s m args below meth c H locs cells slots Q (F0 m (pc + 3) ls (.int (zi n) :: rest))) : W p l e R s m args below meth c H locs cells slots Q (F0 m pc ls rest) := lv_sipush (v := zi n) hexec hb hdg hn k
theorem zi_iinc (hexec : p.tables.exec = Jvm.exec) (hb : c.code = cc) {i nL k : Nat} {n x : Int} {lv lv' : List (Nat × Value)} (hdg : decode cc pc = .ok (.iinc i n, 3)) (h : lv_has ls nL lv) (hk : lv[k]? = some (i, .int (zi x))) (hn : i < nL) (hl : (i, Value.int (zi (x + n))) :: lv.filter (fun q => !(q.1 == i) && !(q.1 + 1 == i && q.2.category == 2)) = lv')
    (kk : ∀ ls' : Array Slot, lv_has ls' nL lv' → W p l e R s m args below meth c H locs cells slots Q (F0 m (pc + 3) ls' rest)) : W p l e R s m args below meth c H locs cells slots Q (F0 m pc ls rest) := lv_iinc hexec hb hdg h hk (zi_add x n) hn hl kk
theorem zi_is {x : Int} (y : Int) (h : x = y) (k : W p l e R s m args below meth c H locs cells slots Q (F0 m pc ls (.int (zi y) :: rest))) : W p l e R s m args below meth c H locs cells slots Q (F0 m pc ls (.int (zi x) :: rest)) := by rw [h]; exact k
theorem zi_icmp_gt (hexec : p.tables.exec = Jvm.exec) (hb : c.code = cc) {x y : Int} {off : Int} {tgt : Nat} (hx : ir x) (hy : ir y) (hdg : decode cc pc = .ok (.if_icmp .gt off, 3)) (ht : (pc : Int) + off = (tgt : Int)) (kt : y < x → W p l e R s m args below meth c H locs cells slots Q (F0 m tgt ls rest)) (kf : ¬ y < x → W p l e R s m args below meth c H locs cells slots Q (F0 m (pc + 3) ls rest)) : W p l e R s m args below meth c H locs cells slots Q (F0 m pc ls (.int (zi y) :: .int (zi x) :: rest)) := lv_icmp_gt hexec hb hdg ht (fun h => kt ((zi_lt hy hx).mp h)) (fun h => kf (fun h9 => h ((zi_lt hy hx).mpr h9)))
theorem zi_if_le (hexec : p.tables.exec = Jvm.exec) (hb : c.code = cc) {x : Int} {off : Int} {tgt : Nat} (hx : ir x) (hdg : decode cc pc = .ok (.ifCond .le off, 3)) (ht : (pc : Int) + off = (tgt : Int)) (kt : x ≤ 0 → W p l e R s m args below meth c H locs cells slots Q (F0 m tgt ls rest)) (kf : ¬ x ≤ 0 → W p l e R s m args below meth c H locs cells slots Q (F0 m (pc + 3) ls rest)) : W p l e R s m args below meth c H locs cells slots Q (F0 m pc ls (.int (zi x) :: rest)) := lv_if_le hexec hb hdg ht (fun h => kt ((zi_le hx ir_0).mp h)) (fun h => kf (fun h9 => h ((zi_le hx ir_0).mpr h9)))
theorem zi_icmp_ge (hexec : p.tables.exec = Jvm.exec) (hb : c.code = cc) {x y : Int} {off : Int} {tgt : Nat} (hx : ir x) (hy : ir y) (hdg : decode cc pc = .ok (.if_icmp .ge off, 3)) (ht : (pc : Int) + off = (tgt : Int)) (kt : y ≤ x → W p l e R s m args below meth c H locs cells slots Q (F0 m tgt ls rest)) (kf : ¬ y ≤ x → W p l e R s m args below meth c H locs cells slots Q (F0 m (pc + 3) ls rest)) : W p l e R s m args below meth c H locs cells slots Q (F0 m pc ls (.int (zi y) :: .int (zi x) :: rest)) := lv_icmp_ge hexec hb hdg ht (fun h => kt ((zi_le hy hx).mp h)) (fun h => kf (fun h9 => h ((zi_le hy hx).mpr h9)))
theorem zi_iast {D : va_G} {cl : List vw_C} {ws : va_W} {tys : List (ClassId × FieldType)} {a : Nat} {A : Nat → Prop} {H0 : Heap} (hexec : p.tables.exec = Jvm.exec) (hb : c.code = cc) (hK : va_K D cl tys s) (hP : va_P D cl ws H) (hD : va_D A ws) (hS : va_S A H0 H locs) (q0 t0 : Nat) {cA : ClassId} {n : Nat} {g : Int → Int} (ha : ws[q0]? = some (a, .inl (cA, n, .inl (zf g)))) (ht : tys[t0]? = some (cA, .int)) {x v : Int} (h0 : 0 ≤ x) (h1 : x < n) (hn : n < 2147483648) (hdg : decode cc pc = .ok (.iastore, 1)) (kk : ∀ (H1 : Heap) (locs1 : List Loc), va_P D cl (ws.set q0 (a, .inl (cA, n, .inl (zf (up g x v))))) H1 → va_S A H0 H1 locs1 → W p l e R s m args below meth c H1 locs1 cells slots Q (F0 m (pc + 1) ls rest)) : W p l e R s m args below meth c H locs cells slots Q (F0 m pc ls (.int (zi v) :: .int (zi x) :: .ref a :: rest)) := by
  have hr : ir x := ⟨by omega, by omega⟩
  refine va_iast hexec hb hK hP hD hS q0 t0 ha ht (vp_in_iff.mpr (by rw [zi_toInt hr]; exact ⟨h0, h1⟩)) hdg (fun H1 locs1 k1 _ k3 => kk H1 locs1 ?_ k3)
  rw [zf_up g v h0, ← zi_cl hr]
  exact k1
end ZROWS
