/-! Int for machine ints: zi; the worlds of the class (dW) and of the reference (mW); rows over them. -/
def zi (x : Int) : Int32 := Int32.ofInt x
def zf (g : Int → Int) : Nat → Int32 := fun j => zi (g j)
def up (g : Int → Int) (x v : Int) : Int → Int := fun j => if j = x then v else g j
abbrev ZS : Type := Nat → Int → Int
def su (S : ZS) (k : Nat) (g : Int → Int) : ZS := fun j => if j = k then g else S j
/-- in a machine int's range -/
abbrev ir (x : Int) : Prop := -2147483648 ≤ x ∧ x < 2147483648
theorem zi_add (x y : Int) : zi x + zi y = zi (x + y) := (Int32.ofInt_add x y).symm
theorem zi_sub (x y : Int) : zi x - zi y = zi (x - y) := (Int32.ofInt_sub x y).symm
theorem zi_mul (x y : Int) : zi x * zi y = zi (x * y) := (Int32.ofInt_mul x y).symm
theorem zi_neg (x : Int) : -zi x = zi (-x) := (Int32.ofInt_neg x).symm
theorem zi_toInt {x : Int} (h : ir x) : (zi x).toInt = x := Int32.toInt_ofInt_of_le (by have := h.1; omega) (by have := h.2; omega)
theorem zi_of (v : Int32) : v = zi v.toInt := (Int32.ofInt_toInt v).symm
theorem ir_of (v : Int32) : ir v.toInt := ⟨by have := v.le_toInt; omega, by have := v.toInt_lt; omega⟩
theorem zi_lt {x y : Int} (hx : ir x) (hy : ir y) : zi x < zi y ↔ x < y := by rw [Int32.lt_iff_toInt_lt, zi_toInt hx, zi_toInt hy]
theorem zi_le {x y : Int} (hx : ir x) (hy : ir y) : zi x ≤ zi y ↔ x ≤ y := by rw [Int32.le_iff_toInt_le, zi_toInt hx, zi_toInt hy]
theorem zi_eq {x y : Int} (hx : ir x) (hy : ir y) : zi x = zi y ↔ x = y := by rw [← Int32.toInt_inj, zi_toInt hx, zi_toInt hy]
theorem zi_cl {x : Int} (h : ir x) : (zi x).toNatClampNeg = x.toNat := Int32.toNatClampNeg_ofInt_of_le (by have := h.1; omega) (by have := h.2; omega)
theorem zi_0 : zi 0 = 0 := rfl
theorem ir_0 : ir 0 := ⟨by decide, by decide⟩
theorem zi_tdiv {x y : Int} (hx : ir x) (hy : ir y) (h : y ≠ -1) (h0 : y ≠ 0) : zi x / zi y = zi (x.tdiv y) := by
  have h1 : ir (x.tdiv y) := by
    have hn : y.natAbs ≠ 0 := by omega
    have h2 : (x.tdiv y).natAbs ≤ x.natAbs := by rw [Int.natAbs_tdiv]; exact Nat.div_le_self _ _
    obtain ⟨h3, h4⟩ := hx
    by_cases hq : x = -2147483648
    · subst hq
      have h5 : ((-2147483648 : Int).tdiv y).natAbs ≤ 1073741824 ∨ y = 1 := by
        rcases (show y = 1 ∨ 2 ≤ y.natAbs by omega) with h6 | h6
        · exact Or.inr h6
        · refine Or.inl ?_
          rw [Int.natAbs_tdiv]
          exact Nat.le_trans (Nat.div_le_div_left h6 (by decide)) (by decide)
      rcases h5 with h5 | h5
      · constructor <;> omega
      · subst h5; exact ⟨by decide, by decide⟩
    · constructor <;> omega
  rw [← Int32.toInt_inj, Int32.toInt_div_of_ne_right _ _ (by
    intro hq
    exact h (by have := congrArg Int32.toInt hq; rw [zi_toInt hy] at this; exact this)), zi_toInt hx, zi_toInt hy, zi_toInt h1]
theorem zi_tmod {x y : Int} (hx : ir x) (hy : ir y) (h : y ≠ -1) (h0 : y ≠ 0) : zi x - zi x / zi y * zi y = zi (x.tmod y) := by
  rw [zi_tdiv hx hy h h0, zi_mul, zi_sub, Int.tmod_def, Int.mul_comm]
theorem zf_up (g : Int → Int) {x : Int} (v : Int) (h0 : 0 ≤ x) : zf (up g x v) = upd (zf g) x.toNat (zi v) := by
  funext j
  by_cases h : (j : Int) = x
  · subst h; simp [zf, up, upd]
  · simp only [zf, up, upd, if_neg h]
    rw [if_neg (by omega)]
theorem up_s (g : Int → Int) (x v : Int) : up g x v x = v := if_pos rfl
theorem up_n (g : Int → Int) {x j : Int} (v : Int) (h : j ≠ x) : up g x v j = g j := if_neg h
theorem su_s (S : ZS) (k : Nat) (g : Int → Int) : su S k g k = g := if_pos rfl
theorem su_n (S : ZS) {k j : Nat} (g : Int → Int) (h : j ≠ k) : su S k g j = S j := if_neg h
noncomputable def cif {α : Type} (P : Prop) (a b : α) : α := @ite α P (Classical.propDecidable P) a b
theorem cif_t {α : Type} {P : Prop} {a b : α} (h : P) : cif P a b = a := @if_pos P (Classical.propDecidable P) h α a b
theorem cif_f {α : Type} {P : Prop} {a b : α} (h : ¬ P) : cif P a b = b := @if_neg P (Classical.propDecidable P) h α a b
noncomputable def b2 (P : Prop) : Int := cif P 1 0
theorem b2_t {P : Prop} (h : P) : b2 P = 1 := cif_t h
theorem b2_f {P : Prop} (h : ¬ P) : b2 P = 0 := cif_f h
theorem b2_b {P : Prop} : (0 : Int) ≤ b2 P ∧ b2 P ≤ 1 := by
  by_cases h : P
  · rw [b2_t h]; decide
  · rw [b2_f h]; decide
theorem b2_1 {P : Prop} {x : Int} (e : x = b2 P) (h : ¬ x = 0) : P := by
  by_cases hp : P
  · exact hp
  · rw [b2_f hp] at e; exact absurd e h
theorem b2_0 {P : Prop} {x : Int} (e : x = b2 P) (h : x = 0) : ¬ P := fun hp => by rw [b2_t hp] at e; omega
/-- a Row's cell, whatever the index -/
def rAt (n : Int) (g : Int → Int) (x : Int) : Int := if 0 ≤ x ∧ x < n then g x else 0
def rPut (n : Int) (g : Int → Int) (x v : Int) : Int → Int := if 0 ≤ x ∧ x < n then up g x v else g
theorem rAt_in {n : Int} {g : Int → Int} {x : Int} (h0 : 0 ≤ x) (h1 : x < n) : rAt n g x = g x := if_pos ⟨h0, h1⟩
theorem rPut_in {n : Int} {g : Int → Int} {x v : Int} (h0 : 0 ≤ x) (h1 : x < n) : rPut n g x v = up g x v := if_pos ⟨h0, h1⟩
section ZROWS
variable {p : Program} {l : Launch} {e : Env} {R : Room} {s : State} {m : MethodId} {args : Array Value} {below : List Frame} {meth : Method} {c : Code} {H : Heap} {locs : List Loc} {cells slots : Nat} {Q : State → Prop} {cc : ByteArray} {pc : Nat} {ls : Array Slot} {rest : List Value}
theorem zi_iadd (hexec : p.tables.exec = Jvm.exec) (hb : c.code = cc) {x y : Int} (hdg : decode cc pc = .ok (.iadd, 1)) (k : W p l e R s m args below meth c H locs cells slots Q (F0 m (pc + 1) ls (.int (zi (x + y)) :: rest))) : W p l e R s m args below meth c H locs cells slots Q (F0 m pc ls (.int (zi y) :: .int (zi x) :: rest)) := lv_iadd hexec hb hdg (by rw [zi_add]; exact k)
theorem zi_isub (hexec : p.tables.exec = Jvm.exec) (hb : c.code = cc) {x y : Int} (hdg : decode cc pc = .ok (.isub, 1)) (k : W p l e R s m args below meth c H locs cells slots Q (F0 m (pc + 1) ls (.int (zi (x - y)) :: rest))) : W p l e R s m args below meth c H locs cells slots Q (F0 m pc ls (.int (zi y) :: .int (zi x) :: rest)) := lv_isub hexec hb hdg (by rw [zi_sub]; exact k)
theorem zi_imul (hexec : p.tables.exec = Jvm.exec) (hb : c.code = cc) {x y : Int} (hdg : decode cc pc = .ok (.imul, 1)) (k : W p l e R s m args below meth c H locs cells slots Q (F0 m (pc + 1) ls (.int (zi (x * y)) :: rest))) : W p l e R s m args below meth c H locs cells slots Q (F0 m pc ls (.int (zi y) :: .int (zi x) :: rest)) := lv_imul hexec hb hdg (by rw [zi_mul]; exact k)
theorem zi_ineg (hexec : p.tables.exec = Jvm.exec) (hb : c.code = cc) {x : Int} (hdg : decode cc pc = .ok (.ineg, 1)) (k : W p l e R s m args below meth c H locs cells slots Q (F0 m (pc + 1) ls (.int (zi (-x)) :: rest))) : W p l e R s m args below meth c H locs cells slots Q (F0 m pc ls (.int (zi x) :: rest)) := lv_ineg hexec hb hdg (by rw [zi_neg]; exact k)
theorem zi_iconst (hexec : p.tables.exec = Jvm.exec) (hb : c.code = cc) {n : Int} (hdg : decode cc pc = .ok (.iconst n, 1)) (k : W p l e R s m args below meth c H locs cells slots Q (F0 m (pc + 1) ls (.int (zi n) :: rest))) : W p l e R s m args below meth c H locs cells slots Q (F0 m pc ls rest) := lv_iconst (v := zi n) hexec hb hdg rfl k
theorem zi_bipush (hexec : p.tables.exec = Jvm.exec) (hb : c.code = cc) {n : Int} (hdg : decode cc pc = .ok (.bipush n, 2)) (hn : (Int8.ofInt n).toInt32 = zi n) (k : W p l e R s m args below meth c H locs cells slots Q (F0 m (pc + 2) ls (.int (zi n) :: rest))) : W p l e R s m args below meth c H locs cells slots Q (F0 m pc ls rest) := lv_bipush (v := zi n) hexec hb hdg hn k
theorem zi_sipush (hexec : p.tables.exec = Jvm.exec) (hb : c.code = cc) {n : Int} (hdg : decode cc pc = .ok (.sipush n, 3)) (hn : (Int16.ofInt n).toInt32 = zi n) (k : W p l e R s m args below meth c H locs cells slots Q (F0 m (pc + 3) ls (.int (zi n) :: rest))) : W p l e R s m args below meth c H locs cells slots Q (F0 m pc ls rest) := lv_sipush (v := zi n) hexec hb hdg hn k
theorem zi_iinc (hexec : p.tables.exec = Jvm.exec) (hb : c.code = cc) {i nL k : Nat} {n x : Int} {lv lv' : List (Nat × Value)} (hdg : decode cc pc = .ok (.iinc i n, 3)) (h : lv_has ls nL lv) (hk : lv[k]? = some (i, .int (zi x))) (hn : i < nL) (hl : (i, Value.int (zi (x + n))) :: lv.filter (fun q => !(q.1 == i) && !(q.1 + 1 == i && q.2.category == 2)) = lv')
    (kk : ∀ ls' : Array Slot, lv_has ls' nL lv' → W p l e R s m args below meth c H locs cells slots Q (F0 m (pc + 3) ls' rest)) : W p l e R s m args below meth c H locs cells slots Q (F0 m pc ls rest) := lv_iinc hexec hb hdg h hk (zi_add x n) hn hl kk
theorem zi_top {x : Int} (k : ∀ y : Int, y = x → W p l e R s m args below meth c H locs cells slots Q (F0 m pc ls (.int (zi y) :: rest))) : W p l e R s m args below meth c H locs cells slots Q (F0 m pc ls (.int (zi x) :: rest)) := k x rfl
theorem zi_is {x : Int} (y : Int) (h : x = y) (k : W p l e R s m args below meth c H locs cells slots Q (F0 m pc ls (.int (zi y) :: rest))) : W p l e R s m args below meth c H locs cells slots Q (F0 m pc ls (.int (zi x) :: rest)) := by rw [h]; exact k
theorem zi_raw {v : Int32} (k : W p l e R s m args below meth c H locs cells slots Q (F0 m pc ls (.int (zi v.toInt) :: rest))) : W p l e R s m args below meth c H locs cells slots Q (F0 m pc ls (.int v :: rest)) := by
  rw [← zi_of v] at k; exact k
theorem zi_idiv (hexec : p.tables.exec = Jvm.exec) (hb : c.code = cc) {x y : Int} (hx : ir x) (hy : ir y) (h0 : 0 ≤ x) (h1 : 0 < y) (hdg : decode cc pc = .ok (.idiv, 1)) (k : W p l e R s m args below meth c H locs cells slots Q (F0 m (pc + 1) ls (.int (zi (x / y)) :: rest))) : W p l e R s m args below meth c H locs cells slots Q (F0 m pc ls (.int (zi y) :: .int (zi x) :: rest)) := lv_idiv hexec hb hdg (fun h => by have h2 : y = 0 := (zi_eq hy ir_0).mp h; omega) (by rw [zi_tdiv hx hy (by omega) (by omega), Int.tdiv_eq_ediv_of_nonneg h0]; exact k)
theorem zi_irem (hexec : p.tables.exec = Jvm.exec) (hb : c.code = cc) {x y : Int} (hx : ir x) (hy : ir y) (h0 : 0 ≤ x) (h1 : 0 < y) (hdg : decode cc pc = .ok (.irem, 1)) (k : W p l e R s m args below meth c H locs cells slots Q (F0 m (pc + 1) ls (.int (zi (x % y)) :: rest))) : W p l e R s m args below meth c H locs cells slots Q (F0 m pc ls (.int (zi y) :: .int (zi x) :: rest)) := lv_irem hexec hb hdg (fun h => by have h2 : y = 0 := (zi_eq hy ir_0).mp h; omega) (by rw [zi_tmod hx hy (by omega) (by omega), Int.tmod_eq_emod_of_nonneg h0]; exact k)
theorem zi_iremT (hexec : p.tables.exec = Jvm.exec) (hb : c.code = cc) {x y : Int} (hx : ir x) (hy : ir y) (h1 : 0 < y) (hdg : decode cc pc = .ok (.irem, 1)) (k : W p l e R s m args below meth c H locs cells slots Q (F0 m (pc + 1) ls (.int (zi (x.tmod y)) :: rest))) : W p l e R s m args below meth c H locs cells slots Q (F0 m pc ls (.int (zi y) :: .int (zi x) :: rest)) := lv_irem hexec hb hdg (fun h => by have h2 : y = 0 := (zi_eq hy ir_0).mp h; omega) (by rw [zi_tmod hx hy (by omega) (by omega)]; exact k)
theorem zi_icmp_lt (hexec : p.tables.exec = Jvm.exec) (hb : c.code = cc) {x y : Int} {off : Int} {tgt : Nat} (hx : ir x) (hy : ir y) (hdg : decode cc pc = .ok (.if_icmp .lt off, 3)) (ht : (pc : Int) + off = (tgt : Int)) (kt : x < y → W p l e R s m args below meth c H locs cells slots Q (F0 m tgt ls rest)) (kf : ¬ x < y → W p l e R s m args below meth c H locs cells slots Q (F0 m (pc + 3) ls rest)) : W p l e R s m args below meth c H locs cells slots Q (F0 m pc ls (.int (zi y) :: .int (zi x) :: rest)) := lv_icmp_lt hexec hb hdg ht (fun h => kt ((zi_lt hx hy).mp h)) (fun h => kf (fun h9 => h ((zi_lt hx hy).mpr h9)))
theorem zi_if_lt (hexec : p.tables.exec = Jvm.exec) (hb : c.code = cc) {x : Int} {off : Int} {tgt : Nat} (hx : ir x) (hdg : decode cc pc = .ok (.ifCond .lt off, 3)) (ht : (pc : Int) + off = (tgt : Int)) (kt : x < 0 → W p l e R s m args below meth c H locs cells slots Q (F0 m tgt ls rest)) (kf : ¬ x < 0 → W p l e R s m args below meth c H locs cells slots Q (F0 m (pc + 3) ls rest)) : W p l e R s m args below meth c H locs cells slots Q (F0 m pc ls (.int (zi x) :: rest)) := lv_if_lt hexec hb hdg ht (fun h => kt ((zi_lt hx ir_0).mp h)) (fun h => kf (fun h9 => h ((zi_lt hx ir_0).mpr h9)))
theorem zi_icmp_gt (hexec : p.tables.exec = Jvm.exec) (hb : c.code = cc) {x y : Int} {off : Int} {tgt : Nat} (hx : ir x) (hy : ir y) (hdg : decode cc pc = .ok (.if_icmp .gt off, 3)) (ht : (pc : Int) + off = (tgt : Int)) (kt : y < x → W p l e R s m args below meth c H locs cells slots Q (F0 m tgt ls rest)) (kf : ¬ y < x → W p l e R s m args below meth c H locs cells slots Q (F0 m (pc + 3) ls rest)) : W p l e R s m args below meth c H locs cells slots Q (F0 m pc ls (.int (zi y) :: .int (zi x) :: rest)) := lv_icmp_gt hexec hb hdg ht (fun h => kt ((zi_lt hy hx).mp h)) (fun h => kf (fun h9 => h ((zi_lt hy hx).mpr h9)))
theorem zi_if_gt (hexec : p.tables.exec = Jvm.exec) (hb : c.code = cc) {x : Int} {off : Int} {tgt : Nat} (hx : ir x) (hdg : decode cc pc = .ok (.ifCond .gt off, 3)) (ht : (pc : Int) + off = (tgt : Int)) (kt : 0 < x → W p l e R s m args below meth c H locs cells slots Q (F0 m tgt ls rest)) (kf : ¬ 0 < x → W p l e R s m args below meth c H locs cells slots Q (F0 m (pc + 3) ls rest)) : W p l e R s m args below meth c H locs cells slots Q (F0 m pc ls (.int (zi x) :: rest)) := lv_if_gt hexec hb hdg ht (fun h => kt ((zi_lt ir_0 hx).mp h)) (fun h => kf (fun h9 => h ((zi_lt ir_0 hx).mpr h9)))
theorem zi_icmp_le (hexec : p.tables.exec = Jvm.exec) (hb : c.code = cc) {x y : Int} {off : Int} {tgt : Nat} (hx : ir x) (hy : ir y) (hdg : decode cc pc = .ok (.if_icmp .le off, 3)) (ht : (pc : Int) + off = (tgt : Int)) (kt : x ≤ y → W p l e R s m args below meth c H locs cells slots Q (F0 m tgt ls rest)) (kf : ¬ x ≤ y → W p l e R s m args below meth c H locs cells slots Q (F0 m (pc + 3) ls rest)) : W p l e R s m args below meth c H locs cells slots Q (F0 m pc ls (.int (zi y) :: .int (zi x) :: rest)) := lv_icmp_le hexec hb hdg ht (fun h => kt ((zi_le hx hy).mp h)) (fun h => kf (fun h9 => h ((zi_le hx hy).mpr h9)))
theorem zi_if_le (hexec : p.tables.exec = Jvm.exec) (hb : c.code = cc) {x : Int} {off : Int} {tgt : Nat} (hx : ir x) (hdg : decode cc pc = .ok (.ifCond .le off, 3)) (ht : (pc : Int) + off = (tgt : Int)) (kt : x ≤ 0 → W p l e R s m args below meth c H locs cells slots Q (F0 m tgt ls rest)) (kf : ¬ x ≤ 0 → W p l e R s m args below meth c H locs cells slots Q (F0 m (pc + 3) ls rest)) : W p l e R s m args below meth c H locs cells slots Q (F0 m pc ls (.int (zi x) :: rest)) := lv_if_le hexec hb hdg ht (fun h => kt ((zi_le hx ir_0).mp h)) (fun h => kf (fun h9 => h ((zi_le hx ir_0).mpr h9)))
theorem zi_icmp_ge (hexec : p.tables.exec = Jvm.exec) (hb : c.code = cc) {x y : Int} {off : Int} {tgt : Nat} (hx : ir x) (hy : ir y) (hdg : decode cc pc = .ok (.if_icmp .ge off, 3)) (ht : (pc : Int) + off = (tgt : Int)) (kt : y ≤ x → W p l e R s m args below meth c H locs cells slots Q (F0 m tgt ls rest)) (kf : ¬ y ≤ x → W p l e R s m args below meth c H locs cells slots Q (F0 m (pc + 3) ls rest)) : W p l e R s m args below meth c H locs cells slots Q (F0 m pc ls (.int (zi y) :: .int (zi x) :: rest)) := lv_icmp_ge hexec hb hdg ht (fun h => kt ((zi_le hy hx).mp h)) (fun h => kf (fun h9 => h ((zi_le hy hx).mpr h9)))
theorem zi_if_ge (hexec : p.tables.exec = Jvm.exec) (hb : c.code = cc) {x : Int} {off : Int} {tgt : Nat} (hx : ir x) (hdg : decode cc pc = .ok (.ifCond .ge off, 3)) (ht : (pc : Int) + off = (tgt : Int)) (kt : 0 ≤ x → W p l e R s m args below meth c H locs cells slots Q (F0 m tgt ls rest)) (kf : ¬ 0 ≤ x → W p l e R s m args below meth c H locs cells slots Q (F0 m (pc + 3) ls rest)) : W p l e R s m args below meth c H locs cells slots Q (F0 m pc ls (.int (zi x) :: rest)) := lv_if_ge hexec hb hdg ht (fun h => kt ((zi_le ir_0 hx).mp h)) (fun h => kf (fun h9 => h ((zi_le ir_0 hx).mpr h9)))
theorem zi_icmp_eq (hexec : p.tables.exec = Jvm.exec) (hb : c.code = cc) {x y : Int} {off : Int} {tgt : Nat} (hx : ir x) (hy : ir y) (hdg : decode cc pc = .ok (.if_icmp .eq off, 3)) (ht : (pc : Int) + off = (tgt : Int)) (kt : x = y → W p l e R s m args below meth c H locs cells slots Q (F0 m tgt ls rest)) (kf : ¬ x = y → W p l e R s m args below meth c H locs cells slots Q (F0 m (pc + 3) ls rest)) : W p l e R s m args below meth c H locs cells slots Q (F0 m pc ls (.int (zi y) :: .int (zi x) :: rest)) := lv_icmp_eq hexec hb hdg ht (fun h => kt ((zi_eq hx hy).mp h)) (fun h => kf (fun h9 => h ((zi_eq hx hy).mpr h9)))
theorem zi_if_eq (hexec : p.tables.exec = Jvm.exec) (hb : c.code = cc) {x : Int} {off : Int} {tgt : Nat} (hx : ir x) (hdg : decode cc pc = .ok (.ifCond .eq off, 3)) (ht : (pc : Int) + off = (tgt : Int)) (kt : x = 0 → W p l e R s m args below meth c H locs cells slots Q (F0 m tgt ls rest)) (kf : ¬ x = 0 → W p l e R s m args below meth c H locs cells slots Q (F0 m (pc + 3) ls rest)) : W p l e R s m args below meth c H locs cells slots Q (F0 m pc ls (.int (zi x) :: rest)) := lv_if_eq hexec hb hdg ht (fun h => kt ((zi_eq hx ir_0).mp h)) (fun h => kf (fun h9 => h ((zi_eq hx ir_0).mpr h9)))
theorem zi_icmp_ne (hexec : p.tables.exec = Jvm.exec) (hb : c.code = cc) {x y : Int} {off : Int} {tgt : Nat} (hx : ir x) (hy : ir y) (hdg : decode cc pc = .ok (.if_icmp .ne off, 3)) (ht : (pc : Int) + off = (tgt : Int)) (kt : ¬ x = y → W p l e R s m args below meth c H locs cells slots Q (F0 m tgt ls rest)) (kf : x = y → W p l e R s m args below meth c H locs cells slots Q (F0 m (pc + 3) ls rest)) : W p l e R s m args below meth c H locs cells slots Q (F0 m pc ls (.int (zi y) :: .int (zi x) :: rest)) := lv_icmp_ne hexec hb hdg ht (fun h => kt (fun h9 => h ((zi_eq hx hy).mpr h9))) (fun h => kf ((zi_eq hx hy).mp h))
theorem zi_if_ne (hexec : p.tables.exec = Jvm.exec) (hb : c.code = cc) {x : Int} {off : Int} {tgt : Nat} (hx : ir x) (hdg : decode cc pc = .ok (.ifCond .ne off, 3)) (ht : (pc : Int) + off = (tgt : Int)) (kt : ¬ x = 0 → W p l e R s m args below meth c H locs cells slots Q (F0 m tgt ls rest)) (kf : x = 0 → W p l e R s m args below meth c H locs cells slots Q (F0 m (pc + 3) ls rest)) : W p l e R s m args below meth c H locs cells slots Q (F0 m pc ls (.int (zi x) :: rest)) := lv_if_ne hexec hb hdg ht (fun h => kt (fun h9 => h ((zi_eq hx ir_0).mpr h9))) (fun h => kf ((zi_eq hx ir_0).mp h))
theorem zi_iald {D : va_G} {cl : List vw_C} {ws : va_W} {tys : List (ClassId × FieldType)} {a : Nat} (hexec : p.tables.exec = Jvm.exec) (hb : c.code = cc) (hK : va_K D cl tys s) (hP : va_P D cl ws H) (q0 t0 : Nat) {cA : ClassId} {n : Nat} {g : Int → Int} (ha : ws[q0]? = some (a, .inl (cA, n, .inl (zf g)))) (ht : tys[t0]? = some (cA, .int)) {x : Int} (h0 : 0 ≤ x) (h1 : x < n) (hn : n < 2147483648) (hdg : decode cc pc = .ok (.iaload, 1)) (kk : W p l e R s m args below meth c H locs cells slots Q (F0 m (pc + 1) ls (.int (zi (g x)) :: rest))) : W p l e R s m args below meth c H locs cells slots Q (F0 m pc ls (.int (zi x) :: .ref a :: rest)) := by
  have hr : ir x := ⟨by omega, by omega⟩
  refine va_iald hexec hb hK hP q0 t0 ha ht (vp_in_iff.mpr (by rw [zi_toInt hr]; exact ⟨h0, h1⟩)) hdg ?_
  rw [zi_cl hr]
  show W p l e R s m args below meth c H locs cells slots Q (F0 m (pc + 1) ls (.int (zi (g (x.toNat : Int))) :: rest))
  rw [Int.toNat_of_nonneg h0]
  exact kk
theorem zi_iast {D : va_G} {cl : List vw_C} {ws : va_W} {tys : List (ClassId × FieldType)} {a : Nat} {A : Nat → Prop} {H0 : Heap} (hexec : p.tables.exec = Jvm.exec) (hb : c.code = cc) (hK : va_K D cl tys s) (hP : va_P D cl ws H) (hD : va_D A ws) (hS : va_S A H0 H locs) (q0 t0 : Nat) {cA : ClassId} {n : Nat} {g : Int → Int} (ha : ws[q0]? = some (a, .inl (cA, n, .inl (zf g)))) (ht : tys[t0]? = some (cA, .int)) {x v : Int} (h0 : 0 ≤ x) (h1 : x < n) (hn : n < 2147483648) (hdg : decode cc pc = .ok (.iastore, 1)) (kk : ∀ (H1 : Heap) (locs1 : List Loc), va_P D cl (ws.set q0 (a, .inl (cA, n, .inl (zf (up g x v))))) H1 → va_S A H0 H1 locs1 → W p l e R s m args below meth c H1 locs1 cells slots Q (F0 m (pc + 1) ls rest)) : W p l e R s m args below meth c H locs cells slots Q (F0 m pc ls (.int (zi v) :: .int (zi x) :: .ref a :: rest)) := by
  have hr : ir x := ⟨by omega, by omega⟩
  refine va_iast hexec hb hK hP hD hS q0 t0 ha ht (vp_in_iff.mpr (by rw [zi_toInt hr]; exact ⟨h0, h1⟩)) hdg (fun H1 locs1 k1 _ k3 => kk H1 locs1 ?_ k3)
  rw [zf_up g v h0, ← zi_cl hr]
  exact k1
theorem zi_xneg {x y : Int} (hx : ir x) (hy : ir y) (h1 : 0 < y) : (zi x ^^^ zi y).toInt < 0 ↔ x < 0 := by
  have a1 : (zi x).toBitVec.msb = decide (x < 0) := by rw [BitVec.msb_eq_toInt]; show decide ((zi x).toInt < 0) = _; rw [zi_toInt hx]
  have a2 : (zi y).toBitVec.msb = false := by rw [BitVec.msb_eq_toInt]; show decide ((zi y).toInt < 0) = _; rw [zi_toInt hy]; exact decide_eq_false (by omega)
  have a3 : (zi x ^^^ zi y).toBitVec.msb = decide (x < 0) := by rw [Int32.toBitVec_xor, BitVec.msb_xor, a1, a2, Bool.xor_false]
  rw [BitVec.msb_eq_toInt] at a3
  have a4 := decide_eq_decide.mp a3
  exact a4
theorem zi_ixor (hexec : p.tables.exec = Jvm.exec) (hb : c.code = cc) {x y : Int} (hx : ir x) (hy : ir y) (h1 : 0 < y) (hdg : decode cc pc = .ok (.ixor, 1)) (k : ∀ w : Int, ir w → (w < 0 ↔ x < 0) → W p l e R s m args below meth c H locs cells slots Q (F0 m (pc + 1) ls (.int (zi w) :: rest))) : W p l e R s m args below meth c H locs cells slots Q (F0 m pc ls (.int (zi y) :: .int (zi x) :: rest)) := lv_ixor hexec hb hdg (by rw [zi_of (zi x ^^^ zi y)]; exact k _ (ir_of _) (zi_xneg hx hy h1))
theorem zi_mmax (hexec : p.tables.exec = Jvm.exec) (hb : c.code = cc) (hml : c.maxLocals = ls.size) {own : String} {index : Nat} (hown : s.vm.findClass own = some m.cls) (hlink : (Cond.methodLink own index Lib.Math.max.name).before args s = true) (hstat : (Cond.static Lib.Math.max.name).before args s = true) (hini : (Cond.initialized "java/lang/Math").before args s = true) (hcode : (Cond.code Lib.Math.max.name Lib.Math.max.code 2 (some .int)).before args s = true) (hframes : 1 ≤ R.frames) (hlocals : (rest.map fun v => v.category).sum + 13 ≤ R.locals) (hc : cells ≤ R.cells) (hs : slots ≤ R.slots) {x y : Int} (hx : ir x) (hy : ir y) (hdg : decode cc pc = .ok (.invokestatic index, 3)) (kk : W p l e R s m args below meth c H locs cells slots Q (F0 m (pc + 3) ls (.int (zi (max x y)) :: rest))) : W p l e R s m args below meth c H locs cells slots Q (F0 m pc ls (.int (zi y) :: .int (zi x) :: rest)) := va_mmax hexec hb hml hown hlink hstat hini hcode hframes hlocals hc hs hdg (by
  rw [show (if zi x < zi y then zi y else zi x) = zi (max x y) from by
    by_cases h : x < y
    · rw [if_pos ((zi_lt hx hy).mpr h), show max x y = y by omega]
    · rw [if_neg (fun h9 => h ((zi_lt hx hy).mp h9)), show max x y = x by omega]]
  exact kk)
theorem zi_mmin (hexec : p.tables.exec = Jvm.exec) (hb : c.code = cc) (hml : c.maxLocals = ls.size) {own : String} {index : Nat} (hown : s.vm.findClass own = some m.cls) (hlink : (Cond.methodLink own index Lib.Math.min.name).before args s = true) (hstat : (Cond.static Lib.Math.min.name).before args s = true) (hini : (Cond.initialized "java/lang/Math").before args s = true) (hcode : (Cond.code Lib.Math.min.name Lib.Math.min.code 2 (some .int)).before args s = true) (hframes : 1 ≤ R.frames) (hlocals : (rest.map fun v => v.category).sum + 13 ≤ R.locals) (hc : cells ≤ R.cells) (hs : slots ≤ R.slots) {x y : Int} (hx : ir x) (hy : ir y) (hdg : decode cc pc = .ok (.invokestatic index, 3)) (kk : W p l e R s m args below meth c H locs cells slots Q (F0 m (pc + 3) ls (.int (zi (min x y)) :: rest))) : W p l e R s m args below meth c H locs cells slots Q (F0 m pc ls (.int (zi y) :: .int (zi x) :: rest)) := va_mmin hexec hb hml hown hlink hstat hini hcode hframes hlocals hc hs hdg (by
  rw [show (if zi y < zi x then zi y else zi x) = zi (min x y) from by
    by_cases h : y < x
    · rw [if_pos ((zi_lt hy hx).mpr h), show min x y = y by omega]
    · rw [if_neg (fun h9 => h ((zi_lt hy hx).mp h9)), show min x y = x by omega]]
  exact kk)
theorem zi_mabs (hexec : p.tables.exec = Jvm.exec) (hb : c.code = cc) (hml : c.maxLocals = ls.size) {own : String} {index : Nat} (hown : s.vm.findClass own = some m.cls) (hlink : (Cond.methodLink own index Lib.Math.abs.name).before args s = true) (hstat : (Cond.static Lib.Math.abs.name).before args s = true) (hini : (Cond.initialized "java/lang/Math").before args s = true) (hcode : (Cond.code Lib.Math.abs.name Lib.Math.abs.code 1 (some .int)).before args s = true) (hframes : 1 ≤ R.frames) (hlocals : (rest.map fun v => v.category).sum + 13 ≤ R.locals) (hc : cells ≤ R.cells) (hs : slots ≤ R.slots) {x : Int} (hx : ir x) (hdg : decode cc pc = .ok (.invokestatic index, 3)) (kk : W p l e R s m args below meth c H locs cells slots Q (F0 m (pc + 3) ls (.int (zi (max x (-x))) :: rest))) : W p l e R s m args below meth c H locs cells slots Q (F0 m pc ls (.int (zi x) :: rest)) := va_mabs hexec hb hml hown hlink hstat hini hcode hframes hlocals hc hs hdg (by
  rw [show (if 0 ≤ zi x then zi x else 0 - zi x) = zi (max x (-x)) from by
    by_cases h : 0 ≤ x
    · rw [if_pos (show (0 : Int32) ≤ zi x from (zi_le ir_0 hx).mpr h), show max x (-x) = x by omega]
    · rw [if_neg (show ¬ (0 : Int32) ≤ zi x from fun h9 => h ((zi_le ir_0 hx).mp h9)), show max x (-x) = 0 - x by omega]; exact zi_sub 0 x]
  exact kk)
theorem zi_bald {D : va_G} {cl : List vw_C} {ws : va_W} {tys : List (ClassId × FieldType)} {a : Nat} (hexec : p.tables.exec = Jvm.exec) (hb : c.code = cc) (hK : va_K D cl tys s) (hP : va_P D cl ws H) (q0 t0 : Nat) {cA : ClassId} {n : Nat} {g : Int → Int} (ha : ws[q0]? = some (a, .inl (cA, n, .inl (zf g)))) (ht : tys[t0]? = some (cA, .boolean)) {x : Int} (h0 : 0 ≤ x) (h1 : x < n) (hn : n < 2147483648) (hdg : decode cc pc = .ok (.baload, 1)) (kk : W p l e R s m args below meth c H locs cells slots Q (F0 m (pc + 1) ls (.int (zi (g x)) :: rest))) : W p l e R s m args below meth c H locs cells slots Q (F0 m pc ls (.int (zi x) :: .ref a :: rest)) := by
  have hr : ir x := ⟨by omega, by omega⟩
  refine va_zald hexec hb hK hP q0 t0 ha ht (vp_in_iff.mpr (by rw [zi_toInt hr]; exact ⟨h0, h1⟩)) hdg ?_
  rw [zi_cl hr]
  show W p l e R s m args below meth c H locs cells slots Q (F0 m (pc + 1) ls (.int (zi (g (x.toNat : Int))) :: rest))
  rw [Int.toNat_of_nonneg h0]
  exact kk
theorem zi_bast {D : va_G} {cl : List vw_C} {ws : va_W} {tys : List (ClassId × FieldType)} {a : Nat} {A : Nat → Prop} {H0 : Heap} (hexec : p.tables.exec = Jvm.exec) (hb : c.code = cc) (hK : va_K D cl tys s) (hP : va_P D cl ws H) (hD : va_D A ws) (hS : va_S A H0 H locs) (q0 t0 : Nat) {cA : ClassId} {n : Nat} {g : Int → Int} (ha : ws[q0]? = some (a, .inl (cA, n, .inl (zf g)))) (ht : tys[t0]? = some (cA, .boolean)) {x v : Int} (h0 : 0 ≤ x) (h1 : x < n) (hn : n < 2147483648) (hv : v = 0 ∨ v = 1) (hdg : decode cc pc = .ok (.bastore, 1)) (kk : ∀ (H1 : Heap) (locs1 : List Loc), va_P D cl (ws.set q0 (a, .inl (cA, n, .inl (zf (up g x v))))) H1 → va_S A H0 H1 locs1 → W p l e R s m args below meth c H1 locs1 cells slots Q (F0 m (pc + 1) ls rest)) : W p l e R s m args below meth c H locs cells slots Q (F0 m pc ls (.int (zi v) :: .int (zi x) :: .ref a :: rest)) := by
  have hr : ir x := ⟨by omega, by omega⟩
  refine va_zast hexec hb hK hP hD hS q0 t0 ha ht (vp_in_iff.mpr (by rw [zi_toInt hr]; exact ⟨h0, h1⟩)) hdg (fun H1 locs1 k1 _ k3 => kk H1 locs1 ?_ k3)
  have e : vp_nar .boolean (zi v) = zi v := by rcases hv with rfl | rfl <;> decide
  rw [zf_up g v h0, ← zi_cl hr, ← e]
  exact k1
end ZROWS
