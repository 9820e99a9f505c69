/-! the law's own count of orbits, as a program -/
def oPr (M : ZS) (b o d k : Int) : Prop := lookM M k b ∨ (0 ≤ o ∧ lookM M k o) ∨ k = d
def oPut (g : ZS) (n t p e : Int) : ZS := su (su (su g 0 (up (g 0) n t)) 1 (up (su g 0 (up (g 0) n t) 1) n p)) 2 (up (su (su g 0 (up (g 0) n t)) 1 (up (su g 0 (up (g 0) n t) 1) n p) 2) n e)
noncomputable def oF (M : ZS) (b o d k : Int) (q : ZS × Int) : ZS × Int := cif (oPr M b o d k) (oPut q.1 q.2 (nM M k) (tM M k) (eM M k), q.2 + 1) q
noncomputable def oG (M : ZS) (b o d : Int) : ZS × Int := itr (oF M b o d) 40 0 (fun _ _ => 0, 0)
def oB (g : ZS) : Prop := ∀ j : Int, (0 ≤ g 0 j ∧ g 0 j ≤ 999) ∧ (0 ≤ g 1 j ∧ g 1 j ≤ 3599) ∧ 0 ≤ g 2 j ∧ g 2 j ≤ 9
theorem oPut_0 (g : ZS) (n t p e : Int) : oPut g n t p e 0 = up (g 0) n t := rfl
theorem oPut_1 (g : ZS) (n t p e : Int) : oPut g n t p e 1 = up (g 1) n p := rfl
theorem oPut_2 (g : ZS) (n t p e : Int) : oPut g n t p e 2 = up (g 2) n e := rfl
theorem oPut_b {g : ZS} (h : oB g) {n t p e : Int} (ht : 0 ≤ t ∧ t ≤ 999) (hp : 0 ≤ p ∧ p ≤ 3599) (he : 0 ≤ e ∧ e ≤ 9) : oB (oPut g n t p e) := by
  intro j
  rw [oPut_0, oPut_1, oPut_2]
  by_cases hj : j = n
  · subst hj
    rw [up_s, up_s, up_s]
    exact ⟨ht, hp, he⟩
  · rw [up_n _ _ hj, up_n _ _ hj, up_n _ _ hj]
    exact h j
theorem mB_n {M : ZS} (h : MB M) (x : Int) : (0 : Int) ≤ nM M x ∧ nM M x ≤ 999 := h 5 _
theorem mB_e {M : ZS} (h : MB M) (x : Int) : (0 : Int) ≤ eM M x ∧ eM M x ≤ 9 := h 2 _
def oFr (g : ZS) (bc : Int) : Int := g 1 0 - (0 + mvM (bc % 81 - 40) (bc / 81 - 2) (g 0 0)) % 3600
def oNr (g : ZS) (bc a k : Int) : Prop := apM ((a + mvM (bc % 81 - 40) (bc / 81 - 2) (g 0 k)) % 3600) (g 1 k) ≤ g 2 k
def oFt (g : ZS) (n bc a : Int) : Prop := ¬ anyI (fun k => ¬ oNr g bc a k) (n - 1).toNat 1
noncomputable def oIn (g : ZS) (n bc e acc : Int) : Int := acc + b2 (oFt g n bc (oFr g bc + e))
noncomputable def oOut (g : ZS) (n bc acc : Int) : Int := itr (oIn g n bc) (2 * g 2 0 + 1).toNat (-(g 2 0)) acc
noncomputable def oCnt (g : ZS) (n : Int) : Int := itr (oOut g n) 405 0 0
noncomputable def orN (M : ZS) (b o d : Int) : Int := oCnt (oG M b o d).1 (oG M b o d).2
