/-! the reference, second part -/
def ownM (S : ZS) (b : Int) : Int := itr (fun j acc => if S 10 j = b then acc + 1 else acc) (S 6 0).toNat 0 0
def joinM (S : ZS) (b : Int) : Int := itr (fun j acc => if S 12 j = b then acc + 1 else acc) (S 11 0).toNat 0 0
def lateG (S : ZS) (h j la : Int) : Int := if S 12 j = h ∧ (la = -1 ∨ S 13 la < S 13 j) then j else la
def lateM (S : ZS) (h : Int) : Int := itr (lateG S h) (S 11 0).toNat 0 (-1)
def firstM (G : ZS) : Int := itr (fun i f => if nM G (G 20 i) < nM G f then G 20 i else f) (G 19 0 - 1).toNat 1 (G 20 0)
theorem nM_sm {S T : ZS} (h : SM S T) (x : Int) : nM T x = nM S x := by unfold nM; rw [h 5 rfl, h 7 rfl]
def strQ (S : ZS) (b o f1 f2 : Int) : Prop := (0 < S 14 b + S 14 o ∧ 0 < S 14 b) ∨ (¬ 0 < S 14 b + S 14 o ∧ (nM S f1 < nM S f2 ∨ (nM S f1 = nM S f2 ∧ f1 < f2)))
noncomputable def strM (S : ZS) (b o : Int) : Int := cif (strQ S b o (firstM (laysM b S)) (firstM (laysM o (laysM b S)))) b o
def addK (M : ZS) (d : Int) : ZS := su (su M 20 (up (M 20) (M 19 0) d)) 19 (fun _ => M 19 0 + 1)
theorem addK_n {M : ZS} {d : Int} {r : Nat} (h1 : r ≠ 20) (h2 : r ≠ 19) : addK M d r = M r := by unfold addK; rw [su_n _ _ h2, su_n _ _ h1]
theorem SM_ad {S : ZS} {d : Int} : SM S (addK S d) := fun _ hk => addK_n (scm_ne hk rfl) (scm_ne hk rfl)
noncomputable def clP (S : ZS) (b d : Int) : Prop := S 10 d = -1 ∧ S 12 b = -1 ∧ ¬ onP (laysM b S) (S 7 d) (laysM b S 19 0) ∧ 0 < findM (addK (laysM b S) d) 21 0
noncomputable def clT (S : ZS) (b d : Int) : ZS := cif (S 10 d = -1 ∧ S 12 b = -1) (cif (onP (laysM b S) (S 7 d) (laysM b S 19 0)) (laysM b S) (findM (addK (laysM b S) d))) S
theorem SM_cl {S : ZS} {b d : Int} : SM S (clT S b d) := by
  unfold clT
  by_cases h : S 10 d = -1 ∧ S 12 b = -1
  · rw [cif_t h]
    by_cases h2 : onP (laysM b S) (S 7 d) (laysM b S 19 0)
    · rw [cif_t h2]; exact SM_la
    · rw [cif_f h2]; exact SM_la.tr (SM_ad.tr SM_fd)
  · rw [cif_f h]; exact SM.rf
noncomputable def caF (b k : Int) (q : ZS × Int) : ZS × Int := (clT q.1 b k, q.2 + b2 (clP q.1 b k))
noncomputable def caM (S : ZS) (b : Int) : ZS × Int := itr (caF b) (S 6 0).toNat 0 (S, 0)
noncomputable def cjL (S : ZS) (b o : Int) : ZS := laysA o (laysM b S)
noncomputable def mayP (S : ZS) (b o : Int) : Prop := ¬ anyI (fun k => ¬ ¬ onP (cjL S b o) (cjL S b o 7 (cjL S b o 20 k)) (laysM b S 19 0)) (cjL S b o 19 0 - laysM b S 19 0).toNat (laysM b S 19 0)
noncomputable def cjP (S : ZS) (b o : Int) : Prop := (b ≠ o ∧ S 12 b = -1 ∧ S 12 o = -1 ∧ ¬ (0 < S 14 b ∧ 0 < S 14 o)) ∧ mayP S b o ∧ 0 < findM (cjL S b o) 21 0
theorem SM_laA {b : Int} {S : ZS} : SM S (laysA b S) := fun _ hk => laysA_n (scm_ne hk rfl) (scm_ne hk rfl)
