set_option maxRecDepth 16384 in
theorem appl9 (R : Room) (h1 : about9.frames.length + R.frames ≤ launch0.maxFrames) (h2 : about9.heap.size + R.cells ≤ launch0.maxCells) (h3 : about9.slotsUsed + R.slots ≤ launch0.maxSlots) (h4 : about9.localsInUse + R.locals ≤ launch0.maxStackSlots - stackMargin) (h5 : about9.localsInUse + R.locals + stackMargin ≤ realStackBytes / 8) : (headSpec (Cond.code x code maxLocals ret :: tables_1) R).applies x start1.e0.platform about9 = true :=
  (Spec.applies_iff rfl).mpr ⟨rfl, rfl, rfl, by decide +kernel, by decide +kernel, by decide +kernel, launch0.hasRoom_least _ R h1 h2 h3 h4 (by decide +kernel) (by decide +kernel) h5, atoms_intro words9⟩
set_option maxRecDepth 16384 in
theorem start9 : AtStart classFile x code maxLocals ret World_1 tables_1 room_1 Calls_1 rest_1 Pre_1 launch0 start1.p0 start1.e0 about9 ⟨0, 0⟩ start1.args0 Lib.HandBits.below0 :=
  ⟨lists_1, trivial, launch0.admits_env _ _ _, launch0.least_env, fairChoices_fair.cas, fairChoices_fair.clock, rfl, by decide +kernel, by decide +kernel, appl9 room_1 (by decide +kernel) (by decide +kernel) (by decide +kernel) (by decide +kernel) (by decide +kernel), trivial, (show rest_1_c.before start1.args0 about9 = true by decide +kernel), (show (Cond.and given_1 narrow_1).before start1.args0 about9 = true by decide +kernel)⟩
def bigP (args : Array Value) (s : State) : Prop := args = #[.ref 0] ∧ va_X 0 0 (fun _ => 0) s s.heap
def bigQ (_ : Array Value) (s : State) (_ : Outcome) (t : State) : Prop := 46873 < ((t.heap.toList.drop s.heap.size).map (fun c => c.slots.size)).sum
set_option maxHeartbeats 4000000 in
theorem big_walk (l : Launch) : MetFree l x (headSpec (Jvm.Cond.code x code maxLocals ret :: tables_1) roomB) bigP (fun _ _ _ _ _ => True) bigQ := by
  refine MetFree.of_bodyS (code := code) (maxLocals := maxLocals) (ret := ret) (by decide) ?_ ?_
  · intro args s m h hn
    obtain ⟨meth, c, h1, h2, h3, h4, h5, h6, -, -⟩ := Cond.code_spec hn (atoms_spec (ws := Jvm.Cond.code x code maxLocals ret :: tables_1) h _ List.mem_cons_self)
    exact ⟨meth, c, h1, h2, h3, h4, h5, h6⟩
  · intro p e s m args below meth c s₁ B hml0 hP _
    obtain ⟨rfl, hX⟩ := hP
    have hown : s.vm.findClass RL = some m.cls := findClass_of_methodNamed B.named
    have hts0 : ∀ c ∈ (Jvm.Cond.code x code maxLocals ret :: tables_1), c.before #[Value.ref 0] s = true := atoms_spec (ws := Jvm.Cond.code x code maxLocals ret :: tables_1) B.pre
    have hts : ∀ w ∈ lw_tbl, w.before #[Value.ref 0] s = true := k2_hts_sels lw_privs (fun w hw => hts0 w (List.mem_cons_of_mem _ hw)) lw_privs_ok
    have hml : c.maxLocals = 7 := B.maxLocals_eq (hts0 _ List.mem_cons_self)
    have X₀ : Stand p l e roomB s m #[Value.ref 0] below meth c s₁ [] 0 0 := Stand.of_body B
    have hh0 : s₁.heap = s.heap := by rw [B.state]; rfl
    have hbl : 0 < s.heap.size := by
      obtain ⟨scr, h1, _⟩ := hX
      exact (Array.getElem?_eq_some_iff.mp h1).1
    have K : W p l e roomB s m #[Value.ref 0] below meth c s₁.heap [] 0 0 (bigZ below s) (entryFrame m ([Value.ref 0] : List Value).toArray 7) := by
      rw [hh0]
      exact big_start l B.exec B.bytes B.returns hml hown hts hX hbl B.notSynchronized
    obtain ⟨t, a1, o, b1, b2, b3⟩ := K s₁ rfl X₀
    exact ⟨t, o, a1, b1, b2, b3⟩
theorem x9 : va_X 0 0 (fun _ => 0) about9 about9.heap := ⟨_, rfl, ⟨fun k h => (by cases h), _, rfl, 20, rfl⟩, fun h => (by cases h), rfl, fun j h => absurd h (by omega)⟩
/-- at the start about9 (an empty script) the law ends, and has made more slots than the Statement's Framed allows -/
theorem run9 : ∃ (n : Nat) (o : Outcome), (∀ k, k < n → Within (stepsAlone start1.p0.tables start1.e0 k about9) Lib.HandBits.below0) ∧ (stepsAlone start1.p0.tables start1.e0 n about9).status = Status.running ∧ Ended (stepsAlone start1.p0.tables start1.e0 n about9) Lib.HandBits.below0 o ∧ bigQ start1.args0 about9 o (stepsAlone start1.p0.tables start1.e0 n about9) := by
  obtain ⟨k, o, h1, h2, h3, hQ⟩ := big_walk launch0 start1.p0 start1.e0 (launch0.admits_env _ _ _) fairChoices_fair.cas fairChoices_fair.clock about9 ⟨0, 0⟩ start1.args0 Lib.HandBits.below0 rfl ((Spec.applies_iff_loose rfl).mp (appl9 roomB (by decide +kernel) (by decide +kernel) (by decide +kernel) (by decide +kernel) (by decide +kernel))).1 ⟨rfl, x9⟩ trivial
  exact ⟨k, o, h1, h2, h3, hQ⟩
theorem no_frame {s t : State} {o : Outcome} {L : List Loc} {args : Array Value} (h : bigQ args s o t) : ¬ Framed s o t L 1109 46873 := fun hF => by
  obtain ⟨_, _, _, _, _, _, hle, _⟩ := hF
  have h1 : ((t.heap.toList.drop s.heap.size).map (fun c => c.slots.size)).sum ≤ 46873 := hle
  unfold bigQ at h
  omega
/-- the Statement's own word for it: Claimed_1_1 is refuted -/
theorem refuted_1 : RefutedClaimed_1_1 := by
  obtain ⟨n, o, h1, h2, h3, hQ⟩ := run9
  exact ⟨launch0, start1.p0, start1.e0, about9, ⟨0, 0⟩, start1.args0, Lib.HandBits.below0, rfl, start9, n, o, h1, h2, h3, fun hP => no_frame hQ hP.2⟩
theorem refuted_2 : RefutedClaimed_1_2 := by
  obtain ⟨n, o, h1, h2, h3, hQ⟩ := run9
  exact ⟨launch0, start1.p0, start1.e0, about9, ⟨0, 0⟩, start1.args0, Lib.HandBits.below0, rfl, start9, n, o, h1, h2, h3, fun hP => no_frame hQ hP.2⟩
/-- what is owed (i_vc) is false: its first half alone is -/
theorem not_claimed_1 : ¬ Claimed_1_1 := fun hC => by
  obtain ⟨n, o, h1, h2, h3, hQ⟩ := run9
  obtain ⟨-, -, a1, -, a2, a3, a4, a5, a6, a7, a8, a9, a10⟩ := start9
  obtain ⟨n2, o2, g1, g2, g3, g4⟩ := hC launch0 rfl lists_1 trivial start1.p0 start1.e0 a1 a2 a3 about9 ⟨0, 0⟩ start1.args0 Lib.HandBits.below0 a4 a5 a6 a7 ⟨a8, a9, a10⟩
  have e : n = n2 := by
    rcases Nat.lt_trichotomy n n2 with h | h | h
    · exact absurd (g1 n h) h3.not_within
    · exact h
    · exact absurd (h1 n2 h) g3.not_within
  subst e
  have hQ2 : bigQ start1.args0 about9 o2 (stepsAlone start1.p0.tables start1.e0 n about9) := hQ
  exact no_frame hQ2 g4.2
theorem not_owed : ¬ (Claimed_1_1 ∧ Claimed_1_2) := fun h => not_claimed_1 h.1

