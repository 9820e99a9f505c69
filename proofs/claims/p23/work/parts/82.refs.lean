/-! a start with an empty script -/
def about9 : State := start1.aboutOf #[]
theorem w9_1 : tables_1_1.all (fun c => c.onTables || c.before start1.args0 about9) = true := by decide +kernel
theorem w9_2 : tables_1_2.all (fun c => c.onTables || c.before start1.args0 about9) = true := by decide +kernel
theorem w9_3 : tables_1_3.all (fun c => c.onTables || c.before start1.args0 about9) = true := by decide +kernel
theorem w9_4 : tables_1_4.all (fun c => c.onTables || c.before start1.args0 about9) = true := by decide +kernel
theorem w9_5 : tables_1_5.all (fun c => c.onTables || c.before start1.args0 about9) = true := by decide +kernel
theorem w9_of {L : List Cond} (h : L.all (fun c => c.onTables || c.before start1.args0 about9) = true) (hL : ∀ c ∈ L, c.before start1.args0 start1.about = true) : ∀ c ∈ L, c.before start1.args0 about9 = true := fun c hc => by
  have h1 := List.all_eq_true.mp h c hc
  rcases Bool.or_eq_true _ _ ▸ h1 with h2 | h2
  · exact va_tabs h2 (show start1.about.vm = about9.vm from rfl) (hL c hc)
  · exact h2
theorem words9 : ∀ c ∈ (Cond.code x code maxLocals ret :: tables_1), c.before start1.args0 about9 = true := by
  intro c hc
  rcases List.mem_cons.mp hc with h | h
  · rw [h]
    exact va_tabs rfl (show start1.about.vm = about9.vm from rfl) (start1.words _ List.mem_cons_self)
  · have hA : ∀ c ∈ tables_1, c.before start1.args0 start1.about = true := fun c h => start1.words c (List.mem_cons_of_mem _ h)
    have h1 : c ∈ tables_1_1 ++ (tables_1_2 ++ (tables_1_3 ++ (tables_1_4 ++ tables_1_5))) := h
    have hB : ∀ c ∈ tables_1_1 ++ (tables_1_2 ++ (tables_1_3 ++ (tables_1_4 ++ tables_1_5))), c.before start1.args0 start1.about = true := hA
    rcases List.mem_append.mp h1 with h2 | h1
    · exact w9_of w9_1 (fun c hc => hB c (List.mem_append_left _ hc)) c h2
    rcases List.mem_append.mp h1 with h2 | h1
    · exact w9_of w9_2 (fun c hc => hB c (List.mem_append_right _ (List.mem_append_left _ hc))) c h2
    rcases List.mem_append.mp h1 with h2 | h1
    · exact w9_of w9_3 (fun c hc => hB c (List.mem_append_right _ (List.mem_append_right _ (List.mem_append_left _ hc)))) c h2
    rcases List.mem_append.mp h1 with h2 | h1
    · exact w9_of w9_4 (fun c hc => hB c (List.mem_append_right _ (List.mem_append_right _ (List.mem_append_right _ (List.mem_append_left _ hc))))) c h2
    exact w9_of w9_5 (fun c hc => hB c (List.mem_append_right _ (List.mem_append_right _ (List.mem_append_right _ (List.mem_append_right _ hc))))) c h1

