def xIOB : String := "java/lang/IndexOutOfBoundsException"
def xIAE : String := "java/lang/IllegalArgumentException"
def xISE : String := "java/lang/IllegalStateException"
def xNS : List String := ["java/lang/RuntimeException", "java/lang/Exception"]
def xTx : List (Nat × String) := [(243, "there is no such one"), (246, "an argument is out of its range"), (61, "there are 6 observatories"), (77, "there are 30 plates"), (86, "there are 60 dots"), (111, "the dot is not unlinked"), (116, "there are 20 bodies"), (129, "the dot cannot be linked to the body"), (140, "the dot is no own dot of the body, or the only one"), (145, "the bodies cannot be joined"), (156, "no body is joined to it"), (164, "the body cannot get a number"), (208, "there is no rank below 0")]
def xB : List Cond := (vx_atS RX7 245 xIOB xNS ++ (vx_atS RX7 210 xIAE xNS ++ vx_atS RX7 63 xISE xNS)).filter (fun w => !goodWord w)
/-- what a throw of the desk needs of the state: the statics of Throwable, the texts, the words -/
def xP (sa : Nat → Nat) (A : Nat → Prop) (U : State) (H : Heap) : Prop := vx_Zq Bundle.tN "UNASSIGNED_STACK" Bundle.steD A U H ∧ vx_Zq Bundle.tN "SUPPRESSED_SENTINEL" Bundle.listD A U H ∧ (∀ (k : Nat) (q : Nat × String), xTx[k]? = some q → vk_R RX7 q.1 q.2 (sa k) U) ∧ ∀ w ∈ xB, w.before #[] U = true
