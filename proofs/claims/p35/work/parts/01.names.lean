-- ===== PART A: goes FIRST, ahead of the names: the tables' words, and 'selects' of the private methods out of them =====
/-- a private method of a class that the tables say can be made, by its rows of tables_1 -/
def lw_okq (q : MethodName × Nat) : Prop := (q.1.cls ≠ "java/lang/invoke/MethodHandle" ∧ q.1.cls ≠ "java/lang/invoke/VarHandle") ∧ Cond.instantiable q.1.cls q.2 ∈ tables_1 ∧ Cond.privateMethod q.1 ∈ tables_1 ∧ Cond.instanceMethod q.1 ∈ tables_1
theorem lw_h1 {w : Cond} (h : w ∈ tables_1_1) : w ∈ tables_1 := List.mem_append_left _ h
theorem lw_h2 {w : Cond} (h : w ∈ tables_1_2) : w ∈ tables_1 := List.mem_append_right _ (List.mem_append_left _ h)
theorem lw_h3 {w : Cond} (h : w ∈ tables_1_3) : w ∈ tables_1 := List.mem_append_right _ (List.mem_append_right _ (List.mem_append_left _ h))
theorem lw_h4 {w : Cond} (h : w ∈ tables_1_4) : w ∈ tables_1 := List.mem_append_right _ (List.mem_append_right _ (List.mem_append_right _ (List.mem_append_left _ h)))
theorem lw_h5 {w : Cond} (h : w ∈ tables_1_5) : w ∈ tables_1 := List.mem_append_right _ (List.mem_append_right _ (List.mem_append_right _ (List.mem_append_right _ (List.mem_append_left _ h))))
theorem lw_h6 {w : Cond} (h : w ∈ tables_1_6) : w ∈ tables_1 := List.mem_append_right _ (List.mem_append_right _ (List.mem_append_right _ (List.mem_append_right _ (List.mem_append_right _ (List.mem_append_left _ h)))))
theorem lw_h7 {w : Cond} (h : w ∈ tables_1_7) : w ∈ tables_1 := List.mem_append_right _ (List.mem_append_right _ (List.mem_append_right _ (List.mem_append_right _ (List.mem_append_right _ (List.mem_append_right _ (List.mem_append_left _ h))))))
theorem lw_h8 {w : Cond} (h : w ∈ tables_1_8) : w ∈ tables_1 := List.mem_append_right _ (List.mem_append_right _ (List.mem_append_right _ (List.mem_append_right _ (List.mem_append_right _ (List.mem_append_right _ (List.mem_append_right _ (h)))))))
theorem lw_c0 : (("SenateRoll$Judge" : String) ≠ "java/lang/invoke/MethodHandle" ∧ ("SenateRoll$Judge" : String) ≠ "java/lang/invoke/VarHandle") ∧ Cond.instantiable "SenateRoll$Judge" 5 ∈ tables_1 := ⟨⟨by decide +kernel, by decide +kernel⟩, lw_h1 (List.mem_of_getElem? (i := 204) rfl)⟩
theorem lw_p0 : lw_okq (⟨"SenateRoll$Judge", "putCode", "(I[I)V"⟩, 5) := ⟨lw_c0.1, lw_c0.2, lw_h1 (List.mem_of_getElem? (i := 214) rfl), lw_h1 (List.mem_of_getElem? (i := 215) rfl)⟩
theorem lw_c1 : (("SenateRoll" : String) ≠ "java/lang/invoke/MethodHandle" ∧ ("SenateRoll" : String) ≠ "java/lang/invoke/VarHandle") ∧ Cond.instantiable "SenateRoll" 12 ∈ tables_1 := ⟨⟨by decide +kernel, by decide +kernel⟩, lw_h1 (List.mem_of_getElem? (i := 23) rfl)⟩
theorem lw_p1 : lw_okq (⟨"SenateRoll", "allCourses", "()I"⟩, 12) := ⟨lw_c1.1, lw_c1.2, lw_h2 (List.mem_of_getElem? (i := 146) rfl), lw_h2 (List.mem_of_getElem? (i := 147) rfl)⟩
theorem lw_p2 : lw_okq (⟨"SenateRoll", "isStudent", "(I)Z"⟩, 12) := ⟨lw_c1.1, lw_c1.2, lw_h2 (List.mem_of_getElem? (i := 206) rfl), lw_h2 (List.mem_of_getElem? (i := 207) rfl)⟩
theorem lw_p3 : lw_okq (⟨"SenateRoll", "isCourse", "(I)Z"⟩, 12) := ⟨lw_c1.1, lw_c1.2, lw_h2 (List.mem_of_getElem? (i := 210) rfl), lw_h2 (List.mem_of_getElem? (i := 211) rfl)⟩
theorem lw_p4 : lw_okq (⟨"SenateRoll", "isKnownAfter", "(II)Z"⟩, 12) := ⟨lw_c1.1, lw_c1.2, lw_h2 (List.mem_of_getElem? (i := 238) rfl), lw_h2 (List.mem_of_getElem? (i := 239) rfl)⟩
theorem lw_p5 : lw_okq (⟨"SenateRoll", "enterBy", "(III)I"⟩, 12) := ⟨lw_c1.1, lw_c1.2, lw_h3 (List.mem_of_getElem? (i := 2) rfl), lw_h3 (List.mem_of_getElem? (i := 3) rfl)⟩
theorem lw_c2 : (("SenateRoll$Known" : String) ≠ "java/lang/invoke/MethodHandle" ∧ ("SenateRoll$Known" : String) ≠ "java/lang/invoke/VarHandle") ∧ Cond.instantiable "SenateRoll$Known" 4 ∈ tables_1 := ⟨⟨by decide +kernel, by decide +kernel⟩, lw_h1 (List.mem_of_getElem? (i := 112) rfl)⟩
theorem lw_p6 : lw_okq (⟨"SenateRoll$Known", "sift", "(II)V"⟩, 4) := ⟨lw_c2.1, lw_c2.2, lw_h3 (List.mem_of_getElem? (i := 42) rfl), lw_h3 (List.mem_of_getElem? (i := 43) rfl)⟩
theorem lw_p7 : lw_okq (⟨"SenateRoll$Known", "gather", "()V"⟩, 4) := ⟨lw_c2.1, lw_c2.2, lw_h3 (List.mem_of_getElem? (i := 55) rfl), lw_h3 (List.mem_of_getElem? (i := 56) rfl)⟩
theorem lw_p8 : lw_okq (⟨"SenateRoll$Known", "gatherOne", "(I)V"⟩, 4) := ⟨lw_c2.1, lw_c2.2, lw_h3 (List.mem_of_getElem? (i := 67) rfl), lw_h3 (List.mem_of_getElem? (i := 68) rfl)⟩
theorem lw_p9 : lw_okq (⟨"SenateRoll$Known", "rowOf", "(I)I"⟩, 4) := ⟨lw_c2.1, lw_c2.2, lw_h3 (List.mem_of_getElem? (i := 71) rfl), lw_h3 (List.mem_of_getElem? (i := 72) rfl)⟩
theorem lw_p10 : lw_okq (⟨"SenateRoll$Known", "bringFirst", "(I)V"⟩, 4) := ⟨lw_c2.1, lw_c2.2, lw_h3 (List.mem_of_getElem? (i := 80) rfl), lw_h3 (List.mem_of_getElem? (i := 81) rfl)⟩
theorem lw_p11 : lw_okq (⟨"SenateRoll$Known", "scaledOf", "(II)I"⟩, 4) := ⟨lw_c2.1, lw_c2.2, lw_h3 (List.mem_of_getElem? (i := 99) rfl), lw_h3 (List.mem_of_getElem? (i := 100) rfl)⟩
theorem lw_p12 : lw_okq (⟨"SenateRoll$Judge", "latestOf", "(IZ)I"⟩, 5) := ⟨lw_c0.1, lw_c0.2, lw_h3 (List.mem_of_getElem? (i := 138) rfl), lw_h3 (List.mem_of_getElem? (i := 139) rfl)⟩
theorem lw_p13 : lw_okq (⟨"SenateRoll$Judge", "rowsOf", "(I)LSenateRoll$Rows;"⟩, 5) := ⟨lw_c0.1, lw_c0.2, lw_h3 (List.mem_of_getElem? (i := 162) rfl), lw_h3 (List.mem_of_getElem? (i := 163) rfl)⟩
theorem lw_c3 : (("SenateRoll$Machine" : String) ≠ "java/lang/invoke/MethodHandle" ∧ ("SenateRoll$Machine" : String) ≠ "java/lang/invoke/VarHandle") ∧ Cond.instantiable "SenateRoll$Machine" 6 ∈ tables_1 := ⟨⟨by decide +kernel, by decide +kernel⟩, lw_h1 (List.mem_of_getElem? (i := 178) rfl)⟩
theorem lw_p14 : lw_okq (⟨"SenateRoll$Machine", "push", "(J)V"⟩, 6) := ⟨lw_c3.1, lw_c3.2, lw_h3 (List.mem_of_getElem? (i := 172) rfl), lw_h3 (List.mem_of_getElem? (i := 173) rfl)⟩
theorem lw_p15 : lw_okq (⟨"SenateRoll$Machine", "apply", "(II)V"⟩, 6) := ⟨lw_c3.1, lw_c3.2, lw_h3 (List.mem_of_getElem? (i := 176) rfl), lw_h3 (List.mem_of_getElem? (i := 177) rfl)⟩
def lw_privs_1 : List (MethodName × Nat) := [(⟨"SenateRoll$Judge", "putCode", "(I[I)V"⟩, 5), (⟨"SenateRoll", "allCourses", "()I"⟩, 12), (⟨"SenateRoll", "isStudent", "(I)Z"⟩, 12), (⟨"SenateRoll", "isCourse", "(I)Z"⟩, 12), (⟨"SenateRoll", "isKnownAfter", "(II)Z"⟩, 12), (⟨"SenateRoll", "enterBy", "(III)I"⟩, 12), (⟨"SenateRoll$Known", "sift", "(II)V"⟩, 4), (⟨"SenateRoll$Known", "gather", "()V"⟩, 4), (⟨"SenateRoll$Known", "gatherOne", "(I)V"⟩, 4), (⟨"SenateRoll$Known", "rowOf", "(I)I"⟩, 4), (⟨"SenateRoll$Known", "bringFirst", "(I)V"⟩, 4), (⟨"SenateRoll$Known", "scaledOf", "(II)I"⟩, 4), (⟨"SenateRoll$Judge", "latestOf", "(IZ)I"⟩, 5), (⟨"SenateRoll$Judge", "rowsOf", "(I)LSenateRoll$Rows;"⟩, 5), (⟨"SenateRoll$Machine", "push", "(J)V"⟩, 6), (⟨"SenateRoll$Machine", "apply", "(II)V"⟩, 6)]
theorem lw_r1 : ∀ q ∈ lw_privs_1, lw_okq q := List.forall_mem_cons.mpr ⟨lw_p0, List.forall_mem_cons.mpr ⟨lw_p1, List.forall_mem_cons.mpr ⟨lw_p2, List.forall_mem_cons.mpr ⟨lw_p3, List.forall_mem_cons.mpr ⟨lw_p4, List.forall_mem_cons.mpr ⟨lw_p5, List.forall_mem_cons.mpr ⟨lw_p6, List.forall_mem_cons.mpr ⟨lw_p7, List.forall_mem_cons.mpr ⟨lw_p8, List.forall_mem_cons.mpr ⟨lw_p9, List.forall_mem_cons.mpr ⟨lw_p10, List.forall_mem_cons.mpr ⟨lw_p11, List.forall_mem_cons.mpr ⟨lw_p12, List.forall_mem_cons.mpr ⟨lw_p13, List.forall_mem_cons.mpr ⟨lw_p14, List.forall_mem_cons.mpr ⟨lw_p15, fun _ h => absurd h List.not_mem_nil⟩⟩⟩⟩⟩⟩⟩⟩⟩⟩⟩⟩⟩⟩⟩⟩
theorem lw_p16 : lw_okq (⟨"SenateRoll$Machine", "pop", "()J"⟩, 6) := ⟨lw_c3.1, lw_c3.2, lw_h3 (List.mem_of_getElem? (i := 184) rfl), lw_h3 (List.mem_of_getElem? (i := 185) rfl)⟩
theorem lw_p17 : lw_okq (⟨"SenateRoll$Judge", "classWith", "(II)I"⟩, 5) := ⟨lw_c0.1, lw_c0.2, lw_h3 (List.mem_of_getElem? (i := 217) rfl), lw_h3 (List.mem_of_getElem? (i := 218) rfl)⟩
theorem lw_c4 : (("SenateRoll$Reader" : String) ≠ "java/lang/invoke/MethodHandle" ∧ ("SenateRoll$Reader" : String) ≠ "java/lang/invoke/VarHandle") ∧ Cond.instantiable "SenateRoll$Reader" 12 ∈ tables_1 := ⟨⟨by decide +kernel, by decide +kernel⟩, lw_h1 (List.mem_of_getElem? (i := 133) rfl)⟩
theorem lw_p18 : lw_okq (⟨"SenateRoll$Reader", "nextToken", "()V"⟩, 12) := ⟨lw_c4.1, lw_c4.2, lw_h4 (List.mem_of_getElem? (i := 51) rfl), lw_h4 (List.mem_of_getElem? (i := 52) rfl)⟩
theorem lw_p19 : lw_okq (⟨"SenateRoll$Reader", "letter", "(I)I"⟩, 12) := ⟨lw_c4.1, lw_c4.2, lw_h4 (List.mem_of_getElem? (i := 55) rfl), lw_h4 (List.mem_of_getElem? (i := 56) rfl)⟩
theorem lw_p20 : lw_okq (⟨"SenateRoll$Reader", "nextNumber", "()V"⟩, 12) := ⟨lw_c4.1, lw_c4.2, lw_h4 (List.mem_of_getElem? (i := 62) rfl), lw_h4 (List.mem_of_getElem? (i := 63) rfl)⟩
theorem lw_p21 : lw_okq (⟨"SenateRoll$Reader", "nextWord", "()V"⟩, 12) := ⟨lw_c4.1, lw_c4.2, lw_h4 (List.mem_of_getElem? (i := 69) rfl), lw_h4 (List.mem_of_getElem? (i := 70) rfl)⟩
theorem lw_p22 : lw_okq (⟨"SenateRoll$Reader", "wordThere", "()I"⟩, 12) := ⟨lw_c4.1, lw_c4.2, lw_h4 (List.mem_of_getElem? (i := 73) rfl), lw_h4 (List.mem_of_getElem? (i := 74) rfl)⟩
theorem lw_p23 : lw_okq (⟨"SenateRoll$Reader", "fail", "(I)V"⟩, 12) := ⟨lw_c4.1, lw_c4.2, lw_h4 (List.mem_of_getElem? (i := 126) rfl), lw_h4 (List.mem_of_getElem? (i := 127) rfl)⟩
theorem lw_p24 : lw_okq (⟨"SenateRoll$Reader", "failUnless", "(Z)V"⟩, 12) := ⟨lw_c4.1, lw_c4.2, lw_h4 (List.mem_of_getElem? (i := 186) rfl), lw_h4 (List.mem_of_getElem? (i := 187) rfl)⟩
theorem lw_p25 : lw_okq (⟨"SenateRoll$Reader", "takeUnit", "()V"⟩, 12) := ⟨lw_c4.1, lw_c4.2, lw_h4 (List.mem_of_getElem? (i := 190) rfl), lw_h4 (List.mem_of_getElem? (i := 191) rfl)⟩
theorem lw_p26 : lw_okq (⟨"SenateRoll$Reader", "takeNumber", "()V"⟩, 12) := ⟨lw_c4.1, lw_c4.2, lw_h4 (List.mem_of_getElem? (i := 194) rfl), lw_h4 (List.mem_of_getElem? (i := 195) rfl)⟩
theorem lw_p27 : lw_okq (⟨"SenateRoll$Reader", "emit", "(I)V"⟩, 12) := ⟨lw_c4.1, lw_c4.2, lw_h4 (List.mem_of_getElem? (i := 198) rfl), lw_h4 (List.mem_of_getElem? (i := 199) rfl)⟩
theorem lw_p28 : lw_okq (⟨"SenateRoll$Reader", "push", "(I)V"⟩, 12) := ⟨lw_c4.1, lw_c4.2, lw_h4 (List.mem_of_getElem? (i := 202) rfl), lw_h4 (List.mem_of_getElem? (i := 203) rfl)⟩
theorem lw_p29 : lw_okq (⟨"SenateRoll$Reader", "openOne", "()V"⟩, 12) := ⟨lw_c4.1, lw_c4.2, lw_h4 (List.mem_of_getElem? (i := 207) rfl), lw_h4 (List.mem_of_getElem? (i := 208) rfl)⟩
theorem lw_p30 : lw_okq (⟨"SenateRoll$Reader", "takeBehindUnit", "()V"⟩, 12) := ⟨lw_c4.1, lw_c4.2, lw_h4 (List.mem_of_getElem? (i := 211) rfl), lw_h4 (List.mem_of_getElem? (i := 212) rfl)⟩
theorem lw_p31 : lw_okq (⟨"SenateRoll$Reader", "emitDownTo", "(I)V"⟩, 12) := ⟨lw_c4.1, lw_c4.2, lw_h4 (List.mem_of_getElem? (i := 220) rfl), lw_h4 (List.mem_of_getElem? (i := 221) rfl)⟩
def lw_privs_2 : List (MethodName × Nat) := [(⟨"SenateRoll$Machine", "pop", "()J"⟩, 6), (⟨"SenateRoll$Judge", "classWith", "(II)I"⟩, 5), (⟨"SenateRoll$Reader", "nextToken", "()V"⟩, 12), (⟨"SenateRoll$Reader", "letter", "(I)I"⟩, 12), (⟨"SenateRoll$Reader", "nextNumber", "()V"⟩, 12), (⟨"SenateRoll$Reader", "nextWord", "()V"⟩, 12), (⟨"SenateRoll$Reader", "wordThere", "()I"⟩, 12), (⟨"SenateRoll$Reader", "fail", "(I)V"⟩, 12), (⟨"SenateRoll$Reader", "failUnless", "(Z)V"⟩, 12), (⟨"SenateRoll$Reader", "takeUnit", "()V"⟩, 12), (⟨"SenateRoll$Reader", "takeNumber", "()V"⟩, 12), (⟨"SenateRoll$Reader", "emit", "(I)V"⟩, 12), (⟨"SenateRoll$Reader", "push", "(I)V"⟩, 12), (⟨"SenateRoll$Reader", "openOne", "()V"⟩, 12), (⟨"SenateRoll$Reader", "takeBehindUnit", "()V"⟩, 12), (⟨"SenateRoll$Reader", "emitDownTo", "(I)V"⟩, 12)]
theorem lw_r2 : ∀ q ∈ lw_privs_2, lw_okq q := List.forall_mem_cons.mpr ⟨lw_p16, List.forall_mem_cons.mpr ⟨lw_p17, List.forall_mem_cons.mpr ⟨lw_p18, List.forall_mem_cons.mpr ⟨lw_p19, List.forall_mem_cons.mpr ⟨lw_p20, List.forall_mem_cons.mpr ⟨lw_p21, List.forall_mem_cons.mpr ⟨lw_p22, List.forall_mem_cons.mpr ⟨lw_p23, List.forall_mem_cons.mpr ⟨lw_p24, List.forall_mem_cons.mpr ⟨lw_p25, List.forall_mem_cons.mpr ⟨lw_p26, List.forall_mem_cons.mpr ⟨lw_p27, List.forall_mem_cons.mpr ⟨lw_p28, List.forall_mem_cons.mpr ⟨lw_p29, List.forall_mem_cons.mpr ⟨lw_p30, List.forall_mem_cons.mpr ⟨lw_p31, fun _ h => absurd h List.not_mem_nil⟩⟩⟩⟩⟩⟩⟩⟩⟩⟩⟩⟩⟩⟩⟩⟩
theorem lw_p32 : lw_okq (⟨"SenateRoll$Reader", "last", "()I"⟩, 12) := ⟨lw_c4.1, lw_c4.2, lw_h4 (List.mem_of_getElem? (i := 225) rfl), lw_h4 (List.mem_of_getElem? (i := 226) rfl)⟩
theorem lw_p33 : lw_okq (⟨"SenateRoll$Reader", "pushOperator", "()V"⟩, 12) := ⟨lw_c4.1, lw_c4.2, lw_h4 (List.mem_of_getElem? (i := 233) rfl), lw_h4 (List.mem_of_getElem? (i := 234) rfl)⟩
theorem lw_p34 : lw_okq (⟨"SenateRoll$Reader", "pushUnless", "(Z)V"⟩, 12) := ⟨lw_c4.1, lw_c4.2, lw_h4 (List.mem_of_getElem? (i := 237) rfl), lw_h4 (List.mem_of_getElem? (i := 238) rfl)⟩
theorem lw_p35 : lw_okq (⟨"SenateRoll$Reader", "turnIfToElse", "()V"⟩, 12) := ⟨lw_c4.1, lw_c4.2, lw_h5 (List.mem_of_getElem? (i := 1) rfl), lw_h5 (List.mem_of_getElem? (i := 2) rfl)⟩
theorem lw_p36 : lw_okq (⟨"SenateRoll$Reader", "endCases", "()V"⟩, 12) := ⟨lw_c4.1, lw_c4.2, lw_h5 (List.mem_of_getElem? (i := 5) rfl), lw_h5 (List.mem_of_getElem? (i := 6) rfl)⟩
theorem lw_p37 : lw_okq (⟨"SenateRoll$Reader", "closeOne", "()V"⟩, 12) := ⟨lw_c4.1, lw_c4.2, lw_h5 (List.mem_of_getElem? (i := 9) rfl), lw_h5 (List.mem_of_getElem? (i := 10) rfl)⟩
theorem lw_c5 : (("SenateRoll$Ways" : String) ≠ "java/lang/invoke/MethodHandle" ∧ ("SenateRoll$Ways" : String) ≠ "java/lang/invoke/VarHandle") ∧ Cond.instantiable "SenateRoll$Ways" 6 ∈ tables_1 := ⟨⟨by decide +kernel, by decide +kernel⟩, lw_h2 (List.mem_of_getElem? (i := 0) rfl)⟩
theorem lw_p38 : lw_okq (⟨"SenateRoll$Ways", "freeIn", "(II)I"⟩, 6) := ⟨lw_c5.1, lw_c5.2, lw_h5 (List.mem_of_getElem? (i := 59) rfl), lw_h5 (List.mem_of_getElem? (i := 60) rfl)⟩
theorem lw_p39 : lw_okq (⟨"SenateRoll$Ways", "isTaught", "(II)Z"⟩, 6) := ⟨lw_c5.1, lw_c5.2, lw_h5 (List.mem_of_getElem? (i := 63) rfl), lw_h5 (List.mem_of_getElem? (i := 64) rfl)⟩
theorem lw_p40 : lw_okq (⟨"SenateRoll$Ways", "leastFor", "(II)I"⟩, 6) := ⟨lw_c5.1, lw_c5.2, lw_h5 (List.mem_of_getElem? (i := 69) rfl), lw_h5 (List.mem_of_getElem? (i := 70) rfl)⟩
theorem lw_p41 : lw_okq (⟨"SenateRoll$Ways", "earliest", "(III)I"⟩, 6) := ⟨lw_c5.1, lw_c5.2, lw_h5 (List.mem_of_getElem? (i := 74) rfl), lw_h5 (List.mem_of_getElem? (i := 75) rfl)⟩
theorem lw_p42 : lw_okq (⟨"SenateRoll$Ways", "leastWithin", "(II)I"⟩, 6) := ⟨lw_c5.1, lw_c5.2, lw_h5 (List.mem_of_getElem? (i := 81) rfl), lw_h5 (List.mem_of_getElem? (i := 82) rfl)⟩
theorem lw_p43 : lw_okq (⟨"SenateRoll$Ways", "greatestSet", "(III)I"⟩, 6) := ⟨lw_c5.1, lw_c5.2, lw_h5 (List.mem_of_getElem? (i := 94) rfl), lw_h5 (List.mem_of_getElem? (i := 95) rfl)⟩
theorem lw_c6 : (("SenateRoll$Papers" : String) ≠ "java/lang/invoke/MethodHandle" ∧ ("SenateRoll$Papers" : String) ≠ "java/lang/invoke/VarHandle") ∧ Cond.instantiable "SenateRoll$Papers" 7 ∈ tables_1 := ⟨⟨by decide +kernel, by decide +kernel⟩, lw_h2 (List.mem_of_getElem? (i := 27) rfl)⟩
theorem lw_p44 : lw_okq (⟨"SenateRoll$Papers", "sittersOf", "(I)I"⟩, 7) := ⟨lw_c6.1, lw_c6.2, lw_h5 (List.mem_of_getElem? (i := 111) rfl), lw_h5 (List.mem_of_getElem? (i := 112) rfl)⟩
theorem lw_p45 : lw_okq (⟨"SenateRoll$Papers", "takes", "(II)Z"⟩, 7) := ⟨lw_c6.1, lw_c6.2, lw_h5 (List.mem_of_getElem? (i := 121) rfl), lw_h5 (List.mem_of_getElem? (i := 122) rfl)⟩
theorem lw_c7 : (("SenateRoll$Habits" : String) ≠ "java/lang/invoke/MethodHandle" ∧ ("SenateRoll$Habits" : String) ≠ "java/lang/invoke/VarHandle") ∧ Cond.instantiable "SenateRoll$Habits" 8 ∈ tables_1 := ⟨⟨by decide +kernel, by decide +kernel⟩, lw_h2 (List.mem_of_getElem? (i := 55) rfl)⟩
theorem lw_p46 : lw_okq (⟨"SenateRoll$Habits", "addPair", "(II)V"⟩, 8) := ⟨lw_c7.1, lw_c7.2, lw_h5 (List.mem_of_getElem? (i := 155) rfl), lw_h5 (List.mem_of_getElem? (i := 156) rfl)⟩
theorem lw_p47 : lw_okq (⟨"SenateRoll$Habits", "countTail", "(I)V"⟩, 8) := ⟨lw_c7.1, lw_c7.2, lw_h5 (List.mem_of_getElem? (i := 160) rfl), lw_h5 (List.mem_of_getElem? (i := 161) rfl)⟩
def lw_privs_3 : List (MethodName × Nat) := [(⟨"SenateRoll$Reader", "last", "()I"⟩, 12), (⟨"SenateRoll$Reader", "pushOperator", "()V"⟩, 12), (⟨"SenateRoll$Reader", "pushUnless", "(Z)V"⟩, 12), (⟨"SenateRoll$Reader", "turnIfToElse", "()V"⟩, 12), (⟨"SenateRoll$Reader", "endCases", "()V"⟩, 12), (⟨"SenateRoll$Reader", "closeOne", "()V"⟩, 12), (⟨"SenateRoll$Ways", "freeIn", "(II)I"⟩, 6), (⟨"SenateRoll$Ways", "isTaught", "(II)Z"⟩, 6), (⟨"SenateRoll$Ways", "leastFor", "(II)I"⟩, 6), (⟨"SenateRoll$Ways", "earliest", "(III)I"⟩, 6), (⟨"SenateRoll$Ways", "leastWithin", "(II)I"⟩, 6), (⟨"SenateRoll$Ways", "greatestSet", "(III)I"⟩, 6), (⟨"SenateRoll$Papers", "sittersOf", "(I)I"⟩, 7), (⟨"SenateRoll$Papers", "takes", "(II)Z"⟩, 7), (⟨"SenateRoll$Habits", "addPair", "(II)V"⟩, 8), (⟨"SenateRoll$Habits", "countTail", "(I)V"⟩, 8)]
theorem lw_r3 : ∀ q ∈ lw_privs_3, lw_okq q := List.forall_mem_cons.mpr ⟨lw_p32, List.forall_mem_cons.mpr ⟨lw_p33, List.forall_mem_cons.mpr ⟨lw_p34, List.forall_mem_cons.mpr ⟨lw_p35, List.forall_mem_cons.mpr ⟨lw_p36, List.forall_mem_cons.mpr ⟨lw_p37, List.forall_mem_cons.mpr ⟨lw_p38, List.forall_mem_cons.mpr ⟨lw_p39, List.forall_mem_cons.mpr ⟨lw_p40, List.forall_mem_cons.mpr ⟨lw_p41, List.forall_mem_cons.mpr ⟨lw_p42, List.forall_mem_cons.mpr ⟨lw_p43, List.forall_mem_cons.mpr ⟨lw_p44, List.forall_mem_cons.mpr ⟨lw_p45, List.forall_mem_cons.mpr ⟨lw_p46, List.forall_mem_cons.mpr ⟨lw_p47, fun _ h => absurd h List.not_mem_nil⟩⟩⟩⟩⟩⟩⟩⟩⟩⟩⟩⟩⟩⟩⟩⟩
theorem lw_p48 : lw_okq (⟨"SenateRoll$Habits", "addWaysToTail", "()V"⟩, 8) := ⟨lw_c7.1, lw_c7.2, lw_h5 (List.mem_of_getElem? (i := 172) rfl), lw_h5 (List.mem_of_getElem? (i := 173) rfl)⟩
theorem lw_p49 : lw_okq (⟨"SenateRoll$Habits", "isAtMostPower", "(I)Z"⟩, 8) := ⟨lw_c7.1, lw_c7.2, lw_h5 (List.mem_of_getElem? (i := 176) rfl), lw_h5 (List.mem_of_getElem? (i := 177) rfl)⟩
theorem lw_c8 : (("SenateRoll$Doubts" : String) ≠ "java/lang/invoke/MethodHandle" ∧ ("SenateRoll$Doubts" : String) ≠ "java/lang/invoke/VarHandle") ∧ Cond.instantiable "SenateRoll$Doubts" 3 ∈ tables_1 := ⟨⟨by decide +kernel, by decide +kernel⟩, lw_h2 (List.mem_of_getElem? (i := 86) rfl)⟩
theorem lw_p50 : lw_okq (⟨"SenateRoll$Doubts", "prepare", "(LSenateRoll$Rows;)I"⟩, 3) := ⟨lw_c8.1, lw_c8.2, lw_h5 (List.mem_of_getElem? (i := 214) rfl), lw_h5 (List.mem_of_getElem? (i := 215) rfl)⟩
theorem lw_p51 : lw_okq (⟨"SenateRoll", "imageAt", "(I)LSenateRoll$House;"⟩, 12) := ⟨lw_c1.1, lw_c1.2, lw_h5 (List.mem_of_getElem? (i := 238) rfl), lw_h5 (List.mem_of_getElem? (i := 239) rfl)⟩
theorem lw_c9 : (("SenateRoll$House" : String) ≠ "java/lang/invoke/MethodHandle" ∧ ("SenateRoll$House" : String) ≠ "java/lang/invoke/VarHandle") ∧ Cond.instantiable "SenateRoll$House" 10 ∈ tables_1 := ⟨⟨by decide +kernel, by decide +kernel⟩, lw_h1 (List.mem_of_getElem? (i := 31) rfl)⟩
theorem lw_p52 : lw_okq (⟨"SenateRoll$House", "standing", "()I"⟩, 10) := ⟨lw_c9.1, lw_c9.2, lw_h6 (List.mem_of_getElem? (i := 27) rfl), lw_h6 (List.mem_of_getElem? (i := 28) rfl)⟩
theorem lw_p53 : lw_okq (⟨"SenateRoll$House", "sumUpTexts", "(J)J"⟩, 10) := ⟨lw_c9.1, lw_c9.2, lw_h6 (List.mem_of_getElem? (i := 46) rfl), lw_h6 (List.mem_of_getElem? (i := 47) rfl)⟩
theorem lw_c10 : (("SenateRollModel" : String) ≠ "java/lang/invoke/MethodHandle" ∧ ("SenateRollModel" : String) ≠ "java/lang/invoke/VarHandle") ∧ Cond.instantiable "SenateRollModel" 45 ∈ tables_1 := ⟨⟨by decide +kernel, by decide +kernel⟩, lw_h6 (List.mem_of_getElem? (i := 50) rfl)⟩
theorem lw_p54 : lw_okq (⟨"SenateRollModel", "one", "(I)I"⟩, 45) := ⟨lw_c10.1, lw_c10.2, lw_h6 (List.mem_of_getElem? (i := 201) rfl), lw_h6 (List.mem_of_getElem? (i := 202) rfl)⟩
theorem lw_p55 : lw_okq (⟨"SenateRollModel", "is", "(II)Z"⟩, 45) := ⟨lw_c10.1, lw_c10.2, lw_h6 (List.mem_of_getElem? (i := 220) rfl), lw_h6 (List.mem_of_getElem? (i := 221) rfl)⟩
theorem lw_p56 : lw_okq (⟨"SenateRollModel", "isStanding", "(I)Z"⟩, 45) := ⟨lw_c10.1, lw_c10.2, lw_h6 (List.mem_of_getElem? (i := 232) rfl), lw_h6 (List.mem_of_getElem? (i := 233) rfl)⟩
theorem lw_p57 : lw_okq (⟨"SenateRollModel", "isFull", "()Z"⟩, 45) := ⟨lw_c10.1, lw_c10.2, lw_h7 (List.mem_of_getElem? (i := 6) rfl), lw_h7 (List.mem_of_getElem? (i := 7) rfl)⟩
theorem lw_p58 : lw_okq (⟨"SenateRollModel", "begins", "(IIII)V"⟩, 45) := ⟨lw_c10.1, lw_c10.2, lw_h7 (List.mem_of_getElem? (i := 10) rfl), lw_h7 (List.mem_of_getElem? (i := 11) rfl)⟩
theorem lw_p59 : lw_okq (⟨"SenateRollModel", "puts", "(II)V"⟩, 45) := ⟨lw_c10.1, lw_c10.2, lw_h7 (List.mem_of_getElem? (i := 14) rfl), lw_h7 (List.mem_of_getElem? (i := 15) rfl)⟩
theorem lw_p60 : lw_okq (⟨"SenateRollModel", "isMark", "(I)Z"⟩, 45) := ⟨lw_c10.1, lw_c10.2, lw_h7 (List.mem_of_getElem? (i := 22) rfl), lw_h7 (List.mem_of_getElem? (i := 23) rfl)⟩
theorem lw_p61 : lw_okq (⟨"SenateRollModel", "act", "(II)I"⟩, 45) := ⟨lw_c10.1, lw_c10.2, lw_h7 (List.mem_of_getElem? (i := 26) rfl), lw_h7 (List.mem_of_getElem? (i := 27) rfl)⟩
theorem lw_p62 : lw_okq (⟨"SenateRollModel", "isBy", "(II)Z"⟩, 45) := ⟨lw_c10.1, lw_c10.2, lw_h7 (List.mem_of_getElem? (i := 34) rfl), lw_h7 (List.mem_of_getElem? (i := 35) rfl)⟩
theorem lw_p63 : lw_okq (⟨"SenateRollModel", "dayOf", "(I)I"⟩, 45) := ⟨lw_c10.1, lw_c10.2, lw_h7 (List.mem_of_getElem? (i := 38) rfl), lw_h7 (List.mem_of_getElem? (i := 39) rfl)⟩
def lw_privs_4 : List (MethodName × Nat) := [(⟨"SenateRoll$Habits", "addWaysToTail", "()V"⟩, 8), (⟨"SenateRoll$Habits", "isAtMostPower", "(I)Z"⟩, 8), (⟨"SenateRoll$Doubts", "prepare", "(LSenateRoll$Rows;)I"⟩, 3), (⟨"SenateRoll", "imageAt", "(I)LSenateRoll$House;"⟩, 12), (⟨"SenateRoll$House", "standing", "()I"⟩, 10), (⟨"SenateRoll$House", "sumUpTexts", "(J)J"⟩, 10), (⟨"SenateRollModel", "one", "(I)I"⟩, 45), (⟨"SenateRollModel", "is", "(II)Z"⟩, 45), (⟨"SenateRollModel", "isStanding", "(I)Z"⟩, 45), (⟨"SenateRollModel", "isFull", "()Z"⟩, 45), (⟨"SenateRollModel", "begins", "(IIII)V"⟩, 45), (⟨"SenateRollModel", "puts", "(II)V"⟩, 45), (⟨"SenateRollModel", "isMark", "(I)Z"⟩, 45), (⟨"SenateRollModel", "act", "(II)I"⟩, 45), (⟨"SenateRollModel", "isBy", "(II)Z"⟩, 45), (⟨"SenateRollModel", "dayOf", "(I)I"⟩, 45)]
theorem lw_r4 : ∀ q ∈ lw_privs_4, lw_okq q := List.forall_mem_cons.mpr ⟨lw_p48, List.forall_mem_cons.mpr ⟨lw_p49, List.forall_mem_cons.mpr ⟨lw_p50, List.forall_mem_cons.mpr ⟨lw_p51, List.forall_mem_cons.mpr ⟨lw_p52, List.forall_mem_cons.mpr ⟨lw_p53, List.forall_mem_cons.mpr ⟨lw_p54, List.forall_mem_cons.mpr ⟨lw_p55, List.forall_mem_cons.mpr ⟨lw_p56, List.forall_mem_cons.mpr ⟨lw_p57, List.forall_mem_cons.mpr ⟨lw_p58, List.forall_mem_cons.mpr ⟨lw_p59, List.forall_mem_cons.mpr ⟨lw_p60, List.forall_mem_cons.mpr ⟨lw_p61, List.forall_mem_cons.mpr ⟨lw_p62, List.forall_mem_cons.mpr ⟨lw_p63, fun _ h => absurd h List.not_mem_nil⟩⟩⟩⟩⟩⟩⟩⟩⟩⟩⟩⟩⟩⟩⟩⟩
theorem lw_p64 : lw_okq (⟨"SenateRollModel", "finds", "(I)V"⟩, 45) := ⟨lw_c10.1, lw_c10.2, lw_h7 (List.mem_of_getElem? (i := 74) rfl), lw_h7 (List.mem_of_getElem? (i := 75) rfl)⟩
theorem lw_p65 : lw_okq (⟨"SenateRollModel", "stepOf", "(II)I"⟩, 45) := ⟨lw_c10.1, lw_c10.2, lw_h7 (List.mem_of_getElem? (i := 82) rfl), lw_h7 (List.mem_of_getElem? (i := 83) rfl)⟩
theorem lw_p66 : lw_okq (⟨"SenateRollModel", "lastOf", "(II)I"⟩, 45) := ⟨lw_c10.1, lw_c10.2, lw_h7 (List.mem_of_getElem? (i := 86) rfl), lw_h7 (List.mem_of_getElem? (i := 87) rfl)⟩
theorem lw_p67 : lw_okq (⟨"SenateRollModel", "scaledFor", "(I)I"⟩, 45) := ⟨lw_c10.1, lw_c10.2, lw_h7 (List.mem_of_getElem? (i := 90) rfl), lw_h7 (List.mem_of_getElem? (i := 91) rfl)⟩
theorem lw_p68 : lw_okq (⟨"SenateRollModel", "isLater", "(I)Z"⟩, 45) := ⟨lw_c10.1, lw_c10.2, lw_h7 (List.mem_of_getElem? (i := 94) rfl), lw_h7 (List.mem_of_getElem? (i := 95) rfl)⟩
theorem lw_p69 : lw_okq (⟨"SenateRollModel", "findCourses", "(I)V"⟩, 45) := ⟨lw_c10.1, lw_c10.2, lw_h7 (List.mem_of_getElem? (i := 102) rfl), lw_h7 (List.mem_of_getElem? (i := 103) rfl)⟩
theorem lw_p70 : lw_okq (⟨"SenateRollModel", "isAsked", "(III)Z"⟩, 45) := ⟨lw_c10.1, lw_c10.2, lw_h7 (List.mem_of_getElem? (i := 110) rfl), lw_h7 (List.mem_of_getElem? (i := 111) rfl)⟩
theorem lw_p71 : lw_okq (⟨"SenateRollModel", "findStudent", "(II)V"⟩, 45) := ⟨lw_c10.1, lw_c10.2, lw_h7 (List.mem_of_getElem? (i := 114) rfl), lw_h7 (List.mem_of_getElem? (i := 115) rfl)⟩
theorem lw_p72 : lw_okq (⟨"SenateRollModel", "bindsOf", "(II)I"⟩, 45) := ⟨lw_c10.1, lw_c10.2, lw_h7 (List.mem_of_getElem? (i := 118) rfl), lw_h7 (List.mem_of_getElem? (i := 119) rfl)⟩
theorem lw_p73 : lw_okq (⟨"SenateRollModel", "latestOf", "(IZ)I"⟩, 45) := ⟨lw_c10.1, lw_c10.2, lw_h7 (List.mem_of_getElem? (i := 122) rfl), lw_h7 (List.mem_of_getElem? (i := 123) rfl)⟩
theorem lw_p74 : lw_okq (⟨"SenateRollModel", "reads", "(I)I"⟩, 45) := ⟨lw_c10.1, lw_c10.2, lw_h7 (List.mem_of_getElem? (i := 126) rfl), lw_h7 (List.mem_of_getElem? (i := 127) rfl)⟩
theorem lw_p75 : lw_okq (⟨"SenateRollModel", "wordAt", "(III)J"⟩, 45) := ⟨lw_c10.1, lw_c10.2, lw_h7 (List.mem_of_getElem? (i := 130) rfl), lw_h7 (List.mem_of_getElem? (i := 131) rfl)⟩
theorem lw_p76 : lw_okq (⟨"SenateRollModel", "goesOn", "(I)Z"⟩, 45) := ⟨lw_c10.1, lw_c10.2, lw_h7 (List.mem_of_getElem? (i := 154) rfl), lw_h7 (List.mem_of_getElem? (i := 155) rfl)⟩
theorem lw_p77 : lw_okq (⟨"SenateRollModel", "settles", "(I)V"⟩, 45) := ⟨lw_c10.1, lw_c10.2, lw_h7 (List.mem_of_getElem? (i := 158) rfl), lw_h7 (List.mem_of_getElem? (i := 159) rfl)⟩
theorem lw_p78 : lw_okq (⟨"SenateRollModel", "emits", "(II)V"⟩, 45) := ⟨lw_c10.1, lw_c10.2, lw_h7 (List.mem_of_getElem? (i := 165) rfl), lw_h7 (List.mem_of_getElem? (i := 166) rfl)⟩
theorem lw_p79 : lw_okq (⟨"SenateRollModel", "top", "()I"⟩, 45) := ⟨lw_c10.1, lw_c10.2, lw_h7 (List.mem_of_getElem? (i := 169) rfl), lw_h7 (List.mem_of_getElem? (i := 170) rfl)⟩
def lw_privs_5 : List (MethodName × Nat) := [(⟨"SenateRollModel", "finds", "(I)V"⟩, 45), (⟨"SenateRollModel", "stepOf", "(II)I"⟩, 45), (⟨"SenateRollModel", "lastOf", "(II)I"⟩, 45), (⟨"SenateRollModel", "scaledFor", "(I)I"⟩, 45), (⟨"SenateRollModel", "isLater", "(I)Z"⟩, 45), (⟨"SenateRollModel", "findCourses", "(I)V"⟩, 45), (⟨"SenateRollModel", "isAsked", "(III)Z"⟩, 45), (⟨"SenateRollModel", "findStudent", "(II)V"⟩, 45), (⟨"SenateRollModel", "bindsOf", "(II)I"⟩, 45), (⟨"SenateRollModel", "latestOf", "(IZ)I"⟩, 45), (⟨"SenateRollModel", "reads", "(I)I"⟩, 45), (⟨"SenateRollModel", "wordAt", "(III)J"⟩, 45), (⟨"SenateRollModel", "goesOn", "(I)Z"⟩, 45), (⟨"SenateRollModel", "settles", "(I)V"⟩, 45), (⟨"SenateRollModel", "emits", "(II)V"⟩, 45), (⟨"SenateRollModel", "top", "()I"⟩, 45)]
theorem lw_r5 : ∀ q ∈ lw_privs_5, lw_okq q := List.forall_mem_cons.mpr ⟨lw_p64, List.forall_mem_cons.mpr ⟨lw_p65, List.forall_mem_cons.mpr ⟨lw_p66, List.forall_mem_cons.mpr ⟨lw_p67, List.forall_mem_cons.mpr ⟨lw_p68, List.forall_mem_cons.mpr ⟨lw_p69, List.forall_mem_cons.mpr ⟨lw_p70, List.forall_mem_cons.mpr ⟨lw_p71, List.forall_mem_cons.mpr ⟨lw_p72, List.forall_mem_cons.mpr ⟨lw_p73, List.forall_mem_cons.mpr ⟨lw_p74, List.forall_mem_cons.mpr ⟨lw_p75, List.forall_mem_cons.mpr ⟨lw_p76, List.forall_mem_cons.mpr ⟨lw_p77, List.forall_mem_cons.mpr ⟨lw_p78, List.forall_mem_cons.mpr ⟨lw_p79, fun _ h => absurd h List.not_mem_nil⟩⟩⟩⟩⟩⟩⟩⟩⟩⟩⟩⟩⟩⟩⟩⟩
theorem lw_p80 : lw_okq (⟨"SenateRollModel", "waitsWith", "(I)V"⟩, 45) := ⟨lw_c10.1, lw_c10.2, lw_h7 (List.mem_of_getElem? (i := 173) rfl), lw_h7 (List.mem_of_getElem? (i := 174) rfl)⟩
theorem lw_p81 : lw_okq (⟨"SenateRollModel", "settlesValue", "()Z"⟩, 45) := ⟨lw_c10.1, lw_c10.2, lw_h7 (List.mem_of_getElem? (i := 177) rfl), lw_h7 (List.mem_of_getElem? (i := 178) rfl)⟩
theorem lw_p82 : lw_okq (⟨"SenateRollModel", "settlesCase", "()Z"⟩, 45) := ⟨lw_c10.1, lw_c10.2, lw_h7 (List.mem_of_getElem? (i := 181) rfl), lw_h7 (List.mem_of_getElem? (i := 182) rfl)⟩
theorem lw_p83 : lw_okq (⟨"SenateRollModel", "closes", "()I"⟩, 45) := ⟨lw_c10.1, lw_c10.2, lw_h7 (List.mem_of_getElem? (i := 185) rfl), lw_h7 (List.mem_of_getElem? (i := 186) rfl)⟩
theorem lw_p84 : lw_okq (⟨"SenateRollModel", "courseNames", "(I)V"⟩, 45) := ⟨lw_c10.1, lw_c10.2, lw_h7 (List.mem_of_getElem? (i := 192) rfl), lw_h7 (List.mem_of_getElem? (i := 193) rfl)⟩
theorem lw_p85 : lw_okq (⟨"SenateRollModel", "goes", "()J"⟩, 45) := ⟨lw_c10.1, lw_c10.2, lw_h7 (List.mem_of_getElem? (i := 196) rfl), lw_h7 (List.mem_of_getElem? (i := 197) rfl)⟩
theorem lw_p86 : lw_okq (⟨"SenateRollModel", "bestOf", "(J)J"⟩, 45) := ⟨lw_c10.1, lw_c10.2, lw_h7 (List.mem_of_getElem? (i := 200) rfl), lw_h7 (List.mem_of_getElem? (i := 201) rfl)⟩
theorem lw_p87 : lw_okq (⟨"SenateRollModel", "twoOf", "(IJJ)J"⟩, 45) := ⟨lw_c10.1, lw_c10.2, lw_h7 (List.mem_of_getElem? (i := 205) rfl), lw_h7 (List.mem_of_getElem? (i := 206) rfl)⟩
theorem lw_p88 : lw_okq (⟨"SenateRollModel", "gradeOf", "(II)I"⟩, 45) := ⟨lw_c10.1, lw_c10.2, lw_h7 (List.mem_of_getElem? (i := 213) rfl), lw_h7 (List.mem_of_getElem? (i := 214) rfl)⟩
theorem lw_p89 : lw_okq (⟨"SenateRollModel", "readsClass", "(II)I"⟩, 45) := ⟨lw_c10.1, lw_c10.2, lw_h7 (List.mem_of_getElem? (i := 217) rfl), lw_h7 (List.mem_of_getElem? (i := 218) rfl)⟩
theorem lw_p90 : lw_okq (⟨"SenateRollModel", "classOf", "(I)I"⟩, 45) := ⟨lw_c10.1, lw_c10.2, lw_h7 (List.mem_of_getElem? (i := 221) rfl), lw_h7 (List.mem_of_getElem? (i := 222) rfl)⟩
theorem lw_p91 : lw_okq (⟨"SenateRollModel", "aloneNames", "()V"⟩, 45) := ⟨lw_c10.1, lw_c10.2, lw_h7 (List.mem_of_getElem? (i := 225) rfl), lw_h7 (List.mem_of_getElem? (i := 226) rfl)⟩
theorem lw_p92 : lw_okq (⟨"SenateRollModel", "rollOf", "(II)I"⟩, 45) := ⟨lw_c10.1, lw_c10.2, lw_h8 (List.mem_of_getElem? (i := 5) rfl), lw_h8 (List.mem_of_getElem? (i := 6) rfl)⟩
theorem lw_p93 : lw_okq (⟨"SenateRollModel", "isWay", "(IIIIII)Z"⟩, 45) := ⟨lw_c10.1, lw_c10.2, lw_h8 (List.mem_of_getElem? (i := 50) rfl), lw_h8 (List.mem_of_getElem? (i := 51) rfl)⟩
theorem lw_p94 : lw_okq (⟨"SenateRollModel", "findWay", "(IIIIII)I"⟩, 45) := ⟨lw_c10.1, lw_c10.2, lw_h8 (List.mem_of_getElem? (i := 54) rfl), lw_h8 (List.mem_of_getElem? (i := 55) rfl)⟩
theorem lw_p95 : lw_okq (⟨"SenateRollModel", "findLeft", "(I)V"⟩, 45) := ⟨lw_c10.1, lw_c10.2, lw_h8 (List.mem_of_getElem? (i := 58) rfl), lw_h8 (List.mem_of_getElem? (i := 59) rfl)⟩
def lw_privs_6 : List (MethodName × Nat) := [(⟨"SenateRollModel", "waitsWith", "(I)V"⟩, 45), (⟨"SenateRollModel", "settlesValue", "()Z"⟩, 45), (⟨"SenateRollModel", "settlesCase", "()Z"⟩, 45), (⟨"SenateRollModel", "closes", "()I"⟩, 45), (⟨"SenateRollModel", "courseNames", "(I)V"⟩, 45), (⟨"SenateRollModel", "goes", "()J"⟩, 45), (⟨"SenateRollModel", "bestOf", "(J)J"⟩, 45), (⟨"SenateRollModel", "twoOf", "(IJJ)J"⟩, 45), (⟨"SenateRollModel", "gradeOf", "(II)I"⟩, 45), (⟨"SenateRollModel", "readsClass", "(II)I"⟩, 45), (⟨"SenateRollModel", "classOf", "(I)I"⟩, 45), (⟨"SenateRollModel", "aloneNames", "()V"⟩, 45), (⟨"SenateRollModel", "rollOf", "(II)I"⟩, 45), (⟨"SenateRollModel", "isWay", "(IIIIII)Z"⟩, 45), (⟨"SenateRollModel", "findWay", "(IIIIII)I"⟩, 45), (⟨"SenateRollModel", "findLeft", "(I)V"⟩, 45)]
theorem lw_r6 : ∀ q ∈ lw_privs_6, lw_okq q := List.forall_mem_cons.mpr ⟨lw_p80, List.forall_mem_cons.mpr ⟨lw_p81, List.forall_mem_cons.mpr ⟨lw_p82, List.forall_mem_cons.mpr ⟨lw_p83, List.forall_mem_cons.mpr ⟨lw_p84, List.forall_mem_cons.mpr ⟨lw_p85, List.forall_mem_cons.mpr ⟨lw_p86, List.forall_mem_cons.mpr ⟨lw_p87, List.forall_mem_cons.mpr ⟨lw_p88, List.forall_mem_cons.mpr ⟨lw_p89, List.forall_mem_cons.mpr ⟨lw_p90, List.forall_mem_cons.mpr ⟨lw_p91, List.forall_mem_cons.mpr ⟨lw_p92, List.forall_mem_cons.mpr ⟨lw_p93, List.forall_mem_cons.mpr ⟨lw_p94, List.forall_mem_cons.mpr ⟨lw_p95, fun _ h => absurd h List.not_mem_nil⟩⟩⟩⟩⟩⟩⟩⟩⟩⟩⟩⟩⟩⟩⟩⟩
theorem lw_p96 : lw_okq (⟨"SenateRollModel", "findMay", "(II)V"⟩, 45) := ⟨lw_c10.1, lw_c10.2, lw_h8 (List.mem_of_getElem? (i := 62) rfl), lw_h8 (List.mem_of_getElem? (i := 63) rfl)⟩
theorem lw_p97 : lw_okq (⟨"SenateRollModel", "mayTake", "(II)I"⟩, 45) := ⟨lw_c10.1, lw_c10.2, lw_h8 (List.mem_of_getElem? (i := 66) rfl), lw_h8 (List.mem_of_getElem? (i := 67) rfl)⟩
theorem lw_p98 : lw_okq (⟨"SenateRollModel", "along", "(I)I"⟩, 45) := ⟨lw_c10.1, lw_c10.2, lw_h8 (List.mem_of_getElem? (i := 70) rfl), lw_h8 (List.mem_of_getElem? (i := 71) rfl)⟩
theorem lw_p99 : lw_okq (⟨"SenateRollModel", "spread", "(I)I"⟩, 45) := ⟨lw_c10.1, lw_c10.2, lw_h8 (List.mem_of_getElem? (i := 74) rfl), lw_h8 (List.mem_of_getElem? (i := 75) rfl)⟩
theorem lw_p100 : lw_okq (⟨"SenateRollModel", "takes", "(III)I"⟩, 45) := ⟨lw_c10.1, lw_c10.2, lw_h8 (List.mem_of_getElem? (i := 85) rfl), lw_h8 (List.mem_of_getElem? (i := 86) rfl)⟩
theorem lw_p101 : lw_okq (⟨"SenateRollModel", "whyHours", "(IIZ)I"⟩, 45) := ⟨lw_c10.1, lw_c10.2, lw_h8 (List.mem_of_getElem? (i := 97) rfl), lw_h8 (List.mem_of_getElem? (i := 98) rfl)⟩
theorem lw_p102 : lw_okq (⟨"SenateRollModel", "findHours", "(II)I"⟩, 45) := ⟨lw_c10.1, lw_c10.2, lw_h8 (List.mem_of_getElem? (i := 101) rfl), lw_h8 (List.mem_of_getElem? (i := 102) rfl)⟩
theorem lw_p103 : lw_okq (⟨"SenateRollModel", "sitting", "(I)I"⟩, 45) := ⟨lw_c10.1, lw_c10.2, lw_h8 (List.mem_of_getElem? (i := 105) rfl), lw_h8 (List.mem_of_getElem? (i := 106) rfl)⟩
theorem lw_p104 : lw_okq (⟨"SenateRollModel", "isGood", "(I)Z"⟩, 45) := ⟨lw_c10.1, lw_c10.2, lw_h8 (List.mem_of_getElem? (i := 109) rfl), lw_h8 (List.mem_of_getElem? (i := 110) rfl)⟩
theorem lw_p105 : lw_okq (⟨"SenateRollModel", "areApart", "(II)Z"⟩, 45) := ⟨lw_c10.1, lw_c10.2, lw_h8 (List.mem_of_getElem? (i := 113) rfl), lw_h8 (List.mem_of_getElem? (i := 114) rfl)⟩
theorem lw_p106 : lw_okq (⟨"SenateRollModel", "nextHours", "(I)Z"⟩, 45) := ⟨lw_c10.1, lw_c10.2, lw_h8 (List.mem_of_getElem? (i := 117) rfl), lw_h8 (List.mem_of_getElem? (i := 118) rfl)⟩
theorem lw_p107 : lw_okq (⟨"SenateRollModel", "isHard", "(I)I"⟩, 45) := ⟨lw_c10.1, lw_c10.2, lw_h8 (List.mem_of_getElem? (i := 129) rfl), lw_h8 (List.mem_of_getElem? (i := 130) rfl)⟩
theorem lw_p108 : lw_okq (⟨"SenateRollModel", "findHabit", "(I)V"⟩, 45) := ⟨lw_c10.1, lw_c10.2, lw_h8 (List.mem_of_getElem? (i := 133) rfl), lw_h8 (List.mem_of_getElem? (i := 134) rfl)⟩
theorem lw_p109 : lw_okq (⟨"SenateRollModel", "findTail", "(II)V"⟩, 45) := ⟨lw_c10.1, lw_c10.2, lw_h8 (List.mem_of_getElem? (i := 137) rfl), lw_h8 (List.mem_of_getElem? (i := 138) rfl)⟩
theorem lw_p110 : lw_okq (⟨"SenateRollModel", "isRare", "(II)Z"⟩, 45) := ⟨lw_c10.1, lw_c10.2, lw_h8 (List.mem_of_getElem? (i := 142) rfl), lw_h8 (List.mem_of_getElem? (i := 143) rfl)⟩
theorem lw_p111 : lw_okq (⟨"SenateRollModel", "sumOf", "(I)I"⟩, 45) := ⟨lw_c10.1, lw_c10.2, lw_h8 (List.mem_of_getElem? (i := 163) rfl), lw_h8 (List.mem_of_getElem? (i := 164) rfl)⟩
def lw_privs_7 : List (MethodName × Nat) := [(⟨"SenateRollModel", "findMay", "(II)V"⟩, 45), (⟨"SenateRollModel", "mayTake", "(II)I"⟩, 45), (⟨"SenateRollModel", "along", "(I)I"⟩, 45), (⟨"SenateRollModel", "spread", "(I)I"⟩, 45), (⟨"SenateRollModel", "takes", "(III)I"⟩, 45), (⟨"SenateRollModel", "whyHours", "(IIZ)I"⟩, 45), (⟨"SenateRollModel", "findHours", "(II)I"⟩, 45), (⟨"SenateRollModel", "sitting", "(I)I"⟩, 45), (⟨"SenateRollModel", "isGood", "(I)Z"⟩, 45), (⟨"SenateRollModel", "areApart", "(II)Z"⟩, 45), (⟨"SenateRollModel", "nextHours", "(I)Z"⟩, 45), (⟨"SenateRollModel", "isHard", "(I)I"⟩, 45), (⟨"SenateRollModel", "findHabit", "(I)V"⟩, 45), (⟨"SenateRollModel", "findTail", "(II)V"⟩, 45), (⟨"SenateRollModel", "isRare", "(II)Z"⟩, 45), (⟨"SenateRollModel", "sumOf", "(I)I"⟩, 45)]
theorem lw_r7 : ∀ q ∈ lw_privs_7, lw_okq q := List.forall_mem_cons.mpr ⟨lw_p96, List.forall_mem_cons.mpr ⟨lw_p97, List.forall_mem_cons.mpr ⟨lw_p98, List.forall_mem_cons.mpr ⟨lw_p99, List.forall_mem_cons.mpr ⟨lw_p100, List.forall_mem_cons.mpr ⟨lw_p101, List.forall_mem_cons.mpr ⟨lw_p102, List.forall_mem_cons.mpr ⟨lw_p103, List.forall_mem_cons.mpr ⟨lw_p104, List.forall_mem_cons.mpr ⟨lw_p105, List.forall_mem_cons.mpr ⟨lw_p106, List.forall_mem_cons.mpr ⟨lw_p107, List.forall_mem_cons.mpr ⟨lw_p108, List.forall_mem_cons.mpr ⟨lw_p109, List.forall_mem_cons.mpr ⟨lw_p110, List.forall_mem_cons.mpr ⟨lw_p111, fun _ h => absurd h List.not_mem_nil⟩⟩⟩⟩⟩⟩⟩⟩⟩⟩⟩⟩⟩⟩⟩⟩
theorem lw_p112 : lw_okq (⟨"SenateRollModel", "countOf", "(I)I"⟩, 45) := ⟨lw_c10.1, lw_c10.2, lw_h8 (List.mem_of_getElem? (i := 179) rfl), lw_h8 (List.mem_of_getElem? (i := 180) rfl)⟩
theorem lw_p113 : lw_okq (⟨"SenateRollModel", "mixed", "(JII)J"⟩, 45) := ⟨lw_c10.1, lw_c10.2, lw_h8 (List.mem_of_getElem? (i := 189) rfl), lw_h8 (List.mem_of_getElem? (i := 190) rfl)⟩
def lw_privs_8 : List (MethodName × Nat) := [(⟨"SenateRollModel", "countOf", "(I)I"⟩, 45), (⟨"SenateRollModel", "mixed", "(JII)J"⟩, 45)]
theorem lw_r8 : ∀ q ∈ lw_privs_8, lw_okq q := List.forall_mem_cons.mpr ⟨lw_p112, List.forall_mem_cons.mpr ⟨lw_p113, fun _ h => absurd h List.not_mem_nil⟩⟩
def lw_privs : List (MethodName × Nat) := lw_privs_1 ++ (lw_privs_2 ++ (lw_privs_3 ++ (lw_privs_4 ++ (lw_privs_5 ++ (lw_privs_6 ++ (lw_privs_7 ++ (lw_privs_8)))))))
def lw_tbl : List Cond := k2_sels lw_privs ++ tables_1
theorem lw_privs_ok : ∀ q ∈ lw_privs, lw_okq q := by
  show ∀ q ∈ lw_privs_1 ++ (lw_privs_2 ++ (lw_privs_3 ++ (lw_privs_4 ++ (lw_privs_5 ++ (lw_privs_6 ++ (lw_privs_7 ++ (lw_privs_8))))))), lw_okq q
  exact List.forall_mem_append.mpr ⟨lw_r1, List.forall_mem_append.mpr ⟨lw_r2, List.forall_mem_append.mpr ⟨lw_r3, List.forall_mem_append.mpr ⟨lw_r4, List.forall_mem_append.mpr ⟨lw_r5, List.forall_mem_append.mpr ⟨lw_r6, List.forall_mem_append.mpr ⟨lw_r7, lw_r8⟩⟩⟩⟩⟩⟩⟩
-- ===== end of PART A; then your names; then what follows =====
/-! ===== BEGIN words of one list among another's, by their places ===== -/
theorem goodIn_r {big : List Cond} (ws : List Cond) (ps : List Nat) (hp : ws = ps.filterMap (fun i => big[i]?)) (h : ws.all goodWord = true) : GoodIn big ws := by
  intro w hw
  have h1 := List.all_eq_true.mp h w hw
  rw [hp] at hw
  obtain ⟨i, -, hi⟩ := List.mem_filterMap.mp hw
  have hm : w ∈ big := by first | exact List.mem_of_getElem? hi | exact List.getElem?_mem hi
  exact ⟨hm, good_of_word h1⟩
theorem goodIn_app {big a b : List Cond} (ha : GoodIn big a) (hb : GoodIn big b) : GoodIn big (a ++ b) := fun w h => (List.mem_append.mp h).elim (ha w) (hb w)
theorem goodIn_ca {big a b : List Cond} {c : Cond} (ha : GoodIn big (c :: a)) (hb : GoodIn big b) : GoodIn big (c :: (a ++ b)) := fun w h => (List.mem_cons.mp h).elim (fun e => ha w (List.mem_cons.mpr (Or.inl e))) (fun h => (List.mem_append.mp h).elim (fun h => ha w (List.mem_cons.mpr (Or.inr h))) (hb w))
theorem goodIn_sub {big ws : List Cond} (hm : ∀ w ∈ ws, w ∈ big) (h : ws.all goodWord = true) : GoodIn big ws := fun w hw => ⟨hm w hw, good_of_word (List.all_eq_true.mp h w hw)⟩
/-! ===== END ===== -/

/-! ===== BEGIN printed: names, fields, word lists, decode rows ===== -/
def RX0 : String := "SenateRoll$Doubts"
def TX0 : u_T := fun k => match k with
  | 0 => ("SenateRoll$Doubts", "turns", "[I", true)
  | 1 => ("SenateRoll$Doubts", "chosen", "I", false)
  | _ => ("SenateRoll$Doubts", "rivals", "I", false)
def tyX0 : Nat → FieldType := fun k => match k with
  | 0 => .array .int
  | 1 => .int
  | _ => .int
abbrev wsX00 : List Cond := u_ws RX0 TX0 3
theorem nmX0 : ∀ a, a < 3 → ∀ b, b < 3 → a ≠ b → (TX0 a).2.1 ≠ (TX0 b).2.1 := by decide +kernel
theorem tyX0_ok : ∀ k, k < 3 → parseFieldDescriptor (TX0 k).2.2.1 = some (tyX0 k) := by decide +kernel
abbrev cX0_init : ByteArray := prog_2_method_1_code
def yX0_init : MethodName := ⟨RX0, "<init>", "()V"⟩
abbrev cX0_chosen : ByteArray := prog_2_method_2_code
def yX0_chosen : MethodName := ⟨RX0, "chosen", "()I"⟩
abbrev cX0_rivals : ByteArray := prog_2_method_3_code
def yX0_rivals : MethodName := ⟨RX0, "rivals", "()I"⟩
abbrev cX0_search : ByteArray := prog_2_method_4_code
def yX0_search : MethodName := ⟨RX0, "search", "(LSenateRoll$Rows;I)V"⟩
abbrev cX0_prepare : ByteArray := prog_2_method_5_code
def yX0_prepare : MethodName := ⟨RX0, "prepare", "(LSenateRoll$Rows;)I"⟩
def RX1 : String := "SenateRoll$Habits"
def TX1 : u_T := fun k => match k with
  | 0 => ("SenateRoll$Habits", "house", "LSenateRoll$House;", true)
  | 1 => ("SenateRoll$Habits", "known", "LSenateRoll$Known;", true)
  | 2 => ("SenateRoll$Habits", "ways", "[J", true)
  | 3 => ("SenateRoll$Habits", "tail", "[J", true)
  | 4 => ("SenateRoll$Habits", "pairs", "I", false)
  | 5 => ("SenateRoll$Habits", "differing", "I", false)
  | 6 => ("SenateRoll$Habits", "above", "I", false)
  | _ => ("SenateRoll$Habits", "more", "I", false)
def tyX1 : Nat → FieldType := fun k => match k with
  | 0 => .object "SenateRoll$House"
  | 1 => .object "SenateRoll$Known"
  | 2 => .array .long
  | 3 => .array .long
  | 4 => .int
  | 5 => .int
  | 6 => .int
  | _ => .int
abbrev wsX10 : List Cond := u_ws RX1 TX1 8
theorem nmX1 : ∀ a, a < 8 → ∀ b, b < 8 → a ≠ b → (TX1 a).2.1 ≠ (TX1 b).2.1 := by decide +kernel
theorem tyX1_ok : ∀ k, k < 8 → parseFieldDescriptor (TX1 k).2.2.1 = some (tyX1 k) := by decide +kernel
abbrev cX1_init : ByteArray := prog_3_method_1_code
def yX1_init : MethodName := ⟨RX1, "<init>", "(LSenateRoll$House;LSenateRoll$Known;)V"⟩
abbrev cX1_gather : ByteArray := prog_3_method_2_code
def yX1_gather : MethodName := ⟨RX1, "gather", "(I)V"⟩
abbrev cX1_addPair : ByteArray := prog_3_method_3_code
def yX1_addPair : MethodName := ⟨RX1, "addPair", "(II)V"⟩
abbrev cX1_differing : ByteArray := prog_3_method_4_code
def yX1_differing : MethodName := ⟨RX1, "differing", "()I"⟩
abbrev cX1_above : ByteArray := prog_3_method_5_code
def yX1_above : MethodName := ⟨RX1, "above", "()I"⟩
abbrev cX1_meanMore : ByteArray := prog_3_method_6_code
def yX1_meanMore : MethodName := ⟨RX1, "meanMore", "()I"⟩
abbrev cX1_isHard : ByteArray := prog_3_method_7_code
def yX1_isHard : MethodName := ⟨RX1, "isHard", "(I)Z"⟩
abbrev cX1_countTail : ByteArray := prog_3_method_8_code
def yX1_countTail : MethodName := ⟨RX1, "countTail", "(I)V"⟩
abbrev cX1_multiply : ByteArray := prog_3_method_9_code
def yX1_multiply : MethodName := ⟨RX1, "multiply", "([JI)V"⟩
abbrev cX1_divide : ByteArray := prog_3_method_10_code
def yX1_divide : MethodName := ⟨RX1, "divide", "([JI)V"⟩
abbrev cX1_addWaysToTail : ByteArray := prog_3_method_11_code
def yX1_addWaysToTail : MethodName := ⟨RX1, "addWaysToTail", "()V"⟩
abbrev cX1_isAtMostPower : ByteArray := prog_3_method_12_code
def yX1_isAtMostPower : MethodName := ⟨RX1, "isAtMostPower", "(I)Z"⟩
def RX2 : String := "SenateRoll$House"
def TX2 : u_T := fun k => match k with
  | 0 => ("SenateRoll$House", "courses", "LSenateRoll$Rows;", true)
  | 1 => ("SenateRoll$House", "students", "LSenateRoll$Rows;", true)
  | 2 => ("SenateRoll$House", "boards", "LSenateRoll$Rows;", true)
  | 3 => ("SenateRoll$House", "meetings", "LSenateRoll$Rows;", true)
  | 4 => ("SenateRoll$House", "acts", "LSenateRoll$Rows;", true)
  | 5 => ("SenateRoll$House", "texts", "LSenateRoll$Rows;", true)
  | 6 => ("SenateRoll$House", "ordinances", "LSenateRoll$Rows;", true)
  | 7 => ("SenateRoll$House", "lines", "LSenateRoll$Rows;", true)
  | 8 => ("SenateRoll$House", "appealDays", "I", false)
  | _ => ("SenateRoll$House", "odds", "I", false)
def tyX2 : Nat → FieldType := fun k => match k with
  | 0 => .object "SenateRoll$Rows"
  | 1 => .object "SenateRoll$Rows"
  | 2 => .object "SenateRoll$Rows"
  | 3 => .object "SenateRoll$Rows"
  | 4 => .object "SenateRoll$Rows"
  | 5 => .object "SenateRoll$Rows"
  | 6 => .object "SenateRoll$Rows"
  | 7 => .object "SenateRoll$Rows"
  | 8 => .int
  | _ => .int
abbrev wsX20 : List Cond := u_ws RX2 TX2 10
theorem nmX2 : ∀ a, a < 10 → ∀ b, b < 10 → a ≠ b → (TX2 a).2.1 ≠ (TX2 b).2.1 := by decide +kernel
theorem tyX2_ok : ∀ k, k < 10 → parseFieldDescriptor (TX2 k).2.2.1 = some (tyX2 k) := by decide +kernel
abbrev cX2_init : ByteArray := prog_4_method_1_code
def yX2_init : MethodName := ⟨RX2, "<init>", "()V"⟩
abbrev cX2_enter : ByteArray := prog_4_method_2_code
def yX2_enter : MethodName := ⟨RX2, "enter", "(IIII)I"⟩
abbrev cX2_isA : ByteArray := prog_4_method_3_code
def yX2_isA : MethodName := ⟨RX2, "isA", "(II)Z"⟩
abbrev cX2_isStanding : ByteArray := prog_4_method_4_code
def yX2_isStanding : MethodName := ⟨RX2, "isStanding", "(I)Z"⟩
abbrev cX2_howMany : ByteArray := prog_4_method_5_code
def yX2_howMany : MethodName := ⟨RX2, "howMany", "(I)I"⟩
abbrev cX2_standing : ByteArray := prog_4_method_6_code
def yX2_standing : MethodName := ⟨RX2, "standing", "()I"⟩
abbrev cX2_sumUp : ByteArray := prog_4_method_7_code
def yX2_sumUp : MethodName := ⟨RX2, "sumUp", "()J"⟩
abbrev cX2_sumUpRows : ByteArray := prog_4_method_8_code
def yX2_sumUpRows : MethodName := ⟨RX2, "sumUpRows", "(JLSenateRoll$Rows;I)J"⟩
abbrev cX2_sumUpTexts : ByteArray := prog_4_method_9_code
def yX2_sumUpTexts : MethodName := ⟨RX2, "sumUpTexts", "(J)J"⟩
abbrev cX2_takeOver : ByteArray := prog_4_method_10_code
def yX2_takeOver : MethodName := ⟨RX2, "takeOver", "(LSenateRoll$House;)V"⟩
def RX3 : String := "SenateRoll$Judge"
def TX3 : u_T := fun k => match k with
  | 0 => ("SenateRoll$Judge", "house", "LSenateRoll$House;", true)
  | 1 => ("SenateRoll$Judge", "known", "LSenateRoll$Known;", true)
  | 2 => ("SenateRoll$Judge", "machine", "LSenateRoll$Machine;", true)
  | 3 => ("SenateRoll$Judge", "plain", "LSenateRoll$Rows;", true)
  | _ => ("SenateRoll$Judge", "before", "LSenateRoll$Rows;", true)
def tyX3 : Nat → FieldType := fun k => match k with
  | 0 => .object "SenateRoll$House"
  | 1 => .object "SenateRoll$Known"
  | 2 => .object "SenateRoll$Machine"
  | 3 => .object "SenateRoll$Rows"
  | _ => .object "SenateRoll$Rows"
abbrev wsX30 : List Cond := u_ws RX3 TX3 5
theorem nmX3 : ∀ a, a < 5 → ∀ b, b < 5 → a ≠ b → (TX3 a).2.1 ≠ (TX3 b).2.1 := by decide +kernel
theorem tyX3_ok : ∀ k, k < 5 → parseFieldDescriptor (TX3 k).2.2.1 = some (tyX3 k) := by decide +kernel
abbrev cX3_init : ByteArray := prog_5_method_1_code
def yX3_init : MethodName := ⟨RX3, "<init>", "(LSenateRoll$House;LSenateRoll$Known;LSenateRoll$Machine;)V"⟩
abbrev cX3_putCode : ByteArray := prog_5_method_2_code
def yX3_putCode : MethodName := ⟨RX3, "putCode", "(I[I)V"⟩
abbrev cX3_bindingOf : ByteArray := prog_5_method_3_code
def yX3_bindingOf : MethodName := ⟨RX3, "bindingOf", "(II)I"⟩
abbrev cX3_latestOf : ByteArray := prog_5_method_4_code
def yX3_latestOf : MethodName := ⟨RX3, "latestOf", "(IZ)I"⟩
abbrev cX3_rowsOf : ByteArray := prog_5_method_5_code
def yX3_rowsOf : MethodName := ⟨RX3, "rowsOf", "(I)LSenateRoll$Rows;"⟩
abbrev cX3_passedOf : ByteArray := prog_5_method_6_code
def yX3_passedOf : MethodName := ⟨RX3, "passedOf", "(II)I"⟩
abbrev cX3_classOf : ByteArray := prog_5_method_7_code
def yX3_classOf : MethodName := ⟨RX3, "classOf", "(II)I"⟩
abbrev cX3_classWith : ByteArray := prog_5_method_8_code
def yX3_classWith : MethodName := ⟨RX3, "classWith", "(II)I"⟩
abbrev cX3_edgeOf : ByteArray := prog_5_method_9_code
def yX3_edgeOf : MethodName := ⟨RX3, "edgeOf", "(II)I"⟩
abbrev cX3_rollOf : ByteArray := prog_5_method_10_code
def yX3_rollOf : MethodName := ⟨RX3, "rollOf", "(II)I"⟩
abbrev cX3_hangingOn : ByteArray := prog_5_method_11_code
def yX3_hangingOn : MethodName := ⟨RX3, "hangingOn", "(III)I"⟩
abbrev cX3_setInCourse : ByteArray := prog_5_method_12_code
def yX3_setInCourse : MethodName := ⟨RX3, "setInCourse", "(III)V"⟩
abbrev cX3_setAlone : ByteArray := prog_5_method_13_code
def yX3_setAlone : MethodName := ⟨RX3, "setAlone", "(II)V"⟩
def RX4 : String := "SenateRoll$Known"
def TX4 : u_T := fun k => match k with
  | 0 => ("SenateRoll$Known", "house", "LSenateRoll$House;", true)
  | 1 => ("SenateRoll$Known", "acts", "LSenateRoll$Rows;", true)
  | 2 => ("SenateRoll$Known", "outcomes", "LSenateRoll$Rows;", true)
  | _ => ("SenateRoll$Known", "scales", "LSenateRoll$Rows;", true)
def tyX4 : Nat → FieldType := fun k => match k with
  | 0 => .object "SenateRoll$House"
  | 1 => .object "SenateRoll$Rows"
  | 2 => .object "SenateRoll$Rows"
  | _ => .object "SenateRoll$Rows"
abbrev wsX40 : List Cond := u_ws RX4 TX4 4
theorem nmX4 : ∀ a, a < 4 → ∀ b, b < 4 → a ≠ b → (TX4 a).2.1 ≠ (TX4 b).2.1 := by decide +kernel
theorem tyX4_ok : ∀ k, k < 4 → parseFieldDescriptor (TX4 k).2.2.1 = some (tyX4 k) := by decide +kernel
abbrev cX4_init : ByteArray := prog_6_method_1_code
def yX4_init : MethodName := ⟨RX4, "<init>", "(LSenateRoll$House;)V"⟩
abbrev cX4_learn : ByteArray := prog_6_method_2_code
def yX4_learn : MethodName := ⟨RX4, "learn", "(II)V"⟩
abbrev cX4_holds : ByteArray := prog_6_method_3_code
def yX4_holds : MethodName := ⟨RX4, "holds", "(I)Z"⟩
abbrev cX4_secondOf : ByteArray := prog_6_method_4_code
def yX4_secondOf : MethodName := ⟨RX4, "secondOf", "(I)I"⟩
abbrev cX4_finalOf : ByteArray := prog_6_method_5_code
def yX4_finalOf : MethodName := ⟨RX4, "finalOf", "(II)I"⟩
abbrev cX4_triesOf : ByteArray := prog_6_method_6_code
def yX4_triesOf : MethodName := ⟨RX4, "triesOf", "(II)I"⟩
abbrev cX4_excusedOf : ByteArray := prog_6_method_7_code
def yX4_excusedOf : MethodName := ⟨RX4, "excusedOf", "(II)I"⟩
abbrev cX4_stepOf : ByteArray := prog_6_method_8_code
def yX4_stepOf : MethodName := ⟨RX4, "stepOf", "(II)I"⟩
abbrev cX4_sift : ByteArray := prog_6_method_9_code
def yX4_sift : MethodName := ⟨RX4, "sift", "(II)V"⟩
abbrev cX4_gather : ByteArray := prog_6_method_10_code
def yX4_gather : MethodName := ⟨RX4, "gather", "()V"⟩
abbrev cX4_gatherOne : ByteArray := prog_6_method_11_code
def yX4_gatherOne : MethodName := ⟨RX4, "gatherOne", "(I)V"⟩
abbrev cX4_bringFirst : ByteArray := prog_6_method_12_code
def yX4_bringFirst : MethodName := ⟨RX4, "bringFirst", "(I)V"⟩
abbrev cX4_rowOf : ByteArray := prog_6_method_13_code
def yX4_rowOf : MethodName := ⟨RX4, "rowOf", "(I)I"⟩
abbrev cX4_bothOf : ByteArray := prog_6_method_14_code
def yX4_bothOf : MethodName := ⟨RX4, "bothOf", "(II)I"⟩
abbrev cX4_scaledOf : ByteArray := prog_6_method_15_code
def yX4_scaledOf : MethodName := ⟨RX4, "scaledOf", "(II)I"⟩
def RX5 : String := "SenateRoll$Machine"
def TX5 : u_T := fun k => match k with
  | 0 => ("SenateRoll$Machine", "stack", "[J", true)
  | 1 => ("SenateRoll$Machine", "told", "[J", true)
  | 2 => ("SenateRoll$Machine", "finals", "[I", true)
  | 3 => ("SenateRoll$Machine", "ranked", "I", false)
  | 4 => ("SenateRoll$Machine", "top", "I", false)
  | _ => ("SenateRoll$Machine", "usedMore", "Z", false)
def tyX5 : Nat → FieldType := fun k => match k with
  | 0 => .array .long
  | 1 => .array .long
  | 2 => .array .int
  | 3 => .int
  | 4 => .int
  | _ => .boolean
abbrev wsX50 : List Cond := u_ws RX5 TX5 6
theorem nmX5 : ∀ a, a < 6 → ∀ b, b < 6 → a ≠ b → (TX5 a).2.1 ≠ (TX5 b).2.1 := by decide +kernel
theorem tyX5_ok : ∀ k, k < 6 → parseFieldDescriptor (TX5 k).2.2.1 = some (tyX5 k) := by decide +kernel
abbrev cX5_init : ByteArray := prog_7_method_1_code
def yX5_init : MethodName := ⟨RX5, "<init>", "()V"⟩
abbrev cX5_forget : ByteArray := prog_7_method_2_code
def yX5_forget : MethodName := ⟨RX5, "forget", "()V"⟩
abbrev cX5_tell : ByteArray := prog_7_method_3_code
def yX5_tell : MethodName := ⟨RX5, "tell", "(IJ)V"⟩
abbrev cX5_told : ByteArray := prog_7_method_4_code
def yX5_told : MethodName := ⟨RX5, "told", "(I)J"⟩
abbrev cX5_rank : ByteArray := prog_7_method_5_code
def yX5_rank : MethodName := ⟨RX5, "rank", "(I)V"⟩
abbrev cX5_bestOf : ByteArray := prog_7_method_6_code
def yX5_bestOf : MethodName := ⟨RX5, "bestOf", "(J)J"⟩
abbrev cX5_usedMore : ByteArray := prog_7_method_7_code
def yX5_usedMore : MethodName := ⟨RX5, "usedMore", "()Z"⟩
abbrev cX5_work : ByteArray := prog_7_method_8_code
def yX5_work : MethodName := ⟨RX5, "work", "(LSenateRoll$Rows;III)J"⟩
abbrev cX5_apply : ByteArray := prog_7_method_9_code
def yX5_apply : MethodName := ⟨RX5, "apply", "(II)V"⟩
abbrev cX5_ofTwo : ByteArray := prog_7_method_10_code
def yX5_ofTwo : MethodName := ⟨RX5, "ofTwo", "(IJJ)J"⟩
abbrev cX5_push : ByteArray := prog_7_method_11_code
def yX5_push : MethodName := ⟨RX5, "push", "(J)V"⟩
abbrev cX5_pop : ByteArray := prog_7_method_12_code
def yX5_pop : MethodName := ⟨RX5, "pop", "()J"⟩
def RX6 : String := "SenateRoll$Papers"
def TX6 : u_T := fun k => match k with
  | 0 => ("SenateRoll$Papers", "house", "LSenateRoll$House;", true)
  | 1 => ("SenateRoll$Papers", "sitters", "[I", true)
  | 2 => ("SenateRoll$Papers", "hour", "[I", true)
  | 3 => ("SenateRoll$Papers", "busy", "[I", true)
  | 4 => ("SenateRoll$Papers", "taken", "[I", true)
  | 5 => ("SenateRoll$Papers", "papers", "I", false)
  | _ => ("SenateRoll$Papers", "seats", "I", false)
def tyX6 : Nat → FieldType := fun k => match k with
  | 0 => .object "SenateRoll$House"
  | 1 => .array .int
  | 2 => .array .int
  | 3 => .array .int
  | 4 => .array .int
  | 5 => .int
  | _ => .int
abbrev wsX60 : List Cond := u_ws RX6 TX6 7
theorem nmX6 : ∀ a, a < 7 → ∀ b, b < 7 → a ≠ b → (TX6 a).2.1 ≠ (TX6 b).2.1 := by decide +kernel
theorem tyX6_ok : ∀ k, k < 7 → parseFieldDescriptor (TX6 k).2.2.1 = some (tyX6 k) := by decide +kernel
abbrev cX6_init : ByteArray := prog_8_method_1_code
def yX6_init : MethodName := ⟨RX6, "<init>", "(LSenateRoll$House;)V"⟩
abbrev cX6_setHours : ByteArray := prog_8_method_2_code
def yX6_setHours : MethodName := ⟨RX6, "setHours", "(II)I"⟩
abbrev cX6_hourAt : ByteArray := prog_8_method_3_code
def yX6_hourAt : MethodName := ⟨RX6, "hourAt", "(I)I"⟩
abbrev cX6_sittersOf : ByteArray := prog_8_method_4_code
def yX6_sittersOf : MethodName := ⟨RX6, "sittersOf", "(I)I"⟩
abbrev cX6_place : ByteArray := prog_8_method_5_code
def yX6_place : MethodName := ⟨RX6, "place", "(LSenateRoll$Papers;III)Z"⟩
abbrev cX6_takes : ByteArray := prog_8_method_6_code
def yX6_takes : MethodName := ⟨RX6, "takes", "(II)Z"⟩
def RX7 : String := "SenateRoll$Reader"
def TX7 : u_T := fun k => match k with
  | 0 => ("SenateRoll$Reader", "code", "LSenateRoll$Rows;", true)
  | 1 => ("SenateRoll$Reader", "waiting", "LSenateRoll$Rows;", true)
  | 2 => ("SenateRoll$Reader", "texts", "LSenateRoll$Rows;", true)
  | 3 => ("SenateRoll$Reader", "text", "I", false)
  | 4 => ("SenateRoll$Reader", "length", "I", false)
  | 5 => ("SenateRoll$Reader", "start", "I", false)
  | 6 => ("SenateRoll$Reader", "end", "I", false)
  | 7 => ("SenateRoll$Reader", "kind", "I", false)
  | 8 => ("SenateRoll$Reader", "value", "I", false)
  | 9 => ("SenateRoll$Reader", "open", "I", false)
  | 10 => ("SenateRoll$Reader", "fault", "I", false)
  | _ => ("SenateRoll$Reader", "unitIsDue", "Z", false)
def tyX7 : Nat → FieldType := fun k => match k with
  | 0 => .object "SenateRoll$Rows"
  | 1 => .object "SenateRoll$Rows"
  | 2 => .object "SenateRoll$Rows"
  | 3 => .int
  | 4 => .int
  | 5 => .int
  | 6 => .int
  | 7 => .int
  | 8 => .int
  | 9 => .int
  | 10 => .int
  | _ => .boolean
abbrev wsX70 : List Cond := u_ws RX7 TX7 12
theorem nmX7 : ∀ a, a < 12 → ∀ b, b < 12 → a ≠ b → (TX7 a).2.1 ≠ (TX7 b).2.1 := by decide +kernel
theorem tyX7_ok : ∀ k, k < 12 → parseFieldDescriptor (TX7 k).2.2.1 = some (tyX7 k) := by decide +kernel
abbrev cX7_init : ByteArray := prog_9_method_1_code
def yX7_init : MethodName := ⟨RX7, "<init>", "(LSenateRoll$Rows;)V"⟩
abbrev cX7_code : ByteArray := prog_9_method_2_code
def yX7_code : MethodName := ⟨RX7, "code", "()LSenateRoll$Rows;"⟩
abbrev cX7_read : ByteArray := prog_9_method_3_code
def yX7_read : MethodName := ⟨RX7, "read", "(I)I"⟩
abbrev cX7_copyTo : ByteArray := prog_9_method_4_code
def yX7_copyTo : MethodName := ⟨RX7, "copyTo", "(LSenateRoll$Rows;II)V"⟩
abbrev cX7_takeUnit : ByteArray := prog_9_method_5_code
def yX7_takeUnit : MethodName := ⟨RX7, "takeUnit", "()V"⟩
abbrev cX7_takeBehindUnit : ByteArray := prog_9_method_6_code
def yX7_takeBehindUnit : MethodName := ⟨RX7, "takeBehindUnit", "()V"⟩
abbrev cX7_takeNumber : ByteArray := prog_9_method_7_code
def yX7_takeNumber : MethodName := ⟨RX7, "takeNumber", "()V"⟩
abbrev cX7_openOne : ByteArray := prog_9_method_8_code
def yX7_openOne : MethodName := ⟨RX7, "openOne", "()V"⟩
abbrev cX7_closeOne : ByteArray := prog_9_method_9_code
def yX7_closeOne : MethodName := ⟨RX7, "closeOne", "()V"⟩
abbrev cX7_turnIfToElse : ByteArray := prog_9_method_10_code
def yX7_turnIfToElse : MethodName := ⟨RX7, "turnIfToElse", "()V"⟩
abbrev cX7_endCases : ByteArray := prog_9_method_11_code
def yX7_endCases : MethodName := ⟨RX7, "endCases", "()V"⟩
abbrev cX7_emitDownTo : ByteArray := prog_9_method_12_code
def yX7_emitDownTo : MethodName := ⟨RX7, "emitDownTo", "(I)V"⟩
abbrev cX7_pushUnless : ByteArray := prog_9_method_13_code
def yX7_pushUnless : MethodName := ⟨RX7, "pushUnless", "(Z)V"⟩
abbrev cX7_pushOperator : ByteArray := prog_9_method_14_code
def yX7_pushOperator : MethodName := ⟨RX7, "pushOperator", "()V"⟩
abbrev cX7_push : ByteArray := prog_9_method_15_code
def yX7_push : MethodName := ⟨RX7, "push", "(I)V"⟩
abbrev cX7_last : ByteArray := prog_9_method_16_code
def yX7_last : MethodName := ⟨RX7, "last", "()I"⟩
abbrev cX7_emit : ByteArray := prog_9_method_17_code
def yX7_emit : MethodName := ⟨RX7, "emit", "(I)V"⟩
abbrev cX7_rankOf : ByteArray := prog_9_method_18_code
def yX7_rankOf : MethodName := ⟨RX7, "rankOf", "(I)I"⟩
abbrev cX7_failUnless : ByteArray := prog_9_method_19_code
def yX7_failUnless : MethodName := ⟨RX7, "failUnless", "(Z)V"⟩
abbrev cX7_fail : ByteArray := prog_9_method_20_code
def yX7_fail : MethodName := ⟨RX7, "fail", "(I)V"⟩
abbrev cX7_nextToken : ByteArray := prog_9_method_21_code
def yX7_nextToken : MethodName := ⟨RX7, "nextToken", "()V"⟩
abbrev cX7_nextNumber : ByteArray := prog_9_method_22_code
def yX7_nextNumber : MethodName := ⟨RX7, "nextNumber", "()V"⟩
abbrev cX7_nextWord : ByteArray := prog_9_method_23_code
def yX7_nextWord : MethodName := ⟨RX7, "nextWord", "()V"⟩
abbrev cX7_wordThere : ByteArray := prog_9_method_24_code
def yX7_wordThere : MethodName := ⟨RX7, "wordThere", "()I"⟩
abbrev cX7_letter : ByteArray := prog_9_method_25_code
def yX7_letter : MethodName := ⟨RX7, "letter", "(I)I"⟩
abbrev cX7_isDigit : ByteArray := prog_9_method_26_code
def yX7_isDigit : MethodName := ⟨RX7, "isDigit", "(I)Z"⟩
abbrev cX7_isLetter : ByteArray := prog_9_method_27_code
def yX7_isLetter : MethodName := ⟨RX7, "isLetter", "(I)Z"⟩
def RX8 : String := "SenateRoll$Rows"
def TX8 : u_T := fun k => match k with
  | 0 => ("SenateRoll$Rows", "limit", "I", true)
  | 1 => ("SenateRoll$Rows", "columns", "I", true)
  | 2 => ("SenateRoll$Rows", "cells", "[I", true)
  | _ => ("SenateRoll$Rows", "used", "I", false)
def tyX8 : Nat → FieldType := fun k => match k with
  | 0 => .int
  | 1 => .int
  | 2 => .array .int
  | _ => .int
abbrev wsX80 : List Cond := u_ws RX8 TX8 4
theorem nmX8 : ∀ a, a < 4 → ∀ b, b < 4 → a ≠ b → (TX8 a).2.1 ≠ (TX8 b).2.1 := by decide +kernel
theorem tyX8_ok : ∀ k, k < 4 → parseFieldDescriptor (TX8 k).2.2.1 = some (tyX8 k) := by decide +kernel
abbrev cX8_init : ByteArray := prog_10_method_1_code
def yX8_init : MethodName := ⟨RX8, "<init>", "(II)V"⟩
abbrev cX8_size : ByteArray := prog_10_method_2_code
def yX8_size : MethodName := ⟨RX8, "size", "()I"⟩
abbrev cX8_has : ByteArray := prog_10_method_3_code
def yX8_has : MethodName := ⟨RX8, "has", "(I)Z"⟩
abbrev cX8_open : ByteArray := prog_10_method_4_code
def yX8_open : MethodName := ⟨RX8, "open", "()I"⟩
abbrev cX8_drop : ByteArray := prog_10_method_5_code
def yX8_drop : MethodName := ⟨RX8, "drop", "()V"⟩
abbrev cX8_dropLast : ByteArray := prog_10_method_6_code
def yX8_dropLast : MethodName := ⟨RX8, "dropLast", "()V"⟩
abbrev cX8_get : ByteArray := prog_10_method_7_code
def yX8_get : MethodName := ⟨RX8, "get", "(II)I"⟩
abbrev cX8_set : ByteArray := prog_10_method_8_code
def yX8_set : MethodName := ⟨RX8, "set", "(III)V"⟩
abbrev cX8_add : ByteArray := prog_10_method_9_code
def yX8_add : MethodName := ⟨RX8, "add", "(III)V"⟩
abbrev cX8_fillColumn : ByteArray := prog_10_method_10_code
def yX8_fillColumn : MethodName := ⟨RX8, "fillColumn", "(III)V"⟩
abbrev cX8_takeOver : ByteArray := prog_10_method_11_code
def yX8_takeOver : MethodName := ⟨RX8, "takeOver", "(LSenateRoll$Rows;)V"⟩
def RX9 : String := "SenateRoll$Ways"
def TX9 : u_T := fun k => match k with
  | 0 => ("SenateRoll$Ways", "house", "LSenateRoll$House;", true)
  | 1 => ("SenateRoll$Ways", "fewest", "[I", true)
  | 2 => ("SenateRoll$Ways", "early", "LSenateRoll$Rows;", true)
  | 3 => ("SenateRoll$Ways", "waiting", "LSenateRoll$Rows;", true)
  | 4 => ("SenateRoll$Ways", "toTake", "I", false)
  | _ => ("SenateRoll$Ways", "most", "I", false)
def tyX9 : Nat → FieldType := fun k => match k with
  | 0 => .object "SenateRoll$House"
  | 1 => .array .int
  | 2 => .object "SenateRoll$Rows"
  | 3 => .object "SenateRoll$Rows"
  | 4 => .int
  | _ => .int
abbrev wsX90 : List Cond := u_ws RX9 TX9 6
theorem nmX9 : ∀ a, a < 6 → ∀ b, b < 6 → a ≠ b → (TX9 a).2.1 ≠ (TX9 b).2.1 := by decide +kernel
theorem tyX9_ok : ∀ k, k < 6 → parseFieldDescriptor (TX9 k).2.2.1 = some (tyX9 k) := by decide +kernel
abbrev cX9_init : ByteArray := prog_11_method_1_code
def yX9_init : MethodName := ⟨RX9, "<init>", "(LSenateRoll$House;)V"⟩
abbrev cX9_lead : ByteArray := prog_11_method_2_code
def yX9_lead : MethodName := ⟨RX9, "lead", "(III)V"⟩
abbrev cX9_termsFrom : ByteArray := prog_11_method_3_code
def yX9_termsFrom : MethodName := ⟨RX9, "termsFrom", "(I)I"⟩
abbrev cX9_setAt : ByteArray := prog_11_method_4_code
def yX9_setAt : MethodName := ⟨RX9, "setAt", "(III)I"⟩
abbrev cX9_greatestSet : ByteArray := prog_11_method_5_code
def yX9_greatestSet : MethodName := ⟨RX9, "greatestSet", "(III)I"⟩
abbrev cX9_fewestFor : ByteArray := prog_11_method_6_code
def yX9_fewestFor : MethodName := ⟨RX9, "fewestFor", "(LSenateRoll$Ways;III)I"⟩
abbrev cX9_freeIn : ByteArray := prog_11_method_7_code
def yX9_freeIn : MethodName := ⟨RX9, "freeIn", "(II)I"⟩
abbrev cX9_isTaught : ByteArray := prog_11_method_8_code
def yX9_isTaught : MethodName := ⟨RX9, "isTaught", "(II)Z"⟩
abbrev cX9_leastFor : ByteArray := prog_11_method_9_code
def yX9_leastFor : MethodName := ⟨RX9, "leastFor", "(II)I"⟩
abbrev cX9_leastWithin : ByteArray := prog_11_method_10_code
def yX9_leastWithin : MethodName := ⟨RX9, "leastWithin", "(II)I"⟩
abbrev cX9_earliest : ByteArray := prog_11_method_11_code
def yX9_earliest : MethodName := ⟨RX9, "earliest", "(III)I"⟩
def RX10 : String := "SenateRoll"
def TX10 : u_T := fun k => match k with
  | 0 => ("SenateRoll", "house", "LSenateRoll$House;", true)
  | 1 => ("SenateRoll", "firstImage", "LSenateRoll$House;", true)
  | 2 => ("SenateRoll", "otherImage", "LSenateRoll$House;", true)
  | 3 => ("SenateRoll", "imagesKept", "I", false)
  | 4 => ("SenateRoll", "known", "LSenateRoll$Known;", true)
  | 5 => ("SenateRoll", "reader", "LSenateRoll$Reader;", true)
  | 6 => ("SenateRoll", "machine", "LSenateRoll$Machine;", true)
  | 7 => ("SenateRoll", "judge", "LSenateRoll$Judge;", true)
  | 8 => ("SenateRoll", "ways", "LSenateRoll$Ways;", true)
  | 9 => ("SenateRoll", "papers", "LSenateRoll$Papers;", true)
  | 10 => ("SenateRoll", "habits", "LSenateRoll$Habits;", true)
  | _ => ("SenateRoll", "doubts", "LSenateRoll$Doubts;", true)
def tyX10 : Nat → FieldType := fun k => match k with
  | 0 => .object "SenateRoll$House"
  | 1 => .object "SenateRoll$House"
  | 2 => .object "SenateRoll$House"
  | 3 => .int
  | 4 => .object "SenateRoll$Known"
  | 5 => .object "SenateRoll$Reader"
  | 6 => .object "SenateRoll$Machine"
  | 7 => .object "SenateRoll$Judge"
  | 8 => .object "SenateRoll$Ways"
  | 9 => .object "SenateRoll$Papers"
  | 10 => .object "SenateRoll$Habits"
  | _ => .object "SenateRoll$Doubts"
abbrev wsX100 : List Cond := u_ws RX10 TX10 12
theorem nmX10 : ∀ a, a < 12 → ∀ b, b < 12 → a ≠ b → (TX10 a).2.1 ≠ (TX10 b).2.1 := by decide +kernel
theorem tyX10_ok : ∀ k, k < 12 → parseFieldDescriptor (TX10 k).2.2.1 = some (tyX10 k) := by decide +kernel
abbrev cX10_init : ByteArray := prog_1_method_1_code
def yX10_init : MethodName := ⟨RX10, "<init>", "()V"⟩
abbrev cX10_course : ByteArray := prog_1_method_2_code
def yX10_course : MethodName := ⟨RX10, "course", "(IIII)I"⟩
abbrev cX10_student : ByteArray := prog_1_method_3_code
def yX10_student : MethodName := ⟨RX10, "student", "(I)I"⟩
abbrev cX10_board : ByteArray := prog_1_method_4_code
def yX10_board : MethodName := ⟨RX10, "board", "(II)I"⟩
abbrev cX10_meeting : ByteArray := prog_1_method_5_code
def yX10_meeting : MethodName := ⟨RX10, "meeting", "(IIII)I"⟩
abbrev cX10_tear : ByteArray := prog_1_method_6_code
def yX10_tear : MethodName := ⟨RX10, "tear", "(IZ)I"⟩
abbrev cX10_stands : ByteArray := prog_1_method_7_code
def yX10_stands : MethodName := ⟨RX10, "stands", "(I)I"⟩
abbrev cX10_mark : ByteArray := prog_1_method_8_code
def yX10_mark : MethodName := ⟨RX10, "mark", "(IIIIII)I"⟩
abbrev cX10_second : ByteArray := prog_1_method_9_code
def yX10_second : MethodName := ⟨RX10, "second", "(IIIII)I"⟩
abbrev cX10_moderate : ByteArray := prog_1_method_10_code
def yX10_moderate : MethodName := ⟨RX10, "moderate", "(IIII)I"⟩
abbrev cX10_scale : ByteArray := prog_1_method_11_code
def yX10_scale : MethodName := ⟨RX10, "scale", "(IIIIII)I"⟩
abbrev cX10_excuse : ByteArray := prog_1_method_12_code
def yX10_excuse : MethodName := ⟨RX10, "excuse", "(IIII)I"⟩
abbrev cX10_strike : ByteArray := prog_1_method_13_code
def yX10_strike : MethodName := ⟨RX10, "strike", "(III)I"⟩
abbrev cX10_degree : ByteArray := prog_1_method_14_code
def yX10_degree : MethodName := ⟨RX10, "degree", "(III)I"⟩
abbrev cX10_appeal : ByteArray := prog_1_method_15_code
def yX10_appeal : MethodName := ⟨RX10, "appeal", "(II)I"⟩
abbrev cX10_days : ByteArray := prog_1_method_16_code
def yX10_days : MethodName := ⟨RX10, "days", "(I)I"⟩
abbrev cX10_about : ByteArray := prog_1_method_17_code
def yX10_about : MethodName := ⟨RX10, "about", "(II)I"⟩
abbrev cX10_counts : ByteArray := prog_1_method_18_code
def yX10_counts : MethodName := ⟨RX10, "counts", "(II)I"⟩
abbrev cX10_step : ByteArray := prog_1_method_19_code
def yX10_step : MethodName := ⟨RX10, "step", "(III)I"⟩
abbrev cX10_outcome : ByteArray := prog_1_method_20_code
def yX10_outcome : MethodName := ⟨RX10, "outcome", "(IIII)I"⟩
abbrev cX10_passed : ByteArray := prog_1_method_21_code
def yX10_passed : MethodName := ⟨RX10, "passed", "(III)I"⟩
abbrev cX10_grade : ByteArray := prog_1_method_22_code
def yX10_grade : MethodName := ⟨RX10, "grade", "(III)I"⟩
abbrev cX10_number : ByteArray := prog_1_method_23_code
def yX10_number : MethodName := ⟨RX10, "number", "(IIII)J"⟩
abbrev cX10_edge : ByteArray := prog_1_method_24_code
def yX10_edge : MethodName := ⟨RX10, "edge", "(III)I"⟩
abbrev cX10_roll : ByteArray := prog_1_method_25_code
def yX10_roll : MethodName := ⟨RX10, "roll", "(III)I"⟩
abbrev cX10_hangs : ByteArray := prog_1_method_26_code
def yX10_hangs : MethodName := ⟨RX10, "hangs", "(III)I"⟩
abbrev cX10_write : ByteArray := prog_1_method_27_code
def yX10_write : MethodName := ⟨RX10, "write", "(II)I"⟩
abbrev cX10_erase : ByteArray := prog_1_method_28_code
def yX10_erase : MethodName := ⟨RX10, "erase", "(I)I"⟩
abbrev cX10_fault : ByteArray := prog_1_method_29_code
def yX10_fault : MethodName := ⟨RX10, "fault", "(I)I"⟩
abbrev cX10_tells : ByteArray := prog_1_method_30_code
def yX10_tells : MethodName := ⟨RX10, "tells", "(IIIII)J"⟩
abbrev cX10_ordain : ByteArray := prog_1_method_31_code
def yX10_ordain : MethodName := ⟨RX10, "ordain", "(IIIZ)I"⟩
abbrev cX10_choose : ByteArray := prog_1_method_32_code
def yX10_choose : MethodName := ⟨RX10, "choose", "(II)I"⟩
abbrev cX10_binds : ByteArray := prog_1_method_33_code
def yX10_binds : MethodName := ⟨RX10, "binds", "(II)I"⟩
abbrev cX10_way : ByteArray := prog_1_method_34_code
def yX10_way : MethodName := ⟨RX10, "way", "(IIIIII)I"⟩
abbrev cX10_wayAt : ByteArray := prog_1_method_35_code
def yX10_wayAt : MethodName := ⟨RX10, "wayAt", "(IIIIIII)I"⟩
abbrev cX10_sits : ByteArray := prog_1_method_36_code
def yX10_sits : MethodName := ⟨RX10, "sits", "(IIZ)I"⟩
abbrev cX10_hours : ByteArray := prog_1_method_37_code
def yX10_hours : MethodName := ⟨RX10, "hours", "(II)I"⟩
abbrev cX10_hourOf : ByteArray := prog_1_method_38_code
def yX10_hourOf : MethodName := ⟨RX10, "hourOf", "(III)I"⟩
abbrev cX10_habit : ByteArray := prog_1_method_39_code
def yX10_habit : MethodName := ⟨RX10, "habit", "(III)I"⟩
abbrev cX10_odds : ByteArray := prog_1_method_40_code
def yX10_odds : MethodName := ⟨RX10, "odds", "(I)I"⟩
abbrev cX10_line : ByteArray := prog_1_method_41_code
def yX10_line : MethodName := ⟨RX10, "line", "(II)I"⟩
abbrev cX10_clear : ByteArray := prog_1_method_42_code
def yX10_clear : MethodName := ⟨RX10, "clear", "()I"⟩
abbrev cX10_doubt : ByteArray := prog_1_method_43_code
def yX10_doubt : MethodName := ⟨RX10, "doubt", "(II)I"⟩
abbrev cX10_image : ByteArray := prog_1_method_44_code
def yX10_image : MethodName := ⟨RX10, "image", "(I)I"⟩
abbrev cX10_from : ByteArray := prog_1_method_45_code
def yX10_from : MethodName := ⟨RX10, "from", "(I)I"⟩
abbrev cX10_count : ByteArray := prog_1_method_46_code
def yX10_count : MethodName := ⟨RX10, "count", "(I)I"⟩
abbrev cX10_digest : ByteArray := prog_1_method_47_code
def yX10_digest : MethodName := ⟨RX10, "digest", "()J"⟩
abbrev cX10_within : ByteArray := prog_1_method_48_code
def yX10_within : MethodName := ⟨RX10, "within", "(III)Z"⟩
abbrev cX10_isDay : ByteArray := prog_1_method_49_code
def yX10_isDay : MethodName := ⟨RX10, "isDay", "(I)Z"⟩
abbrev cX10_isMark : ByteArray := prog_1_method_50_code
def yX10_isMark : MethodName := ⟨RX10, "isMark", "(I)Z"⟩
abbrev cX10_isExaminer : ByteArray := prog_1_method_51_code
def yX10_isExaminer : MethodName := ⟨RX10, "isExaminer", "(I)Z"⟩
abbrev cX10_isText : ByteArray := prog_1_method_52_code
def yX10_isText : MethodName := ⟨RX10, "isText", "(I)Z"⟩
abbrev cX10_isStudent : ByteArray := prog_1_method_53_code
def yX10_isStudent : MethodName := ⟨RX10, "isStudent", "(I)Z"⟩
abbrev cX10_isCourse : ByteArray := prog_1_method_54_code
def yX10_isCourse : MethodName := ⟨RX10, "isCourse", "(I)Z"⟩
abbrev cX10_imageAt : ByteArray := prog_1_method_55_code
def yX10_imageAt : MethodName := ⟨RX10, "imageAt", "(I)LSenateRoll$House;"⟩
abbrev cX10_allCourses : ByteArray := prog_1_method_56_code
def yX10_allCourses : MethodName := ⟨RX10, "allCourses", "()I"⟩
abbrev cX10_isKnownAfter : ByteArray := prog_1_method_57_code
def yX10_isKnownAfter : MethodName := ⟨RX10, "isKnownAfter", "(II)Z"⟩
abbrev cX10_enterBy : ByteArray := prog_1_method_58_code
def yX10_enterBy : MethodName := ⟨RX10, "enterBy", "(III)I"⟩
def RX11 : String := "SenateRollModel"
def TX11 : u_T := fun k => match k with
  | 0 => ("SenateRollModel", "st", "[I", true)
  | 1 => ("SenateRollModel", "images", "[I", true)
  | 2 => ("SenateRollModel", "isKept", "[Z", true)
  | 3 => ("SenateRollModel", "isCounted", "[Z", true)
  | 4 => ("SenateRollModel", "finals", "[I", true)
  | 5 => ("SenateRollModel", "tries", "[I", true)
  | 6 => ("SenateRollModel", "excused", "[I", true)
  | 7 => ("SenateRollModel", "steps", "I", false)
  | 8 => ("SenateRollModel", "step", "[I", true)
  | 9 => ("SenateRollModel", "with", "[I", true)
  | 10 => ("SenateRollModel", "waiting", "I", false)
  | 11 => ("SenateRollModel", "waits", "[I", true)
  | 12 => ("SenateRollModel", "open", "I", false)
  | 13 => ("SenateRollModel", "wordEnd", "I", false)
  | 14 => ("SenateRollModel", "name", "[J", true)
  | 15 => ("SenateRollModel", "value", "[J", true)
  | 16 => ("SenateRollModel", "values", "I", false)
  | 17 => ("SenateRollModel", "greatest", "[I", true)
  | 18 => ("SenateRollModel", "passes", "I", false)
  | 19 => ("SenateRollModel", "edge", "I", false)
  | 20 => ("SenateRollModel", "isAlone", "Z", false)
  | 21 => ("SenateRollModel", "passedSet", "I", false)
  | 22 => ("SenateRollModel", "credits", "J", false)
  | 23 => ("SenateRollModel", "mean", "J", false)
  | 24 => ("SenateRollModel", "hadPassed", "[I", true)
  | 25 => ("SenateRollModel", "hadClass", "[I", true)
  | 26 => ("SenateRollModel", "hadRoll", "[I", true)
  | 27 => ("SenateRollModel", "left", "[I", true)
  | 28 => ("SenateRollModel", "wanted", "I", false)
  | 29 => ("SenateRollModel", "may", "[I", true)
  | 30 => ("SenateRollModel", "mays", "I", false)
  | 31 => ("SenateRollModel", "leftWanted", "I", false)
  | 32 => ("SenateRollModel", "leftPassed", "I", false)
  | 33 => ("SenateRollModel", "leftMost", "I", false)
  | 34 => ("SenateRollModel", "papers", "I", false)
  | 35 => ("SenateRollModel", "paper", "[I", true)
  | 36 => ("SenateRollModel", "hour", "[I", true)
  | 37 => ("SenateRollModel", "ahead", "[I", true)
  | 38 => ("SenateRollModel", "ways", "[I", true)
  | 39 => ("SenateRollModel", "tail", "[I", true)
  | 40 => ("SenateRollModel", "other", "[I", true)
  | 41 => ("SenateRollModel", "differ", "I", false)
  | 42 => ("SenateRollModel", "more", "I", false)
  | 43 => ("SenateRollModel", "pairs", "I", false)
  | _ => ("SenateRollModel", "sum", "I", false)
def tyX11 : Nat → FieldType := fun k => match k with
  | 0 => .array .int
  | 1 => .array .int
  | 2 => .array .boolean
  | 3 => .array .boolean
  | 4 => .array .int
  | 5 => .array .int
  | 6 => .array .int
  | 7 => .int
  | 8 => .array .int
  | 9 => .array .int
  | 10 => .int
  | 11 => .array .int
  | 12 => .int
  | 13 => .int
  | 14 => .array .long
  | 15 => .array .long
  | 16 => .int
  | 17 => .array .int
  | 18 => .int
  | 19 => .int
  | 20 => .boolean
  | 21 => .int
  | 22 => .long
  | 23 => .long
  | 24 => .array .int
  | 25 => .array .int
  | 26 => .array .int
  | 27 => .array .int
  | 28 => .int
  | 29 => .array .int
  | 30 => .int
  | 31 => .int
  | 32 => .int
  | 33 => .int
  | 34 => .int
  | 35 => .array .int
  | 36 => .array .int
  | 37 => .array .int
  | 38 => .array .int
  | 39 => .array .int
  | 40 => .array .int
  | 41 => .int
  | 42 => .int
  | 43 => .int
  | _ => .int
abbrev wsX110 : List Cond := u_ws RX11 TX11 45
theorem nmX11 : ∀ a, a < 45 → ∀ b, b < 45 → a ≠ b → (TX11 a).2.1 ≠ (TX11 b).2.1 := by decide +kernel
theorem tyX11_ok : ∀ k, k < 45 → parseFieldDescriptor (TX11 k).2.2.1 = some (tyX11 k) := by decide +kernel
abbrev cX11_in : ByteArray := prog_13_method_2_code
def yX11_in : MethodName := ⟨RX11, "in", "(III)Z"⟩
abbrev cX11_init : ByteArray := prog_13_method_3_code
def yX11_init : MethodName := ⟨RX11, "<init>", "()V"⟩
abbrev cX11_is : ByteArray := prog_13_method_4_code
def yX11_is : MethodName := ⟨RX11, "is", "(II)Z"⟩
abbrev cX11_one : ByteArray := prog_13_method_5_code
def yX11_one : MethodName := ⟨RX11, "one", "(I)I"⟩
abbrev cX11_isDay : ByteArray := prog_13_method_6_code
def yX11_isDay : MethodName := ⟨RX11, "isDay", "(I)Z"⟩
abbrev cX11_isMarkNumber : ByteArray := prog_13_method_7_code
def yX11_isMarkNumber : MethodName := ⟨RX11, "isMarkNumber", "(I)Z"⟩
abbrev cX11_sizeOf : ByteArray := prog_13_method_8_code
def yX11_sizeOf : MethodName := ⟨RX11, "sizeOf", "(I)I"⟩
abbrev cX11_course : ByteArray := prog_13_method_9_code
def yX11_course : MethodName := ⟨RX11, "course", "(IIII)I"⟩
abbrev cX11_student : ByteArray := prog_13_method_10_code
def yX11_student : MethodName := ⟨RX11, "student", "(I)I"⟩
abbrev cX11_board : ByteArray := prog_13_method_11_code
def yX11_board : MethodName := ⟨RX11, "board", "(II)I"⟩
abbrev cX11_meeting : ByteArray := prog_13_method_12_code
def yX11_meeting : MethodName := ⟨RX11, "meeting", "(IIII)I"⟩
abbrev cX11_tear : ByteArray := prog_13_method_13_code
def yX11_tear : MethodName := ⟨RX11, "tear", "(IZ)I"⟩
abbrev cX11_isStanding : ByteArray := prog_13_method_14_code
def yX11_isStanding : MethodName := ⟨RX11, "isStanding", "(I)Z"⟩
abbrev cX11_stands : ByteArray := prog_13_method_15_code
def yX11_stands : MethodName := ⟨RX11, "stands", "(I)I"⟩
abbrev cX11_act : ByteArray := prog_13_method_16_code
def yX11_act : MethodName := ⟨RX11, "act", "(II)I"⟩
abbrev cX11_puts : ByteArray := prog_13_method_17_code
def yX11_puts : MethodName := ⟨RX11, "puts", "(II)V"⟩
abbrev cX11_begins : ByteArray := prog_13_method_18_code
def yX11_begins : MethodName := ⟨RX11, "begins", "(IIII)V"⟩
abbrev cX11_isFull : ByteArray := prog_13_method_19_code
def yX11_isFull : MethodName := ⟨RX11, "isFull", "()Z"⟩
abbrev cX11_isMark : ByteArray := prog_13_method_20_code
def yX11_isMark : MethodName := ⟨RX11, "isMark", "(I)Z"⟩
abbrev cX11_dayOf : ByteArray := prog_13_method_21_code
def yX11_dayOf : MethodName := ⟨RX11, "dayOf", "(I)I"⟩
abbrev cX11_isBy : ByteArray := prog_13_method_22_code
def yX11_isBy : MethodName := ⟨RX11, "isBy", "(II)Z"⟩
abbrev cX11_mark : ByteArray := prog_13_method_23_code
def yX11_mark : MethodName := ⟨RX11, "mark", "(IIIIII)I"⟩
abbrev cX11_second : ByteArray := prog_13_method_24_code
def yX11_second : MethodName := ⟨RX11, "second", "(IIIII)I"⟩
abbrev cX11_moderate : ByteArray := prog_13_method_25_code
def yX11_moderate : MethodName := ⟨RX11, "moderate", "(IIII)I"⟩
abbrev cX11_scale : ByteArray := prog_13_method_26_code
def yX11_scale : MethodName := ⟨RX11, "scale", "(IIIIII)I"⟩
abbrev cX11_excuse : ByteArray := prog_13_method_27_code
def yX11_excuse : MethodName := ⟨RX11, "excuse", "(IIII)I"⟩
abbrev cX11_strike : ByteArray := prog_13_method_28_code
def yX11_strike : MethodName := ⟨RX11, "strike", "(III)I"⟩
abbrev cX11_degree : ByteArray := prog_13_method_29_code
def yX11_degree : MethodName := ⟨RX11, "degree", "(III)I"⟩
abbrev cX11_appeal : ByteArray := prog_13_method_30_code
def yX11_appeal : MethodName := ⟨RX11, "appeal", "(II)I"⟩
abbrev cX11_days : ByteArray := prog_13_method_31_code
def yX11_days : MethodName := ⟨RX11, "days", "(I)I"⟩
abbrev cX11_about : ByteArray := prog_13_method_32_code
def yX11_about : MethodName := ⟨RX11, "about", "(II)I"⟩
abbrev cX11_finds : ByteArray := prog_13_method_33_code
def yX11_finds : MethodName := ⟨RX11, "finds", "(I)V"⟩
abbrev cX11_counts : ByteArray := prog_13_method_34_code
def yX11_counts : MethodName := ⟨RX11, "counts", "(II)I"⟩
abbrev cX11_lastOf : ByteArray := prog_13_method_35_code
def yX11_lastOf : MethodName := ⟨RX11, "lastOf", "(II)I"⟩
abbrev cX11_scaledFor : ByteArray := prog_13_method_36_code
def yX11_scaledFor : MethodName := ⟨RX11, "scaledFor", "(I)I"⟩
abbrev cX11_isLater : ByteArray := prog_13_method_37_code
def yX11_isLater : MethodName := ⟨RX11, "isLater", "(I)Z"⟩
abbrev cX11_stepOf : ByteArray := prog_13_method_38_code
def yX11_stepOf : MethodName := ⟨RX11, "stepOf", "(II)I"⟩
abbrev cX11_step : ByteArray := prog_13_method_39_code
def yX11_step : MethodName := ⟨RX11, "step", "(III)I"⟩
abbrev cX11_findCourses : ByteArray := prog_13_method_40_code
def yX11_findCourses : MethodName := ⟨RX11, "findCourses", "(I)V"⟩
abbrev cX11_outcome : ByteArray := prog_13_method_41_code
def yX11_outcome : MethodName := ⟨RX11, "outcome", "(IIII)I"⟩
abbrev cX11_emits : ByteArray := prog_13_method_42_code
def yX11_emits : MethodName := ⟨RX11, "emits", "(II)V"⟩
abbrev cX11_holds : ByteArray := prog_13_method_43_code
def yX11_holds : MethodName := ⟨RX11, "holds", "(I)I"⟩
abbrev cX11_top : ByteArray := prog_13_method_44_code
def yX11_top : MethodName := ⟨RX11, "top", "()I"⟩
abbrev cX11_waitsWith : ByteArray := prog_13_method_45_code
def yX11_waitsWith : MethodName := ⟨RX11, "waitsWith", "(I)V"⟩
abbrev cX11_settles : ByteArray := prog_13_method_46_code
def yX11_settles : MethodName := ⟨RX11, "settles", "(I)V"⟩
abbrev cX11_settlesCase : ByteArray := prog_13_method_47_code
def yX11_settlesCase : MethodName := ⟨RX11, "settlesCase", "()Z"⟩
abbrev cX11_settlesValue : ByteArray := prog_13_method_48_code
def yX11_settlesValue : MethodName := ⟨RX11, "settlesValue", "()Z"⟩
abbrev cX11_signOf : ByteArray := prog_13_method_49_code
def yX11_signOf : MethodName := ⟨RX11, "signOf", "(I)I"⟩
abbrev cX11_goesOn : ByteArray := prog_13_method_50_code
def yX11_goesOn : MethodName := ⟨RX11, "goesOn", "(I)Z"⟩
abbrev cX11_wordAt : ByteArray := prog_13_method_51_code
def yX11_wordAt : MethodName := ⟨RX11, "wordAt", "(III)J"⟩
abbrev cX11_wordOf : ByteArray := prog_13_method_52_code
def yX11_wordOf : MethodName := ⟨RX11, "wordOf", "(J)I"⟩
abbrev cX11_reads : ByteArray := prog_13_method_53_code
def yX11_reads : MethodName := ⟨RX11, "reads", "(I)I"⟩
abbrev cX11_closes : ByteArray := prog_13_method_54_code
def yX11_closes : MethodName := ⟨RX11, "closes", "()I"⟩
abbrev cX11_bestOf : ByteArray := prog_13_method_55_code
def yX11_bestOf : MethodName := ⟨RX11, "bestOf", "(J)J"⟩
abbrev cX11_twoOf : ByteArray := prog_13_method_56_code
def yX11_twoOf : MethodName := ⟨RX11, "twoOf", "(IJJ)J"⟩
abbrev cX11_goes : ByteArray := prog_13_method_57_code
def yX11_goes : MethodName := ⟨RX11, "goes", "()J"⟩
abbrev cX11_latestOf : ByteArray := prog_13_method_58_code
def yX11_latestOf : MethodName := ⟨RX11, "latestOf", "(IZ)I"⟩
abbrev cX11_bindsOf : ByteArray := prog_13_method_59_code
def yX11_bindsOf : MethodName := ⟨RX11, "bindsOf", "(II)I"⟩
abbrev cX11_courseNames : ByteArray := prog_13_method_60_code
def yX11_courseNames : MethodName := ⟨RX11, "courseNames", "(I)V"⟩
abbrev cX11_aloneNames : ByteArray := prog_13_method_61_code
def yX11_aloneNames : MethodName := ⟨RX11, "aloneNames", "()V"⟩
abbrev cX11_findStudent : ByteArray := prog_13_method_62_code
def yX11_findStudent : MethodName := ⟨RX11, "findStudent", "(II)V"⟩
abbrev cX11_classOf : ByteArray := prog_13_method_63_code
def yX11_classOf : MethodName := ⟨RX11, "classOf", "(I)I"⟩
abbrev cX11_readsClass : ByteArray := prog_13_method_64_code
def yX11_readsClass : MethodName := ⟨RX11, "readsClass", "(II)I"⟩
abbrev cX11_gradeOf : ByteArray := prog_13_method_65_code
def yX11_gradeOf : MethodName := ⟨RX11, "gradeOf", "(II)I"⟩
abbrev cX11_rollOf : ByteArray := prog_13_method_66_code
def yX11_rollOf : MethodName := ⟨RX11, "rollOf", "(II)I"⟩
abbrev cX11_isAsked : ByteArray := prog_13_method_67_code
def yX11_isAsked : MethodName := ⟨RX11, "isAsked", "(III)Z"⟩
abbrev cX11_passed : ByteArray := prog_13_method_68_code
def yX11_passed : MethodName := ⟨RX11, "passed", "(III)I"⟩
abbrev cX11_grade : ByteArray := prog_13_method_69_code
def yX11_grade : MethodName := ⟨RX11, "grade", "(III)I"⟩
abbrev cX11_number : ByteArray := prog_13_method_70_code
def yX11_number : MethodName := ⟨RX11, "number", "(IIII)J"⟩
abbrev cX11_edge : ByteArray := prog_13_method_71_code
def yX11_edge : MethodName := ⟨RX11, "edge", "(III)I"⟩
abbrev cX11_roll : ByteArray := prog_13_method_72_code
def yX11_roll : MethodName := ⟨RX11, "roll", "(III)I"⟩
abbrev cX11_hangs : ByteArray := prog_13_method_73_code
def yX11_hangs : MethodName := ⟨RX11, "hangs", "(III)I"⟩
abbrev cX11_isText : ByteArray := prog_13_method_74_code
def yX11_isText : MethodName := ⟨RX11, "isText", "(I)Z"⟩
abbrev cX11_write : ByteArray := prog_13_method_75_code
def yX11_write : MethodName := ⟨RX11, "write", "(II)I"⟩
abbrev cX11_erase : ByteArray := prog_13_method_76_code
def yX11_erase : MethodName := ⟨RX11, "erase", "(I)I"⟩
abbrev cX11_fault : ByteArray := prog_13_method_77_code
def yX11_fault : MethodName := ⟨RX11, "fault", "(I)I"⟩
abbrev cX11_tells : ByteArray := prog_13_method_78_code
def yX11_tells : MethodName := ⟨RX11, "tells", "(IIIII)J"⟩
abbrev cX11_ordain : ByteArray := prog_13_method_79_code
def yX11_ordain : MethodName := ⟨RX11, "ordain", "(IIIZ)I"⟩
abbrev cX11_choose : ByteArray := prog_13_method_80_code
def yX11_choose : MethodName := ⟨RX11, "choose", "(II)I"⟩
abbrev cX11_binds : ByteArray := prog_13_method_81_code
def yX11_binds : MethodName := ⟨RX11, "binds", "(II)I"⟩
abbrev cX11_mayTake : ByteArray := prog_13_method_82_code
def yX11_mayTake : MethodName := ⟨RX11, "mayTake", "(II)I"⟩
abbrev cX11_findMay : ByteArray := prog_13_method_83_code
def yX11_findMay : MethodName := ⟨RX11, "findMay", "(II)V"⟩
abbrev cX11_spread : ByteArray := prog_13_method_84_code
def yX11_spread : MethodName := ⟨RX11, "spread", "(I)I"⟩
abbrev cX11_next : ByteArray := prog_13_method_85_code
def yX11_next : MethodName := ⟨RX11, "next", "(I)I"⟩
abbrev cX11_along : ByteArray := prog_13_method_86_code
def yX11_along : MethodName := ⟨RX11, "along", "(I)I"⟩
abbrev cX11_findLeft : ByteArray := prog_13_method_87_code
def yX11_findLeft : MethodName := ⟨RX11, "findLeft", "(I)V"⟩
abbrev cX11_isWay : ByteArray := prog_13_method_88_code
def yX11_isWay : MethodName := ⟨RX11, "isWay", "(IIIIII)Z"⟩
abbrev cX11_findWay : ByteArray := prog_13_method_89_code
def yX11_findWay : MethodName := ⟨RX11, "findWay", "(IIIIII)I"⟩
abbrev cX11_way : ByteArray := prog_13_method_90_code
def yX11_way : MethodName := ⟨RX11, "way", "(IIIIII)I"⟩
abbrev cX11_takes : ByteArray := prog_13_method_91_code
def yX11_takes : MethodName := ⟨RX11, "takes", "(III)I"⟩
abbrev cX11_wayAt : ByteArray := prog_13_method_92_code
def yX11_wayAt : MethodName := ⟨RX11, "wayAt", "(IIIIIII)I"⟩
abbrev cX11_sits : ByteArray := prog_13_method_93_code
def yX11_sits : MethodName := ⟨RX11, "sits", "(IIZ)I"⟩
abbrev cX11_sitting : ByteArray := prog_13_method_94_code
def yX11_sitting : MethodName := ⟨RX11, "sitting", "(I)I"⟩
abbrev cX11_areApart : ByteArray := prog_13_method_95_code
def yX11_areApart : MethodName := ⟨RX11, "areApart", "(II)Z"⟩
abbrev cX11_isGood : ByteArray := prog_13_method_96_code
def yX11_isGood : MethodName := ⟨RX11, "isGood", "(I)Z"⟩
abbrev cX11_nextHours : ByteArray := prog_13_method_97_code
def yX11_nextHours : MethodName := ⟨RX11, "nextHours", "(I)Z"⟩
abbrev cX11_findHours : ByteArray := prog_13_method_98_code
def yX11_findHours : MethodName := ⟨RX11, "findHours", "(II)I"⟩
abbrev cX11_whyHours : ByteArray := prog_13_method_99_code
def yX11_whyHours : MethodName := ⟨RX11, "whyHours", "(IIZ)I"⟩
abbrev cX11_hours : ByteArray := prog_13_method_100_code
def yX11_hours : MethodName := ⟨RX11, "hours", "(II)I"⟩
abbrev cX11_hourOf : ByteArray := prog_13_method_101_code
def yX11_hourOf : MethodName := ⟨RX11, "hourOf", "(III)I"⟩
abbrev cX11_findHabit : ByteArray := prog_13_method_102_code
def yX11_findHabit : MethodName := ⟨RX11, "findHabit", "(I)V"⟩
abbrev cX11_findTail : ByteArray := prog_13_method_103_code
def yX11_findTail : MethodName := ⟨RX11, "findTail", "(II)V"⟩
abbrev cX11_isRare : ByteArray := prog_13_method_104_code
def yX11_isRare : MethodName := ⟨RX11, "isRare", "(II)Z"⟩
abbrev cX11_isHard : ByteArray := prog_13_method_105_code
def yX11_isHard : MethodName := ⟨RX11, "isHard", "(I)I"⟩
abbrev cX11_habit : ByteArray := prog_13_method_106_code
def yX11_habit : MethodName := ⟨RX11, "habit", "(III)I"⟩
abbrev cX11_odds : ByteArray := prog_13_method_107_code
def yX11_odds : MethodName := ⟨RX11, "odds", "(I)I"⟩
abbrev cX11_line : ByteArray := prog_13_method_108_code
def yX11_line : MethodName := ⟨RX11, "line", "(II)I"⟩
abbrev cX11_clear : ByteArray := prog_13_method_109_code
def yX11_clear : MethodName := ⟨RX11, "clear", "()I"⟩
abbrev cX11_sumOf : ByteArray := prog_13_method_110_code
def yX11_sumOf : MethodName := ⟨RX11, "sumOf", "(I)I"⟩
abbrev cX11_doubt : ByteArray := prog_13_method_111_code
def yX11_doubt : MethodName := ⟨RX11, "doubt", "(II)I"⟩
abbrev cX11_image : ByteArray := prog_13_method_112_code
def yX11_image : MethodName := ⟨RX11, "image", "(I)I"⟩
abbrev cX11_from : ByteArray := prog_13_method_113_code
def yX11_from : MethodName := ⟨RX11, "from", "(I)I"⟩
abbrev cX11_countOf : ByteArray := prog_13_method_114_code
def yX11_countOf : MethodName := ⟨RX11, "countOf", "(I)I"⟩
abbrev cX11_count : ByteArray := prog_13_method_115_code
def yX11_count : MethodName := ⟨RX11, "count", "(I)I"⟩
abbrev cX11_mixed : ByteArray := prog_13_method_116_code
def yX11_mixed : MethodName := ⟨RX11, "mixed", "(JII)J"⟩
abbrev cX11_digest : ByteArray := prog_13_method_117_code
def yX11_digest : MethodName := ⟨RX11, "digest", "()J"⟩
def RJx145de : String := "java/io/Serializable"
def TJx145de : u_T := fun k => match k with
  | _ => ("", "", "", false)
def tyJx145de : Nat → FieldType := fun k => match k with
  | _ => .int
abbrev wsJx145de0 : List Cond := u_ws RJx145de TJx145de 0
theorem nmJx145de : ∀ a, a < 0 → ∀ b, b < 0 → a ≠ b → (TJx145de a).2.1 ≠ (TJx145de b).2.1 := by decide +kernel
theorem tyJx145de_ok : ∀ k, k < 0 → parseFieldDescriptor (TJx145de k).2.2.1 = some (tyJx145de k) := by decide +kernel
def RJx9f9b0 : String := "java/lang/CharSequence"
def TJx9f9b0 : u_T := fun k => match k with
  | _ => ("", "", "", false)
def tyJx9f9b0 : Nat → FieldType := fun k => match k with
  | _ => .int
abbrev wsJx9f9b00 : List Cond := u_ws RJx9f9b0 TJx9f9b0 0
theorem nmJx9f9b0 : ∀ a, a < 0 → ∀ b, b < 0 → a ≠ b → (TJx9f9b0 a).2.1 ≠ (TJx9f9b0 b).2.1 := by decide +kernel
theorem tyJx9f9b0_ok : ∀ k, k < 0 → parseFieldDescriptor (TJx9f9b0 k).2.2.1 = some (tyJx9f9b0 k) := by decide +kernel
def RJ11 : String := "java/lang/Character"
def TJ11 : u_T := fun k => match k with
  | _ => ("", "", "", false)
def tyJ11 : Nat → FieldType := fun k => match k with
  | _ => .int
abbrev wsJ110 : List Cond := u_ws RJ11 TJ11 0
theorem nmJ11 : ∀ a, a < 0 → ∀ b, b < 0 → a ≠ b → (TJ11 a).2.1 ≠ (TJ11 b).2.1 := by decide +kernel
theorem tyJ11_ok : ∀ k, k < 0 → parseFieldDescriptor (TJ11 k).2.2.1 = some (tyJ11 k) := by decide +kernel
abbrev cJ11_isValidCodePoint_9a6ad : ByteArray := prog_14_method_11_code
def yJ11_isValidCodePoint_9a6ad : MethodName := ⟨RJ11, "isValidCodePoint", "(I)Z"⟩
abbrev cJ11_highSurrogate_5068e : ByteArray := prog_14_method_28_code
def yJ11_highSurrogate_5068e : MethodName := ⟨RJ11, "highSurrogate", "(I)C"⟩
abbrev cJ11_lowSurrogate_5068e : ByteArray := prog_14_method_29_code
def yJ11_lowSurrogate_5068e : MethodName := ⟨RJ11, "lowSurrogate", "(I)C"⟩
def RJxb160c : String := "java/lang/Comparable"
def TJxb160c : u_T := fun k => match k with
  | _ => ("", "", "", false)
def tyJxb160c : Nat → FieldType := fun k => match k with
  | _ => .int
abbrev wsJxb160c0 : List Cond := u_ws RJxb160c TJxb160c 0
theorem nmJxb160c : ∀ a, a < 0 → ∀ b, b < 0 → a ≠ b → (TJxb160c a).2.1 ≠ (TJxb160c b).2.1 := by decide +kernel
theorem tyJxb160c_ok : ∀ k, k < 0 → parseFieldDescriptor (TJxb160c k).2.2.1 = some (tyJxb160c k) := by decide +kernel
def RJ6 : String := "java/lang/Integer"
def TJ6 : u_T := fun k => match k with
  | _ => ("", "", "", false)
def tyJ6 : Nat → FieldType := fun k => match k with
  | _ => .int
abbrev wsJ60 : List Cond := u_ws RJ6 TJ6 0
theorem nmJ6 : ∀ a, a < 0 → ∀ b, b < 0 → a ≠ b → (TJ6 a).2.1 ≠ (TJ6 b).2.1 := by decide +kernel
theorem tyJ6_ok : ∀ k, k < 0 → parseFieldDescriptor (TJ6 k).2.2.1 = some (tyJ6 k) := by decide +kernel
abbrev cJ6_numberOfTrailingZeros_0f7a4 : ByteArray := prog_15_method_48_code
def yJ6_numberOfTrailingZeros_0f7a4 : MethodName := ⟨RJ6, "numberOfTrailingZeros", "(I)I"⟩
abbrev cJ6_bitCount_0f7a4 : ByteArray := prog_15_method_49_code
def yJ6_bitCount_0f7a4 : MethodName := ⟨RJ6, "bitCount", "(I)I"⟩
def RJ9 : String := "java/lang/Math"
def TJ9 : u_T := fun k => match k with
  | _ => ("", "", "", false)
def tyJ9 : Nat → FieldType := fun k => match k with
  | _ => .int
abbrev wsJ90 : List Cond := u_ws RJ9 TJ9 0
theorem nmJ9 : ∀ a, a < 0 → ∀ b, b < 0 → a ≠ b → (TJ9 a).2.1 ≠ (TJ9 b).2.1 := by decide +kernel
theorem tyJ9_ok : ∀ k, k < 0 → parseFieldDescriptor (TJ9 k).2.2.1 = some (tyJ9 k) := by decide +kernel
abbrev cJ9_abs_0f7a4 : ByteArray := prog_16_method_59_code
def yJ9_abs_0f7a4 : MethodName := ⟨RJ9, "abs", "(I)I"⟩
abbrev cJ9_max_7cf53 : ByteArray := prog_16_method_65_code
def yJ9_max_7cf53 : MethodName := ⟨RJ9, "max", "(II)I"⟩
abbrev cJ9_max_f86c9 : ByteArray := prog_16_method_66_code
def yJ9_max_f86c9 : MethodName := ⟨RJ9, "max", "(JJ)J"⟩
abbrev cJ9_min_7cf53 : ByteArray := prog_16_method_69_code
def yJ9_min_7cf53 : MethodName := ⟨RJ9, "min", "(II)I"⟩
abbrev cJ9_min_f86c9 : ByteArray := prog_16_method_70_code
def yJ9_min_f86c9 : MethodName := ⟨RJ9, "min", "(JJ)J"⟩
def RJ0 : String := "java/lang/String"
def TJ0 : u_T := fun k => match k with
  | _ => ("", "", "", false)
def tyJ0 : Nat → FieldType := fun k => match k with
  | _ => .int
abbrev wsJ00 : List Cond := u_ws RJ0 TJ0 0
theorem nmJ0 : ∀ a, a < 0 → ∀ b, b < 0 → a ≠ b → (TJ0 a).2.1 ≠ (TJ0 b).2.1 := by decide +kernel
theorem tyJ0_ok : ∀ k, k < 0 → parseFieldDescriptor (TJ0 k).2.2.1 = some (tyJ0 k) := by decide +kernel
abbrev cJ0_length_8abf5 : ByteArray := prog_17_method_54_code
def yJ0_length_8abf5 : MethodName := ⟨RJ0, "length", "()I"⟩
abbrev cJ0_charAt_5068e : ByteArray := prog_17_method_56_code
def yJ0_charAt_5068e : MethodName := ⟨RJ0, "charAt", "(I)C"⟩
abbrev cJ0_indexOf_0f7a4 : ByteArray := prog_17_method_79_code
def yJ0_indexOf_0f7a4 : MethodName := ⟨RJ0, "indexOf", "(I)I"⟩
abbrev cJ0_indexOf_7cf53 : ByteArray := prog_17_method_80_code
def yJ0_indexOf_7cf53 : MethodName := ⟨RJ0, "indexOf", "(II)I"⟩
abbrev cJ0_coder_7d493 : ByteArray := prog_17_method_152_code
def yJ0_coder_7d493 : MethodName := ⟨RJ0, "coder", "()B"⟩
abbrev cJ0_isLatin1_aae02 : ByteArray := prog_17_method_154_code
def yJ0_isLatin1_aae02 : MethodName := ⟨RJ0, "isLatin1", "()Z"⟩
abbrev cJ0_checkIndex_df160 : ByteArray := prog_17_method_155_code
def yJ0_checkIndex_df160 : MethodName := ⟨RJ0, "checkIndex", "(II)V"⟩
abbrev cJ0_checkBoundsBeginEnd_23922 : ByteArray := prog_17_method_158_code
def yJ0_checkBoundsBeginEnd_23922 : MethodName := ⟨RJ0, "checkBoundsBeginEnd", "(III)V"⟩
def RJ1 : String := "java/lang/StringLatin1"
def TJ1 : u_T := fun k => match k with
  | _ => ("", "", "", false)
def tyJ1 : Nat → FieldType := fun k => match k with
  | _ => .int
abbrev wsJ10 : List Cond := u_ws RJ1 TJ1 0
theorem nmJ1 : ∀ a, a < 0 → ∀ b, b < 0 → a ≠ b → (TJ1 a).2.1 ≠ (TJ1 b).2.1 := by decide +kernel
theorem tyJ1_ok : ∀ k, k < 0 → parseFieldDescriptor (TJ1 k).2.2.1 = some (tyJ1 k) := by decide +kernel
abbrev cJ1_charAt_3b067 : ByteArray := prog_18_method_2_code
def yJ1_charAt_3b067 : MethodName := ⟨RJ1, "charAt", "([BI)C"⟩
abbrev cJ1_canEncode_9a6ad : ByteArray := prog_18_method_4_code
def yJ1_canEncode_9a6ad : MethodName := ⟨RJ1, "canEncode", "(I)Z"⟩
abbrev cJ1_indexOf_4cfef : ByteArray := prog_18_method_22_code
def yJ1_indexOf_4cfef : MethodName := ⟨RJ1, "indexOf", "([BIII)I"⟩
abbrev cJ1_indexOfChar_4cfef : ByteArray := prog_18_method_23_code
def yJ1_indexOfChar_4cfef : MethodName := ⟨RJ1, "indexOfChar", "([BIII)I"⟩
def RJ2 : String := "java/lang/StringUTF16"
def TJ2 : u_T := fun k => match k with
  | _ => ("", "", "", false)
def tyJ2 : Nat → FieldType := fun k => match k with
  | _ => .int
abbrev wsJ20 : List Cond := u_ws RJ2 TJ2 0
theorem nmJ2 : ∀ a, a < 0 → ∀ b, b < 0 → a ≠ b → (TJ2 a).2.1 ≠ (TJ2 b).2.1 := by decide +kernel
theorem tyJ2_ok : ∀ k, k < 0 → parseFieldDescriptor (TJ2 k).2.2.1 = some (tyJ2 k) := by decide +kernel
abbrev cJ2_getChar_3b067 : ByteArray := prog_19_method_5_code
def yJ2_getChar_3b067 : MethodName := ⟨RJ2, "getChar", "([BI)C"⟩
abbrev cJ2_length_9d52b : ByteArray := prog_19_method_6_code
def yJ2_length_9d52b : MethodName := ⟨RJ2, "length", "([B)I"⟩
abbrev cJ2_indexOf_4cfef : ByteArray := prog_19_method_40_code
def yJ2_indexOf_4cfef : MethodName := ⟨RJ2, "indexOf", "([BIII)I"⟩
abbrev cJ2_indexOfChar_4cfef : ByteArray := prog_19_method_47_code
def yJ2_indexOfChar_4cfef : MethodName := ⟨RJ2, "indexOfChar", "([BIII)I"⟩
abbrev cJ2_indexOfCharUnsafe_4cfef : ByteArray := prog_19_method_48_code
def yJ2_indexOfCharUnsafe_4cfef : MethodName := ⟨RJ2, "indexOfCharUnsafe", "([BIII)I"⟩
abbrev cJ2_indexOfSupplementary_4cfef : ByteArray := prog_19_method_49_code
def yJ2_indexOfSupplementary_4cfef : MethodName := ⟨RJ2, "indexOfSupplementary", "([BIII)I"⟩
abbrev cJ2_charAt_3b067 : ByteArray := prog_19_method_83_code
def yJ2_charAt_3b067 : MethodName := ⟨RJ2, "charAt", "([BI)C"⟩
abbrev cJ2_checkIndex_2214a : ByteArray := prog_19_method_91_code
def yJ2_checkIndex_2214a : MethodName := ⟨RJ2, "checkIndex", "(I[B)V"⟩
abbrev cJ2_checkBoundsBeginEnd_d044e : ByteArray := prog_19_method_93_code
def yJ2_checkBoundsBeginEnd_d044e : MethodName := ⟨RJ2, "checkBoundsBeginEnd", "(II[B)V"⟩
def RJ10 : String := "java/lang/System"
def TJ10 : u_T := fun k => match k with
  | _ => ("", "", "", false)
def tyJ10 : Nat → FieldType := fun k => match k with
  | _ => .int
abbrev wsJ100 : List Cond := u_ws RJ10 TJ10 0
theorem nmJ10 : ∀ a, a < 0 → ∀ b, b < 0 → a ≠ b → (TJ10 a).2.1 ≠ (TJ10 b).2.1 := by decide +kernel
theorem tyJ10_ok : ∀ k, k < 0 → parseFieldDescriptor (TJ10 k).2.2.1 = some (tyJ10 k) := by decide +kernel
def RJxfd54e : String := "java/lang/constant/Constable"
def TJxfd54e : u_T := fun k => match k with
  | _ => ("", "", "", false)
def tyJxfd54e : Nat → FieldType := fun k => match k with
  | _ => .int
abbrev wsJxfd54e0 : List Cond := u_ws RJxfd54e TJxfd54e 0
theorem nmJxfd54e : ∀ a, a < 0 → ∀ b, b < 0 → a ≠ b → (TJxfd54e a).2.1 ≠ (TJxfd54e b).2.1 := by decide +kernel
theorem tyJxfd54e_ok : ∀ k, k < 0 → parseFieldDescriptor (TJxfd54e k).2.2.1 = some (tyJxfd54e k) := by decide +kernel
def RJx3cf43 : String := "java/lang/constant/ConstantDesc"
def TJx3cf43 : u_T := fun k => match k with
  | _ => ("", "", "", false)
def tyJx3cf43 : Nat → FieldType := fun k => match k with
  | _ => .int
abbrev wsJx3cf430 : List Cond := u_ws RJx3cf43 TJx3cf43 0
theorem nmJx3cf43 : ∀ a, a < 0 → ∀ b, b < 0 → a ≠ b → (TJx3cf43 a).2.1 ≠ (TJx3cf43 b).2.1 := by decide +kernel
theorem tyJx3cf43_ok : ∀ k, k < 0 → parseFieldDescriptor (TJx3cf43 k).2.2.1 = some (tyJx3cf43 k) := by decide +kernel
def RJ7 : String := "java/util/Arrays"
def TJ7 : u_T := fun k => match k with
  | _ => ("", "", "", false)
def tyJ7 : Nat → FieldType := fun k => match k with
  | _ => .int
abbrev wsJ70 : List Cond := u_ws RJ7 TJ7 0
theorem nmJ7 : ∀ a, a < 0 → ∀ b, b < 0 → a ≠ b → (TJ7 a).2.1 ≠ (TJ7 b).2.1 := by decide +kernel
theorem tyJ7_ok : ∀ k, k < 0 → parseFieldDescriptor (TJ7 k).2.2.1 = some (tyJ7 k) := by decide +kernel
abbrev cJ7_fill_d0a16 : ByteArray := prog_21_method_101_code
def yJ7_fill_d0a16 : MethodName := ⟨RJ7, "fill", "([JJ)V"⟩
def RJ3 : String := "jdk/internal/util/Preconditions"
def TJ3 : u_T := fun k => match k with
  | _ => ("", "", "", false)
def tyJ3 : Nat → FieldType := fun k => match k with
  | _ => .int
abbrev wsJ30 : List Cond := u_ws RJ3 TJ3 0
theorem nmJ3 : ∀ a, a < 0 → ∀ b, b < 0 → a ≠ b → (TJ3 a).2.1 ≠ (TJ3 b).2.1 := by decide +kernel
theorem tyJ3_ok : ∀ k, k < 0 → parseFieldDescriptor (TJ3 k).2.2.1 = some (tyJ3 k) := by decide +kernel
abbrev cJ3_checkIndex_8e157 : ByteArray := prog_22_method_11_code
def yJ3_checkIndex_8e157 : MethodName := ⟨RJ3, "checkIndex", "(IILjava/util/function/BiFunction;)I"⟩
abbrev cJ3_checkFromToIndex_8c36e : ByteArray := prog_22_method_12_code
def yJ3_checkFromToIndex_8c36e : MethodName := ⟨RJ3, "checkFromToIndex", "(IIILjava/util/function/BiFunction;)I"⟩
def RL : String := "SenateRollLaw"
abbrev cL_law : ByteArray := code
def yL_law : MethodName := ⟨RL, "law", "([I)Z"⟩
